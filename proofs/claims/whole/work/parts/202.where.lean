/-! where one is: both worlds alike -/
theorem Gok.inc {F : Nat} {g : Gw} (h : Gok F g) : ∀ (d i : Nat), i + d < g 2 → 0 < d → g (3 + i) < g (3 + (i + d)) := by
  intro d
  induction d with
  | zero => intro i h1 h2; omega
  | succ d ih =>
    intro i h1 _
    have h5 := h.2.2.2.2.2 (i + d) (by omega)
    by_cases hd : d = 0
    · subst hd; exact h5
    · have := ih i (by omega) (by omega)
      show g (3 + i) < g (3 + (i + d + 1))
      omega
theorem Gok.lt {F : Nat} {g : Gw} (h : Gok F g) {i j : Nat} (hij : i < j) (hj : j < g 2) : g (3 + i) < g (3 + j) := by
  have := h.inc (j - i) i (by omega) (by omega)
  rw [show i + (j - i) = j by omega] at this
  exact this
theorem Gok.le {F : Nat} {g : Gw} (h : Gok F g) {i j : Nat} (hij : i ≤ j) (hj : j < g 2) : g (3 + i) ≤ g (3 + j) := by
  by_cases e : i = j
  · subst e; exact Nat.le_refl _
  · exact Nat.le_of_lt (h.lt (by omega) hj)
/-- between two points -/
def mid (g : Gw) (b m : Nat) : Int32 := nI (1000 * g (11 + b)) + ((nI 1000 * (nI (g (11 + (b + 1))) - nI (g (11 + b)))) * nI (m - g (3 + b))) / nI (g (3 + (b + 1)) - g (3 + b))
theorem byP1 {F : Nat} {μ : Mem} {j : Nat} {g : Gw} (hC : WC μ j g) (hG : Gok F g) {m : Nat} (hm : m ≤ 600) : ∀ (n b : Nat), b ≤ g 2 → g 2 - b < n → (∀ i, i < b → g (3 + i) ≤ m) →
    ∃ b', b' ≤ g 2 ∧ (∀ i, i < b' → g (3 + i) ≤ m) ∧ (b' < g 2 → m < g (3 + b')) ∧ f4_byPoints_1 μ n j (nI m) (nI b) = f4_byPoints_2 μ j (nI m) (nI b') := by
  obtain ⟨c0, c1, c2, c3, c4⟩ := hC
  have g2 := hG.2.2.1
  intro n
  induction n with
  | zero => intro b _ h; omega
  | succ n ih =>
    intro b hb hn hlt
    by_cases hb2 : b = g 2
    · refine ⟨b, hb, hlt, fun h => by omega, ?_⟩
      rw [f4_byPoints_1, c2, if_pos (by rw [nI_leI (by omega) (by omega)]; omega)]
    · have hb3 : b < g 2 := by omega
      have hg3 := hG.2.2.2.1 b hb3
      have e : f4_byPoints_1 μ (n + 1) j (nI m) (nI b) = if m < g (3 + b) then f4_byPoints_2 μ j (nI m) (nI b) else f4_byPoints_1 μ n j (nI m) (nI (b + 1)) := by
        rw [f4_byPoints_1]
        simp (disch := omega) only [c2, c3 b hb3, Nat.add_sub_cancel, nm_s, bd1_s, bd2_s, bd3_s, gd_n, gd_ne, nI_clamp, nI_leI, nI_ltI, nI_eq, nI_add, pk_mul, pk_sub, up_r, upL_r, jrem_n, jmax_n, if_true, if_false, if_pos, if_neg, gd_i, Nat.zero_add, Nat.add_zero, Nat.mul_zero, nI_nn, nI_nn2, mI_le, mI_ne, mI_ne2, mI_ne3, mI_ne4, ne0, kl_0, kl_1, kl_2, kl_3, kl_4, kl_5, kl_6, kl_7, kl_8, kl_9, kl_10, kl_11, kl_12, kl_13, kl_14, kl_15, kl_16, kl_17, kl_18, kl_19, kl_20, kl_21, kl_22, kl_23, kl_32, kl_40, kl_48, kl_50, kl_53, kl_56, kl_57, kl_60, kl_61, kl_66, kl_97, kl_99, kl_100, kl_120, kl_122, kl_160, kl_200, kl_255, kl_300, kl_500, kl_600, kl_601, kl_999, kl_1000, kl_2048, kl_9999]
      rw [e]
      by_cases hmb : m < g (3 + b)
      · refine ⟨b, hb, hlt, fun _ => hmb, ?_⟩
        rw [if_pos hmb]
      · rw [if_neg hmb]
        exact ih (b + 1) (by omega) (by omega) (fun i hi => by
          by_cases hib : i = b
          · subst hib; omega
          · exact hlt i (by omega))
theorem told1 {F : Nat} {μM : Mem} {ν : Lem} {w : Nat} {g : Gw} (hw : w ≤ 6) (hM : WM μM w g) (hG : Gok F g) {m b : Nat} (hm : m ≤ 600) (hb : b + 1 < g 2) (h1 : ∀ i, i ≤ b → g (3 + i) ≤ m) (h2 : m < g (3 + (b + 1))) : ∀ (n k : Nat), k ≤ b → b - k < n →
    f6_toldAt_1 μM ν n (nI m) (nI (8 * w + k)) = some (mid g b m) := by
  obtain ⟨m0, m1, m2, m3, m4⟩ := hM
  have g2 := hG.2.2.1
  intro n
  induction n with
  | zero => intro k _ h; omega
  | succ n ih =>
    intro k hk hn
    have a1 := m3 (k + 1) (by omega)
    have a0 := m3 k (by omega)
    have p1 := m4 (k + 1) (by omega)
    have p0 := m4 k (by omega)
    have q1 := hG.2.2.2.1 (k + 1) (by omega)
    have q0 := hG.2.2.2.1 k (by omega)
    have hq := hG.lt (i := k) (j := k + 1) (by omega) (by omega)
    have hk0 := h1 k hk
    rw [f6_toldAt_1]
    rw [show 8 * w + (k + 1) = 8 * w + k + 1 by omega] at a1 p1
    by_cases hkb : k = b
    · subst hkb
      simp (disch := omega) only [a1, a0, p1, p0, mid, Nat.add_sub_cancel, nm_s, bd1_s, bd2_s, bd3_s, gd_n, gd_ne, nI_clamp, nI_leI, nI_ltI, nI_eq, nI_add, pk_mul, pk_sub, up_r, upL_r, jrem_n, jmax_n, if_true, if_false, if_pos, if_neg, gd_i, Nat.zero_add, Nat.add_zero, Nat.mul_zero, nI_nn, nI_nn2, mI_le, mI_ne, mI_ne2, mI_ne3, mI_ne4, ne0, kl_0, kl_1, kl_2, kl_3, kl_4, kl_5, kl_6, kl_7, kl_8, kl_9, kl_10, kl_11, kl_12, kl_13, kl_14, kl_15, kl_16, kl_17, kl_18, kl_19, kl_20, kl_21, kl_22, kl_23, kl_32, kl_40, kl_48, kl_50, kl_53, kl_56, kl_57, kl_60, kl_61, kl_66, kl_97, kl_99, kl_100, kl_120, kl_122, kl_160, kl_200, kl_255, kl_300, kl_500, kl_600, kl_601, kl_999, kl_1000, kl_2048, kl_9999]
    · have := hG.le (i := k + 1) (j := b) (by omega) (by omega)
      have := h1 b (Nat.le_refl b)
      simp (disch := omega) only [a1, Nat.add_sub_cancel, nm_s, bd1_s, bd2_s, bd3_s, gd_n, gd_ne, nI_clamp, nI_leI, nI_ltI, nI_eq, nI_add, pk_mul, pk_sub, up_r, upL_r, jrem_n, jmax_n, if_true, if_false, if_pos, if_neg, gd_i, Nat.zero_add, Nat.add_zero, Nat.mul_zero, nI_nn, nI_nn2, mI_le, mI_ne, mI_ne2, mI_ne3, mI_ne4, ne0, kl_0, kl_1, kl_2, kl_3, kl_4, kl_5, kl_6, kl_7, kl_8, kl_9, kl_10, kl_11, kl_12, kl_13, kl_14, kl_15, kl_16, kl_17, kl_18, kl_19, kl_20, kl_21, kl_22, kl_23, kl_32, kl_40, kl_48, kl_50, kl_53, kl_56, kl_57, kl_60, kl_61, kl_66, kl_97, kl_99, kl_100, kl_120, kl_122, kl_160, kl_200, kl_255, kl_300, kl_500, kl_600, kl_601, kl_999, kl_1000, kl_2048, kl_9999]
      exact ih (k + 1) (by omega) (by omega)
theorem told_eq {F : Nat} {μ : Mem} {j : Nat} {g : Gw} {μM : Mem} {ν : Lem} {w m : Nat} (hC : WC μ j g) (hM : WM μM w g) (hG : Gok F g) (hw : w ≤ 6) (hm : m ≤ 600) : ∃ v : Int32, f4_byPoints μ j (nI m) = some v ∧ f6_toldAt μM ν (nI w) (nI m) = some v := by
  have hM0 := hM
  have hC0 := hC
  obtain ⟨c0, c1, c2, c3, c4⟩ := hC
  obtain ⟨m0, m1, m2, m3, m4⟩ := hM
  have g2 := hG.2.2.1
  by_cases hz : g 2 = 0
  · refine ⟨nI 0, ?_, ?_⟩
    · unfold f4_byPoints
      simp (disch := omega) only [c2, hz, Nat.add_sub_cancel, nm_s, bd1_s, bd2_s, bd3_s, gd_n, gd_ne, nI_clamp, nI_leI, nI_ltI, nI_eq, nI_add, pk_mul, pk_sub, up_r, upL_r, jrem_n, jmax_n, if_true, if_false, if_pos, if_neg, gd_i, Nat.zero_add, Nat.add_zero, Nat.mul_zero, nI_nn, nI_nn2, mI_le, mI_ne, mI_ne2, mI_ne3, mI_ne4, ne0, kl_0, kl_1, kl_2, kl_3, kl_4, kl_5, kl_6, kl_7, kl_8, kl_9, kl_10, kl_11, kl_12, kl_13, kl_14, kl_15, kl_16, kl_17, kl_18, kl_19, kl_20, kl_21, kl_22, kl_23, kl_32, kl_40, kl_48, kl_50, kl_53, kl_56, kl_57, kl_60, kl_61, kl_66, kl_97, kl_99, kl_100, kl_120, kl_122, kl_160, kl_200, kl_255, kl_300, kl_500, kl_600, kl_601, kl_999, kl_1000, kl_2048, kl_9999]
    · unfold f6_toldAt
      simp (disch := omega) only [m2, hz, Nat.add_sub_cancel, nm_s, bd1_s, bd2_s, bd3_s, gd_n, gd_ne, nI_clamp, nI_leI, nI_ltI, nI_eq, nI_add, pk_mul, pk_sub, up_r, upL_r, jrem_n, jmax_n, if_true, if_false, if_pos, if_neg, gd_i, Nat.zero_add, Nat.add_zero, Nat.mul_zero, nI_nn, nI_nn2, mI_le, mI_ne, mI_ne2, mI_ne3, mI_ne4, ne0, kl_0, kl_1, kl_2, kl_3, kl_4, kl_5, kl_6, kl_7, kl_8, kl_9, kl_10, kl_11, kl_12, kl_13, kl_14, kl_15, kl_16, kl_17, kl_18, kl_19, kl_20, kl_21, kl_22, kl_23, kl_32, kl_40, kl_48, kl_50, kl_53, kl_56, kl_57, kl_60, kl_61, kl_66, kl_97, kl_99, kl_100, kl_120, kl_122, kl_160, kl_200, kl_255, kl_300, kl_500, kl_600, kl_601, kl_999, kl_1000, kl_2048, kl_9999]
  · obtain ⟨b, hb, h1, h2, e⟩ := byP1 hC0 hG hm FUEL 0 (by omega) (by rw [FUEL_eq]; omega) (fun i hi => by omega)
    have f0 : μM 6 (8 * w) = nI (g 3) := m3 0 (by omega)
    have l0 := m3 (g 2 - 1) (by omega)
    have pf0 : μM 7 (8 * w) = nI (g 11) := m4 0 (by omega)
    have pl0 := m4 (g 2 - 1) (by omega)
    have b0 : g 3 ≤ 600 := hG.2.2.2.1 0 (by omega)
    have bl := hG.2.2.2.1 (g 2 - 1) (by omega)
    have cf0 : μ (16 + 3 * j) 0 = nI (g 11) := c4 0 (by omega)
    have cl0 := c4 (g 2 - 1) (by omega)
    have hle : g 3 ≤ g (3 + (g 2 - 1)) := hG.le (i := 0) (j := g 2 - 1) (by omega) (by omega)
    have hs : 8 * w + g 2 - 1 = 8 * w + (g 2 - 1) := by omega
    have ec : f4_byPoints μ j (nI m) = f4_byPoints_2 μ j (nI m) (nI b) := by
      unfold f4_byPoints
      simp (disch := omega) only [c2, Nat.add_sub_cancel, nm_s, bd1_s, bd2_s, bd3_s, gd_n, gd_ne, nI_clamp, nI_leI, nI_ltI, nI_eq, nI_add, pk_mul, pk_sub, up_r, upL_r, jrem_n, jmax_n, if_true, if_false, if_pos, if_neg, gd_i, Nat.zero_add, Nat.add_zero, Nat.mul_zero, nI_nn, nI_nn2, mI_le, mI_ne, mI_ne2, mI_ne3, mI_ne4, ne0, kl_0, kl_1, kl_2, kl_3, kl_4, kl_5, kl_6, kl_7, kl_8, kl_9, kl_10, kl_11, kl_12, kl_13, kl_14, kl_15, kl_16, kl_17, kl_18, kl_19, kl_20, kl_21, kl_22, kl_23, kl_32, kl_40, kl_48, kl_50, kl_53, kl_56, kl_57, kl_60, kl_61, kl_66, kl_97, kl_99, kl_100, kl_120, kl_122, kl_160, kl_200, kl_255, kl_300, kl_500, kl_600, kl_601, kl_999, kl_1000, kl_2048, kl_9999]
      exact e
    have em : f6_toldAt μM ν (nI w) (nI m) = if g 3 < m then (if m < g (3 + (g 2 - 1)) then f6_toldAt_1 μM ν FUEL (nI m) (nI (8 * w)) else some (nI (1000 * g (11 + (g 2 - 1))))) else some (nI (1000 * g 11)) := by
      unfold f6_toldAt
      simp (disch := omega) only [m2, f0, pf0, hs, l0, pl0, Nat.add_sub_cancel, nm_s, bd1_s, bd2_s, bd3_s, gd_n, gd_ne, nI_clamp, nI_leI, nI_ltI, nI_eq, nI_add, pk_mul, pk_sub, up_r, upL_r, jrem_n, jmax_n, if_true, if_false, if_pos, if_neg, gd_i, Nat.zero_add, Nat.add_zero, Nat.mul_zero, nI_nn, nI_nn2, mI_le, mI_ne, mI_ne2, mI_ne3, mI_ne4, ne0, kl_0, kl_1, kl_2, kl_3, kl_4, kl_5, kl_6, kl_7, kl_8, kl_9, kl_10, kl_11, kl_12, kl_13, kl_14, kl_15, kl_16, kl_17, kl_18, kl_19, kl_20, kl_21, kl_22, kl_23, kl_32, kl_40, kl_48, kl_50, kl_53, kl_56, kl_57, kl_60, kl_61, kl_66, kl_97, kl_99, kl_100, kl_120, kl_122, kl_160, kl_200, kl_255, kl_300, kl_500, kl_600, kl_601, kl_999, kl_1000, kl_2048, kl_9999]
    rw [ec, em]
    by_cases hb0 : b = 0
    · subst hb0
      have h20 : m < g 3 := h2 (by omega)
      refine ⟨nI (1000 * g 11), ?_, ?_⟩
      · unfold f4_byPoints_2 f4_byPoints_3
        simp (disch := omega) only [c2, cf0, Nat.add_sub_cancel, nm_s, bd1_s, bd2_s, bd3_s, gd_n, gd_ne, nI_clamp, nI_leI, nI_ltI, nI_eq, nI_add, pk_mul, pk_sub, up_r, upL_r, jrem_n, jmax_n, if_true, if_false, if_pos, if_neg, gd_i, Nat.zero_add, Nat.add_zero, Nat.mul_zero, nI_nn, nI_nn2, mI_le, mI_ne, mI_ne2, mI_ne3, mI_ne4, ne0, kl_0, kl_1, kl_2, kl_3, kl_4, kl_5, kl_6, kl_7, kl_8, kl_9, kl_10, kl_11, kl_12, kl_13, kl_14, kl_15, kl_16, kl_17, kl_18, kl_19, kl_20, kl_21, kl_22, kl_23, kl_32, kl_40, kl_48, kl_50, kl_53, kl_56, kl_57, kl_60, kl_61, kl_66, kl_97, kl_99, kl_100, kl_120, kl_122, kl_160, kl_200, kl_255, kl_300, kl_500, kl_600, kl_601, kl_999, kl_1000, kl_2048, kl_9999]
      · rw [if_neg (by omega)]
    · by_cases hbz : b = g 2
      · have hl := h1 (g 2 - 1) (by omega)
        refine ⟨nI (1000 * g (11 + (g 2 - 1))), ?_, ?_⟩
        · unfold f4_byPoints_2 f4_byPoints_3
          simp (disch := omega) only [c2, cl0, Nat.add_sub_cancel, nm_s, bd1_s, bd2_s, bd3_s, gd_n, gd_ne, nI_clamp, nI_leI, nI_ltI, nI_eq, nI_add, pk_mul, pk_sub, up_r, upL_r, jrem_n, jmax_n, if_true, if_false, if_pos, if_neg, gd_i, Nat.zero_add, Nat.add_zero, Nat.mul_zero, nI_nn, nI_nn2, mI_le, mI_ne, mI_ne2, mI_ne3, mI_ne4, ne0, kl_0, kl_1, kl_2, kl_3, kl_4, kl_5, kl_6, kl_7, kl_8, kl_9, kl_10, kl_11, kl_12, kl_13, kl_14, kl_15, kl_16, kl_17, kl_18, kl_19, kl_20, kl_21, kl_22, kl_23, kl_32, kl_40, kl_48, kl_50, kl_53, kl_56, kl_57, kl_60, kl_61, kl_66, kl_97, kl_99, kl_100, kl_120, kl_122, kl_160, kl_200, kl_255, kl_300, kl_500, kl_600, kl_601, kl_999, kl_1000, kl_2048, kl_9999]
        · by_cases hf : g 3 < m
          · rw [if_pos hf, if_neg (by omega)]
          · rw [if_neg hf]
            have : g 2 = 1 := by
              rcases Nat.lt_or_ge 1 (g 2) with q | q
              · have : g 3 < g (3 + (g 2 - 1)) := hG.lt (i := 0) (j := g 2 - 1) (by omega) (by omega)
                omega
              · omega
            rw [this]
      · have hbl : b < g 2 := by omega
        have h2' := h2 hbl
        have hb1 := h1 (b - 1) (by omega)
        have hlt := hG.lt (i := b - 1) (j := b) (by omega) hbl
        have hlb := hG.le (i := b) (j := g 2 - 1) (by omega) (by omega)
        have x1 := c3 b hbl
        have x0 := c3 (b - 1) (by omega)
        have y1 := c4 b hbl
        have y0 := c4 (b - 1) (by omega)
        have z1 := hG.2.2.2.1 b hbl
        have hbb : 11 + (b - 1 + 1) = 11 + b := by omega
        have hbb3 : 3 + (b - 1 + 1) = 3 + b := by omega
        refine ⟨mid g (b - 1) m, ?_, ?_⟩
        · unfold f4_byPoints_2
          simp (disch := omega) only [c2, x1, x0, y1, y0, mid, hbb, hbb3, Nat.add_sub_cancel, nm_s, bd1_s, bd2_s, bd3_s, gd_n, gd_ne, nI_clamp, nI_leI, nI_ltI, nI_eq, nI_add, pk_mul, pk_sub, up_r, upL_r, jrem_n, jmax_n, if_true, if_false, if_pos, if_neg, gd_i, Nat.zero_add, Nat.add_zero, Nat.mul_zero, nI_nn, nI_nn2, mI_le, mI_ne, mI_ne2, mI_ne3, mI_ne4, ne0, kl_0, kl_1, kl_2, kl_3, kl_4, kl_5, kl_6, kl_7, kl_8, kl_9, kl_10, kl_11, kl_12, kl_13, kl_14, kl_15, kl_16, kl_17, kl_18, kl_19, kl_20, kl_21, kl_22, kl_23, kl_32, kl_40, kl_48, kl_50, kl_53, kl_56, kl_57, kl_60, kl_61, kl_66, kl_97, kl_99, kl_100, kl_120, kl_122, kl_160, kl_200, kl_255, kl_300, kl_500, kl_600, kl_601, kl_999, kl_1000, kl_2048, kl_9999]
        · by_cases hf : g 3 < m
          · rw [if_pos hf, if_pos (by omega)]
            have := told1 (ν := ν) hw hM0 hG hm (b := b - 1) (by omega) (fun i hi => h1 i (by omega)) (by rw [hbb3]; exact h2') FUEL 0 (by omega) (by rw [FUEL_eq]; omega)
            rw [Nat.add_zero] at this
            exact this
          · rw [if_neg hf]
            have hb1' : b = 1 := by
              rcases Nat.lt_or_ge 1 b with q | q
              · have : g 3 < g (3 + (b - 1)) := hG.lt (i := 0) (j := b - 1) (by omega) (by omega)
                omega
              · omega
            subst hb1'
            have hb1 : g 3 ≤ m := hb1
            have hm0 : m - g (3 + 0) = 0 := by show m - g 3 = 0; omega
            show some _ = some (mid g 0 m)
            unfold mid
            rw [hm0, show nI 0 = 0 from rfl, Int32.mul_zero, Int32.zero_div, Int32.add_zero]
theorem within_eq {v : Int32} {c : Nat} (hc : c + 1 < 2 ^ 31) : ∃ a, a ≤ c ∧ f5_within 0 v (nI c) = nI a ∧ f6_within v 0 (nI c) = nI a := by
  unfold f5_within f6_within jmax jmin
  rcases ix3 v (c + 1) (by omega) with h | h | ⟨k, hk, rfl⟩
  · refine ⟨0, by omega, ?_, ?_⟩
    · rw [fa_lt, show (0 : Int32).toInt = 0 by decide] at h
      have hcv : ¬ nI c < v := by rw [fa_lt, nI_toInt (n := c) (by omega)]; omega
      rw [if_neg hcv, if_neg (by rw [fa_lt, show (0 : Int32).toInt = 0 by decide]; omega)]
      rfl
    · rw [fa_lt, show (0 : Int32).toInt = 0 by decide] at h
      rw [if_neg (by rw [fa_le, show (0 : Int32).toInt = 0 by decide]; omega)]
      rfl
  · rw [fa_le, nI_toInt (by omega)] at h
    have e : nI c < v := by rw [fa_lt, nI_toInt (n := c) (by omega)]; omega
    refine ⟨c, by omega, ?_, ?_⟩
    · rw [if_pos e]
      by_cases h0 : (0 : Int32) < nI c
      · rw [if_pos h0]
      · rw [if_neg h0]
        rw [fa_lt, nI_toInt (n := c) (by omega), show (0 : Int32).toInt = 0 by decide] at h0
        have : c = 0 := by omega
        subst this; rfl
    · rw [if_pos (by rw [fa_le, show (0 : Int32).toInt = 0 by decide]; omega), if_neg (by rw [fa_le, nI_toInt (n := c) (by omega)]; omega)]
  · refine ⟨k, by omega, ?_, ?_⟩
    · rw [if_neg (nI_nlt (by omega) (by omega))]
      by_cases h0 : (0 : Int32) < nI k
      · rw [if_pos h0]
      · rw [if_neg h0]
        rw [fa_lt, nI_toInt (by omega), show (0 : Int32).toInt = 0 by decide] at h0
        have : k = 0 := by omega
        subst this; rfl
    · rw [if_pos (nI_pos' (by omega)), if_pos (nI_le (by omega) (by omega))]
theorem late_m {m k : Nat} (hm : m ≤ 600) (hk : k ≤ 9) : jmax (nI 0) (nI m - nI (10 * k)) = nI (m - 10 * k) := by
  unfold jmax
  have e := pk_sub_toInt (a := m) (b := 10 * k) (by omega) (by omega)
  by_cases h : 10 * k ≤ m
  · rw [pk_sub h]
    by_cases h2 : m - 10 * k = 0
    · rw [h2]; rfl
    · rw [if_pos (nI_lt (by omega) (by omega))]
  · rw [if_neg (by rw [fa_lt, e, nI_toInt (by decide)]; omega)]
    exact congrArg nI (by omega)
theorem late_m2 {m k : Nat} (hm : m ≤ 600) (hk : k ≤ 9) {α : Type} (f : Int32 → α) : (if nI 0 ≤ nI m - nI (10 * k) then f (nI m - nI (10 * k)) else f (nI 0)) = f (nI (m - 10 * k)) := by
  have e := pk_sub_toInt (a := m) (b := 10 * k) (by omega) (by omega)
  by_cases h : 10 * k ≤ m
  · rw [if_pos (by rw [fa_le, e, nI_toInt (by decide)]; omega), pk_sub h]
  · rw [if_neg (by rw [fa_le, e, nI_toInt (by decide)]; omega)]
    exact congrArg (fun x => f (nI x)) (by omega)
theorem where_eq {F : Nat} {μ : Mem} {j : Nat} {g : Gw} {μM : Mem} {w m : Nat} (ν : Lem) (hC : WC μ j g) (hM : WM μM w g) (hG : Gok F g) (hF : F ≤ 999) (hMF : μM 0 7 = nI F) (hw : w ≤ 6) (hm : m ≤ 600) :
    ∃ a, a ≤ 1000 * F ∧ f4_where μ j (nI m) (nI F) = some (nI a) ∧ f6_where μM ν (nI w) (nI m) = some (nI a) := by
  have hM0 := hM
  have hC0 := hC
  obtain ⟨c0, c1, c2, c3, c4⟩ := hC
  obtain ⟨m0, m1, m2, m3, m4⟩ := hM
  obtain ⟨g0, g1, g2, -, -, -⟩ := id hG
  have fin : ∀ v : Int32, f4_unbound μ j (nI m) (nI F) = some v → f6_where μM ν (nI w) (nI m) = f6_where_7 μM ν v → ∃ a, a ≤ 1000 * F ∧ f4_where μ j (nI m) (nI F) = some (nI a) ∧ f6_where μM ν (nI w) (nI m) = some (nI a) := by
    intro v h1 h2
    obtain ⟨a, h3, h4, h5⟩ := within_eq (v := v) (c := 1000 * F) (by omega)
    refine ⟨a, h3, ?_, ?_⟩
    · unfold f4_where
      rw [h1]
      show some (f5_within 0 v (1000 * nI F)) = _
      rw [show (1000 : Int32) = nI 1000 from rfl, pk_mul, h4]
    · rw [h2]
      show some (f6_within v 0 (1000 * (μM 0 7))) = _
      rw [hMF, show (1000 : Int32) = nI 1000 from rfl, pk_mul, h5]
  have hkind : f6_where μM ν (nI w) (nI m) = f6_where_1 μM ν (nI w) (nI m) (nI (g 0)) := by
    unfold f6_where
    by_cases h6 : w = 6
    · subst h6
      rw [m1 rfl, if_pos (show nI 6 = 6 from rfl)]
      rfl
    · rw [if_neg (by rw [show (6 : Int32) = nI 6 from rfl, nI_eq (by omega) (by omega)]; exact h6), gd_n (by omega) (by decide), nI_clamp (by omega), (m0 (by omega)).1]
  have hnum : g 0 ≠ 0 → w < 6 ∧ μM 5 w = nI (g 1) := by
    intro h
    have : w < 6 := by
      rcases Nat.lt_or_ge w 6 with q | q
      · exact q
      · exact absurd (m1 (by omega)) h
    exact ⟨this, (m0 this).2⟩
  have hlate : ∃ v, f4_late μ j (nI m) = some v ∧ (g 0 ≠ 0 → f6_lateAt μM ν (nI w) (nI m) = some v) := by
    obtain ⟨v, e1, e2⟩ := told_eq (ν := ν) hC0 hM0 hG hw (m := m - 10 * g 1) (by omega)
    refine ⟨v, ?_, fun h0 => ?_⟩
    · unfold f4_late
      simp (disch := omega) only [c1, late_m, e1, Nat.add_sub_cancel, nm_s, bd1_s, bd2_s, bd3_s, gd_n, gd_ne, nI_clamp, nI_leI, nI_ltI, nI_eq, nI_add, pk_mul, pk_sub, up_r, upL_r, jrem_n, jmax_n, if_true, if_false, if_pos, if_neg, gd_i, Nat.zero_add, Nat.add_zero, Nat.mul_zero, nI_nn, nI_nn2, mI_le, mI_ne, mI_ne2, mI_ne3, mI_ne4, ne0, kl_0, kl_1, kl_2, kl_3, kl_4, kl_5, kl_6, kl_7, kl_8, kl_9, kl_10, kl_11, kl_12, kl_13, kl_14, kl_15, kl_16, kl_17, kl_18, kl_19, kl_20, kl_21, kl_22, kl_23, kl_32, kl_40, kl_48, kl_50, kl_53, kl_56, kl_57, kl_60, kl_61, kl_66, kl_97, kl_99, kl_100, kl_120, kl_122, kl_160, kl_200, kl_255, kl_300, kl_500, kl_600, kl_601, kl_999, kl_1000, kl_2048, kl_9999]
    · obtain ⟨h6, h5⟩ := hnum h0
      unfold f6_lateAt f6_lateAt_1
      simp (disch := omega) only [h5, Nat.add_sub_cancel, nm_s, bd1_s, bd2_s, bd3_s, gd_n, gd_ne, nI_clamp, nI_leI, nI_ltI, nI_eq, nI_add, pk_mul, pk_sub, up_r, upL_r, jrem_n, jmax_n, if_true, if_false, if_pos, if_neg, gd_i, Nat.zero_add, Nat.add_zero, Nat.mul_zero, nI_nn, nI_nn2, mI_le, mI_ne, mI_ne2, mI_ne3, mI_ne4, ne0, kl_0, kl_1, kl_2, kl_3, kl_4, kl_5, kl_6, kl_7, kl_8, kl_9, kl_10, kl_11, kl_12, kl_13, kl_14, kl_15, kl_16, kl_17, kl_18, kl_19, kl_20, kl_21, kl_22, kl_23, kl_32, kl_40, kl_48, kl_50, kl_53, kl_56, kl_57, kl_60, kl_61, kl_66, kl_97, kl_99, kl_100, kl_120, kl_122, kl_160, kl_200, kl_255, kl_300, kl_500, kl_600, kl_601, kl_999, kl_1000, kl_2048, kl_9999]
      refine (late_m2 hm g1 (fun x => bd1 (f6_toldAt μM ν (nI w) x) (fun r23 => some r23))).trans ?_
      simp (disch := omega) only [e2, Nat.add_sub_cancel, nm_s, bd1_s, bd2_s, bd3_s, gd_n, gd_ne, nI_clamp, nI_leI, nI_ltI, nI_eq, nI_add, pk_mul, pk_sub, up_r, upL_r, jrem_n, jmax_n, if_true, if_false, if_pos, if_neg, gd_i, Nat.zero_add, Nat.add_zero, Nat.mul_zero, nI_nn, nI_nn2, mI_le, mI_ne, mI_ne2, mI_ne3, mI_ne4, ne0, kl_0, kl_1, kl_2, kl_3, kl_4, kl_5, kl_6, kl_7, kl_8, kl_9, kl_10, kl_11, kl_12, kl_13, kl_14, kl_15, kl_16, kl_17, kl_18, kl_19, kl_20, kl_21, kl_22, kl_23, kl_32, kl_40, kl_48, kl_50, kl_53, kl_56, kl_57, kl_60, kl_61, kl_66, kl_97, kl_99, kl_100, kl_120, kl_122, kl_160, kl_200, kl_255, kl_300, kl_500, kl_600, kl_601, kl_999, kl_1000, kl_2048, kl_9999]
  have hrest : ∀ d, 0 < d → d < 20 → f5_rest (nI m) (nI d) = some (nI (m % d)) := by
    intro d h1 h2
    unfold f5_rest
    simp (disch := omega) only [Nat.add_sub_cancel, nm_s, bd1_s, bd2_s, bd3_s, gd_n, gd_ne, nI_clamp, nI_leI, nI_ltI, nI_eq, nI_add, pk_mul, pk_sub, up_r, upL_r, jrem_n, jmax_n, if_true, if_false, if_pos, if_neg, gd_i, Nat.zero_add, Nat.add_zero, Nat.mul_zero, nI_nn, nI_nn2, mI_le, mI_ne, mI_ne2, mI_ne3, mI_ne4, ne0, kl_0, kl_1, kl_2, kl_3, kl_4, kl_5, kl_6, kl_7, kl_8, kl_9, kl_10, kl_11, kl_12, kl_13, kl_14, kl_15, kl_16, kl_17, kl_18, kl_19, kl_20, kl_21, kl_22, kl_23, kl_32, kl_40, kl_48, kl_50, kl_53, kl_56, kl_57, kl_60, kl_61, kl_66, kl_97, kl_99, kl_100, kl_120, kl_122, kl_160, kl_200, kl_255, kl_300, kl_500, kl_600, kl_601, kl_999, kl_1000, kl_2048, kl_9999]
  have hturn : ∀ k, k ≤ 600 → ∃ v, f4_turned μ j (nI k) (nI F) = some (nI (1000 * F) - v) ∧ f6_toldAt μM ν (nI w) (nI k) = some v := by
    intro k hk
    obtain ⟨v, e1, e2⟩ := told_eq (ν := ν) hC0 hM0 hG hw (m := k) hk
    refine ⟨v, ?_, e2⟩
    unfold f4_turned
    simp (disch := omega) only [e1, Nat.add_sub_cancel, nm_s, bd1_s, bd2_s, bd3_s, gd_n, gd_ne, nI_clamp, nI_leI, nI_ltI, nI_eq, nI_add, pk_mul, pk_sub, up_r, upL_r, jrem_n, jmax_n, if_true, if_false, if_pos, if_neg, gd_i, Nat.zero_add, Nat.add_zero, Nat.mul_zero, nI_nn, nI_nn2, mI_le, mI_ne, mI_ne2, mI_ne3, mI_ne4, ne0, kl_0, kl_1, kl_2, kl_3, kl_4, kl_5, kl_6, kl_7, kl_8, kl_9, kl_10, kl_11, kl_12, kl_13, kl_14, kl_15, kl_16, kl_17, kl_18, kl_19, kl_20, kl_21, kl_22, kl_23, kl_32, kl_40, kl_48, kl_50, kl_53, kl_56, kl_57, kl_60, kl_61, kl_66, kl_97, kl_99, kl_100, kl_120, kl_122, kl_160, kl_200, kl_255, kl_300, kl_500, kl_600, kl_601, kl_999, kl_1000, kl_2048, kl_9999]
  have hcase : g 0 = 0 ∨ g 0 = 1 ∨ g 0 = 2 ∨ g 0 = 3 ∨ g 0 = 4 ∨ g 0 = 5 := by omega
  rcases hcase with h | h | h | h | h | h
  · obtain ⟨v, e1, e2⟩ := told_eq (ν := ν) hC0 hM0 hG hw (m := m) hm
    refine fin v ?_ ?_
    · unfold f4_unbound
      simp (disch := omega) only [c0, h, e1, Nat.add_sub_cancel, nm_s, bd1_s, bd2_s, bd3_s, gd_n, gd_ne, nI_clamp, nI_leI, nI_ltI, nI_eq, nI_add, pk_mul, pk_sub, up_r, upL_r, jrem_n, jmax_n, if_true, if_false, if_pos, if_neg, gd_i, Nat.zero_add, Nat.add_zero, Nat.mul_zero, nI_nn, nI_nn2, mI_le, mI_ne, mI_ne2, mI_ne3, mI_ne4, ne0, kl_0, kl_1, kl_2, kl_3, kl_4, kl_5, kl_6, kl_7, kl_8, kl_9, kl_10, kl_11, kl_12, kl_13, kl_14, kl_15, kl_16, kl_17, kl_18, kl_19, kl_20, kl_21, kl_22, kl_23, kl_32, kl_40, kl_48, kl_50, kl_53, kl_56, kl_57, kl_60, kl_61, kl_66, kl_97, kl_99, kl_100, kl_120, kl_122, kl_160, kl_200, kl_255, kl_300, kl_500, kl_600, kl_601, kl_999, kl_1000, kl_2048, kl_9999]
    · rw [hkind, h]
      unfold f6_where_1 f6_where_2 f6_where_3 f6_where_4 f6_where_5 f6_where_6
      simp (disch := omega) only [e2, Nat.add_sub_cancel, nm_s, bd1_s, bd2_s, bd3_s, gd_n, gd_ne, nI_clamp, nI_leI, nI_ltI, nI_eq, nI_add, pk_mul, pk_sub, up_r, upL_r, jrem_n, jmax_n, if_true, if_false, if_pos, if_neg, gd_i, Nat.zero_add, Nat.add_zero, Nat.mul_zero, nI_nn, nI_nn2, mI_le, mI_ne, mI_ne2, mI_ne3, mI_ne4, ne0, kl_0, kl_1, kl_2, kl_3, kl_4, kl_5, kl_6, kl_7, kl_8, kl_9, kl_10, kl_11, kl_12, kl_13, kl_14, kl_15, kl_16, kl_17, kl_18, kl_19, kl_20, kl_21, kl_22, kl_23, kl_32, kl_40, kl_48, kl_50, kl_53, kl_56, kl_57, kl_60, kl_61, kl_66, kl_97, kl_99, kl_100, kl_120, kl_122, kl_160, kl_200, kl_255, kl_300, kl_500, kl_600, kl_601, kl_999, kl_1000, kl_2048, kl_9999]
  · obtain ⟨v, e1, e2⟩ := hlate
    have e2 := e2 (by omega)
    refine fin v ?_ ?_
    · unfold f4_unbound
      simp (disch := omega) only [c0, h, e1, Nat.add_sub_cancel, nm_s, bd1_s, bd2_s, bd3_s, gd_n, gd_ne, nI_clamp, nI_leI, nI_ltI, nI_eq, nI_add, pk_mul, pk_sub, up_r, upL_r, jrem_n, jmax_n, if_true, if_false, if_pos, if_neg, gd_i, Nat.zero_add, Nat.add_zero, Nat.mul_zero, nI_nn, nI_nn2, mI_le, mI_ne, mI_ne2, mI_ne3, mI_ne4, ne0, kl_0, kl_1, kl_2, kl_3, kl_4, kl_5, kl_6, kl_7, kl_8, kl_9, kl_10, kl_11, kl_12, kl_13, kl_14, kl_15, kl_16, kl_17, kl_18, kl_19, kl_20, kl_21, kl_22, kl_23, kl_32, kl_40, kl_48, kl_50, kl_53, kl_56, kl_57, kl_60, kl_61, kl_66, kl_97, kl_99, kl_100, kl_120, kl_122, kl_160, kl_200, kl_255, kl_300, kl_500, kl_600, kl_601, kl_999, kl_1000, kl_2048, kl_9999]
    · rw [hkind, h]
      unfold f6_where_1 f6_where_2 f6_where_3 f6_where_4 f6_where_5 f6_where_6
      simp (disch := omega) only [e2, Nat.add_sub_cancel, nm_s, bd1_s, bd2_s, bd3_s, gd_n, gd_ne, nI_clamp, nI_leI, nI_ltI, nI_eq, nI_add, pk_mul, pk_sub, up_r, upL_r, jrem_n, jmax_n, if_true, if_false, if_pos, if_neg, gd_i, Nat.zero_add, Nat.add_zero, Nat.mul_zero, nI_nn, nI_nn2, mI_le, mI_ne, mI_ne2, mI_ne3, mI_ne4, ne0, kl_0, kl_1, kl_2, kl_3, kl_4, kl_5, kl_6, kl_7, kl_8, kl_9, kl_10, kl_11, kl_12, kl_13, kl_14, kl_15, kl_16, kl_17, kl_18, kl_19, kl_20, kl_21, kl_22, kl_23, kl_32, kl_40, kl_48, kl_50, kl_53, kl_56, kl_57, kl_60, kl_61, kl_66, kl_97, kl_99, kl_100, kl_120, kl_122, kl_160, kl_200, kl_255, kl_300, kl_500, kl_600, kl_601, kl_999, kl_1000, kl_2048, kl_9999]
  · obtain ⟨v, e1, e2⟩ := hturn m hm
    refine fin (nI (1000 * F) - v) ?_ ?_
    · unfold f4_unbound
      simp (disch := omega) only [c0, h, e1, Nat.add_sub_cancel, nm_s, bd1_s, bd2_s, bd3_s, gd_n, gd_ne, nI_clamp, nI_leI, nI_ltI, nI_eq, nI_add, pk_mul, pk_sub, up_r, upL_r, jrem_n, jmax_n, if_true, if_false, if_pos, if_neg, gd_i, Nat.zero_add, Nat.add_zero, Nat.mul_zero, nI_nn, nI_nn2, mI_le, mI_ne, mI_ne2, mI_ne3, mI_ne4, ne0, kl_0, kl_1, kl_2, kl_3, kl_4, kl_5, kl_6, kl_7, kl_8, kl_9, kl_10, kl_11, kl_12, kl_13, kl_14, kl_15, kl_16, kl_17, kl_18, kl_19, kl_20, kl_21, kl_22, kl_23, kl_32, kl_40, kl_48, kl_50, kl_53, kl_56, kl_57, kl_60, kl_61, kl_66, kl_97, kl_99, kl_100, kl_120, kl_122, kl_160, kl_200, kl_255, kl_300, kl_500, kl_600, kl_601, kl_999, kl_1000, kl_2048, kl_9999]
    · rw [hkind, h]
      unfold f6_where_1 f6_where_2 f6_where_3 f6_where_4 f6_where_5 f6_where_6
      simp (disch := omega) only [e2, hMF, Nat.add_sub_cancel, nm_s, bd1_s, bd2_s, bd3_s, gd_n, gd_ne, nI_clamp, nI_leI, nI_ltI, nI_eq, nI_add, pk_mul, pk_sub, up_r, upL_r, jrem_n, jmax_n, if_true, if_false, if_pos, if_neg, gd_i, Nat.zero_add, Nat.add_zero, Nat.mul_zero, nI_nn, nI_nn2, mI_le, mI_ne, mI_ne2, mI_ne3, mI_ne4, ne0, kl_0, kl_1, kl_2, kl_3, kl_4, kl_5, kl_6, kl_7, kl_8, kl_9, kl_10, kl_11, kl_12, kl_13, kl_14, kl_15, kl_16, kl_17, kl_18, kl_19, kl_20, kl_21, kl_22, kl_23, kl_32, kl_40, kl_48, kl_50, kl_53, kl_56, kl_57, kl_60, kl_61, kl_66, kl_97, kl_99, kl_100, kl_120, kl_122, kl_160, kl_200, kl_255, kl_300, kl_500, kl_600, kl_601, kl_999, kl_1000, kl_2048, kl_9999]
  · obtain ⟨v, e1, e2⟩ := hlate
    have e2 := e2 (by omega)
    refine fin (v / nI 2) ?_ ?_
    · unfold f4_unbound
      simp (disch := omega) only [c0, h, e1, Nat.add_sub_cancel, nm_s, bd1_s, bd2_s, bd3_s, gd_n, gd_ne, nI_clamp, nI_leI, nI_ltI, nI_eq, nI_add, pk_mul, pk_sub, up_r, upL_r, jrem_n, jmax_n, if_true, if_false, if_pos, if_neg, gd_i, Nat.zero_add, Nat.add_zero, Nat.mul_zero, nI_nn, nI_nn2, mI_le, mI_ne, mI_ne2, mI_ne3, mI_ne4, ne0, kl_0, kl_1, kl_2, kl_3, kl_4, kl_5, kl_6, kl_7, kl_8, kl_9, kl_10, kl_11, kl_12, kl_13, kl_14, kl_15, kl_16, kl_17, kl_18, kl_19, kl_20, kl_21, kl_22, kl_23, kl_32, kl_40, kl_48, kl_50, kl_53, kl_56, kl_57, kl_60, kl_61, kl_66, kl_97, kl_99, kl_100, kl_120, kl_122, kl_160, kl_200, kl_255, kl_300, kl_500, kl_600, kl_601, kl_999, kl_1000, kl_2048, kl_9999]
    · rw [hkind, h]
      unfold f6_where_1 f6_where_2 f6_where_3 f6_where_4 f6_where_5 f6_where_6
      simp (disch := omega) only [e2, Nat.add_sub_cancel, nm_s, bd1_s, bd2_s, bd3_s, gd_n, gd_ne, nI_clamp, nI_leI, nI_ltI, nI_eq, nI_add, pk_mul, pk_sub, up_r, upL_r, jrem_n, jmax_n, if_true, if_false, if_pos, if_neg, gd_i, Nat.zero_add, Nat.add_zero, Nat.mul_zero, nI_nn, nI_nn2, mI_le, mI_ne, mI_ne2, mI_ne3, mI_ne4, ne0, kl_0, kl_1, kl_2, kl_3, kl_4, kl_5, kl_6, kl_7, kl_8, kl_9, kl_10, kl_11, kl_12, kl_13, kl_14, kl_15, kl_16, kl_17, kl_18, kl_19, kl_20, kl_21, kl_22, kl_23, kl_32, kl_40, kl_48, kl_50, kl_53, kl_56, kl_57, kl_60, kl_61, kl_66, kl_97, kl_99, kl_100, kl_120, kl_122, kl_160, kl_200, kl_255, kl_300, kl_500, kl_600, kl_601, kl_999, kl_1000, kl_2048, kl_9999]
  · have hd := hrest (g 1 + 1) (by omega) (by omega)
    obtain ⟨h6, h5⟩ := hnum (by omega)
    have hmod : m % (g 1 + 1) ≤ m := Nat.mod_le _ _
    obtain ⟨v, e1, e2⟩ := hturn (m - m % (g 1 + 1)) (by omega)
    refine fin (nI (1000 * F) - v) ?_ ?_
    · unfold f4_unbound
      simp (disch := omega) only [c0, h, c1, hd, e1, Nat.add_sub_cancel, nm_s, bd1_s, bd2_s, bd3_s, gd_n, gd_ne, nI_clamp, nI_leI, nI_ltI, nI_eq, nI_add, pk_mul, pk_sub, up_r, upL_r, jrem_n, jmax_n, if_true, if_false, if_pos, if_neg, gd_i, Nat.zero_add, Nat.add_zero, Nat.mul_zero, nI_nn, nI_nn2, mI_le, mI_ne, mI_ne2, mI_ne3, mI_ne4, ne0, kl_0, kl_1, kl_2, kl_3, kl_4, kl_5, kl_6, kl_7, kl_8, kl_9, kl_10, kl_11, kl_12, kl_13, kl_14, kl_15, kl_16, kl_17, kl_18, kl_19, kl_20, kl_21, kl_22, kl_23, kl_32, kl_40, kl_48, kl_50, kl_53, kl_56, kl_57, kl_60, kl_61, kl_66, kl_97, kl_99, kl_100, kl_120, kl_122, kl_160, kl_200, kl_255, kl_300, kl_500, kl_600, kl_601, kl_999, kl_1000, kl_2048, kl_9999]
    · rw [hkind, h]
      unfold f6_where_1 f6_where_2 f6_where_3 f6_where_4 f6_where_5 f6_where_6
      simp (disch := omega) only [h5, e2, hMF, Nat.add_sub_cancel, nm_s, bd1_s, bd2_s, bd3_s, gd_n, gd_ne, nI_clamp, nI_leI, nI_ltI, nI_eq, nI_add, pk_mul, pk_sub, up_r, upL_r, jrem_n, jmax_n, if_true, if_false, if_pos, if_neg, gd_i, Nat.zero_add, Nat.add_zero, Nat.mul_zero, nI_nn, nI_nn2, mI_le, mI_ne, mI_ne2, mI_ne3, mI_ne4, ne0, kl_0, kl_1, kl_2, kl_3, kl_4, kl_5, kl_6, kl_7, kl_8, kl_9, kl_10, kl_11, kl_12, kl_13, kl_14, kl_15, kl_16, kl_17, kl_18, kl_19, kl_20, kl_21, kl_22, kl_23, kl_32, kl_40, kl_48, kl_50, kl_53, kl_56, kl_57, kl_60, kl_61, kl_66, kl_97, kl_99, kl_100, kl_120, kl_122, kl_160, kl_200, kl_255, kl_300, kl_500, kl_600, kl_601, kl_999, kl_1000, kl_2048, kl_9999]
  · have hd := hrest (g 1 + 2) (by omega) (by omega)
    obtain ⟨h6, h5⟩ := hnum (by omega)
    obtain ⟨v, e1, e2⟩ := hlate
    have e2 := e2 (by omega)
    have hmod : m % (g 1 + 2) ≤ m := Nat.mod_le _ _
    refine fin (v + nI (1000 * (m % (g 1 + 2)))) ?_ ?_
    · unfold f4_unbound
      simp (disch := omega) only [c0, h, c1, hd, e1, Nat.add_sub_cancel, nm_s, bd1_s, bd2_s, bd3_s, gd_n, gd_ne, nI_clamp, nI_leI, nI_ltI, nI_eq, nI_add, pk_mul, pk_sub, up_r, upL_r, jrem_n, jmax_n, if_true, if_false, if_pos, if_neg, gd_i, Nat.zero_add, Nat.add_zero, Nat.mul_zero, nI_nn, nI_nn2, mI_le, mI_ne, mI_ne2, mI_ne3, mI_ne4, ne0, kl_0, kl_1, kl_2, kl_3, kl_4, kl_5, kl_6, kl_7, kl_8, kl_9, kl_10, kl_11, kl_12, kl_13, kl_14, kl_15, kl_16, kl_17, kl_18, kl_19, kl_20, kl_21, kl_22, kl_23, kl_32, kl_40, kl_48, kl_50, kl_53, kl_56, kl_57, kl_60, kl_61, kl_66, kl_97, kl_99, kl_100, kl_120, kl_122, kl_160, kl_200, kl_255, kl_300, kl_500, kl_600, kl_601, kl_999, kl_1000, kl_2048, kl_9999]
    · rw [hkind, h]
      unfold f6_where_1 f6_where_2 f6_where_3 f6_where_4 f6_where_5 f6_where_6
      simp (disch := omega) only [h5, e2, Nat.add_sub_cancel, nm_s, bd1_s, bd2_s, bd3_s, gd_n, gd_ne, nI_clamp, nI_leI, nI_ltI, nI_eq, nI_add, pk_mul, pk_sub, up_r, upL_r, jrem_n, jmax_n, if_true, if_false, if_pos, if_neg, gd_i, Nat.zero_add, Nat.add_zero, Nat.mul_zero, nI_nn, nI_nn2, mI_le, mI_ne, mI_ne2, mI_ne3, mI_ne4, ne0, kl_0, kl_1, kl_2, kl_3, kl_4, kl_5, kl_6, kl_7, kl_8, kl_9, kl_10, kl_11, kl_12, kl_13, kl_14, kl_15, kl_16, kl_17, kl_18, kl_19, kl_20, kl_21, kl_22, kl_23, kl_32, kl_40, kl_48, kl_50, kl_53, kl_56, kl_57, kl_60, kl_61, kl_66, kl_97, kl_99, kl_100, kl_120, kl_122, kl_160, kl_200, kl_255, kl_300, kl_500, kl_600, kl_601, kl_999, kl_1000, kl_2048, kl_9999]
