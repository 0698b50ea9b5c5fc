/-! AT and LENGTH as numbers -/
theorem fuel_o {a : Nat} (h : a ≤ 2000) : a < FUEL := by rw [FUEL_eq]; omega
def cmem (g : Gw) : Mem := fun k i => if k = 14 then nI (g i) else if k = 15 then nI (g (3 + i)) else nI (g (11 + i))
def mmem (F : Nat) (g : Gw) : Mem := fun k i => if k = 0 then nI F else if k = 4 then nI (g 0) else if k = 5 then nI (g 1) else if k = 8 then nI (g 2) else if k = 6 then nI (g (3 + i)) else nI (g (11 + i))
theorem cmem_C (g : Gw) : WC (cmem g) 0 g := ⟨rfl, rfl, rfl, fun _ _ => rfl, fun _ _ => rfl⟩
theorem mmem_M (F : Nat) (g : Gw) : WM (mmem F g) 0 g := ⟨fun _ => ⟨rfl, rfl⟩, fun h => by omega, rfl, fun i _ => by rw [Nat.mul_zero, Nat.zero_add]; rfl, fun i _ => by rw [Nat.mul_zero, Nat.zero_add]; rfl⟩
def AT (F : Nat) (g : Gw) (m : Nat) : Nat := ((f4_where (cmem g) 0 (nI m) (nI F)).getD 0).toNatClampNeg
theorem AT_c {F : Nat} {g : Gw} {m : Nat} (hG : Gok F g) (hF : F ≤ 999) (hm : m ≤ 600) : AT F g m ≤ 1000 * F ∧ f4_where (cmem g) 0 (nI m) (nI F) = some (nI (AT F g m)) := by
  obtain ⟨a, h1, h2, h3⟩ := where_eq (fun _ _ => 0) (cmem_C g) (mmem_M F g) hG hF rfl (by omega) hm
  have e : AT F g m = a := by
    unfold AT
    rw [h2]
    show (nI a).toNatClampNeg = a
    exact nI_clamp (by omega)
  rw [e]
  exact ⟨h1, h2⟩
theorem AT_le {F : Nat} {g : Gw} {m : Nat} (hG : Gok F g) (hF : F ≤ 999) (hm : m ≤ 600) : AT F g m ≤ 1000 * F := (AT_c hG hF hm).1
theorem AT_M {F : Nat} {g : Gw} {m w : Nat} {μM : Mem} {ν : Lem} (hG : Gok F g) (hF : F ≤ 999) (hM : WM μM w g) (hMF : μM 0 7 = nI F) (hw : w ≤ 6) (hm : m ≤ 600) : f6_where μM ν (nI w) (nI m) = some (nI (AT F g m)) := by
  obtain ⟨a, h1, h2, h3⟩ := where_eq ν (cmem_C g) hM hG hF hMF hw hm
  have h4 := (AT_c hG hF hm).2
  rw [h2] at h4
  rw [h3]
  exact h4
theorem AT_C {F : Nat} {g : Gw} {m j : Nat} {μ : Mem} (hG : Gok F g) (hF : F ≤ 999) (hC : WC μ j g) (hm : m ≤ 600) : f4_where μ j (nI m) (nI F) = some (nI (AT F g m)) := by
  obtain ⟨a, h1, h2, h3⟩ := where_eq (fun _ _ => 0) hC (mmem_M F g) hG hF rfl (by omega) hm
  have h4 := AT_M (ν := fun _ _ => 0) hG hF (mmem_M F g) rfl (by omega) hm
  rw [h3] at h4
  rw [h2]
  exact h4
def LEN (F : Nat) (g : Gw) : Nat → Nat
  | 0 => 0
  | m + 1 => LEN F g m + dst (AT F g (m + 1)) (AT F g m)
theorem LEN_le {F : Nat} {g : Gw} (hG : Gok F g) (hF : F ≤ 999) : ∀ m, m ≤ 600 → LEN F g m ≤ 999000 * m := by
  intro m
  induction m with
  | zero => intro _; exact Nat.le_refl 0
  | succ m ih =>
    intro hm
    have a := AT_le hG hF (m := m) (by omega)
    have b := AT_le hG hF hm
    have c := ih (by omega)
    unfold LEN dst
    omega
theorem LEN_mono {F : Nat} {g : Gw} : ∀ (d a : Nat), LEN F g a ≤ LEN F g (a + d) := by
  intro d
  induction d with
  | zero => intro a; exact Nat.le_refl _
  | succ d ih =>
    intro a
    have := ih a
    show LEN F g a ≤ LEN F g (a + d) + _
    omega
theorem LEN_mo {F : Nat} {g : Gw} {a b : Nat} (h : a ≤ b) : LEN F g a ≤ LEN F g b := by
  have := LEN_mono (F := F) (g := g) (b - a) a
  rw [show a + (b - a) = b by omega] at this
  exact this
theorem walkC1 {F : Nat} {g : Gw} {w : Nat} {μ0 : Mem} (hG : Gok F g) (hF : F ≤ 999) (hw : w < 6) (hC : WC μ0 w g) (h10 : μ0 1 0 = nI F) : ∀ (n c : Nat) (μ : Mem), c ≤ 600 → 600 - c < n → fC μ0 μ → (∀ i, i ≤ c → μ 7 i = nI (LEN F g i)) →
    ∃ μ', f5_layWalked_1 n μ w (nI (AT F g c)) (nI (c + 1)) = some μ' ∧ fC μ0 μ' ∧ ∀ i, i ≤ 600 → μ' 7 i = nI (LEN F g i) := by
  intro n
  induction n with
  | zero => intro c μ _ h; omega
  | succ n ih =>
    intro c μ hc hn hf hv
    by_cases hc6 : c = 600
    · subst hc6
      exact ⟨μ, by rw [f5_layWalked_1]; simp (disch := omega) only [Nat.add_sub_cancel, nm_s, bd1_s, bd2_s, bd3_s, gd_n, gd_ne, nI_clamp, nI_leI, nI_ltI, nI_eq, nI_add, pk_mul, pk_sub, up_r, upL_r, jrem_n, jmax_n, if_true, if_false, if_pos, if_neg, gd_i, Nat.zero_add, Nat.add_zero, Nat.mul_zero, nI_nn, nI_nn2, mI_le, mI_ne, mI_ne2, mI_ne3, mI_ne4, ne0, kl_0, kl_1, kl_2, kl_3, kl_4, kl_5, kl_6, kl_7, kl_8, kl_9, kl_10, kl_11, kl_12, kl_13, kl_14, kl_15, kl_16, kl_17, kl_18, kl_19, kl_20, kl_21, kl_22, kl_23, kl_32, kl_40, kl_48, kl_50, kl_53, kl_56, kl_57, kl_60, kl_61, kl_66, kl_97, kl_99, kl_100, kl_120, kl_122, kl_160, kl_200, kl_255, kl_300, kl_500, kl_600, kl_601, kl_999, kl_1000, kl_2048, kl_9999], hf, hv⟩
    · have e1 := AT_C hG hF (hC.fr (by omega) hf) (m := c + 1) (by omega)
      have e2 : μ 1 0 = nI F := by rw [hf _ _ (by omega)]; exact h10
      have a1 := AT_le hG hF (m := c + 1) (by omega)
      have a0 := AT_le hG hF (m := c) (by omega)
      have hvc := hv c (Nat.le_refl c)
      rw [f5_layWalked_1]
      simp (disch := omega) only [e2, e1, jabs_d, hvc, Nat.add_sub_cancel, nm_s, bd1_s, bd2_s, bd3_s, gd_n, gd_ne, nI_clamp, nI_leI, nI_ltI, nI_eq, nI_add, pk_mul, pk_sub, up_r, upL_r, jrem_n, jmax_n, if_true, if_false, if_pos, if_neg, gd_i, Nat.zero_add, Nat.add_zero, Nat.mul_zero, nI_nn, nI_nn2, mI_le, mI_ne, mI_ne2, mI_ne3, mI_ne4, ne0, kl_0, kl_1, kl_2, kl_3, kl_4, kl_5, kl_6, kl_7, kl_8, kl_9, kl_10, kl_11, kl_12, kl_13, kl_14, kl_15, kl_16, kl_17, kl_18, kl_19, kl_20, kl_21, kl_22, kl_23, kl_32, kl_40, kl_48, kl_50, kl_53, kl_56, kl_57, kl_60, kl_61, kl_66, kl_97, kl_99, kl_100, kl_120, kl_122, kl_160, kl_200, kl_255, kl_300, kl_500, kl_600, kl_601, kl_999, kl_1000, kl_2048, kl_9999]
      refine ih (c + 1) _ (by omega) (by omega) (hf.up (by omega)) (fun i hi => ?_)
      rw [up_r]
      by_cases hic : i = c + 1
      · subst hic
        rw [if_pos ⟨rfl, rfl⟩]
        rfl
      · rw [if_neg (by omega)]
        exact hv i (by omega)
theorem walkC {F : Nat} {g : Gw} {w : Nat} {μ : Mem} (hG : Gok F g) (hF : F ≤ 999) (hw : w < 6) (hC : WC μ w g) (h10 : μ 1 0 = nI F) : ∃ μ', f5_layWalked μ (nI w) = some μ' ∧ fC μ μ' ∧ ∀ i, i ≤ 600 → μ' 7 i = nI (LEN F g i) := by
  have e0 := AT_C hG hF hC (m := 0) (by omega)
  obtain ⟨μ', h1, h2, h3⟩ := walkC1 hG hF hw hC h10 FUEL 0 (up μ 7 0 (nI 0)) (by omega) (fuel_o (by omega)) (fC.rf.up (by omega)) (fun i hi => by
    have : i = 0 := by omega
    subst this
    rfl)
  refine ⟨μ', ?_, h2, h3⟩
  rw [Nat.zero_add] at h1
  unfold f5_layWalked
  simp (disch := omega) only [h10, e0, Nat.add_sub_cancel, nm_s, bd1_s, bd2_s, bd3_s, gd_n, gd_ne, nI_clamp, nI_leI, nI_ltI, nI_eq, nI_add, pk_mul, pk_sub, up_r, upL_r, jrem_n, jmax_n, if_true, if_false, if_pos, if_neg, gd_i, Nat.zero_add, Nat.add_zero, Nat.mul_zero, nI_nn, nI_nn2, mI_le, mI_ne, mI_ne2, mI_ne3, mI_ne4, ne0, kl_0, kl_1, kl_2, kl_3, kl_4, kl_5, kl_6, kl_7, kl_8, kl_9, kl_10, kl_11, kl_12, kl_13, kl_14, kl_15, kl_16, kl_17, kl_18, kl_19, kl_20, kl_21, kl_22, kl_23, kl_32, kl_40, kl_48, kl_50, kl_53, kl_56, kl_57, kl_60, kl_61, kl_66, kl_97, kl_99, kl_100, kl_120, kl_122, kl_160, kl_200, kl_255, kl_300, kl_500, kl_600, kl_601, kl_999, kl_1000, kl_2048, kl_9999]
  exact h1
theorem lt64_0 : (0 : Int64) = lN 0 := rfl
theorem lt64_1 : (1 : Int64) = lN 1 := rfl
theorem lt64_2 : (2 : Int64) = lN 2 := rfl
theorem lt64_600 : (600 : Int64) = lN 600 := rfl
theorem lt64_1000 : (1000 : Int64) = lN 1000 := rfl
theorem walkM1 {F : Nat} {g : Gw} {w : Nat} {μ : Mem} (hG : Gok F g) (hF : F ≤ 999) (hw : w < 6) (hM : WM μ w g) (h10 : μ 0 7 = nI F) : ∀ (n c : Nat) (ν : Lem), c ≤ 600 → 600 - c < n → (∀ i, i ≤ c → ν 9 i = lN (LEN F g i)) →
    ∃ ν', f6_walks_1 n μ ν (nI w) (nI (AT F g c)) (nI (c + 1)) = some (μ, ν') ∧ ∀ i, i ≤ 600 → ν' 9 i = lN (LEN F g i) := by
  intro n
  induction n with
  | zero => intro c μ _ h; omega
  | succ n ih =>
    intro c ν hc hn hv
    by_cases hc6 : c = 600
    · subst hc6
      exact ⟨ν, by rw [f6_walks_1]; simp (disch := omega) only [Nat.add_sub_cancel, nm_s, bd1_s, bd2_s, bd3_s, gd_n, gd_ne, nI_clamp, nI_leI, nI_ltI, nI_eq, nI_add, pk_mul, pk_sub, up_r, upL_r, jrem_n, jmax_n, if_true, if_false, if_pos, if_neg, gd_i, Nat.zero_add, Nat.add_zero, Nat.mul_zero, nI_nn, nI_nn2, mI_le, mI_ne, mI_ne2, mI_ne3, mI_ne4, ne0, kl_0, kl_1, kl_2, kl_3, kl_4, kl_5, kl_6, kl_7, kl_8, kl_9, kl_10, kl_11, kl_12, kl_13, kl_14, kl_15, kl_16, kl_17, kl_18, kl_19, kl_20, kl_21, kl_22, kl_23, kl_32, kl_40, kl_48, kl_50, kl_53, kl_56, kl_57, kl_60, kl_61, kl_66, kl_97, kl_99, kl_100, kl_120, kl_122, kl_160, kl_200, kl_255, kl_300, kl_500, kl_600, kl_601, kl_999, kl_1000, kl_2048, kl_9999], hv⟩
    · have e1 := AT_M (ν := ν) hG hF hM h10 (by omega) (m := c + 1) (by omega)
      have a1 := AT_le hG hF (m := c + 1) (by omega)
      have a0 := AT_le hG hF (m := c) (by omega)
      have hvc := hv c (Nat.le_refl c)
      rw [f6_walks_1]
      simp (disch := omega) only [e1, plain_d, hvc, lN_add, Nat.add_sub_cancel, nm_s, bd1_s, bd2_s, bd3_s, gd_n, gd_ne, nI_clamp, nI_leI, nI_ltI, nI_eq, nI_add, pk_mul, pk_sub, up_r, upL_r, jrem_n, jmax_n, if_true, if_false, if_pos, if_neg, gd_i, Nat.zero_add, Nat.add_zero, Nat.mul_zero, nI_nn, nI_nn2, mI_le, mI_ne, mI_ne2, mI_ne3, mI_ne4, ne0, kl_0, kl_1, kl_2, kl_3, kl_4, kl_5, kl_6, kl_7, kl_8, kl_9, kl_10, kl_11, kl_12, kl_13, kl_14, kl_15, kl_16, kl_17, kl_18, kl_19, kl_20, kl_21, kl_22, kl_23, kl_32, kl_40, kl_48, kl_50, kl_53, kl_56, kl_57, kl_60, kl_61, kl_66, kl_97, kl_99, kl_100, kl_120, kl_122, kl_160, kl_200, kl_255, kl_300, kl_500, kl_600, kl_601, kl_999, kl_1000, kl_2048, kl_9999]
      refine ih (c + 1) _ (by omega) (by omega) (fun i hi => ?_)
      rw [upL_r]
      by_cases hic : i = c + 1
      · subst hic
        rw [if_pos ⟨rfl, rfl⟩]
        rfl
      · rw [if_neg (by omega)]
        exact hv i (by omega)
theorem walkM {F : Nat} {g : Gw} {w : Nat} {μ : Mem} (ν : Lem) (hG : Gok F g) (hF : F ≤ 999) (hw : w < 6) (hM : WM μ w g) (h10 : μ 0 7 = nI F) : ∃ ν', f6_walks μ ν (nI w) = some (μ, ν') ∧ ∀ i, i ≤ 600 → ν' 9 i = lN (LEN F g i) := by
  obtain ⟨ν', h1, h3⟩ := walkM1 hG hF hw hM h10 FUEL 0 (upL ν 9 0 (lN 0)) (by omega) (fuel_o (by omega)) (fun i hi => by
    have : i = 0 := by omega
    subst this
    rfl)
  refine ⟨ν', ?_, h3⟩
  have e0 := AT_M (ν := upL ν 9 0 (lN 0)) hG hF hM h10 (by omega) (m := 0) (by omega)
  rw [Nat.zero_add] at h1
  unfold f6_walks
  simp (disch := omega) only [lt64_0, e0, Nat.add_sub_cancel, nm_s, bd1_s, bd2_s, bd3_s, gd_n, gd_ne, nI_clamp, nI_leI, nI_ltI, nI_eq, nI_add, pk_mul, pk_sub, up_r, upL_r, jrem_n, jmax_n, if_true, if_false, if_pos, if_neg, gd_i, Nat.zero_add, Nat.add_zero, Nat.mul_zero, nI_nn, nI_nn2, mI_le, mI_ne, mI_ne2, mI_ne3, mI_ne4, ne0, kl_0, kl_1, kl_2, kl_3, kl_4, kl_5, kl_6, kl_7, kl_8, kl_9, kl_10, kl_11, kl_12, kl_13, kl_14, kl_15, kl_16, kl_17, kl_18, kl_19, kl_20, kl_21, kl_22, kl_23, kl_32, kl_40, kl_48, kl_50, kl_53, kl_56, kl_57, kl_60, kl_61, kl_66, kl_97, kl_99, kl_100, kl_120, kl_122, kl_160, kl_200, kl_255, kl_300, kl_500, kl_600, kl_601, kl_999, kl_1000, kl_2048, kl_9999]
  exact h1
/-- E of a minute -/
def EM (F : Nat) (g : Gw) (t s : Nat) : Int64 := lN (600 * (LEN F g (s + t) - LEN F g s)) - lN (t * LEN F g 600)
theorem EM_C {F : Nat} {g : Gw} {μ : Mem} (hG : Gok F g) (hF : F ≤ 999) (hv : ∀ i, i ≤ 600 → μ 7 i = nI (LEN F g i)) {s t : Nat} (h : s + t ≤ 600) : f5_beyondMean μ (nI s) (nI t) = some (EM F g t s) := by
  have l1 := LEN_le hG hF (s + t) h
  have l2 := LEN_le hG hF 600 (by omega)
  have l3 : LEN F g s ≤ LEN F g (s + t) := LEN_mo (by omega)
  unfold f5_beyondMean EM
  simp (disch := omega) only [hv, nI_l, lt64_600, lN_mul, Nat.add_sub_cancel, nm_s, bd1_s, bd2_s, bd3_s, gd_n, gd_ne, nI_clamp, nI_leI, nI_ltI, nI_eq, nI_add, pk_mul, pk_sub, up_r, upL_r, jrem_n, jmax_n, if_true, if_false, if_pos, if_neg, gd_i, Nat.zero_add, Nat.add_zero, Nat.mul_zero, nI_nn, nI_nn2, mI_le, mI_ne, mI_ne2, mI_ne3, mI_ne4, ne0, kl_0, kl_1, kl_2, kl_3, kl_4, kl_5, kl_6, kl_7, kl_8, kl_9, kl_10, kl_11, kl_12, kl_13, kl_14, kl_15, kl_16, kl_17, kl_18, kl_19, kl_20, kl_21, kl_22, kl_23, kl_32, kl_40, kl_48, kl_50, kl_53, kl_56, kl_57, kl_60, kl_61, kl_66, kl_97, kl_99, kl_100, kl_120, kl_122, kl_160, kl_200, kl_255, kl_300, kl_500, kl_600, kl_601, kl_999, kl_1000, kl_2048, kl_9999]
theorem EM_M {F : Nat} {g : Gw} {μ : Mem} {ν : Lem} (hG : Gok F g) (hF : F ≤ 999) (hv : ∀ i, i ≤ 600 → ν 9 i = lN (LEN F g i)) {s t : Nat} (h : s + t ≤ 600) : f6_more μ ν (nI s) (nI t) = some (EM F g t s) := by
  have l1 := LEN_le hG hF (s + t) h
  have l2 := LEN_le hG hF 600 (by omega)
  have l3 : LEN F g s ≤ LEN F g (s + t) := LEN_mo (by omega)
  unfold f6_more EM
  simp (disch := omega) only [hv, nI_l, lt64_600, lN_mul, lN_sub, Nat.add_sub_cancel, nm_s, bd1_s, bd2_s, bd3_s, gd_n, gd_ne, nI_clamp, nI_leI, nI_ltI, nI_eq, nI_add, pk_mul, pk_sub, up_r, upL_r, jrem_n, jmax_n, if_true, if_false, if_pos, if_neg, gd_i, Nat.zero_add, Nat.add_zero, Nat.mul_zero, nI_nn, nI_nn2, mI_le, mI_ne, mI_ne2, mI_ne3, mI_ne4, ne0, kl_0, kl_1, kl_2, kl_3, kl_4, kl_5, kl_6, kl_7, kl_8, kl_9, kl_10, kl_11, kl_12, kl_13, kl_14, kl_15, kl_16, kl_17, kl_18, kl_19, kl_20, kl_21, kl_22, kl_23, kl_32, kl_40, kl_48, kl_50, kl_53, kl_56, kl_57, kl_60, kl_61, kl_66, kl_97, kl_99, kl_100, kl_120, kl_122, kl_160, kl_200, kl_255, kl_300, kl_500, kl_600, kl_601, kl_999, kl_1000, kl_2048, kl_9999]
theorem mean1 {F : Nat} {g : Gw} {μ μM : Mem} {ν : Lem} (hG : Gok F g) (hF : F ≤ 999) (hv : ∀ i, i ≤ 600 → μ 7 i = nI (LEN F g i)) (hvM : ∀ i, i ≤ 600 → ν 9 i = lN (LEN F g i)) {t : Nat} (ht : t ≤ 300) : ∀ (n k s : Nat), s + t ≤ 600 → 600 - s < n → 601 - s < k →
    ∃ r, f5_mean_1 n μ (nI t) (EM F g t s) (nI s) = some (r, μ) ∧ f6_mean_1 k μM ν (nI t) (nI s) = some (r, μM, ν) := by
  intro n
  induction n with
  | zero => intro k s _ h; omega
  | succ n ih =>
    intro k s hs hn hk
    obtain ⟨k, rfl⟩ : ∃ k', k = k' + 1 := ⟨k - 1, by omega⟩
    obtain ⟨k, rfl⟩ : ∃ k', k = k' + 1 := ⟨k - 1, by omega⟩
    have m0 := EM_M (μ := μM) hG hF hvM (s := s) (t := t) hs
    by_cases he : s + t = 600
    · have hst : s = 600 - t := by omega
      by_cases h0 : lg_cmp (EM F g t s) 0 = nI 0
      · refine ⟨nI (600 - t), ?_, ?_⟩
        · rw [f5_mean_1]
          simp (disch := omega) only [h0, Nat.add_sub_cancel, nm_s, bd1_s, bd2_s, bd3_s, gd_n, gd_ne, nI_clamp, nI_leI, nI_ltI, nI_eq, nI_add, pk_mul, pk_sub, up_r, upL_r, jrem_n, jmax_n, if_true, if_false, if_pos, if_neg, gd_i, Nat.zero_add, Nat.add_zero, Nat.mul_zero, nI_nn, nI_nn2, mI_le, mI_ne, mI_ne2, mI_ne3, mI_ne4, ne0, kl_0, kl_1, kl_2, kl_3, kl_4, kl_5, kl_6, kl_7, kl_8, kl_9, kl_10, kl_11, kl_12, kl_13, kl_14, kl_15, kl_16, kl_17, kl_18, kl_19, kl_20, kl_21, kl_22, kl_23, kl_32, kl_40, kl_48, kl_50, kl_53, kl_56, kl_57, kl_60, kl_61, kl_66, kl_97, kl_99, kl_100, kl_120, kl_122, kl_160, kl_200, kl_255, kl_300, kl_500, kl_600, kl_601, kl_999, kl_1000, kl_2048, kl_9999]
        · rw [f6_mean_1]
          simp (disch := omega) only [m0, h0, Nat.add_sub_cancel, nm_s, bd1_s, bd2_s, bd3_s, gd_n, gd_ne, nI_clamp, nI_leI, nI_ltI, nI_eq, nI_add, pk_mul, pk_sub, up_r, upL_r, jrem_n, jmax_n, if_true, if_false, if_pos, if_neg, gd_i, Nat.zero_add, Nat.add_zero, Nat.mul_zero, nI_nn, nI_nn2, mI_le, mI_ne, mI_ne2, mI_ne3, mI_ne4, ne0, kl_0, kl_1, kl_2, kl_3, kl_4, kl_5, kl_6, kl_7, kl_8, kl_9, kl_10, kl_11, kl_12, kl_13, kl_14, kl_15, kl_16, kl_17, kl_18, kl_19, kl_20, kl_21, kl_22, kl_23, kl_32, kl_40, kl_48, kl_50, kl_53, kl_56, kl_57, kl_60, kl_61, kl_66, kl_97, kl_99, kl_100, kl_120, kl_122, kl_160, kl_200, kl_255, kl_300, kl_500, kl_600, kl_601, kl_999, kl_1000, kl_2048, kl_9999]
          rw [hst]
      · refine ⟨-nI 1, ?_, ?_⟩
        · rw [f5_mean_1]
          simp (disch := omega) only [h0, Nat.add_sub_cancel, nm_s, bd1_s, bd2_s, bd3_s, gd_n, gd_ne, nI_clamp, nI_leI, nI_ltI, nI_eq, nI_add, pk_mul, pk_sub, up_r, upL_r, jrem_n, jmax_n, if_true, if_false, if_pos, if_neg, gd_i, Nat.zero_add, Nat.add_zero, Nat.mul_zero, nI_nn, nI_nn2, mI_le, mI_ne, mI_ne2, mI_ne3, mI_ne4, ne0, kl_0, kl_1, kl_2, kl_3, kl_4, kl_5, kl_6, kl_7, kl_8, kl_9, kl_10, kl_11, kl_12, kl_13, kl_14, kl_15, kl_16, kl_17, kl_18, kl_19, kl_20, kl_21, kl_22, kl_23, kl_32, kl_40, kl_48, kl_50, kl_53, kl_56, kl_57, kl_60, kl_61, kl_66, kl_97, kl_99, kl_100, kl_120, kl_122, kl_160, kl_200, kl_255, kl_300, kl_500, kl_600, kl_601, kl_999, kl_1000, kl_2048, kl_9999]
        · rw [f6_mean_1]
          simp (disch := omega) only [m0, h0, Nat.add_sub_cancel, nm_s, bd1_s, bd2_s, bd3_s, gd_n, gd_ne, nI_clamp, nI_leI, nI_ltI, nI_eq, nI_add, pk_mul, pk_sub, up_r, upL_r, jrem_n, jmax_n, if_true, if_false, if_pos, if_neg, gd_i, Nat.zero_add, Nat.add_zero, Nat.mul_zero, nI_nn, nI_nn2, mI_le, mI_ne, mI_ne2, mI_ne3, mI_ne4, ne0, kl_0, kl_1, kl_2, kl_3, kl_4, kl_5, kl_6, kl_7, kl_8, kl_9, kl_10, kl_11, kl_12, kl_13, kl_14, kl_15, kl_16, kl_17, kl_18, kl_19, kl_20, kl_21, kl_22, kl_23, kl_32, kl_40, kl_48, kl_50, kl_53, kl_56, kl_57, kl_60, kl_61, kl_66, kl_97, kl_99, kl_100, kl_120, kl_122, kl_160, kl_200, kl_255, kl_300, kl_500, kl_600, kl_601, kl_999, kl_1000, kl_2048, kl_9999]
          rw [f6_mean_1]
          simp (disch := omega) only [Nat.add_sub_cancel, nm_s, bd1_s, bd2_s, bd3_s, gd_n, gd_ne, nI_clamp, nI_leI, nI_ltI, nI_eq, nI_add, pk_mul, pk_sub, up_r, upL_r, jrem_n, jmax_n, if_true, if_false, if_pos, if_neg, gd_i, Nat.zero_add, Nat.add_zero, Nat.mul_zero, nI_nn, nI_nn2, mI_le, mI_ne, mI_ne2, mI_ne3, mI_ne4, ne0, kl_0, kl_1, kl_2, kl_3, kl_4, kl_5, kl_6, kl_7, kl_8, kl_9, kl_10, kl_11, kl_12, kl_13, kl_14, kl_15, kl_16, kl_17, kl_18, kl_19, kl_20, kl_21, kl_22, kl_23, kl_32, kl_40, kl_48, kl_50, kl_53, kl_56, kl_57, kl_60, kl_61, kl_66, kl_97, kl_99, kl_100, kl_120, kl_122, kl_160, kl_200, kl_255, kl_300, kl_500, kl_600, kl_601, kl_999, kl_1000, kl_2048, kl_9999]
    · have m1 := EM_M (μ := μM) hG hF hvM (s := s + 1) (t := t) (by omega)
      have c1 := EM_C (μ := μ) hG hF hv (s := s + 1) (t := t) (by omega)
      by_cases h0 : lg_cmp (EM F g t s) 0 = nI 0
      · refine ⟨nI s, ?_, ?_⟩
        · rw [f5_mean_1]
          simp (disch := omega) only [c1, h0, Nat.add_sub_cancel, nm_s, bd1_s, bd2_s, bd3_s, gd_n, gd_ne, nI_clamp, nI_leI, nI_ltI, nI_eq, nI_add, pk_mul, pk_sub, up_r, upL_r, jrem_n, jmax_n, if_true, if_false, if_pos, if_neg, gd_i, Nat.zero_add, Nat.add_zero, Nat.mul_zero, nI_nn, nI_nn2, mI_le, mI_ne, mI_ne2, mI_ne3, mI_ne4, ne0, kl_0, kl_1, kl_2, kl_3, kl_4, kl_5, kl_6, kl_7, kl_8, kl_9, kl_10, kl_11, kl_12, kl_13, kl_14, kl_15, kl_16, kl_17, kl_18, kl_19, kl_20, kl_21, kl_22, kl_23, kl_32, kl_40, kl_48, kl_50, kl_53, kl_56, kl_57, kl_60, kl_61, kl_66, kl_97, kl_99, kl_100, kl_120, kl_122, kl_160, kl_200, kl_255, kl_300, kl_500, kl_600, kl_601, kl_999, kl_1000, kl_2048, kl_9999]
        · rw [f6_mean_1]
          simp (disch := omega) only [m0, h0, Nat.add_sub_cancel, nm_s, bd1_s, bd2_s, bd3_s, gd_n, gd_ne, nI_clamp, nI_leI, nI_ltI, nI_eq, nI_add, pk_mul, pk_sub, up_r, upL_r, jrem_n, jmax_n, if_true, if_false, if_pos, if_neg, gd_i, Nat.zero_add, Nat.add_zero, Nat.mul_zero, nI_nn, nI_nn2, mI_le, mI_ne, mI_ne2, mI_ne3, mI_ne4, ne0, kl_0, kl_1, kl_2, kl_3, kl_4, kl_5, kl_6, kl_7, kl_8, kl_9, kl_10, kl_11, kl_12, kl_13, kl_14, kl_15, kl_16, kl_17, kl_18, kl_19, kl_20, kl_21, kl_22, kl_23, kl_32, kl_40, kl_48, kl_50, kl_53, kl_56, kl_57, kl_60, kl_61, kl_66, kl_97, kl_99, kl_100, kl_120, kl_122, kl_160, kl_200, kl_255, kl_300, kl_500, kl_600, kl_601, kl_999, kl_1000, kl_2048, kl_9999]
      · by_cases h1 : f5_areOpposite (EM F g t s) (EM F g t (s + 1)) = nI 0
        · obtain ⟨r, q1, q2⟩ := ih (k + 1) (s + 1) (by omega) (by omega) (by omega)
          refine ⟨r, ?_, ?_⟩
          · rw [f5_mean_1]
            simp (disch := omega) only [c1, h0, h1, Nat.add_sub_cancel, nm_s, bd1_s, bd2_s, bd3_s, gd_n, gd_ne, nI_clamp, nI_leI, nI_ltI, nI_eq, nI_add, pk_mul, pk_sub, up_r, upL_r, jrem_n, jmax_n, if_true, if_false, if_pos, if_neg, gd_i, Nat.zero_add, Nat.add_zero, Nat.mul_zero, nI_nn, nI_nn2, mI_le, mI_ne, mI_ne2, mI_ne3, mI_ne4, ne0, kl_0, kl_1, kl_2, kl_3, kl_4, kl_5, kl_6, kl_7, kl_8, kl_9, kl_10, kl_11, kl_12, kl_13, kl_14, kl_15, kl_16, kl_17, kl_18, kl_19, kl_20, kl_21, kl_22, kl_23, kl_32, kl_40, kl_48, kl_50, kl_53, kl_56, kl_57, kl_60, kl_61, kl_66, kl_97, kl_99, kl_100, kl_120, kl_122, kl_160, kl_200, kl_255, kl_300, kl_500, kl_600, kl_601, kl_999, kl_1000, kl_2048, kl_9999]
            exact q1
          · rw [f6_mean_1]
            simp (disch := omega) only [m0, m1, opp_eq, h0, h1, Nat.add_sub_cancel, nm_s, bd1_s, bd2_s, bd3_s, gd_n, gd_ne, nI_clamp, nI_leI, nI_ltI, nI_eq, nI_add, pk_mul, pk_sub, up_r, upL_r, jrem_n, jmax_n, if_true, if_false, if_pos, if_neg, gd_i, Nat.zero_add, Nat.add_zero, Nat.mul_zero, nI_nn, nI_nn2, mI_le, mI_ne, mI_ne2, mI_ne3, mI_ne4, ne0, kl_0, kl_1, kl_2, kl_3, kl_4, kl_5, kl_6, kl_7, kl_8, kl_9, kl_10, kl_11, kl_12, kl_13, kl_14, kl_15, kl_16, kl_17, kl_18, kl_19, kl_20, kl_21, kl_22, kl_23, kl_32, kl_40, kl_48, kl_50, kl_53, kl_56, kl_57, kl_60, kl_61, kl_66, kl_97, kl_99, kl_100, kl_120, kl_122, kl_160, kl_200, kl_255, kl_300, kl_500, kl_600, kl_601, kl_999, kl_1000, kl_2048, kl_9999]
            exact q2
        · refine ⟨nI s, ?_, ?_⟩
          · rw [f5_mean_1]
            simp (disch := omega) only [c1, h0, h1, Nat.add_sub_cancel, nm_s, bd1_s, bd2_s, bd3_s, gd_n, gd_ne, nI_clamp, nI_leI, nI_ltI, nI_eq, nI_add, pk_mul, pk_sub, up_r, upL_r, jrem_n, jmax_n, if_true, if_false, if_pos, if_neg, gd_i, Nat.zero_add, Nat.add_zero, Nat.mul_zero, nI_nn, nI_nn2, mI_le, mI_ne, mI_ne2, mI_ne3, mI_ne4, ne0, kl_0, kl_1, kl_2, kl_3, kl_4, kl_5, kl_6, kl_7, kl_8, kl_9, kl_10, kl_11, kl_12, kl_13, kl_14, kl_15, kl_16, kl_17, kl_18, kl_19, kl_20, kl_21, kl_22, kl_23, kl_32, kl_40, kl_48, kl_50, kl_53, kl_56, kl_57, kl_60, kl_61, kl_66, kl_97, kl_99, kl_100, kl_120, kl_122, kl_160, kl_200, kl_255, kl_300, kl_500, kl_600, kl_601, kl_999, kl_1000, kl_2048, kl_9999]
          · rw [f6_mean_1]
            simp (disch := omega) only [m0, m1, opp_eq, h0, h1, Nat.add_sub_cancel, nm_s, bd1_s, bd2_s, bd3_s, gd_n, gd_ne, nI_clamp, nI_leI, nI_ltI, nI_eq, nI_add, pk_mul, pk_sub, up_r, upL_r, jrem_n, jmax_n, if_true, if_false, if_pos, if_neg, gd_i, Nat.zero_add, Nat.add_zero, Nat.mul_zero, nI_nn, nI_nn2, mI_le, mI_ne, mI_ne2, mI_ne3, mI_ne4, ne0, kl_0, kl_1, kl_2, kl_3, kl_4, kl_5, kl_6, kl_7, kl_8, kl_9, kl_10, kl_11, kl_12, kl_13, kl_14, kl_15, kl_16, kl_17, kl_18, kl_19, kl_20, kl_21, kl_22, kl_23, kl_32, kl_40, kl_48, kl_50, kl_53, kl_56, kl_57, kl_60, kl_61, kl_66, kl_97, kl_99, kl_100, kl_120, kl_122, kl_160, kl_200, kl_255, kl_300, kl_500, kl_600, kl_601, kl_999, kl_1000, kl_2048, kl_9999]
