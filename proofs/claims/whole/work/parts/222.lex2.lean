/-! the other world reads the tape -/
theorem kl_41 : (41 : Int32) = nI 41 := rfl
theorem kl_42 : (42 : Int32) = nI 42 := rfl
theorem kl_43 : (43 : Int32) = nI 43 := rfl
theorem kl_45 : (45 : Int32) = nI 45 := rfl
theorem kl_59 : (59 : Int32) = nI 59 := rfl
def sg : Nat → Nat
  | 12 => 40
  | 13 => 41
  | 14 => 59
  | 15 => 43
  | 16 => 45
  | 17 => 42
  | 18 => 60
  | 19 => 61
  | _ => 0
def gs (b : Nat) : Nat := if b = 40 then 12 else if b = 41 then 13 else if b = 59 then 14 else if b = 43 then 15 else if b = 45 then 16 else if b = 42 then 17 else if b = 60 then 18 else if b = 61 then 19 else 22
theorem ixm (μ : Mem) : ∀ (n x0 : Nat) (x3 x4 x5 : Int32), fJ1_indexOfChar_4cfef_1 μ n x0 x3 x4 x5 = fJ1_indexOfChar_4cfef_1 mz n x0 x3 x4 x5 := by
  intro n
  induction n with
  | zero => intro x0 x3 x4 x5; rfl
  | succ n ih =>
    intro x0 x3 x4 x5
    rw [fJ1_indexOfChar_4cfef_1, fJ1_indexOfChar_4cfef_1, nm_s, nm_s, ih]
theorem ixm2 (μ : Mem) (x : Int32) : fJ0_indexOf_0f7a4 μ 1 x = fJ0_indexOf_0f7a4 mz 1 x := by
  unfold fJ0_indexOf_0f7a4 fJ0_indexOf_7cf53 fJ1_indexOf_4cfef fJ1_indexOfChar_4cfef
  simp only [nm_s, ixm μ]
theorem gs_all : ∀ b, b < 256 → fJ0_indexOf_0f7a4 mz 1 (((nI b).toUInt32 % 65536).toInt32) = some (if gs b = 22 then -nI 1 else nI (gs b - 12)) := by decide +kernel
def KND (B : Nat → Nat) (s q t e v : Nat) (μ : Mem) (ν : Lem) : Prop :=
  (t = 21 ∧ μ 0 23 = nI 0 ∧ μ 0 22 = nI e ∧ q = s) ∨ (t = 20 ∧ μ 0 23 = nI 2 ∧ μ 0 22 = nI e ∧ ν 0 25 = lN v) ∨ (12 ≤ t ∧ t ≤ 19 ∧ μ 0 23 = nI 3 ∧ μ 0 22 = nI e ∧ ν 0 25 = (nI (sg t)).toInt64) ∨ (μ 0 23 = nI 1 ∧ μ 0 22 = nI e ∧ q < e ∧ e ≤ s ∧ (∀ j, q ≤ j → j < e → isL (B j)) ∧ WD B q e t) ∨ (t = 22 ∧ μ 0 23 = nI 4)
def ML (B : Nat → Nat) (s q t e v : Nat) (μ : Mem) (ν : Lem) : Prop := μ 0 24 = nI q ∧ KND B s q t e v μ ν
def CL (q t e v : Nat) (μ : Mem) : Prop := μ 3 3 = nI q ∧ μ 3 4 = nI t ∧ μ 3 2 = nI e ∧ (t = 20 → μ 3 5 = nI v)
def TK (s q t e v : Nat) : Prop := q ≤ e ∧ e ≤ s ∧ t ≤ 22 ∧ v ≤ 9999 ∧ (t ≠ 21 → q < s) ∧ (t ≠ 21 → t ≠ 22 → q < e)
theorem ML.fr {B : Nat → Nat} {s q t e v : Nat} {μ μ' : Mem} {ν : Lem} (h : ML B s q t e v μ ν) (h2 : μ' 0 22 = μ 0 22) (h3 : μ' 0 23 = μ 0 23) (h4 : μ' 0 24 = μ 0 24) : ML B s q t e v μ' ν := by
  unfold ML KND at *
  rw [h2, h3, h4]
  exact h
theorem byte_in {T s i : Nat} {B : Nat → Nat} {μ : Mem} (ν : Lem) (hY : BY s B) (hM : MB T s B μ) (hi : i < s) : f6_byteAt μ ν (nI i) = some (nI (B i)) := by
  obtain ⟨h1, h2, h3, h4⟩ := hM
  have hs := hY.1
  have h5 := h4 i hi
  unfold f6_byteAt
  simp (disch := omega) only [h2, h3, h5, Nat.add_sub_cancel, nm_s, bd1_s, bd2_s, bd3_s, gd_n, gd_ne, nI_clamp, nI_leI, nI_ltI, nI_eq, nI_add, pk_mul, pk_sub, up_r, upL_r, jrem_n, jmax_n, if_true, if_false, if_pos, if_neg, gd_i, Nat.zero_add, Nat.add_zero, Nat.mul_zero, nI_nn, nI_nn2, mI_le, mI_ne, mI_ne2, mI_ne3, mI_ne4, ne0, kl_0, kl_1, kl_2, kl_3, kl_4, kl_5, kl_6, kl_7, kl_8, kl_9, kl_10, kl_11, kl_12, kl_13, kl_14, kl_15, kl_16, kl_17, kl_18, kl_19, kl_20, kl_21, kl_22, kl_23, kl_32, kl_40, kl_48, kl_50, kl_53, kl_56, kl_57, kl_60, kl_61, kl_66, kl_97, kl_99, kl_100, kl_120, kl_122, kl_160, kl_200, kl_255, kl_300, kl_500, kl_600, kl_601, kl_999, kl_1000, kl_2048, kl_9999, and_self, and_true, true_and, and_false, false_and, not_false_eq_true, not_true_eq_false]
theorem byte_out {T s i : Nat} {B : Nat → Nat} {μ : Mem} (ν : Lem) (hY : BY s B) (hM : MB T s B μ) (hi : s ≤ i) (hi2 : i ≤ 999) : f6_byteAt μ ν (nI i) = some (-1) := by
  obtain ⟨h1, h2, h3, h4⟩ := hM
  have hs := hY.1
  unfold f6_byteAt
  rw [h3, if_pos (by rw [nI_leI (by omega) (by omega)]; exact hi)]
theorem nx2 {T s q e : Nat} {B : Nat → Nat} (ν : Lem) (hY : BY s B) (he : e ≤ s) (hP : ∀ j, q ≤ j → j < e → isL (B j)) (hN : e < s → ¬ isL (B e)) : ∀ (n p : Nat) (μ : Mem), q ≤ p → p ≤ e → e - p < n → MB T s B μ → μ 0 22 = nI p → ∃ μ', f6_next_2 n μ ν = some (μ', ν) ∧ μ' 0 22 = nI e ∧ ∀ k i, ¬ (k = 0 ∧ i = 22) → μ' k i = μ k i := by
  have hs := hY.1
  intro n
  induction n with
  | zero => intro p μ _ _ h; omega
  | succ n ih =>
    intro p μ h1 h2 h3 hM e2
    rw [f6_next_2, e2]
    by_cases hps : s ≤ p
    · rw [byte_out ν hY hM hps (by omega), bd1_s, in_m1.1]
      refine ⟨μ, if_pos rfl, ?_, fun _ _ _ => rfl⟩
      rw [e2, show p = e by omega]
    · have hb2 := hY.2 p (by omega)
      rw [byte_in ν hY hM (by omega), bd1_s]
      by_cases hpe : p = e
      · rw [(cLn hb2 (by rw [hpe]; exact hN (by omega))).2]
        refine ⟨μ, if_pos rfl, ?_, fun _ _ _ => rfl⟩
        rw [e2, hpe]
      · rw [(cLy hb2 (hP p h1 (by omega))).2, if_neg (by decide), nm_s]
        have f1 : fN μ (up μ 0 22 (nI p + 1)) := fN.rf.up (by omega)
        obtain ⟨μ', r1, r2, r3⟩ := ih (p + 1) (up μ 0 22 (nI p + 1)) (by omega) (by omega) (by omega) (hM.fr f1) (by rw [up_at, kl_1, nI_add])
        exact ⟨μ', r1, r2, fun k i hh => by rw [r3 k i hh, up_r, if_neg hh]⟩
theorem num64 {v b : Nat} (hv : v ≤ 999) (hb : 48 ≤ b ∧ b ≤ 57) : ((10 : Int64) * lN v) + ((nI b).toInt64) - (48 : Int64) = lN (10 * v + (b - 48)) := by
  have e1 : (nI b).toInt64.toInt = b := by rw [Int32.toInt_toInt64, nI_toInt (by omega)]
  have e2 : (lN v).toInt = v := lN_toInt (by omega)
  have e10 : (10 : Int64).toInt = 10 := by decide
  have e48 : (48 : Int64).toInt = 48 := by decide
  have m : ((10 : Int64) * lN v).toInt = 10 * v := by rw [fb_mulL (by rw [e10, e2]; omega) (by rw [e10, e2]; omega), e10, e2]
  have a : (((10 : Int64) * lN v) + ((nI b).toInt64)).toInt = 10 * v + b := by rw [fb_addL (by rw [m, e1]; omega) (by rw [m, e1]; omega), m, e1]
  apply Int64.toInt_inj.mp
  rw [lN_toInt (by omega), fb_subL (by rw [a, e48]; omega) (by rw [a, e48]; omega), a, e48]
  omega
theorem nx3 {T s q e : Nat} {B : Nat → Nat} (hY : BY s B) (he : e ≤ s) (hP : ∀ j, q ≤ j → j < e → isD (B j)) (hN : e < s → ¬ isD (B e)) : ∀ (n p : Nat) (μ : Mem) (ν : Lem), q ≤ p → p ≤ e → e - p < n → MB T s B μ → μ 0 22 = nI p → ν 0 25 = lN (dv B q (min 4 (p - q))) → ∃ μ' ν', f6_next_3 n μ ν (nI (p - q)) = some (μ', ν') ∧ μ' 0 22 = nI e ∧ μ' 0 23 = nI (if e - q ≤ 4 then 2 else 4) ∧ ν' 0 25 = lN (dv B q (min 4 (e - q))) ∧ ∀ k i, ¬ (k = 0 ∧ (i = 22 ∨ i = 23)) → μ' k i = μ k i := by
  have hs := hY.1
  intro n
  induction n with
  | zero => intro p μ ν _ _ h; omega
  | succ n ih =>
    intro p μ ν h1 h2 h3 hM e2 e5
    have hend : p = e → ∃ μ' ν', (if nI (p - q) ≤ 4 then nm (up μ 0 23 2) (fun μ246 => some (μ246, ν)) else nm (up μ 0 23 4) (fun μ246 => some (μ246, ν))) = some (μ', ν') ∧ μ' 0 22 = nI e ∧ μ' 0 23 = nI (if e - q ≤ 4 then 2 else 4) ∧ ν' 0 25 = lN (dv B q (min 4 (e - q))) ∧ ∀ k i, ¬ (k = 0 ∧ (i = 22 ∨ i = 23)) → μ' k i = μ k i := by
      intro hpe
      subst hpe
      by_cases h4 : p - q ≤ 4
      · rw [if_pos h4, if_pos (by rw [kl_4, nI_leI (by omega) (by omega)]; exact h4), nm_s]
        exact ⟨_, ν, rfl, by rw [up_r, if_neg (by omega)]; exact e2, up_at, e5, fun k i hh => by rw [up_r, if_neg (by omega)]⟩
      · rw [if_neg h4, if_neg (by rw [kl_4, nI_leI (by omega) (by omega)]; exact h4), nm_s]
        exact ⟨_, ν, rfl, by rw [up_r, if_neg (by omega)]; exact e2, up_at, e5, fun k i hh => by rw [up_r, if_neg (by omega)]⟩
    rw [f6_next_3, e2]
    by_cases hps : s ≤ p
    · rw [byte_out ν hY hM hps (by omega), bd1_s, in_m1.2, if_pos (show nI 0 = 0 from rfl)]
      exact hend (by omega)
    · have hb2 := hY.2 p (by omega)
      rw [byte_in ν hY hM (by omega), bd1_s]
      by_cases hpe : p = e
      · rw [(cDn hb2 (by rw [hpe]; exact hN (by omega))).2, if_pos (show nI 0 = 0 from rfl)]
        exact hend hpe
      · have hd := hP p h1 (by omega)
        rw [(cDy hb2 hd).2, if_neg (by decide)]
        have f1 : fN μ (up μ 0 22 (nI p + 1)) := fN.rf.up (by omega)
        have ex : nI (p - q) + 1 = nI (p + 1 - q) := by rw [kl_1, nI_add, show p - q + 1 = p + 1 - q by omega]
        by_cases h4 : 4 ≤ p - q
        · rw [if_pos (by rw [kl_4, nI_leI (by omega) (by omega)]; exact h4)]
          unfold f6_next_4
          rw [nm_s, nm_s, nm_s, e2, ex]
          obtain ⟨μ', ν', r1, r2, r3, r4, r5⟩ := ih (p + 1) (up μ 0 22 (nI p + 1)) (upL ν 0 25 (ν 0 25)) (by omega) (by omega) (by omega) (hM.fr f1) (by rw [up_at, kl_1, nI_add]) (by
            rw [upL_at, e5, show min 4 (p - q) = min 4 (p + 1 - q) by omega])
          exact ⟨μ', ν', r1, r2, r3, r4, fun k i hh => by rw [r5 k i hh, up_r, if_neg (by omega)]⟩
        · rw [if_neg (by rw [kl_4, nI_leI (by omega) (by omega)]; exact h4), bd1_s]
          unfold f6_next_4
          rw [nm_s, nm_s, nm_s, e2, ex]
          have h6 := dv_le (B := B) (q := q) (p - q) (fun i hi => hP _ (by omega) (by omega))
          have h7 : 10 ^ (p - q) ≤ 10 ^ 3 := Nat.pow_le_pow_right (by decide) (by omega)
          unfold isD at hd
          obtain ⟨μ', ν', r1, r2, r3, r4, r5⟩ := ih (p + 1) (up μ 0 22 (nI p + 1)) (upL ν 0 25 ((((10 : Int64) * (ν 0 25)) + ((nI (B p)).toInt64)) - (48 : Int64))) (by omega) (by omega) (by omega) (hM.fr f1) (by rw [up_at, kl_1, nI_add]) (by
            rw [upL_at, e5, show min 4 (p - q) = p - q by omega, num64 (by omega) hd, show min 4 (p + 1 - q) = (p - q) + 1 by omega]
            show _ = lN (10 * dv B q (p - q) + (B (q + (p - q)) - 48))
            rw [show q + (p - q) = p by omega])
          exact ⟨μ', ν', r1, r2, r3, r4, fun k i hh => by rw [r5 k i hh, up_r, if_neg (by omega)]⟩
def nxR (μ58 : Mem) (ν : Lem) (r52 : Int32) : Option (Mem × Lem) :=
  if (f6_in (r52.toInt64) (97 : Int64) (122 : Int64)) = 0 then if (f6_in (r52.toInt64) (48 : Int64) (57 : Int64)) = 0 then if r52 = 40 then f6_next_5 μ58 ν r52 else if r52 = 41 then f6_next_5 μ58 ν r52 else if r52 = 59 then f6_next_5 μ58 ν r52 else if r52 = 43 then f6_next_5 μ58 ν r52 else if r52 = 45 then f6_next_5 μ58 ν r52 else if r52 = 42 then f6_next_5 μ58 ν r52 else if r52 = 60 then f6_next_5 μ58 ν r52 else if r52 = 61 then f6_next_5 μ58 ν r52 else some (μ58, ν) else nm (up μ58 0 23 2) (fun μ150 => nm (upL ν 0 25 (0 : Int64)) (fun ν155 => f6_next_3 FUEL μ150 ν155 0)) else nm (up μ58 0 23 1) (fun μ97 => f6_next_2 FUEL μ97 ν)
theorem nx1h {T s q : Nat} {B : Nat → Nat} {μ : Mem} {ν : Lem} (hY : BY s B) (hq : q < s) (hM : MB T s B μ) (e2 : μ 0 22 = nI q) (hb0 : ¬ B q = 32) (hb1 : ¬ B q = 10) (n : Nat) : f6_next_1 (n + 1) μ ν = nxR (up (up μ 0 24 (nI q)) 0 23 (nI 4)) ν (nI (B q)) := by
  have hs := hY.1
  have hb2 := hY.2 q hq
  have f1 : fN μ (up μ 0 24 (nI q)) := fN.rf.up (by omega)
  have b1 := byte_in ν hY hM hq
  have b2 := byte_in ν hY (hM.fr f1) hq
  have n1 : ¬ nI (B q) = 32 := by rw [kl_32, nI_eq (by omega) (by omega)]; exact hb0
  have n2 : ¬ nI (B q) = 10 := by rw [kl_10, nI_eq (by omega) (by omega)]; exact hb1
  have n3 : (0 : Int32) ≤ nI (B q) := nI_pos' (by omega)
  have ex : up μ 0 24 (nI q) 0 22 = nI q := by rw [up_r, if_neg (by omega)]; exact e2
  rw [f6_next_1, e2, b1, bd1_s, if_neg n1, bd1_s, if_neg n2, nm_s, ex, b2, bd1_s, nm_s, if_pos n3, kl_4]
  rfl
theorem lex_w {s q : Nat} {B : Nat → Nat} (hY : BY s B) (hq : q < s) (hb0 : ¬ B q = 32) (hb1 : ¬ B q = 10) (hL : isL (B q)) : ∃ t e v, TK s q t e v ∧ (∀ μ : Mem, CB s B μ → μ 3 2 = nI q → ∃ μ', f2_advance_2 μ = some μ' ∧ CL q t e v μ' ∧ fA μ μ') ∧ ∀ (T : Nat) (μ : Mem) (ν : Lem) (n : Nat), MB T s B μ → μ 0 22 = nI q → ∃ μ' ν', f6_next_1 (n + 1) μ ν = some (μ', ν') ∧ ML B s q t e v μ' ν' ∧ fN μ μ' := by
  have hs := hY.1
  have hb2 := hY.2 q hq
  obtain ⟨e, h1, h2, h3, h4⟩ := run_ex isL B s (s - q) q (by omega)
  have hqe : q < e := by
    rcases Nat.lt_or_eq_of_le h1 with h | h
    · exact h
    · subst h; exact absurd hL (h4 hq)
  obtain ⟨t, ht, hr⟩ := rdw hY h1 h2 h3 h4
  have ht22 : t ≤ 22 := by rcases ht with ⟨a, -⟩ | ⟨a, -⟩ <;> omega
  refine ⟨t, e, 0, ⟨h1, h2, ht22, by omega, fun _ => hq, fun _ _ => hqe⟩, ?_, ?_⟩
  · intro μ hC e2
    have f1 : fA μ (up μ 3 3 (nI q)) := fA.rf.up (by omega)
    obtain ⟨μ', r1, r2, r3, r4, r5⟩ := hr FUEL q (up μ 3 3 (nI q)) (Nat.le_refl _) h1 (fuel_o (by omega)) (hC.fr f1) (by rw [up_r, if_neg (by omega)]; exact e2) up_at
    have hl := hC.1
    have hb := hC.2 q hq
    have c1 := (cLy hb2 hL).1
    refine ⟨μ', ?_, ⟨r3, r4, r2, fun h => ?_⟩, f1.tr r5⟩
    · unfold f2_advance_2 f2_readWord
      simp (disch := omega) only [e2, hl, hb, c1, r1, Nat.add_sub_cancel, nm_s, bd1_s, bd2_s, bd3_s, gd_n, gd_ne, nI_clamp, nI_leI, nI_ltI, nI_eq, nI_add, pk_mul, pk_sub, up_r, upL_r, jrem_n, jmax_n, if_true, if_false, if_pos, if_neg, gd_i, Nat.zero_add, Nat.add_zero, Nat.mul_zero, nI_nn, nI_nn2, mI_le, mI_ne, mI_ne2, mI_ne3, mI_ne4, ne0, kl_0, kl_1, kl_2, kl_3, kl_4, kl_5, kl_6, kl_7, kl_8, kl_9, kl_10, kl_11, kl_12, kl_13, kl_14, kl_15, kl_16, kl_17, kl_18, kl_19, kl_20, kl_21, kl_22, kl_23, kl_32, kl_40, kl_48, kl_50, kl_53, kl_56, kl_57, kl_60, kl_61, kl_66, kl_97, kl_99, kl_100, kl_120, kl_122, kl_160, kl_200, kl_255, kl_300, kl_500, kl_600, kl_601, kl_999, kl_1000, kl_2048, kl_9999, and_self, and_true, true_and, and_false, false_and, not_false_eq_true, not_true_eq_false]
    · rcases ht with ⟨a, -⟩ | ⟨a, -⟩ <;> omega
  · intro T μ ν n hM e2
    have f1 : fN μ (up μ 0 24 (nI q)) := fN.rf.up (by omega)
    have f3 : fN μ (up (up (up μ 0 24 (nI q)) 0 23 (nI 4)) 0 23 (nI 1)) := (f1.up (by omega)).up (by omega)
    have b1 := byte_in ν hY hM hq
    have b2 := byte_in ν hY (hM.fr f1) hq
    have c1 := (cLy hb2 hL).2
    obtain ⟨μ', r1, r2, r3⟩ := nx2 ν hY h2 h3 h4 FUEL q (up (up (up μ 0 24 (nI q)) 0 23 (nI 4)) 0 23 (nI 1)) (Nat.le_refl _) h1 (fuel_o (by omega)) (hM.fr f3) (by rw [up_r, if_neg (by omega), up_r, if_neg (by omega), up_r, if_neg (by omega)]; exact e2)
    refine ⟨μ', ν, ?_, ⟨?_, ?_⟩, f3.tr fun k i hh => r3 k i (by omega)⟩
    · rw [nx1h hY hq hM e2 hb0 hb1]
      unfold nxR
      rw [c1, if_neg (show ¬ nI 1 = 0 by decide), nm_s, kl_1]
      exact r1
    · rw [r3 _ _ (by omega), up_r, if_neg (by omega), up_r, if_neg (by omega), up_at]
    · exact Or.inr (Or.inr (Or.inr (Or.inl ⟨by rw [r3 _ _ (by omega)]; exact up_at, r2, hqe, h2, h3, ht⟩)))
theorem lN_short {v : Nat} (h : v ≤ 9999) : (lN v).toInt32 = nI v := by
  have : ∀ a, a < 100 → ∀ b, b < 100 → (lN (100 * a + b)).toInt32 = nI (100 * a + b) := by decide +kernel
  have h2 := this (v / 100) (by omega) (v % 100) (by omega)
  rw [show 100 * (v / 100) + v % 100 = v by omega] at h2
  exact h2
theorem lex_d {s q : Nat} {B : Nat → Nat} (hY : BY s B) (hq : q < s) (hb0 : ¬ B q = 32) (hb1 : ¬ B q = 10) (hL : ¬ isL (B q)) (hD : isD (B q)) : ∃ t e v, TK s q t e v ∧ (∀ μ : Mem, CB s B μ → μ 3 2 = nI q → ∃ μ', f2_advance_2 μ = some μ' ∧ CL q t e v μ' ∧ fA μ μ') ∧ ∀ (T : Nat) (μ : Mem) (ν : Lem) (n : Nat), MB T s B μ → μ 0 22 = nI q → ∃ μ' ν', f6_next_1 (n + 1) μ ν = some (μ', ν') ∧ ML B s q t e v μ' ν' ∧ fN μ μ' := by
  have hs := hY.1
  have hb2 := hY.2 q hq
  obtain ⟨e, h1, h2, h3, h4⟩ := run_ex isD B s (s - q) q (by omega)
  have hqe : q < e := by
    rcases Nat.lt_or_eq_of_le h1 with h | h
    · exact h
    · subst h; exact absurd hD (h4 hq)
  have hv : dv B q (min 4 (e - q)) ≤ 9999 := dv4 (by omega) (fun i hi => h3 _ (by omega) (by omega))
  refine ⟨if e - q ≤ 4 then 20 else 22, e, dv B q (min 4 (e - q)), ⟨h1, h2, by split <;> omega, hv, fun _ => hq, fun _ _ => hqe⟩, ?_, ?_⟩
  · intro μ hC e2
    have f1 : fA μ (up (up μ 3 3 (nI q)) 3 5 (nI 0)) := (fA.rf.up (by omega)).up (by omega)
    obtain ⟨μ', r1, r2, r3, r4, r5, r6⟩ := rdn hY h1 h2 h3 h4 FUEL q (up (up μ 3 3 (nI q)) 3 5 (nI 0)) (Nat.le_refl _) h1 (fuel_o (by omega)) (hC.fr f1) (by rw [up_r, if_neg (by omega), up_r, if_neg (by omega)]; exact e2) (by rw [up_r, if_neg (by omega), up_at]) (fun _ => by rw [up_at, Nat.sub_self]; rfl)
    have hl := hC.1
    have hb := hC.2 q hq
    have c1 := (cLn hb2 hL).1
    have c2 := (cDy hb2 hD).1
    refine ⟨μ', ?_, ⟨r3, r4, r2, fun h => ?_⟩, f1.tr r6⟩
    · unfold f2_advance_2 f2_readNumber
      simp (disch := omega) only [e2, hl, hb, c1, c2, r1, Nat.add_sub_cancel, nm_s, bd1_s, bd2_s, bd3_s, gd_n, gd_ne, nI_clamp, nI_leI, nI_ltI, nI_eq, nI_add, pk_mul, pk_sub, up_r, upL_r, jrem_n, jmax_n, if_true, if_false, if_pos, if_neg, gd_i, Nat.zero_add, Nat.add_zero, Nat.mul_zero, nI_nn, nI_nn2, mI_le, mI_ne, mI_ne2, mI_ne3, mI_ne4, ne0, kl_0, kl_1, kl_2, kl_3, kl_4, kl_5, kl_6, kl_7, kl_8, kl_9, kl_10, kl_11, kl_12, kl_13, kl_14, kl_15, kl_16, kl_17, kl_18, kl_19, kl_20, kl_21, kl_22, kl_23, kl_32, kl_40, kl_48, kl_50, kl_53, kl_56, kl_57, kl_60, kl_61, kl_66, kl_97, kl_99, kl_100, kl_120, kl_122, kl_160, kl_200, kl_255, kl_300, kl_500, kl_600, kl_601, kl_999, kl_1000, kl_2048, kl_9999, and_self, and_true, true_and, and_false, false_and, not_false_eq_true, not_true_eq_false]
    · have h5 : e - q ≤ 4 := by
        by_cases h6 : e - q ≤ 4
        · exact h6
        · rw [if_neg h6] at h; omega
      rw [show min 4 (e - q) = e - q by omega]
      exact r5 h5
  · intro T μ ν n hM e2
    have f1 : fN μ (up μ 0 24 (nI q)) := fN.rf.up (by omega)
    have f3 : fN μ (up (up (up μ 0 24 (nI q)) 0 23 (nI 4)) 0 23 (nI 2)) := (f1.up (by omega)).up (by omega)
    have b1 := byte_in ν hY hM hq
    have b2 := byte_in ν hY (hM.fr f1) hq
    have c1 := (cLn hb2 hL).2
    have c2 := (cDy hb2 hD).2
    obtain ⟨μ', ν', r1, r2, r3, r4, r5⟩ := nx3 hY h2 h3 h4 FUEL q (up (up (up μ 0 24 (nI q)) 0 23 (nI 4)) 0 23 (nI 2)) (upL ν 0 25 (0 : Int64)) (Nat.le_refl _) h1 (fuel_o (by omega)) (hM.fr f3) (by rw [up_r, if_neg (by omega), up_r, if_neg (by omega), up_r, if_neg (by omega)]; exact e2) (by rw [upL_at, Nat.sub_self]; rfl)
    rw [Nat.sub_self] at r1
    refine ⟨μ', ν', ?_, ⟨?_, ?_⟩, f3.tr fun k i hh => r5 k i (by omega)⟩
    · rw [nx1h hY hq hM e2 hb0 hb1]
      unfold nxR
      rw [c1, if_pos (show nI 0 = 0 from rfl), c2, if_neg (show ¬ nI 1 = 0 by decide), nm_s, nm_s, kl_2, kl_0]
      exact r1
    · rw [r5 _ _ (by omega), up_r, if_neg (by omega), up_r, if_neg (by omega), up_at]
    · by_cases h6 : e - q ≤ 4
      · rw [if_pos h6] at r3 ⊢
        exact Or.inr (Or.inl ⟨rfl, r3, r2, r4⟩)
      · rw [if_neg h6] at r3 ⊢
        exact Or.inr (Or.inr (Or.inr (Or.inr ⟨rfl, r3⟩)))
theorem gs_case {b : Nat} (h : b ≤ 255) : (b = 40 ∧ gs b = 12) ∨ (b = 41 ∧ gs b = 13) ∨ (b = 59 ∧ gs b = 14) ∨ (b = 43 ∧ gs b = 15) ∨ (b = 45 ∧ gs b = 16) ∨ (b = 42 ∧ gs b = 17) ∨ (b = 60 ∧ gs b = 18) ∨ (b = 61 ∧ gs b = 19) ∨ (¬ b = 40 ∧ ¬ b = 41 ∧ ¬ b = 59 ∧ ¬ b = 43 ∧ ¬ b = 45 ∧ ¬ b = 42 ∧ ¬ b = 60 ∧ ¬ b = 61 ∧ gs b = 22) := by
  have : ∀ b, b < 256 → ((b = 40 ∧ gs b = 12) ∨ (b = 41 ∧ gs b = 13) ∨ (b = 59 ∧ gs b = 14) ∨ (b = 43 ∧ gs b = 15) ∨ (b = 45 ∧ gs b = 16) ∨ (b = 42 ∧ gs b = 17) ∨ (b = 60 ∧ gs b = 18) ∨ (b = 61 ∧ gs b = 19) ∨ (¬ b = 40 ∧ ¬ b = 41 ∧ ¬ b = 59 ∧ ¬ b = 43 ∧ ¬ b = 45 ∧ ¬ b = 42 ∧ ¬ b = 60 ∧ ¬ b = 61 ∧ gs b = 22)) := by decide +kernel
  exact this b (by omega)
theorem gs_ge {b : Nat} (h : b ≤ 255) : 12 ≤ gs b ∧ gs b ≤ 22 ∧ gs b ≠ 21 := by
  rcases gs_case h with h | h | h | h | h | h | h | h | h <;> omega
theorem lex_s {s q : Nat} {B : Nat → Nat} (hY : BY s B) (hq : q < s) (hb0 : ¬ B q = 32) (hb1 : ¬ B q = 10) (hL : ¬ isL (B q)) (hD : ¬ isD (B q)) : ∃ t e v, TK s q t e v ∧ (∀ μ : Mem, CB s B μ → μ 3 2 = nI q → ∃ μ', f2_advance_2 μ = some μ' ∧ CL q t e v μ' ∧ fA μ μ') ∧ ∀ (T : Nat) (μ : Mem) (ν : Lem) (n : Nat), MB T s B μ → μ 0 22 = nI q → ∃ μ' ν', f6_next_1 (n + 1) μ ν = some (μ', ν') ∧ ML B s q t e v μ' ν' ∧ fN μ μ' := by
  have hs := hY.1
  have hb2 := hY.2 q hq
  have hg := gs_ge hb2
  refine ⟨gs (B q), q + 1, 0, ⟨by omega, by omega, by omega, by omega, fun _ => hq, fun _ _ => by omega⟩, ?_, ?_⟩
  · intro μ hC e2
    have hl := hC.1
    have hb := hC.2 q hq
    have c1 := (cLn hb2 hL).1
    have c2 := (cDn hb2 hD).1
    have c3 := gs_all (B q) (by omega)
    refine ⟨up (up (up μ 3 3 (nI q)) 3 4 (nI (gs (B q)))) 3 2 (nI (q + 1)), ?_, ⟨by rw [up_r, if_neg (by omega), up_r, if_neg (by omega), up_at], by rw [up_r, if_neg (by omega), up_at], up_at, fun h => ?_⟩, ((fA.rf.up (by omega)).up (by omega)).up (by omega)⟩
    · unfold f2_advance_2 f2_advance_3
      by_cases h22 : gs (B q) = 22
      · rw [if_pos h22] at c3
        have hneg : ¬ nI 0 ≤ -nI 1 := by decide
        simp (disch := omega) only [e2, hl, hb, c1, c2, ixm2 (up μ 3 3 (nI q)), c3, hneg, h22, Nat.add_sub_cancel, nm_s, bd1_s, bd2_s, bd3_s, gd_n, gd_ne, nI_clamp, nI_leI, nI_ltI, nI_eq, nI_add, pk_mul, pk_sub, up_r, upL_r, jrem_n, jmax_n, if_true, if_false, if_pos, if_neg, gd_i, Nat.zero_add, Nat.add_zero, Nat.mul_zero, nI_nn, nI_nn2, mI_le, mI_ne, mI_ne2, mI_ne3, mI_ne4, ne0, kl_0, kl_1, kl_2, kl_3, kl_4, kl_5, kl_6, kl_7, kl_8, kl_9, kl_10, kl_11, kl_12, kl_13, kl_14, kl_15, kl_16, kl_17, kl_18, kl_19, kl_20, kl_21, kl_22, kl_23, kl_32, kl_40, kl_48, kl_50, kl_53, kl_56, kl_57, kl_60, kl_61, kl_66, kl_97, kl_99, kl_100, kl_120, kl_122, kl_160, kl_200, kl_255, kl_300, kl_500, kl_600, kl_601, kl_999, kl_1000, kl_2048, kl_9999, and_self, and_true, true_and, and_false, false_and, not_false_eq_true, not_true_eq_false]
      · rw [if_neg h22] at c3
        have h12 : 12 + (gs (B q) - 12) = gs (B q) := by omega
        simp (disch := omega) only [e2, hl, hb, c1, c2, ixm2 (up μ 3 3 (nI q)), c3, h12, Nat.add_sub_cancel, nm_s, bd1_s, bd2_s, bd3_s, gd_n, gd_ne, nI_clamp, nI_leI, nI_ltI, nI_eq, nI_add, pk_mul, pk_sub, up_r, upL_r, jrem_n, jmax_n, if_true, if_false, if_pos, if_neg, gd_i, Nat.zero_add, Nat.add_zero, Nat.mul_zero, nI_nn, nI_nn2, mI_le, mI_ne, mI_ne2, mI_ne3, mI_ne4, ne0, kl_0, kl_1, kl_2, kl_3, kl_4, kl_5, kl_6, kl_7, kl_8, kl_9, kl_10, kl_11, kl_12, kl_13, kl_14, kl_15, kl_16, kl_17, kl_18, kl_19, kl_20, kl_21, kl_22, kl_23, kl_32, kl_40, kl_48, kl_50, kl_53, kl_56, kl_57, kl_60, kl_61, kl_66, kl_97, kl_99, kl_100, kl_120, kl_122, kl_160, kl_200, kl_255, kl_300, kl_500, kl_600, kl_601, kl_999, kl_1000, kl_2048, kl_9999, and_self, and_true, true_and, and_false, false_and, not_false_eq_true, not_true_eq_false]
    · rcases gs_case hb2 with h | h | h | h | h | h | h | h | h <;> omega
  · intro T μ ν n hM e2
    have f1 : fN μ (up μ 0 24 (nI q)) := fN.rf.up (by omega)
    have b1 := byte_in ν hY hM hq
    have b2 := byte_in ν hY (hM.fr f1) hq
    have c1 := (cLn hb2 hL).2
    have c2 := (cDn hb2 hD).2
    by_cases h22 : gs (B q) = 22
    · refine ⟨up (up μ 0 24 (nI q)) 0 23 (nI 4), ν, ?_, ⟨by rw [up_r, if_neg (by omega), up_at], Or.inr (Or.inr (Or.inr (Or.inr ⟨h22, up_at⟩)))⟩, f1.up (by omega)⟩
      rw [nx1h hY hq hM e2 hb0 hb1]
      unfold nxR
      rw [c1, if_pos (show nI 0 = 0 from rfl), c2, if_pos (show nI 0 = 0 from rfl)]
      rcases gs_case hb2 with h | h | h | h | h | h | h | h | ⟨g1, g2, g3, g4, g5, g6, g7, g8, -⟩
      · omega
      · omega
      · omega
      · omega
      · omega
      · omega
      · omega
      · omega
      · rw [if_neg (by rw [kl_40, nI_eq (by omega) (by omega)]; exact g1), if_neg (by rw [kl_41, nI_eq (by omega) (by omega)]; exact g2), if_neg (by rw [kl_59, nI_eq (by omega) (by omega)]; exact g3), if_neg (by rw [kl_43, nI_eq (by omega) (by omega)]; exact g4), if_neg (by rw [kl_45, nI_eq (by omega) (by omega)]; exact g5), if_neg (by rw [kl_42, nI_eq (by omega) (by omega)]; exact g6), if_neg (by rw [kl_60, nI_eq (by omega) (by omega)]; exact g7), if_neg (by rw [kl_61, nI_eq (by omega) (by omega)]; exact g8)]
    · have hsg : sg (gs (B q)) = B q ∧ gs (B q) ≤ 19 := by
        rcases gs_case hb2 with ⟨h, h'⟩ | ⟨h, h'⟩ | ⟨h, h'⟩ | ⟨h, h'⟩ | ⟨h, h'⟩ | ⟨h, h'⟩ | ⟨h, h'⟩ | ⟨h, h'⟩ | h
        · rw [h', h]; exact ⟨rfl, by decide⟩
        · rw [h', h]; exact ⟨rfl, by decide⟩
        · rw [h', h]; exact ⟨rfl, by decide⟩
        · rw [h', h]; exact ⟨rfl, by decide⟩
        · rw [h', h]; exact ⟨rfl, by decide⟩
        · rw [h', h]; exact ⟨rfl, by decide⟩
        · rw [h', h]; exact ⟨rfl, by decide⟩
        · rw [h', h]; exact ⟨rfl, by decide⟩
        · omega
      refine ⟨up (up (up (up μ 0 24 (nI q)) 0 23 (nI 4)) 0 23 (nI 3)) 0 22 (nI (q + 1)), upL ν 0 25 ((nI (B q)).toInt64), ?_, ⟨by rw [up_r, if_neg (by omega), up_r, if_neg (by omega), up_r, if_neg (by omega), up_at], Or.inr (Or.inr (Or.inl ⟨hg.1, hsg.2, by rw [up_r, if_neg (by omega), up_at], up_at, by rw [upL_at, hsg.1]⟩))⟩, ((f1.up (by omega)).up (by omega)).up (by omega)⟩
      rw [nx1h hY hq hM e2 hb0 hb1]
      have h5 : f6_next_5 (up (up μ 0 24 (nI q)) 0 23 (nI 4)) ν (nI (B q)) = some (up (up (up (up μ 0 24 (nI q)) 0 23 (nI 4)) 0 23 (nI 3)) 0 22 (nI (q + 1)), upL ν 0 25 ((nI (B q)).toInt64)) := by
        unfold f6_next_5
        simp (disch := omega) only [e2, Nat.add_sub_cancel, nm_s, bd1_s, bd2_s, bd3_s, gd_n, gd_ne, nI_clamp, nI_leI, nI_ltI, nI_eq, nI_add, pk_mul, pk_sub, up_r, upL_r, jrem_n, jmax_n, if_true, if_false, if_pos, if_neg, gd_i, Nat.zero_add, Nat.add_zero, Nat.mul_zero, nI_nn, nI_nn2, mI_le, mI_ne, mI_ne2, mI_ne3, mI_ne4, ne0, kl_0, kl_1, kl_2, kl_3, kl_4, kl_5, kl_6, kl_7, kl_8, kl_9, kl_10, kl_11, kl_12, kl_13, kl_14, kl_15, kl_16, kl_17, kl_18, kl_19, kl_20, kl_21, kl_22, kl_23, kl_32, kl_40, kl_48, kl_50, kl_53, kl_56, kl_57, kl_60, kl_61, kl_66, kl_97, kl_99, kl_100, kl_120, kl_122, kl_160, kl_200, kl_255, kl_300, kl_500, kl_600, kl_601, kl_999, kl_1000, kl_2048, kl_9999, and_self, and_true, true_and, and_false, false_and, not_false_eq_true, not_true_eq_false]
      rw [← h5]
      unfold nxR
      rw [c1, if_pos (show nI 0 = 0 from rfl), c2, if_pos (show nI 0 = 0 from rfl)]
      rcases gs_case hb2 with ⟨h, -⟩ | ⟨h, -⟩ | ⟨h, -⟩ | ⟨h, -⟩ | ⟨h, -⟩ | ⟨h, -⟩ | ⟨h, -⟩ | ⟨h, -⟩ | ⟨g1, g2, g3, g4, g5, g6, g7, g8, h⟩
      · rw [h, if_pos (by decide)]
      · rw [h, if_neg (by decide), if_pos (by decide)]
      · rw [h, if_neg (by decide), if_neg (by decide), if_pos (by decide)]
      · rw [h, if_neg (by decide), if_neg (by decide), if_neg (by decide), if_pos (by decide)]
      · rw [h, if_neg (by decide), if_neg (by decide), if_neg (by decide), if_neg (by decide), if_pos (by decide)]
      · rw [h, if_neg (by decide), if_neg (by decide), if_neg (by decide), if_neg (by decide), if_neg (by decide), if_pos (by decide)]
      · rw [h, if_neg (by decide), if_neg (by decide), if_neg (by decide), if_neg (by decide), if_neg (by decide), if_neg (by decide), if_pos (by decide)]
      · rw [h, if_neg (by decide), if_neg (by decide), if_neg (by decide), if_neg (by decide), if_neg (by decide), if_neg (by decide), if_neg (by decide), if_pos (by decide)]
      · exact absurd h h22
theorem lex_e {s : Nat} {B : Nat → Nat} (hY : BY s B) : ∃ t e v, TK s s t e v ∧ (∀ μ : Mem, CB s B μ → μ 3 2 = nI s → ∃ μ', f2_advance_2 μ = some μ' ∧ CL s t e v μ' ∧ fA μ μ') ∧ ∀ (T : Nat) (μ : Mem) (ν : Lem) (n : Nat), MB T s B μ → μ 0 22 = nI s → ∃ μ' ν', f6_next_1 (n + 1) μ ν = some (μ', ν') ∧ ML B s s t e v μ' ν' ∧ fN μ μ' := by
  have hs := hY.1
  refine ⟨21, s, 0, ⟨Nat.le_refl _, Nat.le_refl _, by omega, by omega, fun h => absurd rfl h, fun h => absurd rfl h⟩, ?_, ?_⟩
  · intro μ hC e2
    have hl := hC.1
    refine ⟨up (up μ 3 3 (nI s)) 3 4 (nI 21), ?_, ⟨by rw [up_r, if_neg (by omega), up_at], up_at, by rw [up_r, if_neg (by omega), up_r, if_neg (by omega)]; exact e2, fun h => by omega⟩, (fA.rf.up (by omega)).up (by omega)⟩
    unfold f2_advance_2
    simp (disch := omega) only [e2, hl, Nat.add_sub_cancel, nm_s, bd1_s, bd2_s, bd3_s, gd_n, gd_ne, nI_clamp, nI_leI, nI_ltI, nI_eq, nI_add, pk_mul, pk_sub, up_r, upL_r, jrem_n, jmax_n, if_true, if_false, if_pos, if_neg, gd_i, Nat.zero_add, Nat.add_zero, Nat.mul_zero, nI_nn, nI_nn2, mI_le, mI_ne, mI_ne2, mI_ne3, mI_ne4, ne0, kl_0, kl_1, kl_2, kl_3, kl_4, kl_5, kl_6, kl_7, kl_8, kl_9, kl_10, kl_11, kl_12, kl_13, kl_14, kl_15, kl_16, kl_17, kl_18, kl_19, kl_20, kl_21, kl_22, kl_23, kl_32, kl_40, kl_48, kl_50, kl_53, kl_56, kl_57, kl_60, kl_61, kl_66, kl_97, kl_99, kl_100, kl_120, kl_122, kl_160, kl_200, kl_255, kl_300, kl_500, kl_600, kl_601, kl_999, kl_1000, kl_2048, kl_9999, and_self, and_true, true_and, and_false, false_and, not_false_eq_true, not_true_eq_false]
  · intro T μ ν n hM e2
    have f1 : fN μ (up μ 0 24 (nI s)) := fN.rf.up (by omega)
    have b1 := byte_out ν hY hM (Nat.le_refl s) (by omega)
    have b2 := byte_out ν hY (hM.fr f1) (Nat.le_refl s) (by omega)
    have h21 := hM.2.2.1
    refine ⟨up (up (up (up μ 0 24 (nI s)) 0 23 (nI 4)) 0 23 (nI 0)) 0 24 (nI s), ν, ?_, ⟨up_at, Or.inl ⟨rfl, by rw [up_r, if_neg (by omega), up_at], by rw [up_r, if_neg (by omega), up_r, if_neg (by omega), up_r, if_neg (by omega), up_r, if_neg (by omega)]; exact e2, rfl⟩⟩, ((f1.up (by omega)).up (by omega)).up (by omega)⟩
    rw [f6_next_1]
    have n1 : ¬ (-1 : Int32) = 32 := by decide
    have n2 : ¬ (-1 : Int32) = 10 := by decide
    have n3 : ¬ (0 : Int32) ≤ -1 := by decide
    rw [e2, b1, bd1_s, if_neg n1, bd1_s, if_neg n2, nm_s, up_r, if_neg (by omega), e2, b2, bd1_s, nm_s, if_neg n3, nm_s]
    simp (disch := omega) only [h21, Nat.add_sub_cancel, nm_s, bd1_s, bd2_s, bd3_s, gd_n, gd_ne, nI_clamp, nI_leI, nI_ltI, nI_eq, nI_add, pk_mul, pk_sub, up_r, upL_r, jrem_n, jmax_n, if_true, if_false, if_pos, if_neg, gd_i, Nat.zero_add, Nat.add_zero, Nat.mul_zero, nI_nn, nI_nn2, mI_le, mI_ne, mI_ne2, mI_ne3, mI_ne4, ne0, kl_0, kl_1, kl_2, kl_3, kl_4, kl_5, kl_6, kl_7, kl_8, kl_9, kl_10, kl_11, kl_12, kl_13, kl_14, kl_15, kl_16, kl_17, kl_18, kl_19, kl_20, kl_21, kl_22, kl_23, kl_32, kl_40, kl_48, kl_50, kl_53, kl_56, kl_57, kl_60, kl_61, kl_66, kl_97, kl_99, kl_100, kl_120, kl_122, kl_160, kl_200, kl_255, kl_300, kl_500, kl_600, kl_601, kl_999, kl_1000, kl_2048, kl_9999, and_self, and_true, true_and, and_false, false_and, not_false_eq_true, not_true_eq_false]
/-- the next word from p on -/
theorem lex {s : Nat} {B : Nat → Nat} (hY : BY s B) : ∀ (m p : Nat), p + m = s → ∃ q t e v, p ≤ q ∧ TK s q t e v ∧ (∀ (n : Nat) (μ : Mem), s - p < n → CB s B μ → μ 3 2 = nI p → ∃ μ', f2_advance_1 n μ = some μ' ∧ CL q t e v μ' ∧ fA μ μ') ∧ ∀ (T : Nat) (μ : Mem) (ν : Lem) (n : Nat), s - p < n → MB T s B μ → μ 0 22 = nI p → ∃ μ' ν', f6_next_1 n μ ν = some (μ', ν') ∧ ML B s q t e v μ' ν' ∧ fN μ μ' := by
  have hs := hY.1
  intro m
  induction m with
  | zero =>
    intro p hp
    obtain rfl : p = s := by omega
    obtain ⟨t, e, v, h1, h2, h3⟩ := lex_e hY
    refine ⟨p, t, e, v, Nat.le_refl _, h1, fun n μ hn hC e2 => ?_, fun T μ ν n hn hM e2 => ?_⟩
    · obtain ⟨n, rfl⟩ : ∃ n', n = n' + 1 := ⟨n - 1, by omega⟩
      have hl := hC.1
      rw [f2_advance_1, if_pos (by rw [hl, e2, nI_leI (by omega) (by omega)]; exact Nat.le_refl _)]
      exact h2 μ hC e2
    · obtain ⟨n, rfl⟩ : ∃ n', n = n' + 1 := ⟨n - 1, by omega⟩
      exact h3 T μ ν n hM e2
  | succ m ih =>
    intro p hp
    have hb2 := hY.2 p (by omega)
    by_cases hbl : B p = 32 ∨ B p = 10
    · obtain ⟨q, t, e, v, h0, h1, h2, h3⟩ := ih (p + 1) (by omega)
      refine ⟨q, t, e, v, by omega, h1, fun n μ hn hC e2 => ?_, fun T μ ν n hn hM e2 => ?_⟩
      · obtain ⟨n, rfl⟩ : ∃ n', n = n' + 1 := ⟨n - 1, by omega⟩
        have hl := hC.1
        have hb := hC.2 p (by omega)
        have f1 : fA μ (up μ 3 2 (nI (p + 1))) := fA.rf.up (by omega)
        obtain ⟨μ', r1, r2, r3⟩ := h2 n _ (by omega) (hC.fr f1) up_at
        refine ⟨μ', ?_, r2, f1.tr r3⟩
        rw [f2_advance_1]
        rcases hbl with h | h
        · rw [h] at hb
          simp (disch := omega) only [hl, e2, hb, Nat.add_sub_cancel, nm_s, bd1_s, bd2_s, bd3_s, gd_n, gd_ne, nI_clamp, nI_leI, nI_ltI, nI_eq, nI_add, pk_mul, pk_sub, up_r, upL_r, jrem_n, jmax_n, if_true, if_false, if_pos, if_neg, gd_i, Nat.zero_add, Nat.add_zero, Nat.mul_zero, nI_nn, nI_nn2, mI_le, mI_ne, mI_ne2, mI_ne3, mI_ne4, ne0, kl_0, kl_1, kl_2, kl_3, kl_4, kl_5, kl_6, kl_7, kl_8, kl_9, kl_10, kl_11, kl_12, kl_13, kl_14, kl_15, kl_16, kl_17, kl_18, kl_19, kl_20, kl_21, kl_22, kl_23, kl_32, kl_40, kl_48, kl_50, kl_53, kl_56, kl_57, kl_60, kl_61, kl_66, kl_97, kl_99, kl_100, kl_120, kl_122, kl_160, kl_200, kl_255, kl_300, kl_500, kl_600, kl_601, kl_999, kl_1000, kl_2048, kl_9999, and_self, and_true, true_and, and_false, false_and, not_false_eq_true, not_true_eq_false]
          exact r1
        · rw [h] at hb
          simp (disch := omega) only [hl, e2, hb, Nat.add_sub_cancel, nm_s, bd1_s, bd2_s, bd3_s, gd_n, gd_ne, nI_clamp, nI_leI, nI_ltI, nI_eq, nI_add, pk_mul, pk_sub, up_r, upL_r, jrem_n, jmax_n, if_true, if_false, if_pos, if_neg, gd_i, Nat.zero_add, Nat.add_zero, Nat.mul_zero, nI_nn, nI_nn2, mI_le, mI_ne, mI_ne2, mI_ne3, mI_ne4, ne0, kl_0, kl_1, kl_2, kl_3, kl_4, kl_5, kl_6, kl_7, kl_8, kl_9, kl_10, kl_11, kl_12, kl_13, kl_14, kl_15, kl_16, kl_17, kl_18, kl_19, kl_20, kl_21, kl_22, kl_23, kl_32, kl_40, kl_48, kl_50, kl_53, kl_56, kl_57, kl_60, kl_61, kl_66, kl_97, kl_99, kl_100, kl_120, kl_122, kl_160, kl_200, kl_255, kl_300, kl_500, kl_600, kl_601, kl_999, kl_1000, kl_2048, kl_9999, and_self, and_true, true_and, and_false, false_and, not_false_eq_true, not_true_eq_false]
          exact r1
      · obtain ⟨n, rfl⟩ : ∃ n', n = n' + 1 := ⟨n - 1, by omega⟩
        have b1 := byte_in ν hY hM (i := p) (by omega)
        have f1 : fN μ (up μ 0 22 (nI (p + 1))) := fN.rf.up (by omega)
        obtain ⟨μ', ν', r1, r2, r3⟩ := h3 T _ ν n (by omega) (hM.fr f1) up_at
        refine ⟨μ', ν', ?_, r2, f1.tr r3⟩
        rw [f6_next_1, e2, b1, bd1_s]
        rcases hbl with h | h
        · rw [h, if_pos (show nI 32 = 32 from rfl), nm_s, kl_1, nI_add]
          exact r1
        · rw [h, if_neg (by decide), bd1_s, if_pos (show nI 10 = 10 from rfl), nm_s, kl_1, nI_add]
          exact r1
    · have g0 : ¬ B p = 32 := fun h => hbl (Or.inl h)
      have g1 : ¬ B p = 10 := fun h => hbl (Or.inr h)
      have key : ∃ t e v, TK s p t e v ∧ (∀ μ : Mem, CB s B μ → μ 3 2 = nI p → ∃ μ', f2_advance_2 μ = some μ' ∧ CL p t e v μ' ∧ fA μ μ') ∧ ∀ (T : Nat) (μ : Mem) (ν : Lem) (n : Nat), MB T s B μ → μ 0 22 = nI p → ∃ μ' ν', f6_next_1 (n + 1) μ ν = some (μ', ν') ∧ ML B s p t e v μ' ν' ∧ fN μ μ' := by
        by_cases hL : isL (B p)
        · exact lex_w hY (by omega) g0 g1 hL
        · by_cases hD : isD (B p)
          · exact lex_d hY (by omega) g0 g1 hL hD
          · exact lex_s hY (by omega) g0 g1 hL hD
      obtain ⟨t, e, v, h1, h2, h3⟩ := key
      refine ⟨p, t, e, v, Nat.le_refl _, h1, fun n μ hn hC e2 => ?_, fun T μ ν n hn hM e2 => ?_⟩
      · obtain ⟨n, rfl⟩ : ∃ n', n = n' + 1 := ⟨n - 1, by omega⟩
        have hl := hC.1
        have hb := hC.2 p (by omega)
        obtain ⟨μ', r1, r2, r3⟩ := h2 μ hC e2
        refine ⟨μ', ?_, r2, r3⟩
        rw [f2_advance_1]
        simp (disch := omega) only [hl, e2, hb, g0, g1, Nat.add_sub_cancel, nm_s, bd1_s, bd2_s, bd3_s, gd_n, gd_ne, nI_clamp, nI_leI, nI_ltI, nI_eq, nI_add, pk_mul, pk_sub, up_r, upL_r, jrem_n, jmax_n, if_true, if_false, if_pos, if_neg, gd_i, Nat.zero_add, Nat.add_zero, Nat.mul_zero, nI_nn, nI_nn2, mI_le, mI_ne, mI_ne2, mI_ne3, mI_ne4, ne0, kl_0, kl_1, kl_2, kl_3, kl_4, kl_5, kl_6, kl_7, kl_8, kl_9, kl_10, kl_11, kl_12, kl_13, kl_14, kl_15, kl_16, kl_17, kl_18, kl_19, kl_20, kl_21, kl_22, kl_23, kl_32, kl_40, kl_48, kl_50, kl_53, kl_56, kl_57, kl_60, kl_61, kl_66, kl_97, kl_99, kl_100, kl_120, kl_122, kl_160, kl_200, kl_255, kl_300, kl_500, kl_600, kl_601, kl_999, kl_1000, kl_2048, kl_9999, and_self, and_true, true_and, and_false, false_and, not_false_eq_true, not_true_eq_false]
        exact r1
      · obtain ⟨n, rfl⟩ : ∃ n', n = n' + 1 := ⟨n - 1, by omega⟩
        exact h3 T μ ν n hM e2
/-- the next word, as the two say it -/
theorem nxt {s p : Nat} {B : Nat → Nat} (hY : BY s B) (hp : p ≤ s) : ∃ q t e v, p ≤ q ∧ TK s q t e v ∧ (∀ (μ : Mem), CB s B μ → μ 3 2 = nI p → ∃ μ', f2_advance μ = some μ' ∧ CL q t e v μ' ∧ fA μ μ') ∧ ∀ (T : Nat) (μ : Mem) (ν : Lem), MB T s B μ → μ 0 22 = nI p → ∃ μ' ν', f6_next μ ν = some (μ', ν') ∧ ML B s q t e v μ' ν' ∧ fN μ μ' := by
  have hs := hY.1
  obtain ⟨q, t, e, v, h1, h2, h3, h4⟩ := lex hY (s - p) p (by omega)
  exact ⟨q, t, e, v, h1, h2, fun μ => h3 FUEL μ (fuel_o (by omega)), fun T μ ν => h4 T μ ν FUEL (fuel_o (by omega))⟩
