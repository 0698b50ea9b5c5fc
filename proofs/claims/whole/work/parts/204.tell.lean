/-! what a rule tells: code on a stack, text read anew -/
theorem cpl (c : Int32) : (c ^^^ (-1)).toInt = -c.toInt - 1 := by
  have h1 : (c ^^^ (-1)).toBitVec = ~~~c.toBitVec := by
    rw [Int32.toBitVec_xor, show (-1 : Int32).toBitVec = BitVec.allOnes 32 from by decide, BitVec.xor_allOnes]
  show (c ^^^ (-1)).toBitVec.toInt = -(c.toBitVec.toInt) - 1
  rw [h1, BitVec.toInt_eq_toNat_cond, BitVec.toInt_eq_toNat_cond, BitVec.toNat_not]
  have := c.toBitVec.isLt
  split <;> split <;> omega
theorem cpl_n {c : Int32} (h : ¬ 0 ≤ c) : ∃ e : Nat, e < 2 ^ 31 ∧ c ^^^ (-1) = nI e := by
  rw [fa_le, show (0 : Int32).toInt = 0 by decide] at h
  have h1 := cpl c
  have h2 := fb_rng c
  refine ⟨(-c.toInt - 1).toNat, by omega, ?_⟩
  rw [fa_eq, h1, nI_toInt (by omega)]
  omega
theorem truth_n {a : Nat} (h : a ≤ 1) : f3_truth (nI a) = nI a := by
  have : a = 0 ∨ a = 1 := by omega
  rcases this with rfl | rfl
  · rfl
  · rfl
theorem ev_append (env : Nat → Int32) : ∀ (a b st : List Int32), ev env (a ++ b) st = ev env b (ev env a st)
  | [], _, _ => rfl
  | _ :: cs, b, st => ev_append env cs b _
/-- the stack, the last pushed first, as it lies in the row -/
def stk (μ : Mem) (st : List Int32) : Prop := ∀ j, j < st.length → st[st.length - 1 - j]? = some (μ 10 j)
theorem stk.top {μ : Mem} {x : Int32} {r : List Int32} (h : stk μ (x :: r)) : μ 10 r.length = x := by
  have := h r.length (by simp)
  rw [show (x :: r).length - 1 - r.length = 0 by simp] at this
  exact (Option.some.inj this).symm
theorem stk.pop {μ : Mem} {x : Int32} {r : List Int32} (h : stk μ (x :: r)) : stk μ r := by
  intro j hj
  have := h j (by simp; omega)
  rw [show (x :: r).length - 1 - j = (r.length - 1 - j) + 1 by simp; omega, List.getElem?_cons_succ] at this
  exact this
theorem stk.push {μ : Mem} {r : List Int32} (h : stk μ r) (x : Int32) : stk (up μ 10 r.length x) (x :: r) := by
  intro j hj
  rw [up_r]
  by_cases e : j = r.length
  · subst e
    rw [if_pos ⟨rfl, rfl⟩, show (x :: r).length - 1 - r.length = 0 by simp]
    rfl
  · have hj2 : j < r.length := by simp at hj; omega
    rw [if_neg (by omega), show (x :: r).length - 1 - j = (r.length - 1 - j) + 1 by simp; omega, List.getElem?_cons_succ]
    exact h j hj2
/-- but the stack's row nothing has changed -/
def fS (μ μ' : Mem) : Prop := ∀ k i, k ≠ 10 → μ' k i = μ k i
theorem fS.up {μ μ1 : Mem} {i : Nat} {v : Int32} (h : fS μ μ1) : fS μ (up μ1 10 i v) := fun k' i' q => by
  rw [up_r, if_neg (by omega)]
  exact h k' i' q
theorem tell1 {t k E : Nat} {env : Nat → Int32} {μ0 : Mem} (ht : t < 6) (hk : k < 3) (hE : μ0 (55 + 3 * t) k = nI E) (hE1 : E ≤ 160) (henv : ∀ e, e < 6 → μ0 9 e = env e) : ∀ (c st : List Int32) (μ : Mem) (i n : Nat),
    fS μ0 μ → stk μ st → (∀ j, j < c.length → c[j]? = some (μ0 (54 + 3 * t) (i + j))) → i + c.length = E → st.length + c.length ≤ 160 → c.length < n →
    ∃ μ', f3_tell_1 n μ t (nI k) (nI st.length) (nI i) = some ((ev env c st).headD 0, μ') ∧ fS μ0 μ' := by
  intro c
  induction c with
  | nil =>
    intro st μ i n hf hs hc hi hl hn
    obtain ⟨n, rfl⟩ : ∃ n', n = n' + 1 := ⟨n - 1, by have : 0 < n := hn; omega⟩
    have e1 : μ (55 + 3 * t) k = nI E := by rw [hf _ _ (by omega)]; exact hE
    have hi : i = E := hi
    refine ⟨μ, ?_, hf⟩
    rw [f3_tell_1]
    have hl : st.length ≤ 160 := by simpa using hl
    cases st with
    | nil => simp (disch := omega) only [e1, List.length_nil, Nat.add_sub_cancel, nm_s, bd1_s, bd2_s, bd3_s, gd_n, gd_ne, nI_clamp, nI_leI, nI_ltI, nI_eq, nI_add, pk_mul, pk_sub, up_r, upL_r, jrem_n, jmax_n, if_true, if_false, if_pos, if_neg, gd_i, Nat.zero_add, Nat.add_zero, Nat.mul_zero, nI_nn, nI_nn2, mI_le, mI_ne, mI_ne2, mI_ne3, mI_ne4, ne0, kl_0, kl_1, kl_2, kl_3, kl_4, kl_5, kl_6, kl_7, kl_8, kl_9, kl_10, kl_11, kl_12, kl_13, kl_14, kl_15, kl_16, kl_17, kl_18, kl_19, kl_20, kl_21, kl_22, kl_23, kl_32, kl_40, kl_48, kl_50, kl_53, kl_56, kl_57, kl_60, kl_61, kl_66, kl_97, kl_99, kl_100, kl_120, kl_122, kl_160, kl_200, kl_255, kl_300, kl_500, kl_600, kl_601, kl_999, kl_1000, kl_2048, kl_9999]; rfl
    | cons x r =>
      have h9 : r.length + 1 ≤ 160 := hl
      have := hs.top
      simp (disch := omega) only [e1, List.length_cons, this, Nat.add_sub_cancel, nm_s, bd1_s, bd2_s, bd3_s, gd_n, gd_ne, nI_clamp, nI_leI, nI_ltI, nI_eq, nI_add, pk_mul, pk_sub, up_r, upL_r, jrem_n, jmax_n, if_true, if_false, if_pos, if_neg, gd_i, Nat.zero_add, Nat.add_zero, Nat.mul_zero, nI_nn, nI_nn2, mI_le, mI_ne, mI_ne2, mI_ne3, mI_ne4, ne0, kl_0, kl_1, kl_2, kl_3, kl_4, kl_5, kl_6, kl_7, kl_8, kl_9, kl_10, kl_11, kl_12, kl_13, kl_14, kl_15, kl_16, kl_17, kl_18, kl_19, kl_20, kl_21, kl_22, kl_23, kl_32, kl_40, kl_48, kl_50, kl_53, kl_56, kl_57, kl_60, kl_61, kl_66, kl_97, kl_99, kl_100, kl_120, kl_122, kl_160, kl_200, kl_255, kl_300, kl_500, kl_600, kl_601, kl_999, kl_1000, kl_2048, kl_9999]
      rfl
  | cons c cs ih =>
    intro st μ i n hf hs hc hi hl hn
    obtain ⟨n, rfl⟩ : ∃ n', n = n' + 1 := ⟨n - 1, by have : 0 < n := Nat.lt_of_le_of_lt (Nat.zero_le _) hn; omega⟩
    have e1 : μ (55 + 3 * t) k = nI E := by rw [hf _ _ (by omega)]; exact hE
    have hlen : (c :: cs).length = cs.length + 1 := rfl
    rw [hlen] at hi hl hn
    have hci : μ (54 + 3 * t) i = c := by
      rw [hf _ _ (by omega)]
      have := hc 0 (by rw [hlen]; omega)
      exact (Option.some.inj this).symm
    have hcs : ∀ j, j < cs.length → cs[j]? = some (μ0 (54 + 3 * t) (i + 1 + j)) := fun j hj => by
      have := hc (j + 1) (by rw [hlen]; omega)
      rw [List.getElem?_cons_succ] at this
      rw [this, show i + (j + 1) = i + 1 + j by omega]
    have hgo : ∀ (st' : List Int32) (μ' : Mem), fS μ0 μ' → stk μ' st' → st'.length ≤ st.length + 1 → ∃ μ'', f3_tell_1 n μ' t (nI k) (nI st'.length) (nI (i + 1)) = some ((ev env cs st').headD 0, μ'') ∧ fS μ0 μ'' :=
      fun st' μ' h1 h2 h3 => ih st' μ' (i + 1) n h1 h2 hcs (by omega) (by omega) (by omega)
    have hst : st.length < 160 := by omega
    show ∃ μ', f3_tell_1 (n + 1) μ t (nI k) (nI st.length) (nI i) = some ((ev env cs (stp env c st)).headD 0, μ') ∧ fS μ0 μ'
    rw [f3_tell_1]
    unfold stp
    by_cases h0 : (0 : Int32) ≤ c
    · rw [if_pos h0]
      have h0' : nI 0 ≤ c := h0
      have hneg : ¬ c < nI 0 := by
        rw [fa_le] at h0'; rw [fa_lt]; omega
      obtain ⟨μ'', q1, q2⟩ := hgo (c :: st) (up μ 10 st.length c) hf.up (hs.push c) (Nat.le_refl _)
      refine ⟨μ'', ?_, q2⟩
      simp (disch := omega) only [e1, hci, h0', f3_tell_2, hneg, Nat.add_sub_cancel, nm_s, bd1_s, bd2_s, bd3_s, gd_n, gd_ne, nI_clamp, nI_leI, nI_ltI, nI_eq, nI_add, pk_mul, pk_sub, up_r, upL_r, jrem_n, jmax_n, if_true, if_false, if_pos, if_neg, gd_i, Nat.zero_add, Nat.add_zero, Nat.mul_zero, nI_nn, nI_nn2, mI_le, mI_ne, mI_ne2, mI_ne3, mI_ne4, ne0, kl_0, kl_1, kl_2, kl_3, kl_4, kl_5, kl_6, kl_7, kl_8, kl_9, kl_10, kl_11, kl_12, kl_13, kl_14, kl_15, kl_16, kl_17, kl_18, kl_19, kl_20, kl_21, kl_22, kl_23, kl_32, kl_40, kl_48, kl_50, kl_53, kl_56, kl_57, kl_60, kl_61, kl_66, kl_97, kl_99, kl_100, kl_120, kl_122, kl_160, kl_200, kl_255, kl_300, kl_500, kl_600, kl_601, kl_999, kl_1000, kl_2048, kl_9999]
      exact q1
    · rw [if_neg h0]
      obtain ⟨e, he, hce⟩ := cpl_n h0
      have h0' : ¬ nI 0 ≤ c := h0
      have hneg : c < nI 0 := by
        rw [fa_le] at h0'; rw [fa_lt]; omega
      have hce' : c ^^^ (-nI 1) = nI e := hce
      rw [hce, show (6 : Int32) = nI 6 from rfl, show (11 : Int32) = nI 11 from rfl, show (23 : Int32) = nI 23 from rfl]
      by_cases h6 : e < 6
      · rw [if_pos (nI_lt h6 (by decide)), nI_clamp he]
        have hen : μ 9 e = env e := by rw [hf _ _ (by omega)]; exact henv e h6
        obtain ⟨μ'', q1, q2⟩ := hgo (env e :: st) (up μ 10 st.length (env e)) hf.up (hs.push _) (Nat.le_refl _)
        refine ⟨μ'', ?_, q2⟩
        simp (disch := omega) only [e1, hci, h0', f3_tell_2, hneg, hce', hen, Nat.add_sub_cancel, nm_s, bd1_s, bd2_s, bd3_s, gd_n, gd_ne, nI_clamp, nI_leI, nI_ltI, nI_eq, nI_add, pk_mul, pk_sub, up_r, upL_r, jrem_n, jmax_n, if_true, if_false, if_pos, if_neg, gd_i, Nat.zero_add, Nat.add_zero, Nat.mul_zero, nI_nn, nI_nn2, mI_le, mI_ne, mI_ne2, mI_ne3, mI_ne4, ne0, kl_0, kl_1, kl_2, kl_3, kl_4, kl_5, kl_6, kl_7, kl_8, kl_9, kl_10, kl_11, kl_12, kl_13, kl_14, kl_15, kl_16, kl_17, kl_18, kl_19, kl_20, kl_21, kl_22, kl_23, kl_32, kl_40, kl_48, kl_50, kl_53, kl_56, kl_57, kl_60, kl_61, kl_66, kl_97, kl_99, kl_100, kl_120, kl_122, kl_160, kl_200, kl_255, kl_300, kl_500, kl_600, kl_601, kl_999, kl_1000, kl_2048, kl_9999]
        exact q1
      · rw [if_neg (nI_nlt (by omega) he)]
        by_cases h11 : e = 11
        · subst h11
          rw [if_pos rfl]
          cases st with
          | nil =>
            obtain ⟨μ'', q1, q2⟩ := hgo [] μ hf hs (by simp)
            refine ⟨μ'', ?_, q2⟩
            have q1 : f3_tell_1 n μ t (nI k) (nI 0) (nI (i + 1)) = some ((ev env cs []).headD 0, μ'') := q1
            simp (disch := omega) only [e1, hci, h0', f3_tell_3, hce', List.length_nil, Nat.add_sub_cancel, nm_s, bd1_s, bd2_s, bd3_s, gd_n, gd_ne, nI_clamp, nI_leI, nI_ltI, nI_eq, nI_add, pk_mul, pk_sub, up_r, upL_r, jrem_n, jmax_n, if_true, if_false, if_pos, if_neg, gd_i, Nat.zero_add, Nat.add_zero, Nat.mul_zero, nI_nn, nI_nn2, mI_le, mI_ne, mI_ne2, mI_ne3, mI_ne4, ne0, kl_0, kl_1, kl_2, kl_3, kl_4, kl_5, kl_6, kl_7, kl_8, kl_9, kl_10, kl_11, kl_12, kl_13, kl_14, kl_15, kl_16, kl_17, kl_18, kl_19, kl_20, kl_21, kl_22, kl_23, kl_32, kl_40, kl_48, kl_50, kl_53, kl_56, kl_57, kl_60, kl_61, kl_66, kl_97, kl_99, kl_100, kl_120, kl_122, kl_160, kl_200, kl_255, kl_300, kl_500, kl_600, kl_601, kl_999, kl_1000, kl_2048, kl_9999]
            exact q1
          | cons x r =>
            have h9 : r.length + 1 < 160 := hst
            have hx := hs.top
            obtain ⟨μ'', q1, q2⟩ := hgo ((if x = 0 then 1 else 0) :: r) (up μ 10 r.length (if x = 0 then 1 else 0)) hf.up (hs.pop.push _) (Nat.le_succ _)
            refine ⟨μ'', ?_, q2⟩
            have q1 : f3_tell_1 n (up μ 10 r.length (if x = 0 then 1 else 0)) t (nI k) (nI (r.length + 1)) (nI (i + 1)) = some ((ev env cs ((if x = 0 then 1 else 0) :: r)).headD 0, μ'') := q1
            by_cases hx0 : x = nI 0
            · simp (disch := omega) only [e1, hci, h0', f3_tell_3, f3_tell_4, hce', List.length_cons, hx, hx0, truth_n, Nat.add_sub_cancel, nm_s, bd1_s, bd2_s, bd3_s, gd_n, gd_ne, nI_clamp, nI_leI, nI_ltI, nI_eq, nI_add, pk_mul, pk_sub, up_r, upL_r, jrem_n, jmax_n, if_true, if_false, if_pos, if_neg, gd_i, Nat.zero_add, Nat.add_zero, Nat.mul_zero, nI_nn, nI_nn2, mI_le, mI_ne, mI_ne2, mI_ne3, mI_ne4, ne0, kl_0, kl_1, kl_2, kl_3, kl_4, kl_5, kl_6, kl_7, kl_8, kl_9, kl_10, kl_11, kl_12, kl_13, kl_14, kl_15, kl_16, kl_17, kl_18, kl_19, kl_20, kl_21, kl_22, kl_23, kl_32, kl_40, kl_48, kl_50, kl_53, kl_56, kl_57, kl_60, kl_61, kl_66, kl_97, kl_99, kl_100, kl_120, kl_122, kl_160, kl_200, kl_255, kl_300, kl_500, kl_600, kl_601, kl_999, kl_1000, kl_2048, kl_9999]
              rw [if_pos (show x = 0 from hx0)] at q1
              exact q1
            · simp (disch := omega) only [e1, hci, h0', f3_tell_3, f3_tell_4, hce', List.length_cons, hx, hx0, truth_n, Nat.add_sub_cancel, nm_s, bd1_s, bd2_s, bd3_s, gd_n, gd_ne, nI_clamp, nI_leI, nI_ltI, nI_eq, nI_add, pk_mul, pk_sub, up_r, upL_r, jrem_n, jmax_n, if_true, if_false, if_pos, if_neg, gd_i, Nat.zero_add, Nat.add_zero, Nat.mul_zero, nI_nn, nI_nn2, mI_le, mI_ne, mI_ne2, mI_ne3, mI_ne4, ne0, kl_0, kl_1, kl_2, kl_3, kl_4, kl_5, kl_6, kl_7, kl_8, kl_9, kl_10, kl_11, kl_12, kl_13, kl_14, kl_15, kl_16, kl_17, kl_18, kl_19, kl_20, kl_21, kl_22, kl_23, kl_32, kl_40, kl_48, kl_50, kl_53, kl_56, kl_57, kl_60, kl_61, kl_66, kl_97, kl_99, kl_100, kl_120, kl_122, kl_160, kl_200, kl_255, kl_300, kl_500, kl_600, kl_601, kl_999, kl_1000, kl_2048, kl_9999]
              rw [if_neg (show ¬ x = 0 from hx0)] at q1
              exact q1
        · have hn11 : ¬ nI e = nI 11 := by rw [nI_eq he (by decide)]; exact h11
          rw [if_neg hn11]
          by_cases h23 : e = 23
          · subst h23
            rw [if_pos rfl]
            cases st with
            | nil =>
              obtain ⟨μ'', q1, q2⟩ := hgo [] μ hf hs (by simp)
              refine ⟨μ'', ?_, q2⟩
              have q1 : f3_tell_1 n μ t (nI k) (nI 0) (nI (i + 1)) = some ((ev env cs []).headD 0, μ'') := q1
              simp (disch := omega) only [e1, hci, h0', f3_tell_3, hce', List.length_nil, Nat.add_sub_cancel, nm_s, bd1_s, bd2_s, bd3_s, gd_n, gd_ne, nI_clamp, nI_leI, nI_ltI, nI_eq, nI_add, pk_mul, pk_sub, up_r, upL_r, jrem_n, jmax_n, if_true, if_false, if_pos, if_neg, gd_i, Nat.zero_add, Nat.add_zero, Nat.mul_zero, nI_nn, nI_nn2, mI_le, mI_ne, mI_ne2, mI_ne3, mI_ne4, ne0, kl_0, kl_1, kl_2, kl_3, kl_4, kl_5, kl_6, kl_7, kl_8, kl_9, kl_10, kl_11, kl_12, kl_13, kl_14, kl_15, kl_16, kl_17, kl_18, kl_19, kl_20, kl_21, kl_22, kl_23, kl_32, kl_40, kl_48, kl_50, kl_53, kl_56, kl_57, kl_60, kl_61, kl_66, kl_97, kl_99, kl_100, kl_120, kl_122, kl_160, kl_200, kl_255, kl_300, kl_500, kl_600, kl_601, kl_999, kl_1000, kl_2048, kl_9999]
              exact q1
            | cons x r =>
              have h9 : r.length + 1 < 160 := hst
              have hx := hs.top
              obtain ⟨μ'', q1, q2⟩ := hgo ((-x) :: r) (up μ 10 r.length (-x)) hf.up (hs.pop.push _) (Nat.le_succ _)
              refine ⟨μ'', ?_, q2⟩
              have q1 : f3_tell_1 n (up μ 10 r.length (-x)) t (nI k) (nI (r.length + 1)) (nI (i + 1)) = some ((ev env cs ((-x) :: r)).headD 0, μ'') := q1
              simp (disch := omega) only [e1, hci, h0', f3_tell_3, hce', List.length_cons, hx, Nat.add_sub_cancel, nm_s, bd1_s, bd2_s, bd3_s, gd_n, gd_ne, nI_clamp, nI_leI, nI_ltI, nI_eq, nI_add, pk_mul, pk_sub, up_r, upL_r, jrem_n, jmax_n, if_true, if_false, if_pos, if_neg, gd_i, Nat.zero_add, Nat.add_zero, Nat.mul_zero, nI_nn, nI_nn2, mI_le, mI_ne, mI_ne2, mI_ne3, mI_ne4, ne0, kl_0, kl_1, kl_2, kl_3, kl_4, kl_5, kl_6, kl_7, kl_8, kl_9, kl_10, kl_11, kl_12, kl_13, kl_14, kl_15, kl_16, kl_17, kl_18, kl_19, kl_20, kl_21, kl_22, kl_23, kl_32, kl_40, kl_48, kl_50, kl_53, kl_56, kl_57, kl_60, kl_61, kl_66, kl_97, kl_99, kl_100, kl_120, kl_122, kl_160, kl_200, kl_255, kl_300, kl_500, kl_600, kl_601, kl_999, kl_1000, kl_2048, kl_9999]
              exact q1
          · have hn23 : ¬ nI e = nI 23 := by rw [nI_eq he (by decide)]; exact h23
            rw [if_neg hn23]
            cases st with
            | nil =>
              obtain ⟨μ'', q1, q2⟩ := hgo [] μ hf hs (by simp)
              refine ⟨μ'', ?_, q2⟩
              have q1 : f3_tell_1 n μ t (nI k) (nI 0) (nI (i + 1)) = some ((ev env cs []).headD 0, μ'') := q1
              simp (disch := omega) only [e1, hci, h0', hce', List.length_nil, Nat.add_sub_cancel, nm_s, bd1_s, bd2_s, bd3_s, gd_n, gd_ne, nI_clamp, nI_leI, nI_ltI, nI_eq, nI_add, pk_mul, pk_sub, up_r, upL_r, jrem_n, jmax_n, if_true, if_false, if_pos, if_neg, gd_i, Nat.zero_add, Nat.add_zero, Nat.mul_zero, nI_nn, nI_nn2, mI_le, mI_ne, mI_ne2, mI_ne3, mI_ne4, ne0, kl_0, kl_1, kl_2, kl_3, kl_4, kl_5, kl_6, kl_7, kl_8, kl_9, kl_10, kl_11, kl_12, kl_13, kl_14, kl_15, kl_16, kl_17, kl_18, kl_19, kl_20, kl_21, kl_22, kl_23, kl_32, kl_40, kl_48, kl_50, kl_53, kl_56, kl_57, kl_60, kl_61, kl_66, kl_97, kl_99, kl_100, kl_120, kl_122, kl_160, kl_200, kl_255, kl_300, kl_500, kl_600, kl_601, kl_999, kl_1000, kl_2048, kl_9999]
              exact q1
            | cons y r =>
              cases r with
              | nil =>
                obtain ⟨μ'', q1, q2⟩ := hgo [y] μ hf hs (by simp)
                refine ⟨μ'', ?_, q2⟩
                have q1 : f3_tell_1 n μ t (nI k) (nI 1) (nI (i + 1)) = some ((ev env cs [y]).headD 0, μ'') := q1
                simp (disch := omega) only [e1, hci, h0', hce', List.length_nil, List.length_cons, Nat.add_sub_cancel, nm_s, bd1_s, bd2_s, bd3_s, gd_n, gd_ne, nI_clamp, nI_leI, nI_ltI, nI_eq, nI_add, pk_mul, pk_sub, up_r, upL_r, jrem_n, jmax_n, if_true, if_false, if_pos, if_neg, gd_i, Nat.zero_add, Nat.add_zero, Nat.mul_zero, nI_nn, nI_nn2, mI_le, mI_ne, mI_ne2, mI_ne3, mI_ne4, ne0, kl_0, kl_1, kl_2, kl_3, kl_4, kl_5, kl_6, kl_7, kl_8, kl_9, kl_10, kl_11, kl_12, kl_13, kl_14, kl_15, kl_16, kl_17, kl_18, kl_19, kl_20, kl_21, kl_22, kl_23, kl_32, kl_40, kl_48, kl_50, kl_53, kl_56, kl_57, kl_60, kl_61, kl_66, kl_97, kl_99, kl_100, kl_120, kl_122, kl_160, kl_200, kl_255, kl_300, kl_500, kl_600, kl_601, kl_999, kl_1000, kl_2048, kl_9999]
                exact q1
              | cons x r =>
                have h9 : r.length + 1 + 1 < 160 := hst
                have hy := hs.top
                have hx := hs.pop.top
                have hy' : μ 10 (r.length + 1) = y := hy
                obtain ⟨μ'', q1, q2⟩ := hgo (jn (nI e) x y :: r) (up μ 10 r.length (jn (nI e) x y)) hf.up (hs.pop.pop.push _) (by simp)
                refine ⟨μ'', ?_, q2⟩
                have q1 : f3_tell_1 n (up μ 10 r.length (jn (nI e) x y)) t (nI k) (nI (r.length + 1)) (nI (i + 1)) = some ((ev env cs (jn (nI e) x y :: r)).headD 0, μ'') := q1
                simp (disch := omega) only [e1, hci, h0', hce', List.length_cons, pk_m1', hx, hy', Nat.add_sub_cancel, nm_s, bd1_s, bd2_s, bd3_s, gd_n, gd_ne, nI_clamp, nI_leI, nI_ltI, nI_eq, nI_add, pk_mul, pk_sub, up_r, upL_r, jrem_n, jmax_n, if_true, if_false, if_pos, if_neg, gd_i, Nat.zero_add, Nat.add_zero, Nat.mul_zero, nI_nn, nI_nn2, mI_le, mI_ne, mI_ne2, mI_ne3, mI_ne4, ne0, kl_0, kl_1, kl_2, kl_3, kl_4, kl_5, kl_6, kl_7, kl_8, kl_9, kl_10, kl_11, kl_12, kl_13, kl_14, kl_15, kl_16, kl_17, kl_18, kl_19, kl_20, kl_21, kl_22, kl_23, kl_32, kl_40, kl_48, kl_50, kl_53, kl_56, kl_57, kl_60, kl_61, kl_66, kl_97, kl_99, kl_100, kl_120, kl_122, kl_160, kl_200, kl_255, kl_300, kl_500, kl_600, kl_601, kl_999, kl_1000, kl_2048, kl_9999]
                exact q1
