/-! calls on two ways: meet, when, sure, apart -/
def CT (P : Nat → Prop) : Nat → Nat → Prop
  | 0, c => c = 0
  | m + 1, c => (P m ∧ ∃ c', c = c' + 1 ∧ CT P m c') ∨ (¬ P m ∧ CT P m c)
theorem CT_le {P : Nat → Prop} : ∀ (m c : Nat), CT P m c → c ≤ m := by
  intro m
  induction m with
  | zero => intro c h; unfold CT at h; omega
  | succ m ih =>
    intro c h
    unfold CT at h
    rcases h with ⟨-, c', rfl, h⟩ | ⟨-, h⟩
    · have := ih c' h; omega
    · have := ih c h; omega
def LSx (P : Nat → Prop) : Nat → Int32 → Prop
  | 0, x => x = -nI 1
  | m + 1, x => (P m ∧ x = nI m) ∨ (¬ P m ∧ LSx P m x)
theorem meets1 {μ μM : Mem} {A B : Nat → Nat} (R : ROW μ μM A B) : ∀ (n m c : Nat), m ≤ 601 → 601 - m < n → CT (MT A B 0) m c → ∃ c', f5_meetings_1 μ n (nI c) (nI m) = some (nI c') ∧ CT (MT A B 0) 601 c' := by
  intro n
  induction n with
  | zero => intro m c _ h; omega
  | succ n ih =>
    intro m c hm hn hc
    have hcl := CT_le m c hc
    by_cases h6 : m = 601
    · subst h6
      exact ⟨c, by rw [f5_meetings_1]; simp (disch := omega) only [Nat.add_sub_cancel, nm_s, bd1_s, bd2_s, bd3_s, gd_n, gd_ne, nI_clamp, nI_leI, nI_ltI, nI_eq, nI_add, pk_mul, pk_sub, up_r, upL_r, jrem_n, jmax_n, if_true, if_false, if_pos, if_neg, gd_i, Nat.zero_add, Nat.add_zero, Nat.mul_zero, nI_nn, nI_nn2, mI_le, mI_ne, mI_ne2, mI_ne3, mI_ne4, ne0, kl_0, kl_1, kl_2, kl_3, kl_4, kl_5, kl_6, kl_7, kl_8, kl_9, kl_10, kl_11, kl_12, kl_13, kl_14, kl_15, kl_16, kl_17, kl_18, kl_19, kl_20, kl_21, kl_22, kl_23, kl_32, kl_40, kl_48, kl_50, kl_53, kl_56, kl_57, kl_60, kl_61, kl_66, kl_97, kl_99, kl_100, kl_120, kl_122, kl_160, kl_200, kl_255, kl_300, kl_500, kl_600, kl_601, kl_999, kl_1000, kl_2048, kl_9999], hc⟩
    · have d := meetIn_C R (m := m) (by omega)
      by_cases hP : MT A B 0 m
      · obtain ⟨c', q1, q2⟩ := ih (m + 1) (c + 1) (by omega) (by omega) (Or.inl ⟨hP, c, rfl, hc⟩)
        exact ⟨c', by rw [f5_meetings_1]; simp (disch := omega) only [d.1 hP, Nat.add_sub_cancel, nm_s, bd1_s, bd2_s, bd3_s, gd_n, gd_ne, nI_clamp, nI_leI, nI_ltI, nI_eq, nI_add, pk_mul, pk_sub, up_r, upL_r, jrem_n, jmax_n, if_true, if_false, if_pos, if_neg, gd_i, Nat.zero_add, Nat.add_zero, Nat.mul_zero, nI_nn, nI_nn2, mI_le, mI_ne, mI_ne2, mI_ne3, mI_ne4, ne0, kl_0, kl_1, kl_2, kl_3, kl_4, kl_5, kl_6, kl_7, kl_8, kl_9, kl_10, kl_11, kl_12, kl_13, kl_14, kl_15, kl_16, kl_17, kl_18, kl_19, kl_20, kl_21, kl_22, kl_23, kl_32, kl_40, kl_48, kl_50, kl_53, kl_56, kl_57, kl_60, kl_61, kl_66, kl_97, kl_99, kl_100, kl_120, kl_122, kl_160, kl_200, kl_255, kl_300, kl_500, kl_600, kl_601, kl_999, kl_1000, kl_2048, kl_9999]; exact q1, q2⟩
      · obtain ⟨c', q1, q2⟩ := ih (m + 1) c (by omega) (by omega) (Or.inr ⟨hP, hc⟩)
        exact ⟨c', by rw [f5_meetings_1]; simp (disch := omega) only [d.2 hP, Nat.add_sub_cancel, nm_s, bd1_s, bd2_s, bd3_s, gd_n, gd_ne, nI_clamp, nI_leI, nI_ltI, nI_eq, nI_add, pk_mul, pk_sub, up_r, upL_r, jrem_n, jmax_n, if_true, if_false, if_pos, if_neg, gd_i, Nat.zero_add, Nat.add_zero, Nat.mul_zero, nI_nn, nI_nn2, mI_le, mI_ne, mI_ne2, mI_ne3, mI_ne4, ne0, kl_0, kl_1, kl_2, kl_3, kl_4, kl_5, kl_6, kl_7, kl_8, kl_9, kl_10, kl_11, kl_12, kl_13, kl_14, kl_15, kl_16, kl_17, kl_18, kl_19, kl_20, kl_21, kl_22, kl_23, kl_32, kl_40, kl_48, kl_50, kl_53, kl_56, kl_57, kl_60, kl_61, kl_66, kl_97, kl_99, kl_100, kl_120, kl_122, kl_160, kl_200, kl_255, kl_300, kl_500, kl_600, kl_601, kl_999, kl_1000, kl_2048, kl_9999]; exact q1, q2⟩
theorem lastm1 {μ μM : Mem} {A B : Nat → Nat} (R : ROW μ μM A B) : ∀ (m n : Nat), m ≤ 601 → m < n → ∃ x, f5_lastMeeting_1 μ n (nI m + -nI 1) = some x ∧ LSx (MT A B 0) m x := by
  intro m
  induction m with
  | zero =>
    intro n _ hn
    obtain ⟨n, rfl⟩ : ∃ k', n = k' + 1 := ⟨n - 1, by omega⟩
    refine ⟨-nI 1, ?_, rfl⟩
    rw [f5_lastMeeting_1, show nI 0 + -nI 1 = -1 by decide, if_pos (by decide), if_neg (by decide)]
    rfl
  | succ m ih =>
    intro n hm hn
    obtain ⟨n, rfl⟩ : ∃ k', n = k' + 1 := ⟨n - 1, by omega⟩
    have d := meetIn_C R (m := m) (by omega)
    rw [pk_m1', f5_lastMeeting_1]
    by_cases hP : MT A B 0 m
    · exact ⟨nI m, by simp (disch := omega) only [d.1 hP, Nat.add_sub_cancel, nm_s, bd1_s, bd2_s, bd3_s, gd_n, gd_ne, nI_clamp, nI_leI, nI_ltI, nI_eq, nI_add, pk_mul, pk_sub, up_r, upL_r, jrem_n, jmax_n, if_true, if_false, if_pos, if_neg, gd_i, Nat.zero_add, Nat.add_zero, Nat.mul_zero, nI_nn, nI_nn2, mI_le, mI_ne, mI_ne2, mI_ne3, mI_ne4, ne0, kl_0, kl_1, kl_2, kl_3, kl_4, kl_5, kl_6, kl_7, kl_8, kl_9, kl_10, kl_11, kl_12, kl_13, kl_14, kl_15, kl_16, kl_17, kl_18, kl_19, kl_20, kl_21, kl_22, kl_23, kl_32, kl_40, kl_48, kl_50, kl_53, kl_56, kl_57, kl_60, kl_61, kl_66, kl_97, kl_99, kl_100, kl_120, kl_122, kl_160, kl_200, kl_255, kl_300, kl_500, kl_600, kl_601, kl_999, kl_1000, kl_2048, kl_9999], Or.inl ⟨hP, rfl⟩⟩
    · obtain ⟨x, q1, q2⟩ := ih n (by omega) (by omega)
      exact ⟨x, by simp (disch := omega) only [d.2 hP, Nat.add_sub_cancel, nm_s, bd1_s, bd2_s, bd3_s, gd_n, gd_ne, nI_clamp, nI_leI, nI_ltI, nI_eq, nI_add, pk_mul, pk_sub, up_r, upL_r, jrem_n, jmax_n, if_true, if_false, if_pos, if_neg, gd_i, Nat.zero_add, Nat.add_zero, Nat.mul_zero, nI_nn, nI_nn2, mI_le, mI_ne, mI_ne2, mI_ne3, mI_ne4, ne0, kl_0, kl_1, kl_2, kl_3, kl_4, kl_5, kl_6, kl_7, kl_8, kl_9, kl_10, kl_11, kl_12, kl_13, kl_14, kl_15, kl_16, kl_17, kl_18, kl_19, kl_20, kl_21, kl_22, kl_23, kl_32, kl_40, kl_48, kl_50, kl_53, kl_56, kl_57, kl_60, kl_61, kl_66, kl_97, kl_99, kl_100, kl_120, kl_122, kl_160, kl_200, kl_255, kl_300, kl_500, kl_600, kl_601, kl_999, kl_1000, kl_2048, kl_9999]; exact q1, Or.inr ⟨hP, q2⟩⟩
theorem meetM1 {μ μM : Mem} {ν : Lem} {A B : Nat → Nat} (R : ROW μ μM A B) (k : Nat) (hk : k ≤ 3) : ∀ (n m c : Nat) (x : Int32), m ≤ 601 → 601 - m < n → CT (MT A B 0) m c → LSx (MT A B 0) m x →
    ∃ c' x', CT (MT A B 0) 601 c' ∧ LSx (MT A B 0) 601 x' ∧ f6_meet_1 n μM ν (nI k) (nI c) x (nI m) = (if k = 0 then some (nI c', μM, ν) else if k = 1 then bd1 (f6_firstMeet μM ν (nI 0)) (fun r => some (r, μM, ν)) else if k = 2 then some (x', μM, ν) else some (nI (c' % 2), μM, ν)) := by
  intro n
  induction n with
  | zero => intro m c x _ h; omega
  | succ n ih =>
    intro m c x hm hn hc hx
    have hcl := CT_le m c hc
    by_cases h6 : m = 601
    · subst h6
      refine ⟨c, x, hc, hx, ?_⟩
      have hk4 : k = 0 ∨ k = 1 ∨ k = 2 ∨ k = 3 := by omega
      rw [f6_meet_1]
      rcases hk4 with rfl | rfl | rfl | rfl <;> simp (disch := omega) only [Nat.add_sub_cancel, nm_s, bd1_s, bd2_s, bd3_s, gd_n, gd_ne, nI_clamp, nI_leI, nI_ltI, nI_eq, nI_add, pk_mul, pk_sub, up_r, upL_r, jrem_n, jmax_n, if_true, if_false, if_pos, if_neg, gd_i, Nat.zero_add, Nat.add_zero, Nat.mul_zero, nI_nn, nI_nn2, mI_le, mI_ne, mI_ne2, mI_ne3, mI_ne4, ne0, kl_0, kl_1, kl_2, kl_3, kl_4, kl_5, kl_6, kl_7, kl_8, kl_9, kl_10, kl_11, kl_12, kl_13, kl_14, kl_15, kl_16, kl_17, kl_18, kl_19, kl_20, kl_21, kl_22, kl_23, kl_32, kl_40, kl_48, kl_50, kl_53, kl_56, kl_57, kl_60, kl_61, kl_66, kl_97, kl_99, kl_100, kl_120, kl_122, kl_160, kl_200, kl_255, kl_300, kl_500, kl_600, kl_601, kl_999, kl_1000, kl_2048, kl_9999]
    · have d := doMeet_M (ν := ν) R (m := m) (l := 0) (by omega) (by omega)
      by_cases hP : MT A B 0 m
      · obtain ⟨c', x', q1, q2, q3⟩ := ih (m + 1) (c + 1) (nI m) (by omega) (by omega) (Or.inl ⟨hP, c, rfl, hc⟩) (Or.inl ⟨hP, rfl⟩)
        refine ⟨c', x', q1, q2, ?_⟩
        rw [← q3, f6_meet_1]
        simp (disch := omega) only [d.1 hP, Nat.add_sub_cancel, nm_s, bd1_s, bd2_s, bd3_s, gd_n, gd_ne, nI_clamp, nI_leI, nI_ltI, nI_eq, nI_add, pk_mul, pk_sub, up_r, upL_r, jrem_n, jmax_n, if_true, if_false, if_pos, if_neg, gd_i, Nat.zero_add, Nat.add_zero, Nat.mul_zero, nI_nn, nI_nn2, mI_le, mI_ne, mI_ne2, mI_ne3, mI_ne4, ne0, kl_0, kl_1, kl_2, kl_3, kl_4, kl_5, kl_6, kl_7, kl_8, kl_9, kl_10, kl_11, kl_12, kl_13, kl_14, kl_15, kl_16, kl_17, kl_18, kl_19, kl_20, kl_21, kl_22, kl_23, kl_32, kl_40, kl_48, kl_50, kl_53, kl_56, kl_57, kl_60, kl_61, kl_66, kl_97, kl_99, kl_100, kl_120, kl_122, kl_160, kl_200, kl_255, kl_300, kl_500, kl_600, kl_601, kl_999, kl_1000, kl_2048, kl_9999]
      · obtain ⟨c', x', q1, q2, q3⟩ := ih (m + 1) c x (by omega) (by omega) (Or.inr ⟨hP, hc⟩) (Or.inr ⟨hP, hx⟩)
        refine ⟨c', x', q1, q2, ?_⟩
        rw [← q3, f6_meet_1]
        simp (disch := omega) only [d.2 hP, Nat.add_sub_cancel, nm_s, bd1_s, bd2_s, bd3_s, gd_n, gd_ne, nI_clamp, nI_leI, nI_ltI, nI_eq, nI_add, pk_mul, pk_sub, up_r, upL_r, jrem_n, jmax_n, if_true, if_false, if_pos, if_neg, gd_i, Nat.zero_add, Nat.add_zero, Nat.mul_zero, nI_nn, nI_nn2, mI_le, mI_ne, mI_ne2, mI_ne3, mI_ne4, ne0, kl_0, kl_1, kl_2, kl_3, kl_4, kl_5, kl_6, kl_7, kl_8, kl_9, kl_10, kl_11, kl_12, kl_13, kl_14, kl_15, kl_16, kl_17, kl_18, kl_19, kl_20, kl_21, kl_22, kl_23, kl_32, kl_40, kl_48, kl_50, kl_53, kl_56, kl_57, kl_60, kl_61, kl_66, kl_97, kl_99, kl_100, kl_120, kl_122, kl_160, kl_200, kl_255, kl_300, kl_500, kl_600, kl_601, kl_999, kl_1000, kl_2048, kl_9999]
theorem CT_one {P : Nat → Prop} : ∀ (m c c' : Nat), CT P m c → CT P m c' → c = c' := by
  intro m
  induction m with
  | zero => intro c c' h h'; unfold CT at h h'; omega
  | succ m ih =>
    intro c c' h h'
    unfold CT at h h'
    rcases h with ⟨p, d, rfl, h⟩ | ⟨p, h⟩
    · rcases h' with ⟨-, d', rfl, h'⟩ | ⟨p', -⟩
      · rw [ih d d' h h']
      · exact absurd p p'
    · rcases h' with ⟨p', -⟩ | ⟨-, h'⟩
      · exact absurd p' p
      · exact ih c c' h h'
theorem LS_one {P : Nat → Prop} : ∀ (m : Nat) (c c' : Int32), LSx P m c → LSx P m c' → c = c' := by
  intro m
  induction m with
  | zero => intro c c' h h'; unfold LSx at h h'; rw [h, h']
  | succ m ih =>
    intro c c' h h'
    unfold LSx at h h'
    rcases h with ⟨p, h⟩ | ⟨p, h⟩
    · rcases h' with ⟨-, h'⟩ | ⟨p', -⟩
      · rw [h, h']
      · exact absurd p p'
    · rcases h' with ⟨p', -⟩ | ⟨-, h'⟩
      · exact absurd p' p
      · exact ih c c' h h'
theorem meet_call {μ μM : Mem} {ν : Lem} {T F n r : Nat} {G : Nat → Gw} (p : RQ μ μM T F n r G) (x1 x2 x3 : Int32) : SameI μ μM ν (f5_meet μ x1 x2 x3) (f6_meet μM ν x1 x2 x3) := by
  have pP := p.2.2.2.1
  have e : f6_in x3.toInt64 0 3 = if x3 < 0 then 0 else if nI 3 < x3 then 0 else 1 := in_c (a := 0) (b := 3) (by decide) (by decide)
  unfold f5_meet f6_meet
  rw [e]
  rcases two3 (ν := ν) pP x1 x2 with ⟨h1, h2⟩ | ⟨a, b, ha, hb, hab, rfl, rfl, h1, h2⟩
  · exact SameI.ret (-nI 2) (by simp (disch := omega) only [h1, Nat.add_sub_cancel, nm_s, bd1_s, bd2_s, bd3_s, gd_n, gd_ne, nI_clamp, nI_leI, nI_ltI, nI_eq, nI_add, pk_mul, pk_sub, up_r, upL_r, jrem_n, jmax_n, if_true, if_false, if_pos, if_neg, gd_i, Nat.zero_add, Nat.add_zero, Nat.mul_zero, nI_nn, nI_nn2, mI_le, mI_ne, mI_ne2, mI_ne3, mI_ne4, ne0, kl_0, kl_1, kl_2, kl_3, kl_4, kl_5, kl_6, kl_7, kl_8, kl_9, kl_10, kl_11, kl_12, kl_13, kl_14, kl_15, kl_16, kl_17, kl_18, kl_19, kl_20, kl_21, kl_22, kl_23, kl_32, kl_40, kl_48, kl_50, kl_53, kl_56, kl_57, kl_60, kl_61, kl_66, kl_97, kl_99, kl_100, kl_120, kl_122, kl_160, kl_200, kl_255, kl_300, kl_500, kl_600, kl_601, kl_999, kl_1000, kl_2048, kl_9999]) (by simp (disch := omega) only [h2, Nat.add_sub_cancel, nm_s, bd1_s, bd2_s, bd3_s, gd_n, gd_ne, nI_clamp, nI_leI, nI_ltI, nI_eq, nI_add, pk_mul, pk_sub, up_r, upL_r, jrem_n, jmax_n, if_true, if_false, if_pos, if_neg, gd_i, Nat.zero_add, Nat.add_zero, Nat.mul_zero, nI_nn, nI_nn2, mI_le, mI_ne, mI_ne2, mI_ne3, mI_ne4, ne0, kl_0, kl_1, kl_2, kl_3, kl_4, kl_5, kl_6, kl_7, kl_8, kl_9, kl_10, kl_11, kl_12, kl_13, kl_14, kl_15, kl_16, kl_17, kl_18, kl_19, kl_20, kl_21, kl_22, kl_23, kl_32, kl_40, kl_48, kl_50, kl_53, kl_56, kl_57, kl_60, kl_61, kl_66, kl_97, kl_99, kl_100, kl_120, kl_122, kl_160, kl_200, kl_255, kl_300, kl_500, kl_600, kl_601, kl_999, kl_1000, kl_2048, kl_9999])
  · rcases win3 x3 3 (by decide) with ⟨h3, h4⟩ | ⟨h3, h4, h5⟩ | ⟨k, hk, rfl, h3⟩
    · exact SameI.ret (-nI 2) (by simp (disch := omega) only [h1, h3, Nat.add_sub_cancel, nm_s, bd1_s, bd2_s, bd3_s, gd_n, gd_ne, nI_clamp, nI_leI, nI_ltI, nI_eq, nI_add, pk_mul, pk_sub, up_r, upL_r, jrem_n, jmax_n, if_true, if_false, if_pos, if_neg, gd_i, Nat.zero_add, Nat.add_zero, Nat.mul_zero, nI_nn, nI_nn2, mI_le, mI_ne, mI_ne2, mI_ne3, mI_ne4, ne0, kl_0, kl_1, kl_2, kl_3, kl_4, kl_5, kl_6, kl_7, kl_8, kl_9, kl_10, kl_11, kl_12, kl_13, kl_14, kl_15, kl_16, kl_17, kl_18, kl_19, kl_20, kl_21, kl_22, kl_23, kl_32, kl_40, kl_48, kl_50, kl_53, kl_56, kl_57, kl_60, kl_61, kl_66, kl_97, kl_99, kl_100, kl_120, kl_122, kl_160, kl_200, kl_255, kl_300, kl_500, kl_600, kl_601, kl_999, kl_1000, kl_2048, kl_9999]) (by rw [h4]; simp (disch := omega) only [h2, Nat.add_sub_cancel, nm_s, bd1_s, bd2_s, bd3_s, gd_n, gd_ne, nI_clamp, nI_leI, nI_ltI, nI_eq, nI_add, pk_mul, pk_sub, up_r, upL_r, jrem_n, jmax_n, if_true, if_false, if_pos, if_neg, gd_i, Nat.zero_add, Nat.add_zero, Nat.mul_zero, nI_nn, nI_nn2, mI_le, mI_ne, mI_ne2, mI_ne3, mI_ne4, ne0, kl_0, kl_1, kl_2, kl_3, kl_4, kl_5, kl_6, kl_7, kl_8, kl_9, kl_10, kl_11, kl_12, kl_13, kl_14, kl_15, kl_16, kl_17, kl_18, kl_19, kl_20, kl_21, kl_22, kl_23, kl_32, kl_40, kl_48, kl_50, kl_53, kl_56, kl_57, kl_60, kl_61, kl_66, kl_97, kl_99, kl_100, kl_120, kl_122, kl_160, kl_200, kl_255, kl_300, kl_500, kl_600, kl_601, kl_999, kl_1000, kl_2048, kl_9999])
    · exact SameI.ret (-nI 2) (by simp (disch := omega) only [h1, h3, h4, Nat.add_sub_cancel, nm_s, bd1_s, bd2_s, bd3_s, gd_n, gd_ne, nI_clamp, nI_leI, nI_ltI, nI_eq, nI_add, pk_mul, pk_sub, up_r, upL_r, jrem_n, jmax_n, if_true, if_false, if_pos, if_neg, gd_i, Nat.zero_add, Nat.add_zero, Nat.mul_zero, nI_nn, nI_nn2, mI_le, mI_ne, mI_ne2, mI_ne3, mI_ne4, ne0, kl_0, kl_1, kl_2, kl_3, kl_4, kl_5, kl_6, kl_7, kl_8, kl_9, kl_10, kl_11, kl_12, kl_13, kl_14, kl_15, kl_16, kl_17, kl_18, kl_19, kl_20, kl_21, kl_22, kl_23, kl_32, kl_40, kl_48, kl_50, kl_53, kl_56, kl_57, kl_60, kl_61, kl_66, kl_97, kl_99, kl_100, kl_120, kl_122, kl_160, kl_200, kl_255, kl_300, kl_500, kl_600, kl_601, kl_999, kl_1000, kl_2048, kl_9999]) (by rw [h5]; simp (disch := omega) only [h2, Nat.add_sub_cancel, nm_s, bd1_s, bd2_s, bd3_s, gd_n, gd_ne, nI_clamp, nI_leI, nI_ltI, nI_eq, nI_add, pk_mul, pk_sub, up_r, upL_r, jrem_n, jmax_n, if_true, if_false, if_pos, if_neg, gd_i, Nat.zero_add, Nat.add_zero, Nat.mul_zero, nI_nn, nI_nn2, mI_le, mI_ne, mI_ne2, mI_ne3, mI_ne4, ne0, kl_0, kl_1, kl_2, kl_3, kl_4, kl_5, kl_6, kl_7, kl_8, kl_9, kl_10, kl_11, kl_12, kl_13, kl_14, kl_15, kl_16, kl_17, kl_18, kl_19, kl_20, kl_21, kl_22, kl_23, kl_32, kl_40, kl_48, kl_50, kl_53, kl_56, kl_57, kl_60, kl_61, kl_66, kl_97, kl_99, kl_100, kl_120, kl_122, kl_160, kl_200, kl_255, kl_300, kl_500, kl_600, kl_601, kl_999, kl_1000, kl_2048, kl_9999])
    · obtain ⟨μ', μM', l1, l2, l3, l4, A, B, R⟩ := two_laid ν pP ha hb
      obtain ⟨c', x', m1, m2, m3⟩ := meetM1 (ν := ν) R k hk FUEL 0 0 (-nI 1) (by omega) (fuel_o (by omega)) rfl rfl
      obtain ⟨c2, s1, s2⟩ := meets1 R FUEL 0 0 (by omega) (fuel_o (by omega)) rfl
      obtain ⟨y2, t1, t2⟩ := lastm1 R 601 FUEL (by omega) (fuel_o (by omega))
      obtain ⟨v, w1, w2, -⟩ := first_eq (ν := ν) R (l := 0) (by omega)
      have hc := CT_one _ _ _ m1 s2
      have hx := LS_one _ _ _ m2 t2
      have hcl := CT_le _ _ m1
      subst hc; subst hx
      rw [pk_m1'] at t1
      have t1' : f5_lastMeeting μ' = some x' := t1
      have s1' : f5_meetings μ' = some (nI c') := s1
      rw [h3]
      have hk4 : k = 0 ∨ k = 1 ∨ k = 2 ∨ k = 3 := by omega
      rcases hk4 with rfl | rfl | rfl | rfl
      · exact ⟨nI c', μ', μM', ν, by simp (disch := omega) only [h1, l1, s1', Nat.add_sub_cancel, nm_s, bd1_s, bd2_s, bd3_s, gd_n, gd_ne, nI_clamp, nI_leI, nI_ltI, nI_eq, nI_add, pk_mul, pk_sub, up_r, upL_r, jrem_n, jmax_n, if_true, if_false, if_pos, if_neg, gd_i, Nat.zero_add, Nat.add_zero, Nat.mul_zero, nI_nn, nI_nn2, mI_le, mI_ne, mI_ne2, mI_ne3, mI_ne4, ne0, kl_0, kl_1, kl_2, kl_3, kl_4, kl_5, kl_6, kl_7, kl_8, kl_9, kl_10, kl_11, kl_12, kl_13, kl_14, kl_15, kl_16, kl_17, kl_18, kl_19, kl_20, kl_21, kl_22, kl_23, kl_32, kl_40, kl_48, kl_50, kl_53, kl_56, kl_57, kl_60, kl_61, kl_66, kl_97, kl_99, kl_100, kl_120, kl_122, kl_160, kl_200, kl_255, kl_300, kl_500, kl_600, kl_601, kl_999, kl_1000, kl_2048, kl_9999], by simp (disch := omega) only [h2, l2, Nat.add_sub_cancel, nm_s, bd1_s, bd2_s, bd3_s, gd_n, gd_ne, nI_clamp, nI_leI, nI_ltI, nI_eq, nI_add, pk_mul, pk_sub, up_r, upL_r, jrem_n, jmax_n, if_true, if_false, if_pos, if_neg, gd_i, Nat.zero_add, Nat.add_zero, Nat.mul_zero, nI_nn, nI_nn2, mI_le, mI_ne, mI_ne2, mI_ne3, mI_ne4, ne0, kl_0, kl_1, kl_2, kl_3, kl_4, kl_5, kl_6, kl_7, kl_8, kl_9, kl_10, kl_11, kl_12, kl_13, kl_14, kl_15, kl_16, kl_17, kl_18, kl_19, kl_20, kl_21, kl_22, kl_23, kl_32, kl_40, kl_48, kl_50, kl_53, kl_56, kl_57, kl_60, kl_61, kl_66, kl_97, kl_99, kl_100, kl_120, kl_122, kl_160, kl_200, kl_255, kl_300, kl_500, kl_600, kl_601, kl_999, kl_1000, kl_2048, kl_9999]; rw [m3]; simp (disch := omega) only [Nat.add_sub_cancel, nm_s, bd1_s, bd2_s, bd3_s, gd_n, gd_ne, nI_clamp, nI_leI, nI_ltI, nI_eq, nI_add, pk_mul, pk_sub, up_r, upL_r, jrem_n, jmax_n, if_true, if_false, if_pos, if_neg, gd_i, Nat.zero_add, Nat.add_zero, Nat.mul_zero, nI_nn, nI_nn2, mI_le, mI_ne, mI_ne2, mI_ne3, mI_ne4, ne0, kl_0, kl_1, kl_2, kl_3, kl_4, kl_5, kl_6, kl_7, kl_8, kl_9, kl_10, kl_11, kl_12, kl_13, kl_14, kl_15, kl_16, kl_17, kl_18, kl_19, kl_20, kl_21, kl_22, kl_23, kl_32, kl_40, kl_48, kl_50, kl_53, kl_56, kl_57, kl_60, kl_61, kl_66, kl_97, kl_99, kl_100, kl_120, kl_122, kl_160, kl_200, kl_255, kl_300, kl_500, kl_600, kl_601, kl_999, kl_1000, kl_2048, kl_9999], l3, l4⟩
      · exact ⟨v, μ', μM', ν, by simp (disch := omega) only [h1, l1, w1, Nat.add_sub_cancel, nm_s, bd1_s, bd2_s, bd3_s, gd_n, gd_ne, nI_clamp, nI_leI, nI_ltI, nI_eq, nI_add, pk_mul, pk_sub, up_r, upL_r, jrem_n, jmax_n, if_true, if_false, if_pos, if_neg, gd_i, Nat.zero_add, Nat.add_zero, Nat.mul_zero, nI_nn, nI_nn2, mI_le, mI_ne, mI_ne2, mI_ne3, mI_ne4, ne0, kl_0, kl_1, kl_2, kl_3, kl_4, kl_5, kl_6, kl_7, kl_8, kl_9, kl_10, kl_11, kl_12, kl_13, kl_14, kl_15, kl_16, kl_17, kl_18, kl_19, kl_20, kl_21, kl_22, kl_23, kl_32, kl_40, kl_48, kl_50, kl_53, kl_56, kl_57, kl_60, kl_61, kl_66, kl_97, kl_99, kl_100, kl_120, kl_122, kl_160, kl_200, kl_255, kl_300, kl_500, kl_600, kl_601, kl_999, kl_1000, kl_2048, kl_9999], by simp (disch := omega) only [h2, l2, Nat.add_sub_cancel, nm_s, bd1_s, bd2_s, bd3_s, gd_n, gd_ne, nI_clamp, nI_leI, nI_ltI, nI_eq, nI_add, pk_mul, pk_sub, up_r, upL_r, jrem_n, jmax_n, if_true, if_false, if_pos, if_neg, gd_i, Nat.zero_add, Nat.add_zero, Nat.mul_zero, nI_nn, nI_nn2, mI_le, mI_ne, mI_ne2, mI_ne3, mI_ne4, ne0, kl_0, kl_1, kl_2, kl_3, kl_4, kl_5, kl_6, kl_7, kl_8, kl_9, kl_10, kl_11, kl_12, kl_13, kl_14, kl_15, kl_16, kl_17, kl_18, kl_19, kl_20, kl_21, kl_22, kl_23, kl_32, kl_40, kl_48, kl_50, kl_53, kl_56, kl_57, kl_60, kl_61, kl_66, kl_97, kl_99, kl_100, kl_120, kl_122, kl_160, kl_200, kl_255, kl_300, kl_500, kl_600, kl_601, kl_999, kl_1000, kl_2048, kl_9999]; rw [m3]; simp (disch := omega) only [w2, Nat.add_sub_cancel, nm_s, bd1_s, bd2_s, bd3_s, gd_n, gd_ne, nI_clamp, nI_leI, nI_ltI, nI_eq, nI_add, pk_mul, pk_sub, up_r, upL_r, jrem_n, jmax_n, if_true, if_false, if_pos, if_neg, gd_i, Nat.zero_add, Nat.add_zero, Nat.mul_zero, nI_nn, nI_nn2, mI_le, mI_ne, mI_ne2, mI_ne3, mI_ne4, ne0, kl_0, kl_1, kl_2, kl_3, kl_4, kl_5, kl_6, kl_7, kl_8, kl_9, kl_10, kl_11, kl_12, kl_13, kl_14, kl_15, kl_16, kl_17, kl_18, kl_19, kl_20, kl_21, kl_22, kl_23, kl_32, kl_40, kl_48, kl_50, kl_53, kl_56, kl_57, kl_60, kl_61, kl_66, kl_97, kl_99, kl_100, kl_120, kl_122, kl_160, kl_200, kl_255, kl_300, kl_500, kl_600, kl_601, kl_999, kl_1000, kl_2048, kl_9999], l3, l4⟩
      · exact ⟨x', μ', μM', ν, by simp (disch := omega) only [h1, l1, t1', Nat.add_sub_cancel, nm_s, bd1_s, bd2_s, bd3_s, gd_n, gd_ne, nI_clamp, nI_leI, nI_ltI, nI_eq, nI_add, pk_mul, pk_sub, up_r, upL_r, jrem_n, jmax_n, if_true, if_false, if_pos, if_neg, gd_i, Nat.zero_add, Nat.add_zero, Nat.mul_zero, nI_nn, nI_nn2, mI_le, mI_ne, mI_ne2, mI_ne3, mI_ne4, ne0, kl_0, kl_1, kl_2, kl_3, kl_4, kl_5, kl_6, kl_7, kl_8, kl_9, kl_10, kl_11, kl_12, kl_13, kl_14, kl_15, kl_16, kl_17, kl_18, kl_19, kl_20, kl_21, kl_22, kl_23, kl_32, kl_40, kl_48, kl_50, kl_53, kl_56, kl_57, kl_60, kl_61, kl_66, kl_97, kl_99, kl_100, kl_120, kl_122, kl_160, kl_200, kl_255, kl_300, kl_500, kl_600, kl_601, kl_999, kl_1000, kl_2048, kl_9999], by simp (disch := omega) only [h2, l2, Nat.add_sub_cancel, nm_s, bd1_s, bd2_s, bd3_s, gd_n, gd_ne, nI_clamp, nI_leI, nI_ltI, nI_eq, nI_add, pk_mul, pk_sub, up_r, upL_r, jrem_n, jmax_n, if_true, if_false, if_pos, if_neg, gd_i, Nat.zero_add, Nat.add_zero, Nat.mul_zero, nI_nn, nI_nn2, mI_le, mI_ne, mI_ne2, mI_ne3, mI_ne4, ne0, kl_0, kl_1, kl_2, kl_3, kl_4, kl_5, kl_6, kl_7, kl_8, kl_9, kl_10, kl_11, kl_12, kl_13, kl_14, kl_15, kl_16, kl_17, kl_18, kl_19, kl_20, kl_21, kl_22, kl_23, kl_32, kl_40, kl_48, kl_50, kl_53, kl_56, kl_57, kl_60, kl_61, kl_66, kl_97, kl_99, kl_100, kl_120, kl_122, kl_160, kl_200, kl_255, kl_300, kl_500, kl_600, kl_601, kl_999, kl_1000, kl_2048, kl_9999]; rw [m3]; simp (disch := omega) only [Nat.add_sub_cancel, nm_s, bd1_s, bd2_s, bd3_s, gd_n, gd_ne, nI_clamp, nI_leI, nI_ltI, nI_eq, nI_add, pk_mul, pk_sub, up_r, upL_r, jrem_n, jmax_n, if_true, if_false, if_pos, if_neg, gd_i, Nat.zero_add, Nat.add_zero, Nat.mul_zero, nI_nn, nI_nn2, mI_le, mI_ne, mI_ne2, mI_ne3, mI_ne4, ne0, kl_0, kl_1, kl_2, kl_3, kl_4, kl_5, kl_6, kl_7, kl_8, kl_9, kl_10, kl_11, kl_12, kl_13, kl_14, kl_15, kl_16, kl_17, kl_18, kl_19, kl_20, kl_21, kl_22, kl_23, kl_32, kl_40, kl_48, kl_50, kl_53, kl_56, kl_57, kl_60, kl_61, kl_66, kl_97, kl_99, kl_100, kl_120, kl_122, kl_160, kl_200, kl_255, kl_300, kl_500, kl_600, kl_601, kl_999, kl_1000, kl_2048, kl_9999], l3, l4⟩
      · exact ⟨nI (c' % 2), μ', μM', ν, by simp (disch := omega) only [h1, l1, s1', Nat.add_sub_cancel, nm_s, bd1_s, bd2_s, bd3_s, gd_n, gd_ne, nI_clamp, nI_leI, nI_ltI, nI_eq, nI_add, pk_mul, pk_sub, up_r, upL_r, jrem_n, jmax_n, if_true, if_false, if_pos, if_neg, gd_i, Nat.zero_add, Nat.add_zero, Nat.mul_zero, nI_nn, nI_nn2, mI_le, mI_ne, mI_ne2, mI_ne3, mI_ne4, ne0, kl_0, kl_1, kl_2, kl_3, kl_4, kl_5, kl_6, kl_7, kl_8, kl_9, kl_10, kl_11, kl_12, kl_13, kl_14, kl_15, kl_16, kl_17, kl_18, kl_19, kl_20, kl_21, kl_22, kl_23, kl_32, kl_40, kl_48, kl_50, kl_53, kl_56, kl_57, kl_60, kl_61, kl_66, kl_97, kl_99, kl_100, kl_120, kl_122, kl_160, kl_200, kl_255, kl_300, kl_500, kl_600, kl_601, kl_999, kl_1000, kl_2048, kl_9999], by simp (disch := omega) only [h2, l2, Nat.add_sub_cancel, nm_s, bd1_s, bd2_s, bd3_s, gd_n, gd_ne, nI_clamp, nI_leI, nI_ltI, nI_eq, nI_add, pk_mul, pk_sub, up_r, upL_r, jrem_n, jmax_n, if_true, if_false, if_pos, if_neg, gd_i, Nat.zero_add, Nat.add_zero, Nat.mul_zero, nI_nn, nI_nn2, mI_le, mI_ne, mI_ne2, mI_ne3, mI_ne4, ne0, kl_0, kl_1, kl_2, kl_3, kl_4, kl_5, kl_6, kl_7, kl_8, kl_9, kl_10, kl_11, kl_12, kl_13, kl_14, kl_15, kl_16, kl_17, kl_18, kl_19, kl_20, kl_21, kl_22, kl_23, kl_32, kl_40, kl_48, kl_50, kl_53, kl_56, kl_57, kl_60, kl_61, kl_66, kl_97, kl_99, kl_100, kl_120, kl_122, kl_160, kl_200, kl_255, kl_300, kl_500, kl_600, kl_601, kl_999, kl_1000, kl_2048, kl_9999]; rw [m3]; simp (disch := omega) only [Nat.add_sub_cancel, nm_s, bd1_s, bd2_s, bd3_s, gd_n, gd_ne, nI_clamp, nI_leI, nI_ltI, nI_eq, nI_add, pk_mul, pk_sub, up_r, upL_r, jrem_n, jmax_n, if_true, if_false, if_pos, if_neg, gd_i, Nat.zero_add, Nat.add_zero, Nat.mul_zero, nI_nn, nI_nn2, mI_le, mI_ne, mI_ne2, mI_ne3, mI_ne4, ne0, kl_0, kl_1, kl_2, kl_3, kl_4, kl_5, kl_6, kl_7, kl_8, kl_9, kl_10, kl_11, kl_12, kl_13, kl_14, kl_15, kl_16, kl_17, kl_18, kl_19, kl_20, kl_21, kl_22, kl_23, kl_32, kl_40, kl_48, kl_50, kl_53, kl_56, kl_57, kl_60, kl_61, kl_66, kl_97, kl_99, kl_100, kl_120, kl_122, kl_160, kl_200, kl_255, kl_300, kl_500, kl_600, kl_601, kl_999, kl_1000, kl_2048, kl_9999], l3, l4⟩
/-- greatest common divisors -/
theorem jremL_n {a b : Nat} (ha : a < 2 ^ 62) (h0 : 0 < b) (hb : b < 2 ^ 62) : jremL (lN a) (lN b) = lN (a % b) := pk_lRem (by omega) h0 (by omega)
theorem lg_0 {b : Nat} (hb : b < 2 ^ 31) : (lg_cmp (lN b) 0 = nI 0) = (b = 0) := propext ((lg_eq _ _).trans (lN_eq (b := 0) hb (by omega)))
theorem gd_nl {α : Type} {b : Nat} {x : Option α} (h : 0 < b) (hb : b < 2 ^ 31) : gd (¬ lN b = 0) x = x := if_pos (fun q => by
  have := (lN_eq (b := 0) hb (by omega)).mp q
  omega)
theorem mod_half {a b : Nat} (h0 : 0 < b) (h : b ≤ a) : 2 * (a % b) < a := by
  have h1 := Nat.mod_lt a h0
  have h2 := Nat.div_add_mod a b
  have h3 : 1 ≤ a / b := (Nat.one_le_div_iff h0).mpr h
  have h4 : b * 1 ≤ b * (a / b) := Nat.mul_le_mul_left b h3
  omega
theorem gcd1 {x0 x2 : Int64} {x4 : Int32} : ∀ (j a b s n k : Nat), b < 2 ^ j → j ≤ 31 → a < 2 ^ 31 → s + 2 * j ≤ 190 → 2 * j + 2 < n → 2 * j + 2 < k →
    ∃ g, g < 2 ^ 31 ∧ (0 < a ∨ 0 < b → 0 < g) ∧ f5_commonDivisor_1 n (lN a) (lN b) (nI s) = some (lN g) ∧ f6_lowest_1 k x0 x2 x4 (lN a) (lN b) = (if x4 = nI 0 then gd (¬ lN g = 0) (some (x0 / lN g)) else gd (¬ lN g = 0) (some (x2 / lN g))) := by
  intro j
  induction j with
  | zero =>
    intro a b s n k hb hj ha hs hn hk
    have : b = 0 := by omega
    subst this
    obtain ⟨n, rfl⟩ : ∃ k', n = k' + 1 := ⟨n - 1, by omega⟩
    obtain ⟨k, rfl⟩ : ∃ k', k = k' + 1 := ⟨k - 1, by omega⟩
    refine ⟨a, ha, fun h => by omega, ?_, ?_⟩
    · rw [f5_commonDivisor_1]
      simp (disch := omega) only [lg_0, Nat.add_sub_cancel, nm_s, bd1_s, bd2_s, bd3_s, gd_n, gd_ne, nI_clamp, nI_leI, nI_ltI, nI_eq, nI_add, pk_mul, pk_sub, up_r, upL_r, jrem_n, jmax_n, if_true, if_false, if_pos, if_neg, gd_i, Nat.zero_add, Nat.add_zero, Nat.mul_zero, nI_nn, nI_nn2, mI_le, mI_ne, mI_ne2, mI_ne3, mI_ne4, ne0, kl_0, kl_1, kl_2, kl_3, kl_4, kl_5, kl_6, kl_7, kl_8, kl_9, kl_10, kl_11, kl_12, kl_13, kl_14, kl_15, kl_16, kl_17, kl_18, kl_19, kl_20, kl_21, kl_22, kl_23, kl_32, kl_40, kl_48, kl_50, kl_53, kl_56, kl_57, kl_60, kl_61, kl_66, kl_97, kl_99, kl_100, kl_120, kl_122, kl_160, kl_200, kl_255, kl_300, kl_500, kl_600, kl_601, kl_999, kl_1000, kl_2048, kl_9999]
    · rw [f6_lowest_1]
      by_cases hx : x4 = nI 0
      · simp (disch := omega) only [lg_0, hx, Nat.add_sub_cancel, nm_s, bd1_s, bd2_s, bd3_s, gd_n, gd_ne, nI_clamp, nI_leI, nI_ltI, nI_eq, nI_add, pk_mul, pk_sub, up_r, upL_r, jrem_n, jmax_n, if_true, if_false, if_pos, if_neg, gd_i, Nat.zero_add, Nat.add_zero, Nat.mul_zero, nI_nn, nI_nn2, mI_le, mI_ne, mI_ne2, mI_ne3, mI_ne4, ne0, kl_0, kl_1, kl_2, kl_3, kl_4, kl_5, kl_6, kl_7, kl_8, kl_9, kl_10, kl_11, kl_12, kl_13, kl_14, kl_15, kl_16, kl_17, kl_18, kl_19, kl_20, kl_21, kl_22, kl_23, kl_32, kl_40, kl_48, kl_50, kl_53, kl_56, kl_57, kl_60, kl_61, kl_66, kl_97, kl_99, kl_100, kl_120, kl_122, kl_160, kl_200, kl_255, kl_300, kl_500, kl_600, kl_601, kl_999, kl_1000, kl_2048, kl_9999]
      · simp (disch := omega) only [lg_0, hx, Nat.add_sub_cancel, nm_s, bd1_s, bd2_s, bd3_s, gd_n, gd_ne, nI_clamp, nI_leI, nI_ltI, nI_eq, nI_add, pk_mul, pk_sub, up_r, upL_r, jrem_n, jmax_n, if_true, if_false, if_pos, if_neg, gd_i, Nat.zero_add, Nat.add_zero, Nat.mul_zero, nI_nn, nI_nn2, mI_le, mI_ne, mI_ne2, mI_ne3, mI_ne4, ne0, kl_0, kl_1, kl_2, kl_3, kl_4, kl_5, kl_6, kl_7, kl_8, kl_9, kl_10, kl_11, kl_12, kl_13, kl_14, kl_15, kl_16, kl_17, kl_18, kl_19, kl_20, kl_21, kl_22, kl_23, kl_32, kl_40, kl_48, kl_50, kl_53, kl_56, kl_57, kl_60, kl_61, kl_66, kl_97, kl_99, kl_100, kl_120, kl_122, kl_160, kl_200, kl_255, kl_300, kl_500, kl_600, kl_601, kl_999, kl_1000, kl_2048, kl_9999]
  | succ j ih =>
    intro a b s n k hb hj ha hs hn hk
    have hp : (2 : Nat) ^ (j + 1) ≤ 2 ^ 31 := Nat.pow_le_pow_right (by decide) hj
    have hp2 : (2 : Nat) ^ (j + 1) = 2 ^ j * 2 := Nat.pow_succ 2 j
    obtain ⟨n, rfl⟩ : ∃ k', n = k' + 1 := ⟨n - 1, by omega⟩
    obtain ⟨k, rfl⟩ : ∃ k', k = k' + 1 := ⟨k - 1, by omega⟩
    by_cases hb0 : b = 0
    · subst hb0
      refine ⟨a, ha, fun h => by omega, ?_, ?_⟩
      · rw [f5_commonDivisor_1]
        simp (disch := omega) only [lg_0, Nat.add_sub_cancel, nm_s, bd1_s, bd2_s, bd3_s, gd_n, gd_ne, nI_clamp, nI_leI, nI_ltI, nI_eq, nI_add, pk_mul, pk_sub, up_r, upL_r, jrem_n, jmax_n, if_true, if_false, if_pos, if_neg, gd_i, Nat.zero_add, Nat.add_zero, Nat.mul_zero, nI_nn, nI_nn2, mI_le, mI_ne, mI_ne2, mI_ne3, mI_ne4, ne0, kl_0, kl_1, kl_2, kl_3, kl_4, kl_5, kl_6, kl_7, kl_8, kl_9, kl_10, kl_11, kl_12, kl_13, kl_14, kl_15, kl_16, kl_17, kl_18, kl_19, kl_20, kl_21, kl_22, kl_23, kl_32, kl_40, kl_48, kl_50, kl_53, kl_56, kl_57, kl_60, kl_61, kl_66, kl_97, kl_99, kl_100, kl_120, kl_122, kl_160, kl_200, kl_255, kl_300, kl_500, kl_600, kl_601, kl_999, kl_1000, kl_2048, kl_9999]
      · rw [f6_lowest_1]
        by_cases hx : x4 = nI 0
        · simp (disch := omega) only [lg_0, hx, Nat.add_sub_cancel, nm_s, bd1_s, bd2_s, bd3_s, gd_n, gd_ne, nI_clamp, nI_leI, nI_ltI, nI_eq, nI_add, pk_mul, pk_sub, up_r, upL_r, jrem_n, jmax_n, if_true, if_false, if_pos, if_neg, gd_i, Nat.zero_add, Nat.add_zero, Nat.mul_zero, nI_nn, nI_nn2, mI_le, mI_ne, mI_ne2, mI_ne3, mI_ne4, ne0, kl_0, kl_1, kl_2, kl_3, kl_4, kl_5, kl_6, kl_7, kl_8, kl_9, kl_10, kl_11, kl_12, kl_13, kl_14, kl_15, kl_16, kl_17, kl_18, kl_19, kl_20, kl_21, kl_22, kl_23, kl_32, kl_40, kl_48, kl_50, kl_53, kl_56, kl_57, kl_60, kl_61, kl_66, kl_97, kl_99, kl_100, kl_120, kl_122, kl_160, kl_200, kl_255, kl_300, kl_500, kl_600, kl_601, kl_999, kl_1000, kl_2048, kl_9999]
        · simp (disch := omega) only [lg_0, hx, Nat.add_sub_cancel, nm_s, bd1_s, bd2_s, bd3_s, gd_n, gd_ne, nI_clamp, nI_leI, nI_ltI, nI_eq, nI_add, pk_mul, pk_sub, up_r, upL_r, jrem_n, jmax_n, if_true, if_false, if_pos, if_neg, gd_i, Nat.zero_add, Nat.add_zero, Nat.mul_zero, nI_nn, nI_nn2, mI_le, mI_ne, mI_ne2, mI_ne3, mI_ne4, ne0, kl_0, kl_1, kl_2, kl_3, kl_4, kl_5, kl_6, kl_7, kl_8, kl_9, kl_10, kl_11, kl_12, kl_13, kl_14, kl_15, kl_16, kl_17, kl_18, kl_19, kl_20, kl_21, kl_22, kl_23, kl_32, kl_40, kl_48, kl_50, kl_53, kl_56, kl_57, kl_60, kl_61, kl_66, kl_97, kl_99, kl_100, kl_120, kl_122, kl_160, kl_200, kl_255, kl_300, kl_500, kl_600, kl_601, kl_999, kl_1000, kl_2048, kl_9999]
    · obtain ⟨n, rfl⟩ : ∃ k', n = k' + 1 := ⟨n - 1, by omega⟩
      obtain ⟨k, rfl⟩ : ∃ k', k = k' + 1 := ⟨k - 1, by omega⟩
      have hr := Nat.mod_lt a (show 0 < b by omega)
      by_cases hr0 : a % b = 0
      · refine ⟨b, by omega, fun _ => by omega, ?_, ?_⟩
        · rw [f5_commonDivisor_1]
          simp (disch := omega) only [lg_0, gd_nl, jremL_n, hr0, Nat.add_sub_cancel, nm_s, bd1_s, bd2_s, bd3_s, gd_n, gd_ne, nI_clamp, nI_leI, nI_ltI, nI_eq, nI_add, pk_mul, pk_sub, up_r, upL_r, jrem_n, jmax_n, if_true, if_false, if_pos, if_neg, gd_i, Nat.zero_add, Nat.add_zero, Nat.mul_zero, nI_nn, nI_nn2, mI_le, mI_ne, mI_ne2, mI_ne3, mI_ne4, ne0, kl_0, kl_1, kl_2, kl_3, kl_4, kl_5, kl_6, kl_7, kl_8, kl_9, kl_10, kl_11, kl_12, kl_13, kl_14, kl_15, kl_16, kl_17, kl_18, kl_19, kl_20, kl_21, kl_22, kl_23, kl_32, kl_40, kl_48, kl_50, kl_53, kl_56, kl_57, kl_60, kl_61, kl_66, kl_97, kl_99, kl_100, kl_120, kl_122, kl_160, kl_200, kl_255, kl_300, kl_500, kl_600, kl_601, kl_999, kl_1000, kl_2048, kl_9999]
          rw [f5_commonDivisor_1]
          simp (disch := omega) only [lg_0, Nat.add_sub_cancel, nm_s, bd1_s, bd2_s, bd3_s, gd_n, gd_ne, nI_clamp, nI_leI, nI_ltI, nI_eq, nI_add, pk_mul, pk_sub, up_r, upL_r, jrem_n, jmax_n, if_true, if_false, if_pos, if_neg, gd_i, Nat.zero_add, Nat.add_zero, Nat.mul_zero, nI_nn, nI_nn2, mI_le, mI_ne, mI_ne2, mI_ne3, mI_ne4, ne0, kl_0, kl_1, kl_2, kl_3, kl_4, kl_5, kl_6, kl_7, kl_8, kl_9, kl_10, kl_11, kl_12, kl_13, kl_14, kl_15, kl_16, kl_17, kl_18, kl_19, kl_20, kl_21, kl_22, kl_23, kl_32, kl_40, kl_48, kl_50, kl_53, kl_56, kl_57, kl_60, kl_61, kl_66, kl_97, kl_99, kl_100, kl_120, kl_122, kl_160, kl_200, kl_255, kl_300, kl_500, kl_600, kl_601, kl_999, kl_1000, kl_2048, kl_9999]
        · rw [f6_lowest_1]
          simp (disch := omega) only [lg_0, gd_nl, jremL_n, hr0, Nat.add_sub_cancel, nm_s, bd1_s, bd2_s, bd3_s, gd_n, gd_ne, nI_clamp, nI_leI, nI_ltI, nI_eq, nI_add, pk_mul, pk_sub, up_r, upL_r, jrem_n, jmax_n, if_true, if_false, if_pos, if_neg, gd_i, Nat.zero_add, Nat.add_zero, Nat.mul_zero, nI_nn, nI_nn2, mI_le, mI_ne, mI_ne2, mI_ne3, mI_ne4, ne0, kl_0, kl_1, kl_2, kl_3, kl_4, kl_5, kl_6, kl_7, kl_8, kl_9, kl_10, kl_11, kl_12, kl_13, kl_14, kl_15, kl_16, kl_17, kl_18, kl_19, kl_20, kl_21, kl_22, kl_23, kl_32, kl_40, kl_48, kl_50, kl_53, kl_56, kl_57, kl_60, kl_61, kl_66, kl_97, kl_99, kl_100, kl_120, kl_122, kl_160, kl_200, kl_255, kl_300, kl_500, kl_600, kl_601, kl_999, kl_1000, kl_2048, kl_9999]
          rw [f6_lowest_1]
          by_cases hx : x4 = nI 0
          · simp (disch := omega) only [lg_0, hx, Nat.add_sub_cancel, nm_s, bd1_s, bd2_s, bd3_s, gd_n, gd_ne, nI_clamp, nI_leI, nI_ltI, nI_eq, nI_add, pk_mul, pk_sub, up_r, upL_r, jrem_n, jmax_n, if_true, if_false, if_pos, if_neg, gd_i, Nat.zero_add, Nat.add_zero, Nat.mul_zero, nI_nn, nI_nn2, mI_le, mI_ne, mI_ne2, mI_ne3, mI_ne4, ne0, kl_0, kl_1, kl_2, kl_3, kl_4, kl_5, kl_6, kl_7, kl_8, kl_9, kl_10, kl_11, kl_12, kl_13, kl_14, kl_15, kl_16, kl_17, kl_18, kl_19, kl_20, kl_21, kl_22, kl_23, kl_32, kl_40, kl_48, kl_50, kl_53, kl_56, kl_57, kl_60, kl_61, kl_66, kl_97, kl_99, kl_100, kl_120, kl_122, kl_160, kl_200, kl_255, kl_300, kl_500, kl_600, kl_601, kl_999, kl_1000, kl_2048, kl_9999]
          · simp (disch := omega) only [lg_0, hx, Nat.add_sub_cancel, nm_s, bd1_s, bd2_s, bd3_s, gd_n, gd_ne, nI_clamp, nI_leI, nI_ltI, nI_eq, nI_add, pk_mul, pk_sub, up_r, upL_r, jrem_n, jmax_n, if_true, if_false, if_pos, if_neg, gd_i, Nat.zero_add, Nat.add_zero, Nat.mul_zero, nI_nn, nI_nn2, mI_le, mI_ne, mI_ne2, mI_ne3, mI_ne4, ne0, kl_0, kl_1, kl_2, kl_3, kl_4, kl_5, kl_6, kl_7, kl_8, kl_9, kl_10, kl_11, kl_12, kl_13, kl_14, kl_15, kl_16, kl_17, kl_18, kl_19, kl_20, kl_21, kl_22, kl_23, kl_32, kl_40, kl_48, kl_50, kl_53, kl_56, kl_57, kl_60, kl_61, kl_66, kl_97, kl_99, kl_100, kl_120, kl_122, kl_160, kl_200, kl_255, kl_300, kl_500, kl_600, kl_601, kl_999, kl_1000, kl_2048, kl_9999]
      · have hr2 := Nat.mod_lt b (show 0 < a % b by omega)
        have hh := mod_half (a := b) (b := a % b) (by omega) (by omega)
        obtain ⟨g, g1, g2, g3, g4⟩ := ih (a % b) (b % (a % b)) (s + 2) n k (by omega) (by omega) (by omega) (by omega) (by omega) (by omega)
        refine ⟨g, g1, fun _ => g2 (Or.inl (by omega)), ?_, ?_⟩
        · rw [f5_commonDivisor_1]
          simp (disch := omega) only [lg_0, gd_nl, jremL_n, Nat.add_sub_cancel, nm_s, bd1_s, bd2_s, bd3_s, gd_n, gd_ne, nI_clamp, nI_leI, nI_ltI, nI_eq, nI_add, pk_mul, pk_sub, up_r, upL_r, jrem_n, jmax_n, if_true, if_false, if_pos, if_neg, gd_i, Nat.zero_add, Nat.add_zero, Nat.mul_zero, nI_nn, nI_nn2, mI_le, mI_ne, mI_ne2, mI_ne3, mI_ne4, ne0, kl_0, kl_1, kl_2, kl_3, kl_4, kl_5, kl_6, kl_7, kl_8, kl_9, kl_10, kl_11, kl_12, kl_13, kl_14, kl_15, kl_16, kl_17, kl_18, kl_19, kl_20, kl_21, kl_22, kl_23, kl_32, kl_40, kl_48, kl_50, kl_53, kl_56, kl_57, kl_60, kl_61, kl_66, kl_97, kl_99, kl_100, kl_120, kl_122, kl_160, kl_200, kl_255, kl_300, kl_500, kl_600, kl_601, kl_999, kl_1000, kl_2048, kl_9999]
          rw [f5_commonDivisor_1]
          simp (disch := omega) only [lg_0, gd_nl, jremL_n, Nat.add_sub_cancel, nm_s, bd1_s, bd2_s, bd3_s, gd_n, gd_ne, nI_clamp, nI_leI, nI_ltI, nI_eq, nI_add, pk_mul, pk_sub, up_r, upL_r, jrem_n, jmax_n, if_true, if_false, if_pos, if_neg, gd_i, Nat.zero_add, Nat.add_zero, Nat.mul_zero, nI_nn, nI_nn2, mI_le, mI_ne, mI_ne2, mI_ne3, mI_ne4, ne0, kl_0, kl_1, kl_2, kl_3, kl_4, kl_5, kl_6, kl_7, kl_8, kl_9, kl_10, kl_11, kl_12, kl_13, kl_14, kl_15, kl_16, kl_17, kl_18, kl_19, kl_20, kl_21, kl_22, kl_23, kl_32, kl_40, kl_48, kl_50, kl_53, kl_56, kl_57, kl_60, kl_61, kl_66, kl_97, kl_99, kl_100, kl_120, kl_122, kl_160, kl_200, kl_255, kl_300, kl_500, kl_600, kl_601, kl_999, kl_1000, kl_2048, kl_9999]
          exact g3
        · rw [f6_lowest_1]
          simp (disch := omega) only [lg_0, gd_nl, jremL_n, Nat.add_sub_cancel, nm_s, bd1_s, bd2_s, bd3_s, gd_n, gd_ne, nI_clamp, nI_leI, nI_ltI, nI_eq, nI_add, pk_mul, pk_sub, up_r, upL_r, jrem_n, jmax_n, if_true, if_false, if_pos, if_neg, gd_i, Nat.zero_add, Nat.add_zero, Nat.mul_zero, nI_nn, nI_nn2, mI_le, mI_ne, mI_ne2, mI_ne3, mI_ne4, ne0, kl_0, kl_1, kl_2, kl_3, kl_4, kl_5, kl_6, kl_7, kl_8, kl_9, kl_10, kl_11, kl_12, kl_13, kl_14, kl_15, kl_16, kl_17, kl_18, kl_19, kl_20, kl_21, kl_22, kl_23, kl_32, kl_40, kl_48, kl_50, kl_53, kl_56, kl_57, kl_60, kl_61, kl_66, kl_97, kl_99, kl_100, kl_120, kl_122, kl_160, kl_200, kl_255, kl_300, kl_500, kl_600, kl_601, kl_999, kl_1000, kl_2048, kl_9999]
          rw [f6_lowest_1]
          simp (disch := omega) only [lg_0, gd_nl, jremL_n, Nat.add_sub_cancel, nm_s, bd1_s, bd2_s, bd3_s, gd_n, gd_ne, nI_clamp, nI_leI, nI_ltI, nI_eq, nI_add, pk_mul, pk_sub, up_r, upL_r, jrem_n, jmax_n, if_true, if_false, if_pos, if_neg, gd_i, Nat.zero_add, Nat.add_zero, Nat.mul_zero, nI_nn, nI_nn2, mI_le, mI_ne, mI_ne2, mI_ne3, mI_ne4, ne0, kl_0, kl_1, kl_2, kl_3, kl_4, kl_5, kl_6, kl_7, kl_8, kl_9, kl_10, kl_11, kl_12, kl_13, kl_14, kl_15, kl_16, kl_17, kl_18, kl_19, kl_20, kl_21, kl_22, kl_23, kl_32, kl_40, kl_48, kl_50, kl_53, kl_56, kl_57, kl_60, kl_61, kl_66, kl_97, kl_99, kl_100, kl_120, kl_122, kl_160, kl_200, kl_255, kl_300, kl_500, kl_600, kl_601, kl_999, kl_1000, kl_2048, kl_9999]
          exact g4
theorem lowest_eq {a b : Nat} (ha : a < 2 ^ 31) (hb : b < 2 ^ 31) (h0 : 0 < b) (x4 : Int32) : ∃ v, f5_lowest (lN a) (lN b) x4 = some v ∧ f6_lowest (lN a) (lN b) x4 = some v := by
  obtain ⟨g, g1, g2, g3, g4⟩ := gcd1 (x0 := lN a) (x2 := lN b) (x4 := x4) 31 a b 0 FUEL FUEL hb (by omega) ha (by omega) (fuel_o (by omega)) (fuel_o (by omega))
  have g5 := g2 (Or.inr h0)
  unfold f5_lowest f6_lowest f5_commonDivisor f5_lowest_1
  rw [g4]
  by_cases hx : x4 = nI 0
  · exact ⟨lN a / lN g, by simp (disch := omega) only [lg_0, gd_nl, g3, hx, Nat.add_sub_cancel, nm_s, bd1_s, bd2_s, bd3_s, gd_n, gd_ne, nI_clamp, nI_leI, nI_ltI, nI_eq, nI_add, pk_mul, pk_sub, up_r, upL_r, jrem_n, jmax_n, if_true, if_false, if_pos, if_neg, gd_i, Nat.zero_add, Nat.add_zero, Nat.mul_zero, nI_nn, nI_nn2, mI_le, mI_ne, mI_ne2, mI_ne3, mI_ne4, ne0, kl_0, kl_1, kl_2, kl_3, kl_4, kl_5, kl_6, kl_7, kl_8, kl_9, kl_10, kl_11, kl_12, kl_13, kl_14, kl_15, kl_16, kl_17, kl_18, kl_19, kl_20, kl_21, kl_22, kl_23, kl_32, kl_40, kl_48, kl_50, kl_53, kl_56, kl_57, kl_60, kl_61, kl_66, kl_97, kl_99, kl_100, kl_120, kl_122, kl_160, kl_200, kl_255, kl_300, kl_500, kl_600, kl_601, kl_999, kl_1000, kl_2048, kl_9999], by simp (disch := omega) only [gd_nl, hx, Nat.add_sub_cancel, nm_s, bd1_s, bd2_s, bd3_s, gd_n, gd_ne, nI_clamp, nI_leI, nI_ltI, nI_eq, nI_add, pk_mul, pk_sub, up_r, upL_r, jrem_n, jmax_n, if_true, if_false, if_pos, if_neg, gd_i, Nat.zero_add, Nat.add_zero, Nat.mul_zero, nI_nn, nI_nn2, mI_le, mI_ne, mI_ne2, mI_ne3, mI_ne4, ne0, kl_0, kl_1, kl_2, kl_3, kl_4, kl_5, kl_6, kl_7, kl_8, kl_9, kl_10, kl_11, kl_12, kl_13, kl_14, kl_15, kl_16, kl_17, kl_18, kl_19, kl_20, kl_21, kl_22, kl_23, kl_32, kl_40, kl_48, kl_50, kl_53, kl_56, kl_57, kl_60, kl_61, kl_66, kl_97, kl_99, kl_100, kl_120, kl_122, kl_160, kl_200, kl_255, kl_300, kl_500, kl_600, kl_601, kl_999, kl_1000, kl_2048, kl_9999]⟩
  · exact ⟨lN b / lN g, by simp (disch := omega) only [lg_0, gd_nl, g3, hx, Nat.add_sub_cancel, nm_s, bd1_s, bd2_s, bd3_s, gd_n, gd_ne, nI_clamp, nI_leI, nI_ltI, nI_eq, nI_add, pk_mul, pk_sub, up_r, upL_r, jrem_n, jmax_n, if_true, if_false, if_pos, if_neg, gd_i, Nat.zero_add, Nat.add_zero, Nat.mul_zero, nI_nn, nI_nn2, mI_le, mI_ne, mI_ne2, mI_ne3, mI_ne4, ne0, kl_0, kl_1, kl_2, kl_3, kl_4, kl_5, kl_6, kl_7, kl_8, kl_9, kl_10, kl_11, kl_12, kl_13, kl_14, kl_15, kl_16, kl_17, kl_18, kl_19, kl_20, kl_21, kl_22, kl_23, kl_32, kl_40, kl_48, kl_50, kl_53, kl_56, kl_57, kl_60, kl_61, kl_66, kl_97, kl_99, kl_100, kl_120, kl_122, kl_160, kl_200, kl_255, kl_300, kl_500, kl_600, kl_601, kl_999, kl_1000, kl_2048, kl_9999], by simp (disch := omega) only [gd_nl, hx, Nat.add_sub_cancel, nm_s, bd1_s, bd2_s, bd3_s, gd_n, gd_ne, nI_clamp, nI_leI, nI_ltI, nI_eq, nI_add, pk_mul, pk_sub, up_r, upL_r, jrem_n, jmax_n, if_true, if_false, if_pos, if_neg, gd_i, Nat.zero_add, Nat.add_zero, Nat.mul_zero, nI_nn, nI_nn2, mI_le, mI_ne, mI_ne2, mI_ne3, mI_ne4, ne0, kl_0, kl_1, kl_2, kl_3, kl_4, kl_5, kl_6, kl_7, kl_8, kl_9, kl_10, kl_11, kl_12, kl_13, kl_14, kl_15, kl_16, kl_17, kl_18, kl_19, kl_20, kl_21, kl_22, kl_23, kl_32, kl_40, kl_48, kl_50, kl_53, kl_56, kl_57, kl_60, kl_61, kl_66, kl_97, kl_99, kl_100, kl_120, kl_122, kl_160, kl_200, kl_255, kl_300, kl_500, kl_600, kl_601, kl_999, kl_1000, kl_2048, kl_9999]⟩
def SameL (μ μM : Mem) (ν : Lem) (a : Option (Int64 × Mem)) (b : Option (Int64 × Mem × Lem)) : Prop := ∃ r μ' μM' ν', a = some (r, μ') ∧ b = some (r, μM', ν') ∧ fC μ μ' ∧ fM μM μM'
theorem SameL.ret {μ μM : Mem} {ν : Lem} {a : Option (Int64 × Mem)} {b : Option (Int64 × Mem × Lem)} (r : Int64) (h1 : a = some (r, μ)) (h2 : b = some (r, μM, ν)) : SameL μ μM ν a b := ⟨r, μ, μM, ν, h1, h2, fC.rf, fM.rf⟩
/-- the first meeting isn't a minute in which they don't meet -/
theorem first_in {μ μM : Mem} {ν : Lem} {A B : Nat → Nat} (R : ROW μ μM A B) {l : Nat} (hl : l ≤ 600) : ∀ (k m : Nat) (x : Int32), m ≤ 601 → f6_firstMeet_1 μM ν k (nI l) (nI m) = some x → x = -nI 1 ∨ ∃ m, m ≤ 600 ∧ x = nI m ∧ MT A B l m := by
  intro k
  induction k with
  | zero => intro m x _ h; rw [f6_firstMeet_1] at h; cases h
  | succ k ih =>
    intro m x hm h
    rw [f6_firstMeet_1] at h
    by_cases h6 : m = 601
    · subst h6
      simp (disch := omega) only [Nat.add_sub_cancel, nm_s, bd1_s, bd2_s, bd3_s, gd_n, gd_ne, nI_clamp, nI_leI, nI_ltI, nI_eq, nI_add, pk_mul, pk_sub, up_r, upL_r, jrem_n, jmax_n, if_true, if_false, if_pos, if_neg, gd_i, Nat.zero_add, Nat.add_zero, Nat.mul_zero, nI_nn, nI_nn2, mI_le, mI_ne, mI_ne2, mI_ne3, mI_ne4, ne0, kl_0, kl_1, kl_2, kl_3, kl_4, kl_5, kl_6, kl_7, kl_8, kl_9, kl_10, kl_11, kl_12, kl_13, kl_14, kl_15, kl_16, kl_17, kl_18, kl_19, kl_20, kl_21, kl_22, kl_23, kl_32, kl_40, kl_48, kl_50, kl_53, kl_56, kl_57, kl_60, kl_61, kl_66, kl_97, kl_99, kl_100, kl_120, kl_122, kl_160, kl_200, kl_255, kl_300, kl_500, kl_600, kl_601, kl_999, kl_1000, kl_2048, kl_9999] at h
      exact Or.inl (Option.some.inj h).symm
    · have d := doMeet_M (ν := ν) R (m := m) (by omega) hl
      by_cases hP : MT A B l m
      · simp (disch := omega) only [d.1 hP, Nat.add_sub_cancel, nm_s, bd1_s, bd2_s, bd3_s, gd_n, gd_ne, nI_clamp, nI_leI, nI_ltI, nI_eq, nI_add, pk_mul, pk_sub, up_r, upL_r, jrem_n, jmax_n, if_true, if_false, if_pos, if_neg, gd_i, Nat.zero_add, Nat.add_zero, Nat.mul_zero, nI_nn, nI_nn2, mI_le, mI_ne, mI_ne2, mI_ne3, mI_ne4, ne0, kl_0, kl_1, kl_2, kl_3, kl_4, kl_5, kl_6, kl_7, kl_8, kl_9, kl_10, kl_11, kl_12, kl_13, kl_14, kl_15, kl_16, kl_17, kl_18, kl_19, kl_20, kl_21, kl_22, kl_23, kl_32, kl_40, kl_48, kl_50, kl_53, kl_56, kl_57, kl_60, kl_61, kl_66, kl_97, kl_99, kl_100, kl_120, kl_122, kl_160, kl_200, kl_255, kl_300, kl_500, kl_600, kl_601, kl_999, kl_1000, kl_2048, kl_9999] at h
        exact Or.inr ⟨m, by omega, (Option.some.inj h).symm, hP⟩
      · simp (disch := omega) only [d.2 hP, Nat.add_sub_cancel, nm_s, bd1_s, bd2_s, bd3_s, gd_n, gd_ne, nI_clamp, nI_leI, nI_ltI, nI_eq, nI_add, pk_mul, pk_sub, up_r, upL_r, jrem_n, jmax_n, if_true, if_false, if_pos, if_neg, gd_i, Nat.zero_add, Nat.add_zero, Nat.mul_zero, nI_nn, nI_nn2, mI_le, mI_ne, mI_ne2, mI_ne3, mI_ne4, ne0, kl_0, kl_1, kl_2, kl_3, kl_4, kl_5, kl_6, kl_7, kl_8, kl_9, kl_10, kl_11, kl_12, kl_13, kl_14, kl_15, kl_16, kl_17, kl_18, kl_19, kl_20, kl_21, kl_22, kl_23, kl_32, kl_40, kl_48, kl_50, kl_53, kl_56, kl_57, kl_60, kl_61, kl_66, kl_97, kl_99, kl_100, kl_120, kl_122, kl_160, kl_200, kl_255, kl_300, kl_500, kl_600, kl_601, kl_999, kl_1000, kl_2048, kl_9999] at h
        exact ih (m + 1) x (by omega) h
theorem first_not {μ μM : Mem} {ν : Lem} {A B : Nat → Nat} (R : ROW μ μM A B) (h : ¬ DD A B 0 600 = nI 0) : ¬ f6_firstMeet μM ν (nI 0) = some (nI 600) := by
  intro h2
  rcases first_in R (l := 0) (by omega) FUEL 0 _ (by omega) h2 with q | ⟨m, q1, q2, q3⟩
  · have := congrArg Int32.toInt q
    rw [nI_toInt (by decide), neg_toInt (by decide)] at this
    omega
  · have : 600 = m := (nI_eq (by decide) (by omega)).mp q2
    subst this
    rcases q3 with q3 | q3
    · exact h q3
    · omega
theorem when_call {μ μM : Mem} {ν : Lem} {T F n r : Nat} {G : Nat → Gw} (p : RQ μ μM T F n r G) (x1 x2 x3 : Int32) : SameL μ μM ν (f5_when μ x1 x2 x3) (f6_when μM ν x1 x2 x3) := by
  have pP := p.2.2.2.1
  have e : f6_in x3.toInt64 0 1 = if x3 < 0 then 0 else if nI 1 < x3 then 0 else 1 := in_c (a := 0) (b := 1) (by decide) (by decide)
  unfold f5_when f6_when
  rw [e]
  rcases two3 (ν := ν) pP x1 x2 with ⟨h1, h2⟩ | ⟨a, b, ha, hb, hab, rfl, rfl, h1, h2⟩
  · exact SameL.ret _ (by simp (disch := omega) only [h1, Nat.add_sub_cancel, nm_s, bd1_s, bd2_s, bd3_s, gd_n, gd_ne, nI_clamp, nI_leI, nI_ltI, nI_eq, nI_add, pk_mul, pk_sub, up_r, upL_r, jrem_n, jmax_n, if_true, if_false, if_pos, if_neg, gd_i, Nat.zero_add, Nat.add_zero, Nat.mul_zero, nI_nn, nI_nn2, mI_le, mI_ne, mI_ne2, mI_ne3, mI_ne4, ne0, kl_0, kl_1, kl_2, kl_3, kl_4, kl_5, kl_6, kl_7, kl_8, kl_9, kl_10, kl_11, kl_12, kl_13, kl_14, kl_15, kl_16, kl_17, kl_18, kl_19, kl_20, kl_21, kl_22, kl_23, kl_32, kl_40, kl_48, kl_50, kl_53, kl_56, kl_57, kl_60, kl_61, kl_66, kl_97, kl_99, kl_100, kl_120, kl_122, kl_160, kl_200, kl_255, kl_300, kl_500, kl_600, kl_601, kl_999, kl_1000, kl_2048, kl_9999]; rfl) (by simp (disch := omega) only [h2, Nat.add_sub_cancel, nm_s, bd1_s, bd2_s, bd3_s, gd_n, gd_ne, nI_clamp, nI_leI, nI_ltI, nI_eq, nI_add, pk_mul, pk_sub, up_r, upL_r, jrem_n, jmax_n, if_true, if_false, if_pos, if_neg, gd_i, Nat.zero_add, Nat.add_zero, Nat.mul_zero, nI_nn, nI_nn2, mI_le, mI_ne, mI_ne2, mI_ne3, mI_ne4, ne0, kl_0, kl_1, kl_2, kl_3, kl_4, kl_5, kl_6, kl_7, kl_8, kl_9, kl_10, kl_11, kl_12, kl_13, kl_14, kl_15, kl_16, kl_17, kl_18, kl_19, kl_20, kl_21, kl_22, kl_23, kl_32, kl_40, kl_48, kl_50, kl_53, kl_56, kl_57, kl_60, kl_61, kl_66, kl_97, kl_99, kl_100, kl_120, kl_122, kl_160, kl_200, kl_255, kl_300, kl_500, kl_600, kl_601, kl_999, kl_1000, kl_2048, kl_9999])
  · rcases win3 x3 1 (by decide) with ⟨h3, h4⟩ | ⟨h3, h4, h5⟩ | ⟨k, hk, rfl, h3⟩
    · exact SameL.ret _ (by simp (disch := omega) only [h1, h3, Nat.add_sub_cancel, nm_s, bd1_s, bd2_s, bd3_s, gd_n, gd_ne, nI_clamp, nI_leI, nI_ltI, nI_eq, nI_add, pk_mul, pk_sub, up_r, upL_r, jrem_n, jmax_n, if_true, if_false, if_pos, if_neg, gd_i, Nat.zero_add, Nat.add_zero, Nat.mul_zero, nI_nn, nI_nn2, mI_le, mI_ne, mI_ne2, mI_ne3, mI_ne4, ne0, kl_0, kl_1, kl_2, kl_3, kl_4, kl_5, kl_6, kl_7, kl_8, kl_9, kl_10, kl_11, kl_12, kl_13, kl_14, kl_15, kl_16, kl_17, kl_18, kl_19, kl_20, kl_21, kl_22, kl_23, kl_32, kl_40, kl_48, kl_50, kl_53, kl_56, kl_57, kl_60, kl_61, kl_66, kl_97, kl_99, kl_100, kl_120, kl_122, kl_160, kl_200, kl_255, kl_300, kl_500, kl_600, kl_601, kl_999, kl_1000, kl_2048, kl_9999]; rfl) (by rw [h4]; simp (disch := omega) only [h2, Nat.add_sub_cancel, nm_s, bd1_s, bd2_s, bd3_s, gd_n, gd_ne, nI_clamp, nI_leI, nI_ltI, nI_eq, nI_add, pk_mul, pk_sub, up_r, upL_r, jrem_n, jmax_n, if_true, if_false, if_pos, if_neg, gd_i, Nat.zero_add, Nat.add_zero, Nat.mul_zero, nI_nn, nI_nn2, mI_le, mI_ne, mI_ne2, mI_ne3, mI_ne4, ne0, kl_0, kl_1, kl_2, kl_3, kl_4, kl_5, kl_6, kl_7, kl_8, kl_9, kl_10, kl_11, kl_12, kl_13, kl_14, kl_15, kl_16, kl_17, kl_18, kl_19, kl_20, kl_21, kl_22, kl_23, kl_32, kl_40, kl_48, kl_50, kl_53, kl_56, kl_57, kl_60, kl_61, kl_66, kl_97, kl_99, kl_100, kl_120, kl_122, kl_160, kl_200, kl_255, kl_300, kl_500, kl_600, kl_601, kl_999, kl_1000, kl_2048, kl_9999])
    · exact SameL.ret _ (by simp (disch := omega) only [h1, h3, h4, Nat.add_sub_cancel, nm_s, bd1_s, bd2_s, bd3_s, gd_n, gd_ne, nI_clamp, nI_leI, nI_ltI, nI_eq, nI_add, pk_mul, pk_sub, up_r, upL_r, jrem_n, jmax_n, if_true, if_false, if_pos, if_neg, gd_i, Nat.zero_add, Nat.add_zero, Nat.mul_zero, nI_nn, nI_nn2, mI_le, mI_ne, mI_ne2, mI_ne3, mI_ne4, ne0, kl_0, kl_1, kl_2, kl_3, kl_4, kl_5, kl_6, kl_7, kl_8, kl_9, kl_10, kl_11, kl_12, kl_13, kl_14, kl_15, kl_16, kl_17, kl_18, kl_19, kl_20, kl_21, kl_22, kl_23, kl_32, kl_40, kl_48, kl_50, kl_53, kl_56, kl_57, kl_60, kl_61, kl_66, kl_97, kl_99, kl_100, kl_120, kl_122, kl_160, kl_200, kl_255, kl_300, kl_500, kl_600, kl_601, kl_999, kl_1000, kl_2048, kl_9999]; rfl) (by rw [h5]; simp (disch := omega) only [h2, Nat.add_sub_cancel, nm_s, bd1_s, bd2_s, bd3_s, gd_n, gd_ne, nI_clamp, nI_leI, nI_ltI, nI_eq, nI_add, pk_mul, pk_sub, up_r, upL_r, jrem_n, jmax_n, if_true, if_false, if_pos, if_neg, gd_i, Nat.zero_add, Nat.add_zero, Nat.mul_zero, nI_nn, nI_nn2, mI_le, mI_ne, mI_ne2, mI_ne3, mI_ne4, ne0, kl_0, kl_1, kl_2, kl_3, kl_4, kl_5, kl_6, kl_7, kl_8, kl_9, kl_10, kl_11, kl_12, kl_13, kl_14, kl_15, kl_16, kl_17, kl_18, kl_19, kl_20, kl_21, kl_22, kl_23, kl_32, kl_40, kl_48, kl_50, kl_53, kl_56, kl_57, kl_60, kl_61, kl_66, kl_97, kl_99, kl_100, kl_120, kl_122, kl_160, kl_200, kl_255, kl_300, kl_500, kl_600, kl_601, kl_999, kl_1000, kl_2048, kl_9999])
    · obtain ⟨μ', μM', l1, l2, l3, l4, A, B, R⟩ := two_laid ν pP ha hb
      obtain ⟨v, w1, w2, w3⟩ := first_eq (ν := ν) R (l := 0) (by omega)
      rw [h3]
      rcases w3 with rfl | ⟨m, hm, rfl⟩
      · exact ⟨_, μ', μM', ν, by simp (disch := omega) only [h1, l1, w1, Nat.add_sub_cancel, nm_s, bd1_s, bd2_s, bd3_s, gd_n, gd_ne, nI_clamp, nI_leI, nI_ltI, nI_eq, nI_add, pk_mul, pk_sub, up_r, upL_r, jrem_n, jmax_n, if_true, if_false, if_pos, if_neg, gd_i, Nat.zero_add, Nat.add_zero, Nat.mul_zero, nI_nn, nI_nn2, mI_le, mI_ne, mI_ne2, mI_ne3, mI_ne4, ne0, kl_0, kl_1, kl_2, kl_3, kl_4, kl_5, kl_6, kl_7, kl_8, kl_9, kl_10, kl_11, kl_12, kl_13, kl_14, kl_15, kl_16, kl_17, kl_18, kl_19, kl_20, kl_21, kl_22, kl_23, kl_32, kl_40, kl_48, kl_50, kl_53, kl_56, kl_57, kl_60, kl_61, kl_66, kl_97, kl_99, kl_100, kl_120, kl_122, kl_160, kl_200, kl_255, kl_300, kl_500, kl_600, kl_601, kl_999, kl_1000, kl_2048, kl_9999]; rfl, by simp (disch := omega) only [h2, l2, w2, Nat.add_sub_cancel, nm_s, bd1_s, bd2_s, bd3_s, gd_n, gd_ne, nI_clamp, nI_leI, nI_ltI, nI_eq, nI_add, pk_mul, pk_sub, up_r, upL_r, jrem_n, jmax_n, if_true, if_false, if_pos, if_neg, gd_i, Nat.zero_add, Nat.add_zero, Nat.mul_zero, nI_nn, nI_nn2, mI_le, mI_ne, mI_ne2, mI_ne3, mI_ne4, ne0, kl_0, kl_1, kl_2, kl_3, kl_4, kl_5, kl_6, kl_7, kl_8, kl_9, kl_10, kl_11, kl_12, kl_13, kl_14, kl_15, kl_16, kl_17, kl_18, kl_19, kl_20, kl_21, kl_22, kl_23, kl_32, kl_40, kl_48, kl_50, kl_53, kl_56, kl_57, kl_60, kl_61, kl_66, kl_97, kl_99, kl_100, kl_120, kl_122, kl_160, kl_200, kl_255, kl_300, kl_500, kl_600, kl_601, kl_999, kl_1000, kl_2048, kl_9999], l3, l4⟩
      · have c0 := gap_C R hm (l := 0) (by omega)
        have d0 := gap_M (ν := ν) R hm (l := 0) (by omega)
        have rA := R.1
        have rB := R.2.1
        have q1 := rA m
        have q2 := rB m
        have hd : dst (A m) (B m) ≤ 999000 := by unfold dst; omega
        unfold DD at c0 d0
        rw [Nat.sub_zero] at c0 d0
        by_cases hz : dst (A m) (B m) = 0
        · have hk2 : k = 0 ∨ k = 1 := by omega
          rcases hk2 with rfl | rfl
          · exact ⟨(nI m).toInt64, μ', μM', ν, by simp (disch := omega) only [h1, l1, w1, c0, jabs_d, nI_l, hz, lg_0, Nat.add_sub_cancel, nm_s, bd1_s, bd2_s, bd3_s, gd_n, gd_ne, nI_clamp, nI_leI, nI_ltI, nI_eq, nI_add, pk_mul, pk_sub, up_r, upL_r, jrem_n, jmax_n, if_true, if_false, if_pos, if_neg, gd_i, Nat.zero_add, Nat.add_zero, Nat.mul_zero, nI_nn, nI_nn2, mI_le, mI_ne, mI_ne2, mI_ne3, mI_ne4, ne0, kl_0, kl_1, kl_2, kl_3, kl_4, kl_5, kl_6, kl_7, kl_8, kl_9, kl_10, kl_11, kl_12, kl_13, kl_14, kl_15, kl_16, kl_17, kl_18, kl_19, kl_20, kl_21, kl_22, kl_23, kl_32, kl_40, kl_48, kl_50, kl_53, kl_56, kl_57, kl_60, kl_61, kl_66, kl_97, kl_99, kl_100, kl_120, kl_122, kl_160, kl_200, kl_255, kl_300, kl_500, kl_600, kl_601, kl_999, kl_1000, kl_2048, kl_9999], by simp (disch := omega) only [h2, l2, w2, d0, plain_d, hz, lg_0, nI_l, Nat.add_sub_cancel, nm_s, bd1_s, bd2_s, bd3_s, gd_n, gd_ne, nI_clamp, nI_leI, nI_ltI, nI_eq, nI_add, pk_mul, pk_sub, up_r, upL_r, jrem_n, jmax_n, if_true, if_false, if_pos, if_neg, gd_i, Nat.zero_add, Nat.add_zero, Nat.mul_zero, nI_nn, nI_nn2, mI_le, mI_ne, mI_ne2, mI_ne3, mI_ne4, ne0, kl_0, kl_1, kl_2, kl_3, kl_4, kl_5, kl_6, kl_7, kl_8, kl_9, kl_10, kl_11, kl_12, kl_13, kl_14, kl_15, kl_16, kl_17, kl_18, kl_19, kl_20, kl_21, kl_22, kl_23, kl_32, kl_40, kl_48, kl_50, kl_53, kl_56, kl_57, kl_60, kl_61, kl_66, kl_97, kl_99, kl_100, kl_120, kl_122, kl_160, kl_200, kl_255, kl_300, kl_500, kl_600, kl_601, kl_999, kl_1000, kl_2048, kl_9999], l3, l4⟩
          · exact ⟨1, μ', μM', ν, by simp (disch := omega) only [h1, l1, w1, c0, jabs_d, nI_l, hz, lg_0, Nat.add_sub_cancel, nm_s, bd1_s, bd2_s, bd3_s, gd_n, gd_ne, nI_clamp, nI_leI, nI_ltI, nI_eq, nI_add, pk_mul, pk_sub, up_r, upL_r, jrem_n, jmax_n, if_true, if_false, if_pos, if_neg, gd_i, Nat.zero_add, Nat.add_zero, Nat.mul_zero, nI_nn, nI_nn2, mI_le, mI_ne, mI_ne2, mI_ne3, mI_ne4, ne0, kl_0, kl_1, kl_2, kl_3, kl_4, kl_5, kl_6, kl_7, kl_8, kl_9, kl_10, kl_11, kl_12, kl_13, kl_14, kl_15, kl_16, kl_17, kl_18, kl_19, kl_20, kl_21, kl_22, kl_23, kl_32, kl_40, kl_48, kl_50, kl_53, kl_56, kl_57, kl_60, kl_61, kl_66, kl_97, kl_99, kl_100, kl_120, kl_122, kl_160, kl_200, kl_255, kl_300, kl_500, kl_600, kl_601, kl_999, kl_1000, kl_2048, kl_9999], by simp (disch := omega) only [h2, l2, w2, d0, plain_d, hz, lg_0, Nat.add_sub_cancel, nm_s, bd1_s, bd2_s, bd3_s, gd_n, gd_ne, nI_clamp, nI_leI, nI_ltI, nI_eq, nI_add, pk_mul, pk_sub, up_r, upL_r, jrem_n, jmax_n, if_true, if_false, if_pos, if_neg, gd_i, Nat.zero_add, Nat.add_zero, Nat.mul_zero, nI_nn, nI_nn2, mI_le, mI_ne, mI_ne2, mI_ne3, mI_ne4, ne0, kl_0, kl_1, kl_2, kl_3, kl_4, kl_5, kl_6, kl_7, kl_8, kl_9, kl_10, kl_11, kl_12, kl_13, kl_14, kl_15, kl_16, kl_17, kl_18, kl_19, kl_20, kl_21, kl_22, kl_23, kl_32, kl_40, kl_48, kl_50, kl_53, kl_56, kl_57, kl_60, kl_61, kl_66, kl_97, kl_99, kl_100, kl_120, kl_122, kl_160, kl_200, kl_255, kl_300, kl_500, kl_600, kl_601, kl_999, kl_1000, kl_2048, kl_9999], l3, l4⟩
        · -- then minute 600 has no gap
          have hm6 : m < 600 := by
            rcases Nat.lt_or_ge m 600 with q | q
            · exact q
            · exfalso
              have hm' : m = 600 := by omega
              subst hm'
              obtain ⟨-, t2⟩ := doMeet_M (ν := ν) R (m := 600) (l := 0) (by omega) (by omega)
              have hDD : ¬ DD A B 0 600 = nI 0 := by
                intro h
                unfold DD at h
                rw [Nat.sub_zero] at h
                have := congrArg Int32.toInt h
                rw [pk_sub_toInt (by omega) (by omega), nI_toInt (by decide)] at this
                unfold dst at hz
                omega
              exact first_not R hDD w2
          have c1 := gap_C R (m := m + 1) (by omega) (l := 0) (by omega)
          have d1 := gap_M (ν := ν) R (m := m + 1) (by omega) (l := 0) (by omega)
          have q3 := rA (m + 1)
          have q4 := rB (m + 1)
          have hd1 : dst (A (m + 1)) (B (m + 1)) ≤ 999000 := by unfold dst; omega
          unfold DD at c1 d1
          rw [Nat.sub_zero] at c1 d1
          have hmul : m * (dst (A m) (B m) + dst (A (m + 1)) (B (m + 1))) ≤ 600 * 1998000 := Nat.mul_le_mul (by omega) (by omega)
          obtain ⟨v, y1, y2⟩ := lowest_eq (a := m * (dst (A m) (B m) + dst (A (m + 1)) (B (m + 1))) + dst (A m) (B m)) (b := dst (A m) (B m) + dst (A (m + 1)) (B (m + 1))) (by omega) (by omega) (by omega) (nI k)
          exact ⟨v, μ', μM', ν, by simp (disch := omega) only [h1, l1, w1, c0, c1, jabs_d, nI_l, hz, lg_0, lN_add, lN_mul, y1, Nat.add_sub_cancel, nm_s, bd1_s, bd2_s, bd3_s, gd_n, gd_ne, nI_clamp, nI_leI, nI_ltI, nI_eq, nI_add, pk_mul, pk_sub, up_r, upL_r, jrem_n, jmax_n, if_true, if_false, if_pos, if_neg, gd_i, Nat.zero_add, Nat.add_zero, Nat.mul_zero, nI_nn, nI_nn2, mI_le, mI_ne, mI_ne2, mI_ne3, mI_ne4, ne0, kl_0, kl_1, kl_2, kl_3, kl_4, kl_5, kl_6, kl_7, kl_8, kl_9, kl_10, kl_11, kl_12, kl_13, kl_14, kl_15, kl_16, kl_17, kl_18, kl_19, kl_20, kl_21, kl_22, kl_23, kl_32, kl_40, kl_48, kl_50, kl_53, kl_56, kl_57, kl_60, kl_61, kl_66, kl_97, kl_99, kl_100, kl_120, kl_122, kl_160, kl_200, kl_255, kl_300, kl_500, kl_600, kl_601, kl_999, kl_1000, kl_2048, kl_9999], by simp (disch := omega) only [h2, l2, w2, d0, d1, plain_d, nI_l, hz, lg_0, lN_add, lN_mul, y2, Nat.add_sub_cancel, nm_s, bd1_s, bd2_s, bd3_s, gd_n, gd_ne, nI_clamp, nI_leI, nI_ltI, nI_eq, nI_add, pk_mul, pk_sub, up_r, upL_r, jrem_n, jmax_n, if_true, if_false, if_pos, if_neg, gd_i, Nat.zero_add, Nat.add_zero, Nat.mul_zero, nI_nn, nI_nn2, mI_le, mI_ne, mI_ne2, mI_ne3, mI_ne4, ne0, kl_0, kl_1, kl_2, kl_3, kl_4, kl_5, kl_6, kl_7, kl_8, kl_9, kl_10, kl_11, kl_12, kl_13, kl_14, kl_15, kl_16, kl_17, kl_18, kl_19, kl_20, kl_21, kl_22, kl_23, kl_32, kl_40, kl_48, kl_50, kl_53, kl_56, kl_57, kl_60, kl_61, kl_66, kl_97, kl_99, kl_100, kl_120, kl_122, kl_160, kl_200, kl_255, kl_300, kl_500, kl_600, kl_601, kl_999, kl_1000, kl_2048, kl_9999], l3, l4⟩
