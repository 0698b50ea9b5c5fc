/-! the rule asked in both worlds -/
theorem ev_congr {env env' : Nat → Int32} (h : ∀ e, e < 6 → env e = env' e) : ∀ (c st : List Int32), ev env c st = ev env' c st
  | [], _ => rfl
  | c :: cs, st => by
    have hs : stp env c st = stp env' c st := by
      unfold stp
      by_cases h0 : (0 : Int32) ≤ c
      · rw [if_pos h0, if_pos h0]
      · rw [if_neg h0, if_neg h0]
        obtain ⟨e, he, hce⟩ := cpl_n h0
        rw [hce, show (6 : Int32) = nI 6 from rfl]
        by_cases h6 : e < 6
        · rw [if_pos (nI_lt h6 (by decide)), if_pos (nI_lt h6 (by decide)), nI_clamp he, h e h6]
        · rw [if_neg (nI_nlt (by omega) he), if_neg (nI_nlt (by omega) he)]
    show ev env cs (stp env c st) = ev env' cs (stp env' c st)
    rw [hs]
    exact ev_congr h cs _
theorem within2 (lo v hi : Int32) (h : lo ≤ hi) : f5_within lo v hi = f6_within v lo hi ∧ lo ≤ f6_within v lo hi ∧ f6_within v lo hi ≤ hi := by
  unfold f5_within f6_within jmax jmin
  rw [fa_le] at h
  by_cases h1 : lo ≤ v
  · rw [if_pos h1]
    rw [fa_le] at h1
    by_cases h2 : v ≤ hi
    · rw [if_pos h2]
      rw [fa_le] at h2
      have hn : ¬ hi < v := by rw [fa_lt]; omega
      rw [if_neg hn]
      refine ⟨?_, by rw [fa_le]; omega, by rw [fa_le]; omega⟩
      by_cases h3 : lo < v
      · rw [if_pos h3]
      · rw [if_neg h3]
        rw [fa_lt] at h3
        rw [fa_eq]; omega
    · rw [if_neg h2]
      rw [fa_le] at h2
      have hn : hi < v := by rw [fa_lt]; omega
      rw [if_pos hn]
      refine ⟨?_, by rw [fa_le]; omega, by rw [fa_le]; omega⟩
      by_cases h3 : lo < hi
      · rw [if_pos h3]
      · rw [if_neg h3]
        rw [fa_lt] at h3
        rw [fa_eq]; omega
  · rw [if_neg h1]
    rw [fa_le] at h1
    have hn : ¬ hi < v := by rw [fa_lt]; omega
    have hn2 : ¬ lo < v := by rw [fa_lt]; omega
    rw [if_neg hn, if_neg hn2]
    exact ⟨rfl, by rw [fa_le]; omega, by rw [fa_le]; omega⟩
/-- what the names say of way g (number w) in minute m -/
def ENV (F : Nat) (g : Gw) (w m : Nat) (e : Nat) : Int32 := if e = 0 then nI m else if e = 1 then nI (AT F g m / 1000) else if e = 2 then nI w else if e = 3 then nI (dst (AT F g m) (AT F g (m - 1))) else if e = 4 then nI F else nI (g 2)
def clp (k : Nat) (v : Int32) : Int32 := if k = 0 then f6_within v 0 9999 else if k = 1 then f6_within v (-60) 60 else f6_within v 0 99
def fU (μ μ' : Mem) : Prop := ∀ k i, k ≠ 9 → k ≠ 10 → μ' k i = μ k i
def fV (μ μ' : Mem) : Prop := ∀ k i, (0 < k ∨ i < 14 ∨ 28 < i) → μ' k i = μ k i
theorem fU.c {μ μ1 : Mem} (h : fU μ μ1) : fC μ μ1 := fun k i q => h k i (by omega) (by omega)
theorem fV.m {μ μ1 : Mem} (h : fV μ μ1) : fM μ μ1 := fun k i q => h k i (by omega)
theorem fU.tr {μ μ1 μ2 : Mem} (h : fU μ μ1) (h2 : fU μ1 μ2) : fU μ μ2 := fun k i q q2 => (h2 k i q q2).trans (h k i q q2)
theorem fV.tr {μ μ1 μ2 : Mem} (h : fV μ μ1) (h2 : fV μ1 μ2) : fV μ μ2 := fun k i q => (h2 k i q).trans (h k i q)
theorem fU.rf {μ : Mem} : fU μ μ := fun _ _ _ _ => rfl
theorem fV.rf {μ : Mem} : fV μ μ := fun _ _ _ => rfl
theorem jabs_p {a : Nat} (h : a < 2 ^ 31) : jabs (nI a) = nI a := if_pos (nI_pos' h)
theorem dst_self (a : Nat) : dst a a = 0 := by unfold dst; omega
theorem st_k (k : Nat) (hk : k < 3) (v : Int32) : f5_within (stLeast k) v (stMost k) = clp k v := by
  have h : k = 0 ∨ k = 1 ∨ k = 2 := by omega
  rcases h with rfl | rfl | rfl
  · exact (within2 0 v 9999 (by decide)).1
  · exact (within2 (-60) v 60 (by decide)).1
  · exact (within2 0 v 99 (by decide)).1
theorem list_in {α : Type} {a b c : List α} {i : Nat} (h : i < b.length) : (a ++ (b ++ c))[a.length + i]? = b[i]? := by
  rw [List.getElem?_append_right (by omega), show a.length + i - a.length = i by omega, List.getElem?_append_left h]
theorem list_in3 {α : Type} {a b c : List α} {i : Nat} : (a ++ (b ++ c))[a.length + b.length + i]? = c[i]? := by
  rw [List.getElem?_append_right (by omega), List.getElem?_append_right (by omega), show a.length + b.length + i - a.length - b.length = i by omega]
theorem tell_k {μ μM : Mem} {t : Nat} {cn co cw : List Int32} (ht : t < 6) (r4 : (cn ++ (co ++ cw)).length ≤ 160) (r5 : μ (55 + 3 * t) 0 = nI cn.length) (r6 : μ (55 + 3 * t) 1 = nI (cn.length + co.length)) (r7 : μ (55 + 3 * t) 2 = nI (cn ++ (co ++ cw)).length) (r8 : ∀ i, i < (cn ++ (co ++ cw)).length → (cn ++ (co ++ cw))[i]? = some (μ (54 + 3 * t) i)) {env : Nat → Int32} (henv : ∀ e, e < 6 → μ 9 e = env e) (k : Nat) (hk : k < 3) :
    ∃ μ', f3_tell μ t (nI k) = some ((ev env (if k = 0 then cn else if k = 1 then co else cw) []).headD 0, μ') ∧ fS μ μ' := by
  have hlen : (cn ++ (co ++ cw)).length = cn.length + (co.length + cw.length) := by simp
  rw [hlen] at r4 r7 r8
  have h : k = 0 ∨ k = 1 ∨ k = 2 := by omega
  have hs : stk μ [] := fun j hj => absurd hj (Nat.not_lt_zero j)
  rcases h with rfl | rfl | rfl
  · obtain ⟨μ', q1, q2⟩ := tell1 (k := 0) ht (by omega) r5 (by omega) henv cn [] μ 0 FUEL (fun _ _ _ => rfl) hs (fun j hj => by
      rw [Nat.zero_add, ← r8 j (by omega), List.getElem?_append_left hj]) (by omega) (by rw [List.length_nil]; omega) (fuel_o (by omega))
    refine ⟨μ', ?_, q2⟩
    unfold f3_tell
    simp (disch := omega) only [Nat.add_sub_cancel, nm_s, bd1_s, bd2_s, bd3_s, gd_n, gd_ne, nI_clamp, nI_leI, nI_ltI, nI_eq, nI_add, pk_mul, pk_sub, up_r, upL_r, jrem_n, jmax_n, if_true, if_false, if_pos, if_neg, gd_i, Nat.zero_add, Nat.add_zero, Nat.mul_zero, nI_nn, nI_nn2, mI_le, mI_ne, mI_ne2, mI_ne3, mI_ne4, ne0, kl_0, kl_1, kl_2, kl_3, kl_4, kl_5, kl_6, kl_7, kl_8, kl_9, kl_10, kl_11, kl_12, kl_13, kl_14, kl_15, kl_16, kl_17, kl_18, kl_19, kl_20, kl_21, kl_22, kl_23, kl_32, kl_40, kl_48, kl_50, kl_53, kl_56, kl_57, kl_60, kl_61, kl_66, kl_97, kl_99, kl_100, kl_120, kl_122, kl_160, kl_200, kl_255, kl_300, kl_500, kl_600, kl_601, kl_999, kl_1000, kl_2048, kl_9999]
    exact q1
  · obtain ⟨μ', q1, q2⟩ := tell1 (k := 1) ht (by omega) r6 (by omega) henv co [] μ cn.length FUEL (fun _ _ _ => rfl) hs (fun j hj => by
      rw [← r8 _ (by omega), list_in hj]) (by omega) (by rw [List.length_nil]; omega) (fuel_o (by omega))
    refine ⟨μ', ?_, q2⟩
    unfold f3_tell
    simp (disch := omega) only [r5, Nat.add_sub_cancel, nm_s, bd1_s, bd2_s, bd3_s, gd_n, gd_ne, nI_clamp, nI_leI, nI_ltI, nI_eq, nI_add, pk_mul, pk_sub, up_r, upL_r, jrem_n, jmax_n, if_true, if_false, if_pos, if_neg, gd_i, Nat.zero_add, Nat.add_zero, Nat.mul_zero, nI_nn, nI_nn2, mI_le, mI_ne, mI_ne2, mI_ne3, mI_ne4, ne0, kl_0, kl_1, kl_2, kl_3, kl_4, kl_5, kl_6, kl_7, kl_8, kl_9, kl_10, kl_11, kl_12, kl_13, kl_14, kl_15, kl_16, kl_17, kl_18, kl_19, kl_20, kl_21, kl_22, kl_23, kl_32, kl_40, kl_48, kl_50, kl_53, kl_56, kl_57, kl_60, kl_61, kl_66, kl_97, kl_99, kl_100, kl_120, kl_122, kl_160, kl_200, kl_255, kl_300, kl_500, kl_600, kl_601, kl_999, kl_1000, kl_2048, kl_9999]
    exact q1
  · obtain ⟨μ', q1, q2⟩ := tell1 (k := 2) ht (by omega) r7 (by omega) henv cw [] μ (cn.length + co.length) FUEL (fun _ _ _ => rfl) hs (fun j hj => by
      rw [← r8 _ (by omega), list_in3]) (by omega) (by rw [List.length_nil]; omega) (fuel_o (by omega))
    refine ⟨μ', ?_, q2⟩
    unfold f3_tell
    simp (disch := omega) only [r6, Nat.add_sub_cancel, nm_s, bd1_s, bd2_s, bd3_s, gd_n, gd_ne, nI_clamp, nI_leI, nI_ltI, nI_eq, nI_add, pk_mul, pk_sub, up_r, upL_r, jrem_n, jmax_n, if_true, if_false, if_pos, if_neg, gd_i, Nat.zero_add, Nat.add_zero, Nat.mul_zero, nI_nn, nI_nn2, mI_le, mI_ne, mI_ne2, mI_ne3, mI_ne4, ne0, kl_0, kl_1, kl_2, kl_3, kl_4, kl_5, kl_6, kl_7, kl_8, kl_9, kl_10, kl_11, kl_12, kl_13, kl_14, kl_15, kl_16, kl_17, kl_18, kl_19, kl_20, kl_21, kl_22, kl_23, kl_32, kl_40, kl_48, kl_50, kl_53, kl_56, kl_57, kl_60, kl_61, kl_66, kl_97, kl_99, kl_100, kl_120, kl_122, kl_160, kl_200, kl_255, kl_300, kl_500, kl_600, kl_601, kl_999, kl_1000, kl_2048, kl_9999]
    exact q1
theorem ruled_all {μ μM : Mem} {T F n r : Nat} {G : Nat → Gw} (p : RQ μ μM T F n r G) : ∃ V : Nat → Nat → Nat → Int32, (∀ k w m, ∃ v, V k w m = clp k v) ∧ ∀ (μ1 μM1 : Mem) (ν1 : Lem) (k w m : Nat), fC μ μ1 → fM μM μM1 → k < 3 → w < n → m ≤ 600 →
    ∃ μ' μM' ν', f5_ruled μ1 (nI k) (nI w) (nI m) = some (V k w m, μ') ∧ f6_says μM1 ν1 (nI k) (nI w) (nI m) = some (V k w m, μM', ν') ∧ fU μ1 μ' ∧ fV μM1 μM' := by
  obtain ⟨pT, pB, pS, pP, pK, hr⟩ := p
  obtain ⟨t1, t2, t3, t4, t5⟩ := pT
  obtain ⟨s, b, cn, co, cw, r1, r2, r3, r4, r5, r6, r7, r8, r9⟩ := t5 r hr
  refine ⟨fun k w m => clp k ((ev (ENV F (G w) w m) (if k = 0 then cn else if k = 1 then co else cw) []).headD 0), fun k w m => ⟨_, rfl⟩, ?_⟩
  intro μ1 μM1 ν1 k w m hf hfM hk hw hm
  obtain ⟨p1, p2, p3, p4, p5, p6, p7, p8, p9, p10⟩ := pP.fr hf hfM
  obtain ⟨hG, hC, hM⟩ := p10 w hw
  have hwh := fun (μ9 : Mem) (h : WC μ9 w (G w)) (m : Nat) (hm : m ≤ 600) => AT_C hG p2 h hm
  have a1 := AT_le hG p2 hm
  have a0 := AT_le hG p2 (m := m - 1) (by omega)
  have g2 := hG.2.2.1
  have hsz := hC.2.2.1
  -- the class
  obtain ⟨μa, ha1, ha2⟩ : ∃ μa : Mem, f5_ruled μ1 (nI k) (nI w) (nI m) = gd (inb (nI k) 3) (gd (inb (μa 1 2) 6) (bd2 (f3_tell μa ((μa 1 2).toNatClampNeg) (nI k)) (fun r142 μ142 => gd (inb (nI k) 3) (some ((f5_within (stLeast (nI k).toNatClampNeg) r142 (stMost (nI k).toNatClampNeg)), μ142))))) ∧ (∀ e, e < 6 → μa 9 e = ENV F (G w) w m e) ∧ ∀ k i, k ≠ 9 → μa k i = μ1 k i := by
    refine ⟨up (up (up (up (up (up μ1 9 0 (nI m)) 9 1 (nI (AT F (G w) m / 1000))) 9 2 (nI w)) 9 3 (nI (dst (AT F (G w) m) (AT F (G w) (m - 1))))) 9 4 (nI F)) 9 5 (nI (G w 2)), ?_, ?_, ?_⟩
    · by_cases hm0 : m = 0
      · subst hm0
        unfold f5_ruled f5_ruled_1
        simp (disch := omega) only [p4, hwh μ1 hC, jabs_d, jabs_p, Nat.sub_self, pk_div, hsz, dst_self, Nat.zero_sub, Nat.add_sub_cancel, nm_s, bd1_s, bd2_s, bd3_s, gd_n, gd_ne, nI_clamp, nI_leI, nI_ltI, nI_eq, nI_add, pk_mul, pk_sub, up_r, upL_r, jrem_n, jmax_n, if_true, if_false, if_pos, if_neg, gd_i, Nat.zero_add, Nat.add_zero, Nat.mul_zero, nI_nn, nI_nn2, mI_le, mI_ne, mI_ne2, mI_ne3, mI_ne4, ne0, kl_0, kl_1, kl_2, kl_3, kl_4, kl_5, kl_6, kl_7, kl_8, kl_9, kl_10, kl_11, kl_12, kl_13, kl_14, kl_15, kl_16, kl_17, kl_18, kl_19, kl_20, kl_21, kl_22, kl_23, kl_32, kl_40, kl_48, kl_50, kl_53, kl_56, kl_57, kl_60, kl_61, kl_66, kl_97, kl_99, kl_100, kl_120, kl_122, kl_160, kl_200, kl_255, kl_300, kl_500, kl_600, kl_601, kl_999, kl_1000, kl_2048, kl_9999]
      · unfold f5_ruled f5_ruled_1
        simp (disch := omega) only [p4, hwh μ1 hC, jabs_d, pk_div, hsz, Nat.add_sub_cancel, nm_s, bd1_s, bd2_s, bd3_s, gd_n, gd_ne, nI_clamp, nI_leI, nI_ltI, nI_eq, nI_add, pk_mul, pk_sub, up_r, upL_r, jrem_n, jmax_n, if_true, if_false, if_pos, if_neg, gd_i, Nat.zero_add, Nat.add_zero, Nat.mul_zero, nI_nn, nI_nn2, mI_le, mI_ne, mI_ne2, mI_ne3, mI_ne4, ne0, kl_0, kl_1, kl_2, kl_3, kl_4, kl_5, kl_6, kl_7, kl_8, kl_9, kl_10, kl_11, kl_12, kl_13, kl_14, kl_15, kl_16, kl_17, kl_18, kl_19, kl_20, kl_21, kl_22, kl_23, kl_32, kl_40, kl_48, kl_50, kl_53, kl_56, kl_57, kl_60, kl_61, kl_66, kl_97, kl_99, kl_100, kl_120, kl_122, kl_160, kl_200, kl_255, kl_300, kl_500, kl_600, kl_601, kl_999, kl_1000, kl_2048, kl_9999]
    · intro e he
      unfold ENV
      have h : e = 0 ∨ e = 1 ∨ e = 2 ∨ e = 3 ∨ e = 4 ∨ e = 5 := by omega
      rcases h with rfl | rfl | rfl | rfl | rfl | rfl <;> rfl
    · intro k i hk
      simp (disch := omega) only [Nat.add_sub_cancel, nm_s, bd1_s, bd2_s, bd3_s, gd_n, gd_ne, nI_clamp, nI_leI, nI_ltI, nI_eq, nI_add, pk_mul, pk_sub, up_r, upL_r, jrem_n, jmax_n, if_true, if_false, if_pos, if_neg, gd_i, Nat.zero_add, Nat.add_zero, Nat.mul_zero, nI_nn, nI_nn2, mI_le, mI_ne, mI_ne2, mI_ne3, mI_ne4, ne0, kl_0, kl_1, kl_2, kl_3, kl_4, kl_5, kl_6, kl_7, kl_8, kl_9, kl_10, kl_11, kl_12, kl_13, kl_14, kl_15, kl_16, kl_17, kl_18, kl_19, kl_20, kl_21, kl_22, kl_23, kl_32, kl_40, kl_48, kl_50, kl_53, kl_56, kl_57, kl_60, kl_61, kl_66, kl_97, kl_99, kl_100, kl_120, kl_122, kl_160, kl_200, kl_255, kl_300, kl_500, kl_600, kl_601, kl_999, kl_1000, kl_2048, kl_9999]
  obtain ⟨μ', hq1, hq2⟩ := tell_k (μM := μM) (μ := μa) (t := r) (by omega) r4 (by rw [ha2.2 _ _ (by omega), hf _ _ (by omega)]; exact r5) (by rw [ha2.2 _ _ (by omega), hf _ _ (by omega)]; exact r6) (by rw [ha2.2 _ _ (by omega), hf _ _ (by omega)]; exact r7) (fun i hi => by rw [ha2.2 _ _ (by omega), hf _ _ (by omega)]; exact r8 i hi) ha2.1 k hk
  have hclass : f5_ruled μ1 (nI k) (nI w) (nI m) = some (clp k ((ev (ENV F (G w) w m) (if k = 0 then cn else if k = 1 then co else cw) []).headD 0), μ') := by
    rw [ha1]
    have e9 : μa 1 2 = nI r := by rw [ha2.2 _ _ (by omega)]; exact p6
    have hr6 : r < 6 := by omega
    simp (disch := omega) only [e9, hq1, st_k, Nat.add_sub_cancel, nm_s, bd1_s, bd2_s, bd3_s, gd_n, gd_ne, nI_clamp, nI_leI, nI_ltI, nI_eq, nI_add, pk_mul, pk_sub, up_r, upL_r, jrem_n, jmax_n, if_true, if_false, if_pos, if_neg, gd_i, Nat.zero_add, Nat.add_zero, Nat.mul_zero, nI_nn, nI_nn2, mI_le, mI_ne, mI_ne2, mI_ne3, mI_ne4, ne0, kl_0, kl_1, kl_2, kl_3, kl_4, kl_5, kl_6, kl_7, kl_8, kl_9, kl_10, kl_11, kl_12, kl_13, kl_14, kl_15, kl_16, kl_17, kl_18, kl_19, kl_20, kl_21, kl_22, kl_23, kl_32, kl_40, kl_48, kl_50, kl_53, kl_56, kl_57, kl_60, kl_61, kl_66, kl_97, kl_99, kl_100, kl_120, kl_122, kl_160, kl_200, kl_255, kl_300, kl_500, kl_600, kl_601, kl_999, kl_1000, kl_2048, kl_9999]
  -- the reference
  obtain ⟨μb, hb1, hb2⟩ : ∃ μb : Mem, f6_says μM1 ν1 (nI k) (nI w) (nI m) = bd3 (f6_read μb ν1 (nI r) (nI k)) (fun r80 μ80 ν80 => if nI k = 0 then some ((f6_within r80 0 9999), μ80, ν80) else if nI k = 1 then some ((f6_within r80 (-60) 60), μ80, ν80) else some ((f6_within r80 0 99), μ80, ν80)) ∧ (∀ e, e < 6 → env6 μb e = ENV F (G w) w m e) ∧ fV μM1 μb := by
    refine ⟨up (up (up (up (up (up μM1 0 14 (nI m)) 0 15 (nI (AT F (G w) m / 1000))) 0 16 (nI w)) 0 17 (nI (dst (AT F (G w) m) (AT F (G w) (m - 1))))) 0 18 (nI F)) 0 19 (nI (G w 2)), ?_, ?_, ?_⟩
    · have hM2 : WM (up (up (up μM1 0 14 (nI m)) 0 15 (nI (AT F (G w) m / 1000))) 0 16 (nI w)) w (G w) := hM.fr (by omega) hG (((fM.rf.up (by omega)).up (by omega)).up (by omega))
      have e1 := AT_M (ν := ν1) hG p2 hM p7 (by omega) hm
      have e2 := AT_M (ν := ν1) hG p2 hM2 (by rw [up_r, if_neg (by omega), up_r, if_neg (by omega), up_r, if_neg (by omega)]; exact p7) (by omega) (m := m - 1) (by omega)
      have e3 : μM1 8 w = nI (G w 2) := hM.2.2.1
      by_cases hm0 : m = 0
      · subst hm0
        unfold f6_says f6_says_1
        simp (disch := omega) only [e1, pk_div, p7, p9, e3, dst_self, Nat.zero_sub, Nat.add_sub_cancel, nm_s, bd1_s, bd2_s, bd3_s, gd_n, gd_ne, nI_clamp, nI_leI, nI_ltI, nI_eq, nI_add, pk_mul, pk_sub, up_r, upL_r, jrem_n, jmax_n, if_true, if_false, if_pos, if_neg, gd_i, Nat.zero_add, Nat.add_zero, Nat.mul_zero, nI_nn, nI_nn2, mI_le, mI_ne, mI_ne2, mI_ne3, mI_ne4, ne0, kl_0, kl_1, kl_2, kl_3, kl_4, kl_5, kl_6, kl_7, kl_8, kl_9, kl_10, kl_11, kl_12, kl_13, kl_14, kl_15, kl_16, kl_17, kl_18, kl_19, kl_20, kl_21, kl_22, kl_23, kl_32, kl_40, kl_48, kl_50, kl_53, kl_56, kl_57, kl_60, kl_61, kl_66, kl_97, kl_99, kl_100, kl_120, kl_122, kl_160, kl_200, kl_255, kl_300, kl_500, kl_600, kl_601, kl_999, kl_1000, kl_2048, kl_9999]
      · unfold f6_says f6_says_1
        simp (disch := omega) only [e1, e2, pk_div, p7, p9, e3, plain_d, lN_i, Nat.add_sub_cancel, nm_s, bd1_s, bd2_s, bd3_s, gd_n, gd_ne, nI_clamp, nI_leI, nI_ltI, nI_eq, nI_add, pk_mul, pk_sub, up_r, upL_r, jrem_n, jmax_n, if_true, if_false, if_pos, if_neg, gd_i, Nat.zero_add, Nat.add_zero, Nat.mul_zero, nI_nn, nI_nn2, mI_le, mI_ne, mI_ne2, mI_ne3, mI_ne4, ne0, kl_0, kl_1, kl_2, kl_3, kl_4, kl_5, kl_6, kl_7, kl_8, kl_9, kl_10, kl_11, kl_12, kl_13, kl_14, kl_15, kl_16, kl_17, kl_18, kl_19, kl_20, kl_21, kl_22, kl_23, kl_32, kl_40, kl_48, kl_50, kl_53, kl_56, kl_57, kl_60, kl_61, kl_66, kl_97, kl_99, kl_100, kl_120, kl_122, kl_160, kl_200, kl_255, kl_300, kl_500, kl_600, kl_601, kl_999, kl_1000, kl_2048, kl_9999]
    · intro e he
      unfold ENV env6
      have h : e = 0 ∨ e = 1 ∨ e = 2 ∨ e = 3 ∨ e = 4 ∨ e = 5 := by omega
      rcases h with rfl | rfl | rfl | rfl | rfl | rfl <;> rfl
    · intro k i hk
      simp (disch := omega) only [Nat.add_sub_cancel, nm_s, bd1_s, bd2_s, bd3_s, gd_n, gd_ne, nI_clamp, nI_leI, nI_ltI, nI_eq, nI_add, pk_mul, pk_sub, up_r, upL_r, jrem_n, jmax_n, if_true, if_false, if_pos, if_neg, gd_i, Nat.zero_add, Nat.add_zero, Nat.mul_zero, nI_nn, nI_nn2, mI_le, mI_ne, mI_ne2, mI_ne3, mI_ne4, ne0, kl_0, kl_1, kl_2, kl_3, kl_4, kl_5, kl_6, kl_7, kl_8, kl_9, kl_10, kl_11, kl_12, kl_13, kl_14, kl_15, kl_16, kl_17, kl_18, kl_19, kl_20, kl_21, kl_22, kl_23, kl_32, kl_40, kl_48, kl_50, kl_53, kl_56, kl_57, kl_60, kl_61, kl_66, kl_97, kl_99, kl_100, kl_120, kl_122, kl_160, kl_200, kl_255, kl_300, kl_500, kl_600, kl_601, kl_999, kl_1000, kl_2048, kl_9999]
  obtain ⟨v0, v1, v2, x0, x1, x2, x3⟩ := r9 r μb ν1 (by omega) (by rw [hb2.2 _ _ (by omega), hfM _ _ (by omega)]; exact r2) (fun i hi => by rw [hb2.2 _ _ (by omega), hfM _ _ (by omega)]; exact r3 i hi)
  obtain ⟨μM', ν', y1, y2⟩ := x3 (nI k)
  have hval : (if nI k = 0 then v0 else if nI k = 1 then v1 else v2) = (ev (ENV F (G w) w m) (if k = 0 then cn else if k = 1 then co else cw) []).headD 0 := by
    have h : k = 0 ∨ k = 1 ∨ k = 2 := by omega
    rw [← ev_congr hb2.1]
    rcases h with rfl | rfl | rfl
    · rw [if_pos (show nI 0 = 0 from rfl), if_pos rfl, x0 []]; rfl
    · rw [if_neg (show ¬ nI 1 = 0 by decide), if_pos (show nI 1 = 1 from rfl), if_neg (show ¬ 1 = 0 by decide), if_pos rfl, x1 []]; rfl
    · rw [if_neg (show ¬ nI 2 = 0 by decide), if_neg (show ¬ nI 2 = 1 by decide), if_neg (show ¬ 2 = 0 by decide), if_neg (show ¬ 2 = 1 by decide), x2 []]; rfl
  rw [hval] at y1
  refine ⟨μ', μM', ν', hclass, ?_, fun k' i h1 h2 => by rw [hq2 _ _ h2, ha2.2 _ _ h1], fun k' i h => by rw [y2 _ _ (by omega), hb2.2 _ _ h]⟩
  rw [hb1, y1, bd3_s]
  have h : k = 0 ∨ k = 1 ∨ k = 2 := by omega
  rcases h with rfl | rfl | rfl <;> rfl
