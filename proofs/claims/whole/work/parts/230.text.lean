/-! text -/
theorem RQ.text {μ μ' μM μM' : Mem} {T T' F n r : Nat} {G : Nat → Gw} (p : RQ μ μM T F n r G) (hT6 : T < 6) (hC : ∀ k i, ¬ (k = 0 ∧ i = 5) → k ≠ 3 → ¬ (53 + 3 * T ≤ k ∧ k ≤ 55 + 3 * T) → μ' k i = μ k i)
    (hM : ∀ k i, ¬ (k = 0 ∧ (i = 3 ∨ i = 6 ∨ (20 ≤ i ∧ i ≤ 28))) → ¬ (k = 1 ∧ 160 * T ≤ i ∧ i < 160 * T + 160) → ¬ (k = 2 ∧ i = T) → μM' k i = μM k i)
    (h1 : μ' 0 5 = nI T') (h2 : μM' 0 3 = nI T') (h3 : μ' 3 1 = nI 0) (h4 : μM' 0 6 = nI 0) (hT : T' = T ∨ (T' = T + 1 ∧ RT1 μ' μM' T)) : RQ μ' μM' T' F n r G := by
  obtain ⟨⟨t1, t2, t3, t4, t5⟩, pB, pS, pP, pK, hr⟩ := p
  obtain ⟨p1, p2, p3, p4, p5, p6, p7, p8, p9, p10⟩ := id pP
  have hTT : T ≤ T' := by omega
  refine ⟨⟨by omega, by omega, h1, h2, fun t ht => ?_⟩, ⟨0, by omega, h3, h4, fun i hi => absurd hi (Nat.not_lt_zero i)⟩, pS.fr2 (fun k i _ _ => hC _ _ (by omega) (by omega) (by omega)) (fun k i _ _ => hM _ _ (by omega) (by omega) (by omega)),
    ⟨p1, p2, p3, by rw [hC _ _ (by omega) (by omega) (by omega)]; exact p4, by rw [hC _ _ (by omega) (by omega) (by omega)]; exact p5, by rw [hC _ _ (by omega) (by omega) (by omega)]; exact p6, by rw [hM _ _ (by omega) (by omega) (by omega)]; exact p7, by rw [hM _ _ (by omega) (by omega) (by omega)]; exact p8, by rw [hM _ _ (by omega) (by omega) (by omega)]; exact p9, fun w hw => ?_⟩,
    pK.fr2 p3 (Nat.le_refl _) hTT (fun _ _ => rfl) (hC _ _ (by omega) (by omega) (by omega)) (fun k i _ => hC _ _ (by omega) (by omega) (by omega)) (fun i _ _ => hM _ _ (by omega) (by omega) (by omega)) (fun k i _ _ => hM _ _ (by omega) (by omega) (by omega)), by omega⟩
  · by_cases htT : t < T
    · exact (t5 t htT).fr (fun i => hC _ _ (by omega) (by omega) (by omega)) (fun i => hC _ _ (by omega) (by omega) (by omega)) (hM _ _ (by omega) (by omega) (by omega)) (fun i hi => hM _ _ (by omega) (by omega) (by omega))
    · rcases hT with hT | ⟨hT, hR⟩
      · omega
      · obtain rfl : t = T := by omega
        exact hR
  · obtain ⟨q1, ⟨c0, c1, c2, c3, c4⟩, ⟨n0, n1, n2, n3, n4⟩⟩ := p10 w hw
    exact ⟨q1, ⟨by rw [hC _ _ (by omega) (by omega) (by omega)]; exact c0, by rw [hC _ _ (by omega) (by omega) (by omega)]; exact c1, by rw [hC _ _ (by omega) (by omega) (by omega)]; exact c2, fun i hi => by rw [hC _ _ (by omega) (by omega) (by omega)]; exact c3 i hi, fun i hi => by rw [hC _ _ (by omega) (by omega) (by omega)]; exact c4 i hi⟩, ⟨fun q => ⟨by rw [hM _ _ (by omega) (by omega) (by omega)]; exact (n0 q).1, by rw [hM _ _ (by omega) (by omega) (by omega)]; exact (n0 q).2⟩, n1, by rw [hM _ _ (by omega) (by omega) (by omega)]; exact n2, fun i hi => by rw [hM _ _ (by omega) (by omega) (by omega)]; exact n3 i hi, fun i hi => by rw [hM _ _ (by omega) (by omega) (by omega)]; exact n4 i hi⟩⟩
/-- the tape is copied -/
theorem tcopy {T s : Nat} {B : Nat → Nat} (ν : Lem) (hT : T < 6) (hs : s ≤ 160) : ∀ (m i n : Nat) (μ : Mem), i + m = s → m < n → μ 0 3 = nI T → μ 0 6 = nI s → (∀ j, j < s → μ 3 j = nI (B j)) → ∃ μ' n', f6_text_1 n μ ν (nI i) = f6_text_1 (n' + 1) μ' ν (nI s) ∧ (∀ k j, ¬ (k = 1 ∧ 160 * T + i ≤ j ∧ j < 160 * T + s) → μ' k j = μ k j) ∧ ∀ j, i ≤ j → j < s → μ' 1 (160 * T + j) = nI (B j) := by
  intro m
  induction m with
  | zero =>
    intro i n μ hi hn h1 h2 h3
    obtain ⟨n, rfl⟩ : ∃ n', n = n' + 1 := ⟨n - 1, by omega⟩
    obtain rfl : i = s := by omega
    exact ⟨μ, n, rfl, fun _ _ _ => rfl, fun j _ _ => by omega⟩
  | succ m ih =>
    intro i n μ hi hn h1 h2 h3
    obtain ⟨n, rfl⟩ : ∃ n', n = n' + 1 := ⟨n - 1, by omega⟩
    have hb := h3 i (by omega)
    obtain ⟨μ', n', a1, a2, a3⟩ := ih (i + 1) n (up μ 1 (160 * T + i) (nI (B i))) (by omega) (by omega) (by rw [up_r, if_neg (by omega)]; exact h1) (by rw [up_r, if_neg (by omega)]; exact h2) (fun j hj => by rw [up_r, if_neg (by omega)]; exact h3 j hj)
    refine ⟨μ', n', ?_, fun k j hh => ?_, fun j h4 h5 => ?_⟩
    · rw [← a1, f6_text_1]
      have e1 : (160 : Int32) * nI T = nI (160 * T) := pk_mul 160 T
      rw [if_neg (by rw [h2, nI_leI (by omega) (by omega)]; omega), h1, gd_i (nI_in (by omega) (by decide)), e1, nI_add, gd_i (nI_in (by omega) (by decide)), nI_clamp (by omega), nI_clamp (by omega), hb, nm_s, nm_s, kl_1, nI_add]
    · rw [a2 k j (by omega), up_r, if_neg (by omega)]
    · by_cases e : j = i
      · subst e
        rw [a2 _ _ (by omega), up_at]
      · exact a3 j (by omega) h5
theorem text_call {μ μM : Mem} {ν : Lem} {T F n r : Nat} {G : Nat → Gw} (p : RQ μ μM T F n r G) : NextI (f5_text μ) (f6_text μM ν) := by
  obtain ⟨⟨t1, t2, t3, t4, t5⟩, ⟨s, b1, b2, b3, b4⟩, -⟩ := id p
  unfold f5_text f6_text
  by_cases h6 : T = 6
  · subst h6
    refine NextI.ret (ν := ν) p (-4) ?_ ?_
    · rw [if_neg (by rw [t3]; decide)]
    · rw [if_pos (by rw [t4]; rfl)]
  have hT6 : T < 6 := by omega
  rw [if_pos (show μ 0 5 < 6 by rw [t3]; exact nI_lt (b := 6) hT6 (by decide)), t3, gd_i (nI_in hT6 (by decide)), nI_clamp (by omega), if_neg (show ¬ μM 0 3 = 6 by rw [t4, kl_6, nI_eq (by omega) (by omega)]; exact h6)]
  obtain ⟨B, hB⟩ : ∃ B : Nat → Nat, ∀ i, i < s → B i ≤ 255 ∧ μ 4 i = nI (B i) ∧ μM 3 i = nI (B i) := by
    refine ⟨fun i => (μ 4 i).toNatClampNeg, fun i hi => ?_⟩
    obtain ⟨x, x1, x2, x3⟩ := b4 i hi
    have e : (μ 4 i).toNatClampNeg = x := by rw [x2, nI_clamp (by omega)]
    exact ⟨by show (μ 4 i).toNatClampNeg ≤ 255; rw [e]; exact x1, by show μ 4 i = nI (μ 4 i).toNatClampNeg; rw [e]; exact x2, by show μM 3 i = nI (μ 4 i).toNatClampNeg; rw [e]; exact x3⟩
  have hY : BY s B := ⟨b1, fun i hi => (hB i hi).1⟩
  have hCS : CS T s B μ := ⟨hT6, b2, fun i hi => (hB i hi).2.1⟩
  obtain ⟨μa, n', a1, a2, a3⟩ := tcopy (B := B) ν hT6 b1 s 0 FUEL μM (by omega) (fuel_o (by omega)) t4 b3 (fun j hj => (hB j hj).2.2)
  have fr1 : ∀ k i, ¬ (k = 0 ∧ i = 6) → ¬ (k = 1 ∧ 160 * T ≤ i ∧ i < 160 * T + 160) → ¬ (k = 2 ∧ i = T) → up (up μa 2 T (nI s)) 0 6 (nI 0) k i = μM k i := fun k i h1 h2 h3 => by
    rw [up_r, if_neg (by omega), up_r, if_neg (by omega), a2 _ _ (by omega)]
  have hMS : MS T s B (up (up μa 2 T (nI s)) 0 6 (nI 0)) := ⟨hT6, by rw [up_r, if_neg (by omega), up_at], fun i hi => by rw [up_r, if_neg (by omega), up_r, if_neg (by omega)]; exact a3 i (by omega) hi⟩
  have href : f6_text_1 FUEL μM ν 0 = bd3 (f6_read (up (up μa 2 T (nI s)) 0 6 (nI 0)) ν (nI T) 0) (fun r73 μ73 ν73 => if (μ73 0 27) = 0 then nm (up μ73 0 3 ((μ73 0 3) + 1)) (fun μ99 => some ((μ99 0 3) - 1, μ99, ν73)) else some ((-100) - (μ73 0 28), μ73, ν73)) := by
    have a1 : f6_text_1 FUEL μM ν 0 = f6_text_1 (n' + 1) μa ν (nI s) := a1
    have e6 : μa 0 6 = nI s := by rw [a2 _ _ (by omega)]; exact b3
    have e3 : μa 0 3 = nI T := by rw [a2 _ _ (by omega)]; exact t4
    have e3' : up (up μa 2 T (nI s)) 0 6 (nI 0) 0 3 = nI T := by rw [up_r, if_neg (by omega), up_r, if_neg (by omega)]; exact e3
    rw [a1, f6_text_1, if_pos (by rw [e6, nI_leI (by omega) (by omega)]; exact Nat.le_refl _), e3, gd_i (nI_in hT6 (by decide)), nI_clamp (by omega), e6, nm_s, nm_s, kl_0, e3']
  rw [href]
  rcases read_all hY with ⟨f, f1, f2, f3⟩ | ⟨cn, co, cw, g1, g2, g3⟩
  · obtain ⟨μ1, x1, x2⟩ := f2 T μ hCS
    obtain ⟨x, μ2, ν2, y1, y2, y3⟩ := f3 T _ ν 0 hMS
    refine ⟨-100 - nI f, up μ1 3 1 0, μ2, ν2, ?_, ?_, T, F, n, r, G, p.text (T' := T) hT6 (fun k i h1 h2 h3 => ?_) (fun k i h1 h2 h3 => ?_) ?_ ?_ up_at ?_ (Or.inl rfl)⟩
    · rw [x1, bd2_s, nm_s, if_neg (show ¬ nI f = -1 by rw [kl_1, mI_ne (by omega) (by omega)]; omega)]
    · rw [y1, bd3_s, if_neg (bad0 y2), y2.2]
    · rw [up_r, if_neg (by omega), x2 _ _ (by omega) h3]
    · rw [y3 _ _ (by omega), fr1 _ _ (by omega) h2 h3]
    · rw [up_r, if_neg (by omega), x2 _ _ (by omega) (by omega)]; exact t3
    · rw [y3 _ _ (by omega), fr1 _ _ (by omega) (by omega) (by omega)]; exact t4
    · rw [y3 _ _ (by omega), up_at]
  · obtain ⟨μ1, x1, x2, x3, x4, x5, x6⟩ := g2 T μ hCS
    obtain ⟨v0, v1, v2, -, -, -, y0⟩ := g3 T _ ν hMS
    obtain ⟨μ2, ν2, y1, y2, y3⟩ := y0 0
    have e3 : μ2 0 3 = nI T := by rw [y3 _ _ (by omega), fr1 _ _ (by omega) (by omega) (by omega)]; exact t4
    have e5 : up μ1 3 1 0 0 5 = nI T := by rw [up_r, if_neg (by omega), x2 _ _ (by omega) (by omega)]; exact t3
    have eT : nI (T + 1) - 1 = nI T := pk_sub (a := T + 1) (b := 1) (by omega)
    refine ⟨nI T, up (up μ1 3 1 0) 0 5 (nI (T + 1)), up μ2 0 3 (nI (T + 1)), ν2, ?_, ?_, T + 1, F, n, r, G, p.text (T' := T + 1) hT6 (fun k i h1 h2 h3 => ?_) (fun k i h1 h2 h3 => ?_) up_at up_at ?_ ?_ (Or.inr ⟨rfl, ?_⟩)⟩
    · rw [x1, bd2_s, nm_s, if_pos (show -nI 1 = -1 from rfl), e5, kl_1, nI_add, nm_s, up_at]
      exact congrArg (fun z => some (z, _)) eT
    · rw [y1, bd3_s, if_pos (show μ2 0 27 = 0 from y2), e3, kl_1, nI_add, nm_s, up_at]
      exact congrArg (fun z => some (z, _)) eT
    · rw [up_r, if_neg (by omega), up_r, if_neg (by omega), x2 _ _ (by omega) h3]
    · rw [up_r, if_neg (by omega), y3 _ _ (by omega), fr1 _ _ (by omega) h2 h3]
    · rw [up_r, if_neg (by omega), up_at]; rfl
    · rw [up_r, if_neg (by omega), y3 _ _ (by omega), up_at]
    · refine ⟨s, fun i => nI (B i), cn, co, cw, b1, ?_, fun i hi => ?_, g1, ?_, ?_, ?_, fun i hi => ?_, TX.of (fun i _ => rfl) g3⟩
      · rw [up_r, if_neg (by omega), y3 _ _ (by omega), up_r, if_neg (by omega), up_at]
      · rw [up_r, if_neg (by omega), y3 _ _ (by omega)]; exact hMS.2.2 i hi
      · rw [up_r, if_neg (by omega), up_r, if_neg (by omega)]; exact x4
      · rw [up_r, if_neg (by omega), up_r, if_neg (by omega)]; exact x5
      · rw [up_r, if_neg (by omega), up_r, if_neg (by omega)]; exact x6
      · rw [up_r, if_neg (by omega), up_r, if_neg (by omega)]; exact x3.2 i hi
/-! the first text -/
def b32 : List Nat := [110, 101, 97, 114, 32, 53, 48, 48, 32, 59, 32, 111, 102, 102, 32, 48, 32, 59, 32, 119, 111, 114, 116, 104, 32, 112, 108, 97, 99, 101, 32, 59]
def B32 (i : Nat) : Nat := b32.getD i 0
/-- a tape that holds it -/
def mF : Mem := fun k i => if k = 3 then (if i = 1 then nI 32 else 0) else if k = 4 then nI (B32 i) else 0
theorem B32_le : ∀ i, i < 32 → B32 i ≤ 255 := by decide
theorem first_ev : (match f2_readInto mF 0 with | some (r, m) => decide (r = -1) && decide (m 53 2 = 3) && decide (m 54 0 = 500) && decide (m 54 1 = 0) && decide (m 54 2 = -2) && decide (m 55 0 = 1) && decide (m 55 1 = 2) | none => false) = true := by decide +kernel
theorem first_ex : ∃ m, f2_readInto mF 0 = some (-nI 1, m) ∧ m 53 2 = nI 3 ∧ m 54 0 = nI 500 ∧ m 54 1 = nI 0 ∧ m 54 2 = -nI 2 ∧ m 55 0 = nI 1 ∧ m 55 1 = nI 2 := by
  have h := first_ev
  cases h2 : f2_readInto mF 0 with
  | none => rw [h2] at h; exact absurd h (by decide)
  | some x =>
    obtain ⟨r, m⟩ := x
    rw [h2] at h
    simp only [Bool.and_eq_true, decide_eq_true_eq] at h
    obtain ⟨⟨⟨⟨⟨⟨h1, h3⟩, h4⟩, h5⟩, h6⟩, h7⟩, h8⟩ := h
    exact ⟨m, by rw [h1]; rfl, h3, h4, h5, h6, h7, h8⟩
theorem first_TX : TX (fun i => nI (B32 i)) 32 [nI 500] [nI 0] [-nI 2] := by
  have hY : BY 32 B32 := ⟨by decide, B32_le⟩
  have hCS : CS 0 32 B32 mF := ⟨by decide, rfl, fun i _ => rfl⟩
  obtain ⟨m, m0, m1, m2, m3, m4, m5, m6⟩ := first_ex
  rcases read_all hY with ⟨f, f1, f2, -⟩ | ⟨cn, co, cw, g1, g2, g3⟩
  · obtain ⟨μ1, x1, -⟩ := f2 0 mF hCS
    rw [m0] at x1
    have := congrArg Prod.fst (Option.some.inj x1)
    have : nI f = -nI 1 := this.symm
    rw [mI_ne (by omega) (by omega)] at this
    omega
  · obtain ⟨μ1, x1, -, x3, x4, x5, x6⟩ := g2 0 mF hCS
    rw [m0] at x1
    have e : m = μ1 := congrArg Prod.snd (Option.some.inj x1)
    subst e
    have l0 : cn.length = 1 := by rw [m5, nI_eq (by omega) (by rw [List.length_append] at g1; omega)] at x4; omega
    have l1 : cn.length + co.length = 2 := by rw [m6, nI_eq (by omega) (by rw [List.length_append, List.length_append] at g1; omega)] at x5; omega
    have l2 : (cn ++ (co ++ cw)).length = 3 := by
      have := x3.1
      rw [show m (53 + 3 * 0) 2 = nI 3 from m1, nI_eq (by omega) (by omega)] at this
      omega
    have l3 : cw.length = 1 := by rw [List.length_append, List.length_append] at l2; omega
    obtain ⟨a, rfl⟩ := List.length_eq_one_iff.mp l0
    obtain ⟨b, rfl⟩ := List.length_eq_one_iff.mp (show co.length = 1 by omega)
    obtain ⟨c, rfl⟩ := List.length_eq_one_iff.mp l3
    have k0 := x3.2 0 (by simp)
    have k1 := x3.2 1 (by simp)
    have k2 := x3.2 2 (by simp)
    have k0 : a = nI 500 := (Option.some.inj k0).trans m2
    have k1 : b = nI 0 := (Option.some.inj k1).trans m3
    have k2 : c = -nI 2 := (Option.some.inj k2).trans m4
    rw [k0, k1, k2] at g3
    exact TX.of (fun i _ => rfl) g3
/-! the start -/
theorem start_RR : RR μCI μMI := by
  refine ⟨1, 600, 0, 0, fun _ _ => 0, ⟨by omega, by omega, by decide +kernel, by decide +kernel, fun t ht => ?_⟩, ⟨0, by omega, by decide +kernel, by decide +kernel, fun i hi => absurd hi (Nat.not_lt_zero i)⟩, fun q hq => Or.inl ?_, ⟨by omega, by omega, by omega, by decide +kernel, by decide +kernel, by decide +kernel, by decide +kernel, by decide +kernel, by decide +kernel, fun w hw => absurd hw (Nat.not_lt_zero w)⟩, Or.inl (by decide +kernel), by omega⟩
  · obtain rfl : t = 0 := by omega
    refine ⟨32, fun i => nI (B32 i), [nI 500], [nI 0], [-nI 2], by omega, by decide +kernel, by decide +kernel, by decide, by decide +kernel, by decide +kernel, by decide +kernel, by decide +kernel, first_TX⟩
  · have : ∀ q, q < 4 → μCI (71 + 2 * q) 0 = -1 ∧ μMI 17 q = 0 := by decide +kernel
    exact this q hq
