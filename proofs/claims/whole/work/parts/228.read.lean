/-! one part of a text, then the whole of it -/
theorem bd1_as {α β γ : Type} (x : Option α) (f : α → Option β) (g : β → Option γ) : bd1 (bd1 x f) g = bd1 x (fun a => bd1 (f a) g) := by
  cases x <;> rfl
theorem bd13_as {α β γ δ ε : Type} (x : Option α) (f : α → Option (β × γ × δ)) (g : β → γ → δ → Option ε) : bd3 (bd1 x f) g = bd1 x (fun a => bd3 (f a) g) := by
  cases x <;> rfl
/-- the class reads a part -/
def CP (i : Nat) (μ : Mem) : Option Mem := bd1 (f2_expect μ (nI (6 + i))) (fun μ38 => bd1 (f2_phrase DEEP μ38 0 0) (fun μ44 => f2_expect μ44 (nI 14)))
/-- is it the key of a part -/
def KW (i : Nat) (μ : Mem) (ν : Lem) : Option Int32 := if i = 0 then f6_isWord μ ν 110 101 97 114 0 0 0 0 else if i = 1 then f6_isWord μ ν 111 102 102 0 0 0 0 0 else f6_isWord μ ν 119 111 114 116 104 0 0 0
def FP (i : Nat) (μ : Mem) (ν : Lem) : Option (Int32 × Mem × Lem) := bd1 (KW i μ ν) (fun r => f6_part μ ν r)
theorem kw_ok {T s q t e v i : Nat} {B : Nat → Nat} {μ : Mem} {ν : Lem} (hY : BY s B) (hM : MB T s B μ) (hL : ML B s q t e v μ ν) (h27 : μ 0 27 = nI 0) (hi : i < 3) : KW i μ ν = some (if t = 6 + i then nI 1 else nI 0) := by
  have : i = 0 ∨ i = 1 ∨ i = 2 := by omega
  rcases this with rfl | rfl | rfl
  · exact w_near hY hM hL h27
  · exact w_off hY hM hL h27
  · exact w_worth hY hM hL h27
theorem expect_n {μ : Mem} {t w : Nat} (h : μ 3 4 = nI t) (ht : t ≤ 22) (hw : w ≤ 22) (hne : t ≠ w) : f2_expect μ (nI w) = some (f2_refuse μ) := by
  unfold f2_expect
  rw [if_neg (by rw [h, nI_eq (by omega) (by omega)]; exact hne), nm_s]
theorem expect_y {μ : Mem} {w : Nat} (h : μ 3 4 = nI w) : f2_expect μ (nI w) = f2_advance μ := by
  unfold f2_expect
  rw [if_pos h]
  cases f2_advance μ <;> rfl
theorem CP_bad {T f i : Nat} {μ : Mem} (hi : i < 3) (h : BC T f μ) : ∃ μ', CP i μ = some μ' ∧ BC T f μ' ∧ fT T μ μ' := by
  obtain ⟨a1, a2⟩ := refuse_B h
  obtain ⟨b1, b2⟩ := refuse_B a1
  obtain ⟨c1, c2⟩ := refuse_B b1
  refine ⟨_, ?_, c1, (a2.tr b2).tr c2⟩
  unfold CP
  have e := fall_B a1 (o := 0) (by decide) (d := DEEP) (by decide)
  rw [expect_n h.2.1 (by decide) (by omega) (by omega), bd1_s, kl_0, e, bd1_s, expect_n b1.2.1 (by decide) (by decide) (by decide)]
theorem part4_bad {f : Nat} {μ : Mem} {ν : Lem} {x : Int32} (h : BM f μ) : f6_part_3 μ ν x = some (x, μ, ν) := by
  unfold f6_part_3
  rw [isSign_bad h.1, if_pos z00, fail_B h, pr2_s]
  unfold f6_part_4
  rw [if_neg (bad0 h)]
theorem part1_bad {f : Nat} {μ : Mem} {ν : Lem} (h : BM f μ) : f6_part_1 μ ν = some (0, μ, ν) := by
  unfold f6_part_1
  rw [if_neg (bad0 h)]
  unfold f6_part_2
  rw [if_neg (bad0 h)]
  exact part4_bad h
theorem part_sim {s i : Nat} {B : Nat → Nat} (hY : BY s B) (hi : i < 3) : SIM s B 0 (CP i) (FP i) := by
  refine SIM.mk fun q t e v hT => ?_
  have hT0 := hT
  obtain ⟨k1, k2, k3, k4, k5, k6⟩ := hT0
  have hq := hT.q160 hY
  by_cases hk : t = 6 + i
  · have hqe := k6 (by omega) (by omega)
    obtain ⟨q1, t1, e1, v1, a1, a2, a3, a4⟩ := step hY hT (by omega)
    have hcls : ∀ (T : Nat) (cs : List Int32) (μ : Mem), GC T s B q t e v cs μ → ∃ μ1, CP i μ = bd1 (f2_phrase DEEP μ1 (nI 0) (nI 0)) (fun μ44 => f2_expect μ44 (nI 14)) ∧ GC T s B q1 t1 e1 v1 cs μ1 ∧ fA μ μ1 := by
      intro T cs μ hG
      obtain ⟨μ1, b1, b2, b3⟩ := a3 T cs μ hG
      refine ⟨μ1, ?_, b2, b3⟩
      unfold CP
      rw [expect_y (by rw [← hk]; exact hG.2.2.1.2.1), b1, bd1_s, kl_0]
    have href : ∀ (T : Nat) (μ : Mem) (ν : Lem), GM T s B q t e v 0 μ ν → ∃ μ1 ν1, FP i μ ν = bd3 (f6_either0 μ1 ν1) (fun r31 μ31 ν31 => f6_part_3 μ31 ν31 r31) ∧ GM T s B q1 t1 e1 v1 0 μ1 ν1 ∧ fN μ μ1 := by
      intro T μ ν hG
      obtain ⟨μ1, ν1, b1, b2, b3⟩ := a4 T 0 μ ν hG
      refine ⟨μ1, ν1, ?_, b2, b3⟩
      unfold FP
      rw [kw_ok hY hG.1 hG.2.1 hG.2.2.1 hi, if_pos hk, bd1_s]
      unfold f6_part
      rw [if_neg z10]
      unfold f6_part_1
      rw [if_pos hG.ok, b1, bd2_s]
      unfold f6_part_2
      rw [if_pos b2.ok]
    have hS := T0_0 hY (d := DEEP) (by decide)
    rcases hS q1 t1 e1 v1 a2 with ⟨f, f1, f2, f3⟩ | ⟨q2, t2, e2, v2, c, g1, g2, g3, g4, g5⟩
    · left
      refine ⟨f, f1, fun T cs μ hG => ?_, fun T μ ν hG => ?_⟩
      · obtain ⟨μ1, b1, b2, b3⟩ := hcls T cs μ hG
        obtain ⟨μ2, d1, d2, d3⟩ := f2 T cs μ1 b2
        have d1 : f2_phrase DEEP μ1 (nI 0) (nI 0) = some μ2 := d1
        obtain ⟨x2, x3⟩ := refuse_B d2
        exact ⟨f2_refuse μ2, by rw [b1, d1, bd1_s, expect_n d2.2.1 (by decide) (by decide) (by decide)], x2, (b3.t.tr d3).tr x3⟩
      · obtain ⟨μ1, ν1, b1, b2, b3⟩ := href T μ ν hG
        obtain ⟨r, μ2, ν2, d1, d2, d3⟩ := f3 T μ1 ν1 b2
        exact ⟨r, μ2, ν2, by rw [b1, d1, bd3_s]; exact part4_bad d2, d2, b3.r.tr d3⟩
    · have hq2 := g1.q160 hY
      have ht2 := g1.2.2.1
      by_cases h14 : t2 = 14
      · subst h14
        obtain ⟨q3, t3, e3, v3, y1, y2, y3, y4⟩ := step hY g1 (by omega)
        have k1' := g1.1
        right
        refine ⟨q3, t3, e3, v3, c, y2, by omega, by omega, fun T cs μ hG => ?_, fun T μ ν hG => ?_⟩
        · obtain ⟨μ1, b1, b2, b3⟩ := hcls T cs μ hG
          obtain ⟨μ2, d1, d2, d3⟩ := g4 T cs μ1 b2
          have d1 : f2_phrase DEEP μ1 (nI 0) (nI 0) = some μ2 := d1
          obtain ⟨μ3, x1, x2, x3⟩ := y3 T _ μ2 d2
          exact ⟨μ3, by rw [b1, d1, bd1_s, expect_y d2.2.2.1.2.1]; exact x1, x2, (b3.t.tr d3).tr x3.t⟩
        · obtain ⟨μ1, ν1, b1, b2, b3⟩ := href T μ ν hG
          obtain ⟨r, μ2, ν2, d1, d2, d3, d4⟩ := g5 T μ1 ν1 b2
          obtain ⟨μ3, ν3, x1, x2, x3⟩ := y4 T 0 μ2 ν2 d2
          refine ⟨r, μ3, ν3, ?_, x2, (b3.r.tr d3).tr x3.r, d4.bk b3.r⟩
          rw [b1, d1, bd3_s]
          unfold f6_part_3
          rw [g_59 d2.2.1 d2.2.2.1, if_pos rfl, if_neg z10]
          unfold f6_part_4
          rw [if_pos d2.ok, x1, bd2_s]
      · left
        refine ⟨q2, hq2, fun T cs μ hG => ?_, fun T μ ν hG => ?_⟩
        · obtain ⟨μ1, b1, b2, b3⟩ := hcls T cs μ hG
          obtain ⟨μ2, d1, d2, d3⟩ := g4 T cs μ1 b2
          have d1 : f2_phrase DEEP μ1 (nI 0) (nI 0) = some μ2 := d1
          obtain ⟨x2, x3⟩ := refuse_C d2 hq2
          exact ⟨f2_refuse μ2, by rw [b1, d1, bd1_s, expect_n d2.2.2.1.2.1 ht2 (by decide) h14], x2, (b3.t.tr d3).tr x3⟩
        · obtain ⟨μ1, ν1, b1, b2, b3⟩ := href T μ ν hG
          obtain ⟨r, μ2, ν2, d1, d2, d3, d4⟩ := g5 T μ1 ν1 b2
          obtain ⟨μ3, x1, x2, x3⟩ := fail_M d2
          refine ⟨r, μ3, ν2, ?_, x2, (b3.r.tr d3).tr x3⟩
          rw [b1, d1, bd3_s]
          unfold f6_part_3
          rw [g_59 d2.2.1 d2.2.2.1, if_neg h14, if_pos z00, x1, pr2_s]
          unfold f6_part_4
          rw [if_neg (bad0 x2)]
  · left
    refine ⟨q, hq, fun T cs μ hG => ?_, fun T μ ν hG => ?_⟩
    · obtain ⟨a1, a2⟩ := refuse_C hG hq
      obtain ⟨b1, b2⟩ := refuse_B a1
      obtain ⟨c1, c2⟩ := refuse_B b1
      refine ⟨_, ?_, c1, (a2.tr b2).tr c2⟩
      unfold CP
      have e := fall_B a1 (o := 0) (by decide) (d := DEEP) (by decide)
      rw [expect_n hG.2.2.1.2.1 k3 (by omega) hk, bd1_s, kl_0, e, bd1_s, expect_n b1.2.1 (by decide) (by decide) (by decide)]
    · obtain ⟨μ', r1, r2, r3⟩ := fail_M hG
      refine ⟨0, μ', ν, ?_, r2, r3⟩
      unfold FP
      rw [kw_ok hY hG.1 hG.2.1 hG.2.2.1 hi, if_neg hk, bd1_s]
      unfold f6_part
      rw [if_pos z00, r1, pr2_s]
      exact part1_bad r2
/-- but the text's own cells and the reader's slots nothing has changed -/
def fE (T : Nat) (μ μ' : Mem) : Prop := ∀ k i, ¬ (k = 3 ∧ 2 ≤ i ∧ i ≤ 7) → ¬ (53 + 3 * T ≤ k ∧ k ≤ 55 + 3 * T) → μ' k i = μ k i
theorem fE.rf {T : Nat} {μ : Mem} : fE T μ μ := fun _ _ _ _ => rfl
theorem fE.tr {T : Nat} {μ μ1 μ2 : Mem} (h : fE T μ μ1) (h2 : fE T μ1 μ2) : fE T μ μ2 := fun k i a b => (h2 k i a b).trans (h k i a b)
theorem fT.e {T : Nat} {μ μ1 : Mem} (h : fT T μ μ1) : fE T μ μ1 := fun k i a b => h k i (by omega) (by omega) (by omega)
theorem fE.up {T k i : Nat} {μ μ1 : Mem} {v : Int32} (h : fE T μ μ1) (hk : (k = 3 ∧ 2 ≤ i ∧ i ≤ 7) ∨ (53 + 3 * T ≤ k ∧ k ≤ 55 + 3 * T)) : fE T μ (up μ1 k i v) := fun k' i' a b => by
  rw [up_r, if_neg (by omega)]
  exact h k' i' a b
/-- the class's loop over the parts -/
theorem ri_step {n i x : Nat} (hi : i < 3) (μ : Mem) : f2_readInto_1 (n + 1) μ x (nI i) = bd1 (CP i μ) (fun μ50 => bd1 (f3_endPart μ50 x (nI i)) (fun μ58 => f2_readInto_1 n μ58 x (nI (i + 1)))) := by
  rw [f2_readInto_1, if_neg (show ¬ (3 : Int32) ≤ nI i from nI_ge (b := 3) hi (by decide))]
  unfold CP
  rw [bd1_as, kl_6, nI_add, kl_1, nI_add]
  refine congrArg (bd1 _) (funext fun a => ?_)
  rw [bd1_as]
  rfl
theorem ri_end {n x : Nat} (μ : Mem) : f2_readInto_1 (n + 1) μ x (nI 3) = bd1 (f2_expect μ (nI 21)) (fun μ70 => some (μ70 3 6, μ70)) := by
  rw [f2_readInto_1, if_pos (show (3 : Int32) ≤ nI 3 by decide)]
  rfl
theorem gend {T : Nat} {μ : Mem} {i : Nat} (hi : i < 3) {z : Nat} (hz : μ (53 + 3 * T) 2 = nI z) (k : Mem → Option (Int32 × Mem)) : bd1 (f3_endPart μ T (nI i)) k = k (up μ (55 + 3 * T) i (nI z)) := by
  unfold f3_endPart
  rw [gd_i (nI_in hi (by decide)), nm_s, nI_clamp (by omega), hz, bd1_s]
theorem BC.end {T f i : Nat} {μ : Mem} {v : Int32} (h : BC T f μ) : BC T f (up μ (55 + 3 * T) i v) := by
  obtain ⟨h1, h2, h3, h4, h5, z, h6, h7⟩ := h
  exact ⟨h1, by rw [up_r, if_neg (by omega)]; exact h2, by rw [up_r, if_neg (by omega)]; exact h3, h4, by rw [up_r, if_neg (by omega)]; exact h5, z, h6, by rw [up_r, if_neg (by omega)]; exact h7⟩
theorem GC.end {T s q t e v i : Nat} {B : Nat → Nat} {cs : List Int32} {μ : Mem} {x : Int32} (h : GC T s B q t e v cs μ) : GC T s B q t e v cs (up μ (55 + 3 * T) i x) := by
  obtain ⟨h1, h2, ⟨c1, c2, c3, c4⟩, h4, h5, ⟨h6, h6'⟩, h8⟩ := h
  have fr : ∀ k j, k ≤ 4 → up μ (55 + 3 * T) i x k j = μ k j := fun k j hk => by rw [up_r, if_neg (by omega)]
  exact ⟨h1, ⟨by rw [fr _ _ (by omega)]; exact h2.1, fun j hj => by rw [fr _ _ (by omega)]; exact h2.2 j hj⟩, ⟨by rw [fr _ _ (by omega)]; exact c1, by rw [fr _ _ (by omega)]; exact c2, by rw [fr _ _ (by omega)]; exact c3, fun h => by rw [fr _ _ (by omega)]; exact c4 h⟩, by rw [fr _ _ (by omega)]; exact h4, by rw [fr _ _ (by omega)]; exact h5, ⟨by rw [up_r, if_neg (by omega)]; exact h6, fun j hj => by rw [up_r, if_neg (by omega)]; exact h6' j hj⟩, h8⟩
theorem ri_bad {T f : Nat} : ∀ (m i n : Nat) (μ : Mem), i + m = 3 → m < n → BC T f μ → ∃ μ', f2_readInto_1 n μ T (nI i) = some (nI f, μ') ∧ fE T μ μ' := by
  intro m
  induction m with
  | zero =>
    intro i n μ hi hn h
    obtain ⟨n, rfl⟩ : ∃ n', n = n' + 1 := ⟨n - 1, by omega⟩
    obtain rfl : i = 3 := by omega
    obtain ⟨x2, x3⟩ := refuse_B h
    refine ⟨f2_refuse μ, ?_, x3.e⟩
    rw [ri_end, expect_n h.2.1 (by decide) (by decide) (by decide), bd1_s, x2.2.2.1]
  | succ m ih =>
    intro i n μ hi hn h
    obtain ⟨n, rfl⟩ : ∃ n', n = n' + 1 := ⟨n - 1, by omega⟩
    obtain ⟨μ1, a1, a2, a3⟩ := CP_bad (i := i) (by omega) h
    obtain ⟨z, hz1, hz2⟩ := a2.2.2.2.2.2
    obtain ⟨μ2, b1, b2⟩ := ih (i + 1) n (up μ1 (55 + 3 * T) i (nI z)) (by omega) (by omega) a2.end
    refine ⟨μ2, ?_, (a3.e.up (by omega)).tr b2⟩
    rw [ri_step (by omega), a1, bd1_s, gend (by omega) hz2]
    exact b1
/-- a bad part, and the class's run from there -/
theorem ri_fail {s i n : Nat} {B : Nat → Nat} {q t e v f T : Nat} {cs : List Int32} {μ : Mem} (hi : i < 3) (hn : 4 ≤ n) (hf : ∀ (T : Nat) (cs : List Int32) (μ : Mem), GC T s B q t e v cs μ → ∃ μ', CP i μ = some μ' ∧ BC T f μ' ∧ fT T μ μ') (hG : GC T s B q t e v cs μ) : ∃ μ', f2_readInto_1 n μ T (nI i) = some (nI f, μ') ∧ fE T μ μ' := by
  obtain ⟨n, rfl⟩ : ∃ n', n = n' + 1 := ⟨n - 1, by omega⟩
  obtain ⟨μ1, a1, a2, a3⟩ := hf T cs μ hG
  obtain ⟨z, hz1, hz2⟩ := a2.2.2.2.2.2
  obtain ⟨μ2, b1, b2⟩ := ri_bad (T := T) (f := f) (2 - i) (i + 1) n (up μ1 (55 + 3 * T) i (nI z)) (by omega) (by omega) a2.end
  refine ⟨μ2, ?_, (a3.e.up (by omega)).tr b2⟩
  rw [ri_step hi, a1, bd1_s, gend hi hz2]
  exact b1
/-- a good part, and the class's run from there -/
theorem ri_good {s i n : Nat} {B : Nat → Nat} {q t e v q' t' e' v' T : Nat} {cs c : List Int32} {μ : Mem} (hi : i < 3) (hg : ∀ (T : Nat) (cs : List Int32) (μ : Mem), GC T s B q t e v cs μ → ∃ μ', CP i μ = some μ' ∧ GC T s B q' t' e' v' (cs ++ c) μ' ∧ fT T μ μ') (hG : GC T s B q t e v cs μ) : ∃ μ', f2_readInto_1 (n + 1) μ T (nI i) = f2_readInto_1 n μ' T (nI (i + 1)) ∧ GC T s B q' t' e' v' (cs ++ c) μ' ∧ μ' (55 + 3 * T) i = nI (cs ++ c).length ∧ (∀ j, j ≠ i → μ' (55 + 3 * T) j = μ (55 + 3 * T) j) ∧ fE T μ μ' := by
  obtain ⟨μ1, a1, a2, a3⟩ := hg T cs μ hG
  refine ⟨up μ1 (55 + 3 * T) i (nI (cs ++ c).length), ?_, a2.end, up_at, fun j hj => ?_, a3.e.up (by omega)⟩
  · rw [ri_step hi, a1, bd1_s, gend hi a2.2.2.2.2.2.1.1]
  · rw [up_r, if_neg (by omega)]
    exact a3 _ _ (by omega) (by omega) (by omega)
