/-! the whole text, as both read it -/
def CS (T s : Nat) (B : Nat → Nat) (μ : Mem) : Prop := T < 6 ∧ CB s B μ
def MS (T s : Nat) (B : Nat → Nat) (μ : Mem) : Prop := T < 6 ∧ μ 2 T = nI s ∧ ∀ i, i < s → μ 1 (160 * T + i) = nI (B i)
/-- the class begins -/
theorem cs_start {s : Nat} {B : Nat → Nat} {q t e v : Nat} (h3 : ∀ (μ : Mem), CB s B μ → μ 3 2 = nI 0 → ∃ μ', f2_advance μ = some μ' ∧ CL q t e v μ' ∧ fA μ μ') {T : Nat} {μ : Mem} (h : CS T s B μ) : ∃ μ1, f2_readInto μ T = f2_readInto_1 FUEL μ1 T (nI 0) ∧ GC T s B q t e v [] μ1 ∧ fE T μ μ1 := by
  obtain ⟨hT, hC⟩ := h
  have hf : fE T μ (up (up (up (up μ 3 2 (nI 0)) 3 6 (-nI 1)) 3 7 (nI (T + 1))) (53 + 3 * T) 2 (nI 0)) := (((fE.rf.up (by omega)).up (by omega)).up (by omega)).up (by omega)
  have fr : ∀ k i, k ≤ 4 → (k = 3 → i < 2) → up (up (up (up μ 3 2 (nI 0)) 3 6 (-nI 1)) 3 7 (nI (T + 1))) (53 + 3 * T) 2 (nI 0) k i = μ k i := fun k i hk hi => by
    rw [up_r, if_neg (by omega), up_r, if_neg (by omega), up_r, if_neg (by omega), up_r, if_neg (by omega)]
  have hC0 : CB s B (up (up (up (up μ 3 2 (nI 0)) 3 6 (-nI 1)) 3 7 (nI (T + 1))) (53 + 3 * T) 2 (nI 0)) := ⟨by rw [fr _ _ (by omega) (by omega)]; exact hC.1, fun i hi => by rw [fr _ _ (by omega) (by omega)]; exact hC.2 i hi⟩
  obtain ⟨μ1, r1, r2, r3⟩ := h3 _ hC0 (by rw [up_r, if_neg (by omega), up_r, if_neg (by omega), up_r, if_neg (by omega), up_at])
  refine ⟨μ1, ?_, ⟨hT, hC0.fr r3, r2, ?_, ?_, ⟨?_, fun i hi => absurd hi (Nat.not_lt_zero i)⟩, Nat.zero_le _⟩, hf.tr r3.t.e⟩
  · unfold f2_readInto f3_begin
    have e0 : (-1 : Int32) = -nI 1 := rfl
    rw [nm_s, nm_s, nm_s, kl_0, e0, nm_s, nm_s, r1, bd1_s]
  · rw [r3 _ _ (by omega), up_r, if_neg (by omega), up_r, if_neg (by omega), up_at]
  · rw [r3 _ _ (by omega), up_r, if_neg (by omega), up_at]
  · rw [r3 _ _ (by omega), up_at]
    rfl
/-- the reference begins -/
def rdA (μ : Mem) (ν : Lem) (k : Int32) : Option (Int32 × Mem × Lem) :=
  bd1 (KW 0 μ ν) (fun r52 => bd3 (f6_part μ ν r52) (fun r55 μ55 ν55 => if (μ55 0 27) = 0 then bd1 (KW 1 μ55 ν55) (fun r83 => bd3 (f6_part μ55 ν55 r83) (fun r86 μ86 ν86 => f6_read_1 μ86 ν86 k r55 r86)) else f6_read_1 μ55 ν55 k r55 0))
def rdB (μ : Mem) (ν : Lem) (k x : Int32) : Option (Int32 × Mem × Lem) :=
  if (μ 0 27) = 0 then bd1 (KW 1 μ ν) (fun r83 => bd3 (f6_part μ ν r83) (fun r86 μ86 ν86 => f6_read_1 μ86 ν86 k x r86)) else f6_read_1 μ ν k x 0
theorem rdA_e {μ μ1 : Mem} {ν ν1 : Lem} {x : Int32} (k : Int32) (h : FP 0 μ ν = some (x, μ1, ν1)) : rdA μ ν k = rdB μ1 ν1 k x := by
  unfold rdA
  rw [← bd13_as]
  have h : bd1 (KW 0 μ ν) (fun r => f6_part μ ν r) = some (x, μ1, ν1) := h
  rw [h, bd3_s]
  rfl
theorem rdB_e {μ μ1 : Mem} {ν ν1 : Lem} {y : Int32} (k x : Int32) (h0 : μ 0 27 = 0) (h : FP 1 μ ν = some (y, μ1, ν1)) : rdB μ ν k x = f6_read_1 μ1 ν1 k x y := by
  unfold rdB
  rw [if_pos h0, ← bd13_as]
  have h : bd1 (KW 1 μ ν) (fun r => f6_part μ ν r) = some (y, μ1, ν1) := h
  rw [h, bd3_s]
theorem rdC_e {μ μ1 : Mem} {ν ν1 : Lem} {z : Int32} (k x y : Int32) (h0 : μ 0 27 = 0) (h : FP 2 μ ν = some (z, μ1, ν1)) : f6_read_1 μ ν k x y = f6_read_2 μ1 ν1 k x y z := by
  unfold f6_read_1
  have h : bd1 (f6_isWord μ ν 119 111 114 116 104 0 0 0) (fun r => f6_part μ ν r) = some (z, μ1, ν1) := h
  rw [if_pos h0, ← bd13_as, h, bd3_s]
theorem rd3 (μ : Mem) (ν : Lem) (k x y z : Int32) : f6_read_3 μ ν k x y z = some (if k = 0 then x else if k = 1 then y else z, μ, ν) := by
  unfold f6_read_3
  by_cases h0 : k = 0
  · rw [if_pos h0, if_pos h0]
  · rw [if_neg h0, if_neg h0]
    by_cases h1 : k = 1
    · rw [if_pos h1, if_pos h1]
    · rw [if_neg h1, if_neg h1]
theorem rdD_b {f : Nat} {μ : Mem} {ν : Lem} (k x y z : Int32) (h : BM f μ) : f6_read_2 μ ν k x y z = some (if k = 0 then x else if k = 1 then y else z, μ, ν) := by
  unfold f6_read_2
  rw [if_neg (bad0 h)]
  exact rd3 μ ν k x y z
theorem rdC_b {f : Nat} {μ : Mem} {ν : Lem} (k x y : Int32) (h : BM f μ) : ∃ r, f6_read_1 μ ν k x y = some (r, μ, ν) := by
  unfold f6_read_1
  rw [if_neg (bad0 h)]
  exact ⟨_, rdD_b k x y 0 h⟩
theorem rdB_b {f : Nat} {μ : Mem} {ν : Lem} (k x : Int32) (h : BM f μ) : ∃ r, rdB μ ν k x = some (r, μ, ν) := by
  unfold rdB
  rw [if_neg (bad0 h)]
  exact rdC_b k x 0 h
theorem ML.last {B : Nat → Nat} {s q t e v : Nat} {μ : Mem} {ν : Lem} (h : ML B s q t e v μ ν) : (t = 21 → μ 0 23 = 0) ∧ (t ≠ 21 → ¬ μ 0 23 = 0) := by
  obtain ⟨-, h⟩ := h
  rcases h with ⟨h, h1, -⟩ | ⟨h, h1, -⟩ | ⟨h, h0, h1, -⟩ | ⟨h1, -, -, -, -, h⟩ | ⟨h, h1⟩
  · exact ⟨fun _ => h1, fun q => absurd h q⟩
  · exact ⟨fun q => by omega, fun _ => by rw [h1]; decide⟩
  · exact ⟨fun q => by omega, fun _ => by rw [h1]; decide⟩
  · refine ⟨fun q => ?_, fun _ => by rw [h1]; decide⟩
    rcases h with ⟨h, -⟩ | ⟨h, -⟩ <;> omega
  · exact ⟨fun q => by omega, fun _ => by rw [h1]; decide⟩
theorem rdD_e {T s q t e v : Nat} {B : Nat → Nat} {μ : Mem} {ν : Lem} (k x y z : Int32) (h : GM T s B q t e v 0 μ ν) (ht : t = 21) : f6_read_2 μ ν k x y z = some (if k = 0 then x else if k = 1 then y else z, μ, ν) := by
  unfold f6_read_2
  rw [if_pos h.ok, if_pos (h.2.1.last.1 ht)]
  exact rd3 μ ν k x y z
theorem rdD_f {T s q t e v : Nat} {B : Nat → Nat} {μ : Mem} {ν : Lem} (k x y z : Int32) (h : GM T s B q t e v 0 μ ν) (ht : t ≠ 21) : ∃ r μ', f6_read_2 μ ν k x y z = some (r, μ', ν) ∧ BM q μ' ∧ fR μ μ' := by
  obtain ⟨μ', r1, r2, r3⟩ := fail_M h
  refine ⟨if k = 0 then x else if k = 1 then y else z, μ', ?_, r2, r3⟩
  unfold f6_read_2
  rw [if_pos h.ok, if_neg (h.2.1.last.2 ht), r1, pr2_s]
  exact rd3 μ' ν k x y z
theorem ms_start {s : Nat} {B : Nat → Nat} {q t e v : Nat} (h4 : ∀ (T : Nat) (μ : Mem) (ν : Lem), MB T s B μ → μ 0 22 = nI 0 → ∃ μ' ν', f6_next μ ν = some (μ', ν') ∧ ML B s q t e v μ' ν' ∧ fN μ μ') {T : Nat} {μ : Mem} (ν : Lem) (h : MS T s B μ) : ∃ μ1 ν1, (∀ k, f6_read μ ν (nI T) k = rdA μ1 ν1 k) ∧ GM T s B q t e v 0 μ1 ν1 ∧ fR μ μ1 := by
  obtain ⟨hT, h2, hB⟩ := h
  have hf : fR μ (up (up (up (up (up μ 0 20 (nI (160 * T))) 0 21 (nI s)) 0 22 (nI 0)) 0 26 (nI 0)) 0 27 (nI 0)) := ((((fR.rf.up (by omega)).up (by omega)).up (by omega)).up (by omega)).up (by omega)
  have hM : MB T s B (up (up (up (up (up μ 0 20 (nI (160 * T))) 0 21 (nI s)) 0 22 (nI 0)) 0 26 (nI 0)) 0 27 (nI 0)) := by
    refine ⟨hT, ?_, ?_, fun i hi => by rw [hf _ _ (by omega)]; exact hB i hi⟩
    · rw [up_r, if_neg (by omega), up_r, if_neg (by omega), up_r, if_neg (by omega), up_r, if_neg (by omega), up_at]
    · rw [up_r, if_neg (by omega), up_r, if_neg (by omega), up_r, if_neg (by omega), up_at]
  obtain ⟨μ1, ν1, r1, r2, r3⟩ := h4 T _ ν hM (by rw [up_r, if_neg (by omega), up_r, if_neg (by omega), up_at])
  refine ⟨μ1, ν1, fun k => ?_, ⟨hM.fr r3, r2, ?_, ?_⟩, hf.tr r3.r⟩
  · unfold f6_read
    have e2 : up μ 0 20 (nI (160 * T)) 2 T = nI s := by rw [up_r, if_neg (by omega)]; exact h2
    have e1 : (160 : Int32) * nI T = nI (160 * T) := pk_mul 160 T
    rw [nm_s, e1, gd_i (nI_in hT (by decide)), nI_clamp (by omega), e2, nm_s, nm_s, nm_s, nm_s, kl_0, r1, bd2_s]
    rfl
  · rw [r3 _ _ (by omega), up_at]
  · rw [r3 _ _ (by omega), up_r, if_neg (by omega), up_at]
theorem read_all {s : Nat} {B : Nat → Nat} (hY : BY s B) :
  (∃ f, f ≤ 160 ∧ (∀ (T : Nat) (μ : Mem), CS T s B μ → ∃ μ', f2_readInto μ T = some (nI f, μ') ∧ fE T μ μ') ∧ ∀ (T : Nat) (μ : Mem) (ν : Lem) (k : Int32), MS T s B μ → ∃ x μ' ν', f6_read μ ν (nI T) k = some (x, μ', ν') ∧ BM f μ' ∧ fR μ μ') ∨
  (∃ cn co cw, (cn ++ (co ++ cw)).length ≤ 160 ∧ (∀ (T : Nat) (μ : Mem), CS T s B μ → ∃ μ', f2_readInto μ T = some (-nI 1, μ') ∧ fE T μ μ' ∧ CODE T (cn ++ (co ++ cw)) μ' ∧ μ' (55 + 3 * T) 0 = nI cn.length ∧ μ' (55 + 3 * T) 1 = nI (cn.length + co.length) ∧ μ' (55 + 3 * T) 2 = nI (cn ++ (co ++ cw)).length) ∧
    ∀ (T : Nat) (μ : Mem) (ν : Lem), MS T s B μ → ∃ v0 v1 v2, VAL (env6 μ) cn v0 ∧ VAL (env6 μ) co v1 ∧ VAL (env6 μ) cw v2 ∧ ∀ k, ∃ μ' ν', f6_read μ ν (nI T) k = some (if k = 0 then v0 else if k = 1 then v1 else v2, μ', ν') ∧ μ' 0 27 = nI 0 ∧ fR μ μ') := by
  have hs := hY.1
  obtain ⟨q, t, e, v, w1, w2, w3, w4⟩ := nxt hY (Nat.zero_le s)
  have hF : FUEL = 99996 + 1 + 1 + 1 + 1 := rfl
  have hq := w2.q160 hY
  have p0 := part_sim hY (i := 0) (by decide)
  have p1 := part_sim hY (i := 1) (by decide)
  have p2 := part_sim hY (i := 2) (by decide)
  rcases p0 q t e v w2 with ⟨f, f1, f2, f3⟩ | ⟨q1, t1, e1, v1, c0, g1, g2, g3, g4, g5⟩
  · left
    refine ⟨f, f1, fun T μ hS => ?_, fun T μ ν k hS => ?_⟩
    · obtain ⟨μ1, a1, a2, a3⟩ := cs_start w3 hS
      obtain ⟨μ2, b1, b2⟩ := ri_fail (i := 0) (n := FUEL) (by decide) (by rw [hF]; omega) f2 a2
      exact ⟨μ2, by rw [a1]; exact b1, a3.tr b2⟩
    · obtain ⟨μ1, ν1, a1, a2, a3⟩ := ms_start w4 ν hS
      obtain ⟨x, μ2, ν2, b1, b2, b3⟩ := f3 T μ1 ν1 a2
      obtain ⟨r, d1⟩ := rdB_b (ν := ν2) k x b2
      exact ⟨r, μ2, ν2, by rw [a1, rdA_e k b1]; exact d1, b2, a3.tr b3⟩
  · rcases p1 q1 t1 e1 v1 g1 with ⟨f, f1, f2, f3⟩ | ⟨q2, t2, e2, v2, c1, h1, h2, h3, h4, h5⟩
    · left
      refine ⟨f, f1, fun T μ hS => ?_, fun T μ ν k hS => ?_⟩
      · obtain ⟨μ1, a1, a2, a3⟩ := cs_start w3 hS
        rw [hF] at a1
        obtain ⟨μ2, b1, b2, -, -, b3⟩ := ri_good (i := 0) (n := 99996 + 1 + 1 + 1) (by decide) g4 a2
        obtain ⟨μ3, d1, d2⟩ := ri_fail (i := 1) (n := 99996 + 1 + 1 + 1) (by decide) (by omega) f2 b2
        exact ⟨μ3, by rw [a1, b1]; exact d1, (a3.tr b3).tr d2⟩
      · obtain ⟨μ1, ν1, a1, a2, a3⟩ := ms_start w4 ν hS
        obtain ⟨x, μ2, ν2, b1, b2, b3, -⟩ := g5 T μ1 ν1 a2
        obtain ⟨y, μ3, ν3, d1, d2, d3⟩ := f3 T μ2 ν2 b2
        obtain ⟨r, y1⟩ := rdC_b (ν := ν3) k x y d2
        exact ⟨r, μ3, ν3, by rw [a1, rdA_e k b1, rdB_e k x b2.ok d1]; exact y1, d2, (a3.tr b3).tr d3⟩
    · rcases p2 q2 t2 e2 v2 h1 with ⟨f, f1, f2, f3⟩ | ⟨q3, t3, e3, v3, c2, i1, i2, i3, i4, i5⟩
      · left
        refine ⟨f, f1, fun T μ hS => ?_, fun T μ ν k hS => ?_⟩
        · obtain ⟨μ1, a1, a2, a3⟩ := cs_start w3 hS
          rw [hF] at a1
          obtain ⟨μ2, b1, b2, -, -, b3⟩ := ri_good (i := 0) (n := 99996 + 1 + 1 + 1) (by decide) g4 a2
          obtain ⟨μ3, d1, d2, -, -, d3⟩ := ri_good (i := 1) (n := 99996 + 1 + 1) (by decide) h4 b2
          obtain ⟨μ4, y1, y2⟩ := ri_fail (i := 2) (n := 99996 + 1 + 1) (by decide) (by omega) f2 d2
          exact ⟨μ4, by rw [a1, b1, d1]; exact y1, ((a3.tr b3).tr d3).tr y2⟩
        · obtain ⟨μ1, ν1, a1, a2, a3⟩ := ms_start w4 ν hS
          obtain ⟨x, μ2, ν2, b1, b2, b3, -⟩ := g5 T μ1 ν1 a2
          obtain ⟨y, μ3, ν3, d1, d2, d3, -⟩ := h5 T μ2 ν2 b2
          obtain ⟨z, μ4, ν4, y1, y2, y3⟩ := f3 T μ3 ν3 d2
          exact ⟨if k = 0 then x else if k = 1 then y else z, μ4, ν4, by rw [a1, rdA_e k b1, rdB_e k x b2.ok d1, rdC_e k x y d2.ok y1]; exact rdD_b k x y z y2, y2, ((a3.tr b3).tr d3).tr y3⟩
      · have hq3 := i1.q160 hY
        have ht3 := i1.2.2.1
        have hcls : ∀ (T : Nat) (μ : Mem), CS T s B μ → ∃ μ', f2_readInto μ T = f2_readInto_1 (99996 + 1) μ' T (nI 3) ∧ fE T μ μ' ∧ GC T s B q3 t3 e3 v3 (c0 ++ (c1 ++ c2)) μ' ∧ μ' (55 + 3 * T) 0 = nI c0.length ∧ μ' (55 + 3 * T) 1 = nI (c0.length + c1.length) ∧ μ' (55 + 3 * T) 2 = nI (c0 ++ (c1 ++ c2)).length := by
          intro T μ hS
          obtain ⟨μ1, a1, a2, a3⟩ := cs_start w3 hS
          rw [hF] at a1
          obtain ⟨μ2, b1, b2, b3, b4, b5⟩ := ri_good (i := 0) (n := 99996 + 1 + 1 + 1) (by decide) g4 a2
          obtain ⟨μ3, d1, d2, d3, d4, d5⟩ := ri_good (i := 1) (n := 99996 + 1 + 1) (by decide) h4 b2
          obtain ⟨μ4, y1, y2, y3, y4, y5⟩ := ri_good (i := 2) (n := 99996 + 1) (by decide) i4 d2
          have el : [] ++ c0 ++ c1 ++ c2 = c0 ++ (c1 ++ c2) := by rw [List.nil_append, List.append_assoc]
          rw [el] at y2 y3
          refine ⟨μ4, by rw [a1, b1, d1, y1], ((a3.tr b5).tr d5).tr y5, y2, ?_, ?_, y3⟩
          · rw [y4 _ (by omega), d4 _ (by omega), b3, List.nil_append]
          · rw [y4 _ (by omega), d3, List.nil_append, List.length_append]
        have href : ∀ (T : Nat) (μ : Mem) (ν : Lem), MS T s B μ → ∃ v0 v1 v2 μ' ν', (∀ k, f6_read μ ν (nI T) k = f6_read_2 μ' ν' k v0 v1 v2) ∧ GM T s B q3 t3 e3 v3 0 μ' ν' ∧ fR μ μ' ∧ VAL (env6 μ) c0 v0 ∧ VAL (env6 μ) c1 v1 ∧ VAL (env6 μ) c2 v2 := by
          intro T μ ν hS
          obtain ⟨μ1, ν1, a1, a2, a3⟩ := ms_start w4 ν hS
          obtain ⟨x, μ2, ν2, b1, b2, b3, b4⟩ := g5 T μ1 ν1 a2
          obtain ⟨y, μ3, ν3, d1, d2, d3, d4⟩ := h5 T μ2 ν2 b2
          obtain ⟨z, μ4, ν4, y1, y2, y3, y4⟩ := i5 T μ3 ν3 d2
          exact ⟨x, y, z, μ4, ν4, fun k => by rw [a1, rdA_e k b1, rdB_e k x b2.ok d1, rdC_e k x y d2.ok y1], y2, ((a3.tr b3).tr d3).tr y3, b4.bk a3, d4.bk (a3.tr b3), y4.bk ((a3.tr b3).tr d3)⟩
        have hlen : (c0 ++ (c1 ++ c2)).length ≤ 160 := by
          rw [List.length_append, List.length_append]
          omega
        by_cases h21 : t3 = 21
        · subst h21
          obtain ⟨q4, t4, e4, v4, y1, y2, y3, y4⟩ := step hY i1 (by omega)
          right
          refine ⟨c0, c1, c2, hlen, fun T μ hS => ?_, fun T μ ν hS => ?_⟩
          · obtain ⟨μ1, a1, a2, a3, a4, a5, a6⟩ := hcls T μ hS
            obtain ⟨μ2, b1, b2, b3⟩ := y3 T _ μ1 a3
            refine ⟨μ2, ?_, a2.tr b3.t.e, b2.2.2.2.2.2.1, by rw [b3 _ _ (by omega)]; exact a4, by rw [b3 _ _ (by omega)]; exact a5, by rw [b3 _ _ (by omega)]; exact a6⟩
            rw [a1, ri_end, expect_y a3.2.2.1.2.1, b1, bd1_s, b2.2.2.2.1]
          · obtain ⟨v0, v1, v2, μ1, ν1, a1, a2, a3, a4, a5, a6⟩ := href T μ ν hS
            exact ⟨v0, v1, v2, a4, a5, a6, fun k => ⟨μ1, ν1, by rw [a1]; exact rdD_e k v0 v1 v2 a2 rfl, a2.2.2.1, a3⟩⟩
        · left
          refine ⟨q3, hq3, fun T μ hS => ?_, fun T μ ν k hS => ?_⟩
          · obtain ⟨μ1, a1, a2, a3, a4, a5, a6⟩ := hcls T μ hS
            obtain ⟨x2, x3⟩ := refuse_C a3 hq3
            refine ⟨f2_refuse μ1, ?_, a2.tr x3.e⟩
            rw [a1, ri_end, expect_n a3.2.2.1.2.1 ht3 (by decide) h21, bd1_s, x2.2.2.1]
          · obtain ⟨v0, v1, v2, μ1, ν1, a1, a2, a3, a4, a5, a6⟩ := href T μ ν hS
            obtain ⟨r, μ2, b1, b2, b3⟩ := rdD_f k v0 v1 v2 a2 h21
            exact ⟨r, μ2, ν1, by rw [a1]; exact b1, b2, a3.tr b3⟩
/-- what a text says hangs on its bytes alone -/
theorem TX.of {s : Nat} {B : Nat → Nat} {b : Nat → Int32} {cn co cw : List Int32} (hb : ∀ i, i < s → b i = nI (B i)) (h : ∀ (T : Nat) (μ : Mem) (ν : Lem), MS T s B μ → ∃ v0 v1 v2, VAL (env6 μ) cn v0 ∧ VAL (env6 μ) co v1 ∧ VAL (env6 μ) cw v2 ∧ ∀ k, ∃ μ' ν', f6_read μ ν (nI T) k = some (if k = 0 then v0 else if k = 1 then v1 else v2, μ', ν') ∧ μ' 0 27 = nI 0 ∧ fR μ μ') : TX b s cn co cw := by
  intro t μ ν ht h2 hi
  obtain ⟨v0, v1, v2, a1, a2, a3, a4⟩ := h t μ ν ⟨ht, h2, fun i hh => by rw [hi i hh, hb i hh]⟩
  refine ⟨v0, v1, v2, a1, a2, a3, fun k => ?_⟩
  obtain ⟨μ', ν', b1, -, b3⟩ := a4 k
  exact ⟨μ', ν', b1, b3⟩
