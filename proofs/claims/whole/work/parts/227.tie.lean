/-! the grammar's levels tied together -/
theorem ph5 (d : Nat) (μ : Mem) (x : Int32) : f2_phrase (d + 1) μ (nI 5) x = f2_one (f2_phrase d) μ x := by
  show f2_phraseB (f2_phrase d) μ (nI 5) x = _
  unfold f2_phraseB
  rw [if_pos (show nI 5 = 5 from rfl)]
  cases f2_one (f2_phrase d) μ x <;> rfl
theorem phB1 {P : Mem → Int32 → Int32 → Option Mem} {μ : Mem} {L : Nat} {x : Int32} (hL : L < 5) (h : L = 2 → ¬ μ 3 4 = 11 ∨ 5 ≤ x) : f2_phraseB P μ (nI L) x = f2_phrase_1 P μ (nI L) x := by
  unfold f2_phraseB
  rw [if_neg (show ¬ nI L = 5 by rw [kl_5, nI_eq (by omega) (by omega)]; omega)]
  by_cases h2 : L = 2
  · subst h2
    rw [if_pos (show nI 2 = 2 from rfl)]
    by_cases h11 : μ 3 4 = 11
    · rw [if_pos h11]
      rcases h rfl with h3 | h3
      · exact absurd h11 h3
      · rw [if_pos h3]
    · rw [if_neg h11]
  · rw [if_neg (show ¬ nI L = 2 by rw [kl_2, nI_eq (by omega) (by omega)]; exact h2)]
theorem phN {d : Nat} {μ : Mem} {L : Nat} {x : Int32} (hL : L < 5) (h : L = 2 → ¬ μ 3 4 = 11 ∨ 5 ≤ x) : f2_phrase (d + 1) μ (nI L) x = f2_phrase_1 (f2_phrase d) μ (nI L) x := phB1 (P := f2_phrase d) hL h
theorem ph1_bad {T f L o : Nat} {P : Mem → Int32 → Int32 → Option Mem} {μ μ' : Mem} (hL : L < 5) (h1 : P μ (nI (L + 1)) (nI o) = some μ') (h2 : BC T f μ') : f2_phrase_1 P μ (nI L) (nI o) = some μ' := by
  unfold f2_phrase_1
  rw [kl_1, nI_add, h1, bd1_s, show FUEL = 99999 + 1 from rfl]
  by_cases h : nI L = 2
  · rw [if_pos h]
    exact p2_bad hL h2 _ _ _ _
  · rw [if_neg h]
    exact p2_bad hL h2 _ _ _ _
/-- where ONE refuses all levels above it do -/
theorem fall {T f o : Nat} {μ : Mem} (h1 : ∀ P, f2_one P μ (nI o) = some (f2_refuse μ)) (h2 : BC T f (f2_refuse μ)) (h3 : ¬ μ 3 4 = 11 ∨ (5 : Int32) ≤ nI o) : ∀ j, j ≤ 5 → ∀ d, j < d → f2_phrase d μ (nI (5 - j)) (nI o) = some (f2_refuse μ) := by
  intro j
  induction j with
  | zero =>
    intro _ d hd
    obtain ⟨d, rfl⟩ : ∃ d', d = d' + 1 := ⟨d - 1, by omega⟩
    rw [Nat.sub_zero, ph5]
    exact h1 _
  | succ j ih =>
    intro hj d hd
    obtain ⟨d, rfl⟩ : ∃ d', d = d' + 1 := ⟨d - 1, by omega⟩
    rw [phN (by omega) (fun _ => h3)]
    have := ih (by omega) d (by omega)
    rw [show 5 - j = 5 - (j + 1) + 1 by omega] at this
    exact ph1_bad (by omega) this h2
theorem fall_B {T f o : Nat} {μ : Mem} (hG : BC T f μ) (ho : o ≤ 5) {d : Nat} (hd : 6 ≤ d) : f2_phrase d μ (nI 0) (nI o) = some (f2_refuse μ) := by
  have h := fall (T := T) (f := f) (o := o) (μ := μ) (fun P => one_fail hG.2.1 (by decide) (by decide) (by decide) ho (fun h => absurd h (by decide))) (refuse_B hG).1 (Or.inl (by rw [hG.2.1]; decide)) 5 (Nat.le_refl _) d (by omega)
  exact h
def gNot (Ad Nx : Mem → Lem → Option (Int32 × Mem × Lem)) (μ : Mem) (ν : Lem) : Option (Int32 × Mem × Lem) :=
  bd1 (f6_isWord μ ν 110 111 116 0 0 0 0 0) (fun r12 => if r12 = 0 then gCmp Ad μ ν else bd3 (f6_opens μ ν) (fun r19 μ19 ν19 => if r19 = 0 then some (0, μ19, ν19) else bd3 (Nx μ19 ν19) (fun r28 μ28 ν28 => nm (up μ28 0 26 ((μ28 0 26) - 1)) (fun μ39 => if r28 = 0 then some (1, μ39, ν28) else some (0, μ39, ν28)))))
def gNot5 (Ad : Mem → Lem → Option (Int32 × Mem × Lem)) (μ : Mem) (ν : Lem) : Option (Int32 × Mem × Lem) :=
  bd1 (f6_isWord μ ν 110 111 116 0 0 0 0 0) (fun r12 => if r12 = 0 then gCmp Ad μ ν else bd3 (f6_opens μ ν) (fun r19 μ19 ν19 => some (0, μ19, ν19)))
theorem not_gen {s o : Nat} {B : Nat → Nat} (hY : BY s B) (ho : o < 5) {P : Mem → Int32 → Int32 → Option Mem} {Ad Nx : Mem → Lem → Option (Int32 × Mem × Lem)} (hA : SIM s B o (fun μ => P μ (nI 3) (nI o)) Ad) (hN : SIM s B (o + 1) (fun μ => P μ (nI 2) (nI (o + 1))) Nx) : SIM s B o (fun μ => f2_phraseB P μ (nI 2) (nI o)) (gNot Ad Nx) := by
  refine SIM.mk fun q t e v hT => ?_
  have hT0 := hT
  obtain ⟨k1, k2, k3, k4, k5, k6⟩ := hT0
  by_cases h11 : t = 11
  · subst h11
    have hqe := k6 (by omega) (by omega)
    obtain ⟨q1, t1, e1, v1, a1, a2, a3, a4⟩ := step hY hT (by omega)
    have hcls : ∀ (T : Nat) (cs : List Int32) (μ : Mem), GC T s B q 11 e v cs μ → ∃ μ1, f2_phraseB P μ (nI 2) (nI o) = bd1 (P μ1 (nI 2) (nI (o + 1))) (fun μ39 => bd1 (f2_emit μ39 (-12)) (fun μ48 => some μ48)) ∧ GC T s B q1 t1 e1 v1 cs μ1 ∧ fA μ μ1 := by
      intro T cs μ hG
      obtain ⟨μ1, b1, b2, b3⟩ := a3 T cs μ hG
      refine ⟨μ1, ?_, b2, b3⟩
      unfold f2_phraseB
      rw [if_neg (show ¬ nI 2 = 5 by decide), if_pos (show nI 2 = 2 from rfl), if_pos (show μ 3 4 = 11 from hG.2.2.1.2.1), if_neg (show ¬ (5 : Int32) ≤ nI o by rw [kl_5, nI_leI (by omega) (by omega)]; omega), b1, bd1_s, kl_1, nI_add]
      rfl
    have href : ∀ (T : Nat) (μ : Mem) (ν : Lem), GM T s B q 11 e v o μ ν → ∃ μ1 ν1, gNot Ad Nx μ ν = bd3 (Nx μ1 ν1) (fun r28 μ28 ν28 => if r28 = 0 then some (1, up μ28 0 26 ((μ28 0 26) - 1), ν28) else some (0, up μ28 0 26 ((μ28 0 26) - 1), ν28)) ∧ GM T s B q1 t1 e1 v1 (o + 1) μ1 ν1 ∧ fR μ μ1 := by
      intro T μ ν hG
      obtain ⟨μ1, ν1, b1, b2, b3⟩ := a4 T (o + 1) _ ν (hG.op (o + 1))
      refine ⟨μ1, ν1, ?_, b2, (fR.rf.up (by omega)).tr b3.r⟩
      unfold gNot
      rw [w_not hY hG.1 hG.2.1 hG.2.2.1, if_pos rfl, bd1_s, if_neg z10, opens_ok ho hG.2.2.2, b1, bd2_s, bd3_s, if_neg (by decide)]
      rfl
    rcases hN q1 t1 e1 v1 a2 with ⟨f, f1, f2, f3⟩ | ⟨q2, t2, e2, v2, c, g1, g2, g3, g4, g5⟩
    · left
      refine ⟨f, f1, fun T cs μ hG => ?_, fun T μ ν hG => ?_⟩
      · obtain ⟨μ1, b1, b2, b3⟩ := hcls T cs μ hG
        obtain ⟨μ2, d1, d2, d3⟩ := f2 T cs μ1 b2
        have d1 : P μ1 (nI 2) (nI (o + 1)) = some μ2 := d1
        obtain ⟨μ3, x1, x2, x3⟩ := put_B d2 (-12)
        refine ⟨μ3, ?_, x2, (b3.t.tr d3).tr x3⟩
        show f2_phraseB P μ (nI 2) (nI o) = some μ3
        rw [b1, d1, bd1_s, gput d2.1 d2.2.2.2.2.1, x1, bd1_s]
      · obtain ⟨μ1, ν1, b1, b2, b3⟩ := href T μ ν hG
        obtain ⟨r, μ2, ν2, d1, d2, d3⟩ := f3 T μ1 ν1 b2
        refine ⟨if r = 0 then 1 else 0, up μ2 0 26 (μ2 0 26 - 1), ν2, ?_, d2.up (by omega), (b3.tr d3).up (by omega)⟩
        rw [b1, d1, bd3_s]
        by_cases hr : r = 0
        · rw [if_pos hr, if_pos hr]
        · rw [if_neg hr, if_neg hr]
    · right
      have hq2 := g1.q160 hY
      refine ⟨q2, t2, e2, v2, c ++ [-12], g1, by rw [List.length_append, List.length_singleton]; omega, by omega, fun T cs μ hG => ?_, fun T μ ν hG => ?_⟩
      · obtain ⟨μ1, b1, b2, b3⟩ := hcls T cs μ hG
        obtain ⟨μ2, d1, d2, d3⟩ := g4 T cs μ1 b2
        have d1 : P μ1 (nI 2) (nI (o + 1)) = some μ2 := d1
        have hl := hG.2.2.2.2.2.2
        obtain ⟨μ3, x1, x2, x3⟩ := put_C d2 hq2 (by rw [List.length_append]; omega) (-12)
        refine ⟨μ3, ?_, by rw [← List.append_assoc]; exact x2, (b3.t.tr d3).tr x3⟩
        show f2_phraseB P μ (nI 2) (nI o) = some μ3
        rw [b1, d1, bd1_s, gput d2.1 d2.2.2.2.2.1, x1, bd1_s]
      · obtain ⟨μ1, ν1, b1, b2, b3⟩ := href T μ ν hG
        obtain ⟨r, μ2, ν2, d1, d2, d3, d4⟩ := g5 T μ1 ν1 b2
        refine ⟨if r = 0 then 1 else 0, up μ2 0 26 (μ2 0 26 - 1), ν2, ?_, shut d2, (b3.tr d3).up (by omega), (d4.bk b3).not⟩
        rw [b1, d1, bd3_s]
        by_cases hr : r = 0
        · rw [if_pos hr, if_pos hr]
        · rw [if_neg hr, if_neg hr]
  · refine ((cmp_gen hY hA).at hT).to (fun T cs μ hG => ?_) (fun T μ ν hG => ?_)
    · exact phB1 (by decide) (fun _ => Or.inl (by rw [hG.2.2.1.2.1, kl_11, nI_eq (by omega) (by omega)]; exact h11))
    · unfold gNot
      rw [w_not hY hG.1 hG.2.1 hG.2.2.1, if_neg h11, bd1_s, if_pos z00]
theorem not5_gen {s : Nat} {B : Nat → Nat} (hY : BY s B) {d : Nat} (hd : 3 ≤ d) {Ad : Mem → Lem → Option (Int32 × Mem × Lem)} (hA : SIM s B 5 (fun μ => f2_phrase d μ (nI 3) (nI 5)) Ad) : SIM s B 5 (fun μ => f2_phrase (d + 1) μ (nI 2) (nI 5)) (gNot5 Ad) := by
  refine SIM.mk fun q t e v hT => ?_
  have hq := hT.q160 hY
  by_cases h11 : t = 11
  · subst h11
    left
    refine ⟨q, hq, fun T cs μ hG => ?_, fun T μ ν hG => ?_⟩
    · obtain ⟨r1, r2⟩ := refuse_C hG hq
      refine ⟨f2_refuse μ, ?_, r1, r2⟩
      exact fall (fun P => one_fail hG.2.2.1.2.1 (by decide) (by decide) (by decide) (Nat.le_refl 5) (fun h => absurd h (by decide))) r1 (Or.inr (by decide)) 3 (by decide) (d + 1) (by omega)
    · obtain ⟨μ', r1, r2, r3⟩ := opens_no hG
      refine ⟨0, μ', ν, ?_, r2, r3⟩
      unfold gNot5
      rw [w_not hY hG.1 hG.2.1 hG.2.2.1, if_pos rfl, bd1_s, if_neg z10, r1, bd3_s]
  · refine ((cmp_gen hY hA).at hT).to (fun T cs μ hG => ?_) (fun T μ ν hG => ?_)
    · exact phN (by decide) (fun _ => Or.inr (by decide))
    · unfold gNot5
      rw [w_not hY hG.1 hG.2.1 hG.2.2.1, if_neg h11, bd1_s, if_pos z00]
theorem T5_5 {s : Nat} {B : Nat → Nat} (hY : BY s B) {d : Nat} (hd : 1 ≤ d) : SIM s B 5 (fun μ => f2_phrase d μ (nI 5) (nI 5)) f6_atom5 := by
  obtain ⟨d, rfl⟩ : ∃ d', d = d' + 1 := ⟨d - 1, by omega⟩
  exact (at5_gen hY (P := f2_phrase d)).congr (fun μ => ph5 d μ (nI 5)) (fun μ ν => rfl)
theorem T4_5 {s : Nat} {B : Nat → Nat} (hY : BY s B) {d : Nat} (hd : 2 ≤ d) : SIM s B 5 (fun μ => f2_phrase d μ (nI 4) (nI 5)) f6_term5 := by
  obtain ⟨d, rfl⟩ : ∃ d', d = d' + 1 := ⟨d - 1, by omega⟩
  exact (term_gen hY (o := 5) (P := f2_phrase d) (F := f6_atom5) (R := f6_term5_1) (T5_5 hY (by omega)) (fun n μ ν x => rfl)).congr (fun μ => phN (by decide) (fun h => absurd h (by decide))) (fun μ ν => rfl)
theorem T3_5 {s : Nat} {B : Nat → Nat} (hY : BY s B) {d : Nat} (hd : 3 ≤ d) : SIM s B 5 (fun μ => f2_phrase d μ (nI 3) (nI 5)) f6_added5 := by
  obtain ⟨d, rfl⟩ : ∃ d', d = d' + 1 := ⟨d - 1, by omega⟩
  exact (added_gen hY (o := 5) (P := f2_phrase d) (F := f6_term5) (R := f6_added5_1) (T4_5 hY (by omega)) (fun n μ ν x => rfl)).congr (fun μ => phN (by decide) (fun h => absurd h (by decide))) (fun μ ν => rfl)
theorem T2_5 {s : Nat} {B : Nat → Nat} (hY : BY s B) {d : Nat} (hd : 4 ≤ d) : SIM s B 5 (fun μ => f2_phrase d μ (nI 2) (nI 5)) f6_not5 := by
  obtain ⟨d, rfl⟩ : ∃ d', d = d' + 1 := ⟨d - 1, by omega⟩
  exact (not5_gen hY (by omega) (T3_5 hY (by omega))).congr (fun μ => rfl) (fun μ ν => rfl)
theorem T1_5 {s : Nat} {B : Nat → Nat} (hY : BY s B) {d : Nat} (hd : 5 ≤ d) : SIM s B 5 (fun μ => f2_phrase d μ (nI 1) (nI 5)) f6_both5 := by
  obtain ⟨d, rfl⟩ : ∃ d', d = d' + 1 := ⟨d - 1, by omega⟩
  exact (both_gen hY (o := 5) (P := f2_phrase d) (F := f6_not5) (R := f6_both5_1) (T2_5 hY (by omega)) (fun n μ ν x => rfl)).congr (fun μ => phN (by decide) (fun h => absurd h (by decide))) (fun μ ν => rfl)
theorem T0_5 {s : Nat} {B : Nat → Nat} (hY : BY s B) {d : Nat} (hd : 6 ≤ d) : SIM s B 5 (fun μ => f2_phrase d μ (nI 0) (nI 5)) f6_either5 := by
  obtain ⟨d, rfl⟩ : ∃ d', d = d' + 1 := ⟨d - 1, by omega⟩
  exact (either_gen hY (o := 5) (P := f2_phrase d) (F := f6_both5) (R := f6_either5_1) (T1_5 hY (by omega)) (fun n μ ν x => rfl)).congr (fun μ => phN (by decide) (fun h => absurd h (by decide))) (fun μ ν => rfl)
theorem T5_4 {s : Nat} {B : Nat → Nat} (hY : BY s B) {d : Nat} (hd : 7 ≤ d) : SIM s B 4 (fun μ => f2_phrase d μ (nI 5) (nI 4)) f6_atom4 := by
  obtain ⟨d, rfl⟩ : ∃ d', d = d' + 1 := ⟨d - 1, by omega⟩
  exact (at_gen hY (o := 4) (by decide) (P := f2_phrase d) (E := f6_either5) (A := f6_atom5) (T0_5 hY (by omega)) (T5_5 hY (by omega))).congr (fun μ => ph5 d μ (nI 4)) (fun μ ν => rfl)
theorem T4_4 {s : Nat} {B : Nat → Nat} (hY : BY s B) {d : Nat} (hd : 8 ≤ d) : SIM s B 4 (fun μ => f2_phrase d μ (nI 4) (nI 4)) f6_term4 := by
  obtain ⟨d, rfl⟩ : ∃ d', d = d' + 1 := ⟨d - 1, by omega⟩
  exact (term_gen hY (o := 4) (P := f2_phrase d) (F := f6_atom4) (R := f6_term4_1) (T5_4 hY (by omega)) (fun n μ ν x => rfl)).congr (fun μ => phN (by decide) (fun h => absurd h (by decide))) (fun μ ν => rfl)
theorem T3_4 {s : Nat} {B : Nat → Nat} (hY : BY s B) {d : Nat} (hd : 9 ≤ d) : SIM s B 4 (fun μ => f2_phrase d μ (nI 3) (nI 4)) f6_added4 := by
  obtain ⟨d, rfl⟩ : ∃ d', d = d' + 1 := ⟨d - 1, by omega⟩
  exact (added_gen hY (o := 4) (P := f2_phrase d) (F := f6_term4) (R := f6_added4_1) (T4_4 hY (by omega)) (fun n μ ν x => rfl)).congr (fun μ => phN (by decide) (fun h => absurd h (by decide))) (fun μ ν => rfl)
theorem T2_4 {s : Nat} {B : Nat → Nat} (hY : BY s B) {d : Nat} (hd : 10 ≤ d) : SIM s B 4 (fun μ => f2_phrase d μ (nI 2) (nI 4)) f6_not4 := by
  obtain ⟨d, rfl⟩ : ∃ d', d = d' + 1 := ⟨d - 1, by omega⟩
  exact (not_gen hY (o := 4) (by decide) (P := f2_phrase d) (T3_4 hY (by omega)) (T2_5 hY (by omega))).congr (fun μ => rfl) (fun μ ν => rfl)
theorem T1_4 {s : Nat} {B : Nat → Nat} (hY : BY s B) {d : Nat} (hd : 11 ≤ d) : SIM s B 4 (fun μ => f2_phrase d μ (nI 1) (nI 4)) f6_both4 := by
  obtain ⟨d, rfl⟩ : ∃ d', d = d' + 1 := ⟨d - 1, by omega⟩
  exact (both_gen hY (o := 4) (P := f2_phrase d) (F := f6_not4) (R := f6_both4_1) (T2_4 hY (by omega)) (fun n μ ν x => rfl)).congr (fun μ => phN (by decide) (fun h => absurd h (by decide))) (fun μ ν => rfl)
theorem T0_4 {s : Nat} {B : Nat → Nat} (hY : BY s B) {d : Nat} (hd : 12 ≤ d) : SIM s B 4 (fun μ => f2_phrase d μ (nI 0) (nI 4)) f6_either4 := by
  obtain ⟨d, rfl⟩ : ∃ d', d = d' + 1 := ⟨d - 1, by omega⟩
  exact (either_gen hY (o := 4) (P := f2_phrase d) (F := f6_both4) (R := f6_either4_1) (T1_4 hY (by omega)) (fun n μ ν x => rfl)).congr (fun μ => phN (by decide) (fun h => absurd h (by decide))) (fun μ ν => rfl)
theorem T5_3 {s : Nat} {B : Nat → Nat} (hY : BY s B) {d : Nat} (hd : 13 ≤ d) : SIM s B 3 (fun μ => f2_phrase d μ (nI 5) (nI 3)) f6_atom3 := by
  obtain ⟨d, rfl⟩ : ∃ d', d = d' + 1 := ⟨d - 1, by omega⟩
  exact (at_gen hY (o := 3) (by decide) (P := f2_phrase d) (E := f6_either4) (A := f6_atom4) (T0_4 hY (by omega)) (T5_4 hY (by omega))).congr (fun μ => ph5 d μ (nI 3)) (fun μ ν => rfl)
theorem T4_3 {s : Nat} {B : Nat → Nat} (hY : BY s B) {d : Nat} (hd : 14 ≤ d) : SIM s B 3 (fun μ => f2_phrase d μ (nI 4) (nI 3)) f6_term3 := by
  obtain ⟨d, rfl⟩ : ∃ d', d = d' + 1 := ⟨d - 1, by omega⟩
  exact (term_gen hY (o := 3) (P := f2_phrase d) (F := f6_atom3) (R := f6_term3_1) (T5_3 hY (by omega)) (fun n μ ν x => rfl)).congr (fun μ => phN (by decide) (fun h => absurd h (by decide))) (fun μ ν => rfl)
theorem T3_3 {s : Nat} {B : Nat → Nat} (hY : BY s B) {d : Nat} (hd : 15 ≤ d) : SIM s B 3 (fun μ => f2_phrase d μ (nI 3) (nI 3)) f6_added3 := by
  obtain ⟨d, rfl⟩ : ∃ d', d = d' + 1 := ⟨d - 1, by omega⟩
  exact (added_gen hY (o := 3) (P := f2_phrase d) (F := f6_term3) (R := f6_added3_1) (T4_3 hY (by omega)) (fun n μ ν x => rfl)).congr (fun μ => phN (by decide) (fun h => absurd h (by decide))) (fun μ ν => rfl)
theorem T2_3 {s : Nat} {B : Nat → Nat} (hY : BY s B) {d : Nat} (hd : 16 ≤ d) : SIM s B 3 (fun μ => f2_phrase d μ (nI 2) (nI 3)) f6_not3 := by
  obtain ⟨d, rfl⟩ : ∃ d', d = d' + 1 := ⟨d - 1, by omega⟩
  exact (not_gen hY (o := 3) (by decide) (P := f2_phrase d) (T3_3 hY (by omega)) (T2_4 hY (by omega))).congr (fun μ => rfl) (fun μ ν => rfl)
theorem T1_3 {s : Nat} {B : Nat → Nat} (hY : BY s B) {d : Nat} (hd : 17 ≤ d) : SIM s B 3 (fun μ => f2_phrase d μ (nI 1) (nI 3)) f6_both3 := by
  obtain ⟨d, rfl⟩ : ∃ d', d = d' + 1 := ⟨d - 1, by omega⟩
  exact (both_gen hY (o := 3) (P := f2_phrase d) (F := f6_not3) (R := f6_both3_1) (T2_3 hY (by omega)) (fun n μ ν x => rfl)).congr (fun μ => phN (by decide) (fun h => absurd h (by decide))) (fun μ ν => rfl)
theorem T0_3 {s : Nat} {B : Nat → Nat} (hY : BY s B) {d : Nat} (hd : 18 ≤ d) : SIM s B 3 (fun μ => f2_phrase d μ (nI 0) (nI 3)) f6_either3 := by
  obtain ⟨d, rfl⟩ : ∃ d', d = d' + 1 := ⟨d - 1, by omega⟩
  exact (either_gen hY (o := 3) (P := f2_phrase d) (F := f6_both3) (R := f6_either3_1) (T1_3 hY (by omega)) (fun n μ ν x => rfl)).congr (fun μ => phN (by decide) (fun h => absurd h (by decide))) (fun μ ν => rfl)
theorem T5_2 {s : Nat} {B : Nat → Nat} (hY : BY s B) {d : Nat} (hd : 19 ≤ d) : SIM s B 2 (fun μ => f2_phrase d μ (nI 5) (nI 2)) f6_atom2 := by
  obtain ⟨d, rfl⟩ : ∃ d', d = d' + 1 := ⟨d - 1, by omega⟩
  exact (at_gen hY (o := 2) (by decide) (P := f2_phrase d) (E := f6_either3) (A := f6_atom3) (T0_3 hY (by omega)) (T5_3 hY (by omega))).congr (fun μ => ph5 d μ (nI 2)) (fun μ ν => rfl)
theorem T4_2 {s : Nat} {B : Nat → Nat} (hY : BY s B) {d : Nat} (hd : 20 ≤ d) : SIM s B 2 (fun μ => f2_phrase d μ (nI 4) (nI 2)) f6_term2 := by
  obtain ⟨d, rfl⟩ : ∃ d', d = d' + 1 := ⟨d - 1, by omega⟩
  exact (term_gen hY (o := 2) (P := f2_phrase d) (F := f6_atom2) (R := f6_term2_1) (T5_2 hY (by omega)) (fun n μ ν x => rfl)).congr (fun μ => phN (by decide) (fun h => absurd h (by decide))) (fun μ ν => rfl)
theorem T3_2 {s : Nat} {B : Nat → Nat} (hY : BY s B) {d : Nat} (hd : 21 ≤ d) : SIM s B 2 (fun μ => f2_phrase d μ (nI 3) (nI 2)) f6_added2 := by
  obtain ⟨d, rfl⟩ : ∃ d', d = d' + 1 := ⟨d - 1, by omega⟩
  exact (added_gen hY (o := 2) (P := f2_phrase d) (F := f6_term2) (R := f6_added2_1) (T4_2 hY (by omega)) (fun n μ ν x => rfl)).congr (fun μ => phN (by decide) (fun h => absurd h (by decide))) (fun μ ν => rfl)
theorem T2_2 {s : Nat} {B : Nat → Nat} (hY : BY s B) {d : Nat} (hd : 22 ≤ d) : SIM s B 2 (fun μ => f2_phrase d μ (nI 2) (nI 2)) f6_not2 := by
  obtain ⟨d, rfl⟩ : ∃ d', d = d' + 1 := ⟨d - 1, by omega⟩
  exact (not_gen hY (o := 2) (by decide) (P := f2_phrase d) (T3_2 hY (by omega)) (T2_3 hY (by omega))).congr (fun μ => rfl) (fun μ ν => rfl)
theorem T1_2 {s : Nat} {B : Nat → Nat} (hY : BY s B) {d : Nat} (hd : 23 ≤ d) : SIM s B 2 (fun μ => f2_phrase d μ (nI 1) (nI 2)) f6_both2 := by
  obtain ⟨d, rfl⟩ : ∃ d', d = d' + 1 := ⟨d - 1, by omega⟩
  exact (both_gen hY (o := 2) (P := f2_phrase d) (F := f6_not2) (R := f6_both2_1) (T2_2 hY (by omega)) (fun n μ ν x => rfl)).congr (fun μ => phN (by decide) (fun h => absurd h (by decide))) (fun μ ν => rfl)
theorem T0_2 {s : Nat} {B : Nat → Nat} (hY : BY s B) {d : Nat} (hd : 24 ≤ d) : SIM s B 2 (fun μ => f2_phrase d μ (nI 0) (nI 2)) f6_either2 := by
  obtain ⟨d, rfl⟩ : ∃ d', d = d' + 1 := ⟨d - 1, by omega⟩
  exact (either_gen hY (o := 2) (P := f2_phrase d) (F := f6_both2) (R := f6_either2_1) (T1_2 hY (by omega)) (fun n μ ν x => rfl)).congr (fun μ => phN (by decide) (fun h => absurd h (by decide))) (fun μ ν => rfl)
theorem T5_1 {s : Nat} {B : Nat → Nat} (hY : BY s B) {d : Nat} (hd : 25 ≤ d) : SIM s B 1 (fun μ => f2_phrase d μ (nI 5) (nI 1)) f6_atom1 := by
  obtain ⟨d, rfl⟩ : ∃ d', d = d' + 1 := ⟨d - 1, by omega⟩
  exact (at_gen hY (o := 1) (by decide) (P := f2_phrase d) (E := f6_either2) (A := f6_atom2) (T0_2 hY (by omega)) (T5_2 hY (by omega))).congr (fun μ => ph5 d μ (nI 1)) (fun μ ν => rfl)
theorem T4_1 {s : Nat} {B : Nat → Nat} (hY : BY s B) {d : Nat} (hd : 26 ≤ d) : SIM s B 1 (fun μ => f2_phrase d μ (nI 4) (nI 1)) f6_term1 := by
  obtain ⟨d, rfl⟩ : ∃ d', d = d' + 1 := ⟨d - 1, by omega⟩
  exact (term_gen hY (o := 1) (P := f2_phrase d) (F := f6_atom1) (R := f6_term1_1) (T5_1 hY (by omega)) (fun n μ ν x => rfl)).congr (fun μ => phN (by decide) (fun h => absurd h (by decide))) (fun μ ν => rfl)
theorem T3_1 {s : Nat} {B : Nat → Nat} (hY : BY s B) {d : Nat} (hd : 27 ≤ d) : SIM s B 1 (fun μ => f2_phrase d μ (nI 3) (nI 1)) f6_added1 := by
  obtain ⟨d, rfl⟩ : ∃ d', d = d' + 1 := ⟨d - 1, by omega⟩
  exact (added_gen hY (o := 1) (P := f2_phrase d) (F := f6_term1) (R := f6_added1_1) (T4_1 hY (by omega)) (fun n μ ν x => rfl)).congr (fun μ => phN (by decide) (fun h => absurd h (by decide))) (fun μ ν => rfl)
theorem T2_1 {s : Nat} {B : Nat → Nat} (hY : BY s B) {d : Nat} (hd : 28 ≤ d) : SIM s B 1 (fun μ => f2_phrase d μ (nI 2) (nI 1)) f6_not1 := by
  obtain ⟨d, rfl⟩ : ∃ d', d = d' + 1 := ⟨d - 1, by omega⟩
  exact (not_gen hY (o := 1) (by decide) (P := f2_phrase d) (T3_1 hY (by omega)) (T2_2 hY (by omega))).congr (fun μ => rfl) (fun μ ν => rfl)
theorem T1_1 {s : Nat} {B : Nat → Nat} (hY : BY s B) {d : Nat} (hd : 29 ≤ d) : SIM s B 1 (fun μ => f2_phrase d μ (nI 1) (nI 1)) f6_both1 := by
  obtain ⟨d, rfl⟩ : ∃ d', d = d' + 1 := ⟨d - 1, by omega⟩
  exact (both_gen hY (o := 1) (P := f2_phrase d) (F := f6_not1) (R := f6_both1_1) (T2_1 hY (by omega)) (fun n μ ν x => rfl)).congr (fun μ => phN (by decide) (fun h => absurd h (by decide))) (fun μ ν => rfl)
theorem T0_1 {s : Nat} {B : Nat → Nat} (hY : BY s B) {d : Nat} (hd : 30 ≤ d) : SIM s B 1 (fun μ => f2_phrase d μ (nI 0) (nI 1)) f6_either1 := by
  obtain ⟨d, rfl⟩ : ∃ d', d = d' + 1 := ⟨d - 1, by omega⟩
  exact (either_gen hY (o := 1) (P := f2_phrase d) (F := f6_both1) (R := f6_either1_1) (T1_1 hY (by omega)) (fun n μ ν x => rfl)).congr (fun μ => phN (by decide) (fun h => absurd h (by decide))) (fun μ ν => rfl)
theorem T5_0 {s : Nat} {B : Nat → Nat} (hY : BY s B) {d : Nat} (hd : 31 ≤ d) : SIM s B 0 (fun μ => f2_phrase d μ (nI 5) (nI 0)) f6_atom0 := by
  obtain ⟨d, rfl⟩ : ∃ d', d = d' + 1 := ⟨d - 1, by omega⟩
  exact (at_gen hY (o := 0) (by decide) (P := f2_phrase d) (E := f6_either1) (A := f6_atom1) (T0_1 hY (by omega)) (T5_1 hY (by omega))).congr (fun μ => ph5 d μ (nI 0)) (fun μ ν => rfl)
theorem T4_0 {s : Nat} {B : Nat → Nat} (hY : BY s B) {d : Nat} (hd : 32 ≤ d) : SIM s B 0 (fun μ => f2_phrase d μ (nI 4) (nI 0)) f6_term0 := by
  obtain ⟨d, rfl⟩ : ∃ d', d = d' + 1 := ⟨d - 1, by omega⟩
  exact (term_gen hY (o := 0) (P := f2_phrase d) (F := f6_atom0) (R := f6_term0_1) (T5_0 hY (by omega)) (fun n μ ν x => rfl)).congr (fun μ => phN (by decide) (fun h => absurd h (by decide))) (fun μ ν => rfl)
theorem T3_0 {s : Nat} {B : Nat → Nat} (hY : BY s B) {d : Nat} (hd : 33 ≤ d) : SIM s B 0 (fun μ => f2_phrase d μ (nI 3) (nI 0)) f6_added0 := by
  obtain ⟨d, rfl⟩ : ∃ d', d = d' + 1 := ⟨d - 1, by omega⟩
  exact (added_gen hY (o := 0) (P := f2_phrase d) (F := f6_term0) (R := f6_added0_1) (T4_0 hY (by omega)) (fun n μ ν x => rfl)).congr (fun μ => phN (by decide) (fun h => absurd h (by decide))) (fun μ ν => rfl)
theorem T2_0 {s : Nat} {B : Nat → Nat} (hY : BY s B) {d : Nat} (hd : 34 ≤ d) : SIM s B 0 (fun μ => f2_phrase d μ (nI 2) (nI 0)) f6_not0 := by
  obtain ⟨d, rfl⟩ : ∃ d', d = d' + 1 := ⟨d - 1, by omega⟩
  exact (not_gen hY (o := 0) (by decide) (P := f2_phrase d) (T3_0 hY (by omega)) (T2_1 hY (by omega))).congr (fun μ => rfl) (fun μ ν => rfl)
theorem T1_0 {s : Nat} {B : Nat → Nat} (hY : BY s B) {d : Nat} (hd : 35 ≤ d) : SIM s B 0 (fun μ => f2_phrase d μ (nI 1) (nI 0)) f6_both0 := by
  obtain ⟨d, rfl⟩ : ∃ d', d = d' + 1 := ⟨d - 1, by omega⟩
  exact (both_gen hY (o := 0) (P := f2_phrase d) (F := f6_not0) (R := f6_both0_1) (T2_0 hY (by omega)) (fun n μ ν x => rfl)).congr (fun μ => phN (by decide) (fun h => absurd h (by decide))) (fun μ ν => rfl)
theorem T0_0 {s : Nat} {B : Nat → Nat} (hY : BY s B) {d : Nat} (hd : 36 ≤ d) : SIM s B 0 (fun μ => f2_phrase d μ (nI 0) (nI 0)) f6_either0 := by
  obtain ⟨d, rfl⟩ : ∃ d', d = d' + 1 := ⟨d - 1, by omega⟩
  exact (either_gen hY (o := 0) (P := f2_phrase d) (F := f6_both0) (R := f6_either0_1) (T1_0 hY (by omega)) (fun n μ ν x => rfl)).congr (fun μ => phN (by decide) (fun h => absurd h (by decide))) (fun μ ν => rfl)
