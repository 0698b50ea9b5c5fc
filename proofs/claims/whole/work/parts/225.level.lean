/-! the levels of the grammar, for both readers -/
theorem p2_bad {T f L : Nat} {P : Mem → Int32 → Int32 → Option Mem} {μ : Mem} (hL : L < 5) (h : BC T f μ) (n : Nat) (x2 x3 x4 : Int32) : f2_phrase_2 P (n + 1) μ (nI L) x2 x3 x4 = some μ := by
  rw [f2_phrase_2]
  by_cases h160 : x3 ≤ x4
  · rw [if_pos h160]
  · rw [if_neg h160, joins hL (by decide) h.2.1, if_pos]
    have : ∀ L, L < 5 → (if ops L 22 = true then nI 1 else nI 0) = 0 := by decide
    exact this L hL
theorem bin_gen {s o L : Nat} {B : Nat → Nat} (hY : BY s B) (hL : L < 5) (hL2 : L ≠ 2) {P : Mem → Int32 → Int32 → Option Mem} {F : Mem → Lem → Option (Int32 × Mem × Lem)} {R : Nat → Mem → Lem → Int32 → Option (Int32 × Mem × Lem)} (hS : SIM s B o (fun μ => P μ (nI (L + 1)) (nI o)) F)
    (hRn : ∀ n T q t e v μ ν x, GM T s B q t e v o μ ν → ops L t = false → R (n + 1) μ ν x = some (x, μ, ν))
    (hRb : ∀ n f μ ν x, BM f μ → R (n + 1) μ ν x = some (x, μ, ν))
    (hRy : ∀ n T q t e v μ ν x, GM T s B q t e v o μ ν → ops L t = true → R (n + 1) μ ν x = bd2 (f6_next μ ν) (fun μ1 ν1 => bd3 (F μ1 ν1) (fun r μ2 ν2 => R n μ2 ν2 (jn (nI t) x r)))) :
    SIM s B o (fun μ => f2_phrase_1 P μ (nI L) (nI o)) (fun μ ν => bd3 (F μ ν) (fun r μ1 ν1 => R FUEL μ1 ν1 r)) := by
  have hs := hY.1
  have hp : ∀ μ, f2_phrase_1 P μ (nI L) (nI o) = bd1 (P μ (nI (L + 1)) (nI o)) (fun μ57 => f2_phrase_2 P FUEL μ57 (nI L) (nI o) (nI 160) (nI 0)) := fun μ => by
    unfold f2_phrase_1
    rw [kl_1, nI_add]
    have : ¬ nI L = 2 := by rw [kl_2, nI_eq (by omega) (by omega)]; exact hL2
    simp only [if_neg this]
    rfl
  intro q t e v hT
  rcases hS q t e v hT with ⟨f, f1, f2, f3⟩ | ⟨q1, t1, e1, v1, c, g1, g2, g3, g4, g5⟩
  · left
    refine ⟨f, f1, fun T cs μ hG => ?_, fun T μ ν hG => ?_⟩
    · obtain ⟨μ1, b1, b2, b3⟩ := f2 T cs μ hG
      have b1 : P μ (nI (L + 1)) (nI o) = some μ1 := b1
      refine ⟨μ1, ?_, b2, b3⟩
      show f2_phrase_1 P μ (nI L) (nI o) = some μ1
      rw [hp, b1, bd1_s, show FUEL = 99999 + 1 from rfl]
      exact p2_bad hL b2 _ _ _ _
    · obtain ⟨r, μ1, ν1, b1, b2, b3⟩ := f3 T μ ν hG
      refine ⟨r, μ1, ν1, ?_, b2, b3⟩
      show bd3 (F μ ν) (fun r μ1 ν1 => R FUEL μ1 ν1 r) = _
      rw [b1, bd3_s, show FUEL = 99999 + 1 from rfl]
      exact hRb _ f _ _ _ b2
  · rcases loop_gen hY hL hS hRn hRb hRy (s - q1 + 1) q1 t1 e1 v1 g1 (by omega) with ⟨f, f1, f2, f3⟩ | ⟨q2, t2, e2, v2, c', y1, y2, y3, y4, y5⟩
    · left
      refine ⟨f, f1, fun T cs μ hG => ?_, fun T μ ν hG => ?_⟩
      · obtain ⟨μ1, b1, b2, b3⟩ := g4 T cs μ hG
        have b1 : P μ (nI (L + 1)) (nI o) = some μ1 := b1
        obtain ⟨μ2, d1, d2, d3⟩ := f2 T _ μ1 FUEL 0 b2 (fuel_o (by omega)) (by omega)
        refine ⟨μ2, ?_, d2, b3.tr d3⟩
        show f2_phrase_1 P μ (nI L) (nI o) = some μ2
        rw [hp, b1, bd1_s]
        exact d1
      · obtain ⟨r, μ1, ν1, b1, b2, b3, b4⟩ := g5 T μ ν hG
        obtain ⟨x', μ2, ν2, d1, d2, d3⟩ := f3 T μ1 ν1 FUEL r b2 (fuel_o (by omega))
        refine ⟨x', μ2, ν2, ?_, d2, b3.tr d3⟩
        show bd3 (F μ ν) (fun r μ1 ν1 => R FUEL μ1 ν1 r) = _
        rw [b1, bd3_s]
        exact d1
    · right
      refine ⟨q2, t2, e2, v2, c ++ c', y1, by rw [List.length_append]; omega, by omega, fun T cs μ hG => ?_, fun T μ ν hG => ?_⟩
      · obtain ⟨μ1, b1, b2, b3⟩ := g4 T cs μ hG
        have b1 : P μ (nI (L + 1)) (nI o) = some μ1 := b1
        obtain ⟨μ2, d1, d2, d3⟩ := y4 T _ μ1 FUEL 0 b2 (fuel_o (by omega)) (by omega)
        refine ⟨μ2, ?_, by rw [← List.append_assoc]; exact d2, b3.tr d3⟩
        show f2_phrase_1 P μ (nI L) (nI o) = some μ2
        rw [hp, b1, bd1_s]
        exact d1
      · obtain ⟨r, μ1, ν1, b1, b2, b3, b4⟩ := g5 T μ ν hG
        obtain ⟨x', μ2, ν2, d1, d2, d3, d4⟩ := y5 T μ1 ν1 FUEL r c b2 (fuel_o (by omega)) (b4.fr b3)
        refine ⟨x', μ2, ν2, ?_, d2, b3.tr d3, d4.bk b3⟩
        show bd3 (F μ ν) (fun r μ1 ν1 => R FUEL μ1 ν1 r) = _
        rw [b1, bd3_s]
        exact d1
theorem ML.sg {B : Nat → Nat} {s q t e v : Nat} {μ : Mem} {ν : Lem} (h : ML B s q t e v μ ν) (h1 : 12 ≤ t) (h2 : t ≤ 19) : ν 0 25 = (nI (sg t)).toInt64 := by
  obtain ⟨-, h⟩ := h
  rcases h with ⟨h, -⟩ | ⟨h, -⟩ | ⟨-, -, -, -, h⟩ | ⟨-, -, -, -, -, h⟩ | ⟨h, -⟩
  · omega
  · omega
  · exact h
  · rcases h with ⟨h, -⟩ | ⟨h, -⟩ <;> omega
  · omega
theorem jn_10 (x r : Int32) : jn (nI 10) x r = if x = 0 then 0 else if r = 0 then 0 else 1 := by
  unfold jn f3_joined
  rw [if_neg (by decide), if_pos (by decide)]
  rfl
theorem jn_9 (x r : Int32) : jn (nI 9) x r = if x = 0 then if r = 0 then 0 else 1 else 1 := by
  unfold jn f3_joined
  rw [if_pos (by decide)]
  rfl
theorem jn_15 (x r : Int32) : jn (nI 15) x r = x + r := by
  unfold jn f3_joined
  rw [if_neg (by decide), if_neg (by decide), if_pos (by decide)]
theorem jn_16 (x r : Int32) : jn (nI 16) x r = x - r := by
  unfold jn f3_joined
  rw [if_neg (by decide), if_neg (by decide), if_neg (by decide), if_pos (by decide)]
theorem jn_17 (x r : Int32) : jn (nI 17) x r = x * r := by
  unfold jn f3_joined
  rw [if_neg (by decide), if_neg (by decide), if_neg (by decide), if_neg (by decide), if_neg (by decide), if_neg (by decide)]
theorem jn_18 (x r : Int32) : jn (nI 18) x r = if r ≤ x then 0 else 1 := by
  unfold jn f3_joined
  rw [if_neg (by decide), if_neg (by decide), if_neg (by decide), if_neg (by decide), if_pos (by decide)]
  rfl
theorem jn_19 (x r : Int32) : jn (nI 19) x r = if x = r then 1 else 0 := by
  unfold jn f3_joined
  rw [if_neg (by decide), if_neg (by decide), if_neg (by decide), if_neg (by decide), if_neg (by decide), if_pos (by decide)]
  rfl
theorem ops_0 {t : Nat} : ops 0 t = decide (t = 9) := rfl
theorem ops_1 {t : Nat} : ops 1 t = decide (t = 10) := rfl
theorem ops_2 {t : Nat} : ops 2 t = (decide (t = 18) || decide (t = 19)) := rfl
theorem ops_3 {t : Nat} : ops 3 t = (decide (t = 15) || decide (t = 16)) := rfl
theorem ops_4 {t : Nat} : ops 4 t = decide (t = 17) := rfl
theorem i10 : nI 1 = 0 ↔ False := ⟨fun h => absurd h (by decide), fun h => h.elim⟩
theorem term_gen {s o : Nat} {B : Nat → Nat} (hY : BY s B) {P : Mem → Int32 → Int32 → Option Mem} {F : Mem → Lem → Option (Int32 × Mem × Lem)} {R : Nat → Mem → Lem → Int32 → Option (Int32 × Mem × Lem)} (hS : SIM s B o (fun μ => P μ (nI 5) (nI o)) F)
    (hR : ∀ n μ ν x, R (n + 1) μ ν x = if (f6_isSign μ ν 42) = 0 then some (x, μ, ν) else bd2 (f6_next μ ν) (fun μ15 ν15 => bd3 (F μ15 ν15) (fun r20 μ20 ν20 => nm (x * r20) (fun v24 => R n μ20 ν20 v24)))) :
    SIM s B o (fun μ => f2_phrase_1 P μ (nI 4) (nI o)) (fun μ ν => bd3 (F μ ν) (fun r μ1 ν1 => R FUEL μ1 ν1 r)) := by
  refine bin_gen hY (L := 4) (by decide) (by decide) hS (fun n T q t e v μ ν x hG h => ?_) (fun n f μ ν x hG => ?_) (fun n T q t e v μ ν x hG h => ?_)
  · rw [ops_4] at h
    have h := of_decide_eq_false h
    rw [hR, g_42 hG.2.1 hG.2.2.1, if_neg h, if_pos (show nI 0 = 0 from rfl)]
  · rw [hR, isSign_bad hG.1, if_pos (show nI 0 = 0 from rfl)]
  · rw [ops_4] at h
    have h := of_decide_eq_true h
    subst h
    rw [hR, g_42 hG.2.1 hG.2.2.1, if_pos rfl, if_neg (by decide)]
    simp only [nm_s, jn_17]
def gA3 (A : Mem → Lem → Option (Int32 × Mem × Lem)) (K : Mem → Lem → Int32 → Option (Int32 × Mem × Lem)) (μ : Mem) (ν : Lem) (x1 : Int32) (t0 : Int32) : Option (Int32 × Mem × Lem) :=
  bd2 (f6_next μ ν) (fun μ41 ν41 => bd3 (A μ41 ν41) (fun r45 μ45 ν45 => if t0 = 0 then nm (x1 - r45) (fun v62 => K μ45 ν45 v62) else nm (x1 + r45) (fun v62 => K μ45 ν45 v62)))
def gA2 (A : Mem → Lem → Option (Int32 × Mem × Lem)) (K : Mem → Lem → Int32 → Option (Int32 × Mem × Lem)) (μ : Mem) (ν : Lem) (x1 : Int32) : Option (Int32 × Mem × Lem) :=
  if (lg_cmp (ν 0 25) (43 : Int64)) = 0 then gA3 A K μ ν x1 1 else gA3 A K μ ν x1 0
theorem sg_cmp : lg_cmp ((nI 43).toInt64) (43 : Int64) = 0 ∧ ¬ lg_cmp ((nI 45).toInt64) (43 : Int64) = 0 ∧ lg_cmp ((nI 60).toInt64) (60 : Int64) = 0 ∧ ¬ lg_cmp ((nI 61).toInt64) (60 : Int64) = 0 := by decide +kernel
theorem added_gen {s o : Nat} {B : Nat → Nat} (hY : BY s B) {P : Mem → Int32 → Int32 → Option Mem} {F : Mem → Lem → Option (Int32 × Mem × Lem)} {R : Nat → Mem → Lem → Int32 → Option (Int32 × Mem × Lem)} (hS : SIM s B o (fun μ => P μ (nI 4) (nI o)) F)
    (hR : ∀ n μ ν x, R (n + 1) μ ν x = if (f6_isSign μ ν 43) = 0 then if (f6_isSign μ ν 45) = 0 then some (x, μ, ν) else gA2 F (R n) μ ν x else gA2 F (R n) μ ν x) :
    SIM s B o (fun μ => f2_phrase_1 P μ (nI 3) (nI o)) (fun μ ν => bd3 (F μ ν) (fun r μ1 ν1 => R FUEL μ1 ν1 r)) := by
  refine bin_gen hY (L := 3) (by decide) (by decide) hS (fun n T q t e v μ ν x hG h => ?_) (fun n f μ ν x hG => ?_) (fun n T q t e v μ ν x hG h => ?_)
  · rw [ops_3, Bool.or_eq_false_iff] at h
    have h1 := of_decide_eq_false h.1
    have h2 := of_decide_eq_false h.2
    rw [hR, g_43 hG.2.1 hG.2.2.1, if_neg h1, if_pos (show nI 0 = 0 from rfl), g_45 hG.2.1 hG.2.2.1, if_neg h2, if_pos (show nI 0 = 0 from rfl)]
  · rw [hR, isSign_bad hG.1, if_pos (show nI 0 = 0 from rfl), isSign_bad hG.1, if_pos (show nI 0 = 0 from rfl)]
  · rw [ops_3, Bool.or_eq_true] at h
    rcases h with h | h
    · have h := of_decide_eq_true h
      subst h
      have hv : ν 0 25 = (nI 43).toInt64 := hG.2.1.sg (by decide) (by decide)
      rw [hR, g_43 hG.2.1 hG.2.2.1, if_pos rfl, if_neg (by decide)]
      unfold gA2 gA3
      rw [hv, if_pos sg_cmp.1]
      have n1 : ¬ (1 : Int32) = 0 := by decide
      simp only [nm_s, jn_15, if_neg n1]
    · have h := of_decide_eq_true h
      subst h
      have hv : ν 0 25 = (nI 45).toInt64 := hG.2.1.sg (by decide) (by decide)
      rw [hR, g_43 hG.2.1 hG.2.2.1, if_neg (show ¬ 16 = 15 by decide), if_pos (show nI 0 = 0 from rfl), g_45 hG.2.1 hG.2.2.1, if_pos rfl, if_neg (by decide)]
      unfold gA2 gA3
      rw [hv, if_neg sg_cmp.2.1]
      simp only [nm_s, jn_16, if_true]
theorem both_gen {s o : Nat} {B : Nat → Nat} (hY : BY s B) {P : Mem → Int32 → Int32 → Option Mem} {F : Mem → Lem → Option (Int32 × Mem × Lem)} {R : Nat → Mem → Lem → Int32 → Option (Int32 × Mem × Lem)} (hS : SIM s B o (fun μ => P μ (nI 2) (nI o)) F)
    (hR : ∀ n μ ν x, R (n + 1) μ ν x = bd1 (f6_isWord μ ν 97 110 100 0 0 0 0 0) (fun r17 => if r17 = 0 then some (x, μ, ν) else bd2 (f6_next μ ν) (fun μ24 ν24 => bd3 (F μ24 ν24) (fun r28 μ28 ν28 => if x = 0 then R n μ28 ν28 0 else if r28 = 0 then R n μ28 ν28 0 else R n μ28 ν28 1)))) :
    SIM s B o (fun μ => f2_phrase_1 P μ (nI 1) (nI o)) (fun μ ν => bd3 (F μ ν) (fun r μ1 ν1 => R FUEL μ1 ν1 r)) := by
  refine bin_gen hY (L := 1) (by decide) (by decide) hS (fun n T q t e v μ ν x hG h => ?_) (fun n f μ ν x hG => ?_) (fun n T q t e v μ ν x hG h => ?_)
  · rw [ops_1] at h
    have h := of_decide_eq_false h
    rw [hR, w_and hY hG.1 hG.2.1 hG.2.2.1, if_neg h, bd1_s, if_pos (show nI 0 = 0 from rfl)]
  · rw [hR, isWord_bad hG.1, bd1_s, if_pos (show nI 0 = 0 from rfl)]
  · rw [ops_1] at h
    have h := of_decide_eq_true h
    subst h
    rw [hR, w_and hY hG.1 hG.2.1 hG.2.2.1, if_pos rfl, bd1_s, if_neg (by decide)]
    refine congrArg (bd2 (f6_next μ ν)) (funext fun μ24 => funext fun ν24 => congrArg (bd3 (F μ24 ν24)) (funext fun r28 => funext fun μ28 => funext fun ν28 => ?_))
    rw [jn_10]
    by_cases h1 : x = 0
    · rw [if_pos h1, if_pos h1]
    · rw [if_neg h1, if_neg h1]
      by_cases h2 : r28 = 0
      · rw [if_pos h2, if_pos h2]
      · rw [if_neg h2, if_neg h2]
theorem either_gen {s o : Nat} {B : Nat → Nat} (hY : BY s B) {P : Mem → Int32 → Int32 → Option Mem} {F : Mem → Lem → Option (Int32 × Mem × Lem)} {R : Nat → Mem → Lem → Int32 → Option (Int32 × Mem × Lem)} (hS : SIM s B o (fun μ => P μ (nI 1) (nI o)) F)
    (hR : ∀ n μ ν x, R (n + 1) μ ν x = bd1 (f6_isWord μ ν 111 114 0 0 0 0 0 0) (fun r16 => if r16 = 0 then some (x, μ, ν) else bd2 (f6_next μ ν) (fun μ23 ν23 => bd3 (F μ23 ν23) (fun r27 μ27 ν27 => if x = 0 then if r27 = 0 then R n μ27 ν27 0 else R n μ27 ν27 1 else R n μ27 ν27 1)))) :
    SIM s B o (fun μ => f2_phrase_1 P μ (nI 0) (nI o)) (fun μ ν => bd3 (F μ ν) (fun r μ1 ν1 => R FUEL μ1 ν1 r)) := by
  refine bin_gen hY (L := 0) (by decide) (by decide) hS (fun n T q t e v μ ν x hG h => ?_) (fun n f μ ν x hG => ?_) (fun n T q t e v μ ν x hG h => ?_)
  · rw [ops_0] at h
    have h := of_decide_eq_false h
    rw [hR, w_or hY hG.1 hG.2.1 hG.2.2.1, if_neg h, bd1_s, if_pos (show nI 0 = 0 from rfl)]
  · rw [hR, isWord_bad hG.1, bd1_s, if_pos (show nI 0 = 0 from rfl)]
  · rw [ops_0] at h
    have h := of_decide_eq_true h
    subst h
    rw [hR, w_or hY hG.1 hG.2.1 hG.2.2.1, if_pos rfl, bd1_s, if_neg (by decide)]
    refine congrArg (bd2 (f6_next μ ν)) (funext fun μ24 => funext fun ν24 => congrArg (bd3 (F μ24 ν24)) (funext fun r28 => funext fun μ28 => funext fun ν28 => ?_))
    rw [jn_9]
    by_cases h1 : x = 0
    · rw [if_pos h1, if_pos h1]
      by_cases h2 : r28 = 0
      · rw [if_pos h2, if_pos h2]
      · rw [if_neg h2, if_neg h2]
    · rw [if_neg h1, if_neg h1]
/-- compared once -/
def gN2 (Ad : Mem → Lem → Option (Int32 × Mem × Lem)) (μ : Mem) (ν : Lem) (x1 : Int32) (t0 : Int32) : Option (Int32 × Mem × Lem) :=
  bd2 (f6_next μ ν) (fun μ95 ν95 => bd3 (Ad μ95 ν95) (fun r99 μ99 ν99 => if t0 = 0 then if x1 = r99 then some (1, μ99, ν99) else some (0, μ99, ν99) else if r99 ≤ x1 then some (0, μ99, ν99) else some (1, μ99, ν99)))
def gN1 (Ad : Mem → Lem → Option (Int32 × Mem × Lem)) (μ : Mem) (ν : Lem) (x1 : Int32) : Option (Int32 × Mem × Lem) :=
  if (lg_cmp (ν 0 25) (60 : Int64)) = 0 then gN2 Ad μ ν x1 1 else gN2 Ad μ ν x1 0
def gCmp (Ad : Mem → Lem → Option (Int32 × Mem × Lem)) (μ : Mem) (ν : Lem) : Option (Int32 × Mem × Lem) :=
  bd3 (Ad μ ν) (fun r53 μ53 ν53 => if (f6_isSign μ53 ν53 60) = 0 then if (f6_isSign μ53 ν53 61) = 0 then some (r53, μ53, ν53) else gN1 Ad μ53 ν53 r53 else gN1 Ad μ53 ν53 r53)
theorem gN1_eq {B : Nat → Nat} {s q t e v : Nat} {μ : Mem} {ν : Lem} (h : ML B s q t e v μ ν) (h1 : t = 18 ∨ t = 19) (Ad : Mem → Lem → Option (Int32 × Mem × Lem)) (x : Int32) : gN1 Ad μ ν x = bd2 (f6_next μ ν) (fun μ95 ν95 => bd3 (Ad μ95 ν95) (fun r99 μ99 ν99 => some (jn (nI t) x r99, μ99, ν99))) := by
  unfold gN1 gN2
  rcases h1 with h1 | h1
  · subst h1
    have hv : ν 0 25 = (nI 60).toInt64 := h.sg (by decide) (by decide)
    rw [hv, if_pos sg_cmp.2.2.1]
    refine congrArg (bd2 (f6_next μ ν)) (funext fun μ24 => funext fun ν24 => congrArg (bd3 (Ad μ24 ν24)) (funext fun r28 => funext fun μ28 => funext fun ν28 => ?_))
    rw [if_neg (by decide), jn_18]
    by_cases h2 : r28 ≤ x
    · rw [if_pos h2, if_pos h2]
    · rw [if_neg h2, if_neg h2]
  · subst h1
    have hv : ν 0 25 = (nI 61).toInt64 := h.sg (by decide) (by decide)
    rw [hv, if_neg sg_cmp.2.2.2]
    refine congrArg (bd2 (f6_next μ ν)) (funext fun μ24 => funext fun ν24 => congrArg (bd3 (Ad μ24 ν24)) (funext fun r28 => funext fun μ28 => funext fun ν28 => ?_))
    rw [if_pos rfl, jn_19]
    by_cases h2 : x = r28
    · rw [if_pos h2, if_pos h2]
    · rw [if_neg h2, if_neg h2]
theorem cmp_gen {s o : Nat} {B : Nat → Nat} (hY : BY s B) {P : Mem → Int32 → Int32 → Option Mem} {F : Mem → Lem → Option (Int32 × Mem × Lem)} (hS : SIM s B o (fun μ => P μ (nI 3) (nI o)) F) :
    SIM s B o (fun μ => f2_phrase_1 P μ (nI 2) (nI o)) (gCmp F) := by
  have hs := hY.1
  have hF : FUEL = 99998 + 1 + 1 := rfl
  have hp : ∀ μ, f2_phrase_1 P μ (nI 2) (nI o) = bd1 (P μ (nI 3) (nI o)) (fun μ57 => f2_phrase_2 P (99998 + 1 + 1) μ57 (nI 2) (nI o) (nI 1) (nI 0)) := fun μ => by
    rw [← hF]
    unfold f2_phrase_1
    rw [kl_1, nI_add, kl_0]
    have : nI 2 = 2 := rfl
    simp only [if_pos this]
  have h10 : ¬ nI 1 ≤ nI 0 := by decide
  intro q t e v hT
  rcases hS q t e v hT with ⟨f, f1, f2, f3⟩ | ⟨q1, t1, e1, v1, c, g1, g2, g3, g4, g5⟩
  · left
    refine ⟨f, f1, fun T cs μ hG => ?_, fun T μ ν hG => ?_⟩
    · obtain ⟨μ1, b1, b2, b3⟩ := f2 T cs μ hG
      have b1 : P μ (nI 3) (nI o) = some μ1 := b1
      refine ⟨μ1, ?_, b2, b3⟩
      show f2_phrase_1 P μ (nI 2) (nI o) = some μ1
      rw [hp, b1, bd1_s]
      exact p2_bad (by decide) b2 _ _ _ _
    · obtain ⟨r, μ1, ν1, b1, b2, b3⟩ := f3 T μ ν hG
      refine ⟨r, μ1, ν1, ?_, b2, b3⟩
      unfold gCmp
      rw [b1, bd3_s, isSign_bad b2.1, if_pos (show nI 0 = 0 from rfl), isSign_bad b2.1, if_pos (show nI 0 = 0 from rfl)]
  · have k := g1
    obtain ⟨k1, k2, k3, k4, k5, k6⟩ := k
    by_cases hop : t1 = 18 ∨ t1 = 19
    · have hq := k5 (by omega)
      have hqe := k6 (by omega) (by omega)
      have hopt : ops 2 t1 = true := by rw [ops_2, Bool.or_eq_true]; rcases hop with h | h; exact Or.inl (decide_eq_true h); exact Or.inr (decide_eq_true h)
      obtain ⟨q2, t2, e2, v2, a1, a2, a3, a4⟩ := step hY g1 (by omega)
      have hone : ∀ (T : Nat) (cs : List Int32) (μ : Mem), GC T s B q t e v cs μ → ∃ μ2, f2_phrase_1 P μ (nI 2) (nI o) = bd1 (P μ2 (nI 3) (nI o)) (fun μ105 => bd1 (f2_emit μ105 (nI t1 ^^^ (-1))) (fun μ116 => some μ116)) ∧ GC T s B q2 t2 e2 v2 (cs ++ c) μ2 ∧ fT T μ μ2 := by
        intro T cs μ hG
        obtain ⟨μ1, b1, b2, b3⟩ := g4 T cs μ hG
        have b1 : P μ (nI 3) (nI o) = some μ1 := b1
        obtain ⟨μ2, d1, d2, d3⟩ := a3 T _ μ1 b2
        refine ⟨μ2, ?_, d2, b3.tr d3.t⟩
        have ej := joins (L := 2) (by decide) (by omega) b2.2.2.1.2.1
        rw [if_pos hopt] at ej
        rw [hp, b1, bd1_s, f2_phrase_2, if_neg h10, ej, if_neg (by decide), nm_s, d1, bd1_s, b2.2.2.1.2.1]
        refine congrArg (bd1 (P μ2 (nI 3) (nI o))) (funext fun μ105 => congrArg _ (funext fun μ116 => ?_))
        rw [nm_s, f2_phrase_2, if_pos (by decide)]
      have htwo : ∀ (T : Nat) (μ : Mem) (ν : Lem), GM T s B q t e v o μ ν → ∃ x μ2 ν2, gCmp F μ ν = bd3 (F μ2 ν2) (fun r99 μ99 ν99 => some (jn (nI t1) x r99, μ99, ν99)) ∧ GM T s B q2 t2 e2 v2 o μ2 ν2 ∧ fR μ μ2 ∧ VAL (env6 μ) c x := by
        intro T μ ν hG
        obtain ⟨x, μ1, ν1, b1, b2, b3, b4⟩ := g5 T μ ν hG
        obtain ⟨μ2, ν2, d1, d2, d3⟩ := a4 T o μ1 ν1 b2
        refine ⟨x, μ2, ν2, ?_, d2, b3.tr d3.r, b4⟩
        unfold gCmp
        rw [b1, bd3_s, gN1_eq b2.2.1 hop, d1, bd2_s]
        rcases hop with h | h
        · rw [g_60 b2.2.1 b2.2.2.1, if_pos h, if_neg (by decide)]
        · rw [g_60 b2.2.1 b2.2.2.1, if_neg (show ¬ t1 = 18 by omega), if_pos (show nI 0 = 0 from rfl), g_61 b2.2.1 b2.2.2.1, if_pos h, if_neg (by decide)]
      rcases hS q2 t2 e2 v2 a2 with ⟨f, f1, f2, f3⟩ | ⟨q3, t3, e3, v3, c', y1, y2, y3, y4, y5⟩
      · left
        refine ⟨f, f1, fun T cs μ hG => ?_, fun T μ ν hG => ?_⟩
        · obtain ⟨μ2, b1, b2, b3⟩ := hone T cs μ hG
          obtain ⟨μ3, d1, d2, d3⟩ := f2 T _ μ2 b2
          have d1 : P μ2 (nI 3) (nI o) = some μ3 := d1
          obtain ⟨μ4, x1, x2, x3⟩ := put_B d2 (nI t1 ^^^ (-1))
          refine ⟨μ4, ?_, x2, (b3.tr d3).tr x3⟩
          show f2_phrase_1 P μ (nI 2) (nI o) = some μ4
          rw [b1, d1, bd1_s, gput d2.1 d2.2.2.2.2.1, x1, bd1_s]
        · obtain ⟨x, μ2, ν2, b1, b2, b3, b4⟩ := htwo T μ ν hG
          obtain ⟨r, μ3, ν3, d1, d2, d3⟩ := f3 T μ2 ν2 b2
          refine ⟨jn (nI t1) x r, μ3, ν3, ?_, d2, b3.tr d3⟩
          rw [b1, d1, bd3_s]
      · right
        have hq3 := y1.q160 hY
        refine ⟨q3, t3, e3, v3, c ++ (c' ++ [nI t1 ^^^ (-1)]), y1, by rw [List.length_append, List.length_append, List.length_singleton]; omega, by omega, fun T cs μ hG => ?_, fun T μ ν hG => ?_⟩
        · obtain ⟨μ2, b1, b2, b3⟩ := hone T cs μ hG
          obtain ⟨μ3, d1, d2, d3⟩ := y4 T _ μ2 b2
          have d1 : P μ2 (nI 3) (nI o) = some μ3 := d1
          have hl := hG.2.2.2.2.2.2
          obtain ⟨μ4, x1, x2, x3⟩ := put_C d2 hq3 (by rw [List.length_append, List.length_append]; omega) (nI t1 ^^^ (-1))
          refine ⟨μ4, ?_, by rw [show cs ++ (c ++ (c' ++ [nI t1 ^^^ (-1)])) = cs ++ c ++ c' ++ [nI t1 ^^^ (-1)] by simp only [List.append_assoc]]; exact x2, (b3.tr d3).tr x3⟩
          show f2_phrase_1 P μ (nI 2) (nI o) = some μ4
          rw [b1, d1, bd1_s, gput d2.1 d2.2.2.2.2.1, x1, bd1_s]
        · obtain ⟨x, μ2, ν2, b1, b2, b3, b4⟩ := htwo T μ ν hG
          obtain ⟨r, μ3, ν3, d1, d2, d3, d4⟩ := y5 T μ2 ν2 b2
          refine ⟨jn (nI t1) x r, μ3, ν3, ?_, d2, b3.tr d3, ((b4.fr b3).op (by omega) (by omega) (by omega) d4).bk b3⟩
          rw [b1, d1, bd3_s]
    · right
      have hopf : ¬ ops 2 t1 = true := by rw [ops_2, Bool.or_eq_true]; exact fun h => hop (h.imp of_decide_eq_true of_decide_eq_true)
      refine ⟨q1, t1, e1, v1, c, g1, g2, g3, fun T cs μ hG => ?_, fun T μ ν hG => ?_⟩
      · obtain ⟨μ1, b1, b2, b3⟩ := g4 T cs μ hG
        have b1 : P μ (nI 3) (nI o) = some μ1 := b1
        refine ⟨μ1, ?_, b2, b3⟩
        show f2_phrase_1 P μ (nI 2) (nI o) = some μ1
        rw [hp, b1, bd1_s, f2_phrase_2, if_neg h10, joins (by decide) (by omega) b2.2.2.1.2.1, if_neg hopf, if_pos (show nI 0 = 0 from rfl)]
      · obtain ⟨x, μ1, ν1, b1, b2, b3, b4⟩ := g5 T μ ν hG
        refine ⟨x, μ1, ν1, ?_, b2, b3, b4⟩
        unfold gCmp
        rw [b1, bd3_s, g_60 b2.2.1 b2.2.2.1, if_neg (fun h => hop (Or.inl h)), if_pos (show nI 0 = 0 from rfl), g_61 b2.2.1 b2.2.2.1, if_neg (fun h => hop (Or.inr h)), if_pos (show nI 0 = 0 from rfl)]
