/-! two readers of one grammar -/
def CODE (T : Nat) (cs : List Int32) (μ : Mem) : Prop := μ (53 + 3 * T) 2 = nI cs.length ∧ ∀ i, i < cs.length → cs[i]? = some (μ (54 + 3 * T) i)
def GC (T s : Nat) (B : Nat → Nat) (q t e v : Nat) (cs : List Int32) (μ : Mem) : Prop := T < 6 ∧ CB s B μ ∧ CL q t e v μ ∧ μ 3 6 = -nI 1 ∧ μ 3 7 = nI (T + 1) ∧ CODE T cs μ ∧ cs.length ≤ q
def BC (T f : Nat) (μ : Mem) : Prop := T < 6 ∧ μ 3 4 = nI 22 ∧ μ 3 6 = nI f ∧ f ≤ 160 ∧ μ 3 7 = nI (T + 1) ∧ ∃ z, z ≤ 160 ∧ μ (53 + 3 * T) 2 = nI z
def fT (T : Nat) (μ μ' : Mem) : Prop := ∀ k i, ¬ (k = 3 ∧ 2 ≤ i ∧ i ≤ 6) → ¬ (k = 53 + 3 * T ∧ i = 2) → k ≠ 54 + 3 * T → μ' k i = μ k i
def GM (T s : Nat) (B : Nat → Nat) (q t e v o : Nat) (μ : Mem) (ν : Lem) : Prop := MB T s B μ ∧ ML B s q t e v μ ν ∧ μ 0 27 = nI 0 ∧ μ 0 26 = nI o
def BM (f : Nat) (μ : Mem) : Prop := μ 0 27 = nI 1 ∧ μ 0 28 = nI f
theorem fT.rf {T : Nat} {μ : Mem} : fT T μ μ := fun _ _ _ _ _ => rfl
theorem fT.tr {T : Nat} {μ μ1 μ2 : Mem} (h : fT T μ μ1) (h2 : fT T μ1 μ2) : fT T μ μ2 := fun k i a b c => (h2 k i a b c).trans (h k i a b c)
theorem fA.t {T : Nat} {μ μ1 : Mem} (h : fA μ μ1) : fT T μ μ1 := fun k i a _ _ => h k i (by omega)
theorem fN.r {μ μ1 : Mem} (h : fN μ μ1) : fR μ μ1 := fun k i a => h k i (by omega)
theorem fR.up {μ μ1 : Mem} {i : Nat} {v : Int32} (h : fR μ μ1) (hi : 20 ≤ i ∧ i ≤ 28) : fR μ (up μ1 0 i v) := fun k' i' q => by
  rw [up_r, if_neg (by omega)]
  exact h k' i' q
theorem VAL.fr {μ μ' : Mem} {c : List Int32} {x : Int32} (h : VAL (env6 μ) c x) (f : fR μ μ') : VAL (env6 μ') c x := fun st => by
  rw [ev_congr (env := env6 μ') (env' := env6 μ) (fun e he => f 0 (14 + e) (by omega)) c st]
  exact h st
theorem VAL.bk {μ μ' : Mem} {c : List Int32} {x : Int32} (h : VAL (env6 μ') c x) (f : fR μ μ') : VAL (env6 μ) c x := fun st => by
  rw [← ev_congr (env := env6 μ') (env' := env6 μ) (fun e he => f 0 (14 + e) (by omega)) c st]
  exact h st
theorem VAL.nil {env : Nat → Int32} {c : List Int32} {x : Int32} (h : VAL env c x) : VAL env (c ++ []) x := by rw [List.append_nil]; exact h
theorem xor2 : ∀ t, t < 24 → ¬ (0 : Int32) ≤ (nI t ^^^ (-1)) ∧ ((nI t ^^^ (-1)) ^^^ (-1)) = nI t ∧ (nI t).toNatClampNeg = t := by decide +kernel
theorem stp_op {env : Nat → Int32} {t : Nat} (h6 : 6 ≤ t) (h : t < 23) (h11 : t ≠ 11) (x y : Int32) (r : List Int32) : stp env (nI t ^^^ (-1)) (y :: x :: r) = jn (nI t) x y :: r := by
  obtain ⟨a, b, -⟩ := xor2 t (by omega)
  unfold stp
  rw [if_neg a, b, if_neg (by rw [kl_6, nI_ltI (by omega) (by omega)]; omega), if_neg (by rw [kl_11, nI_eq (by omega) (by omega)]; exact h11), if_neg (by rw [kl_23, nI_eq (by omega) (by omega)]; omega)]
theorem VAL.op {env : Nat → Int32} {t : Nat} (h6 : 6 ≤ t) (h : t < 23) (h11 : t ≠ 11) {c0 c : List Int32} {x r : Int32} (h0 : VAL env c0 x) (h1 : VAL env c r) : VAL env (c0 ++ (c ++ [nI t ^^^ (-1)])) (jn (nI t) x r) := fun st => by
  rw [ev_append, ev_append, h0 st, h1 (x :: st)]
  show stp env (nI t ^^^ (-1)) (r :: x :: st) = _
  exact stp_op h6 h h11 x r st
theorem VAL.not {env : Nat → Int32} {c : List Int32} {r : Int32} (h1 : VAL env c r) : VAL env (c ++ [-12]) (if r = 0 then 1 else 0) := fun st => by
  rw [ev_append, h1 st]
  show stp env (-12) (r :: st) = _
  unfold stp
  rw [if_neg (by decide), if_neg (by decide), if_pos (by decide)]
theorem VAL.neg {env : Nat → Int32} {c : List Int32} {r : Int32} (h1 : VAL env c r) : VAL env (c ++ [-24]) (-r) := fun st => by
  rw [ev_append, h1 st]
  show stp env (-24) (r :: st) = _
  unfold stp
  rw [if_neg (by decide), if_neg (by decide), if_neg (by decide), if_pos (by decide)]
theorem VAL.num {env : Nat → Int32} {v : Nat} (h : v ≤ 9999) : VAL env [nI v] (nI v) := fun st => by
  show stp env (nI v) st = _
  unfold stp
  rw [if_pos (show (0 : Int32) ≤ nI v from nI_pos' (by omega))]
theorem VAL.nam {env : Nat → Int32} {t : Nat} (h : t < 6) : VAL env [nI t ^^^ (-1)] (env t) := fun st => by
  obtain ⟨a, b, c⟩ := xor2 t (by omega)
  show stp env (nI t ^^^ (-1)) st = _
  unfold stp
  rw [if_neg a, b, if_pos (by rw [kl_6, nI_ltI (by omega) (by omega)]; omega), c]
theorem GM.ok {T s q t e v o : Nat} {B : Nat → Nat} {μ : Mem} {ν : Lem} (h : GM T s B q t e v o μ ν) : μ 0 27 = 0 := h.2.2.1
/-- small steps -/
theorem GC.fr {T s q t e v q' t' e' v' : Nat} {B : Nat → Nat} {cs : List Int32} {μ μ' : Mem} (h : GC T s B q t e v cs μ) (f : fA μ μ') (hc : CL q' t' e' v' μ') (hq : q ≤ q') : GC T s B q' t' e' v' cs μ' := by
  obtain ⟨h1, h2, h3, h4, h5, ⟨h6, h7⟩, h8⟩ := h
  exact ⟨h1, h2.fr f, hc, by rw [f _ _ (by omega)]; exact h4, by rw [f _ _ (by omega)]; exact h5, ⟨by rw [f _ _ (by omega)]; exact h6, fun i hi => by rw [f _ _ (by omega)]; exact h7 i hi⟩, by omega⟩
theorem GM.fr {T s q t e v q' t' e' v' o : Nat} {B : Nat → Nat} {μ μ' : Mem} {ν ν' : Lem} (h : GM T s B q t e v o μ ν) (f : fN μ μ') (hc : ML B s q' t' e' v' μ' ν') : GM T s B q' t' e' v' o μ' ν' := by
  obtain ⟨h1, h2, h3, h4⟩ := h
  exact ⟨h1.fr f, hc, by rw [f _ _ (by omega)]; exact h3, by rw [f _ _ (by omega)]; exact h4⟩
theorem GM.op {T s q t e v o : Nat} {B : Nat → Nat} {μ : Mem} {ν : Lem} (h : GM T s B q t e v o μ ν) (o' : Nat) : GM T s B q t e v o' (up μ 0 26 (nI o')) ν := by
  obtain ⟨⟨h0, h1, h1', h1''⟩, h2, h3, h4⟩ := h
  exact ⟨⟨h0, by rw [up_r, if_neg (by omega)]; exact h1, by rw [up_r, if_neg (by omega)]; exact h1', fun i hi => by rw [up_r, if_neg (by omega)]; exact h1'' i hi⟩, h2.fr (by rw [up_r, if_neg (by omega)]) (by rw [up_r, if_neg (by omega)]) (by rw [up_r, if_neg (by omega)]), by rw [up_r, if_neg (by omega)]; exact h3, up_at⟩
theorem ML.here {B : Nat → Nat} {s q t e v : Nat} {μ : Mem} {ν : Lem} (h : ML B s q t e v μ ν) (ht : t ≠ 22) : μ 0 22 = nI e := by
  obtain ⟨-, h⟩ := h
  rcases h with ⟨-, -, h, -⟩ | ⟨-, -, h, -⟩ | ⟨-, -, -, h, -⟩ | ⟨-, h, -⟩ | ⟨h, -⟩
  · exact h
  · exact h
  · exact h
  · exact h
  · exact absurd h ht
theorem step {s q t e v : Nat} {B : Nat → Nat} (hY : BY s B) (hT : TK s q t e v) (h22 : t ≠ 22) : ∃ q' t' e' v', e ≤ q' ∧ TK s q' t' e' v' ∧ (∀ (T : Nat) (cs : List Int32) (μ : Mem), GC T s B q t e v cs μ → ∃ μ', f2_advance μ = some μ' ∧ GC T s B q' t' e' v' cs μ' ∧ fA μ μ') ∧ ∀ (T o : Nat) (μ : Mem) (ν : Lem), GM T s B q t e v o μ ν → ∃ μ' ν', f6_next μ ν = some (μ', ν') ∧ GM T s B q' t' e' v' o μ' ν' ∧ fN μ μ' := by
  obtain ⟨k1, k2, k3, k4, k5, k6⟩ := hT
  obtain ⟨q', t', e', v', h1, h2, h3, h4⟩ := nxt hY k2
  refine ⟨q', t', e', v', h1, h2, fun T cs μ hG => ?_, fun T o μ ν hG => ?_⟩
  · obtain ⟨μ', r1, r2, r3⟩ := h3 μ hG.2.1 hG.2.2.1.2.2.1
    exact ⟨μ', r1, hG.fr r3 r2 (by omega), r3⟩
  · obtain ⟨μ', ν', r1, r2, r3⟩ := h4 T μ ν hG.1 (hG.2.1.here h22)
    exact ⟨μ', ν', r1, hG.fr r3 r2, r3⟩
theorem CODE.put {T : Nat} {cs : List Int32} {μ : Mem} (h : CODE T cs μ) (x : Int32) : CODE T (cs ++ [x]) (up (up μ (54 + 3 * T) cs.length x) (53 + 3 * T) 2 (nI (cs.length + 1))) := by
  obtain ⟨h1, h2⟩ := h
  refine ⟨by rw [up_at, List.length_append]; rfl, fun i hi => ?_⟩
  rw [List.length_append, List.length_singleton] at hi
  rw [up_r, if_neg (by omega), up_r]
  by_cases e : i = cs.length
  · subst e
    rw [if_pos ⟨rfl, rfl⟩, List.getElem?_append_right (Nat.le_refl _), Nat.sub_self]
    rfl
  · rw [if_neg (by omega), List.getElem?_append_left (by omega)]
    exact h2 i (by omega)
theorem put_C {T s q t e v : Nat} {B : Nat → Nat} {cs : List Int32} {μ : Mem} (hG : GC T s B q t e v cs μ) (hq : q ≤ 160) (hl : cs.length + 1 ≤ q) (x : Int32) : ∃ μ', f3_put μ T x = some μ' ∧ GC T s B q t e v (cs ++ [x]) μ' ∧ fT T μ μ' := by
  obtain ⟨h1, h2, ⟨c1, c2, c3, c4⟩, h4, h5, h6, h8⟩ := hG
  have h7 := h6.1
  have fr : ∀ k i, k ≤ 4 → up (up μ (54 + 3 * T) cs.length x) (53 + 3 * T) 2 (nI (cs.length + 1)) k i = μ k i := fun k i hk => by
    rw [up_r, if_neg (by omega), up_r, if_neg (by omega)]
  refine ⟨up (up μ (54 + 3 * T) cs.length x) (53 + 3 * T) 2 (nI (cs.length + 1)), ?_, ⟨h1, ⟨by rw [fr _ _ (by omega)]; exact h2.1, fun i hi => by rw [fr _ _ (by omega)]; exact h2.2 i hi⟩, ⟨by rw [fr _ _ (by omega)]; exact c1, by rw [fr _ _ (by omega)]; exact c2, by rw [fr _ _ (by omega)]; exact c3, fun h => by rw [fr _ _ (by omega)]; exact c4 h⟩, by rw [fr _ _ (by omega)]; exact h4, by rw [fr _ _ (by omega)]; exact h5, h6.put x, by rw [List.length_append]; exact hl⟩, fun k i a b c => by rw [up_r, if_neg (by omega), up_r, if_neg (by omega)]⟩
  unfold f3_put
  have hne : ¬ (53 + 3 * T = 54 + 3 * T ∧ 2 = cs.length) := by omega
  simp (disch := omega) only [h7, Nat.add_sub_cancel, nm_s, bd1_s, bd2_s, bd3_s, gd_n, gd_ne, nI_clamp, nI_leI, nI_ltI, nI_eq, nI_add, pk_mul, pk_sub, up_r, upL_r, jrem_n, jmax_n, if_true, if_false, if_pos, if_neg, gd_i, Nat.zero_add, Nat.add_zero, Nat.mul_zero, nI_nn, nI_nn2, mI_le, mI_ne, mI_ne2, mI_ne3, mI_ne4, ne0, kl_0, kl_1, kl_2, kl_3, kl_4, kl_5, kl_6, kl_7, kl_8, kl_9, kl_10, kl_11, kl_12, kl_13, kl_14, kl_15, kl_16, kl_17, kl_18, kl_19, kl_20, kl_21, kl_22, kl_23, kl_32, kl_40, kl_48, kl_50, kl_53, kl_56, kl_57, kl_60, kl_61, kl_66, kl_97, kl_99, kl_100, kl_120, kl_122, kl_160, kl_200, kl_255, kl_300, kl_500, kl_600, kl_601, kl_999, kl_1000, kl_2048, kl_9999, and_self, and_true, true_and, and_false, false_and, not_false_eq_true, not_true_eq_false]
theorem put_B {T f : Nat} {μ : Mem} (hG : BC T f μ) (x : Int32) : ∃ μ', f3_put μ T x = some μ' ∧ BC T f μ' ∧ fT T μ μ' := by
  obtain ⟨h1, h2, h3, h4, h5, z, h6, h7⟩ := hG
  unfold f3_put
  by_cases hz : 160 ≤ z
  · refine ⟨μ, ?_, ⟨h1, h2, h3, h4, h5, z, h6, h7⟩, fT.rf⟩
    simp (disch := omega) only [h7, Nat.add_sub_cancel, nm_s, bd1_s, bd2_s, bd3_s, gd_n, gd_ne, nI_clamp, nI_leI, nI_ltI, nI_eq, nI_add, pk_mul, pk_sub, up_r, upL_r, jrem_n, jmax_n, if_true, if_false, if_pos, if_neg, gd_i, Nat.zero_add, Nat.add_zero, Nat.mul_zero, nI_nn, nI_nn2, mI_le, mI_ne, mI_ne2, mI_ne3, mI_ne4, ne0, kl_0, kl_1, kl_2, kl_3, kl_4, kl_5, kl_6, kl_7, kl_8, kl_9, kl_10, kl_11, kl_12, kl_13, kl_14, kl_15, kl_16, kl_17, kl_18, kl_19, kl_20, kl_21, kl_22, kl_23, kl_32, kl_40, kl_48, kl_50, kl_53, kl_56, kl_57, kl_60, kl_61, kl_66, kl_97, kl_99, kl_100, kl_120, kl_122, kl_160, kl_200, kl_255, kl_300, kl_500, kl_600, kl_601, kl_999, kl_1000, kl_2048, kl_9999, and_self, and_true, true_and, and_false, false_and, not_false_eq_true, not_true_eq_false]
  · have fr : ∀ k i, k ≤ 4 → up (up μ (54 + 3 * T) z x) (53 + 3 * T) 2 (nI (z + 1)) k i = μ k i := fun k i hk => by
      rw [up_r, if_neg (by omega), up_r, if_neg (by omega)]
    refine ⟨up (up μ (54 + 3 * T) z x) (53 + 3 * T) 2 (nI (z + 1)), ?_, ⟨h1, by rw [fr _ _ (by omega)]; exact h2, by rw [fr _ _ (by omega)]; exact h3, h4, by rw [fr _ _ (by omega)]; exact h5, z + 1, by omega, up_at⟩, fun k i a b c => by rw [up_r, if_neg (by omega), up_r, if_neg (by omega)]⟩
    have hne : ¬ (53 + 3 * T = 54 + 3 * T ∧ 2 = z) := by omega
    simp (disch := omega) only [h7, Nat.add_sub_cancel, nm_s, bd1_s, bd2_s, bd3_s, gd_n, gd_ne, nI_clamp, nI_leI, nI_ltI, nI_eq, nI_add, pk_mul, pk_sub, up_r, upL_r, jrem_n, jmax_n, if_true, if_false, if_pos, if_neg, gd_i, Nat.zero_add, Nat.add_zero, Nat.mul_zero, nI_nn, nI_nn2, mI_le, mI_ne, mI_ne2, mI_ne3, mI_ne4, ne0, kl_0, kl_1, kl_2, kl_3, kl_4, kl_5, kl_6, kl_7, kl_8, kl_9, kl_10, kl_11, kl_12, kl_13, kl_14, kl_15, kl_16, kl_17, kl_18, kl_19, kl_20, kl_21, kl_22, kl_23, kl_32, kl_40, kl_48, kl_50, kl_53, kl_56, kl_57, kl_60, kl_61, kl_66, kl_97, kl_99, kl_100, kl_120, kl_122, kl_160, kl_200, kl_255, kl_300, kl_500, kl_600, kl_601, kl_999, kl_1000, kl_2048, kl_9999, and_self, and_true, true_and, and_false, false_and, not_false_eq_true, not_true_eq_false]
theorem gput {T : Nat} {μ : Mem} (h1 : T < 6) (h5 : μ 3 7 = nI (T + 1)) (x : Int32) (k : Mem → Option Mem) : bd1 (f2_emit μ x) k = bd1 (f3_put μ T x) k := by
  have hg : ¬ nI (T + 1) = 0 ∧ T < 6 := ⟨fun h => by rw [kl_0, nI_eq (by omega) (by omega)] at h; omega, h1⟩
  unfold f2_emit
  rw [h5, nI_clamp (by omega), Nat.add_sub_cancel, gd_i hg, gd_i hg]
  cases f3_put μ T x <;> rfl
theorem refuse_C {T s q t e v : Nat} {B : Nat → Nat} {cs : List Int32} {μ : Mem} (hG : GC T s B q t e v cs μ) (hq : q ≤ 160) : BC T q (f2_refuse μ) ∧ fT T μ (f2_refuse μ) := by
  obtain ⟨h1, h2, ⟨c1, c2, c3, c4⟩, h4, h5, h6, h8⟩ := hG
  have h7 := h6.1
  have e : f2_refuse μ = up (up μ 3 6 (nI q)) 3 4 (nI 22) := by
    unfold f2_refuse
    rw [if_pos (show μ 3 6 = -1 from h4), c1]
    rfl
  rw [e]
  have hne : 53 + 3 * T ≠ 3 := by omega
  exact ⟨⟨h1, up_at, by rw [up_r, if_neg (by omega), up_at], hq, by rw [up_r, if_neg (by omega), up_r, if_neg (by omega)]; exact h5, cs.length, by omega, by rw [up_r, if_neg (by omega), up_r, if_neg (by omega)]; exact h7⟩, fun k i a b c => by rw [up_r, if_neg (by omega), up_r, if_neg (by omega)]⟩
theorem refuse_B {T f : Nat} {μ : Mem} (hG : BC T f μ) : BC T f (f2_refuse μ) ∧ fT T μ (f2_refuse μ) := by
  obtain ⟨h1, h2, h3, h4, h5, z, h6, h7⟩ := hG
  have e : f2_refuse μ = up μ 3 4 (nI 22) := by
    unfold f2_refuse
    rw [if_neg (by rw [h3, kl_1, mI_ne (by omega) (by omega)]; omega)]
    rfl
  rw [e]
  exact ⟨⟨h1, up_at, by rw [up_r, if_neg (by omega)]; exact h3, h4, by rw [up_r, if_neg (by omega)]; exact h5, z, h6, by rw [up_r, if_neg (by omega)]; exact h7⟩, fun k i a b c => by rw [up_r, if_neg (by omega)]⟩
theorem fail_M {T s q t e v o : Nat} {B : Nat → Nat} {μ : Mem} {ν : Lem} (hG : GM T s B q t e v o μ ν) : ∃ μ', f6_fail μ ν = (μ', ν) ∧ BM q μ' ∧ fR μ μ' := by
  obtain ⟨h1, ⟨h2, -⟩, h3, h4⟩ := hG
  refine ⟨up (up μ 0 27 1) 0 28 (nI q), ?_, ⟨by rw [up_r, if_neg (by omega), up_at]; rfl, up_at⟩, (fR.rf.up (by omega)).up (by omega)⟩
  unfold f6_fail
  rw [if_pos (show μ 0 27 = 0 from h3), nm_s, nm_s, up_r, if_neg (by omega), h2]
theorem fail_B {f : Nat} {μ : Mem} {ν : Lem} (h : BM f μ) : f6_fail μ ν = (μ, ν) := by
  unfold f6_fail
  rw [if_neg (by rw [h.1]; decide)]
theorem BM.up {f i : Nat} {μ : Mem} {v : Int32} (h : BM f μ) (hi : i ≠ 27 ∧ i ≠ 28) : BM f (up μ 0 i v) := ⟨by rw [up_r, if_neg (by omega)]; exact h.1, by rw [up_r, if_neg (by omega)]; exact h.2⟩
theorem bad0 {f : Nat} {μ : Mem} (h : BM f μ) : ¬ μ 0 27 = 0 := by rw [h.1]; decide
/-- which words join at a level -/
def ops (L t : Nat) : Bool := if L = 0 then t = 9 else if L = 1 then t = 10 else if L = 2 then t = 18 || t = 19 else if L = 3 then t = 15 || t = 16 else if L = 4 then t = 17 else false
theorem joins_all : ∀ t, t < 23 → ∀ L, L < 5 → f2_joins (fun _ _ => nI t) (nI L) = (if ops L t = true then nI 1 else nI 0) ∧ (ops L t = true → 9 ≤ t ∧ t < 20 ∧ t ≠ 11) := by decide +kernel
theorem joins {L t : Nat} {μ : Mem} (hL : L < 5) (ht : t < 23) (h : μ 3 4 = nI t) : f2_joins μ (nI L) = if ops L t = true then nI 1 else nI 0 := by
  have e : f2_joins μ (nI L) = f2_joins (fun _ _ => μ 3 4) (nI L) := rfl
  rw [e, h]
  exact (joins_all t ht L hL).1
/-- the same outcome at every word -/
def SIM (s : Nat) (B : Nat → Nat) (o : Nat) (CF : Mem → Option Mem) (F : Mem → Lem → Option (Int32 × Mem × Lem)) : Prop := ∀ q t e v, TK s q t e v →
  (∃ f, f ≤ 160 ∧ (∀ (T : Nat) (cs : List Int32) (μ : Mem), GC T s B q t e v cs μ → ∃ μ', CF μ = some μ' ∧ BC T f μ' ∧ fT T μ μ') ∧ ∀ (T : Nat) (μ : Mem) (ν : Lem), GM T s B q t e v o μ ν → ∃ x μ' ν', F μ ν = some (x, μ', ν') ∧ BM f μ' ∧ fR μ μ') ∨
  (∃ q' t' e' v' c, TK s q' t' e' v' ∧ q + c.length ≤ q' ∧ q < q' ∧ (∀ (T : Nat) (cs : List Int32) (μ : Mem), GC T s B q t e v cs μ → ∃ μ', CF μ = some μ' ∧ GC T s B q' t' e' v' (cs ++ c) μ' ∧ fT T μ μ') ∧ ∀ (T : Nat) (μ : Mem) (ν : Lem), GM T s B q t e v o μ ν → ∃ x μ' ν', F μ ν = some (x, μ', ν') ∧ GM T s B q' t' e' v' o μ' ν' ∧ fR μ μ' ∧ VAL (env6 μ) c x)
theorem SIM.congr {s o : Nat} {B : Nat → Nat} {CF CF' : Mem → Option Mem} {F F' : Mem → Lem → Option (Int32 × Mem × Lem)} (h : SIM s B o CF F) (h1 : ∀ μ, CF' μ = CF μ) (h2 : ∀ μ ν, F' μ ν = F μ ν) : SIM s B o CF' F' := by
  rw [show CF' = CF from funext h1, show F' = F from funext fun μ => funext (h2 μ)]
  exact h
theorem TK.q160 {s q t e v : Nat} {B : Nat → Nat} (hY : BY s B) (h : TK s q t e v) : q ≤ 160 := by
  have := hY.1
  have := h.1
  have := h.2.1
  omega
/-- words joined again and again -/
theorem loop_gen {s o L : Nat} {B : Nat → Nat} (hY : BY s B) (hL : L < 5) {P : Mem → Int32 → Int32 → Option Mem} {F : Mem → Lem → Option (Int32 × Mem × Lem)} {R : Nat → Mem → Lem → Int32 → Option (Int32 × Mem × Lem)} (hS : SIM s B o (fun μ => P μ (nI (L + 1)) (nI o)) F)
    (hRn : ∀ n T q t e v μ ν x, GM T s B q t e v o μ ν → ops L t = false → R (n + 1) μ ν x = some (x, μ, ν))
    (hRb : ∀ n f μ ν x, BM f μ → R (n + 1) μ ν x = some (x, μ, ν))
    (hRy : ∀ n T q t e v μ ν x, GM T s B q t e v o μ ν → ops L t = true → R (n + 1) μ ν x = bd2 (f6_next μ ν) (fun μ1 ν1 => bd3 (F μ1 ν1) (fun r μ2 ν2 => R n μ2 ν2 (jn (nI t) x r)))) : ∀ m q t e v, TK s q t e v → s - q < m →
  (∃ f, f ≤ 160 ∧ (∀ (T : Nat) (cs : List Int32) (μ : Mem) (N i : Nat), GC T s B q t e v cs μ → s - q < N → i ≤ q → ∃ μ', f2_phrase_2 P N μ (nI L) (nI o) (nI 160) (nI i) = some μ' ∧ BC T f μ' ∧ fT T μ μ') ∧ ∀ (T : Nat) (μ : Mem) (ν : Lem) (N : Nat) (x : Int32), GM T s B q t e v o μ ν → s - q < N → ∃ x' μ' ν', R N μ ν x = some (x', μ', ν') ∧ BM f μ' ∧ fR μ μ') ∨
  (∃ q' t' e' v' c, TK s q' t' e' v' ∧ q + c.length ≤ q' ∧ q ≤ q' ∧ (∀ (T : Nat) (cs : List Int32) (μ : Mem) (N i : Nat), GC T s B q t e v cs μ → s - q < N → i ≤ q → ∃ μ', f2_phrase_2 P N μ (nI L) (nI o) (nI 160) (nI i) = some μ' ∧ GC T s B q' t' e' v' (cs ++ c) μ' ∧ fT T μ μ') ∧ ∀ (T : Nat) (μ : Mem) (ν : Lem) (N : Nat) (x : Int32) (c0 : List Int32), GM T s B q t e v o μ ν → s - q < N → VAL (env6 μ) c0 x → ∃ x' μ' ν', R N μ ν x = some (x', μ', ν') ∧ GM T s B q' t' e' v' o μ' ν' ∧ fR μ μ' ∧ VAL (env6 μ) (c0 ++ c) x') := by
  have hs := hY.1
  intro m
  induction m with
  | zero => intro q t e v _ h; omega
  | succ m ih =>
    intro q t e v hT hm
    have hT0 := hT
    obtain ⟨k1, k2, k3, k4, k5, k6⟩ := hT0
    by_cases hop : ops L t = true
    · obtain ⟨o1, o2, o3⟩ := (joins_all t (by omega) L hL).2 hop
      have hq := k5 (by omega)
      have hqe := k6 (by omega) (by omega)
      obtain ⟨q1, t1, e1, v1, a1, a2, a3, a4⟩ := step hY hT (by omega)
      have hone : ∀ (T : Nat) (cs : List Int32) (μ : Mem) (N i : Nat), GC T s B q t e v cs μ → i ≤ q → ∃ μ1, f2_phrase_2 P (N + 1) μ (nI L) (nI o) (nI 160) (nI i) = bd1 (P μ1 (nI (L + 1)) (nI o)) (fun μ105 => bd1 (f2_emit μ105 (nI t ^^^ (-1))) (fun μ116 => f2_phrase_2 P N μ116 (nI L) (nI o) (nI 160) (nI (i + 1)))) ∧ GC T s B q1 t1 e1 v1 cs μ1 ∧ fA μ μ1 := by
        intro T cs μ N i hG hi
        obtain ⟨μ1, b1, b2, b3⟩ := a3 T cs μ hG
        have e4 := hG.2.2.1.2.1
        have ej := joins hL (by omega) e4
        rw [if_pos hop] at ej
        refine ⟨μ1, ?_, b2, b3⟩
        rw [f2_phrase_2, if_neg (by rw [nI_leI (by omega) (by omega)]; omega), ej, if_neg (by decide), nm_s, b1, bd1_s, e4, kl_1, nI_add, nI_add]
        rfl
      rcases hS q1 t1 e1 v1 a2 with ⟨f, f1, f2, f3⟩ | ⟨q2, t2, e2, v2, c, g1, g2, g3, g4, g5⟩
      · left
        refine ⟨f, f1, fun T cs μ N i hG hN hi => ?_, fun T μ ν N x hG hN => ?_⟩
        · obtain ⟨N, rfl⟩ : ∃ n', N = n' + 1 := ⟨N - 1, by omega⟩
          obtain ⟨μ1, b1, b2, b3⟩ := hone T cs μ N i hG hi
          obtain ⟨μ2, d1, d2, d3⟩ := f2 T cs μ1 b2
          obtain ⟨μ3, x1, x2, x3⟩ := put_B d2 (nI t ^^^ (-1))
          have d1 : P μ1 (nI (L + 1)) (nI o) = some μ2 := d1
          refine ⟨μ3, ?_, x2, (b3.t.tr d3).tr x3⟩
          rw [b1, d1, bd1_s, gput d2.1 d2.2.2.2.2.1, x1, bd1_s]
          obtain ⟨N, rfl⟩ : ∃ n', N = n' + 1 := ⟨N - 1, by omega⟩
          rw [f2_phrase_2]
          by_cases h160 : nI 160 ≤ nI (i + 1)
          · rw [if_pos h160]
          · rw [if_neg h160, joins hL (by decide) x2.2.1]
            rw [if_pos]
            have : ∀ L, L < 5 → (if ops L 22 = true then nI 1 else nI 0) = 0 := by decide
            exact this L hL
        · obtain ⟨N, rfl⟩ : ∃ n', N = n' + 1 := ⟨N - 1, by omega⟩
          obtain ⟨μ1, ν1, b1, b2, b3⟩ := a4 T o μ ν hG
          obtain ⟨r, μ2, ν2, d1, d2, d3⟩ := f3 T μ1 ν1 b2
          obtain ⟨N, rfl⟩ : ∃ n', N = n' + 1 := ⟨N - 1, by omega⟩
          refine ⟨jn (nI t) x r, μ2, ν2, ?_, d2, b3.r.tr d3⟩
          rw [hRy _ T q t e v μ ν x hG hop, b1, bd2_s, d1, bd3_s]
          exact hRb _ f _ _ _ d2
      · have hlen : ∀ (cs : List Int32), cs.length ≤ q → (cs ++ c).length + 1 ≤ q2 := fun cs h => by rw [List.length_append]; omega
        have hq2 := g1.q160 hY
        have huse : ∀ (T : Nat) (cs : List Int32) (μ : Mem) (N i : Nat), GC T s B q t e v cs μ → i ≤ q → ∃ μ3, f2_phrase_2 P (N + 1) μ (nI L) (nI o) (nI 160) (nI i) = f2_phrase_2 P N μ3 (nI L) (nI o) (nI 160) (nI (i + 1)) ∧ GC T s B q2 t2 e2 v2 (cs ++ (c ++ [nI t ^^^ (-1)])) μ3 ∧ fT T μ μ3 := by
          intro T cs μ N i hG hi
          obtain ⟨μ1, b1, b2, b3⟩ := hone T cs μ N i hG hi
          obtain ⟨μ2, d1, d2, d3⟩ := g4 T cs μ1 b2
          have d1 : P μ1 (nI (L + 1)) (nI o) = some μ2 := d1
          obtain ⟨μ3, x1, x2, x3⟩ := put_C d2 hq2 (hlen cs hG.2.2.2.2.2.2) (nI t ^^^ (-1))
          refine ⟨μ3, ?_, ?_, (b3.t.tr d3).tr x3⟩
          · rw [b1, d1, bd1_s, gput d2.1 d2.2.2.2.2.1, x1, bd1_s]
          · rw [← List.append_assoc]; exact x2
        rcases ih q2 t2 e2 v2 g1 (by omega) with ⟨f, f1, f2, f3⟩ | ⟨q3, t3, e3, v3, c', y1, y2, y3, y4, y5⟩
        · left
          refine ⟨f, f1, fun T cs μ N i hG hN hi => ?_, fun T μ ν N x hG hN => ?_⟩
          · obtain ⟨N, rfl⟩ : ∃ n', N = n' + 1 := ⟨N - 1, by omega⟩
            obtain ⟨μ3, b1, b2, b3⟩ := huse T cs μ N i hG hi
            obtain ⟨μ4, d1, d2, d3⟩ := f2 T _ μ3 N (i + 1) b2 (by omega) (by omega)
            exact ⟨μ4, by rw [b1]; exact d1, d2, b3.tr d3⟩
          · obtain ⟨N, rfl⟩ : ∃ n', N = n' + 1 := ⟨N - 1, by omega⟩
            obtain ⟨μ1, ν1, b1, b2, b3⟩ := a4 T o μ ν hG
            obtain ⟨r, μ2, ν2, d1, d2, d3, d4⟩ := g5 T μ1 ν1 b2
            obtain ⟨x', μ4, ν4, w1, w2, w3⟩ := f3 T μ2 ν2 N (jn (nI t) x r) d2 (by omega)
            refine ⟨x', μ4, ν4, ?_, w2, (b3.r.tr d3).tr w3⟩
            rw [hRy _ T q t e v μ ν x hG hop, b1, bd2_s, d1, bd3_s]
            exact w1
        · right
          refine ⟨q3, t3, e3, v3, (c ++ [nI t ^^^ (-1)]) ++ c', y1, by rw [List.length_append, List.length_append, List.length_singleton]; omega, by omega, fun T cs μ N i hG hN hi => ?_, fun T μ ν N x c0 hG hN hx => ?_⟩
          · obtain ⟨N, rfl⟩ : ∃ n', N = n' + 1 := ⟨N - 1, by omega⟩
            obtain ⟨μ3, b1, b2, b3⟩ := huse T cs μ N i hG hi
            obtain ⟨μ4, d1, d2, d3⟩ := y4 T _ μ3 N (i + 1) b2 (by omega) (by omega)
            exact ⟨μ4, by rw [b1]; exact d1, by rw [← List.append_assoc]; exact d2, b3.tr d3⟩
          · obtain ⟨N, rfl⟩ : ∃ n', N = n' + 1 := ⟨N - 1, by omega⟩
            obtain ⟨μ1, ν1, b1, b2, b3⟩ := a4 T o μ ν hG
            obtain ⟨r, μ2, ν2, d1, d2, d3, d4⟩ := g5 T μ1 ν1 b2
            have hv : VAL (env6 μ2) (c0 ++ (c ++ [nI t ^^^ (-1)])) (jn (nI t) x r) := ((hx.fr b3.r).op (by omega) (by omega) o3 d4).fr d3
            obtain ⟨x', μ4, ν4, w1, w2, w3, w4⟩ := y5 T μ2 ν2 N (jn (nI t) x r) _ d2 (by omega) hv
            refine ⟨x', μ4, ν4, ?_, w2, (b3.r.tr d3).tr w3, ?_⟩
            · rw [hRy _ T q t e v μ ν x hG hop, b1, bd2_s, d1, bd3_s]
              exact w1
            · rw [← List.append_assoc]
              exact w4.bk (b3.r.tr d3)
    · have hop2 : ops L t = false := by cases h : ops L t <;> first | rfl | exact absurd h hop
      right
      refine ⟨q, t, e, v, [], hT, Nat.le_refl _, Nat.le_refl _, fun T cs μ N i hG hN hi => ⟨μ, ?_, by rw [List.append_nil]; exact hG, fT.rf⟩, fun T μ ν N x c0 hG hN hx => ⟨x, μ, ν, ?_, hG, fR.rf, hx.nil⟩⟩
      · obtain ⟨N, rfl⟩ : ∃ n', N = n' + 1 := ⟨N - 1, by omega⟩
        rw [f2_phrase_2]
        by_cases h160 : nI 160 ≤ nI i
        · rw [if_pos h160]
        · rw [if_neg h160, joins hL (by omega) hG.2.2.1.2.1, if_neg hop, if_pos (show nI 0 = 0 from rfl)]
      · obtain ⟨N, rfl⟩ : ∃ n', N = n' + 1 := ⟨N - 1, by omega⟩
        exact hRn N T q t e v μ ν x hG hop2
