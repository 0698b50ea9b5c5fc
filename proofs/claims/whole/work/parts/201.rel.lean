/-! what the two worlds have in common -/
abbrev Gw : Type := Nat → Nat
/-- a way: 0 kind, 1 number, 2 how many points, 3 + i minute, 11 + i place of point i -/
def Gok (F : Nat) (g : Gw) : Prop := g 0 ≤ 5 ∧ g 1 ≤ 9 ∧ g 2 ≤ 8 ∧ (∀ i, i < g 2 → g (3 + i) ≤ 600) ∧ (∀ i, i < g 2 → g (11 + i) ≤ F) ∧ (∀ i, i + 1 < g 2 → g (3 + i) < g (3 + (i + 1)))
def WC (μ : Mem) (j : Nat) (g : Gw) : Prop := μ (14 + 3 * j) 0 = nI (g 0) ∧ μ (14 + 3 * j) 1 = nI (g 1) ∧ μ (14 + 3 * j) 2 = nI (g 2) ∧ (∀ i, i < g 2 → μ (15 + 3 * j) i = nI (g (3 + i))) ∧ (∀ i, i < g 2 → μ (16 + 3 * j) i = nI (g (11 + i)))
def WM (μ : Mem) (w : Nat) (g : Gw) : Prop := (w < 6 → μ 4 w = nI (g 0) ∧ μ 5 w = nI (g 1)) ∧ (w = 6 → g 0 = 0) ∧ μ 8 w = nI (g 2) ∧ (∀ i, i < g 2 → μ 6 (8 * w + i) = nI (g (3 + i))) ∧ (∀ i, i < g 2 → μ 7 (8 * w + i) = nI (g (11 + i)))
def WKp (μ : Mem) (w : Nat) (g : Gw) : Prop := μ 13 w = nI (g 1) ∧ μ 16 w = nI (g 2) ∧ (∀ i, i < g 2 → μ 14 (8 * w + i) = nI (g (3 + i))) ∧ (∀ i, i < g 2 → μ 15 (8 * w + i) = nI (g (11 + i)))
/-- a text's code, run on a stack -/
def jn (op a b : Int32) : Int32 := f3_joined op a b
def stp (env : Nat → Int32) (c : Int32) (st : List Int32) : List Int32 :=
  if 0 ≤ c then c :: st
  else if (c ^^^ (-1)) < 6 then env (c ^^^ (-1)).toNatClampNeg :: st
  else if (c ^^^ (-1)) = 11 then (match st with | [] => [] | x :: r => (if x = 0 then 1 else 0) :: r)
  else if (c ^^^ (-1)) = 23 then (match st with | [] => [] | x :: r => (-x) :: r)
  else (match st with | y :: x :: r => jn (c ^^^ (-1)) x y :: r | st => st)
def ev (env : Nat → Int32) : List Int32 → List Int32 → List Int32
  | [], st => st
  | c :: cs, st => ev env cs (stp env c st)
def VAL (env : Nat → Int32) (c : List Int32) (v : Int32) : Prop := ∀ st, ev env c st = v :: st
def env6 (μ : Mem) (i : Nat) : Int32 := μ 0 (14 + i)
/-- only the reader's own slots have changed -/
def fR (μ μ' : Mem) : Prop := ∀ k i, (0 < k ∨ i < 20 ∨ 28 < i) → μ' k i = μ k i
/-- what a text of s bytes b says: three codes -/
def TX (b : Nat → Int32) (s : Nat) (cn co cw : List Int32) : Prop := ∀ (t : Nat) (μ : Mem) (ν : Lem), t < 6 → μ 2 t = nI s → (∀ i, i < s → μ 1 (160 * t + i) = b i) →
  ∃ v0 v1 v2, VAL (env6 μ) cn v0 ∧ VAL (env6 μ) co v1 ∧ VAL (env6 μ) cw v2 ∧ ∀ k, ∃ μ' ν', f6_read μ ν (nI t) k = some (if k = 0 then v0 else if k = 1 then v1 else v2, μ', ν') ∧ fR μ μ'
def RT1 (μ μM : Mem) (t : Nat) : Prop := ∃ (s : Nat) (b : Nat → Int32) (cn co cw : List Int32), s ≤ 160 ∧ μM 2 t = nI s ∧ (∀ i, i < s → μM 1 (160 * t + i) = b i) ∧ (cn ++ (co ++ cw)).length ≤ 160 ∧
  μ (55 + 3 * t) 0 = nI cn.length ∧ μ (55 + 3 * t) 1 = nI (cn.length + co.length) ∧ μ (55 + 3 * t) 2 = nI (cn ++ (co ++ cw)).length ∧ (∀ i, i < (cn ++ (co ++ cw)).length → (cn ++ (co ++ cw))[i]? = some (μ (54 + 3 * t) i)) ∧ TX b s cn co cw
def RT (μ μM : Mem) (T : Nat) : Prop := 1 ≤ T ∧ T ≤ 6 ∧ μ 0 5 = nI T ∧ μM 0 3 = nI T ∧ ∀ t, t < T → RT1 μ μM t
def RB (μ μM : Mem) : Prop := ∃ s, s ≤ 160 ∧ μ 3 1 = nI s ∧ μM 0 6 = nI s ∧ ∀ i, i < s → ∃ x, x ≤ 255 ∧ μ 4 i = nI x ∧ μM 3 i = nI x
def RS1 (μ μM : Mem) (q : Nat) : Prop := (μ (71 + 2 * q) 0 = -1 ∧ μM 17 q = 0) ∨ ∃ so n, so ≤ 2 ∧ n ≤ 40 ∧ μ (71 + 2 * q) 0 = nI so ∧ μM 18 q = nI so ∧ μM 17 q = 1 ∧ μ (71 + 2 * q) 1 = nI n ∧ μM 19 q = nI n ∧ ∀ i, i < n → μ (72 + 2 * q) i = μM 20 (40 * q + i)
def RS (μ μM : Mem) : Prop := ∀ q, q < 4 → RS1 μ μM q
def PR (μ μM : Mem) (F n r : Nat) (G : Nat → Gw) : Prop := 10 ≤ F ∧ F ≤ 999 ∧ n ≤ 6 ∧ μ 1 0 = nI F ∧ μ 1 1 = nI n ∧ μ 1 2 = nI r ∧ μM 0 7 = nI F ∧ μM 0 13 = nI n ∧ μM 0 4 = nI r ∧ ∀ w, w < n → Gok F (G w) ∧ WC μ w (G w) ∧ WM μM w (G w)
def KR (μ μM : Mem) (n : Nat) (G : Nat → Gw) (T : Nat) : Prop := (μ 0 2 = 0 ∧ μM 0 37 = -1) ∨ ∃ (F' n' r' : Nat) (G' : Nat → Gw), μ 0 2 = 1 ∧ n' ≤ n ∧ r' < T ∧ 10 ≤ F' ∧ F' ≤ 999 ∧ μ 2 0 = nI F' ∧ μ 2 1 = nI n' ∧ μ 2 2 = nI r' ∧ μM 0 38 = nI F' ∧ μM 0 37 = nI n' ∧ μM 0 39 = nI r' ∧ ∀ w, w < n' → Gok F' (G' w) ∧ WC μ (6 + w) (G' w) ∧ WKp μM w (G' w) ∧ G' w 0 = G w 0
def RQ (μ μM : Mem) (T F n r : Nat) (G : Nat → Gw) : Prop := RT μ μM T ∧ RB μ μM ∧ RS μ μM ∧ PR μ μM F n r G ∧ KR μ μM n G T ∧ r < T
def RR (μ μM : Mem) : Prop := ∃ (T F n r : Nat) (G : Nat → Gw), RQ μ μM T F n r G
/-- nothing but scratch has changed -/
def fC (μ μ' : Mem) : Prop := ∀ k i, (k < 7 ∨ (11 < k ∧ k < 50) ∨ 52 < k) → μ' k i = μ k i
def fM (μ μ' : Mem) : Prop := ∀ k i, ((k = 0 ∧ (i < 14 ∨ 28 < i)) ∨ (0 < k ∧ k < 6) ∨ ((k = 6 ∨ k = 7) ∧ i < 48) ∨ (k = 8 ∧ i < 6) ∨ 12 < k) → μ' k i = μ k i
theorem fC.rf {μ : Mem} : fC μ μ := fun _ _ _ => rfl
theorem fM.rf {μ : Mem} : fM μ μ := fun _ _ _ => rfl
theorem fR.rf {μ : Mem} : fR μ μ := fun _ _ _ => rfl
theorem fC.tr {μ μ1 μ2 : Mem} (h : fC μ μ1) (h2 : fC μ1 μ2) : fC μ μ2 := fun k i q => (h2 k i q).trans (h k i q)
theorem fM.tr {μ μ1 μ2 : Mem} (h : fM μ μ1) (h2 : fM μ1 μ2) : fM μ μ2 := fun k i q => (h2 k i q).trans (h k i q)
theorem fR.tr {μ μ1 μ2 : Mem} (h : fR μ μ1) (h2 : fR μ1 μ2) : fR μ μ2 := fun k i q => (h2 k i q).trans (h k i q)
theorem fR.m {μ μ1 : Mem} (h : fR μ μ1) : fM μ μ1 := fun k i q => h k i (by omega)
theorem fC.up {μ μ1 : Mem} {k i : Nat} {v : Int32} (h : fC μ μ1) (hk : (7 ≤ k ∧ k ≤ 11) ∨ (50 ≤ k ∧ k ≤ 52)) : fC μ (up μ1 k i v) := fun k' i' q => by
  rw [up_r, if_neg (by omega)]
  exact h k' i' q
theorem fM.up {μ μ1 : Mem} {k i : Nat} {v : Int32} (h : fM μ μ1) (hk : (k = 0 ∧ 14 ≤ i ∧ i ≤ 28) ∨ ((k = 6 ∨ k = 7) ∧ 48 ≤ i) ∨ (k = 8 ∧ 6 ≤ i) ∨ (9 ≤ k ∧ k ≤ 12)) : fM μ (up μ1 k i v) := fun k' i' q => by
  rw [up_r, if_neg (by omega)]
  exact h k' i' q
theorem WC.fr {μ μ' : Mem} {j : Nat} {g : Gw} (hj : j < 12) (h : fC μ μ') (w : WC μ j g) : WC μ' j g := by
  obtain ⟨c0, c1, c2, c3, c4⟩ := w
  exact ⟨by rw [h _ _ (by omega)]; exact c0, by rw [h _ _ (by omega)]; exact c1, by rw [h _ _ (by omega)]; exact c2, fun i hi => by rw [h _ _ (by omega)]; exact c3 i hi, fun i hi => by rw [h _ _ (by omega)]; exact c4 i hi⟩
theorem WM.fr {μ μ' : Mem} {w F : Nat} {g : Gw} (hw : w < 6) (hg : Gok F g) (h : fM μ μ') (c : WM μ w g) : WM μ' w g := by
  obtain ⟨c0, c1, c2, c3, c4⟩ := c
  obtain ⟨-, -, g2, -, -, -⟩ := hg
  exact ⟨fun q => ⟨by rw [h _ _ (by omega)]; exact (c0 q).1, by rw [h _ _ (by omega)]; exact (c0 q).2⟩, c1, by rw [h _ _ (by omega)]; exact c2, fun i hi => by rw [h _ _ (by omega)]; exact c3 i hi, fun i hi => by rw [h _ _ (by omega)]; exact c4 i hi⟩
theorem WKp.fr {μ μ' : Mem} {w : Nat} {g : Gw} (h : fM μ μ') (c : WKp μ w g) : WKp μ' w g := by
  obtain ⟨c1, c2, c3, c4⟩ := c
  exact ⟨by rw [h _ _ (by omega)]; exact c1, by rw [h _ _ (by omega)]; exact c2, fun i hi => by rw [h _ _ (by omega)]; exact c3 i hi, fun i hi => by rw [h _ _ (by omega)]; exact c4 i hi⟩
theorem RT1.fr {μ μ' μM μM' : Mem} {t : Nat} (h : ∀ i, μ' (54 + 3 * t) i = μ (54 + 3 * t) i) (h1 : ∀ i, μ' (55 + 3 * t) i = μ (55 + 3 * t) i) (h2 : μM' 2 t = μM 2 t) (h3 : ∀ i, i < 160 → μM' 1 (160 * t + i) = μM 1 (160 * t + i)) (r : RT1 μ μM t) : RT1 μ' μM' t := by
  obtain ⟨s, b, cn, co, cw, r1, r2, r3, r4, r5, r6, r7, r8, r9⟩ := r
  exact ⟨s, b, cn, co, cw, r1, by rw [h2]; exact r2, fun i hi => by rw [h3 i (by omega)]; exact r3 i hi, r4, by rw [h1]; exact r5, by rw [h1]; exact r6, by rw [h1]; exact r7, fun i hi => by rw [h]; exact r8 i hi, r9⟩
theorem RT.fr {μ μ' μM μM' : Mem} {T : Nat} (h : fC μ μ') (hM : fM μM μM') (r : RT μ μM T) : RT μ' μM' T := by
  obtain ⟨r1, r2, r3, r4, r5⟩ := r
  exact ⟨r1, r2, by rw [h _ _ (by omega)]; exact r3, by rw [hM _ _ (by omega)]; exact r4, fun t ht => (r5 t ht).fr (fun i => h _ _ (by omega)) (fun i => h _ _ (by omega)) (hM _ _ (by omega)) (fun i _ => hM _ _ (by omega))⟩
theorem RB.fr {μ μ' μM μM' : Mem} (h : fC μ μ') (hM : fM μM μM') (r : RB μ μM) : RB μ' μM' := by
  obtain ⟨s, r1, r2, r3, r4⟩ := r
  refine ⟨s, r1, by rw [h _ _ (by omega)]; exact r2, by rw [hM _ _ (by omega)]; exact r3, fun i hi => ?_⟩
  obtain ⟨x, q1, q2, q3⟩ := r4 i hi
  exact ⟨x, q1, by rw [h _ _ (by omega)]; exact q2, by rw [hM _ _ (by omega)]; exact q3⟩
theorem RS1.fr {μ μ' μM μM' : Mem} {q : Nat} (h : ∀ k i, (k = 71 + 2 * q ∨ k = 72 + 2 * q) → μ' k i = μ k i) (hM : ∀ k i, (17 ≤ k ∧ k ≤ 19 ∧ i = q) ∨ (k = 20 ∧ 40 * q ≤ i ∧ i < 40 * q + 40) → μM' k i = μM k i) (r : RS1 μ μM q) : RS1 μ' μM' q := by
  rcases r with ⟨r1, r2⟩ | ⟨so, n, r1, r2, r3, r4, r5, r6, r7, r8⟩
  · exact Or.inl ⟨by rw [h _ _ (by omega)]; exact r1, by rw [hM _ _ (by omega)]; exact r2⟩
  · exact Or.inr ⟨so, n, r1, r2, by rw [h _ _ (by omega)]; exact r3, by rw [hM _ _ (by omega)]; exact r4, by rw [hM _ _ (by omega)]; exact r5, by rw [h _ _ (by omega)]; exact r6, by rw [hM _ _ (by omega)]; exact r7, fun i hi => by rw [h _ _ (by omega), hM _ _ (by omega)]; exact r8 i hi⟩
theorem RS.fr {μ μ' μM μM' : Mem} (h : fC μ μ') (hM : fM μM μM') (r : RS μ μM) : RS μ' μM' := fun q hq => (r q hq).fr (fun k i hk => h _ _ (by omega)) (fun k i hk => hM _ _ (by omega))
theorem PR.fr {μ μ' μM μM' : Mem} {F n r : Nat} {G : Nat → Gw} (h : fC μ μ') (hM : fM μM μM') (p : PR μ μM F n r G) : PR μ' μM' F n r G := by
  obtain ⟨p1, p2, p3, p4, p5, p6, p7, p8, p9, p10⟩ := p
  exact ⟨p1, p2, p3, by rw [h _ _ (by omega)]; exact p4, by rw [h _ _ (by omega)]; exact p5, by rw [h _ _ (by omega)]; exact p6, by rw [hM _ _ (by omega)]; exact p7, by rw [hM _ _ (by omega)]; exact p8, by rw [hM _ _ (by omega)]; exact p9,
    fun w hw => ⟨(p10 w hw).1, (p10 w hw).2.1.fr (by omega) h, (p10 w hw).2.2.fr (by omega) (p10 w hw).1 hM⟩⟩
theorem KR.fr {μ μ' μM μM' : Mem} {n : Nat} {G : Nat → Gw} {T : Nat} (hn : n ≤ 6) (h : fC μ μ') (hM : fM μM μM') (p : KR μ μM n G T) : KR μ' μM' n G T := by
  rcases p with ⟨p1, p2⟩ | ⟨F', n', r', G', p1, p2, p3, p4, p5, p6, p7, p8, p9, p10, p11, p12⟩
  · exact Or.inl ⟨by rw [h _ _ (by omega)]; exact p1, by rw [hM _ _ (by omega)]; exact p2⟩
  · exact Or.inr ⟨F', n', r', G', by rw [h _ _ (by omega)]; exact p1, p2, p3, p4, p5, by rw [h _ _ (by omega)]; exact p6, by rw [h _ _ (by omega)]; exact p7, by rw [h _ _ (by omega)]; exact p8, by rw [hM _ _ (by omega)]; exact p9, by rw [hM _ _ (by omega)]; exact p10, by rw [hM _ _ (by omega)]; exact p11,
      fun w hw => ⟨(p12 w hw).1, (p12 w hw).2.1.fr (by omega) h, (p12 w hw).2.2.1.fr hM, (p12 w hw).2.2.2⟩⟩
theorem RQ.fr {μ μ' μM μM' : Mem} {T F n r : Nat} {G : Nat → Gw} (h : fC μ μ') (hM : fM μM μM') (p : RQ μ μM T F n r G) : RQ μ' μM' T F n r G :=
  ⟨p.1.fr h hM, p.2.1.fr h hM, p.2.2.1.fr h hM, p.2.2.2.1.fr h hM, p.2.2.2.2.1.fr p.2.2.2.1.2.2.1 h hM, p.2.2.2.2.2⟩
theorem RR.fr {μ μ' μM μM' : Mem} (h : fC μ μ') (hM : fM μM μM') (p : RR μ μM) : RR μ' μM' := by
  obtain ⟨T, F, n, r, G, p⟩ := p
  exact ⟨T, F, n, r, G, p.fr h hM⟩
/-- is it a way -/
theorem way3 {μ μM : Mem} {ν : Lem} {F n r : Nat} {G : Nat → Gw} (p : PR μ μM F n r G) (x : Int32) : (f0_has μ 0 x = nI 0 ∧ f6_isWay μM ν x = nI 0) ∨ ∃ w, w < n ∧ x = nI w ∧ f0_has μ 0 x = nI 1 ∧ f6_isWay μM ν x = nI 1 := by
  obtain ⟨-, -, p3, -, p5, -, -, p8, -, -⟩ := p
  have e1 : f0_has μ 0 x = if x < 0 then 0 else if nI n ≤ x then 0 else 1 := by
    show (if x < 0 then (0 : Int32) else if μ 1 1 ≤ x then 0 else 1) = _
    rw [p5]
  have e2 : f6_isWay μM ν x = if x < 0 then 0 else if nI n - 1 < x then 0 else 1 := by
    show f6_in x.toInt64 0 ((μM 0 13) - 1).toInt64 = _
    rw [p8, in_c (a := 0) (b := nI n - 1) (by decide) rfl]
  have e3 : (nI n - 1).toInt = (n : Int) - 1 := pk_sub_toInt (b := 1) (by omega) (by decide)
  rw [e1, e2]
  rcases ix3 x n (by omega) with h | h | ⟨j, hj, rfl⟩
  · left; rw [if_pos h, if_pos h]; exact ⟨rfl, rfl⟩
  · left
    by_cases h0 : x < 0
    · rw [if_pos h0, if_pos h0]; exact ⟨rfl, rfl⟩
    · rw [if_neg h0, if_neg h0, if_pos h, if_pos (by rw [fa_le, nI_toInt (by omega)] at h; rw [fa_lt, e3]; omega)]; exact ⟨rfl, rfl⟩
  · right
    refine ⟨j, hj, rfl, ?_⟩
    rw [if_neg (nI_pos (by omega)), if_neg (nI_ge hj (by omega)), if_neg (nI_pos (by omega)), if_neg (by rw [fa_lt, e3, nI_toInt (by omega)]; omega)]
    exact ⟨rfl, rfl⟩
