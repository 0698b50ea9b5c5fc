def shC : List Sh := [.inl (5, [(2, 1, 0), (2, 2, 0), (0, 0, 0), (2, 3, 0), (2, 5, 0), (0, 0, 0), (2, 6, 0), (2, 7, 0), (2, 8, 0), (2, 9, 0), (2, 10, 0), (2, 11, 0), (2, 50, 0)]),
  .inl (0, [(0, 0, 0), (0, 0, 0), (0, 0, 0), (2, 12, 0)]),
  .inl (0, [(0, 0, 0), (0, 0, 0), (0, 0, 0), (2, 13, 0)]),
  .inl (2, [(2, 4, 0), (0, 0, 0), (0, 0, 0), (0, 0, 0), (0, 0, 0), (0, 0, 0), (0, 0, 0), (3, 53, 3)]),
  .inr (0, 160, 0, 0),
  .inr (4, 6, 53, 3),
  .inr (5, 4, 71, 2),
  .inr (0, 601, 0, 0),
  .inr (0, 601, 0, 0),
  .inr (0, 6, 0, 0),
  .inr (0, 160, 0, 0),
  .inr (0, 15, 0, 0),
  .inr (3, 6, 14, 3),
  .inr (3, 6, 32, 3),
  .inl (4, [(0, 0, 0), (0, 0, 0), (0, 0, 0), (2, 15, 0), (2, 16, 0)]),
  .inr (0, 8, 0, 0),
  .inr (0, 8, 0, 0),
  .inl (4, [(0, 0, 0), (0, 0, 0), (0, 0, 0), (2, 18, 0), (2, 19, 0)]),
  .inr (0, 8, 0, 0),
  .inr (0, 8, 0, 0),
  .inl (4, [(0, 0, 0), (0, 0, 0), (0, 0, 0), (2, 21, 0), (2, 22, 0)]),
  .inr (0, 8, 0, 0),
  .inr (0, 8, 0, 0),
  .inl (4, [(0, 0, 0), (0, 0, 0), (0, 0, 0), (2, 24, 0), (2, 25, 0)]),
  .inr (0, 8, 0, 0),
  .inr (0, 8, 0, 0),
  .inl (4, [(0, 0, 0), (0, 0, 0), (0, 0, 0), (2, 27, 0), (2, 28, 0)]),
  .inr (0, 8, 0, 0),
  .inr (0, 8, 0, 0),
  .inl (4, [(0, 0, 0), (0, 0, 0), (0, 0, 0), (2, 30, 0), (2, 31, 0)]),
  .inr (0, 8, 0, 0),
  .inr (0, 8, 0, 0),
  .inl (4, [(0, 0, 0), (0, 0, 0), (0, 0, 0), (2, 33, 0), (2, 34, 0)]),
  .inr (0, 8, 0, 0),
  .inr (0, 8, 0, 0),
  .inl (4, [(0, 0, 0), (0, 0, 0), (0, 0, 0), (2, 36, 0), (2, 37, 0)]),
  .inr (0, 8, 0, 0),
  .inr (0, 8, 0, 0),
  .inl (4, [(0, 0, 0), (0, 0, 0), (0, 0, 0), (2, 39, 0), (2, 40, 0)]),
  .inr (0, 8, 0, 0),
  .inr (0, 8, 0, 0),
  .inl (4, [(0, 0, 0), (0, 0, 0), (0, 0, 0), (2, 42, 0), (2, 43, 0)]),
  .inr (0, 8, 0, 0),
  .inr (0, 8, 0, 0),
  .inl (4, [(0, 0, 0), (0, 0, 0), (0, 0, 0), (2, 45, 0), (2, 46, 0)]),
  .inr (0, 8, 0, 0),
  .inr (0, 8, 0, 0),
  .inl (4, [(0, 0, 0), (0, 0, 0), (0, 0, 0), (2, 48, 0), (2, 49, 0)]),
  .inr (0, 8, 0, 0),
  .inr (0, 8, 0, 0),
  .inl (4, [(0, 0, 0), (0, 0, 0), (0, 0, 0), (2, 51, 0), (2, 52, 0)]),
  .inr (0, 8, 0, 0),
  .inr (0, 8, 0, 0),
  .inl (3, [(2, 54, 0), (2, 55, 0), (0, 0, 0)]),
  .inr (0, 160, 0, 0),
  .inr (0, 3, 0, 0),
  .inl (3, [(2, 57, 0), (2, 58, 0), (0, 0, 0)]),
  .inr (0, 160, 0, 0),
  .inr (0, 3, 0, 0),
  .inl (3, [(2, 60, 0), (2, 61, 0), (0, 0, 0)]),
  .inr (0, 160, 0, 0),
  .inr (0, 3, 0, 0),
  .inl (3, [(2, 63, 0), (2, 64, 0), (0, 0, 0)]),
  .inr (0, 160, 0, 0),
  .inr (0, 3, 0, 0),
  .inl (3, [(2, 66, 0), (2, 67, 0), (0, 0, 0)]),
  .inr (0, 160, 0, 0),
  .inr (0, 3, 0, 0),
  .inl (3, [(2, 69, 0), (2, 70, 0), (0, 0, 0)]),
  .inr (0, 160, 0, 0),
  .inr (0, 3, 0, 0),
  .inl (1, [(0, 0, 0), (0, 0, 0), (2, 72, 0)]),
  .inr (0, 40, 0, 0),
  .inl (1, [(0, 0, 0), (0, 0, 0), (2, 74, 0)]),
  .inr (0, 40, 0, 0),
  .inl (1, [(0, 0, 0), (0, 0, 0), (2, 76, 0)]),
  .inr (0, 40, 0, 0),
  .inl (1, [(0, 0, 0), (0, 0, 0), (2, 78, 0)]),
  .inr (0, 40, 0, 0)]
def shM : List Sh := [.inl (6, [(0, 0, 0), (2, 1, 0), (2, 2, 0), (0, 0, 0), (0, 0, 0), (2, 3, 0), (0, 0, 0), (0, 0, 0), (2, 4, 0), (2, 5, 0), (2, 6, 0), (2, 7, 0), (2, 8, 0), (0, 0, 0), (0, 0, 0), (0, 0, 0), (0, 0, 0), (0, 0, 0), (0, 0, 0), (0, 0, 0), (0, 0, 0), (0, 0, 0), (0, 0, 0), (0, 0, 0), (0, 0, 0), (1, 0, 0), (0, 0, 0), (0, 0, 0), (0, 0, 0), (2, 9, 0), (2, 10, 0), (2, 11, 0), (2, 12, 0), (2, 13, 0), (2, 14, 0), (2, 15, 0), (2, 16, 0), (0, 0, 0), (0, 0, 0), (0, 0, 0), (2, 17, 0), (2, 18, 0), (2, 19, 0), (2, 20, 0)]),
  .inr (0, 960, 0, 0),
  .inr (0, 6, 0, 0),
  .inr (0, 160, 0, 0),
  .inr (0, 6, 0, 0),
  .inr (0, 6, 0, 0),
  .inr (0, 56, 0, 0),
  .inr (0, 56, 0, 0),
  .inr (0, 7, 0, 0),
  .inr (1, 601, 0, 0),
  .inr (0, 601, 0, 0),
  .inr (0, 601, 0, 0),
  .inr (0, 66, 0, 0),
  .inr (0, 6, 0, 0),
  .inr (0, 48, 0, 0),
  .inr (0, 48, 0, 0),
  .inr (0, 6, 0, 0),
  .inr (2, 4, 0, 0),
  .inr (0, 4, 0, 0),
  .inr (0, 4, 0, 0),
  .inr (0, 160, 0, 0)]

def Sp : Bool → List Sh
  | true => shC
  | false => shM
def NW (U : State) : Prop := ∀ w ∈ nestW, va_Nw w U
theorem NW.same {u U : State} (hv : u.vm = U.vm) (h : NW u) : NW U := fun w hw => va_Nw.same (nestW_on w hw) hv (h w hw)
theorem NW.warm {s U : State} (hW : s.WarmedH U.vm) (h : NW s) : NW U := by
  intro w hw
  simp only [nestW, List.mem_cons, List.not_mem_nil, or_false] at hw
  rcases hw with rfl | rfl | rfl | rfl | rfl | rfl | rfl | rfl | rfl | rfl | rfl | rfl | rfl | rfl | rfl | rfl | rfl | rfl | rfl | rfl | rfl | rfl
  · exact va_Nw.warmM hW (h _ (List.mem_of_getElem? (i := 0) rfl))
  · exact va_Nw.warmF hW (h _ (List.mem_of_getElem? (i := 1) rfl))
  · exact va_Nw.warmF hW (h _ (List.mem_of_getElem? (i := 2) rfl))
  · exact va_Nw.warmF hW (h _ (List.mem_of_getElem? (i := 3) rfl))
  · exact va_Nw.warmF hW (h _ (List.mem_of_getElem? (i := 4) rfl))
  · exact va_Nw.warmF hW (h _ (List.mem_of_getElem? (i := 5) rfl))
  · exact va_Nw.warmF hW (h _ (List.mem_of_getElem? (i := 6) rfl))
  · exact va_Nw.warmF hW (h _ (List.mem_of_getElem? (i := 7) rfl))
  · exact va_Nw.warmF hW (h _ (List.mem_of_getElem? (i := 8) rfl))
  · exact va_Nw.warmF hW (h _ (List.mem_of_getElem? (i := 9) rfl))
  · exact va_Nw.warmF hW (h _ (List.mem_of_getElem? (i := 10) rfl))
  · exact va_Nw.warmM hW (h _ (List.mem_of_getElem? (i := 11) rfl))
  · exact va_Nw.warmF hW (h _ (List.mem_of_getElem? (i := 12) rfl))
  · exact va_Nw.warmM hW (h _ (List.mem_of_getElem? (i := 13) rfl))
  · exact va_Nw.warmM hW (h _ (List.mem_of_getElem? (i := 14) rfl))
  · exact va_Nw.warmM hW (h _ (List.mem_of_getElem? (i := 15) rfl))
  · exact va_Nw.warmF hW (h _ (List.mem_of_getElem? (i := 16) rfl))
  · exact va_Nw.warmF hW (h _ (List.mem_of_getElem? (i := 17) rfl))
  · exact va_Nw.warmF hW (h _ (List.mem_of_getElem? (i := 18) rfl))
  · exact va_Nw.warmM hW (h _ (List.mem_of_getElem? (i := 19) rfl))
  · exact va_Nw.warmM hW (h _ (List.mem_of_getElem? (i := 20) rfl))
  · exact va_Nw.warmM hW (h _ (List.mem_of_getElem? (i := 21) rfl))
def Ad (b : Bool) (ad : Nat → Nat) : Nat → Prop := fun q => ∃ k, k < (Sp b).length ∧ q = ad k
def lensK : List Nat := [59, 8]
def bytsK : List (List Int32) := [[109, 105, 110, 117, 116, 101, 32, 112, 108, 97, 99, 101, 32, 119, 97, 121, 32, 112, 97, 99, 101, 32, 102, 97, 114, 32, 112, 111, 105, 110, 116, 115, 32, 110, 101, 97, 114, 32, 111, 102, 102, 32, 119, 111, 114, 116, 104, 32, 111, 114, 32, 97, 110, 100, 32, 110, 111, 116, 32], [40, 41, 59, 43, 45, 42, 60, 61]]
/-- what the class reads of statics and constants, outside its world: their addresses stand behind the world's in ad -/
def St (b : Bool) (ad : Nat → Nat) (A : Nat → Prop) (U : State) (H : Heap) : Prop := NW U ∧ (b = true →
  va_Z "SamePlace" "UNDER" "[I" (.ref (ad 100)) A U H ∧ va_T .int (ad 100) 6 (fun j => .int (([-1, 0, 0, 1, 2, 1] : List Int32).getD j 0)) A U H ∧
  va_Z "SamePlace" "PART_LEAST" "[I" (.ref (ad 101)) A U H ∧ va_T .int (ad 101) 3 (fun j => .int (([0, -60, 0] : List Int32).getD j 0)) A U H ∧
  va_Z "SamePlace" "PART_MOST" "[I" (.ref (ad 102)) A U H ∧ va_T .int (ad 102) 3 (fun j => .int (([9999, 60, 99] : List Int32).getD j 0)) A U H ∧
  va_Z "java/lang/String" "COMPACT_STRINGS" "Z" (.int 1) A U H ∧ va_Zq "jdk/internal/util/Preconditions" "SIOOBE_FORMATTER" "Ljava/util/function/BiFunction;" A U H ∧
  vk_S 2 lensK bytsK (fun i => ad (110 + i)) (fun i => ad (120 + i)) A U H ∧ vk_R RX2 93 "minute place way pace far points near off worth or and not " (ad 110) U ∧ vk_R RX2 85 "();+-*<=" (ad 111) U)
theorem St.warm {b : Bool} {ad : Nat → Nat} {A : Nat → Prop} {s U : State} {H0 H : Heap} {locs : List Loc} (hW : s.WarmedH U.vm) (hS : va_S A H0 H locs) (h : St b ad A s H0) : St b ad A U H := by
  refine ⟨h.1.warm hW, fun hb => ?_⟩
  obtain ⟨z1, t1, z2, t2, z3, t3, z4, z5, ks, r1, r2⟩ := h.2 hb
  have hv := hW.alike
  have hk := hS.2.1
  exact ⟨(z1.moved hv).kept hk, (t1.moved hv).kept hk, (z2.moved hv).kept hk, (t2.moved hv).kept hk, (z3.moved hv).kept hk, (t3.moved hv).kept hk, (z4.moved hv).kept hk, (z5.moved hv).kept hk, (ks.moved hv).kept hk, r1.warm hW, r2.warm hW⟩
theorem St.same {b : Bool} {ad : Nat → Nat} {A : Nat → Prop} {u U : State} {H : Heap} (hv : u.vm = U.vm) (h : St b ad A u H) : St b ad A U H := by
  refine ⟨h.1.same hv, fun hb => ?_⟩
  obtain ⟨z1, t1, z2, t2, z3, t3, z4, z5, ks, r1, r2⟩ := h.2 hb
  have ha : u.vm.Alike U.vm := by rw [hv]; exact Vm.Alike.refl U.vm
  exact ⟨z1.moved ha, t1.moved ha, z2.moved ha, t2.moved ha, z3.moved ha, t3.moved ha, z4.moved ha, z5.moved ha, ks.moved ha, r1.same hv.symm, r2.same hv.symm⟩
theorem St.narrow {b : Bool} {ad : Nat → Nat} {A B : Nat → Prop} {U : State} {H : Heap} (h : St b ad A U H) (hAB : ∀ q, B q → A q) : St b ad B U H := by
  refine ⟨h.1, fun hb => ?_⟩
  obtain ⟨z1, t1, z2, t2, z3, t3, z4, z5, ks, r1, r2⟩ := h.2 hb
  exact ⟨z1.narrow hAB, t1.narrow hAB, z2.narrow hAB, t2.narrow hAB, z3.narrow hAB, t3.narrow hAB, z4.narrow hAB, z5.narrow hAB, ks.narrow hAB, r1, r2⟩
/-- a world, its cells in A -/
def WdA (b : Bool) (A : Nat → Prop) (D : va_G) (cy : Nat → ClassId) (ad : Nat → Nat) (H0 : Heap) (μ : Mem) (ν : Lem) (H : Heap) (locs : List Loc) : Prop :=
  va_P D vwCl (cs (Sp b) cy ad μ ν) H ∧ va_D A (cs (Sp b) cy ad μ ν) ∧ va_S A H0 H locs
/-- a method's world -/
abbrev Wd (b : Bool) (D : va_G) (cy : Nat → ClassId) (ad : Nat → Nat) (H0 : Heap) (μ : Mem) (ν : Lem) (H : Heap) (locs : List Loc) : Prop := WdA b (Ad b ad) D cy ad H0 μ ν H locs
def Pre (b : Bool) (D : va_G) (cy : Nat → ClassId) (ad : Nat → Nat) (μ : Mem) (ν : Lem) (U : State) : Prop :=
  va_P D vwCl (cs (Sp b) cy ad μ ν) U.heap ∧ va_K D vwCl (tysOf cy) U ∧ va_D (Ad b ad) (cs (Sp b) cy ad μ ν) ∧ St b ad (Ad b ad) U U.heap
def Pst (b : Bool) (D : va_G) (cy : Nat → ClassId) (ad : Nat → Nat) (μ : Mem) (ν : Lem) (t : State) : Prop := va_P D vwCl (cs (Sp b) cy ad μ ν) t.heap
def CxA (b : Bool) (A : Nat → Prop) (p : Program) (s : State) (m : MethodId) (args : Array Value) (meth : Method) (c : Code) (cc : ByteArray) (nL : Nat) (own : String) (D : va_G) (cy : Nat → ClassId) (ad : Nat → Nat) : Prop :=
  CallFix p m c cc nL s args tb own ∧ va_K D vwCl (tysOf cy) s ∧ St b ad A s s.heap ∧ meth.locks = false ∧ ∀ q, Ad b ad q → A q
abbrev Cx (b : Bool) (p : Program) (s : State) (m : MethodId) (args : Array Value) (meth : Method) (c : Code) (cc : ByteArray) (nL : Nat) (own : String) (D : va_G) (cy : Nat → ClassId) (ad : Nat → Nat) : Prop := CxA b (Ad b ad) p s m args meth c cc nL own D cy ad
/-- the world's cells lie where its addresses are -/
theorem cs_Ad {b : Bool} {A : Nat → Prop} {cy : Nat → ClassId} {ad : Nat → Nat} {μ : Mem} {ν : Lem} (h : va_D A (cs (Sp b) cy ad μ ν)) : va_D (Ad b ad) (cs (Sp b) cy ad μ ν) := by
  refine ⟨h.1, fun k q hk => ?_⟩
  have hl : k < (cs (Sp b) cy ad μ ν).length := (List.getElem?_eq_some_iff.mp hk).1
  rw [cs_len] at hl
  refine ⟨k, hl, ?_⟩
  have h1 : (Sp b)[k]? = some ((Sp b)[k]) := List.getElem?_eq_getElem hl
  rw [cs_get h1] at hk
  cases hk
  rfl
/-- addresses are apart whatever the cells hold -/
theorem cs_D {A : Nat → Prop} {S : List Sh} {cy : Nat → ClassId} {ad : Nat → Nat} {μ μ' : Mem} {ν ν' : Lem} (h : va_D A (cs S cy ad μ ν)) : va_D A (cs S cy ad μ' ν') := by
  have key : ∀ (k : Nat) (q : Nat × va_E), (cs S cy ad μ' ν')[k]? = some q → ∃ e, (cs S cy ad μ ν)[k]? = some (q.1, e) := by
    intro k q hq
    unfold cs at hq
    rw [List.getElem?_mapIdx] at hq
    cases hk : S[k]? with
    | none => rw [hk] at hq; cases hq
    | some x =>
      rw [hk] at hq
      cases hq
      exact ⟨_, cs_get hk⟩
  refine ⟨fun i j x y hi hj hxy => ?_, fun k q hk => ?_⟩
  · obtain ⟨e1, h1⟩ := key i x hi
    obtain ⟨e2, h2⟩ := key j y hj
    exact h.1 i j _ _ h1 h2 hxy
  · obtain ⟨e, h1⟩ := key k q hk
    exact h.2 k (q.1, e) h1
theorem Pre.blind {b : Bool} {D : va_G} {cy : Nat → ClassId} {ad : Nat → Nat} {μ : Mem} {ν : Lem} {av : List Value} : FrameBlind (va_Pc av (Pre b D cy ad μ ν)) := fun a U g mk q => by
  obtain ⟨q0, qP, qK, qD, qS⟩ := q
  exact ⟨q0, qP, va_K.moved (u := U) (U := U.calling g mk a) (Vm.Alike.refl U.vm) qK, qD, St.same (u := U) (U := U.calling g mk a) rfl qS⟩
/-- a class of the tables -/
def clsOK (ci : Nat) (C : String) (T : u_T) (N : Nat) (ty : Nat → FieldType) : Prop := vwCl[ci]? = some (C, T, N) ∧ (∀ w ∈ u_ws C T N, w ∈ tb) ∧ (∀ k, k < N → parseFieldDescriptor (T k).2.2.1 = some (ty k)) ∧ ∀ a, a < N → ∀ b, b < N → a ≠ b → (T a).2.1 ≠ (T b).2.1
theorem ok0 : clsOK 0 RX0 TX0 4 tyX0 := ⟨rfl, fun w h => tb_of ((by decide +kernel : ∀ w ∈ wsX00, w ∈ lw_tbl) w h) (List.all_eq_true.mp (by decide +kernel : wsX00.all goodWord = true) w h), tyX0_ok, nmX0⟩
theorem ok1 : clsOK 1 RX1 TX1 3 tyX1 := ⟨rfl, fun w h => tb_of ((by decide +kernel : ∀ w ∈ wsX10, w ∈ lw_tbl) w h) (List.all_eq_true.mp (by decide +kernel : wsX10.all goodWord = true) w h), tyX1_ok, nmX1⟩
theorem ok2 : clsOK 2 RX2 TX2 8 tyX2 := ⟨rfl, fun w h => tb_of ((by decide +kernel : ∀ w ∈ wsX20, w ∈ lw_tbl) w h) (List.all_eq_true.mp (by decide +kernel : wsX20.all goodWord = true) w h), tyX2_ok, nmX2⟩
theorem ok3 : clsOK 3 RX3 TX3 3 tyX3 := ⟨rfl, fun w h => tb_of ((by decide +kernel : ∀ w ∈ wsX30, w ∈ lw_tbl) w h) (List.all_eq_true.mp (by decide +kernel : wsX30.all goodWord = true) w h), tyX3_ok, nmX3⟩
theorem ok4 : clsOK 4 RX4 TX4 5 tyX4 := ⟨rfl, fun w h => tb_of ((by decide +kernel : ∀ w ∈ wsX40, w ∈ lw_tbl) w h) (List.all_eq_true.mp (by decide +kernel : wsX40.all goodWord = true) w h), tyX4_ok, nmX4⟩
theorem ok5 : clsOK 5 RX5 TX5 13 tyX5 := ⟨rfl, fun w h => tb_of ((by decide +kernel : ∀ w ∈ wsX50, w ∈ lw_tbl) w h) (List.all_eq_true.mp (by decide +kernel : wsX50.all goodWord = true) w h), tyX5_ok, nmX5⟩
theorem ok6 : clsOK 6 RX6 TX6 44 tyX6 := ⟨rfl, fun w h => tb_of ((by decide +kernel : ∀ w ∈ wsX60, w ∈ lw_tbl) w h) (List.all_eq_true.mp (by decide +kernel : wsX60.all goodWord = true) w h), tyX6_ok, nmX6⟩
/-- shapes at places that are numbers -/
theorem sW {j : Nat} (h : j < 13) : (Sp true)[14 + 3 * j]? = some (.inl (4, [(0, 0, 0), (0, 0, 0), (0, 0, 0), (2, 15 + 3 * j, 0), (2, 16 + 3 * j, 0)])) := by
  rcases (show j = 0 ∨ j = 1 ∨ j = 2 ∨ j = 3 ∨ j = 4 ∨ j = 5 ∨ j = 6 ∨ j = 7 ∨ j = 8 ∨ j = 9 ∨ j = 10 ∨ j = 11 ∨ j = 12 by omega) with rfl | rfl | rfl | rfl | rfl | rfl | rfl | rfl | rfl | rfl | rfl | rfl | rfl <;> rfl
theorem sWm {j : Nat} (h : j < 13) : (Sp true)[15 + 3 * j]? = some (.inr (0, 8, 0, 0)) := by
  rcases (show j = 0 ∨ j = 1 ∨ j = 2 ∨ j = 3 ∨ j = 4 ∨ j = 5 ∨ j = 6 ∨ j = 7 ∨ j = 8 ∨ j = 9 ∨ j = 10 ∨ j = 11 ∨ j = 12 by omega) with rfl | rfl | rfl | rfl | rfl | rfl | rfl | rfl | rfl | rfl | rfl | rfl | rfl <;> rfl
theorem sWp {j : Nat} (h : j < 13) : (Sp true)[16 + 3 * j]? = some (.inr (0, 8, 0, 0)) := by
  rcases (show j = 0 ∨ j = 1 ∨ j = 2 ∨ j = 3 ∨ j = 4 ∨ j = 5 ∨ j = 6 ∨ j = 7 ∨ j = 8 ∨ j = 9 ∨ j = 10 ∨ j = 11 ∨ j = 12 by omega) with rfl | rfl | rfl | rfl | rfl | rfl | rfl | rfl | rfl | rfl | rfl | rfl | rfl <;> rfl
theorem sT {j : Nat} (h : j < 6) : (Sp true)[53 + 3 * j]? = some (.inl (3, [(2, 54 + 3 * j, 0), (2, 55 + 3 * j, 0), (0, 0, 0)])) := by
  rcases (show j = 0 ∨ j = 1 ∨ j = 2 ∨ j = 3 ∨ j = 4 ∨ j = 5 by omega) with rfl | rfl | rfl | rfl | rfl | rfl <;> rfl
theorem sTc {j : Nat} (h : j < 6) : (Sp true)[54 + 3 * j]? = some (.inr (0, 160, 0, 0)) := by
  rcases (show j = 0 ∨ j = 1 ∨ j = 2 ∨ j = 3 ∨ j = 4 ∨ j = 5 by omega) with rfl | rfl | rfl | rfl | rfl | rfl <;> rfl
theorem sTe {j : Nat} (h : j < 6) : (Sp true)[55 + 3 * j]? = some (.inr (0, 3, 0, 0)) := by
  rcases (show j = 0 ∨ j = 1 ∨ j = 2 ∨ j = 3 ∨ j = 4 ∨ j = 5 by omega) with rfl | rfl | rfl | rfl | rfl | rfl <;> rfl
theorem sS {j : Nat} (h : j < 4) : (Sp true)[71 + 2 * j]? = some (.inl (1, [(0, 0, 0), (0, 0, 0), (2, 72 + 2 * j, 0)])) := by
  rcases (show j = 0 ∨ j = 1 ∨ j = 2 ∨ j = 3 by omega) with rfl | rfl | rfl | rfl <;> rfl
theorem sSi {j : Nat} (h : j < 4) : (Sp true)[72 + 2 * j]? = some (.inr (0, 40, 0, 0)) := by
  rcases (show j = 0 ∨ j = 1 ∨ j = 2 ∨ j = 3 by omega) with rfl | rfl | rfl | rfl <;> rfl
theorem sP {j : Nat} (h : j < 2) : (Sp true)[1 + j]? = some (.inl (0, [(0, 0, 0), (0, 0, 0), (0, 0, 0), (2, 12 + j, 0)])) := by
  rcases (show j = 0 ∨ j = 1 by omega) with rfl | rfl <;> rfl
theorem sPw {j : Nat} (h : j < 2) : (Sp true)[12 + j]? = some (.inr (3, 6, 14 + 18 * j, 3)) := by
  rcases (show j = 0 ∨ j = 1 by omega) with rfl | rfl <;> rfl
abbrev inb (i : Int32) (n : Nat) : Prop := ¬ (i < 0 ∨ n ≤ i.toNatClampNeg)
theorem inb_lt {i : Int32} {n : Nat} (h : inb i n) : i.toNatClampNeg < n := Nat.not_le.mp fun q => h (Or.inr q)
section KIT
variable {p : Program} {l : Launch} {e : Env} {R : Room} {s : State} {m : MethodId} {args : Array Value} {below : List Frame} {meth : Method} {c : Code} {H : Heap} {locs : List Loc} {cells slots : Nat} {Q : State → Prop}
variable {b : Bool} {A : Nat → Prop} {cc : ByteArray} {nL : Nat} {own : String} {D : va_G} {cy : Nat → ClassId} {ad : Nat → Nat} {μ : Mem} {ν : Lem} {pc : Nat} {ls : Array Slot} {rest : List Value}
theorem WdA.set {H0 : Heap} {μ' : Mem} {ν' : Lem} {k : Nat} {h : Sh} {e : va_E} {H1 : Heap} {locs1 : List Loc} (hk : (Sp b)[k]? = some h) (he : e = ce cy ad μ' ν' k h) (h1 : ∀ j, j ≠ k → μ' j = μ j) (h2 : ∀ j, j ≠ k → ν' j = ν j) (hP : va_P D vwCl ((cs (Sp b) cy ad μ ν).set k (ad k, e)) H1) (hD : va_D A ((cs (Sp b) cy ad μ ν).set k (ad k, e))) (hS : va_S A H0 H1 locs1) : WdA b A D cy ad H0 μ' ν' H1 locs1 := by
  rw [cs_set hk he h1 h2] at hP hD
  exact ⟨hP, hD, hS⟩
/-- a field that is an int -/
theorem rGetI (C : CxA b A p s m args meth c cc nL own D cy ad) (X : WdA b A D cy ad s.heap μ ν H locs) {ci : Nat} {CN : String} {T : u_T} {N : Nat} {ty : Nat → FieldType} (ok : clsOK ci CN T N ty) {k : Nat} {sl : List Slt} (hs : (Sp b)[k]? = some (.inl (ci, sl))) (i : Nat) (ht : sl[i]? = some (0, 0, 0)) (hi : i < N) {idx : Nat} (hl : (Cond.fieldLink own idx (T i).1 (T i).2.1 (T i).2.2.1) ∈ tb) (hd : decode cc pc = .ok (.getfield idx, 3))
    (kk : W p l e R s m args below meth c H locs cells slots Q (F0 m (pc + 3) ls (.int (μ k i) :: rest))) : W p l e R s m args below meth c H locs cells slots Q (F0 m pc ls (.ref (ad k) :: rest)) :=
  va_get C.1.1 C.1.2.1 C.1.2.2.2.2 ok.2.1 C.1.2.2.2.1 C.2.1 X.1 k (cs_get hs) ok.1 i hi (C.1.2.2.2.2 _ hl) (fun _ h => h) (by rw [List.getElem?_mapIdx, ht]; rfl) hd kk
theorem rGetL (C : CxA b A p s m args meth c cc nL own D cy ad) (X : WdA b A D cy ad s.heap μ ν H locs) {ci : Nat} {CN : String} {T : u_T} {N : Nat} {ty : Nat → FieldType} (ok : clsOK ci CN T N ty) {k : Nat} {sl : List Slt} (hs : (Sp b)[k]? = some (.inl (ci, sl))) (i : Nat) (ht : sl[i]? = some (1, 0, 0)) (hi : i < N) {idx : Nat} (hl : (Cond.fieldLink own idx (T i).1 (T i).2.1 (T i).2.2.1) ∈ tb) (hd : decode cc pc = .ok (.getfield idx, 3))
    (kk : W p l e R s m args below meth c H locs cells slots Q (F0 m (pc + 3) ls (.long (ν k i) :: rest))) : W p l e R s m args below meth c H locs cells slots Q (F0 m pc ls (.ref (ad k) :: rest)) :=
  va_get C.1.1 C.1.2.1 C.1.2.2.2.2 ok.2.1 C.1.2.2.2.1 C.2.1 X.1 k (cs_get hs) ok.1 i hi (C.1.2.2.2.2 _ hl) (fun _ h => h) (by rw [List.getElem?_mapIdx, ht]; rfl) hd kk
theorem rGetR (C : CxA b A p s m args meth c cc nL own D cy ad) (X : WdA b A D cy ad s.heap μ ν H locs) {ci : Nat} {CN : String} {T : u_T} {N : Nat} {ty : Nat → FieldType} (ok : clsOK ci CN T N ty) {k : Nat} {sl : List Slt} (hs : (Sp b)[k]? = some (.inl (ci, sl))) (i : Nat) {k' : Nat} (ht : sl[i]? = some (2, k', 0)) (hi : i < N) {idx : Nat} (hl : (Cond.fieldLink own idx (T i).1 (T i).2.1 (T i).2.2.1) ∈ tb) (hd : decode cc pc = .ok (.getfield idx, 3))
    (kk : W p l e R s m args below meth c H locs cells slots Q (F0 m (pc + 3) ls (.ref (ad k') :: rest))) : W p l e R s m args below meth c H locs cells slots Q (F0 m pc ls (.ref (ad k) :: rest)) :=
  va_get C.1.1 C.1.2.1 C.1.2.2.2.2 ok.2.1 C.1.2.2.2.1 C.2.1 X.1 k (cs_get hs) ok.1 i hi (C.1.2.2.2.2 _ hl) (fun _ h => h) (by rw [List.getElem?_mapIdx, ht]; rfl) hd kk
theorem rGetD (C : CxA b A p s m args meth c cc nL own D cy ad) (X : WdA b A D cy ad s.heap μ ν H locs) {ci : Nat} {CN : String} {T : u_T} {N : Nat} {ty : Nat → FieldType} (ok : clsOK ci CN T N ty) {k : Nat} {sl : List Slt} (hs : (Sp b)[k]? = some (.inl (ci, sl))) (i : Nat) {k0 st : Nat} (ht : sl[i]? = some (3, k0, st)) (hi : i < N) (hne : ¬ μ k i = 0) {idx : Nat} (hl : (Cond.fieldLink own idx (T i).1 (T i).2.1 (T i).2.2.1) ∈ tb) (hd : decode cc pc = .ok (.getfield idx, 3))
    (kk : W p l e R s m args below meth c H locs cells slots Q (F0 m (pc + 3) ls (.ref (ad (k0 + st * ((μ k i).toNatClampNeg - 1))) :: rest))) : W p l e R s m args below meth c H locs cells slots Q (F0 m pc ls (.ref (ad k) :: rest)) :=
  va_get C.1.1 C.1.2.1 C.1.2.2.2.2 ok.2.1 C.1.2.2.2.1 C.2.1 X.1 k (cs_get hs) ok.1 i hi (C.1.2.2.2.2 _ hl) (fun _ h => h) (by rw [List.getElem?_mapIdx, ht]; exact congrArg some (if_neg hne)) hd kk
/-- the same, a nest mate's -/
theorem rGetIN (C : CxA b A p s m args meth c cc nL own D cy ad) (X : WdA b A D cy ad s.heap μ ν H locs) {ci : Nat} {CN : String} {T : u_T} {N : Nat} {ty : Nat → FieldType} (ok : clsOK ci CN T N ty) {k : Nat} {sl : List Slt} (hs : (Sp b)[k]? = some (.inl (ci, sl))) (i : Nat) (ht : sl[i]? = some (0, 0, 0)) (hi : i < N) {idx : Nat} {host : String} (hl : (Cond.fieldLinkNest own idx (T i).1 (T i).2.1 (T i).2.2.1 host) ∈ nestW) (hd : decode cc pc = .ok (.getfield idx, 3))
    (kk : W p l e R s m args below meth c H locs cells slots Q (F0 m (pc + 3) ls (.int (μ k i) :: rest))) : W p l e R s m args below meth c H locs cells slots Q (F0 m pc ls (.ref (ad k) :: rest)) :=
  va_getN C.1.1 C.1.2.1 C.1.2.2.2.2 ok.2.1 C.1.2.2.2.1 C.2.1 X.1 k (cs_get hs) ok.1 i hi (va_Nw.use (nestW_on _ hl) (C.2.2.1.1 _ hl)) (fun _ h => h) (by rw [List.getElem?_mapIdx, ht]; rfl) hd kk
theorem rGetRN (C : CxA b A p s m args meth c cc nL own D cy ad) (X : WdA b A D cy ad s.heap μ ν H locs) {ci : Nat} {CN : String} {T : u_T} {N : Nat} {ty : Nat → FieldType} (ok : clsOK ci CN T N ty) {k : Nat} {sl : List Slt} (hs : (Sp b)[k]? = some (.inl (ci, sl))) (i : Nat) {k' : Nat} (ht : sl[i]? = some (2, k', 0)) (hi : i < N) {idx : Nat} {host : String} (hl : (Cond.fieldLinkNest own idx (T i).1 (T i).2.1 (T i).2.2.1 host) ∈ nestW) (hd : decode cc pc = .ok (.getfield idx, 3))
    (kk : W p l e R s m args below meth c H locs cells slots Q (F0 m (pc + 3) ls (.ref (ad k') :: rest))) : W p l e R s m args below meth c H locs cells slots Q (F0 m pc ls (.ref (ad k) :: rest)) :=
  va_getN C.1.1 C.1.2.1 C.1.2.2.2.2 ok.2.1 C.1.2.2.2.1 C.2.1 X.1 k (cs_get hs) ok.1 i hi (va_Nw.use (nestW_on _ hl) (C.2.2.1.1 _ hl)) (fun _ h => h) (by rw [List.getElem?_mapIdx, ht]; rfl) hd kk
/-- a field that is an int becomes another -/
theorem rPutI (C : CxA b A p s m args meth c cc nL own D cy ad) (X : WdA b A D cy ad s.heap μ ν H locs) {ci : Nat} {CN : String} {T : u_T} {N : Nat} {ty : Nat → FieldType} (ok : clsOK ci CN T N ty) {k : Nat} {sl : List Slt} (hs : (Sp b)[k]? = some (.inl (ci, sl))) (i : Nat) (ht : sl[i]? = some (0, 0, 0)) (hi : i < N) {idx : Nat} (hl : (Cond.fieldLink own idx (T i).1 (T i).2.1 (T i).2.2.1) ∈ tb) (hf : (T i).2.2.2 = false) {v : Int32} (hn : narrow (ty i) (.int v) = .int v) (hfit : fits (ty i) (.int v) = true) (hd : decode cc pc = .ok (.putfield idx, 3))
    (kk : ∀ (H1 : Heap) (locs1 : List Loc), WdA b A D cy ad s.heap (up μ k i v) ν H1 locs1 → W p l e R s m args below meth c H1 locs1 cells slots Q (F0 m (pc + 3) ls rest)) : W p l e R s m args below meth c H locs cells slots Q (F0 m pc ls (.int v :: .ref (ad k) :: rest)) :=
  va_put C.1.1 C.1.2.1 C.1.2.2.2.2 ok.2.1 ty ok.2.2.1 ok.2.2.2 C.1.2.2.2.1 C.2.1 X.1 X.2.1 X.2.2 k (cs_get hs) ok.1 i hi (C.1.2.2.2.2 _ hl) (fun _ h => h) hf (ok.2.2.1 i hi) hn hfit (by rw [List.length_mapIdx]; exact (List.getElem?_eq_some_iff.mp ht).1) hd
    (fun H1 locs1 hP hD hS => kk H1 locs1 (WdA.set hs (by show _ = Sum.inr (ci, _); rw [sl_set ht (v := .int v) (μ' := up μ k i v) (ν' := ν) (by show _ = Value.int _; rw [up_at]) sv_up]) up_ne (fun _ _ => rfl) hP hD hS))
theorem rPutL (C : CxA b A p s m args meth c cc nL own D cy ad) (X : WdA b A D cy ad s.heap μ ν H locs) {ci : Nat} {CN : String} {T : u_T} {N : Nat} {ty : Nat → FieldType} (ok : clsOK ci CN T N ty) {k : Nat} {sl : List Slt} (hs : (Sp b)[k]? = some (.inl (ci, sl))) (i : Nat) (ht : sl[i]? = some (1, 0, 0)) (hi : i < N) {idx : Nat} (hl : (Cond.fieldLink own idx (T i).1 (T i).2.1 (T i).2.2.1) ∈ tb) (hf : (T i).2.2.2 = false) {v : Int64} (hn : narrow (ty i) (.long v) = .long v) (hfit : fits (ty i) (.long v) = true) (hd : decode cc pc = .ok (.putfield idx, 3))
    (kk : ∀ (H1 : Heap) (locs1 : List Loc), WdA b A D cy ad s.heap μ (upL ν k i v) H1 locs1 → W p l e R s m args below meth c H1 locs1 cells slots Q (F0 m (pc + 3) ls rest)) : W p l e R s m args below meth c H locs cells slots Q (F0 m pc ls (.long v :: .ref (ad k) :: rest)) :=
  va_put C.1.1 C.1.2.1 C.1.2.2.2.2 ok.2.1 ty ok.2.2.1 ok.2.2.2 C.1.2.2.2.1 C.2.1 X.1 X.2.1 X.2.2 k (cs_get hs) ok.1 i hi (C.1.2.2.2.2 _ hl) (fun _ h => h) hf (ok.2.2.1 i hi) hn hfit (by rw [List.length_mapIdx]; exact (List.getElem?_eq_some_iff.mp ht).1) hd
    (fun H1 locs1 hP hD hS => kk H1 locs1 (WdA.set hs (by show _ = Sum.inr (ci, _); rw [sl_set ht (v := .long v) (μ' := μ) (ν' := upL ν k i v) (by show _ = Value.long _; rw [upL_at]) sv_upL]) (fun _ _ => rfl) upL_ne hP hD hS))
theorem rPutIN (C : CxA b A p s m args meth c cc nL own D cy ad) (X : WdA b A D cy ad s.heap μ ν H locs) {ci : Nat} {CN : String} {T : u_T} {N : Nat} {ty : Nat → FieldType} (ok : clsOK ci CN T N ty) {k : Nat} {sl : List Slt} (hs : (Sp b)[k]? = some (.inl (ci, sl))) (i : Nat) (ht : sl[i]? = some (0, 0, 0)) (hi : i < N) {idx : Nat} {host : String} (hl : (Cond.fieldLinkNest own idx (T i).1 (T i).2.1 (T i).2.2.1 host) ∈ nestW) (hf : (T i).2.2.2 = false) {v : Int32} (hn : narrow (ty i) (.int v) = .int v) (hfit : fits (ty i) (.int v) = true) (hd : decode cc pc = .ok (.putfield idx, 3))
    (kk : ∀ (H1 : Heap) (locs1 : List Loc), WdA b A D cy ad s.heap (up μ k i v) ν H1 locs1 → W p l e R s m args below meth c H1 locs1 cells slots Q (F0 m (pc + 3) ls rest)) : W p l e R s m args below meth c H locs cells slots Q (F0 m pc ls (.int v :: .ref (ad k) :: rest)) :=
  va_putN C.1.1 C.1.2.1 C.1.2.2.2.2 ok.2.1 ty ok.2.2.1 ok.2.2.2 C.1.2.2.2.1 C.2.1 X.1 X.2.1 X.2.2 k (cs_get hs) ok.1 i hi (va_Nw.use (nestW_on _ hl) (C.2.2.1.1 _ hl)) (fun _ h => h) hf (ok.2.2.1 i hi) hn hfit (by rw [List.length_mapIdx]; exact (List.getElem?_eq_some_iff.mp ht).1) hd
    (fun H1 locs1 hP hD hS => kk H1 locs1 (WdA.set hs (by show _ = Sum.inr (ci, _); rw [sl_set ht (v := .int v) (μ' := up μ k i v) (ν' := ν) (by show _ = Value.int _; rw [up_at]) sv_up]) up_ne (fun _ _ => rfl) hP hD hS))
/-- arrays -/
theorem rIald (C : CxA b A p s m args meth c cc nL own D cy ad) (X : WdA b A D cy ad s.heap μ ν H locs) {k n x y : Nat} (hs : (Sp b)[k]? = some (.inr (0, n, x, y))) {i : Int32} (hin : inb i n) (hd : decode cc pc = .ok (.iaload, 1))
    (kk : W p l e R s m args below meth c H locs cells slots Q (F0 m (pc + 1) ls (.int (μ k i.toNatClampNeg) :: rest))) : W p l e R s m args below meth c H locs cells slots Q (F0 m pc ls (.int i :: .ref (ad k) :: rest)) :=
  va_iald C.1.1 C.1.2.1 C.2.1 X.1 k 0 (cs_get hs) rfl hin hd kk
theorem rZald (C : CxA b A p s m args meth c cc nL own D cy ad) (X : WdA b A D cy ad s.heap μ ν H locs) {k n x y : Nat} (hs : (Sp b)[k]? = some (.inr (2, n, x, y))) {i : Int32} (hin : inb i n) (hd : decode cc pc = .ok (.baload, 1))
    (kk : W p l e R s m args below meth c H locs cells slots Q (F0 m (pc + 1) ls (.int (μ k i.toNatClampNeg) :: rest))) : W p l e R s m args below meth c H locs cells slots Q (F0 m pc ls (.int i :: .ref (ad k) :: rest)) :=
  va_zald C.1.1 C.1.2.1 C.2.1 X.1 k 2 (cs_get hs) rfl hin hd kk
theorem rLald (C : CxA b A p s m args meth c cc nL own D cy ad) (X : WdA b A D cy ad s.heap μ ν H locs) {k n x y : Nat} (hs : (Sp b)[k]? = some (.inr (1, n, x, y))) {i : Int32} (hin : inb i n) (hd : decode cc pc = .ok (.laload, 1))
    (kk : W p l e R s m args below meth c H locs cells slots Q (F0 m (pc + 1) ls (.long (ν k i.toNatClampNeg) :: rest))) : W p l e R s m args below meth c H locs cells slots Q (F0 m pc ls (.int i :: .ref (ad k) :: rest)) :=
  va_lald C.1.1 C.1.2.1 C.2.1 X.1 k 1 (cs_get hs) rfl hin hd kk
theorem rIast (C : CxA b A p s m args meth c cc nL own D cy ad) (X : WdA b A D cy ad s.heap μ ν H locs) {k n x y : Nat} (hs : (Sp b)[k]? = some (.inr (0, n, x, y))) {i v : Int32} (hin : inb i n) (hd : decode cc pc = .ok (.iastore, 1))
    (kk : ∀ (H1 : Heap) (locs1 : List Loc), WdA b A D cy ad s.heap (up μ k i.toNatClampNeg v) ν H1 locs1 → W p l e R s m args below meth c H1 locs1 cells slots Q (F0 m (pc + 1) ls rest)) : W p l e R s m args below meth c H locs cells slots Q (F0 m pc ls (.int v :: .int i :: .ref (ad k) :: rest)) :=
  va_iast C.1.1 C.1.2.1 C.2.1 X.1 X.2.1 X.2.2 k 0 (cs_get hs) rfl hin hd (fun H1 locs1 hP hD hS => kk H1 locs1 (WdA.set hs (by show _ = Sum.inl (cy 0, n, Sum.inl _); rw [up_row]) up_ne (fun _ _ => rfl) hP hD hS))
theorem rZast (C : CxA b A p s m args meth c cc nL own D cy ad) (X : WdA b A D cy ad s.heap μ ν H locs) {k n x y : Nat} (hs : (Sp b)[k]? = some (.inr (2, n, x, y))) {i v : Int32} (hin : inb i n) (hd : decode cc pc = .ok (.bastore, 1))
    (kk : ∀ (H1 : Heap) (locs1 : List Loc), WdA b A D cy ad s.heap (up μ k i.toNatClampNeg (vp_nar .boolean v)) ν H1 locs1 → W p l e R s m args below meth c H1 locs1 cells slots Q (F0 m (pc + 1) ls rest)) : W p l e R s m args below meth c H locs cells slots Q (F0 m pc ls (.int v :: .int i :: .ref (ad k) :: rest)) :=
  va_zast C.1.1 C.1.2.1 C.2.1 X.1 X.2.1 X.2.2 k 2 (cs_get hs) rfl hin hd (fun H1 locs1 hP hD hS => kk H1 locs1 (WdA.set hs (by show _ = Sum.inl (cy 2, n, Sum.inl _); rw [up_row]) up_ne (fun _ _ => rfl) hP hD hS))
theorem rLast (C : CxA b A p s m args meth c cc nL own D cy ad) (X : WdA b A D cy ad s.heap μ ν H locs) {k n x y : Nat} (hs : (Sp b)[k]? = some (.inr (1, n, x, y))) {i : Int32} {v : Int64} (hin : inb i n) (hd : decode cc pc = .ok (.lastore, 1))
    (kk : ∀ (H1 : Heap) (locs1 : List Loc), WdA b A D cy ad s.heap μ (upL ν k i.toNatClampNeg v) H1 locs1 → W p l e R s m args below meth c H1 locs1 cells slots Q (F0 m (pc + 1) ls rest)) : W p l e R s m args below meth c H locs cells slots Q (F0 m pc ls (.long v :: .int i :: .ref (ad k) :: rest)) :=
  va_last C.1.1 C.1.2.1 C.2.1 X.1 X.2.1 X.2.2 k 1 (cs_get hs) rfl hin hd (fun H1 locs1 hP hD hS => kk H1 locs1 (WdA.set hs (by show _ = Sum.inl (cy 1, n, Sum.inr (Sum.inl _)); rw [upL_row]) (fun _ _ => rfl) upL_ne hP hD hS))
theorem rAald (C : CxA b A p s m args meth c cc nL own D cy ad) (X : WdA b A D cy ad s.heap μ ν H locs) {k n x y t : Nat} {CN : String} (hs : (Sp b)[k]? = some (.inr (t + 3, n, x, y))) (hty : (tysOf cy)[t + 3]? = some (cy (t + 3), .object CN)) {i : Int32} (hin : inb i n) {k' : Nat} (hk : x + y * i.toNatClampNeg = k') (hd : decode cc pc = .ok (.aaload, 1))
    (kk : W p l e R s m args below meth c H locs cells slots Q (F0 m (pc + 1) ls (.ref (ad k') :: rest))) : W p l e R s m args below meth c H locs cells slots Q (F0 m pc ls (.int i :: .ref (ad k) :: rest)) := by
  subst hk
  exact va_aldq C.1.1 C.1.2.1 C.2.1 X.1 k (t + 3) (cs_get hs) hty hin hd kk
theorem rAlen (C : CxA b A p s m args meth c cc nL own D cy ad) (X : WdA b A D cy ad s.heap μ ν H locs) {k n x y : Nat} (hs : (Sp b)[k]? = some (.inr (0, n, x, y))) {v : Int32} (hv : Int32.ofNat n = v) (hd : decode cc pc = .ok (.arraylength, 1))
    (kk : W p l e R s m args below meth c H locs cells slots Q (F0 m (pc + 1) ls (.int v :: rest))) : W p l e R s m args below meth c H locs cells slots Q (F0 m pc ls (.ref (ad k) :: rest)) :=
  va_alen C.1.1 C.1.2.1 C.2.1 X.1 k 0 (cs_get hs) (ty := .int) rfl hv hd kk
/-- a name for what lies on the stack -/
theorem st_i {v x : Int32} (h : v = x) (k : W p l e R s m args below meth c H locs cells slots Q (F0 m pc ls (.int v :: rest))) : W p l e R s m args below meth c H locs cells slots Q (F0 m pc ls (.int x :: rest)) := h ▸ k
theorem st_l {v x : Int64} (h : v = x) (k : W p l e R s m args below meth c H locs cells slots Q (F0 m pc ls (.long v :: rest))) : W p l e R s m args below meth c H locs cells slots Q (F0 m pc ls (.long x :: rest)) := h ▸ k
end KIT
