/-! My kit: a world of cells of fixed shapes over a memory (a number for each cell and slot), and rows over it. -/
abbrev Mem : Type := Nat → Nat → Int32
abbrev Lem : Type := Nat → Nat → Int64
def up (μ : Mem) (k i : Nat) (v : Int32) : Mem := fun k' i' => if k' = k ∧ i' = i then v else μ k' i'
def upL (ν : Lem) (k i : Nat) (v : Int64) : Lem := fun k' i' => if k' = k ∧ i' = i then v else ν k' i'
def upR (μ : Mem) (k : Nat) (g : Nat → Int32) : Mem := fun k' i' => if k' = k then g i' else μ k' i'
/-- a slot: 0 an int, 1 a long, 2 a cell (which), 3 a cell by a number in the memory (0: none) -/
abbrev Slt : Type := Nat × Nat × Nat
/-- an object: class, slots; or an array: sort, length, first cell, step -/
abbrev Sh : Type := (Nat × List Slt) ⊕ (Nat × Nat × Nat × Nat)
def dynv (ad : Nat → Nat) (b st : Nat) (x : Int32) : Value := if x = 0 then .null else .ref (ad (b + st * (x.toNatClampNeg - 1)))
def sv (ad : Nat → Nat) (μ : Mem) (ν : Lem) (k i : Nat) (t : Slt) : Value := match t.1 with
  | 0 => .int (μ k i)
  | 1 => .long (ν k i)
  | 2 => .ref (ad t.2.1)
  | _ => dynv ad t.2.1 t.2.2 (μ k i)
def ce (cy : Nat → ClassId) (ad : Nat → Nat) (μ : Mem) (ν : Lem) (k : Nat) (h : Sh) : va_E := match h with
  | .inl o => .inr (o.1, o.2.mapIdx (fun i t => sv ad μ ν k i t))
  | .inr a => match a.1 with
    | 0 => .inl (cy 0, a.2.1, .inl (μ k))
    | 1 => .inl (cy 1, a.2.1, .inr (.inl (ν k)))
    | 2 => .inl (cy 2, a.2.1, .inl (μ k))
    | t + 3 => .inl (cy (t + 3), a.2.1, .inr (.inr (.inr (.inr (fun j => some (ad (a.2.2.1 + a.2.2.2 * j)))))))
def cs (S : List Sh) (cy : Nat → ClassId) (ad : Nat → Nat) (μ : Mem) (ν : Lem) : va_W := S.mapIdx (fun k h => (ad k, ce cy ad μ ν k h))
def tysOf (cy : Nat → ClassId) : List (ClassId × FieldType) := [(cy 0, .int), (cy 1, .long), (cy 2, .boolean), (cy 3, .object RX4), (cy 4, .object RX3), (cy 5, .object RX1)]
theorem cs_get {S : List Sh} {cy : Nat → ClassId} {ad : Nat → Nat} {μ : Mem} {ν : Lem} {k : Nat} {h : Sh} (hk : S[k]? = some h) : (cs S cy ad μ ν)[k]? = some (ad k, ce cy ad μ ν k h) := by
  unfold cs
  rw [List.getElem?_mapIdx, hk]
  rfl
theorem sv_congr {ad : Nat → Nat} {μ μ' : Mem} {ν ν' : Lem} {k i : Nat} {t : Slt} (h1 : μ' k = μ k) (h2 : ν' k = ν k) : sv ad μ' ν' k i t = sv ad μ ν k i t := by
  unfold sv
  rw [h1, h2]
theorem ce_congr {cy : Nat → ClassId} {ad : Nat → Nat} {μ μ' : Mem} {ν ν' : Lem} {k : Nat} {h : Sh} (h1 : μ' k = μ k) (h2 : ν' k = ν k) : ce cy ad μ' ν' k h = ce cy ad μ ν k h := by
  unfold ce
  simp only [sv_congr h1 h2, h1, h2]
theorem cs_len {S : List Sh} {cy : Nat → ClassId} {ad : Nat → Nat} {μ : Mem} {ν : Lem} : (cs S cy ad μ ν).length = S.length := by
  unfold cs
  rw [List.length_mapIdx]
theorem cs_set {S : List Sh} {cy : Nat → ClassId} {ad : Nat → Nat} {μ μ' : Mem} {ν ν' : Lem} {k : Nat} {h : Sh} {e : va_E} (hk : S[k]? = some h) (he : e = ce cy ad μ' ν' k h) (h1 : ∀ j, j ≠ k → μ' j = μ j) (h2 : ∀ j, j ≠ k → ν' j = ν j) : (cs S cy ad μ ν).set k (ad k, e) = cs S cy ad μ' ν' := by
  apply List.ext_getElem?
  intro j
  have hl : k < (cs S cy ad μ ν).length := by rw [cs_len]; exact (List.getElem?_eq_some_iff.mp hk).1
  by_cases hj : k = j
  · subst hj
    rw [List.getElem?_set_self hl, cs_get hk, he]
  · rw [List.getElem?_set_ne hj]
    unfold cs
    rw [List.getElem?_mapIdx, List.getElem?_mapIdx, show (fun h => (ad j, ce cy ad μ' ν' j h)) = (fun h => (ad j, ce cy ad μ ν j h)) from funext fun h => by rw [ce_congr (h1 j (Ne.symm hj)) (h2 j (Ne.symm hj))]]
theorem up_ne {μ : Mem} {k i : Nat} {v : Int32} : ∀ j, j ≠ k → up μ k i v j = μ j := by
  intro j hj
  funext i'
  simp [up, hj]
theorem upL_ne {ν : Lem} {k i : Nat} {v : Int64} : ∀ j, j ≠ k → upL ν k i v j = ν j := by
  intro j hj
  funext i'
  simp [upL, hj]
theorem upR_ne {μ : Mem} {k : Nat} {g : Nat → Int32} : ∀ j, j ≠ k → upR μ k g j = μ j := by
  intro j hj
  funext i'
  simp [upR, hj]
theorem up_row {μ : Mem} {k i : Nat} {v : Int32} : up μ k i v k = upd (μ k) i v := by
  funext i'
  simp [up, upd]
theorem upL_row {ν : Lem} {k i : Nat} {v : Int64} : upL ν k i v k = vp_updL (ν k) i v := by
  funext i'
  simp [upL, vp_updL]
theorem upR_row {μ : Mem} {k : Nat} {g : Nat → Int32} : upR μ k g k = g := by
  funext i'
  simp [upR]
theorem sl_set {ad : Nat → Nat} {μ μ' : Mem} {ν ν' : Lem} {k i : Nat} {sl : List Slt} {v : Value} {t : Slt} (ht : sl[i]? = some t) (hv : v = sv ad μ' ν' k i t) (ho : ∀ j t, j ≠ i → sv ad μ' ν' k j t = sv ad μ ν k j t) : (sl.mapIdx (fun i t => sv ad μ ν k i t)).set i v = sl.mapIdx (fun i t => sv ad μ' ν' k i t) := by
  apply List.ext_getElem?
  intro j
  have hl : i < (sl.mapIdx (fun i t => sv ad μ ν k i t)).length := by rw [List.length_mapIdx]; exact (List.getElem?_eq_some_iff.mp ht).1
  by_cases hj : i = j
  · subst hj
    rw [List.getElem?_set_self hl, List.getElem?_mapIdx, ht, hv]
    rfl
  · rw [List.getElem?_set_ne hj, List.getElem?_mapIdx, List.getElem?_mapIdx, show (fun t => sv ad μ' ν' k j t) = (fun t => sv ad μ ν k j t) from funext fun t => ho j t (Ne.symm hj)]
theorem sv_up {ad : Nat → Nat} {μ : Mem} {ν : Lem} {k i : Nat} {v : Int32} : ∀ (j : Nat) (t : Slt), j ≠ i → sv ad (up μ k i v) ν k j t = sv ad μ ν k j t := by
  intro j t hj
  have : up μ k i v k j = μ k j := by simp [up, hj]
  unfold sv
  rw [this]
theorem sv_upL {ad : Nat → Nat} {μ : Mem} {ν : Lem} {k i : Nat} {v : Int64} : ∀ (j : Nat) (t : Slt), j ≠ i → sv ad μ (upL ν k i v) k j t = sv ad μ ν k j t := by
  intro j t hj
  have : upL ν k i v k j = ν k j := by simp [upL, hj]
  unfold sv
  rw [this]
theorem up_at {μ : Mem} {k i : Nat} {v : Int32} : up μ k i v k i = v := by simp [up]
theorem upL_at {ν : Lem} {k i : Nat} {v : Int64} : upL ν k i v k i = v := by simp [upL]
/-- guards, names, binds of the pure functions -/
def gd {α : Type} (c : Prop) [Decidable c] (x : Option α) : Option α := if c then x else none
def nm {α β : Type} (x : α) (k : α → β) : β := k x
def bd1 {α β : Type} (x : Option α) (k : α → Option β) : Option β := match x with | none => none | some a => k a
def bd2 {α γ β : Type} (x : Option (α × γ)) (k : α → γ → Option β) : Option β := match x with | none => none | some a => k a.1 a.2
def bd3 {α γ δ β : Type} (x : Option (α × γ × δ)) (k : α → γ → δ → Option β) : Option β := match x with | none => none | some a => k a.1 a.2.1 a.2.2
def pr2 {α γ β : Type} (x : α × γ) (k : α → γ → β) : β := k x.1 x.2
def pr3 {α γ δ β : Type} (x : α × γ × δ) (k : α → γ → δ → β) : β := k x.1 x.2.1 x.2.2
theorem gd_e {α : Type} {c : Prop} [Decidable c] {x : Option α} {r : α} (h : gd c x = some r) : c ∧ x = some r := by
  unfold gd at h
  by_cases hc : c
  · rw [if_pos hc] at h; exact ⟨hc, h⟩
  · rw [if_neg hc] at h; cases h
theorem gd_i {α : Type} {c : Prop} [Decidable c] {x : Option α} (hc : c) : gd c x = x := if_pos hc
theorem bd1_e {α β : Type} {x : Option α} {k : α → Option β} {r : β} (h : bd1 x k = some r) : ∃ a, x = some a ∧ k a = some r := by
  cases x with
  | none => cases h
  | some a => exact ⟨a, rfl, h⟩
theorem bd2_e {α γ β : Type} {x : Option (α × γ)} {k : α → γ → Option β} {r : β} (h : bd2 x k = some r) : ∃ a c, x = some (a, c) ∧ k a c = some r := by
  cases x with
  | none => cases h
  | some a => exact ⟨a.1, a.2, rfl, h⟩
theorem bd3_e {α γ δ β : Type} {x : Option (α × γ × δ)} {k : α → γ → δ → Option β} {r : β} (h : bd3 x k = some r) : ∃ a c d, x = some (a, c, d) ∧ k a c d = some r := by
  cases x with
  | none => cases h
  | some a => exact ⟨a.1, a.2.1, a.2.2, rfl, h⟩
theorem pr2_e {α γ β : Type} {x : α × γ} {k : α → γ → β} {r : β} (h : pr2 x k = r) : ∃ a c, x = (a, c) ∧ k a c = r := ⟨x.1, x.2, rfl, h⟩
theorem pr3_e {α γ δ β : Type} {x : α × γ × δ} {k : α → γ → δ → β} {r : β} (h : pr3 x k = r) : ∃ a c d, x = (a, c, d) ∧ k a c d = r := ⟨x.1, x.2.1, x.2.2, rfl, h⟩
theorem nm_e2 {α β : Type} {x : α} {k : α → β} {r : β} (h : nm x k = r) : ∃ y, y = x ∧ k y = r := ⟨x, rfl, h⟩
theorem ifp {α : Type} {c : Prop} [Decidable c] {a b r : α} (hc : c) (h : (if c then a else b) = r) : a = r := by rw [if_pos hc] at h; exact h
theorem ifn {α : Type} {c : Prop} [Decidable c] {a b r : α} (hc : ¬ c) (h : (if c then a else b) = r) : b = r := by rw [if_neg hc] at h; exact h
/-- the loops' bound: far above any -/
def FUEL : Nat := 100000
theorem FUEL_eq : FUEL = 100000 := rfl
