/-! the law: rows of calls that keep the other world -/
def apK (b : Bool) (ad : Nat → Nat) (w2 : va_W) : Prop := ∀ (k : Nat) (q : Nat × va_E), w2[k]? = some q → ¬ Ad b ad q.1
section LAWK
variable {p : Program} {l : Launch} {e : Env} {R : Room} {s : State} {m : MethodId} {args : Array Value} {below : List Frame} {meth : Method} {c : Code} {H : Heap} {locs : List Loc} {cells slots : Nat} {Q : State → Prop}
variable {b : Bool} {A : Nat → Prop} {cc : ByteArray} {nL : Nat} {own : String} {D : va_G} {cy : Nat → ClassId} {ad : Nat → Nat} {μ μ' : Mem} {ν ν' : Lem} {pc : Nat} {ls : Array Slot} {rest : List Value} {w2 : va_W}
theorem rLVI {y : MethodName} {bytes : ByteArray} {mL n fr lo idx k ci N : Nat} {ty : FieldType} {T : u_T} {tyf : Nat → FieldType} {sl : List Slt} {r : Int32} {av : (Nat → Nat) → List Value} {As st : List Value} (hct : CtI b y bytes mL fr lo ty av μ ν r μ' ν') (ok : clsOK ci y.cls T N tyf) (hk : lkV y bytes mL (some ty) n) (hl : Cond.methodLink own idx y ∈ tb) (hs : (Sp b)[k]? = some (.inl (ci, sl))) (hav : av ad = .ref (ad k) :: As) (hn : As.length = n)
    (C : CxA b A p s m args meth c cc nL own D cy ad) (X : WdA b A D cy ad s.heap μ ν H locs) (P2 : va_P D vwCl w2 H) (D2 : apK b ad w2) (hst : st = As.reverse ++ .ref (ad k) :: rest) (hrm : (rest.map fun v => v.category).sum ≤ 8) (hsz : ls.size = nL) (hR : fr + 1 ≤ R.frames ∧ 8 + (mL + 11) + lo ≤ R.locals) (hcs : cells ≤ R.cells ∧ slots ≤ R.slots) (hd : decode cc pc = .ok (.invokevirtual idx, 3))
    (kk : ∀ (H1 : Heap) (locs1 : List Loc), WdA b A D cy ad s.heap μ' ν' H1 locs1 → va_P D vwCl w2 H1 → W p l e R s m args below meth c H1 locs1 cells slots Q (F0 m (pc + 3) ls (.int r :: rest))) : W p l e R s m args below meth c H locs cells slots Q (F0 m pc ls st) := by
  subst hst
  have hM := hct l D cy ad
  rw [hav] at hM
  refine va_calli (va_runV C.1 hM (kcV C hk hl hR) (pvV (n := n) C X ok hs) rfl hn hsz rfl (lv_room hrm) hd hcs) X.2.2 (fun q _ h => C.2.2.2.2 q h) (fun q h => C.2.2.2.2 q h) (fun r' u t H1 locs1 ht hvm hw hB hz hkk hS => ?_)
  obtain ⟨rfl, hnr⟩ := hw
  exact kk H1 locs1 ⟨by rw [← ht]; exact hB, cs_D X.2.1, hS⟩ (P2.kept (fun k q hk => hkk q.1 (P2 k q hk).lt (D2 k q hk)))
theorem rLVL {y : MethodName} {bytes : ByteArray} {mL n fr lo idx k ci N : Nat} {T : u_T} {tyf : Nat → FieldType} {sl : List Slt} {r : Int64} {av : (Nat → Nat) → List Value} {As st : List Value} (hct : CtL b y bytes mL fr lo av μ ν r μ' ν') (ok : clsOK ci y.cls T N tyf) (hk : lkV y bytes mL (some .long) n) (hl : Cond.methodLink own idx y ∈ tb) (hs : (Sp b)[k]? = some (.inl (ci, sl))) (hav : av ad = .ref (ad k) :: As) (hn : As.length = n)
    (C : CxA b A p s m args meth c cc nL own D cy ad) (X : WdA b A D cy ad s.heap μ ν H locs) (P2 : va_P D vwCl w2 H) (D2 : apK b ad w2) (hst : st = As.reverse ++ .ref (ad k) :: rest) (hrm : (rest.map fun v => v.category).sum ≤ 8) (hsz : ls.size = nL) (hR : fr + 1 ≤ R.frames ∧ 8 + (mL + 11) + lo ≤ R.locals) (hcs : cells ≤ R.cells ∧ slots ≤ R.slots) (hd : decode cc pc = .ok (.invokevirtual idx, 3))
    (kk : ∀ (H1 : Heap) (locs1 : List Loc), WdA b A D cy ad s.heap μ' ν' H1 locs1 → va_P D vwCl w2 H1 → W p l e R s m args below meth c H1 locs1 cells slots Q (F0 m (pc + 3) ls (.long r :: rest))) : W p l e R s m args below meth c H locs cells slots Q (F0 m pc ls st) := by
  subst hst
  have hM := hct l D cy ad
  rw [hav] at hM
  refine va_calll (va_runV C.1 hM (kcV C hk hl hR) (pvV (n := n) C X ok hs) rfl hn hsz rfl (lv_room hrm) hd hcs) X.2.2 (fun q _ h => C.2.2.2.2 q h) (fun q h => C.2.2.2.2 q h) (fun r' u t H1 locs1 ht hvm hw hB hz hkk hS => ?_)
  cases hw
  exact kk H1 locs1 ⟨by rw [← ht]; exact hB, cs_D X.2.1, hS⟩ (P2.kept (fun k q hk => hkk q.1 (P2 k q hk).lt (D2 k q hk)))
end LAWK
/-- the law's own area: what it makes -/
abbrev lA (s : State) : Nat → Prop := fun q => s.heap.size ≤ q
/-- the law's locals -/
abbrev lLoc (ad5 ad6 : Nat → Nat) (b i : Nat) : List (Nat × Value) := [(3, .int (nI i)), (2, .ref (ad6 0)), (1, .ref (ad5 0)), (0, .ref b)]
/-- what holds throughout the law's run -/
def LC (p : Program) (s : State) (m : MethodId) (meth : Method) (c : Code) (D : va_G) (cy : Nat → ClassId) (ad5 ad6 : Nat → Nat) (b L : Nat) (xs : Nat → Int32) : Prop :=
  CxA true (lA s) p s m #[Value.ref b] meth c code 4 RL D cy ad5 ∧ CxA false (lA s) p s m #[Value.ref b] meth c code 4 RL D cy ad6 ∧ va_D (lA s) (cs (Sp true) cy ad5 μCI ν0) ∧ va_D (lA s) (cs (Sp false) cy ad6 μMI ν0) ∧ (∀ k k', k < 79 → k' < 21 → ad5 k ≠ ad6 k') ∧ va_X b L xs s s.heap ∧ b < s.heap.size ∧ L ≤ 3072
/-- both worlds -/
def LW (s : State) (D : va_G) (cy : Nat → ClassId) (ad5 ad6 : Nat → Nat) (μ : Mem) (ν : Lem) (μM : Mem) (νM : Lem) (H : Heap) (locs : List Loc) : Prop :=
  va_P D vwCl (cs (Sp true) cy ad5 μ ν) H ∧ va_P D vwCl (cs (Sp false) cy ad6 μM νM) H ∧ va_S (lA s) s.heap H locs
theorem cs_ad {S : List Sh} {cy : Nat → ClassId} {ad : Nat → Nat} {μ : Mem} {ν : Lem} {k : Nat} {q : Nat × va_E} (h : (cs S cy ad μ ν)[k]? = some q) : k < S.length ∧ q.1 = ad k := by
  have hl : k < (cs S cy ad μ ν).length := (List.getElem?_eq_some_iff.mp h).1
  rw [cs_len] at hl
  refine ⟨hl, ?_⟩
  rw [cs_get (List.getElem?_eq_getElem hl)] at h
  cases h
  rfl
theorem sp_len : (Sp true).length = 79 ∧ (Sp false).length = 21 := by decide
section LAWR
variable {p : Program} {l : Launch} {e : Env} {s : State} {m : MethodId} {below : List Frame} {meth : Method} {c : Code} {D : va_G} {cy : Nat → ClassId} {ad5 ad6 : Nat → Nat} {b L : Nat} {xs : Nat → Int32} {μ μM μ' : Mem} {ν νM ν' : Lem} {H : Heap} {locs : List Loc} {cells slots pc : Nat} {ls : Array Slot} {rest : List Value} {Q : State → Prop}
theorem LC.ap5 (C : LC p s m meth c D cy ad5 ad6 b L xs) : apK true ad5 (cs (Sp false) cy ad6 μM νM) := by
  intro k q hk h
  obtain ⟨j, hj, hq⟩ := h
  obtain ⟨h1, h2⟩ := cs_ad hk
  rw [sp_len.2] at h1
  rw [sp_len.1] at hj
  exact C.2.2.2.2.1 j k hj h1 (hq.symm.trans h2)
theorem LC.ap6 (C : LC p s m meth c D cy ad5 ad6 b L xs) : apK false ad6 (cs (Sp true) cy ad5 μ ν) := by
  intro k q hk h
  obtain ⟨j, hj, hq⟩ := h
  obtain ⟨h1, h2⟩ := cs_ad hk
  rw [sp_len.1] at h1
  rw [sp_len.2] at hj
  exact C.2.2.2.2.1 k j h1 hj (h2.symm.trans hq)
theorem rK5I {y : MethodName} {bytes : ByteArray} {mL n fr lo idx : Nat} {r : Int32} {av : (Nat → Nat) → List Value} {As st : List Value} (hct : CtI true y bytes mL fr lo .int av μ ν r μ' ν') (hy : y.cls = RX5) (hk : lkV y bytes mL (some .int) n) (hl : Cond.methodLink RL idx y ∈ tb) (hav : av ad5 = .ref (ad5 0) :: As) (hn : As.length = n)
    (C : LC p s m meth c D cy ad5 ad6 b L xs) (X : LW s D cy ad5 ad6 μ ν μM νM H locs) (hst : st = As.reverse ++ .ref (ad5 0) :: rest) (hrm : (rest.map fun v => v.category).sum ≤ 8) (hsz : ls.size = 4) (hR : fr + 1 ≤ room_1.frames ∧ 8 + (mL + 11) + lo ≤ room_1.locals) (hcs : cells ≤ 600000 ∧ slots ≤ 7302250) (hd : decode code pc = .ok (.invokevirtual idx, 3))
    (kk : ∀ (H1 : Heap) (locs1 : List Loc), LW s D cy ad5 ad6 μ' ν' μM νM H1 locs1 → W p l e room_1 s m #[Value.ref b] below meth c H1 locs1 cells slots Q (F0 m (pc + 3) ls (.int r :: rest))) : W p l e room_1 s m #[Value.ref b] below meth c H locs cells slots Q (F0 m pc ls st) :=
  rLVI (k := 0) (w2 := cs (Sp false) cy ad6 μM νM) hct (show clsOK 5 y.cls TX5 13 tyX5 by rw [hy]; exact ok5) hk hl rfl hav hn C.1 ⟨X.1, cs_D C.2.2.1, X.2.2⟩ X.2.1 C.ap5 hst hrm hsz hR hcs hd (fun H1 locs1 X1 P2 => kk H1 locs1 ⟨X1.1, P2, X1.2.2⟩)
theorem rK5L {y : MethodName} {bytes : ByteArray} {mL n fr lo idx : Nat} {r : Int64} {av : (Nat → Nat) → List Value} {As st : List Value} (hct : CtL true y bytes mL fr lo av μ ν r μ' ν') (hy : y.cls = RX5) (hk : lkV y bytes mL (some .long) n) (hl : Cond.methodLink RL idx y ∈ tb) (hav : av ad5 = .ref (ad5 0) :: As) (hn : As.length = n)
    (C : LC p s m meth c D cy ad5 ad6 b L xs) (X : LW s D cy ad5 ad6 μ ν μM νM H locs) (hst : st = As.reverse ++ .ref (ad5 0) :: rest) (hrm : (rest.map fun v => v.category).sum ≤ 8) (hsz : ls.size = 4) (hR : fr + 1 ≤ room_1.frames ∧ 8 + (mL + 11) + lo ≤ room_1.locals) (hcs : cells ≤ 600000 ∧ slots ≤ 7302250) (hd : decode code pc = .ok (.invokevirtual idx, 3))
    (kk : ∀ (H1 : Heap) (locs1 : List Loc), LW s D cy ad5 ad6 μ' ν' μM νM H1 locs1 → W p l e room_1 s m #[Value.ref b] below meth c H1 locs1 cells slots Q (F0 m (pc + 3) ls (.long r :: rest))) : W p l e room_1 s m #[Value.ref b] below meth c H locs cells slots Q (F0 m pc ls st) :=
  rLVL (k := 0) (w2 := cs (Sp false) cy ad6 μM νM) hct (show clsOK 5 y.cls TX5 13 tyX5 by rw [hy]; exact ok5) hk hl rfl hav hn C.1 ⟨X.1, cs_D C.2.2.1, X.2.2⟩ X.2.1 C.ap5 hst hrm hsz hR hcs hd (fun H1 locs1 X1 P2 => kk H1 locs1 ⟨X1.1, P2, X1.2.2⟩)
theorem rK6I {y : MethodName} {bytes : ByteArray} {mL n fr lo idx : Nat} {r : Int32} {av : (Nat → Nat) → List Value} {As st : List Value} (hct : CtI false y bytes mL fr lo .int av μM νM r μ' ν') (hy : y.cls = RX6) (hk : lkV y bytes mL (some .int) n) (hl : Cond.methodLink RL idx y ∈ tb) (hav : av ad6 = .ref (ad6 0) :: As) (hn : As.length = n)
    (C : LC p s m meth c D cy ad5 ad6 b L xs) (X : LW s D cy ad5 ad6 μ ν μM νM H locs) (hst : st = As.reverse ++ .ref (ad6 0) :: rest) (hrm : (rest.map fun v => v.category).sum ≤ 8) (hsz : ls.size = 4) (hR : fr + 1 ≤ room_1.frames ∧ 8 + (mL + 11) + lo ≤ room_1.locals) (hcs : cells ≤ 600000 ∧ slots ≤ 7302250) (hd : decode code pc = .ok (.invokevirtual idx, 3))
    (kk : ∀ (H1 : Heap) (locs1 : List Loc), LW s D cy ad5 ad6 μ ν μ' ν' H1 locs1 → W p l e room_1 s m #[Value.ref b] below meth c H1 locs1 cells slots Q (F0 m (pc + 3) ls (.int r :: rest))) : W p l e room_1 s m #[Value.ref b] below meth c H locs cells slots Q (F0 m pc ls st) :=
  rLVI (k := 0) (w2 := cs (Sp true) cy ad5 μ ν) hct (show clsOK 6 y.cls TX6 44 tyX6 by rw [hy]; exact ok6) hk hl rfl hav hn C.2.1 ⟨X.2.1, cs_D C.2.2.2.1, X.2.2⟩ X.1 C.ap6 hst hrm hsz hR hcs hd (fun H1 locs1 X1 P2 => kk H1 locs1 ⟨P2, X1.1, X1.2.2⟩)
theorem rK6L {y : MethodName} {bytes : ByteArray} {mL n fr lo idx : Nat} {r : Int64} {av : (Nat → Nat) → List Value} {As st : List Value} (hct : CtL false y bytes mL fr lo av μM νM r μ' ν') (hy : y.cls = RX6) (hk : lkV y bytes mL (some .long) n) (hl : Cond.methodLink RL idx y ∈ tb) (hav : av ad6 = .ref (ad6 0) :: As) (hn : As.length = n)
    (C : LC p s m meth c D cy ad5 ad6 b L xs) (X : LW s D cy ad5 ad6 μ ν μM νM H locs) (hst : st = As.reverse ++ .ref (ad6 0) :: rest) (hrm : (rest.map fun v => v.category).sum ≤ 8) (hsz : ls.size = 4) (hR : fr + 1 ≤ room_1.frames ∧ 8 + (mL + 11) + lo ≤ room_1.locals) (hcs : cells ≤ 600000 ∧ slots ≤ 7302250) (hd : decode code pc = .ok (.invokevirtual idx, 3))
    (kk : ∀ (H1 : Heap) (locs1 : List Loc), LW s D cy ad5 ad6 μ ν μ' ν' H1 locs1 → W p l e room_1 s m #[Value.ref b] below meth c H1 locs1 cells slots Q (F0 m (pc + 3) ls (.long r :: rest))) : W p l e room_1 s m #[Value.ref b] below meth c H locs cells slots Q (F0 m pc ls st) :=
  rLVL (k := 0) (w2 := cs (Sp true) cy ad5 μ ν) hct (show clsOK 6 y.cls TX6 44 tyX6 by rw [hy]; exact ok6) hk hl rfl hav hn C.2.1 ⟨X.2.1, cs_D C.2.2.2.1, X.2.2⟩ X.1 C.ap6 hst hrm hsz hR hcs hd (fun H1 locs1 X1 P2 => kk H1 locs1 ⟨P2, X1.1, X1.2.2⟩)
/-- an int of the script on the stack -/
theorem rArg (C : LC p s m meth c D cy ad5 ad6 b L xs) (X : LW s D cy ad5 ad6 μ ν μM νM H locs) {i : Nat} (hi : i + 6 ≤ L) (hl : lv_has ls 4 (lLoc ad5 ad6 b i)) (j : Nat) (hj : j ≤ 5) {jz : Int} (hjz : Int32.ofInt jz = nI j) (d0 : decode code pc = .ok (.aload_n 0, 1)) (d1 : decode code (pc + 1) = .ok (.iload_n 3, 1)) (d2 : decode code (pc + 1 + 1) = .ok (.iconst jz, 1)) (d3 : decode code (pc + 1 + 1 + 1) = .ok (.iadd, 1)) (d4 : decode code (pc + 1 + 1 + 1 + 1) = .ok (.iaload, 1))
    (kk : W p l e room_1 s m #[Value.ref b] below meth c H locs cells slots Q (F0 m (pc + 1 + 1 + 1 + 1 + 1) ls (.int (xs (i + j)) :: rest))) : W p l e room_1 s m #[Value.ref b] below meth c H locs cells slots Q (F0 m pc ls rest) := by
  have hx := C.1.1.1
  have hb := C.1.1.2.1
  have hL := C.2.2.2.2.2.2.2
  have hbl := C.2.2.2.2.2.2.1
  have hbA : ¬ lA s b := Nat.not_le.mpr hbl
  refine lv_aload_n hx hb d0 rfl (lv_at hl 3 rfl) ?_
  refine lv_iload_n hx hb d1 rfl (lv_at hl 0 rfl) ?_
  refine lv_iconst hx hb d2 hjz ?_
  refine lv_iadd hx hb d3 ?_
  rw [nI_add]
  refine va_sld hx hb C.2.2.2.2.2.1 hbl hbA X.2.2 (nI_in (by omega) (by omega)) d4 ?_
  rw [nI_clamp (by omega)]
  exact kk
end LAWR
