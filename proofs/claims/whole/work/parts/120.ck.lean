/-! constructors: worlds that grow -/
def csF (cy : Nat → ClassId) (ad : Nat → Nat) (μ : Mem) (ν : Lem) : Nat → List Sh → va_W
  | _, [] => []
  | k, h :: t => (ad k, ce cy ad μ ν k h) :: csF cy ad μ ν (k + 1) t
theorem csF_get {cy : Nat → ClassId} {ad : Nat → Nat} {μ : Mem} {ν : Lem} : ∀ (S : List Sh) (i j : Nat), (csF cy ad μ ν i S)[j]? = S[j]?.map (fun h => (ad (i + j), ce cy ad μ ν (i + j) h)) := by
  intro S
  induction S with
  | nil => intro i j; rfl
  | cons h t ih =>
    intro i j
    cases j with
    | zero => rfl
    | succ j =>
      show (csF cy ad μ ν (i + 1) t)[j]? = _
      rw [ih (i + 1) j, show i + 1 + j = i + (j + 1) by omega]
      rfl
theorem cs_csF {S : List Sh} {cy : Nat → ClassId} {ad : Nat → Nat} {μ : Mem} {ν : Lem} : cs S cy ad μ ν = csF cy ad μ ν 0 S := by
  apply List.ext_getElem?
  intro j
  rw [csF_get, Nat.zero_add]
  unfold cs
  rw [List.getElem?_mapIdx]
theorem va_D_fst {A : Nat → Prop} {w1 w2 : va_W} (h : va_D A w1) (he : w2.map Prod.fst = w1.map Prod.fst) : va_D A w2 := by
  have key : ∀ (k : Nat) (q : Nat × va_E), w2[k]? = some q → ∃ e, w1[k]? = some (q.1, e) := by
    intro k q hq
    have h1 : (w2.map Prod.fst)[k]? = some q.1 := by rw [List.getElem?_map, hq]; rfl
    rw [he, List.getElem?_map] at h1
    cases hk : w1[k]? with
    | none => rw [hk] at h1; cases h1
    | some x =>
      rw [hk] at h1
      refine ⟨x.2, ?_⟩
      have : x.1 = q.1 := Option.some.inj h1
      rw [← this]
  refine ⟨fun i j x y hi hj hxy => ?_, fun k q hk => ?_⟩
  · obtain ⟨e1, h1⟩ := key i x hi
    obtain ⟨e2, h2⟩ := key j y hj
    exact h.1 i j _ _ h1 h2 hxy
  · obtain ⟨e, h1⟩ := key k q hk
    exact h.2 k (q.1, e) h1
theorem arrV_congr {cA : ClassId} {n : Nat} {f g : Nat → Value} (h : ∀ j, j < n → f j = g j) : arrV cA n f = arrV cA n g := by
  unfold arrV
  congr 1
  congr 1
  funext j
  exact h j.val j.isLt
/-- a row of references is told by its first n alone -/
theorem pArr {D : va_G} {cl : List vw_C} {ws : va_W} {H : Heap} (hP : va_P D cl ws H) (k : Nat) {a : Nat} {cA : ClassId} {n : Nat} {f : Nat → Option Nat} (g : Nat → Option Nat) (he : ws[k]? = some (a, .inl (cA, n, .inr (.inr (.inr (.inr f)))))) (hfg : ∀ j, j < n → f j = g j) : va_P D cl (ws.set k (a, .inl (cA, n, .inr (.inr (.inr (.inr g)))))) H := by
  intro i q hq
  have hl : k < ws.length := (List.getElem?_eq_some_iff.mp he).1
  by_cases hi : k = i
  · subst hi
    rw [List.getElem?_set_self hl] at hq
    cases hq
    have h1 := hP k _ he
    show H[a]? = some (vp_cell cA _)
    have h2 : H[a]? = some (vp_cell cA (n, .inr (.inr (.inr (.inr f))))) := h1
    rw [h2, vp_cell_q, vp_cell_q]
    exact congrArg some (arrV_congr fun j hj => by rw [hfg j hj])
  · rw [List.getElem?_set_ne hi] at hq
    exact hP i q hq
theorem set_fst {ws : va_W} {k a : Nat} {e e' : va_E} (he : ws[k]? = some (a, e)) : (ws.set k (a, e')).map Prod.fst = ws.map Prod.fst := by
  rw [List.map_set]
  apply List.ext_getElem?
  intro j
  have hl : k < ws.length := (List.getElem?_eq_some_iff.mp he).1
  by_cases hj : k = j
  · subst hj
    rw [List.getElem?_set_self (by rw [List.length_map]; exact hl), List.getElem?_map, he]
    rfl
  · rw [List.getElem?_set_ne hj]
/-- what constructors ask of the state -/
def KO (D : va_G) (cy : Nat → ClassId) (U : State) : Prop := va_K D vwCl (tysOf cy) U ∧ NW U ∧ va_AO RX4 U ∧ va_AO RX3 U ∧ va_AO RX1 U
theorem KO.warm {D : va_G} {cy : Nat → ClassId} {s U : State} (hW : s.WarmedH U.vm) (h : KO D cy s) : KO D cy U := ⟨va_K.moved hW.alike h.1, h.2.1.warm hW, va_AO.moved hW.alike h.2.2.1, va_AO.moved hW.alike h.2.2.2.1, va_AO.moved hW.alike h.2.2.2.2⟩
theorem KO.same {D : va_G} {cy : Nat → ClassId} {u U : State} (hv : u.vm = U.vm) (h : KO D cy u) : KO D cy U := by
  have ha : u.vm.Alike U.vm := by rw [hv]; exact Vm.Alike.refl U.vm
  exact ⟨va_K.moved ha h.1, h.2.1.same hv, va_AO.moved ha h.2.2.1, va_AO.moved ha h.2.2.2.1, va_AO.moved ha h.2.2.2.2⟩
abbrev W1 (h0 ci : Nat) (fs : List Value) : va_W := [(h0, .inr (ci, fs))]
abbrev romN (fr mc ms lo : Nat) : Room := { frames := fr, cells := mc, slots := ms, locals := lo }
def PreN (D : va_G) (cy : Nat → ClassId) (h0 sz ci : Nat) (fs : List Value) (U : State) : Prop := U.heap.size = sz ∧ va_P D vwCl (W1 h0 ci fs) U.heap ∧ va_D (fun _ => True) (W1 h0 ci fs) ∧ KO D cy U
def CtN (cy : Nat → ClassId) (y : MethodName) (cc : ByteArray) (mL fr lo mc ms ci : Nat) (fs : List Value) (mk : Nat → (Nat → Nat) → va_W) : Prop :=
  ∀ (l : Launch) (D : va_G) (h0 sz : Nat), Met l y (.code y cc mL none :: tb) (romN fr mc ms lo) (va_Pc [.ref h0] (PreN D cy h0 sz ci fs)) (va_Qv (fun (_ : Nat → Nat) => True) (fun u t => va_P D vwCl (mk h0 u) t.heap ∧ va_D (va_A (W1 h0 ci fs) sz) (mk h0 u)) (va_A (W1 h0 ci fs) sz)) mc ms (va_A (W1 h0 ci fs) sz)
theorem PreN.blind {D : va_G} {cy : Nat → ClassId} {h0 sz ci : Nat} {fs : List Value} {av : List Value} : FrameBlind (va_Pc av (PreN D cy h0 sz ci fs)) := fun a U g mk q => by
  obtain ⟨q0, q1, qP, qD, qK⟩ := q
  exact ⟨q0, q1, qP, qD, KO.same (u := U) (U := U.calling g mk a) rfl qK⟩
section CTOR
variable {p : Program} {l : Launch} {e : Env} {R : Room} {s : State} {m : MethodId} {args : Array Value} {below : List Frame} {meth : Method} {c : Code} {H : Heap} {locs : List Loc} {cells slots : Nat} {Q : State → Prop}
variable {A : Nat → Prop} {H0 : Heap} {cc : ByteArray} {nL : Nat} {own : String} {D : va_G} {cy : Nat → ClassId} {pc : Nat} {ls : Array Slot} {rest : List Value} {ws : va_W}
/-- what a constructor stands on -/
def CK (A : Nat → Prop) (H0 : Heap) (p : Program) (s : State) (m : MethodId) (args : Array Value) (meth : Method) (c : Code) (cc : ByteArray) (nL : Nat) (own : String) (D : va_G) (cy : Nat → ClassId) : Prop := CallFix p m c cc nL s args tb own ∧ KO D cy s ∧ (∀ q, H0.size ≤ q → A q) ∧ meth.name = "<init>" ∧ meth.locks = false
/-- its world -/
def WK (A : Nat → Prop) (H0 : Heap) (D : va_G) (ws : va_W) (H : Heap) (locs : List Loc) : Prop := va_P D vwCl ws H ∧ va_D A ws ∧ va_S A H0 H locs
theorem kObj {idx : Nat} (C : CK A H0 p s m args meth c cc nL own D cy) (hl : Cond.methodLink own idx Lib.objectInit ∈ tb) (hi : Cond.instanceMethod Lib.objectInit ∈ tb) (hc : Cond.code Lib.objectInit ⟨#[0xb1]⟩ 1 none ∈ tb) (hsz : ls.size = nL) {a : Nat} (hfr : 1 ≤ R.frames) (hlo : (rest.map fun v => v.category).sum + 12 ≤ R.locals) (hd : decode cc pc = .ok (.invokespecial idx, 3))
    (kk : W p l e R s m args below meth c H locs cells slots Q (F0 m (pc + 3) ls rest)) : W p l e R s m args below meth c H locs cells slots Q (F0 m pc ls (.ref a :: rest)) :=
  W.objInit C.1.1 C.1.2.1 C.1.2.2.2.1 (C.1.2.2.2.2 _ hl) (C.1.2.2.2.2 _ hi) (C.1.2.2.2.2 _ hc) rfl (hsz.trans C.1.2.2.1.symm) rfl hd hfr (by show 2 * 0 + _ + 12 ≤ _; omega) kk
theorem kNew (C : CK A H0 p s m args meth c cc nL own D cy) (X : WK A H0 D ws H locs) {ci : Nat} {CN : String} {T : u_T} {N : Nat} {ty : Nat → FieldType} (ok : clsOK ci CN T N ty) {idx : Nat} (hcl : Cond.classLink own idx CN ∈ tb) (hinst : Cond.instantiable CN N ∈ tb) (hini : Cond.initialized CN ∈ tb) {fs : List Value} (hfs : ∀ j, j < N → defaultValue (ty j) = vp_V fs j) (hcells : cells + 1 ≤ R.cells) (hslots : slots + N ≤ R.slots) (hd : decode cc pc = .ok (.new idx, 3))
    (kk : ∀ (q : Nat) (H1 : Heap), WK A H0 D (ws ++ [(q, .inr (ci, fs))]) H1 locs → W p l e R s m args below meth c H1 locs (cells + 1) (slots + N) Q (F0 m (pc + 3) ls (.ref q :: rest))) : W p l e R s m args below meth c H locs cells slots Q (F0 m pc ls rest) :=
  va_new C.1.1 C.1.2.1 C.1.2.2.2.2 ok.2.1 ty ok.2.2.1 C.1.2.2.2.1 (C.1.2.2.2.2 _ hcl) (C.1.2.2.2.2 _ hinst) (C.1.2.2.2.2 _ hini) C.2.1.1 X.1 X.2.1 X.2.2 C.2.2.1 ok.1 hfs hcells hslots hd (fun q H1 hP hD hS => kk q H1 ⟨hP, hD, hS⟩)
theorem kArr (C : CK A H0 p s m args meth c cc nL own D cy) (X : WK A H0 D ws H locs) {atype : ArrayType} {ty : FieldType} (hty : newarray.typeOf atype = ty) (harr : Cond.arrayClass (newarray.typeOf atype) ∈ tb) (t : Nat) (ht : (tysOf cy)[t]? = some (cy t, ty)) (hra : ∀ (U : State) (x : ClassId), va_RA U x ty → U.vm.findClass ("[" ++ ty.toString) = some x) {n : Int32} {N : Nat} {a0 : vp_A} (ha : ∀ cA : ClassId, vp_cell cA a0 = arrV cA N (fun _ => defaultValue ty)) (hn : ¬ n < 0) (hN : n.toNatClampNeg = N) (hbytes : N * componentBytes ty ≤ 536870912) (hcells : cells + 1 ≤ R.cells) (hslots : slots + N ≤ R.slots) (hd : decode cc pc = .ok (.newarray atype, 2))
    (kk : ∀ (q : Nat) (H1 : Heap), WK A H0 D (ws ++ [(q, .inl (cy t, a0))]) H1 locs → W p l e R s m args below meth c H1 locs (cells + 1) (slots + N) Q (F0 m (pc + 2) ls (.ref q :: rest))) : W p l e R s m args below meth c H locs cells slots Q (F0 m pc ls (.int n :: rest)) := by
  refine va_newa C.1.1 C.1.2.1 (C.1.2.2.2.2 _ harr) hty C.2.1.1 X.1 X.2.1 X.2.2 C.2.2.1 ha hn hN hbytes hcells hslots hd (fun q cA H1 hK hP hD hS => ?_)
  have h1 := hK.2 (tysOf cy).length (cA, ty) (by rw [List.getElem?_append_right (Nat.le_refl _), Nat.sub_self]; rfl)
  have h2 := C.2.1.1.2 t _ ht
  have h3 := hra s _ h1.2
  have h4 := hra s _ h2.2
  have h5 : cA = cy t := Option.some.inj (h3.symm.trans h4)
  subst h5
  exact kk q H1 ⟨hP, hD, hS⟩
theorem kArrQ (C : CK A H0 p s m args meth c cc nL own D cy) (X : WK A H0 D ws H locs) {CN : String} {idx : Nat} (hcl : Cond.classLink own idx CN ∈ tb) (hao : va_AO CN s) (t : Nat) (ht : (tysOf cy)[t]? = some (cy t, .object CN)) {n : Int32} {N : Nat} (hn : ¬ n < 0) (hN : n.toNatClampNeg = N) (hbytes : N * 4 ≤ 536870912) (hcells : cells + 1 ≤ R.cells) (hslots : slots + N ≤ R.slots) (hd : decode cc pc = .ok (.anewarray idx, 3))
    (kk : ∀ (q : Nat) (H1 : Heap), WK A H0 D (ws ++ [(q, .inl (cy t, N, .inr (.inr (.inr (.inr (fun _ => none))))))]) H1 locs → W p l e R s m args below meth c H1 locs (cells + 1) (slots + N) Q (F0 m (pc + 3) ls (.ref q :: rest))) : W p l e R s m args below meth c H locs cells slots Q (F0 m pc ls (.int n :: rest)) := by
  refine va_newq C.1.1 C.1.2.1 C.1.2.2.2.1 (C.1.2.2.2.2 _ hcl) hao C.2.1.1 X.1 X.2.1 X.2.2 C.2.2.1 hn hN hbytes hcells hslots hd (fun q cA H1 hK hP hD hS => ?_)
  have h1 := hK.2 (tysOf cy).length (cA, .object CN) (by rw [List.getElem?_append_right (Nat.le_refl _), Nat.sub_self]; rfl)
  have h2 := C.2.1.1.2 t _ ht
  obtain ⟨-, kA, comp, -, -, -, h3⟩ := h1
  obtain ⟨-, kA2, comp2, -, -, -, h4⟩ := h2
  have h5 : cA = cy t := Option.some.inj (h3.symm.trans h4)
  subst h5
  exact kk q H1 ⟨hP, hD, hS⟩
theorem kPutF (C : CK A H0 p s m args meth c cc nL own D cy) (X : WK A H0 D ws H locs) {ci : Nat} {CN : String} {T : u_T} {N : Nat} {ty : Nat → FieldType} (ok : clsOK ci CN T N ty) (k : Nat) {a : Nat} {fs : List Value} (he : ws[k]? = some (a, .inr (ci, fs))) (i : Nat) (hi : i < N) {idx : Nat} (hl : Cond.fieldLink own idx (T i).1 (T i).2.1 (T i).2.2.1 ∈ tb) (hf : (T i).2.2.2 = true) (hown : (T i).1 = own) {v : Value} (hn : narrow (ty i) v = v) (hfit : fits (ty i) v = true) (hlen : i < fs.length) {ws' : va_W} (hws : ws.set k (a, .inr (ci, fs.set i v)) = ws') (hd : decode cc pc = .ok (.putfield idx, 3))
    (kk : ∀ (H1 : Heap) (locs1 : List Loc), WK A H0 D ws' H1 locs1 → W p l e R s m args below meth c H1 locs1 cells slots Q (F0 m (pc + 3) ls rest)) : W p l e R s m args below meth c H locs cells slots Q (F0 m pc ls (v :: .ref a :: rest)) := by
  subst hws
  exact va_putF C.1.1 C.1.2.1 C.1.2.2.2.2 ok.2.1 ty ok.2.2.1 ok.2.2.2 C.1.2.2.2.1 C.2.1.1 X.1 X.2.1 X.2.2 k he ok.1 i hi (C.1.2.2.2.2 _ hl) (fun _ h => h) hf C.2.2.2.1 hown (ok.2.2.1 i hi) hn hfit hlen hd (fun H1 locs1 hP hD hS => kk H1 locs1 ⟨hP, hD, hS⟩)
theorem kPut (C : CK A H0 p s m args meth c cc nL own D cy) (X : WK A H0 D ws H locs) {ci : Nat} {CN : String} {T : u_T} {N : Nat} {ty : Nat → FieldType} (ok : clsOK ci CN T N ty) (k : Nat) {a : Nat} {fs : List Value} (he : ws[k]? = some (a, .inr (ci, fs))) (i : Nat) (hi : i < N) {idx : Nat} (hl : Cond.fieldLink own idx (T i).1 (T i).2.1 (T i).2.2.1 ∈ tb) (hf : (T i).2.2.2 = false) {v : Value} (hn : narrow (ty i) v = v) (hfit : fits (ty i) v = true) (hlen : i < fs.length) {ws' : va_W} (hws : ws.set k (a, .inr (ci, fs.set i v)) = ws') (hd : decode cc pc = .ok (.putfield idx, 3))
    (kk : ∀ (H1 : Heap) (locs1 : List Loc), WK A H0 D ws' H1 locs1 → W p l e R s m args below meth c H1 locs1 cells slots Q (F0 m (pc + 3) ls rest)) : W p l e R s m args below meth c H locs cells slots Q (F0 m pc ls (v :: .ref a :: rest)) := by
  subst hws
  exact va_put C.1.1 C.1.2.1 C.1.2.2.2.2 ok.2.1 ty ok.2.2.1 ok.2.2.2 C.1.2.2.2.1 C.2.1.1 X.1 X.2.1 X.2.2 k he ok.1 i hi (C.1.2.2.2.2 _ hl) (fun _ h => h) hf (ok.2.2.1 i hi) hn hfit hlen hd (fun H1 locs1 hP hD hS => kk H1 locs1 ⟨hP, hD, hS⟩)
theorem kGet (C : CK A H0 p s m args meth c cc nL own D cy) (X : WK A H0 D ws H locs) {ci : Nat} {CN : String} {T : u_T} {N : Nat} {ty : Nat → FieldType} (ok : clsOK ci CN T N ty) (k : Nat) {a : Nat} {fs : List Value} (he : ws[k]? = some (a, .inr (ci, fs))) (i : Nat) (hi : i < N) {idx : Nat} (hl : Cond.fieldLink own idx (T i).1 (T i).2.1 (T i).2.2.1 ∈ tb) {v : Value} (hv : fs[i]? = some v) (hd : decode cc pc = .ok (.getfield idx, 3))
    (kk : W p l e R s m args below meth c H locs cells slots Q (F0 m (pc + 3) ls (v :: rest))) : W p l e R s m args below meth c H locs cells slots Q (F0 m pc ls (.ref a :: rest)) :=
  va_get C.1.1 C.1.2.1 C.1.2.2.2.2 ok.2.1 C.1.2.2.2.1 C.2.1.1 X.1 k he ok.1 i hi (C.1.2.2.2.2 _ hl) (fun _ h => h) hv hd kk
theorem kAst (C : CK A H0 p s m args meth c cc nL own D cy) (X : WK A H0 D ws H locs) (k t kv ci : Nat) {a N v : Nat} {CN : String} {T : u_T} {NF : Nat} {ty : Nat → FieldType} (ok : clsOK ci CN T NF ty) {vs : List Value} {f : Nat → Option Nat} (ha : ws[k]? = some (a, .inl (cy t, N, .inr (.inr (.inr (.inr f)))))) (ht : (tysOf cy)[t]? = some (cy t, .object CN)) (hv : ws[kv]? = some (v, .inr (ci, vs))) {i : Int32} (hin : vp_in i N) {ws' : va_W} (hws : ws.set k (a, .inl (cy t, N, .inr (.inr (.inr (.inr (va_up f i.toNatClampNeg (some v))))))) = ws') (hd : decode cc pc = .ok (.aastore, 1))
    (kk : ∀ (H1 : Heap) (locs1 : List Loc), WK A H0 D ws' H1 locs1 → W p l e R s m args below meth c H1 locs1 cells slots Q (F0 m (pc + 1) ls rest)) : W p l e R s m args below meth c H locs cells slots Q (F0 m pc ls (.ref v :: .int i :: .ref a :: rest)) := by
  subst hws
  exact va_astq C.1.1 C.1.2.1 C.2.1.1 X.1 X.2.1 X.2.2 k t kv ci ha ht hv ok.1 hin hd (fun H1 locs1 hP hD hS => kk H1 locs1 ⟨hP, hD, hS⟩)
/-- behind a constructor's call: the cells there were, and the new one's world -/
theorem kJoin {w0 w1 : va_W} {h0 ci : Nat} {fs : List Value} {H1 : Heap} (hP : va_P D vwCl (w0 ++ W1 h0 ci fs) H) (hD : va_D A (w0 ++ W1 h0 ci fs)) (hS : va_S A H0 H locs) (hA : ∀ q, H0.size ≤ q → A q) (hk : ∀ q : Nat, q < H.size → ¬ va_A (W1 h0 ci fs) H.size q → H1[q]? = H[q]?) (hP1 : va_P D vwCl w1 H1) (hD1 : va_D (va_A (W1 h0 ci fs) H.size) w1) : va_P D vwCl (w0 ++ w1) H1 ∧ va_D A (w0 ++ w1) ∧ ∀ q, va_A (W1 h0 ci fs) H.size q → A q := by
  have hlast : (w0 ++ W1 h0 ci fs)[w0.length]? = some (h0, .inr (ci, fs)) := by
    rw [List.getElem?_append_right (Nat.le_refl _), Nat.sub_self]; rfl
  have hF : ∀ q, va_A (W1 h0 ci fs) H.size q → A q := by
    intro q h
    rcases h with ⟨k, e, h⟩ | h
    · cases k with
      | zero => cases h; exact hD.2 _ _ hlast
      | succ k => cases h
    · exact hA q (Nat.le_trans hS.1 h)
  have hw0 : ∀ (k : Nat) (q : Nat × va_E), w0[k]? = some q → (w0 ++ W1 h0 ci fs)[k]? = some q := by
    intro k q hq
    rw [List.getElem?_append_left (List.getElem?_eq_some_iff.mp hq).1]
    exact hq
  have apart : ∀ (k : Nat) (q : Nat × va_E), w0[k]? = some q → q.1 < H.size ∧ ¬ va_A (W1 h0 ci fs) H.size q.1 := by
    intro k q hq
    have hl := (hP k q (hw0 k q hq)).lt
    refine ⟨hl, fun h => ?_⟩
    rcases h with ⟨k2, e, h⟩ | h
    · cases k2 with
      | zero =>
        have h9 : q.1 = h0 := by cases h; rfl
        have := hD.1 k w0.length q _ (hw0 k q hq) hlast h9
        have h8 := (List.getElem?_eq_some_iff.mp hq).1
        omega
      | succ k2 => cases h
    · omega
  have hD0 : va_D A w0 := ⟨fun i j x y hi hj hxy => hD.1 i j x y (hw0 i x hi) (hw0 j y hj) hxy, fun k q hk => hD.2 k q (hw0 k q hk)⟩
  refine ⟨va_P.app (fun k q hq => ?_) hP1, va_D.app hD0 (hD1.weaken (fun k q _ h => hF q.1 h)) (fun i j x y hx hy hxy => ?_), hF⟩
  · obtain ⟨g1, g2⟩ := apart k q hq
    exact (hP k q (hw0 k q hq)).kept (hk q.1 g1 g2)
  · exact (apart i x hx).2 (by rw [hxy]; exact hD1.2 j y hy)
theorem kPre {w0 : va_W} {h0 ci : Nat} {fs : List Value} (C : CK A H0 p s m args meth c cc nL own D cy) (X : WK A H0 D (w0 ++ W1 h0 ci fs) H locs) {U : State} (hU : U.heap = H) (hW : s.WarmedH U.vm) : va_Pc [.ref h0] (PreN D cy h0 H.size ci fs) ([Value.ref h0] : List Value).toArray U := by
  have hlast : (w0 ++ W1 h0 ci fs)[w0.length]? = some (h0, .inr (ci, fs)) := by
    rw [List.getElem?_append_right (Nat.le_refl _), Nat.sub_self]; rfl
  refine ⟨rfl, by rw [hU], ?_, ⟨fun i j x y hi hj _ => ?_, fun _ _ _ => trivial⟩, C.2.1.warm hW⟩
  · intro k q hq
    cases k with
    | zero => cases hq; rw [hU]; exact X.1 _ _ hlast
    | succ k => cases hq
  · have h1 := (List.getElem?_eq_some_iff.mp hi).1
    have h2 := (List.getElem?_eq_some_iff.mp hj).1
    simp at h1 h2
    omega
theorem kCall {w0 : va_W} {h0 ci : Nat} {fs : List Value} {y : MethodName} {bytes : ByteArray} {mL fr lo mc ms idx : Nat} {mk : Nat → (Nat → Nat) → va_W} (hct : CtN cy y bytes mL fr lo mc ms ci fs mk) (C : CK A H0 p s m args meth c cc nL own D cy) (X : WK A H0 D (w0 ++ W1 h0 ci fs) H locs) (hco : Cond.code y bytes mL none ∈ tb) (hini : Cond.initialized y.cls ∈ tb) (hin : Cond.instanceMethod y ∈ tb) (hl : Cond.methodLink own idx y ∈ tb) (hyn : y.name = "<init>") (hy : lkD y 0) (hsz : ls.size = nL) (hrm : (rest.map fun v => v.category).sum ≤ 8) (hR : fr + 1 ≤ R.frames ∧ 8 + (mL + 11) + lo ≤ R.locals) (hcs : cells + mc ≤ R.cells ∧ slots + ms ≤ R.slots) (hd : decode cc pc = .ok (.invokespecial idx, 3))
    (kk : ∀ (u : Nat → Nat) (H1 : Heap) (locs1 : List Loc), WK A H0 D (w0 ++ mk h0 u) H1 locs1 → W p l e R s m args below meth c H1 locs1 (cells + mc) (slots + ms) Q (F0 m (pc + 3) ls rest)) : W p l e R s m args below meth c H locs cells slots Q (F0 m pc ls (.ref h0 :: rest)) := by
  have hM := hct l D h0 H.size
  have hF : ∀ q, va_A (W1 h0 ci fs) H.size q → A q := (kJoin (w1 := []) X.1 X.2.1 X.2.2 C.2.2.1 (fun _ _ _ => rfl) (fun k q h => by simp at h) ⟨fun i j p q h => by simp at h, fun k q h => by simp at h⟩).2.2
  refine va_callv (va_runI (As := []) C.1 hM ⟨callB_of 0 C.1.2.2.2.2 (tb_cons hco) rfl rfl rfl (C.1.2.2.2.2 _ hini) (C.1.2.2.2.2 _ hl) hy hR, hyn, C.1.2.2.2.2 _ hin⟩ ⟨PreN.blind, fun U hU hW => kPre C X hU hW⟩ rfl rfl hsz rfl (lv_room hrm) hd hcs) X.2.2 (fun q _ h => hF q h) hF (fun u t H1 locs1 ht hvm hw hB hz hkk hS => ?_)
  obtain ⟨hP1, hD1⟩ := hB
  rw [ht] at hP1
  obtain ⟨g1, g2, -⟩ := kJoin X.1 X.2.1 X.2.2 C.2.2.1 hkk hP1 hD1
  exact kk u H1 locs1 ⟨g1, g2, hS⟩
theorem kCallN {w0 : va_W} {h0 ci : Nat} {fs : List Value} {y : MethodName} {host : String} {bytes : ByteArray} {mL fr lo mc ms idx : Nat} {mk : Nat → (Nat → Nat) → va_W} (hct : CtN cy y bytes mL fr lo mc ms ci fs mk) (C : CK A H0 p s m args meth c cc nL own D cy) (X : WK A H0 D (w0 ++ W1 h0 ci fs) H locs) (hco : Cond.code y bytes mL none ∈ tb) (hini : Cond.initialized y.cls ∈ tb) (hin : Cond.instanceMethod y ∈ tb) (hl : Cond.methodLinkNest own idx y host ∈ nestW) (hyn : y.name = "<init>") (hy : lkD y 0) (hsz : ls.size = nL) (hrm : (rest.map fun v => v.category).sum ≤ 8) (hR : fr + 1 ≤ R.frames ∧ 8 + (mL + 11) + lo ≤ R.locals) (hcs : cells + mc ≤ R.cells ∧ slots + ms ≤ R.slots) (hd : decode cc pc = .ok (.invokespecial idx, 3))
    (kk : ∀ (u : Nat → Nat) (H1 : Heap) (locs1 : List Loc), WK A H0 D (w0 ++ mk h0 u) H1 locs1 → W p l e R s m args below meth c H1 locs1 (cells + mc) (slots + ms) Q (F0 m (pc + 3) ls rest)) : W p l e R s m args below meth c H locs cells slots Q (F0 m pc ls (.ref h0 :: rest)) := by
  have hM := hct l D h0 H.size
  have hF : ∀ q, va_A (W1 h0 ci fs) H.size q → A q := (kJoin (w1 := []) X.1 X.2.1 X.2.2 C.2.2.1 (fun _ _ _ => rfl) (fun k q h => by simp at h) ⟨fun i j p q h => by simp at h, fun k q h => by simp at h⟩).2.2
  refine va_callv (va_runIN (As := []) C.1 hM ⟨va_cnB 0 C.1.2.2.2.2 (tb_cons hco) rfl rfl rfl (C.2.1.2.1 _ hl) (C.1.2.2.2.2 _ hini) hy hR, hyn, C.1.2.2.2.2 _ hin⟩ ⟨PreN.blind, fun U hU hW => kPre C X hU hW⟩ rfl rfl hsz rfl (lv_room hrm) hd hcs) X.2.2 (fun q _ h => hF q h) hF (fun u t H1 locs1 ht hvm hw hB hz hkk hS => ?_)
  obtain ⟨hP1, hD1⟩ := hB
  rw [ht] at hP1
  obtain ⟨g1, g2, -⟩ := kJoin X.1 X.2.1 X.2.2 C.2.2.1 hkk hP1 hD1
  exact kk u H1 locs1 ⟨g1, g2, hS⟩
theorem kRet {ci mc ms h0 sz : Nat} {fs : List Value} {mk : Nat → (Nat → Nat) → va_W} (C : CK A H0 p s m args meth c cc nL own D cy) (hA : A = va_A (W1 h0 ci fs) sz) (u : Nat → Nat) (X : WK A s.heap D (mk h0 u) H locs) (hr : meth.sig.returnType = none) (hd : decode cc pc = .ok (.return_, 1)) :
    W p l e R s m args below meth c H locs mc ms (MQ below (va_Qv (fun (_ : Nat → Nat) => True) (fun u t => va_P D vwCl (mk h0 u) t.heap ∧ va_D (va_A (W1 h0 ci fs) sz) (mk h0 u)) (va_A (W1 h0 ci fs) sz)) args s mc ms (va_A (W1 h0 ci fs) sz)) (F0 m pc ls []) := by
  subst hA
  exact W.vret C.1.1 C.1.2.1 hr (fun t ht hW => ⟨⟨u, rfl, trivial, by rw [ht]; exact X.1, X.2.1⟩, X.2.2.F ht⟩) X.2.2.2.2 hd C.2.2.2.2
end CTOR
theorem mkN {cy : Nat → ClassId} {y : MethodName} {cc : ByteArray} {mL fr lo mc ms ci : Nat} {fs : List Value} {mk : Nat → (Nat → Nat) → va_W} {own : String} (hy : plainName y.cls = true) (hyc : y.cls = own) (hyn : y.name = "<init>") (hn : 1 ≤ mL)
    (body : ∀ (p : Program) (l : Launch) (e : Env) (s : State) (m : MethodId) (args : Array Value) (below : List Frame) (meth : Method) (c : Code) (D : va_G) (h0 : Nat) (A : Nat → Prop), CK A s.heap p s m args meth c cc mL own D cy → A = va_A (W1 h0 ci fs) s.heap.size → meth.sig.returnType = none → WK A s.heap D (W1 h0 ci fs) s.heap [] → ∀ ls : Array Slot, lv_has ls mL [(0, .ref h0)] → W p l e (romN fr mc ms lo) s m args below meth c s.heap [] 0 0 (MQ below (va_Qv (fun (_ : Nat → Nat) => True) (fun u t => va_P D vwCl (mk h0 u) t.heap ∧ va_D (va_A (W1 h0 ci fs) s.heap.size) (mk h0 u)) (va_A (W1 h0 ci fs) s.heap.size)) args s mc ms (va_A (W1 h0 ci fs) s.heap.size)) (F0 m 0 ls [])) : CtN cy y cc mL fr lo mc ms ci fs mk := by
  intro l D h0 sz
  refine Met.ofW (cc := cc) (maxL := mL) (ret := none) hy rfl ?_
  intro p e s m args below meth c s₁ B hml hv
  obtain ⟨rfl, hsz, hP, hD0, hKO⟩ := hv
  subst hsz
  have hts := atoms_spec (ws := .code y cc mL none :: tb) B.pre
  have hown : s.vm.findClass own = some m.cls := by rw [← hyc]; exact findClass_of_methodNamed B.named
  have hin : meth.name = "<init>" := by rw [← hyn]; exact (name_of_methodNamed B.named B.method).1
  have hl := lv_entry ([.ref h0]) (n := mL) hn
  rw [lg_entry_eq]
  exact body p l e s m _ below meth c D h0 _ ⟨⟨B.exec, B.bytes, hml, hown, fun w hw => hts w (List.mem_cons_of_mem _ hw)⟩, hKO, fun q h => Or.inr h, hin, B.notSynchronized⟩ rfl B.returns ⟨hP, hD0.self, va_S.rf⟩ _ hl
