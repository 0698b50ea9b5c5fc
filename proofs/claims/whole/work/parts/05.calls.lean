/-! contracts over the world, calls and returns -/
def QI (b : Bool) (D : va_G) (cy : Nat → ClassId) (ad : Nat → Nat) (ty : FieldType) (r : Int32) (μ : Mem) (ν : Lem) : Array Value → State → Outcome → State → Prop := va_Qi (fun r' (_ : Unit) => r' = r ∧ narrow ty (.int r) = .int r) (fun _ => Pst b D cy ad μ ν) (Ad b ad)
def QL (b : Bool) (D : va_G) (cy : Nat → ClassId) (ad : Nat → Nat) (r : Int64) (μ : Mem) (ν : Lem) : Array Value → State → Outcome → State → Prop := va_Ql (fun r' (_ : Unit) => r' = r) (fun _ => Pst b D cy ad μ ν) (Ad b ad)
def QV (b : Bool) (D : va_G) (cy : Nat → ClassId) (ad : Nat → Nat) (μ : Mem) (ν : Lem) : Array Value → State → Outcome → State → Prop := va_Qv (fun (_ : Unit) => True) (fun _ => Pst b D cy ad μ ν) (Ad b ad)
abbrev rom (fr lo : Nat) : Room := { frames := fr, cells := 0, slots := 0, locals := lo }
def CtI (b : Bool) (y : MethodName) (cc : ByteArray) (mL fr lo : Nat) (ty : FieldType) (av : (Nat → Nat) → List Value) (μ : Mem) (ν : Lem) (r : Int32) (μ' : Mem) (ν' : Lem) : Prop :=
  ∀ (l : Launch) (D : va_G) (cy : Nat → ClassId) (ad : Nat → Nat), Met l y (.code y cc mL (some ty) :: tb) (rom fr lo) (va_Pc (av ad) (Pre b D cy ad μ ν)) (QI b D cy ad ty r μ' ν') 0 0 (Ad b ad)
def CtL (b : Bool) (y : MethodName) (cc : ByteArray) (mL fr lo : Nat) (av : (Nat → Nat) → List Value) (μ : Mem) (ν : Lem) (r : Int64) (μ' : Mem) (ν' : Lem) : Prop :=
  ∀ (l : Launch) (D : va_G) (cy : Nat → ClassId) (ad : Nat → Nat), Met l y (.code y cc mL (some .long) :: tb) (rom fr lo) (va_Pc (av ad) (Pre b D cy ad μ ν)) (QL b D cy ad r μ' ν') 0 0 (Ad b ad)
def CtV (b : Bool) (y : MethodName) (cc : ByteArray) (mL fr lo : Nat) (av : (Nat → Nat) → List Value) (μ : Mem) (ν : Lem) (μ' : Mem) (ν' : Lem) : Prop :=
  ∀ (l : Launch) (D : va_G) (cy : Nat → ClassId) (ad : Nat → Nat), Met l y (.code y cc mL none :: tb) (rom fr lo) (va_Pc (av ad) (Pre b D cy ad μ ν)) (QV b D cy ad μ' ν') 0 0 (Ad b ad)
abbrev WI (b : Bool) (p : Program) (l : Launch) (e : Env) (fr lo : Nat) (s : State) (m : MethodId) (args : Array Value) (below : List Frame) (meth : Method) (c : Code) (D : va_G) (cy : Nat → ClassId) (ad : Nat → Nat) (ty : FieldType) (r : Int32) (μ : Mem) (ν : Lem) (H : Heap) (locs : List Loc) (g : JFrame) : Prop :=
  W p l e (rom fr lo) s m args below meth c H locs 0 0 (MQ below (QI b D cy ad ty r μ ν) args s 0 0 (Ad b ad)) g
abbrev WL (b : Bool) (p : Program) (l : Launch) (e : Env) (fr lo : Nat) (s : State) (m : MethodId) (args : Array Value) (below : List Frame) (meth : Method) (c : Code) (D : va_G) (cy : Nat → ClassId) (ad : Nat → Nat) (r : Int64) (μ : Mem) (ν : Lem) (H : Heap) (locs : List Loc) (g : JFrame) : Prop :=
  W p l e (rom fr lo) s m args below meth c H locs 0 0 (MQ below (QL b D cy ad r μ ν) args s 0 0 (Ad b ad)) g
abbrev WV (b : Bool) (p : Program) (l : Launch) (e : Env) (fr lo : Nat) (s : State) (m : MethodId) (args : Array Value) (below : List Frame) (meth : Method) (c : Code) (D : va_G) (cy : Nat → ClassId) (ad : Nat → Nat) (μ : Mem) (ν : Lem) (H : Heap) (locs : List Loc) (g : JFrame) : Prop :=
  W p l e (rom fr lo) s m args below meth c H locs 0 0 (MQ below (QV b D cy ad μ ν) args s 0 0 (Ad b ad)) g
def lkD (y : MethodName) (n : Nat) : Prop := y.cls ≠ "java/lang/invoke/MethodHandle" ∧ y.cls ≠ "java/lang/invoke/VarHandle" ∧ (parseMethodDescriptor y.desc).map (fun d => d.parameters.length) = some n
def lkV (y : MethodName) (bytes : ByteArray) (mL : Nat) (ret : Option FieldType) (n : Nat) : Prop := Cond.instanceMethod y ∈ tb ∧ Cond.selects y.cls y y ∈ tb ∧ Cond.initialized y.cls ∈ tb ∧ Cond.code y bytes mL ret ∈ tb ∧ lkD y n
def lkS (y : MethodName) (bytes : ByteArray) (mL : Nat) (ret : Option FieldType) (n : Nat) : Prop := Cond.static y ∈ tb ∧ Cond.initialized y.cls ∈ tb ∧ Cond.code y bytes mL ret ∈ tb ∧ lkD y n
theorem so2 {α β : Type} {a c : α} {b d : β} (h : some (a, b) = some (c, d)) : a = c ∧ b = d := by cases h; exact ⟨rfl, rfl⟩
theorem so3 {α β γ : Type} {a c : α} {b d : β} {x y : γ} (h : some (a, b, x) = some (c, d, y)) : a = c ∧ b = d ∧ x = y := by cases h; exact ⟨rfl, rfl, rfl⟩
theorem sp2 {α β : Type} {a c : α} {b d : β} (h : (a, b) = (c, d)) : a = c ∧ b = d := by cases h; exact ⟨rfl, rfl⟩
theorem sp3 {α β γ : Type} {a c : α} {b d : β} {x y : γ} (h : (a, b, x) = (c, d, y)) : a = c ∧ b = d ∧ x = y := by cases h; exact ⟨rfl, rfl, rfl⟩
section CALLS
variable {p : Program} {l : Launch} {e : Env} {R : Room} {s : State} {m : MethodId} {args : Array Value} {below : List Frame} {meth : Method} {c : Code} {H : Heap} {locs : List Loc} {cells slots : Nat} {Q : State → Prop}
variable {b : Bool} {A : Nat → Prop} {cc : ByteArray} {nL : Nat} {own : String} {D : va_G} {cy : Nat → ClassId} {ad : Nat → Nat} {μ μ' : Mem} {ν ν' : Lem} {pc : Nat} {ls : Array Slot} {rest : List Value}
theorem retI (C : Cx b p s m args meth c cc nL own D cy ad) (X : Wd b D cy ad s.heap μ ν H locs) {ty : FieldType} {v r : Int32} (hr : meth.sig.returnType = some ty) (hn : narrow ty (.int v) = .int v) (hv : v = r) (hμ : μ = μ') (hν : ν = ν') (hd : decode cc pc = .ok (.ireturn, 1)) : W p l e R s m args below meth c H locs cells slots (MQ below (QI b D cy ad ty r μ' ν') args s cells slots (Ad b ad)) (F0 m pc ls [.int v]) := by
  subst hv; subst hμ; subst hν
  exact W.zret C.1.1 C.1.2.1 hr hn (fun t ht hW => ⟨⟨v, (), rfl, ⟨rfl, hn⟩, by show va_P _ _ _ _; rw [ht]; exact X.1⟩, X.2.2.F ht⟩) X.2.2.2.2 hd C.2.2.2.1
theorem retL (C : Cx b p s m args meth c cc nL own D cy ad) (X : Wd b D cy ad s.heap μ ν H locs) {v r : Int64} (hr : meth.sig.returnType = some .long) (hv : v = r) (hμ : μ = μ') (hν : ν = ν') (hd : decode cc pc = .ok (.lreturn, 1)) : W p l e R s m args below meth c H locs cells slots (MQ below (QL b D cy ad r μ' ν') args s cells slots (Ad b ad)) (F0 m pc ls [.long v]) := by
  subst hv; subst hμ; subst hν
  exact W.lret C.1.1 C.1.2.1 hr (fun t ht hW => ⟨⟨v, (), rfl, rfl, by show va_P _ _ _ _; rw [ht]; exact X.1⟩, X.2.2.F ht⟩) X.2.2.2.2 hd C.2.2.2.1
theorem retV (C : Cx b p s m args meth c cc nL own D cy ad) (X : Wd b D cy ad s.heap μ ν H locs) (hr : meth.sig.returnType = none) (hμ : μ = μ') (hν : ν = ν') (hd : decode cc pc = .ok (.return_, 1)) : W p l e R s m args below meth c H locs cells slots (MQ below (QV b D cy ad μ' ν') args s cells slots (Ad b ad)) (F0 m pc ls []) := by
  subst hμ; subst hν
  exact W.vret C.1.1 C.1.2.1 hr (fun t ht hW => ⟨⟨(), rfl, trivial, by show va_P _ _ _ _; rw [ht]; exact X.1⟩, X.2.2.F ht⟩) X.2.2.2.2 hd C.2.2.2.1
theorem Pre.of {U : State} {av : List Value} (C : CxA b A p s m args meth c cc nL own D cy ad) (X : WdA b A D cy ad s.heap μ ν H locs) (hU : U.heap = H) (hW : s.WarmedH U.vm) : va_Pc av (Pre b D cy ad μ ν) av.toArray U :=
  ⟨rfl, by rw [hU]; exact X.1, va_K.moved hW.alike C.2.1, cs_Ad X.2.1, by rw [hU]; exact (C.2.2.1.warm hW X.2.2).narrow C.2.2.2.2⟩
theorem kcB {y : MethodName} {bytes : ByteArray} {mL n fr lo idx : Nat} {ret : Option FieldType} (C : CxA b A p s m args meth c cc nL own D cy ad) (hi : Cond.initialized y.cls ∈ tb) (hco : Cond.code y bytes mL ret ∈ tb) (hd : lkD y n) (hl : Cond.methodLink own idx y ∈ tb) (hR : fr + 1 ≤ R.frames ∧ 8 + (mL + 11) + lo ≤ R.locals) : CallB R s args own idx y bytes mL ret (.code y bytes mL ret :: tb) (rom fr lo) 0 0 n :=
  callB_of n C.1.2.2.2.2 (tb_cons hco) rfl rfl rfl (C.1.2.2.2.2 _ hi) (C.1.2.2.2.2 _ hl) hd hR
theorem kcV {y : MethodName} {bytes : ByteArray} {mL n fr lo idx : Nat} {ret : Option FieldType} (C : CxA b A p s m args meth c cc nL own D cy ad) (hk : lkV y bytes mL ret n) (hl : Cond.methodLink own idx y ∈ tb) (hR : fr + 1 ≤ R.frames ∧ 8 + (mL + 11) + lo ≤ R.locals) : CallW R s args own y.cls idx y bytes mL ret (.code y bytes mL ret :: tb) (rom fr lo) 0 0 n :=
  ⟨kcB C hk.2.2.1 hk.2.2.2.1 hk.2.2.2.2 hl hR, C.1.2.2.2.2 _ hk.1, C.1.2.2.2.2 _ hk.2.1⟩
theorem pvV {k ci n N : Nat} {C' : String} {T : u_T} {tyf : Nat → FieldType} {sl : List Slt} {As : List Value} (C : CxA b A p s m args meth c cc nL own D cy ad) (X : WdA b A D cy ad s.heap μ ν H locs) (ok : clsOK ci C' T N tyf) (hs : (Sp b)[k]? = some (.inl (ci, sl))) : PreV s H C' (ad k) (va_Pc (.ref (ad k) :: As) (Pre b D cy ad μ ν)) As :=
  ⟨Pre.blind, va_recv C.2.1 X.1 ok.1 (cs_get hs), fun U hU hW => Pre.of C X hU hW⟩
theorem rCVI {y : MethodName} {bytes : ByteArray} {mL n fr lo idx k ci N : Nat} {ty : FieldType} {T : u_T} {tyf : Nat → FieldType} {sl : List Slt} {r : Int32} {av : (Nat → Nat) → List Value} {As st : List Value} (hct : CtI b y bytes mL fr lo ty av μ ν r μ' ν') (ok : clsOK ci y.cls T N tyf) (hk : lkV y bytes mL (some ty) n) (hl : Cond.methodLink own idx y ∈ tb) (hs : (Sp b)[k]? = some (.inl (ci, sl))) (hav : av ad = .ref (ad k) :: As) (hn : As.length = n)
    (C : CxA b A p s m args meth c cc nL own D cy ad) (X : WdA b A D cy ad s.heap μ ν H locs) (hst : st = As.reverse ++ .ref (ad k) :: rest) (hrm : (rest.map fun v => v.category).sum ≤ 8) (hsz : ls.size = nL) (hR : fr + 1 ≤ R.frames ∧ 8 + (mL + 11) + lo ≤ R.locals) (hcs : cells ≤ R.cells ∧ slots ≤ R.slots) (hd : decode cc pc = .ok (.invokevirtual idx, 3))
    (kk : ∀ (H1 : Heap) (locs1 : List Loc), WdA b A D cy ad s.heap μ' ν' H1 locs1 → narrow ty (.int r) = .int r → W p l e R s m args below meth c H1 locs1 cells slots Q (F0 m (pc + 3) ls (.int r :: rest))) : W p l e R s m args below meth c H locs cells slots Q (F0 m pc ls st) := by
  subst hst
  have hM := hct l D cy ad
  rw [hav] at hM
  refine va_calli (va_runV C.1 hM (kcV C hk hl hR) (pvV (n := n) C X ok hs) rfl hn hsz rfl (lv_room hrm) hd hcs) X.2.2 (fun q _ h => C.2.2.2.2 q h) (fun q h => C.2.2.2.2 q h) (fun r' u t H1 locs1 ht hvm hw hB hz hkk hS => ?_)
  obtain ⟨rfl, hnr⟩ := hw
  exact kk H1 locs1 ⟨by rw [← ht]; exact hB, cs_D X.2.1, hS⟩ hnr
theorem rCVL {y : MethodName} {bytes : ByteArray} {mL n fr lo idx k ci N : Nat} {T : u_T} {tyf : Nat → FieldType} {sl : List Slt} {r : Int64} {av : (Nat → Nat) → List Value} {As st : List Value} (hct : CtL b y bytes mL fr lo av μ ν r μ' ν') (ok : clsOK ci y.cls T N tyf) (hk : lkV y bytes mL (some .long) n) (hl : Cond.methodLink own idx y ∈ tb) (hs : (Sp b)[k]? = some (.inl (ci, sl))) (hav : av ad = .ref (ad k) :: As) (hn : As.length = n)
    (C : CxA b A p s m args meth c cc nL own D cy ad) (X : WdA b A D cy ad s.heap μ ν H locs) (hst : st = As.reverse ++ .ref (ad k) :: rest) (hrm : (rest.map fun v => v.category).sum ≤ 8) (hsz : ls.size = nL) (hR : fr + 1 ≤ R.frames ∧ 8 + (mL + 11) + lo ≤ R.locals) (hcs : cells ≤ R.cells ∧ slots ≤ R.slots) (hd : decode cc pc = .ok (.invokevirtual idx, 3))
    (kk : ∀ (H1 : Heap) (locs1 : List Loc), WdA b A D cy ad s.heap μ' ν' H1 locs1 → W p l e R s m args below meth c H1 locs1 cells slots Q (F0 m (pc + 3) ls (.long r :: rest))) : W p l e R s m args below meth c H locs cells slots Q (F0 m pc ls st) := by
  subst hst
  have hM := hct l D cy ad
  rw [hav] at hM
  refine va_calll (va_runV C.1 hM (kcV C hk hl hR) (pvV (n := n) C X ok hs) rfl hn hsz rfl (lv_room hrm) hd hcs) X.2.2 (fun q _ h => C.2.2.2.2 q h) (fun q h => C.2.2.2.2 q h) (fun r' u t H1 locs1 ht hvm hw hB hz hkk hS => ?_)
  cases hw
  exact kk H1 locs1 ⟨by rw [← ht]; exact hB, cs_D X.2.1, hS⟩
theorem rCVV {y : MethodName} {bytes : ByteArray} {mL n fr lo idx k ci N : Nat} {T : u_T} {tyf : Nat → FieldType} {sl : List Slt} {av : (Nat → Nat) → List Value} {As st : List Value} (hct : CtV b y bytes mL fr lo av μ ν μ' ν') (ok : clsOK ci y.cls T N tyf) (hk : lkV y bytes mL none n) (hl : Cond.methodLink own idx y ∈ tb) (hs : (Sp b)[k]? = some (.inl (ci, sl))) (hav : av ad = .ref (ad k) :: As) (hn : As.length = n)
    (C : CxA b A p s m args meth c cc nL own D cy ad) (X : WdA b A D cy ad s.heap μ ν H locs) (hst : st = As.reverse ++ .ref (ad k) :: rest) (hrm : (rest.map fun v => v.category).sum ≤ 8) (hsz : ls.size = nL) (hR : fr + 1 ≤ R.frames ∧ 8 + (mL + 11) + lo ≤ R.locals) (hcs : cells ≤ R.cells ∧ slots ≤ R.slots) (hd : decode cc pc = .ok (.invokevirtual idx, 3))
    (kk : ∀ (H1 : Heap) (locs1 : List Loc), WdA b A D cy ad s.heap μ' ν' H1 locs1 → W p l e R s m args below meth c H1 locs1 cells slots Q (F0 m (pc + 3) ls rest)) : W p l e R s m args below meth c H locs cells slots Q (F0 m pc ls st) := by
  subst hst
  have hM := hct l D cy ad
  rw [hav] at hM
  refine va_callv (va_runV C.1 hM (kcV C hk hl hR) (pvV (n := n) C X ok hs) rfl hn hsz rfl (lv_room hrm) hd hcs) X.2.2 (fun q _ h => C.2.2.2.2 q h) (fun q h => C.2.2.2.2 q h) (fun u t H1 locs1 ht hvm hw hB hz hkk hS => ?_)
  exact kk H1 locs1 ⟨by rw [← ht]; exact hB, cs_D X.2.1, hS⟩
theorem psS {As : List Value} (C : CxA b A p s m args meth c cc nL own D cy ad) (X : WdA b A D cy ad s.heap μ ν H locs) : PreS s H (va_Pc As (Pre b D cy ad μ ν)) As := ⟨Pre.blind, fun U hU hW => Pre.of C X hU hW⟩
theorem rCSI {y : MethodName} {bytes : ByteArray} {mL n fr lo idx : Nat} {ty : FieldType} {r : Int32} {av : (Nat → Nat) → List Value} {As st : List Value} (hct : CtI b y bytes mL fr lo ty av μ ν r μ' ν') (hk : lkS y bytes mL (some ty) n) (hl : Cond.methodLink own idx y ∈ tb) (hav : av ad = As) (hn : As.length = n)
    (C : CxA b A p s m args meth c cc nL own D cy ad) (X : WdA b A D cy ad s.heap μ ν H locs) (hst : st = As.reverse ++ rest) (hrm : (rest.map fun v => v.category).sum ≤ 8) (hsz : ls.size = nL) (hR : fr + 1 ≤ R.frames ∧ 8 + (mL + 11) + lo ≤ R.locals) (hcs : cells ≤ R.cells ∧ slots ≤ R.slots) (hd : decode cc pc = .ok (.invokestatic idx, 3))
    (kk : ∀ (H1 : Heap) (locs1 : List Loc), WdA b A D cy ad s.heap μ' ν' H1 locs1 → narrow ty (.int r) = .int r → W p l e R s m args below meth c H1 locs1 cells slots Q (F0 m (pc + 3) ls (.int r :: rest))) : W p l e R s m args below meth c H locs cells slots Q (F0 m pc ls st) := by
  subst hst
  have hM := hct l D cy ad
  rw [hav] at hM
  refine va_calli (va_runS C.1 hM ⟨kcB C hk.2.1 hk.2.2.1 hk.2.2.2 hl hR, C.1.2.2.2.2 _ hk.1⟩ (psS C X) rfl hn hsz rfl (lv_room hrm) hd hcs) X.2.2 (fun q _ h => C.2.2.2.2 q h) (fun q h => C.2.2.2.2 q h) (fun r' u t H1 locs1 ht hvm hw hB hz hkk hS => ?_)
  obtain ⟨rfl, hnr⟩ := hw
  exact kk H1 locs1 ⟨by rw [← ht]; exact hB, cs_D X.2.1, hS⟩ hnr
theorem rCSL {y : MethodName} {bytes : ByteArray} {mL n fr lo idx : Nat} {r : Int64} {av : (Nat → Nat) → List Value} {As st : List Value} (hct : CtL b y bytes mL fr lo av μ ν r μ' ν') (hk : lkS y bytes mL (some .long) n) (hl : Cond.methodLink own idx y ∈ tb) (hav : av ad = As) (hn : As.length = n)
    (C : CxA b A p s m args meth c cc nL own D cy ad) (X : WdA b A D cy ad s.heap μ ν H locs) (hst : st = As.reverse ++ rest) (hrm : (rest.map fun v => v.category).sum ≤ 8) (hsz : ls.size = nL) (hR : fr + 1 ≤ R.frames ∧ 8 + (mL + 11) + lo ≤ R.locals) (hcs : cells ≤ R.cells ∧ slots ≤ R.slots) (hd : decode cc pc = .ok (.invokestatic idx, 3))
    (kk : ∀ (H1 : Heap) (locs1 : List Loc), WdA b A D cy ad s.heap μ' ν' H1 locs1 → W p l e R s m args below meth c H1 locs1 cells slots Q (F0 m (pc + 3) ls (.long r :: rest))) : W p l e R s m args below meth c H locs cells slots Q (F0 m pc ls st) := by
  subst hst
  have hM := hct l D cy ad
  rw [hav] at hM
  refine va_calll (va_runS C.1 hM ⟨kcB C hk.2.1 hk.2.2.1 hk.2.2.2 hl hR, C.1.2.2.2.2 _ hk.1⟩ (psS C X) rfl hn hsz rfl (lv_room hrm) hd hcs) X.2.2 (fun q _ h => C.2.2.2.2 q h) (fun q h => C.2.2.2.2 q h) (fun r' u t H1 locs1 ht hvm hw hB hz hkk hS => ?_)
  cases hw
  exact kk H1 locs1 ⟨by rw [← ht]; exact hB, cs_D X.2.1, hS⟩
theorem rCSIN {y : MethodName} {bytes : ByteArray} {mL n fr lo idx : Nat} {ty : FieldType} {host : String} {r : Int32} {av : (Nat → Nat) → List Value} {As st : List Value} (hct : CtI b y bytes mL fr lo ty av μ ν r μ' ν') (hk : lkS y bytes mL (some ty) n) (hl : Cond.methodLinkNest own idx y host ∈ nestW) (hav : av ad = As) (hn : As.length = n)
    (C : CxA b A p s m args meth c cc nL own D cy ad) (X : WdA b A D cy ad s.heap μ ν H locs) (hst : st = As.reverse ++ rest) (hrm : (rest.map fun v => v.category).sum ≤ 8) (hsz : ls.size = nL) (hR : fr + 1 ≤ R.frames ∧ 8 + (mL + 11) + lo ≤ R.locals) (hcs : cells ≤ R.cells ∧ slots ≤ R.slots) (hd : decode cc pc = .ok (.invokestatic idx, 3))
    (kk : ∀ (H1 : Heap) (locs1 : List Loc), WdA b A D cy ad s.heap μ' ν' H1 locs1 → narrow ty (.int r) = .int r → W p l e R s m args below meth c H1 locs1 cells slots Q (F0 m (pc + 3) ls (.int r :: rest))) : W p l e R s m args below meth c H locs cells slots Q (F0 m pc ls st) := by
  subst hst
  have hM := hct l D cy ad
  rw [hav] at hM
  refine va_calli (va_runSN C.1 hM ⟨va_cnB n C.1.2.2.2.2 (tb_cons hk.2.2.1) rfl rfl rfl (C.2.2.1.1 _ hl) (C.1.2.2.2.2 _ hk.2.1) hk.2.2.2 hR, C.1.2.2.2.2 _ hk.1, trivial⟩ (psS C X) rfl hn hsz rfl (lv_room hrm) hd hcs) X.2.2 (fun q _ h => C.2.2.2.2 q h) (fun q h => C.2.2.2.2 q h) (fun r' u t H1 locs1 ht hvm hw hB hz hkk hS => ?_)
  obtain ⟨rfl, hnr⟩ := hw
  exact kk H1 locs1 ⟨by rw [← ht]; exact hB, cs_D X.2.1, hS⟩ hnr
end CALLS
/-- a method's contract out of its walk -/
theorem mkI {b : Bool} {y : MethodName} {cc : ByteArray} {mL fr lo : Nat} {ty : FieldType} {av : (Nat → Nat) → List Value} {μ μ' : Mem} {ν ν' : Lem} {r : Int32} {own : String} (hy : plainName y.cls = true) (hyc : y.cls = own) (hn : ∀ ad, (lg_sl (av ad)).length ≤ mL)
    (body : ∀ (p : Program) (l : Launch) (e : Env) (s : State) (m : MethodId) (args : Array Value) (below : List Frame) (meth : Method) (c : Code) (D : va_G) (cy : Nat → ClassId) (ad : Nat → Nat), Cx b p s m args meth c cc mL own D cy ad → meth.sig.returnType = some ty → Wd b D cy ad s.heap μ ν s.heap [] → ∀ ls : Array Slot, lv_has ls mL (lv_args 0 (av ad)) → WI b p l e fr lo s m args below meth c D cy ad ty r μ' ν' s.heap [] (F0 m 0 ls [])) : CtI b y cc mL fr lo ty av μ ν r μ' ν' := by
  intro l D cy ad
  refine Met.ofW (cc := cc) (maxL := mL) (ret := some ty) hy rfl ?_
  intro p e s m args below meth c s₁ B hml hv
  obtain ⟨rfl, hP, hK, hD, hSt⟩ := hv
  have hts := atoms_spec (ws := .code y cc mL (some ty) :: tb) B.pre
  have hown : s.vm.findClass own = some m.cls := by rw [← hyc]; exact findClass_of_methodNamed B.named
  have hl := lv_entry (av ad) (n := mL) (hn ad)
  rw [lg_entry_eq]
  exact body p l e s m _ below meth c D cy ad ⟨⟨B.exec, B.bytes, hml, hown, fun w hw => hts w (List.mem_cons_of_mem _ hw)⟩, hK, hSt, B.notSynchronized, fun _ h => h⟩ B.returns ⟨hP, hD, va_S.rf⟩ _ hl
theorem mkL {b : Bool} {y : MethodName} {cc : ByteArray} {mL fr lo : Nat} {av : (Nat → Nat) → List Value} {μ μ' : Mem} {ν ν' : Lem} {r : Int64} {own : String} (hy : plainName y.cls = true) (hyc : y.cls = own) (hn : ∀ ad, (lg_sl (av ad)).length ≤ mL)
    (body : ∀ (p : Program) (l : Launch) (e : Env) (s : State) (m : MethodId) (args : Array Value) (below : List Frame) (meth : Method) (c : Code) (D : va_G) (cy : Nat → ClassId) (ad : Nat → Nat), Cx b p s m args meth c cc mL own D cy ad → meth.sig.returnType = some .long → Wd b D cy ad s.heap μ ν s.heap [] → ∀ ls : Array Slot, lv_has ls mL (lv_args 0 (av ad)) → WL b p l e fr lo s m args below meth c D cy ad r μ' ν' s.heap [] (F0 m 0 ls [])) : CtL b y cc mL fr lo av μ ν r μ' ν' := by
  intro l D cy ad
  refine Met.ofW (cc := cc) (maxL := mL) (ret := some .long) hy rfl ?_
  intro p e s m args below meth c s₁ B hml hv
  obtain ⟨rfl, hP, hK, hD, hSt⟩ := hv
  have hts := atoms_spec (ws := .code y cc mL (some .long) :: tb) B.pre
  have hown : s.vm.findClass own = some m.cls := by rw [← hyc]; exact findClass_of_methodNamed B.named
  have hl := lv_entry (av ad) (n := mL) (hn ad)
  rw [lg_entry_eq]
  exact body p l e s m _ below meth c D cy ad ⟨⟨B.exec, B.bytes, hml, hown, fun w hw => hts w (List.mem_cons_of_mem _ hw)⟩, hK, hSt, B.notSynchronized, fun _ h => h⟩ B.returns ⟨hP, hD, va_S.rf⟩ _ hl
theorem mkV {b : Bool} {y : MethodName} {cc : ByteArray} {mL fr lo : Nat} {av : (Nat → Nat) → List Value} {μ μ' : Mem} {ν ν' : Lem} {own : String} (hy : plainName y.cls = true) (hyc : y.cls = own) (hn : ∀ ad, (lg_sl (av ad)).length ≤ mL)
    (body : ∀ (p : Program) (l : Launch) (e : Env) (s : State) (m : MethodId) (args : Array Value) (below : List Frame) (meth : Method) (c : Code) (D : va_G) (cy : Nat → ClassId) (ad : Nat → Nat), Cx b p s m args meth c cc mL own D cy ad → meth.sig.returnType = none → Wd b D cy ad s.heap μ ν s.heap [] → ∀ ls : Array Slot, lv_has ls mL (lv_args 0 (av ad)) → WV b p l e fr lo s m args below meth c D cy ad μ' ν' s.heap [] (F0 m 0 ls [])) : CtV b y cc mL fr lo av μ ν μ' ν' := by
  intro l D cy ad
  refine Met.ofW (cc := cc) (maxL := mL) (ret := none) hy rfl ?_
  intro p e s m args below meth c s₁ B hml hv
  obtain ⟨rfl, hP, hK, hD, hSt⟩ := hv
  have hts := atoms_spec (ws := .code y cc mL none :: tb) B.pre
  have hown : s.vm.findClass own = some m.cls := by rw [← hyc]; exact findClass_of_methodNamed B.named
  have hl := lv_entry (av ad) (n := mL) (hn ad)
  rw [lg_entry_eq]
  exact body p l e s m _ below meth c D cy ad ⟨⟨B.exec, B.bytes, hml, hown, fun w hw => hts w (List.mem_cons_of_mem _ hw)⟩, hK, hSt, B.notSynchronized, fun _ h => h⟩ B.returns ⟨hP, hD, va_S.rf⟩ _ hl
