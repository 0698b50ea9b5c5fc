/-! more rows: remainders, tables, Math, statics, copies -/
def jrem (x y : Int32) : Int32 := x - x / y * y
def jremL (x y : Int64) : Int64 := x - x / y * y
def jushr (x y : Int32) : Int32 := (x.toUInt32 >>> (y.toUInt32 &&& Int32.toUInt32 31)).toInt32
def jmax (x y : Int32) : Int32 := if x < y then y else x
def jmin (x y : Int32) : Int32 := if y < x then y else x
def jabs (x : Int32) : Int32 := if 0 ≤ x then x else 0 - x
def jabsL (x : Int64) : Int64 := if 0 < x then x else -x
def stUnder (i : Nat) : Int32 := ([-1, 0, 0, 1, 2, 1] : List Int32).getD i 0
def stLeast (i : Nat) : Int32 := ([0, -60, 0] : List Int32).getD i 0
def stMost (i : Nat) : Int32 := ([9999, 60, 99] : List Int32).getD i 0
abbrev cpok (sp dp n : Int32) (na nb : Nat) : Prop := ¬ sp < 0 ∧ ¬ dp < 0 ∧ ¬ n < 0 ∧ sp.toNatClampNeg + n.toNatClampNeg ≤ na ∧ dp.toNatClampNeg + n.toNatClampNeg ≤ nb
theorem tab_out {x : Int32} {lo hi : Int} (l n : Nat) (h1 : lo = (l : Int)) (h2 : hi = (l : Int) + (n : Int) - 1) (hb : l + n < 2 ^ 31) (h : ∀ k : Nat, k < n → ¬ x = Int32.ofNat (l + k)) : x.toInt < lo ∨ hi < x.toInt := by
  subst h1; subst h2
  rcases Int.lt_or_le x.toInt (l : Int) with q | q
  · exact Or.inl q
  · right
    rcases Int.lt_or_le ((l : Int) + (n : Int) - 1) x.toInt with q2 | q2
    · exact q2
    · exfalso
      have h0 : ∃ k : Nat, k < n ∧ x.toInt = ((l + k : Nat) : Int) := ⟨(x.toInt - l).toNat, by omega, by omega⟩
      obtain ⟨k, hk, he⟩ := h0
      refine h k hk ?_
      apply Int32.toInt_inj.mp
      rw [he, Int32.toInt_ofNat_of_lt (by omega)]
section ROWS
variable {p : Program} {l : Launch} {e : Env} {R : Room} {s : State} {m : MethodId} {args : Array Value} {below : List Frame} {meth : Method} {c : Code} {H : Heap} {locs : List Loc} {cells slots : Nat} {Q : State → Prop}
variable {b : Bool} {A : Nat → Prop} {cc : ByteArray} {nL : Nat} {own : String} {D : va_G} {cy : Nat → ClassId} {ad : Nat → Nat} {μ μ' : Mem} {ν ν' : Lem} {pc : Nat} {ls : Array Slot} {rest : List Value}
theorem rIrem (hexec : p.tables.exec = Jvm.exec) (hb : c.code = cc) {x y : Int32} (hdg : decode cc pc = .ok (.irem, 1)) (hne : ¬ y = 0) (k : W p l e R s m args below meth c H locs cells slots Q (F0 m (pc + 1) ls (.int (jrem x y) :: rest))) : W p l e R s m args below meth c H locs cells slots Q (F0 m pc ls (.int y :: .int x :: rest)) := lv_irem hexec hb hdg hne k
theorem rLrem (hexec : p.tables.exec = Jvm.exec) (hb : c.code = cc) {x y : Int64} (hdg : decode cc pc = .ok (.lrem, 1)) (hne : ¬ y = 0) (k : W p l e R s m args below meth c H locs cells slots Q (F0 m (pc + 1) ls (.long (jremL x y) :: rest))) : W p l e R s m args below meth c H locs cells slots Q (F0 m pc ls (.long y :: .long x :: rest)) := lv_lrem hexec hb hdg hne k
theorem rIinc (hexec : p.tables.exec = Jvm.exec) (hb : c.code = cc) {i nL k : Nat} {n : Int} {x v w : Int32} {lv lv' : List (Nat × Value)} (hdg : decode cc pc = .ok (.iinc i n, 3)) (h : lv_has ls nL lv) (hk : lv[k]? = some (i, .int x)) (hv : v = x + w) (hw : Int32.ofInt n = w) (hn : i < nL) (hl : (i, Value.int v) :: lv.filter (fun q => !(q.1 == i) && !(q.1 + 1 == i && q.2.category == 2)) = lv')
    (kk : ∀ ls' : Array Slot, lv_has ls' nL lv' → W p l e R s m args below meth c H locs cells slots Q (F0 m (pc + 3) ls' rest)) : W p l e R s m args below meth c H locs cells slots Q (F0 m pc ls rest) := lv_iinc hexec hb hdg h hk (by rw [hv, ← hw]) hn hl kk
theorem rTab (hexec : p.tables.exec = Jvm.exec) (hb : c.code = cc) {dflt lo hi : Int} {offs : Array Int} {len : Nat} {x v : Int32} {off : Int} {tgt : Nat} (hc : x = v) (hdg : decode cc pc = .ok (.tableswitch dflt lo hi offs, len)) (h1 : ¬ v.toInt < lo) (h2 : ¬ hi < v.toInt) (ho : offs[(v.toInt - lo).toNat]? = some off) (ht : (pc : Int) + off = (tgt : Int))
    (k : W p l e R s m args below meth c H locs cells slots Q (F0 m tgt ls rest)) : W p l e R s m args below meth c H locs cells slots Q (F0 m pc ls (.int x :: rest)) := by
  rw [hc]
  exact lv_tableIn hexec hb hdg h1 h2 ho ht k
theorem rTabOut (hexec : p.tables.exec = Jvm.exec) (hb : c.code = cc) {dflt lo hi : Int} {offs : Array Int} {len : Nat} {x : Int32} (tgt : Nat) (hdg : decode cc pc = .ok (.tableswitch dflt lo hi offs, len)) (ht : (pc : Int) + dflt = (tgt : Int)) (h : x.toInt < lo ∨ hi < x.toInt)
    (k : W p l e R s m args below meth c H locs cells slots Q (F0 m tgt ls rest)) : W p l e R s m args below meth c H locs cells slots Q (F0 m pc ls (.int x :: rest)) := lv_tableOut hexec hb hdg h ht k
theorem rPutD (C : CxA b A p s m args meth c cc nL own D cy ad) (X : WdA b A D cy ad s.heap μ ν H locs) {ci : Nat} {CN : String} {T : u_T} {N : Nat} {ty : Nat → FieldType} (ok : clsOK ci CN T N ty) {k : Nat} {sl : List Slt} (hs : (Sp b)[k]? = some (.inl (ci, sl))) (i : Nat) {k0 st : Nat} (ht : sl[i]? = some (3, k0, st)) (hi : i < N) {t : Nat} (hb : t + 1 < 2 ^ 31) {idx : Nat} (hl : (Cond.fieldLink own idx (T i).1 (T i).2.1 (T i).2.2.1) ∈ tb) (hf : (T i).2.2.2 = false) (hnf : ∀ a, narrow (ty i) (.ref a) = .ref a ∧ fits (ty i) (.ref a) = true) (e1 : μ' = up μ k i (nI (t + 1))) (hd : decode cc pc = .ok (.putfield idx, 3))
    (kk : ∀ (H1 : Heap) (locs1 : List Loc), WdA b A D cy ad s.heap μ' ν H1 locs1 → W p l e R s m args below meth c H1 locs1 cells slots Q (F0 m (pc + 3) ls rest)) : W p l e R s m args below meth c H locs cells slots Q (F0 m pc ls (.ref (ad (k0 + st * t)) :: .ref (ad k) :: rest)) := by
  subst e1
  have hv : Value.ref (ad (k0 + st * t)) = dynv ad k0 st (nI (t + 1)) := by
    unfold dynv
    rw [if_neg (nI_ne0 (by omega) hb), nI_clamp hb, Nat.add_sub_cancel]
  exact va_put C.1.1 C.1.2.1 C.1.2.2.2.2 ok.2.1 ty ok.2.2.1 ok.2.2.2 C.1.2.2.2.1 C.2.1 X.1 X.2.1 X.2.2 k (cs_get hs) ok.1 i hi (C.1.2.2.2.2 _ hl) (fun _ h => h) hf (ok.2.2.1 i hi) (hnf _).1 (hnf _).2 (by rw [List.length_mapIdx]; exact (List.getElem?_eq_some_iff.mp ht).1) hd
    (fun H1 locs1 hP hD hS => kk H1 locs1 (WdA.set hs (by show _ = Sum.inr (ci, _); rw [sl_set ht (v := .ref (ad (k0 + st * t))) (μ' := up μ k i (nI (t + 1))) (ν' := ν) (by show _ = dynv ad k0 st _; rw [up_at]; exact hv) sv_up]) up_ne (fun _ _ => rfl) hP hD hS))
theorem rIast2 (C : CxA b A p s m args meth c cc nL own D cy ad) (X : WdA b A D cy ad s.heap μ ν H locs) {k n x y : Nat} (hs : (Sp b)[k]? = some (.inr (0, n, x, y))) {i v : Int32} (hin : inb i n) (e1 : μ' = up μ k i.toNatClampNeg v) (hd : decode cc pc = .ok (.iastore, 1))
    (kk : ∀ (H1 : Heap) (locs1 : List Loc), WdA b A D cy ad s.heap μ' ν H1 locs1 → W p l e R s m args below meth c H1 locs1 cells slots Q (F0 m (pc + 1) ls rest)) : W p l e R s m args below meth c H locs cells slots Q (F0 m pc ls (.int v :: .int i :: .ref (ad k) :: rest)) := by
  subst e1
  exact rIast C X hs hin hd kk
theorem rZast2 (C : CxA b A p s m args meth c cc nL own D cy ad) (X : WdA b A D cy ad s.heap μ ν H locs) {k n x y : Nat} (hs : (Sp b)[k]? = some (.inr (2, n, x, y))) {i v : Int32} (hin : inb i n) (e1 : μ' = up μ k i.toNatClampNeg (vp_nar .boolean v)) (hd : decode cc pc = .ok (.bastore, 1))
    (kk : ∀ (H1 : Heap) (locs1 : List Loc), WdA b A D cy ad s.heap μ' ν H1 locs1 → W p l e R s m args below meth c H1 locs1 cells slots Q (F0 m (pc + 1) ls rest)) : W p l e R s m args below meth c H locs cells slots Q (F0 m pc ls (.int v :: .int i :: .ref (ad k) :: rest)) := by
  subst e1
  exact rZast C X hs hin hd kk
theorem rLast2 (C : CxA b A p s m args meth c cc nL own D cy ad) (X : WdA b A D cy ad s.heap μ ν H locs) {k n x y : Nat} (hs : (Sp b)[k]? = some (.inr (1, n, x, y))) {i : Int32} {v : Int64} (hin : inb i n) (e1 : ν' = upL ν k i.toNatClampNeg v) (hd : decode cc pc = .ok (.lastore, 1))
    (kk : ∀ (H1 : Heap) (locs1 : List Loc), WdA b A D cy ad s.heap μ ν' H1 locs1 → W p l e R s m args below meth c H1 locs1 cells slots Q (F0 m (pc + 1) ls rest)) : W p l e R s m args below meth c H locs cells slots Q (F0 m pc ls (.long v :: .int i :: .ref (ad k) :: rest)) := by
  subst e1
  exact rLast C X hs hin hd kk
theorem kMx1 : Cond.static Lib.Math.max.name ∈ tb := tb_of (List.mem_append_right _ (List.mem_of_getElem? (i := 221) (by decide +kernel))) (by decide +kernel)
theorem kMx2 : Cond.code Lib.Math.max.name Lib.Math.max.code 2 (some .int) ∈ tb := tb_of (List.mem_append_right _ (List.mem_of_getElem? (i := 222) (by decide +kernel))) (by decide +kernel)
theorem kMn1 : Cond.static Lib.Math.min.name ∈ tb := tb_of (List.mem_append_right _ (List.mem_of_getElem? (i := 379) (by decide +kernel))) (by decide +kernel)
theorem kMn2 : Cond.code Lib.Math.min.name Lib.Math.min.code 2 (some .int) ∈ tb := tb_of (List.mem_append_right _ (List.mem_of_getElem? (i := 380) (by decide +kernel))) (by decide +kernel)
theorem kMa1 : Cond.static Lib.Math.abs.name ∈ tb := tb_of (List.mem_append_right _ (List.mem_of_getElem? (i := 491) (by decide +kernel))) (by decide +kernel)
theorem kMa2 : Cond.code Lib.Math.abs.name Lib.Math.abs.code 1 (some .int) ∈ tb := tb_of (List.mem_append_right _ (List.mem_of_getElem? (i := 492) (by decide +kernel))) (by decide +kernel)
theorem kMl1 : Cond.static Lib.MathLoose.abs_long.x ∈ tb := tb_of (List.mem_append_right _ (List.mem_of_getElem? (i := 628) (by decide +kernel))) (by decide +kernel)
theorem kMl2 : Cond.code Lib.MathLoose.abs_long.x Lib.MathLoose.abs_long.code 2 (some .long) ∈ tb := tb_of (List.mem_append_right _ (List.mem_of_getElem? (i := 629) (by decide +kernel))) (by decide +kernel)
theorem kMi : Cond.initialized "java/lang/Math" ∈ tb := tb_of (List.mem_append_right _ (List.mem_of_getElem? (i := 8) (by decide +kernel))) (by decide +kernel)
theorem kSi : Cond.initialized "java/lang/System" ∈ tb := tb_of (List.mem_append_right _ (List.mem_of_getElem? (i := 15) (by decide +kernel))) (by decide +kernel)
theorem kSn : Cond.native arraycopyName ∈ tb := tb_of (List.mem_append_right _ (List.mem_of_getElem? (i := 763) (by decide +kernel))) (by decide +kernel)
theorem kSs : Cond.static arraycopyName ∈ tb := tb_of (List.mem_append_right _ (List.mem_of_getElem? (i := 762) (by decide +kernel))) (by decide +kernel)
theorem rMax (C : CxA b A p s m args meth c cc nL own D cy ad) {idx : Nat} (hl : Cond.methodLink own idx Lib.Math.max.name ∈ tb) (hsz : ls.size = nL) (hfr : 1 ≤ R.frames) (hlo : (rest.map fun v => v.category).sum + 13 ≤ R.locals) (hcs : cells ≤ R.cells ∧ slots ≤ R.slots) {x y : Int32} (hd : decode cc pc = .ok (.invokestatic idx, 3))
    (kk : W p l e R s m args below meth c H locs cells slots Q (F0 m (pc + 3) ls (.int (jmax x y) :: rest))) : W p l e R s m args below meth c H locs cells slots Q (F0 m pc ls (.int y :: .int x :: rest)) :=
  va_mmax C.1.1 C.1.2.1 (C.1.2.2.1.trans hsz.symm) C.1.2.2.2.1 (C.1.2.2.2.2 _ hl) (C.1.2.2.2.2 _ kMx1) (C.1.2.2.2.2 _ kMi) (C.1.2.2.2.2 _ kMx2) hfr hlo hcs.1 hcs.2 hd kk
theorem rMin (C : CxA b A p s m args meth c cc nL own D cy ad) {idx : Nat} (hl : Cond.methodLink own idx Lib.Math.min.name ∈ tb) (hsz : ls.size = nL) (hfr : 1 ≤ R.frames) (hlo : (rest.map fun v => v.category).sum + 13 ≤ R.locals) (hcs : cells ≤ R.cells ∧ slots ≤ R.slots) {x y : Int32} (hd : decode cc pc = .ok (.invokestatic idx, 3))
    (kk : W p l e R s m args below meth c H locs cells slots Q (F0 m (pc + 3) ls (.int (jmin x y) :: rest))) : W p l e R s m args below meth c H locs cells slots Q (F0 m pc ls (.int y :: .int x :: rest)) :=
  va_mmin C.1.1 C.1.2.1 (C.1.2.2.1.trans hsz.symm) C.1.2.2.2.1 (C.1.2.2.2.2 _ hl) (C.1.2.2.2.2 _ kMn1) (C.1.2.2.2.2 _ kMi) (C.1.2.2.2.2 _ kMn2) hfr hlo hcs.1 hcs.2 hd kk
theorem rAbs (C : CxA b A p s m args meth c cc nL own D cy ad) {idx : Nat} (hl : Cond.methodLink own idx Lib.Math.abs.name ∈ tb) (hsz : ls.size = nL) (hfr : 1 ≤ R.frames) (hlo : (rest.map fun v => v.category).sum + 13 ≤ R.locals) (hcs : cells ≤ R.cells ∧ slots ≤ R.slots) {x : Int32} (hd : decode cc pc = .ok (.invokestatic idx, 3))
    (kk : W p l e R s m args below meth c H locs cells slots Q (F0 m (pc + 3) ls (.int (jabs x) :: rest))) : W p l e R s m args below meth c H locs cells slots Q (F0 m pc ls (.int x :: rest)) :=
  va_mabs C.1.1 C.1.2.1 (C.1.2.2.1.trans hsz.symm) C.1.2.2.2.1 (C.1.2.2.2.2 _ hl) (C.1.2.2.2.2 _ kMa1) (C.1.2.2.2.2 _ kMi) (C.1.2.2.2.2 _ kMa2) hfr hlo hcs.1 hcs.2 hd kk
theorem rAbsL (C : CxA b A p s m args meth c cc nL own D cy ad) {idx : Nat} (hl : Cond.methodLink own idx Lib.MathLoose.abs_long.x ∈ tb) (hsz : ls.size = nL) (hfr : 1 ≤ R.frames) (hlo : (rest.map fun v => v.category).sum + 13 ≤ R.locals) (hcs : cells ≤ R.cells ∧ slots ≤ R.slots) {x : Int64} (hd : decode cc pc = .ok (.invokestatic idx, 3))
    (kk : W p l e R s m args below meth c H locs cells slots Q (F0 m (pc + 3) ls (.long (jabsL x) :: rest))) : W p l e R s m args below meth c H locs cells slots Q (F0 m pc ls (.long x :: rest)) :=
  va_mabs_long C.1.1 C.1.2.1 (C.1.2.2.1.trans hsz.symm) C.1.2.2.2.1 (C.1.2.2.2.2 _ hl) (C.1.2.2.2.2 _ kMl1) (C.1.2.2.2.2 _ kMi) (C.1.2.2.2.2 _ kMl2) hfr hlo hcs.1 hcs.2 hd kk
theorem rCopy (C : CxA b A p s m args meth c cc nL own D cy ad) (X : WdA b A D cy ad s.heap μ ν H locs) {ka kb na nb x1 y1 x2 y2 : Nat} (ha : (Sp b)[ka]? = some (.inr (0, na, x1, y1))) (hbb : (Sp b)[kb]? = some (.inr (0, nb, x2, y2))) {idx : Nat} (hl : Cond.methodLink own idx arraycopyName ∈ tb) (hsz : ls.size = nL) {sp dp n : Int32} (hok : cpok sp dp n na nb) (e1 : μ' = upR μ kb (va_cpy (μ ka) (μ kb) sp.toNatClampNeg dp.toNatClampNeg n.toNatClampNeg)) (hfr : 1 ≤ R.frames) (hlo : (rest.map fun v => v.category).sum + (nativeFrameWords "java/lang/System" "arraycopy" 5 + 11) ≤ R.locals) (hd : decode cc pc = .ok (.invokestatic idx, 3))
    (kk : ∀ (H1 : Heap) (locs1 : List Loc), WdA b A D cy ad s.heap μ' ν H1 locs1 → W p l e R s m args below meth c H1 locs1 cells slots Q (F0 m (pc + 3) ls rest)) : W p l e R s m args below meth c H locs cells slots Q (F0 m pc ls (.int n :: .int dp :: .ref (ad kb) :: .int sp :: .ref (ad ka) :: rest)) := by
  subst e1
  exact va_copyi (ty := .int) C.1.1 C.1.2.1 (C.1.2.2.1.trans hsz.symm) C.1.2.2.2.1 (C.1.2.2.2.2 _ hl) (C.1.2.2.2.2 _ kSn) (C.1.2.2.2.2 _ kSs) (C.1.2.2.2.2 _ kSi) C.2.1 X.1 X.2.1 X.2.2 ka kb 0 0 (cs_get ha) (cs_get hbb) rfl rfl rfl hok.1 hok.2.1 hok.2.2.1 hok.2.2.2.1 hok.2.2.2.2 (fun _ _ => rfl) hfr hlo hd
    (fun H1 locs1 hP hD hS => kk H1 locs1 (WdA.set hbb (by show _ = Sum.inl (cy 0, nb, Sum.inl _); rw [upR_row]) upR_ne (fun _ _ => rfl) hP hD hS))
/-- calls on a String constant -/
theorem rSVI {y : MethodName} {bytes : ByteArray} {mL n fr lo idx i : Nat} {ty : FieldType} {r : Int32} {av : (Nat → Nat) → List Value} {As st : List Value} (hct : CtI true y bytes mL fr lo ty av μ ν r μ' ν') (hy : y.cls = "java/lang/String") (hk : lkV y bytes mL (some ty) n) (hl : Cond.methodLink own idx y ∈ tb) (hi : i < 2) (hav : av ad = .ref (ad (110 + i)) :: As) (hn : As.length = n)
    (C : CxA true A p s m args meth c cc nL own D cy ad) (X : WdA true A D cy ad s.heap μ ν H locs) (hst : st = As.reverse ++ .ref (ad (110 + i)) :: rest) (hrm : (rest.map fun v => v.category).sum ≤ 8) (hsz : ls.size = nL) (hR : fr + 1 ≤ R.frames ∧ 8 + (mL + 11) + lo ≤ R.locals) (hcs : cells ≤ R.cells ∧ slots ≤ R.slots) (hd : decode cc pc = .ok (.invokevirtual idx, 3))
    (kk : ∀ (H1 : Heap) (locs1 : List Loc), WdA true A D cy ad s.heap μ' ν' H1 locs1 → narrow ty (.int r) = .int r → W p l e R s m args below meth c H1 locs1 cells slots Q (F0 m (pc + 3) ls (.int r :: rest))) : W p l e R s m args below meth c H locs cells slots Q (F0 m pc ls st) := by
  subst hst
  have hM := hct l D cy ad
  rw [hav] at hM
  obtain ⟨z1, t1, z2, t2, z3, t3, z4, z5, ks, r1, r2⟩ := C.2.2.1.2 rfl
  have hp : PreV s H y.cls (ad (110 + i)) (va_Pc (.ref (ad (110 + i)) :: As) (Pre true D cy ad μ ν)) As := ⟨Pre.blind, by rw [hy]; exact vk_recv (i := i) (adK := fun i => ad (110 + i)) ks hi X.2.2, fun U hU hW => Pre.of C X hU hW⟩
  refine va_calli (va_runV C.1 hM (kcV C hk hl hR) hp rfl hn hsz rfl (lv_room hrm) hd hcs) X.2.2 (fun q _ h => C.2.2.2.2 q h) (fun q h => C.2.2.2.2 q h) (fun r' u t H1 locs1 ht hvm hw hB hz hkk hS => ?_)
  obtain ⟨rfl, hnr⟩ := hw
  exact kk H1 locs1 ⟨by rw [← ht]; exact hB, cs_D X.2.1, hS⟩ hnr
theorem rCSV {y : MethodName} {bytes : ByteArray} {mL n fr lo idx : Nat} {av : (Nat → Nat) → List Value} {As st : List Value} (hct : CtV b y bytes mL fr lo av μ ν μ' ν') (hk : lkS y bytes mL none n) (hl : Cond.methodLink own idx y ∈ tb) (hav : av ad = As) (hn : As.length = n)
    (C : CxA b A p s m args meth c cc nL own D cy ad) (X : WdA b A D cy ad s.heap μ ν H locs) (hst : st = As.reverse ++ rest) (hrm : (rest.map fun v => v.category).sum ≤ 8) (hsz : ls.size = nL) (hR : fr + 1 ≤ R.frames ∧ 8 + (mL + 11) + lo ≤ R.locals) (hcs : cells ≤ R.cells ∧ slots ≤ R.slots) (hd : decode cc pc = .ok (.invokestatic idx, 3))
    (kk : ∀ (H1 : Heap) (locs1 : List Loc), WdA b A D cy ad s.heap μ' ν' H1 locs1 → W p l e R s m args below meth c H1 locs1 cells slots Q (F0 m (pc + 3) ls rest)) : W p l e R s m args below meth c H locs cells slots Q (F0 m pc ls st) := by
  subst hst
  have hM := hct l D cy ad
  rw [hav] at hM
  refine va_callv (va_runS C.1 hM ⟨kcB C hk.2.1 hk.2.2.1 hk.2.2.2 hl hR, C.1.2.2.2.2 _ hk.1⟩ (psS C X) rfl hn hsz rfl (lv_room hrm) hd hcs) X.2.2 (fun q _ h => C.2.2.2.2 q h) (fun q h => C.2.2.2.2 q h) (fun u t H1 locs1 ht hvm hw hB hz hkk hS => ?_)
  exact kk H1 locs1 ⟨by rw [← ht]; exact hB, cs_D X.2.1, hS⟩
end ROWS
/-- the bytes of a String constant -/
def bK (i j : Nat) : Int32 := (bytsK.getD i []).getD j 0
def lenK (i : Nat) : Nat := lensK.getD i 0
