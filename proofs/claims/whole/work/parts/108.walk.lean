set_option maxRecDepth 100000 in
set_option maxHeartbeats 4000000 in
theorem w6_both1_1 {p : Program} {l : Launch} {e : Env} {s : State} {m : MethodId} {args : Array Value} {below : List Frame} {meth : Method} {c : Code} {D : va_G} {cy : Nat → ClassId} {ad : Nat → Nat} {r : Int32} {μ1 : Mem} {ν1 : Lem} (C : Cx false p s m args meth c cX6_both1 3 RX6 D cy ad) (hr : meth.sig.returnType = some .int) : ∀ (n : Nat), ∀ (μ : Mem) (ν : Lem) (x1 : Int32), f6_both1_1 n μ ν x1 = some (r, μ1, ν1) → ∀ (H : Heap) (locs : List Loc), Wd false D cy ad s.heap μ ν H locs → ∀ (ls : Array Slot), lv_has ls 3 [(0, .ref (ad 0)), (1, .int x1)] → WI false p l e 32 707 s m args below meth c D cy ad .int r μ1 ν1 H locs (F0 m 5 ls []) := by
  have hx := C.1.1
  have hb := C.1.2.1
  have hown := C.1.2.2.2.1
  have hts := C.1.2.2.2.2
  intro n
  induction n with
  | zero =>
    intro μ ν x1 hf H locs X ls hl
    rw [f6_both1_1] at hf
    cases hf
  | succ n ih =>
    intro μ ν x1 hf H locs X ls hl
    rw [f6_both1_1] at hf
    refine lv_aload_n hx hb dX6_both1_5 rfl (lv_at hl 0 rfl) ?_
    refine lv_bipush (v := 97) hx hb dX6_both1_6 (by decide) ?_
    refine lv_bipush (v := 110) hx hb dX6_both1_8 (by decide) ?_
    refine lv_bipush (v := 100) hx hb dX6_both1_10 (by decide) ?_
    refine lv_iconst (v := 0) hx hb dX6_both1_12 (by decide) ?_
    refine lv_iconst (v := 0) hx hb dX6_both1_13 (by decide) ?_
    refine lv_iconst (v := 0) hx hb dX6_both1_14 (by decide) ?_
    refine lv_iconst (v := 0) hx hb dX6_both1_15 (by decide) ?_
    refine lv_iconst (v := 0) hx hb dX6_both1_16 (by decide) ?_
    obtain ⟨r17, g17, hf⟩ := bd1_e hf
    refine qX6_180 g17 C X hl.1 ((Nat.le_of_ble_eq_true rfl)) ⟨(Nat.le_of_ble_eq_true rfl), (Nat.le_of_ble_eq_true rfl)⟩ ⟨Nat.zero_le _, Nat.zero_le _⟩ dX6_both1_17 (fun H locs X b17 => ?_)
    refine lv_if_eq (tgt := 49) hx hb dX6_both1_20 (by decide) (fun c20 => ?_) (fun c20 => ?_)
    · replace hf := ifp c20 hf
      refine lv_iload_n hx hb dX6_both1_49 rfl (lv_at hl 1 rfl) ?_
      exact retI C X hr rfl (so3 hf).1 (so3 hf).2.1 (so3 hf).2.2 dX6_both1_50
    · replace hf := ifn c20 hf
      refine lv_aload_n hx hb dX6_both1_23 rfl (lv_at hl 0 rfl) ?_
      obtain ⟨μ24, ν24, g24, hf⟩ := bd2_e hf
      refine qX6_177 g24 C X hl.1 ((Nat.le_of_ble_eq_true rfl)) ⟨(Nat.le_of_ble_eq_true rfl), (Nat.le_of_ble_eq_true rfl)⟩ ⟨Nat.zero_le _, Nat.zero_le _⟩ dX6_both1_24 (fun H locs X => ?_)
      refine lv_aload_n hx hb dX6_both1_27 rfl (lv_at hl 0 rfl) ?_
      obtain ⟨r28, μ28, ν28, g28, hf⟩ := bd3_e hf
      refine qX6_298 g28 C X hl.1 ((Nat.le_of_ble_eq_true rfl)) ⟨(Nat.le_of_ble_eq_true rfl), (Nat.le_of_ble_eq_true rfl)⟩ ⟨Nat.zero_le _, Nat.zero_le _⟩ dX6_both1_28 (fun H locs X b28 => ?_)
      refine lv_istore_n (lv' := [(2, .int r28), (0, .ref (ad 0)), (1, .int x1)]) hx hb dX6_both1_31 rfl hl (by decide) rfl (fun ls hl => ?_)
      refine lv_iload_n hx hb dX6_both1_32 rfl (lv_at hl 2 rfl) ?_
      refine lv_if_eq (tgt := 44) hx hb dX6_both1_33 (by decide) (fun c33 => ?_) (fun c33 => ?_)
      · replace hf := ifp c33 hf
        refine lv_iconst (v := 0) hx hb dX6_both1_44 (by decide) ?_
        refine lv_istore_n (lv' := [(1, .int 0), (2, .int r28), (0, .ref (ad 0))]) hx hb dX6_both1_45 rfl hl (by decide) rfl (fun ls hl => ?_)
        refine lv_goto (tgt := 5) hx hb dX6_both1_46 (by decide) ?_
        exact ih μ28 ν28 0 hf _ _ X _ (lv_sub hl [2, 0] rfl)
      · replace hf := ifn c33 hf
        refine lv_iload_n hx hb dX6_both1_36 rfl (lv_at hl 0 rfl) ?_
        refine lv_if_eq (tgt := 44) hx hb dX6_both1_37 (by decide) (fun c37 => ?_) (fun c37 => ?_)
        · replace hf := ifp c37 hf
          refine lv_iconst (v := 0) hx hb dX6_both1_44 (by decide) ?_
          refine lv_istore_n (lv' := [(1, .int 0), (2, .int r28), (0, .ref (ad 0))]) hx hb dX6_both1_45 rfl hl (by decide) rfl (fun ls hl => ?_)
          refine lv_goto (tgt := 5) hx hb dX6_both1_46 (by decide) ?_
          exact ih μ28 ν28 0 hf _ _ X _ (lv_sub hl [2, 0] rfl)
        · replace hf := ifn c37 hf
          refine lv_iconst (v := 1) hx hb dX6_both1_40 (by decide) ?_
          refine lv_goto (tgt := 45) hx hb dX6_both1_41 (by decide) ?_
          refine lv_istore_n (lv' := [(1, .int 1), (2, .int r28), (0, .ref (ad 0))]) hx hb dX6_both1_45 rfl hl (by decide) rfl (fun ls hl => ?_)
          refine lv_goto (tgt := 5) hx hb dX6_both1_46 (by decide) ?_
          exact ih μ28 ν28 1 hf _ _ X _ (lv_sub hl [2, 0] rfl)
set_option maxRecDepth 100000 in
set_option maxHeartbeats 4000000 in
theorem w6_both1 {p : Program} {l : Launch} {e : Env} {s : State} {m : MethodId} {args : Array Value} {below : List Frame} {meth : Method} {c : Code} {D : va_G} {cy : Nat → ClassId} {ad : Nat → Nat} {r : Int32} {μ1 : Mem} {ν1 : Lem} (C : Cx false p s m args meth c cX6_both1 3 RX6 D cy ad) (hr : meth.sig.returnType = some .int) : ∀ (μ : Mem) (ν : Lem), f6_both1 μ ν = some (r, μ1, ν1) → ∀ (H : Heap) (locs : List Loc), Wd false D cy ad s.heap μ ν H locs → ∀ (ls : Array Slot), lv_has ls 3 [(0, .ref (ad 0))] → WI false p l e 32 707 s m args below meth c D cy ad .int r μ1 ν1 H locs (F0 m 0 ls []) := by
  have hx := C.1.1
  have hb := C.1.2.1
  have hown := C.1.2.2.2.1
  have hts := C.1.2.2.2.2
  intro μ ν hf H locs X ls hl
  unfold f6_both1 at hf
  refine lv_aload_n hx hb dX6_both1_0 rfl (lv_at hl 0 rfl) ?_
  obtain ⟨r1, μ1, ν1, g1, hf⟩ := bd3_e hf
  refine qX6_298 g1 C X hl.1 ((Nat.le_of_ble_eq_true rfl)) ⟨(Nat.le_of_ble_eq_true rfl), (Nat.le_of_ble_eq_true rfl)⟩ ⟨Nat.zero_le _, Nat.zero_le _⟩ dX6_both1_1 (fun H locs X b1 => ?_)
  refine lv_istore_n (lv' := [(1, .int r1), (0, .ref (ad 0))]) hx hb dX6_both1_4 rfl hl (by decide) rfl (fun ls hl => ?_)
  exact w6_both1_1 C hr  FUEL μ1 ν1 r1 hf _ _ X _ (lv_sub hl [1, 0] rfl)
theorem ct6_both1 {μ : Mem} {ν : Lem} {r : Int32} {μ1 : Mem} {ν1 : Lem} (hg : f6_both1 μ ν = some (r, μ1, ν1)) : CtI false yX6_both1 cX6_both1 3 32 707 .int (fun ad => [.ref (ad 0)]) μ ν r μ1 ν1 :=
  mkI (by decide) rfl (fun ad => Nat.le_of_ble_eq_true rfl) (fun p l e s m args below meth c D cy ad C hr X ls hl => w6_both1 C hr μ ν hg _ _ X _ hl)
theorem qX6_301 {p : Program} {l : Launch} {e : Env} {R : Room} {s : State} {m : MethodId} {args : Array Value} {below : List Frame} {meth : Method} {c : Code} {H : Heap} {locs : List Loc} {cells slots : Nat} {Q : State → Prop} {A : Nat → Prop} {cc : ByteArray} {nL : Nat} {D : va_G} {cy : Nat → ClassId} {ad : Nat → Nat} {μ : Mem} {ν : Lem} {pc : Nat} {ls : Array Slot} {rest : List Value} {r : Int32} {μ1 : Mem} {ν1 : Lem} (hg : f6_both1 μ ν = some (r, μ1, ν1)) (C : CxA false A p s m args meth c cc nL RX6 D cy ad) (X : WdA false A D cy ad s.heap μ ν H locs) (hsz : ls.size = nL) (hrm : (rest.map fun v => v.category).sum ≤ 8) (hR : 32 + 1 ≤ R.frames ∧ 8 + (3 + 11) + 707 ≤ R.locals) (hcs : cells ≤ R.cells ∧ slots ≤ R.slots) (hd : decode cc pc = .ok (.invokevirtual 301, 3)) (kk : ∀ (H1 : Heap) (locs1 : List Loc), WdA false A D cy ad s.heap μ1 ν1 H1 locs1 → narrow .int (.int r) = .int r → W p l e R s m args below meth c H1 locs1 cells slots Q (F0 m (pc + 3) ls (.int r :: rest))) : W p l e R s m args below meth c H locs cells slots Q (F0 m pc ls (.ref (ad 0) :: rest)) :=
  rCVI (As := []) (k := 0) (ct6_both1 hg) ok6 lX6_both1 k_1151 rfl rfl rfl C X rfl hrm hsz hR hcs hd kk
set_option maxRecDepth 100000 in
set_option maxHeartbeats 4000000 in
theorem w6_either1_1 {p : Program} {l : Launch} {e : Env} {s : State} {m : MethodId} {args : Array Value} {below : List Frame} {meth : Method} {c : Code} {D : va_G} {cy : Nat → ClassId} {ad : Nat → Nat} {r : Int32} {μ1 : Mem} {ν1 : Lem} (C : Cx false p s m args meth c cX6_either1 3 RX6 D cy ad) (hr : meth.sig.returnType = some .int) : ∀ (n : Nat), ∀ (μ : Mem) (ν : Lem) (x1 : Int32), f6_either1_1 n μ ν x1 = some (r, μ1, ν1) → ∀ (H : Heap) (locs : List Loc), Wd false D cy ad s.heap μ ν H locs → ∀ (ls : Array Slot), lv_has ls 3 [(0, .ref (ad 0)), (1, .int x1)] → WI false p l e 33 729 s m args below meth c D cy ad .int r μ1 ν1 H locs (F0 m 5 ls []) := by
  have hx := C.1.1
  have hb := C.1.2.1
  have hown := C.1.2.2.2.1
  have hts := C.1.2.2.2.2
  intro n
  induction n with
  | zero =>
    intro μ ν x1 hf H locs X ls hl
    rw [f6_either1_1] at hf
    cases hf
  | succ n ih =>
    intro μ ν x1 hf H locs X ls hl
    rw [f6_either1_1] at hf
    refine lv_aload_n hx hb dX6_either1_5 rfl (lv_at hl 0 rfl) ?_
    refine lv_bipush (v := 111) hx hb dX6_either1_6 (by decide) ?_
    refine lv_bipush (v := 114) hx hb dX6_either1_8 (by decide) ?_
    refine lv_iconst (v := 0) hx hb dX6_either1_10 (by decide) ?_
    refine lv_iconst (v := 0) hx hb dX6_either1_11 (by decide) ?_
    refine lv_iconst (v := 0) hx hb dX6_either1_12 (by decide) ?_
    refine lv_iconst (v := 0) hx hb dX6_either1_13 (by decide) ?_
    refine lv_iconst (v := 0) hx hb dX6_either1_14 (by decide) ?_
    refine lv_iconst (v := 0) hx hb dX6_either1_15 (by decide) ?_
    obtain ⟨r16, g16, hf⟩ := bd1_e hf
    refine qX6_180 g16 C X hl.1 ((Nat.le_of_ble_eq_true rfl)) ⟨(Nat.le_of_ble_eq_true rfl), (Nat.le_of_ble_eq_true rfl)⟩ ⟨Nat.zero_le _, Nat.zero_le _⟩ dX6_either1_16 (fun H locs X b16 => ?_)
    refine lv_if_eq (tgt := 48) hx hb dX6_either1_19 (by decide) (fun c19 => ?_) (fun c19 => ?_)
    · replace hf := ifp c19 hf
      refine lv_iload_n hx hb dX6_either1_48 rfl (lv_at hl 1 rfl) ?_
      exact retI C X hr rfl (so3 hf).1 (so3 hf).2.1 (so3 hf).2.2 dX6_either1_49
    · replace hf := ifn c19 hf
      refine lv_aload_n hx hb dX6_either1_22 rfl (lv_at hl 0 rfl) ?_
      obtain ⟨μ23, ν23, g23, hf⟩ := bd2_e hf
      refine qX6_177 g23 C X hl.1 ((Nat.le_of_ble_eq_true rfl)) ⟨(Nat.le_of_ble_eq_true rfl), (Nat.le_of_ble_eq_true rfl)⟩ ⟨Nat.zero_le _, Nat.zero_le _⟩ dX6_either1_23 (fun H locs X => ?_)
      refine lv_aload_n hx hb dX6_either1_26 rfl (lv_at hl 0 rfl) ?_
      obtain ⟨r27, μ27, ν27, g27, hf⟩ := bd3_e hf
      refine qX6_301 g27 C X hl.1 ((Nat.le_of_ble_eq_true rfl)) ⟨(Nat.le_of_ble_eq_true rfl), (Nat.le_of_ble_eq_true rfl)⟩ ⟨Nat.zero_le _, Nat.zero_le _⟩ dX6_either1_27 (fun H locs X b27 => ?_)
      refine lv_istore_n (lv' := [(2, .int r27), (0, .ref (ad 0)), (1, .int x1)]) hx hb dX6_either1_30 rfl hl (by decide) rfl (fun ls hl => ?_)
      refine lv_iload_n hx hb dX6_either1_31 rfl (lv_at hl 2 rfl) ?_
      refine lv_if_ne (tgt := 39) hx hb dX6_either1_32 (by decide) (fun c32 => ?_) (fun c32 => ?_)
      · replace hf := ifn c32 hf
        refine lv_iconst (v := 1) hx hb dX6_either1_39 (by decide) ?_
        refine lv_goto (tgt := 44) hx hb dX6_either1_40 (by decide) ?_
        refine lv_istore_n (lv' := [(1, .int 1), (2, .int r27), (0, .ref (ad 0))]) hx hb dX6_either1_44 rfl hl (by decide) rfl (fun ls hl => ?_)
        refine lv_goto (tgt := 5) hx hb dX6_either1_45 (by decide) ?_
        exact ih μ27 ν27 1 hf _ _ X _ (lv_sub hl [2, 0] rfl)
      · replace hf := ifp c32 hf
        refine lv_iload_n hx hb dX6_either1_35 rfl (lv_at hl 0 rfl) ?_
        refine lv_if_eq (tgt := 43) hx hb dX6_either1_36 (by decide) (fun c36 => ?_) (fun c36 => ?_)
        · replace hf := ifp c36 hf
          refine lv_iconst (v := 0) hx hb dX6_either1_43 (by decide) ?_
          refine lv_istore_n (lv' := [(1, .int 0), (2, .int r27), (0, .ref (ad 0))]) hx hb dX6_either1_44 rfl hl (by decide) rfl (fun ls hl => ?_)
          refine lv_goto (tgt := 5) hx hb dX6_either1_45 (by decide) ?_
          exact ih μ27 ν27 0 hf _ _ X _ (lv_sub hl [2, 0] rfl)
        · replace hf := ifn c36 hf
          refine lv_iconst (v := 1) hx hb dX6_either1_39 (by decide) ?_
          refine lv_goto (tgt := 44) hx hb dX6_either1_40 (by decide) ?_
          refine lv_istore_n (lv' := [(1, .int 1), (2, .int r27), (0, .ref (ad 0))]) hx hb dX6_either1_44 rfl hl (by decide) rfl (fun ls hl => ?_)
          refine lv_goto (tgt := 5) hx hb dX6_either1_45 (by decide) ?_
          exact ih μ27 ν27 1 hf _ _ X _ (lv_sub hl [2, 0] rfl)
set_option maxRecDepth 100000 in
set_option maxHeartbeats 4000000 in
theorem w6_either1 {p : Program} {l : Launch} {e : Env} {s : State} {m : MethodId} {args : Array Value} {below : List Frame} {meth : Method} {c : Code} {D : va_G} {cy : Nat → ClassId} {ad : Nat → Nat} {r : Int32} {μ1 : Mem} {ν1 : Lem} (C : Cx false p s m args meth c cX6_either1 3 RX6 D cy ad) (hr : meth.sig.returnType = some .int) : ∀ (μ : Mem) (ν : Lem), f6_either1 μ ν = some (r, μ1, ν1) → ∀ (H : Heap) (locs : List Loc), Wd false D cy ad s.heap μ ν H locs → ∀ (ls : Array Slot), lv_has ls 3 [(0, .ref (ad 0))] → WI false p l e 33 729 s m args below meth c D cy ad .int r μ1 ν1 H locs (F0 m 0 ls []) := by
  have hx := C.1.1
  have hb := C.1.2.1
  have hown := C.1.2.2.2.1
  have hts := C.1.2.2.2.2
  intro μ ν hf H locs X ls hl
  unfold f6_either1 at hf
  refine lv_aload_n hx hb dX6_either1_0 rfl (lv_at hl 0 rfl) ?_
  obtain ⟨r1, μ1, ν1, g1, hf⟩ := bd3_e hf
  refine qX6_301 g1 C X hl.1 ((Nat.le_of_ble_eq_true rfl)) ⟨(Nat.le_of_ble_eq_true rfl), (Nat.le_of_ble_eq_true rfl)⟩ ⟨Nat.zero_le _, Nat.zero_le _⟩ dX6_either1_1 (fun H locs X b1 => ?_)
  refine lv_istore_n (lv' := [(1, .int r1), (0, .ref (ad 0))]) hx hb dX6_either1_4 rfl hl (by decide) rfl (fun ls hl => ?_)
  exact w6_either1_1 C hr  FUEL μ1 ν1 r1 hf _ _ X _ (lv_sub hl [1, 0] rfl)
theorem ct6_either1 {μ : Mem} {ν : Lem} {r : Int32} {μ1 : Mem} {ν1 : Lem} (hg : f6_either1 μ ν = some (r, μ1, ν1)) : CtI false yX6_either1 cX6_either1 3 33 729 .int (fun ad => [.ref (ad 0)]) μ ν r μ1 ν1 :=
  mkI (by decide) rfl (fun ad => Nat.le_of_ble_eq_true rfl) (fun p l e s m args below meth c D cy ad C hr X ls hl => w6_either1 C hr μ ν hg _ _ X _ hl)
theorem qX6_304 {p : Program} {l : Launch} {e : Env} {R : Room} {s : State} {m : MethodId} {args : Array Value} {below : List Frame} {meth : Method} {c : Code} {H : Heap} {locs : List Loc} {cells slots : Nat} {Q : State → Prop} {A : Nat → Prop} {cc : ByteArray} {nL : Nat} {D : va_G} {cy : Nat → ClassId} {ad : Nat → Nat} {μ : Mem} {ν : Lem} {pc : Nat} {ls : Array Slot} {rest : List Value} {r : Int32} {μ1 : Mem} {ν1 : Lem} (hg : f6_either1 μ ν = some (r, μ1, ν1)) (C : CxA false A p s m args meth c cc nL RX6 D cy ad) (X : WdA false A D cy ad s.heap μ ν H locs) (hsz : ls.size = nL) (hrm : (rest.map fun v => v.category).sum ≤ 8) (hR : 33 + 1 ≤ R.frames ∧ 8 + (3 + 11) + 729 ≤ R.locals) (hcs : cells ≤ R.cells ∧ slots ≤ R.slots) (hd : decode cc pc = .ok (.invokevirtual 304, 3)) (kk : ∀ (H1 : Heap) (locs1 : List Loc), WdA false A D cy ad s.heap μ1 ν1 H1 locs1 → narrow .int (.int r) = .int r → W p l e R s m args below meth c H1 locs1 cells slots Q (F0 m (pc + 3) ls (.int r :: rest))) : W p l e R s m args below meth c H locs cells slots Q (F0 m pc ls (.ref (ad 0) :: rest)) :=
  rCVI (As := []) (k := 0) (ct6_either1 hg) ok6 lX6_either1 k_1147 rfl rfl rfl C X rfl hrm hsz hR hcs hd kk
set_option maxRecDepth 100000 in
set_option maxHeartbeats 4000000 in
theorem w6_atom0_3 {p : Program} {l : Launch} {e : Env} {s : State} {m : MethodId} {args : Array Value} {below : List Frame} {meth : Method} {c : Code} {D : va_G} {cy : Nat → ClassId} {ad : Nat → Nat} {r : Int32} {μ1 : Mem} {ν1 : Lem} (C : Cx false p s m args meth c cX6_atom0 2 RX6 D cy ad) (hr : meth.sig.returnType = some .int) : ∀ (μ : Mem) (ν : Lem) (x1 : Int32), f6_atom0_3 μ ν x1 = some (r, μ1, ν1) → ∀ (H : Heap) (locs : List Loc), Wd false D cy ad s.heap μ ν H locs → ∀ (ls : Array Slot), lv_has ls 2 [(0, .ref (ad 0)), (1, .int x1)] → WI false p l e 34 751 s m args below meth c D cy ad .int r μ1 ν1 H locs (F0 m 157 ls []) := by
  have hx := C.1.1
  have hb := C.1.2.1
  have hown := C.1.2.2.2.1
  have hts := C.1.2.2.2.2
  intro μ ν x1 hf H locs X ls hl
  unfold f6_atom0_3 at hf
  refine lv_aload_n hx hb dX6_atom0_157 rfl (lv_at hl 0 rfl) ?_
  obtain ⟨μ158, ν158, g158, hf⟩ := pr2_e hf
  refine qX6_174 g158 C X hl.1 ((Nat.le_of_ble_eq_true rfl)) ⟨(Nat.le_of_ble_eq_true rfl), (Nat.le_of_ble_eq_true rfl)⟩ ⟨Nat.zero_le _, Nat.zero_le _⟩ dX6_atom0_158 (fun H locs X => ?_)
  refine lv_iload_n hx hb dX6_atom0_161 rfl (lv_at hl 1 rfl) ?_
  exact retI C X hr rfl (so3 hf).1 (so3 hf).2.1 (so3 hf).2.2 dX6_atom0_162
set_option maxRecDepth 100000 in
set_option maxHeartbeats 4000000 in
theorem w6_atom0_2 {p : Program} {l : Launch} {e : Env} {s : State} {m : MethodId} {args : Array Value} {below : List Frame} {meth : Method} {c : Code} {D : va_G} {cy : Nat → ClassId} {ad : Nat → Nat} {r : Int32} {μ1 : Mem} {ν1 : Lem} (C : Cx false p s m args meth c cX6_atom0 2 RX6 D cy ad) (hr : meth.sig.returnType = some .int) : ∀ (μ : Mem) (ν : Lem) (x1 : Int32), f6_atom0_2 μ ν x1 = some (r, μ1, ν1) → ∀ (H : Heap) (locs : List Loc), Wd false D cy ad s.heap μ ν H locs → ∀ (ls : Array Slot), lv_has ls 2 [(0, .ref (ad 0)), (1, .int x1)] → WI false p l e 34 751 s m args below meth c D cy ad .int r μ1 ν1 H locs (F0 m 123 ls []) := by
  have hx := C.1.1
  have hb := C.1.2.1
  have hown := C.1.2.2.2.1
  have hts := C.1.2.2.2.2
  intro μ ν x1 hf H locs X ls hl
  unfold f6_atom0_2 at hf
  refine lv_aload_n hx hb dX6_atom0_123 rfl (lv_at hl 0 rfl) ?_
  refine gfX6_160 C X dX6_atom0_124 ?_
  refine lv_if_ne (tgt := 157) hx hb dX6_atom0_127 (by decide) (fun c127 => ?_) (fun c127 => ?_)
  · replace hf := ifn c127 hf
    exact w6_atom0_3 C hr  μ ν x1 hf _ _ X _ (lv_sub hl [0, 1] rfl)
  · replace hf := ifp c127 hf
    refine lv_aload_n hx hb dX6_atom0_130 rfl (lv_at hl 0 rfl) ?_
    refine gfX6_145 C X dX6_atom0_131 ?_
    refine lv_iconst (v := 1) hx hb dX6_atom0_134 (by decide) ?_
    refine lv_icmp_ne (tgt := 157) hx hb dX6_atom0_135 (by decide) (fun c135 => ?_) (fun c135 => ?_)
    · replace hf := ifn c135 hf
      exact w6_atom0_3 C hr  μ ν x1 hf _ _ X _ (lv_sub hl [0, 1] rfl)
    · replace hf := ifp c135 hf
      refine lv_aload_n hx hb dX6_atom0_138 rfl (lv_at hl 0 rfl) ?_
      obtain ⟨r139, μ139, ν139, g139, hf⟩ := bd3_e hf
      refine qX6_209 g139 C X hl.1 ((Nat.le_of_ble_eq_true rfl)) ⟨(Nat.le_of_ble_eq_true rfl), (Nat.le_of_ble_eq_true rfl)⟩ ⟨Nat.zero_le _, Nat.zero_le _⟩ dX6_atom0_139 (fun H locs X b139 => ?_)
      refine lv_istore_n (lv' := [(1, .int r139), (0, .ref (ad 0))]) hx hb dX6_atom0_142 rfl hl (by decide) rfl (fun ls hl => ?_)
      refine lv_aload_n hx hb dX6_atom0_143 rfl (lv_at hl 1 rfl) ?_
      refine gfX6_160 C X dX6_atom0_144 ?_
      refine lv_if_ne (tgt := 161) hx hb dX6_atom0_147 (by decide) (fun c147 => ?_) (fun c147 => ?_)
      · replace hf := ifn c147 hf
        refine lv_iload_n hx hb dX6_atom0_161 rfl (lv_at hl 0 rfl) ?_
        exact retI C X hr rfl (so3 hf).1 (so3 hf).2.1 (so3 hf).2.2 dX6_atom0_162
      · replace hf := ifp c147 hf
        refine lv_aload_n hx hb dX6_atom0_150 rfl (lv_at hl 1 rfl) ?_
        obtain ⟨μ151, ν151, g151, hf⟩ := bd2_e hf
        refine qX6_177 g151 C X hl.1 ((Nat.le_of_ble_eq_true rfl)) ⟨(Nat.le_of_ble_eq_true rfl), (Nat.le_of_ble_eq_true rfl)⟩ ⟨Nat.zero_le _, Nat.zero_le _⟩ dX6_atom0_151 (fun H locs X => ?_)
        refine lv_goto (tgt := 161) hx hb dX6_atom0_154 (by decide) ?_
        refine lv_iload_n hx hb dX6_atom0_161 rfl (lv_at hl 0 rfl) ?_
        exact retI C X hr rfl (so3 hf).1 (so3 hf).2.1 (so3 hf).2.2 dX6_atom0_162
set_option maxRecDepth 100000 in
set_option maxHeartbeats 4000000 in
theorem w6_atom0_1 {p : Program} {l : Launch} {e : Env} {s : State} {m : MethodId} {args : Array Value} {below : List Frame} {meth : Method} {c : Code} {D : va_G} {cy : Nat → ClassId} {ad : Nat → Nat} {r : Int32} {μ1 : Mem} {ν1 : Lem} (C : Cx false p s m args meth c cX6_atom0 2 RX6 D cy ad) (hr : meth.sig.returnType = some .int) : ∀ (μ : Mem) (ν : Lem) (x1 : Int32), f6_atom0_1 μ ν x1 = some (r, μ1, ν1) → ∀ (H : Heap) (locs : List Loc), Wd false D cy ad s.heap μ ν H locs → ∀ (ls : Array Slot), lv_has ls 2 [(0, .ref (ad 0)), (1, .int x1)] → WI false p l e 34 751 s m args below meth c D cy ad .int r μ1 ν1 H locs (F0 m 71 ls []) := by
  have hx := C.1.1
  have hb := C.1.2.1
  have hown := C.1.2.2.2.1
  have hts := C.1.2.2.2.2
  intro μ ν x1 hf H locs X ls hl
  unfold f6_atom0_1 at hf
  refine lv_aload_n hx hb dX6_atom0_71 rfl (lv_at hl 0 rfl) ?_
  refine lv_dup hx hb dX6_atom0_72 rfl ?_
  refine gfX6_171 C X dX6_atom0_73 ?_
  refine lv_iconst (v := 1) hx hb dX6_atom0_76 (by decide) ?_
  refine lv_isub hx hb dX6_atom0_77 ?_
  obtain ⟨μ78, e78, hf⟩ := nm_e2 hf
  refine pfX6_171 e78 C X dX6_atom0_78 (fun H locs X => ?_)
  refine lv_aload_n hx hb dX6_atom0_81 rfl (lv_at hl 0 rfl) ?_
  refine gfX6_160 C X dX6_atom0_82 ?_
  refine lv_if_ne (tgt := 161) hx hb dX6_atom0_85 (by decide) (fun c85 => ?_) (fun c85 => ?_)
  · replace hf := ifn c85 hf
    refine lv_iload_n hx hb dX6_atom0_161 rfl (lv_at hl 1 rfl) ?_
    exact retI C X hr rfl (so3 hf).1 (so3 hf).2.1 (so3 hf).2.2 dX6_atom0_162
  · replace hf := ifp c85 hf
    refine lv_aload_n hx hb dX6_atom0_88 rfl (lv_at hl 0 rfl) ?_
    obtain ⟨μ89, ν89, g89, hf⟩ := bd2_e hf
    refine qX6_177 g89 C X hl.1 ((Nat.le_of_ble_eq_true rfl)) ⟨(Nat.le_of_ble_eq_true rfl), (Nat.le_of_ble_eq_true rfl)⟩ ⟨Nat.zero_le _, Nat.zero_le _⟩ dX6_atom0_89 (fun H locs X => ?_)
    refine lv_goto (tgt := 161) hx hb dX6_atom0_92 (by decide) ?_
    refine lv_iload_n hx hb dX6_atom0_161 rfl (lv_at hl 1 rfl) ?_
    exact retI C X hr rfl (so3 hf).1 (so3 hf).2.1 (so3 hf).2.2 dX6_atom0_162
set_option maxRecDepth 100000 in
set_option maxHeartbeats 4000000 in
theorem w6_atom0 {p : Program} {l : Launch} {e : Env} {s : State} {m : MethodId} {args : Array Value} {below : List Frame} {meth : Method} {c : Code} {D : va_G} {cy : Nat → ClassId} {ad : Nat → Nat} {r : Int32} {μ1 : Mem} {ν1 : Lem} (C : Cx false p s m args meth c cX6_atom0 2 RX6 D cy ad) (hr : meth.sig.returnType = some .int) : ∀ (μ : Mem) (ν : Lem), f6_atom0 μ ν = some (r, μ1, ν1) → ∀ (H : Heap) (locs : List Loc), Wd false D cy ad s.heap μ ν H locs → ∀ (ls : Array Slot), lv_has ls 2 [(0, .ref (ad 0))] → WI false p l e 34 751 s m args below meth c D cy ad .int r μ1 ν1 H locs (F0 m 0 ls []) := by
  have hx := C.1.1
  have hb := C.1.2.1
  have hown := C.1.2.2.2.1
  have hts := C.1.2.2.2.2
  intro μ ν hf H locs X ls hl
  unfold f6_atom0 at hf
  refine lv_iconst (v := 0) hx hb dX6_atom0_0 (by decide) ?_
  refine lv_istore_n (lv' := [(1, .int 0), (0, .ref (ad 0))]) hx hb dX6_atom0_1 rfl hl (by decide) rfl (fun ls hl => ?_)
  refine lv_aload_n hx hb dX6_atom0_2 rfl (lv_at hl 1 rfl) ?_
  refine lv_bipush (v := 45) hx hb dX6_atom0_3 (by decide) ?_
  refine qX6_202 rfl C X hl.1 ((Nat.le_of_ble_eq_true rfl)) ⟨(Nat.le_of_ble_eq_true rfl), (Nat.le_of_ble_eq_true rfl)⟩ ⟨Nat.zero_le _, Nat.zero_le _⟩ dX6_atom0_5 (fun H locs X b5 => ?_)
  refine lv_if_eq (tgt := 37) hx hb dX6_atom0_8 (by decide) (fun c8 => ?_) (fun c8 => ?_)
  · replace hf := ifp c8 hf
    refine lv_aload_n hx hb dX6_atom0_37 rfl (lv_at hl 1 rfl) ?_
    refine lv_bipush (v := 40) hx hb dX6_atom0_38 (by decide) ?_
    refine qX6_202 rfl C X hl.1 ((Nat.le_of_ble_eq_true rfl)) ⟨(Nat.le_of_ble_eq_true rfl), (Nat.le_of_ble_eq_true rfl)⟩ ⟨Nat.zero_le _, Nat.zero_le _⟩ dX6_atom0_40 (fun H locs X b40 => ?_)
    refine lv_if_eq (tgt := 95) hx hb dX6_atom0_43 (by decide) (fun c43 => ?_) (fun c43 => ?_)
    · replace hf := ifp c43 hf
      refine lv_aload_n hx hb dX6_atom0_95 rfl (lv_at hl 1 rfl) ?_
      refine gfX6_160 C X dX6_atom0_96 ?_
      refine lv_if_ne (tgt := 123) hx hb dX6_atom0_99 (by decide) (fun c99 => ?_) (fun c99 => ?_)
      · replace hf := ifn c99 hf
        exact w6_atom0_2 C hr  μ ν 0 hf _ _ X _ (lv_sub hl [1, 0] rfl)
      · replace hf := ifp c99 hf
        refine lv_aload_n hx hb dX6_atom0_102 rfl (lv_at hl 1 rfl) ?_
        refine gfX6_145 C X dX6_atom0_103 ?_
        refine lv_iconst (v := 2) hx hb dX6_atom0_106 (by decide) ?_
        refine lv_icmp_ne (tgt := 123) hx hb dX6_atom0_107 (by decide) (fun c107 => ?_) (fun c107 => ?_)
        · replace hf := ifn c107 hf
          exact w6_atom0_2 C hr  μ ν 0 hf _ _ X _ (lv_sub hl [1, 0] rfl)
        · replace hf := ifp c107 hf
          refine lv_aload_n hx hb dX6_atom0_110 rfl (lv_at hl 1 rfl) ?_
          refine gfX6_156 C X dX6_atom0_111 ?_
          refine lv_l2i hx hb dX6_atom0_114 rfl ?_
          obtain ⟨v115, e115, hf⟩ := nm_e2 hf
          refine st_i e115 ?_
          refine lv_istore_n (lv' := [(1, .int v115), (0, .ref (ad 0))]) hx hb dX6_atom0_115 rfl hl (by decide) rfl (fun ls hl => ?_)
          refine lv_aload_n hx hb dX6_atom0_116 rfl (lv_at hl 1 rfl) ?_
          obtain ⟨μ117, ν117, g117, hf⟩ := bd2_e hf
          refine qX6_177 g117 C X hl.1 ((Nat.le_of_ble_eq_true rfl)) ⟨(Nat.le_of_ble_eq_true rfl), (Nat.le_of_ble_eq_true rfl)⟩ ⟨Nat.zero_le _, Nat.zero_le _⟩ dX6_atom0_117 (fun H locs X => ?_)
          refine lv_goto (tgt := 161) hx hb dX6_atom0_120 (by decide) ?_
          refine lv_iload_n hx hb dX6_atom0_161 rfl (lv_at hl 0 rfl) ?_
          exact retI C X hr rfl (so3 hf).1 (so3 hf).2.1 (so3 hf).2.2 dX6_atom0_162
    · replace hf := ifn c43 hf
      refine lv_aload_n hx hb dX6_atom0_46 rfl (lv_at hl 1 rfl) ?_
      obtain ⟨r47, μ47, ν47, g47, hf⟩ := bd3_e hf
      refine qX6_205 g47 C X hl.1 ((Nat.le_of_ble_eq_true rfl)) ⟨(Nat.le_of_ble_eq_true rfl), (Nat.le_of_ble_eq_true rfl)⟩ ⟨Nat.zero_le _, Nat.zero_le _⟩ dX6_atom0_47 (fun H locs X b47 => ?_)
      refine lv_if_eq (tgt := 161) hx hb dX6_atom0_50 (by decide) (fun c50 => ?_) (fun c50 => ?_)
      · replace hf := ifp c50 hf
        refine lv_iload_n hx hb dX6_atom0_161 rfl (lv_at hl 0 rfl) ?_
        exact retI C X hr rfl (so3 hf).1 (so3 hf).2.1 (so3 hf).2.2 dX6_atom0_162
      · replace hf := ifn c50 hf
        refine lv_aload_n hx hb dX6_atom0_53 rfl (lv_at hl 1 rfl) ?_
        obtain ⟨r54, μ54, ν54, g54, hf⟩ := bd3_e hf
        refine qX6_304 g54 C X hl.1 ((Nat.le_of_ble_eq_true rfl)) ⟨(Nat.le_of_ble_eq_true rfl), (Nat.le_of_ble_eq_true rfl)⟩ ⟨Nat.zero_le _, Nat.zero_le _⟩ dX6_atom0_54 (fun H locs X b54 => ?_)
        refine lv_istore_n (lv' := [(1, .int r54), (0, .ref (ad 0))]) hx hb dX6_atom0_57 rfl hl (by decide) rfl (fun ls hl => ?_)
        refine lv_aload_n hx hb dX6_atom0_58 rfl (lv_at hl 1 rfl) ?_
        refine lv_bipush (v := 41) hx hb dX6_atom0_59 (by decide) ?_
        refine qX6_202 rfl C X hl.1 ((Nat.le_of_ble_eq_true rfl)) ⟨(Nat.le_of_ble_eq_true rfl), (Nat.le_of_ble_eq_true rfl)⟩ ⟨Nat.zero_le _, Nat.zero_le _⟩ dX6_atom0_61 (fun H locs X b61 => ?_)
        refine lv_if_ne (tgt := 71) hx hb dX6_atom0_64 (by decide) (fun c64 => ?_) (fun c64 => ?_)
        · replace hf := ifn c64 hf
          exact w6_atom0_1 C hr  μ54 ν54 r54 hf _ _ X _ (lv_sub hl [1, 0] rfl)
        · replace hf := ifp c64 hf
          refine lv_aload_n hx hb dX6_atom0_67 rfl (lv_at hl 1 rfl) ?_
          obtain ⟨μ68, ν68, g68, hf⟩ := pr2_e hf
          refine qX6_174 g68 C X hl.1 ((Nat.le_of_ble_eq_true rfl)) ⟨(Nat.le_of_ble_eq_true rfl), (Nat.le_of_ble_eq_true rfl)⟩ ⟨Nat.zero_le _, Nat.zero_le _⟩ dX6_atom0_68 (fun H locs X => ?_)
          exact w6_atom0_1 C hr  μ68 ν68 r54 hf _ _ X _ (lv_sub hl [1, 0] rfl)
  · replace hf := ifn c8 hf
    refine lv_aload_n hx hb dX6_atom0_11 rfl (lv_at hl 1 rfl) ?_
    obtain ⟨r12, μ12, ν12, g12, hf⟩ := bd3_e hf
    refine qX6_205 g12 C X hl.1 ((Nat.le_of_ble_eq_true rfl)) ⟨(Nat.le_of_ble_eq_true rfl), (Nat.le_of_ble_eq_true rfl)⟩ ⟨Nat.zero_le _, Nat.zero_le _⟩ dX6_atom0_12 (fun H locs X b12 => ?_)
    refine lv_if_eq (tgt := 161) hx hb dX6_atom0_15 (by decide) (fun c15 => ?_) (fun c15 => ?_)
    · replace hf := ifp c15 hf
      refine lv_iload_n hx hb dX6_atom0_161 rfl (lv_at hl 0 rfl) ?_
      exact retI C X hr rfl (so3 hf).1 (so3 hf).2.1 (so3 hf).2.2 dX6_atom0_162
    · replace hf := ifn c15 hf
      refine lv_aload_n hx hb dX6_atom0_18 rfl (lv_at hl 1 rfl) ?_
      obtain ⟨r19, μ19, ν19, g19, hf⟩ := bd3_e hf
      refine qX6_289 g19 C X hl.1 ((Nat.le_of_ble_eq_true rfl)) ⟨(Nat.le_of_ble_eq_true rfl), (Nat.le_of_ble_eq_true rfl)⟩ ⟨Nat.zero_le _, Nat.zero_le _⟩ dX6_atom0_19 (fun H locs X b19 => ?_)
      refine lv_ineg hx hb dX6_atom0_22 ?_
      obtain ⟨v23, e23, hf⟩ := nm_e2 hf
      refine st_i e23 ?_
      refine lv_istore_n (lv' := [(1, .int v23), (0, .ref (ad 0))]) hx hb dX6_atom0_23 rfl hl (by decide) rfl (fun ls hl => ?_)
      refine lv_aload_n hx hb dX6_atom0_24 rfl (lv_at hl 1 rfl) ?_
      refine lv_dup hx hb dX6_atom0_25 rfl ?_
      refine gfX6_171 C X dX6_atom0_26 ?_
      refine lv_iconst (v := 1) hx hb dX6_atom0_29 (by decide) ?_
      refine lv_isub hx hb dX6_atom0_30 ?_
      obtain ⟨μ31, e31, hf⟩ := nm_e2 hf
      refine pfX6_171 e31 C X dX6_atom0_31 (fun H locs X => ?_)
      refine lv_goto (tgt := 161) hx hb dX6_atom0_34 (by decide) ?_
      refine lv_iload_n hx hb dX6_atom0_161 rfl (lv_at hl 0 rfl) ?_
      exact retI C X hr rfl (so3 hf).1 (so3 hf).2.1 (so3 hf).2.2 dX6_atom0_162
theorem ct6_atom0 {μ : Mem} {ν : Lem} {r : Int32} {μ1 : Mem} {ν1 : Lem} (hg : f6_atom0 μ ν = some (r, μ1, ν1)) : CtI false yX6_atom0 cX6_atom0 2 34 751 .int (fun ad => [.ref (ad 0)]) μ ν r μ1 ν1 :=
  mkI (by decide) rfl (fun ad => Nat.le_of_ble_eq_true rfl) (fun p l e s m args below meth c D cy ad C hr X ls hl => w6_atom0 C hr μ ν hg _ _ X _ hl)
theorem qX6_307 {p : Program} {l : Launch} {e : Env} {R : Room} {s : State} {m : MethodId} {args : Array Value} {below : List Frame} {meth : Method} {c : Code} {H : Heap} {locs : List Loc} {cells slots : Nat} {Q : State → Prop} {A : Nat → Prop} {cc : ByteArray} {nL : Nat} {D : va_G} {cy : Nat → ClassId} {ad : Nat → Nat} {μ : Mem} {ν : Lem} {pc : Nat} {ls : Array Slot} {rest : List Value} {r : Int32} {μ1 : Mem} {ν1 : Lem} (hg : f6_atom0 μ ν = some (r, μ1, ν1)) (C : CxA false A p s m args meth c cc nL RX6 D cy ad) (X : WdA false A D cy ad s.heap μ ν H locs) (hsz : ls.size = nL) (hrm : (rest.map fun v => v.category).sum ≤ 8) (hR : 34 + 1 ≤ R.frames ∧ 8 + (2 + 11) + 751 ≤ R.locals) (hcs : cells ≤ R.cells ∧ slots ≤ R.slots) (hd : decode cc pc = .ok (.invokevirtual 307, 3)) (kk : ∀ (H1 : Heap) (locs1 : List Loc), WdA false A D cy ad s.heap μ1 ν1 H1 locs1 → narrow .int (.int r) = .int r → W p l e R s m args below meth c H1 locs1 cells slots Q (F0 m (pc + 3) ls (.int r :: rest))) : W p l e R s m args below meth c H locs cells slots Q (F0 m pc ls (.ref (ad 0) :: rest)) :=
  rCVI (As := []) (k := 0) (ct6_atom0 hg) ok6 lX6_atom0 k_1143 rfl rfl rfl C X rfl hrm hsz hR hcs hd kk
set_option maxRecDepth 100000 in
set_option maxHeartbeats 4000000 in
theorem w6_term0_1 {p : Program} {l : Launch} {e : Env} {s : State} {m : MethodId} {args : Array Value} {below : List Frame} {meth : Method} {c : Code} {D : va_G} {cy : Nat → ClassId} {ad : Nat → Nat} {r : Int32} {μ1 : Mem} {ν1 : Lem} (C : Cx false p s m args meth c cX6_term0 2 RX6 D cy ad) (hr : meth.sig.returnType = some .int) : ∀ (n : Nat), ∀ (μ : Mem) (ν : Lem) (x1 : Int32), f6_term0_1 n μ ν x1 = some (r, μ1, ν1) → ∀ (H : Heap) (locs : List Loc), Wd false D cy ad s.heap μ ν H locs → ∀ (ls : Array Slot), lv_has ls 2 [(0, .ref (ad 0)), (1, .int x1)] → WI false p l e 35 772 s m args below meth c D cy ad .int r μ1 ν1 H locs (F0 m 5 ls []) := by
  have hx := C.1.1
  have hb := C.1.2.1
  have hown := C.1.2.2.2.1
  have hts := C.1.2.2.2.2
  intro n
  induction n with
  | zero =>
    intro μ ν x1 hf H locs X ls hl
    rw [f6_term0_1] at hf
    cases hf
  | succ n ih =>
    intro μ ν x1 hf H locs X ls hl
    rw [f6_term0_1] at hf
    refine lv_aload_n hx hb dX6_term0_5 rfl (lv_at hl 0 rfl) ?_
    refine lv_bipush (v := 42) hx hb dX6_term0_6 (by decide) ?_
    refine qX6_202 rfl C X hl.1 ((Nat.le_of_ble_eq_true rfl)) ⟨(Nat.le_of_ble_eq_true rfl), (Nat.le_of_ble_eq_true rfl)⟩ ⟨Nat.zero_le _, Nat.zero_le _⟩ dX6_term0_8 (fun H locs X b8 => ?_)
    refine lv_if_eq (tgt := 28) hx hb dX6_term0_11 (by decide) (fun c11 => ?_) (fun c11 => ?_)
    · replace hf := ifp c11 hf
      refine lv_iload_n hx hb dX6_term0_28 rfl (lv_at hl 1 rfl) ?_
      exact retI C X hr rfl (so3 hf).1 (so3 hf).2.1 (so3 hf).2.2 dX6_term0_29
    · replace hf := ifn c11 hf
      refine lv_aload_n hx hb dX6_term0_14 rfl (lv_at hl 0 rfl) ?_
      obtain ⟨μ15, ν15, g15, hf⟩ := bd2_e hf
      refine qX6_177 g15 C X hl.1 ((Nat.le_of_ble_eq_true rfl)) ⟨(Nat.le_of_ble_eq_true rfl), (Nat.le_of_ble_eq_true rfl)⟩ ⟨Nat.zero_le _, Nat.zero_le _⟩ dX6_term0_15 (fun H locs X => ?_)
      refine lv_iload_n hx hb dX6_term0_18 rfl (lv_at hl 1 rfl) ?_
      refine lv_aload_n hx hb dX6_term0_19 rfl (lv_at hl 0 rfl) ?_
      obtain ⟨r20, μ20, ν20, g20, hf⟩ := bd3_e hf
      refine qX6_307 g20 C X hl.1 ((Nat.le_of_ble_eq_true rfl)) ⟨(Nat.le_of_ble_eq_true rfl), (Nat.le_of_ble_eq_true rfl)⟩ ⟨Nat.zero_le _, Nat.zero_le _⟩ dX6_term0_20 (fun H locs X b20 => ?_)
      refine lv_imul hx hb dX6_term0_23 ?_
      obtain ⟨v24, e24, hf⟩ := nm_e2 hf
      refine st_i e24 ?_
      refine lv_istore_n (lv' := [(1, .int v24), (0, .ref (ad 0))]) hx hb dX6_term0_24 rfl hl (by decide) rfl (fun ls hl => ?_)
      refine lv_goto (tgt := 5) hx hb dX6_term0_25 (by decide) ?_
      exact ih μ20 ν20 v24 hf _ _ X _ (lv_sub hl [1, 0] rfl)
set_option maxRecDepth 100000 in
set_option maxHeartbeats 4000000 in
theorem w6_term0 {p : Program} {l : Launch} {e : Env} {s : State} {m : MethodId} {args : Array Value} {below : List Frame} {meth : Method} {c : Code} {D : va_G} {cy : Nat → ClassId} {ad : Nat → Nat} {r : Int32} {μ1 : Mem} {ν1 : Lem} (C : Cx false p s m args meth c cX6_term0 2 RX6 D cy ad) (hr : meth.sig.returnType = some .int) : ∀ (μ : Mem) (ν : Lem), f6_term0 μ ν = some (r, μ1, ν1) → ∀ (H : Heap) (locs : List Loc), Wd false D cy ad s.heap μ ν H locs → ∀ (ls : Array Slot), lv_has ls 2 [(0, .ref (ad 0))] → WI false p l e 35 772 s m args below meth c D cy ad .int r μ1 ν1 H locs (F0 m 0 ls []) := by
  have hx := C.1.1
  have hb := C.1.2.1
  have hown := C.1.2.2.2.1
  have hts := C.1.2.2.2.2
  intro μ ν hf H locs X ls hl
  unfold f6_term0 at hf
  refine lv_aload_n hx hb dX6_term0_0 rfl (lv_at hl 0 rfl) ?_
  obtain ⟨r1, μ1, ν1, g1, hf⟩ := bd3_e hf
  refine qX6_307 g1 C X hl.1 ((Nat.le_of_ble_eq_true rfl)) ⟨(Nat.le_of_ble_eq_true rfl), (Nat.le_of_ble_eq_true rfl)⟩ ⟨Nat.zero_le _, Nat.zero_le _⟩ dX6_term0_1 (fun H locs X b1 => ?_)
  refine lv_istore_n (lv' := [(1, .int r1), (0, .ref (ad 0))]) hx hb dX6_term0_4 rfl hl (by decide) rfl (fun ls hl => ?_)
  exact w6_term0_1 C hr  FUEL μ1 ν1 r1 hf _ _ X _ (lv_sub hl [1, 0] rfl)
theorem ct6_term0 {μ : Mem} {ν : Lem} {r : Int32} {μ1 : Mem} {ν1 : Lem} (hg : f6_term0 μ ν = some (r, μ1, ν1)) : CtI false yX6_term0 cX6_term0 2 35 772 .int (fun ad => [.ref (ad 0)]) μ ν r μ1 ν1 :=
  mkI (by decide) rfl (fun ad => Nat.le_of_ble_eq_true rfl) (fun p l e s m args below meth c D cy ad C hr X ls hl => w6_term0 C hr μ ν hg _ _ X _ hl)
theorem qX6_310 {p : Program} {l : Launch} {e : Env} {R : Room} {s : State} {m : MethodId} {args : Array Value} {below : List Frame} {meth : Method} {c : Code} {H : Heap} {locs : List Loc} {cells slots : Nat} {Q : State → Prop} {A : Nat → Prop} {cc : ByteArray} {nL : Nat} {D : va_G} {cy : Nat → ClassId} {ad : Nat → Nat} {μ : Mem} {ν : Lem} {pc : Nat} {ls : Array Slot} {rest : List Value} {r : Int32} {μ1 : Mem} {ν1 : Lem} (hg : f6_term0 μ ν = some (r, μ1, ν1)) (C : CxA false A p s m args meth c cc nL RX6 D cy ad) (X : WdA false A D cy ad s.heap μ ν H locs) (hsz : ls.size = nL) (hrm : (rest.map fun v => v.category).sum ≤ 8) (hR : 35 + 1 ≤ R.frames ∧ 8 + (2 + 11) + 772 ≤ R.locals) (hcs : cells ≤ R.cells ∧ slots ≤ R.slots) (hd : decode cc pc = .ok (.invokevirtual 310, 3)) (kk : ∀ (H1 : Heap) (locs1 : List Loc), WdA false A D cy ad s.heap μ1 ν1 H1 locs1 → narrow .int (.int r) = .int r → W p l e R s m args below meth c H1 locs1 cells slots Q (F0 m (pc + 3) ls (.int r :: rest))) : W p l e R s m args below meth c H locs cells slots Q (F0 m pc ls (.ref (ad 0) :: rest)) :=
  rCVI (As := []) (k := 0) (ct6_term0 hg) ok6 lX6_term0 k_1139 rfl rfl rfl C X rfl hrm hsz hR hcs hd kk
set_option maxRecDepth 100000 in
set_option maxHeartbeats 4000000 in
theorem w6_added0_3 {p : Program} {l : Launch} {e : Env} {s : State} {m : MethodId} {args : Array Value} {below : List Frame} {meth : Method} {c : Code} {D : va_G} {cy : Nat → ClassId} {ad : Nat → Nat} {r : Int32} {μ1 : Mem} {ν1 : Lem} (C : Cx false p s m args meth c cX6_added0 4 RX6 D cy ad) (hr : meth.sig.returnType = some .int) (K5 : Mem → Lem → Int32 → Option (Int32 × Mem × Lem)) (hK5 : ∀ (μ : Mem) (ν : Lem) (x1 : Int32), K5 μ ν x1 = some (r, μ1, ν1) → ∀ (H : Heap) (locs : List Loc), Wd false D cy ad s.heap μ ν H locs → ∀ (ls : Array Slot), lv_has ls 4 [(0, .ref (ad 0)), (1, .int x1)] → WI false p l e 36 793 s m args below meth c D cy ad .int r μ1 ν1 H locs (F0 m 5 ls [])) : ∀ (μ : Mem) (ν : Lem) (x1 : Int32) (t0 : Int32), f6_added0_3 K5 μ ν x1 t0 = some (r, μ1, ν1) → ∀ (H : Heap) (locs : List Loc), Wd false D cy ad s.heap μ ν H locs → ∀ (ls : Array Slot), lv_has ls 4 [(0, .ref (ad 0)), (1, .int x1)] → WI false p l e 36 793 s m args below meth c D cy ad .int r μ1 ν1 H locs (F0 m 39 ls [.int t0]) := by
  have hx := C.1.1
  have hb := C.1.2.1
  have hown := C.1.2.2.2.1
  have hts := C.1.2.2.2.2
  intro μ ν x1 t0 hf H locs X ls hl
  unfold f6_added0_3 at hf
  refine lv_istore_n (lv' := [(2, .int t0), (0, .ref (ad 0)), (1, .int x1)]) hx hb dX6_added0_39 rfl hl (by decide) rfl (fun ls hl => ?_)
  refine lv_aload_n hx hb dX6_added0_40 rfl (lv_at hl 1 rfl) ?_
  obtain ⟨μ41, ν41, g41, hf⟩ := bd2_e hf
  refine qX6_177 g41 C X hl.1 ((Nat.le_of_ble_eq_true rfl)) ⟨(Nat.le_of_ble_eq_true rfl), (Nat.le_of_ble_eq_true rfl)⟩ ⟨Nat.zero_le _, Nat.zero_le _⟩ dX6_added0_41 (fun H locs X => ?_)
  refine lv_aload_n hx hb dX6_added0_44 rfl (lv_at hl 1 rfl) ?_
  obtain ⟨r45, μ45, ν45, g45, hf⟩ := bd3_e hf
  refine qX6_310 g45 C X hl.1 ((Nat.le_of_ble_eq_true rfl)) ⟨(Nat.le_of_ble_eq_true rfl), (Nat.le_of_ble_eq_true rfl)⟩ ⟨Nat.zero_le _, Nat.zero_le _⟩ dX6_added0_45 (fun H locs X b45 => ?_)
  refine lv_istore_n (lv' := [(3, .int r45), (2, .int t0), (0, .ref (ad 0)), (1, .int x1)]) hx hb dX6_added0_48 rfl hl (by decide) rfl (fun ls hl => ?_)
  refine lv_iload_n hx hb dX6_added0_49 rfl (lv_at hl 1 rfl) ?_
  refine lv_if_eq (tgt := 59) hx hb dX6_added0_50 (by decide) (fun c50 => ?_) (fun c50 => ?_)
  · replace hf := ifp c50 hf
    refine lv_iload_n hx hb dX6_added0_59 rfl (lv_at hl 3 rfl) ?_
    refine lv_iload_n hx hb dX6_added0_60 rfl (lv_at hl 0 rfl) ?_
    refine lv_isub hx hb dX6_added0_61 ?_
    obtain ⟨v62, e62, hf⟩ := nm_e2 hf
    refine st_i e62 ?_
    refine lv_istore_n (lv' := [(1, .int v62), (3, .int r45), (2, .int t0), (0, .ref (ad 0))]) hx hb dX6_added0_62 rfl hl (by decide) rfl (fun ls hl => ?_)
    refine lv_goto (tgt := 5) hx hb dX6_added0_63 (by decide) ?_
    exact hK5 μ45 ν45 v62 hf _ _ X _ (lv_sub hl [3, 0] rfl)
  · replace hf := ifn c50 hf
    refine lv_iload_n hx hb dX6_added0_53 rfl (lv_at hl 3 rfl) ?_
    refine lv_iload_n hx hb dX6_added0_54 rfl (lv_at hl 0 rfl) ?_
    refine lv_iadd hx hb dX6_added0_55 ?_
    refine lv_goto (tgt := 62) hx hb dX6_added0_56 (by decide) ?_
    obtain ⟨v62, e62, hf⟩ := nm_e2 hf
    refine st_i e62 ?_
    refine lv_istore_n (lv' := [(1, .int v62), (3, .int r45), (2, .int t0), (0, .ref (ad 0))]) hx hb dX6_added0_62 rfl hl (by decide) rfl (fun ls hl => ?_)
    refine lv_goto (tgt := 5) hx hb dX6_added0_63 (by decide) ?_
    exact hK5 μ45 ν45 v62 hf _ _ X _ (lv_sub hl [3, 0] rfl)
set_option maxRecDepth 100000 in
set_option maxHeartbeats 4000000 in
theorem w6_added0_2 {p : Program} {l : Launch} {e : Env} {s : State} {m : MethodId} {args : Array Value} {below : List Frame} {meth : Method} {c : Code} {D : va_G} {cy : Nat → ClassId} {ad : Nat → Nat} {r : Int32} {μ1 : Mem} {ν1 : Lem} (C : Cx false p s m args meth c cX6_added0 4 RX6 D cy ad) (hr : meth.sig.returnType = some .int) (K5 : Mem → Lem → Int32 → Option (Int32 × Mem × Lem)) (hK5 : ∀ (μ : Mem) (ν : Lem) (x1 : Int32), K5 μ ν x1 = some (r, μ1, ν1) → ∀ (H : Heap) (locs : List Loc), Wd false D cy ad s.heap μ ν H locs → ∀ (ls : Array Slot), lv_has ls 4 [(0, .ref (ad 0)), (1, .int x1)] → WI false p l e 36 793 s m args below meth c D cy ad .int r μ1 ν1 H locs (F0 m 5 ls [])) : ∀ (μ : Mem) (ν : Lem) (x1 : Int32), f6_added0_2 K5 μ ν x1 = some (r, μ1, ν1) → ∀ (H : Heap) (locs : List Loc), Wd false D cy ad s.heap μ ν H locs → ∀ (ls : Array Slot), lv_has ls 4 [(0, .ref (ad 0)), (1, .int x1)] → WI false p l e 36 793 s m args below meth c D cy ad .int r μ1 ν1 H locs (F0 m 23 ls []) := by
  have hx := C.1.1
  have hb := C.1.2.1
  have hown := C.1.2.2.2.1
  have hts := C.1.2.2.2.2
  intro μ ν x1 hf H locs X ls hl
  unfold f6_added0_2 at hf
  refine lv_aload_n hx hb dX6_added0_23 rfl (lv_at hl 0 rfl) ?_
  refine gfX6_156 C X dX6_added0_24 ?_
  refine lv_ldc2 (v := (43)) hx hb hown (hts _ k_1053) dX6_added0_27 ?_
  refine W.lcmp hx hb dX6_added0_30 ?_
  refine lv_if_ne (tgt := 38) hx hb dX6_added0_31 (by decide) (fun c31 => ?_) (fun c31 => ?_)
  · replace hf := ifn c31 hf
    refine lv_iconst (v := 0) hx hb dX6_added0_38 (by decide) ?_
    exact w6_added0_3 C hr K5 hK5 μ ν x1 0 hf _ _ X _ (lv_sub hl [0, 1] rfl)
  · replace hf := ifp c31 hf
    refine lv_iconst (v := 1) hx hb dX6_added0_34 (by decide) ?_
    refine lv_goto (tgt := 39) hx hb dX6_added0_35 (by decide) ?_
    exact w6_added0_3 C hr K5 hK5 μ ν x1 1 hf _ _ X _ (lv_sub hl [0, 1] rfl)
set_option maxRecDepth 100000 in
set_option maxHeartbeats 4000000 in
theorem w6_added0_1 {p : Program} {l : Launch} {e : Env} {s : State} {m : MethodId} {args : Array Value} {below : List Frame} {meth : Method} {c : Code} {D : va_G} {cy : Nat → ClassId} {ad : Nat → Nat} {r : Int32} {μ1 : Mem} {ν1 : Lem} (C : Cx false p s m args meth c cX6_added0 4 RX6 D cy ad) (hr : meth.sig.returnType = some .int) : ∀ (n : Nat), ∀ (μ : Mem) (ν : Lem) (x1 : Int32), f6_added0_1 n μ ν x1 = some (r, μ1, ν1) → ∀ (H : Heap) (locs : List Loc), Wd false D cy ad s.heap μ ν H locs → ∀ (ls : Array Slot), lv_has ls 4 [(0, .ref (ad 0)), (1, .int x1)] → WI false p l e 36 793 s m args below meth c D cy ad .int r μ1 ν1 H locs (F0 m 5 ls []) := by
  have hx := C.1.1
  have hb := C.1.2.1
  have hown := C.1.2.2.2.1
  have hts := C.1.2.2.2.2
  intro n
  induction n with
  | zero =>
    intro μ ν x1 hf H locs X ls hl
    rw [f6_added0_1] at hf
    cases hf
  | succ n ih =>
    intro μ ν x1 hf H locs X ls hl
    rw [f6_added0_1] at hf
    refine lv_aload_n hx hb dX6_added0_5 rfl (lv_at hl 0 rfl) ?_
    refine lv_bipush (v := 43) hx hb dX6_added0_6 (by decide) ?_
    refine qX6_202 rfl C X hl.1 ((Nat.le_of_ble_eq_true rfl)) ⟨(Nat.le_of_ble_eq_true rfl), (Nat.le_of_ble_eq_true rfl)⟩ ⟨Nat.zero_le _, Nat.zero_le _⟩ dX6_added0_8 (fun H locs X b8 => ?_)
    refine lv_if_ne (tgt := 23) hx hb dX6_added0_11 (by decide) (fun c11 => ?_) (fun c11 => ?_)
    · replace hf := ifn c11 hf
      exact w6_added0_2 C hr (f6_added0_1 n) ih μ ν x1 hf _ _ X _ (lv_sub hl [0, 1] rfl)
    · replace hf := ifp c11 hf
      refine lv_aload_n hx hb dX6_added0_14 rfl (lv_at hl 0 rfl) ?_
      refine lv_bipush (v := 45) hx hb dX6_added0_15 (by decide) ?_
      refine qX6_202 rfl C X hl.1 ((Nat.le_of_ble_eq_true rfl)) ⟨(Nat.le_of_ble_eq_true rfl), (Nat.le_of_ble_eq_true rfl)⟩ ⟨Nat.zero_le _, Nat.zero_le _⟩ dX6_added0_17 (fun H locs X b17 => ?_)
      refine lv_if_eq (tgt := 66) hx hb dX6_added0_20 (by decide) (fun c20 => ?_) (fun c20 => ?_)
      · replace hf := ifp c20 hf
        refine lv_iload_n hx hb dX6_added0_66 rfl (lv_at hl 1 rfl) ?_
        exact retI C X hr rfl (so3 hf).1 (so3 hf).2.1 (so3 hf).2.2 dX6_added0_67
      · replace hf := ifn c20 hf
        exact w6_added0_2 C hr (f6_added0_1 n) ih μ ν x1 hf _ _ X _ (lv_sub hl [0, 1] rfl)
set_option maxRecDepth 100000 in
set_option maxHeartbeats 4000000 in
theorem w6_added0 {p : Program} {l : Launch} {e : Env} {s : State} {m : MethodId} {args : Array Value} {below : List Frame} {meth : Method} {c : Code} {D : va_G} {cy : Nat → ClassId} {ad : Nat → Nat} {r : Int32} {μ1 : Mem} {ν1 : Lem} (C : Cx false p s m args meth c cX6_added0 4 RX6 D cy ad) (hr : meth.sig.returnType = some .int) : ∀ (μ : Mem) (ν : Lem), f6_added0 μ ν = some (r, μ1, ν1) → ∀ (H : Heap) (locs : List Loc), Wd false D cy ad s.heap μ ν H locs → ∀ (ls : Array Slot), lv_has ls 4 [(0, .ref (ad 0))] → WI false p l e 36 793 s m args below meth c D cy ad .int r μ1 ν1 H locs (F0 m 0 ls []) := by
  have hx := C.1.1
  have hb := C.1.2.1
  have hown := C.1.2.2.2.1
  have hts := C.1.2.2.2.2
  intro μ ν hf H locs X ls hl
  unfold f6_added0 at hf
  refine lv_aload_n hx hb dX6_added0_0 rfl (lv_at hl 0 rfl) ?_
  obtain ⟨r1, μ1, ν1, g1, hf⟩ := bd3_e hf
  refine qX6_310 g1 C X hl.1 ((Nat.le_of_ble_eq_true rfl)) ⟨(Nat.le_of_ble_eq_true rfl), (Nat.le_of_ble_eq_true rfl)⟩ ⟨Nat.zero_le _, Nat.zero_le _⟩ dX6_added0_1 (fun H locs X b1 => ?_)
  refine lv_istore_n (lv' := [(1, .int r1), (0, .ref (ad 0))]) hx hb dX6_added0_4 rfl hl (by decide) rfl (fun ls hl => ?_)
  exact w6_added0_1 C hr  FUEL μ1 ν1 r1 hf _ _ X _ (lv_sub hl [1, 0] rfl)
theorem ct6_added0 {μ : Mem} {ν : Lem} {r : Int32} {μ1 : Mem} {ν1 : Lem} (hg : f6_added0 μ ν = some (r, μ1, ν1)) : CtI false yX6_added0 cX6_added0 4 36 793 .int (fun ad => [.ref (ad 0)]) μ ν r μ1 ν1 :=
  mkI (by decide) rfl (fun ad => Nat.le_of_ble_eq_true rfl) (fun p l e s m args below meth c D cy ad C hr X ls hl => w6_added0 C hr μ ν hg _ _ X _ hl)
theorem qX6_313 {p : Program} {l : Launch} {e : Env} {R : Room} {s : State} {m : MethodId} {args : Array Value} {below : List Frame} {meth : Method} {c : Code} {H : Heap} {locs : List Loc} {cells slots : Nat} {Q : State → Prop} {A : Nat → Prop} {cc : ByteArray} {nL : Nat} {D : va_G} {cy : Nat → ClassId} {ad : Nat → Nat} {μ : Mem} {ν : Lem} {pc : Nat} {ls : Array Slot} {rest : List Value} {r : Int32} {μ1 : Mem} {ν1 : Lem} (hg : f6_added0 μ ν = some (r, μ1, ν1)) (C : CxA false A p s m args meth c cc nL RX6 D cy ad) (X : WdA false A D cy ad s.heap μ ν H locs) (hsz : ls.size = nL) (hrm : (rest.map fun v => v.category).sum ≤ 8) (hR : 36 + 1 ≤ R.frames ∧ 8 + (4 + 11) + 793 ≤ R.locals) (hcs : cells ≤ R.cells ∧ slots ≤ R.slots) (hd : decode cc pc = .ok (.invokevirtual 313, 3)) (kk : ∀ (H1 : Heap) (locs1 : List Loc), WdA false A D cy ad s.heap μ1 ν1 H1 locs1 → narrow .int (.int r) = .int r → W p l e R s m args below meth c H1 locs1 cells slots Q (F0 m (pc + 3) ls (.int r :: rest))) : W p l e R s m args below meth c H locs cells slots Q (F0 m pc ls (.ref (ad 0) :: rest)) :=
  rCVI (As := []) (k := 0) (ct6_added0 hg) ok6 lX6_added0 k_1135 rfl rfl rfl C X rfl hrm hsz hR hcs hd kk
set_option maxRecDepth 100000 in
set_option maxHeartbeats 4000000 in
theorem w6_not0_2 {p : Program} {l : Launch} {e : Env} {s : State} {m : MethodId} {args : Array Value} {below : List Frame} {meth : Method} {c : Code} {D : va_G} {cy : Nat → ClassId} {ad : Nat → Nat} {r : Int32} {μ1 : Mem} {ν1 : Lem} (C : Cx false p s m args meth c cX6_not0 4 RX6 D cy ad) (hr : meth.sig.returnType = some .int) : ∀ (μ : Mem) (ν : Lem) (x1 : Int32) (t0 : Int32), f6_not0_2 μ ν x1 t0 = some (r, μ1, ν1) → ∀ (H : Heap) (locs : List Loc), Wd false D cy ad s.heap μ ν H locs → ∀ (ls : Array Slot), lv_has ls 4 [(0, .ref (ad 0)), (1, .int x1)] → WI false p l e 37 816 s m args below meth c D cy ad .int r μ1 ν1 H locs (F0 m 93 ls [.int t0]) := by
  have hx := C.1.1
  have hb := C.1.2.1
  have hown := C.1.2.2.2.1
  have hts := C.1.2.2.2.2
  intro μ ν x1 t0 hf H locs X ls hl
  unfold f6_not0_2 at hf
  refine lv_istore_n (lv' := [(2, .int t0), (0, .ref (ad 0)), (1, .int x1)]) hx hb dX6_not0_93 rfl hl (by decide) rfl (fun ls hl => ?_)
  refine lv_aload_n hx hb dX6_not0_94 rfl (lv_at hl 1 rfl) ?_
  obtain ⟨μ95, ν95, g95, hf⟩ := bd2_e hf
  refine qX6_177 g95 C X hl.1 ((Nat.le_of_ble_eq_true rfl)) ⟨(Nat.le_of_ble_eq_true rfl), (Nat.le_of_ble_eq_true rfl)⟩ ⟨Nat.zero_le _, Nat.zero_le _⟩ dX6_not0_95 (fun H locs X => ?_)
  refine lv_aload_n hx hb dX6_not0_98 rfl (lv_at hl 1 rfl) ?_
  obtain ⟨r99, μ99, ν99, g99, hf⟩ := bd3_e hf
  refine qX6_313 g99 C X hl.1 ((Nat.le_of_ble_eq_true rfl)) ⟨(Nat.le_of_ble_eq_true rfl), (Nat.le_of_ble_eq_true rfl)⟩ ⟨Nat.zero_le _, Nat.zero_le _⟩ dX6_not0_99 (fun H locs X b99 => ?_)
  refine lv_istore_n (lv' := [(3, .int r99), (2, .int t0), (0, .ref (ad 0)), (1, .int x1)]) hx hb dX6_not0_102 rfl hl (by decide) rfl (fun ls hl => ?_)
  refine lv_iload_n hx hb dX6_not0_103 rfl (lv_at hl 1 rfl) ?_
  refine lv_if_eq (tgt := 115) hx hb dX6_not0_104 (by decide) (fun c104 => ?_) (fun c104 => ?_)
  · replace hf := ifp c104 hf
    refine lv_iload_n hx hb dX6_not0_115 rfl (lv_at hl 3 rfl) ?_
    refine lv_iload_n hx hb dX6_not0_116 rfl (lv_at hl 0 rfl) ?_
    refine lv_icmp_ne (tgt := 124) hx hb dX6_not0_117 (by decide) (fun c117 => ?_) (fun c117 => ?_)
    · replace hf := ifn c117 hf
      refine lv_iconst (v := 0) hx hb dX6_not0_124 (by decide) ?_
      exact retI C X hr rfl (so3 hf).1 (so3 hf).2.1 (so3 hf).2.2 dX6_not0_125
    · replace hf := ifp c117 hf
      refine lv_iconst (v := 1) hx hb dX6_not0_120 (by decide) ?_
      refine lv_goto (tgt := 125) hx hb dX6_not0_121 (by decide) ?_
      exact retI C X hr rfl (so3 hf).1 (so3 hf).2.1 (so3 hf).2.2 dX6_not0_125
  · replace hf := ifn c104 hf
    refine lv_iload_n hx hb dX6_not0_107 rfl (lv_at hl 3 rfl) ?_
    refine lv_iload_n hx hb dX6_not0_108 rfl (lv_at hl 0 rfl) ?_
    refine lv_icmp_ge (tgt := 124) hx hb dX6_not0_109 (by decide) (fun c109 => ?_) (fun c109 => ?_)
    · replace hf := ifp c109 hf
      refine lv_iconst (v := 0) hx hb dX6_not0_124 (by decide) ?_
      exact retI C X hr rfl (so3 hf).1 (so3 hf).2.1 (so3 hf).2.2 dX6_not0_125
    · replace hf := ifn c109 hf
      refine lv_goto (tgt := 120) hx hb dX6_not0_112 (by decide) ?_
      refine lv_iconst (v := 1) hx hb dX6_not0_120 (by decide) ?_
      refine lv_goto (tgt := 125) hx hb dX6_not0_121 (by decide) ?_
      exact retI C X hr rfl (so3 hf).1 (so3 hf).2.1 (so3 hf).2.2 dX6_not0_125
set_option maxRecDepth 100000 in
set_option maxHeartbeats 4000000 in
theorem w6_not0_1 {p : Program} {l : Launch} {e : Env} {s : State} {m : MethodId} {args : Array Value} {below : List Frame} {meth : Method} {c : Code} {D : va_G} {cy : Nat → ClassId} {ad : Nat → Nat} {r : Int32} {μ1 : Mem} {ν1 : Lem} (C : Cx false p s m args meth c cX6_not0 4 RX6 D cy ad) (hr : meth.sig.returnType = some .int) : ∀ (μ : Mem) (ν : Lem) (x1 : Int32), f6_not0_1 μ ν x1 = some (r, μ1, ν1) → ∀ (H : Heap) (locs : List Loc), Wd false D cy ad s.heap μ ν H locs → ∀ (ls : Array Slot), lv_has ls 4 [(0, .ref (ad 0)), (1, .int x1)] → WI false p l e 37 816 s m args below meth c D cy ad .int r μ1 ν1 H locs (F0 m 77 ls []) := by
  have hx := C.1.1
  have hb := C.1.2.1
  have hown := C.1.2.2.2.1
  have hts := C.1.2.2.2.2
  intro μ ν x1 hf H locs X ls hl
  unfold f6_not0_1 at hf
  refine lv_aload_n hx hb dX6_not0_77 rfl (lv_at hl 0 rfl) ?_
  refine gfX6_156 C X dX6_not0_78 ?_
  refine lv_ldc2 (v := (60)) hx hb hown (hts _ k_1054) dX6_not0_81 ?_
  refine W.lcmp hx hb dX6_not0_84 ?_
  refine lv_if_ne (tgt := 92) hx hb dX6_not0_85 (by decide) (fun c85 => ?_) (fun c85 => ?_)
  · replace hf := ifn c85 hf
    refine lv_iconst (v := 0) hx hb dX6_not0_92 (by decide) ?_
    exact w6_not0_2 C hr  μ ν x1 0 hf _ _ X _ (lv_sub hl [0, 1] rfl)
  · replace hf := ifp c85 hf
    refine lv_iconst (v := 1) hx hb dX6_not0_88 (by decide) ?_
    refine lv_goto (tgt := 93) hx hb dX6_not0_89 (by decide) ?_
    exact w6_not0_2 C hr  μ ν x1 1 hf _ _ X _ (lv_sub hl [0, 1] rfl)
set_option maxRecDepth 100000 in
set_option maxHeartbeats 4000000 in
theorem w6_not0 {p : Program} {l : Launch} {e : Env} {s : State} {m : MethodId} {args : Array Value} {below : List Frame} {meth : Method} {c : Code} {D : va_G} {cy : Nat → ClassId} {ad : Nat → Nat} {r : Int32} {μ1 : Mem} {ν1 : Lem} (C : Cx false p s m args meth c cX6_not0 4 RX6 D cy ad) (hr : meth.sig.returnType = some .int) : ∀ (μ : Mem) (ν : Lem), f6_not0 μ ν = some (r, μ1, ν1) → ∀ (H : Heap) (locs : List Loc), Wd false D cy ad s.heap μ ν H locs → ∀ (ls : Array Slot), lv_has ls 4 [(0, .ref (ad 0))] → WI false p l e 37 816 s m args below meth c D cy ad .int r μ1 ν1 H locs (F0 m 0 ls []) := by
  have hx := C.1.1
  have hb := C.1.2.1
  have hown := C.1.2.2.2.1
  have hts := C.1.2.2.2.2
  intro μ ν hf H locs X ls hl
  unfold f6_not0 at hf
  refine lv_aload_n hx hb dX6_not0_0 rfl (lv_at hl 0 rfl) ?_
  refine lv_bipush (v := 110) hx hb dX6_not0_1 (by decide) ?_
  refine lv_bipush (v := 111) hx hb dX6_not0_3 (by decide) ?_
  refine lv_bipush (v := 116) hx hb dX6_not0_5 (by decide) ?_
  refine lv_iconst (v := 0) hx hb dX6_not0_7 (by decide) ?_
  refine lv_iconst (v := 0) hx hb dX6_not0_8 (by decide) ?_
  refine lv_iconst (v := 0) hx hb dX6_not0_9 (by decide) ?_
  refine lv_iconst (v := 0) hx hb dX6_not0_10 (by decide) ?_
  refine lv_iconst (v := 0) hx hb dX6_not0_11 (by decide) ?_
  obtain ⟨r12, g12, hf⟩ := bd1_e hf
  refine qX6_180 g12 C X hl.1 ((Nat.le_of_ble_eq_true rfl)) ⟨(Nat.le_of_ble_eq_true rfl), (Nat.le_of_ble_eq_true rfl)⟩ ⟨Nat.zero_le _, Nat.zero_le _⟩ dX6_not0_12 (fun H locs X b12 => ?_)
  refine lv_if_eq (tgt := 52) hx hb dX6_not0_15 (by decide) (fun c15 => ?_) (fun c15 => ?_)
  · replace hf := ifp c15 hf
    refine lv_aload_n hx hb dX6_not0_52 rfl (lv_at hl 0 rfl) ?_
    obtain ⟨r53, μ53, ν53, g53, hf⟩ := bd3_e hf
    refine qX6_313 g53 C X hl.1 ((Nat.le_of_ble_eq_true rfl)) ⟨(Nat.le_of_ble_eq_true rfl), (Nat.le_of_ble_eq_true rfl)⟩ ⟨Nat.zero_le _, Nat.zero_le _⟩ dX6_not0_53 (fun H locs X b53 => ?_)
    refine lv_istore_n (lv' := [(1, .int r53), (0, .ref (ad 0))]) hx hb dX6_not0_56 rfl hl (by decide) rfl (fun ls hl => ?_)
    refine lv_aload_n hx hb dX6_not0_57 rfl (lv_at hl 1 rfl) ?_
    refine lv_bipush (v := 60) hx hb dX6_not0_58 (by decide) ?_
    refine qX6_202 rfl C X hl.1 ((Nat.le_of_ble_eq_true rfl)) ⟨(Nat.le_of_ble_eq_true rfl), (Nat.le_of_ble_eq_true rfl)⟩ ⟨Nat.zero_le _, Nat.zero_le _⟩ dX6_not0_60 (fun H locs X b60 => ?_)
    refine lv_if_ne (tgt := 77) hx hb dX6_not0_63 (by decide) (fun c63 => ?_) (fun c63 => ?_)
    · replace hf := ifn c63 hf
      exact w6_not0_1 C hr  μ53 ν53 r53 hf _ _ X _ (lv_sub hl [1, 0] rfl)
    · replace hf := ifp c63 hf
      refine lv_aload_n hx hb dX6_not0_66 rfl (lv_at hl 1 rfl) ?_
      refine lv_bipush (v := 61) hx hb dX6_not0_67 (by decide) ?_
      refine qX6_202 rfl C X hl.1 ((Nat.le_of_ble_eq_true rfl)) ⟨(Nat.le_of_ble_eq_true rfl), (Nat.le_of_ble_eq_true rfl)⟩ ⟨Nat.zero_le _, Nat.zero_le _⟩ dX6_not0_69 (fun H locs X b69 => ?_)
      refine lv_if_ne (tgt := 77) hx hb dX6_not0_72 (by decide) (fun c72 => ?_) (fun c72 => ?_)
      · replace hf := ifn c72 hf
        exact w6_not0_1 C hr  μ53 ν53 r53 hf _ _ X _ (lv_sub hl [1, 0] rfl)
      · replace hf := ifp c72 hf
        refine lv_iload_n hx hb dX6_not0_75 rfl (lv_at hl 0 rfl) ?_
        exact retI C X hr rfl (so3 hf).1 (so3 hf).2.1 (so3 hf).2.2 dX6_not0_76
  · replace hf := ifn c15 hf
    refine lv_aload_n hx hb dX6_not0_18 rfl (lv_at hl 0 rfl) ?_
    obtain ⟨r19, μ19, ν19, g19, hf⟩ := bd3_e hf
    refine qX6_205 g19 C X hl.1 ((Nat.le_of_ble_eq_true rfl)) ⟨(Nat.le_of_ble_eq_true rfl), (Nat.le_of_ble_eq_true rfl)⟩ ⟨Nat.zero_le _, Nat.zero_le _⟩ dX6_not0_19 (fun H locs X b19 => ?_)
    refine lv_if_ne (tgt := 27) hx hb dX6_not0_22 (by decide) (fun c22 => ?_) (fun c22 => ?_)
    · replace hf := ifn c22 hf
      refine lv_aload_n hx hb dX6_not0_27 rfl (lv_at hl 0 rfl) ?_
      obtain ⟨r28, μ28, ν28, g28, hf⟩ := bd3_e hf
      refine qX6_298 g28 C X hl.1 ((Nat.le_of_ble_eq_true rfl)) ⟨(Nat.le_of_ble_eq_true rfl), (Nat.le_of_ble_eq_true rfl)⟩ ⟨Nat.zero_le _, Nat.zero_le _⟩ dX6_not0_28 (fun H locs X b28 => ?_)
      refine lv_istore_n (lv' := [(1, .int r28), (0, .ref (ad 0))]) hx hb dX6_not0_31 rfl hl (by decide) rfl (fun ls hl => ?_)
      refine lv_aload_n hx hb dX6_not0_32 rfl (lv_at hl 1 rfl) ?_
      refine lv_dup hx hb dX6_not0_33 rfl ?_
      refine gfX6_171 C X dX6_not0_34 ?_
      refine lv_iconst (v := 1) hx hb dX6_not0_37 (by decide) ?_
      refine lv_isub hx hb dX6_not0_38 ?_
      obtain ⟨μ39, e39, hf⟩ := nm_e2 hf
      refine pfX6_171 e39 C X dX6_not0_39 (fun H locs X => ?_)
      refine lv_iload_n hx hb dX6_not0_42 rfl (lv_at hl 0 rfl) ?_
      refine lv_if_ne (tgt := 50) hx hb dX6_not0_43 (by decide) (fun c43 => ?_) (fun c43 => ?_)
      · replace hf := ifn c43 hf
        refine lv_iconst (v := 0) hx hb dX6_not0_50 (by decide) ?_
        exact retI C X hr rfl (so3 hf).1 (so3 hf).2.1 (so3 hf).2.2 dX6_not0_51
      · replace hf := ifp c43 hf
        refine lv_iconst (v := 1) hx hb dX6_not0_46 (by decide) ?_
        refine lv_goto (tgt := 51) hx hb dX6_not0_47 (by decide) ?_
        exact retI C X hr rfl (so3 hf).1 (so3 hf).2.1 (so3 hf).2.2 dX6_not0_51
    · replace hf := ifp c22 hf
      refine lv_iconst (v := 0) hx hb dX6_not0_25 (by decide) ?_
      exact retI C X hr rfl (so3 hf).1 (so3 hf).2.1 (so3 hf).2.2 dX6_not0_26
theorem ct6_not0 {μ : Mem} {ν : Lem} {r : Int32} {μ1 : Mem} {ν1 : Lem} (hg : f6_not0 μ ν = some (r, μ1, ν1)) : CtI false yX6_not0 cX6_not0 4 37 816 .int (fun ad => [.ref (ad 0)]) μ ν r μ1 ν1 :=
  mkI (by decide) rfl (fun ad => Nat.le_of_ble_eq_true rfl) (fun p l e s m args below meth c D cy ad C hr X ls hl => w6_not0 C hr μ ν hg _ _ X _ hl)
theorem qX6_316 {p : Program} {l : Launch} {e : Env} {R : Room} {s : State} {m : MethodId} {args : Array Value} {below : List Frame} {meth : Method} {c : Code} {H : Heap} {locs : List Loc} {cells slots : Nat} {Q : State → Prop} {A : Nat → Prop} {cc : ByteArray} {nL : Nat} {D : va_G} {cy : Nat → ClassId} {ad : Nat → Nat} {μ : Mem} {ν : Lem} {pc : Nat} {ls : Array Slot} {rest : List Value} {r : Int32} {μ1 : Mem} {ν1 : Lem} (hg : f6_not0 μ ν = some (r, μ1, ν1)) (C : CxA false A p s m args meth c cc nL RX6 D cy ad) (X : WdA false A D cy ad s.heap μ ν H locs) (hsz : ls.size = nL) (hrm : (rest.map fun v => v.category).sum ≤ 8) (hR : 37 + 1 ≤ R.frames ∧ 8 + (4 + 11) + 816 ≤ R.locals) (hcs : cells ≤ R.cells ∧ slots ≤ R.slots) (hd : decode cc pc = .ok (.invokevirtual 316, 3)) (kk : ∀ (H1 : Heap) (locs1 : List Loc), WdA false A D cy ad s.heap μ1 ν1 H1 locs1 → narrow .int (.int r) = .int r → W p l e R s m args below meth c H1 locs1 cells slots Q (F0 m (pc + 3) ls (.int r :: rest))) : W p l e R s m args below meth c H locs cells slots Q (F0 m pc ls (.ref (ad 0) :: rest)) :=
  rCVI (As := []) (k := 0) (ct6_not0 hg) ok6 lX6_not0 k_1005 rfl rfl rfl C X rfl hrm hsz hR hcs hd kk
set_option maxRecDepth 100000 in
set_option maxHeartbeats 4000000 in
theorem w6_both0_1 {p : Program} {l : Launch} {e : Env} {s : State} {m : MethodId} {args : Array Value} {below : List Frame} {meth : Method} {c : Code} {D : va_G} {cy : Nat → ClassId} {ad : Nat → Nat} {r : Int32} {μ1 : Mem} {ν1 : Lem} (C : Cx false p s m args meth c cX6_both0 3 RX6 D cy ad) (hr : meth.sig.returnType = some .int) : ∀ (n : Nat), ∀ (μ : Mem) (ν : Lem) (x1 : Int32), f6_both0_1 n μ ν x1 = some (r, μ1, ν1) → ∀ (H : Heap) (locs : List Loc), Wd false D cy ad s.heap μ ν H locs → ∀ (ls : Array Slot), lv_has ls 3 [(0, .ref (ad 0)), (1, .int x1)] → WI false p l e 38 839 s m args below meth c D cy ad .int r μ1 ν1 H locs (F0 m 5 ls []) := by
  have hx := C.1.1
  have hb := C.1.2.1
  have hown := C.1.2.2.2.1
  have hts := C.1.2.2.2.2
  intro n
  induction n with
  | zero =>
    intro μ ν x1 hf H locs X ls hl
    rw [f6_both0_1] at hf
    cases hf
  | succ n ih =>
    intro μ ν x1 hf H locs X ls hl
    rw [f6_both0_1] at hf
    refine lv_aload_n hx hb dX6_both0_5 rfl (lv_at hl 0 rfl) ?_
    refine lv_bipush (v := 97) hx hb dX6_both0_6 (by decide) ?_
    refine lv_bipush (v := 110) hx hb dX6_both0_8 (by decide) ?_
    refine lv_bipush (v := 100) hx hb dX6_both0_10 (by decide) ?_
    refine lv_iconst (v := 0) hx hb dX6_both0_12 (by decide) ?_
    refine lv_iconst (v := 0) hx hb dX6_both0_13 (by decide) ?_
    refine lv_iconst (v := 0) hx hb dX6_both0_14 (by decide) ?_
    refine lv_iconst (v := 0) hx hb dX6_both0_15 (by decide) ?_
    refine lv_iconst (v := 0) hx hb dX6_both0_16 (by decide) ?_
    obtain ⟨r17, g17, hf⟩ := bd1_e hf
    refine qX6_180 g17 C X hl.1 ((Nat.le_of_ble_eq_true rfl)) ⟨(Nat.le_of_ble_eq_true rfl), (Nat.le_of_ble_eq_true rfl)⟩ ⟨Nat.zero_le _, Nat.zero_le _⟩ dX6_both0_17 (fun H locs X b17 => ?_)
    refine lv_if_eq (tgt := 49) hx hb dX6_both0_20 (by decide) (fun c20 => ?_) (fun c20 => ?_)
    · replace hf := ifp c20 hf
      refine lv_iload_n hx hb dX6_both0_49 rfl (lv_at hl 1 rfl) ?_
      exact retI C X hr rfl (so3 hf).1 (so3 hf).2.1 (so3 hf).2.2 dX6_both0_50
    · replace hf := ifn c20 hf
      refine lv_aload_n hx hb dX6_both0_23 rfl (lv_at hl 0 rfl) ?_
      obtain ⟨μ24, ν24, g24, hf⟩ := bd2_e hf
      refine qX6_177 g24 C X hl.1 ((Nat.le_of_ble_eq_true rfl)) ⟨(Nat.le_of_ble_eq_true rfl), (Nat.le_of_ble_eq_true rfl)⟩ ⟨Nat.zero_le _, Nat.zero_le _⟩ dX6_both0_24 (fun H locs X => ?_)
      refine lv_aload_n hx hb dX6_both0_27 rfl (lv_at hl 0 rfl) ?_
      obtain ⟨r28, μ28, ν28, g28, hf⟩ := bd3_e hf
      refine qX6_316 g28 C X hl.1 ((Nat.le_of_ble_eq_true rfl)) ⟨(Nat.le_of_ble_eq_true rfl), (Nat.le_of_ble_eq_true rfl)⟩ ⟨Nat.zero_le _, Nat.zero_le _⟩ dX6_both0_28 (fun H locs X b28 => ?_)
      refine lv_istore_n (lv' := [(2, .int r28), (0, .ref (ad 0)), (1, .int x1)]) hx hb dX6_both0_31 rfl hl (by decide) rfl (fun ls hl => ?_)
      refine lv_iload_n hx hb dX6_both0_32 rfl (lv_at hl 2 rfl) ?_
      refine lv_if_eq (tgt := 44) hx hb dX6_both0_33 (by decide) (fun c33 => ?_) (fun c33 => ?_)
      · replace hf := ifp c33 hf
        refine lv_iconst (v := 0) hx hb dX6_both0_44 (by decide) ?_
        refine lv_istore_n (lv' := [(1, .int 0), (2, .int r28), (0, .ref (ad 0))]) hx hb dX6_both0_45 rfl hl (by decide) rfl (fun ls hl => ?_)
        refine lv_goto (tgt := 5) hx hb dX6_both0_46 (by decide) ?_
        exact ih μ28 ν28 0 hf _ _ X _ (lv_sub hl [2, 0] rfl)
      · replace hf := ifn c33 hf
        refine lv_iload_n hx hb dX6_both0_36 rfl (lv_at hl 0 rfl) ?_
        refine lv_if_eq (tgt := 44) hx hb dX6_both0_37 (by decide) (fun c37 => ?_) (fun c37 => ?_)
        · replace hf := ifp c37 hf
          refine lv_iconst (v := 0) hx hb dX6_both0_44 (by decide) ?_
          refine lv_istore_n (lv' := [(1, .int 0), (2, .int r28), (0, .ref (ad 0))]) hx hb dX6_both0_45 rfl hl (by decide) rfl (fun ls hl => ?_)
          refine lv_goto (tgt := 5) hx hb dX6_both0_46 (by decide) ?_
          exact ih μ28 ν28 0 hf _ _ X _ (lv_sub hl [2, 0] rfl)
        · replace hf := ifn c37 hf
          refine lv_iconst (v := 1) hx hb dX6_both0_40 (by decide) ?_
          refine lv_goto (tgt := 45) hx hb dX6_both0_41 (by decide) ?_
          refine lv_istore_n (lv' := [(1, .int 1), (2, .int r28), (0, .ref (ad 0))]) hx hb dX6_both0_45 rfl hl (by decide) rfl (fun ls hl => ?_)
          refine lv_goto (tgt := 5) hx hb dX6_both0_46 (by decide) ?_
          exact ih μ28 ν28 1 hf _ _ X _ (lv_sub hl [2, 0] rfl)
set_option maxRecDepth 100000 in
set_option maxHeartbeats 4000000 in
theorem w6_both0 {p : Program} {l : Launch} {e : Env} {s : State} {m : MethodId} {args : Array Value} {below : List Frame} {meth : Method} {c : Code} {D : va_G} {cy : Nat → ClassId} {ad : Nat → Nat} {r : Int32} {μ1 : Mem} {ν1 : Lem} (C : Cx false p s m args meth c cX6_both0 3 RX6 D cy ad) (hr : meth.sig.returnType = some .int) : ∀ (μ : Mem) (ν : Lem), f6_both0 μ ν = some (r, μ1, ν1) → ∀ (H : Heap) (locs : List Loc), Wd false D cy ad s.heap μ ν H locs → ∀ (ls : Array Slot), lv_has ls 3 [(0, .ref (ad 0))] → WI false p l e 38 839 s m args below meth c D cy ad .int r μ1 ν1 H locs (F0 m 0 ls []) := by
  have hx := C.1.1
  have hb := C.1.2.1
  have hown := C.1.2.2.2.1
  have hts := C.1.2.2.2.2
  intro μ ν hf H locs X ls hl
  unfold f6_both0 at hf
  refine lv_aload_n hx hb dX6_both0_0 rfl (lv_at hl 0 rfl) ?_
  obtain ⟨r1, μ1, ν1, g1, hf⟩ := bd3_e hf
  refine qX6_316 g1 C X hl.1 ((Nat.le_of_ble_eq_true rfl)) ⟨(Nat.le_of_ble_eq_true rfl), (Nat.le_of_ble_eq_true rfl)⟩ ⟨Nat.zero_le _, Nat.zero_le _⟩ dX6_both0_1 (fun H locs X b1 => ?_)
  refine lv_istore_n (lv' := [(1, .int r1), (0, .ref (ad 0))]) hx hb dX6_both0_4 rfl hl (by decide) rfl (fun ls hl => ?_)
  exact w6_both0_1 C hr  FUEL μ1 ν1 r1 hf _ _ X _ (lv_sub hl [1, 0] rfl)
theorem ct6_both0 {μ : Mem} {ν : Lem} {r : Int32} {μ1 : Mem} {ν1 : Lem} (hg : f6_both0 μ ν = some (r, μ1, ν1)) : CtI false yX6_both0 cX6_both0 3 38 839 .int (fun ad => [.ref (ad 0)]) μ ν r μ1 ν1 :=
  mkI (by decide) rfl (fun ad => Nat.le_of_ble_eq_true rfl) (fun p l e s m args below meth c D cy ad C hr X ls hl => w6_both0 C hr μ ν hg _ _ X _ hl)
theorem qX6_319 {p : Program} {l : Launch} {e : Env} {R : Room} {s : State} {m : MethodId} {args : Array Value} {below : List Frame} {meth : Method} {c : Code} {H : Heap} {locs : List Loc} {cells slots : Nat} {Q : State → Prop} {A : Nat → Prop} {cc : ByteArray} {nL : Nat} {D : va_G} {cy : Nat → ClassId} {ad : Nat → Nat} {μ : Mem} {ν : Lem} {pc : Nat} {ls : Array Slot} {rest : List Value} {r : Int32} {μ1 : Mem} {ν1 : Lem} (hg : f6_both0 μ ν = some (r, μ1, ν1)) (C : CxA false A p s m args meth c cc nL RX6 D cy ad) (X : WdA false A D cy ad s.heap μ ν H locs) (hsz : ls.size = nL) (hrm : (rest.map fun v => v.category).sum ≤ 8) (hR : 38 + 1 ≤ R.frames ∧ 8 + (3 + 11) + 839 ≤ R.locals) (hcs : cells ≤ R.cells ∧ slots ≤ R.slots) (hd : decode cc pc = .ok (.invokevirtual 319, 3)) (kk : ∀ (H1 : Heap) (locs1 : List Loc), WdA false A D cy ad s.heap μ1 ν1 H1 locs1 → narrow .int (.int r) = .int r → W p l e R s m args below meth c H1 locs1 cells slots Q (F0 m (pc + 3) ls (.int r :: rest))) : W p l e R s m args below meth c H locs cells slots Q (F0 m pc ls (.ref (ad 0) :: rest)) :=
  rCVI (As := []) (k := 0) (ct6_both0 hg) ok6 lX6_both0 k_1001 rfl rfl rfl C X rfl hrm hsz hR hcs hd kk
set_option maxRecDepth 100000 in
set_option maxHeartbeats 4000000 in
theorem w6_either0_1 {p : Program} {l : Launch} {e : Env} {s : State} {m : MethodId} {args : Array Value} {below : List Frame} {meth : Method} {c : Code} {D : va_G} {cy : Nat → ClassId} {ad : Nat → Nat} {r : Int32} {μ1 : Mem} {ν1 : Lem} (C : Cx false p s m args meth c cX6_either0 3 RX6 D cy ad) (hr : meth.sig.returnType = some .int) : ∀ (n : Nat), ∀ (μ : Mem) (ν : Lem) (x1 : Int32), f6_either0_1 n μ ν x1 = some (r, μ1, ν1) → ∀ (H : Heap) (locs : List Loc), Wd false D cy ad s.heap μ ν H locs → ∀ (ls : Array Slot), lv_has ls 3 [(0, .ref (ad 0)), (1, .int x1)] → WI false p l e 39 861 s m args below meth c D cy ad .int r μ1 ν1 H locs (F0 m 5 ls []) := by
  have hx := C.1.1
  have hb := C.1.2.1
  have hown := C.1.2.2.2.1
  have hts := C.1.2.2.2.2
  intro n
  induction n with
  | zero =>
    intro μ ν x1 hf H locs X ls hl
    rw [f6_either0_1] at hf
    cases hf
  | succ n ih =>
    intro μ ν x1 hf H locs X ls hl
    rw [f6_either0_1] at hf
    refine lv_aload_n hx hb dX6_either0_5 rfl (lv_at hl 0 rfl) ?_
    refine lv_bipush (v := 111) hx hb dX6_either0_6 (by decide) ?_
    refine lv_bipush (v := 114) hx hb dX6_either0_8 (by decide) ?_
    refine lv_iconst (v := 0) hx hb dX6_either0_10 (by decide) ?_
    refine lv_iconst (v := 0) hx hb dX6_either0_11 (by decide) ?_
    refine lv_iconst (v := 0) hx hb dX6_either0_12 (by decide) ?_
    refine lv_iconst (v := 0) hx hb dX6_either0_13 (by decide) ?_
    refine lv_iconst (v := 0) hx hb dX6_either0_14 (by decide) ?_
    refine lv_iconst (v := 0) hx hb dX6_either0_15 (by decide) ?_
    obtain ⟨r16, g16, hf⟩ := bd1_e hf
    refine qX6_180 g16 C X hl.1 ((Nat.le_of_ble_eq_true rfl)) ⟨(Nat.le_of_ble_eq_true rfl), (Nat.le_of_ble_eq_true rfl)⟩ ⟨Nat.zero_le _, Nat.zero_le _⟩ dX6_either0_16 (fun H locs X b16 => ?_)
    refine lv_if_eq (tgt := 48) hx hb dX6_either0_19 (by decide) (fun c19 => ?_) (fun c19 => ?_)
    · replace hf := ifp c19 hf
      refine lv_iload_n hx hb dX6_either0_48 rfl (lv_at hl 1 rfl) ?_
      exact retI C X hr rfl (so3 hf).1 (so3 hf).2.1 (so3 hf).2.2 dX6_either0_49
    · replace hf := ifn c19 hf
      refine lv_aload_n hx hb dX6_either0_22 rfl (lv_at hl 0 rfl) ?_
      obtain ⟨μ23, ν23, g23, hf⟩ := bd2_e hf
      refine qX6_177 g23 C X hl.1 ((Nat.le_of_ble_eq_true rfl)) ⟨(Nat.le_of_ble_eq_true rfl), (Nat.le_of_ble_eq_true rfl)⟩ ⟨Nat.zero_le _, Nat.zero_le _⟩ dX6_either0_23 (fun H locs X => ?_)
      refine lv_aload_n hx hb dX6_either0_26 rfl (lv_at hl 0 rfl) ?_
      obtain ⟨r27, μ27, ν27, g27, hf⟩ := bd3_e hf
      refine qX6_319 g27 C X hl.1 ((Nat.le_of_ble_eq_true rfl)) ⟨(Nat.le_of_ble_eq_true rfl), (Nat.le_of_ble_eq_true rfl)⟩ ⟨Nat.zero_le _, Nat.zero_le _⟩ dX6_either0_27 (fun H locs X b27 => ?_)
      refine lv_istore_n (lv' := [(2, .int r27), (0, .ref (ad 0)), (1, .int x1)]) hx hb dX6_either0_30 rfl hl (by decide) rfl (fun ls hl => ?_)
      refine lv_iload_n hx hb dX6_either0_31 rfl (lv_at hl 2 rfl) ?_
      refine lv_if_ne (tgt := 39) hx hb dX6_either0_32 (by decide) (fun c32 => ?_) (fun c32 => ?_)
      · replace hf := ifn c32 hf
        refine lv_iconst (v := 1) hx hb dX6_either0_39 (by decide) ?_
        refine lv_goto (tgt := 44) hx hb dX6_either0_40 (by decide) ?_
        refine lv_istore_n (lv' := [(1, .int 1), (2, .int r27), (0, .ref (ad 0))]) hx hb dX6_either0_44 rfl hl (by decide) rfl (fun ls hl => ?_)
        refine lv_goto (tgt := 5) hx hb dX6_either0_45 (by decide) ?_
        exact ih μ27 ν27 1 hf _ _ X _ (lv_sub hl [2, 0] rfl)
      · replace hf := ifp c32 hf
        refine lv_iload_n hx hb dX6_either0_35 rfl (lv_at hl 0 rfl) ?_
        refine lv_if_eq (tgt := 43) hx hb dX6_either0_36 (by decide) (fun c36 => ?_) (fun c36 => ?_)
        · replace hf := ifp c36 hf
          refine lv_iconst (v := 0) hx hb dX6_either0_43 (by decide) ?_
          refine lv_istore_n (lv' := [(1, .int 0), (2, .int r27), (0, .ref (ad 0))]) hx hb dX6_either0_44 rfl hl (by decide) rfl (fun ls hl => ?_)
          refine lv_goto (tgt := 5) hx hb dX6_either0_45 (by decide) ?_
          exact ih μ27 ν27 0 hf _ _ X _ (lv_sub hl [2, 0] rfl)
        · replace hf := ifn c36 hf
          refine lv_iconst (v := 1) hx hb dX6_either0_39 (by decide) ?_
          refine lv_goto (tgt := 44) hx hb dX6_either0_40 (by decide) ?_
          refine lv_istore_n (lv' := [(1, .int 1), (2, .int r27), (0, .ref (ad 0))]) hx hb dX6_either0_44 rfl hl (by decide) rfl (fun ls hl => ?_)
          refine lv_goto (tgt := 5) hx hb dX6_either0_45 (by decide) ?_
          exact ih μ27 ν27 1 hf _ _ X _ (lv_sub hl [2, 0] rfl)
set_option maxRecDepth 100000 in
set_option maxHeartbeats 4000000 in
theorem w6_either0 {p : Program} {l : Launch} {e : Env} {s : State} {m : MethodId} {args : Array Value} {below : List Frame} {meth : Method} {c : Code} {D : va_G} {cy : Nat → ClassId} {ad : Nat → Nat} {r : Int32} {μ1 : Mem} {ν1 : Lem} (C : Cx false p s m args meth c cX6_either0 3 RX6 D cy ad) (hr : meth.sig.returnType = some .int) : ∀ (μ : Mem) (ν : Lem), f6_either0 μ ν = some (r, μ1, ν1) → ∀ (H : Heap) (locs : List Loc), Wd false D cy ad s.heap μ ν H locs → ∀ (ls : Array Slot), lv_has ls 3 [(0, .ref (ad 0))] → WI false p l e 39 861 s m args below meth c D cy ad .int r μ1 ν1 H locs (F0 m 0 ls []) := by
  have hx := C.1.1
  have hb := C.1.2.1
  have hown := C.1.2.2.2.1
  have hts := C.1.2.2.2.2
  intro μ ν hf H locs X ls hl
  unfold f6_either0 at hf
  refine lv_aload_n hx hb dX6_either0_0 rfl (lv_at hl 0 rfl) ?_
  obtain ⟨r1, μ1, ν1, g1, hf⟩ := bd3_e hf
  refine qX6_319 g1 C X hl.1 ((Nat.le_of_ble_eq_true rfl)) ⟨(Nat.le_of_ble_eq_true rfl), (Nat.le_of_ble_eq_true rfl)⟩ ⟨Nat.zero_le _, Nat.zero_le _⟩ dX6_either0_1 (fun H locs X b1 => ?_)
  refine lv_istore_n (lv' := [(1, .int r1), (0, .ref (ad 0))]) hx hb dX6_either0_4 rfl hl (by decide) rfl (fun ls hl => ?_)
  exact w6_either0_1 C hr  FUEL μ1 ν1 r1 hf _ _ X _ (lv_sub hl [1, 0] rfl)
theorem ct6_either0 {μ : Mem} {ν : Lem} {r : Int32} {μ1 : Mem} {ν1 : Lem} (hg : f6_either0 μ ν = some (r, μ1, ν1)) : CtI false yX6_either0 cX6_either0 3 39 861 .int (fun ad => [.ref (ad 0)]) μ ν r μ1 ν1 :=
  mkI (by decide) rfl (fun ad => Nat.le_of_ble_eq_true rfl) (fun p l e s m args below meth c D cy ad C hr X ls hl => w6_either0 C hr μ ν hg _ _ X _ hl)
theorem qX6_322 {p : Program} {l : Launch} {e : Env} {R : Room} {s : State} {m : MethodId} {args : Array Value} {below : List Frame} {meth : Method} {c : Code} {H : Heap} {locs : List Loc} {cells slots : Nat} {Q : State → Prop} {A : Nat → Prop} {cc : ByteArray} {nL : Nat} {D : va_G} {cy : Nat → ClassId} {ad : Nat → Nat} {μ : Mem} {ν : Lem} {pc : Nat} {ls : Array Slot} {rest : List Value} {r : Int32} {μ1 : Mem} {ν1 : Lem} (hg : f6_either0 μ ν = some (r, μ1, ν1)) (C : CxA false A p s m args meth c cc nL RX6 D cy ad) (X : WdA false A D cy ad s.heap μ ν H locs) (hsz : ls.size = nL) (hrm : (rest.map fun v => v.category).sum ≤ 8) (hR : 39 + 1 ≤ R.frames ∧ 8 + (3 + 11) + 861 ≤ R.locals) (hcs : cells ≤ R.cells ∧ slots ≤ R.slots) (hd : decode cc pc = .ok (.invokevirtual 322, 3)) (kk : ∀ (H1 : Heap) (locs1 : List Loc), WdA false A D cy ad s.heap μ1 ν1 H1 locs1 → narrow .int (.int r) = .int r → W p l e R s m args below meth c H1 locs1 cells slots Q (F0 m (pc + 3) ls (.int r :: rest))) : W p l e R s m args below meth c H locs cells slots Q (F0 m pc ls (.ref (ad 0) :: rest)) :=
  rCVI (As := []) (k := 0) (ct6_either0 hg) ok6 lX6_either0 k_997 rfl rfl rfl C X rfl hrm hsz hR hcs hd kk
set_option maxRecDepth 100000 in
set_option maxHeartbeats 4000000 in
theorem w6_part_4 {p : Program} {l : Launch} {e : Env} {s : State} {m : MethodId} {args : Array Value} {below : List Frame} {meth : Method} {c : Code} {D : va_G} {cy : Nat → ClassId} {ad : Nat → Nat} {r : Int32} {μ1 : Mem} {ν1 : Lem} (C : Cx false p s m args meth c cX6_part 3 RX6 D cy ad) (hr : meth.sig.returnType = some .int) : ∀ (μ : Mem) (ν : Lem) (x2 : Int32), f6_part_4 μ ν x2 = some (r, μ1, ν1) → ∀ (H : Heap) (locs : List Loc), Wd false D cy ad s.heap μ ν H locs → ∀ (ls : Array Slot), lv_has ls 3 [(0, .ref (ad 0)), (2, .int x2)] → WI false p l e 40 883 s m args below meth c D cy ad .int r μ1 ν1 H locs (F0 m 48 ls []) := by
  have hx := C.1.1
  have hb := C.1.2.1
  have hown := C.1.2.2.2.1
  have hts := C.1.2.2.2.2
  intro μ ν x2 hf H locs X ls hl
  unfold f6_part_4 at hf
  refine lv_aload_n hx hb dX6_part_48 rfl (lv_at hl 0 rfl) ?_
  refine gfX6_160 C X dX6_part_49 ?_
  refine lv_if_ne (tgt := 59) hx hb dX6_part_52 (by decide) (fun c52 => ?_) (fun c52 => ?_)
  · replace hf := ifn c52 hf
    refine lv_iload_n hx hb dX6_part_59 rfl (lv_at hl 1 rfl) ?_
    exact retI C X hr rfl (so3 hf).1 (so3 hf).2.1 (so3 hf).2.2 dX6_part_60
  · replace hf := ifp c52 hf
    refine lv_aload_n hx hb dX6_part_55 rfl (lv_at hl 0 rfl) ?_
    obtain ⟨μ56, ν56, g56, hf⟩ := bd2_e hf
    refine qX6_177 g56 C X hl.1 ((Nat.le_of_ble_eq_true rfl)) ⟨(Nat.le_of_ble_eq_true rfl), (Nat.le_of_ble_eq_true rfl)⟩ ⟨Nat.zero_le _, Nat.zero_le _⟩ dX6_part_56 (fun H locs X => ?_)
    refine lv_iload_n hx hb dX6_part_59 rfl (lv_at hl 1 rfl) ?_
    exact retI C X hr rfl (so3 hf).1 (so3 hf).2.1 (so3 hf).2.2 dX6_part_60
set_option maxRecDepth 100000 in
set_option maxHeartbeats 4000000 in
theorem w6_part_3 {p : Program} {l : Launch} {e : Env} {s : State} {m : MethodId} {args : Array Value} {below : List Frame} {meth : Method} {c : Code} {D : va_G} {cy : Nat → ClassId} {ad : Nat → Nat} {r : Int32} {μ1 : Mem} {ν1 : Lem} (C : Cx false p s m args meth c cX6_part 3 RX6 D cy ad) (hr : meth.sig.returnType = some .int) : ∀ (μ : Mem) (ν : Lem) (t0 : Int32), f6_part_3 μ ν t0 = some (r, μ1, ν1) → ∀ (H : Heap) (locs : List Loc), Wd false D cy ad s.heap μ ν H locs → ∀ (ls : Array Slot), lv_has ls 3 [(0, .ref (ad 0))] → WI false p l e 40 883 s m args below meth c D cy ad .int r μ1 ν1 H locs (F0 m 34 ls [.int t0]) := by
  have hx := C.1.1
  have hb := C.1.2.1
  have hown := C.1.2.2.2.1
  have hts := C.1.2.2.2.2
  intro μ ν t0 hf H locs X ls hl
  unfold f6_part_3 at hf
  refine lv_istore_n (lv' := [(2, .int t0), (0, .ref (ad 0))]) hx hb dX6_part_34 rfl hl (by decide) rfl (fun ls hl => ?_)
  refine lv_aload_n hx hb dX6_part_35 rfl (lv_at hl 1 rfl) ?_
  refine lv_bipush (v := 59) hx hb dX6_part_36 (by decide) ?_
  refine qX6_202 rfl C X hl.1 ((Nat.le_of_ble_eq_true rfl)) ⟨(Nat.le_of_ble_eq_true rfl), (Nat.le_of_ble_eq_true rfl)⟩ ⟨Nat.zero_le _, Nat.zero_le _⟩ dX6_part_38 (fun H locs X b38 => ?_)
  refine lv_if_ne (tgt := 48) hx hb dX6_part_41 (by decide) (fun c41 => ?_) (fun c41 => ?_)
  · replace hf := ifn c41 hf
    exact w6_part_4 C hr  μ ν t0 hf _ _ X _ (lv_sub hl [1, 0] rfl)
  · replace hf := ifp c41 hf
    refine lv_aload_n hx hb dX6_part_44 rfl (lv_at hl 1 rfl) ?_
    obtain ⟨μ45, ν45, g45, hf⟩ := pr2_e hf
    refine qX6_174 g45 C X hl.1 ((Nat.le_of_ble_eq_true rfl)) ⟨(Nat.le_of_ble_eq_true rfl), (Nat.le_of_ble_eq_true rfl)⟩ ⟨Nat.zero_le _, Nat.zero_le _⟩ dX6_part_45 (fun H locs X => ?_)
    exact w6_part_4 C hr  μ45 ν45 t0 hf _ _ X _ (lv_sub hl [1, 0] rfl)
set_option maxRecDepth 100000 in
set_option maxHeartbeats 4000000 in
theorem w6_part_2 {p : Program} {l : Launch} {e : Env} {s : State} {m : MethodId} {args : Array Value} {below : List Frame} {meth : Method} {c : Code} {D : va_G} {cy : Nat → ClassId} {ad : Nat → Nat} {r : Int32} {μ1 : Mem} {ν1 : Lem} (C : Cx false p s m args meth c cX6_part 3 RX6 D cy ad) (hr : meth.sig.returnType = some .int) : ∀ (μ : Mem) (ν : Lem), f6_part_2 μ ν = some (r, μ1, ν1) → ∀ (H : Heap) (locs : List Loc), Wd false D cy ad s.heap μ ν H locs → ∀ (ls : Array Slot), lv_has ls 3 [(0, .ref (ad 0))] → WI false p l e 40 883 s m args below meth c D cy ad .int r μ1 ν1 H locs (F0 m 19 ls []) := by
  have hx := C.1.1
  have hb := C.1.2.1
  have hown := C.1.2.2.2.1
  have hts := C.1.2.2.2.2
  intro μ ν hf H locs X ls hl
  unfold f6_part_2 at hf
  refine lv_aload_n hx hb dX6_part_19 rfl (lv_at hl 0 rfl) ?_
  refine gfX6_160 C X dX6_part_20 ?_
  refine lv_if_eq (tgt := 30) hx hb dX6_part_23 (by decide) (fun c23 => ?_) (fun c23 => ?_)
  · replace hf := ifp c23 hf
    refine lv_aload_n hx hb dX6_part_30 rfl (lv_at hl 0 rfl) ?_
    obtain ⟨r31, μ31, ν31, g31, hf⟩ := bd3_e hf
    refine qX6_322 g31 C X hl.1 ((Nat.le_of_ble_eq_true rfl)) ⟨(Nat.le_of_ble_eq_true rfl), (Nat.le_of_ble_eq_true rfl)⟩ ⟨Nat.zero_le _, Nat.zero_le _⟩ dX6_part_31 (fun H locs X b31 => ?_)
    exact w6_part_3 C hr  μ31 ν31 r31 hf _ _ X _ (lv_sub hl [0] rfl)
  · replace hf := ifn c23 hf
    refine lv_iconst (v := 0) hx hb dX6_part_26 (by decide) ?_
    refine lv_goto (tgt := 34) hx hb dX6_part_27 (by decide) ?_
    exact w6_part_3 C hr  μ ν 0 hf _ _ X _ (lv_sub hl [0] rfl)
set_option maxRecDepth 100000 in
set_option maxHeartbeats 4000000 in
theorem w6_part_1 {p : Program} {l : Launch} {e : Env} {s : State} {m : MethodId} {args : Array Value} {below : List Frame} {meth : Method} {c : Code} {D : va_G} {cy : Nat → ClassId} {ad : Nat → Nat} {r : Int32} {μ1 : Mem} {ν1 : Lem} (C : Cx false p s m args meth c cX6_part 3 RX6 D cy ad) (hr : meth.sig.returnType = some .int) : ∀ (μ : Mem) (ν : Lem), f6_part_1 μ ν = some (r, μ1, ν1) → ∀ (H : Heap) (locs : List Loc), Wd false D cy ad s.heap μ ν H locs → ∀ (ls : Array Slot), lv_has ls 3 [(0, .ref (ad 0))] → WI false p l e 40 883 s m args below meth c D cy ad .int r μ1 ν1 H locs (F0 m 8 ls []) := by
  have hx := C.1.1
  have hb := C.1.2.1
  have hown := C.1.2.2.2.1
  have hts := C.1.2.2.2.2
  intro μ ν hf H locs X ls hl
  unfold f6_part_1 at hf
  refine lv_aload_n hx hb dX6_part_8 rfl (lv_at hl 0 rfl) ?_
  refine gfX6_160 C X dX6_part_9 ?_
  refine lv_if_ne (tgt := 19) hx hb dX6_part_12 (by decide) (fun c12 => ?_) (fun c12 => ?_)
  · replace hf := ifn c12 hf
    exact w6_part_2 C hr  μ ν hf _ _ X _ (lv_sub hl [0] rfl)
  · replace hf := ifp c12 hf
    refine lv_aload_n hx hb dX6_part_15 rfl (lv_at hl 0 rfl) ?_
    obtain ⟨μ16, ν16, g16, hf⟩ := bd2_e hf
    refine qX6_177 g16 C X hl.1 ((Nat.le_of_ble_eq_true rfl)) ⟨(Nat.le_of_ble_eq_true rfl), (Nat.le_of_ble_eq_true rfl)⟩ ⟨Nat.zero_le _, Nat.zero_le _⟩ dX6_part_16 (fun H locs X => ?_)
    exact w6_part_2 C hr  μ16 ν16 hf _ _ X _ (lv_sub hl [0] rfl)
set_option maxRecDepth 100000 in
set_option maxHeartbeats 4000000 in
theorem w6_part {p : Program} {l : Launch} {e : Env} {s : State} {m : MethodId} {args : Array Value} {below : List Frame} {meth : Method} {c : Code} {D : va_G} {cy : Nat → ClassId} {ad : Nat → Nat} {r : Int32} {μ1 : Mem} {ν1 : Lem} (C : Cx false p s m args meth c cX6_part 3 RX6 D cy ad) (hr : meth.sig.returnType = some .int) : ∀ (μ : Mem) (ν : Lem) (x1 : Int32), f6_part μ ν x1 = some (r, μ1, ν1) → ∀ (H : Heap) (locs : List Loc), Wd false D cy ad s.heap μ ν H locs → ∀ (ls : Array Slot), lv_has ls 3 [(0, .ref (ad 0)), (1, .int x1)] → WI false p l e 40 883 s m args below meth c D cy ad .int r μ1 ν1 H locs (F0 m 0 ls []) := by
  have hx := C.1.1
  have hb := C.1.2.1
  have hown := C.1.2.2.2.1
  have hts := C.1.2.2.2.2
  intro μ ν x1 hf H locs X ls hl
  unfold f6_part at hf
  refine lv_iload_n hx hb dX6_part_0 rfl (lv_at hl 1 rfl) ?_
  refine lv_if_ne (tgt := 8) hx hb dX6_part_1 (by decide) (fun c1 => ?_) (fun c1 => ?_)
  · replace hf := ifn c1 hf
    exact w6_part_1 C hr  μ ν hf _ _ X _ (lv_sub hl [0] rfl)
  · replace hf := ifp c1 hf
    refine lv_aload_n hx hb dX6_part_4 rfl (lv_at hl 0 rfl) ?_
    obtain ⟨μ5, ν5, g5, hf⟩ := pr2_e hf
    refine qX6_174 g5 C X hl.1 ((Nat.le_of_ble_eq_true rfl)) ⟨(Nat.le_of_ble_eq_true rfl), (Nat.le_of_ble_eq_true rfl)⟩ ⟨Nat.zero_le _, Nat.zero_le _⟩ dX6_part_5 (fun H locs X => ?_)
    exact w6_part_1 C hr  μ5 ν5 hf _ _ X _ (lv_sub hl [0] rfl)
theorem ct6_part {x1 : Int32} {μ : Mem} {ν : Lem} {r : Int32} {μ1 : Mem} {ν1 : Lem} (hg : f6_part μ ν x1 = some (r, μ1, ν1)) : CtI false yX6_part cX6_part 3 40 883 .int (fun ad => [.ref (ad 0), .int x1]) μ ν r μ1 ν1 :=
  mkI (by decide) rfl (fun ad => Nat.le_of_ble_eq_true rfl) (fun p l e s m args below meth c D cy ad C hr X ls hl => w6_part C hr μ ν x1 hg _ _ X _ hl)
theorem qX6_325 {p : Program} {l : Launch} {e : Env} {R : Room} {s : State} {m : MethodId} {args : Array Value} {below : List Frame} {meth : Method} {c : Code} {H : Heap} {locs : List Loc} {cells slots : Nat} {Q : State → Prop} {A : Nat → Prop} {cc : ByteArray} {nL : Nat} {D : va_G} {cy : Nat → ClassId} {ad : Nat → Nat} {μ : Mem} {ν : Lem} {pc : Nat} {ls : Array Slot} {rest : List Value} {x1 : Int32} {r : Int32} {μ1 : Mem} {ν1 : Lem} (hg : f6_part μ ν x1 = some (r, μ1, ν1)) (C : CxA false A p s m args meth c cc nL RX6 D cy ad) (X : WdA false A D cy ad s.heap μ ν H locs) (hsz : ls.size = nL) (hrm : (rest.map fun v => v.category).sum ≤ 8) (hR : 40 + 1 ≤ R.frames ∧ 8 + (3 + 11) + 883 ≤ R.locals) (hcs : cells ≤ R.cells ∧ slots ≤ R.slots) (hd : decode cc pc = .ok (.invokevirtual 325, 3)) (kk : ∀ (H1 : Heap) (locs1 : List Loc), WdA false A D cy ad s.heap μ1 ν1 H1 locs1 → narrow .int (.int r) = .int r → W p l e R s m args below meth c H1 locs1 cells slots Q (F0 m (pc + 3) ls (.int r :: rest))) : W p l e R s m args below meth c H locs cells slots Q (F0 m pc ls (.int x1 :: .ref (ad 0) :: rest)) :=
  rCVI (As := [.int x1]) (k := 0) (ct6_part hg) ok6 lX6_part k_989 rfl rfl rfl C X rfl hrm hsz hR hcs hd kk
set_option maxRecDepth 100000 in
set_option maxHeartbeats 4000000 in
theorem w6_read_3 {p : Program} {l : Launch} {e : Env} {s : State} {m : MethodId} {args : Array Value} {below : List Frame} {meth : Method} {c : Code} {D : va_G} {cy : Nat → ClassId} {ad : Nat → Nat} {r : Int32} {μ1 : Mem} {ν1 : Lem} (C : Cx false p s m args meth c cX6_read 6 RX6 D cy ad) (hr : meth.sig.returnType = some .int) : ∀ (μ : Mem) (ν : Lem) (x2 : Int32) (x3 : Int32) (x4 : Int32) (x5 : Int32), f6_read_3 μ ν x2 x3 x4 x5 = some (r, μ1, ν1) → ∀ (H : Heap) (locs : List Loc), Wd false D cy ad s.heap μ ν H locs → ∀ (ls : Array Slot), lv_has ls 6 [(2, .int x2), (3, .int x3), (4, .int x4), (5, .int x5)] → WI false p l e 41 905 s m args below meth c D cy ad .int r μ1 ν1 H locs (F0 m 143 ls []) := by
  have hx := C.1.1
  have hb := C.1.2.1
  have hown := C.1.2.2.2.1
  have hts := C.1.2.2.2.2
  intro μ ν x2 x3 x4 x5 hf H locs X ls hl
  unfold f6_read_3 at hf
  refine lv_iload_n hx hb dX6_read_143 rfl (lv_at hl 0 rfl) ?_
  refine lv_if_ne (tgt := 151) hx hb dX6_read_144 (by decide) (fun c144 => ?_) (fun c144 => ?_)
  · replace hf := ifn c144 hf
    refine lv_iload_n hx hb dX6_read_151 rfl (lv_at hl 0 rfl) ?_
    refine lv_iconst (v := 1) hx hb dX6_read_152 (by decide) ?_
    refine lv_icmp_ne (tgt := 161) hx hb dX6_read_153 (by decide) (fun c153 => ?_) (fun c153 => ?_)
    · replace hf := ifn c153 hf
      refine lv_iload hx hb dX6_read_161 (lv_at hl 3 rfl) ?_
      exact retI C X hr rfl (so3 hf).1 (so3 hf).2.1 (so3 hf).2.2 dX6_read_163
    · replace hf := ifp c153 hf
      refine lv_iload hx hb dX6_read_156 (lv_at hl 2 rfl) ?_
      refine lv_goto (tgt := 163) hx hb dX6_read_158 (by decide) ?_
      exact retI C X hr rfl (so3 hf).1 (so3 hf).2.1 (so3 hf).2.2 dX6_read_163
  · replace hf := ifp c144 hf
    refine lv_iload_n hx hb dX6_read_147 rfl (lv_at hl 1 rfl) ?_
    refine lv_goto (tgt := 163) hx hb dX6_read_148 (by decide) ?_
    exact retI C X hr rfl (so3 hf).1 (so3 hf).2.1 (so3 hf).2.2 dX6_read_163
set_option maxRecDepth 100000 in
set_option maxHeartbeats 4000000 in
theorem w6_read_2 {p : Program} {l : Launch} {e : Env} {s : State} {m : MethodId} {args : Array Value} {below : List Frame} {meth : Method} {c : Code} {D : va_G} {cy : Nat → ClassId} {ad : Nat → Nat} {r : Int32} {μ1 : Mem} {ν1 : Lem} (C : Cx false p s m args meth c cX6_read 6 RX6 D cy ad) (hr : meth.sig.returnType = some .int) : ∀ (μ : Mem) (ν : Lem) (x2 : Int32) (x3 : Int32) (x4 : Int32) (t0 : Int32), f6_read_2 μ ν x2 x3 x4 t0 = some (r, μ1, ν1) → ∀ (H : Heap) (locs : List Loc), Wd false D cy ad s.heap μ ν H locs → ∀ (ls : Array Slot), lv_has ls 6 [(0, .ref (ad 0)), (2, .int x2), (3, .int x3), (4, .int x4)] → WI false p l e 41 905 s m args below meth c D cy ad .int r μ1 ν1 H locs (F0 m 123 ls [.int t0]) := by
  have hx := C.1.1
  have hb := C.1.2.1
  have hown := C.1.2.2.2.1
  have hts := C.1.2.2.2.2
  intro μ ν x2 x3 x4 t0 hf H locs X ls hl
  unfold f6_read_2 at hf
  refine lv_istore (lv' := [(5, .int t0), (0, .ref (ad 0)), (2, .int x2), (3, .int x3), (4, .int x4)]) hx hb dX6_read_123 hl (by decide) rfl (fun ls hl => ?_)
  refine lv_aload_n hx hb dX6_read_125 rfl (lv_at hl 1 rfl) ?_
  refine gfX6_160 C X dX6_read_126 ?_
  refine lv_if_ne (tgt := 143) hx hb dX6_read_129 (by decide) (fun c129 => ?_) (fun c129 => ?_)
  · replace hf := ifn c129 hf
    exact w6_read_3 C hr  μ ν x2 x3 x4 t0 hf _ _ X _ (lv_sub hl [2, 3, 4, 0] rfl)
  · replace hf := ifp c129 hf
    refine lv_aload_n hx hb dX6_read_132 rfl (lv_at hl 1 rfl) ?_
    refine gfX6_145 C X dX6_read_133 ?_
    refine lv_if_eq (tgt := 143) hx hb dX6_read_136 (by decide) (fun c136 => ?_) (fun c136 => ?_)
    · replace hf := ifp c136 hf
      exact w6_read_3 C hr  μ ν x2 x3 x4 t0 hf _ _ X _ (lv_sub hl [2, 3, 4, 0] rfl)
    · replace hf := ifn c136 hf
      refine lv_aload_n hx hb dX6_read_139 rfl (lv_at hl 1 rfl) ?_
      obtain ⟨μ140, ν140, g140, hf⟩ := pr2_e hf
      refine qX6_174 g140 C X hl.1 ((Nat.le_of_ble_eq_true rfl)) ⟨(Nat.le_of_ble_eq_true rfl), (Nat.le_of_ble_eq_true rfl)⟩ ⟨Nat.zero_le _, Nat.zero_le _⟩ dX6_read_140 (fun H locs X => ?_)
      exact w6_read_3 C hr  μ140 ν140 x2 x3 x4 t0 hf _ _ X _ (lv_sub hl [2, 3, 4, 0] rfl)
set_option maxRecDepth 100000 in
set_option maxHeartbeats 4000000 in
theorem w6_read_1 {p : Program} {l : Launch} {e : Env} {s : State} {m : MethodId} {args : Array Value} {below : List Frame} {meth : Method} {c : Code} {D : va_G} {cy : Nat → ClassId} {ad : Nat → Nat} {r : Int32} {μ1 : Mem} {ν1 : Lem} (C : Cx false p s m args meth c cX6_read 6 RX6 D cy ad) (hr : meth.sig.returnType = some .int) : ∀ (μ : Mem) (ν : Lem) (x2 : Int32) (x3 : Int32) (t0 : Int32), f6_read_1 μ ν x2 x3 t0 = some (r, μ1, ν1) → ∀ (H : Heap) (locs : List Loc), Wd false D cy ad s.heap μ ν H locs → ∀ (ls : Array Slot), lv_has ls 6 [(0, .ref (ad 0)), (2, .int x2), (3, .int x3)] → WI false p l e 41 905 s m args below meth c D cy ad .int r μ1 ν1 H locs (F0 m 89 ls [.int t0]) := by
  have hx := C.1.1
  have hb := C.1.2.1
  have hown := C.1.2.2.2.1
  have hts := C.1.2.2.2.2
  intro μ ν x2 x3 t0 hf H locs X ls hl
  unfold f6_read_1 at hf
  refine lv_istore (lv' := [(4, .int t0), (0, .ref (ad 0)), (2, .int x2), (3, .int x3)]) hx hb dX6_read_89 hl (by decide) rfl (fun ls hl => ?_)
  refine lv_aload_n hx hb dX6_read_91 rfl (lv_at hl 1 rfl) ?_
  refine gfX6_160 C X dX6_read_92 ?_
  refine lv_if_eq (tgt := 102) hx hb dX6_read_95 (by decide) (fun c95 => ?_) (fun c95 => ?_)
  · replace hf := ifp c95 hf
    refine lv_aload_n hx hb dX6_read_102 rfl (lv_at hl 1 rfl) ?_
    refine lv_aload_n hx hb dX6_read_103 rfl (lv_at hl 1 rfl) ?_
    refine lv_bipush (v := 119) hx hb dX6_read_104 (by decide) ?_
    refine lv_bipush (v := 111) hx hb dX6_read_106 (by decide) ?_
    refine lv_bipush (v := 114) hx hb dX6_read_108 (by decide) ?_
    refine lv_bipush (v := 116) hx hb dX6_read_110 (by decide) ?_
    refine lv_bipush (v := 104) hx hb dX6_read_112 (by decide) ?_
    refine lv_iconst (v := 0) hx hb dX6_read_114 (by decide) ?_
    refine lv_iconst (v := 0) hx hb dX6_read_115 (by decide) ?_
    refine lv_iconst (v := 0) hx hb dX6_read_116 (by decide) ?_
    obtain ⟨r117, g117, hf⟩ := bd1_e hf
    refine qX6_180 g117 C X hl.1 ((Nat.le_of_ble_eq_true rfl)) ⟨(Nat.le_of_ble_eq_true rfl), (Nat.le_of_ble_eq_true rfl)⟩ ⟨Nat.zero_le _, Nat.zero_le _⟩ dX6_read_117 (fun H locs X b117 => ?_)
    obtain ⟨r120, μ120, ν120, g120, hf⟩ := bd3_e hf
    refine qX6_325 g120 C X hl.1 ((Nat.le_of_ble_eq_true rfl)) ⟨(Nat.le_of_ble_eq_true rfl), (Nat.le_of_ble_eq_true rfl)⟩ ⟨Nat.zero_le _, Nat.zero_le _⟩ dX6_read_120 (fun H locs X b120 => ?_)
    exact w6_read_2 C hr  μ120 ν120 x2 x3 t0 r120 hf _ _ X _ (lv_sub hl [1, 2, 3, 0] rfl)
  · replace hf := ifn c95 hf
    refine lv_iconst (v := 0) hx hb dX6_read_98 (by decide) ?_
    refine lv_goto (tgt := 123) hx hb dX6_read_99 (by decide) ?_
    exact w6_read_2 C hr  μ ν x2 x3 t0 0 hf _ _ X _ (lv_sub hl [1, 2, 3, 0] rfl)
set_option maxRecDepth 100000 in
set_option maxHeartbeats 4000000 in
theorem w6_read {p : Program} {l : Launch} {e : Env} {s : State} {m : MethodId} {args : Array Value} {below : List Frame} {meth : Method} {c : Code} {D : va_G} {cy : Nat → ClassId} {ad : Nat → Nat} {r : Int32} {μ1 : Mem} {ν1 : Lem} (C : Cx false p s m args meth c cX6_read 6 RX6 D cy ad) (hr : meth.sig.returnType = some .int) : ∀ (μ : Mem) (ν : Lem) (x1 : Int32) (x2 : Int32), f6_read μ ν x1 x2 = some (r, μ1, ν1) → ∀ (H : Heap) (locs : List Loc), Wd false D cy ad s.heap μ ν H locs → ∀ (ls : Array Slot), lv_has ls 6 [(0, .ref (ad 0)), (1, .int x1), (2, .int x2)] → WI false p l e 41 905 s m args below meth c D cy ad .int r μ1 ν1 H locs (F0 m 0 ls []) := by
  have hx := C.1.1
  have hb := C.1.2.1
  have hown := C.1.2.2.2.1
  have hts := C.1.2.2.2.2
  intro μ ν x1 x2 hf H locs X ls hl
  unfold f6_read at hf
  refine lv_aload_n hx hb dX6_read_0 rfl (lv_at hl 0 rfl) ?_
  refine lv_sipush (v := 160) hx hb dX6_read_1 (by decide) ?_
  refine lv_iload_n hx hb dX6_read_4 rfl (lv_at hl 1 rfl) ?_
  refine lv_imul hx hb dX6_read_5 ?_
  obtain ⟨μ6, e6, hf⟩ := nm_e2 hf
  refine pfX6_132 e6 C X dX6_read_6 (fun H locs X => ?_)
  refine lv_aload_n hx hb dX6_read_9 rfl (lv_at hl 0 rfl) ?_
  refine lv_aload_n hx hb dX6_read_10 rfl (lv_at hl 0 rfl) ?_
  refine gfX6_17 C X dX6_read_11 ?_
  refine lv_iload_n hx hb dX6_read_14 rfl (lv_at hl 1 rfl) ?_
  obtain ⟨h15, hf⟩ := gd_e hf
  refine rIald C X rfl h15 dX6_read_15 ?_
  obtain ⟨μ16, e16, hf⟩ := nm_e2 hf
  refine pfX6_129 e16 C X dX6_read_16 (fun H locs X => ?_)
  refine lv_aload_n hx hb dX6_read_19 rfl (lv_at hl 0 rfl) ?_
  refine lv_iconst (v := 0) hx hb dX6_read_20 (by decide) ?_
  obtain ⟨μ21, e21, hf⟩ := nm_e2 hf
  refine pfX6_135 e21 C X dX6_read_21 (fun H locs X => ?_)
  refine lv_aload_n hx hb dX6_read_24 rfl (lv_at hl 0 rfl) ?_
  refine lv_iconst (v := 0) hx hb dX6_read_25 (by decide) ?_
  obtain ⟨μ26, e26, hf⟩ := nm_e2 hf
  refine pfX6_171 e26 C X dX6_read_26 (fun H locs X => ?_)
  refine lv_aload_n hx hb dX6_read_29 rfl (lv_at hl 0 rfl) ?_
  refine lv_iconst (v := 0) hx hb dX6_read_30 (by decide) ?_
  obtain ⟨μ31, e31, hf⟩ := nm_e2 hf
  refine pfX6_160 e31 (by decide) (by decide) C X dX6_read_31 (fun H locs X => ?_)
  refine lv_aload_n hx hb dX6_read_34 rfl (lv_at hl 0 rfl) ?_
  obtain ⟨μ35, ν35, g35, hf⟩ := bd2_e hf
  refine qX6_177 g35 C X hl.1 ((Nat.le_of_ble_eq_true rfl)) ⟨(Nat.le_of_ble_eq_true rfl), (Nat.le_of_ble_eq_true rfl)⟩ ⟨Nat.zero_le _, Nat.zero_le _⟩ dX6_read_35 (fun H locs X => ?_)
  refine lv_aload_n hx hb dX6_read_38 rfl (lv_at hl 0 rfl) ?_
  refine lv_aload_n hx hb dX6_read_39 rfl (lv_at hl 0 rfl) ?_
  refine lv_bipush (v := 110) hx hb dX6_read_40 (by decide) ?_
  refine lv_bipush (v := 101) hx hb dX6_read_42 (by decide) ?_
  refine lv_bipush (v := 97) hx hb dX6_read_44 (by decide) ?_
  refine lv_bipush (v := 114) hx hb dX6_read_46 (by decide) ?_
  refine lv_iconst (v := 0) hx hb dX6_read_48 (by decide) ?_
  refine lv_iconst (v := 0) hx hb dX6_read_49 (by decide) ?_
  refine lv_iconst (v := 0) hx hb dX6_read_50 (by decide) ?_
  refine lv_iconst (v := 0) hx hb dX6_read_51 (by decide) ?_
  obtain ⟨r52, g52, hf⟩ := bd1_e hf
  refine qX6_180 g52 C X hl.1 ((Nat.le_of_ble_eq_true rfl)) ⟨(Nat.le_of_ble_eq_true rfl), (Nat.le_of_ble_eq_true rfl)⟩ ⟨Nat.zero_le _, Nat.zero_le _⟩ dX6_read_52 (fun H locs X b52 => ?_)
  obtain ⟨r55, μ55, ν55, g55, hf⟩ := bd3_e hf
  refine qX6_325 g55 C X hl.1 ((Nat.le_of_ble_eq_true rfl)) ⟨(Nat.le_of_ble_eq_true rfl), (Nat.le_of_ble_eq_true rfl)⟩ ⟨Nat.zero_le _, Nat.zero_le _⟩ dX6_read_55 (fun H locs X b55 => ?_)
  refine lv_istore_n (lv' := [(3, .int r55), (0, .ref (ad 0)), (1, .int x1), (2, .int x2)]) hx hb dX6_read_58 rfl hl (by decide) rfl (fun ls hl => ?_)
  refine lv_aload_n hx hb dX6_read_59 rfl (lv_at hl 1 rfl) ?_
  refine gfX6_160 C X dX6_read_60 ?_
  refine lv_if_eq (tgt := 70) hx hb dX6_read_63 (by decide) (fun c63 => ?_) (fun c63 => ?_)
  · replace hf := ifp c63 hf
    refine lv_aload_n hx hb dX6_read_70 rfl (lv_at hl 1 rfl) ?_
    refine lv_aload_n hx hb dX6_read_71 rfl (lv_at hl 1 rfl) ?_
    refine lv_bipush (v := 111) hx hb dX6_read_72 (by decide) ?_
    refine lv_bipush (v := 102) hx hb dX6_read_74 (by decide) ?_
    refine lv_bipush (v := 102) hx hb dX6_read_76 (by decide) ?_
    refine lv_iconst (v := 0) hx hb dX6_read_78 (by decide) ?_
    refine lv_iconst (v := 0) hx hb dX6_read_79 (by decide) ?_
    refine lv_iconst (v := 0) hx hb dX6_read_80 (by decide) ?_
    refine lv_iconst (v := 0) hx hb dX6_read_81 (by decide) ?_
    refine lv_iconst (v := 0) hx hb dX6_read_82 (by decide) ?_
    obtain ⟨r83, g83, hf⟩ := bd1_e hf
    refine qX6_180 g83 C X hl.1 ((Nat.le_of_ble_eq_true rfl)) ⟨(Nat.le_of_ble_eq_true rfl), (Nat.le_of_ble_eq_true rfl)⟩ ⟨Nat.zero_le _, Nat.zero_le _⟩ dX6_read_83 (fun H locs X b83 => ?_)
    obtain ⟨r86, μ86, ν86, g86, hf⟩ := bd3_e hf
    refine qX6_325 g86 C X hl.1 ((Nat.le_of_ble_eq_true rfl)) ⟨(Nat.le_of_ble_eq_true rfl), (Nat.le_of_ble_eq_true rfl)⟩ ⟨Nat.zero_le _, Nat.zero_le _⟩ dX6_read_86 (fun H locs X b86 => ?_)
    exact w6_read_1 C hr  μ86 ν86 x2 r55 r86 hf _ _ X _ (lv_sub hl [1, 3, 0] rfl)
  · replace hf := ifn c63 hf
    refine lv_iconst (v := 0) hx hb dX6_read_66 (by decide) ?_
    refine lv_goto (tgt := 89) hx hb dX6_read_67 (by decide) ?_
    exact w6_read_1 C hr  μ55 ν55 x2 r55 0 hf _ _ X _ (lv_sub hl [1, 3, 0] rfl)
theorem ct6_read {x1 : Int32} {x2 : Int32} {μ : Mem} {ν : Lem} {r : Int32} {μ1 : Mem} {ν1 : Lem} (hg : f6_read μ ν x1 x2 = some (r, μ1, ν1)) : CtI false yX6_read cX6_read 6 41 905 .int (fun ad => [.ref (ad 0), .int x1, .int x2]) μ ν r μ1 ν1 :=
  mkI (by decide) rfl (fun ad => Nat.le_of_ble_eq_true rfl) (fun p l e s m args below meth c D cy ad C hr X ls hl => w6_read C hr μ ν x1 x2 hg _ _ X _ hl)
theorem qX6_329 {p : Program} {l : Launch} {e : Env} {R : Room} {s : State} {m : MethodId} {args : Array Value} {below : List Frame} {meth : Method} {c : Code} {H : Heap} {locs : List Loc} {cells slots : Nat} {Q : State → Prop} {A : Nat → Prop} {cc : ByteArray} {nL : Nat} {D : va_G} {cy : Nat → ClassId} {ad : Nat → Nat} {μ : Mem} {ν : Lem} {pc : Nat} {ls : Array Slot} {rest : List Value} {x1 : Int32} {x2 : Int32} {r : Int32} {μ1 : Mem} {ν1 : Lem} (hg : f6_read μ ν x1 x2 = some (r, μ1, ν1)) (C : CxA false A p s m args meth c cc nL RX6 D cy ad) (X : WdA false A D cy ad s.heap μ ν H locs) (hsz : ls.size = nL) (hrm : (rest.map fun v => v.category).sum ≤ 8) (hR : 41 + 1 ≤ R.frames ∧ 8 + (6 + 11) + 905 ≤ R.locals) (hcs : cells ≤ R.cells ∧ slots ≤ R.slots) (hd : decode cc pc = .ok (.invokevirtual 329, 3)) (kk : ∀ (H1 : Heap) (locs1 : List Loc), WdA false A D cy ad s.heap μ1 ν1 H1 locs1 → narrow .int (.int r) = .int r → W p l e R s m args below meth c H1 locs1 cells slots Q (F0 m (pc + 3) ls (.int r :: rest))) : W p l e R s m args below meth c H locs cells slots Q (F0 m pc ls (.int x2 :: .int x1 :: .ref (ad 0) :: rest)) :=
  rCVI (As := [.int x1, .int x2]) (k := 0) (ct6_read hg) ok6 lX6_read k_965 rfl rfl rfl C X rfl hrm hsz hR hcs hd kk
set_option maxRecDepth 100000 in
set_option maxHeartbeats 4000000 in
theorem w6_text_1 {p : Program} {l : Launch} {e : Env} {s : State} {m : MethodId} {args : Array Value} {below : List Frame} {meth : Method} {c : Code} {D : va_G} {cy : Nat → ClassId} {ad : Nat → Nat} {r : Int32} {μ1 : Mem} {ν1 : Lem} (C : Cx false p s m args meth c cX6_text 2 RX6 D cy ad) (hr : meth.sig.returnType = some .int) : ∀ (n : Nat), ∀ (μ : Mem) (ν : Lem) (x1 : Int32), f6_text_1 n μ ν x1 = some (r, μ1, ν1) → ∀ (H : Heap) (locs : List Loc), Wd false D cy ad s.heap μ ν H locs → ∀ (ls : Array Slot), lv_has ls 2 [(0, .ref (ad 0)), (1, .int x1)] → WI false p l e 42 930 s m args below meth c D cy ad .int r μ1 ν1 H locs (F0 m 14 ls []) := by
  have hx := C.1.1
  have hb := C.1.2.1
  have hown := C.1.2.2.2.1
  have hts := C.1.2.2.2.2
  intro n
  induction n with
  | zero =>
    intro μ ν x1 hf H locs X ls hl
    rw [f6_text_1] at hf
    cases hf
  | succ n ih =>
    intro μ ν x1 hf H locs X ls hl
    rw [f6_text_1] at hf
    refine lv_iload_n hx hb dX6_text_14 rfl (lv_at hl 1 rfl) ?_
    refine lv_aload_n hx hb dX6_text_15 rfl (lv_at hl 0 rfl) ?_
    refine gfX6_126 C X dX6_text_16 ?_
    refine lv_icmp_ge (tgt := 49) hx hb dX6_text_19 (by decide) (fun c19 => ?_) (fun c19 => ?_)
    · replace hf := ifp c19 hf
      refine lv_aload_n hx hb dX6_text_49 rfl (lv_at hl 0 rfl) ?_
      refine gfX6_17 C X dX6_text_50 ?_
      refine lv_aload_n hx hb dX6_text_53 rfl (lv_at hl 0 rfl) ?_
      refine gfX6_86 C X dX6_text_54 ?_
      refine lv_aload_n hx hb dX6_text_57 rfl (lv_at hl 0 rfl) ?_
      refine gfX6_126 C X dX6_text_58 ?_
      obtain ⟨h61, hf⟩ := gd_e hf
      obtain ⟨μ61, e61, hf⟩ := nm_e2 hf
      refine rIast2 C X rfl h61 e61 dX6_text_61 (fun H locs X => ?_)
      refine lv_aload_n hx hb dX6_text_62 rfl (lv_at hl 0 rfl) ?_
      refine lv_iconst (v := 0) hx hb dX6_text_63 (by decide) ?_
      obtain ⟨μ64, e64, hf⟩ := nm_e2 hf
      refine pfX6_126 e64 C X dX6_text_64 (fun H locs X => ?_)
      refine lv_aload_n hx hb dX6_text_67 rfl (lv_at hl 0 rfl) ?_
      refine lv_aload_n hx hb dX6_text_68 rfl (lv_at hl 0 rfl) ?_
      refine gfX6_86 C X dX6_text_69 ?_
      refine lv_iconst (v := 0) hx hb dX6_text_72 (by decide) ?_
      obtain ⟨r73, μ73, ν73, g73, hf⟩ := bd3_e hf
      refine qX6_329 g73 C X hl.1 ((Nat.le_of_ble_eq_true rfl)) ⟨(Nat.le_of_ble_eq_true rfl), (Nat.le_of_ble_eq_true rfl)⟩ ⟨Nat.zero_le _, Nat.zero_le _⟩ dX6_text_73 (fun H locs X b73 => ?_)
      refine lv_istore_n (lv' := [(1, .int r73), (0, .ref (ad 0))]) hx hb dX6_text_76 rfl hl (by decide) rfl (fun ls hl => ?_)
      refine lv_aload_n hx hb dX6_text_77 rfl (lv_at hl 1 rfl) ?_
      refine gfX6_160 C X dX6_text_78 ?_
      refine lv_if_eq (tgt := 92) hx hb dX6_text_81 (by decide) (fun c81 => ?_) (fun c81 => ?_)
      · replace hf := ifp c81 hf
        refine lv_aload_n hx hb dX6_text_92 rfl (lv_at hl 1 rfl) ?_
        refine lv_dup hx hb dX6_text_93 rfl ?_
        refine gfX6_86 C X dX6_text_94 ?_
        refine lv_iconst (v := 1) hx hb dX6_text_97 (by decide) ?_
        refine lv_iadd hx hb dX6_text_98 ?_
        obtain ⟨μ99, e99, hf⟩ := nm_e2 hf
        refine pfX6_86 e99 C X dX6_text_99 (fun H locs X => ?_)
        refine lv_aload_n hx hb dX6_text_102 rfl (lv_at hl 1 rfl) ?_
        refine gfX6_86 C X dX6_text_103 ?_
        refine lv_iconst (v := 1) hx hb dX6_text_106 (by decide) ?_
        refine lv_isub hx hb dX6_text_107 ?_
        exact retI C X hr rfl (so3 hf).1 (so3 hf).2.1 (so3 hf).2.2 dX6_text_108
      · replace hf := ifn c81 hf
        refine lv_bipush (v := (-100)) hx hb dX6_text_84 (by decide) ?_
        refine lv_aload_n hx hb dX6_text_86 rfl (lv_at hl 1 rfl) ?_
        refine gfX6_164 C X dX6_text_87 ?_
        refine lv_isub hx hb dX6_text_90 ?_
        exact retI C X hr rfl (so3 hf).1 (so3 hf).2.1 (so3 hf).2.2 dX6_text_91
    · replace hf := ifn c19 hf
      refine lv_aload_n hx hb dX6_text_22 rfl (lv_at hl 0 rfl) ?_
      refine gfX6_13 C X dX6_text_23 ?_
      refine lv_sipush (v := 160) hx hb dX6_text_26 (by decide) ?_
      refine lv_aload_n hx hb dX6_text_29 rfl (lv_at hl 0 rfl) ?_
      refine gfX6_86 C X dX6_text_30 ?_
      refine lv_imul hx hb dX6_text_33 ?_
      refine lv_iload_n hx hb dX6_text_34 rfl (lv_at hl 1 rfl) ?_
      refine lv_iadd hx hb dX6_text_35 ?_
      refine lv_aload_n hx hb dX6_text_36 rfl (lv_at hl 0 rfl) ?_
      refine gfX6_20 C X dX6_text_37 ?_
      refine lv_iload_n hx hb dX6_text_40 rfl (lv_at hl 1 rfl) ?_
      obtain ⟨h41, hf⟩ := gd_e hf
      refine rIald C X rfl h41 dX6_text_41 ?_
      obtain ⟨h42, hf⟩ := gd_e hf
      obtain ⟨μ42, e42, hf⟩ := nm_e2 hf
      refine rIast2 C X rfl h42 e42 dX6_text_42 (fun H locs X => ?_)
      obtain ⟨v43, e43, hf⟩ := nm_e2 hf
      refine rIinc (lv' := [(1, .int v43), (0, .ref (ad 0))]) hx hb dX6_text_43 hl (k := 1) rfl e43 rfl (by decide) rfl (fun ls hl => ?_)
      refine lv_goto (tgt := 14) hx hb dX6_text_46 (by decide) ?_
      exact ih μ42 ν v43 hf _ _ X _ (lv_sub hl [1, 0] rfl)
set_option maxRecDepth 100000 in
set_option maxHeartbeats 4000000 in
theorem w6_text {p : Program} {l : Launch} {e : Env} {s : State} {m : MethodId} {args : Array Value} {below : List Frame} {meth : Method} {c : Code} {D : va_G} {cy : Nat → ClassId} {ad : Nat → Nat} {r : Int32} {μ1 : Mem} {ν1 : Lem} (C : Cx false p s m args meth c cX6_text 2 RX6 D cy ad) (hr : meth.sig.returnType = some .int) : ∀ (μ : Mem) (ν : Lem), f6_text μ ν = some (r, μ1, ν1) → ∀ (H : Heap) (locs : List Loc), Wd false D cy ad s.heap μ ν H locs → ∀ (ls : Array Slot), lv_has ls 2 [(0, .ref (ad 0))] → WI false p l e 42 930 s m args below meth c D cy ad .int r μ1 ν1 H locs (F0 m 0 ls []) := by
  have hx := C.1.1
  have hb := C.1.2.1
  have hown := C.1.2.2.2.1
  have hts := C.1.2.2.2.2
  intro μ ν hf H locs X ls hl
  unfold f6_text at hf
  refine lv_aload_n hx hb dX6_text_0 rfl (lv_at hl 0 rfl) ?_
  refine gfX6_86 C X dX6_text_1 ?_
  refine lv_bipush (v := 6) hx hb dX6_text_4 (by decide) ?_
  refine lv_icmp_ne (tgt := 12) hx hb dX6_text_6 (by decide) (fun c6 => ?_) (fun c6 => ?_)
  · replace hf := ifn c6 hf
    refine lv_iconst (v := 0) hx hb dX6_text_12 (by decide) ?_
    refine lv_istore_n (lv' := [(1, .int 0), (0, .ref (ad 0))]) hx hb dX6_text_13 rfl hl (by decide) rfl (fun ls hl => ?_)
    exact w6_text_1 C hr  FUEL μ ν 0 hf _ _ X _ (lv_sub hl [1, 0] rfl)
  · replace hf := ifp c6 hf
    refine lv_bipush (v := (-4)) hx hb dX6_text_9 (by decide) ?_
    exact retI C X hr rfl (so3 hf).1 (so3 hf).2.1 (so3 hf).2.2 dX6_text_11
theorem ct6_text {μ : Mem} {ν : Lem} {r : Int32} {μ1 : Mem} {ν1 : Lem} (hg : f6_text μ ν = some (r, μ1, ν1)) : CtI false yX6_text cX6_text 2 42 930 .int (fun ad => [.ref (ad 0)]) μ ν r μ1 ν1 :=
  mkI (by decide) rfl (fun ad => Nat.le_of_ble_eq_true rfl) (fun p l e s m args below meth c D cy ad C hr X ls hl => w6_text C hr μ ν hg _ _ X _ hl)
theorem qL_44 {p : Program} {l : Launch} {e : Env} {R : Room} {s : State} {m : MethodId} {args : Array Value} {below : List Frame} {meth : Method} {c : Code} {H : Heap} {locs : List Loc} {cells slots : Nat} {Q : State → Prop} {A : Nat → Prop} {cc : ByteArray} {nL : Nat} {D : va_G} {cy : Nat → ClassId} {ad : Nat → Nat} {μ : Mem} {ν : Lem} {pc : Nat} {ls : Array Slot} {rest : List Value} {r : Int32} {μ1 : Mem} {ν1 : Lem} (hg : f6_text μ ν = some (r, μ1, ν1)) (C : CxA false A p s m args meth c cc nL RL D cy ad) (X : WdA false A D cy ad s.heap μ ν H locs) (hsz : ls.size = nL) (hrm : (rest.map fun v => v.category).sum ≤ 8) (hR : 42 + 1 ≤ R.frames ∧ 8 + (2 + 11) + 930 ≤ R.locals) (hcs : cells ≤ R.cells ∧ slots ≤ R.slots) (hd : decode cc pc = .ok (.invokevirtual 44, 3)) (kk : ∀ (H1 : Heap) (locs1 : List Loc), WdA false A D cy ad s.heap μ1 ν1 H1 locs1 → narrow .int (.int r) = .int r → W p l e R s m args below meth c H1 locs1 cells slots Q (F0 m (pc + 3) ls (.int r :: rest))) : W p l e R s m args below meth c H locs cells slots Q (F0 m pc ls (.ref (ad 0) :: rest)) :=
  rCVI (As := []) (k := 0) (ct6_text hg) ok6 lX6_text k_961 rfl rfl rfl C X rfl hrm hsz hR hcs hd kk
set_option maxRecDepth 100000 in
set_option maxHeartbeats 4000000 in
theorem w6_force {p : Program} {l : Launch} {e : Env} {s : State} {m : MethodId} {args : Array Value} {below : List Frame} {meth : Method} {c : Code} {D : va_G} {cy : Nat → ClassId} {ad : Nat → Nat} {r : Int32} {μ1 : Mem} {ν1 : Lem} (C : Cx false p s m args meth c cX6_force 3 RX6 D cy ad) (hr : meth.sig.returnType = some .int) : ∀ (μ : Mem) (ν : Lem) (x1 : Int32), f6_force μ ν x1 = (r, μ1, ν1) → ∀ (H : Heap) (locs : List Loc), Wd false D cy ad s.heap μ ν H locs → ∀ (ls : Array Slot), lv_has ls 3 [(0, .ref (ad 0)), (1, .int x1)] → WI false p l e 1 25 s m args below meth c D cy ad .int r μ1 ν1 H locs (F0 m 0 ls []) := by
  have hx := C.1.1
  have hb := C.1.2.1
  have hown := C.1.2.2.2.1
  have hts := C.1.2.2.2.2
  intro μ ν x1 hf H locs X ls hl
  unfold f6_force at hf
  refine lv_iload_n hx hb dX6_force_0 rfl (lv_at hl 1 rfl) ?_
  refine lv_i2l hx hb dX6_force_1 rfl ?_
  refine lv_lconst (v := 0) hx hb dX6_force_2 (by decide) ?_
  refine lv_aload_n hx hb dX6_force_3 rfl (lv_at hl 0 rfl) ?_
  refine gfX6_86 C X dX6_force_4 ?_
  refine lv_iconst (v := 1) hx hb dX6_force_7 (by decide) ?_
  refine lv_isub hx hb dX6_force_8 ?_
  refine lv_i2l hx hb dX6_force_9 rfl ?_
  refine qX6_92 rfl C X hl.1 ((Nat.le_of_ble_eq_true rfl)) ⟨(Nat.le_of_ble_eq_true rfl), (Nat.le_of_ble_eq_true rfl)⟩ ⟨Nat.zero_le _, Nat.zero_le _⟩ dX6_force_10 (fun H locs X b10 => ?_)
  refine lv_if_ne (tgt := 19) hx hb dX6_force_13 (by decide) (fun c13 => ?_) (fun c13 => ?_)
  · replace hf := ifn c13 hf
    refine lv_aload_n hx hb dX6_force_19 rfl (lv_at hl 0 rfl) ?_
    refine gfX6_332 C X dX6_force_20 ?_
    obtain ⟨v23, e23, hf⟩ := nm_e2 hf
    refine st_i e23 ?_
    refine lv_istore_n (lv' := [(2, .int v23), (0, .ref (ad 0)), (1, .int x1)]) hx hb dX6_force_23 rfl hl (by decide) rfl (fun ls hl => ?_)
    refine lv_aload_n hx hb dX6_force_24 rfl (lv_at hl 1 rfl) ?_
    refine lv_iload_n hx hb dX6_force_25 rfl (lv_at hl 2 rfl) ?_
    obtain ⟨μ26, e26, hf⟩ := nm_e2 hf
    refine pfX6_332 e26 C X dX6_force_26 (fun H locs X => ?_)
    refine lv_iload_n hx hb dX6_force_29 rfl (lv_at hl 0 rfl) ?_
    exact retI C X hr rfl (sp3 hf).1 (sp3 hf).2.1 (sp3 hf).2.2 dX6_force_30
  · replace hf := ifp c13 hf
    refine lv_bipush (v := (-2)) hx hb dX6_force_16 (by decide) ?_
    exact retI C X hr rfl (sp3 hf).1 (sp3 hf).2.1 (sp3 hf).2.2 dX6_force_18
theorem ct6_force {x1 : Int32} {μ : Mem} {ν : Lem} {r : Int32} {μ1 : Mem} {ν1 : Lem} (hg : f6_force μ ν x1 = (r, μ1, ν1)) : CtI false yX6_force cX6_force 3 1 25 .int (fun ad => [.ref (ad 0), .int x1]) μ ν r μ1 ν1 :=
  mkI (by decide) rfl (fun ad => Nat.le_of_ble_eq_true rfl) (fun p l e s m args below meth c D cy ad C hr X ls hl => w6_force C hr μ ν x1 hg _ _ X _ hl)
theorem qL_48 {p : Program} {l : Launch} {e : Env} {R : Room} {s : State} {m : MethodId} {args : Array Value} {below : List Frame} {meth : Method} {c : Code} {H : Heap} {locs : List Loc} {cells slots : Nat} {Q : State → Prop} {A : Nat → Prop} {cc : ByteArray} {nL : Nat} {D : va_G} {cy : Nat → ClassId} {ad : Nat → Nat} {μ : Mem} {ν : Lem} {pc : Nat} {ls : Array Slot} {rest : List Value} {x1 : Int32} {r : Int32} {μ1 : Mem} {ν1 : Lem} (hg : f6_force μ ν x1 = (r, μ1, ν1)) (C : CxA false A p s m args meth c cc nL RL D cy ad) (X : WdA false A D cy ad s.heap μ ν H locs) (hsz : ls.size = nL) (hrm : (rest.map fun v => v.category).sum ≤ 8) (hR : 1 + 1 ≤ R.frames ∧ 8 + (3 + 11) + 25 ≤ R.locals) (hcs : cells ≤ R.cells ∧ slots ≤ R.slots) (hd : decode cc pc = .ok (.invokevirtual 48, 3)) (kk : ∀ (H1 : Heap) (locs1 : List Loc), WdA false A D cy ad s.heap μ1 ν1 H1 locs1 → narrow .int (.int r) = .int r → W p l e R s m args below meth c H1 locs1 cells slots Q (F0 m (pc + 3) ls (.int r :: rest))) : W p l e R s m args below meth c H locs cells slots Q (F0 m pc ls (.int x1 :: .ref (ad 0) :: rest)) :=
  rCVI (As := [.int x1]) (k := 0) (ct6_force hg) ok6 lX6_force k_1155 rfl rfl rfl C X rfl hrm hsz hR hcs hd kk
set_option maxRecDepth 100000 in
set_option maxHeartbeats 4000000 in
theorem w6_says_1 {p : Program} {l : Launch} {e : Env} {s : State} {m : MethodId} {args : Array Value} {below : List Frame} {meth : Method} {c : Code} {D : va_G} {cy : Nat → ClassId} {ad : Nat → Nat} {r : Int32} {μ1 : Mem} {ν1 : Lem} (C : Cx false p s m args meth c cX6_says 6 RX6 D cy ad) (hr : meth.sig.returnType = some .int) : ∀ (μ : Mem) (ν : Lem) (x1 : Int32) (x2 : Int32) (t1 : Int32), f6_says_1 μ ν x1 x2 t1 = some (r, μ1, ν1) → ∀ (H : Heap) (locs : List Loc), Wd false D cy ad s.heap μ ν H locs → ∀ (ls : Array Slot), lv_has ls 6 [(0, .ref (ad 0)), (1, .int x1), (2, .int x2)] → WI false p l e 42 930 s m args below meth c D cy ad .int r μ1 ν1 H locs (F0 m 53 ls [.int t1, .ref (ad 0)]) := by
  have hx := C.1.1
  have hb := C.1.2.1
  have hown := C.1.2.2.2.1
  have hts := C.1.2.2.2.2
  intro μ ν x1 x2 t1 hf H locs X ls hl
  unfold f6_says_1 at hf
  obtain ⟨μ53, e53, hf⟩ := nm_e2 hf
  refine pfX6_193 e53 C X dX6_says_53 (fun H locs X => ?_)
  refine lv_aload_n hx hb dX6_says_56 rfl (lv_at hl 0 rfl) ?_
  refine lv_aload_n hx hb dX6_says_57 rfl (lv_at hl 0 rfl) ?_
  refine gfX6_23 C X dX6_says_58 ?_
  obtain ⟨μ61, e61, hf⟩ := nm_e2 hf
  refine pfX6_196 e61 C X dX6_says_61 (fun H locs X => ?_)
  refine lv_aload_n hx hb dX6_says_64 rfl (lv_at hl 0 rfl) ?_
  refine lv_aload_n hx hb dX6_says_65 rfl (lv_at hl 0 rfl) ?_
  refine gfX6_38 C X dX6_says_66 ?_
  refine lv_iload_n hx hb dX6_says_69 rfl (lv_at hl 2 rfl) ?_
  obtain ⟨h70, hf⟩ := gd_e hf
  refine rIald C X rfl h70 dX6_says_70 ?_
  obtain ⟨μ71, e71, hf⟩ := nm_e2 hf
  refine pfX6_199 e71 C X dX6_says_71 (fun H locs X => ?_)
  refine lv_aload_n hx hb dX6_says_74 rfl (lv_at hl 0 rfl) ?_
  refine lv_aload_n hx hb dX6_says_75 rfl (lv_at hl 0 rfl) ?_
  refine gfX6_332 C X dX6_says_76 ?_
  refine lv_iload_n hx hb dX6_says_79 rfl (lv_at hl 1 rfl) ?_
  obtain ⟨r80, μ80, ν80, g80, hf⟩ := bd3_e hf
  refine qX6_329 g80 C X hl.1 ((Nat.le_of_ble_eq_true rfl)) ⟨(Nat.le_of_ble_eq_true rfl), (Nat.le_of_ble_eq_true rfl)⟩ ⟨Nat.zero_le _, Nat.zero_le _⟩ dX6_says_80 (fun H locs X b80 => ?_)
  refine lv_istore (lv' := [(5, .int r80), (0, .ref (ad 0)), (1, .int x1), (2, .int x2)]) hx hb dX6_says_83 hl (by decide) rfl (fun ls hl => ?_)
  refine lv_iload_n hx hb dX6_says_85 rfl (lv_at hl 2 rfl) ?_
  refine lv_if_ne (tgt := 101) hx hb dX6_says_86 (by decide) (fun c86 => ?_) (fun c86 => ?_)
  · replace hf := ifn c86 hf
    refine lv_iload_n hx hb dX6_says_101 rfl (lv_at hl 2 rfl) ?_
    refine lv_iconst (v := 1) hx hb dX6_says_102 (by decide) ?_
    refine lv_icmp_ne (tgt := 118) hx hb dX6_says_103 (by decide) (fun c103 => ?_) (fun c103 => ?_)
    · replace hf := ifn c103 hf
      refine lv_iload hx hb dX6_says_118 (lv_at hl 0 rfl) ?_
      refine lv_iconst (v := 0) hx hb dX6_says_120 (by decide) ?_
      refine lv_bipush (v := 99) hx hb dX6_says_121 (by decide) ?_
      refine qX6_120 rfl C X hl.1 ((Nat.le_of_ble_eq_true rfl)) ⟨(Nat.le_of_ble_eq_true rfl), (Nat.le_of_ble_eq_true rfl)⟩ ⟨Nat.zero_le _, Nat.zero_le _⟩ dX6_says_123 (fun H locs X b123 => ?_)
      exact retI C X hr rfl (so3 hf).1 (so3 hf).2.1 (so3 hf).2.2 dX6_says_126
    · replace hf := ifp c103 hf
      refine lv_iload hx hb dX6_says_106 (lv_at hl 0 rfl) ?_
      refine lv_bipush (v := (-60)) hx hb dX6_says_108 (by decide) ?_
      refine lv_bipush (v := 60) hx hb dX6_says_110 (by decide) ?_
      refine qX6_120 rfl C X hl.1 ((Nat.le_of_ble_eq_true rfl)) ⟨(Nat.le_of_ble_eq_true rfl), (Nat.le_of_ble_eq_true rfl)⟩ ⟨Nat.zero_le _, Nat.zero_le _⟩ dX6_says_112 (fun H locs X b112 => ?_)
      refine lv_goto (tgt := 126) hx hb dX6_says_115 (by decide) ?_
      exact retI C X hr rfl (so3 hf).1 (so3 hf).2.1 (so3 hf).2.2 dX6_says_126
  · replace hf := ifp c86 hf
    refine lv_iload hx hb dX6_says_89 (lv_at hl 0 rfl) ?_
    refine lv_iconst (v := 0) hx hb dX6_says_91 (by decide) ?_
    refine lv_sipush (v := 9999) hx hb dX6_says_92 (by decide) ?_
    refine qX6_120 rfl C X hl.1 ((Nat.le_of_ble_eq_true rfl)) ⟨(Nat.le_of_ble_eq_true rfl), (Nat.le_of_ble_eq_true rfl)⟩ ⟨Nat.zero_le _, Nat.zero_le _⟩ dX6_says_95 (fun H locs X b95 => ?_)
    refine lv_goto (tgt := 126) hx hb dX6_says_98 (by decide) ?_
    exact retI C X hr rfl (so3 hf).1 (so3 hf).2.1 (so3 hf).2.2 dX6_says_126
set_option maxRecDepth 100000 in
set_option maxHeartbeats 4000000 in
theorem w6_says {p : Program} {l : Launch} {e : Env} {s : State} {m : MethodId} {args : Array Value} {below : List Frame} {meth : Method} {c : Code} {D : va_G} {cy : Nat → ClassId} {ad : Nat → Nat} {r : Int32} {μ1 : Mem} {ν1 : Lem} (C : Cx false p s m args meth c cX6_says 6 RX6 D cy ad) (hr : meth.sig.returnType = some .int) : ∀ (μ : Mem) (ν : Lem) (x1 : Int32) (x2 : Int32) (x3 : Int32), f6_says μ ν x1 x2 x3 = some (r, μ1, ν1) → ∀ (H : Heap) (locs : List Loc), Wd false D cy ad s.heap μ ν H locs → ∀ (ls : Array Slot), lv_has ls 6 [(0, .ref (ad 0)), (1, .int x1), (2, .int x2), (3, .int x3)] → WI false p l e 42 930 s m args below meth c D cy ad .int r μ1 ν1 H locs (F0 m 0 ls []) := by
  have hx := C.1.1
  have hb := C.1.2.1
  have hown := C.1.2.2.2.1
  have hts := C.1.2.2.2.2
  intro μ ν x1 x2 x3 hf H locs X ls hl
  unfold f6_says at hf
  refine lv_aload_n hx hb dX6_says_0 rfl (lv_at hl 0 rfl) ?_
  refine lv_iload_n hx hb dX6_says_1 rfl (lv_at hl 2 rfl) ?_
  refine lv_iload_n hx hb dX6_says_2 rfl (lv_at hl 3 rfl) ?_
  obtain ⟨r3, g3, hf⟩ := bd1_e hf
  refine qX6_335 g3 C X hl.1 ((Nat.le_of_ble_eq_true rfl)) ⟨(Nat.le_of_ble_eq_true rfl), (Nat.le_of_ble_eq_true rfl)⟩ ⟨Nat.zero_le _, Nat.zero_le _⟩ dX6_says_3 (fun H locs X b3 => ?_)
  refine lv_istore (lv' := [(4, .int r3), (0, .ref (ad 0)), (1, .int x1), (2, .int x2), (3, .int x3)]) hx hb dX6_says_6 hl (by decide) rfl (fun ls hl => ?_)
  refine lv_aload_n hx hb dX6_says_8 rfl (lv_at hl 1 rfl) ?_
  refine lv_iload_n hx hb dX6_says_9 rfl (lv_at hl 4 rfl) ?_
  obtain ⟨μ10, e10, hf⟩ := nm_e2 hf
  refine pfX6_184 e10 C X dX6_says_10 (fun H locs X => ?_)
  refine lv_aload_n hx hb dX6_says_13 rfl (lv_at hl 1 rfl) ?_
  refine lv_iload hx hb dX6_says_14 (lv_at hl 0 rfl) ?_
  refine lv_sipush (v := 1000) hx hb dX6_says_16 (by decide) ?_
  refine lv_idiv hx hb dX6_says_19 (by decide) ?_
  obtain ⟨μ20, e20, hf⟩ := nm_e2 hf
  refine pfX6_187 e20 C X dX6_says_20 (fun H locs X => ?_)
  refine lv_aload_n hx hb dX6_says_23 rfl (lv_at hl 1 rfl) ?_
  refine lv_iload_n hx hb dX6_says_24 rfl (lv_at hl 3 rfl) ?_
  obtain ⟨μ25, e25, hf⟩ := nm_e2 hf
  refine pfX6_190 e25 C X dX6_says_25 (fun H locs X => ?_)
  refine lv_aload_n hx hb dX6_says_28 rfl (lv_at hl 1 rfl) ?_
  refine lv_iload_n hx hb dX6_says_29 rfl (lv_at hl 4 rfl) ?_
  refine lv_if_ne (tgt := 37) hx hb dX6_says_30 (by decide) (fun c30 => ?_) (fun c30 => ?_)
  · replace hf := ifn c30 hf
    refine lv_iload hx hb dX6_says_37 (lv_at hl 0 rfl) ?_
    refine lv_aload_n hx hb dX6_says_39 rfl (lv_at hl 1 rfl) ?_
    refine lv_iload_n hx hb dX6_says_40 rfl (lv_at hl 3 rfl) ?_
    refine lv_iload_n hx hb dX6_says_41 rfl (lv_at hl 4 rfl) ?_
    refine lv_iconst (v := 1) hx hb dX6_says_42 (by decide) ?_
    refine lv_isub hx hb dX6_says_43 ?_
    obtain ⟨r44, g44, hf⟩ := bd1_e hf
    refine qX6_335 g44 C X hl.1 ((Nat.le_of_ble_eq_true rfl)) ⟨(Nat.le_of_ble_eq_true rfl), (Nat.le_of_ble_eq_true rfl)⟩ ⟨Nat.zero_le _, Nat.zero_le _⟩ dX6_says_44 (fun H locs X b44 => ?_)
    refine lv_isub hx hb dX6_says_47 ?_
    refine lv_i2l hx hb dX6_says_48 rfl ?_
    refine qX6_338 rfl C X hl.1 ((Nat.le_of_ble_eq_true rfl)) ⟨(Nat.le_of_ble_eq_true rfl), (Nat.le_of_ble_eq_true rfl)⟩ ⟨Nat.zero_le _, Nat.zero_le _⟩ dX6_says_49 (fun H locs X => ?_)
    refine lv_l2i hx hb dX6_says_52 rfl ?_
    exact w6_says_1 C hr  μ25 ν x1 x2 ((f6_plain ((r3 - r44).toInt64)).toInt32) hf _ _ X _ (lv_sub hl [1, 2, 3] rfl)
  · replace hf := ifp c30 hf
    refine lv_iconst (v := 0) hx hb dX6_says_33 (by decide) ?_
    refine lv_goto (tgt := 53) hx hb dX6_says_34 (by decide) ?_
    exact w6_says_1 C hr  μ25 ν x1 x2 0 hf _ _ X _ (lv_sub hl [1, 2, 3] rfl)
theorem ct6_says {x1 : Int32} {x2 : Int32} {x3 : Int32} {μ : Mem} {ν : Lem} {r : Int32} {μ1 : Mem} {ν1 : Lem} (hg : f6_says μ ν x1 x2 x3 = some (r, μ1, ν1)) : CtI false yX6_says cX6_says 6 42 930 .int (fun ad => [.ref (ad 0), .int x1, .int x2, .int x3]) μ ν r μ1 ν1 :=
  mkI (by decide) rfl (fun ad => Nat.le_of_ble_eq_true rfl) (fun p l e s m args below meth c D cy ad C hr X ls hl => w6_says C hr μ ν x1 x2 x3 hg _ _ X _ hl)
theorem qX6_344 {p : Program} {l : Launch} {e : Env} {R : Room} {s : State} {m : MethodId} {args : Array Value} {below : List Frame} {meth : Method} {c : Code} {H : Heap} {locs : List Loc} {cells slots : Nat} {Q : State → Prop} {A : Nat → Prop} {cc : ByteArray} {nL : Nat} {D : va_G} {cy : Nat → ClassId} {ad : Nat → Nat} {μ : Mem} {ν : Lem} {pc : Nat} {ls : Array Slot} {rest : List Value} {x1 : Int32} {x2 : Int32} {x3 : Int32} {r : Int32} {μ1 : Mem} {ν1 : Lem} (hg : f6_says μ ν x1 x2 x3 = some (r, μ1, ν1)) (C : CxA false A p s m args meth c cc nL RX6 D cy ad) (X : WdA false A D cy ad s.heap μ ν H locs) (hsz : ls.size = nL) (hrm : (rest.map fun v => v.category).sum ≤ 8) (hR : 42 + 1 ≤ R.frames ∧ 8 + (6 + 11) + 930 ≤ R.locals) (hcs : cells ≤ R.cells ∧ slots ≤ R.slots) (hd : decode cc pc = .ok (.invokevirtual 344, 3)) (kk : ∀ (H1 : Heap) (locs1 : List Loc), WdA false A D cy ad s.heap μ1 ν1 H1 locs1 → narrow .int (.int r) = .int r → W p l e R s m args below meth c H1 locs1 cells slots Q (F0 m (pc + 3) ls (.int r :: rest))) : W p l e R s m args below meth c H locs cells slots Q (F0 m pc ls (.int x3 :: .int x2 :: .int x1 :: .ref (ad 0) :: rest)) :=
  rCVI (As := [.int x1, .int x2, .int x3]) (k := 0) (ct6_says hg) ok6 lX6_says k_1183 rfl rfl rfl C X rfl hrm hsz hR hcs hd kk
set_option maxRecDepth 100000 in
set_option maxHeartbeats 4000000 in
theorem w6_at {p : Program} {l : Launch} {e : Env} {s : State} {m : MethodId} {args : Array Value} {below : List Frame} {meth : Method} {c : Code} {D : va_G} {cy : Nat → ClassId} {ad : Nat → Nat} {r : Int32} {μ : Mem} {ν : Lem} (C : Cx false p s m args meth c cX6_at 3 RX6 D cy ad) (hr : meth.sig.returnType = some .int) : ∀ (x1 : Int32) (x2 : Int32), f6_at μ ν x1 x2 = some r → ∀ (H : Heap) (locs : List Loc), Wd false D cy ad s.heap μ ν H locs → ∀ (ls : Array Slot), lv_has ls 3 [(0, .ref (ad 0)), (1, .int x1), (2, .int x2)] → WI false p l e 3 72 s m args below meth c D cy ad .int r μ ν H locs (F0 m 0 ls []) := by
  have hx := C.1.1
  have hb := C.1.2.1
  have hown := C.1.2.2.2.1
  have hts := C.1.2.2.2.2
  intro x1 x2 hf H locs X ls hl
  unfold f6_at at hf
  refine lv_aload_n hx hb dX6_at_0 rfl (lv_at hl 0 rfl) ?_
  refine lv_iload_n hx hb dX6_at_1 rfl (lv_at hl 1 rfl) ?_
  refine qX6_96 rfl C X hl.1 ((Nat.le_of_ble_eq_true rfl)) ⟨(Nat.le_of_ble_eq_true rfl), (Nat.le_of_ble_eq_true rfl)⟩ ⟨Nat.zero_le _, Nat.zero_le _⟩ dX6_at_2 (fun H locs X b2 => ?_)
  refine lv_if_eq (tgt := 24) hx hb dX6_at_5 (by decide) (fun c5 => ?_) (fun c5 => ?_)
  · replace hf := ifp c5 hf
    refine lv_bipush (v := (-2)) hx hb dX6_at_24 (by decide) ?_
    exact retI C X hr rfl (Option.some.inj hf) rfl rfl dX6_at_26
  · replace hf := ifn c5 hf
    refine lv_iload_n hx hb dX6_at_8 rfl (lv_at hl 2 rfl) ?_
    refine qX6_110 rfl C X hl.1 ((Nat.le_of_ble_eq_true rfl)) ⟨(Nat.le_of_ble_eq_true rfl), (Nat.le_of_ble_eq_true rfl)⟩ ⟨Nat.zero_le _, Nat.zero_le _⟩ dX6_at_9 (fun H locs X b9 => ?_)
    refine lv_if_eq (tgt := 24) hx hb dX6_at_12 (by decide) (fun c12 => ?_) (fun c12 => ?_)
    · replace hf := ifp c12 hf
      refine lv_bipush (v := (-2)) hx hb dX6_at_24 (by decide) ?_
      exact retI C X hr rfl (Option.some.inj hf) rfl rfl dX6_at_26
    · replace hf := ifn c12 hf
      refine lv_aload_n hx hb dX6_at_15 rfl (lv_at hl 0 rfl) ?_
      refine lv_iload_n hx hb dX6_at_16 rfl (lv_at hl 1 rfl) ?_
      refine lv_iload_n hx hb dX6_at_17 rfl (lv_at hl 2 rfl) ?_
      obtain ⟨r18, g18, hf⟩ := bd1_e hf
      refine qX6_335 g18 C X hl.1 ((Nat.le_of_ble_eq_true rfl)) ⟨(Nat.le_of_ble_eq_true rfl), (Nat.le_of_ble_eq_true rfl)⟩ ⟨Nat.zero_le _, Nat.zero_le _⟩ dX6_at_18 (fun H locs X b18 => ?_)
      refine lv_goto (tgt := 26) hx hb dX6_at_21 (by decide) ?_
      exact retI C X hr rfl (Option.some.inj hf) rfl rfl dX6_at_26
theorem ct6_at {x1 : Int32} {x2 : Int32} {μ : Mem} {ν : Lem} {r : Int32} (hg : f6_at μ ν x1 x2 = some r) : CtI false yX6_at cX6_at 3 3 72 .int (fun ad => [.ref (ad 0), .int x1, .int x2]) μ ν r μ ν :=
  mkI (by decide) rfl (fun ad => Nat.le_of_ble_eq_true rfl) (fun p l e s m args below meth c D cy ad C hr X ls hl => w6_at C hr x1 x2 hg _ _ X _ hl)
theorem qL_52 {p : Program} {l : Launch} {e : Env} {R : Room} {s : State} {m : MethodId} {args : Array Value} {below : List Frame} {meth : Method} {c : Code} {H : Heap} {locs : List Loc} {cells slots : Nat} {Q : State → Prop} {A : Nat → Prop} {cc : ByteArray} {nL : Nat} {D : va_G} {cy : Nat → ClassId} {ad : Nat → Nat} {μ : Mem} {ν : Lem} {pc : Nat} {ls : Array Slot} {rest : List Value} {x1 : Int32} {x2 : Int32} {r : Int32} (hg : f6_at μ ν x1 x2 = some r) (C : CxA false A p s m args meth c cc nL RL D cy ad) (X : WdA false A D cy ad s.heap μ ν H locs) (hsz : ls.size = nL) (hrm : (rest.map fun v => v.category).sum ≤ 8) (hR : 3 + 1 ≤ R.frames ∧ 8 + (3 + 11) + 72 ≤ R.locals) (hcs : cells ≤ R.cells ∧ slots ≤ R.slots) (hd : decode cc pc = .ok (.invokevirtual 52, 3)) (kk : ∀ (H1 : Heap) (locs1 : List Loc), WdA false A D cy ad s.heap μ ν H1 locs1 → narrow .int (.int r) = .int r → W p l e R s m args below meth c H1 locs1 cells slots Q (F0 m (pc + 3) ls (.int r :: rest))) : W p l e R s m args below meth c H locs cells slots Q (F0 m pc ls (.int x2 :: .int x1 :: .ref (ad 0) :: rest)) :=
  rCVI (As := [.int x1, .int x2]) (k := 0) (ct6_at hg) ok6 lX6_at k_1159 rfl rfl rfl C X rfl hrm hsz hR hcs hd kk
set_option maxRecDepth 100000 in
set_option maxHeartbeats 4000000 in
theorem w6_asks {p : Program} {l : Launch} {e : Env} {s : State} {m : MethodId} {args : Array Value} {below : List Frame} {meth : Method} {c : Code} {D : va_G} {cy : Nat → ClassId} {ad : Nat → Nat} {r : Int32} {μ1 : Mem} {ν1 : Lem} (C : Cx false p s m args meth c cX6_asks 4 RX6 D cy ad) (hr : meth.sig.returnType = some .int) : ∀ (μ : Mem) (ν : Lem) (x1 : Int32) (x2 : Int32) (x3 : Int32), f6_asks μ ν x1 x2 x3 = some (r, μ1, ν1) → ∀ (H : Heap) (locs : List Loc), Wd false D cy ad s.heap μ ν H locs → ∀ (ls : Array Slot), lv_has ls 4 [(0, .ref (ad 0)), (1, .int x1), (2, .int x2), (3, .int x3)] → WI false p l e 43 955 s m args below meth c D cy ad .int r μ1 ν1 H locs (F0 m 0 ls []) := by
  have hx := C.1.1
  have hb := C.1.2.1
  have hown := C.1.2.2.2.1
  have hts := C.1.2.2.2.2
  intro μ ν x1 x2 x3 hf H locs X ls hl
  unfold f6_asks at hf
  refine lv_iload_n hx hb dX6_asks_0 rfl (lv_at hl 1 rfl) ?_
  refine lv_i2l hx hb dX6_asks_1 rfl ?_
  refine lv_lconst (v := 0) hx hb dX6_asks_2 (by decide) ?_
  refine lv_ldc2 (v := (2)) hx hb hown (hts _ k_1182) dX6_asks_3 ?_
  refine qX6_92 rfl C X hl.1 ((Nat.le_of_ble_eq_true rfl)) ⟨(Nat.le_of_ble_eq_true rfl), (Nat.le_of_ble_eq_true rfl)⟩ ⟨Nat.zero_le _, Nat.zero_le _⟩ dX6_asks_6 (fun H locs X b6 => ?_)
  refine lv_if_eq (tgt := 37) hx hb dX6_asks_9 (by decide) (fun c9 => ?_) (fun c9 => ?_)
  · replace hf := ifp c9 hf
    refine lv_sipush (v := (-1000)) hx hb dX6_asks_37 (by decide) ?_
    exact retI C X hr rfl (so3 hf).1 (so3 hf).2.1 (so3 hf).2.2 dX6_asks_40
  · replace hf := ifn c9 hf
    refine lv_aload_n hx hb dX6_asks_12 rfl (lv_at hl 0 rfl) ?_
    refine lv_iload_n hx hb dX6_asks_13 rfl (lv_at hl 2 rfl) ?_
    refine qX6_96 rfl C X hl.1 ((Nat.le_of_ble_eq_true rfl)) ⟨(Nat.le_of_ble_eq_true rfl), (Nat.le_of_ble_eq_true rfl)⟩ ⟨Nat.zero_le _, Nat.zero_le _⟩ dX6_asks_14 (fun H locs X b14 => ?_)
    refine lv_if_eq (tgt := 37) hx hb dX6_asks_17 (by decide) (fun c17 => ?_) (fun c17 => ?_)
    · replace hf := ifp c17 hf
      refine lv_sipush (v := (-1000)) hx hb dX6_asks_37 (by decide) ?_
      exact retI C X hr rfl (so3 hf).1 (so3 hf).2.1 (so3 hf).2.2 dX6_asks_40
    · replace hf := ifn c17 hf
      refine lv_iload_n hx hb dX6_asks_20 rfl (lv_at hl 3 rfl) ?_
      refine qX6_110 rfl C X hl.1 ((Nat.le_of_ble_eq_true rfl)) ⟨(Nat.le_of_ble_eq_true rfl), (Nat.le_of_ble_eq_true rfl)⟩ ⟨Nat.zero_le _, Nat.zero_le _⟩ dX6_asks_21 (fun H locs X b21 => ?_)
      refine lv_if_eq (tgt := 37) hx hb dX6_asks_24 (by decide) (fun c24 => ?_) (fun c24 => ?_)
      · replace hf := ifp c24 hf
        refine lv_sipush (v := (-1000)) hx hb dX6_asks_37 (by decide) ?_
        exact retI C X hr rfl (so3 hf).1 (so3 hf).2.1 (so3 hf).2.2 dX6_asks_40
      · replace hf := ifn c24 hf
        refine lv_aload_n hx hb dX6_asks_27 rfl (lv_at hl 0 rfl) ?_
        refine lv_iload_n hx hb dX6_asks_28 rfl (lv_at hl 1 rfl) ?_
        refine lv_iload_n hx hb dX6_asks_29 rfl (lv_at hl 2 rfl) ?_
        refine lv_iload_n hx hb dX6_asks_30 rfl (lv_at hl 3 rfl) ?_
        obtain ⟨r31, μ31, ν31, g31, hf⟩ := bd3_e hf
        refine qX6_344 g31 C X hl.1 ((Nat.le_of_ble_eq_true rfl)) ⟨(Nat.le_of_ble_eq_true rfl), (Nat.le_of_ble_eq_true rfl)⟩ ⟨Nat.zero_le _, Nat.zero_le _⟩ dX6_asks_31 (fun H locs X b31 => ?_)
        refine lv_goto (tgt := 40) hx hb dX6_asks_34 (by decide) ?_
        exact retI C X hr rfl (so3 hf).1 (so3 hf).2.1 (so3 hf).2.2 dX6_asks_40
theorem ct6_asks {x1 : Int32} {x2 : Int32} {x3 : Int32} {μ : Mem} {ν : Lem} {r : Int32} {μ1 : Mem} {ν1 : Lem} (hg : f6_asks μ ν x1 x2 x3 = some (r, μ1, ν1)) : CtI false yX6_asks cX6_asks 4 43 955 .int (fun ad => [.ref (ad 0), .int x1, .int x2, .int x3]) μ ν r μ1 ν1 :=
  mkI (by decide) rfl (fun ad => Nat.le_of_ble_eq_true rfl) (fun p l e s m args below meth c D cy ad C hr X ls hl => w6_asks C hr μ ν x1 x2 x3 hg _ _ X _ hl)
theorem qL_56 {p : Program} {l : Launch} {e : Env} {R : Room} {s : State} {m : MethodId} {args : Array Value} {below : List Frame} {meth : Method} {c : Code} {H : Heap} {locs : List Loc} {cells slots : Nat} {Q : State → Prop} {A : Nat → Prop} {cc : ByteArray} {nL : Nat} {D : va_G} {cy : Nat → ClassId} {ad : Nat → Nat} {μ : Mem} {ν : Lem} {pc : Nat} {ls : Array Slot} {rest : List Value} {x1 : Int32} {x2 : Int32} {x3 : Int32} {r : Int32} {μ1 : Mem} {ν1 : Lem} (hg : f6_asks μ ν x1 x2 x3 = some (r, μ1, ν1)) (C : CxA false A p s m args meth c cc nL RL D cy ad) (X : WdA false A D cy ad s.heap μ ν H locs) (hsz : ls.size = nL) (hrm : (rest.map fun v => v.category).sum ≤ 8) (hR : 43 + 1 ≤ R.frames ∧ 8 + (4 + 11) + 955 ≤ R.locals) (hcs : cells ≤ R.cells ∧ slots ≤ R.slots) (hd : decode cc pc = .ok (.invokevirtual 56, 3)) (kk : ∀ (H1 : Heap) (locs1 : List Loc), WdA false A D cy ad s.heap μ1 ν1 H1 locs1 → narrow .int (.int r) = .int r → W p l e R s m args below meth c H1 locs1 cells slots Q (F0 m (pc + 3) ls (.int r :: rest))) : W p l e R s m args below meth c H locs cells slots Q (F0 m pc ls (.int x3 :: .int x2 :: .int x1 :: .ref (ad 0) :: rest)) :=
  rCVI (As := [.int x1, .int x2, .int x3]) (k := 0) (ct6_asks hg) ok6 lX6_asks k_1178 rfl rfl rfl C X rfl hrm hsz hR hcs hd kk
set_option maxRecDepth 100000 in
set_option maxHeartbeats 4000000 in
theorem w6_walks_1 {p : Program} {l : Launch} {e : Env} {s : State} {m : MethodId} {args : Array Value} {below : List Frame} {meth : Method} {c : Code} {D : va_G} {cy : Nat → ClassId} {ad : Nat → Nat} {μ1 : Mem} {ν1 : Lem} (C : Cx false p s m args meth c cX6_walks 5 RX6 D cy ad) (hr : meth.sig.returnType = none) : ∀ (n : Nat), ∀ (μ : Mem) (ν : Lem) (x1 : Int32) (x2 : Int32) (x3 : Int32), f6_walks_1 n μ ν x1 x2 x3 = some (μ1, ν1) → ∀ (H : Heap) (locs : List Loc), Wd false D cy ad s.heap μ ν H locs → ∀ (ls : Array Slot), lv_has ls 5 [(0, .ref (ad 0)), (1, .int x1), (2, .int x2), (3, .int x3)] → WV false p l e 3 72 s m args below meth c D cy ad μ1 ν1 H locs (F0 m 16 ls []) := by
  have hx := C.1.1
  have hb := C.1.2.1
  have hown := C.1.2.2.2.1
  have hts := C.1.2.2.2.2
  intro n
  induction n with
  | zero =>
    intro μ ν x1 x2 x3 hf H locs X ls hl
    rw [f6_walks_1] at hf
    cases hf
  | succ n ih =>
    intro μ ν x1 x2 x3 hf H locs X ls hl
    rw [f6_walks_1] at hf
    refine lv_iload_n hx hb dX6_walks_16 rfl (lv_at hl 3 rfl) ?_
    refine lv_sipush (v := 601) hx hb dX6_walks_17 (by decide) ?_
    refine lv_icmp_ge (tgt := 63) hx hb dX6_walks_20 (by decide) (fun c20 => ?_) (fun c20 => ?_)
    · replace hf := ifp c20 hf
      exact retV C X hr (so2 hf).1 (so2 hf).2 dX6_walks_63
    · replace hf := ifn c20 hf
      refine lv_aload_n hx hb dX6_walks_23 rfl (lv_at hl 0 rfl) ?_
      refine lv_iload_n hx hb dX6_walks_24 rfl (lv_at hl 1 rfl) ?_
      refine lv_iload_n hx hb dX6_walks_25 rfl (lv_at hl 3 rfl) ?_
      obtain ⟨r26, g26, hf⟩ := bd1_e hf
      refine qX6_335 g26 C X hl.1 ((Nat.le_of_ble_eq_true rfl)) ⟨(Nat.le_of_ble_eq_true rfl), (Nat.le_of_ble_eq_true rfl)⟩ ⟨Nat.zero_le _, Nat.zero_le _⟩ dX6_walks_26 (fun H locs X b26 => ?_)
      refine lv_istore (lv' := [(4, .int r26), (0, .ref (ad 0)), (1, .int x1), (2, .int x2), (3, .int x3)]) hx hb dX6_walks_29 hl (by decide) rfl (fun ls hl => ?_)
      refine lv_aload_n hx hb dX6_walks_31 rfl (lv_at hl 1 rfl) ?_
      refine gfX6_41 C X dX6_walks_32 ?_
      refine lv_iload_n hx hb dX6_walks_35 rfl (lv_at hl 4 rfl) ?_
      refine lv_aload_n hx hb dX6_walks_36 rfl (lv_at hl 1 rfl) ?_
      refine gfX6_41 C X dX6_walks_37 ?_
      refine lv_iload_n hx hb dX6_walks_40 rfl (lv_at hl 4 rfl) ?_
      refine lv_iconst (v := 1) hx hb dX6_walks_41 (by decide) ?_
      refine lv_isub hx hb dX6_walks_42 ?_
      obtain ⟨h43, hf⟩ := gd_e hf
      refine rLald C X rfl h43 dX6_walks_43 ?_
      refine lv_iload hx hb dX6_walks_44 (lv_at hl 0 rfl) ?_
      refine lv_iload_n hx hb dX6_walks_46 rfl (lv_at hl 3 rfl) ?_
      refine lv_isub hx hb dX6_walks_47 ?_
      refine lv_i2l hx hb dX6_walks_48 rfl ?_
      refine qX6_338 rfl C X hl.1 ((Nat.le_of_ble_eq_true rfl)) ⟨(Nat.le_of_ble_eq_true rfl), (Nat.le_of_ble_eq_true rfl)⟩ ⟨Nat.zero_le _, Nat.zero_le _⟩ dX6_walks_49 (fun H locs X => ?_)
      refine lv_ladd hx hb dX6_walks_52 ?_
      obtain ⟨h53, hf⟩ := gd_e hf
      obtain ⟨ν53, e53, hf⟩ := nm_e2 hf
      refine rLast2 C X rfl h53 e53 dX6_walks_53 (fun H locs X => ?_)
      refine lv_iload hx hb dX6_walks_54 (lv_at hl 0 rfl) ?_
      refine lv_istore_n (lv' := [(2, .int r26), (4, .int r26), (0, .ref (ad 0)), (1, .int x1), (3, .int x3)]) hx hb dX6_walks_56 rfl hl (by decide) rfl (fun ls hl => ?_)
      obtain ⟨v57, e57, hf⟩ := nm_e2 hf
      refine rIinc (lv' := [(3, .int v57), (2, .int r26), (4, .int r26), (0, .ref (ad 0)), (1, .int x1)]) hx hb dX6_walks_57 hl (k := 4) rfl e57 rfl (by decide) rfl (fun ls hl => ?_)
      refine lv_goto (tgt := 16) hx hb dX6_walks_60 (by decide) ?_
      exact ih μ ν53 x1 r26 v57 hf _ _ X _ (lv_sub hl [3, 4, 1, 0] rfl)
set_option maxRecDepth 100000 in
set_option maxHeartbeats 4000000 in
theorem w6_walks {p : Program} {l : Launch} {e : Env} {s : State} {m : MethodId} {args : Array Value} {below : List Frame} {meth : Method} {c : Code} {D : va_G} {cy : Nat → ClassId} {ad : Nat → Nat} {μ1 : Mem} {ν1 : Lem} (C : Cx false p s m args meth c cX6_walks 5 RX6 D cy ad) (hr : meth.sig.returnType = none) : ∀ (μ : Mem) (ν : Lem) (x1 : Int32), f6_walks μ ν x1 = some (μ1, ν1) → ∀ (H : Heap) (locs : List Loc), Wd false D cy ad s.heap μ ν H locs → ∀ (ls : Array Slot), lv_has ls 5 [(0, .ref (ad 0)), (1, .int x1)] → WV false p l e 3 72 s m args below meth c D cy ad μ1 ν1 H locs (F0 m 0 ls []) := by
  have hx := C.1.1
  have hb := C.1.2.1
  have hown := C.1.2.2.2.1
  have hts := C.1.2.2.2.2
  intro μ ν x1 hf H locs X ls hl
  unfold f6_walks at hf
  refine lv_aload_n hx hb dX6_walks_0 rfl (lv_at hl 0 rfl) ?_
  refine gfX6_41 C X dX6_walks_1 ?_
  refine lv_iconst (v := 0) hx hb dX6_walks_4 (by decide) ?_
  refine lv_lconst (v := 0) hx hb dX6_walks_5 (by decide) ?_
  obtain ⟨h6, hf⟩ := gd_e hf
  obtain ⟨ν6, e6, hf⟩ := nm_e2 hf
  refine rLast2 C X rfl h6 e6 dX6_walks_6 (fun H locs X => ?_)
  refine lv_aload_n hx hb dX6_walks_7 rfl (lv_at hl 0 rfl) ?_
  refine lv_iload_n hx hb dX6_walks_8 rfl (lv_at hl 1 rfl) ?_
  refine lv_iconst (v := 0) hx hb dX6_walks_9 (by decide) ?_
  obtain ⟨r10, g10, hf⟩ := bd1_e hf
  refine qX6_335 g10 C X hl.1 ((Nat.le_of_ble_eq_true rfl)) ⟨(Nat.le_of_ble_eq_true rfl), (Nat.le_of_ble_eq_true rfl)⟩ ⟨Nat.zero_le _, Nat.zero_le _⟩ dX6_walks_10 (fun H locs X b10 => ?_)
  refine lv_istore_n (lv' := [(2, .int r10), (0, .ref (ad 0)), (1, .int x1)]) hx hb dX6_walks_13 rfl hl (by decide) rfl (fun ls hl => ?_)
  refine lv_iconst (v := 1) hx hb dX6_walks_14 (by decide) ?_
  refine lv_istore_n (lv' := [(3, .int 1), (2, .int r10), (0, .ref (ad 0)), (1, .int x1)]) hx hb dX6_walks_15 rfl hl (by decide) rfl (fun ls hl => ?_)
  exact w6_walks_1 C hr  FUEL μ ν6 x1 r10 1 hf _ _ X _ (lv_sub hl [2, 3, 1, 0] rfl)
theorem ct6_walks {x1 : Int32} {μ : Mem} {ν : Lem} {μ1 : Mem} {ν1 : Lem} (hg : f6_walks μ ν x1 = some (μ1, ν1)) : CtV false yX6_walks cX6_walks 5 3 72 (fun ad => [.ref (ad 0), .int x1]) μ ν μ1 ν1 :=
  mkV (by decide) rfl (fun ad => Nat.le_of_ble_eq_true rfl) (fun p l e s m args below meth c D cy ad C hr X ls hl => w6_walks C hr μ ν x1 hg _ _ X _ hl)
theorem qX6_347 {p : Program} {l : Launch} {e : Env} {R : Room} {s : State} {m : MethodId} {args : Array Value} {below : List Frame} {meth : Method} {c : Code} {H : Heap} {locs : List Loc} {cells slots : Nat} {Q : State → Prop} {A : Nat → Prop} {cc : ByteArray} {nL : Nat} {D : va_G} {cy : Nat → ClassId} {ad : Nat → Nat} {μ : Mem} {ν : Lem} {pc : Nat} {ls : Array Slot} {rest : List Value} {x1 : Int32} {μ1 : Mem} {ν1 : Lem} (hg : f6_walks μ ν x1 = some (μ1, ν1)) (C : CxA false A p s m args meth c cc nL RX6 D cy ad) (X : WdA false A D cy ad s.heap μ ν H locs) (hsz : ls.size = nL) (hrm : (rest.map fun v => v.category).sum ≤ 8) (hR : 3 + 1 ≤ R.frames ∧ 8 + (5 + 11) + 72 ≤ R.locals) (hcs : cells ≤ R.cells ∧ slots ≤ R.slots) (hd : decode cc pc = .ok (.invokevirtual 347, 3)) (kk : ∀ (H1 : Heap) (locs1 : List Loc), WdA false A D cy ad s.heap μ1 ν1 H1 locs1 → W p l e R s m args below meth c H1 locs1 cells slots Q (F0 m (pc + 3) ls rest)) : W p l e R s m args below meth c H locs cells slots Q (F0 m pc ls (.int x1 :: .ref (ad 0) :: rest)) :=
  rCVV (As := [.int x1]) (k := 0) (ct6_walks hg) ok6 lX6_walks k_1194 rfl rfl rfl C X rfl hrm hsz hR hcs hd kk
set_option maxRecDepth 100000 in
set_option maxHeartbeats 4000000 in
theorem w6_length {p : Program} {l : Launch} {e : Env} {s : State} {m : MethodId} {args : Array Value} {below : List Frame} {meth : Method} {c : Code} {D : va_G} {cy : Nat → ClassId} {ad : Nat → Nat} {r : Int32} {μ1 : Mem} {ν1 : Lem} (C : Cx false p s m args meth c cX6_length 4 RX6 D cy ad) (hr : meth.sig.returnType = some .int) : ∀ (μ : Mem) (ν : Lem) (x1 : Int32) (x2 : Int32) (x3 : Int32), f6_length μ ν x1 x2 x3 = some (r, μ1, ν1) → ∀ (H : Heap) (locs : List Loc), Wd false D cy ad s.heap μ ν H locs → ∀ (ls : Array Slot), lv_has ls 4 [(0, .ref (ad 0)), (1, .int x1), (2, .int x2), (3, .int x3)] → WI false p l e 4 96 s m args below meth c D cy ad .int r μ1 ν1 H locs (F0 m 0 ls []) := by
  have hx := C.1.1
  have hb := C.1.2.1
  have hown := C.1.2.2.2.1
  have hts := C.1.2.2.2.2
  intro μ ν x1 x2 x3 hf H locs X ls hl
  unfold f6_length at hf
  refine lv_aload_n hx hb dX6_length_0 rfl (lv_at hl 0 rfl) ?_
  refine lv_iload_n hx hb dX6_length_1 rfl (lv_at hl 1 rfl) ?_
  refine qX6_96 rfl C X hl.1 ((Nat.le_of_ble_eq_true rfl)) ⟨(Nat.le_of_ble_eq_true rfl), (Nat.le_of_ble_eq_true rfl)⟩ ⟨Nat.zero_le _, Nat.zero_le _⟩ dX6_length_2 (fun H locs X b2 => ?_)
  refine lv_if_eq (tgt := 27) hx hb dX6_length_5 (by decide) (fun c5 => ?_) (fun c5 => ?_)
  · replace hf := ifp c5 hf
    refine lv_bipush (v := (-2)) hx hb dX6_length_27 (by decide) ?_
    exact retI C X hr rfl (so3 hf).1 (so3 hf).2.1 (so3 hf).2.2 dX6_length_29
  · replace hf := ifn c5 hf
    refine lv_iload_n hx hb dX6_length_8 rfl (lv_at hl 2 rfl) ?_
    refine qX6_110 rfl C X hl.1 ((Nat.le_of_ble_eq_true rfl)) ⟨(Nat.le_of_ble_eq_true rfl), (Nat.le_of_ble_eq_true rfl)⟩ ⟨Nat.zero_le _, Nat.zero_le _⟩ dX6_length_9 (fun H locs X b9 => ?_)
    refine lv_if_eq (tgt := 27) hx hb dX6_length_12 (by decide) (fun c12 => ?_) (fun c12 => ?_)
    · replace hf := ifp c12 hf
      refine lv_bipush (v := (-2)) hx hb dX6_length_27 (by decide) ?_
      exact retI C X hr rfl (so3 hf).1 (so3 hf).2.1 (so3 hf).2.2 dX6_length_29
    · replace hf := ifn c12 hf
      refine lv_iload_n hx hb dX6_length_15 rfl (lv_at hl 3 rfl) ?_
      refine qX6_110 rfl C X hl.1 ((Nat.le_of_ble_eq_true rfl)) ⟨(Nat.le_of_ble_eq_true rfl), (Nat.le_of_ble_eq_true rfl)⟩ ⟨Nat.zero_le _, Nat.zero_le _⟩ dX6_length_16 (fun H locs X b16 => ?_)
      refine lv_if_eq (tgt := 27) hx hb dX6_length_19 (by decide) (fun c19 => ?_) (fun c19 => ?_)
      · replace hf := ifp c19 hf
        refine lv_bipush (v := (-2)) hx hb dX6_length_27 (by decide) ?_
        exact retI C X hr rfl (so3 hf).1 (so3 hf).2.1 (so3 hf).2.2 dX6_length_29
      · replace hf := ifn c19 hf
        refine lv_iload_n hx hb dX6_length_22 rfl (lv_at hl 3 rfl) ?_
        refine lv_iload_n hx hb dX6_length_23 rfl (lv_at hl 2 rfl) ?_
        refine lv_icmp_ge (tgt := 30) hx hb dX6_length_24 (by decide) (fun c24 => ?_) (fun c24 => ?_)
        · replace hf := ifp c24 hf
          refine lv_aload_n hx hb dX6_length_30 rfl (lv_at hl 0 rfl) ?_
          refine lv_iload_n hx hb dX6_length_31 rfl (lv_at hl 1 rfl) ?_
          obtain ⟨μ32, ν32, g32, hf⟩ := bd2_e hf
          refine qX6_347 g32 C X hl.1 ((Nat.le_of_ble_eq_true rfl)) ⟨(Nat.le_of_ble_eq_true rfl), (Nat.le_of_ble_eq_true rfl)⟩ ⟨Nat.zero_le _, Nat.zero_le _⟩ dX6_length_32 (fun H locs X => ?_)
          refine lv_aload_n hx hb dX6_length_35 rfl (lv_at hl 0 rfl) ?_
          refine gfX6_41 C X dX6_length_36 ?_
          refine lv_iload_n hx hb dX6_length_39 rfl (lv_at hl 3 rfl) ?_
          obtain ⟨h40, hf⟩ := gd_e hf
          refine rLald C X rfl h40 dX6_length_40 ?_
          refine lv_aload_n hx hb dX6_length_41 rfl (lv_at hl 0 rfl) ?_
          refine gfX6_41 C X dX6_length_42 ?_
          refine lv_iload_n hx hb dX6_length_45 rfl (lv_at hl 2 rfl) ?_
          obtain ⟨h46, hf⟩ := gd_e hf
          refine rLald C X rfl h46 dX6_length_46 ?_
          refine lv_lsub hx hb dX6_length_47 ?_
          refine lv_l2i hx hb dX6_length_48 rfl ?_
          exact retI C X hr rfl (so3 hf).1 (so3 hf).2.1 (so3 hf).2.2 dX6_length_49
        · replace hf := ifn c24 hf
          refine lv_bipush (v := (-2)) hx hb dX6_length_27 (by decide) ?_
          exact retI C X hr rfl (so3 hf).1 (so3 hf).2.1 (so3 hf).2.2 dX6_length_29
theorem ct6_length {x1 : Int32} {x2 : Int32} {x3 : Int32} {μ : Mem} {ν : Lem} {r : Int32} {μ1 : Mem} {ν1 : Lem} (hg : f6_length μ ν x1 x2 x3 = some (r, μ1, ν1)) : CtI false yX6_length cX6_length 4 4 96 .int (fun ad => [.ref (ad 0), .int x1, .int x2, .int x3]) μ ν r μ1 ν1 :=
  mkI (by decide) rfl (fun ad => Nat.le_of_ble_eq_true rfl) (fun p l e s m args below meth c D cy ad C hr X ls hl => w6_length C hr μ ν x1 x2 x3 hg _ _ X _ hl)
theorem qL_60 {p : Program} {l : Launch} {e : Env} {R : Room} {s : State} {m : MethodId} {args : Array Value} {below : List Frame} {meth : Method} {c : Code} {H : Heap} {locs : List Loc} {cells slots : Nat} {Q : State → Prop} {A : Nat → Prop} {cc : ByteArray} {nL : Nat} {D : va_G} {cy : Nat → ClassId} {ad : Nat → Nat} {μ : Mem} {ν : Lem} {pc : Nat} {ls : Array Slot} {rest : List Value} {x1 : Int32} {x2 : Int32} {x3 : Int32} {r : Int32} {μ1 : Mem} {ν1 : Lem} (hg : f6_length μ ν x1 x2 x3 = some (r, μ1, ν1)) (C : CxA false A p s m args meth c cc nL RL D cy ad) (X : WdA false A D cy ad s.heap μ ν H locs) (hsz : ls.size = nL) (hrm : (rest.map fun v => v.category).sum ≤ 8) (hR : 4 + 1 ≤ R.frames ∧ 8 + (4 + 11) + 96 ≤ R.locals) (hcs : cells ≤ R.cells ∧ slots ≤ R.slots) (hd : decode cc pc = .ok (.invokevirtual 60, 3)) (kk : ∀ (H1 : Heap) (locs1 : List Loc), WdA false A D cy ad s.heap μ1 ν1 H1 locs1 → narrow .int (.int r) = .int r → W p l e R s m args below meth c H1 locs1 cells slots Q (F0 m (pc + 3) ls (.int r :: rest))) : W p l e R s m args below meth c H locs cells slots Q (F0 m pc ls (.int x3 :: .int x2 :: .int x1 :: .ref (ad 0) :: rest)) :=
  rCVI (As := [.int x1, .int x2, .int x3]) (k := 0) (ct6_length hg) ok6 lX6_length k_1190 rfl rfl rfl C X rfl hrm hsz hR hcs hd kk
