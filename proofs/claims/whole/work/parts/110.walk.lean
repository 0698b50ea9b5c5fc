set_option maxRecDepth 100000 in
set_option maxHeartbeats 4000000 in
theorem w6_bitsOf_1 {p : Program} {l : Launch} {e : Env} {s : State} {m : MethodId} {args : Array Value} {below : List Frame} {meth : Method} {c : Code} {D : va_G} {cy : Nat → ClassId} {ad : Nat → Nat} {r : Int32} {μ : Mem} {ν : Lem} (C : Cx false p s m args meth c cX6_bitsOf 3 RX6 D cy ad) (hr : meth.sig.returnType = some .int) : ∀ (n : Nat), ∀ (x1 : Int32) (x2 : Int32), f6_bitsOf_1 n x1 x2 = some r → ∀ (H : Heap) (locs : List Loc), Wd false D cy ad s.heap μ ν H locs → ∀ (ls : Array Slot), lv_has ls 3 [(1, .int x1), (2, .int x2)] → WI false p l e 0 0 s m args below meth c D cy ad .int r μ ν H locs (F0 m 4 ls []) := by
  have hx := C.1.1
  have hb := C.1.2.1
  have hown := C.1.2.2.2.1
  have hts := C.1.2.2.2.2
  intro n
  induction n with
  | zero =>
    intro x1 x2 hf H locs X ls hl
    rw [f6_bitsOf_1] at hf
    cases hf
  | succ n ih =>
    intro x1 x2 hf H locs X ls hl
    rw [f6_bitsOf_1] at hf
    refine lv_iload_n hx hb dX6_bitsOf_4 rfl (lv_at hl 1 rfl) ?_
    refine lv_if_eq (tgt := 20) hx hb dX6_bitsOf_5 (by decide) (fun c5 => ?_) (fun c5 => ?_)
    · replace hf := ifp c5 hf
      refine lv_iload_n hx hb dX6_bitsOf_20 rfl (lv_at hl 0 rfl) ?_
      exact retI C X hr rfl (Option.some.inj hf) rfl rfl dX6_bitsOf_21
    · replace hf := ifn c5 hf
      obtain ⟨v8, e8, hf⟩ := nm_e2 hf
      refine rIinc (lv' := [(1, .int v8), (2, .int x2)]) hx hb dX6_bitsOf_8 hl (k := 0) rfl e8 rfl (by decide) rfl (fun ls hl => ?_)
      refine lv_iload_n hx hb dX6_bitsOf_11 rfl (lv_at hl 1 rfl) ?_
      refine lv_iload_n hx hb dX6_bitsOf_12 rfl (lv_at hl 1 rfl) ?_
      refine lv_iconst (v := 1) hx hb dX6_bitsOf_13 (by decide) ?_
      refine lv_isub hx hb dX6_bitsOf_14 ?_
      refine lv_iand hx hb dX6_bitsOf_15 ?_
      obtain ⟨v16, e16, hf⟩ := nm_e2 hf
      refine st_i e16 ?_
      refine lv_istore_n (lv' := [(2, .int v16), (1, .int v8)]) hx hb dX6_bitsOf_16 rfl hl (by decide) rfl (fun ls hl => ?_)
      refine lv_goto (tgt := 4) hx hb dX6_bitsOf_17 (by decide) ?_
      exact ih v8 v16 hf _ _ X _ (lv_sub hl [1, 0] rfl)
set_option maxRecDepth 100000 in
set_option maxHeartbeats 4000000 in
theorem w6_bitsOf {p : Program} {l : Launch} {e : Env} {s : State} {m : MethodId} {args : Array Value} {below : List Frame} {meth : Method} {c : Code} {D : va_G} {cy : Nat → ClassId} {ad : Nat → Nat} {r : Int32} {μ : Mem} {ν : Lem} (C : Cx false p s m args meth c cX6_bitsOf 3 RX6 D cy ad) (hr : meth.sig.returnType = some .int) : ∀ (x0 : Int32), f6_bitsOf x0 = some r → ∀ (H : Heap) (locs : List Loc), Wd false D cy ad s.heap μ ν H locs → ∀ (ls : Array Slot), lv_has ls 3 [(0, .int x0)] → WI false p l e 0 0 s m args below meth c D cy ad .int r μ ν H locs (F0 m 0 ls []) := by
  have hx := C.1.1
  have hb := C.1.2.1
  have hown := C.1.2.2.2.1
  have hts := C.1.2.2.2.2
  intro x0 hf H locs X ls hl
  unfold f6_bitsOf at hf
  refine lv_iconst (v := 0) hx hb dX6_bitsOf_0 (by decide) ?_
  refine lv_istore_n (lv' := [(1, .int 0), (0, .int x0)]) hx hb dX6_bitsOf_1 rfl hl (by decide) rfl (fun ls hl => ?_)
  refine lv_iload_n hx hb dX6_bitsOf_2 rfl (lv_at hl 1 rfl) ?_
  refine lv_istore_n (lv' := [(2, .int x0), (1, .int 0), (0, .int x0)]) hx hb dX6_bitsOf_3 rfl hl (by decide) rfl (fun ls hl => ?_)
  exact w6_bitsOf_1 C hr  FUEL 0 x0 hf _ _ X _ (lv_sub hl [1, 0] rfl)
theorem ct6_bitsOf {x0 : Int32} {μ : Mem} {ν : Lem} {r : Int32} (hg : f6_bitsOf x0 = some r) : CtI false yX6_bitsOf cX6_bitsOf 3 0 0 .int (fun ad => [.int x0]) μ ν r μ ν :=
  mkI (by decide) rfl (fun ad => Nat.le_of_ble_eq_true rfl) (fun p l e s m args below meth c D cy ad C hr X ls hl => w6_bitsOf C hr x0 hg _ _ X _ hl)
theorem qX6_397 {p : Program} {l : Launch} {e : Env} {R : Room} {s : State} {m : MethodId} {args : Array Value} {below : List Frame} {meth : Method} {c : Code} {H : Heap} {locs : List Loc} {cells slots : Nat} {Q : State → Prop} {A : Nat → Prop} {cc : ByteArray} {nL : Nat} {D : va_G} {cy : Nat → ClassId} {ad : Nat → Nat} {μ : Mem} {ν : Lem} {pc : Nat} {ls : Array Slot} {rest : List Value} {x0 : Int32} {r : Int32} (hg : f6_bitsOf x0 = some r) (C : CxA false A p s m args meth c cc nL RX6 D cy ad) (X : WdA false A D cy ad s.heap μ ν H locs) (hsz : ls.size = nL) (hrm : (rest.map fun v => v.category).sum ≤ 8) (hR : 0 + 1 ≤ R.frames ∧ 8 + (3 + 11) + 0 ≤ R.locals) (hcs : cells ≤ R.cells ∧ slots ≤ R.slots) (hd : decode cc pc = .ok (.invokestatic 397, 3)) (kk : ∀ (H1 : Heap) (locs1 : List Loc), WdA false A D cy ad s.heap μ ν H1 locs1 → narrow .int (.int r) = .int r → W p l e R s m args below meth c H1 locs1 cells slots Q (F0 m (pc + 3) ls (.int r :: rest))) : W p l e R s m args below meth c H locs cells slots Q (F0 m pc ls (.int x0 :: rest)) :=
  rCSI (As := [.int x0]) (ct6_bitsOf hg) lX6_bitsOf k_1279 rfl rfl C X rfl hrm hsz hR hcs hd kk
set_option maxRecDepth 100000 in
set_option maxHeartbeats 4000000 in
theorem w6_partsAll_3 {p : Program} {l : Launch} {e : Env} {s : State} {m : MethodId} {args : Array Value} {below : List Frame} {meth : Method} {c : Code} {D : va_G} {cy : Nat → ClassId} {ad : Nat → Nat} {r : Int32} {μ : Mem} {ν : Lem} (C : Cx false p s m args meth c cX6_partsAll 6 RX6 D cy ad) (hr : meth.sig.returnType = some .boolean) (K2 : Int32 → Int32 → Option (Int32)) (hK2 : ∀ (x1 : Int32) (x2 : Int32), K2 x1 x2 = some r → ∀ (H : Heap) (locs : List Loc), Wd false D cy ad s.heap μ ν H locs → ∀ (ls : Array Slot), lv_has ls 6 [(0, .ref (ad 0)), (1, .int x1), (2, .int x2)] → WI false p l e 0 0 s m args below meth c D cy ad .boolean r μ ν H locs (F0 m 2 ls [])) (K14 : Int32 → Int32 → Int32 → Option (Int32)) (hK14 : ∀ (x1 : Int32) (x2 : Int32) (x3 : Int32), K14 x1 x2 x3 = some r → ∀ (H : Heap) (locs : List Loc), Wd false D cy ad s.heap μ ν H locs → ∀ (ls : Array Slot), lv_has ls 6 [(0, .ref (ad 0)), (1, .int x1), (2, .int x2), (3, .int x3)] → WI false p l e 0 0 s m args below meth c D cy ad .boolean r μ ν H locs (F0 m 14 ls [])) : ∀ (n : Nat), ∀ (x1 : Int32) (x2 : Int32) (x3 : Int32) (x4 : Int32) (x5 : Int32), f6_partsAll_3 μ ν K2 K14 n x1 x2 x3 x4 x5 = some r → ∀ (H : Heap) (locs : List Loc), Wd false D cy ad s.heap μ ν H locs → ∀ (ls : Array Slot), lv_has ls 6 [(0, .ref (ad 0)), (1, .int x1), (2, .int x2), (3, .int x3), (4, .int x4), (5, .int x5)] → WI false p l e 0 0 s m args below meth c D cy ad .boolean r μ ν H locs (F0 m 28 ls []) := by
  have hx := C.1.1
  have hb := C.1.2.1
  have hown := C.1.2.2.2.1
  have hts := C.1.2.2.2.2
  intro n
  induction n with
  | zero =>
    intro x1 x2 x3 x4 x5 hf H locs X ls hl
    rw [f6_partsAll_3] at hf
    cases hf
  | succ n ih =>
    intro x1 x2 x3 x4 x5 hf H locs X ls hl
    rw [f6_partsAll_3] at hf
    refine lv_iload hx hb dX6_partsAll_28 (lv_at hl 5 rfl) ?_
    refine lv_bipush (v := 11) hx hb dX6_partsAll_30 (by decide) ?_
    refine lv_icmp_ge (tgt := 90) hx hb dX6_partsAll_32 (by decide) (fun c32 => ?_) (fun c32 => ?_)
    · replace hf := ifp c32 hf
      refine lv_iload hx hb dX6_partsAll_90 (lv_at hl 4 rfl) ?_
      refine lv_if_ne (tgt := 97) hx hb dX6_partsAll_92 (by decide) (fun c92 => ?_) (fun c92 => ?_)
      · replace hf := ifn c92 hf
        obtain ⟨v97, e97, hf⟩ := nm_e2 hf
        refine rIinc (lv' := [(3, .int v97), (0, .ref (ad 0)), (1, .int x1), (2, .int x2), (4, .int x4), (5, .int x5)]) hx hb dX6_partsAll_97 hl (k := 3) rfl e97 rfl (by decide) rfl (fun ls hl => ?_)
        refine lv_goto (tgt := 14) hx hb dX6_partsAll_100 (by decide) ?_
        exact hK14 x1 x2 v97 hf _ _ X _ (lv_sub hl [1, 2, 3, 0] rfl)
      · replace hf := ifp c92 hf
        refine lv_iconst (v := 0) hx hb dX6_partsAll_95 (by decide) ?_
        exact retI C X hr rfl (Option.some.inj hf) rfl rfl dX6_partsAll_96
    · replace hf := ifn c32 hf
      refine lv_iload hx hb dX6_partsAll_35 (lv_at hl 4 rfl) ?_
      refine lv_if_ne (tgt := 77) hx hb dX6_partsAll_37 (by decide) (fun c37 => ?_) (fun c37 => ?_)
      · replace hf := ifn c37 hf
        refine lv_iconst (v := 1) hx hb dX6_partsAll_77 (by decide) ?_
        refine lv_goto (tgt := 82) hx hb dX6_partsAll_78 (by decide) ?_
        refine lv_istore (lv' := [(4, .int 1), (0, .ref (ad 0)), (1, .int x1), (2, .int x2), (3, .int x3), (5, .int x5)]) hx hb dX6_partsAll_82 hl (by decide) rfl (fun ls hl => ?_)
        obtain ⟨v84, e84, hf⟩ := nm_e2 hf
        refine rIinc (lv' := [(5, .int v84), (4, .int 1), (0, .ref (ad 0)), (1, .int x1), (2, .int x2), (3, .int x3)]) hx hb dX6_partsAll_84 hl (k := 5) rfl e84 rfl (by decide) rfl (fun ls hl => ?_)
        refine lv_goto (tgt := 28) hx hb dX6_partsAll_87 (by decide) ?_
        exact ih x1 x2 x3 1 v84 hf _ _ X _ (lv_sub hl [2, 3, 4, 5, 1, 0] rfl)
      · replace hf := ifp c37 hf
        refine lv_iload_n hx hb dX6_partsAll_40 rfl (lv_at hl 1 rfl) ?_
        refine lv_iload hx hb dX6_partsAll_41 (lv_at hl 5 rfl) ?_
        refine lv_ishr hx hb dX6_partsAll_43 ?_
        refine lv_iconst (v := 1) hx hb dX6_partsAll_44 (by decide) ?_
        refine lv_iand hx hb dX6_partsAll_45 ?_
        refine lv_iconst (v := 1) hx hb dX6_partsAll_46 (by decide) ?_
        refine lv_icmp_ne (tgt := 81) hx hb dX6_partsAll_47 (by decide) (fun c47 => ?_) (fun c47 => ?_)
        · replace hf := ifn c47 hf
          refine lv_iconst (v := 0) hx hb dX6_partsAll_81 (by decide) ?_
          refine lv_istore (lv' := [(4, .int 0), (0, .ref (ad 0)), (1, .int x1), (2, .int x2), (3, .int x3), (5, .int x5)]) hx hb dX6_partsAll_82 hl (by decide) rfl (fun ls hl => ?_)
          obtain ⟨v84, e84, hf⟩ := nm_e2 hf
          refine rIinc (lv' := [(5, .int v84), (4, .int 0), (0, .ref (ad 0)), (1, .int x1), (2, .int x2), (3, .int x3)]) hx hb dX6_partsAll_84 hl (k := 5) rfl e84 rfl (by decide) rfl (fun ls hl => ?_)
          refine lv_goto (tgt := 28) hx hb dX6_partsAll_87 (by decide) ?_
          exact ih x1 x2 x3 0 v84 hf _ _ X _ (lv_sub hl [2, 3, 4, 5, 1, 0] rfl)
        · replace hf := ifp c47 hf
          refine lv_aload_n hx hb dX6_partsAll_50 rfl (lv_at hl 0 rfl) ?_
          refine gfX6_51 C X dX6_partsAll_51 ?_
          refine lv_bipush (v := 6) hx hb dX6_partsAll_54 (by decide) ?_
          refine lv_iload hx hb dX6_partsAll_56 (lv_at hl 5 rfl) ?_
          refine lv_imul hx hb dX6_partsAll_58 ?_
          refine lv_iload_n hx hb dX6_partsAll_59 rfl (lv_at hl 2 rfl) ?_
          refine lv_iadd hx hb dX6_partsAll_60 ?_
          obtain ⟨h61, hf⟩ := gd_e hf
          refine rIald C X rfl h61 dX6_partsAll_61 ?_
          refine lv_aload_n hx hb dX6_partsAll_62 rfl (lv_at hl 0 rfl) ?_
          refine gfX6_51 C X dX6_partsAll_63 ?_
          refine lv_bipush (v := 6) hx hb dX6_partsAll_66 (by decide) ?_
          refine lv_iload hx hb dX6_partsAll_68 (lv_at hl 5 rfl) ?_
          refine lv_imul hx hb dX6_partsAll_70 ?_
          refine lv_iload_n hx hb dX6_partsAll_71 rfl (lv_at hl 3 rfl) ?_
          refine lv_iadd hx hb dX6_partsAll_72 ?_
          obtain ⟨h73, hf⟩ := gd_e hf
          refine rIald C X rfl h73 dX6_partsAll_73 ?_
          refine lv_icmp_eq (tgt := 81) hx hb dX6_partsAll_74 (by decide) (fun c74 => ?_) (fun c74 => ?_)
          · replace hf := ifp c74 hf
            refine lv_iconst (v := 0) hx hb dX6_partsAll_81 (by decide) ?_
            refine lv_istore (lv' := [(4, .int 0), (0, .ref (ad 0)), (1, .int x1), (2, .int x2), (3, .int x3), (5, .int x5)]) hx hb dX6_partsAll_82 hl (by decide) rfl (fun ls hl => ?_)
            obtain ⟨v84, e84, hf⟩ := nm_e2 hf
            refine rIinc (lv' := [(5, .int v84), (4, .int 0), (0, .ref (ad 0)), (1, .int x1), (2, .int x2), (3, .int x3)]) hx hb dX6_partsAll_84 hl (k := 5) rfl e84 rfl (by decide) rfl (fun ls hl => ?_)
            refine lv_goto (tgt := 28) hx hb dX6_partsAll_87 (by decide) ?_
            exact ih x1 x2 x3 0 v84 hf _ _ X _ (lv_sub hl [2, 3, 4, 5, 1, 0] rfl)
          · replace hf := ifn c74 hf
            refine lv_iconst (v := 1) hx hb dX6_partsAll_77 (by decide) ?_
            refine lv_goto (tgt := 82) hx hb dX6_partsAll_78 (by decide) ?_
            refine lv_istore (lv' := [(4, .int 1), (0, .ref (ad 0)), (1, .int x1), (2, .int x2), (3, .int x3), (5, .int x5)]) hx hb dX6_partsAll_82 hl (by decide) rfl (fun ls hl => ?_)
            obtain ⟨v84, e84, hf⟩ := nm_e2 hf
            refine rIinc (lv' := [(5, .int v84), (4, .int 1), (0, .ref (ad 0)), (1, .int x1), (2, .int x2), (3, .int x3)]) hx hb dX6_partsAll_84 hl (k := 5) rfl e84 rfl (by decide) rfl (fun ls hl => ?_)
            refine lv_goto (tgt := 28) hx hb dX6_partsAll_87 (by decide) ?_
            exact ih x1 x2 x3 1 v84 hf _ _ X _ (lv_sub hl [2, 3, 4, 5, 1, 0] rfl)
set_option maxRecDepth 100000 in
set_option maxHeartbeats 4000000 in
theorem w6_partsAll_2 {p : Program} {l : Launch} {e : Env} {s : State} {m : MethodId} {args : Array Value} {below : List Frame} {meth : Method} {c : Code} {D : va_G} {cy : Nat → ClassId} {ad : Nat → Nat} {r : Int32} {μ : Mem} {ν : Lem} (C : Cx false p s m args meth c cX6_partsAll 6 RX6 D cy ad) (hr : meth.sig.returnType = some .boolean) (K2 : Int32 → Int32 → Option (Int32)) (hK2 : ∀ (x1 : Int32) (x2 : Int32), K2 x1 x2 = some r → ∀ (H : Heap) (locs : List Loc), Wd false D cy ad s.heap μ ν H locs → ∀ (ls : Array Slot), lv_has ls 6 [(0, .ref (ad 0)), (1, .int x1), (2, .int x2)] → WI false p l e 0 0 s m args below meth c D cy ad .boolean r μ ν H locs (F0 m 2 ls [])) : ∀ (n : Nat), ∀ (x1 : Int32) (x2 : Int32) (x3 : Int32), f6_partsAll_2 μ ν K2 n x1 x2 x3 = some r → ∀ (H : Heap) (locs : List Loc), Wd false D cy ad s.heap μ ν H locs → ∀ (ls : Array Slot), lv_has ls 6 [(0, .ref (ad 0)), (1, .int x1), (2, .int x2), (3, .int x3)] → WI false p l e 0 0 s m args below meth c D cy ad .boolean r μ ν H locs (F0 m 14 ls []) := by
  have hx := C.1.1
  have hb := C.1.2.1
  have hown := C.1.2.2.2.1
  have hts := C.1.2.2.2.2
  intro n
  induction n with
  | zero =>
    intro x1 x2 x3 hf H locs X ls hl
    rw [f6_partsAll_2] at hf
    cases hf
  | succ n ih =>
    intro x1 x2 x3 hf H locs X ls hl
    rw [f6_partsAll_2] at hf
    refine lv_iload_n hx hb dX6_partsAll_14 rfl (lv_at hl 3 rfl) ?_
    refine lv_aload_n hx hb dX6_partsAll_15 rfl (lv_at hl 0 rfl) ?_
    refine gfX6_89 C X dX6_partsAll_16 ?_
    refine lv_icmp_ge (tgt := 103) hx hb dX6_partsAll_19 (by decide) (fun c19 => ?_) (fun c19 => ?_)
    · replace hf := ifp c19 hf
      obtain ⟨v103, e103, hf⟩ := nm_e2 hf
      refine rIinc (lv' := [(2, .int v103), (0, .ref (ad 0)), (1, .int x1), (3, .int x3)]) hx hb dX6_partsAll_103 hl (k := 2) rfl e103 rfl (by decide) rfl (fun ls hl => ?_)
      refine lv_goto (tgt := 2) hx hb dX6_partsAll_106 (by decide) ?_
      exact hK2 x1 v103 hf _ _ X _ (lv_sub hl [1, 2, 0] rfl)
    · replace hf := ifn c19 hf
      refine lv_iconst (v := 0) hx hb dX6_partsAll_22 (by decide) ?_
      refine lv_istore (lv' := [(4, .int 0), (0, .ref (ad 0)), (1, .int x1), (2, .int x2), (3, .int x3)]) hx hb dX6_partsAll_23 hl (by decide) rfl (fun ls hl => ?_)
      refine lv_iconst (v := 0) hx hb dX6_partsAll_25 (by decide) ?_
      refine lv_istore (lv' := [(5, .int 0), (4, .int 0), (0, .ref (ad 0)), (1, .int x1), (2, .int x2), (3, .int x3)]) hx hb dX6_partsAll_26 hl (by decide) rfl (fun ls hl => ?_)
      exact w6_partsAll_3 C hr K2 hK2 (f6_partsAll_2 μ ν K2 n) ih FUEL x1 x2 x3 0 0 hf _ _ X _ (lv_sub hl [2, 3, 4, 5, 1, 0] rfl)
set_option maxRecDepth 100000 in
set_option maxHeartbeats 4000000 in
theorem w6_partsAll_1 {p : Program} {l : Launch} {e : Env} {s : State} {m : MethodId} {args : Array Value} {below : List Frame} {meth : Method} {c : Code} {D : va_G} {cy : Nat → ClassId} {ad : Nat → Nat} {r : Int32} {μ : Mem} {ν : Lem} (C : Cx false p s m args meth c cX6_partsAll 6 RX6 D cy ad) (hr : meth.sig.returnType = some .boolean) : ∀ (n : Nat), ∀ (x1 : Int32) (x2 : Int32), f6_partsAll_1 μ ν n x1 x2 = some r → ∀ (H : Heap) (locs : List Loc), Wd false D cy ad s.heap μ ν H locs → ∀ (ls : Array Slot), lv_has ls 6 [(0, .ref (ad 0)), (1, .int x1), (2, .int x2)] → WI false p l e 0 0 s m args below meth c D cy ad .boolean r μ ν H locs (F0 m 2 ls []) := by
  have hx := C.1.1
  have hb := C.1.2.1
  have hown := C.1.2.2.2.1
  have hts := C.1.2.2.2.2
  intro n
  induction n with
  | zero =>
    intro x1 x2 hf H locs X ls hl
    rw [f6_partsAll_1] at hf
    cases hf
  | succ n ih =>
    intro x1 x2 hf H locs X ls hl
    rw [f6_partsAll_1] at hf
    refine lv_iload_n hx hb dX6_partsAll_2 rfl (lv_at hl 2 rfl) ?_
    refine lv_aload_n hx hb dX6_partsAll_3 rfl (lv_at hl 0 rfl) ?_
    refine gfX6_89 C X dX6_partsAll_4 ?_
    refine lv_icmp_ge (tgt := 109) hx hb dX6_partsAll_7 (by decide) (fun c7 => ?_) (fun c7 => ?_)
    · replace hf := ifp c7 hf
      refine lv_iconst (v := 1) hx hb dX6_partsAll_109 (by decide) ?_
      exact retI C X hr rfl (Option.some.inj hf) rfl rfl dX6_partsAll_110
    · replace hf := ifn c7 hf
      refine lv_iload_n hx hb dX6_partsAll_10 rfl (lv_at hl 2 rfl) ?_
      refine lv_iconst (v := 1) hx hb dX6_partsAll_11 (by decide) ?_
      refine lv_iadd hx hb dX6_partsAll_12 ?_
      obtain ⟨v13, e13, hf⟩ := nm_e2 hf
      refine st_i e13 ?_
      refine lv_istore_n (lv' := [(3, .int v13), (0, .ref (ad 0)), (1, .int x1), (2, .int x2)]) hx hb dX6_partsAll_13 rfl hl (by decide) rfl (fun ls hl => ?_)
      exact w6_partsAll_2 C hr (f6_partsAll_1 μ ν n) ih FUEL x1 x2 v13 hf _ _ X _ (lv_sub hl [1, 2, 3, 0] rfl)
set_option maxRecDepth 100000 in
set_option maxHeartbeats 4000000 in
theorem w6_partsAll {p : Program} {l : Launch} {e : Env} {s : State} {m : MethodId} {args : Array Value} {below : List Frame} {meth : Method} {c : Code} {D : va_G} {cy : Nat → ClassId} {ad : Nat → Nat} {r : Int32} {μ : Mem} {ν : Lem} (C : Cx false p s m args meth c cX6_partsAll 6 RX6 D cy ad) (hr : meth.sig.returnType = some .boolean) : ∀ (x1 : Int32), f6_partsAll μ ν x1 = some r → ∀ (H : Heap) (locs : List Loc), Wd false D cy ad s.heap μ ν H locs → ∀ (ls : Array Slot), lv_has ls 6 [(0, .ref (ad 0)), (1, .int x1)] → WI false p l e 0 0 s m args below meth c D cy ad .boolean r μ ν H locs (F0 m 0 ls []) := by
  have hx := C.1.1
  have hb := C.1.2.1
  have hown := C.1.2.2.2.1
  have hts := C.1.2.2.2.2
  intro x1 hf H locs X ls hl
  unfold f6_partsAll at hf
  refine lv_iconst (v := 0) hx hb dX6_partsAll_0 (by decide) ?_
  refine lv_istore_n (lv' := [(2, .int 0), (0, .ref (ad 0)), (1, .int x1)]) hx hb dX6_partsAll_1 rfl hl (by decide) rfl (fun ls hl => ?_)
  exact w6_partsAll_1 C hr  FUEL x1 0 hf _ _ X _ (lv_sub hl [1, 2, 0] rfl)
theorem ct6_partsAll {x1 : Int32} {μ : Mem} {ν : Lem} {r : Int32} (hg : f6_partsAll μ ν x1 = some r) : CtI false yX6_partsAll cX6_partsAll 6 0 0 .boolean (fun ad => [.ref (ad 0), .int x1]) μ ν r μ ν :=
  mkI (by decide) rfl (fun ad => Nat.le_of_ble_eq_true rfl) (fun p l e s m args below meth c D cy ad C hr X ls hl => w6_partsAll C hr x1 hg _ _ X _ hl)
theorem qX6_400 {p : Program} {l : Launch} {e : Env} {R : Room} {s : State} {m : MethodId} {args : Array Value} {below : List Frame} {meth : Method} {c : Code} {H : Heap} {locs : List Loc} {cells slots : Nat} {Q : State → Prop} {A : Nat → Prop} {cc : ByteArray} {nL : Nat} {D : va_G} {cy : Nat → ClassId} {ad : Nat → Nat} {μ : Mem} {ν : Lem} {pc : Nat} {ls : Array Slot} {rest : List Value} {x1 : Int32} {r : Int32} (hg : f6_partsAll μ ν x1 = some r) (C : CxA false A p s m args meth c cc nL RX6 D cy ad) (X : WdA false A D cy ad s.heap μ ν H locs) (hsz : ls.size = nL) (hrm : (rest.map fun v => v.category).sum ≤ 8) (hR : 0 + 1 ≤ R.frames ∧ 8 + (6 + 11) + 0 ≤ R.locals) (hcs : cells ≤ R.cells ∧ slots ≤ R.slots) (hd : decode cc pc = .ok (.invokevirtual 400, 3)) (kk : ∀ (H1 : Heap) (locs1 : List Loc), WdA false A D cy ad s.heap μ ν H1 locs1 → narrow .boolean (.int r) = .int r → W p l e R s m args below meth c H1 locs1 cells slots Q (F0 m (pc + 3) ls (.int r :: rest))) : W p l e R s m args below meth c H locs cells slots Q (F0 m pc ls (.int x1 :: .ref (ad 0) :: rest)) :=
  rCVI (As := [.int x1]) (k := 0) (ct6_partsAll hg) ok6 lX6_partsAll k_1282 rfl rfl rfl C X rfl hrm hsz hR hcs hd kk
set_option maxRecDepth 100000 in
set_option maxHeartbeats 4000000 in
theorem w6_posts_4 {p : Program} {l : Launch} {e : Env} {s : State} {m : MethodId} {args : Array Value} {below : List Frame} {meth : Method} {c : Code} {D : va_G} {cy : Nat → ClassId} {ad : Nat → Nat} {r : Int32} {μ1 : Mem} {ν1 : Lem} (C : Cx false p s m args meth c cX6_posts 4 RX6 D cy ad) (hr : meth.sig.returnType = some .int) (K67 : Mem → Lem → Int32 → Int32 → Int32 → Option (Int32 × Mem × Lem)) (hK67 : ∀ (μ : Mem) (ν : Lem) (x1 : Int32) (x2 : Int32) (x3 : Int32), K67 μ ν x1 x2 x3 = some (r, μ1, ν1) → ∀ (H : Heap) (locs : List Loc), Wd false D cy ad s.heap μ ν H locs → ∀ (ls : Array Slot), lv_has ls 4 [(0, .ref (ad 0)), (1, .int x1), (2, .int x2), (3, .int x3)] → WI false p l e 3 72 s m args below meth c D cy ad .int r μ1 ν1 H locs (F0 m 67 ls [])) : ∀ (μ : Mem) (ν : Lem) (x1 : Int32) (x2 : Int32) (x3 : Int32), f6_posts_4 K67 μ ν x1 x2 x3 = some (r, μ1, ν1) → ∀ (H : Heap) (locs : List Loc), Wd false D cy ad s.heap μ ν H locs → ∀ (ls : Array Slot), lv_has ls 4 [(0, .ref (ad 0)), (1, .int x1), (2, .int x2), (3, .int x3)] → WI false p l e 3 72 s m args below meth c D cy ad .int r μ1 ν1 H locs (F0 m 90 ls []) := by
  have hx := C.1.1
  have hb := C.1.2.1
  have hown := C.1.2.2.2.1
  have hts := C.1.2.2.2.2
  intro μ ν x1 x2 x3 hf H locs X ls hl
  unfold f6_posts_4 at hf
  refine lv_aload_n hx hb dX6_posts_90 rfl (lv_at hl 0 rfl) ?_
  refine lv_iload_n hx hb dX6_posts_91 rfl (lv_at hl 3 rfl) ?_
  obtain ⟨r92, g92, hf⟩ := bd1_e hf
  refine qX6_400 g92 C X hl.1 ((Nat.le_of_ble_eq_true rfl)) ⟨(Nat.le_of_ble_eq_true rfl), (Nat.le_of_ble_eq_true rfl)⟩ ⟨Nat.zero_le _, Nat.zero_le _⟩ dX6_posts_92 (fun H locs X b92 => ?_)
  refine lv_if_eq (tgt := 100) hx hb dX6_posts_95 (by decide) (fun c95 => ?_) (fun c95 => ?_)
  · replace hf := ifp c95 hf
    obtain ⟨v100, e100, hf⟩ := nm_e2 hf
    refine rIinc (lv' := [(3, .int v100), (0, .ref (ad 0)), (1, .int x1), (2, .int x2)]) hx hb dX6_posts_100 hl (k := 3) rfl e100 rfl (by decide) rfl (fun ls hl => ?_)
    refine lv_goto (tgt := 67) hx hb dX6_posts_103 (by decide) ?_
    exact hK67 μ ν x1 x2 v100 hf _ _ X _ (lv_sub hl [1, 2, 3, 0] rfl)
  · replace hf := ifn c95 hf
    refine lv_iload_n hx hb dX6_posts_98 rfl (lv_at hl 3 rfl) ?_
    refine lv_istore_n (lv' := [(2, .int x3), (0, .ref (ad 0)), (1, .int x1), (3, .int x3)]) hx hb dX6_posts_99 rfl hl (by decide) rfl (fun ls hl => ?_)
    obtain ⟨v100, e100, hf⟩ := nm_e2 hf
    refine rIinc (lv' := [(3, .int v100), (2, .int x3), (0, .ref (ad 0)), (1, .int x1)]) hx hb dX6_posts_100 hl (k := 3) rfl e100 rfl (by decide) rfl (fun ls hl => ?_)
    refine lv_goto (tgt := 67) hx hb dX6_posts_103 (by decide) ?_
    exact hK67 μ ν x1 x3 v100 hf _ _ X _ (lv_sub hl [2, 3, 1, 0] rfl)
set_option maxRecDepth 100000 in
set_option maxHeartbeats 4000000 in
theorem w6_posts_3 {p : Program} {l : Launch} {e : Env} {s : State} {m : MethodId} {args : Array Value} {below : List Frame} {meth : Method} {c : Code} {D : va_G} {cy : Nat → ClassId} {ad : Nat → Nat} {r : Int32} {μ1 : Mem} {ν1 : Lem} (C : Cx false p s m args meth c cX6_posts 4 RX6 D cy ad) (hr : meth.sig.returnType = some .int) : ∀ (n : Nat), ∀ (μ : Mem) (ν : Lem) (x1 : Int32) (x2 : Int32) (x3 : Int32), f6_posts_3 n μ ν x1 x2 x3 = some (r, μ1, ν1) → ∀ (H : Heap) (locs : List Loc), Wd false D cy ad s.heap μ ν H locs → ∀ (ls : Array Slot), lv_has ls 4 [(0, .ref (ad 0)), (1, .int x1), (2, .int x2), (3, .int x3)] → WI false p l e 3 72 s m args below meth c D cy ad .int r μ1 ν1 H locs (F0 m 67 ls []) := by
  have hx := C.1.1
  have hb := C.1.2.1
  have hown := C.1.2.2.2.1
  have hts := C.1.2.2.2.2
  intro n
  induction n with
  | zero =>
    intro μ ν x1 x2 x3 hf H locs X ls hl
    rw [f6_posts_3] at hf
    cases hf
  | succ n ih =>
    intro μ ν x1 x2 x3 hf H locs X ls hl
    rw [f6_posts_3] at hf
    refine lv_iload_n hx hb dX6_posts_67 rfl (lv_at hl 3 rfl) ?_
    refine lv_sipush (v := 2048) hx hb dX6_posts_68 (by decide) ?_
    refine lv_icmp_ge (tgt := 106) hx hb dX6_posts_71 (by decide) (fun c71 => ?_) (fun c71 => ?_)
    · replace hf := ifp c71 hf
      refine lv_iload_n hx hb dX6_posts_106 rfl (lv_at hl 1 rfl) ?_
      refine lv_if_eq (tgt := 115) hx hb dX6_posts_107 (by decide) (fun c107 => ?_) (fun c107 => ?_)
      · replace hf := ifp c107 hf
        refine lv_iload_n hx hb dX6_posts_115 rfl (lv_at hl 2 rfl) ?_
        refine lv_goto (tgt := 123) hx hb dX6_posts_116 (by decide) ?_
        exact retI C X hr rfl (so3 hf).1 (so3 hf).2.1 (so3 hf).2.2 dX6_posts_123
      · replace hf := ifn c107 hf
        refine lv_iload_n hx hb dX6_posts_110 rfl (lv_at hl 2 rfl) ?_
        refine lv_iconst (v := (-1)) hx hb dX6_posts_111 (by decide) ?_
        refine lv_icmp_ne (tgt := 119) hx hb dX6_posts_112 (by decide) (fun c112 => ?_) (fun c112 => ?_)
        · replace hf := ifn c112 hf
          refine lv_iload_n hx hb dX6_posts_119 rfl (lv_at hl 2 rfl) ?_
          obtain ⟨r120, g120, hf⟩ := bd1_e hf
          refine qX6_397 g120 C X hl.1 ((Nat.le_of_ble_eq_true rfl)) ⟨(Nat.le_of_ble_eq_true rfl), (Nat.le_of_ble_eq_true rfl)⟩ ⟨Nat.zero_le _, Nat.zero_le _⟩ dX6_posts_120 (fun H locs X b120 => ?_)
          exact retI C X hr rfl (so3 hf).1 (so3 hf).2.1 (so3 hf).2.2 dX6_posts_123
        · replace hf := ifp c112 hf
          refine lv_iload_n hx hb dX6_posts_115 rfl (lv_at hl 2 rfl) ?_
          refine lv_goto (tgt := 123) hx hb dX6_posts_116 (by decide) ?_
          exact retI C X hr rfl (so3 hf).1 (so3 hf).2.1 (so3 hf).2.2 dX6_posts_123
    · replace hf := ifn c71 hf
      refine lv_iload_n hx hb dX6_posts_74 rfl (lv_at hl 2 rfl) ?_
      refine lv_iconst (v := (-1)) hx hb dX6_posts_75 (by decide) ?_
      refine lv_icmp_eq (tgt := 90) hx hb dX6_posts_76 (by decide) (fun c76 => ?_) (fun c76 => ?_)
      · replace hf := ifp c76 hf
        exact w6_posts_4 C hr (f6_posts_3 n) ih μ ν x1 x2 x3 hf _ _ X _ (lv_sub hl [0, 1, 2, 3] rfl)
      · replace hf := ifn c76 hf
        refine lv_iload_n hx hb dX6_posts_79 rfl (lv_at hl 3 rfl) ?_
        obtain ⟨r80, g80, hf⟩ := bd1_e hf
        refine qX6_397 g80 C X hl.1 ((Nat.le_of_ble_eq_true rfl)) ⟨(Nat.le_of_ble_eq_true rfl), (Nat.le_of_ble_eq_true rfl)⟩ ⟨Nat.zero_le _, Nat.zero_le _⟩ dX6_posts_80 (fun H locs X b80 => ?_)
        refine lv_iload_n hx hb dX6_posts_83 rfl (lv_at hl 2 rfl) ?_
        obtain ⟨r84, g84, hf⟩ := bd1_e hf
        refine qX6_397 g84 C X hl.1 ((Nat.le_of_ble_eq_true rfl)) ⟨(Nat.le_of_ble_eq_true rfl), (Nat.le_of_ble_eq_true rfl)⟩ ⟨Nat.zero_le _, Nat.zero_le _⟩ dX6_posts_84 (fun H locs X b84 => ?_)
        refine lv_icmp_ge (tgt := 100) hx hb dX6_posts_87 (by decide) (fun c87 => ?_) (fun c87 => ?_)
        · replace hf := ifp c87 hf
          obtain ⟨v100, e100, hf⟩ := nm_e2 hf
          refine rIinc (lv' := [(3, .int v100), (0, .ref (ad 0)), (1, .int x1), (2, .int x2)]) hx hb dX6_posts_100 hl (k := 3) rfl e100 rfl (by decide) rfl (fun ls hl => ?_)
          refine lv_goto (tgt := 67) hx hb dX6_posts_103 (by decide) ?_
          exact ih μ ν x1 x2 v100 hf _ _ X _ (lv_sub hl [1, 2, 3, 0] rfl)
        · replace hf := ifn c87 hf
          exact w6_posts_4 C hr (f6_posts_3 n) ih μ ν x1 x2 x3 hf _ _ X _ (lv_sub hl [0, 1, 2, 3] rfl)
set_option maxRecDepth 100000 in
set_option maxHeartbeats 4000000 in
theorem w6_posts_2 {p : Program} {l : Launch} {e : Env} {s : State} {m : MethodId} {args : Array Value} {below : List Frame} {meth : Method} {c : Code} {D : va_G} {cy : Nat → ClassId} {ad : Nat → Nat} {r : Int32} {μ1 : Mem} {ν1 : Lem} (C : Cx false p s m args meth c cX6_posts 4 RX6 D cy ad) (hr : meth.sig.returnType = some .int) (K15 : Mem → Lem → Int32 → Int32 → Option (Int32 × Mem × Lem)) (hK15 : ∀ (μ : Mem) (ν : Lem) (x1 : Int32) (x2 : Int32), K15 μ ν x1 x2 = some (r, μ1, ν1) → ∀ (H : Heap) (locs : List Loc), Wd false D cy ad s.heap μ ν H locs → ∀ (ls : Array Slot), lv_has ls 4 [(0, .ref (ad 0)), (1, .int x1), (2, .int x2)] → WI false p l e 3 72 s m args below meth c D cy ad .int r μ1 ν1 H locs (F0 m 15 ls [])) : ∀ (n : Nat), ∀ (μ : Mem) (ν : Lem) (x1 : Int32) (x2 : Int32) (x3 : Int32), f6_posts_2 K15 n μ ν x1 x2 x3 = some (r, μ1, ν1) → ∀ (H : Heap) (locs : List Loc), Wd false D cy ad s.heap μ ν H locs → ∀ (ls : Array Slot), lv_has ls 4 [(0, .ref (ad 0)), (1, .int x1), (2, .int x2), (3, .int x3)] → WI false p l e 3 72 s m args below meth c D cy ad .int r μ1 ν1 H locs (F0 m 23 ls []) := by
  have hx := C.1.1
  have hb := C.1.2.1
  have hown := C.1.2.2.2.1
  have hts := C.1.2.2.2.2
  intro n
  induction n with
  | zero =>
    intro μ ν x1 x2 x3 hf H locs X ls hl
    rw [f6_posts_2] at hf
    cases hf
  | succ n ih =>
    intro μ ν x1 x2 x3 hf H locs X ls hl
    rw [f6_posts_2] at hf
    refine lv_iload_n hx hb dX6_posts_23 rfl (lv_at hl 3 rfl) ?_
    refine lv_aload_n hx hb dX6_posts_24 rfl (lv_at hl 0 rfl) ?_
    refine gfX6_89 C X dX6_posts_25 ?_
    refine lv_icmp_ge (tgt := 57) hx hb dX6_posts_28 (by decide) (fun c28 => ?_) (fun c28 => ?_)
    · replace hf := ifp c28 hf
      obtain ⟨v57, e57, hf⟩ := nm_e2 hf
      refine rIinc (lv' := [(2, .int v57), (0, .ref (ad 0)), (1, .int x1), (3, .int x3)]) hx hb dX6_posts_57 hl (k := 2) rfl e57 rfl (by decide) rfl (fun ls hl => ?_)
      refine lv_goto (tgt := 15) hx hb dX6_posts_60 (by decide) ?_
      exact hK15 μ ν x1 v57 hf _ _ X _ (lv_sub hl [1, 2, 0] rfl)
    · replace hf := ifn c28 hf
      refine lv_aload_n hx hb dX6_posts_31 rfl (lv_at hl 0 rfl) ?_
      refine gfX6_51 C X dX6_posts_32 ?_
      refine lv_bipush (v := 6) hx hb dX6_posts_35 (by decide) ?_
      refine lv_iload_n hx hb dX6_posts_37 rfl (lv_at hl 2 rfl) ?_
      refine lv_imul hx hb dX6_posts_38 ?_
      refine lv_iload_n hx hb dX6_posts_39 rfl (lv_at hl 3 rfl) ?_
      refine lv_iadd hx hb dX6_posts_40 ?_
      refine lv_aload_n hx hb dX6_posts_41 rfl (lv_at hl 0 rfl) ?_
      refine lv_iload_n hx hb dX6_posts_42 rfl (lv_at hl 3 rfl) ?_
      refine lv_bipush (v := 60) hx hb dX6_posts_43 (by decide) ?_
      refine lv_iload_n hx hb dX6_posts_45 rfl (lv_at hl 2 rfl) ?_
      refine lv_imul hx hb dX6_posts_46 ?_
      obtain ⟨r47, g47, hf⟩ := bd1_e hf
      refine qX6_335 g47 C X hl.1 ((Nat.le_of_ble_eq_true rfl)) ⟨(Nat.le_of_ble_eq_true rfl), (Nat.le_of_ble_eq_true rfl)⟩ ⟨Nat.zero_le _, Nat.zero_le _⟩ dX6_posts_47 (fun H locs X b47 => ?_)
      obtain ⟨h50, hf⟩ := gd_e hf
      obtain ⟨μ50, e50, hf⟩ := nm_e2 hf
      refine rIast2 C X rfl h50 e50 dX6_posts_50 (fun H locs X => ?_)
      obtain ⟨v51, e51, hf⟩ := nm_e2 hf
      refine rIinc (lv' := [(3, .int v51), (0, .ref (ad 0)), (1, .int x1), (2, .int x2)]) hx hb dX6_posts_51 hl (k := 3) rfl e51 rfl (by decide) rfl (fun ls hl => ?_)
      refine lv_goto (tgt := 23) hx hb dX6_posts_54 (by decide) ?_
      exact ih μ50 ν x1 x2 v51 hf _ _ X _ (lv_sub hl [1, 2, 3, 0] rfl)
set_option maxRecDepth 100000 in
set_option maxHeartbeats 4000000 in
theorem w6_posts_1 {p : Program} {l : Launch} {e : Env} {s : State} {m : MethodId} {args : Array Value} {below : List Frame} {meth : Method} {c : Code} {D : va_G} {cy : Nat → ClassId} {ad : Nat → Nat} {r : Int32} {μ1 : Mem} {ν1 : Lem} (C : Cx false p s m args meth c cX6_posts 4 RX6 D cy ad) (hr : meth.sig.returnType = some .int) : ∀ (n : Nat), ∀ (μ : Mem) (ν : Lem) (x1 : Int32) (x2 : Int32), f6_posts_1 n μ ν x1 x2 = some (r, μ1, ν1) → ∀ (H : Heap) (locs : List Loc), Wd false D cy ad s.heap μ ν H locs → ∀ (ls : Array Slot), lv_has ls 4 [(0, .ref (ad 0)), (1, .int x1), (2, .int x2)] → WI false p l e 3 72 s m args below meth c D cy ad .int r μ1 ν1 H locs (F0 m 15 ls []) := by
  have hx := C.1.1
  have hb := C.1.2.1
  have hown := C.1.2.2.2.1
  have hts := C.1.2.2.2.2
  intro n
  induction n with
  | zero =>
    intro μ ν x1 x2 hf H locs X ls hl
    rw [f6_posts_1] at hf
    cases hf
  | succ n ih =>
    intro μ ν x1 x2 hf H locs X ls hl
    rw [f6_posts_1] at hf
    refine lv_iload_n hx hb dX6_posts_15 rfl (lv_at hl 2 rfl) ?_
    refine lv_bipush (v := 11) hx hb dX6_posts_16 (by decide) ?_
    refine lv_icmp_ge (tgt := 63) hx hb dX6_posts_18 (by decide) (fun c18 => ?_) (fun c18 => ?_)
    · replace hf := ifp c18 hf
      refine lv_iconst (v := (-1)) hx hb dX6_posts_63 (by decide) ?_
      refine lv_istore_n (lv' := [(2, .int (-1)), (0, .ref (ad 0)), (1, .int x1)]) hx hb dX6_posts_64 rfl hl (by decide) rfl (fun ls hl => ?_)
      refine lv_iconst (v := 0) hx hb dX6_posts_65 (by decide) ?_
      refine lv_istore_n (lv' := [(3, .int 0), (2, .int (-1)), (0, .ref (ad 0)), (1, .int x1)]) hx hb dX6_posts_66 rfl hl (by decide) rfl (fun ls hl => ?_)
      exact w6_posts_3 C hr  FUEL μ ν x1 (-1) 0 hf _ _ X _ (lv_sub hl [2, 3, 1, 0] rfl)
    · replace hf := ifn c18 hf
      refine lv_iconst (v := 0) hx hb dX6_posts_21 (by decide) ?_
      refine lv_istore_n (lv' := [(3, .int 0), (0, .ref (ad 0)), (1, .int x1), (2, .int x2)]) hx hb dX6_posts_22 rfl hl (by decide) rfl (fun ls hl => ?_)
      exact w6_posts_2 C hr (f6_posts_1 n) ih FUEL μ ν x1 x2 0 hf _ _ X _ (lv_sub hl [1, 2, 3, 0] rfl)
set_option maxRecDepth 100000 in
set_option maxHeartbeats 4000000 in
theorem w6_posts {p : Program} {l : Launch} {e : Env} {s : State} {m : MethodId} {args : Array Value} {below : List Frame} {meth : Method} {c : Code} {D : va_G} {cy : Nat → ClassId} {ad : Nat → Nat} {r : Int32} {μ1 : Mem} {ν1 : Lem} (C : Cx false p s m args meth c cX6_posts 4 RX6 D cy ad) (hr : meth.sig.returnType = some .int) : ∀ (μ : Mem) (ν : Lem) (x1 : Int32), f6_posts μ ν x1 = some (r, μ1, ν1) → ∀ (H : Heap) (locs : List Loc), Wd false D cy ad s.heap μ ν H locs → ∀ (ls : Array Slot), lv_has ls 4 [(0, .ref (ad 0)), (1, .int x1)] → WI false p l e 3 72 s m args below meth c D cy ad .int r μ1 ν1 H locs (F0 m 0 ls []) := by
  have hx := C.1.1
  have hb := C.1.2.1
  have hown := C.1.2.2.2.1
  have hts := C.1.2.2.2.2
  intro μ ν x1 hf H locs X ls hl
  unfold f6_posts at hf
  refine lv_iload_n hx hb dX6_posts_0 rfl (lv_at hl 1 rfl) ?_
  refine lv_i2l hx hb dX6_posts_1 rfl ?_
  refine lv_lconst (v := 0) hx hb dX6_posts_2 (by decide) ?_
  refine lv_lconst (v := 1) hx hb dX6_posts_3 (by decide) ?_
  refine qX6_92 rfl C X hl.1 ((Nat.le_of_ble_eq_true rfl)) ⟨(Nat.le_of_ble_eq_true rfl), (Nat.le_of_ble_eq_true rfl)⟩ ⟨Nat.zero_le _, Nat.zero_le _⟩ dX6_posts_4 (fun H locs X b4 => ?_)
  refine lv_if_ne (tgt := 13) hx hb dX6_posts_7 (by decide) (fun c7 => ?_) (fun c7 => ?_)
  · replace hf := ifn c7 hf
    refine lv_iconst (v := 0) hx hb dX6_posts_13 (by decide) ?_
    refine lv_istore_n (lv' := [(2, .int 0), (0, .ref (ad 0)), (1, .int x1)]) hx hb dX6_posts_14 rfl hl (by decide) rfl (fun ls hl => ?_)
    exact w6_posts_1 C hr  FUEL μ ν x1 0 hf _ _ X _ (lv_sub hl [1, 2, 0] rfl)
  · replace hf := ifp c7 hf
    refine lv_bipush (v := (-2)) hx hb dX6_posts_10 (by decide) ?_
    exact retI C X hr rfl (so3 hf).1 (so3 hf).2.1 (so3 hf).2.2 dX6_posts_12
theorem ct6_posts {x1 : Int32} {μ : Mem} {ν : Lem} {r : Int32} {μ1 : Mem} {ν1 : Lem} (hg : f6_posts μ ν x1 = some (r, μ1, ν1)) : CtI false yX6_posts cX6_posts 4 3 72 .int (fun ad => [.ref (ad 0), .int x1]) μ ν r μ1 ν1 :=
  mkI (by decide) rfl (fun ad => Nat.le_of_ble_eq_true rfl) (fun p l e s m args below meth c D cy ad C hr X ls hl => w6_posts C hr μ ν x1 hg _ _ X _ hl)
theorem qL_97 {p : Program} {l : Launch} {e : Env} {R : Room} {s : State} {m : MethodId} {args : Array Value} {below : List Frame} {meth : Method} {c : Code} {H : Heap} {locs : List Loc} {cells slots : Nat} {Q : State → Prop} {A : Nat → Prop} {cc : ByteArray} {nL : Nat} {D : va_G} {cy : Nat → ClassId} {ad : Nat → Nat} {μ : Mem} {ν : Lem} {pc : Nat} {ls : Array Slot} {rest : List Value} {x1 : Int32} {r : Int32} {μ1 : Mem} {ν1 : Lem} (hg : f6_posts μ ν x1 = some (r, μ1, ν1)) (C : CxA false A p s m args meth c cc nL RL D cy ad) (X : WdA false A D cy ad s.heap μ ν H locs) (hsz : ls.size = nL) (hrm : (rest.map fun v => v.category).sum ≤ 8) (hR : 3 + 1 ≤ R.frames ∧ 8 + (4 + 11) + 72 ≤ R.locals) (hcs : cells ≤ R.cells ∧ slots ≤ R.slots) (hd : decode cc pc = .ok (.invokevirtual 97, 3)) (kk : ∀ (H1 : Heap) (locs1 : List Loc), WdA false A D cy ad s.heap μ1 ν1 H1 locs1 → narrow .int (.int r) = .int r → W p l e R s m args below meth c H1 locs1 cells slots Q (F0 m (pc + 3) ls (.int r :: rest))) : W p l e R s m args below meth c H locs cells slots Q (F0 m pc ls (.int x1 :: .ref (ad 0) :: rest)) :=
  rCVI (As := [.int x1]) (k := 0) (ct6_posts hg) ok6 lX6_posts k_1275 rfl rfl rfl C X rfl hrm hsz hR hcs hd kk
set_option maxRecDepth 100000 in
set_option maxHeartbeats 4000000 in
theorem w6_ringBad {p : Program} {l : Launch} {e : Env} {s : State} {m : MethodId} {args : Array Value} {below : List Frame} {meth : Method} {c : Code} {D : va_G} {cy : Nat → ClassId} {ad : Nat → Nat} {r : Int32} {μ : Mem} {ν : Lem} (C : Cx false p s m args meth c cX6_ringBad 2 RX6 D cy ad) (hr : meth.sig.returnType = some .int) : ∀ (x1 : Int32), f6_ringBad μ ν x1 = some r → ∀ (H : Heap) (locs : List Loc), Wd false D cy ad s.heap μ ν H locs → ∀ (ls : Array Slot), lv_has ls 2 [(0, .ref (ad 0)), (1, .int x1)] → WI false p l e 2 45 s m args below meth c D cy ad .int r μ ν H locs (F0 m 0 ls []) := by
  have hx := C.1.1
  have hb := C.1.2.1
  have hown := C.1.2.2.2.1
  have hts := C.1.2.2.2.2
  intro x1 hf H locs X ls hl
  unfold f6_ringBad at hf
  refine lv_iload_n hx hb dX6_ringBad_0 rfl (lv_at hl 1 rfl) ?_
  refine qX6_385 rfl C X hl.1 ((Nat.le_of_ble_eq_true rfl)) ⟨(Nat.le_of_ble_eq_true rfl), (Nat.le_of_ble_eq_true rfl)⟩ ⟨Nat.zero_le _, Nat.zero_le _⟩ dX6_ringBad_1 (fun H locs X b1 => ?_)
  refine lv_if_ne (tgt := 10) hx hb dX6_ringBad_4 (by decide) (fun c4 => ?_) (fun c4 => ?_)
  · replace hf := ifn c4 hf
    refine lv_aload_n hx hb dX6_ringBad_10 rfl (lv_at hl 0 rfl) ?_
    refine gfX6_69 C X dX6_ringBad_11 ?_
    refine lv_iload_n hx hb dX6_ringBad_14 rfl (lv_at hl 1 rfl) ?_
    obtain ⟨h15, hf⟩ := gd_e hf
    refine rZald C X rfl h15 dX6_ringBad_15 ?_
    refine lv_if_ne (tgt := 22) hx hb dX6_ringBad_16 (by decide) (fun c16 => ?_) (fun c16 => ?_)
    · replace hf := ifn c16 hf
      refine lv_aload_n hx hb dX6_ringBad_22 rfl (lv_at hl 0 rfl) ?_
      refine gfX6_76 C X dX6_ringBad_23 ?_
      refine lv_iload_n hx hb dX6_ringBad_26 rfl (lv_at hl 1 rfl) ?_
      obtain ⟨h27, hf⟩ := gd_e hf
      refine rIald C X rfl h27 dX6_ringBad_27 ?_
      refine lv_iconst (v := 2) hx hb dX6_ringBad_28 (by decide) ?_
      refine rIrem hx hb dX6_ringBad_29 (by decide) ?_
      refine lv_if_ne (tgt := 37) hx hb dX6_ringBad_30 (by decide) (fun c30 => ?_) (fun c30 => ?_)
      · replace hf := ifn c30 hf
        refine lv_bipush (v := (-2)) hx hb dX6_ringBad_37 (by decide) ?_
        exact retI C X hr rfl (Option.some.inj hf) rfl rfl dX6_ringBad_39
      · replace hf := ifp c30 hf
        refine lv_iconst (v := 0) hx hb dX6_ringBad_33 (by decide) ?_
        refine lv_goto (tgt := 39) hx hb dX6_ringBad_34 (by decide) ?_
        exact retI C X hr rfl (Option.some.inj hf) rfl rfl dX6_ringBad_39
    · replace hf := ifp c16 hf
      refine lv_bipush (v := (-11)) hx hb dX6_ringBad_19 (by decide) ?_
      exact retI C X hr rfl (Option.some.inj hf) rfl rfl dX6_ringBad_21
  · replace hf := ifp c4 hf
    refine lv_bipush (v := (-2)) hx hb dX6_ringBad_7 (by decide) ?_
    exact retI C X hr rfl (Option.some.inj hf) rfl rfl dX6_ringBad_9
theorem ct6_ringBad {x1 : Int32} {μ : Mem} {ν : Lem} {r : Int32} (hg : f6_ringBad μ ν x1 = some r) : CtI false yX6_ringBad cX6_ringBad 2 2 45 .int (fun ad => [.ref (ad 0), .int x1]) μ ν r μ ν :=
  mkI (by decide) rfl (fun ad => Nat.le_of_ble_eq_true rfl) (fun p l e s m args below meth c D cy ad C hr X ls hl => w6_ringBad C hr x1 hg _ _ X _ hl)
theorem qX6_403 {p : Program} {l : Launch} {e : Env} {R : Room} {s : State} {m : MethodId} {args : Array Value} {below : List Frame} {meth : Method} {c : Code} {H : Heap} {locs : List Loc} {cells slots : Nat} {Q : State → Prop} {A : Nat → Prop} {cc : ByteArray} {nL : Nat} {D : va_G} {cy : Nat → ClassId} {ad : Nat → Nat} {μ : Mem} {ν : Lem} {pc : Nat} {ls : Array Slot} {rest : List Value} {x1 : Int32} {r : Int32} (hg : f6_ringBad μ ν x1 = some r) (C : CxA false A p s m args meth c cc nL RX6 D cy ad) (X : WdA false A D cy ad s.heap μ ν H locs) (hsz : ls.size = nL) (hrm : (rest.map fun v => v.category).sum ≤ 8) (hR : 2 + 1 ≤ R.frames ∧ 8 + (2 + 11) + 45 ≤ R.locals) (hcs : cells ≤ R.cells ∧ slots ≤ R.slots) (hd : decode cc pc = .ok (.invokevirtual 403, 3)) (kk : ∀ (H1 : Heap) (locs1 : List Loc), WdA false A D cy ad s.heap μ ν H1 locs1 → narrow .int (.int r) = .int r → W p l e R s m args below meth c H1 locs1 cells slots Q (F0 m (pc + 3) ls (.int r :: rest))) : W p l e R s m args below meth c H locs cells slots Q (F0 m pc ls (.int x1 :: .ref (ad 0) :: rest)) :=
  rCVI (As := [.int x1]) (k := 0) (ct6_ringBad hg) ok6 lX6_ringBad k_1290 rfl rfl rfl C X rfl hrm hsz hR hcs hd kk
set_option maxRecDepth 100000 in
set_option maxHeartbeats 4000000 in
theorem w6_ring {p : Program} {l : Launch} {e : Env} {s : State} {m : MethodId} {args : Array Value} {below : List Frame} {meth : Method} {c : Code} {D : va_G} {cy : Nat → ClassId} {ad : Nat → Nat} {r : Int32} {μ : Mem} {ν : Lem} (C : Cx false p s m args meth c cX6_ring 3 RX6 D cy ad) (hr : meth.sig.returnType = some .int) : ∀ (x1 : Int32) (x2 : Int32), f6_ring μ ν x1 x2 = some r → ∀ (H : Heap) (locs : List Loc), Wd false D cy ad s.heap μ ν H locs → ∀ (ls : Array Slot), lv_has ls 3 [(0, .ref (ad 0)), (1, .int x1), (2, .int x2)] → WI false p l e 0 0 s m args below meth c D cy ad .int r μ ν H locs (F0 m 0 ls []) := by
  have hx := C.1.1
  have hb := C.1.2.1
  have hown := C.1.2.2.2.1
  have hts := C.1.2.2.2.2
  intro x1 x2 hf H locs X ls hl
  unfold f6_ring at hf
  refine lv_aload_n hx hb dX6_ring_0 rfl (lv_at hl 0 rfl) ?_
  refine gfX6_79 C X dX6_ring_1 ?_
  refine lv_bipush (v := 40) hx hb dX6_ring_4 (by decide) ?_
  refine lv_iload_n hx hb dX6_ring_6 rfl (lv_at hl 1 rfl) ?_
  refine lv_imul hx hb dX6_ring_7 ?_
  refine lv_iload_n hx hb dX6_ring_8 rfl (lv_at hl 2 rfl) ?_
  refine lv_aload_n hx hb dX6_ring_9 rfl (lv_at hl 0 rfl) ?_
  refine gfX6_76 C X dX6_ring_10 ?_
  refine lv_iload_n hx hb dX6_ring_13 rfl (lv_at hl 1 rfl) ?_
  obtain ⟨h14, hf⟩ := gd_e hf
  refine rIald C X rfl h14 dX6_ring_14 ?_
  obtain ⟨h15, hf⟩ := gd_e hf
  refine rIrem hx hb dX6_ring_15 h15 ?_
  refine lv_iadd hx hb dX6_ring_16 ?_
  obtain ⟨h17, hf⟩ := gd_e hf
  refine rIald C X rfl h17 dX6_ring_17 ?_
  exact retI C X hr rfl (Option.some.inj hf) rfl rfl dX6_ring_18
theorem ct6_ring {x1 : Int32} {x2 : Int32} {μ : Mem} {ν : Lem} {r : Int32} (hg : f6_ring μ ν x1 x2 = some r) : CtI false yX6_ring cX6_ring 3 0 0 .int (fun ad => [.ref (ad 0), .int x1, .int x2]) μ ν r μ ν :=
  mkI (by decide) rfl (fun ad => Nat.le_of_ble_eq_true rfl) (fun p l e s m args below meth c D cy ad C hr X ls hl => w6_ring C hr x1 x2 hg _ _ X _ hl)
theorem qX6_406 {p : Program} {l : Launch} {e : Env} {R : Room} {s : State} {m : MethodId} {args : Array Value} {below : List Frame} {meth : Method} {c : Code} {H : Heap} {locs : List Loc} {cells slots : Nat} {Q : State → Prop} {A : Nat → Prop} {cc : ByteArray} {nL : Nat} {D : va_G} {cy : Nat → ClassId} {ad : Nat → Nat} {μ : Mem} {ν : Lem} {pc : Nat} {ls : Array Slot} {rest : List Value} {x1 : Int32} {x2 : Int32} {r : Int32} (hg : f6_ring μ ν x1 x2 = some r) (C : CxA false A p s m args meth c cc nL RX6 D cy ad) (X : WdA false A D cy ad s.heap μ ν H locs) (hsz : ls.size = nL) (hrm : (rest.map fun v => v.category).sum ≤ 8) (hR : 0 + 1 ≤ R.frames ∧ 8 + (3 + 11) + 0 ≤ R.locals) (hcs : cells ≤ R.cells ∧ slots ≤ R.slots) (hd : decode cc pc = .ok (.invokevirtual 406, 3)) (kk : ∀ (H1 : Heap) (locs1 : List Loc), WdA false A D cy ad s.heap μ ν H1 locs1 → narrow .int (.int r) = .int r → W p l e R s m args below meth c H1 locs1 cells slots Q (F0 m (pc + 3) ls (.int r :: rest))) : W p l e R s m args below meth c H locs cells slots Q (F0 m pc ls (.int x2 :: .int x1 :: .ref (ad 0) :: rest)) :=
  rCVI (As := [.int x1, .int x2]) (k := 0) (ct6_ring hg) ok6 lX6_ring k_1294 rfl rfl rfl C X rfl hrm hsz hR hcs hd kk
set_option maxRecDepth 100000 in
set_option maxHeartbeats 4000000 in
theorem w6_beads_3 {p : Program} {l : Launch} {e : Env} {s : State} {m : MethodId} {args : Array Value} {below : List Frame} {meth : Method} {c : Code} {D : va_G} {cy : Nat → ClassId} {ad : Nat → Nat} {r : Int32} {μ : Mem} {ν : Lem} (C : Cx false p s m args meth c cX6_beads 8 RX6 D cy ad) (hr : meth.sig.returnType = some .int) (K60 : Int32 → Int32 → Int32 → Int32 → Option (Int32)) (hK60 : ∀ (x1 : Int32) (x3 : Int32) (x4 : Int32) (x5 : Int32), K60 x1 x3 x4 x5 = some r → ∀ (H : Heap) (locs : List Loc), Wd false D cy ad s.heap μ ν H locs → ∀ (ls : Array Slot), lv_has ls 8 [(0, .ref (ad 0)), (1, .int x1), (3, .int x3), (4, .int x4), (5, .int x5)] → WI false p l e 3 66 s m args below meth c D cy ad .int r μ ν H locs (F0 m 60 ls [])) : ∀ (n : Nat), ∀ (x1 : Int32) (x3 : Int32) (x4 : Int32) (x5 : Int32) (x6 : Int32) (x7 : Int32), f6_beads_3 μ ν K60 n x1 x3 x4 x5 x6 x7 = some r → ∀ (H : Heap) (locs : List Loc), Wd false D cy ad s.heap μ ν H locs → ∀ (ls : Array Slot), lv_has ls 8 [(0, .ref (ad 0)), (1, .int x1), (3, .int x3), (4, .int x4), (5, .int x5), (6, .int x6), (7, .int x7)] → WI false p l e 3 66 s m args below meth c D cy ad .int r μ ν H locs (F0 m 72 ls []) := by
  have hx := C.1.1
  have hb := C.1.2.1
  have hown := C.1.2.2.2.1
  have hts := C.1.2.2.2.2
  intro n
  induction n with
  | zero =>
    intro x1 x3 x4 x5 x6 x7 hf H locs X ls hl
    rw [f6_beads_3] at hf
    cases hf
  | succ n ih =>
    intro x1 x3 x4 x5 x6 x7 hf H locs X ls hl
    rw [f6_beads_3] at hf
    refine lv_iload hx hb dX6_beads_72 (lv_at hl 6 rfl) ?_
    refine lv_iload_n hx hb dX6_beads_74 rfl (lv_at hl 2 rfl) ?_
    refine lv_iconst (v := 2) hx hb dX6_beads_75 (by decide) ?_
    refine lv_idiv hx hb dX6_beads_76 (by decide) ?_
    refine lv_icmp_ge (tgt := 109) hx hb dX6_beads_77 (by decide) (fun c77 => ?_) (fun c77 => ?_)
    · replace hf := ifp c77 hf
      refine lv_iload hx hb dX6_beads_109 (lv_at hl 5 rfl) ?_
      refine lv_iload hx hb dX6_beads_111 (lv_at hl 3 rfl) ?_
      refine lv_iconst (v := 2) hx hb dX6_beads_113 (by decide) ?_
      refine lv_idiv hx hb dX6_beads_114 (by decide) ?_
      refine lv_icmp_ne (tgt := 121) hx hb dX6_beads_115 (by decide) (fun c115 => ?_) (fun c115 => ?_)
      · replace hf := ifn c115 hf
        obtain ⟨v121, e121, hf⟩ := nm_e2 hf
        refine rIinc (lv' := [(5, .int v121), (0, .ref (ad 0)), (1, .int x1), (3, .int x3), (4, .int x4), (6, .int x6), (7, .int x7)]) hx hb dX6_beads_121 hl (k := 4) rfl e121 rfl (by decide) rfl (fun ls hl => ?_)
        refine lv_goto (tgt := 60) hx hb dX6_beads_124 (by decide) ?_
        exact hK60 x1 x3 x4 v121 hf _ _ X _ (lv_sub hl [1, 2, 3, 4, 0] rfl)
      · replace hf := ifp c115 hf
        refine lv_iload hx hb dX6_beads_118 (lv_at hl 4 rfl) ?_
        exact retI C X hr rfl (Option.some.inj hf) rfl rfl dX6_beads_120
    · replace hf := ifn c77 hf
      refine lv_iload hx hb dX6_beads_80 (lv_at hl 5 rfl) ?_
      refine lv_aload_n hx hb dX6_beads_82 rfl (lv_at hl 0 rfl) ?_
      refine lv_iload_n hx hb dX6_beads_83 rfl (lv_at hl 1 rfl) ?_
      refine lv_iload hx hb dX6_beads_84 (lv_at hl 4 rfl) ?_
      refine lv_iload hx hb dX6_beads_86 (lv_at hl 6 rfl) ?_
      refine lv_iadd hx hb dX6_beads_88 ?_
      obtain ⟨r89, g89, hf⟩ := bd1_e hf
      refine qX6_406 g89 C X hl.1 ((Nat.le_of_ble_eq_true rfl)) ⟨(Nat.le_of_ble_eq_true rfl), (Nat.le_of_ble_eq_true rfl)⟩ ⟨Nat.zero_le _, Nat.zero_le _⟩ dX6_beads_89 (fun H locs X b89 => ?_)
      refine lv_if_eq (tgt := 99) hx hb dX6_beads_92 (by decide) (fun c92 => ?_) (fun c92 => ?_)
      · replace hf := ifp c92 hf
        refine lv_iconst (v := 0) hx hb dX6_beads_99 (by decide) ?_
        refine lv_iadd hx hb dX6_beads_100 ?_
        obtain ⟨v101, e101, hf⟩ := nm_e2 hf
        refine st_i e101 ?_
        refine lv_istore (lv' := [(6, .int v101), (0, .ref (ad 0)), (1, .int x1), (3, .int x3), (4, .int x4), (5, .int x5), (7, .int x7)]) hx hb dX6_beads_101 hl (by decide) rfl (fun ls hl => ?_)
        obtain ⟨v103, e103, hf⟩ := nm_e2 hf
        refine rIinc (lv' := [(7, .int v103), (6, .int v101), (0, .ref (ad 0)), (1, .int x1), (3, .int x3), (4, .int x4), (5, .int x5)]) hx hb dX6_beads_103 hl (k := 6) rfl e103 rfl (by decide) rfl (fun ls hl => ?_)
        refine lv_goto (tgt := 72) hx hb dX6_beads_106 (by decide) ?_
        exact ih x1 x3 x4 x5 v101 v103 hf _ _ X _ (lv_sub hl [2, 3, 4, 5, 6, 1, 0] rfl)
      · replace hf := ifn c92 hf
        refine lv_iconst (v := 1) hx hb dX6_beads_95 (by decide) ?_
        refine lv_goto (tgt := 100) hx hb dX6_beads_96 (by decide) ?_
        refine lv_iadd hx hb dX6_beads_100 ?_
        obtain ⟨v101, e101, hf⟩ := nm_e2 hf
        refine st_i e101 ?_
        refine lv_istore (lv' := [(6, .int v101), (0, .ref (ad 0)), (1, .int x1), (3, .int x3), (4, .int x4), (5, .int x5), (7, .int x7)]) hx hb dX6_beads_101 hl (by decide) rfl (fun ls hl => ?_)
        obtain ⟨v103, e103, hf⟩ := nm_e2 hf
        refine rIinc (lv' := [(7, .int v103), (6, .int v101), (0, .ref (ad 0)), (1, .int x1), (3, .int x3), (4, .int x4), (5, .int x5)]) hx hb dX6_beads_103 hl (k := 6) rfl e103 rfl (by decide) rfl (fun ls hl => ?_)
        refine lv_goto (tgt := 72) hx hb dX6_beads_106 (by decide) ?_
        exact ih x1 x3 x4 x5 v101 v103 hf _ _ X _ (lv_sub hl [2, 3, 4, 5, 6, 1, 0] rfl)
set_option maxRecDepth 100000 in
set_option maxHeartbeats 4000000 in
theorem w6_beads_2 {p : Program} {l : Launch} {e : Env} {s : State} {m : MethodId} {args : Array Value} {below : List Frame} {meth : Method} {c : Code} {D : va_G} {cy : Nat → ClassId} {ad : Nat → Nat} {r : Int32} {μ : Mem} {ν : Lem} (C : Cx false p s m args meth c cX6_beads 8 RX6 D cy ad) (hr : meth.sig.returnType = some .int) : ∀ (n : Nat), ∀ (x1 : Int32) (x3 : Int32) (x4 : Int32) (x5 : Int32), f6_beads_2 μ ν n x1 x3 x4 x5 = some r → ∀ (H : Heap) (locs : List Loc), Wd false D cy ad s.heap μ ν H locs → ∀ (ls : Array Slot), lv_has ls 8 [(0, .ref (ad 0)), (1, .int x1), (3, .int x3), (4, .int x4), (5, .int x5)] → WI false p l e 3 66 s m args below meth c D cy ad .int r μ ν H locs (F0 m 60 ls []) := by
  have hx := C.1.1
  have hb := C.1.2.1
  have hown := C.1.2.2.2.1
  have hts := C.1.2.2.2.2
  intro n
  induction n with
  | zero =>
    intro x1 x3 x4 x5 hf H locs X ls hl
    rw [f6_beads_2] at hf
    cases hf
  | succ n ih =>
    intro x1 x3 x4 x5 hf H locs X ls hl
    rw [f6_beads_2] at hf
    refine lv_iload hx hb dX6_beads_60 (lv_at hl 4 rfl) ?_
    refine lv_iload_n hx hb dX6_beads_62 rfl (lv_at hl 2 rfl) ?_
    refine lv_icmp_ge (tgt := 127) hx hb dX6_beads_63 (by decide) (fun c63 => ?_) (fun c63 => ?_)
    · replace hf := ifp c63 hf
      refine lv_iconst (v := (-1)) hx hb dX6_beads_127 (by decide) ?_
      exact retI C X hr rfl (Option.some.inj hf) rfl rfl dX6_beads_128
    · replace hf := ifn c63 hf
      refine lv_iconst (v := 0) hx hb dX6_beads_66 (by decide) ?_
      refine lv_istore (lv' := [(6, .int 0), (0, .ref (ad 0)), (1, .int x1), (3, .int x3), (4, .int x4), (5, .int x5)]) hx hb dX6_beads_67 hl (by decide) rfl (fun ls hl => ?_)
      refine lv_iconst (v := 0) hx hb dX6_beads_69 (by decide) ?_
      refine lv_istore (lv' := [(7, .int 0), (6, .int 0), (0, .ref (ad 0)), (1, .int x1), (3, .int x3), (4, .int x4), (5, .int x5)]) hx hb dX6_beads_70 hl (by decide) rfl (fun ls hl => ?_)
      exact w6_beads_3 C hr (f6_beads_2 μ ν n) ih FUEL x1 x3 x4 x5 0 0 hf _ _ X _ (lv_sub hl [2, 3, 4, 5, 6, 1, 0] rfl)
set_option maxRecDepth 100000 in
set_option maxHeartbeats 4000000 in
theorem w6_beads_1 {p : Program} {l : Launch} {e : Env} {s : State} {m : MethodId} {args : Array Value} {below : List Frame} {meth : Method} {c : Code} {D : va_G} {cy : Nat → ClassId} {ad : Nat → Nat} {r : Int32} {μ : Mem} {ν : Lem} (C : Cx false p s m args meth c cX6_beads 8 RX6 D cy ad) (hr : meth.sig.returnType = some .int) : ∀ (n : Nat), ∀ (x1 : Int32) (x3 : Int32) (x4 : Int32) (x5 : Int32), f6_beads_1 μ ν n x1 x3 x4 x5 = some r → ∀ (H : Heap) (locs : List Loc), Wd false D cy ad s.heap μ ν H locs → ∀ (ls : Array Slot), lv_has ls 8 [(0, .ref (ad 0)), (1, .int x1), (3, .int x3), (4, .int x4), (5, .int x5)] → WI false p l e 3 66 s m args below meth c D cy ad .int r μ ν H locs (F0 m 25 ls []) := by
  have hx := C.1.1
  have hb := C.1.2.1
  have hown := C.1.2.2.2.1
  have hts := C.1.2.2.2.2
  intro n
  induction n with
  | zero =>
    intro x1 x3 x4 x5 hf H locs X ls hl
    rw [f6_beads_1] at hf
    cases hf
  | succ n ih =>
    intro x1 x3 x4 x5 hf H locs X ls hl
    rw [f6_beads_1] at hf
    refine lv_iload hx hb dX6_beads_25 (lv_at hl 4 rfl) ?_
    refine lv_iload_n hx hb dX6_beads_27 rfl (lv_at hl 2 rfl) ?_
    refine lv_icmp_ge (tgt := 57) hx hb dX6_beads_28 (by decide) (fun c28 => ?_) (fun c28 => ?_)
    · replace hf := ifp c28 hf
      refine lv_iconst (v := 0) hx hb dX6_beads_57 (by decide) ?_
      refine lv_istore (lv' := [(5, .int 0), (0, .ref (ad 0)), (1, .int x1), (3, .int x3), (4, .int x4)]) hx hb dX6_beads_58 hl (by decide) rfl (fun ls hl => ?_)
      exact w6_beads_2 C hr  FUEL x1 x3 x4 0 hf _ _ X _ (lv_sub hl [1, 2, 3, 4, 0] rfl)
    · replace hf := ifn c28 hf
      refine lv_iload hx hb dX6_beads_31 (lv_at hl 3 rfl) ?_
      refine lv_aload_n hx hb dX6_beads_33 rfl (lv_at hl 0 rfl) ?_
      refine lv_iload_n hx hb dX6_beads_34 rfl (lv_at hl 1 rfl) ?_
      refine lv_iload hx hb dX6_beads_35 (lv_at hl 4 rfl) ?_
      obtain ⟨r37, g37, hf⟩ := bd1_e hf
      refine qX6_406 g37 C X hl.1 ((Nat.le_of_ble_eq_true rfl)) ⟨(Nat.le_of_ble_eq_true rfl), (Nat.le_of_ble_eq_true rfl)⟩ ⟨Nat.zero_le _, Nat.zero_le _⟩ dX6_beads_37 (fun H locs X b37 => ?_)
      refine lv_if_eq (tgt := 47) hx hb dX6_beads_40 (by decide) (fun c40 => ?_) (fun c40 => ?_)
      · replace hf := ifp c40 hf
        refine lv_iconst (v := 0) hx hb dX6_beads_47 (by decide) ?_
        refine lv_iadd hx hb dX6_beads_48 ?_
        obtain ⟨v49, e49, hf⟩ := nm_e2 hf
        refine st_i e49 ?_
        refine lv_istore (lv' := [(4, .int v49), (0, .ref (ad 0)), (1, .int x1), (3, .int x3), (5, .int x5)]) hx hb dX6_beads_49 hl (by decide) rfl (fun ls hl => ?_)
        obtain ⟨v51, e51, hf⟩ := nm_e2 hf
        refine rIinc (lv' := [(5, .int v51), (4, .int v49), (0, .ref (ad 0)), (1, .int x1), (3, .int x3)]) hx hb dX6_beads_51 hl (k := 4) rfl e51 rfl (by decide) rfl (fun ls hl => ?_)
        refine lv_goto (tgt := 25) hx hb dX6_beads_54 (by decide) ?_
        exact ih x1 x3 v49 v51 hf _ _ X _ (lv_sub hl [2, 3, 4, 1, 0] rfl)
      · replace hf := ifn c40 hf
        refine lv_iconst (v := 1) hx hb dX6_beads_43 (by decide) ?_
        refine lv_goto (tgt := 48) hx hb dX6_beads_44 (by decide) ?_
        refine lv_iadd hx hb dX6_beads_48 ?_
        obtain ⟨v49, e49, hf⟩ := nm_e2 hf
        refine st_i e49 ?_
        refine lv_istore (lv' := [(4, .int v49), (0, .ref (ad 0)), (1, .int x1), (3, .int x3), (5, .int x5)]) hx hb dX6_beads_49 hl (by decide) rfl (fun ls hl => ?_)
        obtain ⟨v51, e51, hf⟩ := nm_e2 hf
        refine rIinc (lv' := [(5, .int v51), (4, .int v49), (0, .ref (ad 0)), (1, .int x1), (3, .int x3)]) hx hb dX6_beads_51 hl (k := 4) rfl e51 rfl (by decide) rfl (fun ls hl => ?_)
        refine lv_goto (tgt := 25) hx hb dX6_beads_54 (by decide) ?_
        exact ih x1 x3 v49 v51 hf _ _ X _ (lv_sub hl [2, 3, 4, 1, 0] rfl)
set_option maxRecDepth 100000 in
set_option maxHeartbeats 4000000 in
theorem w6_beads {p : Program} {l : Launch} {e : Env} {s : State} {m : MethodId} {args : Array Value} {below : List Frame} {meth : Method} {c : Code} {D : va_G} {cy : Nat → ClassId} {ad : Nat → Nat} {r : Int32} {μ : Mem} {ν : Lem} (C : Cx false p s m args meth c cX6_beads 8 RX6 D cy ad) (hr : meth.sig.returnType = some .int) : ∀ (x1 : Int32), f6_beads μ ν x1 = some r → ∀ (H : Heap) (locs : List Loc), Wd false D cy ad s.heap μ ν H locs → ∀ (ls : Array Slot), lv_has ls 8 [(0, .ref (ad 0)), (1, .int x1)] → WI false p l e 3 66 s m args below meth c D cy ad .int r μ ν H locs (F0 m 0 ls []) := by
  have hx := C.1.1
  have hb := C.1.2.1
  have hown := C.1.2.2.2.1
  have hts := C.1.2.2.2.2
  intro x1 hf H locs X ls hl
  unfold f6_beads at hf
  refine lv_aload_n hx hb dX6_beads_0 rfl (lv_at hl 0 rfl) ?_
  refine lv_iload_n hx hb dX6_beads_1 rfl (lv_at hl 1 rfl) ?_
  obtain ⟨r2, g2, hf⟩ := bd1_e hf
  refine qX6_403 g2 C X hl.1 ((Nat.le_of_ble_eq_true rfl)) ⟨(Nat.le_of_ble_eq_true rfl), (Nat.le_of_ble_eq_true rfl)⟩ ⟨Nat.zero_le _, Nat.zero_le _⟩ dX6_beads_2 (fun H locs X b2 => ?_)
  refine lv_istore_n (lv' := [(2, .int r2), (0, .ref (ad 0)), (1, .int x1)]) hx hb dX6_beads_5 rfl hl (by decide) rfl (fun ls hl => ?_)
  refine lv_iload_n hx hb dX6_beads_6 rfl (lv_at hl 0 rfl) ?_
  refine lv_if_eq (tgt := 12) hx hb dX6_beads_7 (by decide) (fun c7 => ?_) (fun c7 => ?_)
  · replace hf := ifp c7 hf
    refine lv_aload_n hx hb dX6_beads_12 rfl (lv_at hl 1 rfl) ?_
    refine gfX6_76 C X dX6_beads_13 ?_
    refine lv_iload_n hx hb dX6_beads_16 rfl (lv_at hl 2 rfl) ?_
    obtain ⟨h17, hf⟩ := gd_e hf
    refine rIald C X rfl h17 dX6_beads_17 ?_
    obtain ⟨v18, e18, hf⟩ := nm_e2 hf
    refine st_i e18 ?_
    refine lv_istore_n (lv' := [(3, .int v18), (2, .int r2), (0, .ref (ad 0)), (1, .int x1)]) hx hb dX6_beads_18 rfl hl (by decide) rfl (fun ls hl => ?_)
    refine lv_iconst (v := 0) hx hb dX6_beads_19 (by decide) ?_
    refine lv_istore (lv' := [(4, .int 0), (3, .int v18), (2, .int r2), (0, .ref (ad 0)), (1, .int x1)]) hx hb dX6_beads_20 hl (by decide) rfl (fun ls hl => ?_)
    refine lv_iconst (v := 0) hx hb dX6_beads_22 (by decide) ?_
    refine lv_istore (lv' := [(5, .int 0), (4, .int 0), (3, .int v18), (2, .int r2), (0, .ref (ad 0)), (1, .int x1)]) hx hb dX6_beads_23 hl (by decide) rfl (fun ls hl => ?_)
    exact w6_beads_1 C hr  FUEL x1 v18 0 0 hf _ _ X _ (lv_sub hl [4, 5, 2, 1, 0] rfl)
  · replace hf := ifn c7 hf
    refine lv_iload_n hx hb dX6_beads_10 rfl (lv_at hl 0 rfl) ?_
    exact retI C X hr rfl (Option.some.inj hf) rfl rfl dX6_beads_11
theorem ct6_beads {x1 : Int32} {μ : Mem} {ν : Lem} {r : Int32} (hg : f6_beads μ ν x1 = some r) : CtI false yX6_beads cX6_beads 8 3 66 .int (fun ad => [.ref (ad 0), .int x1]) μ ν r μ ν :=
  mkI (by decide) rfl (fun ad => Nat.le_of_ble_eq_true rfl) (fun p l e s m args below meth c D cy ad C hr X ls hl => w6_beads C hr x1 hg _ _ X _ hl)
theorem qL_101 {p : Program} {l : Launch} {e : Env} {R : Room} {s : State} {m : MethodId} {args : Array Value} {below : List Frame} {meth : Method} {c : Code} {H : Heap} {locs : List Loc} {cells slots : Nat} {Q : State → Prop} {A : Nat → Prop} {cc : ByteArray} {nL : Nat} {D : va_G} {cy : Nat → ClassId} {ad : Nat → Nat} {μ : Mem} {ν : Lem} {pc : Nat} {ls : Array Slot} {rest : List Value} {x1 : Int32} {r : Int32} (hg : f6_beads μ ν x1 = some r) (C : CxA false A p s m args meth c cc nL RL D cy ad) (X : WdA false A D cy ad s.heap μ ν H locs) (hsz : ls.size = nL) (hrm : (rest.map fun v => v.category).sum ≤ 8) (hR : 3 + 1 ≤ R.frames ∧ 8 + (8 + 11) + 66 ≤ R.locals) (hcs : cells ≤ R.cells ∧ slots ≤ R.slots) (hd : decode cc pc = .ok (.invokevirtual 101, 3)) (kk : ∀ (H1 : Heap) (locs1 : List Loc), WdA false A D cy ad s.heap μ ν H1 locs1 → narrow .int (.int r) = .int r → W p l e R s m args below meth c H1 locs1 cells slots Q (F0 m (pc + 3) ls (.int r :: rest))) : W p l e R s m args below meth c H locs cells slots Q (F0 m pc ls (.int x1 :: .ref (ad 0) :: rest)) :=
  rCVI (As := [.int x1]) (k := 0) (ct6_beads hg) ok6 lX6_beads k_1286 rfl rfl rfl C X rfl hrm hsz hR hcs hd kk
set_option maxRecDepth 100000 in
set_option maxHeartbeats 4000000 in
theorem w6_across {p : Program} {l : Launch} {e : Env} {s : State} {m : MethodId} {args : Array Value} {below : List Frame} {meth : Method} {c : Code} {D : va_G} {cy : Nat → ClassId} {ad : Nat → Nat} {r : Int64} {μ : Mem} {ν : Lem} (C : Cx false p s m args meth c cX6_across 3 RX6 D cy ad) (hr : meth.sig.returnType = some .long) : ∀ (x1 : Int32) (x2 : Int32), f6_across μ ν x1 x2 = some r → ∀ (H : Heap) (locs : List Loc), Wd false D cy ad s.heap μ ν H locs → ∀ (ls : Array Slot), lv_has ls 3 [(0, .ref (ad 0)), (1, .int x1), (2, .int x2)] → WL false p l e 1 22 s m args below meth c D cy ad r μ ν H locs (F0 m 0 ls []) := by
  have hx := C.1.1
  have hb := C.1.2.1
  have hown := C.1.2.2.2.1
  have hts := C.1.2.2.2.2
  intro x1 x2 hf H locs X ls hl
  unfold f6_across at hf
  refine lv_aload_n hx hb dX6_across_0 rfl (lv_at hl 0 rfl) ?_
  refine lv_iload_n hx hb dX6_across_1 rfl (lv_at hl 1 rfl) ?_
  refine lv_iload_n hx hb dX6_across_2 rfl (lv_at hl 2 rfl) ?_
  obtain ⟨r3, g3, hf⟩ := bd1_e hf
  refine qX6_406 g3 C X hl.1 ((Nat.le_of_ble_eq_true rfl)) ⟨(Nat.le_of_ble_eq_true rfl), (Nat.le_of_ble_eq_true rfl)⟩ ⟨Nat.zero_le _, Nat.zero_le _⟩ dX6_across_3 (fun H locs X b3 => ?_)
  refine lv_i2l hx hb dX6_across_6 rfl ?_
  refine lv_aload_n hx hb dX6_across_7 rfl (lv_at hl 0 rfl) ?_
  refine lv_iload_n hx hb dX6_across_8 rfl (lv_at hl 1 rfl) ?_
  refine lv_iload_n hx hb dX6_across_9 rfl (lv_at hl 2 rfl) ?_
  refine lv_aload_n hx hb dX6_across_10 rfl (lv_at hl 0 rfl) ?_
  refine gfX6_76 C X dX6_across_11 ?_
  refine lv_iload_n hx hb dX6_across_14 rfl (lv_at hl 1 rfl) ?_
  obtain ⟨h15, hf⟩ := gd_e hf
  refine rIald C X rfl h15 dX6_across_15 ?_
  refine lv_iconst (v := 2) hx hb dX6_across_16 (by decide) ?_
  refine lv_idiv hx hb dX6_across_17 (by decide) ?_
  refine lv_iadd hx hb dX6_across_18 ?_
  obtain ⟨r19, g19, hf⟩ := bd1_e hf
  refine qX6_406 g19 C X hl.1 ((Nat.le_of_ble_eq_true rfl)) ⟨(Nat.le_of_ble_eq_true rfl), (Nat.le_of_ble_eq_true rfl)⟩ ⟨Nat.zero_le _, Nat.zero_le _⟩ dX6_across_19 (fun H locs X b19 => ?_)
  refine lv_i2l hx hb dX6_across_22 rfl ?_
  refine lv_lsub hx hb dX6_across_23 ?_
  exact retL C X hr (Option.some.inj hf) rfl rfl dX6_across_24
theorem ct6_across {x1 : Int32} {x2 : Int32} {μ : Mem} {ν : Lem} {r : Int64} (hg : f6_across μ ν x1 x2 = some r) : CtL false yX6_across cX6_across 3 1 22 (fun ad => [.ref (ad 0), .int x1, .int x2]) μ ν r μ ν :=
  mkL (by decide) rfl (fun ad => Nat.le_of_ble_eq_true rfl) (fun p l e s m args below meth c D cy ad C hr X ls hl => w6_across C hr x1 x2 hg _ _ X _ hl)
theorem qX6_409 {p : Program} {l : Launch} {e : Env} {R : Room} {s : State} {m : MethodId} {args : Array Value} {below : List Frame} {meth : Method} {c : Code} {H : Heap} {locs : List Loc} {cells slots : Nat} {Q : State → Prop} {A : Nat → Prop} {cc : ByteArray} {nL : Nat} {D : va_G} {cy : Nat → ClassId} {ad : Nat → Nat} {μ : Mem} {ν : Lem} {pc : Nat} {ls : Array Slot} {rest : List Value} {x1 : Int32} {x2 : Int32} {r : Int64} (hg : f6_across μ ν x1 x2 = some r) (C : CxA false A p s m args meth c cc nL RX6 D cy ad) (X : WdA false A D cy ad s.heap μ ν H locs) (hsz : ls.size = nL) (hrm : (rest.map fun v => v.category).sum ≤ 8) (hR : 1 + 1 ≤ R.frames ∧ 8 + (3 + 11) + 22 ≤ R.locals) (hcs : cells ≤ R.cells ∧ slots ≤ R.slots) (hd : decode cc pc = .ok (.invokevirtual 409, 3)) (kk : ∀ (H1 : Heap) (locs1 : List Loc), WdA false A D cy ad s.heap μ ν H1 locs1 → W p l e R s m args below meth c H1 locs1 cells slots Q (F0 m (pc + 3) ls (.long r :: rest))) : W p l e R s m args below meth c H locs cells slots Q (F0 m pc ls (.int x2 :: .int x1 :: .ref (ad 0) :: rest)) :=
  rCVL (As := [.int x1, .int x2]) (k := 0) (ct6_across hg) ok6 lX6_across k_1302 rfl rfl rfl C X rfl hrm hsz hR hcs hd kk
set_option maxRecDepth 100000 in
set_option maxHeartbeats 4000000 in
theorem w6_heat_1 {p : Program} {l : Launch} {e : Env} {s : State} {m : MethodId} {args : Array Value} {below : List Frame} {meth : Method} {c : Code} {D : va_G} {cy : Nat → ClassId} {ad : Nat → Nat} {r : Int32} {μ : Mem} {ν : Lem} (C : Cx false p s m args meth c cX6_heat 4 RX6 D cy ad) (hr : meth.sig.returnType = some .int) : ∀ (n : Nat), ∀ (x1 : Int32) (x3 : Int32), f6_heat_1 μ ν n x1 x3 = some r → ∀ (H : Heap) (locs : List Loc), Wd false D cy ad s.heap μ ν H locs → ∀ (ls : Array Slot), lv_has ls 4 [(0, .ref (ad 0)), (1, .int x1), (3, .int x3)] → WI false p l e 3 66 s m args below meth c D cy ad .int r μ ν H locs (F0 m 32 ls []) := by
  have hx := C.1.1
  have hb := C.1.2.1
  have hown := C.1.2.2.2.1
  have hts := C.1.2.2.2.2
  intro n
  induction n with
  | zero =>
    intro x1 x3 hf H locs X ls hl
    rw [f6_heat_1] at hf
    cases hf
  | succ n ih =>
    intro x1 x3 hf H locs X ls hl
    rw [f6_heat_1] at hf
    refine lv_aload_n hx hb dX6_heat_32 rfl (lv_at hl 0 rfl) ?_
    refine lv_iload_n hx hb dX6_heat_33 rfl (lv_at hl 1 rfl) ?_
    refine lv_iload_n hx hb dX6_heat_34 rfl (lv_at hl 2 rfl) ?_
    obtain ⟨r35, g35, hf⟩ := bd1_e hf
    refine qX6_409 g35 C X hl.1 ((Nat.le_of_ble_eq_true rfl)) ⟨(Nat.le_of_ble_eq_true rfl), (Nat.le_of_ble_eq_true rfl)⟩ ⟨Nat.zero_le _, Nat.zero_le _⟩ dX6_heat_35 (fun H locs X => ?_)
    refine lv_lconst (v := 0) hx hb dX6_heat_38 (by decide) ?_
    refine W.lcmp hx hb dX6_heat_39 ?_
    refine lv_if_eq (tgt := 69) hx hb dX6_heat_40 (by decide) (fun c40 => ?_) (fun c40 => ?_)
    · replace hf := ifp c40 hf
      refine lv_iload_n hx hb dX6_heat_69 rfl (lv_at hl 2 rfl) ?_
      exact retI C X hr rfl (Option.some.inj hf) rfl rfl dX6_heat_70
    · replace hf := ifn c40 hf
      refine lv_aload_n hx hb dX6_heat_43 rfl (lv_at hl 0 rfl) ?_
      refine lv_iload_n hx hb dX6_heat_44 rfl (lv_at hl 1 rfl) ?_
      refine lv_iload_n hx hb dX6_heat_45 rfl (lv_at hl 2 rfl) ?_
      obtain ⟨r46, g46, hf⟩ := bd1_e hf
      refine qX6_409 g46 C X hl.1 ((Nat.le_of_ble_eq_true rfl)) ⟨(Nat.le_of_ble_eq_true rfl), (Nat.le_of_ble_eq_true rfl)⟩ ⟨Nat.zero_le _, Nat.zero_le _⟩ dX6_heat_46 (fun H locs X => ?_)
      refine lv_aload_n hx hb dX6_heat_49 rfl (lv_at hl 0 rfl) ?_
      refine lv_iload_n hx hb dX6_heat_50 rfl (lv_at hl 1 rfl) ?_
      refine lv_iload_n hx hb dX6_heat_51 rfl (lv_at hl 2 rfl) ?_
      refine lv_iconst (v := 1) hx hb dX6_heat_52 (by decide) ?_
      refine lv_iadd hx hb dX6_heat_53 ?_
      obtain ⟨r54, g54, hf⟩ := bd1_e hf
      refine qX6_409 g54 C X hl.1 ((Nat.le_of_ble_eq_true rfl)) ⟨(Nat.le_of_ble_eq_true rfl), (Nat.le_of_ble_eq_true rfl)⟩ ⟨Nat.zero_le _, Nat.zero_le _⟩ dX6_heat_54 (fun H locs X => ?_)
      refine qX6_357 rfl C X hl.1 ((Nat.le_of_ble_eq_true rfl)) ⟨(Nat.le_of_ble_eq_true rfl), (Nat.le_of_ble_eq_true rfl)⟩ ⟨Nat.zero_le _, Nat.zero_le _⟩ dX6_heat_57 (fun H locs X b57 => ?_)
      refine lv_if_ne (tgt := 69) hx hb dX6_heat_60 (by decide) (fun c60 => ?_) (fun c60 => ?_)
      · replace hf := ifn c60 hf
        refine lv_iload_n hx hb dX6_heat_69 rfl (lv_at hl 2 rfl) ?_
        exact retI C X hr rfl (Option.some.inj hf) rfl rfl dX6_heat_70
      · replace hf := ifp c60 hf
        obtain ⟨v63, e63, hf⟩ := nm_e2 hf
        refine rIinc (lv' := [(3, .int v63), (0, .ref (ad 0)), (1, .int x1)]) hx hb dX6_heat_63 hl (k := 2) rfl e63 rfl (by decide) rfl (fun ls hl => ?_)
        refine lv_goto (tgt := 32) hx hb dX6_heat_66 (by decide) ?_
        exact ih x1 v63 hf _ _ X _ (lv_sub hl [1, 2, 0] rfl)
set_option maxRecDepth 100000 in
set_option maxHeartbeats 4000000 in
theorem w6_heat {p : Program} {l : Launch} {e : Env} {s : State} {m : MethodId} {args : Array Value} {below : List Frame} {meth : Method} {c : Code} {D : va_G} {cy : Nat → ClassId} {ad : Nat → Nat} {r : Int32} {μ : Mem} {ν : Lem} (C : Cx false p s m args meth c cX6_heat 4 RX6 D cy ad) (hr : meth.sig.returnType = some .int) : ∀ (x1 : Int32), f6_heat μ ν x1 = some r → ∀ (H : Heap) (locs : List Loc), Wd false D cy ad s.heap μ ν H locs → ∀ (ls : Array Slot), lv_has ls 4 [(0, .ref (ad 0)), (1, .int x1)] → WI false p l e 3 66 s m args below meth c D cy ad .int r μ ν H locs (F0 m 0 ls []) := by
  have hx := C.1.1
  have hb := C.1.2.1
  have hown := C.1.2.2.2.1
  have hts := C.1.2.2.2.2
  intro x1 hf H locs X ls hl
  unfold f6_heat at hf
  refine lv_aload_n hx hb dX6_heat_0 rfl (lv_at hl 0 rfl) ?_
  refine lv_iload_n hx hb dX6_heat_1 rfl (lv_at hl 1 rfl) ?_
  obtain ⟨r2, g2, hf⟩ := bd1_e hf
  refine qX6_403 g2 C X hl.1 ((Nat.le_of_ble_eq_true rfl)) ⟨(Nat.le_of_ble_eq_true rfl), (Nat.le_of_ble_eq_true rfl)⟩ ⟨Nat.zero_le _, Nat.zero_le _⟩ dX6_heat_2 (fun H locs X b2 => ?_)
  refine lv_istore_n (lv' := [(2, .int r2), (0, .ref (ad 0)), (1, .int x1)]) hx hb dX6_heat_5 rfl hl (by decide) rfl (fun ls hl => ?_)
  refine lv_iload_n hx hb dX6_heat_6 rfl (lv_at hl 0 rfl) ?_
  refine lv_if_ne (tgt := 19) hx hb dX6_heat_7 (by decide) (fun c7 => ?_) (fun c7 => ?_)
  · replace hf := ifn c7 hf
    refine lv_iload_n hx hb dX6_heat_19 rfl (lv_at hl 0 rfl) ?_
    refine lv_if_eq (tgt := 27) hx hb dX6_heat_20 (by decide) (fun c20 => ?_) (fun c20 => ?_)
    · replace hf := ifp c20 hf
      refine lv_bipush (v := (-2)) hx hb dX6_heat_27 (by decide) ?_
      exact retI C X hr rfl (Option.some.inj hf) rfl rfl dX6_heat_29
    · replace hf := ifn c20 hf
      refine lv_iload_n hx hb dX6_heat_23 rfl (lv_at hl 0 rfl) ?_
      refine lv_goto (tgt := 29) hx hb dX6_heat_24 (by decide) ?_
      exact retI C X hr rfl (Option.some.inj hf) rfl rfl dX6_heat_29
  · replace hf := ifp c7 hf
    refine lv_aload_n hx hb dX6_heat_10 rfl (lv_at hl 1 rfl) ?_
    refine gfX6_76 C X dX6_heat_11 ?_
    refine lv_iload_n hx hb dX6_heat_14 rfl (lv_at hl 2 rfl) ?_
    obtain ⟨h15, hf⟩ := gd_e hf
    refine rIald C X rfl h15 dX6_heat_15 ?_
    refine lv_if_ne (tgt := 30) hx hb dX6_heat_16 (by decide) (fun c16 => ?_) (fun c16 => ?_)
    · replace hf := ifn c16 hf
      refine lv_iconst (v := 0) hx hb dX6_heat_30 (by decide) ?_
      refine lv_istore_n (lv' := [(3, .int 0), (2, .int r2), (0, .ref (ad 0)), (1, .int x1)]) hx hb dX6_heat_31 rfl hl (by decide) rfl (fun ls hl => ?_)
      exact w6_heat_1 C hr  FUEL x1 0 hf _ _ X _ (lv_sub hl [2, 3, 0] rfl)
    · replace hf := ifp c16 hf
      refine lv_iload_n hx hb dX6_heat_19 rfl (lv_at hl 0 rfl) ?_
      refine lv_if_eq (tgt := 27) hx hb dX6_heat_20 (by decide) (fun c20 => ?_) (fun c20 => ?_)
      · replace hf := ifp c20 hf
        refine lv_bipush (v := (-2)) hx hb dX6_heat_27 (by decide) ?_
        exact retI C X hr rfl (Option.some.inj hf) rfl rfl dX6_heat_29
      · replace hf := ifn c20 hf
        refine lv_iload_n hx hb dX6_heat_23 rfl (lv_at hl 0 rfl) ?_
        refine lv_goto (tgt := 29) hx hb dX6_heat_24 (by decide) ?_
        exact retI C X hr rfl (Option.some.inj hf) rfl rfl dX6_heat_29
theorem ct6_heat {x1 : Int32} {μ : Mem} {ν : Lem} {r : Int32} (hg : f6_heat μ ν x1 = some r) : CtI false yX6_heat cX6_heat 4 3 66 .int (fun ad => [.ref (ad 0), .int x1]) μ ν r μ ν :=
  mkI (by decide) rfl (fun ad => Nat.le_of_ble_eq_true rfl) (fun p l e s m args below meth c D cy ad C hr X ls hl => w6_heat C hr x1 hg _ _ X _ hl)
theorem qL_105 {p : Program} {l : Launch} {e : Env} {R : Room} {s : State} {m : MethodId} {args : Array Value} {below : List Frame} {meth : Method} {c : Code} {H : Heap} {locs : List Loc} {cells slots : Nat} {Q : State → Prop} {A : Nat → Prop} {cc : ByteArray} {nL : Nat} {D : va_G} {cy : Nat → ClassId} {ad : Nat → Nat} {μ : Mem} {ν : Lem} {pc : Nat} {ls : Array Slot} {rest : List Value} {x1 : Int32} {r : Int32} (hg : f6_heat μ ν x1 = some r) (C : CxA false A p s m args meth c cc nL RL D cy ad) (X : WdA false A D cy ad s.heap μ ν H locs) (hsz : ls.size = nL) (hrm : (rest.map fun v => v.category).sum ≤ 8) (hR : 3 + 1 ≤ R.frames ∧ 8 + (4 + 11) + 66 ≤ R.locals) (hcs : cells ≤ R.cells ∧ slots ≤ R.slots) (hd : decode cc pc = .ok (.invokevirtual 105, 3)) (kk : ∀ (H1 : Heap) (locs1 : List Loc), WdA false A D cy ad s.heap μ ν H1 locs1 → narrow .int (.int r) = .int r → W p l e R s m args below meth c H1 locs1 cells slots Q (F0 m (pc + 3) ls (.int r :: rest))) : W p l e R s m args below meth c H locs cells slots Q (F0 m pc ls (.int x1 :: .ref (ad 0) :: rest)) :=
  rCVI (As := [.int x1]) (k := 0) (ct6_heat hg) ok6 lX6_heat k_1298 rfl rfl rfl C X rfl hrm hsz hR hcs hd kk
set_option maxRecDepth 100000 in
set_option maxHeartbeats 4000000 in
theorem w6_draws_1 {p : Program} {l : Launch} {e : Env} {s : State} {m : MethodId} {args : Array Value} {below : List Frame} {meth : Method} {c : Code} {D : va_G} {cy : Nat → ClassId} {ad : Nat → Nat} {r : Int32} {μ1 : Mem} {ν1 : Lem} (C : Cx false p s m args meth c cX6_draws 6 RX6 D cy ad) (hr : meth.sig.returnType = some .int) : ∀ (n : Nat), ∀ (μ : Mem) (ν : Lem) (x2 : Int32) (x3 : Int32) (x4 : Int32) (x5 : Int32), f6_draws_1 n μ ν x2 x3 x4 x5 = some (r, μ1, ν1) → ∀ (H : Heap) (locs : List Loc), Wd false D cy ad s.heap μ ν H locs → ∀ (ls : Array Slot), lv_has ls 6 [(0, .ref (ad 0)), (2, .int x2), (3, .int x3), (4, .int x4), (5, .int x5)] → WI false p l e 4 95 s m args below meth c D cy ad .int r μ1 ν1 H locs (F0 m 14 ls []) := by
  have hx := C.1.1
  have hb := C.1.2.1
  have hown := C.1.2.2.2.1
  have hts := C.1.2.2.2.2
  intro n
  induction n with
  | zero =>
    intro μ ν x2 x3 x4 x5 hf H locs X ls hl
    rw [f6_draws_1] at hf
    cases hf
  | succ n ih =>
    intro μ ν x2 x3 x4 x5 hf H locs X ls hl
    rw [f6_draws_1] at hf
    refine lv_iload hx hb dX6_draws_14 (lv_at hl 4 rfl) ?_
    refine lv_iload_n hx hb dX6_draws_16 rfl (lv_at hl 1 rfl) ?_
    refine lv_icmp_ge (tgt := 78) hx hb dX6_draws_17 (by decide) (fun c17 => ?_) (fun c17 => ?_)
    · replace hf := ifp c17 hf
      refine lv_aload_n hx hb dX6_draws_78 rfl (lv_at hl 0 rfl) ?_
      refine lv_iload_n hx hb dX6_draws_79 rfl (lv_at hl 2 rfl) ?_
      refine lv_bipush (v := 6) hx hb dX6_draws_80 (by decide) ?_
      obtain ⟨μ82, ν82, g82, hf⟩ := bd2_e hf
      refine qX6_372 g82 C X hl.1 ((Nat.le_of_ble_eq_true rfl)) ⟨(Nat.le_of_ble_eq_true rfl), (Nat.le_of_ble_eq_true rfl)⟩ ⟨Nat.zero_le _, Nat.zero_le _⟩ dX6_draws_82 (fun H locs X => ?_)
      refine lv_aload_n hx hb dX6_draws_85 rfl (lv_at hl 0 rfl) ?_
      refine lv_iconst (v := 0) hx hb dX6_draws_86 (by decide) ?_
      obtain ⟨r87, g87, hf⟩ := bd1_e hf
      refine qX6_376 g87 C X hl.1 ((Nat.le_of_ble_eq_true rfl)) ⟨(Nat.le_of_ble_eq_true rfl), (Nat.le_of_ble_eq_true rfl)⟩ ⟨Nat.zero_le _, Nat.zero_le _⟩ dX6_draws_87 (fun H locs X b87 => ?_)
      exact retI C X hr rfl (so3 hf).1 (so3 hf).2.1 (so3 hf).2.2 dX6_draws_90
    · replace hf := ifn c17 hf
      refine lv_iload hx hb dX6_draws_20 (lv_at hl 3 rfl) ?_
      refine lv_ldcw (v := 1103515245) hx hb hown (hts _ k_1315) dX6_draws_22 ?_
      refine lv_imul hx hb dX6_draws_25 ?_
      refine lv_sipush (v := 12345) hx hb dX6_draws_26 (by decide) ?_
      refine lv_iadd hx hb dX6_draws_29 ?_
      obtain ⟨v30, e30, hf⟩ := nm_e2 hf
      refine st_i e30 ?_
      refine lv_istore (lv' := [(4, .int v30), (0, .ref (ad 0)), (2, .int x2), (3, .int x3), (5, .int x5)]) hx hb dX6_draws_30 hl (by decide) rfl (fun ls hl => ?_)
      refine lv_aload_n hx hb dX6_draws_32 rfl (lv_at hl 1 rfl) ?_
      refine gfX6_32 C X dX6_draws_33 ?_
      refine lv_bipush (v := 48) hx hb dX6_draws_36 (by decide) ?_
      refine lv_iload hx hb dX6_draws_38 (lv_at hl 4 rfl) ?_
      refine lv_iadd hx hb dX6_draws_40 ?_
      refine lv_sipush (v := 600) hx hb dX6_draws_41 (by decide) ?_
      refine lv_iload hx hb dX6_draws_44 (lv_at hl 4 rfl) ?_
      refine lv_imul hx hb dX6_draws_46 ?_
      refine lv_iload_n hx hb dX6_draws_47 rfl (lv_at hl 2 rfl) ?_
      obtain ⟨h48, hf⟩ := gd_e hf
      refine lv_idiv hx hb dX6_draws_48 h48 ?_
      obtain ⟨h49, hf⟩ := gd_e hf
      obtain ⟨μ49, e49, hf⟩ := nm_e2 hf
      refine rIast2 C X rfl h49 e49 dX6_draws_49 (fun H locs X => ?_)
      refine lv_aload_n hx hb dX6_draws_50 rfl (lv_at hl 1 rfl) ?_
      refine gfX6_35 C X dX6_draws_51 ?_
      refine lv_bipush (v := 48) hx hb dX6_draws_54 (by decide) ?_
      refine lv_iload hx hb dX6_draws_56 (lv_at hl 4 rfl) ?_
      refine lv_iadd hx hb dX6_draws_58 ?_
      refine lv_iload hx hb dX6_draws_59 (lv_at hl 0 rfl) ?_
      refine lv_bipush (v := 9) hx hb dX6_draws_61 (by decide) ?_
      refine lv_iushr (v := jushr v30 9) hx hb dX6_draws_63 rfl ?_
      refine lv_aload_n hx hb dX6_draws_64 rfl (lv_at hl 1 rfl) ?_
      refine gfX6_23 C X dX6_draws_65 ?_
      refine lv_iconst (v := 1) hx hb dX6_draws_68 (by decide) ?_
      refine lv_iadd hx hb dX6_draws_69 ?_
      obtain ⟨h70, hf⟩ := gd_e hf
      refine rIrem hx hb dX6_draws_70 h70 ?_
      obtain ⟨h71, hf⟩ := gd_e hf
      obtain ⟨μ71, e71, hf⟩ := nm_e2 hf
      refine rIast2 C X rfl h71 e71 dX6_draws_71 (fun H locs X => ?_)
      obtain ⟨v72, e72, hf⟩ := nm_e2 hf
      refine rIinc (lv' := [(5, .int v72), (4, .int v30), (0, .ref (ad 0)), (2, .int x2), (3, .int x3)]) hx hb dX6_draws_72 hl (k := 4) rfl e72 rfl (by decide) rfl (fun ls hl => ?_)
      refine lv_goto (tgt := 14) hx hb dX6_draws_75 (by decide) ?_
      exact ih μ71 ν x2 x3 v30 v72 hf _ _ X _ (lv_sub hl [2, 3, 4, 1, 0] rfl)
set_option maxRecDepth 100000 in
set_option maxHeartbeats 4000000 in
theorem w6_draws {p : Program} {l : Launch} {e : Env} {s : State} {m : MethodId} {args : Array Value} {below : List Frame} {meth : Method} {c : Code} {D : va_G} {cy : Nat → ClassId} {ad : Nat → Nat} {r : Int32} {μ1 : Mem} {ν1 : Lem} (C : Cx false p s m args meth c cX6_draws 6 RX6 D cy ad) (hr : meth.sig.returnType = some .int) : ∀ (μ : Mem) (ν : Lem) (x1 : Int32) (x2 : Int32) (x3 : Int32), f6_draws μ ν x1 x2 x3 = some (r, μ1, ν1) → ∀ (H : Heap) (locs : List Loc), Wd false D cy ad s.heap μ ν H locs → ∀ (ls : Array Slot), lv_has ls 6 [(0, .ref (ad 0)), (1, .int x1), (2, .int x2), (3, .int x3)] → WI false p l e 4 95 s m args below meth c D cy ad .int r μ1 ν1 H locs (F0 m 0 ls []) := by
  have hx := C.1.1
  have hb := C.1.2.1
  have hown := C.1.2.2.2.1
  have hts := C.1.2.2.2.2
  intro μ ν x1 x2 x3 hf H locs X ls hl
  unfold f6_draws at hf
  refine lv_iload_n hx hb dX6_draws_0 rfl (lv_at hl 1 rfl) ?_
  refine lv_istore (lv' := [(4, .int x1), (0, .ref (ad 0)), (1, .int x1), (2, .int x2), (3, .int x3)]) hx hb dX6_draws_1 hl (by decide) rfl (fun ls hl => ?_)
  refine lv_aload_n hx hb dX6_draws_3 rfl (lv_at hl 1 rfl) ?_
  refine gfX6_38 C X dX6_draws_4 ?_
  refine lv_bipush (v := 6) hx hb dX6_draws_7 (by decide) ?_
  refine lv_iload_n hx hb dX6_draws_9 rfl (lv_at hl 3 rfl) ?_
  obtain ⟨h10, hf⟩ := gd_e hf
  obtain ⟨μ10, e10, hf⟩ := nm_e2 hf
  refine rIast2 C X rfl h10 e10 dX6_draws_10 (fun H locs X => ?_)
  refine lv_iconst (v := 0) hx hb dX6_draws_11 (by decide) ?_
  refine lv_istore (lv' := [(5, .int 0), (4, .int x1), (0, .ref (ad 0)), (1, .int x1), (2, .int x2), (3, .int x3)]) hx hb dX6_draws_12 hl (by decide) rfl (fun ls hl => ?_)
  exact w6_draws_1 C hr  FUEL μ10 ν x2 x3 x1 0 hf _ _ X _ (lv_sub hl [2, 4, 5, 1, 0] rfl)
theorem ct6_draws {x1 : Int32} {x2 : Int32} {x3 : Int32} {μ : Mem} {ν : Lem} {r : Int32} {μ1 : Mem} {ν1 : Lem} (hg : f6_draws μ ν x1 x2 x3 = some (r, μ1, ν1)) : CtI false yX6_draws cX6_draws 6 4 95 .int (fun ad => [.ref (ad 0), .int x1, .int x2, .int x3]) μ ν r μ1 ν1 :=
  mkI (by decide) rfl (fun ad => Nat.le_of_ble_eq_true rfl) (fun p l e s m args below meth c D cy ad C hr X ls hl => w6_draws C hr μ ν x1 x2 x3 hg _ _ X _ hl)
theorem qX6_415 {p : Program} {l : Launch} {e : Env} {R : Room} {s : State} {m : MethodId} {args : Array Value} {below : List Frame} {meth : Method} {c : Code} {H : Heap} {locs : List Loc} {cells slots : Nat} {Q : State → Prop} {A : Nat → Prop} {cc : ByteArray} {nL : Nat} {D : va_G} {cy : Nat → ClassId} {ad : Nat → Nat} {μ : Mem} {ν : Lem} {pc : Nat} {ls : Array Slot} {rest : List Value} {x1 : Int32} {x2 : Int32} {x3 : Int32} {r : Int32} {μ1 : Mem} {ν1 : Lem} (hg : f6_draws μ ν x1 x2 x3 = some (r, μ1, ν1)) (C : CxA false A p s m args meth c cc nL RX6 D cy ad) (X : WdA false A D cy ad s.heap μ ν H locs) (hsz : ls.size = nL) (hrm : (rest.map fun v => v.category).sum ≤ 8) (hR : 4 + 1 ≤ R.frames ∧ 8 + (6 + 11) + 95 ≤ R.locals) (hcs : cells ≤ R.cells ∧ slots ≤ R.slots) (hd : decode cc pc = .ok (.invokevirtual 415, 3)) (kk : ∀ (H1 : Heap) (locs1 : List Loc), WdA false A D cy ad s.heap μ1 ν1 H1 locs1 → narrow .int (.int r) = .int r → W p l e R s m args below meth c H1 locs1 cells slots Q (F0 m (pc + 3) ls (.int r :: rest))) : W p l e R s m args below meth c H locs cells slots Q (F0 m pc ls (.int x3 :: .int x2 :: .int x1 :: .ref (ad 0) :: rest)) :=
  rCVI (As := [.int x1, .int x2, .int x3]) (k := 0) (ct6_draws hg) ok6 lX6_draws k_1311 rfl rfl rfl C X rfl hrm hsz hR hcs hd kk
set_option maxRecDepth 100000 in
set_option maxHeartbeats 4000000 in
theorem w6_drawn {p : Program} {l : Launch} {e : Env} {s : State} {m : MethodId} {args : Array Value} {below : List Frame} {meth : Method} {c : Code} {D : va_G} {cy : Nat → ClassId} {ad : Nat → Nat} {r : Int32} {μ1 : Mem} {ν1 : Lem} (C : Cx false p s m args meth c cX6_drawn 4 RX6 D cy ad) (hr : meth.sig.returnType = some .int) : ∀ (μ : Mem) (ν : Lem) (x1 : Int32) (x2 : Int32) (x3 : Int32), f6_drawn μ ν x1 x2 x3 = some (r, μ1, ν1) → ∀ (H : Heap) (locs : List Loc), Wd false D cy ad s.heap μ ν H locs → ∀ (ls : Array Slot), lv_has ls 4 [(0, .ref (ad 0)), (1, .int x1), (2, .int x2), (3, .int x3)] → WI false p l e 5 120 s m args below meth c D cy ad .int r μ1 ν1 H locs (F0 m 0 ls []) := by
  have hx := C.1.1
  have hb := C.1.2.1
  have hown := C.1.2.2.2.1
  have hts := C.1.2.2.2.2
  intro μ ν x1 x2 x3 hf H locs X ls hl
  unfold f6_drawn at hf
  refine lv_iload_n hx hb dX6_drawn_0 rfl (lv_at hl 2 rfl) ?_
  refine lv_i2l hx hb dX6_drawn_1 rfl ?_
  refine lv_lconst (v := 1) hx hb dX6_drawn_2 (by decide) ?_
  refine lv_ldc2 (v := (8)) hx hb hown (hts _ k_1310) dX6_drawn_3 ?_
  refine qX6_92 rfl C X hl.1 ((Nat.le_of_ble_eq_true rfl)) ⟨(Nat.le_of_ble_eq_true rfl), (Nat.le_of_ble_eq_true rfl)⟩ ⟨Nat.zero_le _, Nat.zero_le _⟩ dX6_drawn_6 (fun H locs X b6 => ?_)
  refine lv_if_eq (tgt := 30) hx hb dX6_drawn_9 (by decide) (fun c9 => ?_) (fun c9 => ?_)
  · replace hf := ifp c9 hf
    refine lv_bipush (v := (-2)) hx hb dX6_drawn_30 (by decide) ?_
    exact retI C X hr rfl (so3 hf).1 (so3 hf).2.1 (so3 hf).2.2 dX6_drawn_32
  · replace hf := ifn c9 hf
    refine lv_aload_n hx hb dX6_drawn_12 rfl (lv_at hl 0 rfl) ?_
    refine lv_iload_n hx hb dX6_drawn_13 rfl (lv_at hl 3 rfl) ?_
    refine qX6_96 rfl C X hl.1 ((Nat.le_of_ble_eq_true rfl)) ⟨(Nat.le_of_ble_eq_true rfl), (Nat.le_of_ble_eq_true rfl)⟩ ⟨Nat.zero_le _, Nat.zero_le _⟩ dX6_drawn_14 (fun H locs X b14 => ?_)
    refine lv_if_eq (tgt := 30) hx hb dX6_drawn_17 (by decide) (fun c17 => ?_) (fun c17 => ?_)
    · replace hf := ifp c17 hf
      refine lv_bipush (v := (-2)) hx hb dX6_drawn_30 (by decide) ?_
      exact retI C X hr rfl (so3 hf).1 (so3 hf).2.1 (so3 hf).2.2 dX6_drawn_32
    · replace hf := ifn c17 hf
      refine lv_aload_n hx hb dX6_drawn_20 rfl (lv_at hl 0 rfl) ?_
      refine lv_iload_n hx hb dX6_drawn_21 rfl (lv_at hl 1 rfl) ?_
      refine lv_iload_n hx hb dX6_drawn_22 rfl (lv_at hl 2 rfl) ?_
      refine lv_iload_n hx hb dX6_drawn_23 rfl (lv_at hl 3 rfl) ?_
      obtain ⟨r24, μ24, ν24, g24, hf⟩ := bd3_e hf
      refine qX6_415 g24 C X hl.1 ((Nat.le_of_ble_eq_true rfl)) ⟨(Nat.le_of_ble_eq_true rfl), (Nat.le_of_ble_eq_true rfl)⟩ ⟨Nat.zero_le _, Nat.zero_le _⟩ dX6_drawn_24 (fun H locs X b24 => ?_)
      refine lv_goto (tgt := 32) hx hb dX6_drawn_27 (by decide) ?_
      exact retI C X hr rfl (so3 hf).1 (so3 hf).2.1 (so3 hf).2.2 dX6_drawn_32
theorem ct6_drawn {x1 : Int32} {x2 : Int32} {x3 : Int32} {μ : Mem} {ν : Lem} {r : Int32} {μ1 : Mem} {ν1 : Lem} (hg : f6_drawn μ ν x1 x2 x3 = some (r, μ1, ν1)) : CtI false yX6_drawn cX6_drawn 4 5 120 .int (fun ad => [.ref (ad 0), .int x1, .int x2, .int x3]) μ ν r μ1 ν1 :=
  mkI (by decide) rfl (fun ad => Nat.le_of_ble_eq_true rfl) (fun p l e s m args below meth c D cy ad C hr X ls hl => w6_drawn C hr μ ν x1 x2 x3 hg _ _ X _ hl)
theorem qL_109 {p : Program} {l : Launch} {e : Env} {R : Room} {s : State} {m : MethodId} {args : Array Value} {below : List Frame} {meth : Method} {c : Code} {H : Heap} {locs : List Loc} {cells slots : Nat} {Q : State → Prop} {A : Nat → Prop} {cc : ByteArray} {nL : Nat} {D : va_G} {cy : Nat → ClassId} {ad : Nat → Nat} {μ : Mem} {ν : Lem} {pc : Nat} {ls : Array Slot} {rest : List Value} {x1 : Int32} {x2 : Int32} {x3 : Int32} {r : Int32} {μ1 : Mem} {ν1 : Lem} (hg : f6_drawn μ ν x1 x2 x3 = some (r, μ1, ν1)) (C : CxA false A p s m args meth c cc nL RL D cy ad) (X : WdA false A D cy ad s.heap μ ν H locs) (hsz : ls.size = nL) (hrm : (rest.map fun v => v.category).sum ≤ 8) (hR : 5 + 1 ≤ R.frames ∧ 8 + (4 + 11) + 120 ≤ R.locals) (hcs : cells ≤ R.cells ∧ slots ≤ R.slots) (hd : decode cc pc = .ok (.invokevirtual 109, 3)) (kk : ∀ (H1 : Heap) (locs1 : List Loc), WdA false A D cy ad s.heap μ1 ν1 H1 locs1 → narrow .int (.int r) = .int r → W p l e R s m args below meth c H1 locs1 cells slots Q (F0 m (pc + 3) ls (.int r :: rest))) : W p l e R s m args below meth c H locs cells slots Q (F0 m pc ls (.int x3 :: .int x2 :: .int x1 :: .ref (ad 0) :: rest)) :=
  rCVI (As := [.int x1, .int x2, .int x3]) (k := 0) (ct6_drawn hg) ok6 lX6_drawn k_1306 rfl rfl rfl C X rfl hrm hsz hR hcs hd kk
set_option maxRecDepth 100000 in
set_option maxHeartbeats 4000000 in
theorem w6_chance_1 {p : Program} {l : Launch} {e : Env} {s : State} {m : MethodId} {args : Array Value} {below : List Frame} {meth : Method} {c : Code} {D : va_G} {cy : Nat → ClassId} {ad : Nat → Nat} {r : Int64} {μ1 : Mem} {ν1 : Lem} (C : Cx false p s m args meth c cX6_chance 8 RX6 D cy ad) (hr : meth.sig.returnType = some .long) : ∀ (n : Nat), ∀ (μ : Mem) (ν : Lem) (x1 : Int32) (x2 : Int32) (x3 : Int32) (x4 : Int32) (x5 : Int64) (x7 : Int32), f6_chance_1 n μ ν x1 x2 x3 x4 x5 x7 = some (r, μ1, ν1) → ∀ (H : Heap) (locs : List Loc), Wd false D cy ad s.heap μ ν H locs → ∀ (ls : Array Slot), lv_has ls 8 [(0, .ref (ad 0)), (1, .int x1), (2, .int x2), (3, .int x3), (4, .int x4), (5, .long x5), (7, .int x7)] → WL false p l e 5 120 s m args below meth c D cy ad r μ1 ν1 H locs (F0 m 41 ls []) := by
  have hx := C.1.1
  have hb := C.1.2.1
  have hown := C.1.2.2.2.1
  have hts := C.1.2.2.2.2
  intro n
  induction n with
  | zero =>
    intro μ ν x1 x2 x3 x4 x5 x7 hf H locs X ls hl
    rw [f6_chance_1] at hf
    cases hf
  | succ n ih =>
    intro μ ν x1 x2 x3 x4 x5 x7 hf H locs X ls hl
    rw [f6_chance_1] at hf
    refine lv_iload hx hb dX6_chance_41 (lv_at hl 6 rfl) ?_
    refine lv_iload_n hx hb dX6_chance_43 rfl (lv_at hl 2 rfl) ?_
    refine lv_icmp_ge (tgt := 77) hx hb dX6_chance_44 (by decide) (fun c44 => ?_) (fun c44 => ?_)
    · replace hf := ifp c44 hf
      refine lv_lload hx hb dX6_chance_77 (lv_at hl 5 rfl) ?_
      refine lv_iload_n hx hb dX6_chance_79 rfl (lv_at hl 2 rfl) ?_
      refine lv_i2l hx hb dX6_chance_80 rfl ?_
      refine lv_iload hx hb dX6_chance_81 (lv_at hl 4 rfl) ?_
      obtain ⟨r83, g83, hf⟩ := bd1_e hf
      refine qX6_381 g83 C X hl.1 ((Nat.le_of_ble_eq_true rfl)) ⟨(Nat.le_of_ble_eq_true rfl), (Nat.le_of_ble_eq_true rfl)⟩ ⟨Nat.zero_le _, Nat.zero_le _⟩ dX6_chance_83 (fun H locs X => ?_)
      exact retL C X hr (so3 hf).1 (so3 hf).2.1 (so3 hf).2.2 dX6_chance_86
    · replace hf := ifn c44 hf
      refine lv_lload hx hb dX6_chance_47 (lv_at hl 5 rfl) ?_
      refine lv_aload_n hx hb dX6_chance_49 rfl (lv_at hl 0 rfl) ?_
      refine lv_iload_n hx hb dX6_chance_50 rfl (lv_at hl 1 rfl) ?_
      refine lv_iload hx hb dX6_chance_51 (lv_at hl 6 rfl) ?_
      refine lv_iadd hx hb dX6_chance_53 ?_
      refine lv_iconst (v := 4) hx hb dX6_chance_54 (by decide) ?_
      refine lv_iload_n hx hb dX6_chance_55 rfl (lv_at hl 3 rfl) ?_
      obtain ⟨r56, μ56, ν56, g56, hf⟩ := bd3_e hf
      refine qX6_415 g56 C X hl.1 ((Nat.le_of_ble_eq_true rfl)) ⟨(Nat.le_of_ble_eq_true rfl), (Nat.le_of_ble_eq_true rfl)⟩ ⟨Nat.zero_le _, Nat.zero_le _⟩ dX6_chance_56 (fun H locs X b56 => ?_)
      refine lv_iconst (v := (-1)) hx hb dX6_chance_59 (by decide) ?_
      refine lv_icmp_eq (tgt := 67) hx hb dX6_chance_60 (by decide) (fun c60 => ?_) (fun c60 => ?_)
      · replace hf := ifp c60 hf
        refine lv_lconst (v := 0) hx hb dX6_chance_67 (by decide) ?_
        refine lv_ladd hx hb dX6_chance_68 ?_
        obtain ⟨v69, e69, hf⟩ := nm_e2 hf
        refine st_l e69 ?_
        refine lv_lstore (lv' := [(5, .long v69), (0, .ref (ad 0)), (1, .int x1), (2, .int x2), (3, .int x3), (4, .int x4), (7, .int x7)]) hx hb dX6_chance_69 hl (by decide) rfl (fun ls hl => ?_)
        obtain ⟨v71, e71, hf⟩ := nm_e2 hf
        refine rIinc (lv' := [(7, .int v71), (5, .long v69), (0, .ref (ad 0)), (1, .int x1), (2, .int x2), (3, .int x3), (4, .int x4)]) hx hb dX6_chance_71 hl (k := 6) rfl e71 rfl (by decide) rfl (fun ls hl => ?_)
        refine lv_goto (tgt := 41) hx hb dX6_chance_74 (by decide) ?_
        exact ih μ56 ν56 x1 x2 x3 x4 v69 v71 hf _ _ X _ (lv_sub hl [2, 3, 4, 5, 6, 1, 0] rfl)
      · replace hf := ifn c60 hf
        refine lv_lconst (v := 1) hx hb dX6_chance_63 (by decide) ?_
        refine lv_goto (tgt := 68) hx hb dX6_chance_64 (by decide) ?_
        refine lv_ladd hx hb dX6_chance_68 ?_
        obtain ⟨v69, e69, hf⟩ := nm_e2 hf
        refine st_l e69 ?_
        refine lv_lstore (lv' := [(5, .long v69), (0, .ref (ad 0)), (1, .int x1), (2, .int x2), (3, .int x3), (4, .int x4), (7, .int x7)]) hx hb dX6_chance_69 hl (by decide) rfl (fun ls hl => ?_)
        obtain ⟨v71, e71, hf⟩ := nm_e2 hf
        refine rIinc (lv' := [(7, .int v71), (5, .long v69), (0, .ref (ad 0)), (1, .int x1), (2, .int x2), (3, .int x3), (4, .int x4)]) hx hb dX6_chance_71 hl (k := 6) rfl e71 rfl (by decide) rfl (fun ls hl => ?_)
        refine lv_goto (tgt := 41) hx hb dX6_chance_74 (by decide) ?_
        exact ih μ56 ν56 x1 x2 x3 x4 v69 v71 hf _ _ X _ (lv_sub hl [2, 3, 4, 5, 6, 1, 0] rfl)
set_option maxRecDepth 100000 in
set_option maxHeartbeats 4000000 in
theorem w6_chance {p : Program} {l : Launch} {e : Env} {s : State} {m : MethodId} {args : Array Value} {below : List Frame} {meth : Method} {c : Code} {D : va_G} {cy : Nat → ClassId} {ad : Nat → Nat} {r : Int64} {μ1 : Mem} {ν1 : Lem} (C : Cx false p s m args meth c cX6_chance 8 RX6 D cy ad) (hr : meth.sig.returnType = some .long) : ∀ (μ : Mem) (ν : Lem) (x1 : Int32) (x2 : Int32) (x3 : Int32) (x4 : Int32), f6_chance μ ν x1 x2 x3 x4 = some (r, μ1, ν1) → ∀ (H : Heap) (locs : List Loc), Wd false D cy ad s.heap μ ν H locs → ∀ (ls : Array Slot), lv_has ls 8 [(0, .ref (ad 0)), (1, .int x1), (2, .int x2), (3, .int x3), (4, .int x4)] → WL false p l e 5 120 s m args below meth c D cy ad r μ1 ν1 H locs (F0 m 0 ls []) := by
  have hx := C.1.1
  have hb := C.1.2.1
  have hown := C.1.2.2.2.1
  have hts := C.1.2.2.2.2
  intro μ ν x1 x2 x3 x4 hf H locs X ls hl
  unfold f6_chance at hf
  refine lv_iload_n hx hb dX6_chance_0 rfl (lv_at hl 2 rfl) ?_
  refine lv_i2l hx hb dX6_chance_1 rfl ?_
  refine lv_lconst (v := 1) hx hb dX6_chance_2 (by decide) ?_
  refine lv_ldc2 (v := (20)) hx hb hown (hts _ k_1320) dX6_chance_3 ?_
  refine qX6_92 rfl C X hl.1 ((Nat.le_of_ble_eq_true rfl)) ⟨(Nat.le_of_ble_eq_true rfl), (Nat.le_of_ble_eq_true rfl)⟩ ⟨Nat.zero_le _, Nat.zero_le _⟩ dX6_chance_6 (fun H locs X b6 => ?_)
  refine lv_if_eq (tgt := 31) hx hb dX6_chance_9 (by decide) (fun c9 => ?_) (fun c9 => ?_)
  · replace hf := ifp c9 hf
    refine lv_ldc2 (v := (-4611686018427387904)) hx hb hown (hts _ k_1243) dX6_chance_31 ?_
    exact retL C X hr (so3 hf).1 (so3 hf).2.1 (so3 hf).2.2 dX6_chance_34
  · replace hf := ifn c9 hf
    refine lv_aload_n hx hb dX6_chance_12 rfl (lv_at hl 0 rfl) ?_
    refine lv_iload_n hx hb dX6_chance_13 rfl (lv_at hl 3 rfl) ?_
    refine qX6_96 rfl C X hl.1 ((Nat.le_of_ble_eq_true rfl)) ⟨(Nat.le_of_ble_eq_true rfl), (Nat.le_of_ble_eq_true rfl)⟩ ⟨Nat.zero_le _, Nat.zero_le _⟩ dX6_chance_14 (fun H locs X b14 => ?_)
    refine lv_if_eq (tgt := 31) hx hb dX6_chance_17 (by decide) (fun c17 => ?_) (fun c17 => ?_)
    · replace hf := ifp c17 hf
      refine lv_ldc2 (v := (-4611686018427387904)) hx hb hown (hts _ k_1243) dX6_chance_31 ?_
      exact retL C X hr (so3 hf).1 (so3 hf).2.1 (so3 hf).2.2 dX6_chance_34
    · replace hf := ifn c17 hf
      refine lv_iload hx hb dX6_chance_20 (lv_at hl 4 rfl) ?_
      refine lv_i2l hx hb dX6_chance_22 rfl ?_
      refine lv_lconst (v := 0) hx hb dX6_chance_23 (by decide) ?_
      refine lv_lconst (v := 1) hx hb dX6_chance_24 (by decide) ?_
      refine qX6_92 rfl C X hl.1 ((Nat.le_of_ble_eq_true rfl)) ⟨(Nat.le_of_ble_eq_true rfl), (Nat.le_of_ble_eq_true rfl)⟩ ⟨Nat.zero_le _, Nat.zero_le _⟩ dX6_chance_25 (fun H locs X b25 => ?_)
      refine lv_if_ne (tgt := 35) hx hb dX6_chance_28 (by decide) (fun c28 => ?_) (fun c28 => ?_)
      · replace hf := ifn c28 hf
        refine lv_lconst (v := 0) hx hb dX6_chance_35 (by decide) ?_
        refine lv_lstore (lv' := [(5, .long (0 : Int64)), (0, .ref (ad 0)), (1, .int x1), (2, .int x2), (3, .int x3), (4, .int x4)]) hx hb dX6_chance_36 hl (by decide) rfl (fun ls hl => ?_)
        refine lv_iconst (v := 0) hx hb dX6_chance_38 (by decide) ?_
        refine lv_istore (lv' := [(7, .int 0), (5, .long (0 : Int64)), (0, .ref (ad 0)), (1, .int x1), (2, .int x2), (3, .int x3), (4, .int x4)]) hx hb dX6_chance_39 hl (by decide) rfl (fun ls hl => ?_)
        exact w6_chance_1 C hr  FUEL μ ν x1 x2 x3 x4 (0 : Int64) 0 hf _ _ X _ (lv_sub hl [2, 3, 4, 5, 6, 1, 0] rfl)
      · replace hf := ifp c28 hf
        refine lv_ldc2 (v := (-4611686018427387904)) hx hb hown (hts _ k_1243) dX6_chance_31 ?_
        exact retL C X hr (so3 hf).1 (so3 hf).2.1 (so3 hf).2.2 dX6_chance_34
theorem ct6_chance {x1 : Int32} {x2 : Int32} {x3 : Int32} {x4 : Int32} {μ : Mem} {ν : Lem} {r : Int64} {μ1 : Mem} {ν1 : Lem} (hg : f6_chance μ ν x1 x2 x3 x4 = some (r, μ1, ν1)) : CtL false yX6_chance cX6_chance 8 5 120 (fun ad => [.ref (ad 0), .int x1, .int x2, .int x3, .int x4]) μ ν r μ1 ν1 :=
  mkL (by decide) rfl (fun ad => Nat.le_of_ble_eq_true rfl) (fun p l e s m args below meth c D cy ad C hr X ls hl => w6_chance C hr μ ν x1 x2 x3 x4 hg _ _ X _ hl)
theorem qL_114 {p : Program} {l : Launch} {e : Env} {R : Room} {s : State} {m : MethodId} {args : Array Value} {below : List Frame} {meth : Method} {c : Code} {H : Heap} {locs : List Loc} {cells slots : Nat} {Q : State → Prop} {A : Nat → Prop} {cc : ByteArray} {nL : Nat} {D : va_G} {cy : Nat → ClassId} {ad : Nat → Nat} {μ : Mem} {ν : Lem} {pc : Nat} {ls : Array Slot} {rest : List Value} {x1 : Int32} {x2 : Int32} {x3 : Int32} {x4 : Int32} {r : Int64} {μ1 : Mem} {ν1 : Lem} (hg : f6_chance μ ν x1 x2 x3 x4 = some (r, μ1, ν1)) (C : CxA false A p s m args meth c cc nL RL D cy ad) (X : WdA false A D cy ad s.heap μ ν H locs) (hsz : ls.size = nL) (hrm : (rest.map fun v => v.category).sum ≤ 8) (hR : 5 + 1 ≤ R.frames ∧ 8 + (8 + 11) + 120 ≤ R.locals) (hcs : cells ≤ R.cells ∧ slots ≤ R.slots) (hd : decode cc pc = .ok (.invokevirtual 114, 3)) (kk : ∀ (H1 : Heap) (locs1 : List Loc), WdA false A D cy ad s.heap μ1 ν1 H1 locs1 → W p l e R s m args below meth c H1 locs1 cells slots Q (F0 m (pc + 3) ls (.long r :: rest))) : W p l e R s m args below meth c H locs cells slots Q (F0 m pc ls (.int x4 :: .int x3 :: .int x2 :: .int x1 :: .ref (ad 0) :: rest)) :=
  rCVL (As := [.int x1, .int x2, .int x3, .int x4]) (k := 0) (ct6_chance hg) ok6 lX6_chance k_1316 rfl rfl rfl C X rfl hrm hsz hR hcs hd kk
set_option maxRecDepth 100000 in
set_option maxHeartbeats 4000000 in
theorem w6_image_2 {p : Program} {l : Launch} {e : Env} {s : State} {m : MethodId} {args : Array Value} {below : List Frame} {meth : Method} {c : Code} {D : va_G} {cy : Nat → ClassId} {ad : Nat → Nat} {r : Int32} {μ1 : Mem} {ν1 : Lem} (C : Cx false p s m args meth c cX6_image 2 RX6 D cy ad) (hr : meth.sig.returnType = some .int) : ∀ (n : Nat), ∀ (μ : Mem) (ν : Lem) (x1 : Int32), f6_image_2 n μ ν x1 = some (r, μ1, ν1) → ∀ (H : Heap) (locs : List Loc), Wd false D cy ad s.heap μ ν H locs → ∀ (ls : Array Slot), lv_has ls 2 [(0, .ref (ad 0)), (1, .int x1)] → WI false p l e 0 0 s m args below meth c D cy ad .int r μ1 ν1 H locs (F0 m 40 ls []) := by
  have hx := C.1.1
  have hb := C.1.2.1
  have hown := C.1.2.2.2.1
  have hts := C.1.2.2.2.2
  intro n
  induction n with
  | zero =>
    intro μ ν x1 hf H locs X ls hl
    rw [f6_image_2] at hf
    cases hf
  | succ n ih =>
    intro μ ν x1 hf H locs X ls hl
    rw [f6_image_2] at hf
    refine lv_iload_n hx hb dX6_image_40 rfl (lv_at hl 1 rfl) ?_
    refine lv_bipush (v := 6) hx hb dX6_image_41 (by decide) ?_
    refine lv_icmp_ge (tgt := 76) hx hb dX6_image_43 (by decide) (fun c43 => ?_) (fun c43 => ?_)
    · replace hf := ifp c43 hf
      refine lv_aload_n hx hb dX6_image_76 rfl (lv_at hl 0 rfl) ?_
      refine lv_aload_n hx hb dX6_image_77 rfl (lv_at hl 0 rfl) ?_
      refine gfX6_89 C X dX6_image_78 ?_
      obtain ⟨μ81, e81, hf⟩ := nm_e2 hf
      refine pfX6_66 e81 C X dX6_image_81 (fun H locs X => ?_)
      refine lv_aload_n hx hb dX6_image_84 rfl (lv_at hl 0 rfl) ?_
      refine lv_aload_n hx hb dX6_image_85 rfl (lv_at hl 0 rfl) ?_
      refine gfX6_23 C X dX6_image_86 ?_
      obtain ⟨μ89, e89, hf⟩ := nm_e2 hf
      refine pfX6_420 e89 C X dX6_image_89 (fun H locs X => ?_)
      refine lv_aload_n hx hb dX6_image_92 rfl (lv_at hl 0 rfl) ?_
      refine lv_aload_n hx hb dX6_image_93 rfl (lv_at hl 0 rfl) ?_
      refine gfX6_332 C X dX6_image_94 ?_
      obtain ⟨μ97, e97, hf⟩ := nm_e2 hf
      refine pfX6_423 e97 C X dX6_image_97 (fun H locs X => ?_)
      refine lv_aload_n hx hb dX6_image_100 rfl (lv_at hl 0 rfl) ?_
      refine gfX6_89 C X dX6_image_101 ?_
      exact retI C X hr rfl (so3 hf).1 (so3 hf).2.1 (so3 hf).2.2 dX6_image_104
    · replace hf := ifn c43 hf
      refine lv_aload_n hx hb dX6_image_46 rfl (lv_at hl 0 rfl) ?_
      refine gfX6_54 C X dX6_image_47 ?_
      refine lv_iload_n hx hb dX6_image_50 rfl (lv_at hl 1 rfl) ?_
      refine lv_aload_n hx hb dX6_image_51 rfl (lv_at hl 0 rfl) ?_
      refine gfX6_29 C X dX6_image_52 ?_
      refine lv_iload_n hx hb dX6_image_55 rfl (lv_at hl 1 rfl) ?_
      obtain ⟨h56, hf⟩ := gd_e hf
      refine rIald C X rfl h56 dX6_image_56 ?_
      obtain ⟨h57, hf⟩ := gd_e hf
      obtain ⟨μ57, e57, hf⟩ := nm_e2 hf
      refine rIast2 C X rfl h57 e57 dX6_image_57 (fun H locs X => ?_)
      refine lv_aload_n hx hb dX6_image_58 rfl (lv_at hl 0 rfl) ?_
      refine gfX6_63 C X dX6_image_59 ?_
      refine lv_iload_n hx hb dX6_image_62 rfl (lv_at hl 1 rfl) ?_
      refine lv_aload_n hx hb dX6_image_63 rfl (lv_at hl 0 rfl) ?_
      refine gfX6_38 C X dX6_image_64 ?_
      refine lv_iload_n hx hb dX6_image_67 rfl (lv_at hl 1 rfl) ?_
      obtain ⟨h68, hf⟩ := gd_e hf
      refine rIald C X rfl h68 dX6_image_68 ?_
      obtain ⟨h69, hf⟩ := gd_e hf
      obtain ⟨μ69, e69, hf⟩ := nm_e2 hf
      refine rIast2 C X rfl h69 e69 dX6_image_69 (fun H locs X => ?_)
      obtain ⟨v70, e70, hf⟩ := nm_e2 hf
      refine rIinc (lv' := [(1, .int v70), (0, .ref (ad 0))]) hx hb dX6_image_70 hl (k := 1) rfl e70 rfl (by decide) rfl (fun ls hl => ?_)
      refine lv_goto (tgt := 40) hx hb dX6_image_73 (by decide) ?_
      exact ih μ69 ν v70 hf _ _ X _ (lv_sub hl [1, 0] rfl)
set_option maxRecDepth 100000 in
set_option maxHeartbeats 4000000 in
theorem w6_image_1 {p : Program} {l : Launch} {e : Env} {s : State} {m : MethodId} {args : Array Value} {below : List Frame} {meth : Method} {c : Code} {D : va_G} {cy : Nat → ClassId} {ad : Nat → Nat} {r : Int32} {μ1 : Mem} {ν1 : Lem} (C : Cx false p s m args meth c cX6_image 2 RX6 D cy ad) (hr : meth.sig.returnType = some .int) : ∀ (n : Nat), ∀ (μ : Mem) (ν : Lem) (x1 : Int32), f6_image_1 n μ ν x1 = some (r, μ1, ν1) → ∀ (H : Heap) (locs : List Loc), Wd false D cy ad s.heap μ ν H locs → ∀ (ls : Array Slot), lv_has ls 2 [(0, .ref (ad 0)), (1, .int x1)] → WI false p l e 0 0 s m args below meth c D cy ad .int r μ1 ν1 H locs (F0 m 2 ls []) := by
  have hx := C.1.1
  have hb := C.1.2.1
  have hown := C.1.2.2.2.1
  have hts := C.1.2.2.2.2
  intro n
  induction n with
  | zero =>
    intro μ ν x1 hf H locs X ls hl
    rw [f6_image_1] at hf
    cases hf
  | succ n ih =>
    intro μ ν x1 hf H locs X ls hl
    rw [f6_image_1] at hf
    refine lv_iload_n hx hb dX6_image_2 rfl (lv_at hl 1 rfl) ?_
    refine lv_bipush (v := 48) hx hb dX6_image_3 (by decide) ?_
    refine lv_icmp_ge (tgt := 38) hx hb dX6_image_5 (by decide) (fun c5 => ?_) (fun c5 => ?_)
    · replace hf := ifp c5 hf
      refine lv_iconst (v := 0) hx hb dX6_image_38 (by decide) ?_
      refine lv_istore_n (lv' := [(1, .int 0), (0, .ref (ad 0))]) hx hb dX6_image_39 rfl hl (by decide) rfl (fun ls hl => ?_)
      exact w6_image_2 C hr  FUEL μ ν 0 hf _ _ X _ (lv_sub hl [1, 0] rfl)
    · replace hf := ifn c5 hf
      refine lv_aload_n hx hb dX6_image_8 rfl (lv_at hl 0 rfl) ?_
      refine gfX6_57 C X dX6_image_9 ?_
      refine lv_iload_n hx hb dX6_image_12 rfl (lv_at hl 1 rfl) ?_
      refine lv_aload_n hx hb dX6_image_13 rfl (lv_at hl 0 rfl) ?_
      refine gfX6_32 C X dX6_image_14 ?_
      refine lv_iload_n hx hb dX6_image_17 rfl (lv_at hl 1 rfl) ?_
      obtain ⟨h18, hf⟩ := gd_e hf
      refine rIald C X rfl h18 dX6_image_18 ?_
      obtain ⟨h19, hf⟩ := gd_e hf
      obtain ⟨μ19, e19, hf⟩ := nm_e2 hf
      refine rIast2 C X rfl h19 e19 dX6_image_19 (fun H locs X => ?_)
      refine lv_aload_n hx hb dX6_image_20 rfl (lv_at hl 0 rfl) ?_
      refine gfX6_60 C X dX6_image_21 ?_
      refine lv_iload_n hx hb dX6_image_24 rfl (lv_at hl 1 rfl) ?_
      refine lv_aload_n hx hb dX6_image_25 rfl (lv_at hl 0 rfl) ?_
      refine gfX6_35 C X dX6_image_26 ?_
      refine lv_iload_n hx hb dX6_image_29 rfl (lv_at hl 1 rfl) ?_
      obtain ⟨h30, hf⟩ := gd_e hf
      refine rIald C X rfl h30 dX6_image_30 ?_
      obtain ⟨h31, hf⟩ := gd_e hf
      obtain ⟨μ31, e31, hf⟩ := nm_e2 hf
      refine rIast2 C X rfl h31 e31 dX6_image_31 (fun H locs X => ?_)
      obtain ⟨v32, e32, hf⟩ := nm_e2 hf
      refine rIinc (lv' := [(1, .int v32), (0, .ref (ad 0))]) hx hb dX6_image_32 hl (k := 1) rfl e32 rfl (by decide) rfl (fun ls hl => ?_)
      refine lv_goto (tgt := 2) hx hb dX6_image_35 (by decide) ?_
      exact ih μ31 ν v32 hf _ _ X _ (lv_sub hl [1, 0] rfl)
set_option maxRecDepth 100000 in
set_option maxHeartbeats 4000000 in
theorem w6_image {p : Program} {l : Launch} {e : Env} {s : State} {m : MethodId} {args : Array Value} {below : List Frame} {meth : Method} {c : Code} {D : va_G} {cy : Nat → ClassId} {ad : Nat → Nat} {r : Int32} {μ1 : Mem} {ν1 : Lem} (C : Cx false p s m args meth c cX6_image 2 RX6 D cy ad) (hr : meth.sig.returnType = some .int) : ∀ (μ : Mem) (ν : Lem), f6_image μ ν = some (r, μ1, ν1) → ∀ (H : Heap) (locs : List Loc), Wd false D cy ad s.heap μ ν H locs → ∀ (ls : Array Slot), lv_has ls 2 [(0, .ref (ad 0))] → WI false p l e 0 0 s m args below meth c D cy ad .int r μ1 ν1 H locs (F0 m 0 ls []) := by
  have hx := C.1.1
  have hb := C.1.2.1
  have hown := C.1.2.2.2.1
  have hts := C.1.2.2.2.2
  intro μ ν hf H locs X ls hl
  unfold f6_image at hf
  refine lv_iconst (v := 0) hx hb dX6_image_0 (by decide) ?_
  refine lv_istore_n (lv' := [(1, .int 0), (0, .ref (ad 0))]) hx hb dX6_image_1 rfl hl (by decide) rfl (fun ls hl => ?_)
  exact w6_image_1 C hr  FUEL μ ν 0 hf _ _ X _ (lv_sub hl [1, 0] rfl)
theorem ct6_image {μ : Mem} {ν : Lem} {r : Int32} {μ1 : Mem} {ν1 : Lem} (hg : f6_image μ ν = some (r, μ1, ν1)) : CtI false yX6_image cX6_image 2 0 0 .int (fun ad => [.ref (ad 0)]) μ ν r μ1 ν1 :=
  mkI (by decide) rfl (fun ad => Nat.le_of_ble_eq_true rfl) (fun p l e s m args below meth c D cy ad C hr X ls hl => w6_image C hr μ ν hg _ _ X _ hl)
theorem qL_118 {p : Program} {l : Launch} {e : Env} {R : Room} {s : State} {m : MethodId} {args : Array Value} {below : List Frame} {meth : Method} {c : Code} {H : Heap} {locs : List Loc} {cells slots : Nat} {Q : State → Prop} {A : Nat → Prop} {cc : ByteArray} {nL : Nat} {D : va_G} {cy : Nat → ClassId} {ad : Nat → Nat} {μ : Mem} {ν : Lem} {pc : Nat} {ls : Array Slot} {rest : List Value} {r : Int32} {μ1 : Mem} {ν1 : Lem} (hg : f6_image μ ν = some (r, μ1, ν1)) (C : CxA false A p s m args meth c cc nL RL D cy ad) (X : WdA false A D cy ad s.heap μ ν H locs) (hsz : ls.size = nL) (hrm : (rest.map fun v => v.category).sum ≤ 8) (hR : 0 + 1 ≤ R.frames ∧ 8 + (2 + 11) + 0 ≤ R.locals) (hcs : cells ≤ R.cells ∧ slots ≤ R.slots) (hd : decode cc pc = .ok (.invokevirtual 118, 3)) (kk : ∀ (H1 : Heap) (locs1 : List Loc), WdA false A D cy ad s.heap μ1 ν1 H1 locs1 → narrow .int (.int r) = .int r → W p l e R s m args below meth c H1 locs1 cells slots Q (F0 m (pc + 3) ls (.int r :: rest))) : W p l e R s m args below meth c H locs cells slots Q (F0 m pc ls (.ref (ad 0) :: rest)) :=
  rCVI (As := []) (k := 0) (ct6_image hg) ok6 lX6_image k_1321 rfl rfl rfl C X rfl hrm hsz hR hcs hd kk
set_option maxRecDepth 100000 in
set_option maxHeartbeats 4000000 in
theorem w6_back_2 {p : Program} {l : Launch} {e : Env} {s : State} {m : MethodId} {args : Array Value} {below : List Frame} {meth : Method} {c : Code} {D : va_G} {cy : Nat → ClassId} {ad : Nat → Nat} {r : Int32} {μ1 : Mem} {ν1 : Lem} (C : Cx false p s m args meth c cX6_back 2 RX6 D cy ad) (hr : meth.sig.returnType = some .int) : ∀ (n : Nat), ∀ (μ : Mem) (ν : Lem) (x1 : Int32), f6_back_2 n μ ν x1 = some (r, μ1, ν1) → ∀ (H : Heap) (locs : List Loc), Wd false D cy ad s.heap μ ν H locs → ∀ (ls : Array Slot), lv_has ls 2 [(0, .ref (ad 0)), (1, .int x1)] → WI false p l e 0 0 s m args below meth c D cy ad .int r μ1 ν1 H locs (F0 m 51 ls []) := by
  have hx := C.1.1
  have hb := C.1.2.1
  have hown := C.1.2.2.2.1
  have hts := C.1.2.2.2.2
  intro n
  induction n with
  | zero =>
    intro μ ν x1 hf H locs X ls hl
    rw [f6_back_2] at hf
    cases hf
  | succ n ih =>
    intro μ ν x1 hf H locs X ls hl
    rw [f6_back_2] at hf
    refine lv_iload_n hx hb dX6_back_51 rfl (lv_at hl 1 rfl) ?_
    refine lv_bipush (v := 6) hx hb dX6_back_52 (by decide) ?_
    refine lv_icmp_ge (tgt := 87) hx hb dX6_back_54 (by decide) (fun c54 => ?_) (fun c54 => ?_)
    · replace hf := ifp c54 hf
      refine lv_aload_n hx hb dX6_back_87 rfl (lv_at hl 0 rfl) ?_
      refine lv_aload_n hx hb dX6_back_88 rfl (lv_at hl 0 rfl) ?_
      refine gfX6_66 C X dX6_back_89 ?_
      obtain ⟨μ92, e92, hf⟩ := nm_e2 hf
      refine pfX6_89 e92 C X dX6_back_92 (fun H locs X => ?_)
      refine lv_aload_n hx hb dX6_back_95 rfl (lv_at hl 0 rfl) ?_
      refine lv_aload_n hx hb dX6_back_96 rfl (lv_at hl 0 rfl) ?_
      refine gfX6_420 C X dX6_back_97 ?_
      obtain ⟨μ100, e100, hf⟩ := nm_e2 hf
      refine pfX6_23 e100 C X dX6_back_100 (fun H locs X => ?_)
      refine lv_aload_n hx hb dX6_back_103 rfl (lv_at hl 0 rfl) ?_
      refine lv_aload_n hx hb dX6_back_104 rfl (lv_at hl 0 rfl) ?_
      refine gfX6_423 C X dX6_back_105 ?_
      obtain ⟨μ108, e108, hf⟩ := nm_e2 hf
      refine pfX6_332 e108 C X dX6_back_108 (fun H locs X => ?_)
      refine lv_aload_n hx hb dX6_back_111 rfl (lv_at hl 0 rfl) ?_
      refine gfX6_89 C X dX6_back_112 ?_
      exact retI C X hr rfl (so3 hf).1 (so3 hf).2.1 (so3 hf).2.2 dX6_back_115
    · replace hf := ifn c54 hf
      refine lv_aload_n hx hb dX6_back_57 rfl (lv_at hl 0 rfl) ?_
      refine gfX6_29 C X dX6_back_58 ?_
      refine lv_iload_n hx hb dX6_back_61 rfl (lv_at hl 1 rfl) ?_
      refine lv_aload_n hx hb dX6_back_62 rfl (lv_at hl 0 rfl) ?_
      refine gfX6_54 C X dX6_back_63 ?_
      refine lv_iload_n hx hb dX6_back_66 rfl (lv_at hl 1 rfl) ?_
      obtain ⟨h67, hf⟩ := gd_e hf
      refine rIald C X rfl h67 dX6_back_67 ?_
      obtain ⟨h68, hf⟩ := gd_e hf
      obtain ⟨μ68, e68, hf⟩ := nm_e2 hf
      refine rIast2 C X rfl h68 e68 dX6_back_68 (fun H locs X => ?_)
      refine lv_aload_n hx hb dX6_back_69 rfl (lv_at hl 0 rfl) ?_
      refine gfX6_38 C X dX6_back_70 ?_
      refine lv_iload_n hx hb dX6_back_73 rfl (lv_at hl 1 rfl) ?_
      refine lv_aload_n hx hb dX6_back_74 rfl (lv_at hl 0 rfl) ?_
      refine gfX6_63 C X dX6_back_75 ?_
      refine lv_iload_n hx hb dX6_back_78 rfl (lv_at hl 1 rfl) ?_
      obtain ⟨h79, hf⟩ := gd_e hf
      refine rIald C X rfl h79 dX6_back_79 ?_
      obtain ⟨h80, hf⟩ := gd_e hf
      obtain ⟨μ80, e80, hf⟩ := nm_e2 hf
      refine rIast2 C X rfl h80 e80 dX6_back_80 (fun H locs X => ?_)
      obtain ⟨v81, e81, hf⟩ := nm_e2 hf
      refine rIinc (lv' := [(1, .int v81), (0, .ref (ad 0))]) hx hb dX6_back_81 hl (k := 1) rfl e81 rfl (by decide) rfl (fun ls hl => ?_)
      refine lv_goto (tgt := 51) hx hb dX6_back_84 (by decide) ?_
      exact ih μ80 ν v81 hf _ _ X _ (lv_sub hl [1, 0] rfl)
set_option maxRecDepth 100000 in
set_option maxHeartbeats 4000000 in
theorem w6_back_1 {p : Program} {l : Launch} {e : Env} {s : State} {m : MethodId} {args : Array Value} {below : List Frame} {meth : Method} {c : Code} {D : va_G} {cy : Nat → ClassId} {ad : Nat → Nat} {r : Int32} {μ1 : Mem} {ν1 : Lem} (C : Cx false p s m args meth c cX6_back 2 RX6 D cy ad) (hr : meth.sig.returnType = some .int) : ∀ (n : Nat), ∀ (μ : Mem) (ν : Lem) (x1 : Int32), f6_back_1 n μ ν x1 = some (r, μ1, ν1) → ∀ (H : Heap) (locs : List Loc), Wd false D cy ad s.heap μ ν H locs → ∀ (ls : Array Slot), lv_has ls 2 [(0, .ref (ad 0)), (1, .int x1)] → WI false p l e 0 0 s m args below meth c D cy ad .int r μ1 ν1 H locs (F0 m 13 ls []) := by
  have hx := C.1.1
  have hb := C.1.2.1
  have hown := C.1.2.2.2.1
  have hts := C.1.2.2.2.2
  intro n
  induction n with
  | zero =>
    intro μ ν x1 hf H locs X ls hl
    rw [f6_back_1] at hf
    cases hf
  | succ n ih =>
    intro μ ν x1 hf H locs X ls hl
    rw [f6_back_1] at hf
    refine lv_iload_n hx hb dX6_back_13 rfl (lv_at hl 1 rfl) ?_
    refine lv_bipush (v := 48) hx hb dX6_back_14 (by decide) ?_
    refine lv_icmp_ge (tgt := 49) hx hb dX6_back_16 (by decide) (fun c16 => ?_) (fun c16 => ?_)
    · replace hf := ifp c16 hf
      refine lv_iconst (v := 0) hx hb dX6_back_49 (by decide) ?_
      refine lv_istore_n (lv' := [(1, .int 0), (0, .ref (ad 0))]) hx hb dX6_back_50 rfl hl (by decide) rfl (fun ls hl => ?_)
      exact w6_back_2 C hr  FUEL μ ν 0 hf _ _ X _ (lv_sub hl [1, 0] rfl)
    · replace hf := ifn c16 hf
      refine lv_aload_n hx hb dX6_back_19 rfl (lv_at hl 0 rfl) ?_
      refine gfX6_32 C X dX6_back_20 ?_
      refine lv_iload_n hx hb dX6_back_23 rfl (lv_at hl 1 rfl) ?_
      refine lv_aload_n hx hb dX6_back_24 rfl (lv_at hl 0 rfl) ?_
      refine gfX6_57 C X dX6_back_25 ?_
      refine lv_iload_n hx hb dX6_back_28 rfl (lv_at hl 1 rfl) ?_
      obtain ⟨h29, hf⟩ := gd_e hf
      refine rIald C X rfl h29 dX6_back_29 ?_
      obtain ⟨h30, hf⟩ := gd_e hf
      obtain ⟨μ30, e30, hf⟩ := nm_e2 hf
      refine rIast2 C X rfl h30 e30 dX6_back_30 (fun H locs X => ?_)
      refine lv_aload_n hx hb dX6_back_31 rfl (lv_at hl 0 rfl) ?_
      refine gfX6_35 C X dX6_back_32 ?_
      refine lv_iload_n hx hb dX6_back_35 rfl (lv_at hl 1 rfl) ?_
      refine lv_aload_n hx hb dX6_back_36 rfl (lv_at hl 0 rfl) ?_
      refine gfX6_60 C X dX6_back_37 ?_
      refine lv_iload_n hx hb dX6_back_40 rfl (lv_at hl 1 rfl) ?_
      obtain ⟨h41, hf⟩ := gd_e hf
      refine rIald C X rfl h41 dX6_back_41 ?_
      obtain ⟨h42, hf⟩ := gd_e hf
      obtain ⟨μ42, e42, hf⟩ := nm_e2 hf
      refine rIast2 C X rfl h42 e42 dX6_back_42 (fun H locs X => ?_)
      obtain ⟨v43, e43, hf⟩ := nm_e2 hf
      refine rIinc (lv' := [(1, .int v43), (0, .ref (ad 0))]) hx hb dX6_back_43 hl (k := 1) rfl e43 rfl (by decide) rfl (fun ls hl => ?_)
      refine lv_goto (tgt := 13) hx hb dX6_back_46 (by decide) ?_
      exact ih μ42 ν v43 hf _ _ X _ (lv_sub hl [1, 0] rfl)
set_option maxRecDepth 100000 in
set_option maxHeartbeats 4000000 in
theorem w6_back {p : Program} {l : Launch} {e : Env} {s : State} {m : MethodId} {args : Array Value} {below : List Frame} {meth : Method} {c : Code} {D : va_G} {cy : Nat → ClassId} {ad : Nat → Nat} {r : Int32} {μ1 : Mem} {ν1 : Lem} (C : Cx false p s m args meth c cX6_back 2 RX6 D cy ad) (hr : meth.sig.returnType = some .int) : ∀ (μ : Mem) (ν : Lem), f6_back μ ν = some (r, μ1, ν1) → ∀ (H : Heap) (locs : List Loc), Wd false D cy ad s.heap μ ν H locs → ∀ (ls : Array Slot), lv_has ls 2 [(0, .ref (ad 0))] → WI false p l e 0 0 s m args below meth c D cy ad .int r μ1 ν1 H locs (F0 m 0 ls []) := by
  have hx := C.1.1
  have hb := C.1.2.1
  have hown := C.1.2.2.2.1
  have hts := C.1.2.2.2.2
  intro μ ν hf H locs X ls hl
  unfold f6_back at hf
  refine lv_aload_n hx hb dX6_back_0 rfl (lv_at hl 0 rfl) ?_
  refine gfX6_66 C X dX6_back_1 ?_
  refine lv_iconst (v := (-1)) hx hb dX6_back_4 (by decide) ?_
  refine lv_icmp_ne (tgt := 11) hx hb dX6_back_5 (by decide) (fun c5 => ?_) (fun c5 => ?_)
  · replace hf := ifn c5 hf
    refine lv_iconst (v := 0) hx hb dX6_back_11 (by decide) ?_
    refine lv_istore_n (lv' := [(1, .int 0), (0, .ref (ad 0))]) hx hb dX6_back_12 rfl hl (by decide) rfl (fun ls hl => ?_)
    exact w6_back_1 C hr  FUEL μ ν 0 hf _ _ X _ (lv_sub hl [1, 0] rfl)
  · replace hf := ifp c5 hf
    refine lv_bipush (v := (-3)) hx hb dX6_back_8 (by decide) ?_
    exact retI C X hr rfl (so3 hf).1 (so3 hf).2.1 (so3 hf).2.2 dX6_back_10
theorem ct6_back {μ : Mem} {ν : Lem} {r : Int32} {μ1 : Mem} {ν1 : Lem} (hg : f6_back μ ν = some (r, μ1, ν1)) : CtI false yX6_back cX6_back 2 0 0 .int (fun ad => [.ref (ad 0)]) μ ν r μ1 ν1 :=
  mkI (by decide) rfl (fun ad => Nat.le_of_ble_eq_true rfl) (fun p l e s m args below meth c D cy ad C hr X ls hl => w6_back C hr μ ν hg _ _ X _ hl)
theorem qL_122 {p : Program} {l : Launch} {e : Env} {R : Room} {s : State} {m : MethodId} {args : Array Value} {below : List Frame} {meth : Method} {c : Code} {H : Heap} {locs : List Loc} {cells slots : Nat} {Q : State → Prop} {A : Nat → Prop} {cc : ByteArray} {nL : Nat} {D : va_G} {cy : Nat → ClassId} {ad : Nat → Nat} {μ : Mem} {ν : Lem} {pc : Nat} {ls : Array Slot} {rest : List Value} {r : Int32} {μ1 : Mem} {ν1 : Lem} (hg : f6_back μ ν = some (r, μ1, ν1)) (C : CxA false A p s m args meth c cc nL RL D cy ad) (X : WdA false A D cy ad s.heap μ ν H locs) (hsz : ls.size = nL) (hrm : (rest.map fun v => v.category).sum ≤ 8) (hR : 0 + 1 ≤ R.frames ∧ 8 + (2 + 11) + 0 ≤ R.locals) (hcs : cells ≤ R.cells ∧ slots ≤ R.slots) (hd : decode cc pc = .ok (.invokevirtual 122, 3)) (kk : ∀ (H1 : Heap) (locs1 : List Loc), WdA false A D cy ad s.heap μ1 ν1 H1 locs1 → narrow .int (.int r) = .int r → W p l e R s m args below meth c H1 locs1 cells slots Q (F0 m (pc + 3) ls (.int r :: rest))) : W p l e R s m args below meth c H locs cells slots Q (F0 m pc ls (.ref (ad 0) :: rest)) :=
  rCVI (As := []) (k := 0) (ct6_back hg) ok6 lX6_back k_1325 rfl rfl rfl C X rfl hrm hsz hR hcs hd kk
set_option maxRecDepth 100000 in
set_option maxHeartbeats 4000000 in
theorem w6_count_1 {p : Program} {l : Launch} {e : Env} {s : State} {m : MethodId} {args : Array Value} {below : List Frame} {meth : Method} {c : Code} {D : va_G} {cy : Nat → ClassId} {ad : Nat → Nat} {r : Int32} {μ : Mem} {ν : Lem} (C : Cx false p s m args meth c cX6_count 4 RX6 D cy ad) (hr : meth.sig.returnType = some .int) : ∀ (n : Nat), ∀ (x1 : Int32) (x2 : Int32) (x3 : Int32), f6_count_1 μ ν n x1 x2 x3 = some r → ∀ (H : Heap) (locs : List Loc), Wd false D cy ad s.heap μ ν H locs → ∀ (ls : Array Slot), lv_has ls 4 [(0, .ref (ad 0)), (1, .int x1), (2, .int x2), (3, .int x3)] → WI false p l e 1 25 s m args below meth c D cy ad .int r μ ν H locs (F0 m 53 ls []) := by
  have hx := C.1.1
  have hb := C.1.2.1
  have hown := C.1.2.2.2.1
  have hts := C.1.2.2.2.2
  intro n
  induction n with
  | zero =>
    intro x1 x2 x3 hf H locs X ls hl
    rw [f6_count_1] at hf
    cases hf
  | succ n ih =>
    intro x1 x2 x3 hf H locs X ls hl
    rw [f6_count_1] at hf
    refine lv_iload_n hx hb dX6_count_53 rfl (lv_at hl 3 rfl) ?_
    refine lv_aload_n hx hb dX6_count_54 rfl (lv_at hl 0 rfl) ?_
    refine gfX6_89 C X dX6_count_55 ?_
    refine lv_icmp_ge (tgt := 76) hx hb dX6_count_58 (by decide) (fun c58 => ?_) (fun c58 => ?_)
    · replace hf := ifp c58 hf
      refine lv_iload_n hx hb dX6_count_76 rfl (lv_at hl 1 rfl) ?_
      refine lv_if_ne (tgt := 87) hx hb dX6_count_77 (by decide) (fun c77 => ?_) (fun c77 => ?_)
      · replace hf := ifn c77 hf
        refine lv_iload_n hx hb dX6_count_87 rfl (lv_at hl 1 rfl) ?_
        refine lv_iconst (v := 1) hx hb dX6_count_88 (by decide) ?_
        refine lv_icmp_ne (tgt := 99) hx hb dX6_count_89 (by decide) (fun c89 => ?_) (fun c89 => ?_)
        · replace hf := ifn c89 hf
          refine lv_iload_n hx hb dX6_count_99 rfl (lv_at hl 2 rfl) ?_
          exact retI C X hr rfl (Option.some.inj hf) rfl rfl dX6_count_100
        · replace hf := ifp c89 hf
          refine lv_aload_n hx hb dX6_count_92 rfl (lv_at hl 0 rfl) ?_
          refine gfX6_23 C X dX6_count_93 ?_
          refine lv_goto (tgt := 100) hx hb dX6_count_96 (by decide) ?_
          exact retI C X hr rfl (Option.some.inj hf) rfl rfl dX6_count_100
      · replace hf := ifp c77 hf
        refine lv_aload_n hx hb dX6_count_80 rfl (lv_at hl 0 rfl) ?_
        refine gfX6_89 C X dX6_count_81 ?_
        refine lv_goto (tgt := 100) hx hb dX6_count_84 (by decide) ?_
        exact retI C X hr rfl (Option.some.inj hf) rfl rfl dX6_count_100
    · replace hf := ifn c58 hf
      refine lv_iload_n hx hb dX6_count_61 rfl (lv_at hl 2 rfl) ?_
      refine lv_aload_n hx hb dX6_count_62 rfl (lv_at hl 0 rfl) ?_
      refine gfX6_38 C X dX6_count_63 ?_
      refine lv_iload_n hx hb dX6_count_66 rfl (lv_at hl 3 rfl) ?_
      obtain ⟨h67, hf⟩ := gd_e hf
      refine rIald C X rfl h67 dX6_count_67 ?_
      refine lv_iadd hx hb dX6_count_68 ?_
      obtain ⟨v69, e69, hf⟩ := nm_e2 hf
      refine st_i e69 ?_
      refine lv_istore_n (lv' := [(2, .int v69), (0, .ref (ad 0)), (1, .int x1), (3, .int x3)]) hx hb dX6_count_69 rfl hl (by decide) rfl (fun ls hl => ?_)
      obtain ⟨v70, e70, hf⟩ := nm_e2 hf
      refine rIinc (lv' := [(3, .int v70), (2, .int v69), (0, .ref (ad 0)), (1, .int x1)]) hx hb dX6_count_70 hl (k := 3) rfl e70 rfl (by decide) rfl (fun ls hl => ?_)
      refine lv_goto (tgt := 53) hx hb dX6_count_73 (by decide) ?_
      exact ih x1 v69 v70 hf _ _ X _ (lv_sub hl [2, 3, 1, 0] rfl)
set_option maxRecDepth 100000 in
set_option maxHeartbeats 4000000 in
theorem w6_count {p : Program} {l : Launch} {e : Env} {s : State} {m : MethodId} {args : Array Value} {below : List Frame} {meth : Method} {c : Code} {D : va_G} {cy : Nat → ClassId} {ad : Nat → Nat} {r : Int32} {μ : Mem} {ν : Lem} (C : Cx false p s m args meth c cX6_count 4 RX6 D cy ad) (hr : meth.sig.returnType = some .int) : ∀ (x1 : Int32), f6_count μ ν x1 = some r → ∀ (H : Heap) (locs : List Loc), Wd false D cy ad s.heap μ ν H locs → ∀ (ls : Array Slot), lv_has ls 4 [(0, .ref (ad 0)), (1, .int x1)] → WI false p l e 1 25 s m args below meth c D cy ad .int r μ ν H locs (F0 m 0 ls []) := by
  have hx := C.1.1
  have hb := C.1.2.1
  have hown := C.1.2.2.2.1
  have hts := C.1.2.2.2.2
  intro x1 hf H locs X ls hl
  unfold f6_count at hf
  refine lv_iload_n hx hb dX6_count_0 rfl (lv_at hl 1 rfl) ?_
  refine lv_i2l hx hb dX6_count_1 rfl ?_
  refine lv_lconst (v := 0) hx hb dX6_count_2 (by decide) ?_
  refine lv_ldc2 (v := (5)) hx hb hown (hts _ k_939) dX6_count_3 ?_
  refine qX6_92 rfl C X hl.1 ((Nat.le_of_ble_eq_true rfl)) ⟨(Nat.le_of_ble_eq_true rfl), (Nat.le_of_ble_eq_true rfl)⟩ ⟨Nat.zero_le _, Nat.zero_le _⟩ dX6_count_6 (fun H locs X b6 => ?_)
  refine lv_if_ne (tgt := 15) hx hb dX6_count_9 (by decide) (fun c9 => ?_) (fun c9 => ?_)
  · replace hf := ifn c9 hf
    refine lv_iload_n hx hb dX6_count_15 rfl (lv_at hl 1 rfl) ?_
    refine lv_iconst (v := 2) hx hb dX6_count_16 (by decide) ?_
    refine lv_icmp_le (tgt := 49) hx hb dX6_count_17 (by decide) (fun c17 => ?_) (fun c17 => ?_)
    · replace hf := ifp c17 hf
      refine lv_iconst (v := 0) hx hb dX6_count_49 (by decide) ?_
      refine lv_istore_n (lv' := [(2, .int 0), (0, .ref (ad 0)), (1, .int x1)]) hx hb dX6_count_50 rfl hl (by decide) rfl (fun ls hl => ?_)
      refine lv_iconst (v := 0) hx hb dX6_count_51 (by decide) ?_
      refine lv_istore_n (lv' := [(3, .int 0), (2, .int 0), (0, .ref (ad 0)), (1, .int x1)]) hx hb dX6_count_52 rfl hl (by decide) rfl (fun ls hl => ?_)
      exact w6_count_1 C hr  FUEL x1 0 0 hf _ _ X _ (lv_sub hl [2, 3, 1, 0] rfl)
    · replace hf := ifn c17 hf
      refine lv_iload_n hx hb dX6_count_20 rfl (lv_at hl 1 rfl) ?_
      refine lv_iconst (v := 3) hx hb dX6_count_21 (by decide) ?_
      refine lv_icmp_ne (tgt := 32) hx hb dX6_count_22 (by decide) (fun c22 => ?_) (fun c22 => ?_)
      · replace hf := ifn c22 hf
        refine lv_iload_n hx hb dX6_count_32 rfl (lv_at hl 1 rfl) ?_
        refine lv_iconst (v := 4) hx hb dX6_count_33 (by decide) ?_
        refine lv_icmp_ne (tgt := 44) hx hb dX6_count_34 (by decide) (fun c34 => ?_) (fun c34 => ?_)
        · replace hf := ifn c34 hf
          refine lv_aload_n hx hb dX6_count_44 rfl (lv_at hl 0 rfl) ?_
          refine gfX6_332 C X dX6_count_45 ?_
          exact retI C X hr rfl (Option.some.inj hf) rfl rfl dX6_count_48
        · replace hf := ifp c34 hf
          refine lv_aload_n hx hb dX6_count_37 rfl (lv_at hl 0 rfl) ?_
          refine gfX6_126 C X dX6_count_38 ?_
          refine lv_goto (tgt := 48) hx hb dX6_count_41 (by decide) ?_
          exact retI C X hr rfl (Option.some.inj hf) rfl rfl dX6_count_48
      · replace hf := ifp c22 hf
        refine lv_aload_n hx hb dX6_count_25 rfl (lv_at hl 0 rfl) ?_
        refine gfX6_86 C X dX6_count_26 ?_
        refine lv_goto (tgt := 48) hx hb dX6_count_29 (by decide) ?_
        exact retI C X hr rfl (Option.some.inj hf) rfl rfl dX6_count_48
  · replace hf := ifp c9 hf
    refine lv_bipush (v := (-2)) hx hb dX6_count_12 (by decide) ?_
    exact retI C X hr rfl (Option.some.inj hf) rfl rfl dX6_count_14
theorem ct6_count {x1 : Int32} {μ : Mem} {ν : Lem} {r : Int32} (hg : f6_count μ ν x1 = some r) : CtI false yX6_count cX6_count 4 1 25 .int (fun ad => [.ref (ad 0), .int x1]) μ ν r μ ν :=
  mkI (by decide) rfl (fun ad => Nat.le_of_ble_eq_true rfl) (fun p l e s m args below meth c D cy ad C hr X ls hl => w6_count C hr x1 hg _ _ X _ hl)
theorem qL_126 {p : Program} {l : Launch} {e : Env} {R : Room} {s : State} {m : MethodId} {args : Array Value} {below : List Frame} {meth : Method} {c : Code} {H : Heap} {locs : List Loc} {cells slots : Nat} {Q : State → Prop} {A : Nat → Prop} {cc : ByteArray} {nL : Nat} {D : va_G} {cy : Nat → ClassId} {ad : Nat → Nat} {μ : Mem} {ν : Lem} {pc : Nat} {ls : Array Slot} {rest : List Value} {x1 : Int32} {r : Int32} (hg : f6_count μ ν x1 = some r) (C : CxA false A p s m args meth c cc nL RL D cy ad) (X : WdA false A D cy ad s.heap μ ν H locs) (hsz : ls.size = nL) (hrm : (rest.map fun v => v.category).sum ≤ 8) (hR : 1 + 1 ≤ R.frames ∧ 8 + (4 + 11) + 25 ≤ R.locals) (hcs : cells ≤ R.cells ∧ slots ≤ R.slots) (hd : decode cc pc = .ok (.invokevirtual 126, 3)) (kk : ∀ (H1 : Heap) (locs1 : List Loc), WdA false A D cy ad s.heap μ ν H1 locs1 → narrow .int (.int r) = .int r → W p l e R s m args below meth c H1 locs1 cells slots Q (F0 m (pc + 3) ls (.int r :: rest))) : W p l e R s m args below meth c H locs cells slots Q (F0 m pc ls (.int x1 :: .ref (ad 0) :: rest)) :=
  rCVI (As := [.int x1]) (k := 0) (ct6_count hg) ok6 lX6_count k_1329 rfl rfl rfl C X rfl hrm hsz hR hcs hd kk
set_option maxRecDepth 100000 in
set_option maxHeartbeats 4000000 in
theorem w6_sheet_4 {p : Program} {l : Launch} {e : Env} {s : State} {m : MethodId} {args : Array Value} {below : List Frame} {meth : Method} {c : Code} {D : va_G} {cy : Nat → ClassId} {ad : Nat → Nat} {r : Int32} {μ1 : Mem} {ν1 : Lem} (C : Cx false p s m args meth c cX6_sheet 5 RX6 D cy ad) (hr : meth.sig.returnType = some .int) : ∀ (n : Nat), ∀ (μ : Mem) (ν : Lem) (x1 : Int32) (x2 : Int32) (x3 : Int32) (x4 : Int32), f6_sheet_4 n μ ν x1 x2 x3 x4 = some (r, μ1, ν1) → ∀ (H : Heap) (locs : List Loc), Wd false D cy ad s.heap μ ν H locs → ∀ (ls : Array Slot), lv_has ls 5 [(0, .ref (ad 0)), (1, .int x1), (2, .int x2), (3, .int x3), (4, .int x4)] → WI false p l e 2 45 s m args below meth c D cy ad .int r μ1 ν1 H locs (F0 m 77 ls []) := by
  have hx := C.1.1
  have hb := C.1.2.1
  have hown := C.1.2.2.2.1
  have hts := C.1.2.2.2.2
  intro n
  induction n with
  | zero =>
    intro μ ν x1 x2 x3 x4 hf H locs X ls hl
    rw [f6_sheet_4] at hf
    cases hf
  | succ n ih =>
    intro μ ν x1 x2 x3 x4 hf H locs X ls hl
    rw [f6_sheet_4] at hf
    refine lv_iload hx hb dX6_sheet_77 (lv_at hl 4 rfl) ?_
    refine lv_iload_n hx hb dX6_sheet_79 rfl (lv_at hl 3 rfl) ?_
    refine lv_icmp_ge (tgt := 106) hx hb dX6_sheet_80 (by decide) (fun c80 => ?_) (fun c80 => ?_)
    · replace hf := ifp c80 hf
      refine lv_iconst (v := 1) hx hb dX6_sheet_106 (by decide) ?_
      exact retI C X hr rfl (so3 hf).1 (so3 hf).2.1 (so3 hf).2.2 dX6_sheet_107
    · replace hf := ifn c80 hf
      refine lv_iload_n hx hb dX6_sheet_83 rfl (lv_at hl 2 rfl) ?_
      refine lv_if_lt (tgt := 106) hx hb dX6_sheet_84 (by decide) (fun c84 => ?_) (fun c84 => ?_)
      · replace hf := ifp c84 hf
        refine lv_iconst (v := 1) hx hb dX6_sheet_106 (by decide) ?_
        exact retI C X hr rfl (so3 hf).1 (so3 hf).2.1 (so3 hf).2.2 dX6_sheet_107
      · replace hf := ifn c84 hf
        refine lv_aload_n hx hb dX6_sheet_87 rfl (lv_at hl 0 rfl) ?_
        refine gfX6_79 C X dX6_sheet_88 ?_
        refine lv_bipush (v := 40) hx hb dX6_sheet_91 (by decide) ?_
        refine lv_iload_n hx hb dX6_sheet_93 rfl (lv_at hl 1 rfl) ?_
        refine lv_imul hx hb dX6_sheet_94 ?_
        refine lv_iload hx hb dX6_sheet_95 (lv_at hl 4 rfl) ?_
        refine lv_iadd hx hb dX6_sheet_97 ?_
        refine lv_iconst (v := 0) hx hb dX6_sheet_98 (by decide) ?_
        obtain ⟨h99, hf⟩ := gd_e hf
        obtain ⟨μ99, e99, hf⟩ := nm_e2 hf
        refine rIast2 C X rfl h99 e99 dX6_sheet_99 (fun H locs X => ?_)
        obtain ⟨v100, e100, hf⟩ := nm_e2 hf
        refine rIinc (lv' := [(4, .int v100), (0, .ref (ad 0)), (1, .int x1), (2, .int x2), (3, .int x3)]) hx hb dX6_sheet_100 hl (k := 4) rfl e100 rfl (by decide) rfl (fun ls hl => ?_)
        refine lv_goto (tgt := 77) hx hb dX6_sheet_103 (by decide) ?_
        exact ih μ99 ν x1 x2 x3 v100 hf _ _ X _ (lv_sub hl [1, 2, 3, 4, 0] rfl)
set_option maxRecDepth 100000 in
set_option maxHeartbeats 4000000 in
theorem w6_sheet_3 {p : Program} {l : Launch} {e : Env} {s : State} {m : MethodId} {args : Array Value} {below : List Frame} {meth : Method} {c : Code} {D : va_G} {cy : Nat → ClassId} {ad : Nat → Nat} {r : Int32} {μ1 : Mem} {ν1 : Lem} (C : Cx false p s m args meth c cX6_sheet 5 RX6 D cy ad) (hr : meth.sig.returnType = some .int) : ∀ (μ : Mem) (ν : Lem) (x1 : Int32) (x2 : Int32) (x3 : Int32) (t1 : Int32) (t2 : Int32), f6_sheet_3 μ ν x1 x2 x3 t1 t2 = some (r, μ1, ν1) → ∀ (H : Heap) (locs : List Loc), Wd false D cy ad s.heap μ ν H locs → ∀ (ls : Array Slot), lv_has ls 5 [(0, .ref (ad 0)), (1, .int x1), (2, .int x2), (3, .int x3)] → WI false p l e 2 45 s m args below meth c D cy ad .int r μ1 ν1 H locs (F0 m 59 ls [.int t2, .int t1, .ref (ad 17)]) := by
  have hx := C.1.1
  have hb := C.1.2.1
  have hown := C.1.2.2.2.1
  have hts := C.1.2.2.2.2
  intro μ ν x1 x2 x3 t1 t2 hf H locs X ls hl
  unfold f6_sheet_3 at hf
  obtain ⟨h59, hf⟩ := gd_e hf
  obtain ⟨μ59, e59, hf⟩ := nm_e2 hf
  refine rZast2 C X rfl h59 e59 dX6_sheet_59 (fun H locs X => ?_)
  refine lv_aload_n hx hb dX6_sheet_60 rfl (lv_at hl 0 rfl) ?_
  refine gfX6_73 C X dX6_sheet_61 ?_
  refine lv_iload_n hx hb dX6_sheet_64 rfl (lv_at hl 1 rfl) ?_
  refine lv_iload_n hx hb dX6_sheet_65 rfl (lv_at hl 2 rfl) ?_
  obtain ⟨h66, hf⟩ := gd_e hf
  obtain ⟨μ66, e66, hf⟩ := nm_e2 hf
  refine rIast2 C X rfl h66 e66 dX6_sheet_66 (fun H locs X => ?_)
  refine lv_aload_n hx hb dX6_sheet_67 rfl (lv_at hl 0 rfl) ?_
  refine gfX6_76 C X dX6_sheet_68 ?_
  refine lv_iload_n hx hb dX6_sheet_71 rfl (lv_at hl 1 rfl) ?_
  refine lv_iload_n hx hb dX6_sheet_72 rfl (lv_at hl 3 rfl) ?_
  obtain ⟨h73, hf⟩ := gd_e hf
  obtain ⟨μ73, e73, hf⟩ := nm_e2 hf
  refine rIast2 C X rfl h73 e73 dX6_sheet_73 (fun H locs X => ?_)
  refine lv_iconst (v := 0) hx hb dX6_sheet_74 (by decide) ?_
  refine lv_istore (lv' := [(4, .int 0), (0, .ref (ad 0)), (1, .int x1), (2, .int x2), (3, .int x3)]) hx hb dX6_sheet_75 hl (by decide) rfl (fun ls hl => ?_)
  exact w6_sheet_4 C hr  FUEL μ73 ν x1 x2 x3 0 hf _ _ X _ (lv_sub hl [1, 2, 3, 4, 0] rfl)
set_option maxRecDepth 100000 in
set_option maxHeartbeats 4000000 in
theorem w6_sheet_2 {p : Program} {l : Launch} {e : Env} {s : State} {m : MethodId} {args : Array Value} {below : List Frame} {meth : Method} {c : Code} {D : va_G} {cy : Nat → ClassId} {ad : Nat → Nat} {r : Int32} {μ1 : Mem} {ν1 : Lem} (C : Cx false p s m args meth c cX6_sheet 5 RX6 D cy ad) (hr : meth.sig.returnType = some .int) : ∀ (μ : Mem) (ν : Lem) (x1 : Int32) (x2 : Int32) (x3 : Int32), f6_sheet_2 μ ν x1 x2 x3 = some (r, μ1, ν1) → ∀ (H : Heap) (locs : List Loc), Wd false D cy ad s.heap μ ν H locs → ∀ (ls : Array Slot), lv_has ls 5 [(0, .ref (ad 0)), (1, .int x1), (2, .int x2), (3, .int x3)] → WI false p l e 2 45 s m args below meth c D cy ad .int r μ1 ν1 H locs (F0 m 45 ls []) := by
  have hx := C.1.1
  have hb := C.1.2.1
  have hown := C.1.2.2.2.1
  have hts := C.1.2.2.2.2
  intro μ ν x1 x2 x3 hf H locs X ls hl
  unfold f6_sheet_2 at hf
  refine lv_aload_n hx hb dX6_sheet_45 rfl (lv_at hl 0 rfl) ?_
  refine gfX6_69 C X dX6_sheet_46 ?_
  refine lv_iload_n hx hb dX6_sheet_49 rfl (lv_at hl 1 rfl) ?_
  refine lv_iload_n hx hb dX6_sheet_50 rfl (lv_at hl 2 rfl) ?_
  refine lv_if_lt (tgt := 58) hx hb dX6_sheet_51 (by decide) (fun c51 => ?_) (fun c51 => ?_)
  · replace hf := ifp c51 hf
    refine lv_iconst (v := 0) hx hb dX6_sheet_58 (by decide) ?_
    exact w6_sheet_3 C hr  μ ν x1 x2 x3 x1 0 hf _ _ X _ (lv_sub hl [0, 1, 2, 3] rfl)
  · replace hf := ifn c51 hf
    refine lv_iconst (v := 1) hx hb dX6_sheet_54 (by decide) ?_
    refine lv_goto (tgt := 59) hx hb dX6_sheet_55 (by decide) ?_
    exact w6_sheet_3 C hr  μ ν x1 x2 x3 x1 1 hf _ _ X _ (lv_sub hl [0, 1, 2, 3] rfl)
set_option maxRecDepth 100000 in
set_option maxHeartbeats 4000000 in
theorem w6_sheet_1 {p : Program} {l : Launch} {e : Env} {s : State} {m : MethodId} {args : Array Value} {below : List Frame} {meth : Method} {c : Code} {D : va_G} {cy : Nat → ClassId} {ad : Nat → Nat} {r : Int32} {μ1 : Mem} {ν1 : Lem} (C : Cx false p s m args meth c cX6_sheet 5 RX6 D cy ad) (hr : meth.sig.returnType = some .int) : ∀ (μ : Mem) (ν : Lem) (x1 : Int32) (x2 : Int32) (x3 : Int32), f6_sheet_1 μ ν x1 x2 x3 = some (r, μ1, ν1) → ∀ (H : Heap) (locs : List Loc), Wd false D cy ad s.heap μ ν H locs → ∀ (ls : Array Slot), lv_has ls 5 [(0, .ref (ad 0)), (1, .int x1), (2, .int x2), (3, .int x3)] → WI false p l e 2 45 s m args below meth c D cy ad .int r μ1 ν1 H locs (F0 m 34 ls []) := by
  have hx := C.1.1
  have hb := C.1.2.1
  have hown := C.1.2.2.2.1
  have hts := C.1.2.2.2.2
  intro μ ν x1 x2 x3 hf H locs X ls hl
  unfold f6_sheet_1 at hf
  refine lv_iload_n hx hb dX6_sheet_34 rfl (lv_at hl 2 rfl) ?_
  refine lv_if_lt (tgt := 45) hx hb dX6_sheet_35 (by decide) (fun c35 => ?_) (fun c35 => ?_)
  · replace hf := ifp c35 hf
    exact w6_sheet_2 C hr  μ ν x1 x2 x3 hf _ _ X _ (lv_sub hl [0, 1, 2, 3] rfl)
  · replace hf := ifn c35 hf
    refine lv_iload_n hx hb dX6_sheet_38 rfl (lv_at hl 3 rfl) ?_
    refine lv_if_ge (tgt := 45) hx hb dX6_sheet_39 (by decide) (fun c39 => ?_) (fun c39 => ?_)
    · replace hf := ifp c39 hf
      exact w6_sheet_2 C hr  μ ν x1 x2 x3 hf _ _ X _ (lv_sub hl [0, 1, 2, 3] rfl)
    · replace hf := ifn c39 hf
      refine lv_bipush (v := (-14)) hx hb dX6_sheet_42 (by decide) ?_
      exact retI C X hr rfl (so3 hf).1 (so3 hf).2.1 (so3 hf).2.2 dX6_sheet_44
set_option maxRecDepth 100000 in
set_option maxHeartbeats 4000000 in
theorem w6_sheet {p : Program} {l : Launch} {e : Env} {s : State} {m : MethodId} {args : Array Value} {below : List Frame} {meth : Method} {c : Code} {D : va_G} {cy : Nat → ClassId} {ad : Nat → Nat} {r : Int32} {μ1 : Mem} {ν1 : Lem} (C : Cx false p s m args meth c cX6_sheet 5 RX6 D cy ad) (hr : meth.sig.returnType = some .int) : ∀ (μ : Mem) (ν : Lem) (x1 : Int32) (x2 : Int32) (x3 : Int32), f6_sheet μ ν x1 x2 x3 = some (r, μ1, ν1) → ∀ (H : Heap) (locs : List Loc), Wd false D cy ad s.heap μ ν H locs → ∀ (ls : Array Slot), lv_has ls 5 [(0, .ref (ad 0)), (1, .int x1), (2, .int x2), (3, .int x3)] → WI false p l e 2 45 s m args below meth c D cy ad .int r μ1 ν1 H locs (F0 m 0 ls []) := by
  have hx := C.1.1
  have hb := C.1.2.1
  have hown := C.1.2.2.2.1
  have hts := C.1.2.2.2.2
  intro μ ν x1 x2 x3 hf H locs X ls hl
  unfold f6_sheet at hf
  refine lv_iload_n hx hb dX6_sheet_0 rfl (lv_at hl 1 rfl) ?_
  refine qX6_385 rfl C X hl.1 ((Nat.le_of_ble_eq_true rfl)) ⟨(Nat.le_of_ble_eq_true rfl), (Nat.le_of_ble_eq_true rfl)⟩ ⟨Nat.zero_le _, Nat.zero_le _⟩ dX6_sheet_1 (fun H locs X b1 => ?_)
  refine lv_if_eq (tgt := 31) hx hb dX6_sheet_4 (by decide) (fun c4 => ?_) (fun c4 => ?_)
  · replace hf := ifp c4 hf
    refine lv_bipush (v := (-2)) hx hb dX6_sheet_31 (by decide) ?_
    exact retI C X hr rfl (so3 hf).1 (so3 hf).2.1 (so3 hf).2.2 dX6_sheet_33
  · replace hf := ifn c4 hf
    refine lv_iload_n hx hb dX6_sheet_7 rfl (lv_at hl 2 rfl) ?_
    refine lv_i2l hx hb dX6_sheet_8 rfl ?_
    refine lv_ldc2 (v := (-1)) hx hb hown (hts _ k_1337) dX6_sheet_9 ?_
    refine lv_ldc2 (v := (2)) hx hb hown (hts _ k_1182) dX6_sheet_12 ?_
    refine qX6_92 rfl C X hl.1 ((Nat.le_of_ble_eq_true rfl)) ⟨(Nat.le_of_ble_eq_true rfl), (Nat.le_of_ble_eq_true rfl)⟩ ⟨Nat.zero_le _, Nat.zero_le _⟩ dX6_sheet_15 (fun H locs X b15 => ?_)
    refine lv_if_eq (tgt := 31) hx hb dX6_sheet_18 (by decide) (fun c18 => ?_) (fun c18 => ?_)
    · replace hf := ifp c18 hf
      refine lv_bipush (v := (-2)) hx hb dX6_sheet_31 (by decide) ?_
      exact retI C X hr rfl (so3 hf).1 (so3 hf).2.1 (so3 hf).2.2 dX6_sheet_33
    · replace hf := ifn c18 hf
      refine lv_iload_n hx hb dX6_sheet_21 rfl (lv_at hl 2 rfl) ?_
      refine lv_if_lt (tgt := 34) hx hb dX6_sheet_22 (by decide) (fun c22 => ?_) (fun c22 => ?_)
      · replace hf := ifp c22 hf
        exact w6_sheet_1 C hr  μ ν x1 x2 x3 hf _ _ X _ (lv_sub hl [0, 1, 2, 3] rfl)
      · replace hf := ifn c22 hf
        refine lv_iload_n hx hb dX6_sheet_25 rfl (lv_at hl 3 rfl) ?_
        refine lv_bipush (v := 40) hx hb dX6_sheet_26 (by decide) ?_
        refine lv_icmp_le (tgt := 34) hx hb dX6_sheet_28 (by decide) (fun c28 => ?_) (fun c28 => ?_)
        · replace hf := ifp c28 hf
          exact w6_sheet_1 C hr  μ ν x1 x2 x3 hf _ _ X _ (lv_sub hl [0, 1, 2, 3] rfl)
        · replace hf := ifn c28 hf
          refine lv_bipush (v := (-2)) hx hb dX6_sheet_31 (by decide) ?_
          exact retI C X hr rfl (so3 hf).1 (so3 hf).2.1 (so3 hf).2.2 dX6_sheet_33
theorem ct6_sheet {x1 : Int32} {x2 : Int32} {x3 : Int32} {μ : Mem} {ν : Lem} {r : Int32} {μ1 : Mem} {ν1 : Lem} (hg : f6_sheet μ ν x1 x2 x3 = some (r, μ1, ν1)) : CtI false yX6_sheet cX6_sheet 5 2 45 .int (fun ad => [.ref (ad 0), .int x1, .int x2, .int x3]) μ ν r μ1 ν1 :=
  mkI (by decide) rfl (fun ad => Nat.le_of_ble_eq_true rfl) (fun p l e s m args below meth c D cy ad C hr X ls hl => w6_sheet C hr μ ν x1 x2 x3 hg _ _ X _ hl)
theorem qL_130 {p : Program} {l : Launch} {e : Env} {R : Room} {s : State} {m : MethodId} {args : Array Value} {below : List Frame} {meth : Method} {c : Code} {H : Heap} {locs : List Loc} {cells slots : Nat} {Q : State → Prop} {A : Nat → Prop} {cc : ByteArray} {nL : Nat} {D : va_G} {cy : Nat → ClassId} {ad : Nat → Nat} {μ : Mem} {ν : Lem} {pc : Nat} {ls : Array Slot} {rest : List Value} {x1 : Int32} {x2 : Int32} {x3 : Int32} {r : Int32} {μ1 : Mem} {ν1 : Lem} (hg : f6_sheet μ ν x1 x2 x3 = some (r, μ1, ν1)) (C : CxA false A p s m args meth c cc nL RL D cy ad) (X : WdA false A D cy ad s.heap μ ν H locs) (hsz : ls.size = nL) (hrm : (rest.map fun v => v.category).sum ≤ 8) (hR : 2 + 1 ≤ R.frames ∧ 8 + (5 + 11) + 45 ≤ R.locals) (hcs : cells ≤ R.cells ∧ slots ≤ R.slots) (hd : decode cc pc = .ok (.invokevirtual 130, 3)) (kk : ∀ (H1 : Heap) (locs1 : List Loc), WdA false A D cy ad s.heap μ1 ν1 H1 locs1 → narrow .int (.int r) = .int r → W p l e R s m args below meth c H1 locs1 cells slots Q (F0 m (pc + 3) ls (.int r :: rest))) : W p l e R s m args below meth c H locs cells slots Q (F0 m pc ls (.int x3 :: .int x2 :: .int x1 :: .ref (ad 0) :: rest)) :=
  rCVI (As := [.int x1, .int x2, .int x3]) (k := 0) (ct6_sheet hg) ok6 lX6_sheet k_1333 rfl rfl rfl C X rfl hrm hsz hR hcs hd kk
set_option maxRecDepth 100000 in
set_option maxHeartbeats 4000000 in
theorem w6_cell {p : Program} {l : Launch} {e : Env} {s : State} {m : MethodId} {args : Array Value} {below : List Frame} {meth : Method} {c : Code} {D : va_G} {cy : Nat → ClassId} {ad : Nat → Nat} {r : Int32} {μ1 : Mem} {ν1 : Lem} (C : Cx false p s m args meth c cX6_cell 4 RX6 D cy ad) (hr : meth.sig.returnType = some .int) : ∀ (μ : Mem) (ν : Lem) (x1 : Int32) (x2 : Int32) (x3 : Int32), f6_cell μ ν x1 x2 x3 = some (r, μ1, ν1) → ∀ (H : Heap) (locs : List Loc), Wd false D cy ad s.heap μ ν H locs → ∀ (ls : Array Slot), lv_has ls 4 [(0, .ref (ad 0)), (1, .int x1), (2, .int x2), (3, .int x3)] → WI false p l e 2 45 s m args below meth c D cy ad .int r μ1 ν1 H locs (F0 m 0 ls []) := by
  have hx := C.1.1
  have hb := C.1.2.1
  have hown := C.1.2.2.2.1
  have hts := C.1.2.2.2.2
  intro μ ν x1 x2 x3 hf H locs X ls hl
  unfold f6_cell at hf
  refine lv_iload_n hx hb dX6_cell_0 rfl (lv_at hl 1 rfl) ?_
  refine qX6_385 rfl C X hl.1 ((Nat.le_of_ble_eq_true rfl)) ⟨(Nat.le_of_ble_eq_true rfl), (Nat.le_of_ble_eq_true rfl)⟩ ⟨Nat.zero_le _, Nat.zero_le _⟩ dX6_cell_1 (fun H locs X b1 => ?_)
  refine lv_if_ne (tgt := 10) hx hb dX6_cell_4 (by decide) (fun c4 => ?_) (fun c4 => ?_)
  · replace hf := ifn c4 hf
    refine lv_aload_n hx hb dX6_cell_10 rfl (lv_at hl 0 rfl) ?_
    refine gfX6_69 C X dX6_cell_11 ?_
    refine lv_iload_n hx hb dX6_cell_14 rfl (lv_at hl 1 rfl) ?_
    obtain ⟨h15, hf⟩ := gd_e hf
    refine rZald C X rfl h15 dX6_cell_15 ?_
    refine lv_if_ne (tgt := 22) hx hb dX6_cell_16 (by decide) (fun c16 => ?_) (fun c16 => ?_)
    · replace hf := ifn c16 hf
      refine lv_iload_n hx hb dX6_cell_22 rfl (lv_at hl 2 rfl) ?_
      refine lv_i2l hx hb dX6_cell_23 rfl ?_
      refine lv_lconst (v := 0) hx hb dX6_cell_24 (by decide) ?_
      refine lv_aload_n hx hb dX6_cell_25 rfl (lv_at hl 0 rfl) ?_
      refine gfX6_76 C X dX6_cell_26 ?_
      refine lv_iload_n hx hb dX6_cell_29 rfl (lv_at hl 1 rfl) ?_
      obtain ⟨h30, hf⟩ := gd_e hf
      refine rIald C X rfl h30 dX6_cell_30 ?_
      refine lv_iconst (v := 1) hx hb dX6_cell_31 (by decide) ?_
      refine lv_isub hx hb dX6_cell_32 ?_
      refine lv_i2l hx hb dX6_cell_33 rfl ?_
      refine qX6_92 rfl C X hl.1 ((Nat.le_of_ble_eq_true rfl)) ⟨(Nat.le_of_ble_eq_true rfl), (Nat.le_of_ble_eq_true rfl)⟩ ⟨Nat.zero_le _, Nat.zero_le _⟩ dX6_cell_34 (fun H locs X b34 => ?_)
      refine lv_if_ne (tgt := 43) hx hb dX6_cell_37 (by decide) (fun c37 => ?_) (fun c37 => ?_)
      · replace hf := ifn c37 hf
        refine lv_aload_n hx hb dX6_cell_43 rfl (lv_at hl 0 rfl) ?_
        refine gfX6_79 C X dX6_cell_44 ?_
        refine lv_bipush (v := 40) hx hb dX6_cell_47 (by decide) ?_
        refine lv_iload_n hx hb dX6_cell_49 rfl (lv_at hl 1 rfl) ?_
        refine lv_imul hx hb dX6_cell_50 ?_
        refine lv_iload_n hx hb dX6_cell_51 rfl (lv_at hl 2 rfl) ?_
        refine lv_iadd hx hb dX6_cell_52 ?_
        refine lv_aload_n hx hb dX6_cell_53 rfl (lv_at hl 0 rfl) ?_
        refine gfX6_73 C X dX6_cell_54 ?_
        refine lv_iload_n hx hb dX6_cell_57 rfl (lv_at hl 1 rfl) ?_
        obtain ⟨h58, hf⟩ := gd_e hf
        refine rIald C X rfl h58 dX6_cell_58 ?_
        refine lv_if_ne (tgt := 67) hx hb dX6_cell_59 (by decide) (fun c59 => ?_) (fun c59 => ?_)
        · replace hf := ifn c59 hf
          refine lv_aload_n hx hb dX6_cell_67 rfl (lv_at hl 0 rfl) ?_
          refine gfX6_73 C X dX6_cell_68 ?_
          refine lv_iload_n hx hb dX6_cell_71 rfl (lv_at hl 1 rfl) ?_
          obtain ⟨h72, hf⟩ := gd_e hf
          refine rIald C X rfl h72 dX6_cell_72 ?_
          refine lv_iconst (v := 1) hx hb dX6_cell_73 (by decide) ?_
          refine lv_icmp_ne (tgt := 82) hx hb dX6_cell_74 (by decide) (fun c74 => ?_) (fun c74 => ?_)
          · replace hf := ifn c74 hf
            refine lv_iload_n hx hb dX6_cell_82 rfl (lv_at hl 3 rfl) ?_
            obtain ⟨h83, hf⟩ := gd_e hf
            obtain ⟨μ83, e83, hf⟩ := nm_e2 hf
            refine rIast2 C X rfl h83 e83 dX6_cell_83 (fun H locs X => ?_)
            refine lv_iconst (v := 1) hx hb dX6_cell_84 (by decide) ?_
            exact retI C X hr rfl (so3 hf).1 (so3 hf).2.1 (so3 hf).2.2 dX6_cell_85
          · replace hf := ifp c74 hf
            refine lv_iload_n hx hb dX6_cell_77 rfl (lv_at hl 3 rfl) ?_
            refine lv_i2s hx hb dX6_cell_78 rfl ?_
            refine lv_goto (tgt := 83) hx hb dX6_cell_79 (by decide) ?_
            obtain ⟨h83, hf⟩ := gd_e hf
            obtain ⟨μ83, e83, hf⟩ := nm_e2 hf
            refine rIast2 C X rfl h83 e83 dX6_cell_83 (fun H locs X => ?_)
            refine lv_iconst (v := 1) hx hb dX6_cell_84 (by decide) ?_
            exact retI C X hr rfl (so3 hf).1 (so3 hf).2.1 (so3 hf).2.2 dX6_cell_85
        · replace hf := ifp c59 hf
          refine lv_iload_n hx hb dX6_cell_62 rfl (lv_at hl 3 rfl) ?_
          refine lv_i2b hx hb dX6_cell_63 rfl ?_
          refine lv_goto (tgt := 83) hx hb dX6_cell_64 (by decide) ?_
          obtain ⟨h83, hf⟩ := gd_e hf
          obtain ⟨μ83, e83, hf⟩ := nm_e2 hf
          refine rIast2 C X rfl h83 e83 dX6_cell_83 (fun H locs X => ?_)
          refine lv_iconst (v := 1) hx hb dX6_cell_84 (by decide) ?_
          exact retI C X hr rfl (so3 hf).1 (so3 hf).2.1 (so3 hf).2.2 dX6_cell_85
      · replace hf := ifp c37 hf
        refine lv_bipush (v := (-12)) hx hb dX6_cell_40 (by decide) ?_
        exact retI C X hr rfl (so3 hf).1 (so3 hf).2.1 (so3 hf).2.2 dX6_cell_42
    · replace hf := ifp c16 hf
      refine lv_bipush (v := (-11)) hx hb dX6_cell_19 (by decide) ?_
      exact retI C X hr rfl (so3 hf).1 (so3 hf).2.1 (so3 hf).2.2 dX6_cell_21
  · replace hf := ifp c4 hf
    refine lv_bipush (v := (-2)) hx hb dX6_cell_7 (by decide) ?_
    exact retI C X hr rfl (so3 hf).1 (so3 hf).2.1 (so3 hf).2.2 dX6_cell_9
theorem ct6_cell {x1 : Int32} {x2 : Int32} {x3 : Int32} {μ : Mem} {ν : Lem} {r : Int32} {μ1 : Mem} {ν1 : Lem} (hg : f6_cell μ ν x1 x2 x3 = some (r, μ1, ν1)) : CtI false yX6_cell cX6_cell 4 2 45 .int (fun ad => [.ref (ad 0), .int x1, .int x2, .int x3]) μ ν r μ1 ν1 :=
  mkI (by decide) rfl (fun ad => Nat.le_of_ble_eq_true rfl) (fun p l e s m args below meth c D cy ad C hr X ls hl => w6_cell C hr μ ν x1 x2 x3 hg _ _ X _ hl)
theorem qL_134 {p : Program} {l : Launch} {e : Env} {R : Room} {s : State} {m : MethodId} {args : Array Value} {below : List Frame} {meth : Method} {c : Code} {H : Heap} {locs : List Loc} {cells slots : Nat} {Q : State → Prop} {A : Nat → Prop} {cc : ByteArray} {nL : Nat} {D : va_G} {cy : Nat → ClassId} {ad : Nat → Nat} {μ : Mem} {ν : Lem} {pc : Nat} {ls : Array Slot} {rest : List Value} {x1 : Int32} {x2 : Int32} {x3 : Int32} {r : Int32} {μ1 : Mem} {ν1 : Lem} (hg : f6_cell μ ν x1 x2 x3 = some (r, μ1, ν1)) (C : CxA false A p s m args meth c cc nL RL D cy ad) (X : WdA false A D cy ad s.heap μ ν H locs) (hsz : ls.size = nL) (hrm : (rest.map fun v => v.category).sum ≤ 8) (hR : 2 + 1 ≤ R.frames ∧ 8 + (4 + 11) + 45 ≤ R.locals) (hcs : cells ≤ R.cells ∧ slots ≤ R.slots) (hd : decode cc pc = .ok (.invokevirtual 134, 3)) (kk : ∀ (H1 : Heap) (locs1 : List Loc), WdA false A D cy ad s.heap μ1 ν1 H1 locs1 → narrow .int (.int r) = .int r → W p l e R s m args below meth c H1 locs1 cells slots Q (F0 m (pc + 3) ls (.int r :: rest))) : W p l e R s m args below meth c H locs cells slots Q (F0 m pc ls (.int x3 :: .int x2 :: .int x1 :: .ref (ad 0) :: rest)) :=
  rCVI (As := [.int x1, .int x2, .int x3]) (k := 0) (ct6_cell hg) ok6 lX6_cell k_1338 rfl rfl rfl C X rfl hrm hsz hR hcs hd kk
