set_option maxRecDepth 100000 in
set_option maxHeartbeats 4000000 in
theorem w5_set {p : Program} {l : Launch} {e : Env} {s : State} {m : MethodId} {args : Array Value} {below : List Frame} {meth : Method} {c : Code} {D : va_G} {cy : Nat → ClassId} {ad : Nat → Nat} {r : Int32} {μ1 : Mem} {ν : Lem} (C : Cx true p s m args meth c cX5_set 4 RX5 D cy ad) (hr : meth.sig.returnType = some .int) : ∀ (μ : Mem) (x1 : Int32) (x2 : Int32) (x3 : Int32), f5_set μ x1 x2 x3 = some (r, μ1) → ∀ (H : Heap) (locs : List Loc), Wd true D cy ad s.heap μ ν H locs → ∀ (ls : Array Slot), lv_has ls 4 [(0, .ref (ad 0)), (1, .int x1), (2, .int x2), (3, .int x3)] → WI true p l e 4 87 s m args below meth c D cy ad .int r μ1 ν H locs (F0 m 0 ls []) := by
  have hx := C.1.1
  have hb := C.1.2.1
  have hown := C.1.2.2.2.1
  have hts := C.1.2.2.2.2
  intro μ x1 x2 x3 hf H locs X ls hl
  unfold f5_set at hf
  refine lv_iload_n hx hb dX5_set_0 rfl (lv_at hl 1 rfl) ?_
  refine lv_if_ne (tgt := 10) hx hb dX5_set_1 (by decide) (fun c1 => ?_) (fun c1 => ?_)
  · replace hf := ifn c1 hf
    refine lv_iload_n hx hb dX5_set_10 rfl (lv_at hl 1 rfl) ?_
    refine lv_iconst (v := 1) hx hb dX5_set_11 (by decide) ?_
    refine lv_icmp_ne (tgt := 24) hx hb dX5_set_12 (by decide) (fun c12 => ?_) (fun c12 => ?_)
    · replace hf := ifn c12 hf
      refine lv_bipush (v := (-2)) hx hb dX5_set_24 (by decide) ?_
      exact retI C X hr rfl (so2 hf).1 (so2 hf).2 rfl dX5_set_26
    · replace hf := ifp c12 hf
      refine lv_aload_n hx hb dX5_set_15 rfl (lv_at hl 0 rfl) ?_
      refine lv_iload_n hx hb dX5_set_16 rfl (lv_at hl 2 rfl) ?_
      refine lv_iload_n hx hb dX5_set_17 rfl (lv_at hl 3 rfl) ?_
      obtain ⟨r18, μ18, g18, hf⟩ := bd2_e hf
      refine qX5_74 g18 C X hl.1 ((Nat.le_of_ble_eq_true rfl)) ⟨(Nat.le_of_ble_eq_true rfl), (Nat.le_of_ble_eq_true rfl)⟩ ⟨Nat.zero_le _, Nat.zero_le _⟩ dX5_set_18 (fun H locs X b18 => ?_)
      refine lv_goto (tgt := 26) hx hb dX5_set_21 (by decide) ?_
      exact retI C X hr rfl (so2 hf).1 (so2 hf).2 rfl dX5_set_26
  · replace hf := ifp c1 hf
    refine lv_aload_n hx hb dX5_set_4 rfl (lv_at hl 0 rfl) ?_
    refine lv_iload_n hx hb dX5_set_5 rfl (lv_at hl 3 rfl) ?_
    obtain ⟨r6, μ6, g6, hf⟩ := bd2_e hf
    refine qX5_70 g6 C X hl.1 ((Nat.le_of_ble_eq_true rfl)) ⟨(Nat.le_of_ble_eq_true rfl), (Nat.le_of_ble_eq_true rfl)⟩ ⟨Nat.zero_le _, Nat.zero_le _⟩ dX5_set_6 (fun H locs X b6 => ?_)
    exact retI C X hr rfl (so2 hf).1 (so2 hf).2 rfl dX5_set_9
theorem ct5_set {x1 : Int32} {x2 : Int32} {x3 : Int32} {μ : Mem} {ν : Lem} {r : Int32} {μ1 : Mem} (hg : f5_set μ x1 x2 x3 = some (r, μ1)) : CtI true yX5_set cX5_set 4 4 87 .int (fun ad => [.ref (ad 0), .int x1, .int x2, .int x3]) μ ν r μ1 ν :=
  mkI (by decide) rfl (fun ad => Nat.le_of_ble_eq_true rfl) (fun p l e s m args below meth c D cy ad C hr X ls hl => w5_set C hr μ x1 x2 x3 hg _ _ X _ hl)
theorem qL_13 {p : Program} {l : Launch} {e : Env} {R : Room} {s : State} {m : MethodId} {args : Array Value} {below : List Frame} {meth : Method} {c : Code} {H : Heap} {locs : List Loc} {cells slots : Nat} {Q : State → Prop} {A : Nat → Prop} {cc : ByteArray} {nL : Nat} {D : va_G} {cy : Nat → ClassId} {ad : Nat → Nat} {μ : Mem} {ν : Lem} {pc : Nat} {ls : Array Slot} {rest : List Value} {x1 : Int32} {x2 : Int32} {x3 : Int32} {r : Int32} {μ1 : Mem} (hg : f5_set μ x1 x2 x3 = some (r, μ1)) (C : CxA true A p s m args meth c cc nL RL D cy ad) (X : WdA true A D cy ad s.heap μ ν H locs) (hsz : ls.size = nL) (hrm : (rest.map fun v => v.category).sum ≤ 8) (hR : 4 + 1 ≤ R.frames ∧ 8 + (4 + 11) + 87 ≤ R.locals) (hcs : cells ≤ R.cells ∧ slots ≤ R.slots) (hd : decode cc pc = .ok (.invokevirtual 13, 3)) (kk : ∀ (H1 : Heap) (locs1 : List Loc), WdA true A D cy ad s.heap μ1 ν H1 locs1 → narrow .int (.int r) = .int r → W p l e R s m args below meth c H1 locs1 cells slots Q (F0 m (pc + 3) ls (.int r :: rest))) : W p l e R s m args below meth c H locs cells slots Q (F0 m pc ls (.int x3 :: .int x2 :: .int x1 :: .ref (ad 0) :: rest)) :=
  rCVI (As := [.int x1, .int x2, .int x3]) (k := 0) (ct5_set hg) ok5 lX5_set k_204 rfl rfl rfl C X rfl hrm hsz hR hcs hd kk
set_option maxRecDepth 100000 in
set_option maxHeartbeats 4000000 in
theorem w5_isKind {p : Program} {l : Launch} {e : Env} {s : State} {m : MethodId} {args : Array Value} {below : List Frame} {meth : Method} {c : Code} {D : va_G} {cy : Nat → ClassId} {ad : Nat → Nat} {r : Int32} {μ : Mem} {ν : Lem} (C : Cx true p s m args meth c cX5_isKind 1 RX5 D cy ad) (hr : meth.sig.returnType = some .boolean) : ∀ (x0 : Int32), f5_isKind x0 = r → ∀ (H : Heap) (locs : List Loc), Wd true D cy ad s.heap μ ν H locs → ∀ (ls : Array Slot), lv_has ls 1 [(0, .int x0)] → WI true p l e 0 0 s m args below meth c D cy ad .boolean r μ ν H locs (F0 m 0 ls []) := by
  have hx := C.1.1
  have hb := C.1.2.1
  have hown := C.1.2.2.2.1
  have hts := C.1.2.2.2.2
  intro x0 hf H locs X ls hl
  unfold f5_isKind at hf
  refine lv_iload_n hx hb dX5_isKind_0 rfl (lv_at hl 0 rfl) ?_
  refine lv_if_lt (tgt := 14) hx hb dX5_isKind_1 (by decide) (fun c1 => ?_) (fun c1 => ?_)
  · replace hf := ifp c1 hf
    refine lv_iconst (v := 0) hx hb dX5_isKind_14 (by decide) ?_
    exact retI C X hr rfl hf rfl rfl dX5_isKind_15
  · replace hf := ifn c1 hf
    refine lv_iload_n hx hb dX5_isKind_4 rfl (lv_at hl 0 rfl) ?_
    refine lv_bipush (v := 6) hx hb dX5_isKind_5 (by decide) ?_
    refine lv_icmp_ge (tgt := 14) hx hb dX5_isKind_7 (by decide) (fun c7 => ?_) (fun c7 => ?_)
    · replace hf := ifp c7 hf
      refine lv_iconst (v := 0) hx hb dX5_isKind_14 (by decide) ?_
      exact retI C X hr rfl hf rfl rfl dX5_isKind_15
    · replace hf := ifn c7 hf
      refine lv_iconst (v := 1) hx hb dX5_isKind_10 (by decide) ?_
      refine lv_goto (tgt := 15) hx hb dX5_isKind_11 (by decide) ?_
      exact retI C X hr rfl hf rfl rfl dX5_isKind_15
theorem ct5_isKind {x0 : Int32} {μ : Mem} {ν : Lem} {r : Int32} (hg : f5_isKind x0 = r) : CtI true yX5_isKind cX5_isKind 1 0 0 .boolean (fun ad => [.int x0]) μ ν r μ ν :=
  mkI (by decide) rfl (fun ad => Nat.le_of_ble_eq_true rfl) (fun p l e s m args below meth c D cy ad C hr X ls hl => w5_isKind C hr x0 hg _ _ X _ hl)
theorem qX5_99 {p : Program} {l : Launch} {e : Env} {R : Room} {s : State} {m : MethodId} {args : Array Value} {below : List Frame} {meth : Method} {c : Code} {H : Heap} {locs : List Loc} {cells slots : Nat} {Q : State → Prop} {A : Nat → Prop} {cc : ByteArray} {nL : Nat} {D : va_G} {cy : Nat → ClassId} {ad : Nat → Nat} {μ : Mem} {ν : Lem} {pc : Nat} {ls : Array Slot} {rest : List Value} {x0 : Int32} {r : Int32} (hg : f5_isKind x0 = r) (C : CxA true A p s m args meth c cc nL RX5 D cy ad) (X : WdA true A D cy ad s.heap μ ν H locs) (hsz : ls.size = nL) (hrm : (rest.map fun v => v.category).sum ≤ 8) (hR : 0 + 1 ≤ R.frames ∧ 8 + (1 + 11) + 0 ≤ R.locals) (hcs : cells ≤ R.cells ∧ slots ≤ R.slots) (hd : decode cc pc = .ok (.invokestatic 99, 3)) (kk : ∀ (H1 : Heap) (locs1 : List Loc), WdA true A D cy ad s.heap μ ν H1 locs1 → narrow .boolean (.int r) = .int r → W p l e R s m args below meth c H1 locs1 cells slots Q (F0 m (pc + 3) ls (.int r :: rest))) : W p l e R s m args below meth c H locs cells slots Q (F0 m pc ls (.int x0 :: rest)) :=
  rCSI (As := [.int x0]) (ct5_isKind hg) lX5_isKind k_239 rfl rfl C X rfl hrm hsz hR hcs hd kk
set_option maxRecDepth 100000 in
set_option maxHeartbeats 4000000 in
theorem w5_way {p : Program} {l : Launch} {e : Env} {s : State} {m : MethodId} {args : Array Value} {below : List Frame} {meth : Method} {c : Code} {D : va_G} {cy : Nat → ClassId} {ad : Nat → Nat} {r : Int32} {μ1 : Mem} {ν : Lem} (C : Cx true p s m args meth c cX5_way 3 RX5 D cy ad) (hr : meth.sig.returnType = some .int) : ∀ (μ : Mem) (x1 : Int32) (x2 : Int32), f5_way μ x1 x2 = some (r, μ1) → ∀ (H : Heap) (locs : List Loc), Wd true D cy ad s.heap μ ν H locs → ∀ (ls : Array Slot), lv_has ls 3 [(0, .ref (ad 0)), (1, .int x1), (2, .int x2)] → WI true p l e 1 22 s m args below meth c D cy ad .int r μ1 ν H locs (F0 m 0 ls []) := by
  have hx := C.1.1
  have hb := C.1.2.1
  have hown := C.1.2.2.2.1
  have hts := C.1.2.2.2.2
  intro μ x1 x2 hf H locs X ls hl
  unfold f5_way at hf
  refine lv_iload_n hx hb dX5_way_0 rfl (lv_at hl 1 rfl) ?_
  refine qX5_99 rfl C X hl.1 ((Nat.le_of_ble_eq_true rfl)) ⟨(Nat.le_of_ble_eq_true rfl), (Nat.le_of_ble_eq_true rfl)⟩ ⟨Nat.zero_le _, Nat.zero_le _⟩ dX5_way_1 (fun H locs X b1 => ?_)
  refine lv_if_eq (tgt := 14) hx hb dX5_way_4 (by decide) (fun c4 => ?_) (fun c4 => ?_)
  · replace hf := ifp c4 hf
    refine lv_bipush (v := (-2)) hx hb dX5_way_14 (by decide) ?_
    exact retI C X hr rfl (so2 hf).1 (so2 hf).2 rfl dX5_way_16
  · replace hf := ifn c4 hf
    refine lv_iload_n hx hb dX5_way_7 rfl (lv_at hl 2 rfl) ?_
    refine qX5_89 rfl C X hl.1 ((Nat.le_of_ble_eq_true rfl)) ⟨(Nat.le_of_ble_eq_true rfl), (Nat.le_of_ble_eq_true rfl)⟩ ⟨Nat.zero_le _, Nat.zero_le _⟩ dX5_way_8 (fun H locs X b8 => ?_)
    refine lv_if_ne (tgt := 17) hx hb dX5_way_11 (by decide) (fun c11 => ?_) (fun c11 => ?_)
    · replace hf := ifn c11 hf
      refine lv_aload_n hx hb dX5_way_17 rfl (lv_at hl 0 rfl) ?_
      refine gfX5_10 C X dX5_way_18 ?_
      refine gfX5_102 (o := 0) (by decide) rfl C X dX5_way_21 ?_
      refine lv_bipush (v := 6) hx hb dX5_way_24 (by decide) ?_
      refine lv_icmp_lt (tgt := 32) hx hb dX5_way_26 (by decide) (fun c26 => ?_) (fun c26 => ?_)
      · replace hf := ifp c26 hf
        refine lv_aload_n hx hb dX5_way_32 rfl (lv_at hl 0 rfl) ?_
        refine gfX5_10 C X dX5_way_33 ?_
        refine gfX5_92 (o := 0) (by decide) rfl (k2 := 12) rfl C X dX5_way_36 ?_
        refine lv_aload_n hx hb dX5_way_39 rfl (lv_at hl 0 rfl) ?_
        refine gfX5_10 C X dX5_way_40 ?_
        refine gfX5_102 (o := 0) (by decide) rfl C X dX5_way_43 ?_
        obtain ⟨h46, hf⟩ := gd_e hf
        have hb46 : (μ 1 1).toNatClampNeg < 13 := by have := inb_lt h46; omega
        refine rAald (t := 0) (k' := (14 + 3 * (μ 1 1).toNatClampNeg)) C X rfl rfl h46 (by omega) dX5_way_46 ?_
        refine lv_iload_n hx hb dX5_way_47 rfl (lv_at hl 1 rfl) ?_
        refine lv_iload_n hx hb dX5_way_48 rfl (lv_at hl 2 rfl) ?_
        obtain ⟨μ49, g49, hf⟩ := nm_e2 hf
        refine qX5_105 (j := (μ 1 1).toNatClampNeg) hb46 g49.symm C X hl.1 ((Nat.le_of_ble_eq_true rfl)) ⟨(Nat.le_of_ble_eq_true rfl), (Nat.le_of_ble_eq_true rfl)⟩ ⟨Nat.zero_le _, Nat.zero_le _⟩ dX5_way_49 (fun H locs X => ?_)
        refine lv_aload_n hx hb dX5_way_52 rfl (lv_at hl 0 rfl) ?_
        refine gfX5_10 C X dX5_way_53 ?_
        refine lv_dup hx hb dX5_way_56 rfl ?_
        refine gfX5_102 (o := 0) (by decide) rfl C X dX5_way_57 ?_
        refine lv_iconst (v := 1) hx hb dX5_way_60 (by decide) ?_
        refine lv_iadd hx hb dX5_way_61 ?_
        obtain ⟨μ62, e62, hf⟩ := nm_e2 hf
        refine pfX5_102 (o := 0) (by decide) rfl e62 C X dX5_way_62 (fun H locs X => ?_)
        refine lv_aload_n hx hb dX5_way_65 rfl (lv_at hl 0 rfl) ?_
        refine gfX5_10 C X dX5_way_66 ?_
        refine gfX5_102 (o := 0) (by decide) rfl C X dX5_way_69 ?_
        refine lv_iconst (v := 1) hx hb dX5_way_72 (by decide) ?_
        refine lv_isub hx hb dX5_way_73 ?_
        exact retI C X hr rfl (so2 hf).1 (so2 hf).2 rfl dX5_way_74
      · replace hf := ifn c26 hf
        refine lv_bipush (v := (-4)) hx hb dX5_way_29 (by decide) ?_
        exact retI C X hr rfl (so2 hf).1 (so2 hf).2 rfl dX5_way_31
    · replace hf := ifp c11 hf
      refine lv_bipush (v := (-2)) hx hb dX5_way_14 (by decide) ?_
      exact retI C X hr rfl (so2 hf).1 (so2 hf).2 rfl dX5_way_16
theorem ct5_way {x1 : Int32} {x2 : Int32} {μ : Mem} {ν : Lem} {r : Int32} {μ1 : Mem} (hg : f5_way μ x1 x2 = some (r, μ1)) : CtI true yX5_way cX5_way 3 1 22 .int (fun ad => [.ref (ad 0), .int x1, .int x2]) μ ν r μ1 ν :=
  mkI (by decide) rfl (fun ad => Nat.le_of_ble_eq_true rfl) (fun p l e s m args below meth c D cy ad C hr X ls hl => w5_way C hr μ x1 x2 hg _ _ X _ hl)
theorem qL_18 {p : Program} {l : Launch} {e : Env} {R : Room} {s : State} {m : MethodId} {args : Array Value} {below : List Frame} {meth : Method} {c : Code} {H : Heap} {locs : List Loc} {cells slots : Nat} {Q : State → Prop} {A : Nat → Prop} {cc : ByteArray} {nL : Nat} {D : va_G} {cy : Nat → ClassId} {ad : Nat → Nat} {μ : Mem} {ν : Lem} {pc : Nat} {ls : Array Slot} {rest : List Value} {x1 : Int32} {x2 : Int32} {r : Int32} {μ1 : Mem} (hg : f5_way μ x1 x2 = some (r, μ1)) (C : CxA true A p s m args meth c cc nL RL D cy ad) (X : WdA true A D cy ad s.heap μ ν H locs) (hsz : ls.size = nL) (hrm : (rest.map fun v => v.category).sum ≤ 8) (hR : 1 + 1 ≤ R.frames ∧ 8 + (3 + 11) + 22 ≤ R.locals) (hcs : cells ≤ R.cells ∧ slots ≤ R.slots) (hd : decode cc pc = .ok (.invokevirtual 18, 3)) (kk : ∀ (H1 : Heap) (locs1 : List Loc), WdA true A D cy ad s.heap μ1 ν H1 locs1 → narrow .int (.int r) = .int r → W p l e R s m args below meth c H1 locs1 cells slots Q (F0 m (pc + 3) ls (.int r :: rest))) : W p l e R s m args below meth c H locs cells slots Q (F0 m pc ls (.int x2 :: .int x1 :: .ref (ad 0) :: rest)) :=
  rCVI (As := [.int x1, .int x2]) (k := 0) (ct5_way hg) ok5 lX5_way k_235 rfl rfl rfl C X rfl hrm hsz hR hcs hd kk
set_option maxRecDepth 100000 in
set_option maxHeartbeats 4000000 in
theorem w5_isMinute {p : Program} {l : Launch} {e : Env} {s : State} {m : MethodId} {args : Array Value} {below : List Frame} {meth : Method} {c : Code} {D : va_G} {cy : Nat → ClassId} {ad : Nat → Nat} {r : Int32} {μ : Mem} {ν : Lem} (C : Cx true p s m args meth c cX5_isMinute 1 RX5 D cy ad) (hr : meth.sig.returnType = some .boolean) : ∀ (x0 : Int32), f5_isMinute x0 = r → ∀ (H : Heap) (locs : List Loc), Wd true D cy ad s.heap μ ν H locs → ∀ (ls : Array Slot), lv_has ls 1 [(0, .int x0)] → WI true p l e 0 0 s m args below meth c D cy ad .boolean r μ ν H locs (F0 m 0 ls []) := by
  have hx := C.1.1
  have hb := C.1.2.1
  have hown := C.1.2.2.2.1
  have hts := C.1.2.2.2.2
  intro x0 hf H locs X ls hl
  unfold f5_isMinute at hf
  refine lv_iload_n hx hb dX5_isMinute_0 rfl (lv_at hl 0 rfl) ?_
  refine lv_if_lt (tgt := 15) hx hb dX5_isMinute_1 (by decide) (fun c1 => ?_) (fun c1 => ?_)
  · replace hf := ifp c1 hf
    refine lv_iconst (v := 0) hx hb dX5_isMinute_15 (by decide) ?_
    exact retI C X hr rfl hf rfl rfl dX5_isMinute_16
  · replace hf := ifn c1 hf
    refine lv_iload_n hx hb dX5_isMinute_4 rfl (lv_at hl 0 rfl) ?_
    refine lv_sipush (v := 600) hx hb dX5_isMinute_5 (by decide) ?_
    refine lv_icmp_gt (tgt := 15) hx hb dX5_isMinute_8 (by decide) (fun c8 => ?_) (fun c8 => ?_)
    · replace hf := ifp c8 hf
      refine lv_iconst (v := 0) hx hb dX5_isMinute_15 (by decide) ?_
      exact retI C X hr rfl hf rfl rfl dX5_isMinute_16
    · replace hf := ifn c8 hf
      refine lv_iconst (v := 1) hx hb dX5_isMinute_11 (by decide) ?_
      refine lv_goto (tgt := 16) hx hb dX5_isMinute_12 (by decide) ?_
      exact retI C X hr rfl hf rfl rfl dX5_isMinute_16
theorem ct5_isMinute {x0 : Int32} {μ : Mem} {ν : Lem} {r : Int32} (hg : f5_isMinute x0 = r) : CtI true yX5_isMinute cX5_isMinute 1 0 0 .boolean (fun ad => [.int x0]) μ ν r μ ν :=
  mkI (by decide) rfl (fun ad => Nat.le_of_ble_eq_true rfl) (fun p l e s m args below meth c D cy ad C hr X ls hl => w5_isMinute C hr x0 hg _ _ X _ hl)
theorem qX5_113 {p : Program} {l : Launch} {e : Env} {R : Room} {s : State} {m : MethodId} {args : Array Value} {below : List Frame} {meth : Method} {c : Code} {H : Heap} {locs : List Loc} {cells slots : Nat} {Q : State → Prop} {A : Nat → Prop} {cc : ByteArray} {nL : Nat} {D : va_G} {cy : Nat → ClassId} {ad : Nat → Nat} {μ : Mem} {ν : Lem} {pc : Nat} {ls : Array Slot} {rest : List Value} {x0 : Int32} {r : Int32} (hg : f5_isMinute x0 = r) (C : CxA true A p s m args meth c cc nL RX5 D cy ad) (X : WdA true A D cy ad s.heap μ ν H locs) (hsz : ls.size = nL) (hrm : (rest.map fun v => v.category).sum ≤ 8) (hR : 0 + 1 ≤ R.frames ∧ 8 + (1 + 11) + 0 ≤ R.locals) (hcs : cells ≤ R.cells ∧ slots ≤ R.slots) (hd : decode cc pc = .ok (.invokestatic 113, 3)) (kk : ∀ (H1 : Heap) (locs1 : List Loc), WdA true A D cy ad s.heap μ ν H1 locs1 → narrow .boolean (.int r) = .int r → W p l e R s m args below meth c H1 locs1 cells slots Q (F0 m (pc + 3) ls (.int r :: rest))) : W p l e R s m args below meth c H locs cells slots Q (F0 m pc ls (.int x0 :: rest)) :=
  rCSI (As := [.int x0]) (ct5_isMinute hg) lX5_isMinute k_254 rfl rfl C X rfl hrm hsz hR hcs hd kk
set_option maxRecDepth 100000 in
set_option maxHeartbeats 4000000 in
theorem w5_addPoint {p : Program} {l : Launch} {e : Env} {s : State} {m : MethodId} {args : Array Value} {below : List Frame} {meth : Method} {c : Code} {D : va_G} {cy : Nat → ClassId} {ad : Nat → Nat} {r : Int32} {μ1 : Mem} {ν : Lem} (C : Cx true p s m args meth c cX5_addPoint 5 RX5 D cy ad) (hr : meth.sig.returnType = some .int) : ∀ (μ : Mem) (x1 : Int32) (x2 : Int32) (x3 : Int32), f5_addPoint μ x1 x2 x3 = some (r, μ1) → ∀ (H : Heap) (locs : List Loc), Wd true D cy ad s.heap μ ν H locs → ∀ (ls : Array Slot), lv_has ls 5 [(0, .ref (ad 0)), (1, .int x1), (2, .int x2), (3, .int x3)] → WI true p l e 1 22 s m args below meth c D cy ad .int r μ1 ν H locs (F0 m 0 ls []) := by
  have hx := C.1.1
  have hb := C.1.2.1
  have hown := C.1.2.2.2.1
  have hts := C.1.2.2.2.2
  intro μ x1 x2 x3 hf H locs X ls hl
  unfold f5_addPoint at hf
  refine lv_aload_n hx hb dX5_addPoint_0 rfl (lv_at hl 0 rfl) ?_
  refine gfX5_10 C X dX5_addPoint_1 ?_
  refine lv_iload_n hx hb dX5_addPoint_4 rfl (lv_at hl 1 rfl) ?_
  refine qX5_85 (o := 0) (by decide) rfl C X hl.1 ((Nat.le_of_ble_eq_true rfl)) ⟨(Nat.le_of_ble_eq_true rfl), (Nat.le_of_ble_eq_true rfl)⟩ ⟨Nat.zero_le _, Nat.zero_le _⟩ dX5_addPoint_5 (fun H locs X b5 => ?_)
  refine lv_if_eq (tgt := 33) hx hb dX5_addPoint_8 (by decide) (fun c8 => ?_) (fun c8 => ?_)
  · replace hf := ifp c8 hf
    refine lv_bipush (v := (-2)) hx hb dX5_addPoint_33 (by decide) ?_
    exact retI C X hr rfl (so2 hf).1 (so2 hf).2 rfl dX5_addPoint_35
  · replace hf := ifn c8 hf
    refine lv_iload_n hx hb dX5_addPoint_11 rfl (lv_at hl 2 rfl) ?_
    refine qX5_113 rfl C X hl.1 ((Nat.le_of_ble_eq_true rfl)) ⟨(Nat.le_of_ble_eq_true rfl), (Nat.le_of_ble_eq_true rfl)⟩ ⟨Nat.zero_le _, Nat.zero_le _⟩ dX5_addPoint_12 (fun H locs X b12 => ?_)
    refine lv_if_eq (tgt := 33) hx hb dX5_addPoint_15 (by decide) (fun c15 => ?_) (fun c15 => ?_)
    · replace hf := ifp c15 hf
      refine lv_bipush (v := (-2)) hx hb dX5_addPoint_33 (by decide) ?_
      exact retI C X hr rfl (so2 hf).1 (so2 hf).2 rfl dX5_addPoint_35
    · replace hf := ifn c15 hf
      refine lv_iload_n hx hb dX5_addPoint_18 rfl (lv_at hl 3 rfl) ?_
      refine lv_if_lt (tgt := 33) hx hb dX5_addPoint_19 (by decide) (fun c19 => ?_) (fun c19 => ?_)
      · replace hf := ifp c19 hf
        refine lv_bipush (v := (-2)) hx hb dX5_addPoint_33 (by decide) ?_
        exact retI C X hr rfl (so2 hf).1 (so2 hf).2 rfl dX5_addPoint_35
      · replace hf := ifn c19 hf
        refine lv_iload_n hx hb dX5_addPoint_22 rfl (lv_at hl 3 rfl) ?_
        refine lv_aload_n hx hb dX5_addPoint_23 rfl (lv_at hl 0 rfl) ?_
        refine gfX5_10 C X dX5_addPoint_24 ?_
        refine gfX5_82 (o := 0) (by decide) rfl C X dX5_addPoint_27 ?_
        refine lv_icmp_le (tgt := 36) hx hb dX5_addPoint_30 (by decide) (fun c30 => ?_) (fun c30 => ?_)
        · replace hf := ifp c30 hf
          refine lv_aload_n hx hb dX5_addPoint_36 rfl (lv_at hl 0 rfl) ?_
          refine gfX5_10 C X dX5_addPoint_37 ?_
          refine gfX5_92 (o := 0) (by decide) rfl (k2 := 12) rfl C X dX5_addPoint_40 ?_
          refine lv_iload_n hx hb dX5_addPoint_43 rfl (lv_at hl 1 rfl) ?_
          obtain ⟨h44, hf⟩ := gd_e hf
          have hb44 : x1.toNatClampNeg < 13 := by have := inb_lt h44; omega
          refine rAald (t := 0) (k' := (14 + 3 * x1.toNatClampNeg)) C X rfl rfl h44 (by omega) dX5_addPoint_44 ?_
          refine lv_astore (lv' := [(4, .ref (ad (14 + 3 * x1.toNatClampNeg))), (0, .ref (ad 0)), (1, .int x1), (2, .int x2), (3, .int x3)]) hx hb dX5_addPoint_45 hl (by decide) rfl (fun ls hl => ?_)
          refine lv_aload hx hb dX5_addPoint_47 (lv_at hl 0 rfl) ?_
          refine lv_iload_n hx hb dX5_addPoint_49 rfl (lv_at hl 3 rfl) ?_
          obtain ⟨r50, g50, hf⟩ := bd1_e hf
          refine qX5_116 (j := x1.toNatClampNeg) hb44 g50 C X hl.1 ((Nat.le_of_ble_eq_true rfl)) ⟨(Nat.le_of_ble_eq_true rfl), (Nat.le_of_ble_eq_true rfl)⟩ ⟨Nat.zero_le _, Nat.zero_le _⟩ dX5_addPoint_50 (fun H locs X b50 => ?_)
          refine lv_if_ne (tgt := 59) hx hb dX5_addPoint_53 (by decide) (fun c53 => ?_) (fun c53 => ?_)
          · replace hf := ifn c53 hf
            refine lv_aload hx hb dX5_addPoint_59 (lv_at hl 0 rfl) ?_
            refine gfX5_119 (j := x1.toNatClampNeg) hb44 rfl C X dX5_addPoint_61 ?_
            refine lv_bipush (v := 8) hx hb dX5_addPoint_64 (by decide) ?_
            refine lv_icmp_lt (tgt := 72) hx hb dX5_addPoint_66 (by decide) (fun c66 => ?_) (fun c66 => ?_)
            · replace hf := ifp c66 hf
              refine lv_aload hx hb dX5_addPoint_72 (lv_at hl 0 rfl) ?_
              refine lv_iload_n hx hb dX5_addPoint_74 rfl (lv_at hl 3 rfl) ?_
              refine lv_iload_n hx hb dX5_addPoint_75 rfl (lv_at hl 4 rfl) ?_
              obtain ⟨μ76, g76, hf⟩ := bd1_e hf
              refine qX5_120 (j := x1.toNatClampNeg) hb44 g76 C X hl.1 ((Nat.le_of_ble_eq_true rfl)) ⟨(Nat.le_of_ble_eq_true rfl), (Nat.le_of_ble_eq_true rfl)⟩ ⟨Nat.zero_le _, Nat.zero_le _⟩ dX5_addPoint_76 (fun H locs X => ?_)
              refine lv_aload hx hb dX5_addPoint_79 (lv_at hl 0 rfl) ?_
              refine gfX5_119 (j := x1.toNatClampNeg) hb44 rfl C X dX5_addPoint_81 ?_
              exact retI C X hr rfl (so2 hf).1 (so2 hf).2 rfl dX5_addPoint_84
            · replace hf := ifn c66 hf
              refine lv_bipush (v := (-4)) hx hb dX5_addPoint_69 (by decide) ?_
              exact retI C X hr rfl (so2 hf).1 (so2 hf).2 rfl dX5_addPoint_71
          · replace hf := ifp c53 hf
            refine lv_bipush (v := (-2)) hx hb dX5_addPoint_56 (by decide) ?_
            exact retI C X hr rfl (so2 hf).1 (so2 hf).2 rfl dX5_addPoint_58
        · replace hf := ifn c30 hf
          refine lv_bipush (v := (-2)) hx hb dX5_addPoint_33 (by decide) ?_
          exact retI C X hr rfl (so2 hf).1 (so2 hf).2 rfl dX5_addPoint_35
theorem ct5_addPoint {x1 : Int32} {x2 : Int32} {x3 : Int32} {μ : Mem} {ν : Lem} {r : Int32} {μ1 : Mem} (hg : f5_addPoint μ x1 x2 x3 = some (r, μ1)) : CtI true yX5_addPoint cX5_addPoint 5 1 22 .int (fun ad => [.ref (ad 0), .int x1, .int x2, .int x3]) μ ν r μ1 ν :=
  mkI (by decide) rfl (fun ad => Nat.le_of_ble_eq_true rfl) (fun p l e s m args below meth c D cy ad C hr X ls hl => w5_addPoint C hr μ x1 x2 x3 hg _ _ X _ hl)
theorem qX5_109 {p : Program} {l : Launch} {e : Env} {R : Room} {s : State} {m : MethodId} {args : Array Value} {below : List Frame} {meth : Method} {c : Code} {H : Heap} {locs : List Loc} {cells slots : Nat} {Q : State → Prop} {A : Nat → Prop} {cc : ByteArray} {nL : Nat} {D : va_G} {cy : Nat → ClassId} {ad : Nat → Nat} {μ : Mem} {ν : Lem} {pc : Nat} {ls : Array Slot} {rest : List Value} {x1 : Int32} {x2 : Int32} {x3 : Int32} {r : Int32} {μ1 : Mem} (hg : f5_addPoint μ x1 x2 x3 = some (r, μ1)) (C : CxA true A p s m args meth c cc nL RX5 D cy ad) (X : WdA true A D cy ad s.heap μ ν H locs) (hsz : ls.size = nL) (hrm : (rest.map fun v => v.category).sum ≤ 8) (hR : 1 + 1 ≤ R.frames ∧ 8 + (5 + 11) + 22 ≤ R.locals) (hcs : cells ≤ R.cells ∧ slots ≤ R.slots) (hd : decode cc pc = .ok (.invokevirtual 109, 3)) (kk : ∀ (H1 : Heap) (locs1 : List Loc), WdA true A D cy ad s.heap μ1 ν H1 locs1 → narrow .int (.int r) = .int r → W p l e R s m args below meth c H1 locs1 cells slots Q (F0 m (pc + 3) ls (.int r :: rest))) : W p l e R s m args below meth c H locs cells slots Q (F0 m pc ls (.int x3 :: .int x2 :: .int x1 :: .ref (ad 0) :: rest)) :=
  rCVI (As := [.int x1, .int x2, .int x3]) (k := 0) (ct5_addPoint hg) ok5 lX5_addPoint k_250 rfl rfl rfl C X rfl hrm hsz hR hcs hd kk
set_option maxRecDepth 100000 in
set_option maxHeartbeats 4000000 in
theorem w5_point {p : Program} {l : Launch} {e : Env} {s : State} {m : MethodId} {args : Array Value} {below : List Frame} {meth : Method} {c : Code} {D : va_G} {cy : Nat → ClassId} {ad : Nat → Nat} {r : Int32} {μ1 : Mem} {ν : Lem} (C : Cx true p s m args meth c cX5_point 4 RX5 D cy ad) (hr : meth.sig.returnType = some .int) : ∀ (μ : Mem) (x1 : Int32) (x2 : Int32) (x3 : Int32), f5_point μ x1 x2 x3 = some (r, μ1) → ∀ (H : Heap) (locs : List Loc), Wd true D cy ad s.heap μ ν H locs → ∀ (ls : Array Slot), lv_has ls 4 [(0, .ref (ad 0)), (1, .int x1), (2, .int x2), (3, .int x3)] → WI true p l e 2 46 s m args below meth c D cy ad .int r μ1 ν H locs (F0 m 0 ls []) := by
  have hx := C.1.1
  have hb := C.1.2.1
  have hown := C.1.2.2.2.1
  have hts := C.1.2.2.2.2
  intro μ x1 x2 x3 hf H locs X ls hl
  unfold f5_point at hf
  refine lv_aload_n hx hb dX5_point_0 rfl (lv_at hl 0 rfl) ?_
  refine lv_iload_n hx hb dX5_point_1 rfl (lv_at hl 1 rfl) ?_
  refine lv_iload_n hx hb dX5_point_2 rfl (lv_at hl 2 rfl) ?_
  refine lv_iload_n hx hb dX5_point_3 rfl (lv_at hl 3 rfl) ?_
  obtain ⟨r4, μ4, g4, hf⟩ := bd2_e hf
  refine qX5_109 g4 C X hl.1 ((Nat.le_of_ble_eq_true rfl)) ⟨(Nat.le_of_ble_eq_true rfl), (Nat.le_of_ble_eq_true rfl)⟩ ⟨Nat.zero_le _, Nat.zero_le _⟩ dX5_point_4 (fun H locs X b4 => ?_)
  exact retI C X hr rfl (so2 hf).1 (so2 hf).2 rfl dX5_point_7
theorem ct5_point {x1 : Int32} {x2 : Int32} {x3 : Int32} {μ : Mem} {ν : Lem} {r : Int32} {μ1 : Mem} (hg : f5_point μ x1 x2 x3 = some (r, μ1)) : CtI true yX5_point cX5_point 4 2 46 .int (fun ad => [.ref (ad 0), .int x1, .int x2, .int x3]) μ ν r μ1 ν :=
  mkI (by decide) rfl (fun ad => Nat.le_of_ble_eq_true rfl) (fun p l e s m args below meth c D cy ad C hr X ls hl => w5_point C hr μ x1 x2 x3 hg _ _ X _ hl)
theorem qL_23 {p : Program} {l : Launch} {e : Env} {R : Room} {s : State} {m : MethodId} {args : Array Value} {below : List Frame} {meth : Method} {c : Code} {H : Heap} {locs : List Loc} {cells slots : Nat} {Q : State → Prop} {A : Nat → Prop} {cc : ByteArray} {nL : Nat} {D : va_G} {cy : Nat → ClassId} {ad : Nat → Nat} {μ : Mem} {ν : Lem} {pc : Nat} {ls : Array Slot} {rest : List Value} {x1 : Int32} {x2 : Int32} {x3 : Int32} {r : Int32} {μ1 : Mem} (hg : f5_point μ x1 x2 x3 = some (r, μ1)) (C : CxA true A p s m args meth c cc nL RL D cy ad) (X : WdA true A D cy ad s.heap μ ν H locs) (hsz : ls.size = nL) (hrm : (rest.map fun v => v.category).sum ≤ 8) (hR : 2 + 1 ≤ R.frames ∧ 8 + (4 + 11) + 46 ≤ R.locals) (hcs : cells ≤ R.cells ∧ slots ≤ R.slots) (hd : decode cc pc = .ok (.invokevirtual 23, 3)) (kk : ∀ (H1 : Heap) (locs1 : List Loc), WdA true A D cy ad s.heap μ1 ν H1 locs1 → narrow .int (.int r) = .int r → W p l e R s m args below meth c H1 locs1 cells slots Q (F0 m (pc + 3) ls (.int r :: rest))) : W p l e R s m args below meth c H locs cells slots Q (F0 m pc ls (.int x3 :: .int x2 :: .int x1 :: .ref (ad 0) :: rest)) :=
  rCVI (As := [.int x1, .int x2, .int x3]) (k := 0) (ct5_point hg) ok5 lX5_point k_246 rfl rfl rfl C X rfl hrm hsz hR hcs hd kk
set_option maxRecDepth 100000 in
set_option maxHeartbeats 4000000 in
theorem w5_clear {p : Program} {l : Launch} {e : Env} {s : State} {m : MethodId} {args : Array Value} {below : List Frame} {meth : Method} {c : Code} {D : va_G} {cy : Nat → ClassId} {ad : Nat → Nat} {r : Int32} {μ1 : Mem} {ν : Lem} (C : Cx true p s m args meth c cX5_clear 3 RX5 D cy ad) (hr : meth.sig.returnType = some .int) : ∀ (μ : Mem) (x1 : Int32), f5_clear μ x1 = some (r, μ1) → ∀ (H : Heap) (locs : List Loc), Wd true D cy ad s.heap μ ν H locs → ∀ (ls : Array Slot), lv_has ls 3 [(0, .ref (ad 0)), (1, .int x1)] → WI true p l e 1 21 s m args below meth c D cy ad .int r μ1 ν H locs (F0 m 0 ls []) := by
  have hx := C.1.1
  have hb := C.1.2.1
  have hown := C.1.2.2.2.1
  have hts := C.1.2.2.2.2
  intro μ x1 hf H locs X ls hl
  unfold f5_clear at hf
  refine lv_aload_n hx hb dX5_clear_0 rfl (lv_at hl 0 rfl) ?_
  refine gfX5_10 C X dX5_clear_1 ?_
  refine lv_iload_n hx hb dX5_clear_4 rfl (lv_at hl 1 rfl) ?_
  refine qX5_85 (o := 0) (by decide) rfl C X hl.1 ((Nat.le_of_ble_eq_true rfl)) ⟨(Nat.le_of_ble_eq_true rfl), (Nat.le_of_ble_eq_true rfl)⟩ ⟨Nat.zero_le _, Nat.zero_le _⟩ dX5_clear_5 (fun H locs X b5 => ?_)
  refine lv_if_ne (tgt := 14) hx hb dX5_clear_8 (by decide) (fun c8 => ?_) (fun c8 => ?_)
  · replace hf := ifn c8 hf
    refine lv_aload_n hx hb dX5_clear_14 rfl (lv_at hl 0 rfl) ?_
    refine gfX5_10 C X dX5_clear_15 ?_
    refine gfX5_92 (o := 0) (by decide) rfl (k2 := 12) rfl C X dX5_clear_18 ?_
    refine lv_iload_n hx hb dX5_clear_21 rfl (lv_at hl 1 rfl) ?_
    obtain ⟨h22, hf⟩ := gd_e hf
    have hb22 : x1.toNatClampNeg < 13 := by have := inb_lt h22; omega
    refine rAald (t := 0) (k' := (14 + 3 * x1.toNatClampNeg)) C X rfl rfl h22 (by omega) dX5_clear_22 ?_
    refine gfX5_119 (j := x1.toNatClampNeg) hb22 rfl C X dX5_clear_23 ?_
    obtain ⟨v26, e26, hf⟩ := nm_e2 hf
    refine st_i e26 ?_
    refine lv_istore_n (lv' := [(2, .int v26), (0, .ref (ad 0)), (1, .int x1)]) hx hb dX5_clear_26 rfl hl (by decide) rfl (fun ls hl => ?_)
    refine lv_aload_n hx hb dX5_clear_27 rfl (lv_at hl 1 rfl) ?_
    refine gfX5_10 C X dX5_clear_28 ?_
    refine gfX5_92 (o := 0) (by decide) rfl (k2 := 12) rfl C X dX5_clear_31 ?_
    refine lv_iload_n hx hb dX5_clear_34 rfl (lv_at hl 2 rfl) ?_
    obtain ⟨h35, hf⟩ := gd_e hf
    have hb35 : x1.toNatClampNeg < 13 := by have := inb_lt h35; omega
    refine rAald (t := 0) (k' := (14 + 3 * x1.toNatClampNeg)) C X rfl rfl h35 (by omega) dX5_clear_35 ?_
    refine lv_iconst (v := 0) hx hb dX5_clear_36 (by decide) ?_
    obtain ⟨μ37, e37, hf⟩ := nm_e2 hf
    refine pfX5_119 (j := x1.toNatClampNeg) hb35 rfl e37 C X dX5_clear_37 (fun H locs X => ?_)
    refine lv_iload_n hx hb dX5_clear_40 rfl (lv_at hl 0 rfl) ?_
    exact retI C X hr rfl (so2 hf).1 (so2 hf).2 rfl dX5_clear_41
  · replace hf := ifp c8 hf
    refine lv_bipush (v := (-2)) hx hb dX5_clear_11 (by decide) ?_
    exact retI C X hr rfl (so2 hf).1 (so2 hf).2 rfl dX5_clear_13
theorem ct5_clear {x1 : Int32} {μ : Mem} {ν : Lem} {r : Int32} {μ1 : Mem} (hg : f5_clear μ x1 = some (r, μ1)) : CtI true yX5_clear cX5_clear 3 1 21 .int (fun ad => [.ref (ad 0), .int x1]) μ ν r μ1 ν :=
  mkI (by decide) rfl (fun ad => Nat.le_of_ble_eq_true rfl) (fun p l e s m args below meth c D cy ad C hr X ls hl => w5_clear C hr μ x1 hg _ _ X _ hl)
theorem qL_27 {p : Program} {l : Launch} {e : Env} {R : Room} {s : State} {m : MethodId} {args : Array Value} {below : List Frame} {meth : Method} {c : Code} {H : Heap} {locs : List Loc} {cells slots : Nat} {Q : State → Prop} {A : Nat → Prop} {cc : ByteArray} {nL : Nat} {D : va_G} {cy : Nat → ClassId} {ad : Nat → Nat} {μ : Mem} {ν : Lem} {pc : Nat} {ls : Array Slot} {rest : List Value} {x1 : Int32} {r : Int32} {μ1 : Mem} (hg : f5_clear μ x1 = some (r, μ1)) (C : CxA true A p s m args meth c cc nL RL D cy ad) (X : WdA true A D cy ad s.heap μ ν H locs) (hsz : ls.size = nL) (hrm : (rest.map fun v => v.category).sum ≤ 8) (hR : 1 + 1 ≤ R.frames ∧ 8 + (3 + 11) + 21 ≤ R.locals) (hcs : cells ≤ R.cells ∧ slots ≤ R.slots) (hd : decode cc pc = .ok (.invokevirtual 27, 3)) (kk : ∀ (H1 : Heap) (locs1 : List Loc), WdA true A D cy ad s.heap μ1 ν H1 locs1 → narrow .int (.int r) = .int r → W p l e R s m args below meth c H1 locs1 cells slots Q (F0 m (pc + 3) ls (.int r :: rest))) : W p l e R s m args below meth c H locs cells slots Q (F0 m pc ls (.int x1 :: .ref (ad 0) :: rest)) :=
  rCVI (As := [.int x1]) (k := 0) (ct5_clear hg) ok5 lX5_clear k_265 rfl rfl rfl C X rfl hrm hsz hR hcs hd kk
set_option maxRecDepth 100000 in
set_option maxHeartbeats 4000000 in
theorem w5_told {p : Program} {l : Launch} {e : Env} {s : State} {m : MethodId} {args : Array Value} {below : List Frame} {meth : Method} {c : Code} {D : va_G} {cy : Nat → ClassId} {ad : Nat → Nat} {r : Int32} {μ : Mem} {ν : Lem} (C : Cx true p s m args meth c cX5_told 5 RX5 D cy ad) (hr : meth.sig.returnType = some .int) : ∀ (x1 : Int32) (x2 : Int32), f5_told μ x1 x2 = some r → ∀ (H : Heap) (locs : List Loc), Wd true D cy ad s.heap μ ν H locs → ∀ (ls : Array Slot), lv_has ls 5 [(0, .ref (ad 0)), (1, .int x1), (2, .int x2)] → WI true p l e 1 21 s m args below meth c D cy ad .int r μ ν H locs (F0 m 0 ls []) := by
  have hx := C.1.1
  have hb := C.1.2.1
  have hown := C.1.2.2.2.1
  have hts := C.1.2.2.2.2
  intro x1 x2 hf H locs X ls hl
  unfold f5_told at hf
  refine lv_aload_n hx hb dX5_told_0 rfl (lv_at hl 0 rfl) ?_
  refine gfX5_10 C X dX5_told_1 ?_
  refine lv_iload_n hx hb dX5_told_4 rfl (lv_at hl 1 rfl) ?_
  refine qX5_85 (o := 0) (by decide) rfl C X hl.1 ((Nat.le_of_ble_eq_true rfl)) ⟨(Nat.le_of_ble_eq_true rfl), (Nat.le_of_ble_eq_true rfl)⟩ ⟨Nat.zero_le _, Nat.zero_le _⟩ dX5_told_5 (fun H locs X b5 => ?_)
  refine lv_if_eq (tgt := 15) hx hb dX5_told_8 (by decide) (fun c8 => ?_) (fun c8 => ?_)
  · replace hf := ifp c8 hf
    refine lv_bipush (v := (-2)) hx hb dX5_told_15 (by decide) ?_
    exact retI C X hr rfl (Option.some.inj hf) rfl rfl dX5_told_17
  · replace hf := ifn c8 hf
    refine lv_iload_n hx hb dX5_told_11 rfl (lv_at hl 2 rfl) ?_
    refine lv_if_ge (tgt := 18) hx hb dX5_told_12 (by decide) (fun c12 => ?_) (fun c12 => ?_)
    · replace hf := ifp c12 hf
      refine lv_aload_n hx hb dX5_told_18 rfl (lv_at hl 0 rfl) ?_
      refine gfX5_10 C X dX5_told_19 ?_
      refine gfX5_92 (o := 0) (by decide) rfl (k2 := 12) rfl C X dX5_told_22 ?_
      refine lv_iload_n hx hb dX5_told_25 rfl (lv_at hl 1 rfl) ?_
      obtain ⟨h26, hf⟩ := gd_e hf
      have hb26 : x1.toNatClampNeg < 13 := by have := inb_lt h26; omega
      refine rAald (t := 0) (k' := (14 + 3 * x1.toNatClampNeg)) C X rfl rfl h26 (by omega) dX5_told_26 ?_
      refine lv_astore_n (lv' := [(3, .ref (ad (14 + 3 * x1.toNatClampNeg))), (0, .ref (ad 0)), (1, .int x1), (2, .int x2)]) hx hb dX5_told_27 rfl hl (by decide) rfl (fun ls hl => ?_)
      refine lv_iload_n hx hb dX5_told_28 rfl (lv_at hl 3 rfl) ?_
      refine lv_if_ne (tgt := 37) hx hb dX5_told_29 (by decide) (fun c29 => ?_) (fun c29 => ?_)
      · replace hf := ifn c29 hf
        refine lv_iload_n hx hb dX5_told_37 rfl (lv_at hl 3 rfl) ?_
        refine lv_iconst (v := 1) hx hb dX5_told_38 (by decide) ?_
        refine lv_icmp_ne (tgt := 47) hx hb dX5_told_39 (by decide) (fun c39 => ?_) (fun c39 => ?_)
        · replace hf := ifn c39 hf
          refine lv_iload_n hx hb dX5_told_47 rfl (lv_at hl 3 rfl) ?_
          refine lv_iconst (v := 2) hx hb dX5_told_48 (by decide) ?_
          refine lv_icmp_ne (tgt := 57) hx hb dX5_told_49 (by decide) (fun c49 => ?_) (fun c49 => ?_)
          · replace hf := ifn c49 hf
            refine lv_iload_n hx hb dX5_told_57 rfl (lv_at hl 3 rfl) ?_
            refine lv_iconst (v := 3) hx hb dX5_told_58 (by decide) ?_
            refine lv_isub hx hb dX5_told_59 ?_
            refine lv_iconst (v := 2) hx hb dX5_told_60 (by decide) ?_
            refine lv_idiv hx hb dX5_told_61 (by decide) ?_
            obtain ⟨v62, e62, hf⟩ := nm_e2 hf
            refine st_i e62 ?_
            refine lv_istore (lv' := [(4, .int v62), (3, .ref (ad (14 + 3 * x1.toNatClampNeg))), (0, .ref (ad 0)), (1, .int x1), (2, .int x2)]) hx hb dX5_told_62 hl (by decide) rfl (fun ls hl => ?_)
            refine lv_iload hx hb dX5_told_64 (lv_at hl 0 rfl) ?_
            refine lv_aload_n hx hb dX5_told_66 rfl (lv_at hl 1 rfl) ?_
            refine gfX5_119 (j := x1.toNatClampNeg) hb26 rfl C X dX5_told_67 ?_
            refine lv_icmp_lt (tgt := 76) hx hb dX5_told_70 (by decide) (fun c70 => ?_) (fun c70 => ?_)
            · replace hf := ifp c70 hf
              refine lv_iload_n hx hb dX5_told_76 rfl (lv_at hl 4 rfl) ?_
              refine lv_iconst (v := 2) hx hb dX5_told_77 (by decide) ?_
              refine rIrem hx hb dX5_told_78 (by decide) ?_
              refine lv_iconst (v := 1) hx hb dX5_told_79 (by decide) ?_
              refine lv_icmp_ne (tgt := 93) hx hb dX5_told_80 (by decide) (fun c80 => ?_) (fun c80 => ?_)
              · replace hf := ifn c80 hf
                refine lv_aload_n hx hb dX5_told_93 rfl (lv_at hl 1 rfl) ?_
                refine gfX5_129 (j := x1.toNatClampNeg) hb26 rfl (k2 := (16 + 3 * x1.toNatClampNeg)) rfl C X dX5_told_94 ?_
                refine lv_iload hx hb dX5_told_97 (lv_at hl 0 rfl) ?_
                obtain ⟨h99, hf⟩ := gd_e hf
                refine rIald C X (sWp hb26) h99 dX5_told_99 ?_
                exact retI C X hr rfl (Option.some.inj hf) rfl rfl dX5_told_100
              · replace hf := ifp c80 hf
                refine lv_aload_n hx hb dX5_told_83 rfl (lv_at hl 1 rfl) ?_
                refine gfX5_126 (j := x1.toNatClampNeg) hb26 rfl (k2 := (15 + 3 * x1.toNatClampNeg)) rfl C X dX5_told_84 ?_
                refine lv_iload hx hb dX5_told_87 (lv_at hl 0 rfl) ?_
                obtain ⟨h89, hf⟩ := gd_e hf
                refine rIald C X (sWm hb26) h89 dX5_told_89 ?_
                refine lv_goto (tgt := 100) hx hb dX5_told_90 (by decide) ?_
                exact retI C X hr rfl (Option.some.inj hf) rfl rfl dX5_told_100
            · replace hf := ifn c70 hf
              refine lv_bipush (v := (-2)) hx hb dX5_told_73 (by decide) ?_
              exact retI C X hr rfl (Option.some.inj hf) rfl rfl dX5_told_75
          · replace hf := ifp c49 hf
            refine lv_aload_n hx hb dX5_told_52 rfl (lv_at hl 0 rfl) ?_
            refine gfX5_119 (j := x1.toNatClampNeg) hb26 rfl C X dX5_told_53 ?_
            exact retI C X hr rfl (Option.some.inj hf) rfl rfl dX5_told_56
        · replace hf := ifp c39 hf
          refine lv_aload_n hx hb dX5_told_42 rfl (lv_at hl 0 rfl) ?_
          refine gfX5_96 (j := x1.toNatClampNeg) hb26 rfl C X dX5_told_43 ?_
          exact retI C X hr rfl (Option.some.inj hf) rfl rfl dX5_told_46
      · replace hf := ifp c29 hf
        refine lv_aload_n hx hb dX5_told_32 rfl (lv_at hl 0 rfl) ?_
        refine gfX5_123 (j := x1.toNatClampNeg) hb26 rfl C X dX5_told_33 ?_
        exact retI C X hr rfl (Option.some.inj hf) rfl rfl dX5_told_36
    · replace hf := ifn c12 hf
      refine lv_bipush (v := (-2)) hx hb dX5_told_15 (by decide) ?_
      exact retI C X hr rfl (Option.some.inj hf) rfl rfl dX5_told_17
theorem ct5_told {x1 : Int32} {x2 : Int32} {μ : Mem} {ν : Lem} {r : Int32} (hg : f5_told μ x1 x2 = some r) : CtI true yX5_told cX5_told 5 1 21 .int (fun ad => [.ref (ad 0), .int x1, .int x2]) μ ν r μ ν :=
  mkI (by decide) rfl (fun ad => Nat.le_of_ble_eq_true rfl) (fun p l e s m args below meth c D cy ad C hr X ls hl => w5_told C hr x1 x2 hg _ _ X _ hl)
theorem qL_32 {p : Program} {l : Launch} {e : Env} {R : Room} {s : State} {m : MethodId} {args : Array Value} {below : List Frame} {meth : Method} {c : Code} {H : Heap} {locs : List Loc} {cells slots : Nat} {Q : State → Prop} {A : Nat → Prop} {cc : ByteArray} {nL : Nat} {D : va_G} {cy : Nat → ClassId} {ad : Nat → Nat} {μ : Mem} {ν : Lem} {pc : Nat} {ls : Array Slot} {rest : List Value} {x1 : Int32} {x2 : Int32} {r : Int32} (hg : f5_told μ x1 x2 = some r) (C : CxA true A p s m args meth c cc nL RL D cy ad) (X : WdA true A D cy ad s.heap μ ν H locs) (hsz : ls.size = nL) (hrm : (rest.map fun v => v.category).sum ≤ 8) (hR : 1 + 1 ≤ R.frames ∧ 8 + (5 + 11) + 21 ≤ R.locals) (hcs : cells ≤ R.cells ∧ slots ≤ R.slots) (hd : decode cc pc = .ok (.invokevirtual 32, 3)) (kk : ∀ (H1 : Heap) (locs1 : List Loc), WdA true A D cy ad s.heap μ ν H1 locs1 → narrow .int (.int r) = .int r → W p l e R s m args below meth c H1 locs1 cells slots Q (F0 m (pc + 3) ls (.int r :: rest))) : W p l e R s m args below meth c H locs cells slots Q (F0 m pc ls (.int x2 :: .int x1 :: .ref (ad 0) :: rest)) :=
  rCVI (As := [.int x1, .int x2]) (k := 0) (ct5_told hg) ok5 lX5_told k_269 rfl rfl rfl C X rfl hrm hsz hR hcs hd kk
set_option maxRecDepth 100000 in
set_option maxHeartbeats 4000000 in
theorem w5_feed {p : Program} {l : Launch} {e : Env} {s : State} {m : MethodId} {args : Array Value} {below : List Frame} {meth : Method} {c : Code} {D : va_G} {cy : Nat → ClassId} {ad : Nat → Nat} {r : Int32} {μ1 : Mem} {ν : Lem} (C : Cx true p s m args meth c cX5_feed 2 RX5 D cy ad) (hr : meth.sig.returnType = some .int) : ∀ (μ : Mem) (x1 : Int32), f5_feed μ x1 = some (r, μ1) → ∀ (H : Heap) (locs : List Loc), Wd true D cy ad s.heap μ ν H locs → ∀ (ls : Array Slot), lv_has ls 2 [(0, .ref (ad 0)), (1, .int x1)] → WI true p l e 1 21 s m args below meth c D cy ad .int r μ1 ν H locs (F0 m 0 ls []) := by
  have hx := C.1.1
  have hb := C.1.2.1
  have hown := C.1.2.2.2.1
  have hts := C.1.2.2.2.2
  intro μ x1 hf H locs X ls hl
  unfold f5_feed at hf
  refine lv_iload_n hx hb dX5_feed_0 rfl (lv_at hl 1 rfl) ?_
  refine lv_if_lt (tgt := 11) hx hb dX5_feed_1 (by decide) (fun c1 => ?_) (fun c1 => ?_)
  · replace hf := ifp c1 hf
    refine lv_bipush (v := (-2)) hx hb dX5_feed_11 (by decide) ?_
    exact retI C X hr rfl (so2 hf).1 (so2 hf).2 rfl dX5_feed_13
  · replace hf := ifn c1 hf
    refine lv_iload_n hx hb dX5_feed_4 rfl (lv_at hl 1 rfl) ?_
    refine lv_sipush (v := 255) hx hb dX5_feed_5 (by decide) ?_
    refine lv_icmp_le (tgt := 14) hx hb dX5_feed_8 (by decide) (fun c8 => ?_) (fun c8 => ?_)
    · replace hf := ifp c8 hf
      refine lv_aload_n hx hb dX5_feed_14 rfl (lv_at hl 0 rfl) ?_
      refine gfX5_22 C X dX5_feed_15 ?_
      refine gfX5_132 C X dX5_feed_18 ?_
      refine lv_sipush (v := 160) hx hb dX5_feed_21 (by decide) ?_
      refine lv_icmp_lt (tgt := 30) hx hb dX5_feed_24 (by decide) (fun c24 => ?_) (fun c24 => ?_)
      · replace hf := ifp c24 hf
        refine lv_aload_n hx hb dX5_feed_30 rfl (lv_at hl 0 rfl) ?_
        refine gfX5_22 C X dX5_feed_31 ?_
        refine lv_iload_n hx hb dX5_feed_34 rfl (lv_at hl 1 rfl) ?_
        obtain ⟨μ35, g35, hf⟩ := bd1_e hf
        refine qX5_133 g35 C X hl.1 ((Nat.le_of_ble_eq_true rfl)) ⟨(Nat.le_of_ble_eq_true rfl), (Nat.le_of_ble_eq_true rfl)⟩ ⟨Nat.zero_le _, Nat.zero_le _⟩ dX5_feed_35 (fun H locs X => ?_)
        refine lv_aload_n hx hb dX5_feed_38 rfl (lv_at hl 0 rfl) ?_
        refine gfX5_22 C X dX5_feed_39 ?_
        refine gfX5_132 C X dX5_feed_42 ?_
        exact retI C X hr rfl (so2 hf).1 (so2 hf).2 rfl dX5_feed_45
      · replace hf := ifn c24 hf
        refine lv_bipush (v := (-4)) hx hb dX5_feed_27 (by decide) ?_
        exact retI C X hr rfl (so2 hf).1 (so2 hf).2 rfl dX5_feed_29
    · replace hf := ifn c8 hf
      refine lv_bipush (v := (-2)) hx hb dX5_feed_11 (by decide) ?_
      exact retI C X hr rfl (so2 hf).1 (so2 hf).2 rfl dX5_feed_13
theorem ct5_feed {x1 : Int32} {μ : Mem} {ν : Lem} {r : Int32} {μ1 : Mem} (hg : f5_feed μ x1 = some (r, μ1)) : CtI true yX5_feed cX5_feed 2 1 21 .int (fun ad => [.ref (ad 0), .int x1]) μ ν r μ1 ν :=
  mkI (by decide) rfl (fun ad => Nat.le_of_ble_eq_true rfl) (fun p l e s m args below meth c D cy ad C hr X ls hl => w5_feed C hr μ x1 hg _ _ X _ hl)
theorem qL_36 {p : Program} {l : Launch} {e : Env} {R : Room} {s : State} {m : MethodId} {args : Array Value} {below : List Frame} {meth : Method} {c : Code} {H : Heap} {locs : List Loc} {cells slots : Nat} {Q : State → Prop} {A : Nat → Prop} {cc : ByteArray} {nL : Nat} {D : va_G} {cy : Nat → ClassId} {ad : Nat → Nat} {μ : Mem} {ν : Lem} {pc : Nat} {ls : Array Slot} {rest : List Value} {x1 : Int32} {r : Int32} {μ1 : Mem} (hg : f5_feed μ x1 = some (r, μ1)) (C : CxA true A p s m args meth c cc nL RL D cy ad) (X : WdA true A D cy ad s.heap μ ν H locs) (hsz : ls.size = nL) (hrm : (rest.map fun v => v.category).sum ≤ 8) (hR : 1 + 1 ≤ R.frames ∧ 8 + (2 + 11) + 21 ≤ R.locals) (hcs : cells ≤ R.cells ∧ slots ≤ R.slots) (hd : decode cc pc = .ok (.invokevirtual 36, 3)) (kk : ∀ (H1 : Heap) (locs1 : List Loc), WdA true A D cy ad s.heap μ1 ν H1 locs1 → narrow .int (.int r) = .int r → W p l e R s m args below meth c H1 locs1 cells slots Q (F0 m (pc + 3) ls (.int r :: rest))) : W p l e R s m args below meth c H locs cells slots Q (F0 m pc ls (.int x1 :: .ref (ad 0) :: rest)) :=
  rCVI (As := [.int x1]) (k := 0) (ct5_feed hg) ok5 lX5_feed k_273 rfl rfl rfl C X rfl hrm hsz hR hcs hd kk
set_option maxRecDepth 100000 in
set_option maxHeartbeats 4000000 in
theorem w5_text {p : Program} {l : Launch} {e : Env} {s : State} {m : MethodId} {args : Array Value} {below : List Frame} {meth : Method} {c : Code} {D : va_G} {cy : Nat → ClassId} {ad : Nat → Nat} {r : Int32} {μ1 : Mem} {ν : Lem} (C : Cx true p s m args meth c cX5_text 2 RX5 D cy ad) (hr : meth.sig.returnType = some .int) : ∀ (μ : Mem), f5_text μ = some (r, μ1) → ∀ (H : Heap) (locs : List Loc), Wd true D cy ad s.heap μ ν H locs → ∀ (ls : Array Slot), lv_has ls 2 [(0, .ref (ad 0))] → WI true p l e 174 4367 s m args below meth c D cy ad .int r μ1 ν H locs (F0 m 0 ls []) := by
  have hx := C.1.1
  have hb := C.1.2.1
  have hown := C.1.2.2.2.1
  have hts := C.1.2.2.2.2
  intro μ hf H locs X ls hl
  unfold f5_text at hf
  refine lv_aload_n hx hb dX5_text_0 rfl (lv_at hl 0 rfl) ?_
  refine gfX5_66 C X dX5_text_1 ?_
  refine lv_bipush (v := 6) hx hb dX5_text_4 (by decide) ?_
  refine lv_icmp_lt (tgt := 12) hx hb dX5_text_6 (by decide) (fun c6 => ?_) (fun c6 => ?_)
  · replace hf := ifp c6 hf
    refine lv_aload_n hx hb dX5_text_12 rfl (lv_at hl 0 rfl) ?_
    refine gfX5_22 C X dX5_text_13 ?_
    refine lv_aload_n hx hb dX5_text_16 rfl (lv_at hl 0 rfl) ?_
    refine gfX5_28 C X dX5_text_17 ?_
    refine lv_aload_n hx hb dX5_text_20 rfl (lv_at hl 0 rfl) ?_
    refine gfX5_66 C X dX5_text_21 ?_
    obtain ⟨h24, hf⟩ := gd_e hf
    have hb24 : (μ 0 5).toNatClampNeg < 6 := by have := inb_lt h24; omega
    refine rAald (t := 1) (k' := (53 + 3 * (μ 0 5).toNatClampNeg)) C X rfl rfl h24 (by omega) dX5_text_24 ?_
    obtain ⟨r25, μ25, g25, hf⟩ := bd2_e hf
    refine qX5_136 (x1 := (μ 0 5).toNatClampNeg) hb24 g25 C X hl.1 ((Nat.le_of_ble_eq_true rfl)) ⟨(Nat.le_of_ble_eq_true rfl), (Nat.le_of_ble_eq_true rfl)⟩ ⟨Nat.zero_le _, Nat.zero_le _⟩ dX5_text_25 (fun H locs X b25 => ?_)
    refine lv_istore_n (lv' := [(1, .int r25), (0, .ref (ad 0))]) hx hb dX5_text_28 rfl hl (by decide) rfl (fun ls hl => ?_)
    refine lv_aload_n hx hb dX5_text_29 rfl (lv_at hl 1 rfl) ?_
    refine gfX5_22 C X dX5_text_30 ?_
    refine lv_iconst (v := 0) hx hb dX5_text_33 (by decide) ?_
    obtain ⟨μ34, e34, hf⟩ := nm_e2 hf
    refine pfX5_132 e34 C X dX5_text_34 (fun H locs X => ?_)
    refine lv_iload_n hx hb dX5_text_37 rfl (lv_at hl 0 rfl) ?_
    refine lv_iconst (v := (-1)) hx hb dX5_text_38 (by decide) ?_
    refine lv_icmp_eq (tgt := 47) hx hb dX5_text_39 (by decide) (fun c39 => ?_) (fun c39 => ?_)
    · replace hf := ifp c39 hf
      refine lv_aload_n hx hb dX5_text_47 rfl (lv_at hl 1 rfl) ?_
      refine lv_dup hx hb dX5_text_48 rfl ?_
      refine gfX5_66 C X dX5_text_49 ?_
      refine lv_iconst (v := 1) hx hb dX5_text_52 (by decide) ?_
      refine lv_iadd hx hb dX5_text_53 ?_
      obtain ⟨μ54, e54, hf⟩ := nm_e2 hf
      refine pfX5_66 e54 C X dX5_text_54 (fun H locs X => ?_)
      refine lv_aload_n hx hb dX5_text_57 rfl (lv_at hl 1 rfl) ?_
      refine gfX5_66 C X dX5_text_58 ?_
      refine lv_iconst (v := 1) hx hb dX5_text_61 (by decide) ?_
      refine lv_isub hx hb dX5_text_62 ?_
      exact retI C X hr rfl (so2 hf).1 (so2 hf).2 rfl dX5_text_63
    · replace hf := ifn c39 hf
      refine lv_bipush (v := (-100)) hx hb dX5_text_42 (by decide) ?_
      refine lv_iload_n hx hb dX5_text_44 rfl (lv_at hl 0 rfl) ?_
      refine lv_isub hx hb dX5_text_45 ?_
      exact retI C X hr rfl (so2 hf).1 (so2 hf).2 rfl dX5_text_46
  · replace hf := ifn c6 hf
    refine lv_bipush (v := (-4)) hx hb dX5_text_9 (by decide) ?_
    exact retI C X hr rfl (so2 hf).1 (so2 hf).2 rfl dX5_text_11
theorem ct5_text {μ : Mem} {ν : Lem} {r : Int32} {μ1 : Mem} (hg : f5_text μ = some (r, μ1)) : CtI true yX5_text cX5_text 2 174 4367 .int (fun ad => [.ref (ad 0)]) μ ν r μ1 ν :=
  mkI (by decide) rfl (fun ad => Nat.le_of_ble_eq_true rfl) (fun p l e s m args below meth c D cy ad C hr X ls hl => w5_text C hr μ hg _ _ X _ hl)
theorem qL_40 {p : Program} {l : Launch} {e : Env} {R : Room} {s : State} {m : MethodId} {args : Array Value} {below : List Frame} {meth : Method} {c : Code} {H : Heap} {locs : List Loc} {cells slots : Nat} {Q : State → Prop} {A : Nat → Prop} {cc : ByteArray} {nL : Nat} {D : va_G} {cy : Nat → ClassId} {ad : Nat → Nat} {μ : Mem} {ν : Lem} {pc : Nat} {ls : Array Slot} {rest : List Value} {r : Int32} {μ1 : Mem} (hg : f5_text μ = some (r, μ1)) (C : CxA true A p s m args meth c cc nL RL D cy ad) (X : WdA true A D cy ad s.heap μ ν H locs) (hsz : ls.size = nL) (hrm : (rest.map fun v => v.category).sum ≤ 8) (hR : 174 + 1 ≤ R.frames ∧ 8 + (2 + 11) + 4367 ≤ R.locals) (hcs : cells ≤ R.cells ∧ slots ≤ R.slots) (hd : decode cc pc = .ok (.invokevirtual 40, 3)) (kk : ∀ (H1 : Heap) (locs1 : List Loc), WdA true A D cy ad s.heap μ1 ν H1 locs1 → narrow .int (.int r) = .int r → W p l e R s m args below meth c H1 locs1 cells slots Q (F0 m (pc + 3) ls (.int r :: rest))) : W p l e R s m args below meth c H locs cells slots Q (F0 m pc ls (.ref (ad 0) :: rest)) :=
  rCVI (As := []) (k := 0) (ct5_text hg) ok5 lX5_text k_281 rfl rfl rfl C X rfl hrm hsz hR hcs hd kk
set_option maxRecDepth 100000 in
set_option maxHeartbeats 4000000 in
theorem w5_force {p : Program} {l : Launch} {e : Env} {s : State} {m : MethodId} {args : Array Value} {below : List Frame} {meth : Method} {c : Code} {D : va_G} {cy : Nat → ClassId} {ad : Nat → Nat} {r : Int32} {μ1 : Mem} {ν : Lem} (C : Cx true p s m args meth c cX5_force 3 RX5 D cy ad) (hr : meth.sig.returnType = some .int) : ∀ (μ : Mem) (x1 : Int32), f5_force μ x1 = (r, μ1) → ∀ (H : Heap) (locs : List Loc), Wd true D cy ad s.heap μ ν H locs → ∀ (ls : Array Slot), lv_has ls 3 [(0, .ref (ad 0)), (1, .int x1)] → WI true p l e 0 0 s m args below meth c D cy ad .int r μ1 ν H locs (F0 m 0 ls []) := by
  have hx := C.1.1
  have hb := C.1.2.1
  have hown := C.1.2.2.2.1
  have hts := C.1.2.2.2.2
  intro μ x1 hf H locs X ls hl
  unfold f5_force at hf
  refine lv_iload_n hx hb dX5_force_0 rfl (lv_at hl 1 rfl) ?_
  refine lv_if_lt (tgt := 12) hx hb dX5_force_1 (by decide) (fun c1 => ?_) (fun c1 => ?_)
  · replace hf := ifp c1 hf
    refine lv_bipush (v := (-2)) hx hb dX5_force_12 (by decide) ?_
    exact retI C X hr rfl (sp2 hf).1 (sp2 hf).2 rfl dX5_force_14
  · replace hf := ifn c1 hf
    refine lv_iload_n hx hb dX5_force_4 rfl (lv_at hl 1 rfl) ?_
    refine lv_aload_n hx hb dX5_force_5 rfl (lv_at hl 0 rfl) ?_
    refine gfX5_66 C X dX5_force_6 ?_
    refine lv_icmp_lt (tgt := 15) hx hb dX5_force_9 (by decide) (fun c9 => ?_) (fun c9 => ?_)
    · replace hf := ifp c9 hf
      refine lv_aload_n hx hb dX5_force_15 rfl (lv_at hl 0 rfl) ?_
      refine gfX5_10 C X dX5_force_16 ?_
      refine gfX5_140 (o := 0) (by decide) rfl C X dX5_force_19 ?_
      obtain ⟨v22, e22, hf⟩ := nm_e2 hf
      refine st_i e22 ?_
      refine lv_istore_n (lv' := [(2, .int v22), (0, .ref (ad 0)), (1, .int x1)]) hx hb dX5_force_22 rfl hl (by decide) rfl (fun ls hl => ?_)
      refine lv_aload_n hx hb dX5_force_23 rfl (lv_at hl 1 rfl) ?_
      refine gfX5_10 C X dX5_force_24 ?_
      refine lv_iload_n hx hb dX5_force_27 rfl (lv_at hl 2 rfl) ?_
      obtain ⟨μ28, e28, hf⟩ := nm_e2 hf
      refine pfX5_140 (o := 0) (by decide) rfl e28 C X dX5_force_28 (fun H locs X => ?_)
      refine lv_iload_n hx hb dX5_force_31 rfl (lv_at hl 0 rfl) ?_
      exact retI C X hr rfl (sp2 hf).1 (sp2 hf).2 rfl dX5_force_32
    · replace hf := ifn c9 hf
      refine lv_bipush (v := (-2)) hx hb dX5_force_12 (by decide) ?_
      exact retI C X hr rfl (sp2 hf).1 (sp2 hf).2 rfl dX5_force_14
theorem ct5_force {x1 : Int32} {μ : Mem} {ν : Lem} {r : Int32} {μ1 : Mem} (hg : f5_force μ x1 = (r, μ1)) : CtI true yX5_force cX5_force 3 0 0 .int (fun ad => [.ref (ad 0), .int x1]) μ ν r μ1 ν :=
  mkI (by decide) rfl (fun ad => Nat.le_of_ble_eq_true rfl) (fun p l e s m args below meth c D cy ad C hr X ls hl => w5_force C hr μ x1 hg _ _ X _ hl)
theorem qL_45 {p : Program} {l : Launch} {e : Env} {R : Room} {s : State} {m : MethodId} {args : Array Value} {below : List Frame} {meth : Method} {c : Code} {H : Heap} {locs : List Loc} {cells slots : Nat} {Q : State → Prop} {A : Nat → Prop} {cc : ByteArray} {nL : Nat} {D : va_G} {cy : Nat → ClassId} {ad : Nat → Nat} {μ : Mem} {ν : Lem} {pc : Nat} {ls : Array Slot} {rest : List Value} {x1 : Int32} {r : Int32} {μ1 : Mem} (hg : f5_force μ x1 = (r, μ1)) (C : CxA true A p s m args meth c cc nL RL D cy ad) (X : WdA true A D cy ad s.heap μ ν H locs) (hsz : ls.size = nL) (hrm : (rest.map fun v => v.category).sum ≤ 8) (hR : 0 + 1 ≤ R.frames ∧ 8 + (3 + 11) + 0 ≤ R.locals) (hcs : cells ≤ R.cells ∧ slots ≤ R.slots) (hd : decode cc pc = .ok (.invokevirtual 45, 3)) (kk : ∀ (H1 : Heap) (locs1 : List Loc), WdA true A D cy ad s.heap μ1 ν H1 locs1 → narrow .int (.int r) = .int r → W p l e R s m args below meth c H1 locs1 cells slots Q (F0 m (pc + 3) ls (.int r :: rest))) : W p l e R s m args below meth c H locs cells slots Q (F0 m pc ls (.int x1 :: .ref (ad 0) :: rest)) :=
  rCVI (As := [.int x1]) (k := 0) (ct5_force hg) ok5 lX5_force k_446 rfl rfl rfl C X rfl hrm hsz hR hcs hd kk
set_option maxRecDepth 100000 in
set_option maxHeartbeats 4000000 in
theorem w5_ruled_1 {p : Program} {l : Launch} {e : Env} {s : State} {m : MethodId} {args : Array Value} {below : List Frame} {meth : Method} {c : Code} {D : va_G} {cy : Nat → ClassId} {ad : Nat → Nat} {r : Int32} {μ1 : Mem} {ν : Lem} (C : Cx true p s m args meth c cX5_ruled 7 RX5 D cy ad) (hr : meth.sig.returnType = some .int) : ∀ (μ : Mem) (x1 : Int32) (x2 : Int32) (x3 : Int32) (x4 : Nat) (x5 : Int32) (t0 : Int32) (hx4 : x4 < 13), f5_ruled_1 μ x1 x2 x3 x4 x5 t0 = some (r, μ1) → ∀ (H : Heap) (locs : List Loc), Wd true D cy ad s.heap μ ν H locs → ∀ (ls : Array Slot), lv_has ls 7 [(0, .ref (ad 0)), (1, .int x1), (2, .int x2), (3, .int x3), (4, .ref (ad (14 + 3 * x4))), (5, .int x5)] → WI true p l e 4 92 s m args below meth c D cy ad .int r μ1 ν H locs (F0 m 50 ls [.int t0]) := by
  have hx := C.1.1
  have hb := C.1.2.1
  have hown := C.1.2.2.2.1
  have hts := C.1.2.2.2.2
  obtain ⟨z1, t1, z2, t2, z3, t3, z4, z5, ks, r1, r2⟩ := C.2.2.1.2 rfl
  intro μ x1 x2 x3 x4 x5 t0 hx4 hf H locs X ls hl
  unfold f5_ruled_1 at hf
  refine lv_istore (lv' := [(6, .int t0), (0, .ref (ad 0)), (1, .int x1), (2, .int x2), (3, .int x3), (4, .ref (ad (14 + 3 * x4))), (5, .int x5)]) hx hb dX5_ruled_50 hl (by decide) rfl (fun ls hl => ?_)
  refine lv_aload_n hx hb dX5_ruled_52 rfl (lv_at hl 1 rfl) ?_
  refine gfX5_45 C X dX5_ruled_53 ?_
  refine lv_iconst (v := 0) hx hb dX5_ruled_56 (by decide) ?_
  refine lv_iload_n hx hb dX5_ruled_57 rfl (lv_at hl 4 rfl) ?_
  obtain ⟨h58, hf⟩ := gd_e hf
  obtain ⟨μ58, e58, hf⟩ := nm_e2 hf
  refine rIast2 C X rfl h58 e58 dX5_ruled_58 (fun H locs X => ?_)
  refine lv_aload_n hx hb dX5_ruled_59 rfl (lv_at hl 1 rfl) ?_
  refine gfX5_45 C X dX5_ruled_60 ?_
  refine lv_iconst (v := 1) hx hb dX5_ruled_63 (by decide) ?_
  refine lv_iload hx hb dX5_ruled_64 (lv_at hl 6 rfl) ?_
  refine lv_sipush (v := 1000) hx hb dX5_ruled_66 (by decide) ?_
  refine lv_idiv hx hb dX5_ruled_69 (by decide) ?_
  obtain ⟨h70, hf⟩ := gd_e hf
  obtain ⟨μ70, e70, hf⟩ := nm_e2 hf
  refine rIast2 C X rfl h70 e70 dX5_ruled_70 (fun H locs X => ?_)
  refine lv_aload_n hx hb dX5_ruled_71 rfl (lv_at hl 1 rfl) ?_
  refine gfX5_45 C X dX5_ruled_72 ?_
  refine lv_iconst (v := 2) hx hb dX5_ruled_75 (by decide) ?_
  refine lv_iload_n hx hb dX5_ruled_76 rfl (lv_at hl 3 rfl) ?_
  obtain ⟨h77, hf⟩ := gd_e hf
  obtain ⟨μ77, e77, hf⟩ := nm_e2 hf
  refine rIast2 C X rfl h77 e77 dX5_ruled_77 (fun H locs X => ?_)
  refine lv_aload_n hx hb dX5_ruled_78 rfl (lv_at hl 1 rfl) ?_
  refine gfX5_45 C X dX5_ruled_79 ?_
  refine lv_iconst (v := 3) hx hb dX5_ruled_82 (by decide) ?_
  refine lv_iload hx hb dX5_ruled_83 (lv_at hl 6 rfl) ?_
  refine lv_iload hx hb dX5_ruled_85 (lv_at hl 0 rfl) ?_
  refine lv_isub hx hb dX5_ruled_87 ?_
  refine rAbs C k_490 hl.1 (Nat.le_of_ble_eq_true rfl) (Nat.le_of_ble_eq_true rfl) ⟨Nat.zero_le _, Nat.zero_le _⟩ dX5_ruled_88 ?_
  obtain ⟨h91, hf⟩ := gd_e hf
  obtain ⟨μ91, e91, hf⟩ := nm_e2 hf
  refine rIast2 C X rfl h91 e91 dX5_ruled_91 (fun H locs X => ?_)
  refine lv_aload_n hx hb dX5_ruled_92 rfl (lv_at hl 1 rfl) ?_
  refine gfX5_45 C X dX5_ruled_93 ?_
  refine lv_iconst (v := 4) hx hb dX5_ruled_96 (by decide) ?_
  refine lv_aload_n hx hb dX5_ruled_97 rfl (lv_at hl 1 rfl) ?_
  refine gfX5_10 C X dX5_ruled_98 ?_
  refine gfX5_82 (o := 0) (by decide) rfl C X dX5_ruled_101 ?_
  obtain ⟨h104, hf⟩ := gd_e hf
  obtain ⟨μ104, e104, hf⟩ := nm_e2 hf
  refine rIast2 C X rfl h104 e104 dX5_ruled_104 (fun H locs X => ?_)
  refine lv_aload_n hx hb dX5_ruled_105 rfl (lv_at hl 1 rfl) ?_
  refine gfX5_45 C X dX5_ruled_106 ?_
  refine lv_iconst (v := 5) hx hb dX5_ruled_109 (by decide) ?_
  refine lv_aload hx hb dX5_ruled_110 (lv_at hl 5 rfl) ?_
  refine gfX5_119 (j := x4) hx4 rfl C X dX5_ruled_112 ?_
  obtain ⟨h115, hf⟩ := gd_e hf
  obtain ⟨μ115, e115, hf⟩ := nm_e2 hf
  refine rIast2 C X rfl h115 e115 dX5_ruled_115 (fun H locs X => ?_)
  refine va_gets hx hb z2 X.2.2 hown (hts _ k_493) (fun _ h => h) dX5_ruled_116 ?_
  refine lv_iload_n hx hb dX5_ruled_119 rfl (lv_at hl 2 rfl) ?_
  obtain ⟨h120, hf⟩ := gd_e hf
  refine va_ti (v := .int (stLeast x1.toNatClampNeg)) hx hb t2 X.2.2 h120 rfl dX5_ruled_120 ?_
  refine lv_aload_n hx hb dX5_ruled_121 rfl (lv_at hl 1 rfl) ?_
  refine gfX5_28 C X dX5_ruled_122 ?_
  refine lv_aload_n hx hb dX5_ruled_125 rfl (lv_at hl 1 rfl) ?_
  refine gfX5_10 C X dX5_ruled_126 ?_
  refine gfX5_140 (o := 0) (by decide) rfl C X dX5_ruled_129 ?_
  obtain ⟨h132, hf⟩ := gd_e hf
  have hb132 : (μ115 1 2).toNatClampNeg < 6 := by have := inb_lt h132; omega
  refine rAald (t := 1) (k' := (53 + 3 * (μ115 1 2).toNatClampNeg)) C X rfl rfl h132 (by omega) dX5_ruled_132 ?_
  refine lv_iload_n hx hb dX5_ruled_133 rfl (lv_at hl 2 rfl) ?_
  refine lv_aload_n hx hb dX5_ruled_134 rfl (lv_at hl 1 rfl) ?_
  refine gfX5_45 C X dX5_ruled_135 ?_
  refine lv_aload_n hx hb dX5_ruled_138 rfl (lv_at hl 1 rfl) ?_
  refine gfX5_48 C X dX5_ruled_139 ?_
  obtain ⟨r142, μ142, g142, hf⟩ := bd2_e hf
  refine qX5_154 (t := (μ115 1 2).toNatClampNeg) hb132 g142 C X hl.1 ((Nat.le_of_ble_eq_true rfl)) ⟨(Nat.le_of_ble_eq_true rfl), (Nat.le_of_ble_eq_true rfl)⟩ ⟨Nat.zero_le _, Nat.zero_le _⟩ dX5_ruled_142 (fun H locs X b142 => ?_)
  refine va_gets hx hb z3 X.2.2 hown (hts _ k_505) (fun _ h => h) dX5_ruled_145 ?_
  refine lv_iload_n hx hb dX5_ruled_148 rfl (lv_at hl 2 rfl) ?_
  obtain ⟨h149, hf⟩ := gd_e hf
  refine va_ti (v := .int (stMost x1.toNatClampNeg)) hx hb t3 X.2.2 h149 rfl dX5_ruled_149 ?_
  refine qX5_161 rfl C X hl.1 ((Nat.le_of_ble_eq_true rfl)) ⟨(Nat.le_of_ble_eq_true rfl), (Nat.le_of_ble_eq_true rfl)⟩ ⟨Nat.zero_le _, Nat.zero_le _⟩ dX5_ruled_150 (fun H locs X b150 => ?_)
  exact retI C X hr rfl (so2 hf).1 (so2 hf).2 rfl dX5_ruled_153
set_option maxRecDepth 100000 in
set_option maxHeartbeats 4000000 in
theorem w5_ruled {p : Program} {l : Launch} {e : Env} {s : State} {m : MethodId} {args : Array Value} {below : List Frame} {meth : Method} {c : Code} {D : va_G} {cy : Nat → ClassId} {ad : Nat → Nat} {r : Int32} {μ1 : Mem} {ν : Lem} (C : Cx true p s m args meth c cX5_ruled 7 RX5 D cy ad) (hr : meth.sig.returnType = some .int) : ∀ (μ : Mem) (x1 : Int32) (x2 : Int32) (x3 : Int32), f5_ruled μ x1 x2 x3 = some (r, μ1) → ∀ (H : Heap) (locs : List Loc), Wd true D cy ad s.heap μ ν H locs → ∀ (ls : Array Slot), lv_has ls 7 [(0, .ref (ad 0)), (1, .int x1), (2, .int x2), (3, .int x3)] → WI true p l e 4 92 s m args below meth c D cy ad .int r μ1 ν H locs (F0 m 0 ls []) := by
  have hx := C.1.1
  have hb := C.1.2.1
  have hown := C.1.2.2.2.1
  have hts := C.1.2.2.2.2
  obtain ⟨z1, t1, z2, t2, z3, t3, z4, z5, ks, r1, r2⟩ := C.2.2.1.2 rfl
  intro μ x1 x2 x3 hf H locs X ls hl
  unfold f5_ruled at hf
  refine lv_aload_n hx hb dX5_ruled_0 rfl (lv_at hl 0 rfl) ?_
  refine gfX5_10 C X dX5_ruled_1 ?_
  refine gfX5_92 (o := 0) (by decide) rfl (k2 := 12) rfl C X dX5_ruled_4 ?_
  refine lv_iload_n hx hb dX5_ruled_7 rfl (lv_at hl 2 rfl) ?_
  obtain ⟨h8, hf⟩ := gd_e hf
  have hb8 : x2.toNatClampNeg < 13 := by have := inb_lt h8; omega
  refine rAald (t := 0) (k' := (14 + 3 * x2.toNatClampNeg)) C X rfl rfl h8 (by omega) dX5_ruled_8 ?_
  refine lv_astore (lv' := [(4, .ref (ad (14 + 3 * x2.toNatClampNeg))), (0, .ref (ad 0)), (1, .int x1), (2, .int x2), (3, .int x3)]) hx hb dX5_ruled_9 hl (by decide) rfl (fun ls hl => ?_)
  refine lv_aload hx hb dX5_ruled_11 (lv_at hl 0 rfl) ?_
  refine lv_iload_n hx hb dX5_ruled_13 rfl (lv_at hl 4 rfl) ?_
  refine lv_aload_n hx hb dX5_ruled_14 rfl (lv_at hl 1 rfl) ?_
  refine gfX5_10 C X dX5_ruled_15 ?_
  refine gfX5_82 (o := 0) (by decide) rfl C X dX5_ruled_18 ?_
  obtain ⟨r21, g21, hf⟩ := bd1_e hf
  refine qX5_143 (j := x2.toNatClampNeg) hb8 g21 C X hl.1 ((Nat.le_of_ble_eq_true rfl)) ⟨(Nat.le_of_ble_eq_true rfl), (Nat.le_of_ble_eq_true rfl)⟩ ⟨Nat.zero_le _, Nat.zero_le _⟩ dX5_ruled_21 (fun H locs X b21 => ?_)
  refine lv_istore (lv' := [(5, .int r21), (4, .ref (ad (14 + 3 * x2.toNatClampNeg))), (0, .ref (ad 0)), (1, .int x1), (2, .int x2), (3, .int x3)]) hx hb dX5_ruled_24 hl (by decide) rfl (fun ls hl => ?_)
  refine lv_iload_n hx hb dX5_ruled_26 rfl (lv_at hl 5 rfl) ?_
  refine lv_if_le (tgt := 48) hx hb dX5_ruled_27 (by decide) (fun c27 => ?_) (fun c27 => ?_)
  · replace hf := ifp c27 hf
    refine lv_iload hx hb dX5_ruled_48 (lv_at hl 0 rfl) ?_
    exact w5_ruled_1 C hr  μ x1 x2 x3 (x2.toNatClampNeg) r21 r21 hb8 hf _ _ X _ (lv_sub hl [2, 3, 4, 5, 1, 0] rfl)
  · replace hf := ifn c27 hf
    refine lv_aload hx hb dX5_ruled_30 (lv_at hl 1 rfl) ?_
    refine lv_iload_n hx hb dX5_ruled_32 rfl (lv_at hl 5 rfl) ?_
    refine lv_iconst (v := 1) hx hb dX5_ruled_33 (by decide) ?_
    refine lv_isub hx hb dX5_ruled_34 ?_
    refine lv_aload_n hx hb dX5_ruled_35 rfl (lv_at hl 2 rfl) ?_
    refine gfX5_10 C X dX5_ruled_36 ?_
    refine gfX5_82 (o := 0) (by decide) rfl C X dX5_ruled_39 ?_
    obtain ⟨r42, g42, hf⟩ := bd1_e hf
    refine qX5_143 (j := x2.toNatClampNeg) hb8 g42 C X hl.1 ((Nat.le_of_ble_eq_true rfl)) ⟨(Nat.le_of_ble_eq_true rfl), (Nat.le_of_ble_eq_true rfl)⟩ ⟨Nat.zero_le _, Nat.zero_le _⟩ dX5_ruled_42 (fun H locs X b42 => ?_)
    refine lv_goto (tgt := 50) hx hb dX5_ruled_45 (by decide) ?_
    exact w5_ruled_1 C hr  μ x1 x2 x3 (x2.toNatClampNeg) r21 r42 hb8 hf _ _ X _ (lv_sub hl [2, 3, 4, 5, 1, 0] rfl)
theorem ct5_ruled {x1 : Int32} {x2 : Int32} {x3 : Int32} {μ : Mem} {ν : Lem} {r : Int32} {μ1 : Mem} (hg : f5_ruled μ x1 x2 x3 = some (r, μ1)) : CtI true yX5_ruled cX5_ruled 7 4 92 .int (fun ad => [.ref (ad 0), .int x1, .int x2, .int x3]) μ ν r μ1 ν :=
  mkI (by decide) rfl (fun ad => Nat.le_of_ble_eq_true rfl) (fun p l e s m args below meth c D cy ad C hr X ls hl => w5_ruled C hr μ x1 x2 x3 hg _ _ X _ hl)
theorem qX5_164 {p : Program} {l : Launch} {e : Env} {R : Room} {s : State} {m : MethodId} {args : Array Value} {below : List Frame} {meth : Method} {c : Code} {H : Heap} {locs : List Loc} {cells slots : Nat} {Q : State → Prop} {A : Nat → Prop} {cc : ByteArray} {nL : Nat} {D : va_G} {cy : Nat → ClassId} {ad : Nat → Nat} {μ : Mem} {ν : Lem} {pc : Nat} {ls : Array Slot} {rest : List Value} {x1 : Int32} {x2 : Int32} {x3 : Int32} {r : Int32} {μ1 : Mem} (hg : f5_ruled μ x1 x2 x3 = some (r, μ1)) (C : CxA true A p s m args meth c cc nL RX5 D cy ad) (X : WdA true A D cy ad s.heap μ ν H locs) (hsz : ls.size = nL) (hrm : (rest.map fun v => v.category).sum ≤ 8) (hR : 4 + 1 ≤ R.frames ∧ 8 + (7 + 11) + 92 ≤ R.locals) (hcs : cells ≤ R.cells ∧ slots ≤ R.slots) (hd : decode cc pc = .ok (.invokevirtual 164, 3)) (kk : ∀ (H1 : Heap) (locs1 : List Loc), WdA true A D cy ad s.heap μ1 ν H1 locs1 → narrow .int (.int r) = .int r → W p l e R s m args below meth c H1 locs1 cells slots Q (F0 m (pc + 3) ls (.int r :: rest))) : W p l e R s m args below meth c H locs cells slots Q (F0 m pc ls (.int x3 :: .int x2 :: .int x1 :: .ref (ad 0) :: rest)) :=
  rCVI (As := [.int x1, .int x2, .int x3]) (k := 0) (ct5_ruled hg) ok5 lX5_ruled k_486 rfl rfl rfl C X rfl hrm hsz hR hcs hd kk
set_option maxRecDepth 100000 in
set_option maxHeartbeats 4000000 in
theorem w5_at {p : Program} {l : Launch} {e : Env} {s : State} {m : MethodId} {args : Array Value} {below : List Frame} {meth : Method} {c : Code} {D : va_G} {cy : Nat → ClassId} {ad : Nat → Nat} {r : Int32} {μ : Mem} {ν : Lem} (C : Cx true p s m args meth c cX5_at 3 RX5 D cy ad) (hr : meth.sig.returnType = some .int) : ∀ (x1 : Int32) (x2 : Int32), f5_at μ x1 x2 = some r → ∀ (H : Heap) (locs : List Loc), Wd true D cy ad s.heap μ ν H locs → ∀ (ls : Array Slot), lv_has ls 3 [(0, .ref (ad 0)), (1, .int x1), (2, .int x2)] → WI true p l e 4 92 s m args below meth c D cy ad .int r μ ν H locs (F0 m 0 ls []) := by
  have hx := C.1.1
  have hb := C.1.2.1
  have hown := C.1.2.2.2.1
  have hts := C.1.2.2.2.2
  intro x1 x2 hf H locs X ls hl
  unfold f5_at at hf
  refine lv_aload_n hx hb dX5_at_0 rfl (lv_at hl 0 rfl) ?_
  refine gfX5_10 C X dX5_at_1 ?_
  refine lv_iload_n hx hb dX5_at_4 rfl (lv_at hl 1 rfl) ?_
  refine qX5_85 (o := 0) (by decide) rfl C X hl.1 ((Nat.le_of_ble_eq_true rfl)) ⟨(Nat.le_of_ble_eq_true rfl), (Nat.le_of_ble_eq_true rfl)⟩ ⟨Nat.zero_le _, Nat.zero_le _⟩ dX5_at_5 (fun H locs X b5 => ?_)
  refine lv_if_eq (tgt := 18) hx hb dX5_at_8 (by decide) (fun c8 => ?_) (fun c8 => ?_)
  · replace hf := ifp c8 hf
    refine lv_bipush (v := (-2)) hx hb dX5_at_18 (by decide) ?_
    exact retI C X hr rfl (Option.some.inj hf) rfl rfl dX5_at_20
  · replace hf := ifn c8 hf
    refine lv_iload_n hx hb dX5_at_11 rfl (lv_at hl 2 rfl) ?_
    refine qX5_113 rfl C X hl.1 ((Nat.le_of_ble_eq_true rfl)) ⟨(Nat.le_of_ble_eq_true rfl), (Nat.le_of_ble_eq_true rfl)⟩ ⟨Nat.zero_le _, Nat.zero_le _⟩ dX5_at_12 (fun H locs X b12 => ?_)
    refine lv_if_ne (tgt := 21) hx hb dX5_at_15 (by decide) (fun c15 => ?_) (fun c15 => ?_)
    · replace hf := ifn c15 hf
      refine lv_aload_n hx hb dX5_at_21 rfl (lv_at hl 0 rfl) ?_
      refine gfX5_10 C X dX5_at_22 ?_
      refine gfX5_92 (o := 0) (by decide) rfl (k2 := 12) rfl C X dX5_at_25 ?_
      refine lv_iload_n hx hb dX5_at_28 rfl (lv_at hl 1 rfl) ?_
      obtain ⟨h29, hf⟩ := gd_e hf
      have hb29 : x1.toNatClampNeg < 13 := by have := inb_lt h29; omega
      refine rAald (t := 0) (k' := (14 + 3 * x1.toNatClampNeg)) C X rfl rfl h29 (by omega) dX5_at_29 ?_
      refine lv_iload_n hx hb dX5_at_30 rfl (lv_at hl 2 rfl) ?_
      refine lv_aload_n hx hb dX5_at_31 rfl (lv_at hl 0 rfl) ?_
      refine gfX5_10 C X dX5_at_32 ?_
      refine gfX5_82 (o := 0) (by decide) rfl C X dX5_at_35 ?_
      obtain ⟨r38, g38, hf⟩ := bd1_e hf
      refine qX5_143 (j := x1.toNatClampNeg) hb29 g38 C X hl.1 ((Nat.le_of_ble_eq_true rfl)) ⟨(Nat.le_of_ble_eq_true rfl), (Nat.le_of_ble_eq_true rfl)⟩ ⟨Nat.zero_le _, Nat.zero_le _⟩ dX5_at_38 (fun H locs X b38 => ?_)
      exact retI C X hr rfl (Option.some.inj hf) rfl rfl dX5_at_41
    · replace hf := ifp c15 hf
      refine lv_bipush (v := (-2)) hx hb dX5_at_18 (by decide) ?_
      exact retI C X hr rfl (Option.some.inj hf) rfl rfl dX5_at_20
theorem ct5_at {x1 : Int32} {x2 : Int32} {μ : Mem} {ν : Lem} {r : Int32} (hg : f5_at μ x1 x2 = some r) : CtI true yX5_at cX5_at 3 4 92 .int (fun ad => [.ref (ad 0), .int x1, .int x2]) μ ν r μ ν :=
  mkI (by decide) rfl (fun ad => Nat.le_of_ble_eq_true rfl) (fun p l e s m args below meth c D cy ad C hr X ls hl => w5_at C hr x1 x2 hg _ _ X _ hl)
theorem qL_49 {p : Program} {l : Launch} {e : Env} {R : Room} {s : State} {m : MethodId} {args : Array Value} {below : List Frame} {meth : Method} {c : Code} {H : Heap} {locs : List Loc} {cells slots : Nat} {Q : State → Prop} {A : Nat → Prop} {cc : ByteArray} {nL : Nat} {D : va_G} {cy : Nat → ClassId} {ad : Nat → Nat} {μ : Mem} {ν : Lem} {pc : Nat} {ls : Array Slot} {rest : List Value} {x1 : Int32} {x2 : Int32} {r : Int32} (hg : f5_at μ x1 x2 = some r) (C : CxA true A p s m args meth c cc nL RL D cy ad) (X : WdA true A D cy ad s.heap μ ν H locs) (hsz : ls.size = nL) (hrm : (rest.map fun v => v.category).sum ≤ 8) (hR : 4 + 1 ≤ R.frames ∧ 8 + (3 + 11) + 92 ≤ R.locals) (hcs : cells ≤ R.cells ∧ slots ≤ R.slots) (hd : decode cc pc = .ok (.invokevirtual 49, 3)) (kk : ∀ (H1 : Heap) (locs1 : List Loc), WdA true A D cy ad s.heap μ ν H1 locs1 → narrow .int (.int r) = .int r → W p l e R s m args below meth c H1 locs1 cells slots Q (F0 m (pc + 3) ls (.int r :: rest))) : W p l e R s m args below meth c H locs cells slots Q (F0 m pc ls (.int x2 :: .int x1 :: .ref (ad 0) :: rest)) :=
  rCVI (As := [.int x1, .int x2]) (k := 0) (ct5_at hg) ok5 lX5_at k_450 rfl rfl rfl C X rfl hrm hsz hR hcs hd kk
set_option maxRecDepth 100000 in
set_option maxHeartbeats 4000000 in
theorem w5_asks {p : Program} {l : Launch} {e : Env} {s : State} {m : MethodId} {args : Array Value} {below : List Frame} {meth : Method} {c : Code} {D : va_G} {cy : Nat → ClassId} {ad : Nat → Nat} {r : Int32} {μ1 : Mem} {ν : Lem} (C : Cx true p s m args meth c cX5_asks 4 RX5 D cy ad) (hr : meth.sig.returnType = some .int) : ∀ (μ : Mem) (x1 : Int32) (x2 : Int32) (x3 : Int32), f5_asks μ x1 x2 x3 = some (r, μ1) → ∀ (H : Heap) (locs : List Loc), Wd true D cy ad s.heap μ ν H locs → ∀ (ls : Array Slot), lv_has ls 4 [(0, .ref (ad 0)), (1, .int x1), (2, .int x2), (3, .int x3)] → WI true p l e 5 118 s m args below meth c D cy ad .int r μ1 ν H locs (F0 m 0 ls []) := by
  have hx := C.1.1
  have hb := C.1.2.1
  have hown := C.1.2.2.2.1
  have hts := C.1.2.2.2.2
  intro μ x1 x2 x3 hf H locs X ls hl
  unfold f5_asks at hf
  refine lv_iload_n hx hb dX5_asks_0 rfl (lv_at hl 1 rfl) ?_
  refine lv_if_lt (tgt := 27) hx hb dX5_asks_1 (by decide) (fun c1 => ?_) (fun c1 => ?_)
  · replace hf := ifp c1 hf
    refine lv_sipush (v := (-1000)) hx hb dX5_asks_27 (by decide) ?_
    exact retI C X hr rfl (so2 hf).1 (so2 hf).2 rfl dX5_asks_30
  · replace hf := ifn c1 hf
    refine lv_iload_n hx hb dX5_asks_4 rfl (lv_at hl 1 rfl) ?_
    refine lv_iconst (v := 3) hx hb dX5_asks_5 (by decide) ?_
    refine lv_icmp_ge (tgt := 27) hx hb dX5_asks_6 (by decide) (fun c6 => ?_) (fun c6 => ?_)
    · replace hf := ifp c6 hf
      refine lv_sipush (v := (-1000)) hx hb dX5_asks_27 (by decide) ?_
      exact retI C X hr rfl (so2 hf).1 (so2 hf).2 rfl dX5_asks_30
    · replace hf := ifn c6 hf
      refine lv_aload_n hx hb dX5_asks_9 rfl (lv_at hl 0 rfl) ?_
      refine gfX5_10 C X dX5_asks_10 ?_
      refine lv_iload_n hx hb dX5_asks_13 rfl (lv_at hl 2 rfl) ?_
      refine qX5_85 (o := 0) (by decide) rfl C X hl.1 ((Nat.le_of_ble_eq_true rfl)) ⟨(Nat.le_of_ble_eq_true rfl), (Nat.le_of_ble_eq_true rfl)⟩ ⟨Nat.zero_le _, Nat.zero_le _⟩ dX5_asks_14 (fun H locs X b14 => ?_)
      refine lv_if_eq (tgt := 27) hx hb dX5_asks_17 (by decide) (fun c17 => ?_) (fun c17 => ?_)
      · replace hf := ifp c17 hf
        refine lv_sipush (v := (-1000)) hx hb dX5_asks_27 (by decide) ?_
        exact retI C X hr rfl (so2 hf).1 (so2 hf).2 rfl dX5_asks_30
      · replace hf := ifn c17 hf
        refine lv_iload_n hx hb dX5_asks_20 rfl (lv_at hl 3 rfl) ?_
        refine qX5_113 rfl C X hl.1 ((Nat.le_of_ble_eq_true rfl)) ⟨(Nat.le_of_ble_eq_true rfl), (Nat.le_of_ble_eq_true rfl)⟩ ⟨Nat.zero_le _, Nat.zero_le _⟩ dX5_asks_21 (fun H locs X b21 => ?_)
        refine lv_if_ne (tgt := 31) hx hb dX5_asks_24 (by decide) (fun c24 => ?_) (fun c24 => ?_)
        · replace hf := ifn c24 hf
          refine lv_aload_n hx hb dX5_asks_31 rfl (lv_at hl 0 rfl) ?_
          refine lv_iload_n hx hb dX5_asks_32 rfl (lv_at hl 1 rfl) ?_
          refine lv_iload_n hx hb dX5_asks_33 rfl (lv_at hl 2 rfl) ?_
          refine lv_iload_n hx hb dX5_asks_34 rfl (lv_at hl 3 rfl) ?_
          obtain ⟨r35, μ35, g35, hf⟩ := bd2_e hf
          refine qX5_164 g35 C X hl.1 ((Nat.le_of_ble_eq_true rfl)) ⟨(Nat.le_of_ble_eq_true rfl), (Nat.le_of_ble_eq_true rfl)⟩ ⟨Nat.zero_le _, Nat.zero_le _⟩ dX5_asks_35 (fun H locs X b35 => ?_)
          exact retI C X hr rfl (so2 hf).1 (so2 hf).2 rfl dX5_asks_38
        · replace hf := ifp c24 hf
          refine lv_sipush (v := (-1000)) hx hb dX5_asks_27 (by decide) ?_
          exact retI C X hr rfl (so2 hf).1 (so2 hf).2 rfl dX5_asks_30
theorem ct5_asks {x1 : Int32} {x2 : Int32} {x3 : Int32} {μ : Mem} {ν : Lem} {r : Int32} {μ1 : Mem} (hg : f5_asks μ x1 x2 x3 = some (r, μ1)) : CtI true yX5_asks cX5_asks 4 5 118 .int (fun ad => [.ref (ad 0), .int x1, .int x2, .int x3]) μ ν r μ1 ν :=
  mkI (by decide) rfl (fun ad => Nat.le_of_ble_eq_true rfl) (fun p l e s m args below meth c D cy ad C hr X ls hl => w5_asks C hr μ x1 x2 x3 hg _ _ X _ hl)
theorem qL_53 {p : Program} {l : Launch} {e : Env} {R : Room} {s : State} {m : MethodId} {args : Array Value} {below : List Frame} {meth : Method} {c : Code} {H : Heap} {locs : List Loc} {cells slots : Nat} {Q : State → Prop} {A : Nat → Prop} {cc : ByteArray} {nL : Nat} {D : va_G} {cy : Nat → ClassId} {ad : Nat → Nat} {μ : Mem} {ν : Lem} {pc : Nat} {ls : Array Slot} {rest : List Value} {x1 : Int32} {x2 : Int32} {x3 : Int32} {r : Int32} {μ1 : Mem} (hg : f5_asks μ x1 x2 x3 = some (r, μ1)) (C : CxA true A p s m args meth c cc nL RL D cy ad) (X : WdA true A D cy ad s.heap μ ν H locs) (hsz : ls.size = nL) (hrm : (rest.map fun v => v.category).sum ≤ 8) (hR : 5 + 1 ≤ R.frames ∧ 8 + (4 + 11) + 118 ≤ R.locals) (hcs : cells ≤ R.cells ∧ slots ≤ R.slots) (hd : decode cc pc = .ok (.invokevirtual 53, 3)) (kk : ∀ (H1 : Heap) (locs1 : List Loc), WdA true A D cy ad s.heap μ1 ν H1 locs1 → narrow .int (.int r) = .int r → W p l e R s m args below meth c H1 locs1 cells slots Q (F0 m (pc + 3) ls (.int r :: rest))) : W p l e R s m args below meth c H locs cells slots Q (F0 m pc ls (.int x3 :: .int x2 :: .int x1 :: .ref (ad 0) :: rest)) :=
  rCVI (As := [.int x1, .int x2, .int x3]) (k := 0) (ct5_asks hg) ok5 lX5_asks k_482 rfl rfl rfl C X rfl hrm hsz hR hcs hd kk
set_option maxRecDepth 100000 in
set_option maxHeartbeats 4000000 in
theorem w5_layWalked_1 {p : Program} {l : Launch} {e : Env} {s : State} {m : MethodId} {args : Array Value} {below : List Frame} {meth : Method} {c : Code} {D : va_G} {cy : Nat → ClassId} {ad : Nat → Nat} {μ1 : Mem} {ν : Lem} (C : Cx true p s m args meth c cX5_layWalked 6 RX5 D cy ad) (hr : meth.sig.returnType = none) : ∀ (n : Nat), ∀ (μ : Mem) (x2 : Nat) (x3 : Int32) (x4 : Int32) (hx2 : x2 < 13), f5_layWalked_1 n μ x2 x3 x4 = some μ1 → ∀ (H : Heap) (locs : List Loc), Wd true D cy ad s.heap μ ν H locs → ∀ (ls : Array Slot), lv_has ls 6 [(0, .ref (ad 0)), (2, .ref (ad (14 + 3 * x2))), (3, .int x3), (4, .int x4)] → WV true p l e 4 92 s m args below meth c D cy ad μ1 ν H locs (F0 m 33 ls []) := by
  have hx := C.1.1
  have hb := C.1.2.1
  have hown := C.1.2.2.2.1
  have hts := C.1.2.2.2.2
  intro n
  induction n with
  | zero =>
    intro μ x2 x3 x4 hx2 hf H locs X ls hl
    rw [f5_layWalked_1] at hf
    cases hf
  | succ n ih =>
    intro μ x2 x3 x4 hx2 hf H locs X ls hl
    rw [f5_layWalked_1] at hf
    refine lv_iload hx hb dX5_layWalked_33 (lv_at hl 3 rfl) ?_
    refine lv_sipush (v := 600) hx hb dX5_layWalked_35 (by decide) ?_
    refine lv_icmp_gt (tgt := 89) hx hb dX5_layWalked_38 (by decide) (fun c38 => ?_) (fun c38 => ?_)
    · replace hf := ifp c38 hf
      exact retV C X hr (Option.some.inj hf) rfl dX5_layWalked_89
    · replace hf := ifn c38 hf
      refine lv_aload_n hx hb dX5_layWalked_41 rfl (lv_at hl 1 rfl) ?_
      refine lv_iload hx hb dX5_layWalked_42 (lv_at hl 3 rfl) ?_
      refine lv_aload_n hx hb dX5_layWalked_44 rfl (lv_at hl 0 rfl) ?_
      refine gfX5_10 C X dX5_layWalked_45 ?_
      refine gfX5_82 (o := 0) (by decide) rfl C X dX5_layWalked_48 ?_
      obtain ⟨r51, g51, hf⟩ := bd1_e hf
      refine qX5_143 (j := x2) hx2 g51 C X hl.1 ((Nat.le_of_ble_eq_true rfl)) ⟨(Nat.le_of_ble_eq_true rfl), (Nat.le_of_ble_eq_true rfl)⟩ ⟨Nat.zero_le _, Nat.zero_le _⟩ dX5_layWalked_51 (fun H locs X b51 => ?_)
      refine lv_istore (lv' := [(5, .int r51), (0, .ref (ad 0)), (2, .ref (ad (14 + 3 * x2))), (3, .int x3), (4, .int x4)]) hx hb dX5_layWalked_54 hl (by decide) rfl (fun ls hl => ?_)
      refine lv_aload_n hx hb dX5_layWalked_56 rfl (lv_at hl 1 rfl) ?_
      refine gfX5_38 C X dX5_layWalked_57 ?_
      refine lv_iload hx hb dX5_layWalked_60 (lv_at hl 4 rfl) ?_
      refine lv_aload_n hx hb dX5_layWalked_62 rfl (lv_at hl 1 rfl) ?_
      refine gfX5_38 C X dX5_layWalked_63 ?_
      refine lv_iload hx hb dX5_layWalked_66 (lv_at hl 4 rfl) ?_
      refine lv_iconst (v := 1) hx hb dX5_layWalked_68 (by decide) ?_
      refine lv_isub hx hb dX5_layWalked_69 ?_
      obtain ⟨h70, hf⟩ := gd_e hf
      refine rIald C X rfl h70 dX5_layWalked_70 ?_
      refine lv_iload hx hb dX5_layWalked_71 (lv_at hl 0 rfl) ?_
      refine lv_iload_n hx hb dX5_layWalked_73 rfl (lv_at hl 3 rfl) ?_
      refine lv_isub hx hb dX5_layWalked_74 ?_
      refine rAbs C k_490 hl.1 (Nat.le_of_ble_eq_true rfl) (Nat.le_of_ble_eq_true rfl) ⟨Nat.zero_le _, Nat.zero_le _⟩ dX5_layWalked_75 ?_
      refine lv_iadd hx hb dX5_layWalked_78 ?_
      obtain ⟨h79, hf⟩ := gd_e hf
      obtain ⟨μ79, e79, hf⟩ := nm_e2 hf
      refine rIast2 C X rfl h79 e79 dX5_layWalked_79 (fun H locs X => ?_)
      refine lv_iload hx hb dX5_layWalked_80 (lv_at hl 0 rfl) ?_
      refine lv_istore_n (lv' := [(3, .int r51), (5, .int r51), (0, .ref (ad 0)), (2, .ref (ad (14 + 3 * x2))), (4, .int x4)]) hx hb dX5_layWalked_82 rfl hl (by decide) rfl (fun ls hl => ?_)
      obtain ⟨v83, e83, hf⟩ := nm_e2 hf
      refine rIinc (lv' := [(4, .int v83), (3, .int r51), (5, .int r51), (0, .ref (ad 0)), (2, .ref (ad (14 + 3 * x2)))]) hx hb dX5_layWalked_83 hl (k := 4) rfl e83 rfl (by decide) rfl (fun ls hl => ?_)
      refine lv_goto (tgt := 33) hx hb dX5_layWalked_86 (by decide) ?_
      exact ih μ79 x2 r51 v83 hx2 hf _ _ X _ (lv_sub hl [3, 4, 1, 0] rfl)
set_option maxRecDepth 100000 in
set_option maxHeartbeats 4000000 in
theorem w5_layWalked {p : Program} {l : Launch} {e : Env} {s : State} {m : MethodId} {args : Array Value} {below : List Frame} {meth : Method} {c : Code} {D : va_G} {cy : Nat → ClassId} {ad : Nat → Nat} {μ1 : Mem} {ν : Lem} (C : Cx true p s m args meth c cX5_layWalked 6 RX5 D cy ad) (hr : meth.sig.returnType = none) : ∀ (μ : Mem) (x1 : Int32), f5_layWalked μ x1 = some μ1 → ∀ (H : Heap) (locs : List Loc), Wd true D cy ad s.heap μ ν H locs → ∀ (ls : Array Slot), lv_has ls 6 [(0, .ref (ad 0)), (1, .int x1)] → WV true p l e 4 92 s m args below meth c D cy ad μ1 ν H locs (F0 m 0 ls []) := by
  have hx := C.1.1
  have hb := C.1.2.1
  have hown := C.1.2.2.2.1
  have hts := C.1.2.2.2.2
  intro μ x1 hf H locs X ls hl
  unfold f5_layWalked at hf
  refine lv_aload_n hx hb dX5_layWalked_0 rfl (lv_at hl 0 rfl) ?_
  refine gfX5_10 C X dX5_layWalked_1 ?_
  refine gfX5_92 (o := 0) (by decide) rfl (k2 := 12) rfl C X dX5_layWalked_4 ?_
  refine lv_iload_n hx hb dX5_layWalked_7 rfl (lv_at hl 1 rfl) ?_
  obtain ⟨h8, hf⟩ := gd_e hf
  have hb8 : x1.toNatClampNeg < 13 := by have := inb_lt h8; omega
  refine rAald (t := 0) (k' := (14 + 3 * x1.toNatClampNeg)) C X rfl rfl h8 (by omega) dX5_layWalked_8 ?_
  refine lv_astore_n (lv' := [(2, .ref (ad (14 + 3 * x1.toNatClampNeg))), (0, .ref (ad 0)), (1, .int x1)]) hx hb dX5_layWalked_9 rfl hl (by decide) rfl (fun ls hl => ?_)
  refine lv_aload_n hx hb dX5_layWalked_10 rfl (lv_at hl 0 rfl) ?_
  refine lv_iconst (v := 0) hx hb dX5_layWalked_11 (by decide) ?_
  refine lv_aload_n hx hb dX5_layWalked_12 rfl (lv_at hl 1 rfl) ?_
  refine gfX5_10 C X dX5_layWalked_13 ?_
  refine gfX5_82 (o := 0) (by decide) rfl C X dX5_layWalked_16 ?_
  obtain ⟨r19, g19, hf⟩ := bd1_e hf
  refine qX5_143 (j := x1.toNatClampNeg) hb8 g19 C X hl.1 ((Nat.le_of_ble_eq_true rfl)) ⟨(Nat.le_of_ble_eq_true rfl), (Nat.le_of_ble_eq_true rfl)⟩ ⟨Nat.zero_le _, Nat.zero_le _⟩ dX5_layWalked_19 (fun H locs X b19 => ?_)
  refine lv_istore_n (lv' := [(3, .int r19), (2, .ref (ad (14 + 3 * x1.toNatClampNeg))), (0, .ref (ad 0)), (1, .int x1)]) hx hb dX5_layWalked_22 rfl hl (by decide) rfl (fun ls hl => ?_)
  refine lv_aload_n hx hb dX5_layWalked_23 rfl (lv_at hl 2 rfl) ?_
  refine gfX5_38 C X dX5_layWalked_24 ?_
  refine lv_iconst (v := 0) hx hb dX5_layWalked_27 (by decide) ?_
  refine lv_iconst (v := 0) hx hb dX5_layWalked_28 (by decide) ?_
  obtain ⟨h29, hf⟩ := gd_e hf
  obtain ⟨μ29, e29, hf⟩ := nm_e2 hf
  refine rIast2 C X rfl h29 e29 dX5_layWalked_29 (fun H locs X => ?_)
  refine lv_iconst (v := 1) hx hb dX5_layWalked_30 (by decide) ?_
  refine lv_istore (lv' := [(4, .int 1), (3, .int r19), (2, .ref (ad (14 + 3 * x1.toNatClampNeg))), (0, .ref (ad 0)), (1, .int x1)]) hx hb dX5_layWalked_31 hl (by decide) rfl (fun ls hl => ?_)
  exact w5_layWalked_1 C hr  FUEL μ29 (x1.toNatClampNeg) r19 1 hb8 hf _ _ X _ (lv_sub hl [3, 2, 1, 0] rfl)
theorem ct5_layWalked {x1 : Int32} {μ : Mem} {ν : Lem} {μ1 : Mem} (hg : f5_layWalked μ x1 = some μ1) : CtV true yX5_layWalked cX5_layWalked 6 4 92 (fun ad => [.ref (ad 0), .int x1]) μ ν μ1 ν :=
  mkV (by decide) rfl (fun ad => Nat.le_of_ble_eq_true rfl) (fun p l e s m args below meth c D cy ad C hr X ls hl => w5_layWalked C hr μ x1 hg _ _ X _ hl)
theorem qX5_167 {p : Program} {l : Launch} {e : Env} {R : Room} {s : State} {m : MethodId} {args : Array Value} {below : List Frame} {meth : Method} {c : Code} {H : Heap} {locs : List Loc} {cells slots : Nat} {Q : State → Prop} {A : Nat → Prop} {cc : ByteArray} {nL : Nat} {D : va_G} {cy : Nat → ClassId} {ad : Nat → Nat} {μ : Mem} {ν : Lem} {pc : Nat} {ls : Array Slot} {rest : List Value} {x1 : Int32} {μ1 : Mem} (hg : f5_layWalked μ x1 = some μ1) (C : CxA true A p s m args meth c cc nL RX5 D cy ad) (X : WdA true A D cy ad s.heap μ ν H locs) (hsz : ls.size = nL) (hrm : (rest.map fun v => v.category).sum ≤ 8) (hR : 4 + 1 ≤ R.frames ∧ 8 + (6 + 11) + 92 ≤ R.locals) (hcs : cells ≤ R.cells ∧ slots ≤ R.slots) (hd : decode cc pc = .ok (.invokevirtual 167, 3)) (kk : ∀ (H1 : Heap) (locs1 : List Loc), WdA true A D cy ad s.heap μ1 ν H1 locs1 → W p l e R s m args below meth c H1 locs1 cells slots Q (F0 m (pc + 3) ls rest)) : W p l e R s m args below meth c H locs cells slots Q (F0 m pc ls (.int x1 :: .ref (ad 0) :: rest)) :=
  rCVV (As := [.int x1]) (k := 0) (ct5_layWalked hg) ok5 lX5_layWalked k_512 rfl rfl rfl C X rfl hrm hsz hR hcs hd kk
set_option maxRecDepth 100000 in
set_option maxHeartbeats 4000000 in
theorem w5_length {p : Program} {l : Launch} {e : Env} {s : State} {m : MethodId} {args : Array Value} {below : List Frame} {meth : Method} {c : Code} {D : va_G} {cy : Nat → ClassId} {ad : Nat → Nat} {r : Int32} {μ1 : Mem} {ν : Lem} (C : Cx true p s m args meth c cX5_length 4 RX5 D cy ad) (hr : meth.sig.returnType = some .int) : ∀ (μ : Mem) (x1 : Int32) (x2 : Int32) (x3 : Int32), f5_length μ x1 x2 x3 = some (r, μ1) → ∀ (H : Heap) (locs : List Loc), Wd true D cy ad s.heap μ ν H locs → ∀ (ls : Array Slot), lv_has ls 4 [(0, .ref (ad 0)), (1, .int x1), (2, .int x2), (3, .int x3)] → WI true p l e 5 117 s m args below meth c D cy ad .int r μ1 ν H locs (F0 m 0 ls []) := by
  have hx := C.1.1
  have hb := C.1.2.1
  have hown := C.1.2.2.2.1
  have hts := C.1.2.2.2.2
  intro μ x1 x2 x3 hf H locs X ls hl
  unfold f5_length at hf
  refine lv_aload_n hx hb dX5_length_0 rfl (lv_at hl 0 rfl) ?_
  refine gfX5_10 C X dX5_length_1 ?_
  refine lv_iload_n hx hb dX5_length_4 rfl (lv_at hl 1 rfl) ?_
  refine qX5_85 (o := 0) (by decide) rfl C X hl.1 ((Nat.le_of_ble_eq_true rfl)) ⟨(Nat.le_of_ble_eq_true rfl), (Nat.le_of_ble_eq_true rfl)⟩ ⟨Nat.zero_le _, Nat.zero_le _⟩ dX5_length_5 (fun H locs X b5 => ?_)
  refine lv_if_eq (tgt := 30) hx hb dX5_length_8 (by decide) (fun c8 => ?_) (fun c8 => ?_)
  · replace hf := ifp c8 hf
    refine lv_bipush (v := (-2)) hx hb dX5_length_30 (by decide) ?_
    exact retI C X hr rfl (so2 hf).1 (so2 hf).2 rfl dX5_length_32
  · replace hf := ifn c8 hf
    refine lv_iload_n hx hb dX5_length_11 rfl (lv_at hl 2 rfl) ?_
    refine qX5_113 rfl C X hl.1 ((Nat.le_of_ble_eq_true rfl)) ⟨(Nat.le_of_ble_eq_true rfl), (Nat.le_of_ble_eq_true rfl)⟩ ⟨Nat.zero_le _, Nat.zero_le _⟩ dX5_length_12 (fun H locs X b12 => ?_)
    refine lv_if_eq (tgt := 30) hx hb dX5_length_15 (by decide) (fun c15 => ?_) (fun c15 => ?_)
    · replace hf := ifp c15 hf
      refine lv_bipush (v := (-2)) hx hb dX5_length_30 (by decide) ?_
      exact retI C X hr rfl (so2 hf).1 (so2 hf).2 rfl dX5_length_32
    · replace hf := ifn c15 hf
      refine lv_iload_n hx hb dX5_length_18 rfl (lv_at hl 3 rfl) ?_
      refine qX5_113 rfl C X hl.1 ((Nat.le_of_ble_eq_true rfl)) ⟨(Nat.le_of_ble_eq_true rfl), (Nat.le_of_ble_eq_true rfl)⟩ ⟨Nat.zero_le _, Nat.zero_le _⟩ dX5_length_19 (fun H locs X b19 => ?_)
      refine lv_if_eq (tgt := 30) hx hb dX5_length_22 (by decide) (fun c22 => ?_) (fun c22 => ?_)
      · replace hf := ifp c22 hf
        refine lv_bipush (v := (-2)) hx hb dX5_length_30 (by decide) ?_
        exact retI C X hr rfl (so2 hf).1 (so2 hf).2 rfl dX5_length_32
      · replace hf := ifn c22 hf
        refine lv_iload_n hx hb dX5_length_25 rfl (lv_at hl 3 rfl) ?_
        refine lv_iload_n hx hb dX5_length_26 rfl (lv_at hl 2 rfl) ?_
        refine lv_icmp_ge (tgt := 33) hx hb dX5_length_27 (by decide) (fun c27 => ?_) (fun c27 => ?_)
        · replace hf := ifp c27 hf
          refine lv_aload_n hx hb dX5_length_33 rfl (lv_at hl 0 rfl) ?_
          refine lv_iload_n hx hb dX5_length_34 rfl (lv_at hl 1 rfl) ?_
          obtain ⟨μ35, g35, hf⟩ := bd1_e hf
          refine qX5_167 g35 C X hl.1 ((Nat.le_of_ble_eq_true rfl)) ⟨(Nat.le_of_ble_eq_true rfl), (Nat.le_of_ble_eq_true rfl)⟩ ⟨Nat.zero_le _, Nat.zero_le _⟩ dX5_length_35 (fun H locs X => ?_)
          refine lv_aload_n hx hb dX5_length_38 rfl (lv_at hl 0 rfl) ?_
          refine gfX5_38 C X dX5_length_39 ?_
          refine lv_iload_n hx hb dX5_length_42 rfl (lv_at hl 3 rfl) ?_
          obtain ⟨h43, hf⟩ := gd_e hf
          refine rIald C X rfl h43 dX5_length_43 ?_
          refine lv_aload_n hx hb dX5_length_44 rfl (lv_at hl 0 rfl) ?_
          refine gfX5_38 C X dX5_length_45 ?_
          refine lv_iload_n hx hb dX5_length_48 rfl (lv_at hl 2 rfl) ?_
          obtain ⟨h49, hf⟩ := gd_e hf
          refine rIald C X rfl h49 dX5_length_49 ?_
          refine lv_isub hx hb dX5_length_50 ?_
          exact retI C X hr rfl (so2 hf).1 (so2 hf).2 rfl dX5_length_51
        · replace hf := ifn c27 hf
          refine lv_bipush (v := (-2)) hx hb dX5_length_30 (by decide) ?_
          exact retI C X hr rfl (so2 hf).1 (so2 hf).2 rfl dX5_length_32
theorem ct5_length {x1 : Int32} {x2 : Int32} {x3 : Int32} {μ : Mem} {ν : Lem} {r : Int32} {μ1 : Mem} (hg : f5_length μ x1 x2 x3 = some (r, μ1)) : CtI true yX5_length cX5_length 4 5 117 .int (fun ad => [.ref (ad 0), .int x1, .int x2, .int x3]) μ ν r μ1 ν :=
  mkI (by decide) rfl (fun ad => Nat.le_of_ble_eq_true rfl) (fun p l e s m args below meth c D cy ad C hr X ls hl => w5_length C hr μ x1 x2 x3 hg _ _ X _ hl)
theorem qL_57 {p : Program} {l : Launch} {e : Env} {R : Room} {s : State} {m : MethodId} {args : Array Value} {below : List Frame} {meth : Method} {c : Code} {H : Heap} {locs : List Loc} {cells slots : Nat} {Q : State → Prop} {A : Nat → Prop} {cc : ByteArray} {nL : Nat} {D : va_G} {cy : Nat → ClassId} {ad : Nat → Nat} {μ : Mem} {ν : Lem} {pc : Nat} {ls : Array Slot} {rest : List Value} {x1 : Int32} {x2 : Int32} {x3 : Int32} {r : Int32} {μ1 : Mem} (hg : f5_length μ x1 x2 x3 = some (r, μ1)) (C : CxA true A p s m args meth c cc nL RL D cy ad) (X : WdA true A D cy ad s.heap μ ν H locs) (hsz : ls.size = nL) (hrm : (rest.map fun v => v.category).sum ≤ 8) (hR : 5 + 1 ≤ R.frames ∧ 8 + (4 + 11) + 117 ≤ R.locals) (hcs : cells ≤ R.cells ∧ slots ≤ R.slots) (hd : decode cc pc = .ok (.invokevirtual 57, 3)) (kk : ∀ (H1 : Heap) (locs1 : List Loc), WdA true A D cy ad s.heap μ1 ν H1 locs1 → narrow .int (.int r) = .int r → W p l e R s m args below meth c H1 locs1 cells slots Q (F0 m (pc + 3) ls (.int r :: rest))) : W p l e R s m args below meth c H locs cells slots Q (F0 m pc ls (.int x3 :: .int x2 :: .int x1 :: .ref (ad 0) :: rest)) :=
  rCVI (As := [.int x1, .int x2, .int x3]) (k := 0) (ct5_length hg) ok5 lX5_length k_508 rfl rfl rfl C X rfl hrm hsz hR hcs hd kk
set_option maxRecDepth 100000 in
set_option maxHeartbeats 4000000 in
theorem w5_beyondMean {p : Program} {l : Launch} {e : Env} {s : State} {m : MethodId} {args : Array Value} {below : List Frame} {meth : Method} {c : Code} {D : va_G} {cy : Nat → ClassId} {ad : Nat → Nat} {r : Int64} {μ : Mem} {ν : Lem} (C : Cx true p s m args meth c cX5_beyondMean 3 RX5 D cy ad) (hr : meth.sig.returnType = some .long) : ∀ (x1 : Int32) (x2 : Int32), f5_beyondMean μ x1 x2 = some r → ∀ (H : Heap) (locs : List Loc), Wd true D cy ad s.heap μ ν H locs → ∀ (ls : Array Slot), lv_has ls 3 [(0, .ref (ad 0)), (1, .int x1), (2, .int x2)] → WL true p l e 0 0 s m args below meth c D cy ad r μ ν H locs (F0 m 0 ls []) := by
  have hx := C.1.1
  have hb := C.1.2.1
  have hown := C.1.2.2.2.1
  have hts := C.1.2.2.2.2
  intro x1 x2 hf H locs X ls hl
  unfold f5_beyondMean at hf
  refine lv_ldc2 (v := (600)) hx hb hown (hts _ k_524) dX5_beyondMean_0 ?_
  refine lv_aload_n hx hb dX5_beyondMean_3 rfl (lv_at hl 0 rfl) ?_
  refine gfX5_38 C X dX5_beyondMean_4 ?_
  refine lv_iload_n hx hb dX5_beyondMean_7 rfl (lv_at hl 1 rfl) ?_
  refine lv_iload_n hx hb dX5_beyondMean_8 rfl (lv_at hl 2 rfl) ?_
  refine lv_iadd hx hb dX5_beyondMean_9 ?_
  obtain ⟨h10, hf⟩ := gd_e hf
  refine rIald C X rfl h10 dX5_beyondMean_10 ?_
  refine lv_aload_n hx hb dX5_beyondMean_11 rfl (lv_at hl 0 rfl) ?_
  refine gfX5_38 C X dX5_beyondMean_12 ?_
  refine lv_iload_n hx hb dX5_beyondMean_15 rfl (lv_at hl 1 rfl) ?_
  obtain ⟨h16, hf⟩ := gd_e hf
  refine rIald C X rfl h16 dX5_beyondMean_16 ?_
  refine lv_isub hx hb dX5_beyondMean_17 ?_
  refine lv_i2l hx hb dX5_beyondMean_18 rfl ?_
  refine lv_lmul hx hb dX5_beyondMean_19 ?_
  refine lv_iload_n hx hb dX5_beyondMean_20 rfl (lv_at hl 2 rfl) ?_
  refine lv_i2l hx hb dX5_beyondMean_21 rfl ?_
  refine lv_aload_n hx hb dX5_beyondMean_22 rfl (lv_at hl 0 rfl) ?_
  refine gfX5_38 C X dX5_beyondMean_23 ?_
  refine lv_sipush (v := 600) hx hb dX5_beyondMean_26 (by decide) ?_
  obtain ⟨h29, hf⟩ := gd_e hf
  refine rIald C X rfl h29 dX5_beyondMean_29 ?_
  refine lv_i2l hx hb dX5_beyondMean_30 rfl ?_
  refine lv_lmul hx hb dX5_beyondMean_31 ?_
  refine lv_lsub hx hb dX5_beyondMean_32 ?_
  exact retL C X hr (Option.some.inj hf) rfl rfl dX5_beyondMean_33
theorem ct5_beyondMean {x1 : Int32} {x2 : Int32} {μ : Mem} {ν : Lem} {r : Int64} (hg : f5_beyondMean μ x1 x2 = some r) : CtL true yX5_beyondMean cX5_beyondMean 3 0 0 (fun ad => [.ref (ad 0), .int x1, .int x2]) μ ν r μ ν :=
  mkL (by decide) rfl (fun ad => Nat.le_of_ble_eq_true rfl) (fun p l e s m args below meth c D cy ad C hr X ls hl => w5_beyondMean C hr x1 x2 hg _ _ X _ hl)
theorem qX5_170 {p : Program} {l : Launch} {e : Env} {R : Room} {s : State} {m : MethodId} {args : Array Value} {below : List Frame} {meth : Method} {c : Code} {H : Heap} {locs : List Loc} {cells slots : Nat} {Q : State → Prop} {A : Nat → Prop} {cc : ByteArray} {nL : Nat} {D : va_G} {cy : Nat → ClassId} {ad : Nat → Nat} {μ : Mem} {ν : Lem} {pc : Nat} {ls : Array Slot} {rest : List Value} {x1 : Int32} {x2 : Int32} {r : Int64} (hg : f5_beyondMean μ x1 x2 = some r) (C : CxA true A p s m args meth c cc nL RX5 D cy ad) (X : WdA true A D cy ad s.heap μ ν H locs) (hsz : ls.size = nL) (hrm : (rest.map fun v => v.category).sum ≤ 8) (hR : 0 + 1 ≤ R.frames ∧ 8 + (3 + 11) + 0 ≤ R.locals) (hcs : cells ≤ R.cells ∧ slots ≤ R.slots) (hd : decode cc pc = .ok (.invokevirtual 170, 3)) (kk : ∀ (H1 : Heap) (locs1 : List Loc), WdA true A D cy ad s.heap μ ν H1 locs1 → W p l e R s m args below meth c H1 locs1 cells slots Q (F0 m (pc + 3) ls (.long r :: rest))) : W p l e R s m args below meth c H locs cells slots Q (F0 m pc ls (.int x2 :: .int x1 :: .ref (ad 0) :: rest)) :=
  rCVL (As := [.int x1, .int x2]) (k := 0) (ct5_beyondMean hg) ok5 lX5_beyondMean k_520 rfl rfl rfl C X rfl hrm hsz hR hcs hd kk
set_option maxRecDepth 100000 in
set_option maxHeartbeats 4000000 in
theorem w5_areOpposite_1 {p : Program} {l : Launch} {e : Env} {s : State} {m : MethodId} {args : Array Value} {below : List Frame} {meth : Method} {c : Code} {D : va_G} {cy : Nat → ClassId} {ad : Nat → Nat} {r : Int32} {μ : Mem} {ν : Lem} (C : Cx true p s m args meth c cX5_areOpposite 4 RX5 D cy ad) (hr : meth.sig.returnType = some .boolean) : ∀ (x0 : Int64) (x2 : Int64), f5_areOpposite_1 x0 x2 = r → ∀ (H : Heap) (locs : List Loc), Wd true D cy ad s.heap μ ν H locs → ∀ (ls : Array Slot), lv_has ls 4 [(0, .long x0), (2, .long x2)] → WI true p l e 0 0 s m args below meth c D cy ad .boolean r μ ν H locs (F0 m 12 ls []) := by
  have hx := C.1.1
  have hb := C.1.2.1
  have hown := C.1.2.2.2.1
  have hts := C.1.2.2.2.2
  intro x0 x2 hf H locs X ls hl
  unfold f5_areOpposite_1 at hf
  refine lv_lload_n hx hb dX5_areOpposite_12 rfl (lv_at hl 0 rfl) ?_
  refine lv_lconst (v := 0) hx hb dX5_areOpposite_13 (by decide) ?_
  refine W.lcmp hx hb dX5_areOpposite_14 ?_
  refine lv_if_ge (tgt := 28) hx hb dX5_areOpposite_15 (by decide) (fun c15 => ?_) (fun c15 => ?_)
  · replace hf := ifp c15 hf
    refine lv_iconst (v := 0) hx hb dX5_areOpposite_28 (by decide) ?_
    exact retI C X hr rfl hf rfl rfl dX5_areOpposite_29
  · replace hf := ifn c15 hf
    refine lv_lload_n hx hb dX5_areOpposite_18 rfl (lv_at hl 1 rfl) ?_
    refine lv_lconst (v := 0) hx hb dX5_areOpposite_19 (by decide) ?_
    refine W.lcmp hx hb dX5_areOpposite_20 ?_
    refine lv_if_le (tgt := 28) hx hb dX5_areOpposite_21 (by decide) (fun c21 => ?_) (fun c21 => ?_)
    · replace hf := ifp c21 hf
      refine lv_iconst (v := 0) hx hb dX5_areOpposite_28 (by decide) ?_
      exact retI C X hr rfl hf rfl rfl dX5_areOpposite_29
    · replace hf := ifn c21 hf
      refine lv_iconst (v := 1) hx hb dX5_areOpposite_24 (by decide) ?_
      refine lv_goto (tgt := 29) hx hb dX5_areOpposite_25 (by decide) ?_
      exact retI C X hr rfl hf rfl rfl dX5_areOpposite_29
set_option maxRecDepth 100000 in
set_option maxHeartbeats 4000000 in
theorem w5_areOpposite {p : Program} {l : Launch} {e : Env} {s : State} {m : MethodId} {args : Array Value} {below : List Frame} {meth : Method} {c : Code} {D : va_G} {cy : Nat → ClassId} {ad : Nat → Nat} {r : Int32} {μ : Mem} {ν : Lem} (C : Cx true p s m args meth c cX5_areOpposite 4 RX5 D cy ad) (hr : meth.sig.returnType = some .boolean) : ∀ (x0 : Int64) (x2 : Int64), f5_areOpposite x0 x2 = r → ∀ (H : Heap) (locs : List Loc), Wd true D cy ad s.heap μ ν H locs → ∀ (ls : Array Slot), lv_has ls 4 [(0, .long x0), (2, .long x2)] → WI true p l e 0 0 s m args below meth c D cy ad .boolean r μ ν H locs (F0 m 0 ls []) := by
  have hx := C.1.1
  have hb := C.1.2.1
  have hown := C.1.2.2.2.1
  have hts := C.1.2.2.2.2
  intro x0 x2 hf H locs X ls hl
  unfold f5_areOpposite at hf
  refine lv_lload_n hx hb dX5_areOpposite_0 rfl (lv_at hl 0 rfl) ?_
  refine lv_lconst (v := 0) hx hb dX5_areOpposite_1 (by decide) ?_
  refine W.lcmp hx hb dX5_areOpposite_2 ?_
  refine lv_if_le (tgt := 12) hx hb dX5_areOpposite_3 (by decide) (fun c3 => ?_) (fun c3 => ?_)
  · replace hf := ifp c3 hf
    exact w5_areOpposite_1 C hr  x0 x2 hf _ _ X _ (lv_sub hl [0, 1] rfl)
  · replace hf := ifn c3 hf
    refine lv_lload_n hx hb dX5_areOpposite_6 rfl (lv_at hl 1 rfl) ?_
    refine lv_lconst (v := 0) hx hb dX5_areOpposite_7 (by decide) ?_
    refine W.lcmp hx hb dX5_areOpposite_8 ?_
    refine lv_if_lt (tgt := 24) hx hb dX5_areOpposite_9 (by decide) (fun c9 => ?_) (fun c9 => ?_)
    · replace hf := ifp c9 hf
      refine lv_iconst (v := 1) hx hb dX5_areOpposite_24 (by decide) ?_
      refine lv_goto (tgt := 29) hx hb dX5_areOpposite_25 (by decide) ?_
      exact retI C X hr rfl hf rfl rfl dX5_areOpposite_29
    · replace hf := ifn c9 hf
      exact w5_areOpposite_1 C hr  x0 x2 hf _ _ X _ (lv_sub hl [0, 1] rfl)
theorem ct5_areOpposite {x0 : Int64} {x2 : Int64} {μ : Mem} {ν : Lem} {r : Int32} (hg : f5_areOpposite x0 x2 = r) : CtI true yX5_areOpposite cX5_areOpposite 4 0 0 .boolean (fun ad => [.long x0, .long x2]) μ ν r μ ν :=
  mkI (by decide) rfl (fun ad => Nat.le_of_ble_eq_true rfl) (fun p l e s m args below meth c D cy ad C hr X ls hl => w5_areOpposite C hr x0 x2 hg _ _ X _ hl)
theorem qX5_174 {p : Program} {l : Launch} {e : Env} {R : Room} {s : State} {m : MethodId} {args : Array Value} {below : List Frame} {meth : Method} {c : Code} {H : Heap} {locs : List Loc} {cells slots : Nat} {Q : State → Prop} {A : Nat → Prop} {cc : ByteArray} {nL : Nat} {D : va_G} {cy : Nat → ClassId} {ad : Nat → Nat} {μ : Mem} {ν : Lem} {pc : Nat} {ls : Array Slot} {rest : List Value} {x0 : Int64} {x2 : Int64} {r : Int32} (hg : f5_areOpposite x0 x2 = r) (C : CxA true A p s m args meth c cc nL RX5 D cy ad) (X : WdA true A D cy ad s.heap μ ν H locs) (hsz : ls.size = nL) (hrm : (rest.map fun v => v.category).sum ≤ 8) (hR : 0 + 1 ≤ R.frames ∧ 8 + (4 + 11) + 0 ≤ R.locals) (hcs : cells ≤ R.cells ∧ slots ≤ R.slots) (hd : decode cc pc = .ok (.invokestatic 174, 3)) (kk : ∀ (H1 : Heap) (locs1 : List Loc), WdA true A D cy ad s.heap μ ν H1 locs1 → narrow .boolean (.int r) = .int r → W p l e R s m args below meth c H1 locs1 cells slots Q (F0 m (pc + 3) ls (.int r :: rest))) : W p l e R s m args below meth c H locs cells slots Q (F0 m pc ls (.long x2 :: .long x0 :: rest)) :=
  rCSI (As := [.long x0, .long x2]) (ct5_areOpposite hg) lX5_areOpposite k_525 rfl rfl C X rfl hrm hsz hR hcs hd kk
set_option maxRecDepth 100000 in
set_option maxHeartbeats 4000000 in
theorem w5_mean_1 {p : Program} {l : Launch} {e : Env} {s : State} {m : MethodId} {args : Array Value} {below : List Frame} {meth : Method} {c : Code} {D : va_G} {cy : Nat → ClassId} {ad : Nat → Nat} {r : Int32} {μ1 : Mem} {ν : Lem} (C : Cx true p s m args meth c cX5_mean 8 RX5 D cy ad) (hr : meth.sig.returnType = some .int) : ∀ (n : Nat), ∀ (μ : Mem) (x2 : Int32) (x3 : Int64) (x5 : Int32), f5_mean_1 n μ x2 x3 x5 = some (r, μ1) → ∀ (H : Heap) (locs : List Loc), Wd true D cy ad s.heap μ ν H locs → ∀ (ls : Array Slot), lv_has ls 8 [(0, .ref (ad 0)), (2, .int x2), (3, .long x3), (5, .int x5)] → WI true p l e 5 117 s m args below meth c D cy ad .int r μ1 ν H locs (F0 m 41 ls []) := by
  have hx := C.1.1
  have hb := C.1.2.1
  have hown := C.1.2.2.2.1
  have hts := C.1.2.2.2.2
  intro n
  induction n with
  | zero =>
    intro μ x2 x3 x5 hf H locs X ls hl
    rw [f5_mean_1] at hf
    cases hf
  | succ n ih =>
    intro μ x2 x3 x5 hf H locs X ls hl
    rw [f5_mean_1] at hf
    refine lv_iload hx hb dX5_mean_41 (lv_at hl 3 rfl) ?_
    refine lv_sipush (v := 600) hx hb dX5_mean_43 (by decide) ?_
    refine lv_iload_n hx hb dX5_mean_46 rfl (lv_at hl 1 rfl) ?_
    refine lv_isub hx hb dX5_mean_47 ?_
    refine lv_icmp_ge (tgt := 89) hx hb dX5_mean_48 (by decide) (fun c48 => ?_) (fun c48 => ?_)
    · replace hf := ifp c48 hf
      refine lv_lload_n hx hb dX5_mean_89 rfl (lv_at hl 2 rfl) ?_
      refine lv_lconst (v := 0) hx hb dX5_mean_90 (by decide) ?_
      refine W.lcmp hx hb dX5_mean_91 ?_
      refine lv_if_ne (tgt := 103) hx hb dX5_mean_92 (by decide) (fun c92 => ?_) (fun c92 => ?_)
      · replace hf := ifn c92 hf
        refine lv_iconst (v := (-1)) hx hb dX5_mean_103 (by decide) ?_
        exact retI C X hr rfl (so2 hf).1 (so2 hf).2 rfl dX5_mean_104
      · replace hf := ifp c92 hf
        refine lv_sipush (v := 600) hx hb dX5_mean_95 (by decide) ?_
        refine lv_iload_n hx hb dX5_mean_98 rfl (lv_at hl 1 rfl) ?_
        refine lv_isub hx hb dX5_mean_99 ?_
        refine lv_goto (tgt := 104) hx hb dX5_mean_100 (by decide) ?_
        exact retI C X hr rfl (so2 hf).1 (so2 hf).2 rfl dX5_mean_104
    · replace hf := ifn c48 hf
      refine lv_aload_n hx hb dX5_mean_51 rfl (lv_at hl 0 rfl) ?_
      refine lv_iload hx hb dX5_mean_52 (lv_at hl 3 rfl) ?_
      refine lv_iconst (v := 1) hx hb dX5_mean_54 (by decide) ?_
      refine lv_iadd hx hb dX5_mean_55 ?_
      refine lv_iload_n hx hb dX5_mean_56 rfl (lv_at hl 1 rfl) ?_
      obtain ⟨r57, g57, hf⟩ := bd1_e hf
      refine qX5_170 g57 C X hl.1 ((Nat.le_of_ble_eq_true rfl)) ⟨(Nat.le_of_ble_eq_true rfl), (Nat.le_of_ble_eq_true rfl)⟩ ⟨Nat.zero_le _, Nat.zero_le _⟩ dX5_mean_57 (fun H locs X => ?_)
      refine lv_lstore (lv' := [(6, .long r57), (0, .ref (ad 0)), (2, .int x2), (3, .long x3), (5, .int x5)]) hx hb dX5_mean_60 hl (by decide) rfl (fun ls hl => ?_)
      refine lv_lload_n hx hb dX5_mean_62 rfl (lv_at hl 3 rfl) ?_
      refine lv_lconst (v := 0) hx hb dX5_mean_63 (by decide) ?_
      refine W.lcmp hx hb dX5_mean_64 ?_
      refine lv_if_eq (tgt := 77) hx hb dX5_mean_65 (by decide) (fun c65 => ?_) (fun c65 => ?_)
      · replace hf := ifp c65 hf
        refine lv_iload hx hb dX5_mean_77 (lv_at hl 4 rfl) ?_
        exact retI C X hr rfl (so2 hf).1 (so2 hf).2 rfl dX5_mean_79
      · replace hf := ifn c65 hf
        refine lv_lload_n hx hb dX5_mean_68 rfl (lv_at hl 3 rfl) ?_
        refine lv_lload hx hb dX5_mean_69 (lv_at hl 0 rfl) ?_
        refine qX5_174 rfl C X hl.1 ((Nat.le_of_ble_eq_true rfl)) ⟨(Nat.le_of_ble_eq_true rfl), (Nat.le_of_ble_eq_true rfl)⟩ ⟨Nat.zero_le _, Nat.zero_le _⟩ dX5_mean_71 (fun H locs X b71 => ?_)
        refine lv_if_eq (tgt := 80) hx hb dX5_mean_74 (by decide) (fun c74 => ?_) (fun c74 => ?_)
        · replace hf := ifp c74 hf
          refine lv_lload hx hb dX5_mean_80 (lv_at hl 0 rfl) ?_
          refine lv_lstore_n (lv' := [(3, .long r57), (6, .long r57), (0, .ref (ad 0)), (2, .int x2), (5, .int x5)]) hx hb dX5_mean_82 rfl hl (by decide) rfl (fun ls hl => ?_)
          obtain ⟨v83, e83, hf⟩ := nm_e2 hf
          refine rIinc (lv' := [(5, .int v83), (3, .long r57), (6, .long r57), (0, .ref (ad 0)), (2, .int x2)]) hx hb dX5_mean_83 hl (k := 4) rfl e83 rfl (by decide) rfl (fun ls hl => ?_)
          refine lv_goto (tgt := 41) hx hb dX5_mean_86 (by decide) ?_
          exact ih μ x2 r57 v83 hf _ _ X _ (lv_sub hl [3, 4, 1, 0] rfl)
        · replace hf := ifn c74 hf
          refine lv_iload hx hb dX5_mean_77 (lv_at hl 4 rfl) ?_
          exact retI C X hr rfl (so2 hf).1 (so2 hf).2 rfl dX5_mean_79
set_option maxRecDepth 100000 in
set_option maxHeartbeats 4000000 in
theorem w5_mean {p : Program} {l : Launch} {e : Env} {s : State} {m : MethodId} {args : Array Value} {below : List Frame} {meth : Method} {c : Code} {D : va_G} {cy : Nat → ClassId} {ad : Nat → Nat} {r : Int32} {μ1 : Mem} {ν : Lem} (C : Cx true p s m args meth c cX5_mean 8 RX5 D cy ad) (hr : meth.sig.returnType = some .int) : ∀ (μ : Mem) (x1 : Int32) (x2 : Int32), f5_mean μ x1 x2 = some (r, μ1) → ∀ (H : Heap) (locs : List Loc), Wd true D cy ad s.heap μ ν H locs → ∀ (ls : Array Slot), lv_has ls 8 [(0, .ref (ad 0)), (1, .int x1), (2, .int x2)] → WI true p l e 5 117 s m args below meth c D cy ad .int r μ1 ν H locs (F0 m 0 ls []) := by
  have hx := C.1.1
  have hb := C.1.2.1
  have hown := C.1.2.2.2.1
  have hts := C.1.2.2.2.2
  intro μ x1 x2 hf H locs X ls hl
  unfold f5_mean at hf
  refine lv_aload_n hx hb dX5_mean_0 rfl (lv_at hl 0 rfl) ?_
  refine gfX5_10 C X dX5_mean_1 ?_
  refine lv_iload_n hx hb dX5_mean_4 rfl (lv_at hl 1 rfl) ?_
  refine qX5_85 (o := 0) (by decide) rfl C X hl.1 ((Nat.le_of_ble_eq_true rfl)) ⟨(Nat.le_of_ble_eq_true rfl), (Nat.le_of_ble_eq_true rfl)⟩ ⟨Nat.zero_le _, Nat.zero_le _⟩ dX5_mean_5 (fun H locs X b5 => ?_)
  refine lv_if_eq (tgt := 23) hx hb dX5_mean_8 (by decide) (fun c8 => ?_) (fun c8 => ?_)
  · replace hf := ifp c8 hf
    refine lv_bipush (v := (-2)) hx hb dX5_mean_23 (by decide) ?_
    exact retI C X hr rfl (so2 hf).1 (so2 hf).2 rfl dX5_mean_25
  · replace hf := ifn c8 hf
    refine lv_iload_n hx hb dX5_mean_11 rfl (lv_at hl 2 rfl) ?_
    refine lv_iconst (v := 1) hx hb dX5_mean_12 (by decide) ?_
    refine lv_icmp_lt (tgt := 23) hx hb dX5_mean_13 (by decide) (fun c13 => ?_) (fun c13 => ?_)
    · replace hf := ifp c13 hf
      refine lv_bipush (v := (-2)) hx hb dX5_mean_23 (by decide) ?_
      exact retI C X hr rfl (so2 hf).1 (so2 hf).2 rfl dX5_mean_25
    · replace hf := ifn c13 hf
      refine lv_iload_n hx hb dX5_mean_16 rfl (lv_at hl 2 rfl) ?_
      refine lv_sipush (v := 300) hx hb dX5_mean_17 (by decide) ?_
      refine lv_icmp_le (tgt := 26) hx hb dX5_mean_20 (by decide) (fun c20 => ?_) (fun c20 => ?_)
      · replace hf := ifp c20 hf
        refine lv_aload_n hx hb dX5_mean_26 rfl (lv_at hl 0 rfl) ?_
        refine lv_iload_n hx hb dX5_mean_27 rfl (lv_at hl 1 rfl) ?_
        obtain ⟨μ28, g28, hf⟩ := bd1_e hf
        refine qX5_167 g28 C X hl.1 ((Nat.le_of_ble_eq_true rfl)) ⟨(Nat.le_of_ble_eq_true rfl), (Nat.le_of_ble_eq_true rfl)⟩ ⟨Nat.zero_le _, Nat.zero_le _⟩ dX5_mean_28 (fun H locs X => ?_)
        refine lv_aload_n hx hb dX5_mean_31 rfl (lv_at hl 0 rfl) ?_
        refine lv_iconst (v := 0) hx hb dX5_mean_32 (by decide) ?_
        refine lv_iload_n hx hb dX5_mean_33 rfl (lv_at hl 2 rfl) ?_
        obtain ⟨r34, g34, hf⟩ := bd1_e hf
        refine qX5_170 g34 C X hl.1 ((Nat.le_of_ble_eq_true rfl)) ⟨(Nat.le_of_ble_eq_true rfl), (Nat.le_of_ble_eq_true rfl)⟩ ⟨Nat.zero_le _, Nat.zero_le _⟩ dX5_mean_34 (fun H locs X => ?_)
        refine lv_lstore_n (lv' := [(3, .long r34), (0, .ref (ad 0)), (1, .int x1), (2, .int x2)]) hx hb dX5_mean_37 rfl hl (by decide) rfl (fun ls hl => ?_)
        refine lv_iconst (v := 0) hx hb dX5_mean_38 (by decide) ?_
        refine lv_istore (lv' := [(5, .int 0), (3, .long r34), (0, .ref (ad 0)), (1, .int x1), (2, .int x2)]) hx hb dX5_mean_39 hl (by decide) rfl (fun ls hl => ?_)
        exact w5_mean_1 C hr  FUEL μ28 x2 r34 0 hf _ _ X _ (lv_sub hl [2, 4, 1, 0] rfl)
      · replace hf := ifn c20 hf
        refine lv_bipush (v := (-2)) hx hb dX5_mean_23 (by decide) ?_
        exact retI C X hr rfl (so2 hf).1 (so2 hf).2 rfl dX5_mean_25
theorem ct5_mean {x1 : Int32} {x2 : Int32} {μ : Mem} {ν : Lem} {r : Int32} {μ1 : Mem} (hg : f5_mean μ x1 x2 = some (r, μ1)) : CtI true yX5_mean cX5_mean 8 5 117 .int (fun ad => [.ref (ad 0), .int x1, .int x2]) μ ν r μ1 ν :=
  mkI (by decide) rfl (fun ad => Nat.le_of_ble_eq_true rfl) (fun p l e s m args below meth c D cy ad C hr X ls hl => w5_mean C hr μ x1 x2 hg _ _ X _ hl)
theorem qL_61 {p : Program} {l : Launch} {e : Env} {R : Room} {s : State} {m : MethodId} {args : Array Value} {below : List Frame} {meth : Method} {c : Code} {H : Heap} {locs : List Loc} {cells slots : Nat} {Q : State → Prop} {A : Nat → Prop} {cc : ByteArray} {nL : Nat} {D : va_G} {cy : Nat → ClassId} {ad : Nat → Nat} {μ : Mem} {ν : Lem} {pc : Nat} {ls : Array Slot} {rest : List Value} {x1 : Int32} {x2 : Int32} {r : Int32} {μ1 : Mem} (hg : f5_mean μ x1 x2 = some (r, μ1)) (C : CxA true A p s m args meth c cc nL RL D cy ad) (X : WdA true A D cy ad s.heap μ ν H locs) (hsz : ls.size = nL) (hrm : (rest.map fun v => v.category).sum ≤ 8) (hR : 5 + 1 ≤ R.frames ∧ 8 + (8 + 11) + 117 ≤ R.locals) (hcs : cells ≤ R.cells ∧ slots ≤ R.slots) (hd : decode cc pc = .ok (.invokevirtual 61, 3)) (kk : ∀ (H1 : Heap) (locs1 : List Loc), WdA true A D cy ad s.heap μ1 ν H1 locs1 → narrow .int (.int r) = .int r → W p l e R s m args below meth c H1 locs1 cells slots Q (F0 m (pc + 3) ls (.int r :: rest))) : W p l e R s m args below meth c H locs cells slots Q (F0 m pc ls (.int x2 :: .int x1 :: .ref (ad 0) :: rest)) :=
  rCVI (As := [.int x1, .int x2]) (k := 0) (ct5_mean hg) ok5 lX5_mean k_516 rfl rfl rfl C X rfl hrm hsz hR hcs hd kk
set_option maxRecDepth 100000 in
set_option maxHeartbeats 4000000 in
theorem w5_halfWalked_1 {p : Program} {l : Launch} {e : Env} {s : State} {m : MethodId} {args : Array Value} {below : List Frame} {meth : Method} {c : Code} {D : va_G} {cy : Nat → ClassId} {ad : Nat → Nat} {r : Int32} {μ1 : Mem} {ν : Lem} (C : Cx true p s m args meth c cX5_halfWalked 3 RX5 D cy ad) (hr : meth.sig.returnType = some .int) : ∀ (n : Nat), ∀ (μ : Mem) (x2 : Int32), f5_halfWalked_1 n μ x2 = some (r, μ1) → ∀ (H : Heap) (locs : List Loc), Wd true D cy ad s.heap μ ν H locs → ∀ (ls : Array Slot), lv_has ls 3 [(0, .ref (ad 0)), (2, .int x2)] → WI true p l e 5 117 s m args below meth c D cy ad .int r μ1 ν H locs (F0 m 7 ls []) := by
  have hx := C.1.1
  have hb := C.1.2.1
  have hown := C.1.2.2.2.1
  have hts := C.1.2.2.2.2
  intro n
  induction n with
  | zero =>
    intro μ x2 hf H locs X ls hl
    rw [f5_halfWalked_1] at hf
    cases hf
  | succ n ih =>
    intro μ x2 hf H locs X ls hl
    rw [f5_halfWalked_1] at hf
    refine lv_iload_n hx hb dX5_halfWalked_7 rfl (lv_at hl 1 rfl) ?_
    refine lv_sipush (v := 600) hx hb dX5_halfWalked_8 (by decide) ?_
    refine lv_icmp_ge (tgt := 39) hx hb dX5_halfWalked_11 (by decide) (fun c11 => ?_) (fun c11 => ?_)
    · replace hf := ifp c11 hf
      refine lv_iload_n hx hb dX5_halfWalked_39 rfl (lv_at hl 1 rfl) ?_
      exact retI C X hr rfl (so2 hf).1 (so2 hf).2 rfl dX5_halfWalked_40
    · replace hf := ifn c11 hf
      refine lv_iconst (v := 2) hx hb dX5_halfWalked_14 (by decide) ?_
      refine lv_aload_n hx hb dX5_halfWalked_15 rfl (lv_at hl 0 rfl) ?_
      refine gfX5_38 C X dX5_halfWalked_16 ?_
      refine lv_iload_n hx hb dX5_halfWalked_19 rfl (lv_at hl 1 rfl) ?_
      obtain ⟨h20, hf⟩ := gd_e hf
      refine rIald C X rfl h20 dX5_halfWalked_20 ?_
      refine lv_imul hx hb dX5_halfWalked_21 ?_
      refine lv_aload_n hx hb dX5_halfWalked_22 rfl (lv_at hl 0 rfl) ?_
      refine gfX5_38 C X dX5_halfWalked_23 ?_
      refine lv_sipush (v := 600) hx hb dX5_halfWalked_26 (by decide) ?_
      obtain ⟨h29, hf⟩ := gd_e hf
      refine rIald C X rfl h29 dX5_halfWalked_29 ?_
      refine lv_icmp_ge (tgt := 39) hx hb dX5_halfWalked_30 (by decide) (fun c30 => ?_) (fun c30 => ?_)
      · replace hf := ifp c30 hf
        refine lv_iload_n hx hb dX5_halfWalked_39 rfl (lv_at hl 1 rfl) ?_
        exact retI C X hr rfl (so2 hf).1 (so2 hf).2 rfl dX5_halfWalked_40
      · replace hf := ifn c30 hf
        obtain ⟨v33, e33, hf⟩ := nm_e2 hf
        refine rIinc (lv' := [(2, .int v33), (0, .ref (ad 0))]) hx hb dX5_halfWalked_33 hl (k := 1) rfl e33 rfl (by decide) rfl (fun ls hl => ?_)
        refine lv_goto (tgt := 7) hx hb dX5_halfWalked_36 (by decide) ?_
        exact ih μ v33 hf _ _ X _ (lv_sub hl [1, 0] rfl)
set_option maxRecDepth 100000 in
set_option maxHeartbeats 4000000 in
theorem w5_halfWalked {p : Program} {l : Launch} {e : Env} {s : State} {m : MethodId} {args : Array Value} {below : List Frame} {meth : Method} {c : Code} {D : va_G} {cy : Nat → ClassId} {ad : Nat → Nat} {r : Int32} {μ1 : Mem} {ν : Lem} (C : Cx true p s m args meth c cX5_halfWalked 3 RX5 D cy ad) (hr : meth.sig.returnType = some .int) : ∀ (μ : Mem) (x1 : Int32), f5_halfWalked μ x1 = some (r, μ1) → ∀ (H : Heap) (locs : List Loc), Wd true D cy ad s.heap μ ν H locs → ∀ (ls : Array Slot), lv_has ls 3 [(0, .ref (ad 0)), (1, .int x1)] → WI true p l e 5 117 s m args below meth c D cy ad .int r μ1 ν H locs (F0 m 0 ls []) := by
  have hx := C.1.1
  have hb := C.1.2.1
  have hown := C.1.2.2.2.1
  have hts := C.1.2.2.2.2
  intro μ x1 hf H locs X ls hl
  unfold f5_halfWalked at hf
  refine lv_aload_n hx hb dX5_halfWalked_0 rfl (lv_at hl 0 rfl) ?_
  refine lv_iload_n hx hb dX5_halfWalked_1 rfl (lv_at hl 1 rfl) ?_
  obtain ⟨μ2, g2, hf⟩ := bd1_e hf
  refine qX5_167 g2 C X hl.1 ((Nat.le_of_ble_eq_true rfl)) ⟨(Nat.le_of_ble_eq_true rfl), (Nat.le_of_ble_eq_true rfl)⟩ ⟨Nat.zero_le _, Nat.zero_le _⟩ dX5_halfWalked_2 (fun H locs X => ?_)
  refine lv_iconst (v := 0) hx hb dX5_halfWalked_5 (by decide) ?_
  refine lv_istore_n (lv' := [(2, .int 0), (0, .ref (ad 0)), (1, .int x1)]) hx hb dX5_halfWalked_6 rfl hl (by decide) rfl (fun ls hl => ?_)
  exact w5_halfWalked_1 C hr  FUEL μ2 0 hf _ _ X _ (lv_sub hl [1, 0] rfl)
theorem ct5_halfWalked {x1 : Int32} {μ : Mem} {ν : Lem} {r : Int32} {μ1 : Mem} (hg : f5_halfWalked μ x1 = some (r, μ1)) : CtI true yX5_halfWalked cX5_halfWalked 3 5 117 .int (fun ad => [.ref (ad 0), .int x1]) μ ν r μ1 ν :=
  mkI (by decide) rfl (fun ad => Nat.le_of_ble_eq_true rfl) (fun p l e s m args below meth c D cy ad C hr X ls hl => w5_halfWalked C hr μ x1 hg _ _ X _ hl)
theorem qX5_180 {p : Program} {l : Launch} {e : Env} {R : Room} {s : State} {m : MethodId} {args : Array Value} {below : List Frame} {meth : Method} {c : Code} {H : Heap} {locs : List Loc} {cells slots : Nat} {Q : State → Prop} {A : Nat → Prop} {cc : ByteArray} {nL : Nat} {D : va_G} {cy : Nat → ClassId} {ad : Nat → Nat} {μ : Mem} {ν : Lem} {pc : Nat} {ls : Array Slot} {rest : List Value} {x1 : Int32} {r : Int32} {μ1 : Mem} (hg : f5_halfWalked μ x1 = some (r, μ1)) (C : CxA true A p s m args meth c cc nL RX5 D cy ad) (X : WdA true A D cy ad s.heap μ ν H locs) (hsz : ls.size = nL) (hrm : (rest.map fun v => v.category).sum ≤ 8) (hR : 5 + 1 ≤ R.frames ∧ 8 + (3 + 11) + 117 ≤ R.locals) (hcs : cells ≤ R.cells ∧ slots ≤ R.slots) (hd : decode cc pc = .ok (.invokevirtual 180, 3)) (kk : ∀ (H1 : Heap) (locs1 : List Loc), WdA true A D cy ad s.heap μ1 ν H1 locs1 → narrow .int (.int r) = .int r → W p l e R s m args below meth c H1 locs1 cells slots Q (F0 m (pc + 3) ls (.int r :: rest))) : W p l e R s m args below meth c H locs cells slots Q (F0 m pc ls (.int x1 :: .ref (ad 0) :: rest)) :=
  rCVI (As := [.int x1]) (k := 0) (ct5_halfWalked hg) ok5 lX5_halfWalked k_532 rfl rfl rfl C X rfl hrm hsz hR hcs hd kk
set_option maxRecDepth 100000 in
set_option maxHeartbeats 4000000 in
theorem w5_bestMinute_1 {p : Program} {l : Launch} {e : Env} {s : State} {m : MethodId} {args : Array Value} {below : List Frame} {meth : Method} {c : Code} {D : va_G} {cy : Nat → ClassId} {ad : Nat → Nat} {r : Int32} {μ1 : Mem} {ν : Lem} (C : Cx true p s m args meth c cX5_bestMinute 6 RX5 D cy ad) (hr : meth.sig.returnType = some .int) : ∀ (n : Nat), ∀ (μ : Mem) (x1 : Int32) (x2 : Int32) (x3 : Int32) (x4 : Int32), f5_bestMinute_1 n μ x1 x2 x3 x4 = some (r, μ1) → ∀ (H : Heap) (locs : List Loc), Wd true D cy ad s.heap μ ν H locs → ∀ (ls : Array Slot), lv_has ls 6 [(0, .ref (ad 0)), (1, .int x1), (2, .int x2), (3, .int x3), (4, .int x4)] → WI true p l e 5 118 s m args below meth c D cy ad .int r μ1 ν H locs (F0 m 13 ls []) := by
  have hx := C.1.1
  have hb := C.1.2.1
  have hown := C.1.2.2.2.1
  have hts := C.1.2.2.2.2
  intro n
  induction n with
  | zero =>
    intro μ x1 x2 x3 x4 hf H locs X ls hl
    rw [f5_bestMinute_1] at hf
    cases hf
  | succ n ih =>
    intro μ x1 x2 x3 x4 hf H locs X ls hl
    rw [f5_bestMinute_1] at hf
    refine lv_iload hx hb dX5_bestMinute_13 (lv_at hl 4 rfl) ?_
    refine lv_sipush (v := 600) hx hb dX5_bestMinute_15 (by decide) ?_
    refine lv_icmp_gt (tgt := 49) hx hb dX5_bestMinute_18 (by decide) (fun c18 => ?_) (fun c18 => ?_)
    · replace hf := ifp c18 hf
      refine lv_iload_n hx hb dX5_bestMinute_49 rfl (lv_at hl 2 rfl) ?_
      exact retI C X hr rfl (so2 hf).1 (so2 hf).2 rfl dX5_bestMinute_50
    · replace hf := ifn c18 hf
      refine lv_aload_n hx hb dX5_bestMinute_21 rfl (lv_at hl 0 rfl) ?_
      refine lv_iconst (v := 2) hx hb dX5_bestMinute_22 (by decide) ?_
      refine lv_iload_n hx hb dX5_bestMinute_23 rfl (lv_at hl 1 rfl) ?_
      refine lv_iload hx hb dX5_bestMinute_24 (lv_at hl 4 rfl) ?_
      obtain ⟨r26, μ26, g26, hf⟩ := bd2_e hf
      refine qX5_164 g26 C X hl.1 ((Nat.le_of_ble_eq_true rfl)) ⟨(Nat.le_of_ble_eq_true rfl), (Nat.le_of_ble_eq_true rfl)⟩ ⟨Nat.zero_le _, Nat.zero_le _⟩ dX5_bestMinute_26 (fun H locs X b26 => ?_)
      refine lv_istore (lv' := [(5, .int r26), (0, .ref (ad 0)), (1, .int x1), (2, .int x2), (3, .int x3), (4, .int x4)]) hx hb dX5_bestMinute_29 hl (by decide) rfl (fun ls hl => ?_)
      refine lv_iload hx hb dX5_bestMinute_31 (lv_at hl 0 rfl) ?_
      refine lv_iload_n hx hb dX5_bestMinute_33 rfl (lv_at hl 4 rfl) ?_
      refine lv_icmp_le (tgt := 43) hx hb dX5_bestMinute_34 (by decide) (fun c34 => ?_) (fun c34 => ?_)
      · replace hf := ifp c34 hf
        obtain ⟨v43, e43, hf⟩ := nm_e2 hf
        refine rIinc (lv' := [(4, .int v43), (5, .int r26), (0, .ref (ad 0)), (1, .int x1), (2, .int x2), (3, .int x3)]) hx hb dX5_bestMinute_43 hl (k := 5) rfl e43 rfl (by decide) rfl (fun ls hl => ?_)
        refine lv_goto (tgt := 13) hx hb dX5_bestMinute_46 (by decide) ?_
        exact ih μ26 x1 x2 x3 v43 hf _ _ X _ (lv_sub hl [2, 3, 4, 5, 0] rfl)
      · replace hf := ifn c34 hf
        refine lv_iload hx hb dX5_bestMinute_37 (lv_at hl 0 rfl) ?_
        refine lv_istore_n (lv' := [(3, .int r26), (5, .int r26), (0, .ref (ad 0)), (1, .int x1), (2, .int x2), (4, .int x4)]) hx hb dX5_bestMinute_39 rfl hl (by decide) rfl (fun ls hl => ?_)
        refine lv_iload hx hb dX5_bestMinute_40 (lv_at hl 5 rfl) ?_
        refine lv_istore_n (lv' := [(2, .int x4), (3, .int r26), (5, .int r26), (0, .ref (ad 0)), (1, .int x1), (4, .int x4)]) hx hb dX5_bestMinute_42 rfl hl (by decide) rfl (fun ls hl => ?_)
        obtain ⟨v43, e43, hf⟩ := nm_e2 hf
        refine rIinc (lv' := [(4, .int v43), (2, .int x4), (3, .int r26), (5, .int r26), (0, .ref (ad 0)), (1, .int x1)]) hx hb dX5_bestMinute_43 hl (k := 5) rfl e43 rfl (by decide) rfl (fun ls hl => ?_)
        refine lv_goto (tgt := 13) hx hb dX5_bestMinute_46 (by decide) ?_
        exact ih μ26 x1 x4 r26 v43 hf _ _ X _ (lv_sub hl [4, 5, 1, 2, 0] rfl)
set_option maxRecDepth 100000 in
set_option maxHeartbeats 4000000 in
theorem w5_bestMinute {p : Program} {l : Launch} {e : Env} {s : State} {m : MethodId} {args : Array Value} {below : List Frame} {meth : Method} {c : Code} {D : va_G} {cy : Nat → ClassId} {ad : Nat → Nat} {r : Int32} {μ1 : Mem} {ν : Lem} (C : Cx true p s m args meth c cX5_bestMinute 6 RX5 D cy ad) (hr : meth.sig.returnType = some .int) : ∀ (μ : Mem) (x1 : Int32), f5_bestMinute μ x1 = some (r, μ1) → ∀ (H : Heap) (locs : List Loc), Wd true D cy ad s.heap μ ν H locs → ∀ (ls : Array Slot), lv_has ls 6 [(0, .ref (ad 0)), (1, .int x1)] → WI true p l e 5 118 s m args below meth c D cy ad .int r μ1 ν H locs (F0 m 0 ls []) := by
  have hx := C.1.1
  have hb := C.1.2.1
  have hown := C.1.2.2.2.1
  have hts := C.1.2.2.2.2
  intro μ x1 hf H locs X ls hl
  unfold f5_bestMinute at hf
  refine lv_iconst (v := 0) hx hb dX5_bestMinute_0 (by decide) ?_
  refine lv_istore_n (lv' := [(2, .int 0), (0, .ref (ad 0)), (1, .int x1)]) hx hb dX5_bestMinute_1 rfl hl (by decide) rfl (fun ls hl => ?_)
  refine lv_aload_n hx hb dX5_bestMinute_2 rfl (lv_at hl 1 rfl) ?_
  refine lv_iconst (v := 2) hx hb dX5_bestMinute_3 (by decide) ?_
  refine lv_iload_n hx hb dX5_bestMinute_4 rfl (lv_at hl 2 rfl) ?_
  refine lv_iconst (v := 0) hx hb dX5_bestMinute_5 (by decide) ?_
  obtain ⟨r6, μ6, g6, hf⟩ := bd2_e hf
  refine qX5_164 g6 C X hl.1 ((Nat.le_of_ble_eq_true rfl)) ⟨(Nat.le_of_ble_eq_true rfl), (Nat.le_of_ble_eq_true rfl)⟩ ⟨Nat.zero_le _, Nat.zero_le _⟩ dX5_bestMinute_6 (fun H locs X b6 => ?_)
  refine lv_istore_n (lv' := [(3, .int r6), (2, .int 0), (0, .ref (ad 0)), (1, .int x1)]) hx hb dX5_bestMinute_9 rfl hl (by decide) rfl (fun ls hl => ?_)
  refine lv_iconst (v := 1) hx hb dX5_bestMinute_10 (by decide) ?_
  refine lv_istore (lv' := [(4, .int 1), (3, .int r6), (2, .int 0), (0, .ref (ad 0)), (1, .int x1)]) hx hb dX5_bestMinute_11 hl (by decide) rfl (fun ls hl => ?_)
  exact w5_bestMinute_1 C hr  FUEL μ6 x1 0 r6 1 hf _ _ X _ (lv_sub hl [3, 4, 2, 1, 0] rfl)
theorem ct5_bestMinute {x1 : Int32} {μ : Mem} {ν : Lem} {r : Int32} {μ1 : Mem} (hg : f5_bestMinute μ x1 = some (r, μ1)) : CtI true yX5_bestMinute cX5_bestMinute 6 5 118 .int (fun ad => [.ref (ad 0), .int x1]) μ ν r μ1 ν :=
  mkI (by decide) rfl (fun ad => Nat.le_of_ble_eq_true rfl) (fun p l e s m args below meth c D cy ad C hr X ls hl => w5_bestMinute C hr μ x1 hg _ _ X _ hl)
theorem qX5_183 {p : Program} {l : Launch} {e : Env} {R : Room} {s : State} {m : MethodId} {args : Array Value} {below : List Frame} {meth : Method} {c : Code} {H : Heap} {locs : List Loc} {cells slots : Nat} {Q : State → Prop} {A : Nat → Prop} {cc : ByteArray} {nL : Nat} {D : va_G} {cy : Nat → ClassId} {ad : Nat → Nat} {μ : Mem} {ν : Lem} {pc : Nat} {ls : Array Slot} {rest : List Value} {x1 : Int32} {r : Int32} {μ1 : Mem} (hg : f5_bestMinute μ x1 = some (r, μ1)) (C : CxA true A p s m args meth c cc nL RX5 D cy ad) (X : WdA true A D cy ad s.heap μ ν H locs) (hsz : ls.size = nL) (hrm : (rest.map fun v => v.category).sum ≤ 8) (hR : 5 + 1 ≤ R.frames ∧ 8 + (6 + 11) + 118 ≤ R.locals) (hcs : cells ≤ R.cells ∧ slots ≤ R.slots) (hd : decode cc pc = .ok (.invokevirtual 183, 3)) (kk : ∀ (H1 : Heap) (locs1 : List Loc), WdA true A D cy ad s.heap μ1 ν H1 locs1 → narrow .int (.int r) = .int r → W p l e R s m args below meth c H1 locs1 cells slots Q (F0 m (pc + 3) ls (.int r :: rest))) : W p l e R s m args below meth c H locs cells slots Q (F0 m pc ls (.int x1 :: .ref (ad 0) :: rest)) :=
  rCVI (As := [.int x1]) (k := 0) (ct5_bestMinute hg) ok5 lX5_bestMinute k_536 rfl rfl rfl C X rfl hrm hsz hR hcs hd kk
set_option maxRecDepth 100000 in
set_option maxHeartbeats 4000000 in
theorem w5_half {p : Program} {l : Launch} {e : Env} {s : State} {m : MethodId} {args : Array Value} {below : List Frame} {meth : Method} {c : Code} {D : va_G} {cy : Nat → ClassId} {ad : Nat → Nat} {r : Int32} {μ1 : Mem} {ν : Lem} (C : Cx true p s m args meth c cX5_half 4 RX5 D cy ad) (hr : meth.sig.returnType = some .int) : ∀ (μ : Mem) (x1 : Int32) (x2 : Int32), f5_half μ x1 x2 = some (r, μ1) → ∀ (H : Heap) (locs : List Loc), Wd true D cy ad s.heap μ ν H locs → ∀ (ls : Array Slot), lv_has ls 4 [(0, .ref (ad 0)), (1, .int x1), (2, .int x2)] → WI true p l e 6 143 s m args below meth c D cy ad .int r μ1 ν H locs (F0 m 0 ls []) := by
  have hx := C.1.1
  have hb := C.1.2.1
  have hown := C.1.2.2.2.1
  have hts := C.1.2.2.2.2
  intro μ x1 x2 hf H locs X ls hl
  unfold f5_half at hf
  refine lv_aload_n hx hb dX5_half_0 rfl (lv_at hl 0 rfl) ?_
  refine gfX5_10 C X dX5_half_1 ?_
  refine lv_iload_n hx hb dX5_half_4 rfl (lv_at hl 1 rfl) ?_
  refine qX5_85 (o := 0) (by decide) rfl C X hl.1 ((Nat.le_of_ble_eq_true rfl)) ⟨(Nat.le_of_ble_eq_true rfl), (Nat.le_of_ble_eq_true rfl)⟩ ⟨Nat.zero_le _, Nat.zero_le _⟩ dX5_half_5 (fun H locs X b5 => ?_)
  refine lv_if_eq (tgt := 20) hx hb dX5_half_8 (by decide) (fun c8 => ?_) (fun c8 => ?_)
  · replace hf := ifp c8 hf
    refine lv_bipush (v := (-2)) hx hb dX5_half_20 (by decide) ?_
    exact retI C X hr rfl (so2 hf).1 (so2 hf).2 rfl dX5_half_22
  · replace hf := ifn c8 hf
    refine lv_iload_n hx hb dX5_half_11 rfl (lv_at hl 2 rfl) ?_
    refine lv_if_lt (tgt := 20) hx hb dX5_half_12 (by decide) (fun c12 => ?_) (fun c12 => ?_)
    · replace hf := ifp c12 hf
      refine lv_bipush (v := (-2)) hx hb dX5_half_20 (by decide) ?_
      exact retI C X hr rfl (so2 hf).1 (so2 hf).2 rfl dX5_half_22
    · replace hf := ifn c12 hf
      refine lv_iload_n hx hb dX5_half_15 rfl (lv_at hl 2 rfl) ?_
      refine lv_iconst (v := 2) hx hb dX5_half_16 (by decide) ?_
      refine lv_icmp_le (tgt := 23) hx hb dX5_half_17 (by decide) (fun c17 => ?_) (fun c17 => ?_)
      · replace hf := ifp c17 hf
        refine lv_iload_n hx hb dX5_half_23 rfl (lv_at hl 2 rfl) ?_
        refine lv_if_ne (tgt := 33) hx hb dX5_half_24 (by decide) (fun c24 => ?_) (fun c24 => ?_)
        · replace hf := ifn c24 hf
          refine lv_aload_n hx hb dX5_half_33 rfl (lv_at hl 0 rfl) ?_
          refine lv_iload_n hx hb dX5_half_34 rfl (lv_at hl 1 rfl) ?_
          obtain ⟨r35, μ35, g35, hf⟩ := bd2_e hf
          refine qX5_183 g35 C X hl.1 ((Nat.le_of_ble_eq_true rfl)) ⟨(Nat.le_of_ble_eq_true rfl), (Nat.le_of_ble_eq_true rfl)⟩ ⟨Nat.zero_le _, Nat.zero_le _⟩ dX5_half_35 (fun H locs X b35 => ?_)
          refine lv_istore_n (lv' := [(3, .int r35), (0, .ref (ad 0)), (1, .int x1), (2, .int x2)]) hx hb dX5_half_38 rfl hl (by decide) rfl (fun ls hl => ?_)
          refine lv_iload_n hx hb dX5_half_39 rfl (lv_at hl 3 rfl) ?_
          refine lv_iconst (v := 1) hx hb dX5_half_40 (by decide) ?_
          refine lv_icmp_ne (tgt := 48) hx hb dX5_half_41 (by decide) (fun c41 => ?_) (fun c41 => ?_)
          · replace hf := ifn c41 hf
            refine lv_aload_n hx hb dX5_half_48 rfl (lv_at hl 1 rfl) ?_
            refine lv_iconst (v := 2) hx hb dX5_half_49 (by decide) ?_
            refine lv_iload_n hx hb dX5_half_50 rfl (lv_at hl 2 rfl) ?_
            refine lv_iload_n hx hb dX5_half_51 rfl (lv_at hl 0 rfl) ?_
            obtain ⟨r52, μ52, g52, hf⟩ := bd2_e hf
            refine qX5_164 g52 C X hl.1 ((Nat.le_of_ble_eq_true rfl)) ⟨(Nat.le_of_ble_eq_true rfl), (Nat.le_of_ble_eq_true rfl)⟩ ⟨Nat.zero_le _, Nat.zero_le _⟩ dX5_half_52 (fun H locs X b52 => ?_)
            exact retI C X hr rfl (so2 hf).1 (so2 hf).2 rfl dX5_half_55
          · replace hf := ifp c41 hf
            refine lv_iload_n hx hb dX5_half_44 rfl (lv_at hl 0 rfl) ?_
            refine lv_goto (tgt := 55) hx hb dX5_half_45 (by decide) ?_
            exact retI C X hr rfl (so2 hf).1 (so2 hf).2 rfl dX5_half_55
        · replace hf := ifp c24 hf
          refine lv_aload_n hx hb dX5_half_27 rfl (lv_at hl 0 rfl) ?_
          refine lv_iload_n hx hb dX5_half_28 rfl (lv_at hl 1 rfl) ?_
          obtain ⟨r29, μ29, g29, hf⟩ := bd2_e hf
          refine qX5_180 g29 C X hl.1 ((Nat.le_of_ble_eq_true rfl)) ⟨(Nat.le_of_ble_eq_true rfl), (Nat.le_of_ble_eq_true rfl)⟩ ⟨Nat.zero_le _, Nat.zero_le _⟩ dX5_half_29 (fun H locs X b29 => ?_)
          exact retI C X hr rfl (so2 hf).1 (so2 hf).2 rfl dX5_half_32
      · replace hf := ifn c17 hf
        refine lv_bipush (v := (-2)) hx hb dX5_half_20 (by decide) ?_
        exact retI C X hr rfl (so2 hf).1 (so2 hf).2 rfl dX5_half_22
theorem ct5_half {x1 : Int32} {x2 : Int32} {μ : Mem} {ν : Lem} {r : Int32} {μ1 : Mem} (hg : f5_half μ x1 x2 = some (r, μ1)) : CtI true yX5_half cX5_half 4 6 143 .int (fun ad => [.ref (ad 0), .int x1, .int x2]) μ ν r μ1 ν :=
  mkI (by decide) rfl (fun ad => Nat.le_of_ble_eq_true rfl) (fun p l e s m args below meth c D cy ad C hr X ls hl => w5_half C hr μ x1 x2 hg _ _ X _ hl)
theorem qL_65 {p : Program} {l : Launch} {e : Env} {R : Room} {s : State} {m : MethodId} {args : Array Value} {below : List Frame} {meth : Method} {c : Code} {H : Heap} {locs : List Loc} {cells slots : Nat} {Q : State → Prop} {A : Nat → Prop} {cc : ByteArray} {nL : Nat} {D : va_G} {cy : Nat → ClassId} {ad : Nat → Nat} {μ : Mem} {ν : Lem} {pc : Nat} {ls : Array Slot} {rest : List Value} {x1 : Int32} {x2 : Int32} {r : Int32} {μ1 : Mem} (hg : f5_half μ x1 x2 = some (r, μ1)) (C : CxA true A p s m args meth c cc nL RL D cy ad) (X : WdA true A D cy ad s.heap μ ν H locs) (hsz : ls.size = nL) (hrm : (rest.map fun v => v.category).sum ≤ 8) (hR : 6 + 1 ≤ R.frames ∧ 8 + (4 + 11) + 143 ≤ R.locals) (hcs : cells ≤ R.cells ∧ slots ≤ R.slots) (hd : decode cc pc = .ok (.invokevirtual 65, 3)) (kk : ∀ (H1 : Heap) (locs1 : List Loc), WdA true A D cy ad s.heap μ1 ν H1 locs1 → narrow .int (.int r) = .int r → W p l e R s m args below meth c H1 locs1 cells slots Q (F0 m (pc + 3) ls (.int r :: rest))) : W p l e R s m args below meth c H locs cells slots Q (F0 m pc ls (.int x2 :: .int x1 :: .ref (ad 0) :: rest)) :=
  rCVI (As := [.int x1, .int x2]) (k := 0) (ct5_half hg) ok5 lX5_half k_528 rfl rfl rfl C X rfl hrm hsz hR hcs hd kk
set_option maxRecDepth 100000 in
set_option maxHeartbeats 4000000 in
theorem w5_areTwo {p : Program} {l : Launch} {e : Env} {s : State} {m : MethodId} {args : Array Value} {below : List Frame} {meth : Method} {c : Code} {D : va_G} {cy : Nat → ClassId} {ad : Nat → Nat} {r : Int32} {μ : Mem} {ν : Lem} (C : Cx true p s m args meth c cX5_areTwo 3 RX5 D cy ad) (hr : meth.sig.returnType = some .boolean) : ∀ (x1 : Int32) (x2 : Int32), f5_areTwo μ x1 x2 = r → ∀ (H : Heap) (locs : List Loc), Wd true D cy ad s.heap μ ν H locs → ∀ (ls : Array Slot), lv_has ls 3 [(0, .ref (ad 0)), (1, .int x1), (2, .int x2)] → WI true p l e 1 21 s m args below meth c D cy ad .boolean r μ ν H locs (F0 m 0 ls []) := by
  have hx := C.1.1
  have hb := C.1.2.1
  have hown := C.1.2.2.2.1
  have hts := C.1.2.2.2.2
  intro x1 x2 hf H locs X ls hl
  unfold f5_areTwo at hf
  refine lv_aload_n hx hb dX5_areTwo_0 rfl (lv_at hl 0 rfl) ?_
  refine gfX5_10 C X dX5_areTwo_1 ?_
  refine lv_iload_n hx hb dX5_areTwo_4 rfl (lv_at hl 1 rfl) ?_
  refine qX5_85 (o := 0) (by decide) rfl C X hl.1 ((Nat.le_of_ble_eq_true rfl)) ⟨(Nat.le_of_ble_eq_true rfl), (Nat.le_of_ble_eq_true rfl)⟩ ⟨Nat.zero_le _, Nat.zero_le _⟩ dX5_areTwo_5 (fun H locs X b5 => ?_)
  refine lv_if_eq (tgt := 31) hx hb dX5_areTwo_8 (by decide) (fun c8 => ?_) (fun c8 => ?_)
  · replace hf := ifp c8 hf
    refine lv_iconst (v := 0) hx hb dX5_areTwo_31 (by decide) ?_
    exact retI C X hr rfl hf rfl rfl dX5_areTwo_32
  · replace hf := ifn c8 hf
    refine lv_aload_n hx hb dX5_areTwo_11 rfl (lv_at hl 0 rfl) ?_
    refine gfX5_10 C X dX5_areTwo_12 ?_
    refine lv_iload_n hx hb dX5_areTwo_15 rfl (lv_at hl 2 rfl) ?_
    refine qX5_85 (o := 0) (by decide) rfl C X hl.1 ((Nat.le_of_ble_eq_true rfl)) ⟨(Nat.le_of_ble_eq_true rfl), (Nat.le_of_ble_eq_true rfl)⟩ ⟨Nat.zero_le _, Nat.zero_le _⟩ dX5_areTwo_16 (fun H locs X b16 => ?_)
    refine lv_if_eq (tgt := 31) hx hb dX5_areTwo_19 (by decide) (fun c19 => ?_) (fun c19 => ?_)
    · replace hf := ifp c19 hf
      refine lv_iconst (v := 0) hx hb dX5_areTwo_31 (by decide) ?_
      exact retI C X hr rfl hf rfl rfl dX5_areTwo_32
    · replace hf := ifn c19 hf
      refine lv_iload_n hx hb dX5_areTwo_22 rfl (lv_at hl 1 rfl) ?_
      refine lv_iload_n hx hb dX5_areTwo_23 rfl (lv_at hl 2 rfl) ?_
      refine lv_icmp_eq (tgt := 31) hx hb dX5_areTwo_24 (by decide) (fun c24 => ?_) (fun c24 => ?_)
      · replace hf := ifp c24 hf
        refine lv_iconst (v := 0) hx hb dX5_areTwo_31 (by decide) ?_
        exact retI C X hr rfl hf rfl rfl dX5_areTwo_32
      · replace hf := ifn c24 hf
        refine lv_iconst (v := 1) hx hb dX5_areTwo_27 (by decide) ?_
        refine lv_goto (tgt := 32) hx hb dX5_areTwo_28 (by decide) ?_
        exact retI C X hr rfl hf rfl rfl dX5_areTwo_32
theorem ct5_areTwo {x1 : Int32} {x2 : Int32} {μ : Mem} {ν : Lem} {r : Int32} (hg : f5_areTwo μ x1 x2 = r) : CtI true yX5_areTwo cX5_areTwo 3 1 21 .boolean (fun ad => [.ref (ad 0), .int x1, .int x2]) μ ν r μ ν :=
  mkI (by decide) rfl (fun ad => Nat.le_of_ble_eq_true rfl) (fun p l e s m args below meth c D cy ad C hr X ls hl => w5_areTwo C hr x1 x2 hg _ _ X _ hl)
theorem qX5_186 {p : Program} {l : Launch} {e : Env} {R : Room} {s : State} {m : MethodId} {args : Array Value} {below : List Frame} {meth : Method} {c : Code} {H : Heap} {locs : List Loc} {cells slots : Nat} {Q : State → Prop} {A : Nat → Prop} {cc : ByteArray} {nL : Nat} {D : va_G} {cy : Nat → ClassId} {ad : Nat → Nat} {μ : Mem} {ν : Lem} {pc : Nat} {ls : Array Slot} {rest : List Value} {x1 : Int32} {x2 : Int32} {r : Int32} (hg : f5_areTwo μ x1 x2 = r) (C : CxA true A p s m args meth c cc nL RX5 D cy ad) (X : WdA true A D cy ad s.heap μ ν H locs) (hsz : ls.size = nL) (hrm : (rest.map fun v => v.category).sum ≤ 8) (hR : 1 + 1 ≤ R.frames ∧ 8 + (3 + 11) + 21 ≤ R.locals) (hcs : cells ≤ R.cells ∧ slots ≤ R.slots) (hd : decode cc pc = .ok (.invokevirtual 186, 3)) (kk : ∀ (H1 : Heap) (locs1 : List Loc), WdA true A D cy ad s.heap μ ν H1 locs1 → narrow .boolean (.int r) = .int r → W p l e R s m args below meth c H1 locs1 cells slots Q (F0 m (pc + 3) ls (.int r :: rest))) : W p l e R s m args below meth c H locs cells slots Q (F0 m pc ls (.int x2 :: .int x1 :: .ref (ad 0) :: rest)) :=
  rCVI (As := [.int x1, .int x2]) (k := 0) (ct5_areTwo hg) ok5 lX5_areTwo k_544 rfl rfl rfl C X rfl hrm hsz hR hcs hd kk
set_option maxRecDepth 100000 in
set_option maxHeartbeats 4000000 in
theorem w5_layTwo {p : Program} {l : Launch} {e : Env} {s : State} {m : MethodId} {args : Array Value} {below : List Frame} {meth : Method} {c : Code} {D : va_G} {cy : Nat → ClassId} {ad : Nat → Nat} {μ1 : Mem} {ν : Lem} (C : Cx true p s m args meth c cX5_layTwo 3 RX5 D cy ad) (hr : meth.sig.returnType = none) : ∀ (μ : Mem) (x1 : Int32) (x2 : Int32), f5_layTwo μ x1 x2 = some μ1 → ∀ (H : Heap) (locs : List Loc), Wd true D cy ad s.heap μ ν H locs → ∀ (ls : Array Slot), lv_has ls 3 [(0, .ref (ad 0)), (1, .int x1), (2, .int x2)] → WV true p l e 5 115 s m args below meth c D cy ad μ1 ν H locs (F0 m 0 ls []) := by
  have hx := C.1.1
  have hb := C.1.2.1
  have hown := C.1.2.2.2.1
  have hts := C.1.2.2.2.2
  intro μ x1 x2 hf H locs X ls hl
  unfold f5_layTwo at hf
  refine lv_aload_n hx hb dX5_layTwo_0 rfl (lv_at hl 0 rfl) ?_
  refine gfX5_10 C X dX5_layTwo_1 ?_
  refine gfX5_92 (o := 0) (by decide) rfl (k2 := 12) rfl C X dX5_layTwo_4 ?_
  refine lv_iload_n hx hb dX5_layTwo_7 rfl (lv_at hl 1 rfl) ?_
  obtain ⟨h8, hf⟩ := gd_e hf
  have hb8 : x1.toNatClampNeg < 13 := by have := inb_lt h8; omega
  refine rAald (t := 0) (k' := (14 + 3 * x1.toNatClampNeg)) C X rfl rfl h8 (by omega) dX5_layTwo_8 ?_
  refine lv_aload_n hx hb dX5_layTwo_9 rfl (lv_at hl 0 rfl) ?_
  refine gfX5_38 C X dX5_layTwo_10 ?_
  refine lv_aload_n hx hb dX5_layTwo_13 rfl (lv_at hl 0 rfl) ?_
  refine gfX5_10 C X dX5_layTwo_14 ?_
  refine gfX5_82 (o := 0) (by decide) rfl C X dX5_layTwo_17 ?_
  obtain ⟨μ20, g20, hf⟩ := bd1_e hf
  refine qX5_220 (j := x1.toNatClampNeg) hb8 (x1 := 7) rfl g20 C X hl.1 ((Nat.le_of_ble_eq_true rfl)) ⟨(Nat.le_of_ble_eq_true rfl), (Nat.le_of_ble_eq_true rfl)⟩ ⟨Nat.zero_le _, Nat.zero_le _⟩ dX5_layTwo_20 (fun H locs X => ?_)
  refine lv_aload_n hx hb dX5_layTwo_23 rfl (lv_at hl 0 rfl) ?_
  refine gfX5_10 C X dX5_layTwo_24 ?_
  refine gfX5_92 (o := 0) (by decide) rfl (k2 := 12) rfl C X dX5_layTwo_27 ?_
  refine lv_iload_n hx hb dX5_layTwo_30 rfl (lv_at hl 2 rfl) ?_
  obtain ⟨h31, hf⟩ := gd_e hf
  have hb31 : x2.toNatClampNeg < 13 := by have := inb_lt h31; omega
  refine rAald (t := 0) (k' := (14 + 3 * x2.toNatClampNeg)) C X rfl rfl h31 (by omega) dX5_layTwo_31 ?_
  refine lv_aload_n hx hb dX5_layTwo_32 rfl (lv_at hl 0 rfl) ?_
  refine gfX5_42 C X dX5_layTwo_33 ?_
  refine lv_aload_n hx hb dX5_layTwo_36 rfl (lv_at hl 0 rfl) ?_
  refine gfX5_10 C X dX5_layTwo_37 ?_
  refine gfX5_82 (o := 0) (by decide) rfl C X dX5_layTwo_40 ?_
  obtain ⟨μ43, g43, hf⟩ := bd1_e hf
  refine qX5_220 (j := x2.toNatClampNeg) hb31 (x1 := 8) rfl g43 C X hl.1 ((Nat.le_of_ble_eq_true rfl)) ⟨(Nat.le_of_ble_eq_true rfl), (Nat.le_of_ble_eq_true rfl)⟩ ⟨Nat.zero_le _, Nat.zero_le _⟩ dX5_layTwo_43 (fun H locs X => ?_)
  exact retV C X hr (Option.some.inj hf) rfl dX5_layTwo_46
theorem ct5_layTwo {x1 : Int32} {x2 : Int32} {μ : Mem} {ν : Lem} {μ1 : Mem} (hg : f5_layTwo μ x1 x2 = some μ1) : CtV true yX5_layTwo cX5_layTwo 3 5 115 (fun ad => [.ref (ad 0), .int x1, .int x2]) μ ν μ1 ν :=
  mkV (by decide) rfl (fun ad => Nat.le_of_ble_eq_true rfl) (fun p l e s m args below meth c D cy ad C hr X ls hl => w5_layTwo C hr μ x1 x2 hg _ _ X _ hl)
theorem qX5_190 {p : Program} {l : Launch} {e : Env} {R : Room} {s : State} {m : MethodId} {args : Array Value} {below : List Frame} {meth : Method} {c : Code} {H : Heap} {locs : List Loc} {cells slots : Nat} {Q : State → Prop} {A : Nat → Prop} {cc : ByteArray} {nL : Nat} {D : va_G} {cy : Nat → ClassId} {ad : Nat → Nat} {μ : Mem} {ν : Lem} {pc : Nat} {ls : Array Slot} {rest : List Value} {x1 : Int32} {x2 : Int32} {μ1 : Mem} (hg : f5_layTwo μ x1 x2 = some μ1) (C : CxA true A p s m args meth c cc nL RX5 D cy ad) (X : WdA true A D cy ad s.heap μ ν H locs) (hsz : ls.size = nL) (hrm : (rest.map fun v => v.category).sum ≤ 8) (hR : 5 + 1 ≤ R.frames ∧ 8 + (3 + 11) + 115 ≤ R.locals) (hcs : cells ≤ R.cells ∧ slots ≤ R.slots) (hd : decode cc pc = .ok (.invokevirtual 190, 3)) (kk : ∀ (H1 : Heap) (locs1 : List Loc), WdA true A D cy ad s.heap μ1 ν H1 locs1 → W p l e R s m args below meth c H1 locs1 cells slots Q (F0 m (pc + 3) ls rest)) : W p l e R s m args below meth c H locs cells slots Q (F0 m pc ls (.int x2 :: .int x1 :: .ref (ad 0) :: rest)) :=
  rCVV (As := [.int x1, .int x2]) (k := 0) (ct5_layTwo hg) ok5 lX5_layTwo k_548 rfl rfl rfl C X rfl hrm hsz hR hcs hd kk
