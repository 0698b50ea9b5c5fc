set_option maxRecDepth 100000 in
set_option maxHeartbeats 4000000 in
theorem w6_isWay {p : Program} {l : Launch} {e : Env} {s : State} {m : MethodId} {args : Array Value} {below : List Frame} {meth : Method} {c : Code} {D : va_G} {cy : Nat → ClassId} {ad : Nat → Nat} {r : Int32} {μ : Mem} {ν : Lem} (C : Cx false p s m args meth c cX6_isWay 2 RX6 D cy ad) (hr : meth.sig.returnType = some .boolean) : ∀ (x1 : Int32), f6_isWay μ ν x1 = r → ∀ (H : Heap) (locs : List Loc), Wd false D cy ad s.heap μ ν H locs → ∀ (ls : Array Slot), lv_has ls 2 [(0, .ref (ad 0)), (1, .int x1)] → WI false p l e 1 25 s m args below meth c D cy ad .boolean r μ ν H locs (F0 m 0 ls []) := by
  have hx := C.1.1
  have hb := C.1.2.1
  have hown := C.1.2.2.2.1
  have hts := C.1.2.2.2.2
  intro x1 hf H locs X ls hl
  unfold f6_isWay at hf
  refine lv_iload_n hx hb dX6_isWay_0 rfl (lv_at hl 1 rfl) ?_
  refine lv_i2l hx hb dX6_isWay_1 rfl ?_
  refine lv_lconst (v := 0) hx hb dX6_isWay_2 (by decide) ?_
  refine lv_aload_n hx hb dX6_isWay_3 rfl (lv_at hl 0 rfl) ?_
  refine gfX6_89 C X dX6_isWay_4 ?_
  refine lv_iconst (v := 1) hx hb dX6_isWay_7 (by decide) ?_
  refine lv_isub hx hb dX6_isWay_8 ?_
  refine lv_i2l hx hb dX6_isWay_9 rfl ?_
  refine qX6_92 rfl C X hl.1 ((Nat.le_of_ble_eq_true rfl)) ⟨(Nat.le_of_ble_eq_true rfl), (Nat.le_of_ble_eq_true rfl)⟩ ⟨Nat.zero_le _, Nat.zero_le _⟩ dX6_isWay_10 (fun H locs X b10 => ?_)
  exact retI C X hr b10 hf rfl rfl dX6_isWay_13
theorem ct6_isWay {x1 : Int32} {μ : Mem} {ν : Lem} {r : Int32} (hg : f6_isWay μ ν x1 = r) : CtI false yX6_isWay cX6_isWay 2 1 25 .boolean (fun ad => [.ref (ad 0), .int x1]) μ ν r μ ν :=
  mkI (by decide) rfl (fun ad => Nat.le_of_ble_eq_true rfl) (fun p l e s m args below meth c D cy ad C hr X ls hl => w6_isWay C hr x1 hg _ _ X _ hl)
theorem qX6_96 {p : Program} {l : Launch} {e : Env} {R : Room} {s : State} {m : MethodId} {args : Array Value} {below : List Frame} {meth : Method} {c : Code} {H : Heap} {locs : List Loc} {cells slots : Nat} {Q : State → Prop} {A : Nat → Prop} {cc : ByteArray} {nL : Nat} {D : va_G} {cy : Nat → ClassId} {ad : Nat → Nat} {μ : Mem} {ν : Lem} {pc : Nat} {ls : Array Slot} {rest : List Value} {x1 : Int32} {r : Int32} (hg : f6_isWay μ ν x1 = r) (C : CxA false A p s m args meth c cc nL RX6 D cy ad) (X : WdA false A D cy ad s.heap μ ν H locs) (hsz : ls.size = nL) (hrm : (rest.map fun v => v.category).sum ≤ 8) (hR : 1 + 1 ≤ R.frames ∧ 8 + (2 + 11) + 25 ≤ R.locals) (hcs : cells ≤ R.cells ∧ slots ≤ R.slots) (hd : decode cc pc = .ok (.invokevirtual 96, 3)) (kk : ∀ (H1 : Heap) (locs1 : List Loc), WdA false A D cy ad s.heap μ ν H1 locs1 → narrow .boolean (.int r) = .int r → W p l e R s m args below meth c H1 locs1 cells slots Q (F0 m (pc + 3) ls (.int r :: rest))) : W p l e R s m args below meth c H locs cells slots Q (F0 m pc ls (.int x1 :: .ref (ad 0) :: rest)) :=
  rCVI (As := [.int x1]) (k := 0) (ct6_isWay hg) ok6 lX6_isWay k_928 rfl rfl rfl C X rfl hrm hsz hR hcs hd kk
set_option maxRecDepth 100000 in
set_option maxHeartbeats 4000000 in
theorem w6_areTwo {p : Program} {l : Launch} {e : Env} {s : State} {m : MethodId} {args : Array Value} {below : List Frame} {meth : Method} {c : Code} {D : va_G} {cy : Nat → ClassId} {ad : Nat → Nat} {r : Int32} {μ : Mem} {ν : Lem} (C : Cx false p s m args meth c cX6_areTwo 3 RX6 D cy ad) (hr : meth.sig.returnType = some .boolean) : ∀ (x1 : Int32) (x2 : Int32), f6_areTwo μ ν x1 x2 = r → ∀ (H : Heap) (locs : List Loc), Wd false D cy ad s.heap μ ν H locs → ∀ (ls : Array Slot), lv_has ls 3 [(0, .ref (ad 0)), (1, .int x1), (2, .int x2)] → WI false p l e 2 46 s m args below meth c D cy ad .boolean r μ ν H locs (F0 m 0 ls []) := by
  have hx := C.1.1
  have hb := C.1.2.1
  have hown := C.1.2.2.2.1
  have hts := C.1.2.2.2.2
  intro x1 x2 hf H locs X ls hl
  unfold f6_areTwo at hf
  refine lv_aload_n hx hb dX6_areTwo_0 rfl (lv_at hl 0 rfl) ?_
  refine lv_iload_n hx hb dX6_areTwo_1 rfl (lv_at hl 1 rfl) ?_
  refine qX6_96 rfl C X hl.1 ((Nat.le_of_ble_eq_true rfl)) ⟨(Nat.le_of_ble_eq_true rfl), (Nat.le_of_ble_eq_true rfl)⟩ ⟨Nat.zero_le _, Nat.zero_le _⟩ dX6_areTwo_2 (fun H locs X b2 => ?_)
  refine lv_if_eq (tgt := 25) hx hb dX6_areTwo_5 (by decide) (fun c5 => ?_) (fun c5 => ?_)
  · replace hf := ifp c5 hf
    refine lv_iconst (v := 0) hx hb dX6_areTwo_25 (by decide) ?_
    exact retI C X hr rfl hf rfl rfl dX6_areTwo_26
  · replace hf := ifn c5 hf
    refine lv_aload_n hx hb dX6_areTwo_8 rfl (lv_at hl 0 rfl) ?_
    refine lv_iload_n hx hb dX6_areTwo_9 rfl (lv_at hl 2 rfl) ?_
    refine qX6_96 rfl C X hl.1 ((Nat.le_of_ble_eq_true rfl)) ⟨(Nat.le_of_ble_eq_true rfl), (Nat.le_of_ble_eq_true rfl)⟩ ⟨Nat.zero_le _, Nat.zero_le _⟩ dX6_areTwo_10 (fun H locs X b10 => ?_)
    refine lv_if_eq (tgt := 25) hx hb dX6_areTwo_13 (by decide) (fun c13 => ?_) (fun c13 => ?_)
    · replace hf := ifp c13 hf
      refine lv_iconst (v := 0) hx hb dX6_areTwo_25 (by decide) ?_
      exact retI C X hr rfl hf rfl rfl dX6_areTwo_26
    · replace hf := ifn c13 hf
      refine lv_iload_n hx hb dX6_areTwo_16 rfl (lv_at hl 1 rfl) ?_
      refine lv_iload_n hx hb dX6_areTwo_17 rfl (lv_at hl 2 rfl) ?_
      refine lv_icmp_eq (tgt := 25) hx hb dX6_areTwo_18 (by decide) (fun c18 => ?_) (fun c18 => ?_)
      · replace hf := ifp c18 hf
        refine lv_iconst (v := 0) hx hb dX6_areTwo_25 (by decide) ?_
        exact retI C X hr rfl hf rfl rfl dX6_areTwo_26
      · replace hf := ifn c18 hf
        refine lv_iconst (v := 1) hx hb dX6_areTwo_21 (by decide) ?_
        refine lv_goto (tgt := 26) hx hb dX6_areTwo_22 (by decide) ?_
        exact retI C X hr rfl hf rfl rfl dX6_areTwo_26
theorem ct6_areTwo {x1 : Int32} {x2 : Int32} {μ : Mem} {ν : Lem} {r : Int32} (hg : f6_areTwo μ ν x1 x2 = r) : CtI false yX6_areTwo cX6_areTwo 3 2 46 .boolean (fun ad => [.ref (ad 0), .int x1, .int x2]) μ ν r μ ν :=
  mkI (by decide) rfl (fun ad => Nat.le_of_ble_eq_true rfl) (fun p l e s m args below meth c D cy ad C hr X ls hl => w6_areTwo C hr x1 x2 hg _ _ X _ hl)
theorem qX6_367 {p : Program} {l : Launch} {e : Env} {R : Room} {s : State} {m : MethodId} {args : Array Value} {below : List Frame} {meth : Method} {c : Code} {H : Heap} {locs : List Loc} {cells slots : Nat} {Q : State → Prop} {A : Nat → Prop} {cc : ByteArray} {nL : Nat} {D : va_G} {cy : Nat → ClassId} {ad : Nat → Nat} {μ : Mem} {ν : Lem} {pc : Nat} {ls : Array Slot} {rest : List Value} {x1 : Int32} {x2 : Int32} {r : Int32} (hg : f6_areTwo μ ν x1 x2 = r) (C : CxA false A p s m args meth c cc nL RX6 D cy ad) (X : WdA false A D cy ad s.heap μ ν H locs) (hsz : ls.size = nL) (hrm : (rest.map fun v => v.category).sum ≤ 8) (hR : 2 + 1 ≤ R.frames ∧ 8 + (3 + 11) + 46 ≤ R.locals) (hcs : cells ≤ R.cells ∧ slots ≤ R.slots) (hd : decode cc pc = .ok (.invokevirtual 367, 3)) (kk : ∀ (H1 : Heap) (locs1 : List Loc), WdA false A D cy ad s.heap μ ν H1 locs1 → narrow .boolean (.int r) = .int r → W p l e R s m args below meth c H1 locs1 cells slots Q (F0 m (pc + 3) ls (.int r :: rest))) : W p l e R s m args below meth c H locs cells slots Q (F0 m pc ls (.int x2 :: .int x1 :: .ref (ad 0) :: rest)) :=
  rCVI (As := [.int x1, .int x2]) (k := 0) (ct6_areTwo hg) ok6 lX6_areTwo k_1218 rfl rfl rfl C X rfl hrm hsz hR hcs hd kk
set_option maxRecDepth 100000 in
set_option maxHeartbeats 4000000 in
theorem w6_isMinute {p : Program} {l : Launch} {e : Env} {s : State} {m : MethodId} {args : Array Value} {below : List Frame} {meth : Method} {c : Code} {D : va_G} {cy : Nat → ClassId} {ad : Nat → Nat} {r : Int32} {μ : Mem} {ν : Lem} (C : Cx false p s m args meth c cX6_isMinute 1 RX6 D cy ad) (hr : meth.sig.returnType = some .boolean) : ∀ (x0 : Int32), f6_isMinute x0 = r → ∀ (H : Heap) (locs : List Loc), Wd false D cy ad s.heap μ ν H locs → ∀ (ls : Array Slot), lv_has ls 1 [(0, .int x0)] → WI false p l e 1 25 s m args below meth c D cy ad .boolean r μ ν H locs (F0 m 0 ls []) := by
  have hx := C.1.1
  have hb := C.1.2.1
  have hown := C.1.2.2.2.1
  have hts := C.1.2.2.2.2
  intro x0 hf H locs X ls hl
  unfold f6_isMinute at hf
  refine lv_iload_n hx hb dX6_isMinute_0 rfl (lv_at hl 0 rfl) ?_
  refine lv_i2l hx hb dX6_isMinute_1 rfl ?_
  refine lv_lconst (v := 0) hx hb dX6_isMinute_2 (by decide) ?_
  refine lv_ldc2 (v := (600)) hx hb hown (hts _ k_947) dX6_isMinute_3 ?_
  refine qX6_92 rfl C X hl.1 ((Nat.le_of_ble_eq_true rfl)) ⟨(Nat.le_of_ble_eq_true rfl), (Nat.le_of_ble_eq_true rfl)⟩ ⟨Nat.zero_le _, Nat.zero_le _⟩ dX6_isMinute_6 (fun H locs X b6 => ?_)
  exact retI C X hr b6 hf rfl rfl dX6_isMinute_9
theorem ct6_isMinute {x0 : Int32} {μ : Mem} {ν : Lem} {r : Int32} (hg : f6_isMinute x0 = r) : CtI false yX6_isMinute cX6_isMinute 1 1 25 .boolean (fun ad => [.int x0]) μ ν r μ ν :=
  mkI (by decide) rfl (fun ad => Nat.le_of_ble_eq_true rfl) (fun p l e s m args below meth c D cy ad C hr X ls hl => w6_isMinute C hr x0 hg _ _ X _ hl)
theorem qX6_110 {p : Program} {l : Launch} {e : Env} {R : Room} {s : State} {m : MethodId} {args : Array Value} {below : List Frame} {meth : Method} {c : Code} {H : Heap} {locs : List Loc} {cells slots : Nat} {Q : State → Prop} {A : Nat → Prop} {cc : ByteArray} {nL : Nat} {D : va_G} {cy : Nat → ClassId} {ad : Nat → Nat} {μ : Mem} {ν : Lem} {pc : Nat} {ls : Array Slot} {rest : List Value} {x0 : Int32} {r : Int32} (hg : f6_isMinute x0 = r) (C : CxA false A p s m args meth c cc nL RX6 D cy ad) (X : WdA false A D cy ad s.heap μ ν H locs) (hsz : ls.size = nL) (hrm : (rest.map fun v => v.category).sum ≤ 8) (hR : 1 + 1 ≤ R.frames ∧ 8 + (1 + 11) + 25 ≤ R.locals) (hcs : cells ≤ R.cells ∧ slots ≤ R.slots) (hd : decode cc pc = .ok (.invokestatic 110, 3)) (kk : ∀ (H1 : Heap) (locs1 : List Loc), WdA false A D cy ad s.heap μ ν H1 locs1 → narrow .boolean (.int r) = .int r → W p l e R s m args below meth c H1 locs1 cells slots Q (F0 m (pc + 3) ls (.int r :: rest))) : W p l e R s m args below meth c H locs cells slots Q (F0 m pc ls (.int x0 :: rest)) :=
  rCSI (As := [.int x0]) (ct6_isMinute hg) lX6_isMinute k_944 rfl rfl C X rfl hrm hsz hR hcs hd kk
set_option maxRecDepth 100000 in
set_option maxHeartbeats 4000000 in
theorem w6_set_5 {p : Program} {l : Launch} {e : Env} {s : State} {m : MethodId} {args : Array Value} {below : List Frame} {meth : Method} {c : Code} {D : va_G} {cy : Nat → ClassId} {ad : Nat → Nat} {r : Int32} {μ1 : Mem} {ν1 : Lem} (C : Cx false p s m args meth c cX6_set 6 RX6 D cy ad) (hr : meth.sig.returnType = some .int) (K84 : Mem → Lem → Int32 → Int32 → Option (Int32 × Mem × Lem)) (hK84 : ∀ (μ : Mem) (ν : Lem) (x3 : Int32) (x4 : Int32), K84 μ ν x3 x4 = some (r, μ1, ν1) → ∀ (H : Heap) (locs : List Loc), Wd false D cy ad s.heap μ ν H locs → ∀ (ls : Array Slot), lv_has ls 6 [(0, .ref (ad 0)), (3, .int x3), (4, .int x4)] → WI false p l e 2 46 s m args below meth c D cy ad .int r μ1 ν1 H locs (F0 m 84 ls [])) : ∀ (n : Nat), ∀ (μ : Mem) (ν : Lem) (x3 : Int32) (x4 : Int32) (x5 : Int32), f6_set_5 K84 n μ ν x3 x4 x5 = some (r, μ1, ν1) → ∀ (H : Heap) (locs : List Loc), Wd false D cy ad s.heap μ ν H locs → ∀ (ls : Array Slot), lv_has ls 6 [(0, .ref (ad 0)), (3, .int x3), (4, .int x4), (5, .int x5)] → WI false p l e 2 46 s m args below meth c D cy ad .int r μ1 ν1 H locs (F0 m 96 ls []) := by
  have hx := C.1.1
  have hb := C.1.2.1
  have hown := C.1.2.2.2.1
  have hts := C.1.2.2.2.2
  intro n
  induction n with
  | zero =>
    intro μ ν x3 x4 x5 hf H locs X ls hl
    rw [f6_set_5] at hf
    cases hf
  | succ n ih =>
    intro μ ν x3 x4 x5 hf H locs X ls hl
    rw [f6_set_5] at hf
    refine lv_iload hx hb dX6_set_96 (lv_at hl 3 rfl) ?_
    refine lv_aload_n hx hb dX6_set_98 rfl (lv_at hl 0 rfl) ?_
    refine gfX6_38 C X dX6_set_99 ?_
    refine lv_iload hx hb dX6_set_102 (lv_at hl 2 rfl) ?_
    obtain ⟨h104, hf⟩ := gd_e hf
    refine rIald C X rfl h104 dX6_set_104 ?_
    refine lv_icmp_ge (tgt := 134) hx hb dX6_set_105 (by decide) (fun c105 => ?_) (fun c105 => ?_)
    · replace hf := ifp c105 hf
      obtain ⟨v134, e134, hf⟩ := nm_e2 hf
      refine rIinc (lv' := [(4, .int v134), (0, .ref (ad 0)), (3, .int x3), (5, .int x5)]) hx hb dX6_set_134 hl (k := 2) rfl e134 rfl (by decide) rfl (fun ls hl => ?_)
      refine lv_goto (tgt := 84) hx hb dX6_set_137 (by decide) ?_
      exact hK84 μ ν x3 v134 hf _ _ X _ (lv_sub hl [1, 2, 0] rfl)
    · replace hf := ifn c105 hf
      refine lv_aload_n hx hb dX6_set_108 rfl (lv_at hl 0 rfl) ?_
      refine gfX6_35 C X dX6_set_109 ?_
      refine lv_bipush (v := 8) hx hb dX6_set_112 (by decide) ?_
      refine lv_iload hx hb dX6_set_114 (lv_at hl 2 rfl) ?_
      refine lv_imul hx hb dX6_set_116 ?_
      refine lv_iload hx hb dX6_set_117 (lv_at hl 3 rfl) ?_
      refine lv_iadd hx hb dX6_set_119 ?_
      obtain ⟨h120, hf⟩ := gd_e hf
      refine rIald C X rfl h120 dX6_set_120 ?_
      refine lv_iload_n hx hb dX6_set_121 rfl (lv_at hl 1 rfl) ?_
      refine lv_icmp_le (tgt := 128) hx hb dX6_set_122 (by decide) (fun c122 => ?_) (fun c122 => ?_)
      · replace hf := ifp c122 hf
        obtain ⟨v128, e128, hf⟩ := nm_e2 hf
        refine rIinc (lv' := [(5, .int v128), (0, .ref (ad 0)), (3, .int x3), (4, .int x4)]) hx hb dX6_set_128 hl (k := 3) rfl e128 rfl (by decide) rfl (fun ls hl => ?_)
        refine lv_goto (tgt := 96) hx hb dX6_set_131 (by decide) ?_
        exact ih μ ν x3 x4 v128 hf _ _ X _ (lv_sub hl [1, 2, 3, 0] rfl)
      · replace hf := ifn c122 hf
        refine lv_bipush (v := (-3)) hx hb dX6_set_125 (by decide) ?_
        exact retI C X hr rfl (so3 hf).1 (so3 hf).2.1 (so3 hf).2.2 dX6_set_127
set_option maxRecDepth 100000 in
set_option maxHeartbeats 4000000 in
theorem w6_set_4 {p : Program} {l : Launch} {e : Env} {s : State} {m : MethodId} {args : Array Value} {below : List Frame} {meth : Method} {c : Code} {D : va_G} {cy : Nat → ClassId} {ad : Nat → Nat} {r : Int32} {μ1 : Mem} {ν1 : Lem} (C : Cx false p s m args meth c cX6_set 6 RX6 D cy ad) (hr : meth.sig.returnType = some .int) : ∀ (n : Nat), ∀ (μ : Mem) (ν : Lem) (x3 : Int32) (x4 : Int32), f6_set_4 n μ ν x3 x4 = some (r, μ1, ν1) → ∀ (H : Heap) (locs : List Loc), Wd false D cy ad s.heap μ ν H locs → ∀ (ls : Array Slot), lv_has ls 6 [(0, .ref (ad 0)), (3, .int x3), (4, .int x4)] → WI false p l e 2 46 s m args below meth c D cy ad .int r μ1 ν1 H locs (F0 m 84 ls []) := by
  have hx := C.1.1
  have hb := C.1.2.1
  have hown := C.1.2.2.2.1
  have hts := C.1.2.2.2.2
  intro n
  induction n with
  | zero =>
    intro μ ν x3 x4 hf H locs X ls hl
    rw [f6_set_4] at hf
    cases hf
  | succ n ih =>
    intro μ ν x3 x4 hf H locs X ls hl
    rw [f6_set_4] at hf
    refine lv_iload hx hb dX6_set_84 (lv_at hl 2 rfl) ?_
    refine lv_aload_n hx hb dX6_set_86 rfl (lv_at hl 0 rfl) ?_
    refine gfX6_89 C X dX6_set_87 ?_
    refine lv_icmp_ge (tgt := 140) hx hb dX6_set_90 (by decide) (fun c90 => ?_) (fun c90 => ?_)
    · replace hf := ifp c90 hf
      refine lv_aload_n hx hb dX6_set_140 rfl (lv_at hl 0 rfl) ?_
      refine gfX6_23 C X dX6_set_141 ?_
      obtain ⟨v144, e144, hf⟩ := nm_e2 hf
      refine st_i e144 ?_
      refine lv_istore (lv' := [(4, .int v144), (0, .ref (ad 0)), (3, .int x3)]) hx hb dX6_set_144 hl (by decide) rfl (fun ls hl => ?_)
      refine lv_aload_n hx hb dX6_set_146 rfl (lv_at hl 1 rfl) ?_
      refine lv_iload_n hx hb dX6_set_147 rfl (lv_at hl 2 rfl) ?_
      obtain ⟨μ148, e148, hf⟩ := nm_e2 hf
      refine pfX6_23 e148 C X dX6_set_148 (fun H locs X => ?_)
      refine lv_iload hx hb dX6_set_151 (lv_at hl 0 rfl) ?_
      exact retI C X hr rfl (so3 hf).1 (so3 hf).2.1 (so3 hf).2.2 dX6_set_153
    · replace hf := ifn c90 hf
      refine lv_iconst (v := 0) hx hb dX6_set_93 (by decide) ?_
      refine lv_istore (lv' := [(5, .int 0), (0, .ref (ad 0)), (3, .int x3), (4, .int x4)]) hx hb dX6_set_94 hl (by decide) rfl (fun ls hl => ?_)
      exact w6_set_5 C hr (f6_set_4 n) ih FUEL μ ν x3 x4 0 hf _ _ X _ (lv_sub hl [1, 2, 3, 0] rfl)
set_option maxRecDepth 100000 in
set_option maxHeartbeats 4000000 in
theorem w6_set_3 {p : Program} {l : Launch} {e : Env} {s : State} {m : MethodId} {args : Array Value} {below : List Frame} {meth : Method} {c : Code} {D : va_G} {cy : Nat → ClassId} {ad : Nat → Nat} {r : Int32} {μ1 : Mem} {ν1 : Lem} (C : Cx false p s m args meth c cX6_set 6 RX6 D cy ad) (hr : meth.sig.returnType = some .int) : ∀ (μ : Mem) (ν : Lem) (x1 : Int32) (x2 : Int32) (x3 : Int32) (t0 : Int64) (t1 : Int64) (t2 : Int64), f6_set_3 μ ν x1 x2 x3 t0 t1 t2 = some (r, μ1, ν1) → ∀ (H : Heap) (locs : List Loc), Wd false D cy ad s.heap μ ν H locs → ∀ (ls : Array Slot), lv_has ls 6 [(0, .ref (ad 0)), (1, .int x1), (2, .int x2), (3, .int x3)] → WI false p l e 2 46 s m args below meth c D cy ad .int r μ1 ν1 H locs (F0 m 49 ls [.long t2, .long t1, .long t0]) := by
  have hx := C.1.1
  have hb := C.1.2.1
  have hown := C.1.2.2.2.1
  have hts := C.1.2.2.2.2
  intro μ ν x1 x2 x3 t0 t1 t2 hf H locs X ls hl
  unfold f6_set_3 at hf
  refine qX6_92 rfl C X hl.1 ((Nat.le_of_ble_eq_true rfl)) ⟨(Nat.le_of_ble_eq_true rfl), (Nat.le_of_ble_eq_true rfl)⟩ ⟨Nat.zero_le _, Nat.zero_le _⟩ dX6_set_49 (fun H locs X b49 => ?_)
  refine lv_if_ne (tgt := 58) hx hb dX6_set_52 (by decide) (fun c52 => ?_) (fun c52 => ?_)
  · replace hf := ifn c52 hf
    refine lv_iload_n hx hb dX6_set_58 rfl (lv_at hl 1 rfl) ?_
    refine lv_iconst (v := 1) hx hb dX6_set_59 (by decide) ?_
    refine lv_icmp_ne (tgt := 81) hx hb dX6_set_60 (by decide) (fun c60 => ?_) (fun c60 => ?_)
    · replace hf := ifn c60 hf
      refine lv_iconst (v := 0) hx hb dX6_set_81 (by decide) ?_
      refine lv_istore (lv' := [(4, .int 0), (0, .ref (ad 0)), (1, .int x1), (2, .int x2), (3, .int x3)]) hx hb dX6_set_82 hl (by decide) rfl (fun ls hl => ?_)
      exact w6_set_4 C hr  FUEL μ ν x3 0 hf _ _ X _ (lv_sub hl [1, 4, 0] rfl)
    · replace hf := ifp c60 hf
      refine lv_aload_n hx hb dX6_set_63 rfl (lv_at hl 0 rfl) ?_
      refine gfX6_29 C X dX6_set_64 ?_
      refine lv_iload_n hx hb dX6_set_67 rfl (lv_at hl 2 rfl) ?_
      obtain ⟨h68, hf⟩ := gd_e hf
      refine rIald C X rfl h68 dX6_set_68 ?_
      obtain ⟨v69, e69, hf⟩ := nm_e2 hf
      refine st_i e69 ?_
      refine lv_istore (lv' := [(4, .int v69), (0, .ref (ad 0)), (1, .int x1), (2, .int x2), (3, .int x3)]) hx hb dX6_set_69 hl (by decide) rfl (fun ls hl => ?_)
      refine lv_aload_n hx hb dX6_set_71 rfl (lv_at hl 1 rfl) ?_
      refine gfX6_29 C X dX6_set_72 ?_
      refine lv_iload_n hx hb dX6_set_75 rfl (lv_at hl 3 rfl) ?_
      refine lv_iload_n hx hb dX6_set_76 rfl (lv_at hl 4 rfl) ?_
      obtain ⟨h77, hf⟩ := gd_e hf
      obtain ⟨μ77, e77, hf⟩ := nm_e2 hf
      refine rIast2 C X rfl h77 e77 dX6_set_77 (fun H locs X => ?_)
      refine lv_iload hx hb dX6_set_78 (lv_at hl 0 rfl) ?_
      exact retI C X hr rfl (so3 hf).1 (so3 hf).2.1 (so3 hf).2.2 dX6_set_80
  · replace hf := ifp c52 hf
    refine lv_bipush (v := (-2)) hx hb dX6_set_55 (by decide) ?_
    exact retI C X hr rfl (so3 hf).1 (so3 hf).2.1 (so3 hf).2.2 dX6_set_57
set_option maxRecDepth 100000 in
set_option maxHeartbeats 4000000 in
theorem w6_set_2 {p : Program} {l : Launch} {e : Env} {s : State} {m : MethodId} {args : Array Value} {below : List Frame} {meth : Method} {c : Code} {D : va_G} {cy : Nat → ClassId} {ad : Nat → Nat} {r : Int32} {μ1 : Mem} {ν1 : Lem} (C : Cx false p s m args meth c cX6_set 6 RX6 D cy ad) (hr : meth.sig.returnType = some .int) : ∀ (μ : Mem) (ν : Lem) (x1 : Int32) (x2 : Int32) (x3 : Int32) (t0 : Int64) (t1 : Int64), f6_set_2 μ ν x1 x2 x3 t0 t1 = some (r, μ1, ν1) → ∀ (H : Heap) (locs : List Loc), Wd false D cy ad s.heap μ ν H locs → ∀ (ls : Array Slot), lv_has ls 6 [(0, .ref (ad 0)), (1, .int x1), (2, .int x2), (3, .int x3)] → WI false p l e 2 46 s m args below meth c D cy ad .int r μ1 ν1 H locs (F0 m 36 ls [.long t1, .long t0]) := by
  have hx := C.1.1
  have hb := C.1.2.1
  have hown := C.1.2.2.2.1
  have hts := C.1.2.2.2.2
  intro μ ν x1 x2 x3 t0 t1 hf H locs X ls hl
  unfold f6_set_2 at hf
  refine lv_iload_n hx hb dX6_set_36 rfl (lv_at hl 1 rfl) ?_
  refine lv_if_ne (tgt := 46) hx hb dX6_set_37 (by decide) (fun c37 => ?_) (fun c37 => ?_)
  · replace hf := ifn c37 hf
    refine lv_ldc2 (v := (9)) hx hb hown (hts _ k_934) dX6_set_46 ?_
    exact w6_set_3 C hr  μ ν x1 x2 x3 t0 t1 (9 : Int64) hf _ _ X _ (lv_sub hl [0, 1, 2, 3] rfl)
  · replace hf := ifp c37 hf
    refine lv_ldc2 (v := (999)) hx hb hown (hts _ k_933) dX6_set_40 ?_
    refine lv_goto (tgt := 49) hx hb dX6_set_43 (by decide) ?_
    exact w6_set_3 C hr  μ ν x1 x2 x3 t0 t1 (999 : Int64) hf _ _ X _ (lv_sub hl [0, 1, 2, 3] rfl)
set_option maxRecDepth 100000 in
set_option maxHeartbeats 4000000 in
theorem w6_set_1 {p : Program} {l : Launch} {e : Env} {s : State} {m : MethodId} {args : Array Value} {below : List Frame} {meth : Method} {c : Code} {D : va_G} {cy : Nat → ClassId} {ad : Nat → Nat} {r : Int32} {μ1 : Mem} {ν1 : Lem} (C : Cx false p s m args meth c cX6_set 6 RX6 D cy ad) (hr : meth.sig.returnType = some .int) : ∀ (μ : Mem) (ν : Lem) (x1 : Int32) (x2 : Int32) (x3 : Int32), f6_set_1 μ ν x1 x2 x3 = some (r, μ1, ν1) → ∀ (H : Heap) (locs : List Loc), Wd false D cy ad s.heap μ ν H locs → ∀ (ls : Array Slot), lv_has ls 6 [(0, .ref (ad 0)), (1, .int x1), (2, .int x2), (3, .int x3)] → WI false p l e 2 46 s m args below meth c D cy ad .int r μ1 ν1 H locs (F0 m 23 ls []) := by
  have hx := C.1.1
  have hb := C.1.2.1
  have hown := C.1.2.2.2.1
  have hts := C.1.2.2.2.2
  intro μ ν x1 x2 x3 hf H locs X ls hl
  unfold f6_set_1 at hf
  refine lv_iload_n hx hb dX6_set_23 rfl (lv_at hl 3 rfl) ?_
  refine lv_i2l hx hb dX6_set_24 rfl ?_
  refine lv_iload_n hx hb dX6_set_25 rfl (lv_at hl 1 rfl) ?_
  refine lv_if_ne (tgt := 35) hx hb dX6_set_26 (by decide) (fun c26 => ?_) (fun c26 => ?_)
  · replace hf := ifn c26 hf
    refine lv_lconst (v := 0) hx hb dX6_set_35 (by decide) ?_
    exact w6_set_2 C hr  μ ν x1 x2 x3 (x3.toInt64) (0 : Int64) hf _ _ X _ (lv_sub hl [0, 1, 2, 3] rfl)
  · replace hf := ifp c26 hf
    refine lv_ldc2 (v := (10)) hx hb hown (hts _ k_932) dX6_set_29 ?_
    refine lv_goto (tgt := 36) hx hb dX6_set_32 (by decide) ?_
    exact w6_set_2 C hr  μ ν x1 x2 x3 (x3.toInt64) (10 : Int64) hf _ _ X _ (lv_sub hl [0, 1, 2, 3] rfl)
set_option maxRecDepth 100000 in
set_option maxHeartbeats 4000000 in
theorem w6_set {p : Program} {l : Launch} {e : Env} {s : State} {m : MethodId} {args : Array Value} {below : List Frame} {meth : Method} {c : Code} {D : va_G} {cy : Nat → ClassId} {ad : Nat → Nat} {r : Int32} {μ1 : Mem} {ν1 : Lem} (C : Cx false p s m args meth c cX6_set 6 RX6 D cy ad) (hr : meth.sig.returnType = some .int) : ∀ (μ : Mem) (ν : Lem) (x1 : Int32) (x2 : Int32) (x3 : Int32), f6_set μ ν x1 x2 x3 = some (r, μ1, ν1) → ∀ (H : Heap) (locs : List Loc), Wd false D cy ad s.heap μ ν H locs → ∀ (ls : Array Slot), lv_has ls 6 [(0, .ref (ad 0)), (1, .int x1), (2, .int x2), (3, .int x3)] → WI false p l e 2 46 s m args below meth c D cy ad .int r μ1 ν1 H locs (F0 m 0 ls []) := by
  have hx := C.1.1
  have hb := C.1.2.1
  have hown := C.1.2.2.2.1
  have hts := C.1.2.2.2.2
  intro μ ν x1 x2 x3 hf H locs X ls hl
  unfold f6_set at hf
  refine lv_iload_n hx hb dX6_set_0 rfl (lv_at hl 1 rfl) ?_
  refine lv_i2l hx hb dX6_set_1 rfl ?_
  refine lv_lconst (v := 0) hx hb dX6_set_2 (by decide) ?_
  refine lv_lconst (v := 1) hx hb dX6_set_3 (by decide) ?_
  refine qX6_92 rfl C X hl.1 ((Nat.le_of_ble_eq_true rfl)) ⟨(Nat.le_of_ble_eq_true rfl), (Nat.le_of_ble_eq_true rfl)⟩ ⟨Nat.zero_le _, Nat.zero_le _⟩ dX6_set_4 (fun H locs X b4 => ?_)
  refine lv_if_eq (tgt := 55) hx hb dX6_set_7 (by decide) (fun c7 => ?_) (fun c7 => ?_)
  · replace hf := ifp c7 hf
    refine lv_bipush (v := (-2)) hx hb dX6_set_55 (by decide) ?_
    exact retI C X hr rfl (so3 hf).1 (so3 hf).2.1 (so3 hf).2.2 dX6_set_57
  · replace hf := ifn c7 hf
    refine lv_iload_n hx hb dX6_set_10 rfl (lv_at hl 1 rfl) ?_
    refine lv_iconst (v := 1) hx hb dX6_set_11 (by decide) ?_
    refine lv_icmp_ne (tgt := 23) hx hb dX6_set_12 (by decide) (fun c12 => ?_) (fun c12 => ?_)
    · replace hf := ifn c12 hf
      exact w6_set_1 C hr  μ ν x1 x2 x3 hf _ _ X _ (lv_sub hl [0, 1, 2, 3] rfl)
    · replace hf := ifp c12 hf
      refine lv_aload_n hx hb dX6_set_15 rfl (lv_at hl 0 rfl) ?_
      refine lv_iload_n hx hb dX6_set_16 rfl (lv_at hl 2 rfl) ?_
      refine qX6_96 rfl C X hl.1 ((Nat.le_of_ble_eq_true rfl)) ⟨(Nat.le_of_ble_eq_true rfl), (Nat.le_of_ble_eq_true rfl)⟩ ⟨Nat.zero_le _, Nat.zero_le _⟩ dX6_set_17 (fun H locs X b17 => ?_)
      refine lv_if_eq (tgt := 55) hx hb dX6_set_20 (by decide) (fun c20 => ?_) (fun c20 => ?_)
      · replace hf := ifp c20 hf
        refine lv_bipush (v := (-2)) hx hb dX6_set_55 (by decide) ?_
        exact retI C X hr rfl (so3 hf).1 (so3 hf).2.1 (so3 hf).2.2 dX6_set_57
      · replace hf := ifn c20 hf
        exact w6_set_1 C hr  μ ν x1 x2 x3 hf _ _ X _ (lv_sub hl [0, 1, 2, 3] rfl)
theorem ct6_set {x1 : Int32} {x2 : Int32} {x3 : Int32} {μ : Mem} {ν : Lem} {r : Int32} {μ1 : Mem} {ν1 : Lem} (hg : f6_set μ ν x1 x2 x3 = some (r, μ1, ν1)) : CtI false yX6_set cX6_set 6 2 46 .int (fun ad => [.ref (ad 0), .int x1, .int x2, .int x3]) μ ν r μ1 ν1 :=
  mkI (by decide) rfl (fun ad => Nat.le_of_ble_eq_true rfl) (fun p l e s m args below meth c D cy ad C hr X ls hl => w6_set C hr μ ν x1 x2 x3 hg _ _ X _ hl)
theorem qL_17 {p : Program} {l : Launch} {e : Env} {R : Room} {s : State} {m : MethodId} {args : Array Value} {below : List Frame} {meth : Method} {c : Code} {H : Heap} {locs : List Loc} {cells slots : Nat} {Q : State → Prop} {A : Nat → Prop} {cc : ByteArray} {nL : Nat} {D : va_G} {cy : Nat → ClassId} {ad : Nat → Nat} {μ : Mem} {ν : Lem} {pc : Nat} {ls : Array Slot} {rest : List Value} {x1 : Int32} {x2 : Int32} {x3 : Int32} {r : Int32} {μ1 : Mem} {ν1 : Lem} (hg : f6_set μ ν x1 x2 x3 = some (r, μ1, ν1)) (C : CxA false A p s m args meth c cc nL RL D cy ad) (X : WdA false A D cy ad s.heap μ ν H locs) (hsz : ls.size = nL) (hrm : (rest.map fun v => v.category).sum ≤ 8) (hR : 2 + 1 ≤ R.frames ∧ 8 + (6 + 11) + 46 ≤ R.locals) (hcs : cells ≤ R.cells ∧ slots ≤ R.slots) (hd : decode cc pc = .ok (.invokevirtual 17, 3)) (kk : ∀ (H1 : Heap) (locs1 : List Loc), WdA false A D cy ad s.heap μ1 ν1 H1 locs1 → narrow .int (.int r) = .int r → W p l e R s m args below meth c H1 locs1 cells slots Q (F0 m (pc + 3) ls (.int r :: rest))) : W p l e R s m args below meth c H locs cells slots Q (F0 m pc ls (.int x3 :: .int x2 :: .int x1 :: .ref (ad 0) :: rest)) :=
  rCVI (As := [.int x1, .int x2, .int x3]) (k := 0) (ct6_set hg) ok6 lX6_set k_921 rfl rfl rfl C X rfl hrm hsz hR hcs hd kk
set_option maxRecDepth 100000 in
set_option maxHeartbeats 4000000 in
theorem w6_way {p : Program} {l : Launch} {e : Env} {s : State} {m : MethodId} {args : Array Value} {below : List Frame} {meth : Method} {c : Code} {D : va_G} {cy : Nat → ClassId} {ad : Nat → Nat} {r : Int32} {μ1 : Mem} {ν1 : Lem} (C : Cx false p s m args meth c cX6_way 3 RX6 D cy ad) (hr : meth.sig.returnType = some .int) : ∀ (μ : Mem) (ν : Lem) (x1 : Int32) (x2 : Int32), f6_way μ ν x1 x2 = some (r, μ1, ν1) → ∀ (H : Heap) (locs : List Loc), Wd false D cy ad s.heap μ ν H locs → ∀ (ls : Array Slot), lv_has ls 3 [(0, .ref (ad 0)), (1, .int x1), (2, .int x2)] → WI false p l e 1 25 s m args below meth c D cy ad .int r μ1 ν1 H locs (F0 m 0 ls []) := by
  have hx := C.1.1
  have hb := C.1.2.1
  have hown := C.1.2.2.2.1
  have hts := C.1.2.2.2.2
  intro μ ν x1 x2 hf H locs X ls hl
  unfold f6_way at hf
  refine lv_iload_n hx hb dX6_way_0 rfl (lv_at hl 1 rfl) ?_
  refine lv_i2l hx hb dX6_way_1 rfl ?_
  refine lv_lconst (v := 0) hx hb dX6_way_2 (by decide) ?_
  refine lv_ldc2 (v := (5)) hx hb hown (hts _ k_939) dX6_way_3 ?_
  refine qX6_92 rfl C X hl.1 ((Nat.le_of_ble_eq_true rfl)) ⟨(Nat.le_of_ble_eq_true rfl), (Nat.le_of_ble_eq_true rfl)⟩ ⟨Nat.zero_le _, Nat.zero_le _⟩ dX6_way_6 (fun H locs X b6 => ?_)
  refine lv_if_eq (tgt := 24) hx hb dX6_way_9 (by decide) (fun c9 => ?_) (fun c9 => ?_)
  · replace hf := ifp c9 hf
    refine lv_bipush (v := (-2)) hx hb dX6_way_24 (by decide) ?_
    exact retI C X hr rfl (so3 hf).1 (so3 hf).2.1 (so3 hf).2.2 dX6_way_26
  · replace hf := ifn c9 hf
    refine lv_iload_n hx hb dX6_way_12 rfl (lv_at hl 2 rfl) ?_
    refine lv_i2l hx hb dX6_way_13 rfl ?_
    refine lv_lconst (v := 0) hx hb dX6_way_14 (by decide) ?_
    refine lv_ldc2 (v := (9)) hx hb hown (hts _ k_934) dX6_way_15 ?_
    refine qX6_92 rfl C X hl.1 ((Nat.le_of_ble_eq_true rfl)) ⟨(Nat.le_of_ble_eq_true rfl), (Nat.le_of_ble_eq_true rfl)⟩ ⟨Nat.zero_le _, Nat.zero_le _⟩ dX6_way_18 (fun H locs X b18 => ?_)
    refine lv_if_ne (tgt := 27) hx hb dX6_way_21 (by decide) (fun c21 => ?_) (fun c21 => ?_)
    · replace hf := ifn c21 hf
      refine lv_aload_n hx hb dX6_way_27 rfl (lv_at hl 0 rfl) ?_
      refine gfX6_89 C X dX6_way_28 ?_
      refine lv_bipush (v := 6) hx hb dX6_way_31 (by decide) ?_
      refine lv_icmp_ne (tgt := 39) hx hb dX6_way_33 (by decide) (fun c33 => ?_) (fun c33 => ?_)
      · replace hf := ifn c33 hf
        refine lv_aload_n hx hb dX6_way_39 rfl (lv_at hl 0 rfl) ?_
        refine gfX6_26 C X dX6_way_40 ?_
        refine lv_aload_n hx hb dX6_way_43 rfl (lv_at hl 0 rfl) ?_
        refine gfX6_89 C X dX6_way_44 ?_
        refine lv_iload_n hx hb dX6_way_47 rfl (lv_at hl 1 rfl) ?_
        obtain ⟨h48, hf⟩ := gd_e hf
        obtain ⟨μ48, e48, hf⟩ := nm_e2 hf
        refine rIast2 C X rfl h48 e48 dX6_way_48 (fun H locs X => ?_)
        refine lv_aload_n hx hb dX6_way_49 rfl (lv_at hl 0 rfl) ?_
        refine gfX6_29 C X dX6_way_50 ?_
        refine lv_aload_n hx hb dX6_way_53 rfl (lv_at hl 0 rfl) ?_
        refine gfX6_89 C X dX6_way_54 ?_
        refine lv_iload_n hx hb dX6_way_57 rfl (lv_at hl 2 rfl) ?_
        obtain ⟨h58, hf⟩ := gd_e hf
        obtain ⟨μ58, e58, hf⟩ := nm_e2 hf
        refine rIast2 C X rfl h58 e58 dX6_way_58 (fun H locs X => ?_)
        refine lv_aload_n hx hb dX6_way_59 rfl (lv_at hl 0 rfl) ?_
        refine gfX6_38 C X dX6_way_60 ?_
        refine lv_aload_n hx hb dX6_way_63 rfl (lv_at hl 0 rfl) ?_
        refine gfX6_89 C X dX6_way_64 ?_
        refine lv_iconst (v := 0) hx hb dX6_way_67 (by decide) ?_
        obtain ⟨h68, hf⟩ := gd_e hf
        obtain ⟨μ68, e68, hf⟩ := nm_e2 hf
        refine rIast2 C X rfl h68 e68 dX6_way_68 (fun H locs X => ?_)
        refine lv_aload_n hx hb dX6_way_69 rfl (lv_at hl 0 rfl) ?_
        refine lv_dup hx hb dX6_way_70 rfl ?_
        refine gfX6_89 C X dX6_way_71 ?_
        refine lv_iconst (v := 1) hx hb dX6_way_74 (by decide) ?_
        refine lv_iadd hx hb dX6_way_75 ?_
        obtain ⟨μ76, e76, hf⟩ := nm_e2 hf
        refine pfX6_89 e76 C X dX6_way_76 (fun H locs X => ?_)
        refine lv_aload_n hx hb dX6_way_79 rfl (lv_at hl 0 rfl) ?_
        refine gfX6_89 C X dX6_way_80 ?_
        refine lv_iconst (v := 1) hx hb dX6_way_83 (by decide) ?_
        refine lv_isub hx hb dX6_way_84 ?_
        exact retI C X hr rfl (so3 hf).1 (so3 hf).2.1 (so3 hf).2.2 dX6_way_85
      · replace hf := ifp c33 hf
        refine lv_bipush (v := (-4)) hx hb dX6_way_36 (by decide) ?_
        exact retI C X hr rfl (so3 hf).1 (so3 hf).2.1 (so3 hf).2.2 dX6_way_38
    · replace hf := ifp c21 hf
      refine lv_bipush (v := (-2)) hx hb dX6_way_24 (by decide) ?_
      exact retI C X hr rfl (so3 hf).1 (so3 hf).2.1 (so3 hf).2.2 dX6_way_26
theorem ct6_way {x1 : Int32} {x2 : Int32} {μ : Mem} {ν : Lem} {r : Int32} {μ1 : Mem} {ν1 : Lem} (hg : f6_way μ ν x1 x2 = some (r, μ1, ν1)) : CtI false yX6_way cX6_way 3 1 25 .int (fun ad => [.ref (ad 0), .int x1, .int x2]) μ ν r μ1 ν1 :=
  mkI (by decide) rfl (fun ad => Nat.le_of_ble_eq_true rfl) (fun p l e s m args below meth c D cy ad C hr X ls hl => w6_way C hr μ ν x1 x2 hg _ _ X _ hl)
theorem qL_22 {p : Program} {l : Launch} {e : Env} {R : Room} {s : State} {m : MethodId} {args : Array Value} {below : List Frame} {meth : Method} {c : Code} {H : Heap} {locs : List Loc} {cells slots : Nat} {Q : State → Prop} {A : Nat → Prop} {cc : ByteArray} {nL : Nat} {D : va_G} {cy : Nat → ClassId} {ad : Nat → Nat} {μ : Mem} {ν : Lem} {pc : Nat} {ls : Array Slot} {rest : List Value} {x1 : Int32} {x2 : Int32} {r : Int32} {μ1 : Mem} {ν1 : Lem} (hg : f6_way μ ν x1 x2 = some (r, μ1, ν1)) (C : CxA false A p s m args meth c cc nL RL D cy ad) (X : WdA false A D cy ad s.heap μ ν H locs) (hsz : ls.size = nL) (hrm : (rest.map fun v => v.category).sum ≤ 8) (hR : 1 + 1 ≤ R.frames ∧ 8 + (3 + 11) + 25 ≤ R.locals) (hcs : cells ≤ R.cells ∧ slots ≤ R.slots) (hd : decode cc pc = .ok (.invokevirtual 22, 3)) (kk : ∀ (H1 : Heap) (locs1 : List Loc), WdA false A D cy ad s.heap μ1 ν1 H1 locs1 → narrow .int (.int r) = .int r → W p l e R s m args below meth c H1 locs1 cells slots Q (F0 m (pc + 3) ls (.int r :: rest))) : W p l e R s m args below meth c H locs cells slots Q (F0 m pc ls (.int x2 :: .int x1 :: .ref (ad 0) :: rest)) :=
  rCVI (As := [.int x1, .int x2]) (k := 0) (ct6_way hg) ok6 lX6_way k_935 rfl rfl rfl C X rfl hrm hsz hR hcs hd kk
set_option maxRecDepth 100000 in
set_option maxHeartbeats 4000000 in
theorem w6_point_1 {p : Program} {l : Launch} {e : Env} {s : State} {m : MethodId} {args : Array Value} {below : List Frame} {meth : Method} {c : Code} {D : va_G} {cy : Nat → ClassId} {ad : Nat → Nat} {r : Int32} {μ1 : Mem} {ν1 : Lem} (C : Cx false p s m args meth c cX6_point 5 RX6 D cy ad) (hr : meth.sig.returnType = some .int) : ∀ (μ : Mem) (ν : Lem) (x1 : Int32) (x2 : Int32) (x3 : Int32) (x4 : Int32), f6_point_1 μ ν x1 x2 x3 x4 = some (r, μ1, ν1) → ∀ (H : Heap) (locs : List Loc), Wd false D cy ad s.heap μ ν H locs → ∀ (ls : Array Slot), lv_has ls 5 [(0, .ref (ad 0)), (1, .int x1), (2, .int x2), (3, .int x3), (4, .int x4)] → WI false p l e 2 46 s m args below meth c D cy ad .int r μ1 ν1 H locs (F0 m 66 ls []) := by
  have hx := C.1.1
  have hb := C.1.2.1
  have hown := C.1.2.2.2.1
  have hts := C.1.2.2.2.2
  intro μ ν x1 x2 x3 x4 hf H locs X ls hl
  unfold f6_point_1 at hf
  refine lv_iload hx hb dX6_point_66 (lv_at hl 4 rfl) ?_
  refine lv_bipush (v := 8) hx hb dX6_point_68 (by decide) ?_
  refine lv_icmp_ne (tgt := 76) hx hb dX6_point_70 (by decide) (fun c70 => ?_) (fun c70 => ?_)
  · replace hf := ifn c70 hf
    refine lv_aload_n hx hb dX6_point_76 rfl (lv_at hl 0 rfl) ?_
    refine gfX6_32 C X dX6_point_77 ?_
    refine lv_bipush (v := 8) hx hb dX6_point_80 (by decide) ?_
    refine lv_iload_n hx hb dX6_point_82 rfl (lv_at hl 1 rfl) ?_
    refine lv_imul hx hb dX6_point_83 ?_
    refine lv_iload hx hb dX6_point_84 (lv_at hl 4 rfl) ?_
    refine lv_iadd hx hb dX6_point_86 ?_
    refine lv_iload_n hx hb dX6_point_87 rfl (lv_at hl 2 rfl) ?_
    obtain ⟨h88, hf⟩ := gd_e hf
    obtain ⟨μ88, e88, hf⟩ := nm_e2 hf
    refine rIast2 C X rfl h88 e88 dX6_point_88 (fun H locs X => ?_)
    refine lv_aload_n hx hb dX6_point_89 rfl (lv_at hl 0 rfl) ?_
    refine gfX6_35 C X dX6_point_90 ?_
    refine lv_bipush (v := 8) hx hb dX6_point_93 (by decide) ?_
    refine lv_iload_n hx hb dX6_point_95 rfl (lv_at hl 1 rfl) ?_
    refine lv_imul hx hb dX6_point_96 ?_
    refine lv_iload hx hb dX6_point_97 (lv_at hl 4 rfl) ?_
    refine lv_iadd hx hb dX6_point_99 ?_
    refine lv_iload_n hx hb dX6_point_100 rfl (lv_at hl 3 rfl) ?_
    obtain ⟨h101, hf⟩ := gd_e hf
    obtain ⟨μ101, e101, hf⟩ := nm_e2 hf
    refine rIast2 C X rfl h101 e101 dX6_point_101 (fun H locs X => ?_)
    refine lv_aload_n hx hb dX6_point_102 rfl (lv_at hl 0 rfl) ?_
    refine gfX6_38 C X dX6_point_103 ?_
    refine lv_iload_n hx hb dX6_point_106 rfl (lv_at hl 1 rfl) ?_
    refine lv_iload hx hb dX6_point_107 (lv_at hl 4 rfl) ?_
    refine lv_iconst (v := 1) hx hb dX6_point_109 (by decide) ?_
    refine lv_iadd hx hb dX6_point_110 ?_
    obtain ⟨h111, hf⟩ := gd_e hf
    obtain ⟨μ111, e111, hf⟩ := nm_e2 hf
    refine rIast2 C X rfl h111 e111 dX6_point_111 (fun H locs X => ?_)
    refine lv_iload hx hb dX6_point_112 (lv_at hl 4 rfl) ?_
    refine lv_iconst (v := 1) hx hb dX6_point_114 (by decide) ?_
    refine lv_iadd hx hb dX6_point_115 ?_
    exact retI C X hr rfl (so3 hf).1 (so3 hf).2.1 (so3 hf).2.2 dX6_point_116
  · replace hf := ifp c70 hf
    refine lv_bipush (v := (-4)) hx hb dX6_point_73 (by decide) ?_
    exact retI C X hr rfl (so3 hf).1 (so3 hf).2.1 (so3 hf).2.2 dX6_point_75
set_option maxRecDepth 100000 in
set_option maxHeartbeats 4000000 in
theorem w6_point {p : Program} {l : Launch} {e : Env} {s : State} {m : MethodId} {args : Array Value} {below : List Frame} {meth : Method} {c : Code} {D : va_G} {cy : Nat → ClassId} {ad : Nat → Nat} {r : Int32} {μ1 : Mem} {ν1 : Lem} (C : Cx false p s m args meth c cX6_point 5 RX6 D cy ad) (hr : meth.sig.returnType = some .int) : ∀ (μ : Mem) (ν : Lem) (x1 : Int32) (x2 : Int32) (x3 : Int32), f6_point μ ν x1 x2 x3 = some (r, μ1, ν1) → ∀ (H : Heap) (locs : List Loc), Wd false D cy ad s.heap μ ν H locs → ∀ (ls : Array Slot), lv_has ls 5 [(0, .ref (ad 0)), (1, .int x1), (2, .int x2), (3, .int x3)] → WI false p l e 2 46 s m args below meth c D cy ad .int r μ1 ν1 H locs (F0 m 0 ls []) := by
  have hx := C.1.1
  have hb := C.1.2.1
  have hown := C.1.2.2.2.1
  have hts := C.1.2.2.2.2
  intro μ ν x1 x2 x3 hf H locs X ls hl
  unfold f6_point at hf
  refine lv_aload_n hx hb dX6_point_0 rfl (lv_at hl 0 rfl) ?_
  refine lv_iload_n hx hb dX6_point_1 rfl (lv_at hl 1 rfl) ?_
  refine qX6_96 rfl C X hl.1 ((Nat.le_of_ble_eq_true rfl)) ⟨(Nat.le_of_ble_eq_true rfl), (Nat.le_of_ble_eq_true rfl)⟩ ⟨Nat.zero_le _, Nat.zero_le _⟩ dX6_point_2 (fun H locs X b2 => ?_)
  refine lv_if_eq (tgt := 29) hx hb dX6_point_5 (by decide) (fun c5 => ?_) (fun c5 => ?_)
  · replace hf := ifp c5 hf
    refine lv_bipush (v := (-2)) hx hb dX6_point_29 (by decide) ?_
    exact retI C X hr rfl (so3 hf).1 (so3 hf).2.1 (so3 hf).2.2 dX6_point_31
  · replace hf := ifn c5 hf
    refine lv_iload_n hx hb dX6_point_8 rfl (lv_at hl 2 rfl) ?_
    refine qX6_110 rfl C X hl.1 ((Nat.le_of_ble_eq_true rfl)) ⟨(Nat.le_of_ble_eq_true rfl), (Nat.le_of_ble_eq_true rfl)⟩ ⟨Nat.zero_le _, Nat.zero_le _⟩ dX6_point_9 (fun H locs X b9 => ?_)
    refine lv_if_eq (tgt := 29) hx hb dX6_point_12 (by decide) (fun c12 => ?_) (fun c12 => ?_)
    · replace hf := ifp c12 hf
      refine lv_bipush (v := (-2)) hx hb dX6_point_29 (by decide) ?_
      exact retI C X hr rfl (so3 hf).1 (so3 hf).2.1 (so3 hf).2.2 dX6_point_31
    · replace hf := ifn c12 hf
      refine lv_iload_n hx hb dX6_point_15 rfl (lv_at hl 3 rfl) ?_
      refine lv_i2l hx hb dX6_point_16 rfl ?_
      refine lv_lconst (v := 0) hx hb dX6_point_17 (by decide) ?_
      refine lv_aload_n hx hb dX6_point_18 rfl (lv_at hl 0 rfl) ?_
      refine gfX6_23 C X dX6_point_19 ?_
      refine lv_i2l hx hb dX6_point_22 rfl ?_
      refine qX6_92 rfl C X hl.1 ((Nat.le_of_ble_eq_true rfl)) ⟨(Nat.le_of_ble_eq_true rfl), (Nat.le_of_ble_eq_true rfl)⟩ ⟨Nat.zero_le _, Nat.zero_le _⟩ dX6_point_23 (fun H locs X b23 => ?_)
      refine lv_if_ne (tgt := 32) hx hb dX6_point_26 (by decide) (fun c26 => ?_) (fun c26 => ?_)
      · replace hf := ifn c26 hf
        refine lv_aload_n hx hb dX6_point_32 rfl (lv_at hl 0 rfl) ?_
        refine gfX6_38 C X dX6_point_33 ?_
        refine lv_iload_n hx hb dX6_point_36 rfl (lv_at hl 1 rfl) ?_
        obtain ⟨h37, hf⟩ := gd_e hf
        refine rIald C X rfl h37 dX6_point_37 ?_
        obtain ⟨v38, e38, hf⟩ := nm_e2 hf
        refine st_i e38 ?_
        refine lv_istore (lv' := [(4, .int v38), (0, .ref (ad 0)), (1, .int x1), (2, .int x2), (3, .int x3)]) hx hb dX6_point_38 hl (by decide) rfl (fun ls hl => ?_)
        refine lv_iload hx hb dX6_point_40 (lv_at hl 0 rfl) ?_
        refine lv_if_le (tgt := 66) hx hb dX6_point_42 (by decide) (fun c42 => ?_) (fun c42 => ?_)
        · replace hf := ifp c42 hf
          exact w6_point_1 C hr  μ ν x1 x2 x3 v38 hf _ _ X _ (lv_sub hl [1, 2, 3, 4, 0] rfl)
        · replace hf := ifn c42 hf
          refine lv_aload_n hx hb dX6_point_45 rfl (lv_at hl 1 rfl) ?_
          refine gfX6_32 C X dX6_point_46 ?_
          refine lv_bipush (v := 8) hx hb dX6_point_49 (by decide) ?_
          refine lv_iload_n hx hb dX6_point_51 rfl (lv_at hl 2 rfl) ?_
          refine lv_imul hx hb dX6_point_52 ?_
          refine lv_iload hx hb dX6_point_53 (lv_at hl 0 rfl) ?_
          refine lv_iadd hx hb dX6_point_55 ?_
          refine lv_iconst (v := 1) hx hb dX6_point_56 (by decide) ?_
          refine lv_isub hx hb dX6_point_57 ?_
          obtain ⟨h58, hf⟩ := gd_e hf
          refine rIald C X rfl h58 dX6_point_58 ?_
          refine lv_iload_n hx hb dX6_point_59 rfl (lv_at hl 3 rfl) ?_
          refine lv_icmp_lt (tgt := 66) hx hb dX6_point_60 (by decide) (fun c60 => ?_) (fun c60 => ?_)
          · replace hf := ifp c60 hf
            exact w6_point_1 C hr  μ ν x1 x2 x3 v38 hf _ _ X _ (lv_sub hl [1, 2, 3, 4, 0] rfl)
          · replace hf := ifn c60 hf
            refine lv_bipush (v := (-2)) hx hb dX6_point_63 (by decide) ?_
            exact retI C X hr rfl (so3 hf).1 (so3 hf).2.1 (so3 hf).2.2 dX6_point_65
      · replace hf := ifp c26 hf
        refine lv_bipush (v := (-2)) hx hb dX6_point_29 (by decide) ?_
        exact retI C X hr rfl (so3 hf).1 (so3 hf).2.1 (so3 hf).2.2 dX6_point_31
theorem ct6_point {x1 : Int32} {x2 : Int32} {x3 : Int32} {μ : Mem} {ν : Lem} {r : Int32} {μ1 : Mem} {ν1 : Lem} (hg : f6_point μ ν x1 x2 x3 = some (r, μ1, ν1)) : CtI false yX6_point cX6_point 5 2 46 .int (fun ad => [.ref (ad 0), .int x1, .int x2, .int x3]) μ ν r μ1 ν1 :=
  mkI (by decide) rfl (fun ad => Nat.le_of_ble_eq_true rfl) (fun p l e s m args below meth c D cy ad C hr X ls hl => w6_point C hr μ ν x1 x2 x3 hg _ _ X _ hl)
theorem qL_26 {p : Program} {l : Launch} {e : Env} {R : Room} {s : State} {m : MethodId} {args : Array Value} {below : List Frame} {meth : Method} {c : Code} {H : Heap} {locs : List Loc} {cells slots : Nat} {Q : State → Prop} {A : Nat → Prop} {cc : ByteArray} {nL : Nat} {D : va_G} {cy : Nat → ClassId} {ad : Nat → Nat} {μ : Mem} {ν : Lem} {pc : Nat} {ls : Array Slot} {rest : List Value} {x1 : Int32} {x2 : Int32} {x3 : Int32} {r : Int32} {μ1 : Mem} {ν1 : Lem} (hg : f6_point μ ν x1 x2 x3 = some (r, μ1, ν1)) (C : CxA false A p s m args meth c cc nL RL D cy ad) (X : WdA false A D cy ad s.heap μ ν H locs) (hsz : ls.size = nL) (hrm : (rest.map fun v => v.category).sum ≤ 8) (hR : 2 + 1 ≤ R.frames ∧ 8 + (5 + 11) + 46 ≤ R.locals) (hcs : cells ≤ R.cells ∧ slots ≤ R.slots) (hd : decode cc pc = .ok (.invokevirtual 26, 3)) (kk : ∀ (H1 : Heap) (locs1 : List Loc), WdA false A D cy ad s.heap μ1 ν1 H1 locs1 → narrow .int (.int r) = .int r → W p l e R s m args below meth c H1 locs1 cells slots Q (F0 m (pc + 3) ls (.int r :: rest))) : W p l e R s m args below meth c H locs cells slots Q (F0 m pc ls (.int x3 :: .int x2 :: .int x1 :: .ref (ad 0) :: rest)) :=
  rCVI (As := [.int x1, .int x2, .int x3]) (k := 0) (ct6_point hg) ok6 lX6_point k_940 rfl rfl rfl C X rfl hrm hsz hR hcs hd kk
theorem qX6_430 {p : Program} {l : Launch} {e : Env} {R : Room} {s : State} {m : MethodId} {args : Array Value} {below : List Frame} {meth : Method} {c : Code} {H : Heap} {locs : List Loc} {cells slots : Nat} {Q : State → Prop} {A : Nat → Prop} {cc : ByteArray} {nL : Nat} {D : va_G} {cy : Nat → ClassId} {ad : Nat → Nat} {μ : Mem} {ν : Lem} {pc : Nat} {ls : Array Slot} {rest : List Value} {x1 : Int32} {x2 : Int32} {x3 : Int32} {r : Int32} {μ1 : Mem} {ν1 : Lem} (hg : f6_point μ ν x1 x2 x3 = some (r, μ1, ν1)) (C : CxA false A p s m args meth c cc nL RX6 D cy ad) (X : WdA false A D cy ad s.heap μ ν H locs) (hsz : ls.size = nL) (hrm : (rest.map fun v => v.category).sum ≤ 8) (hR : 2 + 1 ≤ R.frames ∧ 8 + (5 + 11) + 46 ≤ R.locals) (hcs : cells ≤ R.cells ∧ slots ≤ R.slots) (hd : decode cc pc = .ok (.invokevirtual 430, 3)) (kk : ∀ (H1 : Heap) (locs1 : List Loc), WdA false A D cy ad s.heap μ1 ν1 H1 locs1 → narrow .int (.int r) = .int r → W p l e R s m args below meth c H1 locs1 cells slots Q (F0 m (pc + 3) ls (.int r :: rest))) : W p l e R s m args below meth c H locs cells slots Q (F0 m pc ls (.int x3 :: .int x2 :: .int x1 :: .ref (ad 0) :: rest)) :=
  rCVI (As := [.int x1, .int x2, .int x3]) (k := 0) (ct6_point hg) ok6 lX6_point k_1351 rfl rfl rfl C X rfl hrm hsz hR hcs hd kk
set_option maxRecDepth 100000 in
set_option maxHeartbeats 4000000 in
theorem w6_clear {p : Program} {l : Launch} {e : Env} {s : State} {m : MethodId} {args : Array Value} {below : List Frame} {meth : Method} {c : Code} {D : va_G} {cy : Nat → ClassId} {ad : Nat → Nat} {r : Int32} {μ1 : Mem} {ν1 : Lem} (C : Cx false p s m args meth c cX6_clear 3 RX6 D cy ad) (hr : meth.sig.returnType = some .int) : ∀ (μ : Mem) (ν : Lem) (x1 : Int32), f6_clear μ ν x1 = some (r, μ1, ν1) → ∀ (H : Heap) (locs : List Loc), Wd false D cy ad s.heap μ ν H locs → ∀ (ls : Array Slot), lv_has ls 3 [(0, .ref (ad 0)), (1, .int x1)] → WI false p l e 2 46 s m args below meth c D cy ad .int r μ1 ν1 H locs (F0 m 0 ls []) := by
  have hx := C.1.1
  have hb := C.1.2.1
  have hown := C.1.2.2.2.1
  have hts := C.1.2.2.2.2
  intro μ ν x1 hf H locs X ls hl
  unfold f6_clear at hf
  refine lv_aload_n hx hb dX6_clear_0 rfl (lv_at hl 0 rfl) ?_
  refine lv_iload_n hx hb dX6_clear_1 rfl (lv_at hl 1 rfl) ?_
  refine qX6_96 rfl C X hl.1 ((Nat.le_of_ble_eq_true rfl)) ⟨(Nat.le_of_ble_eq_true rfl), (Nat.le_of_ble_eq_true rfl)⟩ ⟨Nat.zero_le _, Nat.zero_le _⟩ dX6_clear_2 (fun H locs X b2 => ?_)
  refine lv_if_ne (tgt := 11) hx hb dX6_clear_5 (by decide) (fun c5 => ?_) (fun c5 => ?_)
  · replace hf := ifn c5 hf
    refine lv_aload_n hx hb dX6_clear_11 rfl (lv_at hl 0 rfl) ?_
    refine gfX6_38 C X dX6_clear_12 ?_
    refine lv_iload_n hx hb dX6_clear_15 rfl (lv_at hl 1 rfl) ?_
    obtain ⟨h16, hf⟩ := gd_e hf
    refine rIald C X rfl h16 dX6_clear_16 ?_
    obtain ⟨v17, e17, hf⟩ := nm_e2 hf
    refine st_i e17 ?_
    refine lv_istore_n (lv' := [(2, .int v17), (0, .ref (ad 0)), (1, .int x1)]) hx hb dX6_clear_17 rfl hl (by decide) rfl (fun ls hl => ?_)
    refine lv_aload_n hx hb dX6_clear_18 rfl (lv_at hl 1 rfl) ?_
    refine gfX6_38 C X dX6_clear_19 ?_
    refine lv_iload_n hx hb dX6_clear_22 rfl (lv_at hl 2 rfl) ?_
    refine lv_iconst (v := 0) hx hb dX6_clear_23 (by decide) ?_
    obtain ⟨h24, hf⟩ := gd_e hf
    obtain ⟨μ24, e24, hf⟩ := nm_e2 hf
    refine rIast2 C X rfl h24 e24 dX6_clear_24 (fun H locs X => ?_)
    refine lv_iload_n hx hb dX6_clear_25 rfl (lv_at hl 0 rfl) ?_
    exact retI C X hr rfl (so3 hf).1 (so3 hf).2.1 (so3 hf).2.2 dX6_clear_26
  · replace hf := ifp c5 hf
    refine lv_bipush (v := (-2)) hx hb dX6_clear_8 (by decide) ?_
    exact retI C X hr rfl (so3 hf).1 (so3 hf).2.1 (so3 hf).2.2 dX6_clear_10
theorem ct6_clear {x1 : Int32} {μ : Mem} {ν : Lem} {r : Int32} {μ1 : Mem} {ν1 : Lem} (hg : f6_clear μ ν x1 = some (r, μ1, ν1)) : CtI false yX6_clear cX6_clear 3 2 46 .int (fun ad => [.ref (ad 0), .int x1]) μ ν r μ1 ν1 :=
  mkI (by decide) rfl (fun ad => Nat.le_of_ble_eq_true rfl) (fun p l e s m args below meth c D cy ad C hr X ls hl => w6_clear C hr μ ν x1 hg _ _ X _ hl)
theorem qL_31 {p : Program} {l : Launch} {e : Env} {R : Room} {s : State} {m : MethodId} {args : Array Value} {below : List Frame} {meth : Method} {c : Code} {H : Heap} {locs : List Loc} {cells slots : Nat} {Q : State → Prop} {A : Nat → Prop} {cc : ByteArray} {nL : Nat} {D : va_G} {cy : Nat → ClassId} {ad : Nat → Nat} {μ : Mem} {ν : Lem} {pc : Nat} {ls : Array Slot} {rest : List Value} {x1 : Int32} {r : Int32} {μ1 : Mem} {ν1 : Lem} (hg : f6_clear μ ν x1 = some (r, μ1, ν1)) (C : CxA false A p s m args meth c cc nL RL D cy ad) (X : WdA false A D cy ad s.heap μ ν H locs) (hsz : ls.size = nL) (hrm : (rest.map fun v => v.category).sum ≤ 8) (hR : 2 + 1 ≤ R.frames ∧ 8 + (3 + 11) + 46 ≤ R.locals) (hcs : cells ≤ R.cells ∧ slots ≤ R.slots) (hd : decode cc pc = .ok (.invokevirtual 31, 3)) (kk : ∀ (H1 : Heap) (locs1 : List Loc), WdA false A D cy ad s.heap μ1 ν1 H1 locs1 → narrow .int (.int r) = .int r → W p l e R s m args below meth c H1 locs1 cells slots Q (F0 m (pc + 3) ls (.int r :: rest))) : W p l e R s m args below meth c H locs cells slots Q (F0 m pc ls (.int x1 :: .ref (ad 0) :: rest)) :=
  rCVI (As := [.int x1]) (k := 0) (ct6_clear hg) ok6 lX6_clear k_948 rfl rfl rfl C X rfl hrm hsz hR hcs hd kk
set_option maxRecDepth 100000 in
set_option maxHeartbeats 4000000 in
theorem w6_told {p : Program} {l : Launch} {e : Env} {s : State} {m : MethodId} {args : Array Value} {below : List Frame} {meth : Method} {c : Code} {D : va_G} {cy : Nat → ClassId} {ad : Nat → Nat} {r : Int32} {μ : Mem} {ν : Lem} (C : Cx false p s m args meth c cX6_told 4 RX6 D cy ad) (hr : meth.sig.returnType = some .int) : ∀ (x1 : Int32) (x2 : Int32), f6_told μ ν x1 x2 = some r → ∀ (H : Heap) (locs : List Loc), Wd false D cy ad s.heap μ ν H locs → ∀ (ls : Array Slot), lv_has ls 4 [(0, .ref (ad 0)), (1, .int x1), (2, .int x2)] → WI false p l e 2 46 s m args below meth c D cy ad .int r μ ν H locs (F0 m 0 ls []) := by
  have hx := C.1.1
  have hb := C.1.2.1
  have hown := C.1.2.2.2.1
  have hts := C.1.2.2.2.2
  intro x1 x2 hf H locs X ls hl
  unfold f6_told at hf
  refine lv_aload_n hx hb dX6_told_0 rfl (lv_at hl 0 rfl) ?_
  refine lv_iload_n hx hb dX6_told_1 rfl (lv_at hl 1 rfl) ?_
  refine qX6_96 rfl C X hl.1 ((Nat.le_of_ble_eq_true rfl)) ⟨(Nat.le_of_ble_eq_true rfl), (Nat.le_of_ble_eq_true rfl)⟩ ⟨Nat.zero_le _, Nat.zero_le _⟩ dX6_told_2 (fun H locs X b2 => ?_)
  refine lv_if_eq (tgt := 28) hx hb dX6_told_5 (by decide) (fun c5 => ?_) (fun c5 => ?_)
  · replace hf := ifp c5 hf
    refine lv_bipush (v := (-2)) hx hb dX6_told_28 (by decide) ?_
    exact retI C X hr rfl (Option.some.inj hf) rfl rfl dX6_told_30
  · replace hf := ifn c5 hf
    refine lv_iload_n hx hb dX6_told_8 rfl (lv_at hl 2 rfl) ?_
    refine lv_i2l hx hb dX6_told_9 rfl ?_
    refine lv_lconst (v := 0) hx hb dX6_told_10 (by decide) ?_
    refine lv_iconst (v := 2) hx hb dX6_told_11 (by decide) ?_
    refine lv_iconst (v := 2) hx hb dX6_told_12 (by decide) ?_
    refine lv_aload_n hx hb dX6_told_13 rfl (lv_at hl 0 rfl) ?_
    refine gfX6_38 C X dX6_told_14 ?_
    refine lv_iload_n hx hb dX6_told_17 rfl (lv_at hl 1 rfl) ?_
    obtain ⟨h18, hf⟩ := gd_e hf
    refine rIald C X rfl h18 dX6_told_18 ?_
    refine lv_imul hx hb dX6_told_19 ?_
    refine lv_iadd hx hb dX6_told_20 ?_
    refine lv_i2l hx hb dX6_told_21 rfl ?_
    refine qX6_92 rfl C X hl.1 ((Nat.le_of_ble_eq_true rfl)) ⟨(Nat.le_of_ble_eq_true rfl), (Nat.le_of_ble_eq_true rfl)⟩ ⟨Nat.zero_le _, Nat.zero_le _⟩ dX6_told_22 (fun H locs X b22 => ?_)
    refine lv_if_ne (tgt := 31) hx hb dX6_told_25 (by decide) (fun c25 => ?_) (fun c25 => ?_)
    · replace hf := ifn c25 hf
      refine lv_iload_n hx hb dX6_told_31 rfl (lv_at hl 2 rfl) ?_
      refine lv_iconst (v := 3) hx hb dX6_told_32 (by decide) ?_
      refine lv_icmp_ge (tgt := 70) hx hb dX6_told_33 (by decide) (fun c33 => ?_) (fun c33 => ?_)
      · replace hf := ifp c33 hf
        refine lv_bipush (v := 8) hx hb dX6_told_70 (by decide) ?_
        refine lv_iload_n hx hb dX6_told_72 rfl (lv_at hl 1 rfl) ?_
        refine lv_imul hx hb dX6_told_73 ?_
        refine lv_iload_n hx hb dX6_told_74 rfl (lv_at hl 2 rfl) ?_
        refine lv_iconst (v := 3) hx hb dX6_told_75 (by decide) ?_
        refine lv_isub hx hb dX6_told_76 ?_
        refine lv_iconst (v := 2) hx hb dX6_told_77 (by decide) ?_
        refine lv_idiv hx hb dX6_told_78 (by decide) ?_
        refine lv_iadd hx hb dX6_told_79 ?_
        obtain ⟨v80, e80, hf⟩ := nm_e2 hf
        refine st_i e80 ?_
        refine lv_istore_n (lv' := [(3, .int v80), (0, .ref (ad 0)), (1, .int x1), (2, .int x2)]) hx hb dX6_told_80 rfl hl (by decide) rfl (fun ls hl => ?_)
        refine lv_iload_n hx hb dX6_told_81 rfl (lv_at hl 3 rfl) ?_
        refine lv_iconst (v := 2) hx hb dX6_told_82 (by decide) ?_
        refine rIrem hx hb dX6_told_83 (by decide) ?_
        refine lv_iconst (v := 1) hx hb dX6_told_84 (by decide) ?_
        refine lv_icmp_ne (tgt := 97) hx hb dX6_told_85 (by decide) (fun c85 => ?_) (fun c85 => ?_)
        · replace hf := ifn c85 hf
          refine lv_aload_n hx hb dX6_told_97 rfl (lv_at hl 1 rfl) ?_
          refine gfX6_35 C X dX6_told_98 ?_
          refine lv_iload_n hx hb dX6_told_101 rfl (lv_at hl 0 rfl) ?_
          obtain ⟨h102, hf⟩ := gd_e hf
          refine rIald C X rfl h102 dX6_told_102 ?_
          exact retI C X hr rfl (Option.some.inj hf) rfl rfl dX6_told_103
        · replace hf := ifp c85 hf
          refine lv_aload_n hx hb dX6_told_88 rfl (lv_at hl 1 rfl) ?_
          refine gfX6_32 C X dX6_told_89 ?_
          refine lv_iload_n hx hb dX6_told_92 rfl (lv_at hl 0 rfl) ?_
          obtain ⟨h93, hf⟩ := gd_e hf
          refine rIald C X rfl h93 dX6_told_93 ?_
          refine lv_goto (tgt := 103) hx hb dX6_told_94 (by decide) ?_
          exact retI C X hr rfl (Option.some.inj hf) rfl rfl dX6_told_103
      · replace hf := ifn c33 hf
        refine lv_iload_n hx hb dX6_told_36 rfl (lv_at hl 2 rfl) ?_
        refine lv_if_ne (tgt := 49) hx hb dX6_told_37 (by decide) (fun c37 => ?_) (fun c37 => ?_)
        · replace hf := ifn c37 hf
          refine lv_iload_n hx hb dX6_told_49 rfl (lv_at hl 2 rfl) ?_
          refine lv_iconst (v := 1) hx hb dX6_told_50 (by decide) ?_
          refine lv_icmp_ne (tgt := 63) hx hb dX6_told_51 (by decide) (fun c51 => ?_) (fun c51 => ?_)
          · replace hf := ifn c51 hf
            refine lv_aload_n hx hb dX6_told_63 rfl (lv_at hl 0 rfl) ?_
            refine gfX6_38 C X dX6_told_64 ?_
            refine lv_iload_n hx hb dX6_told_67 rfl (lv_at hl 1 rfl) ?_
            obtain ⟨h68, hf⟩ := gd_e hf
            refine rIald C X rfl h68 dX6_told_68 ?_
            exact retI C X hr rfl (Option.some.inj hf) rfl rfl dX6_told_69
          · replace hf := ifp c51 hf
            refine lv_aload_n hx hb dX6_told_54 rfl (lv_at hl 0 rfl) ?_
            refine gfX6_29 C X dX6_told_55 ?_
            refine lv_iload_n hx hb dX6_told_58 rfl (lv_at hl 1 rfl) ?_
            obtain ⟨h59, hf⟩ := gd_e hf
            refine rIald C X rfl h59 dX6_told_59 ?_
            refine lv_goto (tgt := 69) hx hb dX6_told_60 (by decide) ?_
            exact retI C X hr rfl (Option.some.inj hf) rfl rfl dX6_told_69
        · replace hf := ifp c37 hf
          refine lv_aload_n hx hb dX6_told_40 rfl (lv_at hl 0 rfl) ?_
          refine gfX6_26 C X dX6_told_41 ?_
          refine lv_iload_n hx hb dX6_told_44 rfl (lv_at hl 1 rfl) ?_
          obtain ⟨h45, hf⟩ := gd_e hf
          refine rIald C X rfl h45 dX6_told_45 ?_
          refine lv_goto (tgt := 69) hx hb dX6_told_46 (by decide) ?_
          exact retI C X hr rfl (Option.some.inj hf) rfl rfl dX6_told_69
    · replace hf := ifp c25 hf
      refine lv_bipush (v := (-2)) hx hb dX6_told_28 (by decide) ?_
      exact retI C X hr rfl (Option.some.inj hf) rfl rfl dX6_told_30
theorem ct6_told {x1 : Int32} {x2 : Int32} {μ : Mem} {ν : Lem} {r : Int32} (hg : f6_told μ ν x1 x2 = some r) : CtI false yX6_told cX6_told 4 2 46 .int (fun ad => [.ref (ad 0), .int x1, .int x2]) μ ν r μ ν :=
  mkI (by decide) rfl (fun ad => Nat.le_of_ble_eq_true rfl) (fun p l e s m args below meth c D cy ad C hr X ls hl => w6_told C hr x1 x2 hg _ _ X _ hl)
theorem qL_35 {p : Program} {l : Launch} {e : Env} {R : Room} {s : State} {m : MethodId} {args : Array Value} {below : List Frame} {meth : Method} {c : Code} {H : Heap} {locs : List Loc} {cells slots : Nat} {Q : State → Prop} {A : Nat → Prop} {cc : ByteArray} {nL : Nat} {D : va_G} {cy : Nat → ClassId} {ad : Nat → Nat} {μ : Mem} {ν : Lem} {pc : Nat} {ls : Array Slot} {rest : List Value} {x1 : Int32} {x2 : Int32} {r : Int32} (hg : f6_told μ ν x1 x2 = some r) (C : CxA false A p s m args meth c cc nL RL D cy ad) (X : WdA false A D cy ad s.heap μ ν H locs) (hsz : ls.size = nL) (hrm : (rest.map fun v => v.category).sum ≤ 8) (hR : 2 + 1 ≤ R.frames ∧ 8 + (4 + 11) + 46 ≤ R.locals) (hcs : cells ≤ R.cells ∧ slots ≤ R.slots) (hd : decode cc pc = .ok (.invokevirtual 35, 3)) (kk : ∀ (H1 : Heap) (locs1 : List Loc), WdA false A D cy ad s.heap μ ν H1 locs1 → narrow .int (.int r) = .int r → W p l e R s m args below meth c H1 locs1 cells slots Q (F0 m (pc + 3) ls (.int r :: rest))) : W p l e R s m args below meth c H locs cells slots Q (F0 m pc ls (.int x2 :: .int x1 :: .ref (ad 0) :: rest)) :=
  rCVI (As := [.int x1, .int x2]) (k := 0) (ct6_told hg) ok6 lX6_told k_952 rfl rfl rfl C X rfl hrm hsz hR hcs hd kk
set_option maxRecDepth 100000 in
set_option maxHeartbeats 4000000 in
theorem w6_toldAt_1 {p : Program} {l : Launch} {e : Env} {s : State} {m : MethodId} {args : Array Value} {below : List Frame} {meth : Method} {c : Code} {D : va_G} {cy : Nat → ClassId} {ad : Nat → Nat} {r : Int32} {μ : Mem} {ν : Lem} (C : Cx false p s m args meth c cX6_toldAt 6 RX6 D cy ad) (hr : meth.sig.returnType = some .int) : ∀ (n : Nat), ∀ (x2 : Int32) (x5 : Int32), f6_toldAt_1 μ ν n x2 x5 = some r → ∀ (H : Heap) (locs : List Loc), Wd false D cy ad s.heap μ ν H locs → ∀ (ls : Array Slot), lv_has ls 6 [(0, .ref (ad 0)), (2, .int x2), (5, .int x5)] → WI false p l e 0 0 s m args below meth c D cy ad .int r μ ν H locs (F0 m 77 ls []) := by
  have hx := C.1.1
  have hb := C.1.2.1
  have hown := C.1.2.2.2.1
  have hts := C.1.2.2.2.2
  intro n
  induction n with
  | zero =>
    intro x2 x5 hf H locs X ls hl
    rw [f6_toldAt_1] at hf
    cases hf
  | succ n ih =>
    intro x2 x5 hf H locs X ls hl
    rw [f6_toldAt_1] at hf
    refine lv_aload_n hx hb dX6_toldAt_77 rfl (lv_at hl 0 rfl) ?_
    refine gfX6_32 C X dX6_toldAt_78 ?_
    refine lv_iload hx hb dX6_toldAt_81 (lv_at hl 2 rfl) ?_
    refine lv_iconst (v := 1) hx hb dX6_toldAt_83 (by decide) ?_
    refine lv_iadd hx hb dX6_toldAt_84 ?_
    obtain ⟨h85, hf⟩ := gd_e hf
    refine rIald C X rfl h85 dX6_toldAt_85 ?_
    refine lv_iload_n hx hb dX6_toldAt_86 rfl (lv_at hl 1 rfl) ?_
    refine lv_icmp_gt (tgt := 96) hx hb dX6_toldAt_87 (by decide) (fun c87 => ?_) (fun c87 => ?_)
    · replace hf := ifp c87 hf
      refine lv_sipush (v := 1000) hx hb dX6_toldAt_96 (by decide) ?_
      refine lv_aload_n hx hb dX6_toldAt_99 rfl (lv_at hl 0 rfl) ?_
      refine gfX6_35 C X dX6_toldAt_100 ?_
      refine lv_iload hx hb dX6_toldAt_103 (lv_at hl 2 rfl) ?_
      obtain ⟨h105, hf⟩ := gd_e hf
      refine rIald C X rfl h105 dX6_toldAt_105 ?_
      refine lv_imul hx hb dX6_toldAt_106 ?_
      refine lv_sipush (v := 1000) hx hb dX6_toldAt_107 (by decide) ?_
      refine lv_aload_n hx hb dX6_toldAt_110 rfl (lv_at hl 0 rfl) ?_
      refine gfX6_35 C X dX6_toldAt_111 ?_
      refine lv_iload hx hb dX6_toldAt_114 (lv_at hl 2 rfl) ?_
      refine lv_iconst (v := 1) hx hb dX6_toldAt_116 (by decide) ?_
      refine lv_iadd hx hb dX6_toldAt_117 ?_
      obtain ⟨h118, hf⟩ := gd_e hf
      refine rIald C X rfl h118 dX6_toldAt_118 ?_
      refine lv_aload_n hx hb dX6_toldAt_119 rfl (lv_at hl 0 rfl) ?_
      refine gfX6_35 C X dX6_toldAt_120 ?_
      refine lv_iload hx hb dX6_toldAt_123 (lv_at hl 2 rfl) ?_
      obtain ⟨h125, hf⟩ := gd_e hf
      refine rIald C X rfl h125 dX6_toldAt_125 ?_
      refine lv_isub hx hb dX6_toldAt_126 ?_
      refine lv_imul hx hb dX6_toldAt_127 ?_
      refine lv_iload_n hx hb dX6_toldAt_128 rfl (lv_at hl 1 rfl) ?_
      refine lv_aload_n hx hb dX6_toldAt_129 rfl (lv_at hl 0 rfl) ?_
      refine gfX6_32 C X dX6_toldAt_130 ?_
      refine lv_iload hx hb dX6_toldAt_133 (lv_at hl 2 rfl) ?_
      obtain ⟨h135, hf⟩ := gd_e hf
      refine rIald C X rfl h135 dX6_toldAt_135 ?_
      refine lv_isub hx hb dX6_toldAt_136 ?_
      refine lv_imul hx hb dX6_toldAt_137 ?_
      refine lv_aload_n hx hb dX6_toldAt_138 rfl (lv_at hl 0 rfl) ?_
      refine gfX6_32 C X dX6_toldAt_139 ?_
      refine lv_iload hx hb dX6_toldAt_142 (lv_at hl 2 rfl) ?_
      refine lv_iconst (v := 1) hx hb dX6_toldAt_144 (by decide) ?_
      refine lv_iadd hx hb dX6_toldAt_145 ?_
      obtain ⟨h146, hf⟩ := gd_e hf
      refine rIald C X rfl h146 dX6_toldAt_146 ?_
      refine lv_aload_n hx hb dX6_toldAt_147 rfl (lv_at hl 0 rfl) ?_
      refine gfX6_32 C X dX6_toldAt_148 ?_
      refine lv_iload hx hb dX6_toldAt_151 (lv_at hl 2 rfl) ?_
      obtain ⟨h153, hf⟩ := gd_e hf
      refine rIald C X rfl h153 dX6_toldAt_153 ?_
      refine lv_isub hx hb dX6_toldAt_154 ?_
      obtain ⟨h155, hf⟩ := gd_e hf
      refine lv_idiv hx hb dX6_toldAt_155 h155 ?_
      refine lv_iadd hx hb dX6_toldAt_156 ?_
      exact retI C X hr rfl (Option.some.inj hf) rfl rfl dX6_toldAt_157
    · replace hf := ifn c87 hf
      obtain ⟨v90, e90, hf⟩ := nm_e2 hf
      refine rIinc (lv' := [(5, .int v90), (0, .ref (ad 0)), (2, .int x2)]) hx hb dX6_toldAt_90 hl (k := 2) rfl e90 rfl (by decide) rfl (fun ls hl => ?_)
      refine lv_goto (tgt := 77) hx hb dX6_toldAt_93 (by decide) ?_
      exact ih x2 v90 hf _ _ X _ (lv_sub hl [1, 2, 0] rfl)
set_option maxRecDepth 100000 in
set_option maxHeartbeats 4000000 in
theorem w6_toldAt {p : Program} {l : Launch} {e : Env} {s : State} {m : MethodId} {args : Array Value} {below : List Frame} {meth : Method} {c : Code} {D : va_G} {cy : Nat → ClassId} {ad : Nat → Nat} {r : Int32} {μ : Mem} {ν : Lem} (C : Cx false p s m args meth c cX6_toldAt 6 RX6 D cy ad) (hr : meth.sig.returnType = some .int) : ∀ (x1 : Int32) (x2 : Int32), f6_toldAt μ ν x1 x2 = some r → ∀ (H : Heap) (locs : List Loc), Wd false D cy ad s.heap μ ν H locs → ∀ (ls : Array Slot), lv_has ls 6 [(0, .ref (ad 0)), (1, .int x1), (2, .int x2)] → WI false p l e 0 0 s m args below meth c D cy ad .int r μ ν H locs (F0 m 0 ls []) := by
  have hx := C.1.1
  have hb := C.1.2.1
  have hown := C.1.2.2.2.1
  have hts := C.1.2.2.2.2
  intro x1 x2 hf H locs X ls hl
  unfold f6_toldAt at hf
  refine lv_aload_n hx hb dX6_toldAt_0 rfl (lv_at hl 0 rfl) ?_
  refine gfX6_38 C X dX6_toldAt_1 ?_
  refine lv_iload_n hx hb dX6_toldAt_4 rfl (lv_at hl 1 rfl) ?_
  obtain ⟨h5, hf⟩ := gd_e hf
  refine rIald C X rfl h5 dX6_toldAt_5 ?_
  obtain ⟨v6, e6, hf⟩ := nm_e2 hf
  refine st_i e6 ?_
  refine lv_istore_n (lv' := [(3, .int v6), (0, .ref (ad 0)), (1, .int x1), (2, .int x2)]) hx hb dX6_toldAt_6 rfl hl (by decide) rfl (fun ls hl => ?_)
  refine lv_iload_n hx hb dX6_toldAt_7 rfl (lv_at hl 0 rfl) ?_
  refine lv_if_ne (tgt := 13) hx hb dX6_toldAt_8 (by decide) (fun c8 => ?_) (fun c8 => ?_)
  · replace hf := ifn c8 hf
    refine lv_bipush (v := 8) hx hb dX6_toldAt_13 (by decide) ?_
    refine lv_iload_n hx hb dX6_toldAt_15 rfl (lv_at hl 2 rfl) ?_
    refine lv_imul hx hb dX6_toldAt_16 ?_
    obtain ⟨v17, e17, hf⟩ := nm_e2 hf
    refine st_i e17 ?_
    refine lv_istore (lv' := [(4, .int v17), (3, .int v6), (0, .ref (ad 0)), (1, .int x1), (2, .int x2)]) hx hb dX6_toldAt_17 hl (by decide) rfl (fun ls hl => ?_)
    refine lv_iload_n hx hb dX6_toldAt_19 rfl (lv_at hl 4 rfl) ?_
    refine lv_aload_n hx hb dX6_toldAt_20 rfl (lv_at hl 2 rfl) ?_
    refine gfX6_32 C X dX6_toldAt_21 ?_
    refine lv_iload hx hb dX6_toldAt_24 (lv_at hl 0 rfl) ?_
    obtain ⟨h26, hf⟩ := gd_e hf
    refine rIald C X rfl h26 dX6_toldAt_26 ?_
    refine lv_icmp_gt (tgt := 42) hx hb dX6_toldAt_27 (by decide) (fun c27 => ?_) (fun c27 => ?_)
    · replace hf := ifp c27 hf
      refine lv_iload_n hx hb dX6_toldAt_42 rfl (lv_at hl 4 rfl) ?_
      refine lv_aload_n hx hb dX6_toldAt_43 rfl (lv_at hl 2 rfl) ?_
      refine gfX6_32 C X dX6_toldAt_44 ?_
      refine lv_iload hx hb dX6_toldAt_47 (lv_at hl 0 rfl) ?_
      refine lv_iload_n hx hb dX6_toldAt_49 rfl (lv_at hl 1 rfl) ?_
      refine lv_iadd hx hb dX6_toldAt_50 ?_
      refine lv_iconst (v := 1) hx hb dX6_toldAt_51 (by decide) ?_
      refine lv_isub hx hb dX6_toldAt_52 ?_
      obtain ⟨h53, hf⟩ := gd_e hf
      refine rIald C X rfl h53 dX6_toldAt_53 ?_
      refine lv_icmp_lt (tgt := 73) hx hb dX6_toldAt_54 (by decide) (fun c54 => ?_) (fun c54 => ?_)
      · replace hf := ifp c54 hf
        refine lv_iload hx hb dX6_toldAt_73 (lv_at hl 0 rfl) ?_
        refine lv_istore (lv' := [(5, .int v17), (4, .int v17), (3, .int v6), (0, .ref (ad 0)), (1, .int x1), (2, .int x2)]) hx hb dX6_toldAt_75 hl (by decide) rfl (fun ls hl => ?_)
        exact w6_toldAt_1 C hr  FUEL x2 v17 hf _ _ X _ (lv_sub hl [3, 5, 0] rfl)
      · replace hf := ifn c54 hf
        refine lv_sipush (v := 1000) hx hb dX6_toldAt_57 (by decide) ?_
        refine lv_aload_n hx hb dX6_toldAt_60 rfl (lv_at hl 2 rfl) ?_
        refine gfX6_35 C X dX6_toldAt_61 ?_
        refine lv_iload hx hb dX6_toldAt_64 (lv_at hl 0 rfl) ?_
        refine lv_iload_n hx hb dX6_toldAt_66 rfl (lv_at hl 1 rfl) ?_
        refine lv_iadd hx hb dX6_toldAt_67 ?_
        refine lv_iconst (v := 1) hx hb dX6_toldAt_68 (by decide) ?_
        refine lv_isub hx hb dX6_toldAt_69 ?_
        obtain ⟨h70, hf⟩ := gd_e hf
        refine rIald C X rfl h70 dX6_toldAt_70 ?_
        refine lv_imul hx hb dX6_toldAt_71 ?_
        exact retI C X hr rfl (Option.some.inj hf) rfl rfl dX6_toldAt_72
    · replace hf := ifn c27 hf
      refine lv_sipush (v := 1000) hx hb dX6_toldAt_30 (by decide) ?_
      refine lv_aload_n hx hb dX6_toldAt_33 rfl (lv_at hl 2 rfl) ?_
      refine gfX6_35 C X dX6_toldAt_34 ?_
      refine lv_iload hx hb dX6_toldAt_37 (lv_at hl 0 rfl) ?_
      obtain ⟨h39, hf⟩ := gd_e hf
      refine rIald C X rfl h39 dX6_toldAt_39 ?_
      refine lv_imul hx hb dX6_toldAt_40 ?_
      exact retI C X hr rfl (Option.some.inj hf) rfl rfl dX6_toldAt_41
  · replace hf := ifp c8 hf
    refine lv_iconst (v := 0) hx hb dX6_toldAt_11 (by decide) ?_
    exact retI C X hr rfl (Option.some.inj hf) rfl rfl dX6_toldAt_12
theorem ct6_toldAt {x1 : Int32} {x2 : Int32} {μ : Mem} {ν : Lem} {r : Int32} (hg : f6_toldAt μ ν x1 x2 = some r) : CtI false yX6_toldAt cX6_toldAt 6 0 0 .int (fun ad => [.ref (ad 0), .int x1, .int x2]) μ ν r μ ν :=
  mkI (by decide) rfl (fun ad => Nat.le_of_ble_eq_true rfl) (fun p l e s m args below meth c D cy ad C hr X ls hl => w6_toldAt C hr x1 x2 hg _ _ X _ hl)
theorem qX6_113 {p : Program} {l : Launch} {e : Env} {R : Room} {s : State} {m : MethodId} {args : Array Value} {below : List Frame} {meth : Method} {c : Code} {H : Heap} {locs : List Loc} {cells slots : Nat} {Q : State → Prop} {A : Nat → Prop} {cc : ByteArray} {nL : Nat} {D : va_G} {cy : Nat → ClassId} {ad : Nat → Nat} {μ : Mem} {ν : Lem} {pc : Nat} {ls : Array Slot} {rest : List Value} {x1 : Int32} {x2 : Int32} {r : Int32} (hg : f6_toldAt μ ν x1 x2 = some r) (C : CxA false A p s m args meth c cc nL RX6 D cy ad) (X : WdA false A D cy ad s.heap μ ν H locs) (hsz : ls.size = nL) (hrm : (rest.map fun v => v.category).sum ≤ 8) (hR : 0 + 1 ≤ R.frames ∧ 8 + (6 + 11) + 0 ≤ R.locals) (hcs : cells ≤ R.cells ∧ slots ≤ R.slots) (hd : decode cc pc = .ok (.invokevirtual 113, 3)) (kk : ∀ (H1 : Heap) (locs1 : List Loc), WdA false A D cy ad s.heap μ ν H1 locs1 → narrow .int (.int r) = .int r → W p l e R s m args below meth c H1 locs1 cells slots Q (F0 m (pc + 3) ls (.int r :: rest))) : W p l e R s m args below meth c H locs cells slots Q (F0 m pc ls (.int x2 :: .int x1 :: .ref (ad 0) :: rest)) :=
  rCVI (As := [.int x1, .int x2]) (k := 0) (ct6_toldAt hg) ok6 lX6_toldAt k_1167 rfl rfl rfl C X rfl hrm hsz hR hcs hd kk
set_option maxRecDepth 100000 in
set_option maxHeartbeats 4000000 in
theorem w6_lateAt_1 {p : Program} {l : Launch} {e : Env} {s : State} {m : MethodId} {args : Array Value} {below : List Frame} {meth : Method} {c : Code} {D : va_G} {cy : Nat → ClassId} {ad : Nat → Nat} {r : Int32} {μ : Mem} {ν : Lem} (C : Cx false p s m args meth c cX6_lateAt 4 RX6 D cy ad) (hr : meth.sig.returnType = some .int) : ∀ (t1 : Int32) (t2 : Int32), f6_lateAt_1 μ ν t1 t2 = some r → ∀ (H : Heap) (locs : List Loc), Wd false D cy ad s.heap μ ν H locs → ∀ (ls : Array Slot), lv_has ls 4 [] → WI false p l e 1 25 s m args below meth c D cy ad .int r μ ν H locs (F0 m 23 ls [.int t2, .int t1, .ref (ad 0)]) := by
  have hx := C.1.1
  have hb := C.1.2.1
  have hown := C.1.2.2.2.1
  have hts := C.1.2.2.2.2
  intro t1 t2 hf H locs X ls hl
  unfold f6_lateAt_1 at hf
  obtain ⟨r23, g23, hf⟩ := bd1_e hf
  refine qX6_113 g23 C X hl.1 ((Nat.le_of_ble_eq_true rfl)) ⟨(Nat.le_of_ble_eq_true rfl), (Nat.le_of_ble_eq_true rfl)⟩ ⟨Nat.zero_le _, Nat.zero_le _⟩ dX6_lateAt_23 (fun H locs X b23 => ?_)
  exact retI C X hr rfl (Option.some.inj hf) rfl rfl dX6_lateAt_26
set_option maxRecDepth 100000 in
set_option maxHeartbeats 4000000 in
theorem w6_lateAt {p : Program} {l : Launch} {e : Env} {s : State} {m : MethodId} {args : Array Value} {below : List Frame} {meth : Method} {c : Code} {D : va_G} {cy : Nat → ClassId} {ad : Nat → Nat} {r : Int32} {μ : Mem} {ν : Lem} (C : Cx false p s m args meth c cX6_lateAt 4 RX6 D cy ad) (hr : meth.sig.returnType = some .int) : ∀ (x1 : Int32) (x2 : Int32), f6_lateAt μ ν x1 x2 = some r → ∀ (H : Heap) (locs : List Loc), Wd false D cy ad s.heap μ ν H locs → ∀ (ls : Array Slot), lv_has ls 4 [(0, .ref (ad 0)), (1, .int x1), (2, .int x2)] → WI false p l e 1 25 s m args below meth c D cy ad .int r μ ν H locs (F0 m 0 ls []) := by
  have hx := C.1.1
  have hb := C.1.2.1
  have hown := C.1.2.2.2.1
  have hts := C.1.2.2.2.2
  intro x1 x2 hf H locs X ls hl
  unfold f6_lateAt at hf
  refine lv_iload_n hx hb dX6_lateAt_0 rfl (lv_at hl 2 rfl) ?_
  refine lv_bipush (v := 10) hx hb dX6_lateAt_1 (by decide) ?_
  refine lv_aload_n hx hb dX6_lateAt_3 rfl (lv_at hl 0 rfl) ?_
  refine gfX6_29 C X dX6_lateAt_4 ?_
  refine lv_iload_n hx hb dX6_lateAt_7 rfl (lv_at hl 1 rfl) ?_
  obtain ⟨h8, hf⟩ := gd_e hf
  refine rIald C X rfl h8 dX6_lateAt_8 ?_
  refine lv_imul hx hb dX6_lateAt_9 ?_
  refine lv_isub hx hb dX6_lateAt_10 ?_
  obtain ⟨v11, e11, hf⟩ := nm_e2 hf
  refine st_i e11 ?_
  refine lv_istore_n (lv' := [(3, .int v11), (0, .ref (ad 0)), (1, .int x1), (2, .int x2)]) hx hb dX6_lateAt_11 rfl hl (by decide) rfl (fun ls hl => ?_)
  refine lv_aload_n hx hb dX6_lateAt_12 rfl (lv_at hl 1 rfl) ?_
  refine lv_iload_n hx hb dX6_lateAt_13 rfl (lv_at hl 2 rfl) ?_
  refine lv_iload_n hx hb dX6_lateAt_14 rfl (lv_at hl 0 rfl) ?_
  refine lv_if_ge (tgt := 22) hx hb dX6_lateAt_15 (by decide) (fun c15 => ?_) (fun c15 => ?_)
  · replace hf := ifp c15 hf
    refine lv_iload_n hx hb dX6_lateAt_22 rfl (lv_at hl 0 rfl) ?_
    exact w6_lateAt_1 C hr  x1 v11 hf _ _ X _ (lv_sub hl [] rfl)
  · replace hf := ifn c15 hf
    refine lv_iconst (v := 0) hx hb dX6_lateAt_18 (by decide) ?_
    refine lv_goto (tgt := 23) hx hb dX6_lateAt_19 (by decide) ?_
    exact w6_lateAt_1 C hr  x1 0 hf _ _ X _ (lv_sub hl [] rfl)
theorem ct6_lateAt {x1 : Int32} {x2 : Int32} {μ : Mem} {ν : Lem} {r : Int32} (hg : f6_lateAt μ ν x1 x2 = some r) : CtI false yX6_lateAt cX6_lateAt 4 1 25 .int (fun ad => [.ref (ad 0), .int x1, .int x2]) μ ν r μ ν :=
  mkI (by decide) rfl (fun ad => Nat.le_of_ble_eq_true rfl) (fun p l e s m args below meth c D cy ad C hr X ls hl => w6_lateAt C hr x1 x2 hg _ _ X _ hl)
theorem qX6_117 {p : Program} {l : Launch} {e : Env} {R : Room} {s : State} {m : MethodId} {args : Array Value} {below : List Frame} {meth : Method} {c : Code} {H : Heap} {locs : List Loc} {cells slots : Nat} {Q : State → Prop} {A : Nat → Prop} {cc : ByteArray} {nL : Nat} {D : va_G} {cy : Nat → ClassId} {ad : Nat → Nat} {μ : Mem} {ν : Lem} {pc : Nat} {ls : Array Slot} {rest : List Value} {x1 : Int32} {x2 : Int32} {r : Int32} (hg : f6_lateAt μ ν x1 x2 = some r) (C : CxA false A p s m args meth c cc nL RX6 D cy ad) (X : WdA false A D cy ad s.heap μ ν H locs) (hsz : ls.size = nL) (hrm : (rest.map fun v => v.category).sum ≤ 8) (hR : 1 + 1 ≤ R.frames ∧ 8 + (4 + 11) + 25 ≤ R.locals) (hcs : cells ≤ R.cells ∧ slots ≤ R.slots) (hd : decode cc pc = .ok (.invokevirtual 117, 3)) (kk : ∀ (H1 : Heap) (locs1 : List Loc), WdA false A D cy ad s.heap μ ν H1 locs1 → narrow .int (.int r) = .int r → W p l e R s m args below meth c H1 locs1 cells slots Q (F0 m (pc + 3) ls (.int r :: rest))) : W p l e R s m args below meth c H locs cells slots Q (F0 m pc ls (.int x2 :: .int x1 :: .ref (ad 0) :: rest)) :=
  rCVI (As := [.int x1, .int x2]) (k := 0) (ct6_lateAt hg) ok6 lX6_lateAt k_1171 rfl rfl rfl C X rfl hrm hsz hR hcs hd kk
set_option maxRecDepth 100000 in
set_option maxHeartbeats 4000000 in
theorem w6_where_7 {p : Program} {l : Launch} {e : Env} {s : State} {m : MethodId} {args : Array Value} {below : List Frame} {meth : Method} {c : Code} {D : va_G} {cy : Nat → ClassId} {ad : Nat → Nat} {r : Int32} {μ : Mem} {ν : Lem} (C : Cx false p s m args meth c cX6_where 5 RX6 D cy ad) (hr : meth.sig.returnType = some .int) : ∀ (x4 : Int32), f6_where_7 μ ν x4 = some r → ∀ (H : Heap) (locs : List Loc), Wd false D cy ad s.heap μ ν H locs → ∀ (ls : Array Slot), lv_has ls 5 [(0, .ref (ad 0)), (4, .int x4)] → WI false p l e 2 48 s m args below meth c D cy ad .int r μ ν H locs (F0 m 143 ls []) := by
  have hx := C.1.1
  have hb := C.1.2.1
  have hown := C.1.2.2.2.1
  have hts := C.1.2.2.2.2
  intro x4 hf H locs X ls hl
  unfold f6_where_7 at hf
  refine lv_iload hx hb dX6_where_143 (lv_at hl 1 rfl) ?_
  refine lv_iconst (v := 0) hx hb dX6_where_145 (by decide) ?_
  refine lv_sipush (v := 1000) hx hb dX6_where_146 (by decide) ?_
  refine lv_aload_n hx hb dX6_where_149 rfl (lv_at hl 0 rfl) ?_
  refine gfX6_23 C X dX6_where_150 ?_
  refine lv_imul hx hb dX6_where_153 ?_
  refine qX6_120 rfl C X hl.1 ((Nat.le_of_ble_eq_true rfl)) ⟨(Nat.le_of_ble_eq_true rfl), (Nat.le_of_ble_eq_true rfl)⟩ ⟨Nat.zero_le _, Nat.zero_le _⟩ dX6_where_154 (fun H locs X b154 => ?_)
  exact retI C X hr rfl (Option.some.inj hf) rfl rfl dX6_where_157
set_option maxRecDepth 100000 in
set_option maxHeartbeats 4000000 in
theorem w6_where_6 {p : Program} {l : Launch} {e : Env} {s : State} {m : MethodId} {args : Array Value} {below : List Frame} {meth : Method} {c : Code} {D : va_G} {cy : Nat → ClassId} {ad : Nat → Nat} {r : Int32} {μ : Mem} {ν : Lem} (C : Cx false p s m args meth c cX6_where 5 RX6 D cy ad) (hr : meth.sig.returnType = some .int) : ∀ (x1 : Int32) (x2 : Int32) (x3 : Int32) (x4 : Int32), f6_where_6 μ ν x1 x2 x3 x4 = some r → ∀ (H : Heap) (locs : List Loc), Wd false D cy ad s.heap μ ν H locs → ∀ (ls : Array Slot), lv_has ls 5 [(0, .ref (ad 0)), (1, .int x1), (2, .int x2), (3, .int x3), (4, .int x4)] → WI false p l e 2 48 s m args below meth c D cy ad .int r μ ν H locs (F0 m 110 ls []) := by
  have hx := C.1.1
  have hb := C.1.2.1
  have hown := C.1.2.2.2.1
  have hts := C.1.2.2.2.2
  intro x1 x2 x3 x4 hf H locs X ls hl
  unfold f6_where_6 at hf
  refine lv_iload_n hx hb dX6_where_110 rfl (lv_at hl 3 rfl) ?_
  refine lv_iconst (v := 4) hx hb dX6_where_111 (by decide) ?_
  refine lv_icmp_ne (tgt := 143) hx hb dX6_where_112 (by decide) (fun c112 => ?_) (fun c112 => ?_)
  · replace hf := ifn c112 hf
    exact w6_where_7 C hr  x4 hf _ _ X _ (lv_sub hl [0, 4] rfl)
  · replace hf := ifp c112 hf
    refine lv_sipush (v := 1000) hx hb dX6_where_115 (by decide) ?_
    refine lv_aload_n hx hb dX6_where_118 rfl (lv_at hl 0 rfl) ?_
    refine gfX6_23 C X dX6_where_119 ?_
    refine lv_imul hx hb dX6_where_122 ?_
    refine lv_aload_n hx hb dX6_where_123 rfl (lv_at hl 0 rfl) ?_
    refine lv_iload_n hx hb dX6_where_124 rfl (lv_at hl 1 rfl) ?_
    refine lv_iload_n hx hb dX6_where_125 rfl (lv_at hl 2 rfl) ?_
    refine lv_iload_n hx hb dX6_where_126 rfl (lv_at hl 2 rfl) ?_
    refine lv_aload_n hx hb dX6_where_127 rfl (lv_at hl 0 rfl) ?_
    refine gfX6_29 C X dX6_where_128 ?_
    refine lv_iload_n hx hb dX6_where_131 rfl (lv_at hl 1 rfl) ?_
    obtain ⟨h132, hf⟩ := gd_e hf
    refine rIald C X rfl h132 dX6_where_132 ?_
    refine lv_iconst (v := 1) hx hb dX6_where_133 (by decide) ?_
    refine lv_iadd hx hb dX6_where_134 ?_
    obtain ⟨h135, hf⟩ := gd_e hf
    refine rIrem hx hb dX6_where_135 h135 ?_
    refine lv_isub hx hb dX6_where_136 ?_
    obtain ⟨r137, g137, hf⟩ := bd1_e hf
    refine qX6_113 g137 C X hl.1 ((Nat.le_of_ble_eq_true rfl)) ⟨(Nat.le_of_ble_eq_true rfl), (Nat.le_of_ble_eq_true rfl)⟩ ⟨Nat.zero_le _, Nat.zero_le _⟩ dX6_where_137 (fun H locs X b137 => ?_)
    refine lv_isub hx hb dX6_where_140 ?_
    obtain ⟨v141, e141, hf⟩ := nm_e2 hf
    refine st_i e141 ?_
    refine lv_istore (lv' := [(4, .int v141), (0, .ref (ad 0)), (1, .int x1), (2, .int x2), (3, .int x3)]) hx hb dX6_where_141 hl (by decide) rfl (fun ls hl => ?_)
    exact w6_where_7 C hr  v141 hf _ _ X _ (lv_sub hl [1, 0] rfl)
set_option maxRecDepth 100000 in
set_option maxHeartbeats 4000000 in
theorem w6_where_5 {p : Program} {l : Launch} {e : Env} {s : State} {m : MethodId} {args : Array Value} {below : List Frame} {meth : Method} {c : Code} {D : va_G} {cy : Nat → ClassId} {ad : Nat → Nat} {r : Int32} {μ : Mem} {ν : Lem} (C : Cx false p s m args meth c cX6_where 5 RX6 D cy ad) (hr : meth.sig.returnType = some .int) : ∀ (x1 : Int32) (x2 : Int32) (x3 : Int32) (x4 : Int32), f6_where_5 μ ν x1 x2 x3 x4 = some r → ∀ (H : Heap) (locs : List Loc), Wd false D cy ad s.heap μ ν H locs → ∀ (ls : Array Slot), lv_has ls 5 [(0, .ref (ad 0)), (1, .int x1), (2, .int x2), (3, .int x3), (4, .int x4)] → WI false p l e 2 48 s m args below meth c D cy ad .int r μ ν H locs (F0 m 88 ls []) := by
  have hx := C.1.1
  have hb := C.1.2.1
  have hown := C.1.2.2.2.1
  have hts := C.1.2.2.2.2
  intro x1 x2 x3 x4 hf H locs X ls hl
  unfold f6_where_5 at hf
  refine lv_iload_n hx hb dX6_where_88 rfl (lv_at hl 3 rfl) ?_
  refine lv_iconst (v := 2) hx hb dX6_where_89 (by decide) ?_
  refine lv_icmp_ne (tgt := 110) hx hb dX6_where_90 (by decide) (fun c90 => ?_) (fun c90 => ?_)
  · replace hf := ifn c90 hf
    exact w6_where_6 C hr  x1 x2 x3 x4 hf _ _ X _ (lv_sub hl [0, 1, 2, 3, 4] rfl)
  · replace hf := ifp c90 hf
    refine lv_sipush (v := 1000) hx hb dX6_where_93 (by decide) ?_
    refine lv_aload_n hx hb dX6_where_96 rfl (lv_at hl 0 rfl) ?_
    refine gfX6_23 C X dX6_where_97 ?_
    refine lv_imul hx hb dX6_where_100 ?_
    refine lv_aload_n hx hb dX6_where_101 rfl (lv_at hl 0 rfl) ?_
    refine lv_iload_n hx hb dX6_where_102 rfl (lv_at hl 1 rfl) ?_
    refine lv_iload_n hx hb dX6_where_103 rfl (lv_at hl 2 rfl) ?_
    obtain ⟨r104, g104, hf⟩ := bd1_e hf
    refine qX6_113 g104 C X hl.1 ((Nat.le_of_ble_eq_true rfl)) ⟨(Nat.le_of_ble_eq_true rfl), (Nat.le_of_ble_eq_true rfl)⟩ ⟨Nat.zero_le _, Nat.zero_le _⟩ dX6_where_104 (fun H locs X b104 => ?_)
    refine lv_isub hx hb dX6_where_107 ?_
    obtain ⟨v108, e108, hf⟩ := nm_e2 hf
    refine st_i e108 ?_
    refine lv_istore (lv' := [(4, .int v108), (0, .ref (ad 0)), (1, .int x1), (2, .int x2), (3, .int x3)]) hx hb dX6_where_108 hl (by decide) rfl (fun ls hl => ?_)
    exact w6_where_6 C hr  x1 x2 x3 v108 hf _ _ X _ (lv_sub hl [1, 2, 3, 4, 0] rfl)
set_option maxRecDepth 100000 in
set_option maxHeartbeats 4000000 in
theorem w6_where_4 {p : Program} {l : Launch} {e : Env} {s : State} {m : MethodId} {args : Array Value} {below : List Frame} {meth : Method} {c : Code} {D : va_G} {cy : Nat → ClassId} {ad : Nat → Nat} {r : Int32} {μ : Mem} {ν : Lem} (C : Cx false p s m args meth c cX6_where 5 RX6 D cy ad) (hr : meth.sig.returnType = some .int) : ∀ (x1 : Int32) (x2 : Int32) (x3 : Int32) (x4 : Int32), f6_where_4 μ ν x1 x2 x3 x4 = some r → ∀ (H : Heap) (locs : List Loc), Wd false D cy ad s.heap μ ν H locs → ∀ (ls : Array Slot), lv_has ls 5 [(0, .ref (ad 0)), (1, .int x1), (2, .int x2), (3, .int x3), (4, .int x4)] → WI false p l e 2 48 s m args below meth c D cy ad .int r μ ν H locs (F0 m 60 ls []) := by
  have hx := C.1.1
  have hb := C.1.2.1
  have hown := C.1.2.2.2.1
  have hts := C.1.2.2.2.2
  intro x1 x2 x3 x4 hf H locs X ls hl
  unfold f6_where_4 at hf
  refine lv_iload_n hx hb dX6_where_60 rfl (lv_at hl 3 rfl) ?_
  refine lv_iconst (v := 5) hx hb dX6_where_61 (by decide) ?_
  refine lv_icmp_ne (tgt := 88) hx hb dX6_where_62 (by decide) (fun c62 => ?_) (fun c62 => ?_)
  · replace hf := ifn c62 hf
    exact w6_where_5 C hr  x1 x2 x3 x4 hf _ _ X _ (lv_sub hl [0, 1, 2, 3, 4] rfl)
  · replace hf := ifp c62 hf
    refine lv_aload_n hx hb dX6_where_65 rfl (lv_at hl 0 rfl) ?_
    refine lv_iload_n hx hb dX6_where_66 rfl (lv_at hl 1 rfl) ?_
    refine lv_iload_n hx hb dX6_where_67 rfl (lv_at hl 2 rfl) ?_
    obtain ⟨r68, g68, hf⟩ := bd1_e hf
    refine qX6_117 g68 C X hl.1 ((Nat.le_of_ble_eq_true rfl)) ⟨(Nat.le_of_ble_eq_true rfl), (Nat.le_of_ble_eq_true rfl)⟩ ⟨Nat.zero_le _, Nat.zero_le _⟩ dX6_where_68 (fun H locs X b68 => ?_)
    refine lv_sipush (v := 1000) hx hb dX6_where_71 (by decide) ?_
    refine lv_iload_n hx hb dX6_where_74 rfl (lv_at hl 2 rfl) ?_
    refine lv_aload_n hx hb dX6_where_75 rfl (lv_at hl 0 rfl) ?_
    refine gfX6_29 C X dX6_where_76 ?_
    refine lv_iload_n hx hb dX6_where_79 rfl (lv_at hl 1 rfl) ?_
    obtain ⟨h80, hf⟩ := gd_e hf
    refine rIald C X rfl h80 dX6_where_80 ?_
    refine lv_iconst (v := 2) hx hb dX6_where_81 (by decide) ?_
    refine lv_iadd hx hb dX6_where_82 ?_
    obtain ⟨h83, hf⟩ := gd_e hf
    refine rIrem hx hb dX6_where_83 h83 ?_
    refine lv_imul hx hb dX6_where_84 ?_
    refine lv_iadd hx hb dX6_where_85 ?_
    obtain ⟨v86, e86, hf⟩ := nm_e2 hf
    refine st_i e86 ?_
    refine lv_istore (lv' := [(4, .int v86), (0, .ref (ad 0)), (1, .int x1), (2, .int x2), (3, .int x3)]) hx hb dX6_where_86 hl (by decide) rfl (fun ls hl => ?_)
    exact w6_where_5 C hr  x1 x2 x3 v86 hf _ _ X _ (lv_sub hl [1, 2, 3, 4, 0] rfl)
set_option maxRecDepth 100000 in
set_option maxHeartbeats 4000000 in
theorem w6_where_3 {p : Program} {l : Launch} {e : Env} {s : State} {m : MethodId} {args : Array Value} {below : List Frame} {meth : Method} {c : Code} {D : va_G} {cy : Nat → ClassId} {ad : Nat → Nat} {r : Int32} {μ : Mem} {ν : Lem} (C : Cx false p s m args meth c cX6_where 5 RX6 D cy ad) (hr : meth.sig.returnType = some .int) : ∀ (x1 : Int32) (x2 : Int32) (x3 : Int32) (x4 : Int32), f6_where_3 μ ν x1 x2 x3 x4 = some r → ∀ (H : Heap) (locs : List Loc), Wd false D cy ad s.heap μ ν H locs → ∀ (ls : Array Slot), lv_has ls 5 [(0, .ref (ad 0)), (1, .int x1), (2, .int x2), (3, .int x3), (4, .int x4)] → WI false p l e 2 48 s m args below meth c D cy ad .int r μ ν H locs (F0 m 45 ls []) := by
  have hx := C.1.1
  have hb := C.1.2.1
  have hown := C.1.2.2.2.1
  have hts := C.1.2.2.2.2
  intro x1 x2 x3 x4 hf H locs X ls hl
  unfold f6_where_3 at hf
  refine lv_iload_n hx hb dX6_where_45 rfl (lv_at hl 3 rfl) ?_
  refine lv_iconst (v := 3) hx hb dX6_where_46 (by decide) ?_
  refine lv_icmp_ne (tgt := 60) hx hb dX6_where_47 (by decide) (fun c47 => ?_) (fun c47 => ?_)
  · replace hf := ifn c47 hf
    exact w6_where_4 C hr  x1 x2 x3 x4 hf _ _ X _ (lv_sub hl [0, 1, 2, 3, 4] rfl)
  · replace hf := ifp c47 hf
    refine lv_aload_n hx hb dX6_where_50 rfl (lv_at hl 0 rfl) ?_
    refine lv_iload_n hx hb dX6_where_51 rfl (lv_at hl 1 rfl) ?_
    refine lv_iload_n hx hb dX6_where_52 rfl (lv_at hl 2 rfl) ?_
    obtain ⟨r53, g53, hf⟩ := bd1_e hf
    refine qX6_117 g53 C X hl.1 ((Nat.le_of_ble_eq_true rfl)) ⟨(Nat.le_of_ble_eq_true rfl), (Nat.le_of_ble_eq_true rfl)⟩ ⟨Nat.zero_le _, Nat.zero_le _⟩ dX6_where_53 (fun H locs X b53 => ?_)
    refine lv_iconst (v := 2) hx hb dX6_where_56 (by decide) ?_
    refine lv_idiv hx hb dX6_where_57 (by decide) ?_
    obtain ⟨v58, e58, hf⟩ := nm_e2 hf
    refine st_i e58 ?_
    refine lv_istore (lv' := [(4, .int v58), (0, .ref (ad 0)), (1, .int x1), (2, .int x2), (3, .int x3)]) hx hb dX6_where_58 hl (by decide) rfl (fun ls hl => ?_)
    exact w6_where_4 C hr  x1 x2 x3 v58 hf _ _ X _ (lv_sub hl [1, 2, 3, 4, 0] rfl)
set_option maxRecDepth 100000 in
set_option maxHeartbeats 4000000 in
theorem w6_where_2 {p : Program} {l : Launch} {e : Env} {s : State} {m : MethodId} {args : Array Value} {below : List Frame} {meth : Method} {c : Code} {D : va_G} {cy : Nat → ClassId} {ad : Nat → Nat} {r : Int32} {μ : Mem} {ν : Lem} (C : Cx false p s m args meth c cX6_where 5 RX6 D cy ad) (hr : meth.sig.returnType = some .int) : ∀ (x1 : Int32) (x2 : Int32) (x3 : Int32) (x4 : Int32), f6_where_2 μ ν x1 x2 x3 x4 = some r → ∀ (H : Heap) (locs : List Loc), Wd false D cy ad s.heap μ ν H locs → ∀ (ls : Array Slot), lv_has ls 5 [(0, .ref (ad 0)), (1, .int x1), (2, .int x2), (3, .int x3), (4, .int x4)] → WI false p l e 2 48 s m args below meth c D cy ad .int r μ ν H locs (F0 m 32 ls []) := by
  have hx := C.1.1
  have hb := C.1.2.1
  have hown := C.1.2.2.2.1
  have hts := C.1.2.2.2.2
  intro x1 x2 x3 x4 hf H locs X ls hl
  unfold f6_where_2 at hf
  refine lv_iload_n hx hb dX6_where_32 rfl (lv_at hl 3 rfl) ?_
  refine lv_iconst (v := 1) hx hb dX6_where_33 (by decide) ?_
  refine lv_icmp_ne (tgt := 45) hx hb dX6_where_34 (by decide) (fun c34 => ?_) (fun c34 => ?_)
  · replace hf := ifn c34 hf
    exact w6_where_3 C hr  x1 x2 x3 x4 hf _ _ X _ (lv_sub hl [0, 1, 2, 3, 4] rfl)
  · replace hf := ifp c34 hf
    refine lv_aload_n hx hb dX6_where_37 rfl (lv_at hl 0 rfl) ?_
    refine lv_iload_n hx hb dX6_where_38 rfl (lv_at hl 1 rfl) ?_
    refine lv_iload_n hx hb dX6_where_39 rfl (lv_at hl 2 rfl) ?_
    obtain ⟨r40, g40, hf⟩ := bd1_e hf
    refine qX6_117 g40 C X hl.1 ((Nat.le_of_ble_eq_true rfl)) ⟨(Nat.le_of_ble_eq_true rfl), (Nat.le_of_ble_eq_true rfl)⟩ ⟨Nat.zero_le _, Nat.zero_le _⟩ dX6_where_40 (fun H locs X b40 => ?_)
    refine lv_istore (lv' := [(4, .int r40), (0, .ref (ad 0)), (1, .int x1), (2, .int x2), (3, .int x3)]) hx hb dX6_where_43 hl (by decide) rfl (fun ls hl => ?_)
    exact w6_where_3 C hr  x1 x2 x3 r40 hf _ _ X _ (lv_sub hl [1, 2, 3, 4, 0] rfl)
set_option maxRecDepth 100000 in
set_option maxHeartbeats 4000000 in
theorem w6_where_1 {p : Program} {l : Launch} {e : Env} {s : State} {m : MethodId} {args : Array Value} {below : List Frame} {meth : Method} {c : Code} {D : va_G} {cy : Nat → ClassId} {ad : Nat → Nat} {r : Int32} {μ : Mem} {ν : Lem} (C : Cx false p s m args meth c cX6_where 5 RX6 D cy ad) (hr : meth.sig.returnType = some .int) : ∀ (x1 : Int32) (x2 : Int32) (t0 : Int32), f6_where_1 μ ν x1 x2 t0 = some r → ∀ (H : Heap) (locs : List Loc), Wd false D cy ad s.heap μ ν H locs → ∀ (ls : Array Slot), lv_has ls 5 [(0, .ref (ad 0)), (1, .int x1), (2, .int x2)] → WI false p l e 2 48 s m args below meth c D cy ad .int r μ ν H locs (F0 m 16 ls [.int t0]) := by
  have hx := C.1.1
  have hb := C.1.2.1
  have hown := C.1.2.2.2.1
  have hts := C.1.2.2.2.2
  intro x1 x2 t0 hf H locs X ls hl
  unfold f6_where_1 at hf
  refine lv_istore_n (lv' := [(3, .int t0), (0, .ref (ad 0)), (1, .int x1), (2, .int x2)]) hx hb dX6_where_16 rfl hl (by decide) rfl (fun ls hl => ?_)
  refine lv_iconst (v := 0) hx hb dX6_where_17 (by decide) ?_
  refine lv_istore (lv' := [(4, .int 0), (3, .int t0), (0, .ref (ad 0)), (1, .int x1), (2, .int x2)]) hx hb dX6_where_18 hl (by decide) rfl (fun ls hl => ?_)
  refine lv_iload_n hx hb dX6_where_20 rfl (lv_at hl 1 rfl) ?_
  refine lv_if_ne (tgt := 32) hx hb dX6_where_21 (by decide) (fun c21 => ?_) (fun c21 => ?_)
  · replace hf := ifn c21 hf
    exact w6_where_2 C hr  x1 x2 t0 0 hf _ _ X _ (lv_sub hl [2, 3, 4, 1, 0] rfl)
  · replace hf := ifp c21 hf
    refine lv_aload_n hx hb dX6_where_24 rfl (lv_at hl 2 rfl) ?_
    refine lv_iload_n hx hb dX6_where_25 rfl (lv_at hl 3 rfl) ?_
    refine lv_iload_n hx hb dX6_where_26 rfl (lv_at hl 4 rfl) ?_
    obtain ⟨r27, g27, hf⟩ := bd1_e hf
    refine qX6_113 g27 C X hl.1 ((Nat.le_of_ble_eq_true rfl)) ⟨(Nat.le_of_ble_eq_true rfl), (Nat.le_of_ble_eq_true rfl)⟩ ⟨Nat.zero_le _, Nat.zero_le _⟩ dX6_where_27 (fun H locs X b27 => ?_)
    refine lv_istore (lv' := [(4, .int r27), (3, .int t0), (0, .ref (ad 0)), (1, .int x1), (2, .int x2)]) hx hb dX6_where_30 hl (by decide) rfl (fun ls hl => ?_)
    exact w6_where_2 C hr  x1 x2 t0 r27 hf _ _ X _ (lv_sub hl [2, 3, 4, 1, 0] rfl)
set_option maxRecDepth 100000 in
set_option maxHeartbeats 4000000 in
theorem w6_where {p : Program} {l : Launch} {e : Env} {s : State} {m : MethodId} {args : Array Value} {below : List Frame} {meth : Method} {c : Code} {D : va_G} {cy : Nat → ClassId} {ad : Nat → Nat} {r : Int32} {μ : Mem} {ν : Lem} (C : Cx false p s m args meth c cX6_where 5 RX6 D cy ad) (hr : meth.sig.returnType = some .int) : ∀ (x1 : Int32) (x2 : Int32), f6_where μ ν x1 x2 = some r → ∀ (H : Heap) (locs : List Loc), Wd false D cy ad s.heap μ ν H locs → ∀ (ls : Array Slot), lv_has ls 5 [(0, .ref (ad 0)), (1, .int x1), (2, .int x2)] → WI false p l e 2 48 s m args below meth c D cy ad .int r μ ν H locs (F0 m 0 ls []) := by
  have hx := C.1.1
  have hb := C.1.2.1
  have hown := C.1.2.2.2.1
  have hts := C.1.2.2.2.2
  intro x1 x2 hf H locs X ls hl
  unfold f6_where at hf
  refine lv_iload_n hx hb dX6_where_0 rfl (lv_at hl 1 rfl) ?_
  refine lv_bipush (v := 6) hx hb dX6_where_1 (by decide) ?_
  refine lv_icmp_ne (tgt := 10) hx hb dX6_where_3 (by decide) (fun c3 => ?_) (fun c3 => ?_)
  · replace hf := ifn c3 hf
    refine lv_aload_n hx hb dX6_where_10 rfl (lv_at hl 0 rfl) ?_
    refine gfX6_26 C X dX6_where_11 ?_
    refine lv_iload_n hx hb dX6_where_14 rfl (lv_at hl 1 rfl) ?_
    obtain ⟨h15, hf⟩ := gd_e hf
    refine rIald C X rfl h15 dX6_where_15 ?_
    exact w6_where_1 C hr  x1 x2 (μ 4 x1.toNatClampNeg) hf _ _ X _ (lv_sub hl [0, 1, 2] rfl)
  · replace hf := ifp c3 hf
    refine lv_iconst (v := 0) hx hb dX6_where_6 (by decide) ?_
    refine lv_goto (tgt := 16) hx hb dX6_where_7 (by decide) ?_
    exact w6_where_1 C hr  x1 x2 0 hf _ _ X _ (lv_sub hl [0, 1, 2] rfl)
theorem ct6_where {x1 : Int32} {x2 : Int32} {μ : Mem} {ν : Lem} {r : Int32} (hg : f6_where μ ν x1 x2 = some r) : CtI false yX6_where cX6_where 5 2 48 .int (fun ad => [.ref (ad 0), .int x1, .int x2]) μ ν r μ ν :=
  mkI (by decide) rfl (fun ad => Nat.le_of_ble_eq_true rfl) (fun p l e s m args below meth c D cy ad C hr X ls hl => w6_where C hr x1 x2 hg _ _ X _ hl)
theorem qX6_335 {p : Program} {l : Launch} {e : Env} {R : Room} {s : State} {m : MethodId} {args : Array Value} {below : List Frame} {meth : Method} {c : Code} {H : Heap} {locs : List Loc} {cells slots : Nat} {Q : State → Prop} {A : Nat → Prop} {cc : ByteArray} {nL : Nat} {D : va_G} {cy : Nat → ClassId} {ad : Nat → Nat} {μ : Mem} {ν : Lem} {pc : Nat} {ls : Array Slot} {rest : List Value} {x1 : Int32} {x2 : Int32} {r : Int32} (hg : f6_where μ ν x1 x2 = some r) (C : CxA false A p s m args meth c cc nL RX6 D cy ad) (X : WdA false A D cy ad s.heap μ ν H locs) (hsz : ls.size = nL) (hrm : (rest.map fun v => v.category).sum ≤ 8) (hR : 2 + 1 ≤ R.frames ∧ 8 + (5 + 11) + 48 ≤ R.locals) (hcs : cells ≤ R.cells ∧ slots ≤ R.slots) (hd : decode cc pc = .ok (.invokevirtual 335, 3)) (kk : ∀ (H1 : Heap) (locs1 : List Loc), WdA false A D cy ad s.heap μ ν H1 locs1 → narrow .int (.int r) = .int r → W p l e R s m args below meth c H1 locs1 cells slots Q (F0 m (pc + 3) ls (.int r :: rest))) : W p l e R s m args below meth c H locs cells slots Q (F0 m pc ls (.int x2 :: .int x1 :: .ref (ad 0) :: rest)) :=
  rCVI (As := [.int x1, .int x2]) (k := 0) (ct6_where hg) ok6 lX6_where k_1163 rfl rfl rfl C X rfl hrm hsz hR hcs hd kk
set_option maxRecDepth 100000 in
set_option maxHeartbeats 4000000 in
theorem w6_feed {p : Program} {l : Launch} {e : Env} {s : State} {m : MethodId} {args : Array Value} {below : List Frame} {meth : Method} {c : Code} {D : va_G} {cy : Nat → ClassId} {ad : Nat → Nat} {r : Int32} {μ1 : Mem} {ν1 : Lem} (C : Cx false p s m args meth c cX6_feed 2 RX6 D cy ad) (hr : meth.sig.returnType = some .int) : ∀ (μ : Mem) (ν : Lem) (x1 : Int32), f6_feed μ ν x1 = some (r, μ1, ν1) → ∀ (H : Heap) (locs : List Loc), Wd false D cy ad s.heap μ ν H locs → ∀ (ls : Array Slot), lv_has ls 2 [(0, .ref (ad 0)), (1, .int x1)] → WI false p l e 1 25 s m args below meth c D cy ad .int r μ1 ν1 H locs (F0 m 0 ls []) := by
  have hx := C.1.1
  have hb := C.1.2.1
  have hown := C.1.2.2.2.1
  have hts := C.1.2.2.2.2
  intro μ ν x1 hf H locs X ls hl
  unfold f6_feed at hf
  refine lv_iload_n hx hb dX6_feed_0 rfl (lv_at hl 1 rfl) ?_
  refine lv_i2l hx hb dX6_feed_1 rfl ?_
  refine lv_lconst (v := 0) hx hb dX6_feed_2 (by decide) ?_
  refine lv_ldc2 (v := (255)) hx hb hown (hts _ k_960) dX6_feed_3 ?_
  refine qX6_92 rfl C X hl.1 ((Nat.le_of_ble_eq_true rfl)) ⟨(Nat.le_of_ble_eq_true rfl), (Nat.le_of_ble_eq_true rfl)⟩ ⟨Nat.zero_le _, Nat.zero_le _⟩ dX6_feed_6 (fun H locs X b6 => ?_)
  refine lv_if_ne (tgt := 15) hx hb dX6_feed_9 (by decide) (fun c9 => ?_) (fun c9 => ?_)
  · replace hf := ifn c9 hf
    refine lv_aload_n hx hb dX6_feed_15 rfl (lv_at hl 0 rfl) ?_
    refine gfX6_126 C X dX6_feed_16 ?_
    refine lv_sipush (v := 160) hx hb dX6_feed_19 (by decide) ?_
    refine lv_icmp_ne (tgt := 28) hx hb dX6_feed_22 (by decide) (fun c22 => ?_) (fun c22 => ?_)
    · replace hf := ifn c22 hf
      refine lv_aload_n hx hb dX6_feed_28 rfl (lv_at hl 0 rfl) ?_
      refine gfX6_20 C X dX6_feed_29 ?_
      refine lv_aload_n hx hb dX6_feed_32 rfl (lv_at hl 0 rfl) ?_
      refine gfX6_126 C X dX6_feed_33 ?_
      refine lv_iload_n hx hb dX6_feed_36 rfl (lv_at hl 1 rfl) ?_
      obtain ⟨h37, hf⟩ := gd_e hf
      obtain ⟨μ37, e37, hf⟩ := nm_e2 hf
      refine rIast2 C X rfl h37 e37 dX6_feed_37 (fun H locs X => ?_)
      refine lv_aload_n hx hb dX6_feed_38 rfl (lv_at hl 0 rfl) ?_
      refine lv_dup hx hb dX6_feed_39 rfl ?_
      refine gfX6_126 C X dX6_feed_40 ?_
      refine lv_iconst (v := 1) hx hb dX6_feed_43 (by decide) ?_
      refine lv_iadd hx hb dX6_feed_44 ?_
      obtain ⟨μ45, e45, hf⟩ := nm_e2 hf
      refine pfX6_126 e45 C X dX6_feed_45 (fun H locs X => ?_)
      refine lv_aload_n hx hb dX6_feed_48 rfl (lv_at hl 0 rfl) ?_
      refine gfX6_126 C X dX6_feed_49 ?_
      exact retI C X hr rfl (so3 hf).1 (so3 hf).2.1 (so3 hf).2.2 dX6_feed_52
    · replace hf := ifp c22 hf
      refine lv_bipush (v := (-4)) hx hb dX6_feed_25 (by decide) ?_
      exact retI C X hr rfl (so3 hf).1 (so3 hf).2.1 (so3 hf).2.2 dX6_feed_27
  · replace hf := ifp c9 hf
    refine lv_bipush (v := (-2)) hx hb dX6_feed_12 (by decide) ?_
    exact retI C X hr rfl (so3 hf).1 (so3 hf).2.1 (so3 hf).2.2 dX6_feed_14
theorem ct6_feed {x1 : Int32} {μ : Mem} {ν : Lem} {r : Int32} {μ1 : Mem} {ν1 : Lem} (hg : f6_feed μ ν x1 = some (r, μ1, ν1)) : CtI false yX6_feed cX6_feed 2 1 25 .int (fun ad => [.ref (ad 0), .int x1]) μ ν r μ1 ν1 :=
  mkI (by decide) rfl (fun ad => Nat.le_of_ble_eq_true rfl) (fun p l e s m args below meth c D cy ad C hr X ls hl => w6_feed C hr μ ν x1 hg _ _ X _ hl)
theorem qL_39 {p : Program} {l : Launch} {e : Env} {R : Room} {s : State} {m : MethodId} {args : Array Value} {below : List Frame} {meth : Method} {c : Code} {H : Heap} {locs : List Loc} {cells slots : Nat} {Q : State → Prop} {A : Nat → Prop} {cc : ByteArray} {nL : Nat} {D : va_G} {cy : Nat → ClassId} {ad : Nat → Nat} {μ : Mem} {ν : Lem} {pc : Nat} {ls : Array Slot} {rest : List Value} {x1 : Int32} {r : Int32} {μ1 : Mem} {ν1 : Lem} (hg : f6_feed μ ν x1 = some (r, μ1, ν1)) (C : CxA false A p s m args meth c cc nL RL D cy ad) (X : WdA false A D cy ad s.heap μ ν H locs) (hsz : ls.size = nL) (hrm : (rest.map fun v => v.category).sum ≤ 8) (hR : 1 + 1 ≤ R.frames ∧ 8 + (2 + 11) + 25 ≤ R.locals) (hcs : cells ≤ R.cells ∧ slots ≤ R.slots) (hd : decode cc pc = .ok (.invokevirtual 39, 3)) (kk : ∀ (H1 : Heap) (locs1 : List Loc), WdA false A D cy ad s.heap μ1 ν1 H1 locs1 → narrow .int (.int r) = .int r → W p l e R s m args below meth c H1 locs1 cells slots Q (F0 m (pc + 3) ls (.int r :: rest))) : W p l e R s m args below meth c H locs cells slots Q (F0 m pc ls (.int x1 :: .ref (ad 0) :: rest)) :=
  rCVI (As := [.int x1]) (k := 0) (ct6_feed hg) ok6 lX6_feed k_956 rfl rfl rfl C X rfl hrm hsz hR hcs hd kk
set_option maxRecDepth 100000 in
set_option maxHeartbeats 4000000 in
theorem w6_byteAt {p : Program} {l : Launch} {e : Env} {s : State} {m : MethodId} {args : Array Value} {below : List Frame} {meth : Method} {c : Code} {D : va_G} {cy : Nat → ClassId} {ad : Nat → Nat} {r : Int32} {μ : Mem} {ν : Lem} (C : Cx false p s m args meth c cX6_byteAt 2 RX6 D cy ad) (hr : meth.sig.returnType = some .int) : ∀ (x1 : Int32), f6_byteAt μ ν x1 = some r → ∀ (H : Heap) (locs : List Loc), Wd false D cy ad s.heap μ ν H locs → ∀ (ls : Array Slot), lv_has ls 2 [(0, .ref (ad 0)), (1, .int x1)] → WI false p l e 0 0 s m args below meth c D cy ad .int r μ ν H locs (F0 m 0 ls []) := by
  have hx := C.1.1
  have hb := C.1.2.1
  have hown := C.1.2.2.2.1
  have hts := C.1.2.2.2.2
  intro x1 hf H locs X ls hl
  unfold f6_byteAt at hf
  refine lv_iload_n hx hb dX6_byteAt_0 rfl (lv_at hl 1 rfl) ?_
  refine lv_aload_n hx hb dX6_byteAt_1 rfl (lv_at hl 0 rfl) ?_
  refine gfX6_129 C X dX6_byteAt_2 ?_
  refine lv_icmp_ge (tgt := 22) hx hb dX6_byteAt_5 (by decide) (fun c5 => ?_) (fun c5 => ?_)
  · replace hf := ifp c5 hf
    refine lv_iconst (v := (-1)) hx hb dX6_byteAt_22 (by decide) ?_
    exact retI C X hr rfl (Option.some.inj hf) rfl rfl dX6_byteAt_23
  · replace hf := ifn c5 hf
    refine lv_aload_n hx hb dX6_byteAt_8 rfl (lv_at hl 0 rfl) ?_
    refine gfX6_13 C X dX6_byteAt_9 ?_
    refine lv_aload_n hx hb dX6_byteAt_12 rfl (lv_at hl 0 rfl) ?_
    refine gfX6_132 C X dX6_byteAt_13 ?_
    refine lv_iload_n hx hb dX6_byteAt_16 rfl (lv_at hl 1 rfl) ?_
    refine lv_iadd hx hb dX6_byteAt_17 ?_
    obtain ⟨h18, hf⟩ := gd_e hf
    refine rIald C X rfl h18 dX6_byteAt_18 ?_
    refine lv_goto (tgt := 23) hx hb dX6_byteAt_19 (by decide) ?_
    exact retI C X hr rfl (Option.some.inj hf) rfl rfl dX6_byteAt_23
theorem ct6_byteAt {x1 : Int32} {μ : Mem} {ν : Lem} {r : Int32} (hg : f6_byteAt μ ν x1 = some r) : CtI false yX6_byteAt cX6_byteAt 2 0 0 .int (fun ad => [.ref (ad 0), .int x1]) μ ν r μ ν :=
  mkI (by decide) rfl (fun ad => Nat.le_of_ble_eq_true rfl) (fun p l e s m args below meth c D cy ad C hr X ls hl => w6_byteAt C hr x1 hg _ _ X _ hl)
theorem qX6_138 {p : Program} {l : Launch} {e : Env} {R : Room} {s : State} {m : MethodId} {args : Array Value} {below : List Frame} {meth : Method} {c : Code} {H : Heap} {locs : List Loc} {cells slots : Nat} {Q : State → Prop} {A : Nat → Prop} {cc : ByteArray} {nL : Nat} {D : va_G} {cy : Nat → ClassId} {ad : Nat → Nat} {μ : Mem} {ν : Lem} {pc : Nat} {ls : Array Slot} {rest : List Value} {x1 : Int32} {r : Int32} (hg : f6_byteAt μ ν x1 = some r) (C : CxA false A p s m args meth c cc nL RX6 D cy ad) (X : WdA false A D cy ad s.heap μ ν H locs) (hsz : ls.size = nL) (hrm : (rest.map fun v => v.category).sum ≤ 8) (hR : 0 + 1 ≤ R.frames ∧ 8 + (2 + 11) + 0 ≤ R.locals) (hcs : cells ≤ R.cells ∧ slots ≤ R.slots) (hd : decode cc pc = .ok (.invokevirtual 138, 3)) (kk : ∀ (H1 : Heap) (locs1 : List Loc), WdA false A D cy ad s.heap μ ν H1 locs1 → narrow .int (.int r) = .int r → W p l e R s m args below meth c H1 locs1 cells slots Q (F0 m (pc + 3) ls (.int r :: rest))) : W p l e R s m args below meth c H locs cells slots Q (F0 m pc ls (.int x1 :: .ref (ad 0) :: rest)) :=
  rCVI (As := [.int x1]) (k := 0) (ct6_byteAt hg) ok6 lX6_byteAt k_973 rfl rfl rfl C X rfl hrm hsz hR hcs hd kk
set_option maxRecDepth 100000 in
set_option maxHeartbeats 4000000 in
theorem w6_next_5 {p : Program} {l : Launch} {e : Env} {s : State} {m : MethodId} {args : Array Value} {below : List Frame} {meth : Method} {c : Code} {D : va_G} {cy : Nat → ClassId} {ad : Nat → Nat} {μ1 : Mem} {ν1 : Lem} (C : Cx false p s m args meth c cX6_next 3 RX6 D cy ad) (hr : meth.sig.returnType = none) : ∀ (μ : Mem) (ν : Lem) (x1 : Int32), f6_next_5 μ ν x1 = some (μ1, ν1) → ∀ (H : Heap) (locs : List Loc), Wd false D cy ad s.heap μ ν H locs → ∀ (ls : Array Slot), lv_has ls 3 [(0, .ref (ad 0)), (1, .int x1)] → WV false p l e 1 25 s m args below meth c D cy ad μ1 ν1 H locs (F0 m 300 ls []) := by
  have hx := C.1.1
  have hb := C.1.2.1
  have hown := C.1.2.2.2.1
  have hts := C.1.2.2.2.2
  intro μ ν x1 hf H locs X ls hl
  unfold f6_next_5 at hf
  refine lv_aload_n hx hb dX6_next_300 rfl (lv_at hl 0 rfl) ?_
  refine lv_iconst (v := 3) hx hb dX6_next_301 (by decide) ?_
  obtain ⟨μ302, e302, hf⟩ := nm_e2 hf
  refine pfX6_145 e302 C X dX6_next_302 (fun H locs X => ?_)
  refine lv_aload_n hx hb dX6_next_305 rfl (lv_at hl 0 rfl) ?_
  refine lv_iload_n hx hb dX6_next_306 rfl (lv_at hl 1 rfl) ?_
  refine lv_i2l hx hb dX6_next_307 rfl ?_
  obtain ⟨ν308, e308, hf⟩ := nm_e2 hf
  refine pfX6_156 e308 C X dX6_next_308 (fun H locs X => ?_)
  refine lv_aload_n hx hb dX6_next_311 rfl (lv_at hl 0 rfl) ?_
  refine lv_dup hx hb dX6_next_312 rfl ?_
  refine gfX6_135 C X dX6_next_313 ?_
  refine lv_iconst (v := 1) hx hb dX6_next_316 (by decide) ?_
  refine lv_iadd hx hb dX6_next_317 ?_
  obtain ⟨μ318, e318, hf⟩ := nm_e2 hf
  refine pfX6_135 e318 C X dX6_next_318 (fun H locs X => ?_)
  exact retV C X hr (so2 hf).1 (so2 hf).2 dX6_next_321
set_option maxRecDepth 100000 in
set_option maxHeartbeats 4000000 in
theorem w6_next_4 {p : Program} {l : Launch} {e : Env} {s : State} {m : MethodId} {args : Array Value} {below : List Frame} {meth : Method} {c : Code} {D : va_G} {cy : Nat → ClassId} {ad : Nat → Nat} {μ1 : Mem} {ν1 : Lem} (C : Cx false p s m args meth c cX6_next 3 RX6 D cy ad) (hr : meth.sig.returnType = none) (K160 : Mem → Lem → Int32 → Option (Mem × Lem)) (hK160 : ∀ (μ : Mem) (ν : Lem) (x2 : Int32), K160 μ ν x2 = some (μ1, ν1) → ∀ (H : Heap) (locs : List Loc), Wd false D cy ad s.heap μ ν H locs → ∀ (ls : Array Slot), lv_has ls 3 [(0, .ref (ad 0)), (2, .int x2)] → WV false p l e 1 25 s m args below meth c D cy ad μ1 ν1 H locs (F0 m 160 ls [])) : ∀ (μ : Mem) (ν : Lem) (x2 : Int32) (t1 : Int64), f6_next_4 K160 μ ν x2 t1 = some (μ1, ν1) → ∀ (H : Heap) (locs : List Loc), Wd false D cy ad s.heap μ ν H locs → ∀ (ls : Array Slot), lv_has ls 3 [(0, .ref (ad 0)), (2, .int x2)] → WV false p l e 1 25 s m args below meth c D cy ad μ1 ν1 H locs (F0 m 216 ls [.long t1, .ref (ad 0)]) := by
  have hx := C.1.1
  have hb := C.1.2.1
  have hown := C.1.2.2.2.1
  have hts := C.1.2.2.2.2
  intro μ ν x2 t1 hf H locs X ls hl
  unfold f6_next_4 at hf
  obtain ⟨ν216, e216, hf⟩ := nm_e2 hf
  refine pfX6_156 e216 C X dX6_next_216 (fun H locs X => ?_)
  obtain ⟨v219, e219, hf⟩ := nm_e2 hf
  refine rIinc (lv' := [(2, .int v219), (0, .ref (ad 0))]) hx hb dX6_next_219 hl (k := 1) rfl e219 rfl (by decide) rfl (fun ls hl => ?_)
  refine lv_aload_n hx hb dX6_next_222 rfl (lv_at hl 1 rfl) ?_
  refine lv_dup hx hb dX6_next_223 rfl ?_
  refine gfX6_135 C X dX6_next_224 ?_
  refine lv_iconst (v := 1) hx hb dX6_next_227 (by decide) ?_
  refine lv_iadd hx hb dX6_next_228 ?_
  obtain ⟨μ229, e229, hf⟩ := nm_e2 hf
  refine pfX6_135 e229 C X dX6_next_229 (fun H locs X => ?_)
  refine lv_goto (tgt := 160) hx hb dX6_next_232 (by decide) ?_
  exact hK160 μ229 ν216 v219 hf _ _ X _ (lv_sub hl [1, 0] rfl)
set_option maxRecDepth 100000 in
set_option maxHeartbeats 4000000 in
theorem w6_next_3 {p : Program} {l : Launch} {e : Env} {s : State} {m : MethodId} {args : Array Value} {below : List Frame} {meth : Method} {c : Code} {D : va_G} {cy : Nat → ClassId} {ad : Nat → Nat} {μ1 : Mem} {ν1 : Lem} (C : Cx false p s m args meth c cX6_next 3 RX6 D cy ad) (hr : meth.sig.returnType = none) : ∀ (n : Nat), ∀ (μ : Mem) (ν : Lem) (x2 : Int32), f6_next_3 n μ ν x2 = some (μ1, ν1) → ∀ (H : Heap) (locs : List Loc), Wd false D cy ad s.heap μ ν H locs → ∀ (ls : Array Slot), lv_has ls 3 [(0, .ref (ad 0)), (2, .int x2)] → WV false p l e 1 25 s m args below meth c D cy ad μ1 ν1 H locs (F0 m 160 ls []) := by
  have hx := C.1.1
  have hb := C.1.2.1
  have hown := C.1.2.2.2.1
  have hts := C.1.2.2.2.2
  intro n
  induction n with
  | zero =>
    intro μ ν x2 hf H locs X ls hl
    rw [f6_next_3] at hf
    cases hf
  | succ n ih =>
    intro μ ν x2 hf H locs X ls hl
    rw [f6_next_3] at hf
    refine lv_aload_n hx hb dX6_next_160 rfl (lv_at hl 0 rfl) ?_
    refine lv_aload_n hx hb dX6_next_161 rfl (lv_at hl 0 rfl) ?_
    refine gfX6_135 C X dX6_next_162 ?_
    obtain ⟨r165, g165, hf⟩ := bd1_e hf
    refine qX6_138 g165 C X hl.1 ((Nat.le_of_ble_eq_true rfl)) ⟨(Nat.le_of_ble_eq_true rfl), (Nat.le_of_ble_eq_true rfl)⟩ ⟨Nat.zero_le _, Nat.zero_le _⟩ dX6_next_165 (fun H locs X b165 => ?_)
    refine lv_i2l hx hb dX6_next_168 rfl ?_
    refine lv_ldc2 (v := (48)) hx hb hown (hts _ k_979) dX6_next_169 ?_
    refine lv_ldc2 (v := (57)) hx hb hown (hts _ k_980) dX6_next_172 ?_
    refine qX6_92 rfl C X hl.1 ((Nat.le_of_ble_eq_true rfl)) ⟨(Nat.le_of_ble_eq_true rfl), (Nat.le_of_ble_eq_true rfl)⟩ ⟨Nat.zero_le _, Nat.zero_le _⟩ dX6_next_175 (fun H locs X b175 => ?_)
    refine lv_if_eq (tgt := 235) hx hb dX6_next_178 (by decide) (fun c178 => ?_) (fun c178 => ?_)
    · replace hf := ifp c178 hf
      refine lv_aload_n hx hb dX6_next_235 rfl (lv_at hl 0 rfl) ?_
      refine lv_iload_n hx hb dX6_next_236 rfl (lv_at hl 1 rfl) ?_
      refine lv_iconst (v := 4) hx hb dX6_next_237 (by decide) ?_
      refine lv_icmp_le (tgt := 245) hx hb dX6_next_238 (by decide) (fun c238 => ?_) (fun c238 => ?_)
      · replace hf := ifp c238 hf
        refine lv_iconst (v := 2) hx hb dX6_next_245 (by decide) ?_
        obtain ⟨μ246, e246, hf⟩ := nm_e2 hf
        refine pfX6_145 e246 C X dX6_next_246 (fun H locs X => ?_)
        refine lv_goto (tgt := 321) hx hb dX6_next_249 (by decide) ?_
        exact retV C X hr (so2 hf).1 (so2 hf).2 dX6_next_321
      · replace hf := ifn c238 hf
        refine lv_iconst (v := 4) hx hb dX6_next_241 (by decide) ?_
        refine lv_goto (tgt := 246) hx hb dX6_next_242 (by decide) ?_
        obtain ⟨μ246, e246, hf⟩ := nm_e2 hf
        refine pfX6_145 e246 C X dX6_next_246 (fun H locs X => ?_)
        refine lv_goto (tgt := 321) hx hb dX6_next_249 (by decide) ?_
        exact retV C X hr (so2 hf).1 (so2 hf).2 dX6_next_321
    · replace hf := ifn c178 hf
      refine lv_aload_n hx hb dX6_next_181 rfl (lv_at hl 0 rfl) ?_
      refine lv_iload_n hx hb dX6_next_182 rfl (lv_at hl 1 rfl) ?_
      refine lv_iconst (v := 4) hx hb dX6_next_183 (by decide) ?_
      refine lv_icmp_ge (tgt := 212) hx hb dX6_next_184 (by decide) (fun c184 => ?_) (fun c184 => ?_)
      · replace hf := ifp c184 hf
        refine lv_aload_n hx hb dX6_next_212 rfl (lv_at hl 0 rfl) ?_
        refine gfX6_156 C X dX6_next_213 ?_
        exact w6_next_4 C hr (f6_next_3 n) ih μ ν x2 (ν 0 25) hf _ _ X _ (lv_sub hl [0, 1] rfl)
      · replace hf := ifn c184 hf
        refine lv_ldc2 (v := (10)) hx hb hown (hts _ k_932) dX6_next_187 ?_
        refine lv_aload_n hx hb dX6_next_190 rfl (lv_at hl 0 rfl) ?_
        refine gfX6_156 C X dX6_next_191 ?_
        refine lv_lmul hx hb dX6_next_194 ?_
        refine lv_aload_n hx hb dX6_next_195 rfl (lv_at hl 0 rfl) ?_
        refine lv_aload_n hx hb dX6_next_196 rfl (lv_at hl 0 rfl) ?_
        refine gfX6_135 C X dX6_next_197 ?_
        obtain ⟨r200, g200, hf⟩ := bd1_e hf
        refine qX6_138 g200 C X hl.1 ((Nat.le_of_ble_eq_true rfl)) ⟨(Nat.le_of_ble_eq_true rfl), (Nat.le_of_ble_eq_true rfl)⟩ ⟨Nat.zero_le _, Nat.zero_le _⟩ dX6_next_200 (fun H locs X b200 => ?_)
        refine lv_i2l hx hb dX6_next_203 rfl ?_
        refine lv_ladd hx hb dX6_next_204 ?_
        refine lv_ldc2 (v := (48)) hx hb hown (hts _ k_979) dX6_next_205 ?_
        refine lv_lsub hx hb dX6_next_208 ?_
        refine lv_goto (tgt := 216) hx hb dX6_next_209 (by decide) ?_
        exact w6_next_4 C hr (f6_next_3 n) ih μ ν x2 ((((10 : Int64) * (ν 0 25)) + (r200.toInt64)) - (48 : Int64)) hf _ _ X _ (lv_sub hl [0, 1] rfl)
set_option maxRecDepth 100000 in
set_option maxHeartbeats 4000000 in
theorem w6_next_2 {p : Program} {l : Launch} {e : Env} {s : State} {m : MethodId} {args : Array Value} {below : List Frame} {meth : Method} {c : Code} {D : va_G} {cy : Nat → ClassId} {ad : Nat → Nat} {μ1 : Mem} {ν1 : Lem} (C : Cx false p s m args meth c cX6_next 3 RX6 D cy ad) (hr : meth.sig.returnType = none) : ∀ (n : Nat), ∀ (μ : Mem) (ν : Lem), f6_next_2 n μ ν = some (μ1, ν1) → ∀ (H : Heap) (locs : List Loc), Wd false D cy ad s.heap μ ν H locs → ∀ (ls : Array Slot), lv_has ls 3 [(0, .ref (ad 0))] → WV false p l e 1 25 s m args below meth c D cy ad μ1 ν1 H locs (F0 m 100 ls []) := by
  have hx := C.1.1
  have hb := C.1.2.1
  have hown := C.1.2.2.2.1
  have hts := C.1.2.2.2.2
  intro n
  induction n with
  | zero =>
    intro μ ν hf H locs X ls hl
    rw [f6_next_2] at hf
    cases hf
  | succ n ih =>
    intro μ ν hf H locs X ls hl
    rw [f6_next_2] at hf
    refine lv_aload_n hx hb dX6_next_100 rfl (lv_at hl 0 rfl) ?_
    refine lv_aload_n hx hb dX6_next_101 rfl (lv_at hl 0 rfl) ?_
    refine gfX6_135 C X dX6_next_102 ?_
    obtain ⟨r105, g105, hf⟩ := bd1_e hf
    refine qX6_138 g105 C X hl.1 ((Nat.le_of_ble_eq_true rfl)) ⟨(Nat.le_of_ble_eq_true rfl), (Nat.le_of_ble_eq_true rfl)⟩ ⟨Nat.zero_le _, Nat.zero_le _⟩ dX6_next_105 (fun H locs X b105 => ?_)
    refine lv_i2l hx hb dX6_next_108 rfl ?_
    refine lv_ldc2 (v := (97)) hx hb hown (hts _ k_977) dX6_next_109 ?_
    refine lv_ldc2 (v := (122)) hx hb hown (hts _ k_978) dX6_next_112 ?_
    refine qX6_92 rfl C X hl.1 ((Nat.le_of_ble_eq_true rfl)) ⟨(Nat.le_of_ble_eq_true rfl), (Nat.le_of_ble_eq_true rfl)⟩ ⟨Nat.zero_le _, Nat.zero_le _⟩ dX6_next_115 (fun H locs X b115 => ?_)
    refine lv_if_eq (tgt := 321) hx hb dX6_next_118 (by decide) (fun c118 => ?_) (fun c118 => ?_)
    · replace hf := ifp c118 hf
      exact retV C X hr (so2 hf).1 (so2 hf).2 dX6_next_321
    · replace hf := ifn c118 hf
      refine lv_aload_n hx hb dX6_next_121 rfl (lv_at hl 0 rfl) ?_
      refine lv_dup hx hb dX6_next_122 rfl ?_
      refine gfX6_135 C X dX6_next_123 ?_
      refine lv_iconst (v := 1) hx hb dX6_next_126 (by decide) ?_
      refine lv_iadd hx hb dX6_next_127 ?_
      obtain ⟨μ128, e128, hf⟩ := nm_e2 hf
      refine pfX6_135 e128 C X dX6_next_128 (fun H locs X => ?_)
      refine lv_goto (tgt := 100) hx hb dX6_next_131 (by decide) ?_
      exact ih μ128 ν hf _ _ X _ (lv_sub hl [0] rfl)
set_option maxRecDepth 100000 in
set_option maxHeartbeats 4000000 in
theorem w6_next_1 {p : Program} {l : Launch} {e : Env} {s : State} {m : MethodId} {args : Array Value} {below : List Frame} {meth : Method} {c : Code} {D : va_G} {cy : Nat → ClassId} {ad : Nat → Nat} {μ1 : Mem} {ν1 : Lem} (C : Cx false p s m args meth c cX6_next 3 RX6 D cy ad) (hr : meth.sig.returnType = none) : ∀ (n : Nat), ∀ (μ : Mem) (ν : Lem), f6_next_1 n μ ν = some (μ1, ν1) → ∀ (H : Heap) (locs : List Loc), Wd false D cy ad s.heap μ ν H locs → ∀ (ls : Array Slot), lv_has ls 3 [(0, .ref (ad 0))] → WV false p l e 1 25 s m args below meth c D cy ad μ1 ν1 H locs (F0 m 0 ls []) := by
  have hx := C.1.1
  have hb := C.1.2.1
  have hown := C.1.2.2.2.1
  have hts := C.1.2.2.2.2
  intro n
  induction n with
  | zero =>
    intro μ ν hf H locs X ls hl
    rw [f6_next_1] at hf
    cases hf
  | succ n ih =>
    intro μ ν hf H locs X ls hl
    rw [f6_next_1] at hf
    refine lv_aload_n hx hb dX6_next_0 rfl (lv_at hl 0 rfl) ?_
    refine lv_aload_n hx hb dX6_next_1 rfl (lv_at hl 0 rfl) ?_
    refine gfX6_135 C X dX6_next_2 ?_
    obtain ⟨r5, g5, hf⟩ := bd1_e hf
    refine qX6_138 g5 C X hl.1 ((Nat.le_of_ble_eq_true rfl)) ⟨(Nat.le_of_ble_eq_true rfl), (Nat.le_of_ble_eq_true rfl)⟩ ⟨Nat.zero_le _, Nat.zero_le _⟩ dX6_next_5 (fun H locs X b5 => ?_)
    refine lv_bipush (v := 32) hx hb dX6_next_8 (by decide) ?_
    refine lv_icmp_eq (tgt := 26) hx hb dX6_next_10 (by decide) (fun c10 => ?_) (fun c10 => ?_)
    · replace hf := ifp c10 hf
      refine lv_aload_n hx hb dX6_next_26 rfl (lv_at hl 0 rfl) ?_
      refine lv_dup hx hb dX6_next_27 rfl ?_
      refine gfX6_135 C X dX6_next_28 ?_
      refine lv_iconst (v := 1) hx hb dX6_next_31 (by decide) ?_
      refine lv_iadd hx hb dX6_next_32 ?_
      obtain ⟨μ33, e33, hf⟩ := nm_e2 hf
      refine pfX6_135 e33 C X dX6_next_33 (fun H locs X => ?_)
      refine lv_goto (tgt := 0) hx hb dX6_next_36 (by decide) ?_
      exact ih μ33 ν hf _ _ X _ (lv_sub hl [0] rfl)
    · replace hf := ifn c10 hf
      refine lv_aload_n hx hb dX6_next_13 rfl (lv_at hl 0 rfl) ?_
      refine lv_aload_n hx hb dX6_next_14 rfl (lv_at hl 0 rfl) ?_
      refine gfX6_135 C X dX6_next_15 ?_
      obtain ⟨r18, g18, hf⟩ := bd1_e hf
      refine qX6_138 g18 C X hl.1 ((Nat.le_of_ble_eq_true rfl)) ⟨(Nat.le_of_ble_eq_true rfl), (Nat.le_of_ble_eq_true rfl)⟩ ⟨Nat.zero_le _, Nat.zero_le _⟩ dX6_next_18 (fun H locs X b18 => ?_)
      refine lv_bipush (v := 10) hx hb dX6_next_21 (by decide) ?_
      refine lv_icmp_ne (tgt := 39) hx hb dX6_next_23 (by decide) (fun c23 => ?_) (fun c23 => ?_)
      · replace hf := ifn c23 hf
        refine lv_aload_n hx hb dX6_next_39 rfl (lv_at hl 0 rfl) ?_
        refine lv_aload_n hx hb dX6_next_40 rfl (lv_at hl 0 rfl) ?_
        refine gfX6_135 C X dX6_next_41 ?_
        obtain ⟨μ44, e44, hf⟩ := nm_e2 hf
        refine pfX6_142 e44 C X dX6_next_44 (fun H locs X => ?_)
        refine lv_aload_n hx hb dX6_next_47 rfl (lv_at hl 0 rfl) ?_
        refine lv_aload_n hx hb dX6_next_48 rfl (lv_at hl 0 rfl) ?_
        refine gfX6_135 C X dX6_next_49 ?_
        obtain ⟨r52, g52, hf⟩ := bd1_e hf
        refine qX6_138 g52 C X hl.1 ((Nat.le_of_ble_eq_true rfl)) ⟨(Nat.le_of_ble_eq_true rfl), (Nat.le_of_ble_eq_true rfl)⟩ ⟨Nat.zero_le _, Nat.zero_le _⟩ dX6_next_52 (fun H locs X b52 => ?_)
        refine lv_istore_n (lv' := [(1, .int r52), (0, .ref (ad 0))]) hx hb dX6_next_55 rfl hl (by decide) rfl (fun ls hl => ?_)
        refine lv_aload_n hx hb dX6_next_56 rfl (lv_at hl 1 rfl) ?_
        refine lv_iconst (v := 4) hx hb dX6_next_57 (by decide) ?_
        obtain ⟨μ58, e58, hf⟩ := nm_e2 hf
        refine pfX6_145 e58 C X dX6_next_58 (fun H locs X => ?_)
        refine lv_iload_n hx hb dX6_next_61 rfl (lv_at hl 0 rfl) ?_
        refine lv_if_ge (tgt := 81) hx hb dX6_next_62 (by decide) (fun c62 => ?_) (fun c62 => ?_)
        · replace hf := ifp c62 hf
          refine lv_iload_n hx hb dX6_next_81 rfl (lv_at hl 0 rfl) ?_
          refine lv_i2l hx hb dX6_next_82 rfl ?_
          refine lv_ldc2 (v := (97)) hx hb hown (hts _ k_977) dX6_next_83 ?_
          refine lv_ldc2 (v := (122)) hx hb hown (hts _ k_978) dX6_next_86 ?_
          refine qX6_92 rfl C X hl.1 ((Nat.le_of_ble_eq_true rfl)) ⟨(Nat.le_of_ble_eq_true rfl), (Nat.le_of_ble_eq_true rfl)⟩ ⟨Nat.zero_le _, Nat.zero_le _⟩ dX6_next_89 (fun H locs X b89 => ?_)
          refine lv_if_eq (tgt := 134) hx hb dX6_next_92 (by decide) (fun c92 => ?_) (fun c92 => ?_)
          · replace hf := ifp c92 hf
            refine lv_iload_n hx hb dX6_next_134 rfl (lv_at hl 0 rfl) ?_
            refine lv_i2l hx hb dX6_next_135 rfl ?_
            refine lv_ldc2 (v := (48)) hx hb hown (hts _ k_979) dX6_next_136 ?_
            refine lv_ldc2 (v := (57)) hx hb hown (hts _ k_980) dX6_next_139 ?_
            refine qX6_92 rfl C X hl.1 ((Nat.le_of_ble_eq_true rfl)) ⟨(Nat.le_of_ble_eq_true rfl), (Nat.le_of_ble_eq_true rfl)⟩ ⟨Nat.zero_le _, Nat.zero_le _⟩ dX6_next_142 (fun H locs X b142 => ?_)
            refine lv_if_eq (tgt := 252) hx hb dX6_next_145 (by decide) (fun c145 => ?_) (fun c145 => ?_)
            · replace hf := ifp c145 hf
              refine lv_iload_n hx hb dX6_next_252 rfl (lv_at hl 0 rfl) ?_
              refine lv_bipush (v := 40) hx hb dX6_next_253 (by decide) ?_
              refine lv_icmp_eq (tgt := 300) hx hb dX6_next_255 (by decide) (fun c255 => ?_) (fun c255 => ?_)
              · replace hf := ifp c255 hf
                exact w6_next_5 C hr  μ58 ν r52 hf _ _ X _ (lv_sub hl [1, 0] rfl)
              · replace hf := ifn c255 hf
                refine lv_iload_n hx hb dX6_next_258 rfl (lv_at hl 0 rfl) ?_
                refine lv_bipush (v := 41) hx hb dX6_next_259 (by decide) ?_
                refine lv_icmp_eq (tgt := 300) hx hb dX6_next_261 (by decide) (fun c261 => ?_) (fun c261 => ?_)
                · replace hf := ifp c261 hf
                  exact w6_next_5 C hr  μ58 ν r52 hf _ _ X _ (lv_sub hl [1, 0] rfl)
                · replace hf := ifn c261 hf
                  refine lv_iload_n hx hb dX6_next_264 rfl (lv_at hl 0 rfl) ?_
                  refine lv_bipush (v := 59) hx hb dX6_next_265 (by decide) ?_
                  refine lv_icmp_eq (tgt := 300) hx hb dX6_next_267 (by decide) (fun c267 => ?_) (fun c267 => ?_)
                  · replace hf := ifp c267 hf
                    exact w6_next_5 C hr  μ58 ν r52 hf _ _ X _ (lv_sub hl [1, 0] rfl)
                  · replace hf := ifn c267 hf
                    refine lv_iload_n hx hb dX6_next_270 rfl (lv_at hl 0 rfl) ?_
                    refine lv_bipush (v := 43) hx hb dX6_next_271 (by decide) ?_
                    refine lv_icmp_eq (tgt := 300) hx hb dX6_next_273 (by decide) (fun c273 => ?_) (fun c273 => ?_)
                    · replace hf := ifp c273 hf
                      exact w6_next_5 C hr  μ58 ν r52 hf _ _ X _ (lv_sub hl [1, 0] rfl)
                    · replace hf := ifn c273 hf
                      refine lv_iload_n hx hb dX6_next_276 rfl (lv_at hl 0 rfl) ?_
                      refine lv_bipush (v := 45) hx hb dX6_next_277 (by decide) ?_
                      refine lv_icmp_eq (tgt := 300) hx hb dX6_next_279 (by decide) (fun c279 => ?_) (fun c279 => ?_)
                      · replace hf := ifp c279 hf
                        exact w6_next_5 C hr  μ58 ν r52 hf _ _ X _ (lv_sub hl [1, 0] rfl)
                      · replace hf := ifn c279 hf
                        refine lv_iload_n hx hb dX6_next_282 rfl (lv_at hl 0 rfl) ?_
                        refine lv_bipush (v := 42) hx hb dX6_next_283 (by decide) ?_
                        refine lv_icmp_eq (tgt := 300) hx hb dX6_next_285 (by decide) (fun c285 => ?_) (fun c285 => ?_)
                        · replace hf := ifp c285 hf
                          exact w6_next_5 C hr  μ58 ν r52 hf _ _ X _ (lv_sub hl [1, 0] rfl)
                        · replace hf := ifn c285 hf
                          refine lv_iload_n hx hb dX6_next_288 rfl (lv_at hl 0 rfl) ?_
                          refine lv_bipush (v := 60) hx hb dX6_next_289 (by decide) ?_
                          refine lv_icmp_eq (tgt := 300) hx hb dX6_next_291 (by decide) (fun c291 => ?_) (fun c291 => ?_)
                          · replace hf := ifp c291 hf
                            exact w6_next_5 C hr  μ58 ν r52 hf _ _ X _ (lv_sub hl [1, 0] rfl)
                          · replace hf := ifn c291 hf
                            refine lv_iload_n hx hb dX6_next_294 rfl (lv_at hl 0 rfl) ?_
                            refine lv_bipush (v := 61) hx hb dX6_next_295 (by decide) ?_
                            refine lv_icmp_ne (tgt := 321) hx hb dX6_next_297 (by decide) (fun c297 => ?_) (fun c297 => ?_)
                            · replace hf := ifn c297 hf
                              exact retV C X hr (so2 hf).1 (so2 hf).2 dX6_next_321
                            · replace hf := ifp c297 hf
                              exact w6_next_5 C hr  μ58 ν r52 hf _ _ X _ (lv_sub hl [1, 0] rfl)
            · replace hf := ifn c145 hf
              refine lv_aload_n hx hb dX6_next_148 rfl (lv_at hl 1 rfl) ?_
              refine lv_iconst (v := 2) hx hb dX6_next_149 (by decide) ?_
              obtain ⟨μ150, e150, hf⟩ := nm_e2 hf
              refine pfX6_145 e150 C X dX6_next_150 (fun H locs X => ?_)
              refine lv_aload_n hx hb dX6_next_153 rfl (lv_at hl 1 rfl) ?_
              refine lv_lconst (v := 0) hx hb dX6_next_154 (by decide) ?_
              obtain ⟨ν155, e155, hf⟩ := nm_e2 hf
              refine pfX6_156 e155 C X dX6_next_155 (fun H locs X => ?_)
              refine lv_iconst (v := 0) hx hb dX6_next_158 (by decide) ?_
              refine lv_istore_n (lv' := [(2, .int 0), (1, .int r52), (0, .ref (ad 0))]) hx hb dX6_next_159 rfl hl (by decide) rfl (fun ls hl => ?_)
              exact w6_next_3 C hr  FUEL μ150 ν155 0 hf _ _ X _ (lv_sub hl [2, 0] rfl)
          · replace hf := ifn c92 hf
            refine lv_aload_n hx hb dX6_next_95 rfl (lv_at hl 1 rfl) ?_
            refine lv_iconst (v := 1) hx hb dX6_next_96 (by decide) ?_
            obtain ⟨μ97, e97, hf⟩ := nm_e2 hf
            refine pfX6_145 e97 C X dX6_next_97 (fun H locs X => ?_)
            exact w6_next_2 C hr  FUEL μ97 ν hf _ _ X _ (lv_sub hl [1] rfl)
        · replace hf := ifn c62 hf
          refine lv_aload_n hx hb dX6_next_65 rfl (lv_at hl 1 rfl) ?_
          refine lv_iconst (v := 0) hx hb dX6_next_66 (by decide) ?_
          obtain ⟨μ67, e67, hf⟩ := nm_e2 hf
          refine pfX6_145 e67 C X dX6_next_67 (fun H locs X => ?_)
          refine lv_aload_n hx hb dX6_next_70 rfl (lv_at hl 1 rfl) ?_
          refine lv_aload_n hx hb dX6_next_71 rfl (lv_at hl 1 rfl) ?_
          refine gfX6_129 C X dX6_next_72 ?_
          obtain ⟨μ75, e75, hf⟩ := nm_e2 hf
          refine pfX6_142 e75 C X dX6_next_75 (fun H locs X => ?_)
          refine lv_goto (tgt := 321) hx hb dX6_next_78 (by decide) ?_
          exact retV C X hr (so2 hf).1 (so2 hf).2 dX6_next_321
      · replace hf := ifp c23 hf
        refine lv_aload_n hx hb dX6_next_26 rfl (lv_at hl 0 rfl) ?_
        refine lv_dup hx hb dX6_next_27 rfl ?_
        refine gfX6_135 C X dX6_next_28 ?_
        refine lv_iconst (v := 1) hx hb dX6_next_31 (by decide) ?_
        refine lv_iadd hx hb dX6_next_32 ?_
        obtain ⟨μ33, e33, hf⟩ := nm_e2 hf
        refine pfX6_135 e33 C X dX6_next_33 (fun H locs X => ?_)
        refine lv_goto (tgt := 0) hx hb dX6_next_36 (by decide) ?_
        exact ih μ33 ν hf _ _ X _ (lv_sub hl [0] rfl)
set_option maxRecDepth 100000 in
set_option maxHeartbeats 4000000 in
theorem w6_next {p : Program} {l : Launch} {e : Env} {s : State} {m : MethodId} {args : Array Value} {below : List Frame} {meth : Method} {c : Code} {D : va_G} {cy : Nat → ClassId} {ad : Nat → Nat} {μ1 : Mem} {ν1 : Lem} (C : Cx false p s m args meth c cX6_next 3 RX6 D cy ad) (hr : meth.sig.returnType = none) : ∀ (μ : Mem) (ν : Lem), f6_next μ ν = some (μ1, ν1) → ∀ (H : Heap) (locs : List Loc), Wd false D cy ad s.heap μ ν H locs → ∀ (ls : Array Slot), lv_has ls 3 [(0, .ref (ad 0))] → WV false p l e 1 25 s m args below meth c D cy ad μ1 ν1 H locs (F0 m 0 ls []) := by
  have hx := C.1.1
  have hb := C.1.2.1
  have hown := C.1.2.2.2.1
  have hts := C.1.2.2.2.2
  intro μ ν hf H locs X ls hl
  unfold f6_next at hf
  exact w6_next_1 C hr  FUEL μ ν hf _ _ X _ (lv_sub hl [0] rfl)
theorem ct6_next {μ : Mem} {ν : Lem} {μ1 : Mem} {ν1 : Lem} (hg : f6_next μ ν = some (μ1, ν1)) : CtV false yX6_next cX6_next 3 1 25 (fun ad => [.ref (ad 0)]) μ ν μ1 ν1 :=
  mkV (by decide) rfl (fun ad => Nat.le_of_ble_eq_true rfl) (fun p l e s m args below meth c D cy ad C hr X ls hl => w6_next C hr μ ν hg _ _ X _ hl)
theorem qX6_177 {p : Program} {l : Launch} {e : Env} {R : Room} {s : State} {m : MethodId} {args : Array Value} {below : List Frame} {meth : Method} {c : Code} {H : Heap} {locs : List Loc} {cells slots : Nat} {Q : State → Prop} {A : Nat → Prop} {cc : ByteArray} {nL : Nat} {D : va_G} {cy : Nat → ClassId} {ad : Nat → Nat} {μ : Mem} {ν : Lem} {pc : Nat} {ls : Array Slot} {rest : List Value} {μ1 : Mem} {ν1 : Lem} (hg : f6_next μ ν = some (μ1, ν1)) (C : CxA false A p s m args meth c cc nL RX6 D cy ad) (X : WdA false A D cy ad s.heap μ ν H locs) (hsz : ls.size = nL) (hrm : (rest.map fun v => v.category).sum ≤ 8) (hR : 1 + 1 ≤ R.frames ∧ 8 + (3 + 11) + 25 ≤ R.locals) (hcs : cells ≤ R.cells ∧ slots ≤ R.slots) (hd : decode cc pc = .ok (.invokevirtual 177, 3)) (kk : ∀ (H1 : Heap) (locs1 : List Loc), WdA false A D cy ad s.heap μ1 ν1 H1 locs1 → W p l e R s m args below meth c H1 locs1 cells slots Q (F0 m (pc + 3) ls rest)) : W p l e R s m args below meth c H locs cells slots Q (F0 m pc ls (.ref (ad 0) :: rest)) :=
  rCVV (As := []) (k := 0) (ct6_next hg) ok6 lX6_next k_969 rfl rfl rfl C X rfl hrm hsz hR hcs hd kk
