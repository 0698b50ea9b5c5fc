set_option maxRecDepth 100000 in
set_option maxHeartbeats 4000000 in
theorem w6_more {p : Program} {l : Launch} {e : Env} {s : State} {m : MethodId} {args : Array Value} {below : List Frame} {meth : Method} {c : Code} {D : va_G} {cy : Nat → ClassId} {ad : Nat → Nat} {r : Int64} {μ : Mem} {ν : Lem} (C : Cx false p s m args meth c cX6_more 3 RX6 D cy ad) (hr : meth.sig.returnType = some .long) : ∀ (x1 : Int32) (x2 : Int32), f6_more μ ν x1 x2 = some r → ∀ (H : Heap) (locs : List Loc), Wd false D cy ad s.heap μ ν H locs → ∀ (ls : Array Slot), lv_has ls 3 [(0, .ref (ad 0)), (1, .int x1), (2, .int x2)] → WL false p l e 0 0 s m args below meth c D cy ad r μ ν H locs (F0 m 0 ls []) := by
  have hx := C.1.1
  have hb := C.1.2.1
  have hown := C.1.2.2.2.1
  have hts := C.1.2.2.2.2
  intro x1 x2 hf H locs X ls hl
  unfold f6_more at hf
  refine lv_ldc2 (v := (600)) hx hb hown (hts _ k_947) dX6_more_0 ?_
  refine lv_aload_n hx hb dX6_more_3 rfl (lv_at hl 0 rfl) ?_
  refine gfX6_41 C X dX6_more_4 ?_
  refine lv_iload_n hx hb dX6_more_7 rfl (lv_at hl 1 rfl) ?_
  refine lv_iload_n hx hb dX6_more_8 rfl (lv_at hl 2 rfl) ?_
  refine lv_iadd hx hb dX6_more_9 ?_
  obtain ⟨h10, hf⟩ := gd_e hf
  refine rLald C X rfl h10 dX6_more_10 ?_
  refine lv_aload_n hx hb dX6_more_11 rfl (lv_at hl 0 rfl) ?_
  refine gfX6_41 C X dX6_more_12 ?_
  refine lv_iload_n hx hb dX6_more_15 rfl (lv_at hl 1 rfl) ?_
  obtain ⟨h16, hf⟩ := gd_e hf
  refine rLald C X rfl h16 dX6_more_16 ?_
  refine lv_lsub hx hb dX6_more_17 ?_
  refine lv_lmul hx hb dX6_more_18 ?_
  refine lv_iload_n hx hb dX6_more_19 rfl (lv_at hl 2 rfl) ?_
  refine lv_i2l hx hb dX6_more_20 rfl ?_
  refine lv_aload_n hx hb dX6_more_21 rfl (lv_at hl 0 rfl) ?_
  refine gfX6_41 C X dX6_more_22 ?_
  refine lv_sipush (v := 600) hx hb dX6_more_25 (by decide) ?_
  obtain ⟨h28, hf⟩ := gd_e hf
  refine rLald C X rfl h28 dX6_more_28 ?_
  refine lv_lmul hx hb dX6_more_29 ?_
  refine lv_lsub hx hb dX6_more_30 ?_
  exact retL C X hr (Option.some.inj hf) rfl rfl dX6_more_31
theorem ct6_more {x1 : Int32} {x2 : Int32} {μ : Mem} {ν : Lem} {r : Int64} (hg : f6_more μ ν x1 x2 = some r) : CtL false yX6_more cX6_more 3 0 0 (fun ad => [.ref (ad 0), .int x1, .int x2]) μ ν r μ ν :=
  mkL (by decide) rfl (fun ad => Nat.le_of_ble_eq_true rfl) (fun p l e s m args below meth c D cy ad C hr X ls hl => w6_more C hr x1 x2 hg _ _ X _ hl)
theorem qX6_353 {p : Program} {l : Launch} {e : Env} {R : Room} {s : State} {m : MethodId} {args : Array Value} {below : List Frame} {meth : Method} {c : Code} {H : Heap} {locs : List Loc} {cells slots : Nat} {Q : State → Prop} {A : Nat → Prop} {cc : ByteArray} {nL : Nat} {D : va_G} {cy : Nat → ClassId} {ad : Nat → Nat} {μ : Mem} {ν : Lem} {pc : Nat} {ls : Array Slot} {rest : List Value} {x1 : Int32} {x2 : Int32} {r : Int64} (hg : f6_more μ ν x1 x2 = some r) (C : CxA false A p s m args meth c cc nL RX6 D cy ad) (X : WdA false A D cy ad s.heap μ ν H locs) (hsz : ls.size = nL) (hrm : (rest.map fun v => v.category).sum ≤ 8) (hR : 0 + 1 ≤ R.frames ∧ 8 + (3 + 11) + 0 ≤ R.locals) (hcs : cells ≤ R.cells ∧ slots ≤ R.slots) (hd : decode cc pc = .ok (.invokevirtual 353, 3)) (kk : ∀ (H1 : Heap) (locs1 : List Loc), WdA false A D cy ad s.heap μ ν H1 locs1 → W p l e R s m args below meth c H1 locs1 cells slots Q (F0 m (pc + 3) ls (.long r :: rest))) : W p l e R s m args below meth c H locs cells slots Q (F0 m pc ls (.int x2 :: .int x1 :: .ref (ad 0) :: rest)) :=
  rCVL (As := [.int x1, .int x2]) (k := 0) (ct6_more hg) ok6 lX6_more k_1203 rfl rfl rfl C X rfl hrm hsz hR hcs hd kk
set_option maxRecDepth 100000 in
set_option maxHeartbeats 4000000 in
theorem w6_areUnlike_1 {p : Program} {l : Launch} {e : Env} {s : State} {m : MethodId} {args : Array Value} {below : List Frame} {meth : Method} {c : Code} {D : va_G} {cy : Nat → ClassId} {ad : Nat → Nat} {r : Int32} {μ : Mem} {ν : Lem} (C : Cx false p s m args meth c cX6_areUnlike 4 RX6 D cy ad) (hr : meth.sig.returnType = some .boolean) : ∀ (x0 : Int64) (x2 : Int64), f6_areUnlike_1 x0 x2 = r → ∀ (H : Heap) (locs : List Loc), Wd false D cy ad s.heap μ ν H locs → ∀ (ls : Array Slot), lv_has ls 4 [(0, .long x0), (2, .long x2)] → WI false p l e 0 0 s m args below meth c D cy ad .boolean r μ ν H locs (F0 m 12 ls []) := by
  have hx := C.1.1
  have hb := C.1.2.1
  have hown := C.1.2.2.2.1
  have hts := C.1.2.2.2.2
  intro x0 x2 hf H locs X ls hl
  unfold f6_areUnlike_1 at hf
  refine lv_lload_n hx hb dX6_areUnlike_12 rfl (lv_at hl 0 rfl) ?_
  refine lv_lconst (v := 0) hx hb dX6_areUnlike_13 (by decide) ?_
  refine W.lcmp hx hb dX6_areUnlike_14 ?_
  refine lv_if_ge (tgt := 28) hx hb dX6_areUnlike_15 (by decide) (fun c15 => ?_) (fun c15 => ?_)
  · replace hf := ifp c15 hf
    refine lv_iconst (v := 0) hx hb dX6_areUnlike_28 (by decide) ?_
    exact retI C X hr rfl hf rfl rfl dX6_areUnlike_29
  · replace hf := ifn c15 hf
    refine lv_lload_n hx hb dX6_areUnlike_18 rfl (lv_at hl 1 rfl) ?_
    refine lv_lconst (v := 0) hx hb dX6_areUnlike_19 (by decide) ?_
    refine W.lcmp hx hb dX6_areUnlike_20 ?_
    refine lv_if_le (tgt := 28) hx hb dX6_areUnlike_21 (by decide) (fun c21 => ?_) (fun c21 => ?_)
    · replace hf := ifp c21 hf
      refine lv_iconst (v := 0) hx hb dX6_areUnlike_28 (by decide) ?_
      exact retI C X hr rfl hf rfl rfl dX6_areUnlike_29
    · replace hf := ifn c21 hf
      refine lv_iconst (v := 1) hx hb dX6_areUnlike_24 (by decide) ?_
      refine lv_goto (tgt := 29) hx hb dX6_areUnlike_25 (by decide) ?_
      exact retI C X hr rfl hf rfl rfl dX6_areUnlike_29
set_option maxRecDepth 100000 in
set_option maxHeartbeats 4000000 in
theorem w6_areUnlike {p : Program} {l : Launch} {e : Env} {s : State} {m : MethodId} {args : Array Value} {below : List Frame} {meth : Method} {c : Code} {D : va_G} {cy : Nat → ClassId} {ad : Nat → Nat} {r : Int32} {μ : Mem} {ν : Lem} (C : Cx false p s m args meth c cX6_areUnlike 4 RX6 D cy ad) (hr : meth.sig.returnType = some .boolean) : ∀ (x0 : Int64) (x2 : Int64), f6_areUnlike x0 x2 = r → ∀ (H : Heap) (locs : List Loc), Wd false D cy ad s.heap μ ν H locs → ∀ (ls : Array Slot), lv_has ls 4 [(0, .long x0), (2, .long x2)] → WI false p l e 0 0 s m args below meth c D cy ad .boolean r μ ν H locs (F0 m 0 ls []) := by
  have hx := C.1.1
  have hb := C.1.2.1
  have hown := C.1.2.2.2.1
  have hts := C.1.2.2.2.2
  intro x0 x2 hf H locs X ls hl
  unfold f6_areUnlike at hf
  refine lv_lload_n hx hb dX6_areUnlike_0 rfl (lv_at hl 0 rfl) ?_
  refine lv_lconst (v := 0) hx hb dX6_areUnlike_1 (by decide) ?_
  refine W.lcmp hx hb dX6_areUnlike_2 ?_
  refine lv_if_le (tgt := 12) hx hb dX6_areUnlike_3 (by decide) (fun c3 => ?_) (fun c3 => ?_)
  · replace hf := ifp c3 hf
    exact w6_areUnlike_1 C hr  x0 x2 hf _ _ X _ (lv_sub hl [0, 1] rfl)
  · replace hf := ifn c3 hf
    refine lv_lload_n hx hb dX6_areUnlike_6 rfl (lv_at hl 1 rfl) ?_
    refine lv_lconst (v := 0) hx hb dX6_areUnlike_7 (by decide) ?_
    refine W.lcmp hx hb dX6_areUnlike_8 ?_
    refine lv_if_lt (tgt := 24) hx hb dX6_areUnlike_9 (by decide) (fun c9 => ?_) (fun c9 => ?_)
    · replace hf := ifp c9 hf
      refine lv_iconst (v := 1) hx hb dX6_areUnlike_24 (by decide) ?_
      refine lv_goto (tgt := 29) hx hb dX6_areUnlike_25 (by decide) ?_
      exact retI C X hr rfl hf rfl rfl dX6_areUnlike_29
    · replace hf := ifn c9 hf
      exact w6_areUnlike_1 C hr  x0 x2 hf _ _ X _ (lv_sub hl [0, 1] rfl)
theorem ct6_areUnlike {x0 : Int64} {x2 : Int64} {μ : Mem} {ν : Lem} {r : Int32} (hg : f6_areUnlike x0 x2 = r) : CtI false yX6_areUnlike cX6_areUnlike 4 0 0 .boolean (fun ad => [.long x0, .long x2]) μ ν r μ ν :=
  mkI (by decide) rfl (fun ad => Nat.le_of_ble_eq_true rfl) (fun p l e s m args below meth c D cy ad C hr X ls hl => w6_areUnlike C hr x0 x2 hg _ _ X _ hl)
theorem qX6_357 {p : Program} {l : Launch} {e : Env} {R : Room} {s : State} {m : MethodId} {args : Array Value} {below : List Frame} {meth : Method} {c : Code} {H : Heap} {locs : List Loc} {cells slots : Nat} {Q : State → Prop} {A : Nat → Prop} {cc : ByteArray} {nL : Nat} {D : va_G} {cy : Nat → ClassId} {ad : Nat → Nat} {μ : Mem} {ν : Lem} {pc : Nat} {ls : Array Slot} {rest : List Value} {x0 : Int64} {x2 : Int64} {r : Int32} (hg : f6_areUnlike x0 x2 = r) (C : CxA false A p s m args meth c cc nL RX6 D cy ad) (X : WdA false A D cy ad s.heap μ ν H locs) (hsz : ls.size = nL) (hrm : (rest.map fun v => v.category).sum ≤ 8) (hR : 0 + 1 ≤ R.frames ∧ 8 + (4 + 11) + 0 ≤ R.locals) (hcs : cells ≤ R.cells ∧ slots ≤ R.slots) (hd : decode cc pc = .ok (.invokestatic 357, 3)) (kk : ∀ (H1 : Heap) (locs1 : List Loc), WdA false A D cy ad s.heap μ ν H1 locs1 → narrow .boolean (.int r) = .int r → W p l e R s m args below meth c H1 locs1 cells slots Q (F0 m (pc + 3) ls (.int r :: rest))) : W p l e R s m args below meth c H locs cells slots Q (F0 m pc ls (.long x2 :: .long x0 :: rest)) :=
  rCSI (As := [.long x0, .long x2]) (ct6_areUnlike hg) lX6_areUnlike k_1207 rfl rfl C X rfl hrm hsz hR hcs hd kk
set_option maxRecDepth 100000 in
set_option maxHeartbeats 4000000 in
theorem w6_mean_1 {p : Program} {l : Launch} {e : Env} {s : State} {m : MethodId} {args : Array Value} {below : List Frame} {meth : Method} {c : Code} {D : va_G} {cy : Nat → ClassId} {ad : Nat → Nat} {r : Int32} {μ1 : Mem} {ν1 : Lem} (C : Cx false p s m args meth c cX6_mean 4 RX6 D cy ad) (hr : meth.sig.returnType = some .int) : ∀ (n : Nat), ∀ (μ : Mem) (ν : Lem) (x2 : Int32) (x3 : Int32), f6_mean_1 n μ ν x2 x3 = some (r, μ1, ν1) → ∀ (H : Heap) (locs : List Loc), Wd false D cy ad s.heap μ ν H locs → ∀ (ls : Array Slot), lv_has ls 4 [(0, .ref (ad 0)), (2, .int x2), (3, .int x3)] → WI false p l e 4 96 s m args below meth c D cy ad .int r μ1 ν1 H locs (F0 m 30 ls []) := by
  have hx := C.1.1
  have hb := C.1.2.1
  have hown := C.1.2.2.2.1
  have hts := C.1.2.2.2.2
  intro n
  induction n with
  | zero =>
    intro μ ν x2 x3 hf H locs X ls hl
    rw [f6_mean_1] at hf
    cases hf
  | succ n ih =>
    intro μ ν x2 x3 hf H locs X ls hl
    rw [f6_mean_1] at hf
    refine lv_iload_n hx hb dX6_mean_30 rfl (lv_at hl 2 rfl) ?_
    refine lv_sipush (v := 600) hx hb dX6_mean_31 (by decide) ?_
    refine lv_iload_n hx hb dX6_mean_34 rfl (lv_at hl 1 rfl) ?_
    refine lv_isub hx hb dX6_mean_35 ?_
    refine lv_icmp_gt (tgt := 87) hx hb dX6_mean_36 (by decide) (fun c36 => ?_) (fun c36 => ?_)
    · replace hf := ifp c36 hf
      refine lv_iconst (v := (-1)) hx hb dX6_mean_87 (by decide) ?_
      exact retI C X hr rfl (so3 hf).1 (so3 hf).2.1 (so3 hf).2.2 dX6_mean_88
    · replace hf := ifn c36 hf
      refine lv_aload_n hx hb dX6_mean_39 rfl (lv_at hl 0 rfl) ?_
      refine lv_iload_n hx hb dX6_mean_40 rfl (lv_at hl 2 rfl) ?_
      refine lv_iload_n hx hb dX6_mean_41 rfl (lv_at hl 1 rfl) ?_
      obtain ⟨r42, g42, hf⟩ := bd1_e hf
      refine qX6_353 g42 C X hl.1 ((Nat.le_of_ble_eq_true rfl)) ⟨(Nat.le_of_ble_eq_true rfl), (Nat.le_of_ble_eq_true rfl)⟩ ⟨Nat.zero_le _, Nat.zero_le _⟩ dX6_mean_42 (fun H locs X => ?_)
      refine lv_lconst (v := 0) hx hb dX6_mean_45 (by decide) ?_
      refine W.lcmp hx hb dX6_mean_46 ?_
      refine lv_if_eq (tgt := 79) hx hb dX6_mean_47 (by decide) (fun c47 => ?_) (fun c47 => ?_)
      · replace hf := ifp c47 hf
        refine lv_iload_n hx hb dX6_mean_79 rfl (lv_at hl 2 rfl) ?_
        exact retI C X hr rfl (so3 hf).1 (so3 hf).2.1 (so3 hf).2.2 dX6_mean_80
      · replace hf := ifn c47 hf
        refine lv_iload_n hx hb dX6_mean_50 rfl (lv_at hl 2 rfl) ?_
        refine lv_sipush (v := 600) hx hb dX6_mean_51 (by decide) ?_
        refine lv_iload_n hx hb dX6_mean_54 rfl (lv_at hl 1 rfl) ?_
        refine lv_isub hx hb dX6_mean_55 ?_
        refine lv_icmp_ge (tgt := 81) hx hb dX6_mean_56 (by decide) (fun c56 => ?_) (fun c56 => ?_)
        · replace hf := ifp c56 hf
          obtain ⟨v81, e81, hf⟩ := nm_e2 hf
          refine rIinc (lv' := [(3, .int v81), (0, .ref (ad 0)), (2, .int x2)]) hx hb dX6_mean_81 hl (k := 2) rfl e81 rfl (by decide) rfl (fun ls hl => ?_)
          refine lv_goto (tgt := 30) hx hb dX6_mean_84 (by decide) ?_
          exact ih μ ν x2 v81 hf _ _ X _ (lv_sub hl [1, 2, 0] rfl)
        · replace hf := ifn c56 hf
          refine lv_aload_n hx hb dX6_mean_59 rfl (lv_at hl 0 rfl) ?_
          refine lv_iload_n hx hb dX6_mean_60 rfl (lv_at hl 2 rfl) ?_
          refine lv_iload_n hx hb dX6_mean_61 rfl (lv_at hl 1 rfl) ?_
          obtain ⟨r62, g62, hf⟩ := bd1_e hf
          refine qX6_353 g62 C X hl.1 ((Nat.le_of_ble_eq_true rfl)) ⟨(Nat.le_of_ble_eq_true rfl), (Nat.le_of_ble_eq_true rfl)⟩ ⟨Nat.zero_le _, Nat.zero_le _⟩ dX6_mean_62 (fun H locs X => ?_)
          refine lv_aload_n hx hb dX6_mean_65 rfl (lv_at hl 0 rfl) ?_
          refine lv_iload_n hx hb dX6_mean_66 rfl (lv_at hl 2 rfl) ?_
          refine lv_iconst (v := 1) hx hb dX6_mean_67 (by decide) ?_
          refine lv_iadd hx hb dX6_mean_68 ?_
          refine lv_iload_n hx hb dX6_mean_69 rfl (lv_at hl 1 rfl) ?_
          obtain ⟨r70, g70, hf⟩ := bd1_e hf
          refine qX6_353 g70 C X hl.1 ((Nat.le_of_ble_eq_true rfl)) ⟨(Nat.le_of_ble_eq_true rfl), (Nat.le_of_ble_eq_true rfl)⟩ ⟨Nat.zero_le _, Nat.zero_le _⟩ dX6_mean_70 (fun H locs X => ?_)
          refine qX6_357 rfl C X hl.1 ((Nat.le_of_ble_eq_true rfl)) ⟨(Nat.le_of_ble_eq_true rfl), (Nat.le_of_ble_eq_true rfl)⟩ ⟨Nat.zero_le _, Nat.zero_le _⟩ dX6_mean_73 (fun H locs X b73 => ?_)
          refine lv_if_eq (tgt := 81) hx hb dX6_mean_76 (by decide) (fun c76 => ?_) (fun c76 => ?_)
          · replace hf := ifp c76 hf
            obtain ⟨v81, e81, hf⟩ := nm_e2 hf
            refine rIinc (lv' := [(3, .int v81), (0, .ref (ad 0)), (2, .int x2)]) hx hb dX6_mean_81 hl (k := 2) rfl e81 rfl (by decide) rfl (fun ls hl => ?_)
            refine lv_goto (tgt := 30) hx hb dX6_mean_84 (by decide) ?_
            exact ih μ ν x2 v81 hf _ _ X _ (lv_sub hl [1, 2, 0] rfl)
          · replace hf := ifn c76 hf
            refine lv_iload_n hx hb dX6_mean_79 rfl (lv_at hl 2 rfl) ?_
            exact retI C X hr rfl (so3 hf).1 (so3 hf).2.1 (so3 hf).2.2 dX6_mean_80
set_option maxRecDepth 100000 in
set_option maxHeartbeats 4000000 in
theorem w6_mean {p : Program} {l : Launch} {e : Env} {s : State} {m : MethodId} {args : Array Value} {below : List Frame} {meth : Method} {c : Code} {D : va_G} {cy : Nat → ClassId} {ad : Nat → Nat} {r : Int32} {μ1 : Mem} {ν1 : Lem} (C : Cx false p s m args meth c cX6_mean 4 RX6 D cy ad) (hr : meth.sig.returnType = some .int) : ∀ (μ : Mem) (ν : Lem) (x1 : Int32) (x2 : Int32), f6_mean μ ν x1 x2 = some (r, μ1, ν1) → ∀ (H : Heap) (locs : List Loc), Wd false D cy ad s.heap μ ν H locs → ∀ (ls : Array Slot), lv_has ls 4 [(0, .ref (ad 0)), (1, .int x1), (2, .int x2)] → WI false p l e 4 96 s m args below meth c D cy ad .int r μ1 ν1 H locs (F0 m 0 ls []) := by
  have hx := C.1.1
  have hb := C.1.2.1
  have hown := C.1.2.2.2.1
  have hts := C.1.2.2.2.2
  intro μ ν x1 x2 hf H locs X ls hl
  unfold f6_mean at hf
  refine lv_aload_n hx hb dX6_mean_0 rfl (lv_at hl 0 rfl) ?_
  refine lv_iload_n hx hb dX6_mean_1 rfl (lv_at hl 1 rfl) ?_
  refine qX6_96 rfl C X hl.1 ((Nat.le_of_ble_eq_true rfl)) ⟨(Nat.le_of_ble_eq_true rfl), (Nat.le_of_ble_eq_true rfl)⟩ ⟨Nat.zero_le _, Nat.zero_le _⟩ dX6_mean_2 (fun H locs X b2 => ?_)
  refine lv_if_eq (tgt := 20) hx hb dX6_mean_5 (by decide) (fun c5 => ?_) (fun c5 => ?_)
  · replace hf := ifp c5 hf
    refine lv_bipush (v := (-2)) hx hb dX6_mean_20 (by decide) ?_
    exact retI C X hr rfl (so3 hf).1 (so3 hf).2.1 (so3 hf).2.2 dX6_mean_22
  · replace hf := ifn c5 hf
    refine lv_iload_n hx hb dX6_mean_8 rfl (lv_at hl 2 rfl) ?_
    refine lv_i2l hx hb dX6_mean_9 rfl ?_
    refine lv_lconst (v := 1) hx hb dX6_mean_10 (by decide) ?_
    refine lv_ldc2 (v := (300)) hx hb hown (hts _ k_1202) dX6_mean_11 ?_
    refine qX6_92 rfl C X hl.1 ((Nat.le_of_ble_eq_true rfl)) ⟨(Nat.le_of_ble_eq_true rfl), (Nat.le_of_ble_eq_true rfl)⟩ ⟨Nat.zero_le _, Nat.zero_le _⟩ dX6_mean_14 (fun H locs X b14 => ?_)
    refine lv_if_ne (tgt := 23) hx hb dX6_mean_17 (by decide) (fun c17 => ?_) (fun c17 => ?_)
    · replace hf := ifn c17 hf
      refine lv_aload_n hx hb dX6_mean_23 rfl (lv_at hl 0 rfl) ?_
      refine lv_iload_n hx hb dX6_mean_24 rfl (lv_at hl 1 rfl) ?_
      obtain ⟨μ25, ν25, g25, hf⟩ := bd2_e hf
      refine qX6_347 g25 C X hl.1 ((Nat.le_of_ble_eq_true rfl)) ⟨(Nat.le_of_ble_eq_true rfl), (Nat.le_of_ble_eq_true rfl)⟩ ⟨Nat.zero_le _, Nat.zero_le _⟩ dX6_mean_25 (fun H locs X => ?_)
      refine lv_iconst (v := 0) hx hb dX6_mean_28 (by decide) ?_
      refine lv_istore_n (lv' := [(3, .int 0), (0, .ref (ad 0)), (1, .int x1), (2, .int x2)]) hx hb dX6_mean_29 rfl hl (by decide) rfl (fun ls hl => ?_)
      exact w6_mean_1 C hr  FUEL μ25 ν25 x2 0 hf _ _ X _ (lv_sub hl [1, 3, 0] rfl)
    · replace hf := ifp c17 hf
      refine lv_bipush (v := (-2)) hx hb dX6_mean_20 (by decide) ?_
      exact retI C X hr rfl (so3 hf).1 (so3 hf).2.1 (so3 hf).2.2 dX6_mean_22
theorem ct6_mean {x1 : Int32} {x2 : Int32} {μ : Mem} {ν : Lem} {r : Int32} {μ1 : Mem} {ν1 : Lem} (hg : f6_mean μ ν x1 x2 = some (r, μ1, ν1)) : CtI false yX6_mean cX6_mean 4 4 96 .int (fun ad => [.ref (ad 0), .int x1, .int x2]) μ ν r μ1 ν1 :=
  mkI (by decide) rfl (fun ad => Nat.le_of_ble_eq_true rfl) (fun p l e s m args below meth c D cy ad C hr X ls hl => w6_mean C hr μ ν x1 x2 hg _ _ X _ hl)
theorem qL_64 {p : Program} {l : Launch} {e : Env} {R : Room} {s : State} {m : MethodId} {args : Array Value} {below : List Frame} {meth : Method} {c : Code} {H : Heap} {locs : List Loc} {cells slots : Nat} {Q : State → Prop} {A : Nat → Prop} {cc : ByteArray} {nL : Nat} {D : va_G} {cy : Nat → ClassId} {ad : Nat → Nat} {μ : Mem} {ν : Lem} {pc : Nat} {ls : Array Slot} {rest : List Value} {x1 : Int32} {x2 : Int32} {r : Int32} {μ1 : Mem} {ν1 : Lem} (hg : f6_mean μ ν x1 x2 = some (r, μ1, ν1)) (C : CxA false A p s m args meth c cc nL RL D cy ad) (X : WdA false A D cy ad s.heap μ ν H locs) (hsz : ls.size = nL) (hrm : (rest.map fun v => v.category).sum ≤ 8) (hR : 4 + 1 ≤ R.frames ∧ 8 + (4 + 11) + 96 ≤ R.locals) (hcs : cells ≤ R.cells ∧ slots ≤ R.slots) (hd : decode cc pc = .ok (.invokevirtual 64, 3)) (kk : ∀ (H1 : Heap) (locs1 : List Loc), WdA false A D cy ad s.heap μ1 ν1 H1 locs1 → narrow .int (.int r) = .int r → W p l e R s m args below meth c H1 locs1 cells slots Q (F0 m (pc + 3) ls (.int r :: rest))) : W p l e R s m args below meth c H locs cells slots Q (F0 m pc ls (.int x2 :: .int x1 :: .ref (ad 0) :: rest)) :=
  rCVI (As := [.int x1, .int x2]) (k := 0) (ct6_mean hg) ok6 lX6_mean k_1198 rfl rfl rfl C X rfl hrm hsz hR hcs hd kk
set_option maxRecDepth 100000 in
set_option maxHeartbeats 4000000 in
theorem w6_half_2 {p : Program} {l : Launch} {e : Env} {s : State} {m : MethodId} {args : Array Value} {below : List Frame} {meth : Method} {c : Code} {D : va_G} {cy : Nat → ClassId} {ad : Nat → Nat} {r : Int32} {μ1 : Mem} {ν1 : Lem} (C : Cx false p s m args meth c cX6_half 7 RX6 D cy ad) (hr : meth.sig.returnType = some .int) : ∀ (n : Nat), ∀ (μ : Mem) (ν : Lem) (x1 : Int32) (x2 : Int32) (x3 : Int32) (x4 : Int32) (x5 : Int32), f6_half_2 n μ ν x1 x2 x3 x4 x5 = some (r, μ1, ν1) → ∀ (H : Heap) (locs : List Loc), Wd false D cy ad s.heap μ ν H locs → ∀ (ls : Array Slot), lv_has ls 7 [(0, .ref (ad 0)), (1, .int x1), (2, .int x2), (3, .int x3), (4, .int x4), (5, .int x5)] → WI false p l e 43 955 s m args below meth c D cy ad .int r μ1 ν1 H locs (F0 m 72 ls []) := by
  have hx := C.1.1
  have hb := C.1.2.1
  have hown := C.1.2.2.2.1
  have hts := C.1.2.2.2.2
  intro n
  induction n with
  | zero =>
    intro μ ν x1 x2 x3 x4 x5 hf H locs X ls hl
    rw [f6_half_2] at hf
    cases hf
  | succ n ih =>
    intro μ ν x1 x2 x3 x4 x5 hf H locs X ls hl
    rw [f6_half_2] at hf
    refine lv_iload hx hb dX6_half_72 (lv_at hl 5 rfl) ?_
    refine lv_sipush (v := 601) hx hb dX6_half_74 (by decide) ?_
    refine lv_icmp_ge (tgt := 110) hx hb dX6_half_77 (by decide) (fun c77 => ?_) (fun c77 => ?_)
    · replace hf := ifp c77 hf
      refine lv_iload_n hx hb dX6_half_110 rfl (lv_at hl 2 rfl) ?_
      refine lv_iconst (v := 1) hx hb dX6_half_111 (by decide) ?_
      refine lv_icmp_ne (tgt := 119) hx hb dX6_half_112 (by decide) (fun c112 => ?_) (fun c112 => ?_)
      · replace hf := ifn c112 hf
        refine lv_iload hx hb dX6_half_119 (lv_at hl 4 rfl) ?_
        exact retI C X hr rfl (so3 hf).1 (so3 hf).2.1 (so3 hf).2.2 dX6_half_121
      · replace hf := ifp c112 hf
        refine lv_iload_n hx hb dX6_half_115 rfl (lv_at hl 3 rfl) ?_
        refine lv_goto (tgt := 121) hx hb dX6_half_116 (by decide) ?_
        exact retI C X hr rfl (so3 hf).1 (so3 hf).2.1 (so3 hf).2.2 dX6_half_121
    · replace hf := ifn c77 hf
      refine lv_aload_n hx hb dX6_half_80 rfl (lv_at hl 0 rfl) ?_
      refine lv_iconst (v := 2) hx hb dX6_half_81 (by decide) ?_
      refine lv_iload_n hx hb dX6_half_82 rfl (lv_at hl 1 rfl) ?_
      refine lv_iload hx hb dX6_half_83 (lv_at hl 5 rfl) ?_
      obtain ⟨r85, μ85, ν85, g85, hf⟩ := bd3_e hf
      refine qX6_344 g85 C X hl.1 ((Nat.le_of_ble_eq_true rfl)) ⟨(Nat.le_of_ble_eq_true rfl), (Nat.le_of_ble_eq_true rfl)⟩ ⟨Nat.zero_le _, Nat.zero_le _⟩ dX6_half_85 (fun H locs X b85 => ?_)
      refine lv_istore (lv' := [(6, .int r85), (0, .ref (ad 0)), (1, .int x1), (2, .int x2), (3, .int x3), (4, .int x4), (5, .int x5)]) hx hb dX6_half_88 hl (by decide) rfl (fun ls hl => ?_)
      refine lv_iload hx hb dX6_half_90 (lv_at hl 0 rfl) ?_
      refine lv_iload hx hb dX6_half_92 (lv_at hl 5 rfl) ?_
      refine lv_icmp_le (tgt := 104) hx hb dX6_half_94 (by decide) (fun c94 => ?_) (fun c94 => ?_)
      · replace hf := ifp c94 hf
        obtain ⟨v104, e104, hf⟩ := nm_e2 hf
        refine rIinc (lv' := [(5, .int v104), (6, .int r85), (0, .ref (ad 0)), (1, .int x1), (2, .int x2), (3, .int x3), (4, .int x4)]) hx hb dX6_half_104 hl (k := 6) rfl e104 rfl (by decide) rfl (fun ls hl => ?_)
        refine lv_goto (tgt := 72) hx hb dX6_half_107 (by decide) ?_
        exact ih μ85 ν85 x1 x2 x3 x4 v104 hf _ _ X _ (lv_sub hl [2, 3, 4, 5, 6, 0] rfl)
      · replace hf := ifn c94 hf
        refine lv_iload hx hb dX6_half_97 (lv_at hl 6 rfl) ?_
        refine lv_istore_n (lv' := [(3, .int x5), (6, .int r85), (0, .ref (ad 0)), (1, .int x1), (2, .int x2), (4, .int x4), (5, .int x5)]) hx hb dX6_half_99 rfl hl (by decide) rfl (fun ls hl => ?_)
        refine lv_iload hx hb dX6_half_100 (lv_at hl 1 rfl) ?_
        refine lv_istore (lv' := [(4, .int r85), (3, .int x5), (6, .int r85), (0, .ref (ad 0)), (1, .int x1), (2, .int x2), (5, .int x5)]) hx hb dX6_half_102 hl (by decide) rfl (fun ls hl => ?_)
        obtain ⟨v104, e104, hf⟩ := nm_e2 hf
        refine rIinc (lv' := [(5, .int v104), (4, .int r85), (3, .int x5), (6, .int r85), (0, .ref (ad 0)), (1, .int x1), (2, .int x2)]) hx hb dX6_half_104 hl (k := 6) rfl e104 rfl (by decide) rfl (fun ls hl => ?_)
        refine lv_goto (tgt := 72) hx hb dX6_half_107 (by decide) ?_
        exact ih μ85 ν85 x1 x2 x5 r85 v104 hf _ _ X _ (lv_sub hl [4, 5, 6, 2, 1, 0] rfl)
set_option maxRecDepth 100000 in
set_option maxHeartbeats 4000000 in
theorem w6_half_1 {p : Program} {l : Launch} {e : Env} {s : State} {m : MethodId} {args : Array Value} {below : List Frame} {meth : Method} {c : Code} {D : va_G} {cy : Nat → ClassId} {ad : Nat → Nat} {r : Int32} {μ1 : Mem} {ν1 : Lem} (C : Cx false p s m args meth c cX6_half 7 RX6 D cy ad) (hr : meth.sig.returnType = some .int) : ∀ (n : Nat), ∀ (μ : Mem) (ν : Lem) (x3 : Int32), f6_half_1 n μ ν x3 = some (r, μ1, ν1) → ∀ (H : Heap) (locs : List Loc), Wd false D cy ad s.heap μ ν H locs → ∀ (ls : Array Slot), lv_has ls 7 [(0, .ref (ad 0)), (3, .int x3)] → WI false p l e 43 955 s m args below meth c D cy ad .int r μ1 ν1 H locs (F0 m 34 ls []) := by
  have hx := C.1.1
  have hb := C.1.2.1
  have hown := C.1.2.2.2.1
  have hts := C.1.2.2.2.2
  intro n
  induction n with
  | zero =>
    intro μ ν x3 hf H locs X ls hl
    rw [f6_half_1] at hf
    cases hf
  | succ n ih =>
    intro μ ν x3 hf H locs X ls hl
    rw [f6_half_1] at hf
    refine lv_ldc2 (v := (2)) hx hb hown (hts _ k_1182) dX6_half_34 ?_
    refine lv_aload_n hx hb dX6_half_37 rfl (lv_at hl 0 rfl) ?_
    refine gfX6_41 C X dX6_half_38 ?_
    refine lv_iload_n hx hb dX6_half_41 rfl (lv_at hl 1 rfl) ?_
    obtain ⟨h42, hf⟩ := gd_e hf
    refine rLald C X rfl h42 dX6_half_42 ?_
    refine lv_lmul hx hb dX6_half_43 ?_
    refine lv_aload_n hx hb dX6_half_44 rfl (lv_at hl 0 rfl) ?_
    refine gfX6_41 C X dX6_half_45 ?_
    refine lv_sipush (v := 600) hx hb dX6_half_48 (by decide) ?_
    obtain ⟨h51, hf⟩ := gd_e hf
    refine rLald C X rfl h51 dX6_half_51 ?_
    refine W.lcmp hx hb dX6_half_52 ?_
    refine lv_if_ge (tgt := 62) hx hb dX6_half_53 (by decide) (fun c53 => ?_) (fun c53 => ?_)
    · replace hf := ifp c53 hf
      refine lv_iload_n hx hb dX6_half_62 rfl (lv_at hl 1 rfl) ?_
      exact retI C X hr rfl (so3 hf).1 (so3 hf).2.1 (so3 hf).2.2 dX6_half_63
    · replace hf := ifn c53 hf
      obtain ⟨v56, e56, hf⟩ := nm_e2 hf
      refine rIinc (lv' := [(3, .int v56), (0, .ref (ad 0))]) hx hb dX6_half_56 hl (k := 1) rfl e56 rfl (by decide) rfl (fun ls hl => ?_)
      refine lv_goto (tgt := 34) hx hb dX6_half_59 (by decide) ?_
      exact ih μ ν v56 hf _ _ X _ (lv_sub hl [1, 0] rfl)
set_option maxRecDepth 100000 in
set_option maxHeartbeats 4000000 in
theorem w6_half {p : Program} {l : Launch} {e : Env} {s : State} {m : MethodId} {args : Array Value} {below : List Frame} {meth : Method} {c : Code} {D : va_G} {cy : Nat → ClassId} {ad : Nat → Nat} {r : Int32} {μ1 : Mem} {ν1 : Lem} (C : Cx false p s m args meth c cX6_half 7 RX6 D cy ad) (hr : meth.sig.returnType = some .int) : ∀ (μ : Mem) (ν : Lem) (x1 : Int32) (x2 : Int32), f6_half μ ν x1 x2 = some (r, μ1, ν1) → ∀ (H : Heap) (locs : List Loc), Wd false D cy ad s.heap μ ν H locs → ∀ (ls : Array Slot), lv_has ls 7 [(0, .ref (ad 0)), (1, .int x1), (2, .int x2)] → WI false p l e 43 955 s m args below meth c D cy ad .int r μ1 ν1 H locs (F0 m 0 ls []) := by
  have hx := C.1.1
  have hb := C.1.2.1
  have hown := C.1.2.2.2.1
  have hts := C.1.2.2.2.2
  intro μ ν x1 x2 hf H locs X ls hl
  unfold f6_half at hf
  refine lv_aload_n hx hb dX6_half_0 rfl (lv_at hl 0 rfl) ?_
  refine lv_iload_n hx hb dX6_half_1 rfl (lv_at hl 1 rfl) ?_
  refine qX6_96 rfl C X hl.1 ((Nat.le_of_ble_eq_true rfl)) ⟨(Nat.le_of_ble_eq_true rfl), (Nat.le_of_ble_eq_true rfl)⟩ ⟨Nat.zero_le _, Nat.zero_le _⟩ dX6_half_2 (fun H locs X b2 => ?_)
  refine lv_if_eq (tgt := 20) hx hb dX6_half_5 (by decide) (fun c5 => ?_) (fun c5 => ?_)
  · replace hf := ifp c5 hf
    refine lv_bipush (v := (-2)) hx hb dX6_half_20 (by decide) ?_
    exact retI C X hr rfl (so3 hf).1 (so3 hf).2.1 (so3 hf).2.2 dX6_half_22
  · replace hf := ifn c5 hf
    refine lv_iload_n hx hb dX6_half_8 rfl (lv_at hl 2 rfl) ?_
    refine lv_i2l hx hb dX6_half_9 rfl ?_
    refine lv_lconst (v := 0) hx hb dX6_half_10 (by decide) ?_
    refine lv_ldc2 (v := (2)) hx hb hown (hts _ k_1182) dX6_half_11 ?_
    refine qX6_92 rfl C X hl.1 ((Nat.le_of_ble_eq_true rfl)) ⟨(Nat.le_of_ble_eq_true rfl), (Nat.le_of_ble_eq_true rfl)⟩ ⟨Nat.zero_le _, Nat.zero_le _⟩ dX6_half_14 (fun H locs X b14 => ?_)
    refine lv_if_ne (tgt := 23) hx hb dX6_half_17 (by decide) (fun c17 => ?_) (fun c17 => ?_)
    · replace hf := ifn c17 hf
      refine lv_iload_n hx hb dX6_half_23 rfl (lv_at hl 2 rfl) ?_
      refine lv_if_ne (tgt := 64) hx hb dX6_half_24 (by decide) (fun c24 => ?_) (fun c24 => ?_)
      · replace hf := ifn c24 hf
        refine lv_iconst (v := 0) hx hb dX6_half_64 (by decide) ?_
        refine lv_istore_n (lv' := [(3, .int 0), (0, .ref (ad 0)), (1, .int x1), (2, .int x2)]) hx hb dX6_half_65 rfl hl (by decide) rfl (fun ls hl => ?_)
        refine lv_iconst (v := (-1)) hx hb dX6_half_66 (by decide) ?_
        refine lv_istore (lv' := [(4, .int (-1)), (3, .int 0), (0, .ref (ad 0)), (1, .int x1), (2, .int x2)]) hx hb dX6_half_67 hl (by decide) rfl (fun ls hl => ?_)
        refine lv_iconst (v := 0) hx hb dX6_half_69 (by decide) ?_
        refine lv_istore (lv' := [(5, .int 0), (4, .int (-1)), (3, .int 0), (0, .ref (ad 0)), (1, .int x1), (2, .int x2)]) hx hb dX6_half_70 hl (by decide) rfl (fun ls hl => ?_)
        exact w6_half_2 C hr  FUEL μ ν x1 x2 0 (-1) 0 hf _ _ X _ (lv_sub hl [3, 4, 5, 2, 1, 0] rfl)
      · replace hf := ifp c24 hf
        refine lv_aload_n hx hb dX6_half_27 rfl (lv_at hl 0 rfl) ?_
        refine lv_iload_n hx hb dX6_half_28 rfl (lv_at hl 1 rfl) ?_
        obtain ⟨μ29, ν29, g29, hf⟩ := bd2_e hf
        refine qX6_347 g29 C X hl.1 ((Nat.le_of_ble_eq_true rfl)) ⟨(Nat.le_of_ble_eq_true rfl), (Nat.le_of_ble_eq_true rfl)⟩ ⟨Nat.zero_le _, Nat.zero_le _⟩ dX6_half_29 (fun H locs X => ?_)
        refine lv_iconst (v := 0) hx hb dX6_half_32 (by decide) ?_
        refine lv_istore_n (lv' := [(3, .int 0), (0, .ref (ad 0)), (1, .int x1), (2, .int x2)]) hx hb dX6_half_33 rfl hl (by decide) rfl (fun ls hl => ?_)
        exact w6_half_1 C hr  FUEL μ29 ν29 0 hf _ _ X _ (lv_sub hl [1, 0] rfl)
    · replace hf := ifp c17 hf
      refine lv_bipush (v := (-2)) hx hb dX6_half_20 (by decide) ?_
      exact retI C X hr rfl (so3 hf).1 (so3 hf).2.1 (so3 hf).2.2 dX6_half_22
theorem ct6_half {x1 : Int32} {x2 : Int32} {μ : Mem} {ν : Lem} {r : Int32} {μ1 : Mem} {ν1 : Lem} (hg : f6_half μ ν x1 x2 = some (r, μ1, ν1)) : CtI false yX6_half cX6_half 7 43 955 .int (fun ad => [.ref (ad 0), .int x1, .int x2]) μ ν r μ1 ν1 :=
  mkI (by decide) rfl (fun ad => Nat.le_of_ble_eq_true rfl) (fun p l e s m args below meth c D cy ad C hr X ls hl => w6_half C hr μ ν x1 x2 hg _ _ X _ hl)
theorem qL_68 {p : Program} {l : Launch} {e : Env} {R : Room} {s : State} {m : MethodId} {args : Array Value} {below : List Frame} {meth : Method} {c : Code} {H : Heap} {locs : List Loc} {cells slots : Nat} {Q : State → Prop} {A : Nat → Prop} {cc : ByteArray} {nL : Nat} {D : va_G} {cy : Nat → ClassId} {ad : Nat → Nat} {μ : Mem} {ν : Lem} {pc : Nat} {ls : Array Slot} {rest : List Value} {x1 : Int32} {x2 : Int32} {r : Int32} {μ1 : Mem} {ν1 : Lem} (hg : f6_half μ ν x1 x2 = some (r, μ1, ν1)) (C : CxA false A p s m args meth c cc nL RL D cy ad) (X : WdA false A D cy ad s.heap μ ν H locs) (hsz : ls.size = nL) (hrm : (rest.map fun v => v.category).sum ≤ 8) (hR : 43 + 1 ≤ R.frames ∧ 8 + (7 + 11) + 955 ≤ R.locals) (hcs : cells ≤ R.cells ∧ slots ≤ R.slots) (hd : decode cc pc = .ok (.invokevirtual 68, 3)) (kk : ∀ (H1 : Heap) (locs1 : List Loc), WdA false A D cy ad s.heap μ1 ν1 H1 locs1 → narrow .int (.int r) = .int r → W p l e R s m args below meth c H1 locs1 cells slots Q (F0 m (pc + 3) ls (.int r :: rest))) : W p l e R s m args below meth c H locs cells slots Q (F0 m pc ls (.int x2 :: .int x1 :: .ref (ad 0) :: rest)) :=
  rCVI (As := [.int x1, .int x2]) (k := 0) (ct6_half hg) ok6 lX6_half k_1210 rfl rfl rfl C X rfl hrm hsz hR hcs hd kk
set_option maxRecDepth 100000 in
set_option maxHeartbeats 4000000 in
theorem w6_lays_1 {p : Program} {l : Launch} {e : Env} {s : State} {m : MethodId} {args : Array Value} {below : List Frame} {meth : Method} {c : Code} {D : va_G} {cy : Nat → ClassId} {ad : Nat → Nat} {μ1 : Mem} {ν1 : Lem} (C : Cx false p s m args meth c cX6_lays 4 RX6 D cy ad) (hr : meth.sig.returnType = none) : ∀ (n : Nat), ∀ (μ : Mem) (ν : Lem) (x1 : Int32) (x2 : Int32) (x3 : Int32), f6_lays_1 n μ ν x1 x2 x3 = some (μ1, ν1) → ∀ (H : Heap) (locs : List Loc), Wd false D cy ad s.heap μ ν H locs → ∀ (ls : Array Slot), lv_has ls 4 [(0, .ref (ad 0)), (1, .int x1), (2, .int x2), (3, .int x3)] → WV false p l e 3 72 s m args below meth c D cy ad μ1 ν1 H locs (F0 m 2 ls []) := by
  have hx := C.1.1
  have hb := C.1.2.1
  have hown := C.1.2.2.2.1
  have hts := C.1.2.2.2.2
  intro n
  induction n with
  | zero =>
    intro μ ν x1 x2 x3 hf H locs X ls hl
    rw [f6_lays_1] at hf
    cases hf
  | succ n ih =>
    intro μ ν x1 x2 x3 hf H locs X ls hl
    rw [f6_lays_1] at hf
    refine lv_iload_n hx hb dX6_lays_2 rfl (lv_at hl 3 rfl) ?_
    refine lv_sipush (v := 601) hx hb dX6_lays_3 (by decide) ?_
    refine lv_icmp_ge (tgt := 39) hx hb dX6_lays_6 (by decide) (fun c6 => ?_) (fun c6 => ?_)
    · replace hf := ifp c6 hf
      exact retV C X hr (so2 hf).1 (so2 hf).2 dX6_lays_39
    · replace hf := ifn c6 hf
      refine lv_aload_n hx hb dX6_lays_9 rfl (lv_at hl 0 rfl) ?_
      refine gfX6_45 C X dX6_lays_10 ?_
      refine lv_iload_n hx hb dX6_lays_13 rfl (lv_at hl 3 rfl) ?_
      refine lv_aload_n hx hb dX6_lays_14 rfl (lv_at hl 0 rfl) ?_
      refine lv_iload_n hx hb dX6_lays_15 rfl (lv_at hl 1 rfl) ?_
      refine lv_iload_n hx hb dX6_lays_16 rfl (lv_at hl 3 rfl) ?_
      obtain ⟨r17, g17, hf⟩ := bd1_e hf
      refine qX6_335 g17 C X hl.1 ((Nat.le_of_ble_eq_true rfl)) ⟨(Nat.le_of_ble_eq_true rfl), (Nat.le_of_ble_eq_true rfl)⟩ ⟨Nat.zero_le _, Nat.zero_le _⟩ dX6_lays_17 (fun H locs X b17 => ?_)
      obtain ⟨h20, hf⟩ := gd_e hf
      obtain ⟨μ20, e20, hf⟩ := nm_e2 hf
      refine rIast2 C X rfl h20 e20 dX6_lays_20 (fun H locs X => ?_)
      refine lv_aload_n hx hb dX6_lays_21 rfl (lv_at hl 0 rfl) ?_
      refine gfX6_48 C X dX6_lays_22 ?_
      refine lv_iload_n hx hb dX6_lays_25 rfl (lv_at hl 3 rfl) ?_
      refine lv_aload_n hx hb dX6_lays_26 rfl (lv_at hl 0 rfl) ?_
      refine lv_iload_n hx hb dX6_lays_27 rfl (lv_at hl 2 rfl) ?_
      refine lv_iload_n hx hb dX6_lays_28 rfl (lv_at hl 3 rfl) ?_
      obtain ⟨r29, g29, hf⟩ := bd1_e hf
      refine qX6_335 g29 C X hl.1 ((Nat.le_of_ble_eq_true rfl)) ⟨(Nat.le_of_ble_eq_true rfl), (Nat.le_of_ble_eq_true rfl)⟩ ⟨Nat.zero_le _, Nat.zero_le _⟩ dX6_lays_29 (fun H locs X b29 => ?_)
      obtain ⟨h32, hf⟩ := gd_e hf
      obtain ⟨μ32, e32, hf⟩ := nm_e2 hf
      refine rIast2 C X rfl h32 e32 dX6_lays_32 (fun H locs X => ?_)
      obtain ⟨v33, e33, hf⟩ := nm_e2 hf
      refine rIinc (lv' := [(3, .int v33), (0, .ref (ad 0)), (1, .int x1), (2, .int x2)]) hx hb dX6_lays_33 hl (k := 3) rfl e33 rfl (by decide) rfl (fun ls hl => ?_)
      refine lv_goto (tgt := 2) hx hb dX6_lays_36 (by decide) ?_
      exact ih μ32 ν x1 x2 v33 hf _ _ X _ (lv_sub hl [1, 2, 3, 0] rfl)
set_option maxRecDepth 100000 in
set_option maxHeartbeats 4000000 in
theorem w6_lays {p : Program} {l : Launch} {e : Env} {s : State} {m : MethodId} {args : Array Value} {below : List Frame} {meth : Method} {c : Code} {D : va_G} {cy : Nat → ClassId} {ad : Nat → Nat} {μ1 : Mem} {ν1 : Lem} (C : Cx false p s m args meth c cX6_lays 4 RX6 D cy ad) (hr : meth.sig.returnType = none) : ∀ (μ : Mem) (ν : Lem) (x1 : Int32) (x2 : Int32), f6_lays μ ν x1 x2 = some (μ1, ν1) → ∀ (H : Heap) (locs : List Loc), Wd false D cy ad s.heap μ ν H locs → ∀ (ls : Array Slot), lv_has ls 4 [(0, .ref (ad 0)), (1, .int x1), (2, .int x2)] → WV false p l e 3 72 s m args below meth c D cy ad μ1 ν1 H locs (F0 m 0 ls []) := by
  have hx := C.1.1
  have hb := C.1.2.1
  have hown := C.1.2.2.2.1
  have hts := C.1.2.2.2.2
  intro μ ν x1 x2 hf H locs X ls hl
  unfold f6_lays at hf
  refine lv_iconst (v := 0) hx hb dX6_lays_0 (by decide) ?_
  refine lv_istore_n (lv' := [(3, .int 0), (0, .ref (ad 0)), (1, .int x1), (2, .int x2)]) hx hb dX6_lays_1 rfl hl (by decide) rfl (fun ls hl => ?_)
  exact w6_lays_1 C hr  FUEL μ ν x1 x2 0 hf _ _ X _ (lv_sub hl [1, 2, 3, 0] rfl)
theorem ct6_lays {x1 : Int32} {x2 : Int32} {μ : Mem} {ν : Lem} {μ1 : Mem} {ν1 : Lem} (hg : f6_lays μ ν x1 x2 = some (μ1, ν1)) : CtV false yX6_lays cX6_lays 4 3 72 (fun ad => [.ref (ad 0), .int x1, .int x2]) μ ν μ1 ν1 :=
  mkV (by decide) rfl (fun ad => Nat.le_of_ble_eq_true rfl) (fun p l e s m args below meth c D cy ad C hr X ls hl => w6_lays C hr μ ν x1 x2 hg _ _ X _ hl)
theorem qX6_372 {p : Program} {l : Launch} {e : Env} {R : Room} {s : State} {m : MethodId} {args : Array Value} {below : List Frame} {meth : Method} {c : Code} {H : Heap} {locs : List Loc} {cells slots : Nat} {Q : State → Prop} {A : Nat → Prop} {cc : ByteArray} {nL : Nat} {D : va_G} {cy : Nat → ClassId} {ad : Nat → Nat} {μ : Mem} {ν : Lem} {pc : Nat} {ls : Array Slot} {rest : List Value} {x1 : Int32} {x2 : Int32} {μ1 : Mem} {ν1 : Lem} (hg : f6_lays μ ν x1 x2 = some (μ1, ν1)) (C : CxA false A p s m args meth c cc nL RX6 D cy ad) (X : WdA false A D cy ad s.heap μ ν H locs) (hsz : ls.size = nL) (hrm : (rest.map fun v => v.category).sum ≤ 8) (hR : 3 + 1 ≤ R.frames ∧ 8 + (4 + 11) + 72 ≤ R.locals) (hcs : cells ≤ R.cells ∧ slots ≤ R.slots) (hd : decode cc pc = .ok (.invokevirtual 372, 3)) (kk : ∀ (H1 : Heap) (locs1 : List Loc), WdA false A D cy ad s.heap μ1 ν1 H1 locs1 → W p l e R s m args below meth c H1 locs1 cells slots Q (F0 m (pc + 3) ls rest)) : W p l e R s m args below meth c H locs cells slots Q (F0 m pc ls (.int x2 :: .int x1 :: .ref (ad 0) :: rest)) :=
  rCVV (As := [.int x1, .int x2]) (k := 0) (ct6_lays hg) ok6 lX6_lays k_1223 rfl rfl rfl C X rfl hrm hsz hR hcs hd kk
set_option maxRecDepth 100000 in
set_option maxHeartbeats 4000000 in
theorem w6_apartAt {p : Program} {l : Launch} {e : Env} {s : State} {m : MethodId} {args : Array Value} {below : List Frame} {meth : Method} {c : Code} {D : va_G} {cy : Nat → ClassId} {ad : Nat → Nat} {r : Int32} {μ : Mem} {ν : Lem} (C : Cx false p s m args meth c cX6_apartAt 3 RX6 D cy ad) (hr : meth.sig.returnType = some .int) : ∀ (x1 : Int32) (x2 : Int32), f6_apartAt μ ν x1 x2 = some r → ∀ (H : Heap) (locs : List Loc), Wd false D cy ad s.heap μ ν H locs → ∀ (ls : Array Slot), lv_has ls 3 [(0, .ref (ad 0)), (1, .int x1), (2, .int x2)] → WI false p l e 0 0 s m args below meth c D cy ad .int r μ ν H locs (F0 m 0 ls []) := by
  have hx := C.1.1
  have hb := C.1.2.1
  have hown := C.1.2.2.2.1
  have hts := C.1.2.2.2.2
  intro x1 x2 hf H locs X ls hl
  unfold f6_apartAt at hf
  refine lv_aload_n hx hb dX6_apartAt_0 rfl (lv_at hl 0 rfl) ?_
  refine gfX6_45 C X dX6_apartAt_1 ?_
  refine lv_iload_n hx hb dX6_apartAt_4 rfl (lv_at hl 1 rfl) ?_
  refine lv_iload_n hx hb dX6_apartAt_5 rfl (lv_at hl 2 rfl) ?_
  refine lv_icmp_ge (tgt := 13) hx hb dX6_apartAt_6 (by decide) (fun c6 => ?_) (fun c6 => ?_)
  · replace hf := ifp c6 hf
    refine lv_iload_n hx hb dX6_apartAt_13 rfl (lv_at hl 1 rfl) ?_
    refine lv_iload_n hx hb dX6_apartAt_14 rfl (lv_at hl 2 rfl) ?_
    refine lv_isub hx hb dX6_apartAt_15 ?_
    obtain ⟨h16, hf⟩ := gd_e hf
    refine rIald C X rfl h16 dX6_apartAt_16 ?_
    refine lv_aload_n hx hb dX6_apartAt_17 rfl (lv_at hl 0 rfl) ?_
    refine gfX6_48 C X dX6_apartAt_18 ?_
    refine lv_iload_n hx hb dX6_apartAt_21 rfl (lv_at hl 1 rfl) ?_
    obtain ⟨h22, hf⟩ := gd_e hf
    refine rIald C X rfl h22 dX6_apartAt_22 ?_
    refine lv_isub hx hb dX6_apartAt_23 ?_
    exact retI C X hr rfl (Option.some.inj hf) rfl rfl dX6_apartAt_24
  · replace hf := ifn c6 hf
    refine lv_iconst (v := 0) hx hb dX6_apartAt_9 (by decide) ?_
    refine lv_goto (tgt := 16) hx hb dX6_apartAt_10 (by decide) ?_
    obtain ⟨h16, hf⟩ := gd_e hf
    refine rIald C X rfl h16 dX6_apartAt_16 ?_
    refine lv_aload_n hx hb dX6_apartAt_17 rfl (lv_at hl 0 rfl) ?_
    refine gfX6_48 C X dX6_apartAt_18 ?_
    refine lv_iload_n hx hb dX6_apartAt_21 rfl (lv_at hl 1 rfl) ?_
    obtain ⟨h22, hf⟩ := gd_e hf
    refine rIald C X rfl h22 dX6_apartAt_22 ?_
    refine lv_isub hx hb dX6_apartAt_23 ?_
    exact retI C X hr rfl (Option.some.inj hf) rfl rfl dX6_apartAt_24
theorem ct6_apartAt {x1 : Int32} {x2 : Int32} {μ : Mem} {ν : Lem} {r : Int32} (hg : f6_apartAt μ ν x1 x2 = some r) : CtI false yX6_apartAt cX6_apartAt 3 0 0 .int (fun ad => [.ref (ad 0), .int x1, .int x2]) μ ν r μ ν :=
  mkI (by decide) rfl (fun ad => Nat.le_of_ble_eq_true rfl) (fun p l e s m args below meth c D cy ad C hr X ls hl => w6_apartAt C hr x1 x2 hg _ _ X _ hl)
theorem qX6_361 {p : Program} {l : Launch} {e : Env} {R : Room} {s : State} {m : MethodId} {args : Array Value} {below : List Frame} {meth : Method} {c : Code} {H : Heap} {locs : List Loc} {cells slots : Nat} {Q : State → Prop} {A : Nat → Prop} {cc : ByteArray} {nL : Nat} {D : va_G} {cy : Nat → ClassId} {ad : Nat → Nat} {μ : Mem} {ν : Lem} {pc : Nat} {ls : Array Slot} {rest : List Value} {x1 : Int32} {x2 : Int32} {r : Int32} (hg : f6_apartAt μ ν x1 x2 = some r) (C : CxA false A p s m args meth c cc nL RX6 D cy ad) (X : WdA false A D cy ad s.heap μ ν H locs) (hsz : ls.size = nL) (hrm : (rest.map fun v => v.category).sum ≤ 8) (hR : 0 + 1 ≤ R.frames ∧ 8 + (3 + 11) + 0 ≤ R.locals) (hcs : cells ≤ R.cells ∧ slots ≤ R.slots) (hd : decode cc pc = .ok (.invokevirtual 361, 3)) (kk : ∀ (H1 : Heap) (locs1 : List Loc), WdA false A D cy ad s.heap μ ν H1 locs1 → narrow .int (.int r) = .int r → W p l e R s m args below meth c H1 locs1 cells slots Q (F0 m (pc + 3) ls (.int r :: rest))) : W p l e R s m args below meth c H locs cells slots Q (F0 m pc ls (.int x2 :: .int x1 :: .ref (ad 0) :: rest)) :=
  rCVI (As := [.int x1, .int x2]) (k := 0) (ct6_apartAt hg) ok6 lX6_apartAt k_1231 rfl rfl rfl C X rfl hrm hsz hR hcs hd kk
set_option maxRecDepth 100000 in
set_option maxHeartbeats 4000000 in
theorem w6_doMeet {p : Program} {l : Launch} {e : Env} {s : State} {m : MethodId} {args : Array Value} {below : List Frame} {meth : Method} {c : Code} {D : va_G} {cy : Nat → ClassId} {ad : Nat → Nat} {r : Int32} {μ : Mem} {ν : Lem} (C : Cx false p s m args meth c cX6_doMeet 4 RX6 D cy ad) (hr : meth.sig.returnType = some .boolean) : ∀ (x1 : Int32) (x2 : Int32), f6_doMeet μ ν x1 x2 = some r → ∀ (H : Heap) (locs : List Loc), Wd false D cy ad s.heap μ ν H locs → ∀ (ls : Array Slot), lv_has ls 4 [(0, .ref (ad 0)), (1, .int x1), (2, .int x2)] → WI false p l e 1 23 s m args below meth c D cy ad .boolean r μ ν H locs (F0 m 0 ls []) := by
  have hx := C.1.1
  have hb := C.1.2.1
  have hown := C.1.2.2.2.1
  have hts := C.1.2.2.2.2
  intro x1 x2 hf H locs X ls hl
  unfold f6_doMeet at hf
  refine lv_aload_n hx hb dX6_doMeet_0 rfl (lv_at hl 0 rfl) ?_
  refine lv_iload_n hx hb dX6_doMeet_1 rfl (lv_at hl 1 rfl) ?_
  refine lv_iload_n hx hb dX6_doMeet_2 rfl (lv_at hl 2 rfl) ?_
  obtain ⟨r3, g3, hf⟩ := bd1_e hf
  refine qX6_361 g3 C X hl.1 ((Nat.le_of_ble_eq_true rfl)) ⟨(Nat.le_of_ble_eq_true rfl), (Nat.le_of_ble_eq_true rfl)⟩ ⟨Nat.zero_le _, Nat.zero_le _⟩ dX6_doMeet_3 (fun H locs X b3 => ?_)
  refine lv_istore_n (lv' := [(3, .int r3), (0, .ref (ad 0)), (1, .int x1), (2, .int x2)]) hx hb dX6_doMeet_6 rfl hl (by decide) rfl (fun ls hl => ?_)
  refine lv_iload_n hx hb dX6_doMeet_7 rfl (lv_at hl 0 rfl) ?_
  refine lv_if_eq (tgt := 35) hx hb dX6_doMeet_8 (by decide) (fun c8 => ?_) (fun c8 => ?_)
  · replace hf := ifp c8 hf
    refine lv_iconst (v := 1) hx hb dX6_doMeet_35 (by decide) ?_
    refine lv_goto (tgt := 40) hx hb dX6_doMeet_36 (by decide) ?_
    exact retI C X hr rfl (Option.some.inj hf) rfl rfl dX6_doMeet_40
  · replace hf := ifn c8 hf
    refine lv_iload_n hx hb dX6_doMeet_11 rfl (lv_at hl 2 rfl) ?_
    refine lv_sipush (v := 600) hx hb dX6_doMeet_12 (by decide) ?_
    refine lv_icmp_ge (tgt := 39) hx hb dX6_doMeet_15 (by decide) (fun c15 => ?_) (fun c15 => ?_)
    · replace hf := ifp c15 hf
      refine lv_iconst (v := 0) hx hb dX6_doMeet_39 (by decide) ?_
      exact retI C X hr rfl (Option.some.inj hf) rfl rfl dX6_doMeet_40
    · replace hf := ifn c15 hf
      refine lv_iload_n hx hb dX6_doMeet_18 rfl (lv_at hl 0 rfl) ?_
      refine lv_i2l hx hb dX6_doMeet_19 rfl ?_
      refine lv_aload_n hx hb dX6_doMeet_20 rfl (lv_at hl 1 rfl) ?_
      refine lv_iload_n hx hb dX6_doMeet_21 rfl (lv_at hl 2 rfl) ?_
      refine lv_iconst (v := 1) hx hb dX6_doMeet_22 (by decide) ?_
      refine lv_iadd hx hb dX6_doMeet_23 ?_
      refine lv_iload_n hx hb dX6_doMeet_24 rfl (lv_at hl 3 rfl) ?_
      obtain ⟨r25, g25, hf⟩ := bd1_e hf
      refine qX6_361 g25 C X hl.1 ((Nat.le_of_ble_eq_true rfl)) ⟨(Nat.le_of_ble_eq_true rfl), (Nat.le_of_ble_eq_true rfl)⟩ ⟨Nat.zero_le _, Nat.zero_le _⟩ dX6_doMeet_25 (fun H locs X b25 => ?_)
      refine lv_i2l hx hb dX6_doMeet_28 rfl ?_
      refine qX6_357 rfl C X hl.1 ((Nat.le_of_ble_eq_true rfl)) ⟨(Nat.le_of_ble_eq_true rfl), (Nat.le_of_ble_eq_true rfl)⟩ ⟨Nat.zero_le _, Nat.zero_le _⟩ dX6_doMeet_29 (fun H locs X b29 => ?_)
      refine lv_if_eq (tgt := 39) hx hb dX6_doMeet_32 (by decide) (fun c32 => ?_) (fun c32 => ?_)
      · replace hf := ifp c32 hf
        refine lv_iconst (v := 0) hx hb dX6_doMeet_39 (by decide) ?_
        exact retI C X hr rfl (Option.some.inj hf) rfl rfl dX6_doMeet_40
      · replace hf := ifn c32 hf
        refine lv_iconst (v := 1) hx hb dX6_doMeet_35 (by decide) ?_
        refine lv_goto (tgt := 40) hx hb dX6_doMeet_36 (by decide) ?_
        exact retI C X hr rfl (Option.some.inj hf) rfl rfl dX6_doMeet_40
theorem ct6_doMeet {x1 : Int32} {x2 : Int32} {μ : Mem} {ν : Lem} {r : Int32} (hg : f6_doMeet μ ν x1 x2 = some r) : CtI false yX6_doMeet cX6_doMeet 4 1 23 .boolean (fun ad => [.ref (ad 0), .int x1, .int x2]) μ ν r μ ν :=
  mkI (by decide) rfl (fun ad => Nat.le_of_ble_eq_true rfl) (fun p l e s m args below meth c D cy ad C hr X ls hl => w6_doMeet C hr x1 x2 hg _ _ X _ hl)
theorem qX6_364 {p : Program} {l : Launch} {e : Env} {R : Room} {s : State} {m : MethodId} {args : Array Value} {below : List Frame} {meth : Method} {c : Code} {H : Heap} {locs : List Loc} {cells slots : Nat} {Q : State → Prop} {A : Nat → Prop} {cc : ByteArray} {nL : Nat} {D : va_G} {cy : Nat → ClassId} {ad : Nat → Nat} {μ : Mem} {ν : Lem} {pc : Nat} {ls : Array Slot} {rest : List Value} {x1 : Int32} {x2 : Int32} {r : Int32} (hg : f6_doMeet μ ν x1 x2 = some r) (C : CxA false A p s m args meth c cc nL RX6 D cy ad) (X : WdA false A D cy ad s.heap μ ν H locs) (hsz : ls.size = nL) (hrm : (rest.map fun v => v.category).sum ≤ 8) (hR : 1 + 1 ≤ R.frames ∧ 8 + (4 + 11) + 23 ≤ R.locals) (hcs : cells ≤ R.cells ∧ slots ≤ R.slots) (hd : decode cc pc = .ok (.invokevirtual 364, 3)) (kk : ∀ (H1 : Heap) (locs1 : List Loc), WdA false A D cy ad s.heap μ ν H1 locs1 → narrow .boolean (.int r) = .int r → W p l e R s m args below meth c H1 locs1 cells slots Q (F0 m (pc + 3) ls (.int r :: rest))) : W p l e R s m args below meth c H locs cells slots Q (F0 m pc ls (.int x2 :: .int x1 :: .ref (ad 0) :: rest)) :=
  rCVI (As := [.int x1, .int x2]) (k := 0) (ct6_doMeet hg) ok6 lX6_doMeet k_1227 rfl rfl rfl C X rfl hrm hsz hR hcs hd kk
set_option maxRecDepth 100000 in
set_option maxHeartbeats 4000000 in
theorem w6_firstMeet_1 {p : Program} {l : Launch} {e : Env} {s : State} {m : MethodId} {args : Array Value} {below : List Frame} {meth : Method} {c : Code} {D : va_G} {cy : Nat → ClassId} {ad : Nat → Nat} {r : Int32} {μ : Mem} {ν : Lem} (C : Cx false p s m args meth c cX6_firstMeet 3 RX6 D cy ad) (hr : meth.sig.returnType = some .int) : ∀ (n : Nat), ∀ (x1 : Int32) (x2 : Int32), f6_firstMeet_1 μ ν n x1 x2 = some r → ∀ (H : Heap) (locs : List Loc), Wd false D cy ad s.heap μ ν H locs → ∀ (ls : Array Slot), lv_has ls 3 [(0, .ref (ad 0)), (1, .int x1), (2, .int x2)] → WI false p l e 2 46 s m args below meth c D cy ad .int r μ ν H locs (F0 m 2 ls []) := by
  have hx := C.1.1
  have hb := C.1.2.1
  have hown := C.1.2.2.2.1
  have hts := C.1.2.2.2.2
  intro n
  induction n with
  | zero =>
    intro x1 x2 hf H locs X ls hl
    rw [f6_firstMeet_1] at hf
    cases hf
  | succ n ih =>
    intro x1 x2 hf H locs X ls hl
    rw [f6_firstMeet_1] at hf
    refine lv_iload_n hx hb dX6_firstMeet_2 rfl (lv_at hl 2 rfl) ?_
    refine lv_sipush (v := 601) hx hb dX6_firstMeet_3 (by decide) ?_
    refine lv_icmp_ge (tgt := 26) hx hb dX6_firstMeet_6 (by decide) (fun c6 => ?_) (fun c6 => ?_)
    · replace hf := ifp c6 hf
      refine lv_iconst (v := (-1)) hx hb dX6_firstMeet_26 (by decide) ?_
      exact retI C X hr rfl (Option.some.inj hf) rfl rfl dX6_firstMeet_27
    · replace hf := ifn c6 hf
      refine lv_aload_n hx hb dX6_firstMeet_9 rfl (lv_at hl 0 rfl) ?_
      refine lv_iload_n hx hb dX6_firstMeet_10 rfl (lv_at hl 2 rfl) ?_
      refine lv_iload_n hx hb dX6_firstMeet_11 rfl (lv_at hl 1 rfl) ?_
      obtain ⟨r12, g12, hf⟩ := bd1_e hf
      refine qX6_364 g12 C X hl.1 ((Nat.le_of_ble_eq_true rfl)) ⟨(Nat.le_of_ble_eq_true rfl), (Nat.le_of_ble_eq_true rfl)⟩ ⟨Nat.zero_le _, Nat.zero_le _⟩ dX6_firstMeet_12 (fun H locs X b12 => ?_)
      refine lv_if_eq (tgt := 20) hx hb dX6_firstMeet_15 (by decide) (fun c15 => ?_) (fun c15 => ?_)
      · replace hf := ifp c15 hf
        obtain ⟨v20, e20, hf⟩ := nm_e2 hf
        refine rIinc (lv' := [(2, .int v20), (0, .ref (ad 0)), (1, .int x1)]) hx hb dX6_firstMeet_20 hl (k := 2) rfl e20 rfl (by decide) rfl (fun ls hl => ?_)
        refine lv_goto (tgt := 2) hx hb dX6_firstMeet_23 (by decide) ?_
        exact ih x1 v20 hf _ _ X _ (lv_sub hl [1, 2, 0] rfl)
      · replace hf := ifn c15 hf
        refine lv_iload_n hx hb dX6_firstMeet_18 rfl (lv_at hl 2 rfl) ?_
        exact retI C X hr rfl (Option.some.inj hf) rfl rfl dX6_firstMeet_19
set_option maxRecDepth 100000 in
set_option maxHeartbeats 4000000 in
theorem w6_firstMeet {p : Program} {l : Launch} {e : Env} {s : State} {m : MethodId} {args : Array Value} {below : List Frame} {meth : Method} {c : Code} {D : va_G} {cy : Nat → ClassId} {ad : Nat → Nat} {r : Int32} {μ : Mem} {ν : Lem} (C : Cx false p s m args meth c cX6_firstMeet 3 RX6 D cy ad) (hr : meth.sig.returnType = some .int) : ∀ (x1 : Int32), f6_firstMeet μ ν x1 = some r → ∀ (H : Heap) (locs : List Loc), Wd false D cy ad s.heap μ ν H locs → ∀ (ls : Array Slot), lv_has ls 3 [(0, .ref (ad 0)), (1, .int x1)] → WI false p l e 2 46 s m args below meth c D cy ad .int r μ ν H locs (F0 m 0 ls []) := by
  have hx := C.1.1
  have hb := C.1.2.1
  have hown := C.1.2.2.2.1
  have hts := C.1.2.2.2.2
  intro x1 hf H locs X ls hl
  unfold f6_firstMeet at hf
  refine lv_iconst (v := 0) hx hb dX6_firstMeet_0 (by decide) ?_
  refine lv_istore_n (lv' := [(2, .int 0), (0, .ref (ad 0)), (1, .int x1)]) hx hb dX6_firstMeet_1 rfl hl (by decide) rfl (fun ls hl => ?_)
  exact w6_firstMeet_1 C hr  FUEL x1 0 hf _ _ X _ (lv_sub hl [1, 2, 0] rfl)
theorem ct6_firstMeet {x1 : Int32} {μ : Mem} {ν : Lem} {r : Int32} (hg : f6_firstMeet μ ν x1 = some r) : CtI false yX6_firstMeet cX6_firstMeet 3 2 46 .int (fun ad => [.ref (ad 0), .int x1]) μ ν r μ ν :=
  mkI (by decide) rfl (fun ad => Nat.le_of_ble_eq_true rfl) (fun p l e s m args below meth c D cy ad C hr X ls hl => w6_firstMeet C hr x1 hg _ _ X _ hl)
theorem qX6_376 {p : Program} {l : Launch} {e : Env} {R : Room} {s : State} {m : MethodId} {args : Array Value} {below : List Frame} {meth : Method} {c : Code} {H : Heap} {locs : List Loc} {cells slots : Nat} {Q : State → Prop} {A : Nat → Prop} {cc : ByteArray} {nL : Nat} {D : va_G} {cy : Nat → ClassId} {ad : Nat → Nat} {μ : Mem} {ν : Lem} {pc : Nat} {ls : Array Slot} {rest : List Value} {x1 : Int32} {r : Int32} (hg : f6_firstMeet μ ν x1 = some r) (C : CxA false A p s m args meth c cc nL RX6 D cy ad) (X : WdA false A D cy ad s.heap μ ν H locs) (hsz : ls.size = nL) (hrm : (rest.map fun v => v.category).sum ≤ 8) (hR : 2 + 1 ≤ R.frames ∧ 8 + (3 + 11) + 46 ≤ R.locals) (hcs : cells ≤ R.cells ∧ slots ≤ R.slots) (hd : decode cc pc = .ok (.invokevirtual 376, 3)) (kk : ∀ (H1 : Heap) (locs1 : List Loc), WdA false A D cy ad s.heap μ ν H1 locs1 → narrow .int (.int r) = .int r → W p l e R s m args below meth c H1 locs1 cells slots Q (F0 m (pc + 3) ls (.int r :: rest))) : W p l e R s m args below meth c H locs cells slots Q (F0 m pc ls (.int x1 :: .ref (ad 0) :: rest)) :=
  rCVI (As := [.int x1]) (k := 0) (ct6_firstMeet hg) ok6 lX6_firstMeet k_1235 rfl rfl rfl C X rfl hrm hsz hR hcs hd kk
set_option maxRecDepth 100000 in
set_option maxHeartbeats 4000000 in
theorem w6_meet_1 {p : Program} {l : Launch} {e : Env} {s : State} {m : MethodId} {args : Array Value} {below : List Frame} {meth : Method} {c : Code} {D : va_G} {cy : Nat → ClassId} {ad : Nat → Nat} {r : Int32} {μ1 : Mem} {ν1 : Lem} (C : Cx false p s m args meth c cX6_meet 7 RX6 D cy ad) (hr : meth.sig.returnType = some .int) : ∀ (n : Nat), ∀ (μ : Mem) (ν : Lem) (x3 : Int32) (x4 : Int32) (x5 : Int32) (x6 : Int32), f6_meet_1 n μ ν x3 x4 x5 x6 = some (r, μ1, ν1) → ∀ (H : Heap) (locs : List Loc), Wd false D cy ad s.heap μ ν H locs → ∀ (ls : Array Slot), lv_has ls 7 [(0, .ref (ad 0)), (3, .int x3), (4, .int x4), (5, .int x5), (6, .int x6)] → WI false p l e 4 95 s m args below meth c D cy ad .int r μ1 ν1 H locs (F0 m 39 ls []) := by
  have hx := C.1.1
  have hb := C.1.2.1
  have hown := C.1.2.2.2.1
  have hts := C.1.2.2.2.2
  intro n
  induction n with
  | zero =>
    intro μ ν x3 x4 x5 x6 hf H locs X ls hl
    rw [f6_meet_1] at hf
    cases hf
  | succ n ih =>
    intro μ ν x3 x4 x5 x6 hf H locs X ls hl
    rw [f6_meet_1] at hf
    refine lv_iload hx hb dX6_meet_39 (lv_at hl 4 rfl) ?_
    refine lv_sipush (v := 601) hx hb dX6_meet_41 (by decide) ?_
    refine lv_icmp_ge (tgt := 70) hx hb dX6_meet_44 (by decide) (fun c44 => ?_) (fun c44 => ?_)
    · replace hf := ifp c44 hf
      refine lv_iload_n hx hb dX6_meet_70 rfl (lv_at hl 1 rfl) ?_
      refine lv_if_ne (tgt := 79) hx hb dX6_meet_71 (by decide) (fun c71 => ?_) (fun c71 => ?_)
      · replace hf := ifn c71 hf
        refine lv_iload_n hx hb dX6_meet_79 rfl (lv_at hl 1 rfl) ?_
        refine lv_iconst (v := 1) hx hb dX6_meet_80 (by decide) ?_
        refine lv_icmp_ne (tgt := 92) hx hb dX6_meet_81 (by decide) (fun c81 => ?_) (fun c81 => ?_)
        · replace hf := ifn c81 hf
          refine lv_iload_n hx hb dX6_meet_92 rfl (lv_at hl 1 rfl) ?_
          refine lv_iconst (v := 2) hx hb dX6_meet_93 (by decide) ?_
          refine lv_icmp_ne (tgt := 102) hx hb dX6_meet_94 (by decide) (fun c94 => ?_) (fun c94 => ?_)
          · replace hf := ifn c94 hf
            refine lv_iload hx hb dX6_meet_102 (lv_at hl 2 rfl) ?_
            refine lv_iconst (v := 2) hx hb dX6_meet_104 (by decide) ?_
            refine rIrem hx hb dX6_meet_105 (by decide) ?_
            exact retI C X hr rfl (so3 hf).1 (so3 hf).2.1 (so3 hf).2.2 dX6_meet_106
          · replace hf := ifp c94 hf
            refine lv_iload hx hb dX6_meet_97 (lv_at hl 3 rfl) ?_
            refine lv_goto (tgt := 106) hx hb dX6_meet_99 (by decide) ?_
            exact retI C X hr rfl (so3 hf).1 (so3 hf).2.1 (so3 hf).2.2 dX6_meet_106
        · replace hf := ifp c81 hf
          refine lv_aload_n hx hb dX6_meet_84 rfl (lv_at hl 0 rfl) ?_
          refine lv_iconst (v := 0) hx hb dX6_meet_85 (by decide) ?_
          obtain ⟨r86, g86, hf⟩ := bd1_e hf
          refine qX6_376 g86 C X hl.1 ((Nat.le_of_ble_eq_true rfl)) ⟨(Nat.le_of_ble_eq_true rfl), (Nat.le_of_ble_eq_true rfl)⟩ ⟨Nat.zero_le _, Nat.zero_le _⟩ dX6_meet_86 (fun H locs X b86 => ?_)
          refine lv_goto (tgt := 106) hx hb dX6_meet_89 (by decide) ?_
          exact retI C X hr rfl (so3 hf).1 (so3 hf).2.1 (so3 hf).2.2 dX6_meet_106
      · replace hf := ifp c71 hf
        refine lv_iload hx hb dX6_meet_74 (lv_at hl 2 rfl) ?_
        refine lv_goto (tgt := 106) hx hb dX6_meet_76 (by decide) ?_
        exact retI C X hr rfl (so3 hf).1 (so3 hf).2.1 (so3 hf).2.2 dX6_meet_106
    · replace hf := ifn c44 hf
      refine lv_aload_n hx hb dX6_meet_47 rfl (lv_at hl 0 rfl) ?_
      refine lv_iload hx hb dX6_meet_48 (lv_at hl 4 rfl) ?_
      refine lv_iconst (v := 0) hx hb dX6_meet_50 (by decide) ?_
      obtain ⟨r51, g51, hf⟩ := bd1_e hf
      refine qX6_364 g51 C X hl.1 ((Nat.le_of_ble_eq_true rfl)) ⟨(Nat.le_of_ble_eq_true rfl), (Nat.le_of_ble_eq_true rfl)⟩ ⟨Nat.zero_le _, Nat.zero_le _⟩ dX6_meet_51 (fun H locs X b51 => ?_)
      refine lv_if_eq (tgt := 64) hx hb dX6_meet_54 (by decide) (fun c54 => ?_) (fun c54 => ?_)
      · replace hf := ifp c54 hf
        obtain ⟨v64, e64, hf⟩ := nm_e2 hf
        refine rIinc (lv' := [(6, .int v64), (0, .ref (ad 0)), (3, .int x3), (4, .int x4), (5, .int x5)]) hx hb dX6_meet_64 hl (k := 4) rfl e64 rfl (by decide) rfl (fun ls hl => ?_)
        refine lv_goto (tgt := 39) hx hb dX6_meet_67 (by decide) ?_
        exact ih μ ν x3 x4 x5 v64 hf _ _ X _ (lv_sub hl [1, 2, 3, 4, 0] rfl)
      · replace hf := ifn c54 hf
        obtain ⟨v57, e57, hf⟩ := nm_e2 hf
        refine rIinc (lv' := [(4, .int v57), (0, .ref (ad 0)), (3, .int x3), (5, .int x5), (6, .int x6)]) hx hb dX6_meet_57 hl (k := 2) rfl e57 rfl (by decide) rfl (fun ls hl => ?_)
        refine lv_iload hx hb dX6_meet_60 (lv_at hl 4 rfl) ?_
        refine lv_istore (lv' := [(5, .int x6), (4, .int v57), (0, .ref (ad 0)), (3, .int x3), (6, .int x6)]) hx hb dX6_meet_62 hl (by decide) rfl (fun ls hl => ?_)
        obtain ⟨v64, e64, hf⟩ := nm_e2 hf
        refine rIinc (lv' := [(6, .int v64), (5, .int x6), (4, .int v57), (0, .ref (ad 0)), (3, .int x3)]) hx hb dX6_meet_64 hl (k := 4) rfl e64 rfl (by decide) rfl (fun ls hl => ?_)
        refine lv_goto (tgt := 39) hx hb dX6_meet_67 (by decide) ?_
        exact ih μ ν x3 v57 x6 v64 hf _ _ X _ (lv_sub hl [3, 4, 2, 1, 0] rfl)
set_option maxRecDepth 100000 in
set_option maxHeartbeats 4000000 in
theorem w6_meet {p : Program} {l : Launch} {e : Env} {s : State} {m : MethodId} {args : Array Value} {below : List Frame} {meth : Method} {c : Code} {D : va_G} {cy : Nat → ClassId} {ad : Nat → Nat} {r : Int32} {μ1 : Mem} {ν1 : Lem} (C : Cx false p s m args meth c cX6_meet 7 RX6 D cy ad) (hr : meth.sig.returnType = some .int) : ∀ (μ : Mem) (ν : Lem) (x1 : Int32) (x2 : Int32) (x3 : Int32), f6_meet μ ν x1 x2 x3 = some (r, μ1, ν1) → ∀ (H : Heap) (locs : List Loc), Wd false D cy ad s.heap μ ν H locs → ∀ (ls : Array Slot), lv_has ls 7 [(0, .ref (ad 0)), (1, .int x1), (2, .int x2), (3, .int x3)] → WI false p l e 4 95 s m args below meth c D cy ad .int r μ1 ν1 H locs (F0 m 0 ls []) := by
  have hx := C.1.1
  have hb := C.1.2.1
  have hown := C.1.2.2.2.1
  have hts := C.1.2.2.2.2
  intro μ ν x1 x2 x3 hf H locs X ls hl
  unfold f6_meet at hf
  refine lv_aload_n hx hb dX6_meet_0 rfl (lv_at hl 0 rfl) ?_
  refine lv_iload_n hx hb dX6_meet_1 rfl (lv_at hl 1 rfl) ?_
  refine lv_iload_n hx hb dX6_meet_2 rfl (lv_at hl 2 rfl) ?_
  refine qX6_367 rfl C X hl.1 ((Nat.le_of_ble_eq_true rfl)) ⟨(Nat.le_of_ble_eq_true rfl), (Nat.le_of_ble_eq_true rfl)⟩ ⟨Nat.zero_le _, Nat.zero_le _⟩ dX6_meet_3 (fun H locs X b3 => ?_)
  refine lv_if_eq (tgt := 21) hx hb dX6_meet_6 (by decide) (fun c6 => ?_) (fun c6 => ?_)
  · replace hf := ifp c6 hf
    refine lv_bipush (v := (-2)) hx hb dX6_meet_21 (by decide) ?_
    exact retI C X hr rfl (so3 hf).1 (so3 hf).2.1 (so3 hf).2.2 dX6_meet_23
  · replace hf := ifn c6 hf
    refine lv_iload_n hx hb dX6_meet_9 rfl (lv_at hl 3 rfl) ?_
    refine lv_i2l hx hb dX6_meet_10 rfl ?_
    refine lv_lconst (v := 0) hx hb dX6_meet_11 (by decide) ?_
    refine lv_ldc2 (v := (3)) hx hb hown (hts _ k_1222) dX6_meet_12 ?_
    refine qX6_92 rfl C X hl.1 ((Nat.le_of_ble_eq_true rfl)) ⟨(Nat.le_of_ble_eq_true rfl), (Nat.le_of_ble_eq_true rfl)⟩ ⟨Nat.zero_le _, Nat.zero_le _⟩ dX6_meet_15 (fun H locs X b15 => ?_)
    refine lv_if_ne (tgt := 24) hx hb dX6_meet_18 (by decide) (fun c18 => ?_) (fun c18 => ?_)
    · replace hf := ifn c18 hf
      refine lv_aload_n hx hb dX6_meet_24 rfl (lv_at hl 0 rfl) ?_
      refine lv_iload_n hx hb dX6_meet_25 rfl (lv_at hl 1 rfl) ?_
      refine lv_iload_n hx hb dX6_meet_26 rfl (lv_at hl 2 rfl) ?_
      obtain ⟨μ27, ν27, g27, hf⟩ := bd2_e hf
      refine qX6_372 g27 C X hl.1 ((Nat.le_of_ble_eq_true rfl)) ⟨(Nat.le_of_ble_eq_true rfl), (Nat.le_of_ble_eq_true rfl)⟩ ⟨Nat.zero_le _, Nat.zero_le _⟩ dX6_meet_27 (fun H locs X => ?_)
      refine lv_iconst (v := 0) hx hb dX6_meet_30 (by decide) ?_
      refine lv_istore (lv' := [(4, .int 0), (0, .ref (ad 0)), (1, .int x1), (2, .int x2), (3, .int x3)]) hx hb dX6_meet_31 hl (by decide) rfl (fun ls hl => ?_)
      refine lv_iconst (v := (-1)) hx hb dX6_meet_33 (by decide) ?_
      refine lv_istore (lv' := [(5, .int (-1)), (4, .int 0), (0, .ref (ad 0)), (1, .int x1), (2, .int x2), (3, .int x3)]) hx hb dX6_meet_34 hl (by decide) rfl (fun ls hl => ?_)
      refine lv_iconst (v := 0) hx hb dX6_meet_36 (by decide) ?_
      refine lv_istore (lv' := [(6, .int 0), (5, .int (-1)), (4, .int 0), (0, .ref (ad 0)), (1, .int x1), (2, .int x2), (3, .int x3)]) hx hb dX6_meet_37 hl (by decide) rfl (fun ls hl => ?_)
      exact w6_meet_1 C hr  FUEL μ27 ν27 x3 0 (-1) 0 hf _ _ X _ (lv_sub hl [3, 6, 2, 1, 0] rfl)
    · replace hf := ifp c18 hf
      refine lv_bipush (v := (-2)) hx hb dX6_meet_21 (by decide) ?_
      exact retI C X hr rfl (so3 hf).1 (so3 hf).2.1 (so3 hf).2.2 dX6_meet_23
theorem ct6_meet {x1 : Int32} {x2 : Int32} {x3 : Int32} {μ : Mem} {ν : Lem} {r : Int32} {μ1 : Mem} {ν1 : Lem} (hg : f6_meet μ ν x1 x2 x3 = some (r, μ1, ν1)) : CtI false yX6_meet cX6_meet 7 4 95 .int (fun ad => [.ref (ad 0), .int x1, .int x2, .int x3]) μ ν r μ1 ν1 :=
  mkI (by decide) rfl (fun ad => Nat.le_of_ble_eq_true rfl) (fun p l e s m args below meth c D cy ad C hr X ls hl => w6_meet C hr μ ν x1 x2 x3 hg _ _ X _ hl)
theorem qL_72 {p : Program} {l : Launch} {e : Env} {R : Room} {s : State} {m : MethodId} {args : Array Value} {below : List Frame} {meth : Method} {c : Code} {H : Heap} {locs : List Loc} {cells slots : Nat} {Q : State → Prop} {A : Nat → Prop} {cc : ByteArray} {nL : Nat} {D : va_G} {cy : Nat → ClassId} {ad : Nat → Nat} {μ : Mem} {ν : Lem} {pc : Nat} {ls : Array Slot} {rest : List Value} {x1 : Int32} {x2 : Int32} {x3 : Int32} {r : Int32} {μ1 : Mem} {ν1 : Lem} (hg : f6_meet μ ν x1 x2 x3 = some (r, μ1, ν1)) (C : CxA false A p s m args meth c cc nL RL D cy ad) (X : WdA false A D cy ad s.heap μ ν H locs) (hsz : ls.size = nL) (hrm : (rest.map fun v => v.category).sum ≤ 8) (hR : 4 + 1 ≤ R.frames ∧ 8 + (7 + 11) + 95 ≤ R.locals) (hcs : cells ≤ R.cells ∧ slots ≤ R.slots) (hd : decode cc pc = .ok (.invokevirtual 72, 3)) (kk : ∀ (H1 : Heap) (locs1 : List Loc), WdA false A D cy ad s.heap μ1 ν1 H1 locs1 → narrow .int (.int r) = .int r → W p l e R s m args below meth c H1 locs1 cells slots Q (F0 m (pc + 3) ls (.int r :: rest))) : W p l e R s m args below meth c H locs cells slots Q (F0 m pc ls (.int x3 :: .int x2 :: .int x1 :: .ref (ad 0) :: rest)) :=
  rCVI (As := [.int x1, .int x2, .int x3]) (k := 0) (ct6_meet hg) ok6 lX6_meet k_1214 rfl rfl rfl C X rfl hrm hsz hR hcs hd kk
set_option maxRecDepth 100000 in
set_option maxHeartbeats 4000000 in
theorem w6_lowest_1 {p : Program} {l : Launch} {e : Env} {s : State} {m : MethodId} {args : Array Value} {below : List Frame} {meth : Method} {c : Code} {D : va_G} {cy : Nat → ClassId} {ad : Nat → Nat} {r : Int64} {μ : Mem} {ν : Lem} (C : Cx false p s m args meth c cX6_lowest 11 RX6 D cy ad) (hr : meth.sig.returnType = some .long) : ∀ (n : Nat), ∀ (x0 : Int64) (x2 : Int64) (x4 : Int32) (x5 : Int64) (x7 : Int64), f6_lowest_1 n x0 x2 x4 x5 x7 = some r → ∀ (H : Heap) (locs : List Loc), Wd false D cy ad s.heap μ ν H locs → ∀ (ls : Array Slot), lv_has ls 11 [(0, .long x0), (2, .long x2), (4, .int x4), (5, .long x5), (7, .long x7)] → WL false p l e 0 0 s m args below meth c D cy ad r μ ν H locs (F0 m 6 ls []) := by
  have hx := C.1.1
  have hb := C.1.2.1
  have hown := C.1.2.2.2.1
  have hts := C.1.2.2.2.2
  intro n
  induction n with
  | zero =>
    intro x0 x2 x4 x5 x7 hf H locs X ls hl
    rw [f6_lowest_1] at hf
    cases hf
  | succ n ih =>
    intro x0 x2 x4 x5 x7 hf H locs X ls hl
    rw [f6_lowest_1] at hf
    refine lv_lload hx hb dX6_lowest_6 (lv_at hl 4 rfl) ?_
    refine lv_lconst (v := 0) hx hb dX6_lowest_8 (by decide) ?_
    refine W.lcmp hx hb dX6_lowest_9 ?_
    refine lv_if_eq (tgt := 31) hx hb dX6_lowest_10 (by decide) (fun c10 => ?_) (fun c10 => ?_)
    · replace hf := ifp c10 hf
      refine lv_iload hx hb dX6_lowest_31 (lv_at hl 2 rfl) ?_
      refine lv_if_ne (tgt := 43) hx hb dX6_lowest_33 (by decide) (fun c33 => ?_) (fun c33 => ?_)
      · replace hf := ifn c33 hf
        refine lv_lload_n hx hb dX6_lowest_43 rfl (lv_at hl 1 rfl) ?_
        refine lv_lload hx hb dX6_lowest_44 (lv_at hl 3 rfl) ?_
        obtain ⟨h46, hf⟩ := gd_e hf
        refine lv_ldiv hx hb dX6_lowest_46 h46 ?_
        exact retL C X hr (Option.some.inj hf) rfl rfl dX6_lowest_47
      · replace hf := ifp c33 hf
        refine lv_lload_n hx hb dX6_lowest_36 rfl (lv_at hl 0 rfl) ?_
        refine lv_lload hx hb dX6_lowest_37 (lv_at hl 3 rfl) ?_
        obtain ⟨h39, hf⟩ := gd_e hf
        refine lv_ldiv hx hb dX6_lowest_39 h39 ?_
        refine lv_goto (tgt := 47) hx hb dX6_lowest_40 (by decide) ?_
        exact retL C X hr (Option.some.inj hf) rfl rfl dX6_lowest_47
    · replace hf := ifn c10 hf
      refine lv_lload hx hb dX6_lowest_13 (lv_at hl 3 rfl) ?_
      refine lv_lload hx hb dX6_lowest_15 (lv_at hl 4 rfl) ?_
      obtain ⟨h17, hf⟩ := gd_e hf
      refine rLrem hx hb dX6_lowest_17 h17 ?_
      obtain ⟨v18, e18, hf⟩ := nm_e2 hf
      refine st_l e18 ?_
      refine lv_lstore (lv' := [(9, .long v18), (0, .long x0), (2, .long x2), (4, .int x4), (5, .long x5), (7, .long x7)]) hx hb dX6_lowest_18 hl (by decide) rfl (fun ls hl => ?_)
      refine lv_lload hx hb dX6_lowest_20 (lv_at hl 5 rfl) ?_
      refine lv_lstore (lv' := [(5, .long x7), (9, .long v18), (0, .long x0), (2, .long x2), (4, .int x4), (7, .long x7)]) hx hb dX6_lowest_22 hl (by decide) rfl (fun ls hl => ?_)
      refine lv_lload hx hb dX6_lowest_24 (lv_at hl 1 rfl) ?_
      refine lv_lstore (lv' := [(7, .long v18), (5, .long x7), (9, .long v18), (0, .long x0), (2, .long x2), (4, .int x4)]) hx hb dX6_lowest_26 hl (by decide) rfl (fun ls hl => ?_)
      refine lv_goto (tgt := 6) hx hb dX6_lowest_28 (by decide) ?_
      exact ih x0 x2 x4 x7 v18 hf _ _ X _ (lv_sub hl [3, 4, 5, 1, 0] rfl)
set_option maxRecDepth 100000 in
set_option maxHeartbeats 4000000 in
theorem w6_lowest {p : Program} {l : Launch} {e : Env} {s : State} {m : MethodId} {args : Array Value} {below : List Frame} {meth : Method} {c : Code} {D : va_G} {cy : Nat → ClassId} {ad : Nat → Nat} {r : Int64} {μ : Mem} {ν : Lem} (C : Cx false p s m args meth c cX6_lowest 11 RX6 D cy ad) (hr : meth.sig.returnType = some .long) : ∀ (x0 : Int64) (x2 : Int64) (x4 : Int32), f6_lowest x0 x2 x4 = some r → ∀ (H : Heap) (locs : List Loc), Wd false D cy ad s.heap μ ν H locs → ∀ (ls : Array Slot), lv_has ls 11 [(0, .long x0), (2, .long x2), (4, .int x4)] → WL false p l e 0 0 s m args below meth c D cy ad r μ ν H locs (F0 m 0 ls []) := by
  have hx := C.1.1
  have hb := C.1.2.1
  have hown := C.1.2.2.2.1
  have hts := C.1.2.2.2.2
  intro x0 x2 x4 hf H locs X ls hl
  unfold f6_lowest at hf
  refine lv_lload_n hx hb dX6_lowest_0 rfl (lv_at hl 0 rfl) ?_
  refine lv_lstore (lv' := [(5, .long x0), (0, .long x0), (2, .long x2), (4, .int x4)]) hx hb dX6_lowest_1 hl (by decide) rfl (fun ls hl => ?_)
  refine lv_lload_n hx hb dX6_lowest_3 rfl (lv_at hl 2 rfl) ?_
  refine lv_lstore (lv' := [(7, .long x2), (5, .long x0), (0, .long x0), (2, .long x2), (4, .int x4)]) hx hb dX6_lowest_4 hl (by decide) rfl (fun ls hl => ?_)
  exact w6_lowest_1 C hr  FUEL x0 x2 x4 x0 x2 hf _ _ X _ (lv_sub hl [2, 3, 4, 1, 0] rfl)
theorem ct6_lowest {x0 : Int64} {x2 : Int64} {x4 : Int32} {μ : Mem} {ν : Lem} {r : Int64} (hg : f6_lowest x0 x2 x4 = some r) : CtL false yX6_lowest cX6_lowest 11 0 0 (fun ad => [.long x0, .long x2, .int x4]) μ ν r μ ν :=
  mkL (by decide) rfl (fun ad => Nat.le_of_ble_eq_true rfl) (fun p l e s m args below meth c D cy ad C hr X ls hl => w6_lowest C hr x0 x2 x4 hg _ _ X _ hl)
theorem qX6_381 {p : Program} {l : Launch} {e : Env} {R : Room} {s : State} {m : MethodId} {args : Array Value} {below : List Frame} {meth : Method} {c : Code} {H : Heap} {locs : List Loc} {cells slots : Nat} {Q : State → Prop} {A : Nat → Prop} {cc : ByteArray} {nL : Nat} {D : va_G} {cy : Nat → ClassId} {ad : Nat → Nat} {μ : Mem} {ν : Lem} {pc : Nat} {ls : Array Slot} {rest : List Value} {x0 : Int64} {x2 : Int64} {x4 : Int32} {r : Int64} (hg : f6_lowest x0 x2 x4 = some r) (C : CxA false A p s m args meth c cc nL RX6 D cy ad) (X : WdA false A D cy ad s.heap μ ν H locs) (hsz : ls.size = nL) (hrm : (rest.map fun v => v.category).sum ≤ 8) (hR : 0 + 1 ≤ R.frames ∧ 8 + (11 + 11) + 0 ≤ R.locals) (hcs : cells ≤ R.cells ∧ slots ≤ R.slots) (hd : decode cc pc = .ok (.invokestatic 381, 3)) (kk : ∀ (H1 : Heap) (locs1 : List Loc), WdA false A D cy ad s.heap μ ν H1 locs1 → W p l e R s m args below meth c H1 locs1 cells slots Q (F0 m (pc + 3) ls (.long r :: rest))) : W p l e R s m args below meth c H locs cells slots Q (F0 m pc ls (.int x4 :: .long x2 :: .long x0 :: rest)) :=
  rCSL (As := [.long x0, .long x2, .int x4]) (ct6_lowest hg) lX6_lowest k_1244 rfl rfl C X rfl hrm hsz hR hcs hd kk
set_option maxRecDepth 100000 in
set_option maxHeartbeats 4000000 in
theorem w6_when {p : Program} {l : Launch} {e : Env} {s : State} {m : MethodId} {args : Array Value} {below : List Frame} {meth : Method} {c : Code} {D : va_G} {cy : Nat → ClassId} {ad : Nat → Nat} {r : Int64} {μ1 : Mem} {ν1 : Lem} (C : Cx false p s m args meth c cX6_when 9 RX6 D cy ad) (hr : meth.sig.returnType = some .long) : ∀ (μ : Mem) (ν : Lem) (x1 : Int32) (x2 : Int32) (x3 : Int32), f6_when μ ν x1 x2 x3 = some (r, μ1, ν1) → ∀ (H : Heap) (locs : List Loc), Wd false D cy ad s.heap μ ν H locs → ∀ (ls : Array Slot), lv_has ls 9 [(0, .ref (ad 0)), (1, .int x1), (2, .int x2), (3, .int x3)] → WL false p l e 4 95 s m args below meth c D cy ad r μ1 ν1 H locs (F0 m 0 ls []) := by
  have hx := C.1.1
  have hb := C.1.2.1
  have hown := C.1.2.2.2.1
  have hts := C.1.2.2.2.2
  intro μ ν x1 x2 x3 hf H locs X ls hl
  unfold f6_when at hf
  refine lv_aload_n hx hb dX6_when_0 rfl (lv_at hl 0 rfl) ?_
  refine lv_iload_n hx hb dX6_when_1 rfl (lv_at hl 1 rfl) ?_
  refine lv_iload_n hx hb dX6_when_2 rfl (lv_at hl 2 rfl) ?_
  refine qX6_367 rfl C X hl.1 ((Nat.le_of_ble_eq_true rfl)) ⟨(Nat.le_of_ble_eq_true rfl), (Nat.le_of_ble_eq_true rfl)⟩ ⟨Nat.zero_le _, Nat.zero_le _⟩ dX6_when_3 (fun H locs X b3 => ?_)
  refine lv_if_eq (tgt := 19) hx hb dX6_when_6 (by decide) (fun c6 => ?_) (fun c6 => ?_)
  · replace hf := ifp c6 hf
    refine lv_ldc2 (v := (-4611686018427387904)) hx hb hown (hts _ k_1243) dX6_when_19 ?_
    exact retL C X hr (so3 hf).1 (so3 hf).2.1 (so3 hf).2.2 dX6_when_22
  · replace hf := ifn c6 hf
    refine lv_iload_n hx hb dX6_when_9 rfl (lv_at hl 3 rfl) ?_
    refine lv_i2l hx hb dX6_when_10 rfl ?_
    refine lv_lconst (v := 0) hx hb dX6_when_11 (by decide) ?_
    refine lv_lconst (v := 1) hx hb dX6_when_12 (by decide) ?_
    refine qX6_92 rfl C X hl.1 ((Nat.le_of_ble_eq_true rfl)) ⟨(Nat.le_of_ble_eq_true rfl), (Nat.le_of_ble_eq_true rfl)⟩ ⟨Nat.zero_le _, Nat.zero_le _⟩ dX6_when_13 (fun H locs X b13 => ?_)
    refine lv_if_ne (tgt := 23) hx hb dX6_when_16 (by decide) (fun c16 => ?_) (fun c16 => ?_)
    · replace hf := ifn c16 hf
      refine lv_aload_n hx hb dX6_when_23 rfl (lv_at hl 0 rfl) ?_
      refine lv_iload_n hx hb dX6_when_24 rfl (lv_at hl 1 rfl) ?_
      refine lv_iload_n hx hb dX6_when_25 rfl (lv_at hl 2 rfl) ?_
      obtain ⟨μ26, ν26, g26, hf⟩ := bd2_e hf
      refine qX6_372 g26 C X hl.1 ((Nat.le_of_ble_eq_true rfl)) ⟨(Nat.le_of_ble_eq_true rfl), (Nat.le_of_ble_eq_true rfl)⟩ ⟨Nat.zero_le _, Nat.zero_le _⟩ dX6_when_26 (fun H locs X => ?_)
      refine lv_aload_n hx hb dX6_when_29 rfl (lv_at hl 0 rfl) ?_
      refine lv_iconst (v := 0) hx hb dX6_when_30 (by decide) ?_
      obtain ⟨r31, g31, hf⟩ := bd1_e hf
      refine qX6_376 g31 C X hl.1 ((Nat.le_of_ble_eq_true rfl)) ⟨(Nat.le_of_ble_eq_true rfl), (Nat.le_of_ble_eq_true rfl)⟩ ⟨Nat.zero_le _, Nat.zero_le _⟩ dX6_when_31 (fun H locs X b31 => ?_)
      refine lv_istore (lv' := [(4, .int r31), (0, .ref (ad 0)), (1, .int x1), (2, .int x2), (3, .int x3)]) hx hb dX6_when_34 hl (by decide) rfl (fun ls hl => ?_)
      refine lv_iload hx hb dX6_when_36 (lv_at hl 0 rfl) ?_
      refine lv_iconst (v := (-1)) hx hb dX6_when_38 (by decide) ?_
      refine lv_icmp_ne (tgt := 46) hx hb dX6_when_39 (by decide) (fun c39 => ?_) (fun c39 => ?_)
      · replace hf := ifn c39 hf
        refine lv_aload_n hx hb dX6_when_46 rfl (lv_at hl 1 rfl) ?_
        refine lv_iload hx hb dX6_when_47 (lv_at hl 0 rfl) ?_
        refine lv_iconst (v := 0) hx hb dX6_when_49 (by decide) ?_
        obtain ⟨r50, g50, hf⟩ := bd1_e hf
        refine qX6_361 g50 C X hl.1 ((Nat.le_of_ble_eq_true rfl)) ⟨(Nat.le_of_ble_eq_true rfl), (Nat.le_of_ble_eq_true rfl)⟩ ⟨Nat.zero_le _, Nat.zero_le _⟩ dX6_when_50 (fun H locs X b50 => ?_)
        refine lv_i2l hx hb dX6_when_53 rfl ?_
        refine qX6_338 rfl C X hl.1 ((Nat.le_of_ble_eq_true rfl)) ⟨(Nat.le_of_ble_eq_true rfl), (Nat.le_of_ble_eq_true rfl)⟩ ⟨Nat.zero_le _, Nat.zero_le _⟩ dX6_when_54 (fun H locs X => ?_)
        obtain ⟨v57, e57, hf⟩ := nm_e2 hf
        refine st_l e57 ?_
        refine lv_lstore (lv' := [(5, .long v57), (4, .int r31), (0, .ref (ad 0)), (1, .int x1), (2, .int x2), (3, .int x3)]) hx hb dX6_when_57 hl (by decide) rfl (fun ls hl => ?_)
        refine lv_lload hx hb dX6_when_59 (lv_at hl 0 rfl) ?_
        refine lv_lconst (v := 0) hx hb dX6_when_61 (by decide) ?_
        refine W.lcmp hx hb dX6_when_62 ?_
        refine lv_if_ne (tgt := 78) hx hb dX6_when_63 (by decide) (fun c63 => ?_) (fun c63 => ?_)
        · replace hf := ifn c63 hf
          refine lv_lload hx hb dX6_when_78 (lv_at hl 0 rfl) ?_
          refine lv_aload_n hx hb dX6_when_80 rfl (lv_at hl 2 rfl) ?_
          refine lv_iload hx hb dX6_when_81 (lv_at hl 1 rfl) ?_
          refine lv_iconst (v := 1) hx hb dX6_when_83 (by decide) ?_
          refine lv_iadd hx hb dX6_when_84 ?_
          refine lv_iconst (v := 0) hx hb dX6_when_85 (by decide) ?_
          obtain ⟨r86, g86, hf⟩ := bd1_e hf
          refine qX6_361 g86 C X hl.1 ((Nat.le_of_ble_eq_true rfl)) ⟨(Nat.le_of_ble_eq_true rfl), (Nat.le_of_ble_eq_true rfl)⟩ ⟨Nat.zero_le _, Nat.zero_le _⟩ dX6_when_86 (fun H locs X b86 => ?_)
          refine lv_i2l hx hb dX6_when_89 rfl ?_
          refine qX6_338 rfl C X hl.1 ((Nat.le_of_ble_eq_true rfl)) ⟨(Nat.le_of_ble_eq_true rfl), (Nat.le_of_ble_eq_true rfl)⟩ ⟨Nat.zero_le _, Nat.zero_le _⟩ dX6_when_90 (fun H locs X => ?_)
          refine lv_ladd hx hb dX6_when_93 ?_
          obtain ⟨v94, e94, hf⟩ := nm_e2 hf
          refine st_l e94 ?_
          refine lv_lstore (lv' := [(7, .long v94), (5, .long v57), (4, .int r31), (0, .ref (ad 0)), (1, .int x1), (2, .int x2), (3, .int x3)]) hx hb dX6_when_94 hl (by decide) rfl (fun ls hl => ?_)
          refine lv_iload hx hb dX6_when_96 (lv_at hl 2 rfl) ?_
          refine lv_i2l hx hb dX6_when_98 rfl ?_
          refine lv_lload hx hb dX6_when_99 (lv_at hl 0 rfl) ?_
          refine lv_lmul hx hb dX6_when_101 ?_
          refine lv_lload hx hb dX6_when_102 (lv_at hl 1 rfl) ?_
          refine lv_ladd hx hb dX6_when_104 ?_
          refine lv_lload hx hb dX6_when_105 (lv_at hl 0 rfl) ?_
          refine lv_iload_n hx hb dX6_when_107 rfl (lv_at hl 6 rfl) ?_
          obtain ⟨r108, g108, hf⟩ := bd1_e hf
          refine qX6_381 g108 C X hl.1 ((Nat.le_of_ble_eq_true rfl)) ⟨(Nat.le_of_ble_eq_true rfl), (Nat.le_of_ble_eq_true rfl)⟩ ⟨Nat.zero_le _, Nat.zero_le _⟩ dX6_when_108 (fun H locs X => ?_)
          exact retL C X hr (so3 hf).1 (so3 hf).2.1 (so3 hf).2.2 dX6_when_111
        · replace hf := ifp c63 hf
          refine lv_iload_n hx hb dX6_when_66 rfl (lv_at hl 5 rfl) ?_
          refine lv_if_ne (tgt := 76) hx hb dX6_when_67 (by decide) (fun c67 => ?_) (fun c67 => ?_)
          · replace hf := ifn c67 hf
            refine lv_lconst (v := 1) hx hb dX6_when_76 (by decide) ?_
            exact retL C X hr (so3 hf).1 (so3 hf).2.1 (so3 hf).2.2 dX6_when_77
          · replace hf := ifp c67 hf
            refine lv_iload hx hb dX6_when_70 (lv_at hl 1 rfl) ?_
            refine lv_i2l hx hb dX6_when_72 rfl ?_
            refine lv_goto (tgt := 77) hx hb dX6_when_73 (by decide) ?_
            exact retL C X hr (so3 hf).1 (so3 hf).2.1 (so3 hf).2.2 dX6_when_77
      · replace hf := ifp c39 hf
        refine lv_ldc2 (v := (-4611686018427387904)) hx hb hown (hts _ k_1243) dX6_when_42 ?_
        exact retL C X hr (so3 hf).1 (so3 hf).2.1 (so3 hf).2.2 dX6_when_45
    · replace hf := ifp c16 hf
      refine lv_ldc2 (v := (-4611686018427387904)) hx hb hown (hts _ k_1243) dX6_when_19 ?_
      exact retL C X hr (so3 hf).1 (so3 hf).2.1 (so3 hf).2.2 dX6_when_22
theorem ct6_when {x1 : Int32} {x2 : Int32} {x3 : Int32} {μ : Mem} {ν : Lem} {r : Int64} {μ1 : Mem} {ν1 : Lem} (hg : f6_when μ ν x1 x2 x3 = some (r, μ1, ν1)) : CtL false yX6_when cX6_when 9 4 95 (fun ad => [.ref (ad 0), .int x1, .int x2, .int x3]) μ ν r μ1 ν1 :=
  mkL (by decide) rfl (fun ad => Nat.le_of_ble_eq_true rfl) (fun p l e s m args below meth c D cy ad C hr X ls hl => w6_when C hr μ ν x1 x2 x3 hg _ _ X _ hl)
theorem qL_77 {p : Program} {l : Launch} {e : Env} {R : Room} {s : State} {m : MethodId} {args : Array Value} {below : List Frame} {meth : Method} {c : Code} {H : Heap} {locs : List Loc} {cells slots : Nat} {Q : State → Prop} {A : Nat → Prop} {cc : ByteArray} {nL : Nat} {D : va_G} {cy : Nat → ClassId} {ad : Nat → Nat} {μ : Mem} {ν : Lem} {pc : Nat} {ls : Array Slot} {rest : List Value} {x1 : Int32} {x2 : Int32} {x3 : Int32} {r : Int64} {μ1 : Mem} {ν1 : Lem} (hg : f6_when μ ν x1 x2 x3 = some (r, μ1, ν1)) (C : CxA false A p s m args meth c cc nL RL D cy ad) (X : WdA false A D cy ad s.heap μ ν H locs) (hsz : ls.size = nL) (hrm : (rest.map fun v => v.category).sum ≤ 8) (hR : 4 + 1 ≤ R.frames ∧ 8 + (9 + 11) + 95 ≤ R.locals) (hcs : cells ≤ R.cells ∧ slots ≤ R.slots) (hd : decode cc pc = .ok (.invokevirtual 77, 3)) (kk : ∀ (H1 : Heap) (locs1 : List Loc), WdA false A D cy ad s.heap μ1 ν1 H1 locs1 → W p l e R s m args below meth c H1 locs1 cells slots Q (F0 m (pc + 3) ls (.long r :: rest))) : W p l e R s m args below meth c H locs cells slots Q (F0 m pc ls (.int x3 :: .int x2 :: .int x1 :: .ref (ad 0) :: rest)) :=
  rCVL (As := [.int x1, .int x2, .int x3]) (k := 0) (ct6_when hg) ok6 lX6_when k_1239 rfl rfl rfl C X rfl hrm hsz hR hcs hd kk
set_option maxRecDepth 100000 in
set_option maxHeartbeats 4000000 in
theorem w6_sure_1 {p : Program} {l : Launch} {e : Env} {s : State} {m : MethodId} {args : Array Value} {below : List Frame} {meth : Method} {c : Code} {D : va_G} {cy : Nat → ClassId} {ad : Nat → Nat} {r : Int32} {μ1 : Mem} {ν1 : Lem} (C : Cx false p s m args meth c cX6_sure 4 RX6 D cy ad) (hr : meth.sig.returnType = some .int) : ∀ (n : Nat), ∀ (μ : Mem) (ν : Lem) (x3 : Int32), f6_sure_1 n μ ν x3 = some (r, μ1, ν1) → ∀ (H : Heap) (locs : List Loc), Wd false D cy ad s.heap μ ν H locs → ∀ (ls : Array Slot), lv_has ls 4 [(0, .ref (ad 0)), (3, .int x3)] → WI false p l e 4 95 s m args below meth c D cy ad .int r μ1 ν1 H locs (F0 m 20 ls []) := by
  have hx := C.1.1
  have hb := C.1.2.1
  have hown := C.1.2.2.2.1
  have hts := C.1.2.2.2.2
  intro n
  induction n with
  | zero =>
    intro μ ν x3 hf H locs X ls hl
    rw [f6_sure_1] at hf
    cases hf
  | succ n ih =>
    intro μ ν x3 hf H locs X ls hl
    rw [f6_sure_1] at hf
    refine lv_iload_n hx hb dX6_sure_20 rfl (lv_at hl 1 rfl) ?_
    refine lv_bipush (v := 120) hx hb dX6_sure_21 (by decide) ?_
    refine lv_icmp_ge (tgt := 43) hx hb dX6_sure_23 (by decide) (fun c23 => ?_) (fun c23 => ?_)
    · replace hf := ifp c23 hf
      refine lv_iload_n hx hb dX6_sure_43 rfl (lv_at hl 1 rfl) ?_
      exact retI C X hr rfl (so3 hf).1 (so3 hf).2.1 (so3 hf).2.2 dX6_sure_44
    · replace hf := ifn c23 hf
      refine lv_aload_n hx hb dX6_sure_26 rfl (lv_at hl 0 rfl) ?_
      refine lv_iload_n hx hb dX6_sure_27 rfl (lv_at hl 1 rfl) ?_
      refine lv_iconst (v := 1) hx hb dX6_sure_28 (by decide) ?_
      refine lv_iadd hx hb dX6_sure_29 ?_
      obtain ⟨r30, g30, hf⟩ := bd1_e hf
      refine qX6_376 g30 C X hl.1 ((Nat.le_of_ble_eq_true rfl)) ⟨(Nat.le_of_ble_eq_true rfl), (Nat.le_of_ble_eq_true rfl)⟩ ⟨Nat.zero_le _, Nat.zero_le _⟩ dX6_sure_30 (fun H locs X b30 => ?_)
      refine lv_iconst (v := (-1)) hx hb dX6_sure_33 (by decide) ?_
      refine lv_icmp_eq (tgt := 43) hx hb dX6_sure_34 (by decide) (fun c34 => ?_) (fun c34 => ?_)
      · replace hf := ifp c34 hf
        refine lv_iload_n hx hb dX6_sure_43 rfl (lv_at hl 1 rfl) ?_
        exact retI C X hr rfl (so3 hf).1 (so3 hf).2.1 (so3 hf).2.2 dX6_sure_44
      · replace hf := ifn c34 hf
        obtain ⟨v37, e37, hf⟩ := nm_e2 hf
        refine rIinc (lv' := [(3, .int v37), (0, .ref (ad 0))]) hx hb dX6_sure_37 hl (k := 1) rfl e37 rfl (by decide) rfl (fun ls hl => ?_)
        refine lv_goto (tgt := 20) hx hb dX6_sure_40 (by decide) ?_
        exact ih μ ν v37 hf _ _ X _ (lv_sub hl [1, 0] rfl)
set_option maxRecDepth 100000 in
set_option maxHeartbeats 4000000 in
theorem w6_sure {p : Program} {l : Launch} {e : Env} {s : State} {m : MethodId} {args : Array Value} {below : List Frame} {meth : Method} {c : Code} {D : va_G} {cy : Nat → ClassId} {ad : Nat → Nat} {r : Int32} {μ1 : Mem} {ν1 : Lem} (C : Cx false p s m args meth c cX6_sure 4 RX6 D cy ad) (hr : meth.sig.returnType = some .int) : ∀ (μ : Mem) (ν : Lem) (x1 : Int32) (x2 : Int32), f6_sure μ ν x1 x2 = some (r, μ1, ν1) → ∀ (H : Heap) (locs : List Loc), Wd false D cy ad s.heap μ ν H locs → ∀ (ls : Array Slot), lv_has ls 4 [(0, .ref (ad 0)), (1, .int x1), (2, .int x2)] → WI false p l e 4 95 s m args below meth c D cy ad .int r μ1 ν1 H locs (F0 m 0 ls []) := by
  have hx := C.1.1
  have hb := C.1.2.1
  have hown := C.1.2.2.2.1
  have hts := C.1.2.2.2.2
  intro μ ν x1 x2 hf H locs X ls hl
  unfold f6_sure at hf
  refine lv_aload_n hx hb dX6_sure_0 rfl (lv_at hl 0 rfl) ?_
  refine lv_iload_n hx hb dX6_sure_1 rfl (lv_at hl 1 rfl) ?_
  refine lv_iload_n hx hb dX6_sure_2 rfl (lv_at hl 2 rfl) ?_
  refine qX6_367 rfl C X hl.1 ((Nat.le_of_ble_eq_true rfl)) ⟨(Nat.le_of_ble_eq_true rfl), (Nat.le_of_ble_eq_true rfl)⟩ ⟨Nat.zero_le _, Nat.zero_le _⟩ dX6_sure_3 (fun H locs X b3 => ?_)
  refine lv_if_ne (tgt := 12) hx hb dX6_sure_6 (by decide) (fun c6 => ?_) (fun c6 => ?_)
  · replace hf := ifn c6 hf
    refine lv_aload_n hx hb dX6_sure_12 rfl (lv_at hl 0 rfl) ?_
    refine lv_iload_n hx hb dX6_sure_13 rfl (lv_at hl 1 rfl) ?_
    refine lv_iload_n hx hb dX6_sure_14 rfl (lv_at hl 2 rfl) ?_
    obtain ⟨μ15, ν15, g15, hf⟩ := bd2_e hf
    refine qX6_372 g15 C X hl.1 ((Nat.le_of_ble_eq_true rfl)) ⟨(Nat.le_of_ble_eq_true rfl), (Nat.le_of_ble_eq_true rfl)⟩ ⟨Nat.zero_le _, Nat.zero_le _⟩ dX6_sure_15 (fun H locs X => ?_)
    refine lv_iconst (v := (-1)) hx hb dX6_sure_18 (by decide) ?_
    refine lv_istore_n (lv' := [(3, .int (-1)), (0, .ref (ad 0)), (1, .int x1), (2, .int x2)]) hx hb dX6_sure_19 rfl hl (by decide) rfl (fun ls hl => ?_)
    exact w6_sure_1 C hr  FUEL μ15 ν15 (-1) hf _ _ X _ (lv_sub hl [1, 0] rfl)
  · replace hf := ifp c6 hf
    refine lv_bipush (v := (-2)) hx hb dX6_sure_9 (by decide) ?_
    exact retI C X hr rfl (so3 hf).1 (so3 hf).2.1 (so3 hf).2.2 dX6_sure_11
theorem ct6_sure {x1 : Int32} {x2 : Int32} {μ : Mem} {ν : Lem} {r : Int32} {μ1 : Mem} {ν1 : Lem} (hg : f6_sure μ ν x1 x2 = some (r, μ1, ν1)) : CtI false yX6_sure cX6_sure 4 4 95 .int (fun ad => [.ref (ad 0), .int x1, .int x2]) μ ν r μ1 ν1 :=
  mkI (by decide) rfl (fun ad => Nat.le_of_ble_eq_true rfl) (fun p l e s m args below meth c D cy ad C hr X ls hl => w6_sure C hr μ ν x1 x2 hg _ _ X _ hl)
theorem qL_81 {p : Program} {l : Launch} {e : Env} {R : Room} {s : State} {m : MethodId} {args : Array Value} {below : List Frame} {meth : Method} {c : Code} {H : Heap} {locs : List Loc} {cells slots : Nat} {Q : State → Prop} {A : Nat → Prop} {cc : ByteArray} {nL : Nat} {D : va_G} {cy : Nat → ClassId} {ad : Nat → Nat} {μ : Mem} {ν : Lem} {pc : Nat} {ls : Array Slot} {rest : List Value} {x1 : Int32} {x2 : Int32} {r : Int32} {μ1 : Mem} {ν1 : Lem} (hg : f6_sure μ ν x1 x2 = some (r, μ1, ν1)) (C : CxA false A p s m args meth c cc nL RL D cy ad) (X : WdA false A D cy ad s.heap μ ν H locs) (hsz : ls.size = nL) (hrm : (rest.map fun v => v.category).sum ≤ 8) (hR : 4 + 1 ≤ R.frames ∧ 8 + (4 + 11) + 95 ≤ R.locals) (hcs : cells ≤ R.cells ∧ slots ≤ R.slots) (hd : decode cc pc = .ok (.invokevirtual 81, 3)) (kk : ∀ (H1 : Heap) (locs1 : List Loc), WdA false A D cy ad s.heap μ1 ν1 H1 locs1 → narrow .int (.int r) = .int r → W p l e R s m args below meth c H1 locs1 cells slots Q (F0 m (pc + 3) ls (.int r :: rest))) : W p l e R s m args below meth c H locs cells slots Q (F0 m pc ls (.int x2 :: .int x1 :: .ref (ad 0) :: rest)) :=
  rCVI (As := [.int x1, .int x2]) (k := 0) (ct6_sure hg) ok6 lX6_sure k_1247 rfl rfl rfl C X rfl hrm hsz hR hcs hd kk
set_option maxRecDepth 100000 in
set_option maxHeartbeats 4000000 in
theorem w6_apart_2 {p : Program} {l : Launch} {e : Env} {s : State} {m : MethodId} {args : Array Value} {below : List Frame} {meth : Method} {c : Code} {D : va_G} {cy : Nat → ClassId} {ad : Nat → Nat} {r : Int32} {μ1 : Mem} {ν1 : Lem} (C : Cx false p s m args meth c cX6_apart 9 RX6 D cy ad) (hr : meth.sig.returnType = some .int) (K42 : Mem → Lem → Int32 → Int32 → Int32 → Int32 → Int32 → Int32 → Option (Int32 × Mem × Lem)) (hK42 : ∀ (μ : Mem) (ν : Lem) (x1 : Int32) (x3 : Int32) (x4 : Int32) (x5 : Int32) (x6 : Int32) (x7 : Int32), K42 μ ν x1 x3 x4 x5 x6 x7 = some (r, μ1, ν1) → ∀ (H : Heap) (locs : List Loc), Wd false D cy ad s.heap μ ν H locs → ∀ (ls : Array Slot), lv_has ls 9 [(0, .ref (ad 0)), (1, .int x1), (3, .int x3), (4, .int x4), (5, .int x5), (6, .int x6), (7, .int x7)] → WI false p l e 43 955 s m args below meth c D cy ad .int r μ1 ν1 H locs (F0 m 42 ls [])) : ∀ (μ : Mem) (ν : Lem) (x1 : Int32) (x3 : Int32) (x4 : Int32) (x5 : Int32) (x6 : Int32) (x7 : Int32) (x8 : Int32), f6_apart_2 K42 μ ν x1 x3 x4 x5 x6 x7 x8 = some (r, μ1, ν1) → ∀ (H : Heap) (locs : List Loc), Wd false D cy ad s.heap μ ν H locs → ∀ (ls : Array Slot), lv_has ls 9 [(0, .ref (ad 0)), (1, .int x1), (3, .int x3), (4, .int x4), (5, .int x5), (6, .int x6), (7, .int x7), (8, .int x8)] → WI false p l e 43 955 s m args below meth c D cy ad .int r μ1 ν1 H locs (F0 m 79 ls []) := by
  have hx := C.1.1
  have hb := C.1.2.1
  have hown := C.1.2.2.2.1
  have hts := C.1.2.2.2.2
  intro μ ν x1 x3 x4 x5 x6 x7 x8 hf H locs X ls hl
  unfold f6_apart_2 at hf
  refine lv_iload_n hx hb dX6_apart_79 rfl (lv_at hl 2 rfl) ?_
  refine lv_iconst (v := 2) hx hb dX6_apart_80 (by decide) ?_
  refine lv_icmp_ne (tgt := 100) hx hb dX6_apart_81 (by decide) (fun c81 => ?_) (fun c81 => ?_)
  · replace hf := ifn c81 hf
    obtain ⟨v100, e100, hf⟩ := nm_e2 hf
    refine rIinc (lv' := [(7, .int v100), (0, .ref (ad 0)), (1, .int x1), (3, .int x3), (4, .int x4), (5, .int x5), (6, .int x6), (8, .int x8)]) hx hb dX6_apart_100 hl (k := 6) rfl e100 rfl (by decide) rfl (fun ls hl => ?_)
    refine lv_goto (tgt := 42) hx hb dX6_apart_103 (by decide) ?_
    exact hK42 μ ν x1 x3 x4 x5 x6 v100 hf _ _ X _ (lv_sub hl [1, 2, 3, 4, 5, 6, 0] rfl)
  · replace hf := ifp c81 hf
    refine lv_iload hx hb dX6_apart_84 (lv_at hl 7 rfl) ?_
    refine lv_aload_n hx hb dX6_apart_86 rfl (lv_at hl 0 rfl) ?_
    refine lv_iconst (v := 0) hx hb dX6_apart_87 (by decide) ?_
    refine lv_iload_n hx hb dX6_apart_88 rfl (lv_at hl 1 rfl) ?_
    refine lv_iload hx hb dX6_apart_89 (lv_at hl 6 rfl) ?_
    obtain ⟨r91, μ91, ν91, g91, hf⟩ := bd3_e hf
    refine qX6_344 g91 C X hl.1 ((Nat.le_of_ble_eq_true rfl)) ⟨(Nat.le_of_ble_eq_true rfl), (Nat.le_of_ble_eq_true rfl)⟩ ⟨Nat.zero_le _, Nat.zero_le _⟩ dX6_apart_91 (fun H locs X b91 => ?_)
    refine lv_icmp_gt (tgt := 100) hx hb dX6_apart_94 (by decide) (fun c94 => ?_) (fun c94 => ?_)
    · replace hf := ifp c94 hf
      obtain ⟨v100, e100, hf⟩ := nm_e2 hf
      refine rIinc (lv' := [(7, .int v100), (0, .ref (ad 0)), (1, .int x1), (3, .int x3), (4, .int x4), (5, .int x5), (6, .int x6), (8, .int x8)]) hx hb dX6_apart_100 hl (k := 6) rfl e100 rfl (by decide) rfl (fun ls hl => ?_)
      refine lv_goto (tgt := 42) hx hb dX6_apart_103 (by decide) ?_
      exact hK42 μ91 ν91 x1 x3 x4 x5 x6 v100 hf _ _ X _ (lv_sub hl [1, 2, 3, 4, 5, 6, 0] rfl)
    · replace hf := ifn c94 hf
      obtain ⟨v97, e97, hf⟩ := nm_e2 hf
      refine rIinc (lv' := [(6, .int v97), (0, .ref (ad 0)), (1, .int x1), (3, .int x3), (4, .int x4), (5, .int x5), (7, .int x7), (8, .int x8)]) hx hb dX6_apart_97 hl (k := 5) rfl e97 rfl (by decide) rfl (fun ls hl => ?_)
      obtain ⟨v100, e100, hf⟩ := nm_e2 hf
      refine rIinc (lv' := [(7, .int v100), (6, .int v97), (0, .ref (ad 0)), (1, .int x1), (3, .int x3), (4, .int x4), (5, .int x5), (8, .int x8)]) hx hb dX6_apart_100 hl (k := 6) rfl e100 rfl (by decide) rfl (fun ls hl => ?_)
      refine lv_goto (tgt := 42) hx hb dX6_apart_103 (by decide) ?_
      exact hK42 μ91 ν91 x1 x3 x4 x5 v97 v100 hf _ _ X _ (lv_sub hl [2, 3, 4, 5, 6, 1, 0] rfl)
set_option maxRecDepth 100000 in
set_option maxHeartbeats 4000000 in
theorem w6_apart_1 {p : Program} {l : Launch} {e : Env} {s : State} {m : MethodId} {args : Array Value} {below : List Frame} {meth : Method} {c : Code} {D : va_G} {cy : Nat → ClassId} {ad : Nat → Nat} {r : Int32} {μ1 : Mem} {ν1 : Lem} (C : Cx false p s m args meth c cX6_apart 9 RX6 D cy ad) (hr : meth.sig.returnType = some .int) : ∀ (n : Nat), ∀ (μ : Mem) (ν : Lem) (x1 : Int32) (x3 : Int32) (x4 : Int32) (x5 : Int32) (x6 : Int32) (x7 : Int32), f6_apart_1 n μ ν x1 x3 x4 x5 x6 x7 = some (r, μ1, ν1) → ∀ (H : Heap) (locs : List Loc), Wd false D cy ad s.heap μ ν H locs → ∀ (ls : Array Slot), lv_has ls 9 [(0, .ref (ad 0)), (1, .int x1), (3, .int x3), (4, .int x4), (5, .int x5), (6, .int x6), (7, .int x7)] → WI false p l e 43 955 s m args below meth c D cy ad .int r μ1 ν1 H locs (F0 m 42 ls []) := by
  have hx := C.1.1
  have hb := C.1.2.1
  have hown := C.1.2.2.2.1
  have hts := C.1.2.2.2.2
  intro n
  induction n with
  | zero =>
    intro μ ν x1 x3 x4 x5 x6 x7 hf H locs X ls hl
    rw [f6_apart_1] at hf
    cases hf
  | succ n ih =>
    intro μ ν x1 x3 x4 x5 x6 x7 hf H locs X ls hl
    rw [f6_apart_1] at hf
    refine lv_iload hx hb dX6_apart_42 (lv_at hl 6 rfl) ?_
    refine lv_sipush (v := 601) hx hb dX6_apart_44 (by decide) ?_
    refine lv_icmp_ge (tgt := 106) hx hb dX6_apart_47 (by decide) (fun c47 => ?_) (fun c47 => ?_)
    · replace hf := ifp c47 hf
      refine lv_iload_n hx hb dX6_apart_106 rfl (lv_at hl 2 rfl) ?_
      refine lv_if_ne (tgt := 115) hx hb dX6_apart_107 (by decide) (fun c107 => ?_) (fun c107 => ?_)
      · replace hf := ifn c107 hf
        refine lv_iload_n hx hb dX6_apart_115 rfl (lv_at hl 2 rfl) ?_
        refine lv_iconst (v := 1) hx hb dX6_apart_116 (by decide) ?_
        refine lv_icmp_ne (tgt := 125) hx hb dX6_apart_117 (by decide) (fun c117 => ?_) (fun c117 => ?_)
        · replace hf := ifn c117 hf
          refine lv_iload hx hb dX6_apart_125 (lv_at hl 5 rfl) ?_
          exact retI C X hr rfl (so3 hf).1 (so3 hf).2.1 (so3 hf).2.2 dX6_apart_127
        · replace hf := ifp c117 hf
          refine lv_iload hx hb dX6_apart_120 (lv_at hl 4 rfl) ?_
          refine lv_goto (tgt := 127) hx hb dX6_apart_122 (by decide) ?_
          exact retI C X hr rfl (so3 hf).1 (so3 hf).2.1 (so3 hf).2.2 dX6_apart_127
      · replace hf := ifp c107 hf
        refine lv_iload hx hb dX6_apart_110 (lv_at hl 3 rfl) ?_
        refine lv_goto (tgt := 127) hx hb dX6_apart_112 (by decide) ?_
        exact retI C X hr rfl (so3 hf).1 (so3 hf).2.1 (so3 hf).2.2 dX6_apart_127
    · replace hf := ifn c47 hf
      refine lv_aload_n hx hb dX6_apart_50 rfl (lv_at hl 0 rfl) ?_
      refine lv_iload hx hb dX6_apart_51 (lv_at hl 6 rfl) ?_
      refine lv_iconst (v := 0) hx hb dX6_apart_53 (by decide) ?_
      obtain ⟨r54, g54, hf⟩ := bd1_e hf
      refine qX6_361 g54 C X hl.1 ((Nat.le_of_ble_eq_true rfl)) ⟨(Nat.le_of_ble_eq_true rfl), (Nat.le_of_ble_eq_true rfl)⟩ ⟨Nat.zero_le _, Nat.zero_le _⟩ dX6_apart_54 (fun H locs X b54 => ?_)
      refine lv_i2l hx hb dX6_apart_57 rfl ?_
      refine qX6_338 rfl C X hl.1 ((Nat.le_of_ble_eq_true rfl)) ⟨(Nat.le_of_ble_eq_true rfl), (Nat.le_of_ble_eq_true rfl)⟩ ⟨Nat.zero_le _, Nat.zero_le _⟩ dX6_apart_58 (fun H locs X => ?_)
      refine lv_l2i hx hb dX6_apart_61 rfl ?_
      obtain ⟨v62, e62, hf⟩ := nm_e2 hf
      refine st_i e62 ?_
      refine lv_istore (lv' := [(8, .int v62), (0, .ref (ad 0)), (1, .int x1), (3, .int x3), (4, .int x4), (5, .int x5), (6, .int x6), (7, .int x7)]) hx hb dX6_apart_62 hl (by decide) rfl (fun ls hl => ?_)
      refine lv_iload hx hb dX6_apart_64 (lv_at hl 0 rfl) ?_
      refine lv_iload hx hb dX6_apart_66 (lv_at hl 4 rfl) ?_
      refine lv_icmp_le (tgt := 79) hx hb dX6_apart_68 (by decide) (fun c68 => ?_) (fun c68 => ?_)
      · replace hf := ifp c68 hf
        exact w6_apart_2 C hr (f6_apart_1 n) ih μ ν x1 x3 x4 x5 x6 x7 v62 hf _ _ X _ (lv_sub hl [1, 2, 3, 4, 5, 6, 7, 0] rfl)
      · replace hf := ifn c68 hf
        refine lv_iload hx hb dX6_apart_71 (lv_at hl 0 rfl) ?_
        refine lv_istore (lv' := [(4, .int v62), (8, .int v62), (0, .ref (ad 0)), (1, .int x1), (3, .int x3), (5, .int x5), (6, .int x6), (7, .int x7)]) hx hb dX6_apart_73 hl (by decide) rfl (fun ls hl => ?_)
        refine lv_iload hx hb dX6_apart_75 (lv_at hl 7 rfl) ?_
        refine lv_istore (lv' := [(5, .int x7), (4, .int v62), (8, .int v62), (0, .ref (ad 0)), (1, .int x1), (3, .int x3), (6, .int x6), (7, .int x7)]) hx hb dX6_apart_77 hl (by decide) rfl (fun ls hl => ?_)
        exact w6_apart_2 C hr (f6_apart_1 n) ih μ ν x1 x3 v62 x7 x6 x7 v62 hf _ _ X _ (lv_sub hl [3, 4, 5, 1, 0, 6, 7, 2] rfl)
set_option maxRecDepth 100000 in
set_option maxHeartbeats 4000000 in
theorem w6_apart {p : Program} {l : Launch} {e : Env} {s : State} {m : MethodId} {args : Array Value} {below : List Frame} {meth : Method} {c : Code} {D : va_G} {cy : Nat → ClassId} {ad : Nat → Nat} {r : Int32} {μ1 : Mem} {ν1 : Lem} (C : Cx false p s m args meth c cX6_apart 9 RX6 D cy ad) (hr : meth.sig.returnType = some .int) : ∀ (μ : Mem) (ν : Lem) (x1 : Int32) (x2 : Int32) (x3 : Int32), f6_apart μ ν x1 x2 x3 = some (r, μ1, ν1) → ∀ (H : Heap) (locs : List Loc), Wd false D cy ad s.heap μ ν H locs → ∀ (ls : Array Slot), lv_has ls 9 [(0, .ref (ad 0)), (1, .int x1), (2, .int x2), (3, .int x3)] → WI false p l e 43 955 s m args below meth c D cy ad .int r μ1 ν1 H locs (F0 m 0 ls []) := by
  have hx := C.1.1
  have hb := C.1.2.1
  have hown := C.1.2.2.2.1
  have hts := C.1.2.2.2.2
  intro μ ν x1 x2 x3 hf H locs X ls hl
  unfold f6_apart at hf
  refine lv_aload_n hx hb dX6_apart_0 rfl (lv_at hl 0 rfl) ?_
  refine lv_iload_n hx hb dX6_apart_1 rfl (lv_at hl 1 rfl) ?_
  refine lv_iload_n hx hb dX6_apart_2 rfl (lv_at hl 2 rfl) ?_
  refine qX6_367 rfl C X hl.1 ((Nat.le_of_ble_eq_true rfl)) ⟨(Nat.le_of_ble_eq_true rfl), (Nat.le_of_ble_eq_true rfl)⟩ ⟨Nat.zero_le _, Nat.zero_le _⟩ dX6_apart_3 (fun H locs X b3 => ?_)
  refine lv_if_eq (tgt := 21) hx hb dX6_apart_6 (by decide) (fun c6 => ?_) (fun c6 => ?_)
  · replace hf := ifp c6 hf
    refine lv_bipush (v := (-2)) hx hb dX6_apart_21 (by decide) ?_
    exact retI C X hr rfl (so3 hf).1 (so3 hf).2.1 (so3 hf).2.2 dX6_apart_23
  · replace hf := ifn c6 hf
    refine lv_iload_n hx hb dX6_apart_9 rfl (lv_at hl 3 rfl) ?_
    refine lv_i2l hx hb dX6_apart_10 rfl ?_
    refine lv_lconst (v := 0) hx hb dX6_apart_11 (by decide) ?_
    refine lv_ldc2 (v := (2)) hx hb hown (hts _ k_1182) dX6_apart_12 ?_
    refine qX6_92 rfl C X hl.1 ((Nat.le_of_ble_eq_true rfl)) ⟨(Nat.le_of_ble_eq_true rfl), (Nat.le_of_ble_eq_true rfl)⟩ ⟨Nat.zero_le _, Nat.zero_le _⟩ dX6_apart_15 (fun H locs X b15 => ?_)
    refine lv_if_ne (tgt := 24) hx hb dX6_apart_18 (by decide) (fun c18 => ?_) (fun c18 => ?_)
    · replace hf := ifn c18 hf
      refine lv_aload_n hx hb dX6_apart_24 rfl (lv_at hl 0 rfl) ?_
      refine lv_iload_n hx hb dX6_apart_25 rfl (lv_at hl 1 rfl) ?_
      refine lv_iload_n hx hb dX6_apart_26 rfl (lv_at hl 2 rfl) ?_
      obtain ⟨μ27, ν27, g27, hf⟩ := bd2_e hf
      refine qX6_372 g27 C X hl.1 ((Nat.le_of_ble_eq_true rfl)) ⟨(Nat.le_of_ble_eq_true rfl), (Nat.le_of_ble_eq_true rfl)⟩ ⟨Nat.zero_le _, Nat.zero_le _⟩ dX6_apart_27 (fun H locs X => ?_)
      refine lv_iconst (v := (-1)) hx hb dX6_apart_30 (by decide) ?_
      refine lv_istore (lv' := [(4, .int (-1)), (0, .ref (ad 0)), (1, .int x1), (2, .int x2), (3, .int x3)]) hx hb dX6_apart_31 hl (by decide) rfl (fun ls hl => ?_)
      refine lv_iconst (v := 0) hx hb dX6_apart_33 (by decide) ?_
      refine lv_istore (lv' := [(5, .int 0), (4, .int (-1)), (0, .ref (ad 0)), (1, .int x1), (2, .int x2), (3, .int x3)]) hx hb dX6_apart_34 hl (by decide) rfl (fun ls hl => ?_)
      refine lv_iconst (v := 0) hx hb dX6_apart_36 (by decide) ?_
      refine lv_istore (lv' := [(6, .int 0), (5, .int 0), (4, .int (-1)), (0, .ref (ad 0)), (1, .int x1), (2, .int x2), (3, .int x3)]) hx hb dX6_apart_37 hl (by decide) rfl (fun ls hl => ?_)
      refine lv_iconst (v := 0) hx hb dX6_apart_39 (by decide) ?_
      refine lv_istore (lv' := [(7, .int 0), (6, .int 0), (5, .int 0), (4, .int (-1)), (0, .ref (ad 0)), (1, .int x1), (2, .int x2), (3, .int x3)]) hx hb dX6_apart_40 hl (by decide) rfl (fun ls hl => ?_)
      exact w6_apart_1 C hr  FUEL μ27 ν27 x1 x3 (-1) 0 0 0 hf _ _ X _ (lv_sub hl [4, 5, 7, 3, 2, 1, 0] rfl)
    · replace hf := ifp c18 hf
      refine lv_bipush (v := (-2)) hx hb dX6_apart_21 (by decide) ?_
      exact retI C X hr rfl (so3 hf).1 (so3 hf).2.1 (so3 hf).2.2 dX6_apart_23
theorem ct6_apart {x1 : Int32} {x2 : Int32} {x3 : Int32} {μ : Mem} {ν : Lem} {r : Int32} {μ1 : Mem} {ν1 : Lem} (hg : f6_apart μ ν x1 x2 x3 = some (r, μ1, ν1)) : CtI false yX6_apart cX6_apart 9 43 955 .int (fun ad => [.ref (ad 0), .int x1, .int x2, .int x3]) μ ν r μ1 ν1 :=
  mkI (by decide) rfl (fun ad => Nat.le_of_ble_eq_true rfl) (fun p l e s m args below meth c D cy ad C hr X ls hl => w6_apart C hr μ ν x1 x2 x3 hg _ _ X _ hl)
theorem qL_85 {p : Program} {l : Launch} {e : Env} {R : Room} {s : State} {m : MethodId} {args : Array Value} {below : List Frame} {meth : Method} {c : Code} {H : Heap} {locs : List Loc} {cells slots : Nat} {Q : State → Prop} {A : Nat → Prop} {cc : ByteArray} {nL : Nat} {D : va_G} {cy : Nat → ClassId} {ad : Nat → Nat} {μ : Mem} {ν : Lem} {pc : Nat} {ls : Array Slot} {rest : List Value} {x1 : Int32} {x2 : Int32} {x3 : Int32} {r : Int32} {μ1 : Mem} {ν1 : Lem} (hg : f6_apart μ ν x1 x2 x3 = some (r, μ1, ν1)) (C : CxA false A p s m args meth c cc nL RL D cy ad) (X : WdA false A D cy ad s.heap μ ν H locs) (hsz : ls.size = nL) (hrm : (rest.map fun v => v.category).sum ≤ 8) (hR : 43 + 1 ≤ R.frames ∧ 8 + (9 + 11) + 955 ≤ R.locals) (hcs : cells ≤ R.cells ∧ slots ≤ R.slots) (hd : decode cc pc = .ok (.invokevirtual 85, 3)) (kk : ∀ (H1 : Heap) (locs1 : List Loc), WdA false A D cy ad s.heap μ1 ν1 H1 locs1 → narrow .int (.int r) = .int r → W p l e R s m args below meth c H1 locs1 cells slots Q (F0 m (pc + 3) ls (.int r :: rest))) : W p l e R s m args below meth c H locs cells slots Q (F0 m pc ls (.int x3 :: .int x2 :: .int x1 :: .ref (ad 0) :: rest)) :=
  rCVI (As := [.int x1, .int x2, .int x3]) (k := 0) (ct6_apart hg) ok6 lX6_apart k_1251 rfl rfl rfl C X rfl hrm hsz hR hcs hd kk
set_option maxRecDepth 100000 in
set_option maxHeartbeats 4000000 in
theorem w6_isSheet {p : Program} {l : Launch} {e : Env} {s : State} {m : MethodId} {args : Array Value} {below : List Frame} {meth : Method} {c : Code} {D : va_G} {cy : Nat → ClassId} {ad : Nat → Nat} {r : Int32} {μ : Mem} {ν : Lem} (C : Cx false p s m args meth c cX6_isSheet 1 RX6 D cy ad) (hr : meth.sig.returnType = some .boolean) : ∀ (x0 : Int32), f6_isSheet x0 = r → ∀ (H : Heap) (locs : List Loc), Wd false D cy ad s.heap μ ν H locs → ∀ (ls : Array Slot), lv_has ls 1 [(0, .int x0)] → WI false p l e 1 25 s m args below meth c D cy ad .boolean r μ ν H locs (F0 m 0 ls []) := by
  have hx := C.1.1
  have hb := C.1.2.1
  have hown := C.1.2.2.2.1
  have hts := C.1.2.2.2.2
  intro x0 hf H locs X ls hl
  unfold f6_isSheet at hf
  refine lv_iload_n hx hb dX6_isSheet_0 rfl (lv_at hl 0 rfl) ?_
  refine lv_i2l hx hb dX6_isSheet_1 rfl ?_
  refine lv_lconst (v := 0) hx hb dX6_isSheet_2 (by decide) ?_
  refine lv_ldc2 (v := (3)) hx hb hown (hts _ k_1222) dX6_isSheet_3 ?_
  refine qX6_92 rfl C X hl.1 ((Nat.le_of_ble_eq_true rfl)) ⟨(Nat.le_of_ble_eq_true rfl), (Nat.le_of_ble_eq_true rfl)⟩ ⟨Nat.zero_le _, Nat.zero_le _⟩ dX6_isSheet_6 (fun H locs X b6 => ?_)
  exact retI C X hr b6 hf rfl rfl dX6_isSheet_9
theorem ct6_isSheet {x0 : Int32} {μ : Mem} {ν : Lem} {r : Int32} (hg : f6_isSheet x0 = r) : CtI false yX6_isSheet cX6_isSheet 1 1 25 .boolean (fun ad => [.int x0]) μ ν r μ ν :=
  mkI (by decide) rfl (fun ad => Nat.le_of_ble_eq_true rfl) (fun p l e s m args below meth c D cy ad C hr X ls hl => w6_isSheet C hr x0 hg _ _ X _ hl)
theorem qX6_385 {p : Program} {l : Launch} {e : Env} {R : Room} {s : State} {m : MethodId} {args : Array Value} {below : List Frame} {meth : Method} {c : Code} {H : Heap} {locs : List Loc} {cells slots : Nat} {Q : State → Prop} {A : Nat → Prop} {cc : ByteArray} {nL : Nat} {D : va_G} {cy : Nat → ClassId} {ad : Nat → Nat} {μ : Mem} {ν : Lem} {pc : Nat} {ls : Array Slot} {rest : List Value} {x0 : Int32} {r : Int32} (hg : f6_isSheet x0 = r) (C : CxA false A p s m args meth c cc nL RX6 D cy ad) (X : WdA false A D cy ad s.heap μ ν H locs) (hsz : ls.size = nL) (hrm : (rest.map fun v => v.category).sum ≤ 8) (hR : 1 + 1 ≤ R.frames ∧ 8 + (1 + 11) + 25 ≤ R.locals) (hcs : cells ≤ R.cells ∧ slots ≤ R.slots) (hd : decode cc pc = .ok (.invokestatic 385, 3)) (kk : ∀ (H1 : Heap) (locs1 : List Loc), WdA false A D cy ad s.heap μ ν H1 locs1 → narrow .boolean (.int r) = .int r → W p l e R s m args below meth c H1 locs1 cells slots Q (F0 m (pc + 3) ls (.int r :: rest))) : W p l e R s m args below meth c H locs cells slots Q (F0 m pc ls (.int x0 :: rest)) :=
  rCSI (As := [.int x0]) (ct6_isSheet hg) lX6_isSheet k_1263 rfl rfl C X rfl hrm hsz hR hcs hd kk
set_option maxRecDepth 100000 in
set_option maxHeartbeats 4000000 in
theorem w6_notesBad_1 {p : Program} {l : Launch} {e : Env} {s : State} {m : MethodId} {args : Array Value} {below : List Frame} {meth : Method} {c : Code} {D : va_G} {cy : Nat → ClassId} {ad : Nat → Nat} {r : Int32} {μ : Mem} {ν : Lem} (C : Cx false p s m args meth c cX6_notesBad 3 RX6 D cy ad) (hr : meth.sig.returnType = some .int) : ∀ (n : Nat), ∀ (x1 : Int32) (x2 : Int32), f6_notesBad_1 μ ν n x1 x2 = some r → ∀ (H : Heap) (locs : List Loc), Wd false D cy ad s.heap μ ν H locs → ∀ (ls : Array Slot), lv_has ls 3 [(0, .ref (ad 0)), (1, .int x1), (2, .int x2)] → WI false p l e 2 45 s m args below meth c D cy ad .int r μ ν H locs (F0 m 38 ls []) := by
  have hx := C.1.1
  have hb := C.1.2.1
  have hown := C.1.2.2.2.1
  have hts := C.1.2.2.2.2
  intro n
  induction n with
  | zero =>
    intro x1 x2 hf H locs X ls hl
    rw [f6_notesBad_1] at hf
    cases hf
  | succ n ih =>
    intro x1 x2 hf H locs X ls hl
    rw [f6_notesBad_1] at hf
    refine lv_iload_n hx hb dX6_notesBad_38 rfl (lv_at hl 2 rfl) ?_
    refine lv_aload_n hx hb dX6_notesBad_39 rfl (lv_at hl 0 rfl) ?_
    refine gfX6_76 C X dX6_notesBad_40 ?_
    refine lv_iload_n hx hb dX6_notesBad_43 rfl (lv_at hl 1 rfl) ?_
    obtain ⟨h44, hf⟩ := gd_e hf
    refine rIald C X rfl h44 dX6_notesBad_44 ?_
    refine lv_icmp_ge (tgt := 74) hx hb dX6_notesBad_45 (by decide) (fun c45 => ?_) (fun c45 => ?_)
    · replace hf := ifp c45 hf
      refine lv_iconst (v := 0) hx hb dX6_notesBad_74 (by decide) ?_
      exact retI C X hr rfl (Option.some.inj hf) rfl rfl dX6_notesBad_75
    · replace hf := ifn c45 hf
      refine lv_aload_n hx hb dX6_notesBad_48 rfl (lv_at hl 0 rfl) ?_
      refine gfX6_79 C X dX6_notesBad_49 ?_
      refine lv_bipush (v := 40) hx hb dX6_notesBad_52 (by decide) ?_
      refine lv_iload_n hx hb dX6_notesBad_54 rfl (lv_at hl 1 rfl) ?_
      refine lv_imul hx hb dX6_notesBad_55 ?_
      refine lv_iload_n hx hb dX6_notesBad_56 rfl (lv_at hl 2 rfl) ?_
      refine lv_iadd hx hb dX6_notesBad_57 ?_
      obtain ⟨h58, hf⟩ := gd_e hf
      refine rIald C X rfl h58 dX6_notesBad_58 ?_
      refine qX6_110 rfl C X hl.1 ((Nat.le_of_ble_eq_true rfl)) ⟨(Nat.le_of_ble_eq_true rfl), (Nat.le_of_ble_eq_true rfl)⟩ ⟨Nat.zero_le _, Nat.zero_le _⟩ dX6_notesBad_59 (fun H locs X b59 => ?_)
      refine lv_if_ne (tgt := 68) hx hb dX6_notesBad_62 (by decide) (fun c62 => ?_) (fun c62 => ?_)
      · replace hf := ifn c62 hf
        obtain ⟨v68, e68, hf⟩ := nm_e2 hf
        refine rIinc (lv' := [(2, .int v68), (0, .ref (ad 0)), (1, .int x1)]) hx hb dX6_notesBad_68 hl (k := 2) rfl e68 rfl (by decide) rfl (fun ls hl => ?_)
        refine lv_goto (tgt := 38) hx hb dX6_notesBad_71 (by decide) ?_
        exact ih x1 v68 hf _ _ X _ (lv_sub hl [1, 2, 0] rfl)
      · replace hf := ifp c62 hf
        refine lv_bipush (v := (-2)) hx hb dX6_notesBad_65 (by decide) ?_
        exact retI C X hr rfl (Option.some.inj hf) rfl rfl dX6_notesBad_67
set_option maxRecDepth 100000 in
set_option maxHeartbeats 4000000 in
theorem w6_notesBad {p : Program} {l : Launch} {e : Env} {s : State} {m : MethodId} {args : Array Value} {below : List Frame} {meth : Method} {c : Code} {D : va_G} {cy : Nat → ClassId} {ad : Nat → Nat} {r : Int32} {μ : Mem} {ν : Lem} (C : Cx false p s m args meth c cX6_notesBad 3 RX6 D cy ad) (hr : meth.sig.returnType = some .int) : ∀ (x1 : Int32), f6_notesBad μ ν x1 = some r → ∀ (H : Heap) (locs : List Loc), Wd false D cy ad s.heap μ ν H locs → ∀ (ls : Array Slot), lv_has ls 3 [(0, .ref (ad 0)), (1, .int x1)] → WI false p l e 2 45 s m args below meth c D cy ad .int r μ ν H locs (F0 m 0 ls []) := by
  have hx := C.1.1
  have hb := C.1.2.1
  have hown := C.1.2.2.2.1
  have hts := C.1.2.2.2.2
  intro x1 hf H locs X ls hl
  unfold f6_notesBad at hf
  refine lv_iload_n hx hb dX6_notesBad_0 rfl (lv_at hl 1 rfl) ?_
  refine qX6_385 rfl C X hl.1 ((Nat.le_of_ble_eq_true rfl)) ⟨(Nat.le_of_ble_eq_true rfl), (Nat.le_of_ble_eq_true rfl)⟩ ⟨Nat.zero_le _, Nat.zero_le _⟩ dX6_notesBad_1 (fun H locs X b1 => ?_)
  refine lv_if_ne (tgt := 10) hx hb dX6_notesBad_4 (by decide) (fun c4 => ?_) (fun c4 => ?_)
  · replace hf := ifn c4 hf
    refine lv_aload_n hx hb dX6_notesBad_10 rfl (lv_at hl 0 rfl) ?_
    refine gfX6_69 C X dX6_notesBad_11 ?_
    refine lv_iload_n hx hb dX6_notesBad_14 rfl (lv_at hl 1 rfl) ?_
    obtain ⟨h15, hf⟩ := gd_e hf
    refine rZald C X rfl h15 dX6_notesBad_15 ?_
    refine lv_if_ne (tgt := 22) hx hb dX6_notesBad_16 (by decide) (fun c16 => ?_) (fun c16 => ?_)
    · replace hf := ifn c16 hf
      refine lv_aload_n hx hb dX6_notesBad_22 rfl (lv_at hl 0 rfl) ?_
      refine gfX6_76 C X dX6_notesBad_23 ?_
      refine lv_iload_n hx hb dX6_notesBad_26 rfl (lv_at hl 1 rfl) ?_
      obtain ⟨h27, hf⟩ := gd_e hf
      refine rIald C X rfl h27 dX6_notesBad_27 ?_
      refine lv_iconst (v := 3) hx hb dX6_notesBad_28 (by decide) ?_
      refine rIrem hx hb dX6_notesBad_29 (by decide) ?_
      refine lv_if_eq (tgt := 36) hx hb dX6_notesBad_30 (by decide) (fun c30 => ?_) (fun c30 => ?_)
      · replace hf := ifp c30 hf
        refine lv_iconst (v := 0) hx hb dX6_notesBad_36 (by decide) ?_
        refine lv_istore_n (lv' := [(2, .int 0), (0, .ref (ad 0)), (1, .int x1)]) hx hb dX6_notesBad_37 rfl hl (by decide) rfl (fun ls hl => ?_)
        exact w6_notesBad_1 C hr  FUEL x1 0 hf _ _ X _ (lv_sub hl [1, 2, 0] rfl)
      · replace hf := ifn c30 hf
        refine lv_bipush (v := (-2)) hx hb dX6_notesBad_33 (by decide) ?_
        exact retI C X hr rfl (Option.some.inj hf) rfl rfl dX6_notesBad_35
    · replace hf := ifp c16 hf
      refine lv_bipush (v := (-11)) hx hb dX6_notesBad_19 (by decide) ?_
      exact retI C X hr rfl (Option.some.inj hf) rfl rfl dX6_notesBad_21
  · replace hf := ifp c4 hf
    refine lv_bipush (v := (-2)) hx hb dX6_notesBad_7 (by decide) ?_
    exact retI C X hr rfl (Option.some.inj hf) rfl rfl dX6_notesBad_9
theorem ct6_notesBad {x1 : Int32} {μ : Mem} {ν : Lem} {r : Int32} (hg : f6_notesBad μ ν x1 = some r) : CtI false yX6_notesBad cX6_notesBad 3 2 45 .int (fun ad => [.ref (ad 0), .int x1]) μ ν r μ ν :=
  mkI (by decide) rfl (fun ad => Nat.le_of_ble_eq_true rfl) (fun p l e s m args below meth c D cy ad C hr X ls hl => w6_notesBad C hr x1 hg _ _ X _ hl)
theorem qX6_390 {p : Program} {l : Launch} {e : Env} {R : Room} {s : State} {m : MethodId} {args : Array Value} {below : List Frame} {meth : Method} {c : Code} {H : Heap} {locs : List Loc} {cells slots : Nat} {Q : State → Prop} {A : Nat → Prop} {cc : ByteArray} {nL : Nat} {D : va_G} {cy : Nat → ClassId} {ad : Nat → Nat} {μ : Mem} {ν : Lem} {pc : Nat} {ls : Array Slot} {rest : List Value} {x1 : Int32} {r : Int32} (hg : f6_notesBad μ ν x1 = some r) (C : CxA false A p s m args meth c cc nL RX6 D cy ad) (X : WdA false A D cy ad s.heap μ ν H locs) (hsz : ls.size = nL) (hrm : (rest.map fun v => v.category).sum ≤ 8) (hR : 2 + 1 ≤ R.frames ∧ 8 + (3 + 11) + 45 ≤ R.locals) (hcs : cells ≤ R.cells ∧ slots ≤ R.slots) (hd : decode cc pc = .ok (.invokevirtual 390, 3)) (kk : ∀ (H1 : Heap) (locs1 : List Loc), WdA false A D cy ad s.heap μ ν H1 locs1 → narrow .int (.int r) = .int r → W p l e R s m args below meth c H1 locs1 cells slots Q (F0 m (pc + 3) ls (.int r :: rest))) : W p l e R s m args below meth c H locs cells slots Q (F0 m pc ls (.int x1 :: .ref (ad 0) :: rest)) :=
  rCVI (As := [.int x1]) (k := 0) (ct6_notesBad hg) ok6 lX6_notesBad k_1259 rfl rfl rfl C X rfl hrm hsz hR hcs hd kk
set_option maxRecDepth 100000 in
set_option maxHeartbeats 4000000 in
theorem w6_isSo_2 {p : Program} {l : Launch} {e : Env} {s : State} {m : MethodId} {args : Array Value} {below : List Frame} {meth : Method} {c : Code} {D : va_G} {cy : Nat → ClassId} {ad : Nat → Nat} {r : Int32} {μ1 : Mem} {ν1 : Lem} (C : Cx false p s m args meth c cX6_isSo 7 RX6 D cy ad) (hr : meth.sig.returnType = some .boolean) (K3 : Mem → Lem → Int32 → Int32 → Int32 → Int32 → Option (Int32 × Mem × Lem)) (hK3 : ∀ (μ : Mem) (ν : Lem) (x1 : Int32) (x2 : Int32) (x3 : Int32) (x4 : Int32), K3 μ ν x1 x2 x3 x4 = some (r, μ1, ν1) → ∀ (H : Heap) (locs : List Loc), Wd false D cy ad s.heap μ ν H locs → ∀ (ls : Array Slot), lv_has ls 7 [(0, .ref (ad 0)), (1, .int x1), (2, .int x2), (3, .int x3), (4, .int x4)] → WI false p l e 43 955 s m args below meth c D cy ad .boolean r μ1 ν1 H locs (F0 m 3 ls [])) : ∀ (μ : Mem) (ν : Lem) (x1 : Int32) (x2 : Int32) (x3 : Int32) (x4 : Int32) (t0 : Int32) (t1 : Int32), f6_isSo_2 K3 μ ν x1 x2 x3 x4 t0 t1 = some (r, μ1, ν1) → ∀ (H : Heap) (locs : List Loc), Wd false D cy ad s.heap μ ν H locs → ∀ (ls : Array Slot), lv_has ls 7 [(0, .ref (ad 0)), (1, .int x1), (2, .int x2), (3, .int x3), (4, .int x4)] → WI false p l e 43 955 s m args below meth c D cy ad .boolean r μ1 ν1 H locs (F0 m 48 ls [.int t1, .int t0]) := by
  have hx := C.1.1
  have hb := C.1.2.1
  have hown := C.1.2.2.2.1
  have hts := C.1.2.2.2.2
  intro μ ν x1 x2 x3 x4 t0 t1 hf H locs X ls hl
  unfold f6_isSo_2 at hf
  refine lv_iadd hx hb dX6_isSo_48 ?_
  refine lv_iconst (v := 0) hx hb dX6_isSo_49 (by decide) ?_
  refine lv_sipush (v := 600) hx hb dX6_isSo_50 (by decide) ?_
  refine qX6_120 rfl C X hl.1 ((Nat.le_of_ble_eq_true rfl)) ⟨(Nat.le_of_ble_eq_true rfl), (Nat.le_of_ble_eq_true rfl)⟩ ⟨Nat.zero_le _, Nat.zero_le _⟩ dX6_isSo_53 (fun H locs X b53 => ?_)
  obtain ⟨v56, e56, hf⟩ := nm_e2 hf
  refine st_i e56 ?_
  refine lv_istore (lv' := [(6, .int v56), (0, .ref (ad 0)), (1, .int x1), (2, .int x2), (3, .int x3), (4, .int x4)]) hx hb dX6_isSo_56 hl (by decide) rfl (fun ls hl => ?_)
  refine lv_aload_n hx hb dX6_isSo_58 rfl (lv_at hl 1 rfl) ?_
  refine lv_iload_n hx hb dX6_isSo_59 rfl (lv_at hl 3 rfl) ?_
  refine lv_iload hx hb dX6_isSo_60 (lv_at hl 0 rfl) ?_
  obtain ⟨r62, g62, hf⟩ := bd1_e hf
  refine qX6_335 g62 C X hl.1 ((Nat.le_of_ble_eq_true rfl)) ⟨(Nat.le_of_ble_eq_true rfl), (Nat.le_of_ble_eq_true rfl)⟩ ⟨Nat.zero_le _, Nat.zero_le _⟩ dX6_isSo_62 (fun H locs X b62 => ?_)
  refine lv_i2l hx hb dX6_isSo_65 rfl ?_
  refine lv_ldc2 (v := (1000)) hx hb hown (hts _ k_1270) dX6_isSo_66 ?_
  refine lv_aload_n hx hb dX6_isSo_69 rfl (lv_at hl 1 rfl) ?_
  refine gfX6_79 C X dX6_isSo_70 ?_
  refine lv_bipush (v := 40) hx hb dX6_isSo_73 (by decide) ?_
  refine lv_iload_n hx hb dX6_isSo_75 rfl (lv_at hl 2 rfl) ?_
  refine lv_imul hx hb dX6_isSo_76 ?_
  refine lv_iload hx hb dX6_isSo_77 (lv_at hl 5 rfl) ?_
  refine lv_iadd hx hb dX6_isSo_79 ?_
  refine lv_iconst (v := 1) hx hb dX6_isSo_80 (by decide) ?_
  refine lv_iadd hx hb dX6_isSo_81 ?_
  obtain ⟨h82, hf⟩ := gd_e hf
  refine rIald C X rfl h82 dX6_isSo_82 ?_
  refine lv_i2l hx hb dX6_isSo_83 rfl ?_
  refine lv_lmul hx hb dX6_isSo_84 ?_
  refine lv_lsub hx hb dX6_isSo_85 ?_
  refine qX6_338 rfl C X hl.1 ((Nat.le_of_ble_eq_true rfl)) ⟨(Nat.le_of_ble_eq_true rfl), (Nat.le_of_ble_eq_true rfl)⟩ ⟨Nat.zero_le _, Nat.zero_le _⟩ dX6_isSo_86 (fun H locs X => ?_)
  refine lv_aload_n hx hb dX6_isSo_89 rfl (lv_at hl 1 rfl) ?_
  refine gfX6_79 C X dX6_isSo_90 ?_
  refine lv_bipush (v := 40) hx hb dX6_isSo_93 (by decide) ?_
  refine lv_iload_n hx hb dX6_isSo_95 rfl (lv_at hl 2 rfl) ?_
  refine lv_imul hx hb dX6_isSo_96 ?_
  refine lv_iload hx hb dX6_isSo_97 (lv_at hl 5 rfl) ?_
  refine lv_iadd hx hb dX6_isSo_99 ?_
  refine lv_iconst (v := 2) hx hb dX6_isSo_100 (by decide) ?_
  refine lv_iadd hx hb dX6_isSo_101 ?_
  obtain ⟨h102, hf⟩ := gd_e hf
  refine rIald C X rfl h102 dX6_isSo_102 ?_
  refine lv_i2l hx hb dX6_isSo_103 rfl ?_
  refine W.lcmp hx hb dX6_isSo_104 ?_
  refine lv_if_le (tgt := 110) hx hb dX6_isSo_105 (by decide) (fun c105 => ?_) (fun c105 => ?_)
  · replace hf := ifp c105 hf
    obtain ⟨v110, e110, hf⟩ := nm_e2 hf
    refine rIinc (lv' := [(4, .int v110), (6, .int v56), (0, .ref (ad 0)), (1, .int x1), (2, .int x2), (3, .int x3)]) hx hb dX6_isSo_110 hl (k := 5) rfl e110 rfl (by decide) rfl (fun ls hl => ?_)
    refine lv_goto (tgt := 3) hx hb dX6_isSo_113 (by decide) ?_
    exact hK3 μ ν x1 x2 x3 v110 hf _ _ X _ (lv_sub hl [2, 3, 4, 5, 0] rfl)
  · replace hf := ifn c105 hf
    refine lv_iconst (v := 0) hx hb dX6_isSo_108 (by decide) ?_
    exact retI C X hr rfl (so3 hf).1 (so3 hf).2.1 (so3 hf).2.2 dX6_isSo_109
set_option maxRecDepth 100000 in
set_option maxHeartbeats 4000000 in
theorem w6_isSo_1 {p : Program} {l : Launch} {e : Env} {s : State} {m : MethodId} {args : Array Value} {below : List Frame} {meth : Method} {c : Code} {D : va_G} {cy : Nat → ClassId} {ad : Nat → Nat} {r : Int32} {μ1 : Mem} {ν1 : Lem} (C : Cx false p s m args meth c cX6_isSo 7 RX6 D cy ad) (hr : meth.sig.returnType = some .boolean) : ∀ (n : Nat), ∀ (μ : Mem) (ν : Lem) (x1 : Int32) (x2 : Int32) (x3 : Int32) (x4 : Int32), f6_isSo_1 n μ ν x1 x2 x3 x4 = some (r, μ1, ν1) → ∀ (H : Heap) (locs : List Loc), Wd false D cy ad s.heap μ ν H locs → ∀ (ls : Array Slot), lv_has ls 7 [(0, .ref (ad 0)), (1, .int x1), (2, .int x2), (3, .int x3), (4, .int x4)] → WI false p l e 43 955 s m args below meth c D cy ad .boolean r μ1 ν1 H locs (F0 m 3 ls []) := by
  have hx := C.1.1
  have hb := C.1.2.1
  have hown := C.1.2.2.2.1
  have hts := C.1.2.2.2.2
  intro n
  induction n with
  | zero =>
    intro μ ν x1 x2 x3 x4 hf H locs X ls hl
    rw [f6_isSo_1] at hf
    cases hf
  | succ n ih =>
    intro μ ν x1 x2 x3 x4 hf H locs X ls hl
    rw [f6_isSo_1] at hf
    refine lv_iload hx hb dX6_isSo_3 (lv_at hl 4 rfl) ?_
    refine lv_aload_n hx hb dX6_isSo_5 rfl (lv_at hl 0 rfl) ?_
    refine gfX6_76 C X dX6_isSo_6 ?_
    refine lv_iload_n hx hb dX6_isSo_9 rfl (lv_at hl 1 rfl) ?_
    obtain ⟨h10, hf⟩ := gd_e hf
    refine rIald C X rfl h10 dX6_isSo_10 ?_
    refine lv_icmp_ge (tgt := 116) hx hb dX6_isSo_11 (by decide) (fun c11 => ?_) (fun c11 => ?_)
    · replace hf := ifp c11 hf
      refine lv_iconst (v := 1) hx hb dX6_isSo_116 (by decide) ?_
      exact retI C X hr rfl (so3 hf).1 (so3 hf).2.1 (so3 hf).2.2 dX6_isSo_117
    · replace hf := ifn c11 hf
      refine lv_aload_n hx hb dX6_isSo_14 rfl (lv_at hl 0 rfl) ?_
      refine gfX6_79 C X dX6_isSo_15 ?_
      refine lv_bipush (v := 40) hx hb dX6_isSo_18 (by decide) ?_
      refine lv_iload_n hx hb dX6_isSo_20 rfl (lv_at hl 1 rfl) ?_
      refine lv_imul hx hb dX6_isSo_21 ?_
      refine lv_iload hx hb dX6_isSo_22 (lv_at hl 4 rfl) ?_
      refine lv_iadd hx hb dX6_isSo_24 ?_
      obtain ⟨h25, hf⟩ := gd_e hf
      refine rIald C X rfl h25 dX6_isSo_25 ?_
      obtain ⟨v26, e26, hf⟩ := nm_e2 hf
      refine st_i e26 ?_
      refine lv_istore (lv' := [(5, .int v26), (0, .ref (ad 0)), (1, .int x1), (2, .int x2), (3, .int x3), (4, .int x4)]) hx hb dX6_isSo_26 hl (by decide) rfl (fun ls hl => ?_)
      refine lv_iload hx hb dX6_isSo_28 (lv_at hl 0 rfl) ?_
      refine lv_iload_n hx hb dX6_isSo_30 rfl (lv_at hl 4 rfl) ?_
      refine lv_bipush (v := 99) hx hb dX6_isSo_31 (by decide) ?_
      refine lv_icmp_ne (tgt := 47) hx hb dX6_isSo_33 (by decide) (fun c33 => ?_) (fun c33 => ?_)
      · replace hf := ifn c33 hf
        refine lv_iload_n hx hb dX6_isSo_47 rfl (lv_at hl 4 rfl) ?_
        exact w6_isSo_2 C hr (f6_isSo_1 n) ih μ ν x1 x2 x3 x4 v26 x3 hf _ _ X _ (lv_sub hl [1, 2, 3, 4, 5] rfl)
      · replace hf := ifp c33 hf
        refine lv_aload_n hx hb dX6_isSo_36 rfl (lv_at hl 1 rfl) ?_
        refine lv_iconst (v := 1) hx hb dX6_isSo_37 (by decide) ?_
        refine lv_iload_n hx hb dX6_isSo_38 rfl (lv_at hl 3 rfl) ?_
        refine lv_iload hx hb dX6_isSo_39 (lv_at hl 0 rfl) ?_
        obtain ⟨r41, μ41, ν41, g41, hf⟩ := bd3_e hf
        refine qX6_344 g41 C X hl.1 ((Nat.le_of_ble_eq_true rfl)) ⟨(Nat.le_of_ble_eq_true rfl), (Nat.le_of_ble_eq_true rfl)⟩ ⟨Nat.zero_le _, Nat.zero_le _⟩ dX6_isSo_41 (fun H locs X b41 => ?_)
        refine lv_goto (tgt := 48) hx hb dX6_isSo_44 (by decide) ?_
        exact w6_isSo_2 C hr (f6_isSo_1 n) ih μ41 ν41 x1 x2 x3 x4 v26 r41 hf _ _ X _ (lv_sub hl [1, 2, 3, 4, 5] rfl)
set_option maxRecDepth 100000 in
set_option maxHeartbeats 4000000 in
theorem w6_isSo {p : Program} {l : Launch} {e : Env} {s : State} {m : MethodId} {args : Array Value} {below : List Frame} {meth : Method} {c : Code} {D : va_G} {cy : Nat → ClassId} {ad : Nat → Nat} {r : Int32} {μ1 : Mem} {ν1 : Lem} (C : Cx false p s m args meth c cX6_isSo 7 RX6 D cy ad) (hr : meth.sig.returnType = some .boolean) : ∀ (μ : Mem) (ν : Lem) (x1 : Int32) (x2 : Int32) (x3 : Int32), f6_isSo μ ν x1 x2 x3 = some (r, μ1, ν1) → ∀ (H : Heap) (locs : List Loc), Wd false D cy ad s.heap μ ν H locs → ∀ (ls : Array Slot), lv_has ls 7 [(0, .ref (ad 0)), (1, .int x1), (2, .int x2), (3, .int x3)] → WI false p l e 43 955 s m args below meth c D cy ad .boolean r μ1 ν1 H locs (F0 m 0 ls []) := by
  have hx := C.1.1
  have hb := C.1.2.1
  have hown := C.1.2.2.2.1
  have hts := C.1.2.2.2.2
  intro μ ν x1 x2 x3 hf H locs X ls hl
  unfold f6_isSo at hf
  refine lv_iconst (v := 0) hx hb dX6_isSo_0 (by decide) ?_
  refine lv_istore (lv' := [(4, .int 0), (0, .ref (ad 0)), (1, .int x1), (2, .int x2), (3, .int x3)]) hx hb dX6_isSo_1 hl (by decide) rfl (fun ls hl => ?_)
  exact w6_isSo_1 C hr  FUEL μ ν x1 x2 x3 0 hf _ _ X _ (lv_sub hl [1, 2, 3, 4, 0] rfl)
theorem ct6_isSo {x1 : Int32} {x2 : Int32} {x3 : Int32} {μ : Mem} {ν : Lem} {r : Int32} {μ1 : Mem} {ν1 : Lem} (hg : f6_isSo μ ν x1 x2 x3 = some (r, μ1, ν1)) : CtI false yX6_isSo cX6_isSo 7 43 955 .boolean (fun ad => [.ref (ad 0), .int x1, .int x2, .int x3]) μ ν r μ1 ν1 :=
  mkI (by decide) rfl (fun ad => Nat.le_of_ble_eq_true rfl) (fun p l e s m args below meth c D cy ad C hr X ls hl => w6_isSo C hr μ ν x1 x2 x3 hg _ _ X _ hl)
theorem qX6_393 {p : Program} {l : Launch} {e : Env} {R : Room} {s : State} {m : MethodId} {args : Array Value} {below : List Frame} {meth : Method} {c : Code} {H : Heap} {locs : List Loc} {cells slots : Nat} {Q : State → Prop} {A : Nat → Prop} {cc : ByteArray} {nL : Nat} {D : va_G} {cy : Nat → ClassId} {ad : Nat → Nat} {μ : Mem} {ν : Lem} {pc : Nat} {ls : Array Slot} {rest : List Value} {x1 : Int32} {x2 : Int32} {x3 : Int32} {r : Int32} {μ1 : Mem} {ν1 : Lem} (hg : f6_isSo μ ν x1 x2 x3 = some (r, μ1, ν1)) (C : CxA false A p s m args meth c cc nL RX6 D cy ad) (X : WdA false A D cy ad s.heap μ ν H locs) (hsz : ls.size = nL) (hrm : (rest.map fun v => v.category).sum ≤ 8) (hR : 43 + 1 ≤ R.frames ∧ 8 + (7 + 11) + 955 ≤ R.locals) (hcs : cells ≤ R.cells ∧ slots ≤ R.slots) (hd : decode cc pc = .ok (.invokevirtual 393, 3)) (kk : ∀ (H1 : Heap) (locs1 : List Loc), WdA false A D cy ad s.heap μ1 ν1 H1 locs1 → narrow .boolean (.int r) = .int r → W p l e R s m args below meth c H1 locs1 cells slots Q (F0 m (pc + 3) ls (.int r :: rest))) : W p l e R s m args below meth c H locs cells slots Q (F0 m pc ls (.int x3 :: .int x2 :: .int x1 :: .ref (ad 0) :: rest)) :=
  rCVI (As := [.int x1, .int x2, .int x3]) (k := 0) (ct6_isSo hg) ok6 lX6_isSo k_1266 rfl rfl rfl C X rfl hrm hsz hR hcs hd kk
set_option maxRecDepth 100000 in
set_option maxHeartbeats 4000000 in
theorem w6_fits_1 {p : Program} {l : Launch} {e : Env} {s : State} {m : MethodId} {args : Array Value} {below : List Frame} {meth : Method} {c : Code} {D : va_G} {cy : Nat → ClassId} {ad : Nat → Nat} {r : Int32} {μ1 : Mem} {ν1 : Lem} (C : Cx false p s m args meth c cX6_fits 5 RX6 D cy ad) (hr : meth.sig.returnType = some .int) : ∀ (n : Nat), ∀ (μ : Mem) (ν : Lem) (x1 : Int32) (x3 : Int32) (x4 : Int32), f6_fits_1 n μ ν x1 x3 x4 = some (r, μ1, ν1) → ∀ (H : Heap) (locs : List Loc), Wd false D cy ad s.heap μ ν H locs → ∀ (ls : Array Slot), lv_has ls 5 [(0, .ref (ad 0)), (1, .int x1), (3, .int x3), (4, .int x4)] → WI false p l e 44 981 s m args below meth c D cy ad .int r μ1 ν1 H locs (F0 m 17 ls []) := by
  have hx := C.1.1
  have hb := C.1.2.1
  have hown := C.1.2.2.2.1
  have hts := C.1.2.2.2.2
  intro n
  induction n with
  | zero =>
    intro μ ν x1 x3 x4 hf H locs X ls hl
    rw [f6_fits_1] at hf
    cases hf
  | succ n ih =>
    intro μ ν x1 x3 x4 hf H locs X ls hl
    rw [f6_fits_1] at hf
    refine lv_iload hx hb dX6_fits_17 (lv_at hl 3 rfl) ?_
    refine lv_aload_n hx hb dX6_fits_19 rfl (lv_at hl 0 rfl) ?_
    refine gfX6_89 C X dX6_fits_20 ?_
    refine lv_icmp_ge (tgt := 55) hx hb dX6_fits_23 (by decide) (fun c23 => ?_) (fun c23 => ?_)
    · replace hf := ifp c23 hf
      refine lv_iload_n hx hb dX6_fits_55 rfl (lv_at hl 2 rfl) ?_
      exact retI C X hr rfl (so3 hf).1 (so3 hf).2.1 (so3 hf).2.2 dX6_fits_56
    · replace hf := ifn c23 hf
      refine lv_iload_n hx hb dX6_fits_26 rfl (lv_at hl 2 rfl) ?_
      refine lv_aload_n hx hb dX6_fits_27 rfl (lv_at hl 0 rfl) ?_
      refine lv_iload_n hx hb dX6_fits_28 rfl (lv_at hl 1 rfl) ?_
      refine lv_iload hx hb dX6_fits_29 (lv_at hl 3 rfl) ?_
      refine lv_bipush (v := 99) hx hb dX6_fits_31 (by decide) ?_
      obtain ⟨r33, μ33, ν33, g33, hf⟩ := bd3_e hf
      refine qX6_393 g33 C X hl.1 ((Nat.le_of_ble_eq_true rfl)) ⟨(Nat.le_of_ble_eq_true rfl), (Nat.le_of_ble_eq_true rfl)⟩ ⟨Nat.zero_le _, Nat.zero_le _⟩ dX6_fits_33 (fun H locs X b33 => ?_)
      refine lv_if_eq (tgt := 43) hx hb dX6_fits_36 (by decide) (fun c36 => ?_) (fun c36 => ?_)
      · replace hf := ifp c36 hf
        refine lv_iconst (v := 0) hx hb dX6_fits_43 (by decide) ?_
        refine lv_iload hx hb dX6_fits_44 (lv_at hl 3 rfl) ?_
        refine lv_ishl hx hb dX6_fits_46 ?_
        refine lv_ior hx hb dX6_fits_47 ?_
        obtain ⟨v48, e48, hf⟩ := nm_e2 hf
        refine st_i e48 ?_
        refine lv_istore_n (lv' := [(3, .int v48), (0, .ref (ad 0)), (1, .int x1), (4, .int x4)]) hx hb dX6_fits_48 rfl hl (by decide) rfl (fun ls hl => ?_)
        obtain ⟨v49, e49, hf⟩ := nm_e2 hf
        refine rIinc (lv' := [(4, .int v49), (3, .int v48), (0, .ref (ad 0)), (1, .int x1)]) hx hb dX6_fits_49 hl (k := 3) rfl e49 rfl (by decide) rfl (fun ls hl => ?_)
        refine lv_goto (tgt := 17) hx hb dX6_fits_52 (by decide) ?_
        exact ih μ33 ν33 x1 v48 v49 hf _ _ X _ (lv_sub hl [2, 3, 1, 0] rfl)
      · replace hf := ifn c36 hf
        refine lv_iconst (v := 1) hx hb dX6_fits_39 (by decide) ?_
        refine lv_goto (tgt := 44) hx hb dX6_fits_40 (by decide) ?_
        refine lv_iload hx hb dX6_fits_44 (lv_at hl 3 rfl) ?_
        refine lv_ishl hx hb dX6_fits_46 ?_
        refine lv_ior hx hb dX6_fits_47 ?_
        obtain ⟨v48, e48, hf⟩ := nm_e2 hf
        refine st_i e48 ?_
        refine lv_istore_n (lv' := [(3, .int v48), (0, .ref (ad 0)), (1, .int x1), (4, .int x4)]) hx hb dX6_fits_48 rfl hl (by decide) rfl (fun ls hl => ?_)
        obtain ⟨v49, e49, hf⟩ := nm_e2 hf
        refine rIinc (lv' := [(4, .int v49), (3, .int v48), (0, .ref (ad 0)), (1, .int x1)]) hx hb dX6_fits_49 hl (k := 3) rfl e49 rfl (by decide) rfl (fun ls hl => ?_)
        refine lv_goto (tgt := 17) hx hb dX6_fits_52 (by decide) ?_
        exact ih μ33 ν33 x1 v48 v49 hf _ _ X _ (lv_sub hl [2, 3, 1, 0] rfl)
set_option maxRecDepth 100000 in
set_option maxHeartbeats 4000000 in
theorem w6_fits {p : Program} {l : Launch} {e : Env} {s : State} {m : MethodId} {args : Array Value} {below : List Frame} {meth : Method} {c : Code} {D : va_G} {cy : Nat → ClassId} {ad : Nat → Nat} {r : Int32} {μ1 : Mem} {ν1 : Lem} (C : Cx false p s m args meth c cX6_fits 5 RX6 D cy ad) (hr : meth.sig.returnType = some .int) : ∀ (μ : Mem) (ν : Lem) (x1 : Int32), f6_fits μ ν x1 = some (r, μ1, ν1) → ∀ (H : Heap) (locs : List Loc), Wd false D cy ad s.heap μ ν H locs → ∀ (ls : Array Slot), lv_has ls 5 [(0, .ref (ad 0)), (1, .int x1)] → WI false p l e 44 981 s m args below meth c D cy ad .int r μ1 ν1 H locs (F0 m 0 ls []) := by
  have hx := C.1.1
  have hb := C.1.2.1
  have hown := C.1.2.2.2.1
  have hts := C.1.2.2.2.2
  intro μ ν x1 hf H locs X ls hl
  unfold f6_fits at hf
  refine lv_aload_n hx hb dX6_fits_0 rfl (lv_at hl 0 rfl) ?_
  refine lv_iload_n hx hb dX6_fits_1 rfl (lv_at hl 1 rfl) ?_
  obtain ⟨r2, g2, hf⟩ := bd1_e hf
  refine qX6_390 g2 C X hl.1 ((Nat.le_of_ble_eq_true rfl)) ⟨(Nat.le_of_ble_eq_true rfl), (Nat.le_of_ble_eq_true rfl)⟩ ⟨Nat.zero_le _, Nat.zero_le _⟩ dX6_fits_2 (fun H locs X b2 => ?_)
  refine lv_istore_n (lv' := [(2, .int r2), (0, .ref (ad 0)), (1, .int x1)]) hx hb dX6_fits_5 rfl hl (by decide) rfl (fun ls hl => ?_)
  refine lv_iload_n hx hb dX6_fits_6 rfl (lv_at hl 0 rfl) ?_
  refine lv_if_eq (tgt := 12) hx hb dX6_fits_7 (by decide) (fun c7 => ?_) (fun c7 => ?_)
  · replace hf := ifp c7 hf
    refine lv_iconst (v := 0) hx hb dX6_fits_12 (by decide) ?_
    refine lv_istore_n (lv' := [(3, .int 0), (2, .int r2), (0, .ref (ad 0)), (1, .int x1)]) hx hb dX6_fits_13 rfl hl (by decide) rfl (fun ls hl => ?_)
    refine lv_iconst (v := 0) hx hb dX6_fits_14 (by decide) ?_
    refine lv_istore (lv' := [(4, .int 0), (3, .int 0), (2, .int r2), (0, .ref (ad 0)), (1, .int x1)]) hx hb dX6_fits_15 hl (by decide) rfl (fun ls hl => ?_)
    exact w6_fits_1 C hr  FUEL μ ν x1 0 0 hf _ _ X _ (lv_sub hl [3, 4, 1, 0] rfl)
  · replace hf := ifn c7 hf
    refine lv_iload_n hx hb dX6_fits_10 rfl (lv_at hl 0 rfl) ?_
    exact retI C X hr rfl (so3 hf).1 (so3 hf).2.1 (so3 hf).2.2 dX6_fits_11
theorem ct6_fits {x1 : Int32} {μ : Mem} {ν : Lem} {r : Int32} {μ1 : Mem} {ν1 : Lem} (hg : f6_fits μ ν x1 = some (r, μ1, ν1)) : CtI false yX6_fits cX6_fits 5 44 981 .int (fun ad => [.ref (ad 0), .int x1]) μ ν r μ1 ν1 :=
  mkI (by decide) rfl (fun ad => Nat.le_of_ble_eq_true rfl) (fun p l e s m args below meth c D cy ad C hr X ls hl => w6_fits C hr μ ν x1 hg _ _ X _ hl)
theorem qL_89 {p : Program} {l : Launch} {e : Env} {R : Room} {s : State} {m : MethodId} {args : Array Value} {below : List Frame} {meth : Method} {c : Code} {H : Heap} {locs : List Loc} {cells slots : Nat} {Q : State → Prop} {A : Nat → Prop} {cc : ByteArray} {nL : Nat} {D : va_G} {cy : Nat → ClassId} {ad : Nat → Nat} {μ : Mem} {ν : Lem} {pc : Nat} {ls : Array Slot} {rest : List Value} {x1 : Int32} {r : Int32} {μ1 : Mem} {ν1 : Lem} (hg : f6_fits μ ν x1 = some (r, μ1, ν1)) (C : CxA false A p s m args meth c cc nL RL D cy ad) (X : WdA false A D cy ad s.heap μ ν H locs) (hsz : ls.size = nL) (hrm : (rest.map fun v => v.category).sum ≤ 8) (hR : 44 + 1 ≤ R.frames ∧ 8 + (5 + 11) + 981 ≤ R.locals) (hcs : cells ≤ R.cells ∧ slots ≤ R.slots) (hd : decode cc pc = .ok (.invokevirtual 89, 3)) (kk : ∀ (H1 : Heap) (locs1 : List Loc), WdA false A D cy ad s.heap μ1 ν1 H1 locs1 → narrow .int (.int r) = .int r → W p l e R s m args below meth c H1 locs1 cells slots Q (F0 m (pc + 3) ls (.int r :: rest))) : W p l e R s m args below meth c H locs cells slots Q (F0 m pc ls (.int x1 :: .ref (ad 0) :: rest)) :=
  rCVI (As := [.int x1]) (k := 0) (ct6_fits hg) ok6 lX6_fits k_1255 rfl rfl rfl C X rfl hrm hsz hR hcs hd kk
set_option maxRecDepth 100000 in
set_option maxHeartbeats 4000000 in
theorem w6_wrong_3 {p : Program} {l : Launch} {e : Env} {s : State} {m : MethodId} {args : Array Value} {below : List Frame} {meth : Method} {c : Code} {D : va_G} {cy : Nat → ClassId} {ad : Nat → Nat} {r : Int32} {μ1 : Mem} {ν1 : Lem} (C : Cx false p s m args meth c cX6_wrong 7 RX6 D cy ad) (hr : meth.sig.returnType = some .int) (K40 : Mem → Lem → Int32 → Int32 → Int32 → Int32 → Int32 → Int32 → Option (Int32 × Mem × Lem)) (hK40 : ∀ (μ : Mem) (ν : Lem) (x1 : Int32) (x2 : Int32) (x3 : Int32) (x4 : Int32) (x5 : Int32) (x6 : Int32), K40 μ ν x1 x2 x3 x4 x5 x6 = some (r, μ1, ν1) → ∀ (H : Heap) (locs : List Loc), Wd false D cy ad s.heap μ ν H locs → ∀ (ls : Array Slot), lv_has ls 7 [(0, .ref (ad 0)), (1, .int x1), (2, .int x2), (3, .int x3), (4, .int x4), (5, .int x5), (6, .int x6)] → WI false p l e 44 981 s m args below meth c D cy ad .int r μ1 ν1 H locs (F0 m 40 ls [])) : ∀ (μ : Mem) (ν : Lem) (x1 : Int32) (x2 : Int32) (x3 : Int32) (x4 : Int32) (x5 : Int32) (x6 : Int32), f6_wrong_3 K40 μ ν x1 x2 x3 x4 x5 x6 = some (r, μ1, ν1) → ∀ (H : Heap) (locs : List Loc), Wd false D cy ad s.heap μ ν H locs → ∀ (ls : Array Slot), lv_has ls 7 [(0, .ref (ad 0)), (1, .int x1), (2, .int x2), (3, .int x3), (4, .int x4), (5, .int x5), (6, .int x6)] → WI false p l e 44 981 s m args below meth c D cy ad .int r μ1 ν1 H locs (F0 m 79 ls []) := by
  have hx := C.1.1
  have hb := C.1.2.1
  have hown := C.1.2.2.2.1
  have hts := C.1.2.2.2.2
  intro μ ν x1 x2 x3 x4 x5 x6 hf H locs X ls hl
  unfold f6_wrong_3 at hf
  refine lv_iload hx hb dX6_wrong_79 (lv_at hl 6 rfl) ?_
  refine lv_if_le (tgt := 114) hx hb dX6_wrong_81 (by decide) (fun c81 => ?_) (fun c81 => ?_)
  · replace hf := ifp c81 hf
    obtain ⟨v114, e114, hf⟩ := nm_e2 hf
    refine rIinc (lv' := [(6, .int v114), (0, .ref (ad 0)), (1, .int x1), (2, .int x2), (3, .int x3), (4, .int x4), (5, .int x5)]) hx hb dX6_wrong_114 hl (k := 6) rfl e114 rfl (by decide) rfl (fun ls hl => ?_)
    refine lv_goto (tgt := 40) hx hb dX6_wrong_117 (by decide) ?_
    exact hK40 μ ν x1 x2 x3 x4 x5 v114 hf _ _ X _ (lv_sub hl [1, 2, 3, 4, 5, 6, 0] rfl)
  · replace hf := ifn c81 hf
    refine lv_aload_n hx hb dX6_wrong_84 rfl (lv_at hl 0 rfl) ?_
    refine lv_iload_n hx hb dX6_wrong_85 rfl (lv_at hl 1 rfl) ?_
    refine lv_iload_n hx hb dX6_wrong_86 rfl (lv_at hl 2 rfl) ?_
    refine lv_iload hx hb dX6_wrong_87 (lv_at hl 6 rfl) ?_
    obtain ⟨r89, μ89, ν89, g89, hf⟩ := bd3_e hf
    refine qX6_393 g89 C X hl.1 ((Nat.le_of_ble_eq_true rfl)) ⟨(Nat.le_of_ble_eq_true rfl), (Nat.le_of_ble_eq_true rfl)⟩ ⟨Nat.zero_le _, Nat.zero_le _⟩ dX6_wrong_89 (fun H locs X b89 => ?_)
    refine lv_if_eq (tgt := 114) hx hb dX6_wrong_92 (by decide) (fun c92 => ?_) (fun c92 => ?_)
    · replace hf := ifp c92 hf
      obtain ⟨v114, e114, hf⟩ := nm_e2 hf
      refine rIinc (lv' := [(6, .int v114), (0, .ref (ad 0)), (1, .int x1), (2, .int x2), (3, .int x3), (4, .int x4), (5, .int x5)]) hx hb dX6_wrong_114 hl (k := 6) rfl e114 rfl (by decide) rfl (fun ls hl => ?_)
      refine lv_goto (tgt := 40) hx hb dX6_wrong_117 (by decide) ?_
      exact hK40 μ89 ν89 x1 x2 x3 x4 x5 v114 hf _ _ X _ (lv_sub hl [1, 2, 3, 4, 5, 6, 0] rfl)
    · replace hf := ifn c92 hf
      obtain ⟨v95, e95, hf⟩ := nm_e2 hf
      refine rIinc (lv' := [(4, .int v95), (0, .ref (ad 0)), (1, .int x1), (2, .int x2), (3, .int x3), (5, .int x5), (6, .int x6)]) hx hb dX6_wrong_95 hl (k := 4) rfl e95 rfl (by decide) rfl (fun ls hl => ?_)
      refine lv_iload hx hb dX6_wrong_98 (lv_at hl 5 rfl) ?_
      refine lv_bipush (v := 99) hx hb dX6_wrong_100 (by decide) ?_
      refine lv_icmp_ne (tgt := 110) hx hb dX6_wrong_102 (by decide) (fun c102 => ?_) (fun c102 => ?_)
      · replace hf := ifn c102 hf
        refine lv_iload hx hb dX6_wrong_110 (lv_at hl 5 rfl) ?_
        refine lv_istore (lv' := [(5, .int x5), (4, .int v95), (0, .ref (ad 0)), (1, .int x1), (2, .int x2), (3, .int x3), (6, .int x6)]) hx hb dX6_wrong_112 hl (by decide) rfl (fun ls hl => ?_)
        obtain ⟨v114, e114, hf⟩ := nm_e2 hf
        refine rIinc (lv' := [(6, .int v114), (5, .int x5), (4, .int v95), (0, .ref (ad 0)), (1, .int x1), (2, .int x2), (3, .int x3)]) hx hb dX6_wrong_114 hl (k := 6) rfl e114 rfl (by decide) rfl (fun ls hl => ?_)
        refine lv_goto (tgt := 40) hx hb dX6_wrong_117 (by decide) ?_
        exact hK40 μ89 ν89 x1 x2 x3 v95 x5 v114 hf _ _ X _ (lv_sub hl [3, 4, 5, 6, 2, 1, 0] rfl)
      · replace hf := ifp c102 hf
        refine lv_iload hx hb dX6_wrong_105 (lv_at hl 6 rfl) ?_
        refine lv_goto (tgt := 112) hx hb dX6_wrong_107 (by decide) ?_
        refine lv_istore (lv' := [(5, .int x6), (4, .int v95), (0, .ref (ad 0)), (1, .int x1), (2, .int x2), (3, .int x3), (6, .int x6)]) hx hb dX6_wrong_112 hl (by decide) rfl (fun ls hl => ?_)
        obtain ⟨v114, e114, hf⟩ := nm_e2 hf
        refine rIinc (lv' := [(6, .int v114), (5, .int x6), (4, .int v95), (0, .ref (ad 0)), (1, .int x1), (2, .int x2), (3, .int x3)]) hx hb dX6_wrong_114 hl (k := 6) rfl e114 rfl (by decide) rfl (fun ls hl => ?_)
        refine lv_goto (tgt := 40) hx hb dX6_wrong_117 (by decide) ?_
        exact hK40 μ89 ν89 x1 x2 x3 v95 x6 v114 hf _ _ X _ (lv_sub hl [3, 4, 5, 6, 2, 1, 0] rfl)
set_option maxRecDepth 100000 in
set_option maxHeartbeats 4000000 in
theorem w6_wrong_2 {p : Program} {l : Launch} {e : Env} {s : State} {m : MethodId} {args : Array Value} {below : List Frame} {meth : Method} {c : Code} {D : va_G} {cy : Nat → ClassId} {ad : Nat → Nat} {r : Int32} {μ1 : Mem} {ν1 : Lem} (C : Cx false p s m args meth c cX6_wrong 7 RX6 D cy ad) (hr : meth.sig.returnType = some .int) (K40 : Mem → Lem → Int32 → Int32 → Int32 → Int32 → Int32 → Int32 → Option (Int32 × Mem × Lem)) (hK40 : ∀ (μ : Mem) (ν : Lem) (x1 : Int32) (x2 : Int32) (x3 : Int32) (x4 : Int32) (x5 : Int32) (x6 : Int32), K40 μ ν x1 x2 x3 x4 x5 x6 = some (r, μ1, ν1) → ∀ (H : Heap) (locs : List Loc), Wd false D cy ad s.heap μ ν H locs → ∀ (ls : Array Slot), lv_has ls 7 [(0, .ref (ad 0)), (1, .int x1), (2, .int x2), (3, .int x3), (4, .int x4), (5, .int x5), (6, .int x6)] → WI false p l e 44 981 s m args below meth c D cy ad .int r μ1 ν1 H locs (F0 m 40 ls [])) : ∀ (μ : Mem) (ν : Lem) (x1 : Int32) (x2 : Int32) (x3 : Int32) (x4 : Int32) (x6 : Int32) (t0 : Int32), f6_wrong_2 K40 μ ν x1 x2 x3 x4 x6 t0 = some (r, μ1, ν1) → ∀ (H : Heap) (locs : List Loc), Wd false D cy ad s.heap μ ν H locs → ∀ (ls : Array Slot), lv_has ls 7 [(0, .ref (ad 0)), (1, .int x1), (2, .int x2), (3, .int x3), (4, .int x4), (6, .int x6)] → WI false p l e 44 981 s m args below meth c D cy ad .int r μ1 ν1 H locs (F0 m 77 ls [.int t0]) := by
  have hx := C.1.1
  have hb := C.1.2.1
  have hown := C.1.2.2.2.1
  have hts := C.1.2.2.2.2
  intro μ ν x1 x2 x3 x4 x6 t0 hf H locs X ls hl
  unfold f6_wrong_2 at hf
  refine lv_istore (lv' := [(5, .int t0), (0, .ref (ad 0)), (1, .int x1), (2, .int x2), (3, .int x3), (4, .int x4), (6, .int x6)]) hx hb dX6_wrong_77 hl (by decide) rfl (fun ls hl => ?_)
  exact w6_wrong_3 C hr K40 hK40 μ ν x1 x2 x3 x4 t0 x6 hf _ _ X _ (lv_sub hl [1, 2, 3, 4, 5, 0, 6] rfl)
set_option maxRecDepth 100000 in
set_option maxHeartbeats 4000000 in
theorem w6_wrong_1 {p : Program} {l : Launch} {e : Env} {s : State} {m : MethodId} {args : Array Value} {below : List Frame} {meth : Method} {c : Code} {D : va_G} {cy : Nat → ClassId} {ad : Nat → Nat} {r : Int32} {μ1 : Mem} {ν1 : Lem} (C : Cx false p s m args meth c cX6_wrong 7 RX6 D cy ad) (hr : meth.sig.returnType = some .int) : ∀ (n : Nat), ∀ (μ : Mem) (ν : Lem) (x1 : Int32) (x2 : Int32) (x3 : Int32) (x4 : Int32) (x5 : Int32) (x6 : Int32), f6_wrong_1 n μ ν x1 x2 x3 x4 x5 x6 = some (r, μ1, ν1) → ∀ (H : Heap) (locs : List Loc), Wd false D cy ad s.heap μ ν H locs → ∀ (ls : Array Slot), lv_has ls 7 [(0, .ref (ad 0)), (1, .int x1), (2, .int x2), (3, .int x3), (4, .int x4), (5, .int x5), (6, .int x6)] → WI false p l e 44 981 s m args below meth c D cy ad .int r μ1 ν1 H locs (F0 m 40 ls []) := by
  have hx := C.1.1
  have hb := C.1.2.1
  have hown := C.1.2.2.2.1
  have hts := C.1.2.2.2.2
  intro n
  induction n with
  | zero =>
    intro μ ν x1 x2 x3 x4 x5 x6 hf H locs X ls hl
    rw [f6_wrong_1] at hf
    cases hf
  | succ n ih =>
    intro μ ν x1 x2 x3 x4 x5 x6 hf H locs X ls hl
    rw [f6_wrong_1] at hf
    refine lv_iload hx hb dX6_wrong_40 (lv_at hl 6 rfl) ?_
    refine lv_bipush (v := 61) hx hb dX6_wrong_42 (by decide) ?_
    refine lv_icmp_ge (tgt := 120) hx hb dX6_wrong_44 (by decide) (fun c44 => ?_) (fun c44 => ?_)
    · replace hf := ifp c44 hf
      refine lv_iload_n hx hb dX6_wrong_120 rfl (lv_at hl 3 rfl) ?_
      refine lv_if_ne (tgt := 129) hx hb dX6_wrong_121 (by decide) (fun c121 => ?_) (fun c121 => ?_)
      · replace hf := ifn c121 hf
        refine lv_iload hx hb dX6_wrong_129 (lv_at hl 5 rfl) ?_
        exact retI C X hr rfl (so3 hf).1 (so3 hf).2.1 (so3 hf).2.2 dX6_wrong_131
      · replace hf := ifp c121 hf
        refine lv_iload hx hb dX6_wrong_124 (lv_at hl 4 rfl) ?_
        refine lv_goto (tgt := 131) hx hb dX6_wrong_126 (by decide) ?_
        exact retI C X hr rfl (so3 hf).1 (so3 hf).2.1 (so3 hf).2.2 dX6_wrong_131
    · replace hf := ifn c44 hf
      refine lv_aload_n hx hb dX6_wrong_47 rfl (lv_at hl 0 rfl) ?_
      refine lv_iload_n hx hb dX6_wrong_48 rfl (lv_at hl 1 rfl) ?_
      refine lv_iload_n hx hb dX6_wrong_49 rfl (lv_at hl 2 rfl) ?_
      refine lv_iload hx hb dX6_wrong_50 (lv_at hl 6 rfl) ?_
      refine lv_ineg hx hb dX6_wrong_52 ?_
      obtain ⟨r53, μ53, ν53, g53, hf⟩ := bd3_e hf
      refine qX6_393 g53 C X hl.1 ((Nat.le_of_ble_eq_true rfl)) ⟨(Nat.le_of_ble_eq_true rfl), (Nat.le_of_ble_eq_true rfl)⟩ ⟨Nat.zero_le _, Nat.zero_le _⟩ dX6_wrong_53 (fun H locs X b53 => ?_)
      refine lv_if_eq (tgt := 79) hx hb dX6_wrong_56 (by decide) (fun c56 => ?_) (fun c56 => ?_)
      · replace hf := ifp c56 hf
        exact w6_wrong_3 C hr (f6_wrong_1 n) ih μ53 ν53 x1 x2 x3 x4 x5 x6 hf _ _ X _ (lv_sub hl [0, 1, 2, 3, 4, 5, 6] rfl)
      · replace hf := ifn c56 hf
        obtain ⟨v59, e59, hf⟩ := nm_e2 hf
        refine rIinc (lv' := [(4, .int v59), (0, .ref (ad 0)), (1, .int x1), (2, .int x2), (3, .int x3), (5, .int x5), (6, .int x6)]) hx hb dX6_wrong_59 hl (k := 4) rfl e59 rfl (by decide) rfl (fun ls hl => ?_)
        refine lv_iload hx hb dX6_wrong_62 (lv_at hl 5 rfl) ?_
        refine lv_bipush (v := 99) hx hb dX6_wrong_64 (by decide) ?_
        refine lv_icmp_ne (tgt := 75) hx hb dX6_wrong_66 (by decide) (fun c66 => ?_) (fun c66 => ?_)
        · replace hf := ifn c66 hf
          refine lv_iload hx hb dX6_wrong_75 (lv_at hl 5 rfl) ?_
          exact w6_wrong_2 C hr (f6_wrong_1 n) ih μ53 ν53 x1 x2 x3 v59 x6 x5 hf _ _ X _ (lv_sub hl [1, 2, 3, 4, 0, 6] rfl)
        · replace hf := ifp c66 hf
          refine lv_iload hx hb dX6_wrong_69 (lv_at hl 6 rfl) ?_
          refine lv_ineg hx hb dX6_wrong_71 ?_
          refine lv_goto (tgt := 77) hx hb dX6_wrong_72 (by decide) ?_
          exact w6_wrong_2 C hr (f6_wrong_1 n) ih μ53 ν53 x1 x2 x3 v59 x6 (-x6) hf _ _ X _ (lv_sub hl [1, 2, 3, 4, 0, 6] rfl)
set_option maxRecDepth 100000 in
set_option maxHeartbeats 4000000 in
theorem w6_wrong {p : Program} {l : Launch} {e : Env} {s : State} {m : MethodId} {args : Array Value} {below : List Frame} {meth : Method} {c : Code} {D : va_G} {cy : Nat → ClassId} {ad : Nat → Nat} {r : Int32} {μ1 : Mem} {ν1 : Lem} (C : Cx false p s m args meth c cX6_wrong 7 RX6 D cy ad) (hr : meth.sig.returnType = some .int) : ∀ (μ : Mem) (ν : Lem) (x1 : Int32) (x2 : Int32) (x3 : Int32), f6_wrong μ ν x1 x2 x3 = some (r, μ1, ν1) → ∀ (H : Heap) (locs : List Loc), Wd false D cy ad s.heap μ ν H locs → ∀ (ls : Array Slot), lv_has ls 7 [(0, .ref (ad 0)), (1, .int x1), (2, .int x2), (3, .int x3)] → WI false p l e 44 981 s m args below meth c D cy ad .int r μ1 ν1 H locs (F0 m 0 ls []) := by
  have hx := C.1.1
  have hb := C.1.2.1
  have hown := C.1.2.2.2.1
  have hts := C.1.2.2.2.2
  intro μ ν x1 x2 x3 hf H locs X ls hl
  unfold f6_wrong at hf
  refine lv_aload_n hx hb dX6_wrong_0 rfl (lv_at hl 0 rfl) ?_
  refine lv_iload_n hx hb dX6_wrong_1 rfl (lv_at hl 1 rfl) ?_
  obtain ⟨r2, g2, hf⟩ := bd1_e hf
  refine qX6_390 g2 C X hl.1 ((Nat.le_of_ble_eq_true rfl)) ⟨(Nat.le_of_ble_eq_true rfl), (Nat.le_of_ble_eq_true rfl)⟩ ⟨Nat.zero_le _, Nat.zero_le _⟩ dX6_wrong_2 (fun H locs X b2 => ?_)
  refine lv_if_ne (tgt := 26) hx hb dX6_wrong_5 (by decide) (fun c5 => ?_) (fun c5 => ?_)
  · replace hf := ifn c5 hf
    refine lv_sipush (v := (-1000)) hx hb dX6_wrong_26 (by decide) ?_
    exact retI C X hr rfl (so3 hf).1 (so3 hf).2.1 (so3 hf).2.2 dX6_wrong_29
  · replace hf := ifp c5 hf
    refine lv_aload_n hx hb dX6_wrong_8 rfl (lv_at hl 0 rfl) ?_
    refine lv_iload_n hx hb dX6_wrong_9 rfl (lv_at hl 2 rfl) ?_
    refine qX6_96 rfl C X hl.1 ((Nat.le_of_ble_eq_true rfl)) ⟨(Nat.le_of_ble_eq_true rfl), (Nat.le_of_ble_eq_true rfl)⟩ ⟨Nat.zero_le _, Nat.zero_le _⟩ dX6_wrong_10 (fun H locs X b10 => ?_)
    refine lv_if_eq (tgt := 26) hx hb dX6_wrong_13 (by decide) (fun c13 => ?_) (fun c13 => ?_)
    · replace hf := ifp c13 hf
      refine lv_sipush (v := (-1000)) hx hb dX6_wrong_26 (by decide) ?_
      exact retI C X hr rfl (so3 hf).1 (so3 hf).2.1 (so3 hf).2.2 dX6_wrong_29
    · replace hf := ifn c13 hf
      refine lv_iload_n hx hb dX6_wrong_16 rfl (lv_at hl 3 rfl) ?_
      refine lv_i2l hx hb dX6_wrong_17 rfl ?_
      refine lv_lconst (v := 0) hx hb dX6_wrong_18 (by decide) ?_
      refine lv_lconst (v := 1) hx hb dX6_wrong_19 (by decide) ?_
      refine qX6_92 rfl C X hl.1 ((Nat.le_of_ble_eq_true rfl)) ⟨(Nat.le_of_ble_eq_true rfl), (Nat.le_of_ble_eq_true rfl)⟩ ⟨Nat.zero_le _, Nat.zero_le _⟩ dX6_wrong_20 (fun H locs X b20 => ?_)
      refine lv_if_ne (tgt := 30) hx hb dX6_wrong_23 (by decide) (fun c23 => ?_) (fun c23 => ?_)
      · replace hf := ifn c23 hf
        refine lv_iconst (v := 0) hx hb dX6_wrong_30 (by decide) ?_
        refine lv_istore (lv' := [(4, .int 0), (0, .ref (ad 0)), (1, .int x1), (2, .int x2), (3, .int x3)]) hx hb dX6_wrong_31 hl (by decide) rfl (fun ls hl => ?_)
        refine lv_bipush (v := 99) hx hb dX6_wrong_33 (by decide) ?_
        refine lv_istore (lv' := [(5, .int 99), (4, .int 0), (0, .ref (ad 0)), (1, .int x1), (2, .int x2), (3, .int x3)]) hx hb dX6_wrong_35 hl (by decide) rfl (fun ls hl => ?_)
        refine lv_iconst (v := 0) hx hb dX6_wrong_37 (by decide) ?_
        refine lv_istore (lv' := [(6, .int 0), (5, .int 99), (4, .int 0), (0, .ref (ad 0)), (1, .int x1), (2, .int x2), (3, .int x3)]) hx hb dX6_wrong_38 hl (by decide) rfl (fun ls hl => ?_)
        exact w6_wrong_1 C hr  FUEL μ ν x1 x2 x3 0 99 0 hf _ _ X _ (lv_sub hl [3, 4, 5, 6, 2, 1, 0] rfl)
      · replace hf := ifp c23 hf
        refine lv_sipush (v := (-1000)) hx hb dX6_wrong_26 (by decide) ?_
        exact retI C X hr rfl (so3 hf).1 (so3 hf).2.1 (so3 hf).2.2 dX6_wrong_29
theorem ct6_wrong {x1 : Int32} {x2 : Int32} {x3 : Int32} {μ : Mem} {ν : Lem} {r : Int32} {μ1 : Mem} {ν1 : Lem} (hg : f6_wrong μ ν x1 x2 x3 = some (r, μ1, ν1)) : CtI false yX6_wrong cX6_wrong 7 44 981 .int (fun ad => [.ref (ad 0), .int x1, .int x2, .int x3]) μ ν r μ1 ν1 :=
  mkI (by decide) rfl (fun ad => Nat.le_of_ble_eq_true rfl) (fun p l e s m args below meth c D cy ad C hr X ls hl => w6_wrong C hr μ ν x1 x2 x3 hg _ _ X _ hl)
theorem qL_93 {p : Program} {l : Launch} {e : Env} {R : Room} {s : State} {m : MethodId} {args : Array Value} {below : List Frame} {meth : Method} {c : Code} {H : Heap} {locs : List Loc} {cells slots : Nat} {Q : State → Prop} {A : Nat → Prop} {cc : ByteArray} {nL : Nat} {D : va_G} {cy : Nat → ClassId} {ad : Nat → Nat} {μ : Mem} {ν : Lem} {pc : Nat} {ls : Array Slot} {rest : List Value} {x1 : Int32} {x2 : Int32} {x3 : Int32} {r : Int32} {μ1 : Mem} {ν1 : Lem} (hg : f6_wrong μ ν x1 x2 x3 = some (r, μ1, ν1)) (C : CxA false A p s m args meth c cc nL RL D cy ad) (X : WdA false A D cy ad s.heap μ ν H locs) (hsz : ls.size = nL) (hrm : (rest.map fun v => v.category).sum ≤ 8) (hR : 44 + 1 ≤ R.frames ∧ 8 + (7 + 11) + 981 ≤ R.locals) (hcs : cells ≤ R.cells ∧ slots ≤ R.slots) (hd : decode cc pc = .ok (.invokevirtual 93, 3)) (kk : ∀ (H1 : Heap) (locs1 : List Loc), WdA false A D cy ad s.heap μ1 ν1 H1 locs1 → narrow .int (.int r) = .int r → W p l e R s m args below meth c H1 locs1 cells slots Q (F0 m (pc + 3) ls (.int r :: rest))) : W p l e R s m args below meth c H locs cells slots Q (F0 m pc ls (.int x3 :: .int x2 :: .int x1 :: .ref (ad 0) :: rest)) :=
  rCVI (As := [.int x1, .int x2, .int x3]) (k := 0) (ct6_wrong hg) ok6 lX6_wrong k_1271 rfl rfl rfl C X rfl hrm hsz hR hcs hd kk
