set_option maxRecDepth 100000 in
set_option maxHeartbeats 4000000 in
theorem w6_over {p : Program} {l : Launch} {e : Env} {s : State} {m : MethodId} {args : Array Value} {below : List Frame} {meth : Method} {c : Code} {D : va_G} {cy : Nat → ClassId} {ad : Nat → Nat} {r : Int32} {μ : Mem} {ν : Lem} (C : Cx false p s m args meth c cX6_over 1 RX6 D cy ad) (hr : meth.sig.returnType = some .int) : ∀ (x0 : Int32), f6_over x0 = r → ∀ (H : Heap) (locs : List Loc), Wd false D cy ad s.heap μ ν H locs → ∀ (ls : Array Slot), lv_has ls 1 [(0, .int x0)] → WI false p l e 0 0 s m args below meth c D cy ad .int r μ ν H locs (F0 m 0 ls []) := by
  have hx := C.1.1
  have hb := C.1.2.1
  have hown := C.1.2.2.2.1
  have hts := C.1.2.2.2.2
  intro x0 hf H locs X ls hl
  unfold f6_over at hf
  refine lv_iload_n hx hb dX6_over_0 rfl (lv_at hl 0 rfl) ?_
  refine lv_if_ne (tgt := 8) hx hb dX6_over_1 (by decide) (fun c1 => ?_) (fun c1 => ?_)
  · replace hf := ifn c1 hf
    refine lv_iload_n hx hb dX6_over_8 rfl (lv_at hl 0 rfl) ?_
    refine lv_iconst (v := 4) hx hb dX6_over_9 (by decide) ?_
    refine lv_icmp_ne (tgt := 17) hx hb dX6_over_10 (by decide) (fun c10 => ?_) (fun c10 => ?_)
    · replace hf := ifn c10 hf
      refine lv_iload_n hx hb dX6_over_17 rfl (lv_at hl 0 rfl) ?_
      refine lv_iconst (v := 3) hx hb dX6_over_18 (by decide) ?_
      refine lv_icmp_eq (tgt := 27) hx hb dX6_over_19 (by decide) (fun c19 => ?_) (fun c19 => ?_)
      · replace hf := ifp c19 hf
        refine lv_iconst (v := 1) hx hb dX6_over_27 (by decide) ?_
        refine lv_goto (tgt := 32) hx hb dX6_over_28 (by decide) ?_
        exact retI C X hr rfl hf rfl rfl dX6_over_32
      · replace hf := ifn c19 hf
        refine lv_iload_n hx hb dX6_over_22 rfl (lv_at hl 0 rfl) ?_
        refine lv_iconst (v := 5) hx hb dX6_over_23 (by decide) ?_
        refine lv_icmp_ne (tgt := 31) hx hb dX6_over_24 (by decide) (fun c24 => ?_) (fun c24 => ?_)
        · replace hf := ifn c24 hf
          refine lv_iconst (v := 0) hx hb dX6_over_31 (by decide) ?_
          exact retI C X hr rfl hf rfl rfl dX6_over_32
        · replace hf := ifp c24 hf
          refine lv_iconst (v := 1) hx hb dX6_over_27 (by decide) ?_
          refine lv_goto (tgt := 32) hx hb dX6_over_28 (by decide) ?_
          exact retI C X hr rfl hf rfl rfl dX6_over_32
    · replace hf := ifp c10 hf
      refine lv_iconst (v := 2) hx hb dX6_over_13 (by decide) ?_
      refine lv_goto (tgt := 32) hx hb dX6_over_14 (by decide) ?_
      exact retI C X hr rfl hf rfl rfl dX6_over_32
  · replace hf := ifp c1 hf
    refine lv_iconst (v := (-1)) hx hb dX6_over_4 (by decide) ?_
    refine lv_goto (tgt := 32) hx hb dX6_over_5 (by decide) ?_
    exact retI C X hr rfl hf rfl rfl dX6_over_32
theorem ct6_over {x0 : Int32} {μ : Mem} {ν : Lem} {r : Int32} (hg : f6_over x0 = r) : CtI false yX6_over cX6_over 1 0 0 .int (fun ad => [.int x0]) μ ν r μ ν :=
  mkI (by decide) rfl (fun ad => Nat.le_of_ble_eq_true rfl) (fun p l e s m args below meth c D cy ad C hr X ls hl => w6_over C hr x0 hg _ _ X _ hl)
theorem qX6_433 {p : Program} {l : Launch} {e : Env} {R : Room} {s : State} {m : MethodId} {args : Array Value} {below : List Frame} {meth : Method} {c : Code} {H : Heap} {locs : List Loc} {cells slots : Nat} {Q : State → Prop} {cc : ByteArray} {nL : Nat} {D : va_G} {cy : Nat → ClassId} {ad : Nat → Nat} {μ : Mem} {ν : Lem} {pc : Nat} {ls : Array Slot} {rest : List Value} {x0 : Int32} {r : Int32} (hg : f6_over x0 = r) (C : Cx false p s m args meth c cc nL RX6 D cy ad) (X : Wd false D cy ad s.heap μ ν H locs) (hsz : ls.size = nL) (hrm : (rest.map fun v => v.category).sum ≤ 8) (hR : 0 + 1 ≤ R.frames ∧ 8 + (1 + 11) + 0 ≤ R.locals) (hcs : cells ≤ R.cells ∧ slots ≤ R.slots) (hd : decode cc pc = .ok (.invokestatic 433, 3)) (kk : ∀ (H1 : Heap) (locs1 : List Loc), Wd false D cy ad s.heap μ ν H1 locs1 → narrow .int (.int r) = .int r → W p l e R s m args below meth c H1 locs1 cells slots Q (F0 m (pc + 3) ls (.int r :: rest))) : W p l e R s m args below meth c H locs cells slots Q (F0 m pc ls (.int x0 :: rest)) :=
  rCSI (As := [.int x0]) (ct6_over hg) lX6_over k_1352 rfl rfl C X rfl hrm hsz hR hcs hd kk
set_option maxRecDepth 100000 in
set_option maxHeartbeats 4000000 in
theorem w6_taken_2 {p : Program} {l : Launch} {e : Env} {s : State} {m : MethodId} {args : Array Value} {below : List Frame} {meth : Method} {c : Code} {D : va_G} {cy : Nat → ClassId} {ad : Nat → Nat} {r : Int32} {μ : Mem} {ν : Lem} (C : Cx false p s m args meth c cX6_taken 4 RX6 D cy ad) (hr : meth.sig.returnType = some .int) : ∀ (x1 : Int32) (x2 : Int32) (x3 : Int32), f6_taken_2 μ ν x1 x2 x3 = some r → ∀ (H : Heap) (locs : List Loc), Wd false D cy ad s.heap μ ν H locs → ∀ (ls : Array Slot), lv_has ls 4 [(0, .ref (ad 0)), (1, .int x1), (2, .int x2), (3, .int x3)] → WI false p l e 2 46 s m args below meth c D cy ad .int r μ ν H locs (F0 m 51 ls []) := by
  have hx := C.1.1
  have hb := C.1.2.1
  have hown := C.1.2.2.2.1
  have hts := C.1.2.2.2.2
  intro x1 x2 x3 hf H locs X ls hl
  unfold f6_taken_2 at hf
  refine lv_iload_n hx hb dX6_taken_51 rfl (lv_at hl 3 rfl) ?_
  refine lv_iload_n hx hb dX6_taken_52 rfl (lv_at hl 2 rfl) ?_
  refine lv_icmp_ne (tgt := 65) hx hb dX6_taken_53 (by decide) (fun c53 => ?_) (fun c53 => ?_)
  · replace hf := ifn c53 hf
    refine lv_bipush (v := (-13)) hx hb dX6_taken_65 (by decide) ?_
    exact retI C X hr rfl (Option.some.inj hf) rfl rfl dX6_taken_67
  · replace hf := ifp c53 hf
    refine lv_aload_n hx hb dX6_taken_56 rfl (lv_at hl 0 rfl) ?_
    refine gfX6_29 C X dX6_taken_57 ?_
    refine lv_iload_n hx hb dX6_taken_60 rfl (lv_at hl 1 rfl) ?_
    obtain ⟨h61, hf⟩ := gd_e hf
    refine rIald C X rfl h61 dX6_taken_61 ?_
    refine lv_goto (tgt := 67) hx hb dX6_taken_62 (by decide) ?_
    exact retI C X hr rfl (Option.some.inj hf) rfl rfl dX6_taken_67
set_option maxRecDepth 100000 in
set_option maxHeartbeats 4000000 in
theorem w6_taken_1 {p : Program} {l : Launch} {e : Env} {s : State} {m : MethodId} {args : Array Value} {below : List Frame} {meth : Method} {c : Code} {D : va_G} {cy : Nat → ClassId} {ad : Nat → Nat} {r : Int32} {μ : Mem} {ν : Lem} (C : Cx false p s m args meth c cX6_taken 4 RX6 D cy ad) (hr : meth.sig.returnType = some .int) : ∀ (n : Nat), ∀ (x1 : Int32) (x2 : Int32) (x3 : Int32), f6_taken_1 μ ν n x1 x2 x3 = some r → ∀ (H : Heap) (locs : List Loc), Wd false D cy ad s.heap μ ν H locs → ∀ (ls : Array Slot), lv_has ls 4 [(0, .ref (ad 0)), (1, .int x1), (2, .int x2), (3, .int x3)] → WI false p l e 2 46 s m args below meth c D cy ad .int r μ ν H locs (F0 m 33 ls []) := by
  have hx := C.1.1
  have hb := C.1.2.1
  have hown := C.1.2.2.2.1
  have hts := C.1.2.2.2.2
  intro n
  induction n with
  | zero =>
    intro x1 x2 x3 hf H locs X ls hl
    rw [f6_taken_1] at hf
    cases hf
  | succ n ih =>
    intro x1 x2 x3 hf H locs X ls hl
    rw [f6_taken_1] at hf
    refine lv_iload_n hx hb dX6_taken_33 rfl (lv_at hl 3 rfl) ?_
    refine lv_iconst (v := (-1)) hx hb dX6_taken_34 (by decide) ?_
    refine lv_icmp_eq (tgt := 51) hx hb dX6_taken_35 (by decide) (fun c35 => ?_) (fun c35 => ?_)
    · replace hf := ifp c35 hf
      exact w6_taken_2 C hr  x1 x2 x3 hf _ _ X _ (lv_sub hl [0, 1, 2, 3] rfl)
    · replace hf := ifn c35 hf
      refine lv_iload_n hx hb dX6_taken_38 rfl (lv_at hl 3 rfl) ?_
      refine lv_iload_n hx hb dX6_taken_39 rfl (lv_at hl 2 rfl) ?_
      refine lv_icmp_eq (tgt := 51) hx hb dX6_taken_40 (by decide) (fun c40 => ?_) (fun c40 => ?_)
      · replace hf := ifp c40 hf
        exact w6_taken_2 C hr  x1 x2 x3 hf _ _ X _ (lv_sub hl [0, 1, 2, 3] rfl)
      · replace hf := ifn c40 hf
        refine lv_iload_n hx hb dX6_taken_43 rfl (lv_at hl 3 rfl) ?_
        refine qX6_433 rfl C X hl.1 ((Nat.le_of_ble_eq_true rfl)) ⟨(Nat.le_of_ble_eq_true rfl), (Nat.le_of_ble_eq_true rfl)⟩ ⟨Nat.zero_le _, Nat.zero_le _⟩ dX6_taken_44 (fun H locs X b44 => ?_)
        obtain ⟨v47, e47, hf⟩ := nm_e2 hf
        refine st_i e47 ?_
        refine lv_istore_n (lv' := [(3, .int v47), (0, .ref (ad 0)), (1, .int x1), (2, .int x2)]) hx hb dX6_taken_47 rfl hl (by decide) rfl (fun ls hl => ?_)
        refine lv_goto (tgt := 33) hx hb dX6_taken_48 (by decide) ?_
        exact ih x1 x2 v47 hf _ _ X _ (lv_sub hl [1, 2, 3, 0] rfl)
set_option maxRecDepth 100000 in
set_option maxHeartbeats 4000000 in
theorem w6_taken {p : Program} {l : Launch} {e : Env} {s : State} {m : MethodId} {args : Array Value} {below : List Frame} {meth : Method} {c : Code} {D : va_G} {cy : Nat → ClassId} {ad : Nat → Nat} {r : Int32} {μ : Mem} {ν : Lem} (C : Cx false p s m args meth c cX6_taken 4 RX6 D cy ad) (hr : meth.sig.returnType = some .int) : ∀ (x1 : Int32) (x2 : Int32), f6_taken μ ν x1 x2 = some r → ∀ (H : Heap) (locs : List Loc), Wd false D cy ad s.heap μ ν H locs → ∀ (ls : Array Slot), lv_has ls 4 [(0, .ref (ad 0)), (1, .int x1), (2, .int x2)] → WI false p l e 2 46 s m args below meth c D cy ad .int r μ ν H locs (F0 m 0 ls []) := by
  have hx := C.1.1
  have hb := C.1.2.1
  have hown := C.1.2.2.2.1
  have hts := C.1.2.2.2.2
  intro x1 x2 hf H locs X ls hl
  unfold f6_taken at hf
  refine lv_iload_n hx hb dX6_taken_0 rfl (lv_at hl 2 rfl) ?_
  refine lv_i2l hx hb dX6_taken_1 rfl ?_
  refine lv_lconst (v := 0) hx hb dX6_taken_2 (by decide) ?_
  refine lv_ldc2 (v := (5)) hx hb hown (hts _ k_935) dX6_taken_3 ?_
  refine qX6_92 rfl C X hl.1 ((Nat.le_of_ble_eq_true rfl)) ⟨(Nat.le_of_ble_eq_true rfl), (Nat.le_of_ble_eq_true rfl)⟩ ⟨Nat.zero_le _, Nat.zero_le _⟩ dX6_taken_6 (fun H locs X b6 => ?_)
  refine lv_if_ne (tgt := 15) hx hb dX6_taken_9 (by decide) (fun c9 => ?_) (fun c9 => ?_)
  · replace hf := ifn c9 hf
    refine lv_aload_n hx hb dX6_taken_15 rfl (lv_at hl 0 rfl) ?_
    refine lv_iload_n hx hb dX6_taken_16 rfl (lv_at hl 1 rfl) ?_
    refine qX6_96 rfl C X hl.1 ((Nat.le_of_ble_eq_true rfl)) ⟨(Nat.le_of_ble_eq_true rfl), (Nat.le_of_ble_eq_true rfl)⟩ ⟨Nat.zero_le _, Nat.zero_le _⟩ dX6_taken_17 (fun H locs X b17 => ?_)
    refine lv_if_ne (tgt := 26) hx hb dX6_taken_20 (by decide) (fun c20 => ?_) (fun c20 => ?_)
    · replace hf := ifn c20 hf
      refine lv_aload_n hx hb dX6_taken_26 rfl (lv_at hl 0 rfl) ?_
      refine gfX6_26 C X dX6_taken_27 ?_
      refine lv_iload_n hx hb dX6_taken_30 rfl (lv_at hl 1 rfl) ?_
      obtain ⟨h31, hf⟩ := gd_e hf
      refine rIald C X rfl h31 dX6_taken_31 ?_
      obtain ⟨v32, e32, hf⟩ := nm_e2 hf
      refine st_i e32 ?_
      refine lv_istore_n (lv' := [(3, .int v32), (0, .ref (ad 0)), (1, .int x1), (2, .int x2)]) hx hb dX6_taken_32 rfl hl (by decide) rfl (fun ls hl => ?_)
      exact w6_taken_1 C hr  FUEL x1 x2 v32 hf _ _ X _ (lv_sub hl [1, 2, 3, 0] rfl)
    · replace hf := ifp c20 hf
      refine lv_bipush (v := (-11)) hx hb dX6_taken_23 (by decide) ?_
      exact retI C X hr rfl (Option.some.inj hf) rfl rfl dX6_taken_25
  · replace hf := ifp c9 hf
    refine lv_bipush (v := (-2)) hx hb dX6_taken_12 (by decide) ?_
    exact retI C X hr rfl (Option.some.inj hf) rfl rfl dX6_taken_14
theorem ct6_taken {x1 : Int32} {x2 : Int32} {μ : Mem} {ν : Lem} {r : Int32} (hg : f6_taken μ ν x1 x2 = some r) : CtI false yX6_taken cX6_taken 4 2 46 .int (fun ad => [.ref (ad 0), .int x1, .int x2]) μ ν r μ ν :=
  mkI (by decide) rfl (fun ad => Nat.le_of_ble_eq_true rfl) (fun p l e s m args below meth c D cy ad C hr X ls hl => w6_taken C hr x1 x2 hg _ _ X _ hl)
theorem qL_148 {p : Program} {l : Launch} {e : Env} {R : Room} {s : State} {m : MethodId} {args : Array Value} {below : List Frame} {meth : Method} {c : Code} {H : Heap} {locs : List Loc} {cells slots : Nat} {Q : State → Prop} {cc : ByteArray} {nL : Nat} {D : va_G} {cy : Nat → ClassId} {ad : Nat → Nat} {μ : Mem} {ν : Lem} {pc : Nat} {ls : Array Slot} {rest : List Value} {x1 : Int32} {x2 : Int32} {r : Int32} (hg : f6_taken μ ν x1 x2 = some r) (C : Cx false p s m args meth c cc nL RL D cy ad) (X : Wd false D cy ad s.heap μ ν H locs) (hsz : ls.size = nL) (hrm : (rest.map fun v => v.category).sum ≤ 8) (hR : 2 + 1 ≤ R.frames ∧ 8 + (4 + 11) + 46 ≤ R.locals) (hcs : cells ≤ R.cells ∧ slots ≤ R.slots) (hd : decode cc pc = .ok (.invokevirtual 148, 3)) (kk : ∀ (H1 : Heap) (locs1 : List Loc), Wd false D cy ad s.heap μ ν H1 locs1 → narrow .int (.int r) = .int r → W p l e R s m args below meth c H1 locs1 cells slots Q (F0 m (pc + 3) ls (.int r :: rest))) : W p l e R s m args below meth c H locs cells slots Q (F0 m pc ls (.int x2 :: .int x1 :: .ref (ad 0) :: rest)) :=
  rCVI (As := [.int x1, .int x2]) (k := 0) (ct6_taken hg) ok6 lX6_taken k_1348 rfl rfl rfl C X rfl hrm hsz hR hcs hd kk
