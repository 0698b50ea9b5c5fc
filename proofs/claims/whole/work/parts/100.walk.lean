set_option maxRecDepth 100000 in
set_option maxHeartbeats 4000000 in
theorem w0_has {p : Program} {l : Launch} {e : Env} {s : State} {m : MethodId} {args : Array Value} {below : List Frame} {meth : Method} {c : Code} {D : va_G} {cy : Nat → ClassId} {ad : Nat → Nat} {r : Int32} {μ : Mem} {ν : Lem} (C : Cx true p s m args meth c cX0_has 2 RX0 D cy ad) (hr : meth.sig.returnType = some .boolean) : ∀ (o : Nat) (x1 : Int32) (ho : o < 2), f0_has μ o x1 = r → ∀ (H : Heap) (locs : List Loc), Wd true D cy ad s.heap μ ν H locs → ∀ (ls : Array Slot), lv_has ls 2 [(0, .ref (ad (1 + o))), (1, .int x1)] → WI true p l e 0 0 s m args below meth c D cy ad .boolean r μ ν H locs (F0 m 0 ls []) := by
  have hx := C.1.1
  have hb := C.1.2.1
  have hown := C.1.2.2.2.1
  have hts := C.1.2.2.2.2
  intro o x1 ho hf H locs X ls hl
  unfold f0_has at hf
  refine lv_iload_n hx hb dX0_has_0 rfl (lv_at hl 1 rfl) ?_
  refine lv_if_lt (tgt := 16) hx hb dX0_has_1 (by decide) (fun c1 => ?_) (fun c1 => ?_)
  · replace hf := ifp c1 hf
    refine lv_iconst (v := 0) hx hb dX0_has_16 (by decide) ?_
    exact retI C X hr rfl hf rfl rfl dX0_has_17
  · replace hf := ifn c1 hf
    refine lv_iload_n hx hb dX0_has_4 rfl (lv_at hl 1 rfl) ?_
    refine lv_aload_n hx hb dX0_has_5 rfl (lv_at hl 0 rfl) ?_
    refine gfX0_22 (o := o) ho rfl C X dX0_has_6 ?_
    refine lv_icmp_ge (tgt := 16) hx hb dX0_has_9 (by decide) (fun c9 => ?_) (fun c9 => ?_)
    · replace hf := ifp c9 hf
      refine lv_iconst (v := 0) hx hb dX0_has_16 (by decide) ?_
      exact retI C X hr rfl hf rfl rfl dX0_has_17
    · replace hf := ifn c9 hf
      refine lv_iconst (v := 1) hx hb dX0_has_12 (by decide) ?_
      refine lv_goto (tgt := 17) hx hb dX0_has_13 (by decide) ?_
      exact retI C X hr rfl hf rfl rfl dX0_has_17
theorem ct0_has {o : Nat} {x1 : Int32} (ho : o < 2) {μ : Mem} {ν : Lem} {r : Int32} (hg : f0_has μ o x1 = r) : CtI true yX0_has cX0_has 2 0 0 .boolean (fun ad => [.ref (ad (1 + o)), .int x1]) μ ν r μ ν :=
  mkI (by decide) rfl (fun ad => Nat.le_of_ble_eq_true rfl) (fun p l e s m args below meth c D cy ad C hr X ls hl => w0_has C hr o x1 ho hg _ _ X _ hl)
theorem qX5_85 {p : Program} {l : Launch} {e : Env} {R : Room} {s : State} {m : MethodId} {args : Array Value} {below : List Frame} {meth : Method} {c : Code} {H : Heap} {locs : List Loc} {cells slots : Nat} {Q : State → Prop} {cc : ByteArray} {nL : Nat} {D : va_G} {cy : Nat → ClassId} {ad : Nat → Nat} {μ : Mem} {ν : Lem} {pc : Nat} {ls : Array Slot} {rest : List Value} {o : Nat} {x1 : Int32} (ho : o < 2) {r : Int32} (hg : f0_has μ o x1 = r) (C : Cx true p s m args meth c cc nL RX5 D cy ad) (X : Wd true D cy ad s.heap μ ν H locs) (hsz : ls.size = nL) (hrm : (rest.map fun v => v.category).sum ≤ 8) (hR : 0 + 1 ≤ R.frames ∧ 8 + (2 + 11) + 0 ≤ R.locals) (hcs : cells ≤ R.cells ∧ slots ≤ R.slots) (hd : decode cc pc = .ok (.invokevirtual 85, 3)) (kk : ∀ (H1 : Heap) (locs1 : List Loc), Wd true D cy ad s.heap μ ν H1 locs1 → narrow .boolean (.int r) = .int r → W p l e R s m args below meth c H1 locs1 cells slots Q (F0 m (pc + 3) ls (.int r :: rest))) : W p l e R s m args below meth c H locs cells slots Q (F0 m pc ls (.int x1 :: .ref (ad (1 + o)) :: rest)) :=
  rCVI (As := [.int x1]) (k := 1 + o) (ct0_has ho hg) ok0 lX0_has k_228 (sP ho) rfl rfl C X rfl hrm hsz hR hcs hd kk
set_option maxRecDepth 100000 in
set_option maxHeartbeats 4000000 in
theorem w4_begin {p : Program} {l : Launch} {e : Env} {s : State} {m : MethodId} {args : Array Value} {below : List Frame} {meth : Method} {c : Code} {D : va_G} {cy : Nat → ClassId} {ad : Nat → Nat} {μ1 : Mem} {ν : Lem} (C : Cx true p s m args meth c cX4_begin 3 RX4 D cy ad) (hr : meth.sig.returnType = none) : ∀ (μ : Mem) (j : Nat) (x1 : Int32) (x2 : Int32) (hj : j < 13), f4_begin μ j x1 x2 = μ1 → ∀ (H : Heap) (locs : List Loc), Wd true D cy ad s.heap μ ν H locs → ∀ (ls : Array Slot), lv_has ls 3 [(0, .ref (ad (14 + 3 * j))), (1, .int x1), (2, .int x2)] → WV true p l e 0 0 s m args below meth c D cy ad μ1 ν H locs (F0 m 0 ls []) := by
  have hx := C.1.1
  have hb := C.1.2.1
  have hown := C.1.2.2.2.1
  have hts := C.1.2.2.2.2
  intro μ j x1 x2 hj hf H locs X ls hl
  unfold f4_begin at hf
  refine lv_aload_n hx hb dX4_begin_0 rfl (lv_at hl 0 rfl) ?_
  refine lv_iload_n hx hb dX4_begin_1 rfl (lv_at hl 1 rfl) ?_
  obtain ⟨μ2, e2, hf⟩ := nm_e2 hf
  refine pfX4_18 (j := j) hj rfl e2 C X dX4_begin_2 (fun H locs X => ?_)
  refine lv_aload_n hx hb dX4_begin_5 rfl (lv_at hl 0 rfl) ?_
  refine lv_iload_n hx hb dX4_begin_6 rfl (lv_at hl 2 rfl) ?_
  obtain ⟨μ7, e7, hf⟩ := nm_e2 hf
  refine pfX4_22 (j := j) hj rfl e7 C X dX4_begin_7 (fun H locs X => ?_)
  refine lv_aload_n hx hb dX4_begin_10 rfl (lv_at hl 0 rfl) ?_
  refine lv_iconst (v := 0) hx hb dX4_begin_11 (by decide) ?_
  obtain ⟨μ12, e12, hf⟩ := nm_e2 hf
  refine pfX4_25 (j := j) hj rfl e12 C X dX4_begin_12 (fun H locs X => ?_)
  exact retV C X hr hf rfl dX4_begin_15
theorem ct4_begin {j : Nat} {x1 : Int32} {x2 : Int32} (hj : j < 13) {μ : Mem} {ν : Lem} {μ1 : Mem} (hg : f4_begin μ j x1 x2 = μ1) : CtV true yX4_begin cX4_begin 3 0 0 (fun ad => [.ref (ad (14 + 3 * j)), .int x1, .int x2]) μ ν μ1 ν :=
  mkV (by decide) rfl (fun ad => Nat.le_of_ble_eq_true rfl) (fun p l e s m args below meth c D cy ad C hr X ls hl => w4_begin C hr μ j x1 x2 hj hg _ _ X _ hl)
theorem qX5_105 {p : Program} {l : Launch} {e : Env} {R : Room} {s : State} {m : MethodId} {args : Array Value} {below : List Frame} {meth : Method} {c : Code} {H : Heap} {locs : List Loc} {cells slots : Nat} {Q : State → Prop} {cc : ByteArray} {nL : Nat} {D : va_G} {cy : Nat → ClassId} {ad : Nat → Nat} {μ : Mem} {ν : Lem} {pc : Nat} {ls : Array Slot} {rest : List Value} {j : Nat} {x1 : Int32} {x2 : Int32} (hj : j < 13) {μ1 : Mem} (hg : f4_begin μ j x1 x2 = μ1) (C : Cx true p s m args meth c cc nL RX5 D cy ad) (X : Wd true D cy ad s.heap μ ν H locs) (hsz : ls.size = nL) (hrm : (rest.map fun v => v.category).sum ≤ 8) (hR : 0 + 1 ≤ R.frames ∧ 8 + (3 + 11) + 0 ≤ R.locals) (hcs : cells ≤ R.cells ∧ slots ≤ R.slots) (hd : decode cc pc = .ok (.invokevirtual 105, 3)) (kk : ∀ (H1 : Heap) (locs1 : List Loc), Wd true D cy ad s.heap μ1 ν H1 locs1 → W p l e R s m args below meth c H1 locs1 cells slots Q (F0 m (pc + 3) ls rest)) : W p l e R s m args below meth c H locs cells slots Q (F0 m pc ls (.int x2 :: .int x1 :: .ref (ad (14 + 3 * j)) :: rest)) :=
  rCVV (As := [.int x1, .int x2]) (k := 14 + 3 * j) (ct4_begin hj hg) ok4 lX4_begin k_242 (sW hj) rfl rfl C X rfl hrm hsz hR hcs hd kk
theorem qX4_28 {p : Program} {l : Launch} {e : Env} {R : Room} {s : State} {m : MethodId} {args : Array Value} {below : List Frame} {meth : Method} {c : Code} {H : Heap} {locs : List Loc} {cells slots : Nat} {Q : State → Prop} {cc : ByteArray} {nL : Nat} {D : va_G} {cy : Nat → ClassId} {ad : Nat → Nat} {μ : Mem} {ν : Lem} {pc : Nat} {ls : Array Slot} {rest : List Value} {j : Nat} {x1 : Int32} {x2 : Int32} (hj : j < 13) {μ1 : Mem} (hg : f4_begin μ j x1 x2 = μ1) (C : Cx true p s m args meth c cc nL RX4 D cy ad) (X : Wd true D cy ad s.heap μ ν H locs) (hsz : ls.size = nL) (hrm : (rest.map fun v => v.category).sum ≤ 8) (hR : 0 + 1 ≤ R.frames ∧ 8 + (3 + 11) + 0 ≤ R.locals) (hcs : cells ≤ R.cells ∧ slots ≤ R.slots) (hd : decode cc pc = .ok (.invokevirtual 28, 3)) (kk : ∀ (H1 : Heap) (locs1 : List Loc), Wd true D cy ad s.heap μ1 ν H1 locs1 → W p l e R s m args below meth c H1 locs1 cells slots Q (F0 m (pc + 3) ls rest)) : W p l e R s m args below meth c H locs cells slots Q (F0 m pc ls (.int x2 :: .int x1 :: .ref (ad (14 + 3 * j)) :: rest)) :=
  rCVV (As := [.int x1, .int x2]) (k := 14 + 3 * j) (ct4_begin hj hg) ok4 lX4_begin k_715 (sW hj) rfl rfl C X rfl hrm hsz hR hcs hd kk
set_option maxRecDepth 100000 in
set_option maxHeartbeats 4000000 in
theorem w4_add {p : Program} {l : Launch} {e : Env} {s : State} {m : MethodId} {args : Array Value} {below : List Frame} {meth : Method} {c : Code} {D : va_G} {cy : Nat → ClassId} {ad : Nat → Nat} {μ1 : Mem} {ν : Lem} (C : Cx true p s m args meth c cX4_add 3 RX4 D cy ad) (hr : meth.sig.returnType = none) : ∀ (μ : Mem) (j : Nat) (x1 : Int32) (x2 : Int32) (hj : j < 13), f4_add μ j x1 x2 = some μ1 → ∀ (H : Heap) (locs : List Loc), Wd true D cy ad s.heap μ ν H locs → ∀ (ls : Array Slot), lv_has ls 3 [(0, .ref (ad (14 + 3 * j))), (1, .int x1), (2, .int x2)] → WV true p l e 0 0 s m args below meth c D cy ad μ1 ν H locs (F0 m 0 ls []) := by
  have hx := C.1.1
  have hb := C.1.2.1
  have hown := C.1.2.2.2.1
  have hts := C.1.2.2.2.2
  intro μ j x1 x2 hj hf H locs X ls hl
  unfold f4_add at hf
  refine lv_aload_n hx hb dX4_add_0 rfl (lv_at hl 0 rfl) ?_
  refine gfX4_25 (j := j) hj rfl C X dX4_add_1 ?_
  refine lv_bipush (v := 8) hx hb dX4_add_4 (by decide) ?_
  refine lv_icmp_ge (tgt := 39) hx hb dX4_add_6 (by decide) (fun c6 => ?_) (fun c6 => ?_)
  · replace hf := ifp c6 hf
    exact retV C X hr (Option.some.inj hf) rfl dX4_add_39
  · replace hf := ifn c6 hf
    refine lv_aload_n hx hb dX4_add_9 rfl (lv_at hl 0 rfl) ?_
    refine gfX4_9 (j := j) hj rfl (k2 := (15 + 3 * j)) rfl C X dX4_add_10 ?_
    refine lv_aload_n hx hb dX4_add_13 rfl (lv_at hl 0 rfl) ?_
    refine gfX4_25 (j := j) hj rfl C X dX4_add_14 ?_
    refine lv_iload_n hx hb dX4_add_17 rfl (lv_at hl 1 rfl) ?_
    obtain ⟨h18, hf⟩ := gd_e hf
    obtain ⟨μ18, e18, hf⟩ := nm_e2 hf
    refine rIast2 C X (sWm hj) h18 e18 dX4_add_18 (fun H locs X => ?_)
    refine lv_aload_n hx hb dX4_add_19 rfl (lv_at hl 0 rfl) ?_
    refine gfX4_15 (j := j) hj rfl (k2 := (16 + 3 * j)) rfl C X dX4_add_20 ?_
    refine lv_aload_n hx hb dX4_add_23 rfl (lv_at hl 0 rfl) ?_
    refine gfX4_25 (j := j) hj rfl C X dX4_add_24 ?_
    refine lv_iload_n hx hb dX4_add_27 rfl (lv_at hl 2 rfl) ?_
    obtain ⟨h28, hf⟩ := gd_e hf
    obtain ⟨μ28, e28, hf⟩ := nm_e2 hf
    refine rIast2 C X (sWp hj) h28 e28 dX4_add_28 (fun H locs X => ?_)
    refine lv_aload_n hx hb dX4_add_29 rfl (lv_at hl 0 rfl) ?_
    refine lv_dup hx hb dX4_add_30 rfl ?_
    refine gfX4_25 (j := j) hj rfl C X dX4_add_31 ?_
    refine lv_iconst (v := 1) hx hb dX4_add_34 (by decide) ?_
    refine lv_iadd hx hb dX4_add_35 ?_
    obtain ⟨μ36, e36, hf⟩ := nm_e2 hf
    refine pfX4_25 (j := j) hj rfl e36 C X dX4_add_36 (fun H locs X => ?_)
    exact retV C X hr (Option.some.inj hf) rfl dX4_add_39
theorem ct4_add {j : Nat} {x1 : Int32} {x2 : Int32} (hj : j < 13) {μ : Mem} {ν : Lem} {μ1 : Mem} (hg : f4_add μ j x1 x2 = some μ1) : CtV true yX4_add cX4_add 3 0 0 (fun ad => [.ref (ad (14 + 3 * j)), .int x1, .int x2]) μ ν μ1 ν :=
  mkV (by decide) rfl (fun ad => Nat.le_of_ble_eq_true rfl) (fun p l e s m args below meth c D cy ad C hr X ls hl => w4_add C hr μ j x1 x2 hj hg _ _ X _ hl)
theorem qX5_120 {p : Program} {l : Launch} {e : Env} {R : Room} {s : State} {m : MethodId} {args : Array Value} {below : List Frame} {meth : Method} {c : Code} {H : Heap} {locs : List Loc} {cells slots : Nat} {Q : State → Prop} {cc : ByteArray} {nL : Nat} {D : va_G} {cy : Nat → ClassId} {ad : Nat → Nat} {μ : Mem} {ν : Lem} {pc : Nat} {ls : Array Slot} {rest : List Value} {j : Nat} {x1 : Int32} {x2 : Int32} (hj : j < 13) {μ1 : Mem} (hg : f4_add μ j x1 x2 = some μ1) (C : Cx true p s m args meth c cc nL RX5 D cy ad) (X : Wd true D cy ad s.heap μ ν H locs) (hsz : ls.size = nL) (hrm : (rest.map fun v => v.category).sum ≤ 8) (hR : 0 + 1 ≤ R.frames ∧ 8 + (3 + 11) + 0 ≤ R.locals) (hcs : cells ≤ R.cells ∧ slots ≤ R.slots) (hd : decode cc pc = .ok (.invokevirtual 120, 3)) (kk : ∀ (H1 : Heap) (locs1 : List Loc), Wd true D cy ad s.heap μ1 ν H1 locs1 → W p l e R s m args below meth c H1 locs1 cells slots Q (F0 m (pc + 3) ls rest)) : W p l e R s m args below meth c H locs cells slots Q (F0 m pc ls (.int x2 :: .int x1 :: .ref (ad (14 + 3 * j)) :: rest)) :=
  rCVV (As := [.int x1, .int x2]) (k := 14 + 3 * j) (ct4_add hj hg) ok4 lX4_add k_261 (sW hj) rfl rfl C X rfl hrm hsz hR hcs hd kk
theorem qX4_32 {p : Program} {l : Launch} {e : Env} {R : Room} {s : State} {m : MethodId} {args : Array Value} {below : List Frame} {meth : Method} {c : Code} {H : Heap} {locs : List Loc} {cells slots : Nat} {Q : State → Prop} {cc : ByteArray} {nL : Nat} {D : va_G} {cy : Nat → ClassId} {ad : Nat → Nat} {μ : Mem} {ν : Lem} {pc : Nat} {ls : Array Slot} {rest : List Value} {j : Nat} {x1 : Int32} {x2 : Int32} (hj : j < 13) {μ1 : Mem} (hg : f4_add μ j x1 x2 = some μ1) (C : Cx true p s m args meth c cc nL RX4 D cy ad) (X : Wd true D cy ad s.heap μ ν H locs) (hsz : ls.size = nL) (hrm : (rest.map fun v => v.category).sum ≤ 8) (hR : 0 + 1 ≤ R.frames ∧ 8 + (3 + 11) + 0 ≤ R.locals) (hcs : cells ≤ R.cells ∧ slots ≤ R.slots) (hd : decode cc pc = .ok (.invokevirtual 32, 3)) (kk : ∀ (H1 : Heap) (locs1 : List Loc), Wd true D cy ad s.heap μ1 ν H1 locs1 → W p l e R s m args below meth c H1 locs1 cells slots Q (F0 m (pc + 3) ls rest)) : W p l e R s m args below meth c H locs cells slots Q (F0 m pc ls (.int x2 :: .int x1 :: .ref (ad (14 + 3 * j)) :: rest)) :=
  rCVV (As := [.int x1, .int x2]) (k := 14 + 3 * j) (ct4_add hj hg) ok4 lX4_add k_716 (sW hj) rfl rfl C X rfl hrm hsz hR hcs hd kk
set_option maxRecDepth 100000 in
set_option maxHeartbeats 4000000 in
theorem w4_become_1 {p : Program} {l : Launch} {e : Env} {s : State} {m : MethodId} {args : Array Value} {below : List Frame} {meth : Method} {c : Code} {D : va_G} {cy : Nat → ClassId} {ad : Nat → Nat} {μ1 : Mem} {ν : Lem} (C : Cx true p s m args meth c cX4_become 3 RX4 D cy ad) (hr : meth.sig.returnType = none) : ∀ (n : Nat), ∀ (μ : Mem) (j : Nat) (x1 : Nat) (x2 : Int32) (hj : j < 13) (hx1 : x1 < 13), f4_become_1 n μ j x1 x2 = some μ1 → ∀ (H : Heap) (locs : List Loc), Wd true D cy ad s.heap μ ν H locs → ∀ (ls : Array Slot), lv_has ls 3 [(0, .ref (ad (14 + 3 * j))), (1, .ref (ad (14 + 3 * x1))), (2, .int x2)] → WV true p l e 1 22 s m args below meth c D cy ad μ1 ν H locs (F0 m 14 ls []) := by
  have hx := C.1.1
  have hb := C.1.2.1
  have hown := C.1.2.2.2.1
  have hts := C.1.2.2.2.2
  intro n
  induction n with
  | zero =>
    intro μ j x1 x2 hj hx1 hf H locs X ls hl
    rw [f4_become_1] at hf
    cases hf
  | succ n ih =>
    intro μ j x1 x2 hj hx1 hf H locs X ls hl
    rw [f4_become_1] at hf
    refine lv_iload_n hx hb dX4_become_14 rfl (lv_at hl 2 rfl) ?_
    refine lv_aload_n hx hb dX4_become_15 rfl (lv_at hl 1 rfl) ?_
    refine gfX4_25 (j := x1) hx1 rfl C X dX4_become_16 ?_
    refine lv_icmp_ge (tgt := 44) hx hb dX4_become_19 (by decide) (fun c19 => ?_) (fun c19 => ?_)
    · replace hf := ifp c19 hf
      exact retV C X hr (Option.some.inj hf) rfl dX4_become_44
    · replace hf := ifn c19 hf
      refine lv_aload_n hx hb dX4_become_22 rfl (lv_at hl 0 rfl) ?_
      refine lv_aload_n hx hb dX4_become_23 rfl (lv_at hl 1 rfl) ?_
      refine gfX4_9 (j := x1) hx1 rfl (k2 := (15 + 3 * x1)) rfl C X dX4_become_24 ?_
      refine lv_iload_n hx hb dX4_become_27 rfl (lv_at hl 2 rfl) ?_
      obtain ⟨h28, hf⟩ := gd_e hf
      refine rIald C X (sWm hx1) h28 dX4_become_28 ?_
      refine lv_aload_n hx hb dX4_become_29 rfl (lv_at hl 1 rfl) ?_
      refine gfX4_15 (j := x1) hx1 rfl (k2 := (16 + 3 * x1)) rfl C X dX4_become_30 ?_
      refine lv_iload_n hx hb dX4_become_33 rfl (lv_at hl 2 rfl) ?_
      obtain ⟨h34, hf⟩ := gd_e hf
      refine rIald C X (sWp hx1) h34 dX4_become_34 ?_
      obtain ⟨μ35, g35, hf⟩ := bd1_e hf
      refine qX4_32 (j := j) hj g35 C X hl.1 ((Nat.le_of_ble_eq_true rfl)) ⟨(Nat.le_of_ble_eq_true rfl), (Nat.le_of_ble_eq_true rfl)⟩ ⟨Nat.zero_le _, Nat.zero_le _⟩ dX4_become_35 (fun H locs X => ?_)
      obtain ⟨v38, e38, hf⟩ := nm_e2 hf
      refine rIinc (lv' := [(2, .int v38), (0, .ref (ad (14 + 3 * j))), (1, .ref (ad (14 + 3 * x1)))]) hx hb dX4_become_38 hl (k := 2) rfl e38 rfl (by decide) rfl (fun ls hl => ?_)
      refine lv_goto (tgt := 14) hx hb dX4_become_41 (by decide) ?_
      exact ih μ35 j x1 v38 hj hx1 hf _ _ X _ (lv_sub hl [1, 2, 0] rfl)
set_option maxRecDepth 100000 in
set_option maxHeartbeats 4000000 in
theorem w4_become {p : Program} {l : Launch} {e : Env} {s : State} {m : MethodId} {args : Array Value} {below : List Frame} {meth : Method} {c : Code} {D : va_G} {cy : Nat → ClassId} {ad : Nat → Nat} {μ1 : Mem} {ν : Lem} (C : Cx true p s m args meth c cX4_become 3 RX4 D cy ad) (hr : meth.sig.returnType = none) : ∀ (μ : Mem) (j : Nat) (x1 : Nat) (hj : j < 13) (hx1 : x1 < 13), f4_become μ j x1 = some μ1 → ∀ (H : Heap) (locs : List Loc), Wd true D cy ad s.heap μ ν H locs → ∀ (ls : Array Slot), lv_has ls 3 [(0, .ref (ad (14 + 3 * j))), (1, .ref (ad (14 + 3 * x1)))] → WV true p l e 1 22 s m args below meth c D cy ad μ1 ν H locs (F0 m 0 ls []) := by
  have hx := C.1.1
  have hb := C.1.2.1
  have hown := C.1.2.2.2.1
  have hts := C.1.2.2.2.2
  intro μ j x1 hj hx1 hf H locs X ls hl
  unfold f4_become at hf
  refine lv_aload_n hx hb dX4_become_0 rfl (lv_at hl 0 rfl) ?_
  refine lv_aload_n hx hb dX4_become_1 rfl (lv_at hl 1 rfl) ?_
  refine gfX4_18 (j := x1) hx1 rfl C X dX4_become_2 ?_
  refine lv_aload_n hx hb dX4_become_5 rfl (lv_at hl 1 rfl) ?_
  refine gfX4_22 (j := x1) hx1 rfl C X dX4_become_6 ?_
  obtain ⟨μ9, g9, hf⟩ := nm_e2 hf
  refine qX4_28 (j := j) hj g9.symm C X hl.1 ((Nat.le_of_ble_eq_true rfl)) ⟨(Nat.le_of_ble_eq_true rfl), (Nat.le_of_ble_eq_true rfl)⟩ ⟨Nat.zero_le _, Nat.zero_le _⟩ dX4_become_9 (fun H locs X => ?_)
  refine lv_iconst (v := 0) hx hb dX4_become_12 (by decide) ?_
  refine lv_istore_n (lv' := [(2, .int 0), (0, .ref (ad (14 + 3 * j))), (1, .ref (ad (14 + 3 * x1)))]) hx hb dX4_become_13 rfl hl (by decide) rfl (fun ls hl => ?_)
  exact w4_become_1 C hr  FUEL μ9 j x1 0 hj hx1 hf _ _ X _ (lv_sub hl [1, 2, 0] rfl)
theorem ct4_become {j : Nat} {x1 : Nat} (hj : j < 13) (hx1 : x1 < 13) {μ : Mem} {ν : Lem} {μ1 : Mem} (hg : f4_become μ j x1 = some μ1) : CtV true yX4_become cX4_become 3 1 22 (fun ad => [.ref (ad (14 + 3 * j)), .ref (ad (14 + 3 * x1))]) μ ν μ1 ν :=
  mkV (by decide) rfl (fun ad => Nat.le_of_ble_eq_true rfl) (fun p l e s m args below meth c D cy ad C hr X ls hl => w4_become C hr μ j x1 hj hx1 hg _ _ X _ hl)
theorem qX0_28 {p : Program} {l : Launch} {e : Env} {R : Room} {s : State} {m : MethodId} {args : Array Value} {below : List Frame} {meth : Method} {c : Code} {H : Heap} {locs : List Loc} {cells slots : Nat} {Q : State → Prop} {cc : ByteArray} {nL : Nat} {D : va_G} {cy : Nat → ClassId} {ad : Nat → Nat} {μ : Mem} {ν : Lem} {pc : Nat} {ls : Array Slot} {rest : List Value} {j : Nat} {x1 : Nat} (hj : j < 13) (hx1 : x1 < 13) {μ1 : Mem} (hg : f4_become μ j x1 = some μ1) (C : Cx true p s m args meth c cc nL RX0 D cy ad) (X : Wd true D cy ad s.heap μ ν H locs) (hsz : ls.size = nL) (hrm : (rest.map fun v => v.category).sum ≤ 8) (hR : 1 + 1 ≤ R.frames ∧ 8 + (3 + 11) + 22 ≤ R.locals) (hcs : cells ≤ R.cells ∧ slots ≤ R.slots) (hd : decode cc pc = .ok (.invokevirtual 28, 3)) (kk : ∀ (H1 : Heap) (locs1 : List Loc), Wd true D cy ad s.heap μ1 ν H1 locs1 → W p l e R s m args below meth c H1 locs1 cells slots Q (F0 m (pc + 3) ls rest)) : W p l e R s m args below meth c H locs cells slots Q (F0 m pc ls (.ref (ad (14 + 3 * x1)) :: .ref (ad (14 + 3 * j)) :: rest)) :=
  rCVV (As := [.ref (ad (14 + 3 * x1))]) (k := 14 + 3 * j) (ct4_become hj hx1 hg) ok4 lX4_become k_711 (sW hj) rfl rfl C X rfl hrm hsz hR hcs hd kk
set_option maxRecDepth 100000 in
set_option maxHeartbeats 4000000 in
theorem w0_become_1 {p : Program} {l : Launch} {e : Env} {s : State} {m : MethodId} {args : Array Value} {below : List Frame} {meth : Method} {c : Code} {D : va_G} {cy : Nat → ClassId} {ad : Nat → Nat} {μ1 : Mem} {ν : Lem} (C : Cx true p s m args meth c cX0_become 3 RX0 D cy ad) (hr : meth.sig.returnType = none) : ∀ (n : Nat), ∀ (μ : Mem) (o : Nat) (x1 : Nat) (x2 : Int32) (ho : o < 2) (hx1 : x1 < 2), f0_become_1 n μ o x1 x2 = some μ1 → ∀ (H : Heap) (locs : List Loc), Wd true D cy ad s.heap μ ν H locs → ∀ (ls : Array Slot), lv_has ls 3 [(0, .ref (ad (1 + o))), (1, .ref (ad (1 + x1))), (2, .int x2)] → WV true p l e 2 44 s m args below meth c D cy ad μ1 ν H locs (F0 m 26 ls []) := by
  have hx := C.1.1
  have hb := C.1.2.1
  have hown := C.1.2.2.2.1
  have hts := C.1.2.2.2.2
  intro n
  induction n with
  | zero =>
    intro μ o x1 x2 ho hx1 hf H locs X ls hl
    rw [f0_become_1] at hf
    cases hf
  | succ n ih =>
    intro μ o x1 x2 ho hx1 hf H locs X ls hl
    rw [f0_become_1] at hf
    refine lv_iload_n hx hb dX0_become_26 rfl (lv_at hl 2 rfl) ?_
    refine lv_aload_n hx hb dX0_become_27 rfl (lv_at hl 0 rfl) ?_
    refine gfX0_22 (o := o) ho rfl C X dX0_become_28 ?_
    refine lv_icmp_ge (tgt := 55) hx hb dX0_become_31 (by decide) (fun c31 => ?_) (fun c31 => ?_)
    · replace hf := ifp c31 hf
      exact retV C X hr (Option.some.inj hf) rfl dX0_become_55
    · replace hf := ifn c31 hf
      refine lv_aload_n hx hb dX0_become_34 rfl (lv_at hl 0 rfl) ?_
      refine gfX0_17 (o := o) ho rfl (k2 := (12 + o)) rfl C X dX0_become_35 ?_
      refine lv_iload_n hx hb dX0_become_38 rfl (lv_at hl 2 rfl) ?_
      obtain ⟨h39, hf⟩ := gd_e hf
      have hb39 : (6 * o + x2.toNatClampNeg) < 13 := by have := inb_lt h39; omega
      refine rAald (t := 0) (k' := (14 + 3 * (6 * o + x2.toNatClampNeg))) C X (sPw ho) rfl h39 (by omega) dX0_become_39 ?_
      refine lv_aload_n hx hb dX0_become_40 rfl (lv_at hl 1 rfl) ?_
      refine gfX0_17 (o := x1) hx1 rfl (k2 := (12 + x1)) rfl C X dX0_become_41 ?_
      refine lv_iload_n hx hb dX0_become_44 rfl (lv_at hl 2 rfl) ?_
      obtain ⟨h45, hf⟩ := gd_e hf
      have hb45 : (6 * x1 + x2.toNatClampNeg) < 13 := by have := inb_lt h45; omega
      refine rAald (t := 0) (k' := (14 + 3 * (6 * x1 + x2.toNatClampNeg))) C X (sPw hx1) rfl h45 (by omega) dX0_become_45 ?_
      obtain ⟨μ46, g46, hf⟩ := bd1_e hf
      refine qX0_28 (j := (6 * o + x2.toNatClampNeg)) hb39 (x1 := (6 * x1 + x2.toNatClampNeg)) hb45 g46 C X hl.1 ((Nat.le_of_ble_eq_true rfl)) ⟨(Nat.le_of_ble_eq_true rfl), (Nat.le_of_ble_eq_true rfl)⟩ ⟨Nat.zero_le _, Nat.zero_le _⟩ dX0_become_46 (fun H locs X => ?_)
      obtain ⟨v49, e49, hf⟩ := nm_e2 hf
      refine rIinc (lv' := [(2, .int v49), (0, .ref (ad (1 + o))), (1, .ref (ad (1 + x1)))]) hx hb dX0_become_49 hl (k := 2) rfl e49 rfl (by decide) rfl (fun ls hl => ?_)
      refine lv_goto (tgt := 26) hx hb dX0_become_52 (by decide) ?_
      exact ih μ46 o x1 v49 ho hx1 hf _ _ X _ (lv_sub hl [1, 2, 0] rfl)
set_option maxRecDepth 100000 in
set_option maxHeartbeats 4000000 in
theorem w0_become {p : Program} {l : Launch} {e : Env} {s : State} {m : MethodId} {args : Array Value} {below : List Frame} {meth : Method} {c : Code} {D : va_G} {cy : Nat → ClassId} {ad : Nat → Nat} {μ1 : Mem} {ν : Lem} (C : Cx true p s m args meth c cX0_become 3 RX0 D cy ad) (hr : meth.sig.returnType = none) : ∀ (μ : Mem) (o : Nat) (x1 : Nat) (ho : o < 2) (hx1 : x1 < 2), f0_become μ o x1 = some μ1 → ∀ (H : Heap) (locs : List Loc), Wd true D cy ad s.heap μ ν H locs → ∀ (ls : Array Slot), lv_has ls 3 [(0, .ref (ad (1 + o))), (1, .ref (ad (1 + x1)))] → WV true p l e 2 44 s m args below meth c D cy ad μ1 ν H locs (F0 m 0 ls []) := by
  have hx := C.1.1
  have hb := C.1.2.1
  have hown := C.1.2.2.2.1
  have hts := C.1.2.2.2.2
  intro μ o x1 ho hx1 hf H locs X ls hl
  unfold f0_become at hf
  refine lv_aload_n hx hb dX0_become_0 rfl (lv_at hl 0 rfl) ?_
  refine lv_aload_n hx hb dX0_become_1 rfl (lv_at hl 1 rfl) ?_
  refine gfX0_9 (o := x1) hx1 rfl C X dX0_become_2 ?_
  obtain ⟨μ5, e5, hf⟩ := nm_e2 hf
  refine pfX0_9 (o := o) ho rfl e5 C X dX0_become_5 (fun H locs X => ?_)
  refine lv_aload_n hx hb dX0_become_8 rfl (lv_at hl 0 rfl) ?_
  refine lv_aload_n hx hb dX0_become_9 rfl (lv_at hl 1 rfl) ?_
  refine gfX0_22 (o := x1) hx1 rfl C X dX0_become_10 ?_
  obtain ⟨μ13, e13, hf⟩ := nm_e2 hf
  refine pfX0_22 (o := o) ho rfl e13 C X dX0_become_13 (fun H locs X => ?_)
  refine lv_aload_n hx hb dX0_become_16 rfl (lv_at hl 0 rfl) ?_
  refine lv_aload_n hx hb dX0_become_17 rfl (lv_at hl 1 rfl) ?_
  refine gfX0_25 (o := x1) hx1 rfl C X dX0_become_18 ?_
  obtain ⟨μ21, e21, hf⟩ := nm_e2 hf
  refine pfX0_25 (o := o) ho rfl e21 C X dX0_become_21 (fun H locs X => ?_)
  refine lv_iconst (v := 0) hx hb dX0_become_24 (by decide) ?_
  refine lv_istore_n (lv' := [(2, .int 0), (0, .ref (ad (1 + o))), (1, .ref (ad (1 + x1)))]) hx hb dX0_become_25 rfl hl (by decide) rfl (fun ls hl => ?_)
  exact w0_become_1 C hr  FUEL μ21 o x1 0 ho hx1 hf _ _ X _ (lv_sub hl [1, 2, 0] rfl)
theorem ct0_become {o : Nat} {x1 : Nat} (ho : o < 2) (hx1 : x1 < 2) {μ : Mem} {ν : Lem} {μ1 : Mem} (hg : f0_become μ o x1 = some μ1) : CtV true yX0_become cX0_become 3 2 44 (fun ad => [.ref (ad (1 + o)), .ref (ad (1 + x1))]) μ ν μ1 ν :=
  mkV (by decide) rfl (fun ad => Nat.le_of_ble_eq_true rfl) (fun p l e s m args below meth c D cy ad C hr X ls hl => w0_become C hr μ o x1 ho hx1 hg _ _ X _ hl)
theorem qX5_298 {p : Program} {l : Launch} {e : Env} {R : Room} {s : State} {m : MethodId} {args : Array Value} {below : List Frame} {meth : Method} {c : Code} {H : Heap} {locs : List Loc} {cells slots : Nat} {Q : State → Prop} {cc : ByteArray} {nL : Nat} {D : va_G} {cy : Nat → ClassId} {ad : Nat → Nat} {μ : Mem} {ν : Lem} {pc : Nat} {ls : Array Slot} {rest : List Value} {o : Nat} {x1 : Nat} (ho : o < 2) (hx1 : x1 < 2) {μ1 : Mem} (hg : f0_become μ o x1 = some μ1) (C : Cx true p s m args meth c cc nL RX5 D cy ad) (X : Wd true D cy ad s.heap μ ν H locs) (hsz : ls.size = nL) (hrm : (rest.map fun v => v.category).sum ≤ 8) (hR : 2 + 1 ≤ R.frames ∧ 8 + (3 + 11) + 44 ≤ R.locals) (hcs : cells ≤ R.cells ∧ slots ≤ R.slots) (hd : decode cc pc = .ok (.invokevirtual 298, 3)) (kk : ∀ (H1 : Heap) (locs1 : List Loc), Wd true D cy ad s.heap μ1 ν H1 locs1 → W p l e R s m args below meth c H1 locs1 cells slots Q (F0 m (pc + 3) ls rest)) : W p l e R s m args below meth c H locs cells slots Q (F0 m pc ls (.ref (ad (1 + x1)) :: .ref (ad (1 + o)) :: rest)) :=
  rCVV (As := [.ref (ad (1 + x1))]) (k := 1 + o) (ct0_become ho hx1 hg) ok0 lX0_become k_707 (sP ho) rfl rfl C X rfl hrm hsz hR hcs hd kk
set_option maxRecDepth 100000 in
set_option maxHeartbeats 4000000 in
theorem w0_allPoints_1 {p : Program} {l : Launch} {e : Env} {s : State} {m : MethodId} {args : Array Value} {below : List Frame} {meth : Method} {c : Code} {D : va_G} {cy : Nat → ClassId} {ad : Nat → Nat} {r : Int32} {μ : Mem} {ν : Lem} (C : Cx true p s m args meth c cX0_allPoints 3 RX0 D cy ad) (hr : meth.sig.returnType = some .int) : ∀ (n : Nat), ∀ (o : Nat) (x1 : Int32) (x2 : Int32) (ho : o < 2), f0_allPoints_1 μ n o x1 x2 = some r → ∀ (H : Heap) (locs : List Loc), Wd true D cy ad s.heap μ ν H locs → ∀ (ls : Array Slot), lv_has ls 3 [(0, .ref (ad (1 + o))), (1, .int x1), (2, .int x2)] → WI true p l e 0 0 s m args below meth c D cy ad .int r μ ν H locs (F0 m 4 ls []) := by
  have hx := C.1.1
  have hb := C.1.2.1
  have hown := C.1.2.2.2.1
  have hts := C.1.2.2.2.2
  intro n
  induction n with
  | zero =>
    intro o x1 x2 ho hf H locs X ls hl
    rw [f0_allPoints_1] at hf
    cases hf
  | succ n ih =>
    intro o x1 x2 ho hf H locs X ls hl
    rw [f0_allPoints_1] at hf
    refine lv_iload_n hx hb dX0_allPoints_4 rfl (lv_at hl 2 rfl) ?_
    refine lv_aload_n hx hb dX0_allPoints_5 rfl (lv_at hl 0 rfl) ?_
    refine gfX0_22 (o := o) ho rfl C X dX0_allPoints_6 ?_
    refine lv_icmp_ge (tgt := 30) hx hb dX0_allPoints_9 (by decide) (fun c9 => ?_) (fun c9 => ?_)
    · replace hf := ifp c9 hf
      refine lv_iload_n hx hb dX0_allPoints_30 rfl (lv_at hl 1 rfl) ?_
      exact retI C X hr rfl (Option.some.inj hf) rfl rfl dX0_allPoints_31
    · replace hf := ifn c9 hf
      refine lv_iload_n hx hb dX0_allPoints_12 rfl (lv_at hl 1 rfl) ?_
      refine lv_aload_n hx hb dX0_allPoints_13 rfl (lv_at hl 0 rfl) ?_
      refine gfX0_17 (o := o) ho rfl (k2 := (12 + o)) rfl C X dX0_allPoints_14 ?_
      refine lv_iload_n hx hb dX0_allPoints_17 rfl (lv_at hl 2 rfl) ?_
      obtain ⟨h18, hf⟩ := gd_e hf
      have hb18 : (6 * o + x2.toNatClampNeg) < 13 := by have := inb_lt h18; omega
      refine rAald (t := 0) (k' := (14 + 3 * (6 * o + x2.toNatClampNeg))) C X (sPw ho) rfl h18 (by omega) dX0_allPoints_18 ?_
      refine gfX0_32 (j := (6 * o + x2.toNatClampNeg)) hb18 rfl C X dX0_allPoints_19 ?_
      refine lv_iadd hx hb dX0_allPoints_22 ?_
      obtain ⟨v23, e23, hf⟩ := nm_e2 hf
      refine st_i e23 ?_
      refine lv_istore_n (lv' := [(1, .int v23), (0, .ref (ad (1 + o))), (2, .int x2)]) hx hb dX0_allPoints_23 rfl hl (by decide) rfl (fun ls hl => ?_)
      obtain ⟨v24, e24, hf⟩ := nm_e2 hf
      refine rIinc (lv' := [(2, .int v24), (1, .int v23), (0, .ref (ad (1 + o)))]) hx hb dX0_allPoints_24 hl (k := 2) rfl e24 rfl (by decide) rfl (fun ls hl => ?_)
      refine lv_goto (tgt := 4) hx hb dX0_allPoints_27 (by decide) ?_
      exact ih o v23 v24 ho hf _ _ X _ (lv_sub hl [2, 1, 0] rfl)
set_option maxRecDepth 100000 in
set_option maxHeartbeats 4000000 in
theorem w0_allPoints {p : Program} {l : Launch} {e : Env} {s : State} {m : MethodId} {args : Array Value} {below : List Frame} {meth : Method} {c : Code} {D : va_G} {cy : Nat → ClassId} {ad : Nat → Nat} {r : Int32} {μ : Mem} {ν : Lem} (C : Cx true p s m args meth c cX0_allPoints 3 RX0 D cy ad) (hr : meth.sig.returnType = some .int) : ∀ (o : Nat) (ho : o < 2), f0_allPoints μ o = some r → ∀ (H : Heap) (locs : List Loc), Wd true D cy ad s.heap μ ν H locs → ∀ (ls : Array Slot), lv_has ls 3 [(0, .ref (ad (1 + o)))] → WI true p l e 0 0 s m args below meth c D cy ad .int r μ ν H locs (F0 m 0 ls []) := by
  have hx := C.1.1
  have hb := C.1.2.1
  have hown := C.1.2.2.2.1
  have hts := C.1.2.2.2.2
  intro o ho hf H locs X ls hl
  unfold f0_allPoints at hf
  refine lv_iconst (v := 0) hx hb dX0_allPoints_0 (by decide) ?_
  refine lv_istore_n (lv' := [(1, .int 0), (0, .ref (ad (1 + o)))]) hx hb dX0_allPoints_1 rfl hl (by decide) rfl (fun ls hl => ?_)
  refine lv_iconst (v := 0) hx hb dX0_allPoints_2 (by decide) ?_
  refine lv_istore_n (lv' := [(2, .int 0), (1, .int 0), (0, .ref (ad (1 + o)))]) hx hb dX0_allPoints_3 rfl hl (by decide) rfl (fun ls hl => ?_)
  exact w0_allPoints_1 C hr  FUEL o 0 0 ho hf _ _ X _ (lv_sub hl [2, 1, 0] rfl)
theorem ct0_allPoints {o : Nat} (ho : o < 2) {μ : Mem} {ν : Lem} {r : Int32} (hg : f0_allPoints μ o = some r) : CtI true yX0_allPoints cX0_allPoints 3 0 0 .int (fun ad => [.ref (ad (1 + o))]) μ ν r μ ν :=
  mkI (by decide) rfl (fun ad => Nat.le_of_ble_eq_true rfl) (fun p l e s m args below meth c D cy ad C hr X ls hl => w0_allPoints C hr o ho hg _ _ X _ hl)
theorem qX5_306 {p : Program} {l : Launch} {e : Env} {R : Room} {s : State} {m : MethodId} {args : Array Value} {below : List Frame} {meth : Method} {c : Code} {H : Heap} {locs : List Loc} {cells slots : Nat} {Q : State → Prop} {cc : ByteArray} {nL : Nat} {D : va_G} {cy : Nat → ClassId} {ad : Nat → Nat} {μ : Mem} {ν : Lem} {pc : Nat} {ls : Array Slot} {rest : List Value} {o : Nat} (ho : o < 2) {r : Int32} (hg : f0_allPoints μ o = some r) (C : Cx true p s m args meth c cc nL RX5 D cy ad) (X : Wd true D cy ad s.heap μ ν H locs) (hsz : ls.size = nL) (hrm : (rest.map fun v => v.category).sum ≤ 8) (hR : 0 + 1 ≤ R.frames ∧ 8 + (3 + 11) + 0 ≤ R.locals) (hcs : cells ≤ R.cells ∧ slots ≤ R.slots) (hd : decode cc pc = .ok (.invokevirtual 306, 3)) (kk : ∀ (H1 : Heap) (locs1 : List Loc), Wd true D cy ad s.heap μ ν H1 locs1 → narrow .int (.int r) = .int r → W p l e R s m args below meth c H1 locs1 cells slots Q (F0 m (pc + 3) ls (.int r :: rest))) : W p l e R s m args below meth c H locs cells slots Q (F0 m pc ls (.ref (ad (1 + o)) :: rest)) :=
  rCVI (As := []) (k := 1 + o) (ct0_allPoints ho hg) ok0 lX0_allPoints k_725 (sP ho) rfl rfl C X rfl hrm hsz hR hcs hd kk
set_option maxRecDepth 100000 in
set_option maxHeartbeats 4000000 in
theorem w4_farthestPlace_1 {p : Program} {l : Launch} {e : Env} {s : State} {m : MethodId} {args : Array Value} {below : List Frame} {meth : Method} {c : Code} {D : va_G} {cy : Nat → ClassId} {ad : Nat → Nat} {r : Int32} {μ : Mem} {ν : Lem} (C : Cx true p s m args meth c cX4_farthestPlace 3 RX4 D cy ad) (hr : meth.sig.returnType = some .int) : ∀ (n : Nat), ∀ (j : Nat) (x1 : Int32) (x2 : Int32) (hj : j < 13), f4_farthestPlace_1 μ n j x1 x2 = some r → ∀ (H : Heap) (locs : List Loc), Wd true D cy ad s.heap μ ν H locs → ∀ (ls : Array Slot), lv_has ls 3 [(0, .ref (ad (14 + 3 * j))), (1, .int x1), (2, .int x2)] → WI true p l e 1 21 s m args below meth c D cy ad .int r μ ν H locs (F0 m 4 ls []) := by
  have hx := C.1.1
  have hb := C.1.2.1
  have hown := C.1.2.2.2.1
  have hts := C.1.2.2.2.2
  intro n
  induction n with
  | zero =>
    intro j x1 x2 hj hf H locs X ls hl
    rw [f4_farthestPlace_1] at hf
    cases hf
  | succ n ih =>
    intro j x1 x2 hj hf H locs X ls hl
    rw [f4_farthestPlace_1] at hf
    refine lv_iload_n hx hb dX4_farthestPlace_4 rfl (lv_at hl 2 rfl) ?_
    refine lv_aload_n hx hb dX4_farthestPlace_5 rfl (lv_at hl 0 rfl) ?_
    refine gfX4_25 (j := j) hj rfl C X dX4_farthestPlace_6 ?_
    refine lv_icmp_ge (tgt := 29) hx hb dX4_farthestPlace_9 (by decide) (fun c9 => ?_) (fun c9 => ?_)
    · replace hf := ifp c9 hf
      refine lv_iload_n hx hb dX4_farthestPlace_29 rfl (lv_at hl 1 rfl) ?_
      exact retI C X hr rfl (Option.some.inj hf) rfl rfl dX4_farthestPlace_30
    · replace hf := ifn c9 hf
      refine lv_iload_n hx hb dX4_farthestPlace_12 rfl (lv_at hl 1 rfl) ?_
      refine lv_aload_n hx hb dX4_farthestPlace_13 rfl (lv_at hl 0 rfl) ?_
      refine gfX4_15 (j := j) hj rfl (k2 := (16 + 3 * j)) rfl C X dX4_farthestPlace_14 ?_
      refine lv_iload_n hx hb dX4_farthestPlace_17 rfl (lv_at hl 2 rfl) ?_
      obtain ⟨h18, hf⟩ := gd_e hf
      refine rIald C X (sWp hj) h18 dX4_farthestPlace_18 ?_
      refine rMax C k_220 hl.1 (Nat.le_of_ble_eq_true rfl) (Nat.le_of_ble_eq_true rfl) ⟨Nat.zero_le _, Nat.zero_le _⟩ dX4_farthestPlace_19 ?_
      obtain ⟨v22, e22, hf⟩ := nm_e2 hf
      refine st_i e22 ?_
      refine lv_istore_n (lv' := [(1, .int v22), (0, .ref (ad (14 + 3 * j))), (2, .int x2)]) hx hb dX4_farthestPlace_22 rfl hl (by decide) rfl (fun ls hl => ?_)
      obtain ⟨v23, e23, hf⟩ := nm_e2 hf
      refine rIinc (lv' := [(2, .int v23), (1, .int v22), (0, .ref (ad (14 + 3 * j)))]) hx hb dX4_farthestPlace_23 hl (k := 2) rfl e23 rfl (by decide) rfl (fun ls hl => ?_)
      refine lv_goto (tgt := 4) hx hb dX4_farthestPlace_26 (by decide) ?_
      exact ih j v22 v23 hj hf _ _ X _ (lv_sub hl [2, 1, 0] rfl)
set_option maxRecDepth 100000 in
set_option maxHeartbeats 4000000 in
theorem w4_farthestPlace {p : Program} {l : Launch} {e : Env} {s : State} {m : MethodId} {args : Array Value} {below : List Frame} {meth : Method} {c : Code} {D : va_G} {cy : Nat → ClassId} {ad : Nat → Nat} {r : Int32} {μ : Mem} {ν : Lem} (C : Cx true p s m args meth c cX4_farthestPlace 3 RX4 D cy ad) (hr : meth.sig.returnType = some .int) : ∀ (j : Nat) (hj : j < 13), f4_farthestPlace μ j = some r → ∀ (H : Heap) (locs : List Loc), Wd true D cy ad s.heap μ ν H locs → ∀ (ls : Array Slot), lv_has ls 3 [(0, .ref (ad (14 + 3 * j)))] → WI true p l e 1 21 s m args below meth c D cy ad .int r μ ν H locs (F0 m 0 ls []) := by
  have hx := C.1.1
  have hb := C.1.2.1
  have hown := C.1.2.2.2.1
  have hts := C.1.2.2.2.2
  intro j hj hf H locs X ls hl
  unfold f4_farthestPlace at hf
  refine lv_iconst (v := 0) hx hb dX4_farthestPlace_0 (by decide) ?_
  refine lv_istore_n (lv' := [(1, .int 0), (0, .ref (ad (14 + 3 * j)))]) hx hb dX4_farthestPlace_1 rfl hl (by decide) rfl (fun ls hl => ?_)
  refine lv_iconst (v := 0) hx hb dX4_farthestPlace_2 (by decide) ?_
  refine lv_istore_n (lv' := [(2, .int 0), (1, .int 0), (0, .ref (ad (14 + 3 * j)))]) hx hb dX4_farthestPlace_3 rfl hl (by decide) rfl (fun ls hl => ?_)
  exact w4_farthestPlace_1 C hr  FUEL j 0 0 hj hf _ _ X _ (lv_sub hl [2, 1, 0] rfl)
theorem ct4_farthestPlace {j : Nat} (hj : j < 13) {μ : Mem} {ν : Lem} {r : Int32} (hg : f4_farthestPlace μ j = some r) : CtI true yX4_farthestPlace cX4_farthestPlace 3 1 21 .int (fun ad => [.ref (ad (14 + 3 * j))]) μ ν r μ ν :=
  mkI (by decide) rfl (fun ad => Nat.le_of_ble_eq_true rfl) (fun p l e s m args below meth c D cy ad C hr X ls hl => w4_farthestPlace C hr j hj hg _ _ X _ hl)
theorem qX0_33 {p : Program} {l : Launch} {e : Env} {R : Room} {s : State} {m : MethodId} {args : Array Value} {below : List Frame} {meth : Method} {c : Code} {H : Heap} {locs : List Loc} {cells slots : Nat} {Q : State → Prop} {cc : ByteArray} {nL : Nat} {D : va_G} {cy : Nat → ClassId} {ad : Nat → Nat} {μ : Mem} {ν : Lem} {pc : Nat} {ls : Array Slot} {rest : List Value} {j : Nat} (hj : j < 13) {r : Int32} (hg : f4_farthestPlace μ j = some r) (C : Cx true p s m args meth c cc nL RX0 D cy ad) (X : Wd true D cy ad s.heap μ ν H locs) (hsz : ls.size = nL) (hrm : (rest.map fun v => v.category).sum ≤ 8) (hR : 1 + 1 ≤ R.frames ∧ 8 + (3 + 11) + 21 ≤ R.locals) (hcs : cells ≤ R.cells ∧ slots ≤ R.slots) (hd : decode cc pc = .ok (.invokevirtual 33, 3)) (kk : ∀ (H1 : Heap) (locs1 : List Loc), Wd true D cy ad s.heap μ ν H1 locs1 → narrow .int (.int r) = .int r → W p l e R s m args below meth c H1 locs1 cells slots Q (F0 m (pc + 3) ls (.int r :: rest))) : W p l e R s m args below meth c H locs cells slots Q (F0 m pc ls (.ref (ad (14 + 3 * j)) :: rest)) :=
  rCVI (As := []) (k := 14 + 3 * j) (ct4_farthestPlace hj hg) ok4 lX4_farthestPlace k_216 (sW hj) rfl rfl C X rfl hrm hsz hR hcs hd kk
set_option maxRecDepth 100000 in
set_option maxHeartbeats 4000000 in
theorem w0_farthestPlace_1 {p : Program} {l : Launch} {e : Env} {s : State} {m : MethodId} {args : Array Value} {below : List Frame} {meth : Method} {c : Code} {D : va_G} {cy : Nat → ClassId} {ad : Nat → Nat} {r : Int32} {μ : Mem} {ν : Lem} (C : Cx true p s m args meth c cX0_farthestPlace 3 RX0 D cy ad) (hr : meth.sig.returnType = some .int) : ∀ (n : Nat), ∀ (o : Nat) (x1 : Int32) (x2 : Int32) (ho : o < 2), f0_farthestPlace_1 μ n o x1 x2 = some r → ∀ (H : Heap) (locs : List Loc), Wd true D cy ad s.heap μ ν H locs → ∀ (ls : Array Slot), lv_has ls 3 [(0, .ref (ad (1 + o))), (1, .int x1), (2, .int x2)] → WI true p l e 2 43 s m args below meth c D cy ad .int r μ ν H locs (F0 m 4 ls []) := by
  have hx := C.1.1
  have hb := C.1.2.1
  have hown := C.1.2.2.2.1
  have hts := C.1.2.2.2.2
  intro n
  induction n with
  | zero =>
    intro o x1 x2 ho hf H locs X ls hl
    rw [f0_farthestPlace_1] at hf
    cases hf
  | succ n ih =>
    intro o x1 x2 ho hf H locs X ls hl
    rw [f0_farthestPlace_1] at hf
    refine lv_iload_n hx hb dX0_farthestPlace_4 rfl (lv_at hl 2 rfl) ?_
    refine lv_aload_n hx hb dX0_farthestPlace_5 rfl (lv_at hl 0 rfl) ?_
    refine gfX0_22 (o := o) ho rfl C X dX0_farthestPlace_6 ?_
    refine lv_icmp_ge (tgt := 32) hx hb dX0_farthestPlace_9 (by decide) (fun c9 => ?_) (fun c9 => ?_)
    · replace hf := ifp c9 hf
      refine lv_iload_n hx hb dX0_farthestPlace_32 rfl (lv_at hl 1 rfl) ?_
      exact retI C X hr rfl (Option.some.inj hf) rfl rfl dX0_farthestPlace_33
    · replace hf := ifn c9 hf
      refine lv_iload_n hx hb dX0_farthestPlace_12 rfl (lv_at hl 1 rfl) ?_
      refine lv_aload_n hx hb dX0_farthestPlace_13 rfl (lv_at hl 0 rfl) ?_
      refine gfX0_17 (o := o) ho rfl (k2 := (12 + o)) rfl C X dX0_farthestPlace_14 ?_
      refine lv_iload_n hx hb dX0_farthestPlace_17 rfl (lv_at hl 2 rfl) ?_
      obtain ⟨h18, hf⟩ := gd_e hf
      have hb18 : (6 * o + x2.toNatClampNeg) < 13 := by have := inb_lt h18; omega
      refine rAald (t := 0) (k' := (14 + 3 * (6 * o + x2.toNatClampNeg))) C X (sPw ho) rfl h18 (by omega) dX0_farthestPlace_18 ?_
      obtain ⟨r19, g19, hf⟩ := bd1_e hf
      refine qX0_33 (j := (6 * o + x2.toNatClampNeg)) hb18 g19 C X hl.1 ((Nat.le_of_ble_eq_true rfl)) ⟨(Nat.le_of_ble_eq_true rfl), (Nat.le_of_ble_eq_true rfl)⟩ ⟨Nat.zero_le _, Nat.zero_le _⟩ dX0_farthestPlace_19 (fun H locs X b19 => ?_)
      refine rMax C k_223 hl.1 (Nat.le_of_ble_eq_true rfl) (Nat.le_of_ble_eq_true rfl) ⟨Nat.zero_le _, Nat.zero_le _⟩ dX0_farthestPlace_22 ?_
      obtain ⟨v25, e25, hf⟩ := nm_e2 hf
      refine st_i e25 ?_
      refine lv_istore_n (lv' := [(1, .int v25), (0, .ref (ad (1 + o))), (2, .int x2)]) hx hb dX0_farthestPlace_25 rfl hl (by decide) rfl (fun ls hl => ?_)
      obtain ⟨v26, e26, hf⟩ := nm_e2 hf
      refine rIinc (lv' := [(2, .int v26), (1, .int v25), (0, .ref (ad (1 + o)))]) hx hb dX0_farthestPlace_26 hl (k := 2) rfl e26 rfl (by decide) rfl (fun ls hl => ?_)
      refine lv_goto (tgt := 4) hx hb dX0_farthestPlace_29 (by decide) ?_
      exact ih o v25 v26 ho hf _ _ X _ (lv_sub hl [2, 1, 0] rfl)
set_option maxRecDepth 100000 in
set_option maxHeartbeats 4000000 in
theorem w0_farthestPlace {p : Program} {l : Launch} {e : Env} {s : State} {m : MethodId} {args : Array Value} {below : List Frame} {meth : Method} {c : Code} {D : va_G} {cy : Nat → ClassId} {ad : Nat → Nat} {r : Int32} {μ : Mem} {ν : Lem} (C : Cx true p s m args meth c cX0_farthestPlace 3 RX0 D cy ad) (hr : meth.sig.returnType = some .int) : ∀ (o : Nat) (ho : o < 2), f0_farthestPlace μ o = some r → ∀ (H : Heap) (locs : List Loc), Wd true D cy ad s.heap μ ν H locs → ∀ (ls : Array Slot), lv_has ls 3 [(0, .ref (ad (1 + o)))] → WI true p l e 2 43 s m args below meth c D cy ad .int r μ ν H locs (F0 m 0 ls []) := by
  have hx := C.1.1
  have hb := C.1.2.1
  have hown := C.1.2.2.2.1
  have hts := C.1.2.2.2.2
  intro o ho hf H locs X ls hl
  unfold f0_farthestPlace at hf
  refine lv_iconst (v := 0) hx hb dX0_farthestPlace_0 (by decide) ?_
  refine lv_istore_n (lv' := [(1, .int 0), (0, .ref (ad (1 + o)))]) hx hb dX0_farthestPlace_1 rfl hl (by decide) rfl (fun ls hl => ?_)
  refine lv_iconst (v := 0) hx hb dX0_farthestPlace_2 (by decide) ?_
  refine lv_istore_n (lv' := [(2, .int 0), (1, .int 0), (0, .ref (ad (1 + o)))]) hx hb dX0_farthestPlace_3 rfl hl (by decide) rfl (fun ls hl => ?_)
  exact w0_farthestPlace_1 C hr  FUEL o 0 0 ho hf _ _ X _ (lv_sub hl [2, 1, 0] rfl)
theorem ct0_farthestPlace {o : Nat} (ho : o < 2) {μ : Mem} {ν : Lem} {r : Int32} (hg : f0_farthestPlace μ o = some r) : CtI true yX0_farthestPlace cX0_farthestPlace 3 2 43 .int (fun ad => [.ref (ad (1 + o))]) μ ν r μ ν :=
  mkI (by decide) rfl (fun ad => Nat.le_of_ble_eq_true rfl) (fun p l e s m args below meth c D cy ad C hr X ls hl => w0_farthestPlace C hr o ho hg _ _ X _ hl)
theorem qX5_78 {p : Program} {l : Launch} {e : Env} {R : Room} {s : State} {m : MethodId} {args : Array Value} {below : List Frame} {meth : Method} {c : Code} {H : Heap} {locs : List Loc} {cells slots : Nat} {Q : State → Prop} {cc : ByteArray} {nL : Nat} {D : va_G} {cy : Nat → ClassId} {ad : Nat → Nat} {μ : Mem} {ν : Lem} {pc : Nat} {ls : Array Slot} {rest : List Value} {o : Nat} (ho : o < 2) {r : Int32} (hg : f0_farthestPlace μ o = some r) (C : Cx true p s m args meth c cc nL RX5 D cy ad) (X : Wd true D cy ad s.heap μ ν H locs) (hsz : ls.size = nL) (hrm : (rest.map fun v => v.category).sum ≤ 8) (hR : 2 + 1 ≤ R.frames ∧ 8 + (3 + 11) + 43 ≤ R.locals) (hcs : cells ≤ R.cells ∧ slots ≤ R.slots) (hd : decode cc pc = .ok (.invokevirtual 78, 3)) (kk : ∀ (H1 : Heap) (locs1 : List Loc), Wd true D cy ad s.heap μ ν H1 locs1 → narrow .int (.int r) = .int r → W p l e R s m args below meth c H1 locs1 cells slots Q (F0 m (pc + 3) ls (.int r :: rest))) : W p l e R s m args below meth c H locs cells slots Q (F0 m pc ls (.ref (ad (1 + o)) :: rest)) :=
  rCVI (As := []) (k := 1 + o) (ct0_farthestPlace ho hg) ok0 lX0_farthestPlace k_212 (sP ho) rfl rfl C X rfl hrm hsz hR hcs hd kk
set_option maxRecDepth 100000 in
set_option maxHeartbeats 4000000 in
theorem w1_begin_1 {p : Program} {l : Launch} {e : Env} {s : State} {m : MethodId} {args : Array Value} {below : List Frame} {meth : Method} {c : Code} {D : va_G} {cy : Nat → ClassId} {ad : Nat → Nat} {μ1 : Mem} {ν : Lem} (C : Cx true p s m args meth c cX1_begin 4 RX1 D cy ad) (hr : meth.sig.returnType = none) : ∀ (n : Nat), ∀ (μ : Mem) (q : Nat) (x3 : Int32) (hq : q < 4), f1_begin_1 n μ q x3 = some μ1 → ∀ (H : Heap) (locs : List Loc), Wd true D cy ad s.heap μ ν H locs → ∀ (ls : Array Slot), lv_has ls 4 [(0, .ref (ad (71 + 2 * q))), (3, .int x3)] → WV true p l e 1 21 s m args below meth c D cy ad μ1 ν H locs (F0 m 17 ls []) := by
  have hx := C.1.1
  have hb := C.1.2.1
  have hown := C.1.2.2.2.1
  have hts := C.1.2.2.2.2
  intro n
  induction n with
  | zero =>
    intro μ q x3 hq hf H locs X ls hl
    rw [f1_begin_1] at hf
    cases hf
  | succ n ih =>
    intro μ q x3 hq hf H locs X ls hl
    rw [f1_begin_1] at hf
    refine lv_iload_n hx hb dX1_begin_17 rfl (lv_at hl 1 rfl) ?_
    refine lv_aload_n hx hb dX1_begin_18 rfl (lv_at hl 0 rfl) ?_
    refine gfX1_25 (q := q) hq rfl C X dX1_begin_19 ?_
    refine lv_icmp_ge (tgt := 38) hx hb dX1_begin_22 (by decide) (fun c22 => ?_) (fun c22 => ?_)
    · replace hf := ifp c22 hf
      exact retV C X hr (Option.some.inj hf) rfl dX1_begin_38
    · replace hf := ifn c22 hf
      refine lv_aload_n hx hb dX1_begin_25 rfl (lv_at hl 0 rfl) ?_
      refine gfX1_15 (q := q) hq rfl (k2 := (72 + 2 * q)) rfl C X dX1_begin_26 ?_
      refine lv_iload_n hx hb dX1_begin_29 rfl (lv_at hl 1 rfl) ?_
      refine lv_iconst (v := 0) hx hb dX1_begin_30 (by decide) ?_
      obtain ⟨h31, hf⟩ := gd_e hf
      obtain ⟨μ31, e31, hf⟩ := nm_e2 hf
      refine rIast2 C X (sSi hq) h31 e31 dX1_begin_31 (fun H locs X => ?_)
      obtain ⟨v32, e32, hf⟩ := nm_e2 hf
      refine rIinc (lv' := [(3, .int v32), (0, .ref (ad (71 + 2 * q)))]) hx hb dX1_begin_32 hl (k := 1) rfl e32 rfl (by decide) rfl (fun ls hl => ?_)
      refine lv_goto (tgt := 17) hx hb dX1_begin_35 (by decide) ?_
      exact ih μ31 q v32 hq hf _ _ X _ (lv_sub hl [1, 0] rfl)
set_option maxRecDepth 100000 in
set_option maxHeartbeats 4000000 in
theorem w1_begin {p : Program} {l : Launch} {e : Env} {s : State} {m : MethodId} {args : Array Value} {below : List Frame} {meth : Method} {c : Code} {D : va_G} {cy : Nat → ClassId} {ad : Nat → Nat} {μ1 : Mem} {ν : Lem} (C : Cx true p s m args meth c cX1_begin 4 RX1 D cy ad) (hr : meth.sig.returnType = none) : ∀ (μ : Mem) (q : Nat) (x1 : Int32) (x2 : Int32) (hq : q < 4), f1_begin μ q x1 x2 = some μ1 → ∀ (H : Heap) (locs : List Loc), Wd true D cy ad s.heap μ ν H locs → ∀ (ls : Array Slot), lv_has ls 4 [(0, .ref (ad (71 + 2 * q))), (1, .int x1), (2, .int x2)] → WV true p l e 1 21 s m args below meth c D cy ad μ1 ν H locs (F0 m 0 ls []) := by
  have hx := C.1.1
  have hb := C.1.2.1
  have hown := C.1.2.2.2.1
  have hts := C.1.2.2.2.2
  intro μ q x1 x2 hq hf H locs X ls hl
  unfold f1_begin at hf
  refine lv_aload_n hx hb dX1_begin_0 rfl (lv_at hl 0 rfl) ?_
  refine lv_iload_n hx hb dX1_begin_1 rfl (lv_at hl 1 rfl) ?_
  obtain ⟨μ2, e2, hf⟩ := nm_e2 hf
  refine pfX1_9 (q := q) hq rfl e2 C X dX1_begin_2 (fun H locs X => ?_)
  refine lv_aload_n hx hb dX1_begin_5 rfl (lv_at hl 0 rfl) ?_
  refine lv_iload_n hx hb dX1_begin_6 rfl (lv_at hl 2 rfl) ?_
  refine lv_bipush (v := 40) hx hb dX1_begin_7 (by decide) ?_
  refine rMin C k_737 hl.1 (Nat.le_of_ble_eq_true rfl) (Nat.le_of_ble_eq_true rfl) ⟨Nat.zero_le _, Nat.zero_le _⟩ dX1_begin_9 ?_
  obtain ⟨μ12, e12, hf⟩ := nm_e2 hf
  refine pfX1_25 (q := q) hq rfl e12 C X dX1_begin_12 (fun H locs X => ?_)
  refine lv_iconst (v := 0) hx hb dX1_begin_15 (by decide) ?_
  refine lv_istore_n (lv' := [(3, .int 0), (0, .ref (ad (71 + 2 * q))), (1, .int x1), (2, .int x2)]) hx hb dX1_begin_16 rfl hl (by decide) rfl (fun ls hl => ?_)
  exact w1_begin_1 C hr  FUEL μ12 q 0 hq hf _ _ X _ (lv_sub hl [1, 0] rfl)
theorem ct1_begin {q : Nat} {x1 : Int32} {x2 : Int32} (hq : q < 4) {μ : Mem} {ν : Lem} {μ1 : Mem} (hg : f1_begin μ q x1 x2 = some μ1) : CtV true yX1_begin cX1_begin 4 1 21 (fun ad => [.ref (ad (71 + 2 * q)), .int x1, .int x2]) μ ν μ1 ν :=
  mkV (by decide) rfl (fun ad => Nat.le_of_ble_eq_true rfl) (fun p l e s m args below meth c D cy ad C hr X ls hl => w1_begin C hr μ q x1 x2 hq hg _ _ X _ hl)
theorem qX5_309 {p : Program} {l : Launch} {e : Env} {R : Room} {s : State} {m : MethodId} {args : Array Value} {below : List Frame} {meth : Method} {c : Code} {H : Heap} {locs : List Loc} {cells slots : Nat} {Q : State → Prop} {cc : ByteArray} {nL : Nat} {D : va_G} {cy : Nat → ClassId} {ad : Nat → Nat} {μ : Mem} {ν : Lem} {pc : Nat} {ls : Array Slot} {rest : List Value} {q : Nat} {x1 : Int32} {x2 : Int32} (hq : q < 4) {μ1 : Mem} (hg : f1_begin μ q x1 x2 = some μ1) (C : Cx true p s m args meth c cc nL RX5 D cy ad) (X : Wd true D cy ad s.heap μ ν H locs) (hsz : ls.size = nL) (hrm : (rest.map fun v => v.category).sum ≤ 8) (hR : 1 + 1 ≤ R.frames ∧ 8 + (4 + 11) + 21 ≤ R.locals) (hcs : cells ≤ R.cells ∧ slots ≤ R.slots) (hd : decode cc pc = .ok (.invokevirtual 309, 3)) (kk : ∀ (H1 : Heap) (locs1 : List Loc), Wd true D cy ad s.heap μ1 ν H1 locs1 → W p l e R s m args below meth c H1 locs1 cells slots Q (F0 m (pc + 3) ls rest)) : W p l e R s m args below meth c H locs cells slots Q (F0 m pc ls (.int x2 :: .int x1 :: .ref (ad (71 + 2 * q)) :: rest)) :=
  rCVV (As := [.int x1, .int x2]) (k := 71 + 2 * q) (ct1_begin hq hg) ok1 lX1_begin k_733 (sS hq) rfl rfl C X rfl hrm hsz hR hcs hd kk
set_option maxRecDepth 100000 in
set_option maxHeartbeats 4000000 in
theorem w1_isMissing {p : Program} {l : Launch} {e : Env} {s : State} {m : MethodId} {args : Array Value} {below : List Frame} {meth : Method} {c : Code} {D : va_G} {cy : Nat → ClassId} {ad : Nat → Nat} {r : Int32} {μ : Mem} {ν : Lem} (C : Cx true p s m args meth c cX1_isMissing 1 RX1 D cy ad) (hr : meth.sig.returnType = some .boolean) : ∀ (q : Nat) (hq : q < 4), f1_isMissing μ q = r → ∀ (H : Heap) (locs : List Loc), Wd true D cy ad s.heap μ ν H locs → ∀ (ls : Array Slot), lv_has ls 1 [(0, .ref (ad (71 + 2 * q)))] → WI true p l e 0 0 s m args below meth c D cy ad .boolean r μ ν H locs (F0 m 0 ls []) := by
  have hx := C.1.1
  have hb := C.1.2.1
  have hown := C.1.2.2.2.1
  have hts := C.1.2.2.2.2
  intro q hq hf H locs X ls hl
  unfold f1_isMissing at hf
  refine lv_aload_n hx hb dX1_isMissing_0 rfl (lv_at hl 0 rfl) ?_
  refine gfX1_9 (q := q) hq rfl C X dX1_isMissing_1 ?_
  refine lv_iconst (v := (-1)) hx hb dX1_isMissing_4 (by decide) ?_
  refine lv_icmp_ne (tgt := 12) hx hb dX1_isMissing_5 (by decide) (fun c5 => ?_) (fun c5 => ?_)
  · replace hf := ifn c5 hf
    refine lv_iconst (v := 0) hx hb dX1_isMissing_12 (by decide) ?_
    exact retI C X hr rfl hf rfl rfl dX1_isMissing_13
  · replace hf := ifp c5 hf
    refine lv_iconst (v := 1) hx hb dX1_isMissing_8 (by decide) ?_
    refine lv_goto (tgt := 13) hx hb dX1_isMissing_9 (by decide) ?_
    exact retI C X hr rfl hf rfl rfl dX1_isMissing_13
theorem ct1_isMissing {q : Nat} (hq : q < 4) {μ : Mem} {ν : Lem} {r : Int32} (hg : f1_isMissing μ q = r) : CtI true yX1_isMissing cX1_isMissing 1 0 0 .boolean (fun ad => [.ref (ad (71 + 2 * q))]) μ ν r μ ν :=
  mkI (by decide) rfl (fun ad => Nat.le_of_ble_eq_true rfl) (fun p l e s m args below meth c D cy ad C hr X ls hl => w1_isMissing C hr q hq hg _ _ X _ hl)
theorem qX5_230 {p : Program} {l : Launch} {e : Env} {R : Room} {s : State} {m : MethodId} {args : Array Value} {below : List Frame} {meth : Method} {c : Code} {H : Heap} {locs : List Loc} {cells slots : Nat} {Q : State → Prop} {cc : ByteArray} {nL : Nat} {D : va_G} {cy : Nat → ClassId} {ad : Nat → Nat} {μ : Mem} {ν : Lem} {pc : Nat} {ls : Array Slot} {rest : List Value} {q : Nat} (hq : q < 4) {r : Int32} (hg : f1_isMissing μ q = r) (C : Cx true p s m args meth c cc nL RX5 D cy ad) (X : Wd true D cy ad s.heap μ ν H locs) (hsz : ls.size = nL) (hrm : (rest.map fun v => v.category).sum ≤ 8) (hR : 0 + 1 ≤ R.frames ∧ 8 + (1 + 11) + 0 ≤ R.locals) (hcs : cells ≤ R.cells ∧ slots ≤ R.slots) (hd : decode cc pc = .ok (.invokevirtual 230, 3)) (kk : ∀ (H1 : Heap) (locs1 : List Loc), Wd true D cy ad s.heap μ ν H1 locs1 → narrow .boolean (.int r) = .int r → W p l e R s m args below meth c H1 locs1 cells slots Q (F0 m (pc + 3) ls (.int r :: rest))) : W p l e R s m args below meth c H locs cells slots Q (F0 m pc ls (.ref (ad (71 + 2 * q)) :: rest)) :=
  rCVI (As := []) (k := 71 + 2 * q) (ct1_isMissing hq hg) ok1 lX1_isMissing k_607 (sS hq) rfl rfl C X rfl hrm hsz hR hcs hd kk
set_option maxRecDepth 100000 in
set_option maxHeartbeats 4000000 in
theorem w1_holds {p : Program} {l : Launch} {e : Env} {s : State} {m : MethodId} {args : Array Value} {below : List Frame} {meth : Method} {c : Code} {D : va_G} {cy : Nat → ClassId} {ad : Nat → Nat} {r : Int32} {μ : Mem} {ν : Lem} (C : Cx true p s m args meth c cX1_holds 3 RX1 D cy ad) (hr : meth.sig.returnType = some .boolean) : ∀ (q : Nat) (x1 : Int32) (x2 : Int32) (hq : q < 4), f1_holds μ q x1 x2 = r → ∀ (H : Heap) (locs : List Loc), Wd true D cy ad s.heap μ ν H locs → ∀ (ls : Array Slot), lv_has ls 3 [(0, .ref (ad (71 + 2 * q))), (1, .int x1), (2, .int x2)] → WI true p l e 0 0 s m args below meth c D cy ad .boolean r μ ν H locs (F0 m 0 ls []) := by
  have hx := C.1.1
  have hb := C.1.2.1
  have hown := C.1.2.2.2.1
  have hts := C.1.2.2.2.2
  intro q x1 x2 hq hf H locs X ls hl
  unfold f1_holds at hf
  refine lv_iload_n hx hb dX1_holds_0 rfl (lv_at hl 1 rfl) ?_
  refine lv_if_lt (tgt := 30) hx hb dX1_holds_1 (by decide) (fun c1 => ?_) (fun c1 => ?_)
  · replace hf := ifp c1 hf
    refine lv_iconst (v := 0) hx hb dX1_holds_30 (by decide) ?_
    exact retI C X hr rfl hf rfl rfl dX1_holds_31
  · replace hf := ifn c1 hf
    refine lv_iload_n hx hb dX1_holds_4 rfl (lv_at hl 2 rfl) ?_
    refine lv_if_lt (tgt := 30) hx hb dX1_holds_5 (by decide) (fun c5 => ?_) (fun c5 => ?_)
    · replace hf := ifp c5 hf
      refine lv_iconst (v := 0) hx hb dX1_holds_30 (by decide) ?_
      exact retI C X hr rfl hf rfl rfl dX1_holds_31
    · replace hf := ifn c5 hf
      refine lv_iload_n hx hb dX1_holds_8 rfl (lv_at hl 2 rfl) ?_
      refine lv_aload_n hx hb dX1_holds_9 rfl (lv_at hl 0 rfl) ?_
      refine gfX1_25 (q := q) hq rfl C X dX1_holds_10 ?_
      refine lv_icmp_gt (tgt := 30) hx hb dX1_holds_13 (by decide) (fun c13 => ?_) (fun c13 => ?_)
      · replace hf := ifp c13 hf
        refine lv_iconst (v := 0) hx hb dX1_holds_30 (by decide) ?_
        exact retI C X hr rfl hf rfl rfl dX1_holds_31
      · replace hf := ifn c13 hf
        refine lv_iload_n hx hb dX1_holds_16 rfl (lv_at hl 1 rfl) ?_
        refine lv_aload_n hx hb dX1_holds_17 rfl (lv_at hl 0 rfl) ?_
        refine gfX1_25 (q := q) hq rfl C X dX1_holds_18 ?_
        refine lv_iload_n hx hb dX1_holds_21 rfl (lv_at hl 2 rfl) ?_
        refine lv_isub hx hb dX1_holds_22 ?_
        refine lv_icmp_gt (tgt := 30) hx hb dX1_holds_23 (by decide) (fun c23 => ?_) (fun c23 => ?_)
        · replace hf := ifp c23 hf
          refine lv_iconst (v := 0) hx hb dX1_holds_30 (by decide) ?_
          exact retI C X hr rfl hf rfl rfl dX1_holds_31
        · replace hf := ifn c23 hf
          refine lv_iconst (v := 1) hx hb dX1_holds_26 (by decide) ?_
          refine lv_goto (tgt := 31) hx hb dX1_holds_27 (by decide) ?_
          exact retI C X hr rfl hf rfl rfl dX1_holds_31
theorem ct1_holds {q : Nat} {x1 : Int32} {x2 : Int32} (hq : q < 4) {μ : Mem} {ν : Lem} {r : Int32} (hg : f1_holds μ q x1 x2 = r) : CtI true yX1_holds cX1_holds 3 0 0 .boolean (fun ad => [.ref (ad (71 + 2 * q)), .int x1, .int x2]) μ ν r μ ν :=
  mkI (by decide) rfl (fun ad => Nat.le_of_ble_eq_true rfl) (fun p l e s m args below meth c D cy ad C hr X ls hl => w1_holds C hr q x1 x2 hq hg _ _ X _ hl)
theorem qX5_313 {p : Program} {l : Launch} {e : Env} {R : Room} {s : State} {m : MethodId} {args : Array Value} {below : List Frame} {meth : Method} {c : Code} {H : Heap} {locs : List Loc} {cells slots : Nat} {Q : State → Prop} {cc : ByteArray} {nL : Nat} {D : va_G} {cy : Nat → ClassId} {ad : Nat → Nat} {μ : Mem} {ν : Lem} {pc : Nat} {ls : Array Slot} {rest : List Value} {q : Nat} {x1 : Int32} {x2 : Int32} (hq : q < 4) {r : Int32} (hg : f1_holds μ q x1 x2 = r) (C : Cx true p s m args meth c cc nL RX5 D cy ad) (X : Wd true D cy ad s.heap μ ν H locs) (hsz : ls.size = nL) (hrm : (rest.map fun v => v.category).sum ≤ 8) (hR : 0 + 1 ≤ R.frames ∧ 8 + (3 + 11) + 0 ≤ R.locals) (hcs : cells ≤ R.cells ∧ slots ≤ R.slots) (hd : decode cc pc = .ok (.invokevirtual 313, 3)) (kk : ∀ (H1 : Heap) (locs1 : List Loc), Wd true D cy ad s.heap μ ν H1 locs1 → narrow .boolean (.int r) = .int r → W p l e R s m args below meth c H1 locs1 cells slots Q (F0 m (pc + 3) ls (.int r :: rest))) : W p l e R s m args below meth c H locs cells slots Q (F0 m pc ls (.int x2 :: .int x1 :: .ref (ad (71 + 2 * q)) :: rest)) :=
  rCVI (As := [.int x1, .int x2]) (k := 71 + 2 * q) (ct1_holds hq hg) ok1 lX1_holds k_745 (sS hq) rfl rfl C X rfl hrm hsz hR hcs hd kk
set_option maxRecDepth 100000 in
set_option maxHeartbeats 4000000 in
theorem w1_put {p : Program} {l : Launch} {e : Env} {s : State} {m : MethodId} {args : Array Value} {below : List Frame} {meth : Method} {c : Code} {D : va_G} {cy : Nat → ClassId} {ad : Nat → Nat} {μ1 : Mem} {ν : Lem} (C : Cx true p s m args meth c cX1_put 3 RX1 D cy ad) (hr : meth.sig.returnType = none) : ∀ (μ : Mem) (q : Nat) (x1 : Int32) (x2 : Int32) (hq : q < 4), f1_put μ q x1 x2 = some μ1 → ∀ (H : Heap) (locs : List Loc), Wd true D cy ad s.heap μ ν H locs → ∀ (ls : Array Slot), lv_has ls 3 [(0, .ref (ad (71 + 2 * q))), (1, .int x1), (2, .int x2)] → WV true p l e 0 0 s m args below meth c D cy ad μ1 ν H locs (F0 m 0 ls []) := by
  have hx := C.1.1
  have hb := C.1.2.1
  have hown := C.1.2.2.2.1
  have hts := C.1.2.2.2.2
  intro μ q x1 x2 hq hf H locs X ls hl
  unfold f1_put at hf
  refine lv_aload_n hx hb dX1_put_0 rfl (lv_at hl 0 rfl) ?_
  refine gfX1_15 (q := q) hq rfl (k2 := (72 + 2 * q)) rfl C X dX1_put_1 ?_
  refine lv_iload_n hx hb dX1_put_4 rfl (lv_at hl 1 rfl) ?_
  refine lv_aload_n hx hb dX1_put_5 rfl (lv_at hl 0 rfl) ?_
  refine gfX1_9 (q := q) hq rfl C X dX1_put_6 ?_
  refine lv_if_ne (tgt := 17) hx hb dX1_put_9 (by decide) (fun c9 => ?_) (fun c9 => ?_)
  · replace hf := ifn c9 hf
    refine lv_aload_n hx hb dX1_put_17 rfl (lv_at hl 0 rfl) ?_
    refine gfX1_9 (q := q) hq rfl C X dX1_put_18 ?_
    refine lv_iconst (v := 1) hx hb dX1_put_21 (by decide) ?_
    refine lv_icmp_ne (tgt := 30) hx hb dX1_put_22 (by decide) (fun c22 => ?_) (fun c22 => ?_)
    · replace hf := ifn c22 hf
      refine lv_iload_n hx hb dX1_put_30 rfl (lv_at hl 2 rfl) ?_
      obtain ⟨h31, hf⟩ := gd_e hf
      obtain ⟨μ31, e31, hf⟩ := nm_e2 hf
      refine rIast2 C X (sSi hq) h31 e31 dX1_put_31 (fun H locs X => ?_)
      exact retV C X hr (Option.some.inj hf) rfl dX1_put_32
    · replace hf := ifp c22 hf
      refine lv_iload_n hx hb dX1_put_25 rfl (lv_at hl 2 rfl) ?_
      refine lv_i2s hx hb dX1_put_26 rfl ?_
      refine lv_goto (tgt := 31) hx hb dX1_put_27 (by decide) ?_
      obtain ⟨h31, hf⟩ := gd_e hf
      obtain ⟨μ31, e31, hf⟩ := nm_e2 hf
      refine rIast2 C X (sSi hq) h31 e31 dX1_put_31 (fun H locs X => ?_)
      exact retV C X hr (Option.some.inj hf) rfl dX1_put_32
  · replace hf := ifp c9 hf
    refine lv_iload_n hx hb dX1_put_12 rfl (lv_at hl 2 rfl) ?_
    refine lv_i2b hx hb dX1_put_13 rfl ?_
    refine lv_goto (tgt := 31) hx hb dX1_put_14 (by decide) ?_
    obtain ⟨h31, hf⟩ := gd_e hf
    obtain ⟨μ31, e31, hf⟩ := nm_e2 hf
    refine rIast2 C X (sSi hq) h31 e31 dX1_put_31 (fun H locs X => ?_)
    exact retV C X hr (Option.some.inj hf) rfl dX1_put_32
theorem ct1_put {q : Nat} {x1 : Int32} {x2 : Int32} (hq : q < 4) {μ : Mem} {ν : Lem} {μ1 : Mem} (hg : f1_put μ q x1 x2 = some μ1) : CtV true yX1_put cX1_put 3 0 0 (fun ad => [.ref (ad (71 + 2 * q)), .int x1, .int x2]) μ ν μ1 ν :=
  mkV (by decide) rfl (fun ad => Nat.le_of_ble_eq_true rfl) (fun p l e s m args below meth c D cy ad C hr X ls hl => w1_put C hr μ q x1 x2 hq hg _ _ X _ hl)
theorem qX5_316 {p : Program} {l : Launch} {e : Env} {R : Room} {s : State} {m : MethodId} {args : Array Value} {below : List Frame} {meth : Method} {c : Code} {H : Heap} {locs : List Loc} {cells slots : Nat} {Q : State → Prop} {cc : ByteArray} {nL : Nat} {D : va_G} {cy : Nat → ClassId} {ad : Nat → Nat} {μ : Mem} {ν : Lem} {pc : Nat} {ls : Array Slot} {rest : List Value} {q : Nat} {x1 : Int32} {x2 : Int32} (hq : q < 4) {μ1 : Mem} (hg : f1_put μ q x1 x2 = some μ1) (C : Cx true p s m args meth c cc nL RX5 D cy ad) (X : Wd true D cy ad s.heap μ ν H locs) (hsz : ls.size = nL) (hrm : (rest.map fun v => v.category).sum ≤ 8) (hR : 0 + 1 ≤ R.frames ∧ 8 + (3 + 11) + 0 ≤ R.locals) (hcs : cells ≤ R.cells ∧ slots ≤ R.slots) (hd : decode cc pc = .ok (.invokevirtual 316, 3)) (kk : ∀ (H1 : Heap) (locs1 : List Loc), Wd true D cy ad s.heap μ1 ν H1 locs1 → W p l e R s m args below meth c H1 locs1 cells slots Q (F0 m (pc + 3) ls rest)) : W p l e R s m args below meth c H locs cells slots Q (F0 m pc ls (.int x2 :: .int x1 :: .ref (ad (71 + 2 * q)) :: rest)) :=
  rCVV (As := [.int x1, .int x2]) (k := 71 + 2 * q) (ct1_put hq hg) ok1 lX1_put k_749 (sS hq) rfl rfl C X rfl hrm hsz hR hcs hd kk
set_option maxRecDepth 100000 in
set_option maxHeartbeats 4000000 in
theorem w5_rest {p : Program} {l : Launch} {e : Env} {s : State} {m : MethodId} {args : Array Value} {below : List Frame} {meth : Method} {c : Code} {D : va_G} {cy : Nat → ClassId} {ad : Nat → Nat} {r : Int32} {μ : Mem} {ν : Lem} (C : Cx true p s m args meth c cX5_rest 2 RX5 D cy ad) (hr : meth.sig.returnType = some .int) : ∀ (x0 : Int32) (x1 : Int32), f5_rest x0 x1 = some r → ∀ (H : Heap) (locs : List Loc), Wd true D cy ad s.heap μ ν H locs → ∀ (ls : Array Slot), lv_has ls 2 [(0, .int x0), (1, .int x1)] → WI true p l e 0 0 s m args below meth c D cy ad .int r μ ν H locs (F0 m 0 ls []) := by
  have hx := C.1.1
  have hb := C.1.2.1
  have hown := C.1.2.2.2.1
  have hts := C.1.2.2.2.2
  intro x0 x1 hf H locs X ls hl
  unfold f5_rest at hf
  refine lv_iload_n hx hb dX5_rest_0 rfl (lv_at hl 1 rfl) ?_
  refine lv_iconst (v := 1) hx hb dX5_rest_1 (by decide) ?_
  refine lv_icmp_ge (tgt := 9) hx hb dX5_rest_2 (by decide) (fun c2 => ?_) (fun c2 => ?_)
  · replace hf := ifp c2 hf
    refine lv_iload_n hx hb dX5_rest_9 rfl (lv_at hl 0 rfl) ?_
    refine lv_iload_n hx hb dX5_rest_10 rfl (lv_at hl 1 rfl) ?_
    obtain ⟨h11, hf⟩ := gd_e hf
    refine rIrem hx hb dX5_rest_11 h11 ?_
    exact retI C X hr rfl (Option.some.inj hf) rfl rfl dX5_rest_12
  · replace hf := ifn c2 hf
    refine lv_iconst (v := 0) hx hb dX5_rest_5 (by decide) ?_
    refine lv_goto (tgt := 12) hx hb dX5_rest_6 (by decide) ?_
    exact retI C X hr rfl (Option.some.inj hf) rfl rfl dX5_rest_12
theorem ct5_rest {x0 : Int32} {x1 : Int32} {μ : Mem} {ν : Lem} {r : Int32} (hg : f5_rest x0 x1 = some r) : CtI true yX5_rest cX5_rest 2 0 0 .int (fun ad => [.int x0, .int x1]) μ ν r μ ν :=
  mkI (by decide) rfl (fun ad => Nat.le_of_ble_eq_true rfl) (fun p l e s m args below meth c D cy ad C hr X ls hl => w5_rest C hr x0 x1 hg _ _ X _ hl)
theorem qX4_58 {p : Program} {l : Launch} {e : Env} {R : Room} {s : State} {m : MethodId} {args : Array Value} {below : List Frame} {meth : Method} {c : Code} {H : Heap} {locs : List Loc} {cells slots : Nat} {Q : State → Prop} {cc : ByteArray} {nL : Nat} {D : va_G} {cy : Nat → ClassId} {ad : Nat → Nat} {μ : Mem} {ν : Lem} {pc : Nat} {ls : Array Slot} {rest : List Value} {x0 : Int32} {x1 : Int32} {r : Int32} (hg : f5_rest x0 x1 = some r) (C : Cx true p s m args meth c cc nL RX4 D cy ad) (X : Wd true D cy ad s.heap μ ν H locs) (hsz : ls.size = nL) (hrm : (rest.map fun v => v.category).sum ≤ 8) (hR : 0 + 1 ≤ R.frames ∧ 8 + (2 + 11) + 0 ≤ R.locals) (hcs : cells ≤ R.cells ∧ slots ≤ R.slots) (hd : decode cc pc = .ok (.invokestatic 58, 3)) (kk : ∀ (H1 : Heap) (locs1 : List Loc), Wd true D cy ad s.heap μ ν H1 locs1 → narrow .int (.int r) = .int r → W p l e R s m args below meth c H1 locs1 cells slots Q (F0 m (pc + 3) ls (.int r :: rest))) : W p l e R s m args below meth c H locs cells slots Q (F0 m pc ls (.int x1 :: .int x0 :: rest)) :=
  rCSIN (As := [.int x0, .int x1]) (ct5_rest hg) lX5_rest (nk_19) rfl rfl C X rfl hrm hsz hR hcs hd kk
theorem qX1_28 {p : Program} {l : Launch} {e : Env} {R : Room} {s : State} {m : MethodId} {args : Array Value} {below : List Frame} {meth : Method} {c : Code} {H : Heap} {locs : List Loc} {cells slots : Nat} {Q : State → Prop} {cc : ByteArray} {nL : Nat} {D : va_G} {cy : Nat → ClassId} {ad : Nat → Nat} {μ : Mem} {ν : Lem} {pc : Nat} {ls : Array Slot} {rest : List Value} {x0 : Int32} {x1 : Int32} {r : Int32} (hg : f5_rest x0 x1 = some r) (C : Cx true p s m args meth c cc nL RX1 D cy ad) (X : Wd true D cy ad s.heap μ ν H locs) (hsz : ls.size = nL) (hrm : (rest.map fun v => v.category).sum ≤ 8) (hR : 0 + 1 ≤ R.frames ∧ 8 + (2 + 11) + 0 ≤ R.locals) (hcs : cells ≤ R.cells ∧ slots ≤ R.slots) (hd : decode cc pc = .ok (.invokestatic 28, 3)) (kk : ∀ (H1 : Heap) (locs1 : List Loc), Wd true D cy ad s.heap μ ν H1 locs1 → narrow .int (.int r) = .int r → W p l e R s m args below meth c H1 locs1 cells slots Q (F0 m (pc + 3) ls (.int r :: rest))) : W p l e R s m args below meth c H locs cells slots Q (F0 m pc ls (.int x1 :: .int x0 :: rest)) :=
  rCSIN (As := [.int x0, .int x1]) (ct5_rest hg) lX5_rest (nk_21) rfl rfl C X rfl hrm hsz hR hcs hd kk
theorem qX5_295 {p : Program} {l : Launch} {e : Env} {R : Room} {s : State} {m : MethodId} {args : Array Value} {below : List Frame} {meth : Method} {c : Code} {H : Heap} {locs : List Loc} {cells slots : Nat} {Q : State → Prop} {cc : ByteArray} {nL : Nat} {D : va_G} {cy : Nat → ClassId} {ad : Nat → Nat} {μ : Mem} {ν : Lem} {pc : Nat} {ls : Array Slot} {rest : List Value} {x0 : Int32} {x1 : Int32} {r : Int32} (hg : f5_rest x0 x1 = some r) (C : Cx true p s m args meth c cc nL RX5 D cy ad) (X : Wd true D cy ad s.heap μ ν H locs) (hsz : ls.size = nL) (hrm : (rest.map fun v => v.category).sum ≤ 8) (hR : 0 + 1 ≤ R.frames ∧ 8 + (2 + 11) + 0 ≤ R.locals) (hcs : cells ≤ R.cells ∧ slots ≤ R.slots) (hd : decode cc pc = .ok (.invokestatic 295, 3)) (kk : ∀ (H1 : Heap) (locs1 : List Loc), Wd true D cy ad s.heap μ ν H1 locs1 → narrow .int (.int r) = .int r → W p l e R s m args below meth c H1 locs1 cells slots Q (F0 m (pc + 3) ls (.int r :: rest))) : W p l e R s m args below meth c H locs cells slots Q (F0 m pc ls (.int x1 :: .int x0 :: rest)) :=
  rCSI (As := [.int x0, .int x1]) (ct5_rest hg) lX5_rest k_698 rfl rfl C X rfl hrm hsz hR hcs hd kk
set_option maxRecDepth 100000 in
set_option maxHeartbeats 4000000 in
theorem w1_onRing {p : Program} {l : Launch} {e : Env} {s : State} {m : MethodId} {args : Array Value} {below : List Frame} {meth : Method} {c : Code} {D : va_G} {cy : Nat → ClassId} {ad : Nat → Nat} {r : Int32} {μ : Mem} {ν : Lem} (C : Cx true p s m args meth c cX1_onRing 2 RX1 D cy ad) (hr : meth.sig.returnType = some .int) : ∀ (q : Nat) (x1 : Int32) (hq : q < 4), f1_onRing μ q x1 = some r → ∀ (H : Heap) (locs : List Loc), Wd true D cy ad s.heap μ ν H locs → ∀ (ls : Array Slot), lv_has ls 2 [(0, .ref (ad (71 + 2 * q))), (1, .int x1)] → WI true p l e 1 21 s m args below meth c D cy ad .int r μ ν H locs (F0 m 0 ls []) := by
  have hx := C.1.1
  have hb := C.1.2.1
  have hown := C.1.2.2.2.1
  have hts := C.1.2.2.2.2
  intro q x1 hq hf H locs X ls hl
  unfold f1_onRing at hf
  refine lv_aload_n hx hb dX1_onRing_0 rfl (lv_at hl 0 rfl) ?_
  refine gfX1_15 (q := q) hq rfl (k2 := (72 + 2 * q)) rfl C X dX1_onRing_1 ?_
  refine lv_iload_n hx hb dX1_onRing_4 rfl (lv_at hl 1 rfl) ?_
  refine lv_aload_n hx hb dX1_onRing_5 rfl (lv_at hl 0 rfl) ?_
  refine gfX1_25 (q := q) hq rfl C X dX1_onRing_6 ?_
  obtain ⟨r9, g9, hf⟩ := bd1_e hf
  refine qX1_28 g9 C X hl.1 ((Nat.le_of_ble_eq_true rfl)) ⟨(Nat.le_of_ble_eq_true rfl), (Nat.le_of_ble_eq_true rfl)⟩ ⟨Nat.zero_le _, Nat.zero_le _⟩ dX1_onRing_9 (fun H locs X b9 => ?_)
  obtain ⟨h12, hf⟩ := gd_e hf
  refine rIald C X (sSi hq) h12 dX1_onRing_12 ?_
  exact retI C X hr rfl (Option.some.inj hf) rfl rfl dX1_onRing_13
theorem ct1_onRing {q : Nat} {x1 : Int32} (hq : q < 4) {μ : Mem} {ν : Lem} {r : Int32} (hg : f1_onRing μ q x1 = some r) : CtI true yX1_onRing cX1_onRing 2 1 21 .int (fun ad => [.ref (ad (71 + 2 * q)), .int x1]) μ ν r μ ν :=
  mkI (by decide) rfl (fun ad => Nat.le_of_ble_eq_true rfl) (fun p l e s m args below meth c D cy ad C hr X ls hl => w1_onRing C hr q x1 hq hg _ _ X _ hl)
theorem qX1_31 {p : Program} {l : Launch} {e : Env} {R : Room} {s : State} {m : MethodId} {args : Array Value} {below : List Frame} {meth : Method} {c : Code} {H : Heap} {locs : List Loc} {cells slots : Nat} {Q : State → Prop} {cc : ByteArray} {nL : Nat} {D : va_G} {cy : Nat → ClassId} {ad : Nat → Nat} {μ : Mem} {ν : Lem} {pc : Nat} {ls : Array Slot} {rest : List Value} {q : Nat} {x1 : Int32} (hq : q < 4) {r : Int32} (hg : f1_onRing μ q x1 = some r) (C : Cx true p s m args meth c cc nL RX1 D cy ad) (X : Wd true D cy ad s.heap μ ν H locs) (hsz : ls.size = nL) (hrm : (rest.map fun v => v.category).sum ≤ 8) (hR : 1 + 1 ≤ R.frames ∧ 8 + (2 + 11) + 21 ≤ R.locals) (hcs : cells ≤ R.cells ∧ slots ≤ R.slots) (hd : decode cc pc = .ok (.invokevirtual 31, 3)) (kk : ∀ (H1 : Heap) (locs1 : List Loc), Wd true D cy ad s.heap μ ν H1 locs1 → narrow .int (.int r) = .int r → W p l e R s m args below meth c H1 locs1 cells slots Q (F0 m (pc + 3) ls (.int r :: rest))) : W p l e R s m args below meth c H locs cells slots Q (F0 m pc ls (.int x1 :: .ref (ad (71 + 2 * q)) :: rest)) :=
  rCVI (As := [.int x1]) (k := 71 + 2 * q) (ct1_onRing hq hg) ok1 lX1_onRing k_676 (sS hq) rfl rfl C X rfl hrm hsz hR hcs hd kk
set_option maxRecDepth 100000 in
set_option maxHeartbeats 4000000 in
theorem w1_filled_1 {p : Program} {l : Launch} {e : Env} {s : State} {m : MethodId} {args : Array Value} {below : List Frame} {meth : Method} {c : Code} {D : va_G} {cy : Nat → ClassId} {ad : Nat → Nat} {r : Int32} {μ : Mem} {ν : Lem} (C : Cx true p s m args meth c cX1_filled 5 RX1 D cy ad) (hr : meth.sig.returnType = some .int) : ∀ (n : Nat), ∀ (q : Nat) (x1 : Int32) (x2 : Int32) (x3 : Int32) (x4 : Int32) (hq : q < 4), f1_filled_1 μ n q x1 x2 x3 x4 = some r → ∀ (H : Heap) (locs : List Loc), Wd true D cy ad s.heap μ ν H locs → ∀ (ls : Array Slot), lv_has ls 5 [(0, .ref (ad (71 + 2 * q))), (1, .int x1), (2, .int x2), (3, .int x3), (4, .int x4)] → WI true p l e 2 42 s m args below meth c D cy ad .int r μ ν H locs (F0 m 5 ls []) := by
  have hx := C.1.1
  have hb := C.1.2.1
  have hown := C.1.2.2.2.1
  have hts := C.1.2.2.2.2
  intro n
  induction n with
  | zero =>
    intro q x1 x2 x3 x4 hq hf H locs X ls hl
    rw [f1_filled_1] at hf
    cases hf
  | succ n ih =>
    intro q x1 x2 x3 x4 hq hf H locs X ls hl
    rw [f1_filled_1] at hf
    refine lv_iload hx hb dX1_filled_5 (lv_at hl 4 rfl) ?_
    refine lv_iload_n hx hb dX1_filled_7 rfl (lv_at hl 2 rfl) ?_
    refine lv_icmp_ge (tgt := 31) hx hb dX1_filled_8 (by decide) (fun c8 => ?_) (fun c8 => ?_)
    · replace hf := ifp c8 hf
      refine lv_iload_n hx hb dX1_filled_31 rfl (lv_at hl 3 rfl) ?_
      exact retI C X hr rfl (Option.some.inj hf) rfl rfl dX1_filled_32
    · replace hf := ifn c8 hf
      refine lv_aload_n hx hb dX1_filled_11 rfl (lv_at hl 0 rfl) ?_
      refine lv_iload_n hx hb dX1_filled_12 rfl (lv_at hl 1 rfl) ?_
      refine lv_iload hx hb dX1_filled_13 (lv_at hl 4 rfl) ?_
      refine lv_iadd hx hb dX1_filled_15 ?_
      obtain ⟨r16, g16, hf⟩ := bd1_e hf
      refine qX1_31 (q := q) hq g16 C X hl.1 ((Nat.le_of_ble_eq_true rfl)) ⟨(Nat.le_of_ble_eq_true rfl), (Nat.le_of_ble_eq_true rfl)⟩ ⟨Nat.zero_le _, Nat.zero_le _⟩ dX1_filled_16 (fun H locs X b16 => ?_)
      refine lv_if_eq (tgt := 25) hx hb dX1_filled_19 (by decide) (fun c19 => ?_) (fun c19 => ?_)
      · replace hf := ifp c19 hf
        obtain ⟨v25, e25, hf⟩ := nm_e2 hf
        refine rIinc (lv' := [(4, .int v25), (0, .ref (ad (71 + 2 * q))), (1, .int x1), (2, .int x2), (3, .int x3)]) hx hb dX1_filled_25 hl (k := 4) rfl e25 rfl (by decide) rfl (fun ls hl => ?_)
        refine lv_goto (tgt := 5) hx hb dX1_filled_28 (by decide) ?_
        exact ih q x1 x2 x3 v25 hq hf _ _ X _ (lv_sub hl [1, 2, 3, 4, 0] rfl)
      · replace hf := ifn c19 hf
        obtain ⟨v22, e22, hf⟩ := nm_e2 hf
        refine rIinc (lv' := [(3, .int v22), (0, .ref (ad (71 + 2 * q))), (1, .int x1), (2, .int x2), (4, .int x4)]) hx hb dX1_filled_22 hl (k := 3) rfl e22 rfl (by decide) rfl (fun ls hl => ?_)
        obtain ⟨v25, e25, hf⟩ := nm_e2 hf
        refine rIinc (lv' := [(4, .int v25), (3, .int v22), (0, .ref (ad (71 + 2 * q))), (1, .int x1), (2, .int x2)]) hx hb dX1_filled_25 hl (k := 4) rfl e25 rfl (by decide) rfl (fun ls hl => ?_)
        refine lv_goto (tgt := 5) hx hb dX1_filled_28 (by decide) ?_
        exact ih q x1 x2 v22 v25 hq hf _ _ X _ (lv_sub hl [2, 3, 4, 1, 0] rfl)
set_option maxRecDepth 100000 in
set_option maxHeartbeats 4000000 in
theorem w1_filled {p : Program} {l : Launch} {e : Env} {s : State} {m : MethodId} {args : Array Value} {below : List Frame} {meth : Method} {c : Code} {D : va_G} {cy : Nat → ClassId} {ad : Nat → Nat} {r : Int32} {μ : Mem} {ν : Lem} (C : Cx true p s m args meth c cX1_filled 5 RX1 D cy ad) (hr : meth.sig.returnType = some .int) : ∀ (q : Nat) (x1 : Int32) (x2 : Int32) (hq : q < 4), f1_filled μ q x1 x2 = some r → ∀ (H : Heap) (locs : List Loc), Wd true D cy ad s.heap μ ν H locs → ∀ (ls : Array Slot), lv_has ls 5 [(0, .ref (ad (71 + 2 * q))), (1, .int x1), (2, .int x2)] → WI true p l e 2 42 s m args below meth c D cy ad .int r μ ν H locs (F0 m 0 ls []) := by
  have hx := C.1.1
  have hb := C.1.2.1
  have hown := C.1.2.2.2.1
  have hts := C.1.2.2.2.2
  intro q x1 x2 hq hf H locs X ls hl
  unfold f1_filled at hf
  refine lv_iconst (v := 0) hx hb dX1_filled_0 (by decide) ?_
  refine lv_istore_n (lv' := [(3, .int 0), (0, .ref (ad (71 + 2 * q))), (1, .int x1), (2, .int x2)]) hx hb dX1_filled_1 rfl hl (by decide) rfl (fun ls hl => ?_)
  refine lv_iconst (v := 0) hx hb dX1_filled_2 (by decide) ?_
  refine lv_istore (lv' := [(4, .int 0), (3, .int 0), (0, .ref (ad (71 + 2 * q))), (1, .int x1), (2, .int x2)]) hx hb dX1_filled_3 hl (by decide) rfl (fun ls hl => ?_)
  exact w1_filled_1 C hr  FUEL q x1 x2 0 0 hq hf _ _ X _ (lv_sub hl [2, 3, 4, 1, 0] rfl)
theorem ct1_filled {q : Nat} {x1 : Int32} {x2 : Int32} (hq : q < 4) {μ : Mem} {ν : Lem} {r : Int32} (hg : f1_filled μ q x1 x2 = some r) : CtI true yX1_filled cX1_filled 5 2 42 .int (fun ad => [.ref (ad (71 + 2 * q)), .int x1, .int x2]) μ ν r μ ν :=
  mkI (by decide) rfl (fun ad => Nat.le_of_ble_eq_true rfl) (fun p l e s m args below meth c D cy ad C hr X ls hl => w1_filled C hr q x1 x2 hq hg _ _ X _ hl)
theorem qX5_284 {p : Program} {l : Launch} {e : Env} {R : Room} {s : State} {m : MethodId} {args : Array Value} {below : List Frame} {meth : Method} {c : Code} {H : Heap} {locs : List Loc} {cells slots : Nat} {Q : State → Prop} {cc : ByteArray} {nL : Nat} {D : va_G} {cy : Nat → ClassId} {ad : Nat → Nat} {μ : Mem} {ν : Lem} {pc : Nat} {ls : Array Slot} {rest : List Value} {q : Nat} {x1 : Int32} {x2 : Int32} (hq : q < 4) {r : Int32} (hg : f1_filled μ q x1 x2 = some r) (C : Cx true p s m args meth c cc nL RX5 D cy ad) (X : Wd true D cy ad s.heap μ ν H locs) (hsz : ls.size = nL) (hrm : (rest.map fun v => v.category).sum ≤ 8) (hR : 2 + 1 ≤ R.frames ∧ 8 + (5 + 11) + 42 ≤ R.locals) (hcs : cells ≤ R.cells ∧ slots ≤ R.slots) (hd : decode cc pc = .ok (.invokevirtual 284, 3)) (kk : ∀ (H1 : Heap) (locs1 : List Loc), Wd true D cy ad s.heap μ ν H1 locs1 → narrow .int (.int r) = .int r → W p l e R s m args below meth c H1 locs1 cells slots Q (F0 m (pc + 3) ls (.int r :: rest))) : W p l e R s m args below meth c H locs cells slots Q (F0 m pc ls (.int x2 :: .int x1 :: .ref (ad (71 + 2 * q)) :: rest)) :=
  rCVI (As := [.int x1, .int x2]) (k := 71 + 2 * q) (ct1_filled hq hg) ok1 lX1_filled k_672 (sS hq) rfl rfl C X rfl hrm hsz hR hcs hd kk
set_option maxRecDepth 100000 in
set_option maxHeartbeats 4000000 in
theorem w1_acrossFrom {p : Program} {l : Launch} {e : Env} {s : State} {m : MethodId} {args : Array Value} {below : List Frame} {meth : Method} {c : Code} {D : va_G} {cy : Nat → ClassId} {ad : Nat → Nat} {r : Int64} {μ : Mem} {ν : Lem} (C : Cx true p s m args meth c cX1_acrossFrom 2 RX1 D cy ad) (hr : meth.sig.returnType = some .long) : ∀ (q : Nat) (x1 : Int32) (hq : q < 4), f1_acrossFrom μ q x1 = some r → ∀ (H : Heap) (locs : List Loc), Wd true D cy ad s.heap μ ν H locs → ∀ (ls : Array Slot), lv_has ls 2 [(0, .ref (ad (71 + 2 * q))), (1, .int x1)] → WL true p l e 2 42 s m args below meth c D cy ad r μ ν H locs (F0 m 0 ls []) := by
  have hx := C.1.1
  have hb := C.1.2.1
  have hown := C.1.2.2.2.1
  have hts := C.1.2.2.2.2
  intro q x1 hq hf H locs X ls hl
  unfold f1_acrossFrom at hf
  refine lv_aload_n hx hb dX1_acrossFrom_0 rfl (lv_at hl 0 rfl) ?_
  refine lv_iload_n hx hb dX1_acrossFrom_1 rfl (lv_at hl 1 rfl) ?_
  obtain ⟨r2, g2, hf⟩ := bd1_e hf
  refine qX1_31 (q := q) hq g2 C X hl.1 ((Nat.le_of_ble_eq_true rfl)) ⟨(Nat.le_of_ble_eq_true rfl), (Nat.le_of_ble_eq_true rfl)⟩ ⟨Nat.zero_le _, Nat.zero_le _⟩ dX1_acrossFrom_2 (fun H locs X b2 => ?_)
  refine lv_i2l hx hb dX1_acrossFrom_5 rfl ?_
  refine lv_aload_n hx hb dX1_acrossFrom_6 rfl (lv_at hl 0 rfl) ?_
  refine lv_iload_n hx hb dX1_acrossFrom_7 rfl (lv_at hl 1 rfl) ?_
  refine lv_aload_n hx hb dX1_acrossFrom_8 rfl (lv_at hl 0 rfl) ?_
  refine gfX1_25 (q := q) hq rfl C X dX1_acrossFrom_9 ?_
  refine lv_iconst (v := 2) hx hb dX1_acrossFrom_12 (by decide) ?_
  refine lv_idiv hx hb dX1_acrossFrom_13 (by decide) ?_
  refine lv_iadd hx hb dX1_acrossFrom_14 ?_
  obtain ⟨r15, g15, hf⟩ := bd1_e hf
  refine qX1_31 (q := q) hq g15 C X hl.1 ((Nat.le_of_ble_eq_true rfl)) ⟨(Nat.le_of_ble_eq_true rfl), (Nat.le_of_ble_eq_true rfl)⟩ ⟨Nat.zero_le _, Nat.zero_le _⟩ dX1_acrossFrom_15 (fun H locs X b15 => ?_)
  refine lv_i2l hx hb dX1_acrossFrom_18 rfl ?_
  refine lv_lsub hx hb dX1_acrossFrom_19 ?_
  exact retL C X hr (Option.some.inj hf) rfl rfl dX1_acrossFrom_20
theorem ct1_acrossFrom {q : Nat} {x1 : Int32} (hq : q < 4) {μ : Mem} {ν : Lem} {r : Int64} (hg : f1_acrossFrom μ q x1 = some r) : CtL true yX1_acrossFrom cX1_acrossFrom 2 2 42 (fun ad => [.ref (ad (71 + 2 * q)), .int x1]) μ ν r μ ν :=
  mkL (by decide) rfl (fun ad => Nat.le_of_ble_eq_true rfl) (fun p l e s m args below meth c D cy ad C hr X ls hl => w1_acrossFrom C hr q x1 hq hg _ _ X _ hl)
theorem qX5_287 {p : Program} {l : Launch} {e : Env} {R : Room} {s : State} {m : MethodId} {args : Array Value} {below : List Frame} {meth : Method} {c : Code} {H : Heap} {locs : List Loc} {cells slots : Nat} {Q : State → Prop} {cc : ByteArray} {nL : Nat} {D : va_G} {cy : Nat → ClassId} {ad : Nat → Nat} {μ : Mem} {ν : Lem} {pc : Nat} {ls : Array Slot} {rest : List Value} {q : Nat} {x1 : Int32} (hq : q < 4) {r : Int64} (hg : f1_acrossFrom μ q x1 = some r) (C : Cx true p s m args meth c cc nL RX5 D cy ad) (X : Wd true D cy ad s.heap μ ν H locs) (hsz : ls.size = nL) (hrm : (rest.map fun v => v.category).sum ≤ 8) (hR : 2 + 1 ≤ R.frames ∧ 8 + (2 + 11) + 42 ≤ R.locals) (hcs : cells ≤ R.cells ∧ slots ≤ R.slots) (hd : decode cc pc = .ok (.invokevirtual 287, 3)) (kk : ∀ (H1 : Heap) (locs1 : List Loc), Wd true D cy ad s.heap μ ν H1 locs1 → W p l e R s m args below meth c H1 locs1 cells slots Q (F0 m (pc + 3) ls (.long r :: rest))) : W p l e R s m args below meth c H locs cells slots Q (F0 m pc ls (.int x1 :: .ref (ad (71 + 2 * q)) :: rest)) :=
  rCVL (As := [.int x1]) (k := 71 + 2 * q) (ct1_acrossFrom hq hg) ok1 lX1_acrossFrom k_685 (sS hq) rfl rfl C X rfl hrm hsz hR hcs hd kk
set_option maxRecDepth 100000 in
set_option maxHeartbeats 4000000 in
theorem w2_add {p : Program} {l : Launch} {e : Env} {s : State} {m : MethodId} {args : Array Value} {below : List Frame} {meth : Method} {c : Code} {D : va_G} {cy : Nat → ClassId} {ad : Nat → Nat} {μ1 : Mem} {ν : Lem} (C : Cx true p s m args meth c cX2_add 2 RX2 D cy ad) (hr : meth.sig.returnType = none) : ∀ (μ : Mem) (x1 : Int32), f2_add μ x1 = some μ1 → ∀ (H : Heap) (locs : List Loc), Wd true D cy ad s.heap μ ν H locs → ∀ (ls : Array Slot), lv_has ls 2 [(0, .ref (ad 3)), (1, .int x1)] → WV true p l e 0 0 s m args below meth c D cy ad μ1 ν H locs (F0 m 0 ls []) := by
  have hx := C.1.1
  have hb := C.1.2.1
  have hown := C.1.2.2.2.1
  have hts := C.1.2.2.2.2
  intro μ x1 hf H locs X ls hl
  unfold f2_add at hf
  refine lv_aload_n hx hb dX2_add_0 rfl (lv_at hl 0 rfl) ?_
  refine gfX2_15 C X dX2_add_1 ?_
  refine lv_sipush (v := 160) hx hb dX2_add_4 (by decide) ?_
  refine lv_icmp_ge (tgt := 30) hx hb dX2_add_7 (by decide) (fun c7 => ?_) (fun c7 => ?_)
  · replace hf := ifp c7 hf
    exact retV C X hr (Option.some.inj hf) rfl dX2_add_30
  · replace hf := ifn c7 hf
    refine lv_aload_n hx hb dX2_add_10 rfl (lv_at hl 0 rfl) ?_
    refine gfX2_9 C X dX2_add_11 ?_
    refine lv_aload_n hx hb dX2_add_14 rfl (lv_at hl 0 rfl) ?_
    refine gfX2_15 C X dX2_add_15 ?_
    refine lv_iload_n hx hb dX2_add_18 rfl (lv_at hl 1 rfl) ?_
    obtain ⟨h19, hf⟩ := gd_e hf
    obtain ⟨μ19, e19, hf⟩ := nm_e2 hf
    refine rIast2 C X rfl h19 e19 dX2_add_19 (fun H locs X => ?_)
    refine lv_aload_n hx hb dX2_add_20 rfl (lv_at hl 0 rfl) ?_
    refine lv_dup hx hb dX2_add_21 rfl ?_
    refine gfX2_15 C X dX2_add_22 ?_
    refine lv_iconst (v := 1) hx hb dX2_add_25 (by decide) ?_
    refine lv_iadd hx hb dX2_add_26 ?_
    obtain ⟨μ27, e27, hf⟩ := nm_e2 hf
    refine pfX2_15 e27 C X dX2_add_27 (fun H locs X => ?_)
    exact retV C X hr (Option.some.inj hf) rfl dX2_add_30
theorem ct2_add {x1 : Int32} {μ : Mem} {ν : Lem} {μ1 : Mem} (hg : f2_add μ x1 = some μ1) : CtV true yX2_add cX2_add 2 0 0 (fun ad => [.ref (ad 3), .int x1]) μ ν μ1 ν :=
  mkV (by decide) rfl (fun ad => Nat.le_of_ble_eq_true rfl) (fun p l e s m args below meth c D cy ad C hr X ls hl => w2_add C hr μ x1 hg _ _ X _ hl)
theorem qX5_133 {p : Program} {l : Launch} {e : Env} {R : Room} {s : State} {m : MethodId} {args : Array Value} {below : List Frame} {meth : Method} {c : Code} {H : Heap} {locs : List Loc} {cells slots : Nat} {Q : State → Prop} {cc : ByteArray} {nL : Nat} {D : va_G} {cy : Nat → ClassId} {ad : Nat → Nat} {μ : Mem} {ν : Lem} {pc : Nat} {ls : Array Slot} {rest : List Value} {x1 : Int32} {μ1 : Mem} (hg : f2_add μ x1 = some μ1) (C : Cx true p s m args meth c cc nL RX5 D cy ad) (X : Wd true D cy ad s.heap μ ν H locs) (hsz : ls.size = nL) (hrm : (rest.map fun v => v.category).sum ≤ 8) (hR : 0 + 1 ≤ R.frames ∧ 8 + (2 + 11) + 0 ≤ R.locals) (hcs : cells ≤ R.cells ∧ slots ≤ R.slots) (hd : decode cc pc = .ok (.invokevirtual 133, 3)) (kk : ∀ (H1 : Heap) (locs1 : List Loc), Wd true D cy ad s.heap μ1 ν H1 locs1 → W p l e R s m args below meth c H1 locs1 cells slots Q (F0 m (pc + 3) ls rest)) : W p l e R s m args below meth c H locs cells slots Q (F0 m pc ls (.int x1 :: .ref (ad 3) :: rest)) :=
  rCVV (As := [.int x1]) (k := 3) (ct2_add hg) ok2 lX2_add k_277 rfl rfl rfl C X rfl hrm hsz hR hcs hd kk
set_option maxRecDepth 100000 in
set_option maxHeartbeats 4000000 in
theorem w3_begin {p : Program} {l : Launch} {e : Env} {s : State} {m : MethodId} {args : Array Value} {below : List Frame} {meth : Method} {c : Code} {D : va_G} {cy : Nat → ClassId} {ad : Nat → Nat} {μ1 : Mem} {ν : Lem} (C : Cx true p s m args meth c cX3_begin 1 RX3 D cy ad) (hr : meth.sig.returnType = none) : ∀ (μ : Mem) (t : Nat) (ht : t < 6), f3_begin μ t = μ1 → ∀ (H : Heap) (locs : List Loc), Wd true D cy ad s.heap μ ν H locs → ∀ (ls : Array Slot), lv_has ls 1 [(0, .ref (ad (53 + 3 * t)))] → WV true p l e 0 0 s m args below meth c D cy ad μ1 ν H locs (F0 m 0 ls []) := by
  have hx := C.1.1
  have hb := C.1.2.1
  have hown := C.1.2.2.2.1
  have hts := C.1.2.2.2.2
  intro μ t ht hf H locs X ls hl
  unfold f3_begin at hf
  refine lv_aload_n hx hb dX3_begin_0 rfl (lv_at hl 0 rfl) ?_
  refine lv_iconst (v := 0) hx hb dX3_begin_1 (by decide) ?_
  obtain ⟨μ2, e2, hf⟩ := nm_e2 hf
  refine pfX3_18 (t := t) ht rfl e2 C X dX3_begin_2 (fun H locs X => ?_)
  exact retV C X hr hf rfl dX3_begin_5
theorem ct3_begin {t : Nat} (ht : t < 6) {μ : Mem} {ν : Lem} {μ1 : Mem} (hg : f3_begin μ t = μ1) : CtV true yX3_begin cX3_begin 1 0 0 (fun ad => [.ref (ad (53 + 3 * t))]) μ ν μ1 ν :=
  mkV (by decide) rfl (fun ad => Nat.le_of_ble_eq_true rfl) (fun p l e s m args below meth c D cy ad C hr X ls hl => w3_begin C hr μ t ht hg _ _ X _ hl)
theorem qX3_22 {p : Program} {l : Launch} {e : Env} {R : Room} {s : State} {m : MethodId} {args : Array Value} {below : List Frame} {meth : Method} {c : Code} {H : Heap} {locs : List Loc} {cells slots : Nat} {Q : State → Prop} {cc : ByteArray} {nL : Nat} {D : va_G} {cy : Nat → ClassId} {ad : Nat → Nat} {μ : Mem} {ν : Lem} {pc : Nat} {ls : Array Slot} {rest : List Value} {t : Nat} (ht : t < 6) {μ1 : Mem} (hg : f3_begin μ t = μ1) (C : Cx true p s m args meth c cc nL RX3 D cy ad) (X : Wd true D cy ad s.heap μ ν H locs) (hsz : ls.size = nL) (hrm : (rest.map fun v => v.category).sum ≤ 8) (hR : 0 + 1 ≤ R.frames ∧ 8 + (1 + 11) + 0 ≤ R.locals) (hcs : cells ≤ R.cells ∧ slots ≤ R.slots) (hd : decode cc pc = .ok (.invokevirtual 22, 3)) (kk : ∀ (H1 : Heap) (locs1 : List Loc), Wd true D cy ad s.heap μ1 ν H1 locs1 → W p l e R s m args below meth c H1 locs1 cells slots Q (F0 m (pc + 3) ls rest)) : W p l e R s m args below meth c H locs cells slots Q (F0 m pc ls (.ref (ad (53 + 3 * t)) :: rest)) :=
  rCVV (As := []) (k := 53 + 3 * t) (ct3_begin ht hg) ok3 lX3_begin k_152 (sT ht) rfl rfl C X rfl hrm hsz hR hcs hd kk
theorem qX2_29 {p : Program} {l : Launch} {e : Env} {R : Room} {s : State} {m : MethodId} {args : Array Value} {below : List Frame} {meth : Method} {c : Code} {H : Heap} {locs : List Loc} {cells slots : Nat} {Q : State → Prop} {cc : ByteArray} {nL : Nat} {D : va_G} {cy : Nat → ClassId} {ad : Nat → Nat} {μ : Mem} {ν : Lem} {pc : Nat} {ls : Array Slot} {rest : List Value} {t : Nat} (ht : t < 6) {μ1 : Mem} (hg : f3_begin μ t = μ1) (C : Cx true p s m args meth c cc nL RX2 D cy ad) (X : Wd true D cy ad s.heap μ ν H locs) (hsz : ls.size = nL) (hrm : (rest.map fun v => v.category).sum ≤ 8) (hR : 0 + 1 ≤ R.frames ∧ 8 + (1 + 11) + 0 ≤ R.locals) (hcs : cells ≤ R.cells ∧ slots ≤ R.slots) (hd : decode cc pc = .ok (.invokevirtual 29, 3)) (kk : ∀ (H1 : Heap) (locs1 : List Loc), Wd true D cy ad s.heap μ1 ν H1 locs1 → W p l e R s m args below meth c H1 locs1 cells slots Q (F0 m (pc + 3) ls rest)) : W p l e R s m args below meth c H locs cells slots Q (F0 m pc ls (.ref (ad (53 + 3 * t)) :: rest)) :=
  rCVV (As := []) (k := 53 + 3 * t) (ct3_begin ht hg) ok3 lX3_begin k_289 (sT ht) rfl rfl C X rfl hrm hsz hR hcs hd kk
set_option maxRecDepth 100000 in
set_option maxHeartbeats 4000000 in
theorem w2_isLetter {p : Program} {l : Launch} {e : Env} {s : State} {m : MethodId} {args : Array Value} {below : List Frame} {meth : Method} {c : Code} {D : va_G} {cy : Nat → ClassId} {ad : Nat → Nat} {r : Int32} {μ : Mem} {ν : Lem} (C : Cx true p s m args meth c cX2_isLetter 1 RX2 D cy ad) (hr : meth.sig.returnType = some .boolean) : ∀ (x0 : Int32), f2_isLetter x0 = r → ∀ (H : Heap) (locs : List Loc), Wd true D cy ad s.heap μ ν H locs → ∀ (ls : Array Slot), lv_has ls 1 [(0, .int x0)] → WI true p l e 0 0 s m args below meth c D cy ad .boolean r μ ν H locs (F0 m 0 ls []) := by
  have hx := C.1.1
  have hb := C.1.2.1
  have hown := C.1.2.2.2.1
  have hts := C.1.2.2.2.2
  intro x0 hf H locs X ls hl
  unfold f2_isLetter at hf
  refine lv_iload_n hx hb dX2_isLetter_0 rfl (lv_at hl 0 rfl) ?_
  refine lv_bipush (v := 97) hx hb dX2_isLetter_1 (by decide) ?_
  refine lv_icmp_lt (tgt := 16) hx hb dX2_isLetter_3 (by decide) (fun c3 => ?_) (fun c3 => ?_)
  · replace hf := ifp c3 hf
    refine lv_iconst (v := 0) hx hb dX2_isLetter_16 (by decide) ?_
    exact retI C X hr rfl hf rfl rfl dX2_isLetter_17
  · replace hf := ifn c3 hf
    refine lv_iload_n hx hb dX2_isLetter_6 rfl (lv_at hl 0 rfl) ?_
    refine lv_bipush (v := 122) hx hb dX2_isLetter_7 (by decide) ?_
    refine lv_icmp_gt (tgt := 16) hx hb dX2_isLetter_9 (by decide) (fun c9 => ?_) (fun c9 => ?_)
    · replace hf := ifp c9 hf
      refine lv_iconst (v := 0) hx hb dX2_isLetter_16 (by decide) ?_
      exact retI C X hr rfl hf rfl rfl dX2_isLetter_17
    · replace hf := ifn c9 hf
      refine lv_iconst (v := 1) hx hb dX2_isLetter_12 (by decide) ?_
      refine lv_goto (tgt := 17) hx hb dX2_isLetter_13 (by decide) ?_
      exact retI C X hr rfl hf rfl rfl dX2_isLetter_17
theorem ct2_isLetter {x0 : Int32} {μ : Mem} {ν : Lem} {r : Int32} (hg : f2_isLetter x0 = r) : CtI true yX2_isLetter cX2_isLetter 1 0 0 .boolean (fun ad => [.int x0]) μ ν r μ ν :=
  mkI (by decide) rfl (fun ad => Nat.le_of_ble_eq_true rfl) (fun p l e s m args below meth c D cy ad C hr X ls hl => w2_isLetter C hr x0 hg _ _ X _ hl)
theorem qX2_70 {p : Program} {l : Launch} {e : Env} {R : Room} {s : State} {m : MethodId} {args : Array Value} {below : List Frame} {meth : Method} {c : Code} {H : Heap} {locs : List Loc} {cells slots : Nat} {Q : State → Prop} {cc : ByteArray} {nL : Nat} {D : va_G} {cy : Nat → ClassId} {ad : Nat → Nat} {μ : Mem} {ν : Lem} {pc : Nat} {ls : Array Slot} {rest : List Value} {x0 : Int32} {r : Int32} (hg : f2_isLetter x0 = r) (C : Cx true p s m args meth c cc nL RX2 D cy ad) (X : Wd true D cy ad s.heap μ ν H locs) (hsz : ls.size = nL) (hrm : (rest.map fun v => v.category).sum ≤ 8) (hR : 0 + 1 ≤ R.frames ∧ 8 + (1 + 11) + 0 ≤ R.locals) (hcs : cells ≤ R.cells ∧ slots ≤ R.slots) (hd : decode cc pc = .ok (.invokestatic 70, 3)) (kk : ∀ (H1 : Heap) (locs1 : List Loc), Wd true D cy ad s.heap μ ν H1 locs1 → narrow .boolean (.int r) = .int r → W p l e R s m args below meth c H1 locs1 cells slots Q (F0 m (pc + 3) ls (.int r :: rest))) : W p l e R s m args below meth c H locs cells slots Q (F0 m pc ls (.int x0 :: rest)) :=
  rCSI (As := [.int x0]) (ct2_isLetter hg) lX2_isLetter k_294 rfl rfl C X rfl hrm hsz hR hcs hd kk
set_option maxRecDepth 100000 in
set_option maxHeartbeats 4000000 in
theorem w2_isDigit {p : Program} {l : Launch} {e : Env} {s : State} {m : MethodId} {args : Array Value} {below : List Frame} {meth : Method} {c : Code} {D : va_G} {cy : Nat → ClassId} {ad : Nat → Nat} {r : Int32} {μ : Mem} {ν : Lem} (C : Cx true p s m args meth c cX2_isDigit 1 RX2 D cy ad) (hr : meth.sig.returnType = some .boolean) : ∀ (x0 : Int32), f2_isDigit x0 = r → ∀ (H : Heap) (locs : List Loc), Wd true D cy ad s.heap μ ν H locs → ∀ (ls : Array Slot), lv_has ls 1 [(0, .int x0)] → WI true p l e 0 0 s m args below meth c D cy ad .boolean r μ ν H locs (F0 m 0 ls []) := by
  have hx := C.1.1
  have hb := C.1.2.1
  have hown := C.1.2.2.2.1
  have hts := C.1.2.2.2.2
  intro x0 hf H locs X ls hl
  unfold f2_isDigit at hf
  refine lv_iload_n hx hb dX2_isDigit_0 rfl (lv_at hl 0 rfl) ?_
  refine lv_bipush (v := 48) hx hb dX2_isDigit_1 (by decide) ?_
  refine lv_icmp_lt (tgt := 16) hx hb dX2_isDigit_3 (by decide) (fun c3 => ?_) (fun c3 => ?_)
  · replace hf := ifp c3 hf
    refine lv_iconst (v := 0) hx hb dX2_isDigit_16 (by decide) ?_
    exact retI C X hr rfl hf rfl rfl dX2_isDigit_17
  · replace hf := ifn c3 hf
    refine lv_iload_n hx hb dX2_isDigit_6 rfl (lv_at hl 0 rfl) ?_
    refine lv_bipush (v := 57) hx hb dX2_isDigit_7 (by decide) ?_
    refine lv_icmp_gt (tgt := 16) hx hb dX2_isDigit_9 (by decide) (fun c9 => ?_) (fun c9 => ?_)
    · replace hf := ifp c9 hf
      refine lv_iconst (v := 0) hx hb dX2_isDigit_16 (by decide) ?_
      exact retI C X hr rfl hf rfl rfl dX2_isDigit_17
    · replace hf := ifn c9 hf
      refine lv_iconst (v := 1) hx hb dX2_isDigit_12 (by decide) ?_
      refine lv_goto (tgt := 17) hx hb dX2_isDigit_13 (by decide) ?_
      exact retI C X hr rfl hf rfl rfl dX2_isDigit_17
theorem ct2_isDigit {x0 : Int32} {μ : Mem} {ν : Lem} {r : Int32} (hg : f2_isDigit x0 = r) : CtI true yX2_isDigit cX2_isDigit 1 0 0 .boolean (fun ad => [.int x0]) μ ν r μ ν :=
  mkI (by decide) rfl (fun ad => Nat.le_of_ble_eq_true rfl) (fun p l e s m args below meth c D cy ad C hr X ls hl => w2_isDigit C hr x0 hg _ _ X _ hl)
theorem qX2_76 {p : Program} {l : Launch} {e : Env} {R : Room} {s : State} {m : MethodId} {args : Array Value} {below : List Frame} {meth : Method} {c : Code} {H : Heap} {locs : List Loc} {cells slots : Nat} {Q : State → Prop} {cc : ByteArray} {nL : Nat} {D : va_G} {cy : Nat → ClassId} {ad : Nat → Nat} {μ : Mem} {ν : Lem} {pc : Nat} {ls : Array Slot} {rest : List Value} {x0 : Int32} {r : Int32} (hg : f2_isDigit x0 = r) (C : Cx true p s m args meth c cc nL RX2 D cy ad) (X : Wd true D cy ad s.heap μ ν H locs) (hsz : ls.size = nL) (hrm : (rest.map fun v => v.category).sum ≤ 8) (hR : 0 + 1 ≤ R.frames ∧ 8 + (1 + 11) + 0 ≤ R.locals) (hcs : cells ≤ R.cells ∧ slots ≤ R.slots) (hd : decode cc pc = .ok (.invokestatic 76, 3)) (kk : ∀ (H1 : Heap) (locs1 : List Loc), Wd true D cy ad s.heap μ ν H1 locs1 → narrow .boolean (.int r) = .int r → W p l e R s m args below meth c H1 locs1 cells slots Q (F0 m (pc + 3) ls (.int r :: rest))) : W p l e R s m args below meth c H locs cells slots Q (F0 m pc ls (.int x0 :: rest)) :=
  rCSI (As := [.int x0]) (ct2_isDigit hg) lX2_isDigit k_354 rfl rfl C X rfl hrm hsz hR hcs hd kk
set_option maxRecDepth 100000 in
set_option maxHeartbeats 4000000 in
theorem w2_readNumber_2 {p : Program} {l : Launch} {e : Env} {s : State} {m : MethodId} {args : Array Value} {below : List Frame} {meth : Method} {c : Code} {D : va_G} {cy : Nat → ClassId} {ad : Nat → Nat} {μ1 : Mem} {ν : Lem} (C : Cx true p s m args meth c cX2_readNumber 1 RX2 D cy ad) (hr : meth.sig.returnType = none) : ∀ (μ : Mem), f2_readNumber_2 μ = some μ1 → ∀ (H : Heap) (locs : List Loc), Wd true D cy ad s.heap μ ν H locs → ∀ (ls : Array Slot), lv_has ls 1 [(0, .ref (ad 3))] → WV true p l e 1 20 s m args below meth c D cy ad μ1 ν H locs (F0 m 68 ls []) := by
  have hx := C.1.1
  have hb := C.1.2.1
  have hown := C.1.2.2.2.1
  have hts := C.1.2.2.2.2
  intro μ hf H locs X ls hl
  unfold f2_readNumber_2 at hf
  refine lv_aload_n hx hb dX2_readNumber_68 rfl (lv_at hl 0 rfl) ?_
  refine lv_aload_n hx hb dX2_readNumber_69 rfl (lv_at hl 0 rfl) ?_
  refine gfX2_19 C X dX2_readNumber_70 ?_
  refine lv_aload_n hx hb dX2_readNumber_73 rfl (lv_at hl 0 rfl) ?_
  refine gfX2_54 C X dX2_readNumber_74 ?_
  refine lv_isub hx hb dX2_readNumber_77 ?_
  refine lv_iconst (v := 4) hx hb dX2_readNumber_78 (by decide) ?_
  refine lv_icmp_le (tgt := 87) hx hb dX2_readNumber_79 (by decide) (fun c79 => ?_) (fun c79 => ?_)
  · replace hf := ifp c79 hf
    refine lv_bipush (v := 20) hx hb dX2_readNumber_87 (by decide) ?_
    obtain ⟨μ89, e89, hf⟩ := nm_e2 hf
    refine pfX2_48 e89 C X dX2_readNumber_89 (fun H locs X => ?_)
    exact retV C X hr (Option.some.inj hf) rfl dX2_readNumber_92
  · replace hf := ifn c79 hf
    refine lv_bipush (v := 22) hx hb dX2_readNumber_82 (by decide) ?_
    refine lv_goto (tgt := 89) hx hb dX2_readNumber_84 (by decide) ?_
    obtain ⟨μ89, e89, hf⟩ := nm_e2 hf
    refine pfX2_48 e89 C X dX2_readNumber_89 (fun H locs X => ?_)
    exact retV C X hr (Option.some.inj hf) rfl dX2_readNumber_92
set_option maxRecDepth 100000 in
set_option maxHeartbeats 4000000 in
theorem w2_readNumber_1 {p : Program} {l : Launch} {e : Env} {s : State} {m : MethodId} {args : Array Value} {below : List Frame} {meth : Method} {c : Code} {D : va_G} {cy : Nat → ClassId} {ad : Nat → Nat} {μ1 : Mem} {ν : Lem} (C : Cx true p s m args meth c cX2_readNumber 1 RX2 D cy ad) (hr : meth.sig.returnType = none) : ∀ (n : Nat), ∀ (μ : Mem), f2_readNumber_1 n μ = some μ1 → ∀ (H : Heap) (locs : List Loc), Wd true D cy ad s.heap μ ν H locs → ∀ (ls : Array Slot), lv_has ls 1 [(0, .ref (ad 3))] → WV true p l e 1 20 s m args below meth c D cy ad μ1 ν H locs (F0 m 5 ls []) := by
  have hx := C.1.1
  have hb := C.1.2.1
  have hown := C.1.2.2.2.1
  have hts := C.1.2.2.2.2
  intro n
  induction n with
  | zero =>
    intro μ hf H locs X ls hl
    rw [f2_readNumber_1] at hf
    cases hf
  | succ n ih =>
    intro μ hf H locs X ls hl
    rw [f2_readNumber_1] at hf
    refine lv_aload_n hx hb dX2_readNumber_5 rfl (lv_at hl 0 rfl) ?_
    refine gfX2_19 C X dX2_readNumber_6 ?_
    refine lv_aload_n hx hb dX2_readNumber_9 rfl (lv_at hl 0 rfl) ?_
    refine gfX2_15 C X dX2_readNumber_10 ?_
    refine lv_icmp_ge (tgt := 68) hx hb dX2_readNumber_13 (by decide) (fun c13 => ?_) (fun c13 => ?_)
    · replace hf := ifp c13 hf
      exact w2_readNumber_2 C hr  μ hf _ _ X _ (lv_sub hl [0] rfl)
    · replace hf := ifn c13 hf
      refine lv_aload_n hx hb dX2_readNumber_16 rfl (lv_at hl 0 rfl) ?_
      refine gfX2_9 C X dX2_readNumber_17 ?_
      refine lv_aload_n hx hb dX2_readNumber_20 rfl (lv_at hl 0 rfl) ?_
      refine gfX2_19 C X dX2_readNumber_21 ?_
      obtain ⟨h24, hf⟩ := gd_e hf
      refine rIald C X rfl h24 dX2_readNumber_24 ?_
      refine qX2_76 rfl C X hl.1 ((Nat.le_of_ble_eq_true rfl)) ⟨(Nat.le_of_ble_eq_true rfl), (Nat.le_of_ble_eq_true rfl)⟩ ⟨Nat.zero_le _, Nat.zero_le _⟩ dX2_readNumber_25 (fun H locs X b25 => ?_)
      refine lv_if_eq (tgt := 68) hx hb dX2_readNumber_28 (by decide) (fun c28 => ?_) (fun c28 => ?_)
      · replace hf := ifp c28 hf
        exact w2_readNumber_2 C hr  μ hf _ _ X _ (lv_sub hl [0] rfl)
      · replace hf := ifn c28 hf
        refine lv_aload_n hx hb dX2_readNumber_31 rfl (lv_at hl 0 rfl) ?_
        refine lv_bipush (v := 10) hx hb dX2_readNumber_32 (by decide) ?_
        refine lv_aload_n hx hb dX2_readNumber_34 rfl (lv_at hl 0 rfl) ?_
        refine gfX2_67 C X dX2_readNumber_35 ?_
        refine lv_imul hx hb dX2_readNumber_38 ?_
        refine lv_aload_n hx hb dX2_readNumber_39 rfl (lv_at hl 0 rfl) ?_
        refine gfX2_9 C X dX2_readNumber_40 ?_
        refine lv_aload_n hx hb dX2_readNumber_43 rfl (lv_at hl 0 rfl) ?_
        refine gfX2_19 C X dX2_readNumber_44 ?_
        obtain ⟨h47, hf⟩ := gd_e hf
        refine rIald C X rfl h47 dX2_readNumber_47 ?_
        refine lv_iadd hx hb dX2_readNumber_48 ?_
        refine lv_bipush (v := 48) hx hb dX2_readNumber_49 (by decide) ?_
        refine lv_isub hx hb dX2_readNumber_51 ?_
        obtain ⟨μ52, e52, hf⟩ := nm_e2 hf
        refine pfX2_67 e52 C X dX2_readNumber_52 (fun H locs X => ?_)
        refine lv_aload_n hx hb dX2_readNumber_55 rfl (lv_at hl 0 rfl) ?_
        refine lv_dup hx hb dX2_readNumber_56 rfl ?_
        refine gfX2_19 C X dX2_readNumber_57 ?_
        refine lv_iconst (v := 1) hx hb dX2_readNumber_60 (by decide) ?_
        refine lv_iadd hx hb dX2_readNumber_61 ?_
        obtain ⟨μ62, e62, hf⟩ := nm_e2 hf
        refine pfX2_19 e62 C X dX2_readNumber_62 (fun H locs X => ?_)
        refine lv_goto (tgt := 5) hx hb dX2_readNumber_65 (by decide) ?_
        exact ih μ62 hf _ _ X _ (lv_sub hl [0] rfl)
set_option maxRecDepth 100000 in
set_option maxHeartbeats 4000000 in
theorem w2_readNumber {p : Program} {l : Launch} {e : Env} {s : State} {m : MethodId} {args : Array Value} {below : List Frame} {meth : Method} {c : Code} {D : va_G} {cy : Nat → ClassId} {ad : Nat → Nat} {μ1 : Mem} {ν : Lem} (C : Cx true p s m args meth c cX2_readNumber 1 RX2 D cy ad) (hr : meth.sig.returnType = none) : ∀ (μ : Mem), f2_readNumber μ = some μ1 → ∀ (H : Heap) (locs : List Loc), Wd true D cy ad s.heap μ ν H locs → ∀ (ls : Array Slot), lv_has ls 1 [(0, .ref (ad 3))] → WV true p l e 1 20 s m args below meth c D cy ad μ1 ν H locs (F0 m 0 ls []) := by
  have hx := C.1.1
  have hb := C.1.2.1
  have hown := C.1.2.2.2.1
  have hts := C.1.2.2.2.2
  intro μ hf H locs X ls hl
  unfold f2_readNumber at hf
  refine lv_aload_n hx hb dX2_readNumber_0 rfl (lv_at hl 0 rfl) ?_
  refine lv_iconst (v := 0) hx hb dX2_readNumber_1 (by decide) ?_
  obtain ⟨μ2, e2, hf⟩ := nm_e2 hf
  refine pfX2_67 e2 C X dX2_readNumber_2 (fun H locs X => ?_)
  exact w2_readNumber_1 C hr  FUEL μ2 hf _ _ X _ (lv_sub hl [0] rfl)
theorem ct2_readNumber {μ : Mem} {ν : Lem} {μ1 : Mem} (hg : f2_readNumber μ = some μ1) : CtV true yX2_readNumber cX2_readNumber 1 1 20 (fun ad => [.ref (ad 3)]) μ ν μ1 ν :=
  mkV (by decide) rfl (fun ad => Nat.le_of_ble_eq_true rfl) (fun p l e s m args below meth c D cy ad C hr X ls hl => w2_readNumber C hr μ hg _ _ X _ hl)
theorem qX2_79 {p : Program} {l : Launch} {e : Env} {R : Room} {s : State} {m : MethodId} {args : Array Value} {below : List Frame} {meth : Method} {c : Code} {H : Heap} {locs : List Loc} {cells slots : Nat} {Q : State → Prop} {cc : ByteArray} {nL : Nat} {D : va_G} {cy : Nat → ClassId} {ad : Nat → Nat} {μ : Mem} {ν : Lem} {pc : Nat} {ls : Array Slot} {rest : List Value} {μ1 : Mem} (hg : f2_readNumber μ = some μ1) (C : Cx true p s m args meth c cc nL RX2 D cy ad) (X : Wd true D cy ad s.heap μ ν H locs) (hsz : ls.size = nL) (hrm : (rest.map fun v => v.category).sum ≤ 8) (hR : 1 + 1 ≤ R.frames ∧ 8 + (1 + 11) + 20 ≤ R.locals) (hcs : cells ≤ R.cells ∧ slots ≤ R.slots) (hd : decode cc pc = .ok (.invokevirtual 79, 3)) (kk : ∀ (H1 : Heap) (locs1 : List Loc), Wd true D cy ad s.heap μ1 ν H1 locs1 → W p l e R s m args below meth c H1 locs1 cells slots Q (F0 m (pc + 3) ls rest)) : W p l e R s m args below meth c H locs cells slots Q (F0 m pc ls (.ref (ad 3) :: rest)) :=
  rCVV (As := []) (k := 3) (ct2_readNumber hg) ok2 lX2_readNumber k_357 rfl rfl rfl C X rfl hrm hsz hR hcs hd kk
set_option maxRecDepth 100000 in
set_option maxHeartbeats 4000000 in
theorem w2_refuse {p : Program} {l : Launch} {e : Env} {s : State} {m : MethodId} {args : Array Value} {below : List Frame} {meth : Method} {c : Code} {D : va_G} {cy : Nat → ClassId} {ad : Nat → Nat} {μ1 : Mem} {ν : Lem} (C : Cx true p s m args meth c cX2_refuse 1 RX2 D cy ad) (hr : meth.sig.returnType = none) : ∀ (μ : Mem), f2_refuse μ = μ1 → ∀ (H : Heap) (locs : List Loc), Wd true D cy ad s.heap μ ν H locs → ∀ (ls : Array Slot), lv_has ls 1 [(0, .ref (ad 3))] → WV true p l e 0 0 s m args below meth c D cy ad μ1 ν H locs (F0 m 0 ls []) := by
  have hx := C.1.1
  have hb := C.1.2.1
  have hown := C.1.2.2.2.1
  have hts := C.1.2.2.2.2
  intro μ hf H locs X ls hl
  unfold f2_refuse at hf
  refine lv_aload_n hx hb dX2_refuse_0 rfl (lv_at hl 0 rfl) ?_
  refine gfX2_22 C X dX2_refuse_1 ?_
  refine lv_iconst (v := (-1)) hx hb dX2_refuse_4 (by decide) ?_
  refine lv_icmp_ne (tgt := 16) hx hb dX2_refuse_5 (by decide) (fun c5 => ?_) (fun c5 => ?_)
  · replace hf := ifn c5 hf
    refine lv_aload_n hx hb dX2_refuse_16 rfl (lv_at hl 0 rfl) ?_
    refine lv_bipush (v := 22) hx hb dX2_refuse_17 (by decide) ?_
    obtain ⟨μ19, e19, hf⟩ := nm_e2 hf
    refine pfX2_48 e19 C X dX2_refuse_19 (fun H locs X => ?_)
    exact retV C X hr hf rfl dX2_refuse_22
  · replace hf := ifp c5 hf
    refine lv_aload_n hx hb dX2_refuse_8 rfl (lv_at hl 0 rfl) ?_
    refine lv_aload_n hx hb dX2_refuse_9 rfl (lv_at hl 0 rfl) ?_
    refine gfX2_54 C X dX2_refuse_10 ?_
    obtain ⟨μ13, e13, hf⟩ := nm_e2 hf
    refine pfX2_22 e13 C X dX2_refuse_13 (fun H locs X => ?_)
    refine lv_aload_n hx hb dX2_refuse_16 rfl (lv_at hl 0 rfl) ?_
    refine lv_bipush (v := 22) hx hb dX2_refuse_17 (by decide) ?_
    obtain ⟨μ19, e19, hf⟩ := nm_e2 hf
    refine pfX2_48 e19 C X dX2_refuse_19 (fun H locs X => ?_)
    exact retV C X hr hf rfl dX2_refuse_22
theorem ct2_refuse {μ : Mem} {ν : Lem} {μ1 : Mem} (hg : f2_refuse μ = μ1) : CtV true yX2_refuse cX2_refuse 1 0 0 (fun ad => [.ref (ad 3)]) μ ν μ1 ν :=
  mkV (by decide) rfl (fun ad => Nat.le_of_ble_eq_true rfl) (fun p l e s m args below meth c D cy ad C hr X ls hl => w2_refuse C hr μ hg _ _ X _ hl)
theorem qX2_51 {p : Program} {l : Launch} {e : Env} {R : Room} {s : State} {m : MethodId} {args : Array Value} {below : List Frame} {meth : Method} {c : Code} {H : Heap} {locs : List Loc} {cells slots : Nat} {Q : State → Prop} {cc : ByteArray} {nL : Nat} {D : va_G} {cy : Nat → ClassId} {ad : Nat → Nat} {μ : Mem} {ν : Lem} {pc : Nat} {ls : Array Slot} {rest : List Value} {μ1 : Mem} (hg : f2_refuse μ = μ1) (C : Cx true p s m args meth c cc nL RX2 D cy ad) (X : Wd true D cy ad s.heap μ ν H locs) (hsz : ls.size = nL) (hrm : (rest.map fun v => v.category).sum ≤ 8) (hR : 0 + 1 ≤ R.frames ∧ 8 + (1 + 11) + 0 ≤ R.locals) (hcs : cells ≤ R.cells ∧ slots ≤ R.slots) (hd : decode cc pc = .ok (.invokevirtual 51, 3)) (kk : ∀ (H1 : Heap) (locs1 : List Loc), Wd true D cy ad s.heap μ1 ν H1 locs1 → W p l e R s m args below meth c H1 locs1 cells slots Q (F0 m (pc + 3) ls rest)) : W p l e R s m args below meth c H locs cells slots Q (F0 m pc ls (.ref (ad 3) :: rest)) :=
  rCVV (As := []) (k := 3) (ct2_refuse hg) ok2 lX2_refuse k_423 rfl rfl rfl C X rfl hrm hsz hR hcs hd kk
set_option maxRecDepth 100000 in
set_option maxHeartbeats 4000000 in
theorem w3_put {p : Program} {l : Launch} {e : Env} {s : State} {m : MethodId} {args : Array Value} {below : List Frame} {meth : Method} {c : Code} {D : va_G} {cy : Nat → ClassId} {ad : Nat → Nat} {μ1 : Mem} {ν : Lem} (C : Cx true p s m args meth c cX3_put 2 RX3 D cy ad) (hr : meth.sig.returnType = none) : ∀ (μ : Mem) (t : Nat) (x1 : Int32) (ht : t < 6), f3_put μ t x1 = some μ1 → ∀ (H : Heap) (locs : List Loc), Wd true D cy ad s.heap μ ν H locs → ∀ (ls : Array Slot), lv_has ls 2 [(0, .ref (ad (53 + 3 * t))), (1, .int x1)] → WV true p l e 0 0 s m args below meth c D cy ad μ1 ν H locs (F0 m 0 ls []) := by
  have hx := C.1.1
  have hb := C.1.2.1
  have hown := C.1.2.2.2.1
  have hts := C.1.2.2.2.2
  intro μ t x1 ht hf H locs X ls hl
  unfold f3_put at hf
  refine lv_aload_n hx hb dX3_put_0 rfl (lv_at hl 0 rfl) ?_
  refine gfX3_18 (t := t) ht rfl C X dX3_put_1 ?_
  refine lv_sipush (v := 160) hx hb dX3_put_4 (by decide) ?_
  refine lv_icmp_ge (tgt := 30) hx hb dX3_put_7 (by decide) (fun c7 => ?_) (fun c7 => ?_)
  · replace hf := ifp c7 hf
    exact retV C X hr (Option.some.inj hf) rfl dX3_put_30
  · replace hf := ifn c7 hf
    refine lv_aload_n hx hb dX3_put_10 rfl (lv_at hl 0 rfl) ?_
    refine gfX3_9 (t := t) ht rfl (k2 := (54 + 3 * t)) rfl C X dX3_put_11 ?_
    refine lv_aload_n hx hb dX3_put_14 rfl (lv_at hl 0 rfl) ?_
    refine gfX3_18 (t := t) ht rfl C X dX3_put_15 ?_
    refine lv_iload_n hx hb dX3_put_18 rfl (lv_at hl 1 rfl) ?_
    obtain ⟨h19, hf⟩ := gd_e hf
    obtain ⟨μ19, e19, hf⟩ := nm_e2 hf
    refine rIast2 C X (sTc ht) h19 e19 dX3_put_19 (fun H locs X => ?_)
    refine lv_aload_n hx hb dX3_put_20 rfl (lv_at hl 0 rfl) ?_
    refine lv_dup hx hb dX3_put_21 rfl ?_
    refine gfX3_18 (t := t) ht rfl C X dX3_put_22 ?_
    refine lv_iconst (v := 1) hx hb dX3_put_25 (by decide) ?_
    refine lv_iadd hx hb dX3_put_26 ?_
    obtain ⟨μ27, e27, hf⟩ := nm_e2 hf
    refine pfX3_18 (t := t) ht rfl e27 C X dX3_put_27 (fun H locs X => ?_)
    exact retV C X hr (Option.some.inj hf) rfl dX3_put_30
theorem ct3_put {t : Nat} {x1 : Int32} (ht : t < 6) {μ : Mem} {ν : Lem} {μ1 : Mem} (hg : f3_put μ t x1 = some μ1) : CtV true yX3_put cX3_put 2 0 0 (fun ad => [.ref (ad (53 + 3 * t)), .int x1]) μ ν μ1 ν :=
  mkV (by decide) rfl (fun ad => Nat.le_of_ble_eq_true rfl) (fun p l e s m args below meth c D cy ad C hr X ls hl => w3_put C hr μ t x1 ht hg _ _ X _ hl)
theorem qX3_25 {p : Program} {l : Launch} {e : Env} {R : Room} {s : State} {m : MethodId} {args : Array Value} {below : List Frame} {meth : Method} {c : Code} {H : Heap} {locs : List Loc} {cells slots : Nat} {Q : State → Prop} {cc : ByteArray} {nL : Nat} {D : va_G} {cy : Nat → ClassId} {ad : Nat → Nat} {μ : Mem} {ν : Lem} {pc : Nat} {ls : Array Slot} {rest : List Value} {t : Nat} {x1 : Int32} (ht : t < 6) {μ1 : Mem} (hg : f3_put μ t x1 = some μ1) (C : Cx true p s m args meth c cc nL RX3 D cy ad) (X : Wd true D cy ad s.heap μ ν H locs) (hsz : ls.size = nL) (hrm : (rest.map fun v => v.category).sum ≤ 8) (hR : 0 + 1 ≤ R.frames ∧ 8 + (2 + 11) + 0 ≤ R.locals) (hcs : cells ≤ R.cells ∧ slots ≤ R.slots) (hd : decode cc pc = .ok (.invokevirtual 25, 3)) (kk : ∀ (H1 : Heap) (locs1 : List Loc), Wd true D cy ad s.heap μ1 ν H1 locs1 → W p l e R s m args below meth c H1 locs1 cells slots Q (F0 m (pc + 3) ls rest)) : W p l e R s m args below meth c H locs cells slots Q (F0 m pc ls (.int x1 :: .ref (ad (53 + 3 * t)) :: rest)) :=
  rCVV (As := [.int x1]) (k := 53 + 3 * t) (ct3_put ht hg) ok3 lX3_put k_156 (sT ht) rfl rfl C X rfl hrm hsz hR hcs hd kk
theorem qX2_60 {p : Program} {l : Launch} {e : Env} {R : Room} {s : State} {m : MethodId} {args : Array Value} {below : List Frame} {meth : Method} {c : Code} {H : Heap} {locs : List Loc} {cells slots : Nat} {Q : State → Prop} {cc : ByteArray} {nL : Nat} {D : va_G} {cy : Nat → ClassId} {ad : Nat → Nat} {μ : Mem} {ν : Lem} {pc : Nat} {ls : Array Slot} {rest : List Value} {t : Nat} {x1 : Int32} (ht : t < 6) {μ1 : Mem} (hg : f3_put μ t x1 = some μ1) (C : Cx true p s m args meth c cc nL RX2 D cy ad) (X : Wd true D cy ad s.heap μ ν H locs) (hsz : ls.size = nL) (hrm : (rest.map fun v => v.category).sum ≤ 8) (hR : 0 + 1 ≤ R.frames ∧ 8 + (2 + 11) + 0 ≤ R.locals) (hcs : cells ≤ R.cells ∧ slots ≤ R.slots) (hd : decode cc pc = .ok (.invokevirtual 60, 3)) (kk : ∀ (H1 : Heap) (locs1 : List Loc), Wd true D cy ad s.heap μ1 ν H1 locs1 → W p l e R s m args below meth c H1 locs1 cells slots Q (F0 m (pc + 3) ls rest)) : W p l e R s m args below meth c H locs cells slots Q (F0 m pc ls (.int x1 :: .ref (ad (53 + 3 * t)) :: rest)) :=
  rCVV (As := [.int x1]) (k := 53 + 3 * t) (ct3_put ht hg) ok3 lX3_put k_435 (sT ht) rfl rfl C X rfl hrm hsz hR hcs hd kk
set_option maxRecDepth 100000 in
set_option maxHeartbeats 4000000 in
theorem w2_joins {p : Program} {l : Launch} {e : Env} {s : State} {m : MethodId} {args : Array Value} {below : List Frame} {meth : Method} {c : Code} {D : va_G} {cy : Nat → ClassId} {ad : Nat → Nat} {r : Int32} {μ : Mem} {ν : Lem} (C : Cx true p s m args meth c cX2_joins 2 RX2 D cy ad) (hr : meth.sig.returnType = some .boolean) : ∀ (x1 : Int32), f2_joins μ x1 = r → ∀ (H : Heap) (locs : List Loc), Wd true D cy ad s.heap μ ν H locs → ∀ (ls : Array Slot), lv_has ls 2 [(0, .ref (ad 3)), (1, .int x1)] → WI true p l e 0 0 s m args below meth c D cy ad .boolean r μ ν H locs (F0 m 0 ls []) := by
  have hx := C.1.1
  have hb := C.1.2.1
  have hown := C.1.2.2.2.1
  have hts := C.1.2.2.2.2
  intro x1 hf H locs X ls hl
  unfold f2_joins at hf
  refine lv_iload_n hx hb dX2_joins_0 rfl (lv_at hl 1 rfl) ?_
  by_cases c1_0 : x1 = 0
  · replace hf := ifp c1_0 hf
    refine rTab (v := 0) (off := 35) (tgt := 36) hx hb c1_0 dX2_joins_1 (by decide) (by decide) rfl (by decide) ?_
    refine lv_aload_n hx hb dX2_joins_36 rfl (lv_at hl 0 rfl) ?_
    refine gfX2_48 C X dX2_joins_37 ?_
    refine lv_bipush (v := 9) hx hb dX2_joins_40 (by decide) ?_
    refine lv_icmp_ne (tgt := 49) hx hb dX2_joins_42 (by decide) (fun c42 => ?_) (fun c42 => ?_)
    · replace hf := ifn c42 hf
      refine lv_iconst (v := 0) hx hb dX2_joins_49 (by decide) ?_
      exact retI C X hr rfl hf rfl rfl dX2_joins_50
    · replace hf := ifp c42 hf
      refine lv_iconst (v := 1) hx hb dX2_joins_45 (by decide) ?_
      refine lv_goto (tgt := 50) hx hb dX2_joins_46 (by decide) ?_
      exact retI C X hr rfl hf rfl rfl dX2_joins_50
  · replace hf := ifn c1_0 hf
    by_cases c1_1 : x1 = 1
    · replace hf := ifp c1_1 hf
      refine rTab (v := 1) (off := 50) (tgt := 51) hx hb c1_1 dX2_joins_1 (by decide) (by decide) rfl (by decide) ?_
      refine lv_aload_n hx hb dX2_joins_51 rfl (lv_at hl 0 rfl) ?_
      refine gfX2_48 C X dX2_joins_52 ?_
      refine lv_bipush (v := 10) hx hb dX2_joins_55 (by decide) ?_
      refine lv_icmp_ne (tgt := 64) hx hb dX2_joins_57 (by decide) (fun c57 => ?_) (fun c57 => ?_)
      · replace hf := ifn c57 hf
        refine lv_iconst (v := 0) hx hb dX2_joins_64 (by decide) ?_
        exact retI C X hr rfl hf rfl rfl dX2_joins_65
      · replace hf := ifp c57 hf
        refine lv_iconst (v := 1) hx hb dX2_joins_60 (by decide) ?_
        refine lv_goto (tgt := 65) hx hb dX2_joins_61 (by decide) ?_
        exact retI C X hr rfl hf rfl rfl dX2_joins_65
    · replace hf := ifn c1_1 hf
      by_cases c1_2 : x1 = 2
      · replace hf := ifp c1_2 hf
        refine rTab (v := 2) (off := 65) (tgt := 66) hx hb c1_2 dX2_joins_1 (by decide) (by decide) rfl (by decide) ?_
        refine lv_aload_n hx hb dX2_joins_66 rfl (lv_at hl 0 rfl) ?_
        refine gfX2_48 C X dX2_joins_67 ?_
        refine lv_bipush (v := 18) hx hb dX2_joins_70 (by decide) ?_
        refine lv_icmp_eq (tgt := 84) hx hb dX2_joins_72 (by decide) (fun c72 => ?_) (fun c72 => ?_)
        · replace hf := ifp c72 hf
          refine lv_iconst (v := 1) hx hb dX2_joins_84 (by decide) ?_
          refine lv_goto (tgt := 89) hx hb dX2_joins_85 (by decide) ?_
          exact retI C X hr rfl hf rfl rfl dX2_joins_89
        · replace hf := ifn c72 hf
          refine lv_aload_n hx hb dX2_joins_75 rfl (lv_at hl 0 rfl) ?_
          refine gfX2_48 C X dX2_joins_76 ?_
          refine lv_bipush (v := 19) hx hb dX2_joins_79 (by decide) ?_
          refine lv_icmp_ne (tgt := 88) hx hb dX2_joins_81 (by decide) (fun c81 => ?_) (fun c81 => ?_)
          · replace hf := ifn c81 hf
            refine lv_iconst (v := 0) hx hb dX2_joins_88 (by decide) ?_
            exact retI C X hr rfl hf rfl rfl dX2_joins_89
          · replace hf := ifp c81 hf
            refine lv_iconst (v := 1) hx hb dX2_joins_84 (by decide) ?_
            refine lv_goto (tgt := 89) hx hb dX2_joins_85 (by decide) ?_
            exact retI C X hr rfl hf rfl rfl dX2_joins_89
      · replace hf := ifn c1_2 hf
        by_cases c1_3 : x1 = 3
        · replace hf := ifp c1_3 hf
          refine rTab (v := 3) (off := 89) (tgt := 90) hx hb c1_3 dX2_joins_1 (by decide) (by decide) rfl (by decide) ?_
          refine lv_aload_n hx hb dX2_joins_90 rfl (lv_at hl 0 rfl) ?_
          refine gfX2_48 C X dX2_joins_91 ?_
          refine lv_bipush (v := 15) hx hb dX2_joins_94 (by decide) ?_
          refine lv_icmp_eq (tgt := 108) hx hb dX2_joins_96 (by decide) (fun c96 => ?_) (fun c96 => ?_)
          · replace hf := ifp c96 hf
            refine lv_iconst (v := 1) hx hb dX2_joins_108 (by decide) ?_
            refine lv_goto (tgt := 113) hx hb dX2_joins_109 (by decide) ?_
            exact retI C X hr rfl hf rfl rfl dX2_joins_113
          · replace hf := ifn c96 hf
            refine lv_aload_n hx hb dX2_joins_99 rfl (lv_at hl 0 rfl) ?_
            refine gfX2_48 C X dX2_joins_100 ?_
            refine lv_bipush (v := 16) hx hb dX2_joins_103 (by decide) ?_
            refine lv_icmp_ne (tgt := 112) hx hb dX2_joins_105 (by decide) (fun c105 => ?_) (fun c105 => ?_)
            · replace hf := ifn c105 hf
              refine lv_iconst (v := 0) hx hb dX2_joins_112 (by decide) ?_
              exact retI C X hr rfl hf rfl rfl dX2_joins_113
            · replace hf := ifp c105 hf
              refine lv_iconst (v := 1) hx hb dX2_joins_108 (by decide) ?_
              refine lv_goto (tgt := 113) hx hb dX2_joins_109 (by decide) ?_
              exact retI C X hr rfl hf rfl rfl dX2_joins_113
        · replace hf := ifn c1_3 hf
          by_cases c1_4 : x1 = 4
          · replace hf := ifp c1_4 hf
            refine rTab (v := 4) (off := 113) (tgt := 114) hx hb c1_4 dX2_joins_1 (by decide) (by decide) rfl (by decide) ?_
            refine lv_aload_n hx hb dX2_joins_114 rfl (lv_at hl 0 rfl) ?_
            refine gfX2_48 C X dX2_joins_115 ?_
            refine lv_bipush (v := 17) hx hb dX2_joins_118 (by decide) ?_
            refine lv_icmp_ne (tgt := 127) hx hb dX2_joins_120 (by decide) (fun c120 => ?_) (fun c120 => ?_)
            · replace hf := ifn c120 hf
              refine lv_iconst (v := 0) hx hb dX2_joins_127 (by decide) ?_
              exact retI C X hr rfl hf rfl rfl dX2_joins_128
            · replace hf := ifp c120 hf
              refine lv_iconst (v := 1) hx hb dX2_joins_123 (by decide) ?_
              refine lv_goto (tgt := 128) hx hb dX2_joins_124 (by decide) ?_
              exact retI C X hr rfl hf rfl rfl dX2_joins_128
          · replace hf := ifn c1_4 hf
            refine rTabOut hx hb 129 dX2_joins_1 (by decide) (tab_out 0 5 rfl rfl (by decide) (fun k hk => ?_)) ?_
            · rcases (show k = 0 ∨ k = 1 ∨ k = 2 ∨ k = 3 ∨ k = 4 by omega) with rfl | rfl | rfl | rfl | rfl
              · exact c1_0
              · exact c1_1
              · exact c1_2
              · exact c1_3
              · exact c1_4
            refine lv_iconst (v := 0) hx hb dX2_joins_129 (by decide) ?_
            exact retI C X hr rfl hf rfl rfl dX2_joins_130
theorem ct2_joins {x1 : Int32} {μ : Mem} {ν : Lem} {r : Int32} (hg : f2_joins μ x1 = r) : CtI true yX2_joins cX2_joins 2 0 0 .boolean (fun ad => [.ref (ad 3), .int x1]) μ ν r μ ν :=
  mkI (by decide) rfl (fun ad => Nat.le_of_ble_eq_true rfl) (fun p l e s m args below meth c D cy ad C hr X ls hl => w2_joins C hr x1 hg _ _ X _ hl)
theorem qX2_63 {p : Program} {l : Launch} {e : Env} {R : Room} {s : State} {m : MethodId} {args : Array Value} {below : List Frame} {meth : Method} {c : Code} {H : Heap} {locs : List Loc} {cells slots : Nat} {Q : State → Prop} {cc : ByteArray} {nL : Nat} {D : va_G} {cy : Nat → ClassId} {ad : Nat → Nat} {μ : Mem} {ν : Lem} {pc : Nat} {ls : Array Slot} {rest : List Value} {x1 : Int32} {r : Int32} (hg : f2_joins μ x1 = r) (C : Cx true p s m args meth c cc nL RX2 D cy ad) (X : Wd true D cy ad s.heap μ ν H locs) (hsz : ls.size = nL) (hrm : (rest.map fun v => v.category).sum ≤ 8) (hR : 0 + 1 ≤ R.frames ∧ 8 + (2 + 11) + 0 ≤ R.locals) (hcs : cells ≤ R.cells ∧ slots ≤ R.slots) (hd : decode cc pc = .ok (.invokevirtual 63, 3)) (kk : ∀ (H1 : Heap) (locs1 : List Loc), Wd true D cy ad s.heap μ ν H1 locs1 → narrow .boolean (.int r) = .int r → W p l e R s m args below meth c H1 locs1 cells slots Q (F0 m (pc + 3) ls (.int r :: rest))) : W p l e R s m args below meth c H locs cells slots Q (F0 m pc ls (.int x1 :: .ref (ad 3) :: rest)) :=
  rCVI (As := [.int x1]) (k := 3) (ct2_joins hg) ok2 lX2_joins k_436 rfl rfl rfl C X rfl hrm hsz hR hcs hd kk
set_option maxRecDepth 100000 in
set_option maxHeartbeats 4000000 in
theorem w3_endPart {p : Program} {l : Launch} {e : Env} {s : State} {m : MethodId} {args : Array Value} {below : List Frame} {meth : Method} {c : Code} {D : va_G} {cy : Nat → ClassId} {ad : Nat → Nat} {μ1 : Mem} {ν : Lem} (C : Cx true p s m args meth c cX3_endPart 2 RX3 D cy ad) (hr : meth.sig.returnType = none) : ∀ (μ : Mem) (t : Nat) (x1 : Int32) (ht : t < 6), f3_endPart μ t x1 = some μ1 → ∀ (H : Heap) (locs : List Loc), Wd true D cy ad s.heap μ ν H locs → ∀ (ls : Array Slot), lv_has ls 2 [(0, .ref (ad (53 + 3 * t))), (1, .int x1)] → WV true p l e 0 0 s m args below meth c D cy ad μ1 ν H locs (F0 m 0 ls []) := by
  have hx := C.1.1
  have hb := C.1.2.1
  have hown := C.1.2.2.2.1
  have hts := C.1.2.2.2.2
  intro μ t x1 ht hf H locs X ls hl
  unfold f3_endPart at hf
  refine lv_aload_n hx hb dX3_endPart_0 rfl (lv_at hl 0 rfl) ?_
  refine gfX3_15 (t := t) ht rfl (k2 := (55 + 3 * t)) rfl C X dX3_endPart_1 ?_
  refine lv_iload_n hx hb dX3_endPart_4 rfl (lv_at hl 1 rfl) ?_
  refine lv_aload_n hx hb dX3_endPart_5 rfl (lv_at hl 0 rfl) ?_
  refine gfX3_18 (t := t) ht rfl C X dX3_endPart_6 ?_
  obtain ⟨h9, hf⟩ := gd_e hf
  obtain ⟨μ9, e9, hf⟩ := nm_e2 hf
  refine rIast2 C X (sTe ht) h9 e9 dX3_endPart_9 (fun H locs X => ?_)
  exact retV C X hr (Option.some.inj hf) rfl dX3_endPart_10
theorem ct3_endPart {t : Nat} {x1 : Int32} (ht : t < 6) {μ : Mem} {ν : Lem} {μ1 : Mem} (hg : f3_endPart μ t x1 = some μ1) : CtV true yX3_endPart cX3_endPart 2 0 0 (fun ad => [.ref (ad (53 + 3 * t)), .int x1]) μ ν μ1 ν :=
  mkV (by decide) rfl (fun ad => Nat.le_of_ble_eq_true rfl) (fun p l e s m args below meth c D cy ad C hr X ls hl => w3_endPart C hr μ t x1 ht hg _ _ X _ hl)
theorem qX3_29 {p : Program} {l : Launch} {e : Env} {R : Room} {s : State} {m : MethodId} {args : Array Value} {below : List Frame} {meth : Method} {c : Code} {H : Heap} {locs : List Loc} {cells slots : Nat} {Q : State → Prop} {cc : ByteArray} {nL : Nat} {D : va_G} {cy : Nat → ClassId} {ad : Nat → Nat} {μ : Mem} {ν : Lem} {pc : Nat} {ls : Array Slot} {rest : List Value} {t : Nat} {x1 : Int32} (ht : t < 6) {μ1 : Mem} (hg : f3_endPart μ t x1 = some μ1) (C : Cx true p s m args meth c cc nL RX3 D cy ad) (X : Wd true D cy ad s.heap μ ν H locs) (hsz : ls.size = nL) (hrm : (rest.map fun v => v.category).sum ≤ 8) (hR : 0 + 1 ≤ R.frames ∧ 8 + (2 + 11) + 0 ≤ R.locals) (hcs : cells ≤ R.cells ∧ slots ≤ R.slots) (hd : decode cc pc = .ok (.invokevirtual 29, 3)) (kk : ∀ (H1 : Heap) (locs1 : List Loc), Wd true D cy ad s.heap μ1 ν H1 locs1 → W p l e R s m args below meth c H1 locs1 cells slots Q (F0 m (pc + 3) ls rest)) : W p l e R s m args below meth c H locs cells slots Q (F0 m pc ls (.int x1 :: .ref (ad (53 + 3 * t)) :: rest)) :=
  rCVV (As := [.int x1]) (k := 53 + 3 * t) (ct3_endPart ht hg) ok3 lX3_endPart k_160 (sT ht) rfl rfl C X rfl hrm hsz hR hcs hd kk
theorem qX2_45 {p : Program} {l : Launch} {e : Env} {R : Room} {s : State} {m : MethodId} {args : Array Value} {below : List Frame} {meth : Method} {c : Code} {H : Heap} {locs : List Loc} {cells slots : Nat} {Q : State → Prop} {cc : ByteArray} {nL : Nat} {D : va_G} {cy : Nat → ClassId} {ad : Nat → Nat} {μ : Mem} {ν : Lem} {pc : Nat} {ls : Array Slot} {rest : List Value} {t : Nat} {x1 : Int32} (ht : t < 6) {μ1 : Mem} (hg : f3_endPart μ t x1 = some μ1) (C : Cx true p s m args meth c cc nL RX2 D cy ad) (X : Wd true D cy ad s.heap μ ν H locs) (hsz : ls.size = nL) (hrm : (rest.map fun v => v.category).sum ≤ 8) (hR : 0 + 1 ≤ R.frames ∧ 8 + (2 + 11) + 0 ≤ R.locals) (hcs : cells ≤ R.cells ∧ slots ≤ R.slots) (hd : decode cc pc = .ok (.invokevirtual 45, 3)) (kk : ∀ (H1 : Heap) (locs1 : List Loc), Wd true D cy ad s.heap μ1 ν H1 locs1 → W p l e R s m args below meth c H1 locs1 cells slots Q (F0 m (pc + 3) ls rest)) : W p l e R s m args below meth c H locs cells slots Q (F0 m pc ls (.int x1 :: .ref (ad (53 + 3 * t)) :: rest)) :=
  rCVV (As := [.int x1]) (k := 53 + 3 * t) (ct3_endPart ht hg) ok3 lX3_endPart k_440 (sT ht) rfl rfl C X rfl hrm hsz hR hcs hd kk
set_option maxRecDepth 100000 in
set_option maxHeartbeats 4000000 in
theorem w3_truth {p : Program} {l : Launch} {e : Env} {s : State} {m : MethodId} {args : Array Value} {below : List Frame} {meth : Method} {c : Code} {D : va_G} {cy : Nat → ClassId} {ad : Nat → Nat} {r : Int32} {μ : Mem} {ν : Lem} (C : Cx true p s m args meth c cX3_truth 1 RX3 D cy ad) (hr : meth.sig.returnType = some .int) : ∀ (x0 : Int32), f3_truth x0 = r → ∀ (H : Heap) (locs : List Loc), Wd true D cy ad s.heap μ ν H locs → ∀ (ls : Array Slot), lv_has ls 1 [(0, .int x0)] → WI true p l e 0 0 s m args below meth c D cy ad .int r μ ν H locs (F0 m 0 ls []) := by
  have hx := C.1.1
  have hb := C.1.2.1
  have hown := C.1.2.2.2.1
  have hts := C.1.2.2.2.2
  intro x0 hf H locs X ls hl
  unfold f3_truth at hf
  refine lv_iload_n hx hb dX3_truth_0 rfl (lv_at hl 0 rfl) ?_
  refine lv_if_eq (tgt := 8) hx hb dX3_truth_1 (by decide) (fun c1 => ?_) (fun c1 => ?_)
  · replace hf := ifp c1 hf
    refine lv_iconst (v := 0) hx hb dX3_truth_8 (by decide) ?_
    exact retI C X hr rfl hf rfl rfl dX3_truth_9
  · replace hf := ifn c1 hf
    refine lv_iconst (v := 1) hx hb dX3_truth_4 (by decide) ?_
    refine lv_goto (tgt := 9) hx hb dX3_truth_5 (by decide) ?_
    exact retI C X hr rfl hf rfl rfl dX3_truth_9
theorem ct3_truth {x0 : Int32} {μ : Mem} {ν : Lem} {r : Int32} (hg : f3_truth x0 = r) : CtI true yX3_truth cX3_truth 1 0 0 .int (fun ad => [.int x0]) μ ν r μ ν :=
  mkI (by decide) rfl (fun ad => Nat.le_of_ble_eq_true rfl) (fun p l e s m args below meth c D cy ad C hr X ls hl => w3_truth C hr x0 hg _ _ X _ hl)
theorem qX3_32 {p : Program} {l : Launch} {e : Env} {R : Room} {s : State} {m : MethodId} {args : Array Value} {below : List Frame} {meth : Method} {c : Code} {H : Heap} {locs : List Loc} {cells slots : Nat} {Q : State → Prop} {cc : ByteArray} {nL : Nat} {D : va_G} {cy : Nat → ClassId} {ad : Nat → Nat} {μ : Mem} {ν : Lem} {pc : Nat} {ls : Array Slot} {rest : List Value} {x0 : Int32} {r : Int32} (hg : f3_truth x0 = r) (C : Cx true p s m args meth c cc nL RX3 D cy ad) (X : Wd true D cy ad s.heap μ ν H locs) (hsz : ls.size = nL) (hrm : (rest.map fun v => v.category).sum ≤ 8) (hR : 0 + 1 ≤ R.frames ∧ 8 + (1 + 11) + 0 ≤ R.locals) (hcs : cells ≤ R.cells ∧ slots ≤ R.slots) (hd : decode cc pc = .ok (.invokestatic 32, 3)) (kk : ∀ (H1 : Heap) (locs1 : List Loc), Wd true D cy ad s.heap μ ν H1 locs1 → narrow .int (.int r) = .int r → W p l e R s m args below meth c H1 locs1 cells slots Q (F0 m (pc + 3) ls (.int r :: rest))) : W p l e R s m args below meth c H locs cells slots Q (F0 m pc ls (.int x0 :: rest)) :=
  rCSI (As := [.int x0]) (ct3_truth hg) lX3_truth k_495 rfl rfl C X rfl hrm hsz hR hcs hd kk
set_option maxRecDepth 100000 in
set_option maxHeartbeats 4000000 in
theorem w3_joined_6 {p : Program} {l : Launch} {e : Env} {s : State} {m : MethodId} {args : Array Value} {below : List Frame} {meth : Method} {c : Code} {D : va_G} {cy : Nat → ClassId} {ad : Nat → Nat} {r : Int32} {μ : Mem} {ν : Lem} (C : Cx true p s m args meth c cX3_joined 3 RX3 D cy ad) (hr : meth.sig.returnType = some .int) : ∀ (t0 : Int32), f3_joined_6 t0 = r → ∀ (H : Heap) (locs : List Loc), Wd true D cy ad s.heap μ ν H locs → ∀ (ls : Array Slot), lv_has ls 3 [] → WI true p l e 1 20 s m args below meth c D cy ad .int r μ ν H locs (F0 m 118 ls [.int t0]) := by
  have hx := C.1.1
  have hb := C.1.2.1
  have hown := C.1.2.2.2.1
  have hts := C.1.2.2.2.2
  intro t0 hf H locs X ls hl
  unfold f3_joined_6 at hf
  refine qX3_32 rfl C X hl.1 ((Nat.le_of_ble_eq_true rfl)) ⟨(Nat.le_of_ble_eq_true rfl), (Nat.le_of_ble_eq_true rfl)⟩ ⟨Nat.zero_le _, Nat.zero_le _⟩ dX3_joined_118 (fun H locs X b118 => ?_)
  exact retI C X hr rfl hf rfl rfl dX3_joined_121
set_option maxRecDepth 100000 in
set_option maxHeartbeats 4000000 in
theorem w3_joined_5 {p : Program} {l : Launch} {e : Env} {s : State} {m : MethodId} {args : Array Value} {below : List Frame} {meth : Method} {c : Code} {D : va_G} {cy : Nat → ClassId} {ad : Nat → Nat} {r : Int32} {μ : Mem} {ν : Lem} (C : Cx true p s m args meth c cX3_joined 3 RX3 D cy ad) (hr : meth.sig.returnType = some .int) : ∀ (t0 : Int32), f3_joined_5 t0 = r → ∀ (H : Heap) (locs : List Loc), Wd true D cy ad s.heap μ ν H locs → ∀ (ls : Array Slot), lv_has ls 3 [] → WI true p l e 1 20 s m args below meth c D cy ad .int r μ ν H locs (F0 m 104 ls [.int t0]) := by
  have hx := C.1.1
  have hb := C.1.2.1
  have hown := C.1.2.2.2.1
  have hts := C.1.2.2.2.2
  intro t0 hf H locs X ls hl
  unfold f3_joined_5 at hf
  refine qX3_32 rfl C X hl.1 ((Nat.le_of_ble_eq_true rfl)) ⟨(Nat.le_of_ble_eq_true rfl), (Nat.le_of_ble_eq_true rfl)⟩ ⟨Nat.zero_le _, Nat.zero_le _⟩ dX3_joined_104 (fun H locs X b104 => ?_)
  exact retI C X hr rfl hf rfl rfl dX3_joined_107
set_option maxRecDepth 100000 in
set_option maxHeartbeats 4000000 in
theorem w3_joined_4 {p : Program} {l : Launch} {e : Env} {s : State} {m : MethodId} {args : Array Value} {below : List Frame} {meth : Method} {c : Code} {D : va_G} {cy : Nat → ClassId} {ad : Nat → Nat} {r : Int32} {μ : Mem} {ν : Lem} (C : Cx true p s m args meth c cX3_joined 3 RX3 D cy ad) (hr : meth.sig.returnType = some .int) : ∀ (t0 : Int32), f3_joined_4 t0 = r → ∀ (H : Heap) (locs : List Loc), Wd true D cy ad s.heap μ ν H locs → ∀ (ls : Array Slot), lv_has ls 3 [] → WI true p l e 1 20 s m args below meth c D cy ad .int r μ ν H locs (F0 m 90 ls [.int t0]) := by
  have hx := C.1.1
  have hb := C.1.2.1
  have hown := C.1.2.2.2.1
  have hts := C.1.2.2.2.2
  intro t0 hf H locs X ls hl
  unfold f3_joined_4 at hf
  refine qX3_32 rfl C X hl.1 ((Nat.le_of_ble_eq_true rfl)) ⟨(Nat.le_of_ble_eq_true rfl), (Nat.le_of_ble_eq_true rfl)⟩ ⟨Nat.zero_le _, Nat.zero_le _⟩ dX3_joined_90 (fun H locs X b90 => ?_)
  exact retI C X hr rfl hf rfl rfl dX3_joined_93
set_option maxRecDepth 100000 in
set_option maxHeartbeats 4000000 in
theorem w3_joined_3 {p : Program} {l : Launch} {e : Env} {s : State} {m : MethodId} {args : Array Value} {below : List Frame} {meth : Method} {c : Code} {D : va_G} {cy : Nat → ClassId} {ad : Nat → Nat} {r : Int32} {μ : Mem} {ν : Lem} (C : Cx true p s m args meth c cX3_joined 3 RX3 D cy ad) (hr : meth.sig.returnType = some .int) : f3_joined_3 = r → ∀ (H : Heap) (locs : List Loc), Wd true D cy ad s.heap μ ν H locs → ∀ (ls : Array Slot), lv_has ls 3 [] → WI true p l e 1 20 s m args below meth c D cy ad .int r μ ν H locs (F0 m 89 ls []) := by
  have hx := C.1.1
  have hb := C.1.2.1
  have hown := C.1.2.2.2.1
  have hts := C.1.2.2.2.2
  intro hf H locs X ls hl
  unfold f3_joined_3 at hf
  refine lv_iconst (v := 0) hx hb dX3_joined_89 (by decide) ?_
  exact w3_joined_4 C hr  0 hf _ _ X _ (lv_sub hl [] rfl)
set_option maxRecDepth 100000 in
set_option maxHeartbeats 4000000 in
theorem w3_joined_2 {p : Program} {l : Launch} {e : Env} {s : State} {m : MethodId} {args : Array Value} {below : List Frame} {meth : Method} {c : Code} {D : va_G} {cy : Nat → ClassId} {ad : Nat → Nat} {r : Int32} {μ : Mem} {ν : Lem} (C : Cx true p s m args meth c cX3_joined 3 RX3 D cy ad) (hr : meth.sig.returnType = some .int) : ∀ (t0 : Int32), f3_joined_2 t0 = r → ∀ (H : Heap) (locs : List Loc), Wd true D cy ad s.heap μ ν H locs → ∀ (ls : Array Slot), lv_has ls 3 [] → WI true p l e 1 20 s m args below meth c D cy ad .int r μ ν H locs (F0 m 73 ls [.int t0]) := by
  have hx := C.1.1
  have hb := C.1.2.1
  have hown := C.1.2.2.2.1
  have hts := C.1.2.2.2.2
  intro t0 hf H locs X ls hl
  unfold f3_joined_2 at hf
  refine qX3_32 rfl C X hl.1 ((Nat.le_of_ble_eq_true rfl)) ⟨(Nat.le_of_ble_eq_true rfl), (Nat.le_of_ble_eq_true rfl)⟩ ⟨Nat.zero_le _, Nat.zero_le _⟩ dX3_joined_73 (fun H locs X b73 => ?_)
  exact retI C X hr rfl hf rfl rfl dX3_joined_76
set_option maxRecDepth 100000 in
set_option maxHeartbeats 4000000 in
theorem w3_joined_1 {p : Program} {l : Launch} {e : Env} {s : State} {m : MethodId} {args : Array Value} {below : List Frame} {meth : Method} {c : Code} {D : va_G} {cy : Nat → ClassId} {ad : Nat → Nat} {r : Int32} {μ : Mem} {ν : Lem} (C : Cx true p s m args meth c cX3_joined 3 RX3 D cy ad) (hr : meth.sig.returnType = some .int) : f3_joined_1 = r → ∀ (H : Heap) (locs : List Loc), Wd true D cy ad s.heap μ ν H locs → ∀ (ls : Array Slot), lv_has ls 3 [] → WI true p l e 1 20 s m args below meth c D cy ad .int r μ ν H locs (F0 m 68 ls []) := by
  have hx := C.1.1
  have hb := C.1.2.1
  have hown := C.1.2.2.2.1
  have hts := C.1.2.2.2.2
  intro hf H locs X ls hl
  unfold f3_joined_1 at hf
  refine lv_iconst (v := 1) hx hb dX3_joined_68 (by decide) ?_
  refine lv_goto (tgt := 73) hx hb dX3_joined_69 (by decide) ?_
  exact w3_joined_2 C hr  1 hf _ _ X _ (lv_sub hl [] rfl)
set_option maxRecDepth 100000 in
set_option maxHeartbeats 4000000 in
theorem w3_joined {p : Program} {l : Launch} {e : Env} {s : State} {m : MethodId} {args : Array Value} {below : List Frame} {meth : Method} {c : Code} {D : va_G} {cy : Nat → ClassId} {ad : Nat → Nat} {r : Int32} {μ : Mem} {ν : Lem} (C : Cx true p s m args meth c cX3_joined 3 RX3 D cy ad) (hr : meth.sig.returnType = some .int) : ∀ (x0 : Int32) (x1 : Int32) (x2 : Int32), f3_joined x0 x1 x2 = r → ∀ (H : Heap) (locs : List Loc), Wd true D cy ad s.heap μ ν H locs → ∀ (ls : Array Slot), lv_has ls 3 [(0, .int x0), (1, .int x1), (2, .int x2)] → WI true p l e 1 20 s m args below meth c D cy ad .int r μ ν H locs (F0 m 0 ls []) := by
  have hx := C.1.1
  have hb := C.1.2.1
  have hown := C.1.2.2.2.1
  have hts := C.1.2.2.2.2
  intro x0 x1 x2 hf H locs X ls hl
  unfold f3_joined at hf
  refine lv_iload_n hx hb dX3_joined_0 rfl (lv_at hl 0 rfl) ?_
  by_cases c1_9 : x0 = 9
  · replace hf := ifp c1_9 hf
    refine rTab (v := 9) (off := 59) (tgt := 60) hx hb c1_9 dX3_joined_1 (by decide) (by decide) rfl (by decide) ?_
    refine lv_iload_n hx hb dX3_joined_60 rfl (lv_at hl 1 rfl) ?_
    refine lv_if_ne (tgt := 68) hx hb dX3_joined_61 (by decide) (fun c61 => ?_) (fun c61 => ?_)
    · replace hf := ifn c61 hf
      exact w3_joined_1 C hr  hf _ _ X _ (lv_sub hl [] rfl)
    · replace hf := ifp c61 hf
      refine lv_iload_n hx hb dX3_joined_64 rfl (lv_at hl 2 rfl) ?_
      refine lv_if_eq (tgt := 72) hx hb dX3_joined_65 (by decide) (fun c65 => ?_) (fun c65 => ?_)
      · replace hf := ifp c65 hf
        refine lv_iconst (v := 0) hx hb dX3_joined_72 (by decide) ?_
        exact w3_joined_2 C hr  0 hf _ _ X _ (lv_sub hl [] rfl)
      · replace hf := ifn c65 hf
        exact w3_joined_1 C hr  hf _ _ X _ (lv_sub hl [] rfl)
  · replace hf := ifn c1_9 hf
    by_cases c1_10 : x0 = 10
    · replace hf := ifp c1_10 hf
      refine rTab (v := 10) (off := 76) (tgt := 77) hx hb c1_10 dX3_joined_1 (by decide) (by decide) rfl (by decide) ?_
      refine lv_iload_n hx hb dX3_joined_77 rfl (lv_at hl 1 rfl) ?_
      refine lv_if_eq (tgt := 89) hx hb dX3_joined_78 (by decide) (fun c78 => ?_) (fun c78 => ?_)
      · replace hf := ifp c78 hf
        exact w3_joined_3 C hr  hf _ _ X _ (lv_sub hl [] rfl)
      · replace hf := ifn c78 hf
        refine lv_iload_n hx hb dX3_joined_81 rfl (lv_at hl 2 rfl) ?_
        refine lv_if_eq (tgt := 89) hx hb dX3_joined_82 (by decide) (fun c82 => ?_) (fun c82 => ?_)
        · replace hf := ifp c82 hf
          exact w3_joined_3 C hr  hf _ _ X _ (lv_sub hl [] rfl)
        · replace hf := ifn c82 hf
          refine lv_iconst (v := 1) hx hb dX3_joined_85 (by decide) ?_
          refine lv_goto (tgt := 90) hx hb dX3_joined_86 (by decide) ?_
          exact w3_joined_4 C hr  1 hf _ _ X _ (lv_sub hl [] rfl)
    · replace hf := ifn c1_10 hf
      by_cases c1_15 : x0 = 15
      · replace hf := ifp c1_15 hf
        refine rTab (v := 15) (off := 121) (tgt := 122) hx hb c1_15 dX3_joined_1 (by decide) (by decide) rfl (by decide) ?_
        refine lv_iload_n hx hb dX3_joined_122 rfl (lv_at hl 1 rfl) ?_
        refine lv_iload_n hx hb dX3_joined_123 rfl (lv_at hl 2 rfl) ?_
        refine lv_iadd hx hb dX3_joined_124 ?_
        exact retI C X hr rfl hf rfl rfl dX3_joined_125
      · replace hf := ifn c1_15 hf
        by_cases c1_16 : x0 = 16
        · replace hf := ifp c1_16 hf
          refine rTab (v := 16) (off := 125) (tgt := 126) hx hb c1_16 dX3_joined_1 (by decide) (by decide) rfl (by decide) ?_
          refine lv_iload_n hx hb dX3_joined_126 rfl (lv_at hl 1 rfl) ?_
          refine lv_iload_n hx hb dX3_joined_127 rfl (lv_at hl 2 rfl) ?_
          refine lv_isub hx hb dX3_joined_128 ?_
          exact retI C X hr rfl hf rfl rfl dX3_joined_129
        · replace hf := ifn c1_16 hf
          by_cases c1_18 : x0 = 18
          · replace hf := ifp c1_18 hf
            refine rTab (v := 18) (off := 93) (tgt := 94) hx hb c1_18 dX3_joined_1 (by decide) (by decide) rfl (by decide) ?_
            refine lv_iload_n hx hb dX3_joined_94 rfl (lv_at hl 1 rfl) ?_
            refine lv_iload_n hx hb dX3_joined_95 rfl (lv_at hl 2 rfl) ?_
            refine lv_icmp_ge (tgt := 103) hx hb dX3_joined_96 (by decide) (fun c96 => ?_) (fun c96 => ?_)
            · replace hf := ifp c96 hf
              refine lv_iconst (v := 0) hx hb dX3_joined_103 (by decide) ?_
              exact w3_joined_5 C hr  0 hf _ _ X _ (lv_sub hl [] rfl)
            · replace hf := ifn c96 hf
              refine lv_iconst (v := 1) hx hb dX3_joined_99 (by decide) ?_
              refine lv_goto (tgt := 104) hx hb dX3_joined_100 (by decide) ?_
              exact w3_joined_5 C hr  1 hf _ _ X _ (lv_sub hl [] rfl)
          · replace hf := ifn c1_18 hf
            by_cases c1_19 : x0 = 19
            · replace hf := ifp c1_19 hf
              refine rTab (v := 19) (off := 107) (tgt := 108) hx hb c1_19 dX3_joined_1 (by decide) (by decide) rfl (by decide) ?_
              refine lv_iload_n hx hb dX3_joined_108 rfl (lv_at hl 1 rfl) ?_
              refine lv_iload_n hx hb dX3_joined_109 rfl (lv_at hl 2 rfl) ?_
              refine lv_icmp_ne (tgt := 117) hx hb dX3_joined_110 (by decide) (fun c110 => ?_) (fun c110 => ?_)
              · replace hf := ifn c110 hf
                refine lv_iconst (v := 0) hx hb dX3_joined_117 (by decide) ?_
                exact w3_joined_6 C hr  0 hf _ _ X _ (lv_sub hl [] rfl)
              · replace hf := ifp c110 hf
                refine lv_iconst (v := 1) hx hb dX3_joined_113 (by decide) ?_
                refine lv_goto (tgt := 118) hx hb dX3_joined_114 (by decide) ?_
                exact w3_joined_6 C hr  1 hf _ _ X _ (lv_sub hl [] rfl)
            · replace hf := ifn c1_19 hf
              by_cases c1_11 : x0 = 11
              · refine rTab (v := 11) (off := 129) (tgt := 130) hx hb c1_11 dX3_joined_1 (by decide) (by decide) rfl (by decide) ?_
                refine lv_iload_n hx hb dX3_joined_130 rfl (lv_at hl 1 rfl) ?_
                refine lv_iload_n hx hb dX3_joined_131 rfl (lv_at hl 2 rfl) ?_
                refine lv_imul hx hb dX3_joined_132 ?_
                exact retI C X hr rfl hf rfl rfl dX3_joined_133
              ·
                by_cases c1_12 : x0 = 12
                · refine rTab (v := 12) (off := 129) (tgt := 130) hx hb c1_12 dX3_joined_1 (by decide) (by decide) rfl (by decide) ?_
                  refine lv_iload_n hx hb dX3_joined_130 rfl (lv_at hl 1 rfl) ?_
                  refine lv_iload_n hx hb dX3_joined_131 rfl (lv_at hl 2 rfl) ?_
                  refine lv_imul hx hb dX3_joined_132 ?_
                  exact retI C X hr rfl hf rfl rfl dX3_joined_133
                ·
                  by_cases c1_13 : x0 = 13
                  · refine rTab (v := 13) (off := 129) (tgt := 130) hx hb c1_13 dX3_joined_1 (by decide) (by decide) rfl (by decide) ?_
                    refine lv_iload_n hx hb dX3_joined_130 rfl (lv_at hl 1 rfl) ?_
                    refine lv_iload_n hx hb dX3_joined_131 rfl (lv_at hl 2 rfl) ?_
                    refine lv_imul hx hb dX3_joined_132 ?_
                    exact retI C X hr rfl hf rfl rfl dX3_joined_133
                  ·
                    by_cases c1_14 : x0 = 14
                    · refine rTab (v := 14) (off := 129) (tgt := 130) hx hb c1_14 dX3_joined_1 (by decide) (by decide) rfl (by decide) ?_
                      refine lv_iload_n hx hb dX3_joined_130 rfl (lv_at hl 1 rfl) ?_
                      refine lv_iload_n hx hb dX3_joined_131 rfl (lv_at hl 2 rfl) ?_
                      refine lv_imul hx hb dX3_joined_132 ?_
                      exact retI C X hr rfl hf rfl rfl dX3_joined_133
                    ·
                      by_cases c1_17 : x0 = 17
                      · refine rTab (v := 17) (off := 129) (tgt := 130) hx hb c1_17 dX3_joined_1 (by decide) (by decide) rfl (by decide) ?_
                        refine lv_iload_n hx hb dX3_joined_130 rfl (lv_at hl 1 rfl) ?_
                        refine lv_iload_n hx hb dX3_joined_131 rfl (lv_at hl 2 rfl) ?_
                        refine lv_imul hx hb dX3_joined_132 ?_
                        exact retI C X hr rfl hf rfl rfl dX3_joined_133
                      ·
                        refine rTabOut hx hb 130 dX3_joined_1 (by decide) (tab_out 9 11 rfl rfl (by decide) (fun k hk => ?_)) ?_
                        · rcases (show k = 0 ∨ k = 1 ∨ k = 2 ∨ k = 3 ∨ k = 4 ∨ k = 5 ∨ k = 6 ∨ k = 7 ∨ k = 8 ∨ k = 9 ∨ k = 10 by omega) with rfl | rfl | rfl | rfl | rfl | rfl | rfl | rfl | rfl | rfl | rfl
                          · exact c1_9
                          · exact c1_10
                          · exact c1_11
                          · exact c1_12
                          · exact c1_13
                          · exact c1_14
                          · exact c1_15
                          · exact c1_16
                          · exact c1_17
                          · exact c1_18
                          · exact c1_19
                        refine lv_iload_n hx hb dX3_joined_130 rfl (lv_at hl 1 rfl) ?_
                        refine lv_iload_n hx hb dX3_joined_131 rfl (lv_at hl 2 rfl) ?_
                        refine lv_imul hx hb dX3_joined_132 ?_
                        exact retI C X hr rfl hf rfl rfl dX3_joined_133
theorem ct3_joined {x0 : Int32} {x1 : Int32} {x2 : Int32} {μ : Mem} {ν : Lem} {r : Int32} (hg : f3_joined x0 x1 x2 = r) : CtI true yX3_joined cX3_joined 3 1 20 .int (fun ad => [.int x0, .int x1, .int x2]) μ ν r μ ν :=
  mkI (by decide) rfl (fun ad => Nat.le_of_ble_eq_true rfl) (fun p l e s m args below meth c D cy ad C hr X ls hl => w3_joined C hr x0 x1 x2 hg _ _ X _ hl)
theorem qX3_36 {p : Program} {l : Launch} {e : Env} {R : Room} {s : State} {m : MethodId} {args : Array Value} {below : List Frame} {meth : Method} {c : Code} {H : Heap} {locs : List Loc} {cells slots : Nat} {Q : State → Prop} {cc : ByteArray} {nL : Nat} {D : va_G} {cy : Nat → ClassId} {ad : Nat → Nat} {μ : Mem} {ν : Lem} {pc : Nat} {ls : Array Slot} {rest : List Value} {x0 : Int32} {x1 : Int32} {x2 : Int32} {r : Int32} (hg : f3_joined x0 x1 x2 = r) (C : Cx true p s m args meth c cc nL RX3 D cy ad) (X : Wd true D cy ad s.heap μ ν H locs) (hsz : ls.size = nL) (hrm : (rest.map fun v => v.category).sum ≤ 8) (hR : 1 + 1 ≤ R.frames ∧ 8 + (3 + 11) + 20 ≤ R.locals) (hcs : cells ≤ R.cells ∧ slots ≤ R.slots) (hd : decode cc pc = .ok (.invokestatic 36, 3)) (kk : ∀ (H1 : Heap) (locs1 : List Loc), Wd true D cy ad s.heap μ ν H1 locs1 → narrow .int (.int r) = .int r → W p l e R s m args below meth c H1 locs1 cells slots Q (F0 m (pc + 3) ls (.int r :: rest))) : W p l e R s m args below meth c H locs cells slots Q (F0 m pc ls (.int x2 :: .int x1 :: .int x0 :: rest)) :=
  rCSI (As := [.int x0, .int x1, .int x2]) (ct3_joined hg) lX3_joined k_498 rfl rfl C X rfl hrm hsz hR hcs hd kk
set_option maxRecDepth 100000 in
set_option maxHeartbeats 4000000 in
theorem w3_tell_4 {p : Program} {l : Launch} {e : Env} {s : State} {m : MethodId} {args : Array Value} {below : List Frame} {meth : Method} {c : Code} {D : va_G} {cy : Nat → ClassId} {ad : Nat → Nat} {r : Int32} {μ1 : Mem} {ν : Lem} (C : Cx true p s m args meth c cX3_tell 7 RX3 D cy ad) (hr : meth.sig.returnType = some .int) (K21 : Mem → Nat → Int32 → Int32 → Int32 → Option (Int32 × Mem)) (hK21 : ∀ (μ : Mem) (t : Nat) (x1 : Int32) (x4 : Int32) (x5 : Int32) (ht : t < 6), K21 μ t x1 x4 x5 = some (r, μ1) → ∀ (H : Heap) (locs : List Loc), Wd true D cy ad s.heap μ ν H locs → ∀ (ls : Array Slot), lv_has ls 7 [(0, .ref (ad (53 + 3 * t))), (1, .int x1), (2, .ref (ad 9)), (3, .ref (ad 10)), (4, .int x4), (5, .int x5)] → WI true p l e 2 42 s m args below meth c D cy ad .int r μ1 ν H locs (F0 m 21 ls [])) : ∀ (μ : Mem) (t : Nat) (x1 : Int32) (x4 : Int32) (x5 : Int32) (t1 : Int32) (t2 : Int32) (ht : t < 6), f3_tell_4 K21 μ t x1 x4 x5 t1 t2 = some (r, μ1) → ∀ (H : Heap) (locs : List Loc), Wd true D cy ad s.heap μ ν H locs → ∀ (ls : Array Slot), lv_has ls 7 [(0, .ref (ad (53 + 3 * t))), (1, .int x1), (2, .ref (ad 9)), (3, .ref (ad 10)), (4, .int x4), (5, .int x5)] → WI true p l e 2 42 s m args below meth c D cy ad .int r μ1 ν H locs (F0 m 150 ls [.int t2, .int t1, .ref (ad 10)]) := by
  have hx := C.1.1
  have hb := C.1.2.1
  have hown := C.1.2.2.2.1
  have hts := C.1.2.2.2.2
  intro μ t x1 x4 x5 t1 t2 ht hf H locs X ls hl
  unfold f3_tell_4 at hf
  refine qX3_32 rfl C X hl.1 ((Nat.le_of_ble_eq_true rfl)) ⟨(Nat.le_of_ble_eq_true rfl), (Nat.le_of_ble_eq_true rfl)⟩ ⟨Nat.zero_le _, Nat.zero_le _⟩ dX3_tell_150 (fun H locs X b150 => ?_)
  obtain ⟨h153, hf⟩ := gd_e hf
  obtain ⟨μ153, e153, hf⟩ := nm_e2 hf
  refine rIast2 C X rfl h153 e153 dX3_tell_153 (fun H locs X => ?_)
  refine lv_goto (tgt := 189) hx hb dX3_tell_154 (by decide) ?_
  obtain ⟨v189, e189, hf⟩ := nm_e2 hf
  refine rIinc (lv' := [(5, .int v189), (0, .ref (ad (53 + 3 * t))), (1, .int x1), (2, .ref (ad 9)), (3, .ref (ad 10)), (4, .int x4)]) hx hb dX3_tell_189 hl (k := 5) rfl e189 rfl (by decide) rfl (fun ls hl => ?_)
  refine lv_goto (tgt := 21) hx hb dX3_tell_192 (by decide) ?_
  exact hK21 μ153 t x1 x4 v189 ht hf _ _ X _ (lv_sub hl [1, 2, 3, 4, 5, 0] rfl)
set_option maxRecDepth 100000 in
set_option maxHeartbeats 4000000 in
theorem w3_tell_3 {p : Program} {l : Launch} {e : Env} {s : State} {m : MethodId} {args : Array Value} {below : List Frame} {meth : Method} {c : Code} {D : va_G} {cy : Nat → ClassId} {ad : Nat → Nat} {r : Int32} {μ1 : Mem} {ν : Lem} (C : Cx true p s m args meth c cX3_tell 7 RX3 D cy ad) (hr : meth.sig.returnType = some .int) (K21 : Mem → Nat → Int32 → Int32 → Int32 → Option (Int32 × Mem)) (hK21 : ∀ (μ : Mem) (t : Nat) (x1 : Int32) (x4 : Int32) (x5 : Int32) (ht : t < 6), K21 μ t x1 x4 x5 = some (r, μ1) → ∀ (H : Heap) (locs : List Loc), Wd true D cy ad s.heap μ ν H locs → ∀ (ls : Array Slot), lv_has ls 7 [(0, .ref (ad (53 + 3 * t))), (1, .int x1), (2, .ref (ad 9)), (3, .ref (ad 10)), (4, .int x4), (5, .int x5)] → WI true p l e 2 42 s m args below meth c D cy ad .int r μ1 ν H locs (F0 m 21 ls [])) : ∀ (μ : Mem) (t : Nat) (x1 : Int32) (x4 : Int32) (x5 : Int32) (x6 : Int32) (ht : t < 6), f3_tell_3 K21 μ t x1 x4 x5 x6 = some (r, μ1) → ∀ (H : Heap) (locs : List Loc), Wd true D cy ad s.heap μ ν H locs → ∀ (ls : Array Slot), lv_has ls 7 [(0, .ref (ad (53 + 3 * t))), (1, .int x1), (2, .ref (ad 9)), (3, .ref (ad 10)), (4, .int x4), (5, .int x5), (6, .int x6)] → WI true p l e 2 42 s m args below meth c D cy ad .int r μ1 ν H locs (F0 m 106 ls []) := by
  have hx := C.1.1
  have hb := C.1.2.1
  have hown := C.1.2.2.2.1
  have hts := C.1.2.2.2.2
  intro μ t x1 x4 x5 x6 ht hf H locs X ls hl
  unfold f3_tell_3 at hf
  refine lv_iload hx hb dX3_tell_106 (lv_at hl 4 rfl) ?_
  refine lv_iconst (v := 1) hx hb dX3_tell_108 (by decide) ?_
  refine lv_icmp_lt (tgt := 189) hx hb dX3_tell_109 (by decide) (fun c109 => ?_) (fun c109 => ?_)
  · replace hf := ifp c109 hf
    obtain ⟨v189, e189, hf⟩ := nm_e2 hf
    refine rIinc (lv' := [(5, .int v189), (0, .ref (ad (53 + 3 * t))), (1, .int x1), (2, .ref (ad 9)), (3, .ref (ad 10)), (4, .int x4), (6, .int x6)]) hx hb dX3_tell_189 hl (k := 5) rfl e189 rfl (by decide) rfl (fun ls hl => ?_)
    refine lv_goto (tgt := 21) hx hb dX3_tell_192 (by decide) ?_
    exact hK21 μ t x1 x4 v189 ht hf _ _ X _ (lv_sub hl [1, 2, 3, 4, 5, 0] rfl)
  · replace hf := ifn c109 hf
    refine lv_aload_n hx hb dX3_tell_112 rfl (lv_at hl 3 rfl) ?_
    refine lv_iload hx hb dX3_tell_113 (lv_at hl 4 rfl) ?_
    refine lv_iconst (v := 1) hx hb dX3_tell_115 (by decide) ?_
    refine lv_isub hx hb dX3_tell_116 ?_
    refine lv_iload hx hb dX3_tell_117 (lv_at hl 6 rfl) ?_
    refine lv_iconst (v := (-1)) hx hb dX3_tell_119 (by decide) ?_
    refine lv_ixor hx hb dX3_tell_120 ?_
    refine lv_bipush (v := 23) hx hb dX3_tell_121 (by decide) ?_
    refine lv_icmp_ne (tgt := 136) hx hb dX3_tell_123 (by decide) (fun c123 => ?_) (fun c123 => ?_)
    · replace hf := ifn c123 hf
      refine lv_aload_n hx hb dX3_tell_136 rfl (lv_at hl 3 rfl) ?_
      refine lv_iload hx hb dX3_tell_137 (lv_at hl 4 rfl) ?_
      refine lv_iconst (v := 1) hx hb dX3_tell_139 (by decide) ?_
      refine lv_isub hx hb dX3_tell_140 ?_
      obtain ⟨h141, hf⟩ := gd_e hf
      refine rIald C X rfl h141 dX3_tell_141 ?_
      refine lv_if_ne (tgt := 149) hx hb dX3_tell_142 (by decide) (fun c142 => ?_) (fun c142 => ?_)
      · replace hf := ifn c142 hf
        refine lv_iconst (v := 0) hx hb dX3_tell_149 (by decide) ?_
        exact w3_tell_4 C hr K21 hK21 μ t x1 x4 x5 (x4 - 1) 0 ht hf _ _ X _ (lv_sub hl [0, 1, 2, 3, 4, 5] rfl)
      · replace hf := ifp c142 hf
        refine lv_iconst (v := 1) hx hb dX3_tell_145 (by decide) ?_
        refine lv_goto (tgt := 150) hx hb dX3_tell_146 (by decide) ?_
        exact w3_tell_4 C hr K21 hK21 μ t x1 x4 x5 (x4 - 1) 1 ht hf _ _ X _ (lv_sub hl [0, 1, 2, 3, 4, 5] rfl)
    · replace hf := ifp c123 hf
      refine lv_aload_n hx hb dX3_tell_126 rfl (lv_at hl 3 rfl) ?_
      refine lv_iload hx hb dX3_tell_127 (lv_at hl 4 rfl) ?_
      refine lv_iconst (v := 1) hx hb dX3_tell_129 (by decide) ?_
      refine lv_isub hx hb dX3_tell_130 ?_
      obtain ⟨h131, hf⟩ := gd_e hf
      refine rIald C X rfl h131 dX3_tell_131 ?_
      refine lv_ineg hx hb dX3_tell_132 ?_
      refine lv_goto (tgt := 153) hx hb dX3_tell_133 (by decide) ?_
      obtain ⟨h153, hf⟩ := gd_e hf
      obtain ⟨μ153, e153, hf⟩ := nm_e2 hf
      refine rIast2 C X rfl h153 e153 dX3_tell_153 (fun H locs X => ?_)
      refine lv_goto (tgt := 189) hx hb dX3_tell_154 (by decide) ?_
      obtain ⟨v189, e189, hf⟩ := nm_e2 hf
      refine rIinc (lv' := [(5, .int v189), (0, .ref (ad (53 + 3 * t))), (1, .int x1), (2, .ref (ad 9)), (3, .ref (ad 10)), (4, .int x4), (6, .int x6)]) hx hb dX3_tell_189 hl (k := 5) rfl e189 rfl (by decide) rfl (fun ls hl => ?_)
      refine lv_goto (tgt := 21) hx hb dX3_tell_192 (by decide) ?_
      exact hK21 μ153 t x1 x4 v189 ht hf _ _ X _ (lv_sub hl [1, 2, 3, 4, 5, 0] rfl)
set_option maxRecDepth 100000 in
set_option maxHeartbeats 4000000 in
theorem w3_tell_2 {p : Program} {l : Launch} {e : Env} {s : State} {m : MethodId} {args : Array Value} {below : List Frame} {meth : Method} {c : Code} {D : va_G} {cy : Nat → ClassId} {ad : Nat → Nat} {r : Int32} {μ1 : Mem} {ν : Lem} (C : Cx true p s m args meth c cX3_tell 7 RX3 D cy ad) (hr : meth.sig.returnType = some .int) (K21 : Mem → Nat → Int32 → Int32 → Int32 → Option (Int32 × Mem)) (hK21 : ∀ (μ : Mem) (t : Nat) (x1 : Int32) (x4 : Int32) (x5 : Int32) (ht : t < 6), K21 μ t x1 x4 x5 = some (r, μ1) → ∀ (H : Heap) (locs : List Loc), Wd true D cy ad s.heap μ ν H locs → ∀ (ls : Array Slot), lv_has ls 7 [(0, .ref (ad (53 + 3 * t))), (1, .int x1), (2, .ref (ad 9)), (3, .ref (ad 10)), (4, .int x4), (5, .int x5)] → WI true p l e 2 42 s m args below meth c D cy ad .int r μ1 ν H locs (F0 m 21 ls [])) : ∀ (μ : Mem) (t : Nat) (x1 : Int32) (x4 : Int32) (x5 : Int32) (x6 : Int32) (ht : t < 6), f3_tell_2 K21 μ t x1 x4 x5 x6 = some (r, μ1) → ∀ (H : Heap) (locs : List Loc), Wd true D cy ad s.heap μ ν H locs → ∀ (ls : Array Slot), lv_has ls 7 [(0, .ref (ad (53 + 3 * t))), (1, .int x1), (2, .ref (ad 9)), (3, .ref (ad 10)), (4, .int x4), (5, .int x5), (6, .int x6)] → WI true p l e 2 42 s m args below meth c D cy ad .int r μ1 ν H locs (F0 m 55 ls []) := by
  have hx := C.1.1
  have hb := C.1.2.1
  have hown := C.1.2.2.2.1
  have hts := C.1.2.2.2.2
  intro μ t x1 x4 x5 x6 ht hf H locs X ls hl
  unfold f3_tell_2 at hf
  refine lv_iload hx hb dX3_tell_55 (lv_at hl 4 rfl) ?_
  refine lv_aload_n hx hb dX3_tell_57 rfl (lv_at hl 3 rfl) ?_
  refine rAlen (v := 160) C X rfl (by decide) dX3_tell_58 ?_
  refine lv_icmp_ge (tgt := 189) hx hb dX3_tell_59 (by decide) (fun c59 => ?_) (fun c59 => ?_)
  · replace hf := ifp c59 hf
    obtain ⟨v189, e189, hf⟩ := nm_e2 hf
    refine rIinc (lv' := [(5, .int v189), (0, .ref (ad (53 + 3 * t))), (1, .int x1), (2, .ref (ad 9)), (3, .ref (ad 10)), (4, .int x4), (6, .int x6)]) hx hb dX3_tell_189 hl (k := 5) rfl e189 rfl (by decide) rfl (fun ls hl => ?_)
    refine lv_goto (tgt := 21) hx hb dX3_tell_192 (by decide) ?_
    exact hK21 μ t x1 x4 v189 ht hf _ _ X _ (lv_sub hl [1, 2, 3, 4, 5, 0] rfl)
  · replace hf := ifn c59 hf
    refine lv_aload_n hx hb dX3_tell_62 rfl (lv_at hl 3 rfl) ?_
    refine lv_iload hx hb dX3_tell_63 (lv_at hl 4 rfl) ?_
    refine lv_iload hx hb dX3_tell_65 (lv_at hl 6 rfl) ?_
    refine lv_if_lt (tgt := 75) hx hb dX3_tell_67 (by decide) (fun c67 => ?_) (fun c67 => ?_)
    · replace hf := ifp c67 hf
      refine lv_aload_n hx hb dX3_tell_75 rfl (lv_at hl 2 rfl) ?_
      refine lv_iload hx hb dX3_tell_76 (lv_at hl 6 rfl) ?_
      refine lv_iconst (v := (-1)) hx hb dX3_tell_78 (by decide) ?_
      refine lv_ixor hx hb dX3_tell_79 ?_
      obtain ⟨h80, hf⟩ := gd_e hf
      refine rIald C X rfl h80 dX3_tell_80 ?_
      obtain ⟨h81, hf⟩ := gd_e hf
      obtain ⟨μ81, e81, hf⟩ := nm_e2 hf
      refine rIast2 C X rfl h81 e81 dX3_tell_81 (fun H locs X => ?_)
      obtain ⟨v82, e82, hf⟩ := nm_e2 hf
      refine rIinc (lv' := [(4, .int v82), (0, .ref (ad (53 + 3 * t))), (1, .int x1), (2, .ref (ad 9)), (3, .ref (ad 10)), (5, .int x5), (6, .int x6)]) hx hb dX3_tell_82 hl (k := 4) rfl e82 rfl (by decide) rfl (fun ls hl => ?_)
      refine lv_goto (tgt := 189) hx hb dX3_tell_85 (by decide) ?_
      obtain ⟨v189, e189, hf⟩ := nm_e2 hf
      refine rIinc (lv' := [(5, .int v189), (4, .int v82), (0, .ref (ad (53 + 3 * t))), (1, .int x1), (2, .ref (ad 9)), (3, .ref (ad 10)), (6, .int x6)]) hx hb dX3_tell_189 hl (k := 5) rfl e189 rfl (by decide) rfl (fun ls hl => ?_)
      refine lv_goto (tgt := 21) hx hb dX3_tell_192 (by decide) ?_
      exact hK21 μ81 t x1 v82 v189 ht hf _ _ X _ (lv_sub hl [2, 3, 4, 5, 1, 0] rfl)
    · replace hf := ifn c67 hf
      refine lv_iload hx hb dX3_tell_70 (lv_at hl 6 rfl) ?_
      refine lv_goto (tgt := 81) hx hb dX3_tell_72 (by decide) ?_
      obtain ⟨h81, hf⟩ := gd_e hf
      obtain ⟨μ81, e81, hf⟩ := nm_e2 hf
      refine rIast2 C X rfl h81 e81 dX3_tell_81 (fun H locs X => ?_)
      obtain ⟨v82, e82, hf⟩ := nm_e2 hf
      refine rIinc (lv' := [(4, .int v82), (0, .ref (ad (53 + 3 * t))), (1, .int x1), (2, .ref (ad 9)), (3, .ref (ad 10)), (5, .int x5), (6, .int x6)]) hx hb dX3_tell_82 hl (k := 4) rfl e82 rfl (by decide) rfl (fun ls hl => ?_)
      refine lv_goto (tgt := 189) hx hb dX3_tell_85 (by decide) ?_
      obtain ⟨v189, e189, hf⟩ := nm_e2 hf
      refine rIinc (lv' := [(5, .int v189), (4, .int v82), (0, .ref (ad (53 + 3 * t))), (1, .int x1), (2, .ref (ad 9)), (3, .ref (ad 10)), (6, .int x6)]) hx hb dX3_tell_189 hl (k := 5) rfl e189 rfl (by decide) rfl (fun ls hl => ?_)
      refine lv_goto (tgt := 21) hx hb dX3_tell_192 (by decide) ?_
      exact hK21 μ81 t x1 v82 v189 ht hf _ _ X _ (lv_sub hl [2, 3, 4, 5, 1, 0] rfl)
set_option maxRecDepth 100000 in
set_option maxHeartbeats 4000000 in
theorem w3_tell_1 {p : Program} {l : Launch} {e : Env} {s : State} {m : MethodId} {args : Array Value} {below : List Frame} {meth : Method} {c : Code} {D : va_G} {cy : Nat → ClassId} {ad : Nat → Nat} {r : Int32} {μ1 : Mem} {ν : Lem} (C : Cx true p s m args meth c cX3_tell 7 RX3 D cy ad) (hr : meth.sig.returnType = some .int) : ∀ (n : Nat), ∀ (μ : Mem) (t : Nat) (x1 : Int32) (x4 : Int32) (x5 : Int32) (ht : t < 6), f3_tell_1 n μ t x1 x4 x5 = some (r, μ1) → ∀ (H : Heap) (locs : List Loc), Wd true D cy ad s.heap μ ν H locs → ∀ (ls : Array Slot), lv_has ls 7 [(0, .ref (ad (53 + 3 * t))), (1, .int x1), (2, .ref (ad 9)), (3, .ref (ad 10)), (4, .int x4), (5, .int x5)] → WI true p l e 2 42 s m args below meth c D cy ad .int r μ1 ν H locs (F0 m 21 ls []) := by
  have hx := C.1.1
  have hb := C.1.2.1
  have hown := C.1.2.2.2.1
  have hts := C.1.2.2.2.2
  intro n
  induction n with
  | zero =>
    intro μ t x1 x4 x5 ht hf H locs X ls hl
    rw [f3_tell_1] at hf
    cases hf
  | succ n ih =>
    intro μ t x1 x4 x5 ht hf H locs X ls hl
    rw [f3_tell_1] at hf
    refine lv_iload hx hb dX3_tell_21 (lv_at hl 5 rfl) ?_
    refine lv_aload_n hx hb dX3_tell_23 rfl (lv_at hl 0 rfl) ?_
    refine gfX3_15 (t := t) ht rfl (k2 := (55 + 3 * t)) rfl C X dX3_tell_24 ?_
    refine lv_iload_n hx hb dX3_tell_27 rfl (lv_at hl 1 rfl) ?_
    obtain ⟨h28, hf⟩ := gd_e hf
    refine rIald C X (sTe ht) h28 dX3_tell_28 ?_
    refine lv_icmp_ge (tgt := 195) hx hb dX3_tell_29 (by decide) (fun c29 => ?_) (fun c29 => ?_)
    · replace hf := ifp c29 hf
      refine lv_iload hx hb dX3_tell_195 (lv_at hl 4 rfl) ?_
      refine lv_iconst (v := 1) hx hb dX3_tell_197 (by decide) ?_
      refine lv_icmp_ge (tgt := 205) hx hb dX3_tell_198 (by decide) (fun c198 => ?_) (fun c198 => ?_)
      · replace hf := ifp c198 hf
        refine lv_aload_n hx hb dX3_tell_205 rfl (lv_at hl 3 rfl) ?_
        refine lv_iload hx hb dX3_tell_206 (lv_at hl 4 rfl) ?_
        refine lv_iconst (v := 1) hx hb dX3_tell_208 (by decide) ?_
        refine lv_isub hx hb dX3_tell_209 ?_
        obtain ⟨h210, hf⟩ := gd_e hf
        refine rIald C X rfl h210 dX3_tell_210 ?_
        exact retI C X hr rfl (so2 hf).1 (so2 hf).2 rfl dX3_tell_211
      · replace hf := ifn c198 hf
        refine lv_iconst (v := 0) hx hb dX3_tell_201 (by decide) ?_
        refine lv_goto (tgt := 211) hx hb dX3_tell_202 (by decide) ?_
        exact retI C X hr rfl (so2 hf).1 (so2 hf).2 rfl dX3_tell_211
    · replace hf := ifn c29 hf
      refine lv_aload_n hx hb dX3_tell_32 rfl (lv_at hl 0 rfl) ?_
      refine gfX3_9 (t := t) ht rfl (k2 := (54 + 3 * t)) rfl C X dX3_tell_33 ?_
      refine lv_iload hx hb dX3_tell_36 (lv_at hl 5 rfl) ?_
      obtain ⟨h38, hf⟩ := gd_e hf
      refine rIald C X (sTc ht) h38 dX3_tell_38 ?_
      obtain ⟨v39, e39, hf⟩ := nm_e2 hf
      refine st_i e39 ?_
      refine lv_istore (lv' := [(6, .int v39), (0, .ref (ad (53 + 3 * t))), (1, .int x1), (2, .ref (ad 9)), (3, .ref (ad 10)), (4, .int x4), (5, .int x5)]) hx hb dX3_tell_39 hl (by decide) rfl (fun ls hl => ?_)
      refine lv_iload hx hb dX3_tell_41 (lv_at hl 0 rfl) ?_
      refine lv_if_ge (tgt := 55) hx hb dX3_tell_43 (by decide) (fun c43 => ?_) (fun c43 => ?_)
      · replace hf := ifp c43 hf
        exact w3_tell_2 C hr (f3_tell_1 n) ih μ t x1 x4 x5 v39 ht hf _ _ X _ (lv_sub hl [1, 2, 3, 4, 5, 6, 0] rfl)
      · replace hf := ifn c43 hf
        refine lv_iload hx hb dX3_tell_46 (lv_at hl 0 rfl) ?_
        refine lv_iconst (v := (-1)) hx hb dX3_tell_48 (by decide) ?_
        refine lv_ixor hx hb dX3_tell_49 ?_
        refine lv_bipush (v := 6) hx hb dX3_tell_50 (by decide) ?_
        refine lv_icmp_ge (tgt := 88) hx hb dX3_tell_52 (by decide) (fun c52 => ?_) (fun c52 => ?_)
        · replace hf := ifp c52 hf
          refine lv_iload hx hb dX3_tell_88 (lv_at hl 0 rfl) ?_
          refine lv_iconst (v := (-1)) hx hb dX3_tell_90 (by decide) ?_
          refine lv_ixor hx hb dX3_tell_91 ?_
          refine lv_bipush (v := 11) hx hb dX3_tell_92 (by decide) ?_
          refine lv_icmp_eq (tgt := 106) hx hb dX3_tell_94 (by decide) (fun c94 => ?_) (fun c94 => ?_)
          · replace hf := ifp c94 hf
            exact w3_tell_3 C hr (f3_tell_1 n) ih μ t x1 x4 x5 v39 ht hf _ _ X _ (lv_sub hl [1, 2, 3, 4, 5, 6, 0] rfl)
          · replace hf := ifn c94 hf
            refine lv_iload hx hb dX3_tell_97 (lv_at hl 0 rfl) ?_
            refine lv_iconst (v := (-1)) hx hb dX3_tell_99 (by decide) ?_
            refine lv_ixor hx hb dX3_tell_100 ?_
            refine lv_bipush (v := 23) hx hb dX3_tell_101 (by decide) ?_
            refine lv_icmp_ne (tgt := 157) hx hb dX3_tell_103 (by decide) (fun c103 => ?_) (fun c103 => ?_)
            · replace hf := ifn c103 hf
              refine lv_iload hx hb dX3_tell_157 (lv_at hl 5 rfl) ?_
              refine lv_iconst (v := 2) hx hb dX3_tell_159 (by decide) ?_
              refine lv_icmp_lt (tgt := 189) hx hb dX3_tell_160 (by decide) (fun c160 => ?_) (fun c160 => ?_)
              · replace hf := ifp c160 hf
                obtain ⟨v189, e189, hf⟩ := nm_e2 hf
                refine rIinc (lv' := [(5, .int v189), (6, .int v39), (0, .ref (ad (53 + 3 * t))), (1, .int x1), (2, .ref (ad 9)), (3, .ref (ad 10)), (4, .int x4)]) hx hb dX3_tell_189 hl (k := 6) rfl e189 rfl (by decide) rfl (fun ls hl => ?_)
                refine lv_goto (tgt := 21) hx hb dX3_tell_192 (by decide) ?_
                exact ih μ t x1 x4 v189 ht hf _ _ X _ (lv_sub hl [2, 3, 4, 5, 6, 0] rfl)
              · replace hf := ifn c160 hf
                obtain ⟨v163, e163, hf⟩ := nm_e2 hf
                refine rIinc (lv' := [(4, .int v163), (6, .int v39), (0, .ref (ad (53 + 3 * t))), (1, .int x1), (2, .ref (ad 9)), (3, .ref (ad 10)), (5, .int x5)]) hx hb dX3_tell_163 hl (k := 5) rfl e163 rfl (by decide) rfl (fun ls hl => ?_)
                refine lv_aload_n hx hb dX3_tell_166 rfl (lv_at hl 5 rfl) ?_
                refine lv_iload hx hb dX3_tell_167 (lv_at hl 0 rfl) ?_
                refine lv_iconst (v := 1) hx hb dX3_tell_169 (by decide) ?_
                refine lv_isub hx hb dX3_tell_170 ?_
                refine lv_iload hx hb dX3_tell_171 (lv_at hl 1 rfl) ?_
                refine lv_iconst (v := (-1)) hx hb dX3_tell_173 (by decide) ?_
                refine lv_ixor hx hb dX3_tell_174 ?_
                refine lv_aload_n hx hb dX3_tell_175 rfl (lv_at hl 5 rfl) ?_
                refine lv_iload hx hb dX3_tell_176 (lv_at hl 0 rfl) ?_
                refine lv_iconst (v := 1) hx hb dX3_tell_178 (by decide) ?_
                refine lv_isub hx hb dX3_tell_179 ?_
                obtain ⟨h180, hf⟩ := gd_e hf
                refine rIald C X rfl h180 dX3_tell_180 ?_
                refine lv_aload_n hx hb dX3_tell_181 rfl (lv_at hl 5 rfl) ?_
                refine lv_iload hx hb dX3_tell_182 (lv_at hl 0 rfl) ?_
                obtain ⟨h184, hf⟩ := gd_e hf
                refine rIald C X rfl h184 dX3_tell_184 ?_
                refine qX3_36 rfl C X hl.1 ((Nat.le_of_ble_eq_true rfl)) ⟨(Nat.le_of_ble_eq_true rfl), (Nat.le_of_ble_eq_true rfl)⟩ ⟨Nat.zero_le _, Nat.zero_le _⟩ dX3_tell_185 (fun H locs X b185 => ?_)
                obtain ⟨h188, hf⟩ := gd_e hf
                obtain ⟨μ188, e188, hf⟩ := nm_e2 hf
                refine rIast2 C X rfl h188 e188 dX3_tell_188 (fun H locs X => ?_)
                obtain ⟨v189, e189, hf⟩ := nm_e2 hf
                refine rIinc (lv' := [(5, .int v189), (4, .int v163), (6, .int v39), (0, .ref (ad (53 + 3 * t))), (1, .int x1), (2, .ref (ad 9)), (3, .ref (ad 10))]) hx hb dX3_tell_189 hl (k := 6) rfl e189 rfl (by decide) rfl (fun ls hl => ?_)
                refine lv_goto (tgt := 21) hx hb dX3_tell_192 (by decide) ?_
                exact ih μ188 t x1 v163 v189 ht hf _ _ X _ (lv_sub hl [3, 4, 5, 6, 1, 0] rfl)
            · replace hf := ifp c103 hf
              exact w3_tell_3 C hr (f3_tell_1 n) ih μ t x1 x4 x5 v39 ht hf _ _ X _ (lv_sub hl [1, 2, 3, 4, 5, 6, 0] rfl)
        · replace hf := ifn c52 hf
          exact w3_tell_2 C hr (f3_tell_1 n) ih μ t x1 x4 x5 v39 ht hf _ _ X _ (lv_sub hl [1, 2, 3, 4, 5, 6, 0] rfl)
set_option maxRecDepth 100000 in
set_option maxHeartbeats 4000000 in
theorem w3_tell {p : Program} {l : Launch} {e : Env} {s : State} {m : MethodId} {args : Array Value} {below : List Frame} {meth : Method} {c : Code} {D : va_G} {cy : Nat → ClassId} {ad : Nat → Nat} {r : Int32} {μ1 : Mem} {ν : Lem} (C : Cx true p s m args meth c cX3_tell 7 RX3 D cy ad) (hr : meth.sig.returnType = some .int) : ∀ (μ : Mem) (t : Nat) (x1 : Int32) (ht : t < 6), f3_tell μ t x1 = some (r, μ1) → ∀ (H : Heap) (locs : List Loc), Wd true D cy ad s.heap μ ν H locs → ∀ (ls : Array Slot), lv_has ls 7 [(0, .ref (ad (53 + 3 * t))), (1, .int x1), (2, .ref (ad 9)), (3, .ref (ad 10))] → WI true p l e 2 42 s m args below meth c D cy ad .int r μ1 ν H locs (F0 m 0 ls []) := by
  have hx := C.1.1
  have hb := C.1.2.1
  have hown := C.1.2.2.2.1
  have hts := C.1.2.2.2.2
  intro μ t x1 ht hf H locs X ls hl
  unfold f3_tell at hf
  refine lv_iconst (v := 0) hx hb dX3_tell_0 (by decide) ?_
  refine lv_istore (lv' := [(4, .int 0), (0, .ref (ad (53 + 3 * t))), (1, .int x1), (2, .ref (ad 9)), (3, .ref (ad 10))]) hx hb dX3_tell_1 hl (by decide) rfl (fun ls hl => ?_)
  refine lv_iload_n hx hb dX3_tell_3 rfl (lv_at hl 2 rfl) ?_
  refine lv_if_ne (tgt := 11) hx hb dX3_tell_4 (by decide) (fun c4 => ?_) (fun c4 => ?_)
  · replace hf := ifn c4 hf
    refine lv_aload_n hx hb dX3_tell_11 rfl (lv_at hl 1 rfl) ?_
    refine gfX3_15 (t := t) ht rfl (k2 := (55 + 3 * t)) rfl C X dX3_tell_12 ?_
    refine lv_iload_n hx hb dX3_tell_15 rfl (lv_at hl 2 rfl) ?_
    refine lv_iconst (v := 1) hx hb dX3_tell_16 (by decide) ?_
    refine lv_isub hx hb dX3_tell_17 ?_
    obtain ⟨h18, hf⟩ := gd_e hf
    refine rIald C X (sTe ht) h18 dX3_tell_18 ?_
    obtain ⟨v19, e19, hf⟩ := nm_e2 hf
    refine st_i e19 ?_
    refine lv_istore (lv' := [(5, .int v19), (4, .int 0), (0, .ref (ad (53 + 3 * t))), (1, .int x1), (2, .ref (ad 9)), (3, .ref (ad 10))]) hx hb dX3_tell_19 hl (by decide) rfl (fun ls hl => ?_)
    exact w3_tell_1 C hr  FUEL μ t x1 0 v19 ht hf _ _ X _ (lv_sub hl [2, 3, 4, 5, 1, 0] rfl)
  · replace hf := ifp c4 hf
    refine lv_iconst (v := 0) hx hb dX3_tell_7 (by decide) ?_
    refine lv_goto (tgt := 19) hx hb dX3_tell_8 (by decide) ?_
    refine lv_istore (lv' := [(5, .int 0), (4, .int 0), (0, .ref (ad (53 + 3 * t))), (1, .int x1), (2, .ref (ad 9)), (3, .ref (ad 10))]) hx hb dX3_tell_19 hl (by decide) rfl (fun ls hl => ?_)
    exact w3_tell_1 C hr  FUEL μ t x1 0 0 ht hf _ _ X _ (lv_sub hl [2, 3, 4, 5, 1, 0] rfl)
theorem ct3_tell {t : Nat} {x1 : Int32} (ht : t < 6) {μ : Mem} {ν : Lem} {r : Int32} {μ1 : Mem} (hg : f3_tell μ t x1 = some (r, μ1)) : CtI true yX3_tell cX3_tell 7 2 42 .int (fun ad => [.ref (ad (53 + 3 * t)), .int x1, .ref (ad 9), .ref (ad 10)]) μ ν r μ1 ν :=
  mkI (by decide) rfl (fun ad => Nat.le_of_ble_eq_true rfl) (fun p l e s m args below meth c D cy ad C hr X ls hl => w3_tell C hr μ t x1 ht hg _ _ X _ hl)
theorem qX5_154 {p : Program} {l : Launch} {e : Env} {R : Room} {s : State} {m : MethodId} {args : Array Value} {below : List Frame} {meth : Method} {c : Code} {H : Heap} {locs : List Loc} {cells slots : Nat} {Q : State → Prop} {cc : ByteArray} {nL : Nat} {D : va_G} {cy : Nat → ClassId} {ad : Nat → Nat} {μ : Mem} {ν : Lem} {pc : Nat} {ls : Array Slot} {rest : List Value} {t : Nat} {x1 : Int32} (ht : t < 6) {r : Int32} {μ1 : Mem} (hg : f3_tell μ t x1 = some (r, μ1)) (C : Cx true p s m args meth c cc nL RX5 D cy ad) (X : Wd true D cy ad s.heap μ ν H locs) (hsz : ls.size = nL) (hrm : (rest.map fun v => v.category).sum ≤ 8) (hR : 2 + 1 ≤ R.frames ∧ 8 + (7 + 11) + 42 ≤ R.locals) (hcs : cells ≤ R.cells ∧ slots ≤ R.slots) (hd : decode cc pc = .ok (.invokevirtual 154, 3)) (kk : ∀ (H1 : Heap) (locs1 : List Loc), Wd true D cy ad s.heap μ1 ν H1 locs1 → narrow .int (.int r) = .int r → W p l e R s m args below meth c H1 locs1 cells slots Q (F0 m (pc + 3) ls (.int r :: rest))) : W p l e R s m args below meth c H locs cells slots Q (F0 m pc ls (.ref (ad 10) :: .ref (ad 9) :: .int x1 :: .ref (ad (53 + 3 * t)) :: rest)) :=
  rCVI (As := [.int x1, .ref (ad 9), .ref (ad 10)]) (k := 53 + 3 * t) (ct3_tell ht hg) ok3 lX3_tell k_491 (sT ht) rfl rfl C X rfl hrm hsz hR hcs hd kk
set_option maxRecDepth 100000 in
set_option maxHeartbeats 4000000 in
theorem w4_endsAhead {p : Program} {l : Launch} {e : Env} {s : State} {m : MethodId} {args : Array Value} {below : List Frame} {meth : Method} {c : Code} {D : va_G} {cy : Nat → ClassId} {ad : Nat → Nat} {r : Int32} {μ : Mem} {ν : Lem} (C : Cx true p s m args meth c cX4_endsAhead 2 RX4 D cy ad) (hr : meth.sig.returnType = some .boolean) : ∀ (j : Nat) (x1 : Int32) (hj : j < 13), f4_endsAhead μ j x1 = some r → ∀ (H : Heap) (locs : List Loc), Wd true D cy ad s.heap μ ν H locs → ∀ (ls : Array Slot), lv_has ls 2 [(0, .ref (ad (14 + 3 * j))), (1, .int x1)] → WI true p l e 0 0 s m args below meth c D cy ad .boolean r μ ν H locs (F0 m 0 ls []) := by
  have hx := C.1.1
  have hb := C.1.2.1
  have hown := C.1.2.2.2.1
  have hts := C.1.2.2.2.2
  intro j x1 hj hf H locs X ls hl
  unfold f4_endsAhead at hf
  refine lv_aload_n hx hb dX4_endsAhead_0 rfl (lv_at hl 0 rfl) ?_
  refine gfX4_25 (j := j) hj rfl C X dX4_endsAhead_1 ?_
  refine lv_iconst (v := 1) hx hb dX4_endsAhead_4 (by decide) ?_
  refine lv_icmp_lt (tgt := 23) hx hb dX4_endsAhead_5 (by decide) (fun c5 => ?_) (fun c5 => ?_)
  · replace hf := ifp c5 hf
    refine lv_iconst (v := 1) hx hb dX4_endsAhead_23 (by decide) ?_
    refine lv_goto (tgt := 28) hx hb dX4_endsAhead_24 (by decide) ?_
    exact retI C X hr rfl (Option.some.inj hf) rfl rfl dX4_endsAhead_28
  · replace hf := ifn c5 hf
    refine lv_aload_n hx hb dX4_endsAhead_8 rfl (lv_at hl 0 rfl) ?_
    refine gfX4_9 (j := j) hj rfl (k2 := (15 + 3 * j)) rfl C X dX4_endsAhead_9 ?_
    refine lv_aload_n hx hb dX4_endsAhead_12 rfl (lv_at hl 0 rfl) ?_
    refine gfX4_25 (j := j) hj rfl C X dX4_endsAhead_13 ?_
    refine lv_iconst (v := 1) hx hb dX4_endsAhead_16 (by decide) ?_
    refine lv_isub hx hb dX4_endsAhead_17 ?_
    obtain ⟨h18, hf⟩ := gd_e hf
    refine rIald C X (sWm hj) h18 dX4_endsAhead_18 ?_
    refine lv_iload_n hx hb dX4_endsAhead_19 rfl (lv_at hl 1 rfl) ?_
    refine lv_icmp_ge (tgt := 27) hx hb dX4_endsAhead_20 (by decide) (fun c20 => ?_) (fun c20 => ?_)
    · replace hf := ifp c20 hf
      refine lv_iconst (v := 0) hx hb dX4_endsAhead_27 (by decide) ?_
      exact retI C X hr rfl (Option.some.inj hf) rfl rfl dX4_endsAhead_28
    · replace hf := ifn c20 hf
      refine lv_iconst (v := 1) hx hb dX4_endsAhead_23 (by decide) ?_
      refine lv_goto (tgt := 28) hx hb dX4_endsAhead_24 (by decide) ?_
      exact retI C X hr rfl (Option.some.inj hf) rfl rfl dX4_endsAhead_28
theorem ct4_endsAhead {j : Nat} {x1 : Int32} (hj : j < 13) {μ : Mem} {ν : Lem} {r : Int32} (hg : f4_endsAhead μ j x1 = some r) : CtI true yX4_endsAhead cX4_endsAhead 2 0 0 .boolean (fun ad => [.ref (ad (14 + 3 * j)), .int x1]) μ ν r μ ν :=
  mkI (by decide) rfl (fun ad => Nat.le_of_ble_eq_true rfl) (fun p l e s m args below meth c D cy ad C hr X ls hl => w4_endsAhead C hr j x1 hj hg _ _ X _ hl)
theorem qX5_116 {p : Program} {l : Launch} {e : Env} {R : Room} {s : State} {m : MethodId} {args : Array Value} {below : List Frame} {meth : Method} {c : Code} {H : Heap} {locs : List Loc} {cells slots : Nat} {Q : State → Prop} {cc : ByteArray} {nL : Nat} {D : va_G} {cy : Nat → ClassId} {ad : Nat → Nat} {μ : Mem} {ν : Lem} {pc : Nat} {ls : Array Slot} {rest : List Value} {j : Nat} {x1 : Int32} (hj : j < 13) {r : Int32} (hg : f4_endsAhead μ j x1 = some r) (C : Cx true p s m args meth c cc nL RX5 D cy ad) (X : Wd true D cy ad s.heap μ ν H locs) (hsz : ls.size = nL) (hrm : (rest.map fun v => v.category).sum ≤ 8) (hR : 0 + 1 ≤ R.frames ∧ 8 + (2 + 11) + 0 ≤ R.locals) (hcs : cells ≤ R.cells ∧ slots ≤ R.slots) (hd : decode cc pc = .ok (.invokevirtual 116, 3)) (kk : ∀ (H1 : Heap) (locs1 : List Loc), Wd true D cy ad s.heap μ ν H1 locs1 → narrow .boolean (.int r) = .int r → W p l e R s m args below meth c H1 locs1 cells slots Q (F0 m (pc + 3) ls (.int r :: rest))) : W p l e R s m args below meth c H locs cells slots Q (F0 m pc ls (.int x1 :: .ref (ad (14 + 3 * j)) :: rest)) :=
  rCVI (As := [.int x1]) (k := 14 + 3 * j) (ct4_endsAhead hj hg) ok4 lX4_endsAhead k_257 (sW hj) rfl rfl C X rfl hrm hsz hR hcs hd kk
set_option maxRecDepth 100000 in
set_option maxHeartbeats 4000000 in
theorem w4_byPoints_3 {p : Program} {l : Launch} {e : Env} {s : State} {m : MethodId} {args : Array Value} {below : List Frame} {meth : Method} {c : Code} {D : va_G} {cy : Nat → ClassId} {ad : Nat → Nat} {r : Int32} {μ : Mem} {ν : Lem} (C : Cx true p s m args meth c cX4_byPoints 7 RX4 D cy ad) (hr : meth.sig.returnType = some .int) : ∀ (j : Nat) (x2 : Int32) (hj : j < 13), f4_byPoints_3 μ j x2 = some r → ∀ (H : Heap) (locs : List Loc), Wd true D cy ad s.heap μ ν H locs → ∀ (ls : Array Slot), lv_has ls 7 [(0, .ref (ad (14 + 3 * j))), (2, .int x2)] → WI true p l e 0 0 s m args below meth c D cy ad .int r μ ν H locs (F0 m 48 ls []) := by
  have hx := C.1.1
  have hb := C.1.2.1
  have hown := C.1.2.2.2.1
  have hts := C.1.2.2.2.2
  intro j x2 hj hf H locs X ls hl
  unfold f4_byPoints_3 at hf
  refine lv_sipush (v := 1000) hx hb dX4_byPoints_48 (by decide) ?_
  refine lv_aload_n hx hb dX4_byPoints_51 rfl (lv_at hl 0 rfl) ?_
  refine gfX4_15 (j := j) hj rfl (k2 := (16 + 3 * j)) rfl C X dX4_byPoints_52 ?_
  refine lv_iload_n hx hb dX4_byPoints_55 rfl (lv_at hl 1 rfl) ?_
  refine lv_if_ne (tgt := 63) hx hb dX4_byPoints_56 (by decide) (fun c56 => ?_) (fun c56 => ?_)
  · replace hf := ifn c56 hf
    refine lv_aload_n hx hb dX4_byPoints_63 rfl (lv_at hl 0 rfl) ?_
    refine gfX4_25 (j := j) hj rfl C X dX4_byPoints_64 ?_
    refine lv_iconst (v := 1) hx hb dX4_byPoints_67 (by decide) ?_
    refine lv_isub hx hb dX4_byPoints_68 ?_
    obtain ⟨h69, hf⟩ := gd_e hf
    refine rIald C X (sWp hj) h69 dX4_byPoints_69 ?_
    refine lv_imul hx hb dX4_byPoints_70 ?_
    exact retI C X hr rfl (Option.some.inj hf) rfl rfl dX4_byPoints_71
  · replace hf := ifp c56 hf
    refine lv_iconst (v := 0) hx hb dX4_byPoints_59 (by decide) ?_
    refine lv_goto (tgt := 69) hx hb dX4_byPoints_60 (by decide) ?_
    obtain ⟨h69, hf⟩ := gd_e hf
    refine rIald C X (sWp hj) h69 dX4_byPoints_69 ?_
    refine lv_imul hx hb dX4_byPoints_70 ?_
    exact retI C X hr rfl (Option.some.inj hf) rfl rfl dX4_byPoints_71
set_option maxRecDepth 100000 in
set_option maxHeartbeats 4000000 in
theorem w4_byPoints_2 {p : Program} {l : Launch} {e : Env} {s : State} {m : MethodId} {args : Array Value} {below : List Frame} {meth : Method} {c : Code} {D : va_G} {cy : Nat → ClassId} {ad : Nat → Nat} {r : Int32} {μ : Mem} {ν : Lem} (C : Cx true p s m args meth c cX4_byPoints 7 RX4 D cy ad) (hr : meth.sig.returnType = some .int) : ∀ (j : Nat) (x1 : Int32) (x2 : Int32) (hj : j < 13), f4_byPoints_2 μ j x1 x2 = some r → ∀ (H : Heap) (locs : List Loc), Wd true D cy ad s.heap μ ν H locs → ∀ (ls : Array Slot), lv_has ls 7 [(0, .ref (ad (14 + 3 * j))), (1, .int x1), (2, .int x2)] → WI true p l e 0 0 s m args below meth c D cy ad .int r μ ν H locs (F0 m 36 ls []) := by
  have hx := C.1.1
  have hb := C.1.2.1
  have hown := C.1.2.2.2.1
  have hts := C.1.2.2.2.2
  intro j x1 x2 hj hf H locs X ls hl
  unfold f4_byPoints_2 at hf
  refine lv_iload_n hx hb dX4_byPoints_36 rfl (lv_at hl 2 rfl) ?_
  refine lv_if_eq (tgt := 48) hx hb dX4_byPoints_37 (by decide) (fun c37 => ?_) (fun c37 => ?_)
  · replace hf := ifp c37 hf
    exact w4_byPoints_3 C hr  j x2 hj hf _ _ X _ (lv_sub hl [0, 2] rfl)
  · replace hf := ifn c37 hf
    refine lv_iload_n hx hb dX4_byPoints_40 rfl (lv_at hl 2 rfl) ?_
    refine lv_aload_n hx hb dX4_byPoints_41 rfl (lv_at hl 0 rfl) ?_
    refine gfX4_25 (j := j) hj rfl C X dX4_byPoints_42 ?_
    refine lv_icmp_ne (tgt := 72) hx hb dX4_byPoints_45 (by decide) (fun c45 => ?_) (fun c45 => ?_)
    · replace hf := ifn c45 hf
      refine lv_iload_n hx hb dX4_byPoints_72 rfl (lv_at hl 2 rfl) ?_
      refine lv_iconst (v := 1) hx hb dX4_byPoints_73 (by decide) ?_
      refine lv_isub hx hb dX4_byPoints_74 ?_
      obtain ⟨v75, e75, hf⟩ := nm_e2 hf
      refine st_i e75 ?_
      refine lv_istore_n (lv' := [(3, .int v75), (0, .ref (ad (14 + 3 * j))), (1, .int x1), (2, .int x2)]) hx hb dX4_byPoints_75 rfl hl (by decide) rfl (fun ls hl => ?_)
      refine lv_sipush (v := 1000) hx hb dX4_byPoints_76 (by decide) ?_
      refine lv_aload_n hx hb dX4_byPoints_79 rfl (lv_at hl 1 rfl) ?_
      refine gfX4_15 (j := j) hj rfl (k2 := (16 + 3 * j)) rfl C X dX4_byPoints_80 ?_
      refine lv_iload_n hx hb dX4_byPoints_83 rfl (lv_at hl 0 rfl) ?_
      obtain ⟨h84, hf⟩ := gd_e hf
      refine rIald C X (sWp hj) h84 dX4_byPoints_84 ?_
      refine lv_imul hx hb dX4_byPoints_85 ?_
      obtain ⟨v86, e86, hf⟩ := nm_e2 hf
      refine st_i e86 ?_
      refine lv_istore (lv' := [(4, .int v86), (3, .int v75), (0, .ref (ad (14 + 3 * j))), (1, .int x1), (2, .int x2)]) hx hb dX4_byPoints_86 hl (by decide) rfl (fun ls hl => ?_)
      refine lv_aload_n hx hb dX4_byPoints_88 rfl (lv_at hl 2 rfl) ?_
      refine gfX4_9 (j := j) hj rfl (k2 := (15 + 3 * j)) rfl C X dX4_byPoints_89 ?_
      refine lv_iload_n hx hb dX4_byPoints_92 rfl (lv_at hl 4 rfl) ?_
      obtain ⟨h93, hf⟩ := gd_e hf
      refine rIald C X (sWm hj) h93 dX4_byPoints_93 ?_
      refine lv_aload_n hx hb dX4_byPoints_94 rfl (lv_at hl 2 rfl) ?_
      refine gfX4_9 (j := j) hj rfl (k2 := (15 + 3 * j)) rfl C X dX4_byPoints_95 ?_
      refine lv_iload_n hx hb dX4_byPoints_98 rfl (lv_at hl 1 rfl) ?_
      obtain ⟨h99, hf⟩ := gd_e hf
      refine rIald C X (sWm hj) h99 dX4_byPoints_99 ?_
      refine lv_isub hx hb dX4_byPoints_100 ?_
      obtain ⟨v101, e101, hf⟩ := nm_e2 hf
      refine st_i e101 ?_
      refine lv_istore (lv' := [(5, .int v101), (4, .int v86), (3, .int v75), (0, .ref (ad (14 + 3 * j))), (1, .int x1), (2, .int x2)]) hx hb dX4_byPoints_101 hl (by decide) rfl (fun ls hl => ?_)
      refine lv_sipush (v := 1000) hx hb dX4_byPoints_103 (by decide) ?_
      refine lv_aload_n hx hb dX4_byPoints_106 rfl (lv_at hl 3 rfl) ?_
      refine gfX4_15 (j := j) hj rfl (k2 := (16 + 3 * j)) rfl C X dX4_byPoints_107 ?_
      refine lv_iload_n hx hb dX4_byPoints_110 rfl (lv_at hl 5 rfl) ?_
      obtain ⟨h111, hf⟩ := gd_e hf
      refine rIald C X (sWp hj) h111 dX4_byPoints_111 ?_
      refine lv_aload_n hx hb dX4_byPoints_112 rfl (lv_at hl 3 rfl) ?_
      refine gfX4_15 (j := j) hj rfl (k2 := (16 + 3 * j)) rfl C X dX4_byPoints_113 ?_
      refine lv_iload_n hx hb dX4_byPoints_116 rfl (lv_at hl 2 rfl) ?_
      obtain ⟨h117, hf⟩ := gd_e hf
      refine rIald C X (sWp hj) h117 dX4_byPoints_117 ?_
      refine lv_isub hx hb dX4_byPoints_118 ?_
      refine lv_imul hx hb dX4_byPoints_119 ?_
      refine lv_iload_n hx hb dX4_byPoints_120 rfl (lv_at hl 4 rfl) ?_
      refine lv_aload_n hx hb dX4_byPoints_121 rfl (lv_at hl 3 rfl) ?_
      refine gfX4_9 (j := j) hj rfl (k2 := (15 + 3 * j)) rfl C X dX4_byPoints_122 ?_
      refine lv_iload_n hx hb dX4_byPoints_125 rfl (lv_at hl 2 rfl) ?_
      obtain ⟨h126, hf⟩ := gd_e hf
      refine rIald C X (sWm hj) h126 dX4_byPoints_126 ?_
      refine lv_isub hx hb dX4_byPoints_127 ?_
      refine lv_imul hx hb dX4_byPoints_128 ?_
      obtain ⟨v129, e129, hf⟩ := nm_e2 hf
      refine st_i e129 ?_
      refine lv_istore (lv' := [(6, .int v129), (5, .int v101), (4, .int v86), (3, .int v75), (0, .ref (ad (14 + 3 * j))), (1, .int x1), (2, .int x2)]) hx hb dX4_byPoints_129 hl (by decide) rfl (fun ls hl => ?_)
      refine lv_iload hx hb dX4_byPoints_131 (lv_at hl 1 rfl) ?_
      refine lv_iconst (v := 1) hx hb dX4_byPoints_133 (by decide) ?_
      refine lv_icmp_ge (tgt := 142) hx hb dX4_byPoints_134 (by decide) (fun c134 => ?_) (fun c134 => ?_)
      · replace hf := ifp c134 hf
        refine lv_iload hx hb dX4_byPoints_142 (lv_at hl 2 rfl) ?_
        refine lv_iload hx hb dX4_byPoints_144 (lv_at hl 0 rfl) ?_
        refine lv_iload hx hb dX4_byPoints_146 (lv_at hl 1 rfl) ?_
        obtain ⟨h148, hf⟩ := gd_e hf
        refine lv_idiv hx hb dX4_byPoints_148 h148 ?_
        refine lv_iadd hx hb dX4_byPoints_149 ?_
        exact retI C X hr rfl (Option.some.inj hf) rfl rfl dX4_byPoints_150
      · replace hf := ifn c134 hf
        refine lv_iload hx hb dX4_byPoints_137 (lv_at hl 2 rfl) ?_
        refine lv_goto (tgt := 150) hx hb dX4_byPoints_139 (by decide) ?_
        exact retI C X hr rfl (Option.some.inj hf) rfl rfl dX4_byPoints_150
    · replace hf := ifp c45 hf
      exact w4_byPoints_3 C hr  j x2 hj hf _ _ X _ (lv_sub hl [0, 2] rfl)
set_option maxRecDepth 100000 in
set_option maxHeartbeats 4000000 in
theorem w4_byPoints_1 {p : Program} {l : Launch} {e : Env} {s : State} {m : MethodId} {args : Array Value} {below : List Frame} {meth : Method} {c : Code} {D : va_G} {cy : Nat → ClassId} {ad : Nat → Nat} {r : Int32} {μ : Mem} {ν : Lem} (C : Cx true p s m args meth c cX4_byPoints 7 RX4 D cy ad) (hr : meth.sig.returnType = some .int) : ∀ (n : Nat), ∀ (j : Nat) (x1 : Int32) (x2 : Int32) (hj : j < 13), f4_byPoints_1 μ n j x1 x2 = some r → ∀ (H : Heap) (locs : List Loc), Wd true D cy ad s.heap μ ν H locs → ∀ (ls : Array Slot), lv_has ls 7 [(0, .ref (ad (14 + 3 * j))), (1, .int x1), (2, .int x2)] → WI true p l e 0 0 s m args below meth c D cy ad .int r μ ν H locs (F0 m 12 ls []) := by
  have hx := C.1.1
  have hb := C.1.2.1
  have hown := C.1.2.2.2.1
  have hts := C.1.2.2.2.2
  intro n
  induction n with
  | zero =>
    intro j x1 x2 hj hf H locs X ls hl
    rw [f4_byPoints_1] at hf
    cases hf
  | succ n ih =>
    intro j x1 x2 hj hf H locs X ls hl
    rw [f4_byPoints_1] at hf
    refine lv_iload_n hx hb dX4_byPoints_12 rfl (lv_at hl 2 rfl) ?_
    refine lv_aload_n hx hb dX4_byPoints_13 rfl (lv_at hl 0 rfl) ?_
    refine gfX4_25 (j := j) hj rfl C X dX4_byPoints_14 ?_
    refine lv_icmp_ge (tgt := 36) hx hb dX4_byPoints_17 (by decide) (fun c17 => ?_) (fun c17 => ?_)
    · replace hf := ifp c17 hf
      exact w4_byPoints_2 C hr  j x1 x2 hj hf _ _ X _ (lv_sub hl [0, 1, 2] rfl)
    · replace hf := ifn c17 hf
      refine lv_aload_n hx hb dX4_byPoints_20 rfl (lv_at hl 0 rfl) ?_
      refine gfX4_9 (j := j) hj rfl (k2 := (15 + 3 * j)) rfl C X dX4_byPoints_21 ?_
      refine lv_iload_n hx hb dX4_byPoints_24 rfl (lv_at hl 2 rfl) ?_
      obtain ⟨h25, hf⟩ := gd_e hf
      refine rIald C X (sWm hj) h25 dX4_byPoints_25 ?_
      refine lv_iload_n hx hb dX4_byPoints_26 rfl (lv_at hl 1 rfl) ?_
      refine lv_icmp_gt (tgt := 36) hx hb dX4_byPoints_27 (by decide) (fun c27 => ?_) (fun c27 => ?_)
      · replace hf := ifp c27 hf
        exact w4_byPoints_2 C hr  j x1 x2 hj hf _ _ X _ (lv_sub hl [0, 1, 2] rfl)
      · replace hf := ifn c27 hf
        obtain ⟨v30, e30, hf⟩ := nm_e2 hf
        refine rIinc (lv' := [(2, .int v30), (0, .ref (ad (14 + 3 * j))), (1, .int x1)]) hx hb dX4_byPoints_30 hl (k := 2) rfl e30 rfl (by decide) rfl (fun ls hl => ?_)
        refine lv_goto (tgt := 12) hx hb dX4_byPoints_33 (by decide) ?_
        exact ih j x1 v30 hj hf _ _ X _ (lv_sub hl [1, 2, 0] rfl)
set_option maxRecDepth 100000 in
set_option maxHeartbeats 4000000 in
theorem w4_byPoints {p : Program} {l : Launch} {e : Env} {s : State} {m : MethodId} {args : Array Value} {below : List Frame} {meth : Method} {c : Code} {D : va_G} {cy : Nat → ClassId} {ad : Nat → Nat} {r : Int32} {μ : Mem} {ν : Lem} (C : Cx true p s m args meth c cX4_byPoints 7 RX4 D cy ad) (hr : meth.sig.returnType = some .int) : ∀ (j : Nat) (x1 : Int32) (hj : j < 13), f4_byPoints μ j x1 = some r → ∀ (H : Heap) (locs : List Loc), Wd true D cy ad s.heap μ ν H locs → ∀ (ls : Array Slot), lv_has ls 7 [(0, .ref (ad (14 + 3 * j))), (1, .int x1)] → WI true p l e 0 0 s m args below meth c D cy ad .int r μ ν H locs (F0 m 0 ls []) := by
  have hx := C.1.1
  have hb := C.1.2.1
  have hown := C.1.2.2.2.1
  have hts := C.1.2.2.2.2
  intro j x1 hj hf H locs X ls hl
  unfold f4_byPoints at hf
  refine lv_aload_n hx hb dX4_byPoints_0 rfl (lv_at hl 0 rfl) ?_
  refine gfX4_25 (j := j) hj rfl C X dX4_byPoints_1 ?_
  refine lv_iconst (v := 1) hx hb dX4_byPoints_4 (by decide) ?_
  refine lv_icmp_ge (tgt := 10) hx hb dX4_byPoints_5 (by decide) (fun c5 => ?_) (fun c5 => ?_)
  · replace hf := ifp c5 hf
    refine lv_iconst (v := 0) hx hb dX4_byPoints_10 (by decide) ?_
    refine lv_istore_n (lv' := [(2, .int 0), (0, .ref (ad (14 + 3 * j))), (1, .int x1)]) hx hb dX4_byPoints_11 rfl hl (by decide) rfl (fun ls hl => ?_)
    exact w4_byPoints_1 C hr  FUEL j x1 0 hj hf _ _ X _ (lv_sub hl [1, 2, 0] rfl)
  · replace hf := ifn c5 hf
    refine lv_iconst (v := 0) hx hb dX4_byPoints_8 (by decide) ?_
    exact retI C X hr rfl (Option.some.inj hf) rfl rfl dX4_byPoints_9
theorem ct4_byPoints {j : Nat} {x1 : Int32} (hj : j < 13) {μ : Mem} {ν : Lem} {r : Int32} (hg : f4_byPoints μ j x1 = some r) : CtI true yX4_byPoints cX4_byPoints 7 0 0 .int (fun ad => [.ref (ad (14 + 3 * j)), .int x1]) μ ν r μ ν :=
  mkI (by decide) rfl (fun ad => Nat.le_of_ble_eq_true rfl) (fun p l e s m args below meth c D cy ad C hr X ls hl => w4_byPoints C hr j x1 hj hg _ _ X _ hl)
theorem qX4_61 {p : Program} {l : Launch} {e : Env} {R : Room} {s : State} {m : MethodId} {args : Array Value} {below : List Frame} {meth : Method} {c : Code} {H : Heap} {locs : List Loc} {cells slots : Nat} {Q : State → Prop} {cc : ByteArray} {nL : Nat} {D : va_G} {cy : Nat → ClassId} {ad : Nat → Nat} {μ : Mem} {ν : Lem} {pc : Nat} {ls : Array Slot} {rest : List Value} {j : Nat} {x1 : Int32} (hj : j < 13) {r : Int32} (hg : f4_byPoints μ j x1 = some r) (C : Cx true p s m args meth c cc nL RX4 D cy ad) (X : Wd true D cy ad s.heap μ ν H locs) (hsz : ls.size = nL) (hrm : (rest.map fun v => v.category).sum ≤ 8) (hR : 0 + 1 ≤ R.frames ∧ 8 + (7 + 11) + 0 ≤ R.locals) (hcs : cells ≤ R.cells ∧ slots ≤ R.slots) (hd : decode cc pc = .ok (.invokevirtual 61, 3)) (kk : ∀ (H1 : Heap) (locs1 : List Loc), Wd true D cy ad s.heap μ ν H1 locs1 → narrow .int (.int r) = .int r → W p l e R s m args below meth c H1 locs1 cells slots Q (F0 m (pc + 3) ls (.int r :: rest))) : W p l e R s m args below meth c H locs cells slots Q (F0 m pc ls (.int x1 :: .ref (ad (14 + 3 * j)) :: rest)) :=
  rCVI (As := [.int x1]) (k := 14 + 3 * j) (ct4_byPoints hj hg) ok4 lX4_byPoints k_462 (sW hj) rfl rfl C X rfl hrm hsz hR hcs hd kk
