set_option maxRecDepth 100000 in
set_option maxHeartbeats 4000000 in
theorem ctJ3_checkIndex_8e157 {x0 x1 : Int32} {v : Value} (hv : v = .null ∨ ∃ a, v = .ref a) {μ : Mem} {ν : Lem} (h0 : ¬ x0 < 0) (h1 : x0 < x1) : CtI true yJ3_checkIndex_8e157 cJ3_checkIndex_8e157 3 0 0 .int (fun _ => [.int x0, .int x1, v]) μ ν x0 μ ν := by
  have body : ∀ (p : Program) (l : Launch) (e : Env) (s : State) (m : MethodId) (args : Array Value) (below : List Frame) (meth : Method) (c : Code) (D : va_G) (cy : Nat → ClassId) (ad : Nat → Nat), Cx true p s m args meth c cJ3_checkIndex_8e157 3 RJ3 D cy ad → meth.sig.returnType = some .int → Wd true D cy ad s.heap μ ν s.heap [] → ∀ ls : Array Slot, lv_has ls 3 [(0, .int x0), (1, .int x1)] → WI true p l e 0 0 s m args below meth c D cy ad .int x0 μ ν s.heap [] (F0 m 0 ls []) := by
    intro p l e s m args below meth c D cy ad C hr X ls hl
    have hx := C.1.1
    have hb := C.1.2.1
    refine lv_iload_n hx hb dJ3_checkIndex_8e157_0 rfl (lv_at hl 0 rfl) ?_
    refine lv_if_lt (tgt := 9) hx hb dJ3_checkIndex_8e157_1 (by decide) (fun c => absurd c h0) (fun _ => ?_)
    refine lv_iload_n hx hb dJ3_checkIndex_8e157_4 rfl (lv_at hl 0 rfl) ?_
    refine lv_iload_n hx hb dJ3_checkIndex_8e157_5 rfl (lv_at hl 1 rfl) ?_
    refine lv_icmp_lt (tgt := 16) hx hb dJ3_checkIndex_8e157_6 (by decide) (fun _ => ?_) (fun c => absurd h1 c)
    refine lv_iload_n hx hb dJ3_checkIndex_8e157_16 rfl (lv_at hl 0 rfl) ?_
    exact retI C X hr rfl rfl rfl rfl dJ3_checkIndex_8e157_17
  rcases hv with rfl | ⟨a, rfl⟩
  · exact mkI (by decide) rfl (fun ad => Nat.le_of_ble_eq_true rfl) (fun p l e s m args below meth c D cy ad C hr X ls hl => body p l e s m args below meth c D cy ad C hr X ls (lv_sub hl [0, 1] rfl))
  · exact mkI (by decide) rfl (fun ad => Nat.le_of_ble_eq_true rfl) (fun p l e s m args below meth c D cy ad C hr X ls hl => body p l e s m args below meth c D cy ad C hr X ls (lv_sub hl [0, 1] rfl))
set_option maxRecDepth 100000 in
set_option maxHeartbeats 4000000 in
theorem ctJ0_checkIndex_df160 {x0 x1 : Int32} {μ : Mem} {ν : Lem} (hg : fJ0_checkIndex_df160 x0 x1 = some ()) : CtV true yJ0_checkIndex_df160 cJ0_checkIndex_df160 2 1 22 (fun ad => [.int x0, .int x1]) μ ν μ ν := by
  unfold fJ0_checkIndex_df160 at hg
  obtain ⟨⟨h0, h1⟩, -⟩ := gd_e hg
  refine mkV (by decide) rfl (fun ad => Nat.le_of_ble_eq_true rfl) (fun p l e s m args below meth c D cy ad C hr X ls hl => ?_)
  have hx := C.1.1
  have hb := C.1.2.1
  have hown := C.1.2.2.2.1
  have hts := C.1.2.2.2.2
  have hl : lv_has ls 2 [(0, .int x0), (1, .int x1)] := hl
  obtain ⟨z1, t1, z2, t2, z3, t3, z4, z5, ks, r1, r2⟩ := C.2.2.1.2 rfl
  refine lv_iload_n hx hb dJ0_checkIndex_df160_0 rfl (lv_at hl 0 rfl) ?_
  refine lv_iload_n hx hb dJ0_checkIndex_df160_1 rfl (lv_at hl 1 rfl) ?_
  rcases z5 with z5 | ⟨t, z5⟩
  · refine va_gets hx hb z5 X.2.2 hown (hts _ k_326) (fun _ h => h) dJ0_checkIndex_df160_2 ?_
    refine rCSI (As := [.int x0, .int x1, .null]) (ctJ3_checkIndex_8e157 (Or.inl rfl) h0 h1) lJ3_checkIndex_8e157 k_328 rfl rfl C X rfl (Nat.le_of_ble_eq_true rfl) hl.1 ⟨Nat.le_of_ble_eq_true rfl, Nat.le_of_ble_eq_true rfl⟩ ⟨Nat.zero_le _, Nat.zero_le _⟩ dJ0_checkIndex_df160_5 (fun H locs X _ => ?_)
    refine lv_pop hx hb dJ0_checkIndex_df160_8 rfl ?_
    exact retV C X hr rfl rfl dJ0_checkIndex_df160_9
  · refine va_gets hx hb z5 X.2.2 hown (hts _ k_326) (fun _ h => h) dJ0_checkIndex_df160_2 ?_
    refine rCSI (As := [.int x0, .int x1, .ref t]) (ctJ3_checkIndex_8e157 (Or.inr ⟨t, rfl⟩) h0 h1) lJ3_checkIndex_8e157 k_328 rfl rfl C X rfl (Nat.le_of_ble_eq_true rfl) hl.1 ⟨Nat.le_of_ble_eq_true rfl, Nat.le_of_ble_eq_true rfl⟩ ⟨Nat.zero_le _, Nat.zero_le _⟩ dJ0_checkIndex_df160_5 (fun H locs X _ => ?_)
    refine lv_pop hx hb dJ0_checkIndex_df160_8 rfl ?_
    exact retV C X hr rfl rfl dJ0_checkIndex_df160_9

theorem qJ1_9 {p : Program} {l : Launch} {e : Env} {R : Room} {s : State} {m : MethodId} {args : Array Value} {below : List Frame} {meth : Method} {c : Code} {H : Heap} {locs : List Loc} {cells slots : Nat} {Q : State → Prop} {A : Nat → Prop} {cc : ByteArray} {nL : Nat} {D : va_G} {cy : Nat → ClassId} {ad : Nat → Nat} {μ : Mem} {ν : Lem} {pc : Nat} {ls : Array Slot} {rest : List Value} {x0 : Int32} {x1 : Int32} (hg : fJ0_checkIndex_df160 x0 x1 = some ()) (C : CxA true A p s m args meth c cc nL RJ1 D cy ad) (X : WdA true A D cy ad s.heap μ ν H locs) (hsz : ls.size = nL) (hrm : (rest.map fun v => v.category).sum ≤ 8) (hR : 1 + 1 ≤ R.frames ∧ 8 + (2 + 11) + 22 ≤ R.locals) (hcs : cells ≤ R.cells ∧ slots ≤ R.slots) (hd : decode cc pc = .ok (.invokestatic 9, 3)) (kk : ∀ (H1 : Heap) (locs1 : List Loc), WdA true A D cy ad s.heap μ ν H1 locs1 → W p l e R s m args below meth c H1 locs1 cells slots Q (F0 m (pc + 3) ls rest)) : W p l e R s m args below meth c H locs cells slots Q (F0 m pc ls (.int x1 :: .int x0 :: rest)) :=
  rCSV (As := [.int x0, .int x1]) (ctJ0_checkIndex_df160 hg) lJ0_checkIndex_df160 k_323 rfl rfl C X rfl hrm hsz hR hcs hd kk
set_option maxRecDepth 100000 in
set_option maxHeartbeats 4000000 in
theorem w0_has {p : Program} {l : Launch} {e : Env} {s : State} {m : MethodId} {args : Array Value} {below : List Frame} {meth : Method} {c : Code} {D : va_G} {cy : Nat → ClassId} {ad : Nat → Nat} {r : Int32} {μ : Mem} {ν : Lem} (C : Cx true p s m args meth c cX0_has 2 RX0 D cy ad) (hr : meth.sig.returnType = some .boolean) : ∀ (o : Nat) (x1 : Int32) (ho : o < 2), f0_has μ o x1 = r → ∀ (H : Heap) (locs : List Loc), Wd true D cy ad s.heap μ ν H locs → ∀ (ls : Array Slot), lv_has ls 2 [(0, .ref (ad (1 + o))), (1, .int x1)] → WI true p l e 0 0 s m args below meth c D cy ad .boolean r μ ν H locs (F0 m 0 ls []) := by
  have hx := C.1.1
  have hb := C.1.2.1
  have hown := C.1.2.2.2.1
  have hts := C.1.2.2.2.2
  intro o x1 ho hf H locs X ls hl
  unfold f0_has at hf
  refine lv_iload_n hx hb dX0_has_0 rfl (lv_at hl 1 rfl) ?_
  refine lv_if_lt (tgt := 16) hx hb dX0_has_1 (by decide) (fun c1 => ?_) (fun c1 => ?_)
  · replace hf := ifp c1 hf
    refine lv_iconst (v := 0) hx hb dX0_has_16 (by decide) ?_
    exact retI C X hr rfl hf rfl rfl dX0_has_17
  · replace hf := ifn c1 hf
    refine lv_iload_n hx hb dX0_has_4 rfl (lv_at hl 1 rfl) ?_
    refine lv_aload_n hx hb dX0_has_5 rfl (lv_at hl 0 rfl) ?_
    refine gfX0_22 (o := o) ho rfl C X dX0_has_6 ?_
    refine lv_icmp_ge (tgt := 16) hx hb dX0_has_9 (by decide) (fun c9 => ?_) (fun c9 => ?_)
    · replace hf := ifp c9 hf
      refine lv_iconst (v := 0) hx hb dX0_has_16 (by decide) ?_
      exact retI C X hr rfl hf rfl rfl dX0_has_17
    · replace hf := ifn c9 hf
      refine lv_iconst (v := 1) hx hb dX0_has_12 (by decide) ?_
      refine lv_goto (tgt := 17) hx hb dX0_has_13 (by decide) ?_
      exact retI C X hr rfl hf rfl rfl dX0_has_17
theorem ct0_has {o : Nat} {x1 : Int32} (ho : o < 2) {μ : Mem} {ν : Lem} {r : Int32} (hg : f0_has μ o x1 = r) : CtI true yX0_has cX0_has 2 0 0 .boolean (fun ad => [.ref (ad (1 + o)), .int x1]) μ ν r μ ν :=
  mkI (by decide) rfl (fun ad => Nat.le_of_ble_eq_true rfl) (fun p l e s m args below meth c D cy ad C hr X ls hl => w0_has C hr o x1 ho hg _ _ X _ hl)
theorem qX5_85 {p : Program} {l : Launch} {e : Env} {R : Room} {s : State} {m : MethodId} {args : Array Value} {below : List Frame} {meth : Method} {c : Code} {H : Heap} {locs : List Loc} {cells slots : Nat} {Q : State → Prop} {A : Nat → Prop} {cc : ByteArray} {nL : Nat} {D : va_G} {cy : Nat → ClassId} {ad : Nat → Nat} {μ : Mem} {ν : Lem} {pc : Nat} {ls : Array Slot} {rest : List Value} {o : Nat} {x1 : Int32} (ho : o < 2) {r : Int32} (hg : f0_has μ o x1 = r) (C : CxA true A p s m args meth c cc nL RX5 D cy ad) (X : WdA true A D cy ad s.heap μ ν H locs) (hsz : ls.size = nL) (hrm : (rest.map fun v => v.category).sum ≤ 8) (hR : 0 + 1 ≤ R.frames ∧ 8 + (2 + 11) + 0 ≤ R.locals) (hcs : cells ≤ R.cells ∧ slots ≤ R.slots) (hd : decode cc pc = .ok (.invokevirtual 85, 3)) (kk : ∀ (H1 : Heap) (locs1 : List Loc), WdA true A D cy ad s.heap μ ν H1 locs1 → narrow .boolean (.int r) = .int r → W p l e R s m args below meth c H1 locs1 cells slots Q (F0 m (pc + 3) ls (.int r :: rest))) : W p l e R s m args below meth c H locs cells slots Q (F0 m pc ls (.int x1 :: .ref (ad (1 + o)) :: rest)) :=
  rCVI (As := [.int x1]) (k := 1 + o) (ct0_has ho hg) ok0 lX0_has k_228 (sP ho) rfl rfl C X rfl hrm hsz hR hcs hd kk
set_option maxRecDepth 100000 in
set_option maxHeartbeats 4000000 in
theorem w4_begin {p : Program} {l : Launch} {e : Env} {s : State} {m : MethodId} {args : Array Value} {below : List Frame} {meth : Method} {c : Code} {D : va_G} {cy : Nat → ClassId} {ad : Nat → Nat} {μ1 : Mem} {ν : Lem} (C : Cx true p s m args meth c cX4_begin 3 RX4 D cy ad) (hr : meth.sig.returnType = none) : ∀ (μ : Mem) (j : Nat) (x1 : Int32) (x2 : Int32) (hj : j < 13), f4_begin μ j x1 x2 = μ1 → ∀ (H : Heap) (locs : List Loc), Wd true D cy ad s.heap μ ν H locs → ∀ (ls : Array Slot), lv_has ls 3 [(0, .ref (ad (14 + 3 * j))), (1, .int x1), (2, .int x2)] → WV true p l e 0 0 s m args below meth c D cy ad μ1 ν H locs (F0 m 0 ls []) := by
  have hx := C.1.1
  have hb := C.1.2.1
  have hown := C.1.2.2.2.1
  have hts := C.1.2.2.2.2
  intro μ j x1 x2 hj hf H locs X ls hl
  unfold f4_begin at hf
  refine lv_aload_n hx hb dX4_begin_0 rfl (lv_at hl 0 rfl) ?_
  refine lv_iload_n hx hb dX4_begin_1 rfl (lv_at hl 1 rfl) ?_
  obtain ⟨μ2, e2, hf⟩ := nm_e2 hf
  refine pfX4_18 (j := j) hj rfl e2 C X dX4_begin_2 (fun H locs X => ?_)
  refine lv_aload_n hx hb dX4_begin_5 rfl (lv_at hl 0 rfl) ?_
  refine lv_iload_n hx hb dX4_begin_6 rfl (lv_at hl 2 rfl) ?_
  obtain ⟨μ7, e7, hf⟩ := nm_e2 hf
  refine pfX4_22 (j := j) hj rfl e7 C X dX4_begin_7 (fun H locs X => ?_)
  refine lv_aload_n hx hb dX4_begin_10 rfl (lv_at hl 0 rfl) ?_
  refine lv_iconst (v := 0) hx hb dX4_begin_11 (by decide) ?_
  obtain ⟨μ12, e12, hf⟩ := nm_e2 hf
  refine pfX4_25 (j := j) hj rfl e12 C X dX4_begin_12 (fun H locs X => ?_)
  exact retV C X hr hf rfl dX4_begin_15
theorem ct4_begin {j : Nat} {x1 : Int32} {x2 : Int32} (hj : j < 13) {μ : Mem} {ν : Lem} {μ1 : Mem} (hg : f4_begin μ j x1 x2 = μ1) : CtV true yX4_begin cX4_begin 3 0 0 (fun ad => [.ref (ad (14 + 3 * j)), .int x1, .int x2]) μ ν μ1 ν :=
  mkV (by decide) rfl (fun ad => Nat.le_of_ble_eq_true rfl) (fun p l e s m args below meth c D cy ad C hr X ls hl => w4_begin C hr μ j x1 x2 hj hg _ _ X _ hl)
theorem qX5_105 {p : Program} {l : Launch} {e : Env} {R : Room} {s : State} {m : MethodId} {args : Array Value} {below : List Frame} {meth : Method} {c : Code} {H : Heap} {locs : List Loc} {cells slots : Nat} {Q : State → Prop} {A : Nat → Prop} {cc : ByteArray} {nL : Nat} {D : va_G} {cy : Nat → ClassId} {ad : Nat → Nat} {μ : Mem} {ν : Lem} {pc : Nat} {ls : Array Slot} {rest : List Value} {j : Nat} {x1 : Int32} {x2 : Int32} (hj : j < 13) {μ1 : Mem} (hg : f4_begin μ j x1 x2 = μ1) (C : CxA true A p s m args meth c cc nL RX5 D cy ad) (X : WdA true A D cy ad s.heap μ ν H locs) (hsz : ls.size = nL) (hrm : (rest.map fun v => v.category).sum ≤ 8) (hR : 0 + 1 ≤ R.frames ∧ 8 + (3 + 11) + 0 ≤ R.locals) (hcs : cells ≤ R.cells ∧ slots ≤ R.slots) (hd : decode cc pc = .ok (.invokevirtual 105, 3)) (kk : ∀ (H1 : Heap) (locs1 : List Loc), WdA true A D cy ad s.heap μ1 ν H1 locs1 → W p l e R s m args below meth c H1 locs1 cells slots Q (F0 m (pc + 3) ls rest)) : W p l e R s m args below meth c H locs cells slots Q (F0 m pc ls (.int x2 :: .int x1 :: .ref (ad (14 + 3 * j)) :: rest)) :=
  rCVV (As := [.int x1, .int x2]) (k := 14 + 3 * j) (ct4_begin hj hg) ok4 lX4_begin k_242 (sW hj) rfl rfl C X rfl hrm hsz hR hcs hd kk
theorem qX4_28 {p : Program} {l : Launch} {e : Env} {R : Room} {s : State} {m : MethodId} {args : Array Value} {below : List Frame} {meth : Method} {c : Code} {H : Heap} {locs : List Loc} {cells slots : Nat} {Q : State → Prop} {A : Nat → Prop} {cc : ByteArray} {nL : Nat} {D : va_G} {cy : Nat → ClassId} {ad : Nat → Nat} {μ : Mem} {ν : Lem} {pc : Nat} {ls : Array Slot} {rest : List Value} {j : Nat} {x1 : Int32} {x2 : Int32} (hj : j < 13) {μ1 : Mem} (hg : f4_begin μ j x1 x2 = μ1) (C : CxA true A p s m args meth c cc nL RX4 D cy ad) (X : WdA true A D cy ad s.heap μ ν H locs) (hsz : ls.size = nL) (hrm : (rest.map fun v => v.category).sum ≤ 8) (hR : 0 + 1 ≤ R.frames ∧ 8 + (3 + 11) + 0 ≤ R.locals) (hcs : cells ≤ R.cells ∧ slots ≤ R.slots) (hd : decode cc pc = .ok (.invokevirtual 28, 3)) (kk : ∀ (H1 : Heap) (locs1 : List Loc), WdA true A D cy ad s.heap μ1 ν H1 locs1 → W p l e R s m args below meth c H1 locs1 cells slots Q (F0 m (pc + 3) ls rest)) : W p l e R s m args below meth c H locs cells slots Q (F0 m pc ls (.int x2 :: .int x1 :: .ref (ad (14 + 3 * j)) :: rest)) :=
  rCVV (As := [.int x1, .int x2]) (k := 14 + 3 * j) (ct4_begin hj hg) ok4 lX4_begin k_719 (sW hj) rfl rfl C X rfl hrm hsz hR hcs hd kk
set_option maxRecDepth 100000 in
set_option maxHeartbeats 4000000 in
theorem w4_add {p : Program} {l : Launch} {e : Env} {s : State} {m : MethodId} {args : Array Value} {below : List Frame} {meth : Method} {c : Code} {D : va_G} {cy : Nat → ClassId} {ad : Nat → Nat} {μ1 : Mem} {ν : Lem} (C : Cx true p s m args meth c cX4_add 3 RX4 D cy ad) (hr : meth.sig.returnType = none) : ∀ (μ : Mem) (j : Nat) (x1 : Int32) (x2 : Int32) (hj : j < 13), f4_add μ j x1 x2 = some μ1 → ∀ (H : Heap) (locs : List Loc), Wd true D cy ad s.heap μ ν H locs → ∀ (ls : Array Slot), lv_has ls 3 [(0, .ref (ad (14 + 3 * j))), (1, .int x1), (2, .int x2)] → WV true p l e 0 0 s m args below meth c D cy ad μ1 ν H locs (F0 m 0 ls []) := by
  have hx := C.1.1
  have hb := C.1.2.1
  have hown := C.1.2.2.2.1
  have hts := C.1.2.2.2.2
  intro μ j x1 x2 hj hf H locs X ls hl
  unfold f4_add at hf
  refine lv_aload_n hx hb dX4_add_0 rfl (lv_at hl 0 rfl) ?_
  refine gfX4_25 (j := j) hj rfl C X dX4_add_1 ?_
  refine lv_bipush (v := 8) hx hb dX4_add_4 (by decide) ?_
  refine lv_icmp_ge (tgt := 39) hx hb dX4_add_6 (by decide) (fun c6 => ?_) (fun c6 => ?_)
  · replace hf := ifp c6 hf
    exact retV C X hr (Option.some.inj hf) rfl dX4_add_39
  · replace hf := ifn c6 hf
    refine lv_aload_n hx hb dX4_add_9 rfl (lv_at hl 0 rfl) ?_
    refine gfX4_9 (j := j) hj rfl (k2 := (15 + 3 * j)) rfl C X dX4_add_10 ?_
    refine lv_aload_n hx hb dX4_add_13 rfl (lv_at hl 0 rfl) ?_
    refine gfX4_25 (j := j) hj rfl C X dX4_add_14 ?_
    refine lv_iload_n hx hb dX4_add_17 rfl (lv_at hl 1 rfl) ?_
    obtain ⟨h18, hf⟩ := gd_e hf
    obtain ⟨μ18, e18, hf⟩ := nm_e2 hf
    refine rIast2 C X (sWm hj) h18 e18 dX4_add_18 (fun H locs X => ?_)
    refine lv_aload_n hx hb dX4_add_19 rfl (lv_at hl 0 rfl) ?_
    refine gfX4_15 (j := j) hj rfl (k2 := (16 + 3 * j)) rfl C X dX4_add_20 ?_
    refine lv_aload_n hx hb dX4_add_23 rfl (lv_at hl 0 rfl) ?_
    refine gfX4_25 (j := j) hj rfl C X dX4_add_24 ?_
    refine lv_iload_n hx hb dX4_add_27 rfl (lv_at hl 2 rfl) ?_
    obtain ⟨h28, hf⟩ := gd_e hf
    obtain ⟨μ28, e28, hf⟩ := nm_e2 hf
    refine rIast2 C X (sWp hj) h28 e28 dX4_add_28 (fun H locs X => ?_)
    refine lv_aload_n hx hb dX4_add_29 rfl (lv_at hl 0 rfl) ?_
    refine lv_dup hx hb dX4_add_30 rfl ?_
    refine gfX4_25 (j := j) hj rfl C X dX4_add_31 ?_
    refine lv_iconst (v := 1) hx hb dX4_add_34 (by decide) ?_
    refine lv_iadd hx hb dX4_add_35 ?_
    obtain ⟨μ36, e36, hf⟩ := nm_e2 hf
    refine pfX4_25 (j := j) hj rfl e36 C X dX4_add_36 (fun H locs X => ?_)
    exact retV C X hr (Option.some.inj hf) rfl dX4_add_39
theorem ct4_add {j : Nat} {x1 : Int32} {x2 : Int32} (hj : j < 13) {μ : Mem} {ν : Lem} {μ1 : Mem} (hg : f4_add μ j x1 x2 = some μ1) : CtV true yX4_add cX4_add 3 0 0 (fun ad => [.ref (ad (14 + 3 * j)), .int x1, .int x2]) μ ν μ1 ν :=
  mkV (by decide) rfl (fun ad => Nat.le_of_ble_eq_true rfl) (fun p l e s m args below meth c D cy ad C hr X ls hl => w4_add C hr μ j x1 x2 hj hg _ _ X _ hl)
theorem qX5_120 {p : Program} {l : Launch} {e : Env} {R : Room} {s : State} {m : MethodId} {args : Array Value} {below : List Frame} {meth : Method} {c : Code} {H : Heap} {locs : List Loc} {cells slots : Nat} {Q : State → Prop} {A : Nat → Prop} {cc : ByteArray} {nL : Nat} {D : va_G} {cy : Nat → ClassId} {ad : Nat → Nat} {μ : Mem} {ν : Lem} {pc : Nat} {ls : Array Slot} {rest : List Value} {j : Nat} {x1 : Int32} {x2 : Int32} (hj : j < 13) {μ1 : Mem} (hg : f4_add μ j x1 x2 = some μ1) (C : CxA true A p s m args meth c cc nL RX5 D cy ad) (X : WdA true A D cy ad s.heap μ ν H locs) (hsz : ls.size = nL) (hrm : (rest.map fun v => v.category).sum ≤ 8) (hR : 0 + 1 ≤ R.frames ∧ 8 + (3 + 11) + 0 ≤ R.locals) (hcs : cells ≤ R.cells ∧ slots ≤ R.slots) (hd : decode cc pc = .ok (.invokevirtual 120, 3)) (kk : ∀ (H1 : Heap) (locs1 : List Loc), WdA true A D cy ad s.heap μ1 ν H1 locs1 → W p l e R s m args below meth c H1 locs1 cells slots Q (F0 m (pc + 3) ls rest)) : W p l e R s m args below meth c H locs cells slots Q (F0 m pc ls (.int x2 :: .int x1 :: .ref (ad (14 + 3 * j)) :: rest)) :=
  rCVV (As := [.int x1, .int x2]) (k := 14 + 3 * j) (ct4_add hj hg) ok4 lX4_add k_261 (sW hj) rfl rfl C X rfl hrm hsz hR hcs hd kk
theorem qX4_32 {p : Program} {l : Launch} {e : Env} {R : Room} {s : State} {m : MethodId} {args : Array Value} {below : List Frame} {meth : Method} {c : Code} {H : Heap} {locs : List Loc} {cells slots : Nat} {Q : State → Prop} {A : Nat → Prop} {cc : ByteArray} {nL : Nat} {D : va_G} {cy : Nat → ClassId} {ad : Nat → Nat} {μ : Mem} {ν : Lem} {pc : Nat} {ls : Array Slot} {rest : List Value} {j : Nat} {x1 : Int32} {x2 : Int32} (hj : j < 13) {μ1 : Mem} (hg : f4_add μ j x1 x2 = some μ1) (C : CxA true A p s m args meth c cc nL RX4 D cy ad) (X : WdA true A D cy ad s.heap μ ν H locs) (hsz : ls.size = nL) (hrm : (rest.map fun v => v.category).sum ≤ 8) (hR : 0 + 1 ≤ R.frames ∧ 8 + (3 + 11) + 0 ≤ R.locals) (hcs : cells ≤ R.cells ∧ slots ≤ R.slots) (hd : decode cc pc = .ok (.invokevirtual 32, 3)) (kk : ∀ (H1 : Heap) (locs1 : List Loc), WdA true A D cy ad s.heap μ1 ν H1 locs1 → W p l e R s m args below meth c H1 locs1 cells slots Q (F0 m (pc + 3) ls rest)) : W p l e R s m args below meth c H locs cells slots Q (F0 m pc ls (.int x2 :: .int x1 :: .ref (ad (14 + 3 * j)) :: rest)) :=
  rCVV (As := [.int x1, .int x2]) (k := 14 + 3 * j) (ct4_add hj hg) ok4 lX4_add k_720 (sW hj) rfl rfl C X rfl hrm hsz hR hcs hd kk
set_option maxRecDepth 100000 in
set_option maxHeartbeats 4000000 in
theorem w4_become_1 {p : Program} {l : Launch} {e : Env} {s : State} {m : MethodId} {args : Array Value} {below : List Frame} {meth : Method} {c : Code} {D : va_G} {cy : Nat → ClassId} {ad : Nat → Nat} {μ1 : Mem} {ν : Lem} (C : Cx true p s m args meth c cX4_become 3 RX4 D cy ad) (hr : meth.sig.returnType = none) : ∀ (n : Nat), ∀ (μ : Mem) (j : Nat) (x1 : Nat) (x2 : Int32) (hj : j < 13) (hx1 : x1 < 13), f4_become_1 n μ j x1 x2 = some μ1 → ∀ (H : Heap) (locs : List Loc), Wd true D cy ad s.heap μ ν H locs → ∀ (ls : Array Slot), lv_has ls 3 [(0, .ref (ad (14 + 3 * j))), (1, .ref (ad (14 + 3 * x1))), (2, .int x2)] → WV true p l e 1 22 s m args below meth c D cy ad μ1 ν H locs (F0 m 14 ls []) := by
  have hx := C.1.1
  have hb := C.1.2.1
  have hown := C.1.2.2.2.1
  have hts := C.1.2.2.2.2
  intro n
  induction n with
  | zero =>
    intro μ j x1 x2 hj hx1 hf H locs X ls hl
    rw [f4_become_1] at hf
    cases hf
  | succ n ih =>
    intro μ j x1 x2 hj hx1 hf H locs X ls hl
    rw [f4_become_1] at hf
    refine lv_iload_n hx hb dX4_become_14 rfl (lv_at hl 2 rfl) ?_
    refine lv_aload_n hx hb dX4_become_15 rfl (lv_at hl 1 rfl) ?_
    refine gfX4_25 (j := x1) hx1 rfl C X dX4_become_16 ?_
    refine lv_icmp_ge (tgt := 44) hx hb dX4_become_19 (by decide) (fun c19 => ?_) (fun c19 => ?_)
    · replace hf := ifp c19 hf
      exact retV C X hr (Option.some.inj hf) rfl dX4_become_44
    · replace hf := ifn c19 hf
      refine lv_aload_n hx hb dX4_become_22 rfl (lv_at hl 0 rfl) ?_
      refine lv_aload_n hx hb dX4_become_23 rfl (lv_at hl 1 rfl) ?_
      refine gfX4_9 (j := x1) hx1 rfl (k2 := (15 + 3 * x1)) rfl C X dX4_become_24 ?_
      refine lv_iload_n hx hb dX4_become_27 rfl (lv_at hl 2 rfl) ?_
      obtain ⟨h28, hf⟩ := gd_e hf
      refine rIald C X (sWm hx1) h28 dX4_become_28 ?_
      refine lv_aload_n hx hb dX4_become_29 rfl (lv_at hl 1 rfl) ?_
      refine gfX4_15 (j := x1) hx1 rfl (k2 := (16 + 3 * x1)) rfl C X dX4_become_30 ?_
      refine lv_iload_n hx hb dX4_become_33 rfl (lv_at hl 2 rfl) ?_
      obtain ⟨h34, hf⟩ := gd_e hf
      refine rIald C X (sWp hx1) h34 dX4_become_34 ?_
      obtain ⟨μ35, g35, hf⟩ := bd1_e hf
      refine qX4_32 (j := j) hj g35 C X hl.1 ((Nat.le_of_ble_eq_true rfl)) ⟨(Nat.le_of_ble_eq_true rfl), (Nat.le_of_ble_eq_true rfl)⟩ ⟨Nat.zero_le _, Nat.zero_le _⟩ dX4_become_35 (fun H locs X => ?_)
      obtain ⟨v38, e38, hf⟩ := nm_e2 hf
      refine rIinc (lv' := [(2, .int v38), (0, .ref (ad (14 + 3 * j))), (1, .ref (ad (14 + 3 * x1)))]) hx hb dX4_become_38 hl (k := 2) rfl e38 rfl (by decide) rfl (fun ls hl => ?_)
      refine lv_goto (tgt := 14) hx hb dX4_become_41 (by decide) ?_
      exact ih μ35 j x1 v38 hj hx1 hf _ _ X _ (lv_sub hl [1, 2, 0] rfl)
set_option maxRecDepth 100000 in
set_option maxHeartbeats 4000000 in
theorem w4_become {p : Program} {l : Launch} {e : Env} {s : State} {m : MethodId} {args : Array Value} {below : List Frame} {meth : Method} {c : Code} {D : va_G} {cy : Nat → ClassId} {ad : Nat → Nat} {μ1 : Mem} {ν : Lem} (C : Cx true p s m args meth c cX4_become 3 RX4 D cy ad) (hr : meth.sig.returnType = none) : ∀ (μ : Mem) (j : Nat) (x1 : Nat) (hj : j < 13) (hx1 : x1 < 13), f4_become μ j x1 = some μ1 → ∀ (H : Heap) (locs : List Loc), Wd true D cy ad s.heap μ ν H locs → ∀ (ls : Array Slot), lv_has ls 3 [(0, .ref (ad (14 + 3 * j))), (1, .ref (ad (14 + 3 * x1)))] → WV true p l e 1 22 s m args below meth c D cy ad μ1 ν H locs (F0 m 0 ls []) := by
  have hx := C.1.1
  have hb := C.1.2.1
  have hown := C.1.2.2.2.1
  have hts := C.1.2.2.2.2
  intro μ j x1 hj hx1 hf H locs X ls hl
  unfold f4_become at hf
  refine lv_aload_n hx hb dX4_become_0 rfl (lv_at hl 0 rfl) ?_
  refine lv_aload_n hx hb dX4_become_1 rfl (lv_at hl 1 rfl) ?_
  refine gfX4_18 (j := x1) hx1 rfl C X dX4_become_2 ?_
  refine lv_aload_n hx hb dX4_become_5 rfl (lv_at hl 1 rfl) ?_
  refine gfX4_22 (j := x1) hx1 rfl C X dX4_become_6 ?_
  obtain ⟨μ9, g9, hf⟩ := nm_e2 hf
  refine qX4_28 (j := j) hj g9.symm C X hl.1 ((Nat.le_of_ble_eq_true rfl)) ⟨(Nat.le_of_ble_eq_true rfl), (Nat.le_of_ble_eq_true rfl)⟩ ⟨Nat.zero_le _, Nat.zero_le _⟩ dX4_become_9 (fun H locs X => ?_)
  refine lv_iconst (v := 0) hx hb dX4_become_12 (by decide) ?_
  refine lv_istore_n (lv' := [(2, .int 0), (0, .ref (ad (14 + 3 * j))), (1, .ref (ad (14 + 3 * x1)))]) hx hb dX4_become_13 rfl hl (by decide) rfl (fun ls hl => ?_)
  exact w4_become_1 C hr  FUEL μ9 j x1 0 hj hx1 hf _ _ X _ (lv_sub hl [1, 2, 0] rfl)
theorem ct4_become {j : Nat} {x1 : Nat} (hj : j < 13) (hx1 : x1 < 13) {μ : Mem} {ν : Lem} {μ1 : Mem} (hg : f4_become μ j x1 = some μ1) : CtV true yX4_become cX4_become 3 1 22 (fun ad => [.ref (ad (14 + 3 * j)), .ref (ad (14 + 3 * x1))]) μ ν μ1 ν :=
  mkV (by decide) rfl (fun ad => Nat.le_of_ble_eq_true rfl) (fun p l e s m args below meth c D cy ad C hr X ls hl => w4_become C hr μ j x1 hj hx1 hg _ _ X _ hl)
theorem qX0_28 {p : Program} {l : Launch} {e : Env} {R : Room} {s : State} {m : MethodId} {args : Array Value} {below : List Frame} {meth : Method} {c : Code} {H : Heap} {locs : List Loc} {cells slots : Nat} {Q : State → Prop} {A : Nat → Prop} {cc : ByteArray} {nL : Nat} {D : va_G} {cy : Nat → ClassId} {ad : Nat → Nat} {μ : Mem} {ν : Lem} {pc : Nat} {ls : Array Slot} {rest : List Value} {j : Nat} {x1 : Nat} (hj : j < 13) (hx1 : x1 < 13) {μ1 : Mem} (hg : f4_become μ j x1 = some μ1) (C : CxA true A p s m args meth c cc nL RX0 D cy ad) (X : WdA true A D cy ad s.heap μ ν H locs) (hsz : ls.size = nL) (hrm : (rest.map fun v => v.category).sum ≤ 8) (hR : 1 + 1 ≤ R.frames ∧ 8 + (3 + 11) + 22 ≤ R.locals) (hcs : cells ≤ R.cells ∧ slots ≤ R.slots) (hd : decode cc pc = .ok (.invokevirtual 28, 3)) (kk : ∀ (H1 : Heap) (locs1 : List Loc), WdA true A D cy ad s.heap μ1 ν H1 locs1 → W p l e R s m args below meth c H1 locs1 cells slots Q (F0 m (pc + 3) ls rest)) : W p l e R s m args below meth c H locs cells slots Q (F0 m pc ls (.ref (ad (14 + 3 * x1)) :: .ref (ad (14 + 3 * j)) :: rest)) :=
  rCVV (As := [.ref (ad (14 + 3 * x1))]) (k := 14 + 3 * j) (ct4_become hj hx1 hg) ok4 lX4_become k_715 (sW hj) rfl rfl C X rfl hrm hsz hR hcs hd kk
set_option maxRecDepth 100000 in
set_option maxHeartbeats 4000000 in
theorem w0_become_1 {p : Program} {l : Launch} {e : Env} {s : State} {m : MethodId} {args : Array Value} {below : List Frame} {meth : Method} {c : Code} {D : va_G} {cy : Nat → ClassId} {ad : Nat → Nat} {μ1 : Mem} {ν : Lem} (C : Cx true p s m args meth c cX0_become 3 RX0 D cy ad) (hr : meth.sig.returnType = none) : ∀ (n : Nat), ∀ (μ : Mem) (o : Nat) (x1 : Nat) (x2 : Int32) (ho : o < 2) (hx1 : x1 < 2), f0_become_1 n μ o x1 x2 = some μ1 → ∀ (H : Heap) (locs : List Loc), Wd true D cy ad s.heap μ ν H locs → ∀ (ls : Array Slot), lv_has ls 3 [(0, .ref (ad (1 + o))), (1, .ref (ad (1 + x1))), (2, .int x2)] → WV true p l e 2 44 s m args below meth c D cy ad μ1 ν H locs (F0 m 26 ls []) := by
  have hx := C.1.1
  have hb := C.1.2.1
  have hown := C.1.2.2.2.1
  have hts := C.1.2.2.2.2
  intro n
  induction n with
  | zero =>
    intro μ o x1 x2 ho hx1 hf H locs X ls hl
    rw [f0_become_1] at hf
    cases hf
  | succ n ih =>
    intro μ o x1 x2 ho hx1 hf H locs X ls hl
    rw [f0_become_1] at hf
    refine lv_iload_n hx hb dX0_become_26 rfl (lv_at hl 2 rfl) ?_
    refine lv_aload_n hx hb dX0_become_27 rfl (lv_at hl 0 rfl) ?_
    refine gfX0_22 (o := o) ho rfl C X dX0_become_28 ?_
    refine lv_icmp_ge (tgt := 55) hx hb dX0_become_31 (by decide) (fun c31 => ?_) (fun c31 => ?_)
    · replace hf := ifp c31 hf
      exact retV C X hr (Option.some.inj hf) rfl dX0_become_55
    · replace hf := ifn c31 hf
      refine lv_aload_n hx hb dX0_become_34 rfl (lv_at hl 0 rfl) ?_
      refine gfX0_17 (o := o) ho rfl (k2 := (12 + o)) rfl C X dX0_become_35 ?_
      refine lv_iload_n hx hb dX0_become_38 rfl (lv_at hl 2 rfl) ?_
      obtain ⟨h39, hf⟩ := gd_e hf
      have hb39 : (6 * o + x2.toNatClampNeg) < 13 := by have := inb_lt h39; omega
      refine rAald (t := 0) (k' := (14 + 3 * (6 * o + x2.toNatClampNeg))) C X (sPw ho) rfl h39 (by omega) dX0_become_39 ?_
      refine lv_aload_n hx hb dX0_become_40 rfl (lv_at hl 1 rfl) ?_
      refine gfX0_17 (o := x1) hx1 rfl (k2 := (12 + x1)) rfl C X dX0_become_41 ?_
      refine lv_iload_n hx hb dX0_become_44 rfl (lv_at hl 2 rfl) ?_
      obtain ⟨h45, hf⟩ := gd_e hf
      have hb45 : (6 * x1 + x2.toNatClampNeg) < 13 := by have := inb_lt h45; omega
      refine rAald (t := 0) (k' := (14 + 3 * (6 * x1 + x2.toNatClampNeg))) C X (sPw hx1) rfl h45 (by omega) dX0_become_45 ?_
      obtain ⟨μ46, g46, hf⟩ := bd1_e hf
      refine qX0_28 (j := (6 * o + x2.toNatClampNeg)) hb39 (x1 := (6 * x1 + x2.toNatClampNeg)) hb45 g46 C X hl.1 ((Nat.le_of_ble_eq_true rfl)) ⟨(Nat.le_of_ble_eq_true rfl), (Nat.le_of_ble_eq_true rfl)⟩ ⟨Nat.zero_le _, Nat.zero_le _⟩ dX0_become_46 (fun H locs X => ?_)
      obtain ⟨v49, e49, hf⟩ := nm_e2 hf
      refine rIinc (lv' := [(2, .int v49), (0, .ref (ad (1 + o))), (1, .ref (ad (1 + x1)))]) hx hb dX0_become_49 hl (k := 2) rfl e49 rfl (by decide) rfl (fun ls hl => ?_)
      refine lv_goto (tgt := 26) hx hb dX0_become_52 (by decide) ?_
      exact ih μ46 o x1 v49 ho hx1 hf _ _ X _ (lv_sub hl [1, 2, 0] rfl)
set_option maxRecDepth 100000 in
set_option maxHeartbeats 4000000 in
theorem w0_become {p : Program} {l : Launch} {e : Env} {s : State} {m : MethodId} {args : Array Value} {below : List Frame} {meth : Method} {c : Code} {D : va_G} {cy : Nat → ClassId} {ad : Nat → Nat} {μ1 : Mem} {ν : Lem} (C : Cx true p s m args meth c cX0_become 3 RX0 D cy ad) (hr : meth.sig.returnType = none) : ∀ (μ : Mem) (o : Nat) (x1 : Nat) (ho : o < 2) (hx1 : x1 < 2), f0_become μ o x1 = some μ1 → ∀ (H : Heap) (locs : List Loc), Wd true D cy ad s.heap μ ν H locs → ∀ (ls : Array Slot), lv_has ls 3 [(0, .ref (ad (1 + o))), (1, .ref (ad (1 + x1)))] → WV true p l e 2 44 s m args below meth c D cy ad μ1 ν H locs (F0 m 0 ls []) := by
  have hx := C.1.1
  have hb := C.1.2.1
  have hown := C.1.2.2.2.1
  have hts := C.1.2.2.2.2
  intro μ o x1 ho hx1 hf H locs X ls hl
  unfold f0_become at hf
  refine lv_aload_n hx hb dX0_become_0 rfl (lv_at hl 0 rfl) ?_
  refine lv_aload_n hx hb dX0_become_1 rfl (lv_at hl 1 rfl) ?_
  refine gfX0_9 (o := x1) hx1 rfl C X dX0_become_2 ?_
  obtain ⟨μ5, e5, hf⟩ := nm_e2 hf
  refine pfX0_9 (o := o) ho rfl e5 C X dX0_become_5 (fun H locs X => ?_)
  refine lv_aload_n hx hb dX0_become_8 rfl (lv_at hl 0 rfl) ?_
  refine lv_aload_n hx hb dX0_become_9 rfl (lv_at hl 1 rfl) ?_
  refine gfX0_22 (o := x1) hx1 rfl C X dX0_become_10 ?_
  obtain ⟨μ13, e13, hf⟩ := nm_e2 hf
  refine pfX0_22 (o := o) ho rfl e13 C X dX0_become_13 (fun H locs X => ?_)
  refine lv_aload_n hx hb dX0_become_16 rfl (lv_at hl 0 rfl) ?_
  refine lv_aload_n hx hb dX0_become_17 rfl (lv_at hl 1 rfl) ?_
  refine gfX0_25 (o := x1) hx1 rfl C X dX0_become_18 ?_
  obtain ⟨μ21, e21, hf⟩ := nm_e2 hf
  refine pfX0_25 (o := o) ho rfl e21 C X dX0_become_21 (fun H locs X => ?_)
  refine lv_iconst (v := 0) hx hb dX0_become_24 (by decide) ?_
  refine lv_istore_n (lv' := [(2, .int 0), (0, .ref (ad (1 + o))), (1, .ref (ad (1 + x1)))]) hx hb dX0_become_25 rfl hl (by decide) rfl (fun ls hl => ?_)
  exact w0_become_1 C hr  FUEL μ21 o x1 0 ho hx1 hf _ _ X _ (lv_sub hl [1, 2, 0] rfl)
theorem ct0_become {o : Nat} {x1 : Nat} (ho : o < 2) (hx1 : x1 < 2) {μ : Mem} {ν : Lem} {μ1 : Mem} (hg : f0_become μ o x1 = some μ1) : CtV true yX0_become cX0_become 3 2 44 (fun ad => [.ref (ad (1 + o)), .ref (ad (1 + x1))]) μ ν μ1 ν :=
  mkV (by decide) rfl (fun ad => Nat.le_of_ble_eq_true rfl) (fun p l e s m args below meth c D cy ad C hr X ls hl => w0_become C hr μ o x1 ho hx1 hg _ _ X _ hl)
theorem qX5_298 {p : Program} {l : Launch} {e : Env} {R : Room} {s : State} {m : MethodId} {args : Array Value} {below : List Frame} {meth : Method} {c : Code} {H : Heap} {locs : List Loc} {cells slots : Nat} {Q : State → Prop} {A : Nat → Prop} {cc : ByteArray} {nL : Nat} {D : va_G} {cy : Nat → ClassId} {ad : Nat → Nat} {μ : Mem} {ν : Lem} {pc : Nat} {ls : Array Slot} {rest : List Value} {o : Nat} {x1 : Nat} (ho : o < 2) (hx1 : x1 < 2) {μ1 : Mem} (hg : f0_become μ o x1 = some μ1) (C : CxA true A p s m args meth c cc nL RX5 D cy ad) (X : WdA true A D cy ad s.heap μ ν H locs) (hsz : ls.size = nL) (hrm : (rest.map fun v => v.category).sum ≤ 8) (hR : 2 + 1 ≤ R.frames ∧ 8 + (3 + 11) + 44 ≤ R.locals) (hcs : cells ≤ R.cells ∧ slots ≤ R.slots) (hd : decode cc pc = .ok (.invokevirtual 298, 3)) (kk : ∀ (H1 : Heap) (locs1 : List Loc), WdA true A D cy ad s.heap μ1 ν H1 locs1 → W p l e R s m args below meth c H1 locs1 cells slots Q (F0 m (pc + 3) ls rest)) : W p l e R s m args below meth c H locs cells slots Q (F0 m pc ls (.ref (ad (1 + x1)) :: .ref (ad (1 + o)) :: rest)) :=
  rCVV (As := [.ref (ad (1 + x1))]) (k := 1 + o) (ct0_become ho hx1 hg) ok0 lX0_become k_711 (sP ho) rfl rfl C X rfl hrm hsz hR hcs hd kk
set_option maxRecDepth 100000 in
set_option maxHeartbeats 4000000 in
theorem w0_allPoints_1 {p : Program} {l : Launch} {e : Env} {s : State} {m : MethodId} {args : Array Value} {below : List Frame} {meth : Method} {c : Code} {D : va_G} {cy : Nat → ClassId} {ad : Nat → Nat} {r : Int32} {μ : Mem} {ν : Lem} (C : Cx true p s m args meth c cX0_allPoints 3 RX0 D cy ad) (hr : meth.sig.returnType = some .int) : ∀ (n : Nat), ∀ (o : Nat) (x1 : Int32) (x2 : Int32) (ho : o < 2), f0_allPoints_1 μ n o x1 x2 = some r → ∀ (H : Heap) (locs : List Loc), Wd true D cy ad s.heap μ ν H locs → ∀ (ls : Array Slot), lv_has ls 3 [(0, .ref (ad (1 + o))), (1, .int x1), (2, .int x2)] → WI true p l e 0 0 s m args below meth c D cy ad .int r μ ν H locs (F0 m 4 ls []) := by
  have hx := C.1.1
  have hb := C.1.2.1
  have hown := C.1.2.2.2.1
  have hts := C.1.2.2.2.2
  intro n
  induction n with
  | zero =>
    intro o x1 x2 ho hf H locs X ls hl
    rw [f0_allPoints_1] at hf
    cases hf
  | succ n ih =>
    intro o x1 x2 ho hf H locs X ls hl
    rw [f0_allPoints_1] at hf
    refine lv_iload_n hx hb dX0_allPoints_4 rfl (lv_at hl 2 rfl) ?_
    refine lv_aload_n hx hb dX0_allPoints_5 rfl (lv_at hl 0 rfl) ?_
    refine gfX0_22 (o := o) ho rfl C X dX0_allPoints_6 ?_
    refine lv_icmp_ge (tgt := 30) hx hb dX0_allPoints_9 (by decide) (fun c9 => ?_) (fun c9 => ?_)
    · replace hf := ifp c9 hf
      refine lv_iload_n hx hb dX0_allPoints_30 rfl (lv_at hl 1 rfl) ?_
      exact retI C X hr rfl (Option.some.inj hf) rfl rfl dX0_allPoints_31
    · replace hf := ifn c9 hf
      refine lv_iload_n hx hb dX0_allPoints_12 rfl (lv_at hl 1 rfl) ?_
      refine lv_aload_n hx hb dX0_allPoints_13 rfl (lv_at hl 0 rfl) ?_
      refine gfX0_17 (o := o) ho rfl (k2 := (12 + o)) rfl C X dX0_allPoints_14 ?_
      refine lv_iload_n hx hb dX0_allPoints_17 rfl (lv_at hl 2 rfl) ?_
      obtain ⟨h18, hf⟩ := gd_e hf
      have hb18 : (6 * o + x2.toNatClampNeg) < 13 := by have := inb_lt h18; omega
      refine rAald (t := 0) (k' := (14 + 3 * (6 * o + x2.toNatClampNeg))) C X (sPw ho) rfl h18 (by omega) dX0_allPoints_18 ?_
      refine gfX0_32 (j := (6 * o + x2.toNatClampNeg)) hb18 rfl C X dX0_allPoints_19 ?_
      refine lv_iadd hx hb dX0_allPoints_22 ?_
      obtain ⟨v23, e23, hf⟩ := nm_e2 hf
      refine st_i e23 ?_
      refine lv_istore_n (lv' := [(1, .int v23), (0, .ref (ad (1 + o))), (2, .int x2)]) hx hb dX0_allPoints_23 rfl hl (by decide) rfl (fun ls hl => ?_)
      obtain ⟨v24, e24, hf⟩ := nm_e2 hf
      refine rIinc (lv' := [(2, .int v24), (1, .int v23), (0, .ref (ad (1 + o)))]) hx hb dX0_allPoints_24 hl (k := 2) rfl e24 rfl (by decide) rfl (fun ls hl => ?_)
      refine lv_goto (tgt := 4) hx hb dX0_allPoints_27 (by decide) ?_
      exact ih o v23 v24 ho hf _ _ X _ (lv_sub hl [2, 1, 0] rfl)
set_option maxRecDepth 100000 in
set_option maxHeartbeats 4000000 in
theorem w0_allPoints {p : Program} {l : Launch} {e : Env} {s : State} {m : MethodId} {args : Array Value} {below : List Frame} {meth : Method} {c : Code} {D : va_G} {cy : Nat → ClassId} {ad : Nat → Nat} {r : Int32} {μ : Mem} {ν : Lem} (C : Cx true p s m args meth c cX0_allPoints 3 RX0 D cy ad) (hr : meth.sig.returnType = some .int) : ∀ (o : Nat) (ho : o < 2), f0_allPoints μ o = some r → ∀ (H : Heap) (locs : List Loc), Wd true D cy ad s.heap μ ν H locs → ∀ (ls : Array Slot), lv_has ls 3 [(0, .ref (ad (1 + o)))] → WI true p l e 0 0 s m args below meth c D cy ad .int r μ ν H locs (F0 m 0 ls []) := by
  have hx := C.1.1
  have hb := C.1.2.1
  have hown := C.1.2.2.2.1
  have hts := C.1.2.2.2.2
  intro o ho hf H locs X ls hl
  unfold f0_allPoints at hf
  refine lv_iconst (v := 0) hx hb dX0_allPoints_0 (by decide) ?_
  refine lv_istore_n (lv' := [(1, .int 0), (0, .ref (ad (1 + o)))]) hx hb dX0_allPoints_1 rfl hl (by decide) rfl (fun ls hl => ?_)
  refine lv_iconst (v := 0) hx hb dX0_allPoints_2 (by decide) ?_
  refine lv_istore_n (lv' := [(2, .int 0), (1, .int 0), (0, .ref (ad (1 + o)))]) hx hb dX0_allPoints_3 rfl hl (by decide) rfl (fun ls hl => ?_)
  exact w0_allPoints_1 C hr  FUEL o 0 0 ho hf _ _ X _ (lv_sub hl [2, 1, 0] rfl)
theorem ct0_allPoints {o : Nat} (ho : o < 2) {μ : Mem} {ν : Lem} {r : Int32} (hg : f0_allPoints μ o = some r) : CtI true yX0_allPoints cX0_allPoints 3 0 0 .int (fun ad => [.ref (ad (1 + o))]) μ ν r μ ν :=
  mkI (by decide) rfl (fun ad => Nat.le_of_ble_eq_true rfl) (fun p l e s m args below meth c D cy ad C hr X ls hl => w0_allPoints C hr o ho hg _ _ X _ hl)
theorem qX5_306 {p : Program} {l : Launch} {e : Env} {R : Room} {s : State} {m : MethodId} {args : Array Value} {below : List Frame} {meth : Method} {c : Code} {H : Heap} {locs : List Loc} {cells slots : Nat} {Q : State → Prop} {A : Nat → Prop} {cc : ByteArray} {nL : Nat} {D : va_G} {cy : Nat → ClassId} {ad : Nat → Nat} {μ : Mem} {ν : Lem} {pc : Nat} {ls : Array Slot} {rest : List Value} {o : Nat} (ho : o < 2) {r : Int32} (hg : f0_allPoints μ o = some r) (C : CxA true A p s m args meth c cc nL RX5 D cy ad) (X : WdA true A D cy ad s.heap μ ν H locs) (hsz : ls.size = nL) (hrm : (rest.map fun v => v.category).sum ≤ 8) (hR : 0 + 1 ≤ R.frames ∧ 8 + (3 + 11) + 0 ≤ R.locals) (hcs : cells ≤ R.cells ∧ slots ≤ R.slots) (hd : decode cc pc = .ok (.invokevirtual 306, 3)) (kk : ∀ (H1 : Heap) (locs1 : List Loc), WdA true A D cy ad s.heap μ ν H1 locs1 → narrow .int (.int r) = .int r → W p l e R s m args below meth c H1 locs1 cells slots Q (F0 m (pc + 3) ls (.int r :: rest))) : W p l e R s m args below meth c H locs cells slots Q (F0 m pc ls (.ref (ad (1 + o)) :: rest)) :=
  rCVI (As := []) (k := 1 + o) (ct0_allPoints ho hg) ok0 lX0_allPoints k_729 (sP ho) rfl rfl C X rfl hrm hsz hR hcs hd kk
set_option maxRecDepth 100000 in
set_option maxHeartbeats 4000000 in
theorem w4_farthestPlace_1 {p : Program} {l : Launch} {e : Env} {s : State} {m : MethodId} {args : Array Value} {below : List Frame} {meth : Method} {c : Code} {D : va_G} {cy : Nat → ClassId} {ad : Nat → Nat} {r : Int32} {μ : Mem} {ν : Lem} (C : Cx true p s m args meth c cX4_farthestPlace 3 RX4 D cy ad) (hr : meth.sig.returnType = some .int) : ∀ (n : Nat), ∀ (j : Nat) (x1 : Int32) (x2 : Int32) (hj : j < 13), f4_farthestPlace_1 μ n j x1 x2 = some r → ∀ (H : Heap) (locs : List Loc), Wd true D cy ad s.heap μ ν H locs → ∀ (ls : Array Slot), lv_has ls 3 [(0, .ref (ad (14 + 3 * j))), (1, .int x1), (2, .int x2)] → WI true p l e 1 21 s m args below meth c D cy ad .int r μ ν H locs (F0 m 4 ls []) := by
  have hx := C.1.1
  have hb := C.1.2.1
  have hown := C.1.2.2.2.1
  have hts := C.1.2.2.2.2
  intro n
  induction n with
  | zero =>
    intro j x1 x2 hj hf H locs X ls hl
    rw [f4_farthestPlace_1] at hf
    cases hf
  | succ n ih =>
    intro j x1 x2 hj hf H locs X ls hl
    rw [f4_farthestPlace_1] at hf
    refine lv_iload_n hx hb dX4_farthestPlace_4 rfl (lv_at hl 2 rfl) ?_
    refine lv_aload_n hx hb dX4_farthestPlace_5 rfl (lv_at hl 0 rfl) ?_
    refine gfX4_25 (j := j) hj rfl C X dX4_farthestPlace_6 ?_
    refine lv_icmp_ge (tgt := 29) hx hb dX4_farthestPlace_9 (by decide) (fun c9 => ?_) (fun c9 => ?_)
    · replace hf := ifp c9 hf
      refine lv_iload_n hx hb dX4_farthestPlace_29 rfl (lv_at hl 1 rfl) ?_
      exact retI C X hr rfl (Option.some.inj hf) rfl rfl dX4_farthestPlace_30
    · replace hf := ifn c9 hf
      refine lv_iload_n hx hb dX4_farthestPlace_12 rfl (lv_at hl 1 rfl) ?_
      refine lv_aload_n hx hb dX4_farthestPlace_13 rfl (lv_at hl 0 rfl) ?_
      refine gfX4_15 (j := j) hj rfl (k2 := (16 + 3 * j)) rfl C X dX4_farthestPlace_14 ?_
      refine lv_iload_n hx hb dX4_farthestPlace_17 rfl (lv_at hl 2 rfl) ?_
      obtain ⟨h18, hf⟩ := gd_e hf
      refine rIald C X (sWp hj) h18 dX4_farthestPlace_18 ?_
      refine rMax C k_220 hl.1 (Nat.le_of_ble_eq_true rfl) (Nat.le_of_ble_eq_true rfl) ⟨Nat.zero_le _, Nat.zero_le _⟩ dX4_farthestPlace_19 ?_
      obtain ⟨v22, e22, hf⟩ := nm_e2 hf
      refine st_i e22 ?_
      refine lv_istore_n (lv' := [(1, .int v22), (0, .ref (ad (14 + 3 * j))), (2, .int x2)]) hx hb dX4_farthestPlace_22 rfl hl (by decide) rfl (fun ls hl => ?_)
      obtain ⟨v23, e23, hf⟩ := nm_e2 hf
      refine rIinc (lv' := [(2, .int v23), (1, .int v22), (0, .ref (ad (14 + 3 * j)))]) hx hb dX4_farthestPlace_23 hl (k := 2) rfl e23 rfl (by decide) rfl (fun ls hl => ?_)
      refine lv_goto (tgt := 4) hx hb dX4_farthestPlace_26 (by decide) ?_
      exact ih j v22 v23 hj hf _ _ X _ (lv_sub hl [2, 1, 0] rfl)
set_option maxRecDepth 100000 in
set_option maxHeartbeats 4000000 in
theorem w4_farthestPlace {p : Program} {l : Launch} {e : Env} {s : State} {m : MethodId} {args : Array Value} {below : List Frame} {meth : Method} {c : Code} {D : va_G} {cy : Nat → ClassId} {ad : Nat → Nat} {r : Int32} {μ : Mem} {ν : Lem} (C : Cx true p s m args meth c cX4_farthestPlace 3 RX4 D cy ad) (hr : meth.sig.returnType = some .int) : ∀ (j : Nat) (hj : j < 13), f4_farthestPlace μ j = some r → ∀ (H : Heap) (locs : List Loc), Wd true D cy ad s.heap μ ν H locs → ∀ (ls : Array Slot), lv_has ls 3 [(0, .ref (ad (14 + 3 * j)))] → WI true p l e 1 21 s m args below meth c D cy ad .int r μ ν H locs (F0 m 0 ls []) := by
  have hx := C.1.1
  have hb := C.1.2.1
  have hown := C.1.2.2.2.1
  have hts := C.1.2.2.2.2
  intro j hj hf H locs X ls hl
  unfold f4_farthestPlace at hf
  refine lv_iconst (v := 0) hx hb dX4_farthestPlace_0 (by decide) ?_
  refine lv_istore_n (lv' := [(1, .int 0), (0, .ref (ad (14 + 3 * j)))]) hx hb dX4_farthestPlace_1 rfl hl (by decide) rfl (fun ls hl => ?_)
  refine lv_iconst (v := 0) hx hb dX4_farthestPlace_2 (by decide) ?_
  refine lv_istore_n (lv' := [(2, .int 0), (1, .int 0), (0, .ref (ad (14 + 3 * j)))]) hx hb dX4_farthestPlace_3 rfl hl (by decide) rfl (fun ls hl => ?_)
  exact w4_farthestPlace_1 C hr  FUEL j 0 0 hj hf _ _ X _ (lv_sub hl [2, 1, 0] rfl)
theorem ct4_farthestPlace {j : Nat} (hj : j < 13) {μ : Mem} {ν : Lem} {r : Int32} (hg : f4_farthestPlace μ j = some r) : CtI true yX4_farthestPlace cX4_farthestPlace 3 1 21 .int (fun ad => [.ref (ad (14 + 3 * j))]) μ ν r μ ν :=
  mkI (by decide) rfl (fun ad => Nat.le_of_ble_eq_true rfl) (fun p l e s m args below meth c D cy ad C hr X ls hl => w4_farthestPlace C hr j hj hg _ _ X _ hl)
theorem qX0_33 {p : Program} {l : Launch} {e : Env} {R : Room} {s : State} {m : MethodId} {args : Array Value} {below : List Frame} {meth : Method} {c : Code} {H : Heap} {locs : List Loc} {cells slots : Nat} {Q : State → Prop} {A : Nat → Prop} {cc : ByteArray} {nL : Nat} {D : va_G} {cy : Nat → ClassId} {ad : Nat → Nat} {μ : Mem} {ν : Lem} {pc : Nat} {ls : Array Slot} {rest : List Value} {j : Nat} (hj : j < 13) {r : Int32} (hg : f4_farthestPlace μ j = some r) (C : CxA true A p s m args meth c cc nL RX0 D cy ad) (X : WdA true A D cy ad s.heap μ ν H locs) (hsz : ls.size = nL) (hrm : (rest.map fun v => v.category).sum ≤ 8) (hR : 1 + 1 ≤ R.frames ∧ 8 + (3 + 11) + 21 ≤ R.locals) (hcs : cells ≤ R.cells ∧ slots ≤ R.slots) (hd : decode cc pc = .ok (.invokevirtual 33, 3)) (kk : ∀ (H1 : Heap) (locs1 : List Loc), WdA true A D cy ad s.heap μ ν H1 locs1 → narrow .int (.int r) = .int r → W p l e R s m args below meth c H1 locs1 cells slots Q (F0 m (pc + 3) ls (.int r :: rest))) : W p l e R s m args below meth c H locs cells slots Q (F0 m pc ls (.ref (ad (14 + 3 * j)) :: rest)) :=
  rCVI (As := []) (k := 14 + 3 * j) (ct4_farthestPlace hj hg) ok4 lX4_farthestPlace k_216 (sW hj) rfl rfl C X rfl hrm hsz hR hcs hd kk
set_option maxRecDepth 100000 in
set_option maxHeartbeats 4000000 in
theorem w0_farthestPlace_1 {p : Program} {l : Launch} {e : Env} {s : State} {m : MethodId} {args : Array Value} {below : List Frame} {meth : Method} {c : Code} {D : va_G} {cy : Nat → ClassId} {ad : Nat → Nat} {r : Int32} {μ : Mem} {ν : Lem} (C : Cx true p s m args meth c cX0_farthestPlace 3 RX0 D cy ad) (hr : meth.sig.returnType = some .int) : ∀ (n : Nat), ∀ (o : Nat) (x1 : Int32) (x2 : Int32) (ho : o < 2), f0_farthestPlace_1 μ n o x1 x2 = some r → ∀ (H : Heap) (locs : List Loc), Wd true D cy ad s.heap μ ν H locs → ∀ (ls : Array Slot), lv_has ls 3 [(0, .ref (ad (1 + o))), (1, .int x1), (2, .int x2)] → WI true p l e 2 43 s m args below meth c D cy ad .int r μ ν H locs (F0 m 4 ls []) := by
  have hx := C.1.1
  have hb := C.1.2.1
  have hown := C.1.2.2.2.1
  have hts := C.1.2.2.2.2
  intro n
  induction n with
  | zero =>
    intro o x1 x2 ho hf H locs X ls hl
    rw [f0_farthestPlace_1] at hf
    cases hf
  | succ n ih =>
    intro o x1 x2 ho hf H locs X ls hl
    rw [f0_farthestPlace_1] at hf
    refine lv_iload_n hx hb dX0_farthestPlace_4 rfl (lv_at hl 2 rfl) ?_
    refine lv_aload_n hx hb dX0_farthestPlace_5 rfl (lv_at hl 0 rfl) ?_
    refine gfX0_22 (o := o) ho rfl C X dX0_farthestPlace_6 ?_
    refine lv_icmp_ge (tgt := 32) hx hb dX0_farthestPlace_9 (by decide) (fun c9 => ?_) (fun c9 => ?_)
    · replace hf := ifp c9 hf
      refine lv_iload_n hx hb dX0_farthestPlace_32 rfl (lv_at hl 1 rfl) ?_
      exact retI C X hr rfl (Option.some.inj hf) rfl rfl dX0_farthestPlace_33
    · replace hf := ifn c9 hf
      refine lv_iload_n hx hb dX0_farthestPlace_12 rfl (lv_at hl 1 rfl) ?_
      refine lv_aload_n hx hb dX0_farthestPlace_13 rfl (lv_at hl 0 rfl) ?_
      refine gfX0_17 (o := o) ho rfl (k2 := (12 + o)) rfl C X dX0_farthestPlace_14 ?_
      refine lv_iload_n hx hb dX0_farthestPlace_17 rfl (lv_at hl 2 rfl) ?_
      obtain ⟨h18, hf⟩ := gd_e hf
      have hb18 : (6 * o + x2.toNatClampNeg) < 13 := by have := inb_lt h18; omega
      refine rAald (t := 0) (k' := (14 + 3 * (6 * o + x2.toNatClampNeg))) C X (sPw ho) rfl h18 (by omega) dX0_farthestPlace_18 ?_
      obtain ⟨r19, g19, hf⟩ := bd1_e hf
      refine qX0_33 (j := (6 * o + x2.toNatClampNeg)) hb18 g19 C X hl.1 ((Nat.le_of_ble_eq_true rfl)) ⟨(Nat.le_of_ble_eq_true rfl), (Nat.le_of_ble_eq_true rfl)⟩ ⟨Nat.zero_le _, Nat.zero_le _⟩ dX0_farthestPlace_19 (fun H locs X b19 => ?_)
      refine rMax C k_223 hl.1 (Nat.le_of_ble_eq_true rfl) (Nat.le_of_ble_eq_true rfl) ⟨Nat.zero_le _, Nat.zero_le _⟩ dX0_farthestPlace_22 ?_
      obtain ⟨v25, e25, hf⟩ := nm_e2 hf
      refine st_i e25 ?_
      refine lv_istore_n (lv' := [(1, .int v25), (0, .ref (ad (1 + o))), (2, .int x2)]) hx hb dX0_farthestPlace_25 rfl hl (by decide) rfl (fun ls hl => ?_)
      obtain ⟨v26, e26, hf⟩ := nm_e2 hf
      refine rIinc (lv' := [(2, .int v26), (1, .int v25), (0, .ref (ad (1 + o)))]) hx hb dX0_farthestPlace_26 hl (k := 2) rfl e26 rfl (by decide) rfl (fun ls hl => ?_)
      refine lv_goto (tgt := 4) hx hb dX0_farthestPlace_29 (by decide) ?_
      exact ih o v25 v26 ho hf _ _ X _ (lv_sub hl [2, 1, 0] rfl)
set_option maxRecDepth 100000 in
set_option maxHeartbeats 4000000 in
theorem w0_farthestPlace {p : Program} {l : Launch} {e : Env} {s : State} {m : MethodId} {args : Array Value} {below : List Frame} {meth : Method} {c : Code} {D : va_G} {cy : Nat → ClassId} {ad : Nat → Nat} {r : Int32} {μ : Mem} {ν : Lem} (C : Cx true p s m args meth c cX0_farthestPlace 3 RX0 D cy ad) (hr : meth.sig.returnType = some .int) : ∀ (o : Nat) (ho : o < 2), f0_farthestPlace μ o = some r → ∀ (H : Heap) (locs : List Loc), Wd true D cy ad s.heap μ ν H locs → ∀ (ls : Array Slot), lv_has ls 3 [(0, .ref (ad (1 + o)))] → WI true p l e 2 43 s m args below meth c D cy ad .int r μ ν H locs (F0 m 0 ls []) := by
  have hx := C.1.1
  have hb := C.1.2.1
  have hown := C.1.2.2.2.1
  have hts := C.1.2.2.2.2
  intro o ho hf H locs X ls hl
  unfold f0_farthestPlace at hf
  refine lv_iconst (v := 0) hx hb dX0_farthestPlace_0 (by decide) ?_
  refine lv_istore_n (lv' := [(1, .int 0), (0, .ref (ad (1 + o)))]) hx hb dX0_farthestPlace_1 rfl hl (by decide) rfl (fun ls hl => ?_)
  refine lv_iconst (v := 0) hx hb dX0_farthestPlace_2 (by decide) ?_
  refine lv_istore_n (lv' := [(2, .int 0), (1, .int 0), (0, .ref (ad (1 + o)))]) hx hb dX0_farthestPlace_3 rfl hl (by decide) rfl (fun ls hl => ?_)
  exact w0_farthestPlace_1 C hr  FUEL o 0 0 ho hf _ _ X _ (lv_sub hl [2, 1, 0] rfl)
theorem ct0_farthestPlace {o : Nat} (ho : o < 2) {μ : Mem} {ν : Lem} {r : Int32} (hg : f0_farthestPlace μ o = some r) : CtI true yX0_farthestPlace cX0_farthestPlace 3 2 43 .int (fun ad => [.ref (ad (1 + o))]) μ ν r μ ν :=
  mkI (by decide) rfl (fun ad => Nat.le_of_ble_eq_true rfl) (fun p l e s m args below meth c D cy ad C hr X ls hl => w0_farthestPlace C hr o ho hg _ _ X _ hl)
theorem qX5_78 {p : Program} {l : Launch} {e : Env} {R : Room} {s : State} {m : MethodId} {args : Array Value} {below : List Frame} {meth : Method} {c : Code} {H : Heap} {locs : List Loc} {cells slots : Nat} {Q : State → Prop} {A : Nat → Prop} {cc : ByteArray} {nL : Nat} {D : va_G} {cy : Nat → ClassId} {ad : Nat → Nat} {μ : Mem} {ν : Lem} {pc : Nat} {ls : Array Slot} {rest : List Value} {o : Nat} (ho : o < 2) {r : Int32} (hg : f0_farthestPlace μ o = some r) (C : CxA true A p s m args meth c cc nL RX5 D cy ad) (X : WdA true A D cy ad s.heap μ ν H locs) (hsz : ls.size = nL) (hrm : (rest.map fun v => v.category).sum ≤ 8) (hR : 2 + 1 ≤ R.frames ∧ 8 + (3 + 11) + 43 ≤ R.locals) (hcs : cells ≤ R.cells ∧ slots ≤ R.slots) (hd : decode cc pc = .ok (.invokevirtual 78, 3)) (kk : ∀ (H1 : Heap) (locs1 : List Loc), WdA true A D cy ad s.heap μ ν H1 locs1 → narrow .int (.int r) = .int r → W p l e R s m args below meth c H1 locs1 cells slots Q (F0 m (pc + 3) ls (.int r :: rest))) : W p l e R s m args below meth c H locs cells slots Q (F0 m pc ls (.ref (ad (1 + o)) :: rest)) :=
  rCVI (As := []) (k := 1 + o) (ct0_farthestPlace ho hg) ok0 lX0_farthestPlace k_212 (sP ho) rfl rfl C X rfl hrm hsz hR hcs hd kk
set_option maxRecDepth 100000 in
set_option maxHeartbeats 4000000 in
theorem w1_begin_1 {p : Program} {l : Launch} {e : Env} {s : State} {m : MethodId} {args : Array Value} {below : List Frame} {meth : Method} {c : Code} {D : va_G} {cy : Nat → ClassId} {ad : Nat → Nat} {μ1 : Mem} {ν : Lem} (C : Cx true p s m args meth c cX1_begin 4 RX1 D cy ad) (hr : meth.sig.returnType = none) : ∀ (n : Nat), ∀ (μ : Mem) (q : Nat) (x3 : Int32) (hq : q < 4), f1_begin_1 n μ q x3 = some μ1 → ∀ (H : Heap) (locs : List Loc), Wd true D cy ad s.heap μ ν H locs → ∀ (ls : Array Slot), lv_has ls 4 [(0, .ref (ad (71 + 2 * q))), (3, .int x3)] → WV true p l e 1 21 s m args below meth c D cy ad μ1 ν H locs (F0 m 17 ls []) := by
  have hx := C.1.1
  have hb := C.1.2.1
  have hown := C.1.2.2.2.1
  have hts := C.1.2.2.2.2
  intro n
  induction n with
  | zero =>
    intro μ q x3 hq hf H locs X ls hl
    rw [f1_begin_1] at hf
    cases hf
  | succ n ih =>
    intro μ q x3 hq hf H locs X ls hl
    rw [f1_begin_1] at hf
    refine lv_iload_n hx hb dX1_begin_17 rfl (lv_at hl 1 rfl) ?_
    refine lv_aload_n hx hb dX1_begin_18 rfl (lv_at hl 0 rfl) ?_
    refine gfX1_25 (q := q) hq rfl C X dX1_begin_19 ?_
    refine lv_icmp_ge (tgt := 38) hx hb dX1_begin_22 (by decide) (fun c22 => ?_) (fun c22 => ?_)
    · replace hf := ifp c22 hf
      exact retV C X hr (Option.some.inj hf) rfl dX1_begin_38
    · replace hf := ifn c22 hf
      refine lv_aload_n hx hb dX1_begin_25 rfl (lv_at hl 0 rfl) ?_
      refine gfX1_15 (q := q) hq rfl (k2 := (72 + 2 * q)) rfl C X dX1_begin_26 ?_
      refine lv_iload_n hx hb dX1_begin_29 rfl (lv_at hl 1 rfl) ?_
      refine lv_iconst (v := 0) hx hb dX1_begin_30 (by decide) ?_
      obtain ⟨h31, hf⟩ := gd_e hf
      obtain ⟨μ31, e31, hf⟩ := nm_e2 hf
      refine rIast2 C X (sSi hq) h31 e31 dX1_begin_31 (fun H locs X => ?_)
      obtain ⟨v32, e32, hf⟩ := nm_e2 hf
      refine rIinc (lv' := [(3, .int v32), (0, .ref (ad (71 + 2 * q)))]) hx hb dX1_begin_32 hl (k := 1) rfl e32 rfl (by decide) rfl (fun ls hl => ?_)
      refine lv_goto (tgt := 17) hx hb dX1_begin_35 (by decide) ?_
      exact ih μ31 q v32 hq hf _ _ X _ (lv_sub hl [1, 0] rfl)
set_option maxRecDepth 100000 in
set_option maxHeartbeats 4000000 in
theorem w1_begin {p : Program} {l : Launch} {e : Env} {s : State} {m : MethodId} {args : Array Value} {below : List Frame} {meth : Method} {c : Code} {D : va_G} {cy : Nat → ClassId} {ad : Nat → Nat} {μ1 : Mem} {ν : Lem} (C : Cx true p s m args meth c cX1_begin 4 RX1 D cy ad) (hr : meth.sig.returnType = none) : ∀ (μ : Mem) (q : Nat) (x1 : Int32) (x2 : Int32) (hq : q < 4), f1_begin μ q x1 x2 = some μ1 → ∀ (H : Heap) (locs : List Loc), Wd true D cy ad s.heap μ ν H locs → ∀ (ls : Array Slot), lv_has ls 4 [(0, .ref (ad (71 + 2 * q))), (1, .int x1), (2, .int x2)] → WV true p l e 1 21 s m args below meth c D cy ad μ1 ν H locs (F0 m 0 ls []) := by
  have hx := C.1.1
  have hb := C.1.2.1
  have hown := C.1.2.2.2.1
  have hts := C.1.2.2.2.2
  intro μ q x1 x2 hq hf H locs X ls hl
  unfold f1_begin at hf
  refine lv_aload_n hx hb dX1_begin_0 rfl (lv_at hl 0 rfl) ?_
  refine lv_iload_n hx hb dX1_begin_1 rfl (lv_at hl 1 rfl) ?_
  obtain ⟨μ2, e2, hf⟩ := nm_e2 hf
  refine pfX1_9 (q := q) hq rfl e2 C X dX1_begin_2 (fun H locs X => ?_)
  refine lv_aload_n hx hb dX1_begin_5 rfl (lv_at hl 0 rfl) ?_
  refine lv_iload_n hx hb dX1_begin_6 rfl (lv_at hl 2 rfl) ?_
  refine lv_bipush (v := 40) hx hb dX1_begin_7 (by decide) ?_
  refine rMin C k_741 hl.1 (Nat.le_of_ble_eq_true rfl) (Nat.le_of_ble_eq_true rfl) ⟨Nat.zero_le _, Nat.zero_le _⟩ dX1_begin_9 ?_
  obtain ⟨μ12, e12, hf⟩ := nm_e2 hf
  refine pfX1_25 (q := q) hq rfl e12 C X dX1_begin_12 (fun H locs X => ?_)
  refine lv_iconst (v := 0) hx hb dX1_begin_15 (by decide) ?_
  refine lv_istore_n (lv' := [(3, .int 0), (0, .ref (ad (71 + 2 * q))), (1, .int x1), (2, .int x2)]) hx hb dX1_begin_16 rfl hl (by decide) rfl (fun ls hl => ?_)
  exact w1_begin_1 C hr  FUEL μ12 q 0 hq hf _ _ X _ (lv_sub hl [1, 0] rfl)
theorem ct1_begin {q : Nat} {x1 : Int32} {x2 : Int32} (hq : q < 4) {μ : Mem} {ν : Lem} {μ1 : Mem} (hg : f1_begin μ q x1 x2 = some μ1) : CtV true yX1_begin cX1_begin 4 1 21 (fun ad => [.ref (ad (71 + 2 * q)), .int x1, .int x2]) μ ν μ1 ν :=
  mkV (by decide) rfl (fun ad => Nat.le_of_ble_eq_true rfl) (fun p l e s m args below meth c D cy ad C hr X ls hl => w1_begin C hr μ q x1 x2 hq hg _ _ X _ hl)
theorem qX5_309 {p : Program} {l : Launch} {e : Env} {R : Room} {s : State} {m : MethodId} {args : Array Value} {below : List Frame} {meth : Method} {c : Code} {H : Heap} {locs : List Loc} {cells slots : Nat} {Q : State → Prop} {A : Nat → Prop} {cc : ByteArray} {nL : Nat} {D : va_G} {cy : Nat → ClassId} {ad : Nat → Nat} {μ : Mem} {ν : Lem} {pc : Nat} {ls : Array Slot} {rest : List Value} {q : Nat} {x1 : Int32} {x2 : Int32} (hq : q < 4) {μ1 : Mem} (hg : f1_begin μ q x1 x2 = some μ1) (C : CxA true A p s m args meth c cc nL RX5 D cy ad) (X : WdA true A D cy ad s.heap μ ν H locs) (hsz : ls.size = nL) (hrm : (rest.map fun v => v.category).sum ≤ 8) (hR : 1 + 1 ≤ R.frames ∧ 8 + (4 + 11) + 21 ≤ R.locals) (hcs : cells ≤ R.cells ∧ slots ≤ R.slots) (hd : decode cc pc = .ok (.invokevirtual 309, 3)) (kk : ∀ (H1 : Heap) (locs1 : List Loc), WdA true A D cy ad s.heap μ1 ν H1 locs1 → W p l e R s m args below meth c H1 locs1 cells slots Q (F0 m (pc + 3) ls rest)) : W p l e R s m args below meth c H locs cells slots Q (F0 m pc ls (.int x2 :: .int x1 :: .ref (ad (71 + 2 * q)) :: rest)) :=
  rCVV (As := [.int x1, .int x2]) (k := 71 + 2 * q) (ct1_begin hq hg) ok1 lX1_begin k_737 (sS hq) rfl rfl C X rfl hrm hsz hR hcs hd kk
set_option maxRecDepth 100000 in
set_option maxHeartbeats 4000000 in
theorem w1_isMissing {p : Program} {l : Launch} {e : Env} {s : State} {m : MethodId} {args : Array Value} {below : List Frame} {meth : Method} {c : Code} {D : va_G} {cy : Nat → ClassId} {ad : Nat → Nat} {r : Int32} {μ : Mem} {ν : Lem} (C : Cx true p s m args meth c cX1_isMissing 1 RX1 D cy ad) (hr : meth.sig.returnType = some .boolean) : ∀ (q : Nat) (hq : q < 4), f1_isMissing μ q = r → ∀ (H : Heap) (locs : List Loc), Wd true D cy ad s.heap μ ν H locs → ∀ (ls : Array Slot), lv_has ls 1 [(0, .ref (ad (71 + 2 * q)))] → WI true p l e 0 0 s m args below meth c D cy ad .boolean r μ ν H locs (F0 m 0 ls []) := by
  have hx := C.1.1
  have hb := C.1.2.1
  have hown := C.1.2.2.2.1
  have hts := C.1.2.2.2.2
  intro q hq hf H locs X ls hl
  unfold f1_isMissing at hf
  refine lv_aload_n hx hb dX1_isMissing_0 rfl (lv_at hl 0 rfl) ?_
  refine gfX1_9 (q := q) hq rfl C X dX1_isMissing_1 ?_
  refine lv_iconst (v := (-1)) hx hb dX1_isMissing_4 (by decide) ?_
  refine lv_icmp_ne (tgt := 12) hx hb dX1_isMissing_5 (by decide) (fun c5 => ?_) (fun c5 => ?_)
  · replace hf := ifn c5 hf
    refine lv_iconst (v := 0) hx hb dX1_isMissing_12 (by decide) ?_
    exact retI C X hr rfl hf rfl rfl dX1_isMissing_13
  · replace hf := ifp c5 hf
    refine lv_iconst (v := 1) hx hb dX1_isMissing_8 (by decide) ?_
    refine lv_goto (tgt := 13) hx hb dX1_isMissing_9 (by decide) ?_
    exact retI C X hr rfl hf rfl rfl dX1_isMissing_13
theorem ct1_isMissing {q : Nat} (hq : q < 4) {μ : Mem} {ν : Lem} {r : Int32} (hg : f1_isMissing μ q = r) : CtI true yX1_isMissing cX1_isMissing 1 0 0 .boolean (fun ad => [.ref (ad (71 + 2 * q))]) μ ν r μ ν :=
  mkI (by decide) rfl (fun ad => Nat.le_of_ble_eq_true rfl) (fun p l e s m args below meth c D cy ad C hr X ls hl => w1_isMissing C hr q hq hg _ _ X _ hl)
theorem qX5_230 {p : Program} {l : Launch} {e : Env} {R : Room} {s : State} {m : MethodId} {args : Array Value} {below : List Frame} {meth : Method} {c : Code} {H : Heap} {locs : List Loc} {cells slots : Nat} {Q : State → Prop} {A : Nat → Prop} {cc : ByteArray} {nL : Nat} {D : va_G} {cy : Nat → ClassId} {ad : Nat → Nat} {μ : Mem} {ν : Lem} {pc : Nat} {ls : Array Slot} {rest : List Value} {q : Nat} (hq : q < 4) {r : Int32} (hg : f1_isMissing μ q = r) (C : CxA true A p s m args meth c cc nL RX5 D cy ad) (X : WdA true A D cy ad s.heap μ ν H locs) (hsz : ls.size = nL) (hrm : (rest.map fun v => v.category).sum ≤ 8) (hR : 0 + 1 ≤ R.frames ∧ 8 + (1 + 11) + 0 ≤ R.locals) (hcs : cells ≤ R.cells ∧ slots ≤ R.slots) (hd : decode cc pc = .ok (.invokevirtual 230, 3)) (kk : ∀ (H1 : Heap) (locs1 : List Loc), WdA true A D cy ad s.heap μ ν H1 locs1 → narrow .boolean (.int r) = .int r → W p l e R s m args below meth c H1 locs1 cells slots Q (F0 m (pc + 3) ls (.int r :: rest))) : W p l e R s m args below meth c H locs cells slots Q (F0 m pc ls (.ref (ad (71 + 2 * q)) :: rest)) :=
  rCVI (As := []) (k := 71 + 2 * q) (ct1_isMissing hq hg) ok1 lX1_isMissing k_611 (sS hq) rfl rfl C X rfl hrm hsz hR hcs hd kk
set_option maxRecDepth 100000 in
set_option maxHeartbeats 4000000 in
theorem w1_holds {p : Program} {l : Launch} {e : Env} {s : State} {m : MethodId} {args : Array Value} {below : List Frame} {meth : Method} {c : Code} {D : va_G} {cy : Nat → ClassId} {ad : Nat → Nat} {r : Int32} {μ : Mem} {ν : Lem} (C : Cx true p s m args meth c cX1_holds 3 RX1 D cy ad) (hr : meth.sig.returnType = some .boolean) : ∀ (q : Nat) (x1 : Int32) (x2 : Int32) (hq : q < 4), f1_holds μ q x1 x2 = r → ∀ (H : Heap) (locs : List Loc), Wd true D cy ad s.heap μ ν H locs → ∀ (ls : Array Slot), lv_has ls 3 [(0, .ref (ad (71 + 2 * q))), (1, .int x1), (2, .int x2)] → WI true p l e 0 0 s m args below meth c D cy ad .boolean r μ ν H locs (F0 m 0 ls []) := by
  have hx := C.1.1
  have hb := C.1.2.1
  have hown := C.1.2.2.2.1
  have hts := C.1.2.2.2.2
  intro q x1 x2 hq hf H locs X ls hl
  unfold f1_holds at hf
  refine lv_iload_n hx hb dX1_holds_0 rfl (lv_at hl 1 rfl) ?_
  refine lv_if_lt (tgt := 30) hx hb dX1_holds_1 (by decide) (fun c1 => ?_) (fun c1 => ?_)
  · replace hf := ifp c1 hf
    refine lv_iconst (v := 0) hx hb dX1_holds_30 (by decide) ?_
    exact retI C X hr rfl hf rfl rfl dX1_holds_31
  · replace hf := ifn c1 hf
    refine lv_iload_n hx hb dX1_holds_4 rfl (lv_at hl 2 rfl) ?_
    refine lv_if_lt (tgt := 30) hx hb dX1_holds_5 (by decide) (fun c5 => ?_) (fun c5 => ?_)
    · replace hf := ifp c5 hf
      refine lv_iconst (v := 0) hx hb dX1_holds_30 (by decide) ?_
      exact retI C X hr rfl hf rfl rfl dX1_holds_31
    · replace hf := ifn c5 hf
      refine lv_iload_n hx hb dX1_holds_8 rfl (lv_at hl 2 rfl) ?_
      refine lv_aload_n hx hb dX1_holds_9 rfl (lv_at hl 0 rfl) ?_
      refine gfX1_25 (q := q) hq rfl C X dX1_holds_10 ?_
      refine lv_icmp_gt (tgt := 30) hx hb dX1_holds_13 (by decide) (fun c13 => ?_) (fun c13 => ?_)
      · replace hf := ifp c13 hf
        refine lv_iconst (v := 0) hx hb dX1_holds_30 (by decide) ?_
        exact retI C X hr rfl hf rfl rfl dX1_holds_31
      · replace hf := ifn c13 hf
        refine lv_iload_n hx hb dX1_holds_16 rfl (lv_at hl 1 rfl) ?_
        refine lv_aload_n hx hb dX1_holds_17 rfl (lv_at hl 0 rfl) ?_
        refine gfX1_25 (q := q) hq rfl C X dX1_holds_18 ?_
        refine lv_iload_n hx hb dX1_holds_21 rfl (lv_at hl 2 rfl) ?_
        refine lv_isub hx hb dX1_holds_22 ?_
        refine lv_icmp_gt (tgt := 30) hx hb dX1_holds_23 (by decide) (fun c23 => ?_) (fun c23 => ?_)
        · replace hf := ifp c23 hf
          refine lv_iconst (v := 0) hx hb dX1_holds_30 (by decide) ?_
          exact retI C X hr rfl hf rfl rfl dX1_holds_31
        · replace hf := ifn c23 hf
          refine lv_iconst (v := 1) hx hb dX1_holds_26 (by decide) ?_
          refine lv_goto (tgt := 31) hx hb dX1_holds_27 (by decide) ?_
          exact retI C X hr rfl hf rfl rfl dX1_holds_31
theorem ct1_holds {q : Nat} {x1 : Int32} {x2 : Int32} (hq : q < 4) {μ : Mem} {ν : Lem} {r : Int32} (hg : f1_holds μ q x1 x2 = r) : CtI true yX1_holds cX1_holds 3 0 0 .boolean (fun ad => [.ref (ad (71 + 2 * q)), .int x1, .int x2]) μ ν r μ ν :=
  mkI (by decide) rfl (fun ad => Nat.le_of_ble_eq_true rfl) (fun p l e s m args below meth c D cy ad C hr X ls hl => w1_holds C hr q x1 x2 hq hg _ _ X _ hl)
theorem qX5_313 {p : Program} {l : Launch} {e : Env} {R : Room} {s : State} {m : MethodId} {args : Array Value} {below : List Frame} {meth : Method} {c : Code} {H : Heap} {locs : List Loc} {cells slots : Nat} {Q : State → Prop} {A : Nat → Prop} {cc : ByteArray} {nL : Nat} {D : va_G} {cy : Nat → ClassId} {ad : Nat → Nat} {μ : Mem} {ν : Lem} {pc : Nat} {ls : Array Slot} {rest : List Value} {q : Nat} {x1 : Int32} {x2 : Int32} (hq : q < 4) {r : Int32} (hg : f1_holds μ q x1 x2 = r) (C : CxA true A p s m args meth c cc nL RX5 D cy ad) (X : WdA true A D cy ad s.heap μ ν H locs) (hsz : ls.size = nL) (hrm : (rest.map fun v => v.category).sum ≤ 8) (hR : 0 + 1 ≤ R.frames ∧ 8 + (3 + 11) + 0 ≤ R.locals) (hcs : cells ≤ R.cells ∧ slots ≤ R.slots) (hd : decode cc pc = .ok (.invokevirtual 313, 3)) (kk : ∀ (H1 : Heap) (locs1 : List Loc), WdA true A D cy ad s.heap μ ν H1 locs1 → narrow .boolean (.int r) = .int r → W p l e R s m args below meth c H1 locs1 cells slots Q (F0 m (pc + 3) ls (.int r :: rest))) : W p l e R s m args below meth c H locs cells slots Q (F0 m pc ls (.int x2 :: .int x1 :: .ref (ad (71 + 2 * q)) :: rest)) :=
  rCVI (As := [.int x1, .int x2]) (k := 71 + 2 * q) (ct1_holds hq hg) ok1 lX1_holds k_749 (sS hq) rfl rfl C X rfl hrm hsz hR hcs hd kk
set_option maxRecDepth 100000 in
set_option maxHeartbeats 4000000 in
theorem w1_put {p : Program} {l : Launch} {e : Env} {s : State} {m : MethodId} {args : Array Value} {below : List Frame} {meth : Method} {c : Code} {D : va_G} {cy : Nat → ClassId} {ad : Nat → Nat} {μ1 : Mem} {ν : Lem} (C : Cx true p s m args meth c cX1_put 3 RX1 D cy ad) (hr : meth.sig.returnType = none) : ∀ (μ : Mem) (q : Nat) (x1 : Int32) (x2 : Int32) (hq : q < 4), f1_put μ q x1 x2 = some μ1 → ∀ (H : Heap) (locs : List Loc), Wd true D cy ad s.heap μ ν H locs → ∀ (ls : Array Slot), lv_has ls 3 [(0, .ref (ad (71 + 2 * q))), (1, .int x1), (2, .int x2)] → WV true p l e 0 0 s m args below meth c D cy ad μ1 ν H locs (F0 m 0 ls []) := by
  have hx := C.1.1
  have hb := C.1.2.1
  have hown := C.1.2.2.2.1
  have hts := C.1.2.2.2.2
  intro μ q x1 x2 hq hf H locs X ls hl
  unfold f1_put at hf
  refine lv_aload_n hx hb dX1_put_0 rfl (lv_at hl 0 rfl) ?_
  refine gfX1_15 (q := q) hq rfl (k2 := (72 + 2 * q)) rfl C X dX1_put_1 ?_
  refine lv_iload_n hx hb dX1_put_4 rfl (lv_at hl 1 rfl) ?_
  refine lv_aload_n hx hb dX1_put_5 rfl (lv_at hl 0 rfl) ?_
  refine gfX1_9 (q := q) hq rfl C X dX1_put_6 ?_
  refine lv_if_ne (tgt := 17) hx hb dX1_put_9 (by decide) (fun c9 => ?_) (fun c9 => ?_)
  · replace hf := ifn c9 hf
    refine lv_aload_n hx hb dX1_put_17 rfl (lv_at hl 0 rfl) ?_
    refine gfX1_9 (q := q) hq rfl C X dX1_put_18 ?_
    refine lv_iconst (v := 1) hx hb dX1_put_21 (by decide) ?_
    refine lv_icmp_ne (tgt := 30) hx hb dX1_put_22 (by decide) (fun c22 => ?_) (fun c22 => ?_)
    · replace hf := ifn c22 hf
      refine lv_iload_n hx hb dX1_put_30 rfl (lv_at hl 2 rfl) ?_
      obtain ⟨h31, hf⟩ := gd_e hf
      obtain ⟨μ31, e31, hf⟩ := nm_e2 hf
      refine rIast2 C X (sSi hq) h31 e31 dX1_put_31 (fun H locs X => ?_)
      exact retV C X hr (Option.some.inj hf) rfl dX1_put_32
    · replace hf := ifp c22 hf
      refine lv_iload_n hx hb dX1_put_25 rfl (lv_at hl 2 rfl) ?_
      refine lv_i2s hx hb dX1_put_26 rfl ?_
      refine lv_goto (tgt := 31) hx hb dX1_put_27 (by decide) ?_
      obtain ⟨h31, hf⟩ := gd_e hf
      obtain ⟨μ31, e31, hf⟩ := nm_e2 hf
      refine rIast2 C X (sSi hq) h31 e31 dX1_put_31 (fun H locs X => ?_)
      exact retV C X hr (Option.some.inj hf) rfl dX1_put_32
  · replace hf := ifp c9 hf
    refine lv_iload_n hx hb dX1_put_12 rfl (lv_at hl 2 rfl) ?_
    refine lv_i2b hx hb dX1_put_13 rfl ?_
    refine lv_goto (tgt := 31) hx hb dX1_put_14 (by decide) ?_
    obtain ⟨h31, hf⟩ := gd_e hf
    obtain ⟨μ31, e31, hf⟩ := nm_e2 hf
    refine rIast2 C X (sSi hq) h31 e31 dX1_put_31 (fun H locs X => ?_)
    exact retV C X hr (Option.some.inj hf) rfl dX1_put_32
theorem ct1_put {q : Nat} {x1 : Int32} {x2 : Int32} (hq : q < 4) {μ : Mem} {ν : Lem} {μ1 : Mem} (hg : f1_put μ q x1 x2 = some μ1) : CtV true yX1_put cX1_put 3 0 0 (fun ad => [.ref (ad (71 + 2 * q)), .int x1, .int x2]) μ ν μ1 ν :=
  mkV (by decide) rfl (fun ad => Nat.le_of_ble_eq_true rfl) (fun p l e s m args below meth c D cy ad C hr X ls hl => w1_put C hr μ q x1 x2 hq hg _ _ X _ hl)
theorem qX5_316 {p : Program} {l : Launch} {e : Env} {R : Room} {s : State} {m : MethodId} {args : Array Value} {below : List Frame} {meth : Method} {c : Code} {H : Heap} {locs : List Loc} {cells slots : Nat} {Q : State → Prop} {A : Nat → Prop} {cc : ByteArray} {nL : Nat} {D : va_G} {cy : Nat → ClassId} {ad : Nat → Nat} {μ : Mem} {ν : Lem} {pc : Nat} {ls : Array Slot} {rest : List Value} {q : Nat} {x1 : Int32} {x2 : Int32} (hq : q < 4) {μ1 : Mem} (hg : f1_put μ q x1 x2 = some μ1) (C : CxA true A p s m args meth c cc nL RX5 D cy ad) (X : WdA true A D cy ad s.heap μ ν H locs) (hsz : ls.size = nL) (hrm : (rest.map fun v => v.category).sum ≤ 8) (hR : 0 + 1 ≤ R.frames ∧ 8 + (3 + 11) + 0 ≤ R.locals) (hcs : cells ≤ R.cells ∧ slots ≤ R.slots) (hd : decode cc pc = .ok (.invokevirtual 316, 3)) (kk : ∀ (H1 : Heap) (locs1 : List Loc), WdA true A D cy ad s.heap μ1 ν H1 locs1 → W p l e R s m args below meth c H1 locs1 cells slots Q (F0 m (pc + 3) ls rest)) : W p l e R s m args below meth c H locs cells slots Q (F0 m pc ls (.int x2 :: .int x1 :: .ref (ad (71 + 2 * q)) :: rest)) :=
  rCVV (As := [.int x1, .int x2]) (k := 71 + 2 * q) (ct1_put hq hg) ok1 lX1_put k_753 (sS hq) rfl rfl C X rfl hrm hsz hR hcs hd kk
set_option maxRecDepth 100000 in
set_option maxHeartbeats 4000000 in
theorem w5_rest {p : Program} {l : Launch} {e : Env} {s : State} {m : MethodId} {args : Array Value} {below : List Frame} {meth : Method} {c : Code} {D : va_G} {cy : Nat → ClassId} {ad : Nat → Nat} {r : Int32} {μ : Mem} {ν : Lem} (C : Cx true p s m args meth c cX5_rest 2 RX5 D cy ad) (hr : meth.sig.returnType = some .int) : ∀ (x0 : Int32) (x1 : Int32), f5_rest x0 x1 = some r → ∀ (H : Heap) (locs : List Loc), Wd true D cy ad s.heap μ ν H locs → ∀ (ls : Array Slot), lv_has ls 2 [(0, .int x0), (1, .int x1)] → WI true p l e 0 0 s m args below meth c D cy ad .int r μ ν H locs (F0 m 0 ls []) := by
  have hx := C.1.1
  have hb := C.1.2.1
  have hown := C.1.2.2.2.1
  have hts := C.1.2.2.2.2
  intro x0 x1 hf H locs X ls hl
  unfold f5_rest at hf
  refine lv_iload_n hx hb dX5_rest_0 rfl (lv_at hl 1 rfl) ?_
  refine lv_iconst (v := 1) hx hb dX5_rest_1 (by decide) ?_
  refine lv_icmp_ge (tgt := 9) hx hb dX5_rest_2 (by decide) (fun c2 => ?_) (fun c2 => ?_)
  · replace hf := ifp c2 hf
    refine lv_iload_n hx hb dX5_rest_9 rfl (lv_at hl 0 rfl) ?_
    refine lv_iload_n hx hb dX5_rest_10 rfl (lv_at hl 1 rfl) ?_
    obtain ⟨h11, hf⟩ := gd_e hf
    refine rIrem hx hb dX5_rest_11 h11 ?_
    exact retI C X hr rfl (Option.some.inj hf) rfl rfl dX5_rest_12
  · replace hf := ifn c2 hf
    refine lv_iconst (v := 0) hx hb dX5_rest_5 (by decide) ?_
    refine lv_goto (tgt := 12) hx hb dX5_rest_6 (by decide) ?_
    exact retI C X hr rfl (Option.some.inj hf) rfl rfl dX5_rest_12
theorem ct5_rest {x0 : Int32} {x1 : Int32} {μ : Mem} {ν : Lem} {r : Int32} (hg : f5_rest x0 x1 = some r) : CtI true yX5_rest cX5_rest 2 0 0 .int (fun ad => [.int x0, .int x1]) μ ν r μ ν :=
  mkI (by decide) rfl (fun ad => Nat.le_of_ble_eq_true rfl) (fun p l e s m args below meth c D cy ad C hr X ls hl => w5_rest C hr x0 x1 hg _ _ X _ hl)
theorem qX4_58 {p : Program} {l : Launch} {e : Env} {R : Room} {s : State} {m : MethodId} {args : Array Value} {below : List Frame} {meth : Method} {c : Code} {H : Heap} {locs : List Loc} {cells slots : Nat} {Q : State → Prop} {A : Nat → Prop} {cc : ByteArray} {nL : Nat} {D : va_G} {cy : Nat → ClassId} {ad : Nat → Nat} {μ : Mem} {ν : Lem} {pc : Nat} {ls : Array Slot} {rest : List Value} {x0 : Int32} {x1 : Int32} {r : Int32} (hg : f5_rest x0 x1 = some r) (C : CxA true A p s m args meth c cc nL RX4 D cy ad) (X : WdA true A D cy ad s.heap μ ν H locs) (hsz : ls.size = nL) (hrm : (rest.map fun v => v.category).sum ≤ 8) (hR : 0 + 1 ≤ R.frames ∧ 8 + (2 + 11) + 0 ≤ R.locals) (hcs : cells ≤ R.cells ∧ slots ≤ R.slots) (hd : decode cc pc = .ok (.invokestatic 58, 3)) (kk : ∀ (H1 : Heap) (locs1 : List Loc), WdA true A D cy ad s.heap μ ν H1 locs1 → narrow .int (.int r) = .int r → W p l e R s m args below meth c H1 locs1 cells slots Q (F0 m (pc + 3) ls (.int r :: rest))) : W p l e R s m args below meth c H locs cells slots Q (F0 m pc ls (.int x1 :: .int x0 :: rest)) :=
  rCSIN (As := [.int x0, .int x1]) (ct5_rest hg) lX5_rest (nk_19) rfl rfl C X rfl hrm hsz hR hcs hd kk
theorem qX1_28 {p : Program} {l : Launch} {e : Env} {R : Room} {s : State} {m : MethodId} {args : Array Value} {below : List Frame} {meth : Method} {c : Code} {H : Heap} {locs : List Loc} {cells slots : Nat} {Q : State → Prop} {A : Nat → Prop} {cc : ByteArray} {nL : Nat} {D : va_G} {cy : Nat → ClassId} {ad : Nat → Nat} {μ : Mem} {ν : Lem} {pc : Nat} {ls : Array Slot} {rest : List Value} {x0 : Int32} {x1 : Int32} {r : Int32} (hg : f5_rest x0 x1 = some r) (C : CxA true A p s m args meth c cc nL RX1 D cy ad) (X : WdA true A D cy ad s.heap μ ν H locs) (hsz : ls.size = nL) (hrm : (rest.map fun v => v.category).sum ≤ 8) (hR : 0 + 1 ≤ R.frames ∧ 8 + (2 + 11) + 0 ≤ R.locals) (hcs : cells ≤ R.cells ∧ slots ≤ R.slots) (hd : decode cc pc = .ok (.invokestatic 28, 3)) (kk : ∀ (H1 : Heap) (locs1 : List Loc), WdA true A D cy ad s.heap μ ν H1 locs1 → narrow .int (.int r) = .int r → W p l e R s m args below meth c H1 locs1 cells slots Q (F0 m (pc + 3) ls (.int r :: rest))) : W p l e R s m args below meth c H locs cells slots Q (F0 m pc ls (.int x1 :: .int x0 :: rest)) :=
  rCSIN (As := [.int x0, .int x1]) (ct5_rest hg) lX5_rest (nk_21) rfl rfl C X rfl hrm hsz hR hcs hd kk
theorem qX5_295 {p : Program} {l : Launch} {e : Env} {R : Room} {s : State} {m : MethodId} {args : Array Value} {below : List Frame} {meth : Method} {c : Code} {H : Heap} {locs : List Loc} {cells slots : Nat} {Q : State → Prop} {A : Nat → Prop} {cc : ByteArray} {nL : Nat} {D : va_G} {cy : Nat → ClassId} {ad : Nat → Nat} {μ : Mem} {ν : Lem} {pc : Nat} {ls : Array Slot} {rest : List Value} {x0 : Int32} {x1 : Int32} {r : Int32} (hg : f5_rest x0 x1 = some r) (C : CxA true A p s m args meth c cc nL RX5 D cy ad) (X : WdA true A D cy ad s.heap μ ν H locs) (hsz : ls.size = nL) (hrm : (rest.map fun v => v.category).sum ≤ 8) (hR : 0 + 1 ≤ R.frames ∧ 8 + (2 + 11) + 0 ≤ R.locals) (hcs : cells ≤ R.cells ∧ slots ≤ R.slots) (hd : decode cc pc = .ok (.invokestatic 295, 3)) (kk : ∀ (H1 : Heap) (locs1 : List Loc), WdA true A D cy ad s.heap μ ν H1 locs1 → narrow .int (.int r) = .int r → W p l e R s m args below meth c H1 locs1 cells slots Q (F0 m (pc + 3) ls (.int r :: rest))) : W p l e R s m args below meth c H locs cells slots Q (F0 m pc ls (.int x1 :: .int x0 :: rest)) :=
  rCSI (As := [.int x0, .int x1]) (ct5_rest hg) lX5_rest k_702 rfl rfl C X rfl hrm hsz hR hcs hd kk
set_option maxRecDepth 100000 in
set_option maxHeartbeats 4000000 in
theorem w1_onRing {p : Program} {l : Launch} {e : Env} {s : State} {m : MethodId} {args : Array Value} {below : List Frame} {meth : Method} {c : Code} {D : va_G} {cy : Nat → ClassId} {ad : Nat → Nat} {r : Int32} {μ : Mem} {ν : Lem} (C : Cx true p s m args meth c cX1_onRing 2 RX1 D cy ad) (hr : meth.sig.returnType = some .int) : ∀ (q : Nat) (x1 : Int32) (hq : q < 4), f1_onRing μ q x1 = some r → ∀ (H : Heap) (locs : List Loc), Wd true D cy ad s.heap μ ν H locs → ∀ (ls : Array Slot), lv_has ls 2 [(0, .ref (ad (71 + 2 * q))), (1, .int x1)] → WI true p l e 1 21 s m args below meth c D cy ad .int r μ ν H locs (F0 m 0 ls []) := by
  have hx := C.1.1
  have hb := C.1.2.1
  have hown := C.1.2.2.2.1
  have hts := C.1.2.2.2.2
  intro q x1 hq hf H locs X ls hl
  unfold f1_onRing at hf
  refine lv_aload_n hx hb dX1_onRing_0 rfl (lv_at hl 0 rfl) ?_
  refine gfX1_15 (q := q) hq rfl (k2 := (72 + 2 * q)) rfl C X dX1_onRing_1 ?_
  refine lv_iload_n hx hb dX1_onRing_4 rfl (lv_at hl 1 rfl) ?_
  refine lv_aload_n hx hb dX1_onRing_5 rfl (lv_at hl 0 rfl) ?_
  refine gfX1_25 (q := q) hq rfl C X dX1_onRing_6 ?_
  obtain ⟨r9, g9, hf⟩ := bd1_e hf
  refine qX1_28 g9 C X hl.1 ((Nat.le_of_ble_eq_true rfl)) ⟨(Nat.le_of_ble_eq_true rfl), (Nat.le_of_ble_eq_true rfl)⟩ ⟨Nat.zero_le _, Nat.zero_le _⟩ dX1_onRing_9 (fun H locs X b9 => ?_)
  obtain ⟨h12, hf⟩ := gd_e hf
  refine rIald C X (sSi hq) h12 dX1_onRing_12 ?_
  exact retI C X hr rfl (Option.some.inj hf) rfl rfl dX1_onRing_13
theorem ct1_onRing {q : Nat} {x1 : Int32} (hq : q < 4) {μ : Mem} {ν : Lem} {r : Int32} (hg : f1_onRing μ q x1 = some r) : CtI true yX1_onRing cX1_onRing 2 1 21 .int (fun ad => [.ref (ad (71 + 2 * q)), .int x1]) μ ν r μ ν :=
  mkI (by decide) rfl (fun ad => Nat.le_of_ble_eq_true rfl) (fun p l e s m args below meth c D cy ad C hr X ls hl => w1_onRing C hr q x1 hq hg _ _ X _ hl)
theorem qX1_31 {p : Program} {l : Launch} {e : Env} {R : Room} {s : State} {m : MethodId} {args : Array Value} {below : List Frame} {meth : Method} {c : Code} {H : Heap} {locs : List Loc} {cells slots : Nat} {Q : State → Prop} {A : Nat → Prop} {cc : ByteArray} {nL : Nat} {D : va_G} {cy : Nat → ClassId} {ad : Nat → Nat} {μ : Mem} {ν : Lem} {pc : Nat} {ls : Array Slot} {rest : List Value} {q : Nat} {x1 : Int32} (hq : q < 4) {r : Int32} (hg : f1_onRing μ q x1 = some r) (C : CxA true A p s m args meth c cc nL RX1 D cy ad) (X : WdA true A D cy ad s.heap μ ν H locs) (hsz : ls.size = nL) (hrm : (rest.map fun v => v.category).sum ≤ 8) (hR : 1 + 1 ≤ R.frames ∧ 8 + (2 + 11) + 21 ≤ R.locals) (hcs : cells ≤ R.cells ∧ slots ≤ R.slots) (hd : decode cc pc = .ok (.invokevirtual 31, 3)) (kk : ∀ (H1 : Heap) (locs1 : List Loc), WdA true A D cy ad s.heap μ ν H1 locs1 → narrow .int (.int r) = .int r → W p l e R s m args below meth c H1 locs1 cells slots Q (F0 m (pc + 3) ls (.int r :: rest))) : W p l e R s m args below meth c H locs cells slots Q (F0 m pc ls (.int x1 :: .ref (ad (71 + 2 * q)) :: rest)) :=
  rCVI (As := [.int x1]) (k := 71 + 2 * q) (ct1_onRing hq hg) ok1 lX1_onRing k_680 (sS hq) rfl rfl C X rfl hrm hsz hR hcs hd kk
set_option maxRecDepth 100000 in
set_option maxHeartbeats 4000000 in
theorem w1_filled_1 {p : Program} {l : Launch} {e : Env} {s : State} {m : MethodId} {args : Array Value} {below : List Frame} {meth : Method} {c : Code} {D : va_G} {cy : Nat → ClassId} {ad : Nat → Nat} {r : Int32} {μ : Mem} {ν : Lem} (C : Cx true p s m args meth c cX1_filled 5 RX1 D cy ad) (hr : meth.sig.returnType = some .int) : ∀ (n : Nat), ∀ (q : Nat) (x1 : Int32) (x2 : Int32) (x3 : Int32) (x4 : Int32) (hq : q < 4), f1_filled_1 μ n q x1 x2 x3 x4 = some r → ∀ (H : Heap) (locs : List Loc), Wd true D cy ad s.heap μ ν H locs → ∀ (ls : Array Slot), lv_has ls 5 [(0, .ref (ad (71 + 2 * q))), (1, .int x1), (2, .int x2), (3, .int x3), (4, .int x4)] → WI true p l e 2 42 s m args below meth c D cy ad .int r μ ν H locs (F0 m 5 ls []) := by
  have hx := C.1.1
  have hb := C.1.2.1
  have hown := C.1.2.2.2.1
  have hts := C.1.2.2.2.2
  intro n
  induction n with
  | zero =>
    intro q x1 x2 x3 x4 hq hf H locs X ls hl
    rw [f1_filled_1] at hf
    cases hf
  | succ n ih =>
    intro q x1 x2 x3 x4 hq hf H locs X ls hl
    rw [f1_filled_1] at hf
    refine lv_iload hx hb dX1_filled_5 (lv_at hl 4 rfl) ?_
    refine lv_iload_n hx hb dX1_filled_7 rfl (lv_at hl 2 rfl) ?_
    refine lv_icmp_ge (tgt := 31) hx hb dX1_filled_8 (by decide) (fun c8 => ?_) (fun c8 => ?_)
    · replace hf := ifp c8 hf
      refine lv_iload_n hx hb dX1_filled_31 rfl (lv_at hl 3 rfl) ?_
      exact retI C X hr rfl (Option.some.inj hf) rfl rfl dX1_filled_32
    · replace hf := ifn c8 hf
      refine lv_aload_n hx hb dX1_filled_11 rfl (lv_at hl 0 rfl) ?_
      refine lv_iload_n hx hb dX1_filled_12 rfl (lv_at hl 1 rfl) ?_
      refine lv_iload hx hb dX1_filled_13 (lv_at hl 4 rfl) ?_
      refine lv_iadd hx hb dX1_filled_15 ?_
      obtain ⟨r16, g16, hf⟩ := bd1_e hf
      refine qX1_31 (q := q) hq g16 C X hl.1 ((Nat.le_of_ble_eq_true rfl)) ⟨(Nat.le_of_ble_eq_true rfl), (Nat.le_of_ble_eq_true rfl)⟩ ⟨Nat.zero_le _, Nat.zero_le _⟩ dX1_filled_16 (fun H locs X b16 => ?_)
      refine lv_if_eq (tgt := 25) hx hb dX1_filled_19 (by decide) (fun c19 => ?_) (fun c19 => ?_)
      · replace hf := ifp c19 hf
        obtain ⟨v25, e25, hf⟩ := nm_e2 hf
        refine rIinc (lv' := [(4, .int v25), (0, .ref (ad (71 + 2 * q))), (1, .int x1), (2, .int x2), (3, .int x3)]) hx hb dX1_filled_25 hl (k := 4) rfl e25 rfl (by decide) rfl (fun ls hl => ?_)
        refine lv_goto (tgt := 5) hx hb dX1_filled_28 (by decide) ?_
        exact ih q x1 x2 x3 v25 hq hf _ _ X _ (lv_sub hl [1, 2, 3, 4, 0] rfl)
      · replace hf := ifn c19 hf
        obtain ⟨v22, e22, hf⟩ := nm_e2 hf
        refine rIinc (lv' := [(3, .int v22), (0, .ref (ad (71 + 2 * q))), (1, .int x1), (2, .int x2), (4, .int x4)]) hx hb dX1_filled_22 hl (k := 3) rfl e22 rfl (by decide) rfl (fun ls hl => ?_)
        obtain ⟨v25, e25, hf⟩ := nm_e2 hf
        refine rIinc (lv' := [(4, .int v25), (3, .int v22), (0, .ref (ad (71 + 2 * q))), (1, .int x1), (2, .int x2)]) hx hb dX1_filled_25 hl (k := 4) rfl e25 rfl (by decide) rfl (fun ls hl => ?_)
        refine lv_goto (tgt := 5) hx hb dX1_filled_28 (by decide) ?_
        exact ih q x1 x2 v22 v25 hq hf _ _ X _ (lv_sub hl [2, 3, 4, 1, 0] rfl)
set_option maxRecDepth 100000 in
set_option maxHeartbeats 4000000 in
theorem w1_filled {p : Program} {l : Launch} {e : Env} {s : State} {m : MethodId} {args : Array Value} {below : List Frame} {meth : Method} {c : Code} {D : va_G} {cy : Nat → ClassId} {ad : Nat → Nat} {r : Int32} {μ : Mem} {ν : Lem} (C : Cx true p s m args meth c cX1_filled 5 RX1 D cy ad) (hr : meth.sig.returnType = some .int) : ∀ (q : Nat) (x1 : Int32) (x2 : Int32) (hq : q < 4), f1_filled μ q x1 x2 = some r → ∀ (H : Heap) (locs : List Loc), Wd true D cy ad s.heap μ ν H locs → ∀ (ls : Array Slot), lv_has ls 5 [(0, .ref (ad (71 + 2 * q))), (1, .int x1), (2, .int x2)] → WI true p l e 2 42 s m args below meth c D cy ad .int r μ ν H locs (F0 m 0 ls []) := by
  have hx := C.1.1
  have hb := C.1.2.1
  have hown := C.1.2.2.2.1
  have hts := C.1.2.2.2.2
  intro q x1 x2 hq hf H locs X ls hl
  unfold f1_filled at hf
  refine lv_iconst (v := 0) hx hb dX1_filled_0 (by decide) ?_
  refine lv_istore_n (lv' := [(3, .int 0), (0, .ref (ad (71 + 2 * q))), (1, .int x1), (2, .int x2)]) hx hb dX1_filled_1 rfl hl (by decide) rfl (fun ls hl => ?_)
  refine lv_iconst (v := 0) hx hb dX1_filled_2 (by decide) ?_
  refine lv_istore (lv' := [(4, .int 0), (3, .int 0), (0, .ref (ad (71 + 2 * q))), (1, .int x1), (2, .int x2)]) hx hb dX1_filled_3 hl (by decide) rfl (fun ls hl => ?_)
  exact w1_filled_1 C hr  FUEL q x1 x2 0 0 hq hf _ _ X _ (lv_sub hl [2, 3, 4, 1, 0] rfl)
theorem ct1_filled {q : Nat} {x1 : Int32} {x2 : Int32} (hq : q < 4) {μ : Mem} {ν : Lem} {r : Int32} (hg : f1_filled μ q x1 x2 = some r) : CtI true yX1_filled cX1_filled 5 2 42 .int (fun ad => [.ref (ad (71 + 2 * q)), .int x1, .int x2]) μ ν r μ ν :=
  mkI (by decide) rfl (fun ad => Nat.le_of_ble_eq_true rfl) (fun p l e s m args below meth c D cy ad C hr X ls hl => w1_filled C hr q x1 x2 hq hg _ _ X _ hl)
theorem qX5_284 {p : Program} {l : Launch} {e : Env} {R : Room} {s : State} {m : MethodId} {args : Array Value} {below : List Frame} {meth : Method} {c : Code} {H : Heap} {locs : List Loc} {cells slots : Nat} {Q : State → Prop} {A : Nat → Prop} {cc : ByteArray} {nL : Nat} {D : va_G} {cy : Nat → ClassId} {ad : Nat → Nat} {μ : Mem} {ν : Lem} {pc : Nat} {ls : Array Slot} {rest : List Value} {q : Nat} {x1 : Int32} {x2 : Int32} (hq : q < 4) {r : Int32} (hg : f1_filled μ q x1 x2 = some r) (C : CxA true A p s m args meth c cc nL RX5 D cy ad) (X : WdA true A D cy ad s.heap μ ν H locs) (hsz : ls.size = nL) (hrm : (rest.map fun v => v.category).sum ≤ 8) (hR : 2 + 1 ≤ R.frames ∧ 8 + (5 + 11) + 42 ≤ R.locals) (hcs : cells ≤ R.cells ∧ slots ≤ R.slots) (hd : decode cc pc = .ok (.invokevirtual 284, 3)) (kk : ∀ (H1 : Heap) (locs1 : List Loc), WdA true A D cy ad s.heap μ ν H1 locs1 → narrow .int (.int r) = .int r → W p l e R s m args below meth c H1 locs1 cells slots Q (F0 m (pc + 3) ls (.int r :: rest))) : W p l e R s m args below meth c H locs cells slots Q (F0 m pc ls (.int x2 :: .int x1 :: .ref (ad (71 + 2 * q)) :: rest)) :=
  rCVI (As := [.int x1, .int x2]) (k := 71 + 2 * q) (ct1_filled hq hg) ok1 lX1_filled k_676 (sS hq) rfl rfl C X rfl hrm hsz hR hcs hd kk
set_option maxRecDepth 100000 in
set_option maxHeartbeats 4000000 in
theorem w1_acrossFrom {p : Program} {l : Launch} {e : Env} {s : State} {m : MethodId} {args : Array Value} {below : List Frame} {meth : Method} {c : Code} {D : va_G} {cy : Nat → ClassId} {ad : Nat → Nat} {r : Int64} {μ : Mem} {ν : Lem} (C : Cx true p s m args meth c cX1_acrossFrom 2 RX1 D cy ad) (hr : meth.sig.returnType = some .long) : ∀ (q : Nat) (x1 : Int32) (hq : q < 4), f1_acrossFrom μ q x1 = some r → ∀ (H : Heap) (locs : List Loc), Wd true D cy ad s.heap μ ν H locs → ∀ (ls : Array Slot), lv_has ls 2 [(0, .ref (ad (71 + 2 * q))), (1, .int x1)] → WL true p l e 2 42 s m args below meth c D cy ad r μ ν H locs (F0 m 0 ls []) := by
  have hx := C.1.1
  have hb := C.1.2.1
  have hown := C.1.2.2.2.1
  have hts := C.1.2.2.2.2
  intro q x1 hq hf H locs X ls hl
  unfold f1_acrossFrom at hf
  refine lv_aload_n hx hb dX1_acrossFrom_0 rfl (lv_at hl 0 rfl) ?_
  refine lv_iload_n hx hb dX1_acrossFrom_1 rfl (lv_at hl 1 rfl) ?_
  obtain ⟨r2, g2, hf⟩ := bd1_e hf
  refine qX1_31 (q := q) hq g2 C X hl.1 ((Nat.le_of_ble_eq_true rfl)) ⟨(Nat.le_of_ble_eq_true rfl), (Nat.le_of_ble_eq_true rfl)⟩ ⟨Nat.zero_le _, Nat.zero_le _⟩ dX1_acrossFrom_2 (fun H locs X b2 => ?_)
  refine lv_i2l hx hb dX1_acrossFrom_5 rfl ?_
  refine lv_aload_n hx hb dX1_acrossFrom_6 rfl (lv_at hl 0 rfl) ?_
  refine lv_iload_n hx hb dX1_acrossFrom_7 rfl (lv_at hl 1 rfl) ?_
  refine lv_aload_n hx hb dX1_acrossFrom_8 rfl (lv_at hl 0 rfl) ?_
  refine gfX1_25 (q := q) hq rfl C X dX1_acrossFrom_9 ?_
  refine lv_iconst (v := 2) hx hb dX1_acrossFrom_12 (by decide) ?_
  refine lv_idiv hx hb dX1_acrossFrom_13 (by decide) ?_
  refine lv_iadd hx hb dX1_acrossFrom_14 ?_
  obtain ⟨r15, g15, hf⟩ := bd1_e hf
  refine qX1_31 (q := q) hq g15 C X hl.1 ((Nat.le_of_ble_eq_true rfl)) ⟨(Nat.le_of_ble_eq_true rfl), (Nat.le_of_ble_eq_true rfl)⟩ ⟨Nat.zero_le _, Nat.zero_le _⟩ dX1_acrossFrom_15 (fun H locs X b15 => ?_)
  refine lv_i2l hx hb dX1_acrossFrom_18 rfl ?_
  refine lv_lsub hx hb dX1_acrossFrom_19 ?_
  exact retL C X hr (Option.some.inj hf) rfl rfl dX1_acrossFrom_20
theorem ct1_acrossFrom {q : Nat} {x1 : Int32} (hq : q < 4) {μ : Mem} {ν : Lem} {r : Int64} (hg : f1_acrossFrom μ q x1 = some r) : CtL true yX1_acrossFrom cX1_acrossFrom 2 2 42 (fun ad => [.ref (ad (71 + 2 * q)), .int x1]) μ ν r μ ν :=
  mkL (by decide) rfl (fun ad => Nat.le_of_ble_eq_true rfl) (fun p l e s m args below meth c D cy ad C hr X ls hl => w1_acrossFrom C hr q x1 hq hg _ _ X _ hl)
theorem qX5_287 {p : Program} {l : Launch} {e : Env} {R : Room} {s : State} {m : MethodId} {args : Array Value} {below : List Frame} {meth : Method} {c : Code} {H : Heap} {locs : List Loc} {cells slots : Nat} {Q : State → Prop} {A : Nat → Prop} {cc : ByteArray} {nL : Nat} {D : va_G} {cy : Nat → ClassId} {ad : Nat → Nat} {μ : Mem} {ν : Lem} {pc : Nat} {ls : Array Slot} {rest : List Value} {q : Nat} {x1 : Int32} (hq : q < 4) {r : Int64} (hg : f1_acrossFrom μ q x1 = some r) (C : CxA true A p s m args meth c cc nL RX5 D cy ad) (X : WdA true A D cy ad s.heap μ ν H locs) (hsz : ls.size = nL) (hrm : (rest.map fun v => v.category).sum ≤ 8) (hR : 2 + 1 ≤ R.frames ∧ 8 + (2 + 11) + 42 ≤ R.locals) (hcs : cells ≤ R.cells ∧ slots ≤ R.slots) (hd : decode cc pc = .ok (.invokevirtual 287, 3)) (kk : ∀ (H1 : Heap) (locs1 : List Loc), WdA true A D cy ad s.heap μ ν H1 locs1 → W p l e R s m args below meth c H1 locs1 cells slots Q (F0 m (pc + 3) ls (.long r :: rest))) : W p l e R s m args below meth c H locs cells slots Q (F0 m pc ls (.int x1 :: .ref (ad (71 + 2 * q)) :: rest)) :=
  rCVL (As := [.int x1]) (k := 71 + 2 * q) (ct1_acrossFrom hq hg) ok1 lX1_acrossFrom k_689 (sS hq) rfl rfl C X rfl hrm hsz hR hcs hd kk
set_option maxRecDepth 100000 in
set_option maxHeartbeats 4000000 in
theorem w2_add {p : Program} {l : Launch} {e : Env} {s : State} {m : MethodId} {args : Array Value} {below : List Frame} {meth : Method} {c : Code} {D : va_G} {cy : Nat → ClassId} {ad : Nat → Nat} {μ1 : Mem} {ν : Lem} (C : Cx true p s m args meth c cX2_add 2 RX2 D cy ad) (hr : meth.sig.returnType = none) : ∀ (μ : Mem) (x1 : Int32), f2_add μ x1 = some μ1 → ∀ (H : Heap) (locs : List Loc), Wd true D cy ad s.heap μ ν H locs → ∀ (ls : Array Slot), lv_has ls 2 [(0, .ref (ad 3)), (1, .int x1)] → WV true p l e 0 0 s m args below meth c D cy ad μ1 ν H locs (F0 m 0 ls []) := by
  have hx := C.1.1
  have hb := C.1.2.1
  have hown := C.1.2.2.2.1
  have hts := C.1.2.2.2.2
  intro μ x1 hf H locs X ls hl
  unfold f2_add at hf
  refine lv_aload_n hx hb dX2_add_0 rfl (lv_at hl 0 rfl) ?_
  refine gfX2_15 C X dX2_add_1 ?_
  refine lv_sipush (v := 160) hx hb dX2_add_4 (by decide) ?_
  refine lv_icmp_ge (tgt := 30) hx hb dX2_add_7 (by decide) (fun c7 => ?_) (fun c7 => ?_)
  · replace hf := ifp c7 hf
    exact retV C X hr (Option.some.inj hf) rfl dX2_add_30
  · replace hf := ifn c7 hf
    refine lv_aload_n hx hb dX2_add_10 rfl (lv_at hl 0 rfl) ?_
    refine gfX2_9 C X dX2_add_11 ?_
    refine lv_aload_n hx hb dX2_add_14 rfl (lv_at hl 0 rfl) ?_
    refine gfX2_15 C X dX2_add_15 ?_
    refine lv_iload_n hx hb dX2_add_18 rfl (lv_at hl 1 rfl) ?_
    obtain ⟨h19, hf⟩ := gd_e hf
    obtain ⟨μ19, e19, hf⟩ := nm_e2 hf
    refine rIast2 C X rfl h19 e19 dX2_add_19 (fun H locs X => ?_)
    refine lv_aload_n hx hb dX2_add_20 rfl (lv_at hl 0 rfl) ?_
    refine lv_dup hx hb dX2_add_21 rfl ?_
    refine gfX2_15 C X dX2_add_22 ?_
    refine lv_iconst (v := 1) hx hb dX2_add_25 (by decide) ?_
    refine lv_iadd hx hb dX2_add_26 ?_
    obtain ⟨μ27, e27, hf⟩ := nm_e2 hf
    refine pfX2_15 e27 C X dX2_add_27 (fun H locs X => ?_)
    exact retV C X hr (Option.some.inj hf) rfl dX2_add_30
theorem ct2_add {x1 : Int32} {μ : Mem} {ν : Lem} {μ1 : Mem} (hg : f2_add μ x1 = some μ1) : CtV true yX2_add cX2_add 2 0 0 (fun ad => [.ref (ad 3), .int x1]) μ ν μ1 ν :=
  mkV (by decide) rfl (fun ad => Nat.le_of_ble_eq_true rfl) (fun p l e s m args below meth c D cy ad C hr X ls hl => w2_add C hr μ x1 hg _ _ X _ hl)
theorem qX5_133 {p : Program} {l : Launch} {e : Env} {R : Room} {s : State} {m : MethodId} {args : Array Value} {below : List Frame} {meth : Method} {c : Code} {H : Heap} {locs : List Loc} {cells slots : Nat} {Q : State → Prop} {A : Nat → Prop} {cc : ByteArray} {nL : Nat} {D : va_G} {cy : Nat → ClassId} {ad : Nat → Nat} {μ : Mem} {ν : Lem} {pc : Nat} {ls : Array Slot} {rest : List Value} {x1 : Int32} {μ1 : Mem} (hg : f2_add μ x1 = some μ1) (C : CxA true A p s m args meth c cc nL RX5 D cy ad) (X : WdA true A D cy ad s.heap μ ν H locs) (hsz : ls.size = nL) (hrm : (rest.map fun v => v.category).sum ≤ 8) (hR : 0 + 1 ≤ R.frames ∧ 8 + (2 + 11) + 0 ≤ R.locals) (hcs : cells ≤ R.cells ∧ slots ≤ R.slots) (hd : decode cc pc = .ok (.invokevirtual 133, 3)) (kk : ∀ (H1 : Heap) (locs1 : List Loc), WdA true A D cy ad s.heap μ1 ν H1 locs1 → W p l e R s m args below meth c H1 locs1 cells slots Q (F0 m (pc + 3) ls rest)) : W p l e R s m args below meth c H locs cells slots Q (F0 m pc ls (.int x1 :: .ref (ad 3) :: rest)) :=
  rCVV (As := [.int x1]) (k := 3) (ct2_add hg) ok2 lX2_add k_277 rfl rfl rfl C X rfl hrm hsz hR hcs hd kk
set_option maxRecDepth 100000 in
set_option maxHeartbeats 4000000 in
theorem w3_begin {p : Program} {l : Launch} {e : Env} {s : State} {m : MethodId} {args : Array Value} {below : List Frame} {meth : Method} {c : Code} {D : va_G} {cy : Nat → ClassId} {ad : Nat → Nat} {μ1 : Mem} {ν : Lem} (C : Cx true p s m args meth c cX3_begin 1 RX3 D cy ad) (hr : meth.sig.returnType = none) : ∀ (μ : Mem) (t : Nat) (ht : t < 6), f3_begin μ t = μ1 → ∀ (H : Heap) (locs : List Loc), Wd true D cy ad s.heap μ ν H locs → ∀ (ls : Array Slot), lv_has ls 1 [(0, .ref (ad (53 + 3 * t)))] → WV true p l e 0 0 s m args below meth c D cy ad μ1 ν H locs (F0 m 0 ls []) := by
  have hx := C.1.1
  have hb := C.1.2.1
  have hown := C.1.2.2.2.1
  have hts := C.1.2.2.2.2
  intro μ t ht hf H locs X ls hl
  unfold f3_begin at hf
  refine lv_aload_n hx hb dX3_begin_0 rfl (lv_at hl 0 rfl) ?_
  refine lv_iconst (v := 0) hx hb dX3_begin_1 (by decide) ?_
  obtain ⟨μ2, e2, hf⟩ := nm_e2 hf
  refine pfX3_18 (t := t) ht rfl e2 C X dX3_begin_2 (fun H locs X => ?_)
  exact retV C X hr hf rfl dX3_begin_5
theorem ct3_begin {t : Nat} (ht : t < 6) {μ : Mem} {ν : Lem} {μ1 : Mem} (hg : f3_begin μ t = μ1) : CtV true yX3_begin cX3_begin 1 0 0 (fun ad => [.ref (ad (53 + 3 * t))]) μ ν μ1 ν :=
  mkV (by decide) rfl (fun ad => Nat.le_of_ble_eq_true rfl) (fun p l e s m args below meth c D cy ad C hr X ls hl => w3_begin C hr μ t ht hg _ _ X _ hl)
theorem qX3_22 {p : Program} {l : Launch} {e : Env} {R : Room} {s : State} {m : MethodId} {args : Array Value} {below : List Frame} {meth : Method} {c : Code} {H : Heap} {locs : List Loc} {cells slots : Nat} {Q : State → Prop} {A : Nat → Prop} {cc : ByteArray} {nL : Nat} {D : va_G} {cy : Nat → ClassId} {ad : Nat → Nat} {μ : Mem} {ν : Lem} {pc : Nat} {ls : Array Slot} {rest : List Value} {t : Nat} (ht : t < 6) {μ1 : Mem} (hg : f3_begin μ t = μ1) (C : CxA true A p s m args meth c cc nL RX3 D cy ad) (X : WdA true A D cy ad s.heap μ ν H locs) (hsz : ls.size = nL) (hrm : (rest.map fun v => v.category).sum ≤ 8) (hR : 0 + 1 ≤ R.frames ∧ 8 + (1 + 11) + 0 ≤ R.locals) (hcs : cells ≤ R.cells ∧ slots ≤ R.slots) (hd : decode cc pc = .ok (.invokevirtual 22, 3)) (kk : ∀ (H1 : Heap) (locs1 : List Loc), WdA true A D cy ad s.heap μ1 ν H1 locs1 → W p l e R s m args below meth c H1 locs1 cells slots Q (F0 m (pc + 3) ls rest)) : W p l e R s m args below meth c H locs cells slots Q (F0 m pc ls (.ref (ad (53 + 3 * t)) :: rest)) :=
  rCVV (As := []) (k := 53 + 3 * t) (ct3_begin ht hg) ok3 lX3_begin k_152 (sT ht) rfl rfl C X rfl hrm hsz hR hcs hd kk
theorem qX2_29 {p : Program} {l : Launch} {e : Env} {R : Room} {s : State} {m : MethodId} {args : Array Value} {below : List Frame} {meth : Method} {c : Code} {H : Heap} {locs : List Loc} {cells slots : Nat} {Q : State → Prop} {A : Nat → Prop} {cc : ByteArray} {nL : Nat} {D : va_G} {cy : Nat → ClassId} {ad : Nat → Nat} {μ : Mem} {ν : Lem} {pc : Nat} {ls : Array Slot} {rest : List Value} {t : Nat} (ht : t < 6) {μ1 : Mem} (hg : f3_begin μ t = μ1) (C : CxA true A p s m args meth c cc nL RX2 D cy ad) (X : WdA true A D cy ad s.heap μ ν H locs) (hsz : ls.size = nL) (hrm : (rest.map fun v => v.category).sum ≤ 8) (hR : 0 + 1 ≤ R.frames ∧ 8 + (1 + 11) + 0 ≤ R.locals) (hcs : cells ≤ R.cells ∧ slots ≤ R.slots) (hd : decode cc pc = .ok (.invokevirtual 29, 3)) (kk : ∀ (H1 : Heap) (locs1 : List Loc), WdA true A D cy ad s.heap μ1 ν H1 locs1 → W p l e R s m args below meth c H1 locs1 cells slots Q (F0 m (pc + 3) ls rest)) : W p l e R s m args below meth c H locs cells slots Q (F0 m pc ls (.ref (ad (53 + 3 * t)) :: rest)) :=
  rCVV (As := []) (k := 53 + 3 * t) (ct3_begin ht hg) ok3 lX3_begin k_289 (sT ht) rfl rfl C X rfl hrm hsz hR hcs hd kk
set_option maxRecDepth 100000 in
set_option maxHeartbeats 4000000 in
theorem w2_isLetter {p : Program} {l : Launch} {e : Env} {s : State} {m : MethodId} {args : Array Value} {below : List Frame} {meth : Method} {c : Code} {D : va_G} {cy : Nat → ClassId} {ad : Nat → Nat} {r : Int32} {μ : Mem} {ν : Lem} (C : Cx true p s m args meth c cX2_isLetter 1 RX2 D cy ad) (hr : meth.sig.returnType = some .boolean) : ∀ (x0 : Int32), f2_isLetter x0 = r → ∀ (H : Heap) (locs : List Loc), Wd true D cy ad s.heap μ ν H locs → ∀ (ls : Array Slot), lv_has ls 1 [(0, .int x0)] → WI true p l e 0 0 s m args below meth c D cy ad .boolean r μ ν H locs (F0 m 0 ls []) := by
  have hx := C.1.1
  have hb := C.1.2.1
  have hown := C.1.2.2.2.1
  have hts := C.1.2.2.2.2
  intro x0 hf H locs X ls hl
  unfold f2_isLetter at hf
  refine lv_iload_n hx hb dX2_isLetter_0 rfl (lv_at hl 0 rfl) ?_
  refine lv_bipush (v := 97) hx hb dX2_isLetter_1 (by decide) ?_
  refine lv_icmp_lt (tgt := 16) hx hb dX2_isLetter_3 (by decide) (fun c3 => ?_) (fun c3 => ?_)
  · replace hf := ifp c3 hf
    refine lv_iconst (v := 0) hx hb dX2_isLetter_16 (by decide) ?_
    exact retI C X hr rfl hf rfl rfl dX2_isLetter_17
  · replace hf := ifn c3 hf
    refine lv_iload_n hx hb dX2_isLetter_6 rfl (lv_at hl 0 rfl) ?_
    refine lv_bipush (v := 122) hx hb dX2_isLetter_7 (by decide) ?_
    refine lv_icmp_gt (tgt := 16) hx hb dX2_isLetter_9 (by decide) (fun c9 => ?_) (fun c9 => ?_)
    · replace hf := ifp c9 hf
      refine lv_iconst (v := 0) hx hb dX2_isLetter_16 (by decide) ?_
      exact retI C X hr rfl hf rfl rfl dX2_isLetter_17
    · replace hf := ifn c9 hf
      refine lv_iconst (v := 1) hx hb dX2_isLetter_12 (by decide) ?_
      refine lv_goto (tgt := 17) hx hb dX2_isLetter_13 (by decide) ?_
      exact retI C X hr rfl hf rfl rfl dX2_isLetter_17
theorem ct2_isLetter {x0 : Int32} {μ : Mem} {ν : Lem} {r : Int32} (hg : f2_isLetter x0 = r) : CtI true yX2_isLetter cX2_isLetter 1 0 0 .boolean (fun ad => [.int x0]) μ ν r μ ν :=
  mkI (by decide) rfl (fun ad => Nat.le_of_ble_eq_true rfl) (fun p l e s m args below meth c D cy ad C hr X ls hl => w2_isLetter C hr x0 hg _ _ X _ hl)
theorem qX2_73 {p : Program} {l : Launch} {e : Env} {R : Room} {s : State} {m : MethodId} {args : Array Value} {below : List Frame} {meth : Method} {c : Code} {H : Heap} {locs : List Loc} {cells slots : Nat} {Q : State → Prop} {A : Nat → Prop} {cc : ByteArray} {nL : Nat} {D : va_G} {cy : Nat → ClassId} {ad : Nat → Nat} {μ : Mem} {ν : Lem} {pc : Nat} {ls : Array Slot} {rest : List Value} {x0 : Int32} {r : Int32} (hg : f2_isLetter x0 = r) (C : CxA true A p s m args meth c cc nL RX2 D cy ad) (X : WdA true A D cy ad s.heap μ ν H locs) (hsz : ls.size = nL) (hrm : (rest.map fun v => v.category).sum ≤ 8) (hR : 0 + 1 ≤ R.frames ∧ 8 + (1 + 11) + 0 ≤ R.locals) (hcs : cells ≤ R.cells ∧ slots ≤ R.slots) (hd : decode cc pc = .ok (.invokestatic 73, 3)) (kk : ∀ (H1 : Heap) (locs1 : List Loc), WdA true A D cy ad s.heap μ ν H1 locs1 → narrow .boolean (.int r) = .int r → W p l e R s m args below meth c H1 locs1 cells slots Q (F0 m (pc + 3) ls (.int r :: rest))) : W p l e R s m args below meth c H locs cells slots Q (F0 m pc ls (.int x0 :: rest)) :=
  rCSI (As := [.int x0]) (ct2_isLetter hg) lX2_isLetter k_294 rfl rfl C X rfl hrm hsz hR hcs hd kk
set_option maxRecDepth 100000 in
set_option maxHeartbeats 4000000 in
theorem wJ0_coder_7d493 {p : Program} {l : Launch} {e : Env} {s : State} {m : MethodId} {args : Array Value} {below : List Frame} {meth : Method} {c : Code} {D : va_G} {cy : Nat → ClassId} {ad : Nat → Nat} {r : Int32} {μ : Mem} {ν : Lem} (C : Cx true p s m args meth c cJ0_coder_7d493 1 RJ0 D cy ad) (hr : meth.sig.returnType = some .byte) : ∀ (i : Nat) (hi : i < 2), fJ0_coder_7d493 i = r → ∀ (H : Heap) (locs : List Loc), Wd true D cy ad s.heap μ ν H locs → ∀ (ls : Array Slot), lv_has ls 1 [(0, .ref (ad (110 + i)))] → WI true p l e 0 0 s m args below meth c D cy ad .byte r μ ν H locs (F0 m 0 ls []) := by
  have hx := C.1.1
  have hb := C.1.2.1
  have hown := C.1.2.2.2.1
  have hts := C.1.2.2.2.2
  obtain ⟨z1, t1, z2, t2, z3, t3, z4, z5, ks, r1, r2⟩ := C.2.2.1.2 rfl
  intro i hi hf H locs X ls hl
  unfold fJ0_coder_7d493 at hf
  refine va_gets hx hb z4 X.2.2 hown (hts _ k_310) (fun _ h => h) dJ0_coder_7d493_0 ?_
  refine lv_if_eq (tgt := 13) hx hb dJ0_coder_7d493_3 (by decide) (fun c3 => absurd c3 (by decide)) (fun c3 => ?_)
  refine lv_aload_n hx hb dJ0_coder_7d493_6 rfl (lv_at hl 0 rfl) ?_
  refine vk_getf (v := .int 0) hx hb (ks.1 i hi).2.1 X.2.2 hown (hts _ k_1360) (fun _ h => h) dJ0_coder_7d493_7 ?_
  refine lv_goto (tgt := 14) hx hb dJ0_coder_7d493_10 (by decide) ?_
  exact retI C X hr rfl hf rfl rfl dJ0_coder_7d493_14
theorem ctJ0_coder_7d493 {i : Nat} (hi : i < 2) {μ : Mem} {ν : Lem} {r : Int32} (hg : fJ0_coder_7d493 i = r) : CtI true yJ0_coder_7d493 cJ0_coder_7d493 1 0 0 .byte (fun ad => [.ref (ad (110 + i))]) μ ν r μ ν :=
  mkI (by decide) rfl (fun ad => Nat.le_of_ble_eq_true rfl) (fun p l e s m args below meth c D cy ad C hr X ls hl => wJ0_coder_7d493 C hr i hi hg _ _ X _ hl)
theorem qJ0_335 {p : Program} {l : Launch} {e : Env} {R : Room} {s : State} {m : MethodId} {args : Array Value} {below : List Frame} {meth : Method} {c : Code} {H : Heap} {locs : List Loc} {cells slots : Nat} {Q : State → Prop} {A : Nat → Prop} {cc : ByteArray} {nL : Nat} {D : va_G} {cy : Nat → ClassId} {ad : Nat → Nat} {μ : Mem} {ν : Lem} {pc : Nat} {ls : Array Slot} {rest : List Value} {i : Nat} (hi : i < 2) {r : Int32} (hg : fJ0_coder_7d493 i = r) (C : CxA true A p s m args meth c cc nL RJ0 D cy ad) (X : WdA true A D cy ad s.heap μ ν H locs) (hsz : ls.size = nL) (hrm : (rest.map fun v => v.category).sum ≤ 8) (hR : 0 + 1 ≤ R.frames ∧ 8 + (1 + 11) + 0 ≤ R.locals) (hcs : cells ≤ R.cells ∧ slots ≤ R.slots) (hd : decode cc pc = .ok (.invokevirtual 335, 3)) (kk : ∀ (H1 : Heap) (locs1 : List Loc), WdA true A D cy ad s.heap μ ν H1 locs1 → narrow .byte (.int r) = .int r → W p l e R s m args below meth c H1 locs1 cells slots Q (F0 m (pc + 3) ls (.int r :: rest))) : W p l e R s m args below meth c H locs cells slots Q (F0 m pc ls (.ref (ad (110 + i)) :: rest)) :=
  rSVI (As := []) (i := i) (ctJ0_coder_7d493 hi hg) rfl lJ0_coder_7d493 k_306 hi rfl rfl C X rfl hrm hsz hR hcs hd kk
set_option maxRecDepth 100000 in
set_option maxHeartbeats 4000000 in
theorem wJ0_length_8abf5 {p : Program} {l : Launch} {e : Env} {s : State} {m : MethodId} {args : Array Value} {below : List Frame} {meth : Method} {c : Code} {D : va_G} {cy : Nat → ClassId} {ad : Nat → Nat} {r : Int32} {μ : Mem} {ν : Lem} (C : Cx true p s m args meth c cJ0_length_8abf5 1 RJ0 D cy ad) (hr : meth.sig.returnType = some .int) : ∀ (i : Nat) (hi : i < 2), fJ0_length_8abf5 i = r → ∀ (H : Heap) (locs : List Loc), Wd true D cy ad s.heap μ ν H locs → ∀ (ls : Array Slot), lv_has ls 1 [(0, .ref (ad (110 + i)))] → WI true p l e 1 20 s m args below meth c D cy ad .int r μ ν H locs (F0 m 0 ls []) := by
  have hx := C.1.1
  have hb := C.1.2.1
  have hown := C.1.2.2.2.1
  have hts := C.1.2.2.2.2
  obtain ⟨z1, t1, z2, t2, z3, t3, z4, z5, ks, r1, r2⟩ := C.2.2.1.2 rfl
  intro i hi hf H locs X ls hl
  unfold fJ0_length_8abf5 at hf
  refine lv_aload_n hx hb dJ0_length_8abf5_0 rfl (lv_at hl 0 rfl) ?_
  refine vk_getf (v := .ref (ad (120 + i))) hx hb (ks.1 i hi).2.2.1 X.2.2 hown (hts _ k_1359) (fun _ h => h) dJ0_length_8abf5_1 ?_
  refine va_tlen (v := nI (lenK i)) hx hb (ks.1 i hi).2.2.2 X.2.2 rfl dJ0_length_8abf5_4 ?_
  refine lv_aload_n hx hb dJ0_length_8abf5_5 rfl (lv_at hl 0 rfl) ?_
  refine qJ0_335 (i := i) hi (r := 0) rfl C X hl.1 ((Nat.le_of_ble_eq_true rfl)) ⟨(Nat.le_of_ble_eq_true rfl), (Nat.le_of_ble_eq_true rfl)⟩ ⟨Nat.zero_le _, Nat.zero_le _⟩ dJ0_length_8abf5_6 (fun H locs X b6 => ?_)
  refine lv_ishr hx hb dJ0_length_8abf5_9 ?_
  exact retI C X hr rfl hf rfl rfl dJ0_length_8abf5_10
theorem ctJ0_length_8abf5 {i : Nat} (hi : i < 2) {μ : Mem} {ν : Lem} {r : Int32} (hg : fJ0_length_8abf5 i = r) : CtI true yJ0_length_8abf5 cJ0_length_8abf5 1 1 20 .int (fun ad => [.ref (ad (110 + i))]) μ ν r μ ν :=
  mkI (by decide) rfl (fun ad => Nat.le_of_ble_eq_true rfl) (fun p l e s m args below meth c D cy ad C hr X ls hl => wJ0_length_8abf5 C hr i hi hg _ _ X _ hl)
theorem qX2_95 {p : Program} {l : Launch} {e : Env} {R : Room} {s : State} {m : MethodId} {args : Array Value} {below : List Frame} {meth : Method} {c : Code} {H : Heap} {locs : List Loc} {cells slots : Nat} {Q : State → Prop} {A : Nat → Prop} {cc : ByteArray} {nL : Nat} {D : va_G} {cy : Nat → ClassId} {ad : Nat → Nat} {μ : Mem} {ν : Lem} {pc : Nat} {ls : Array Slot} {rest : List Value} {i : Nat} (hi : i < 2) {r : Int32} (hg : fJ0_length_8abf5 i = r) (C : CxA true A p s m args meth c cc nL RX2 D cy ad) (X : WdA true A D cy ad s.heap μ ν H locs) (hsz : ls.size = nL) (hrm : (rest.map fun v => v.category).sum ≤ 8) (hR : 1 + 1 ≤ R.frames ∧ 8 + (1 + 11) + 20 ≤ R.locals) (hcs : cells ≤ R.cells ∧ slots ≤ R.slots) (hd : decode cc pc = .ok (.invokevirtual 95, 3)) (kk : ∀ (H1 : Heap) (locs1 : List Loc), WdA true A D cy ad s.heap μ ν H1 locs1 → narrow .int (.int r) = .int r → W p l e R s m args below meth c H1 locs1 cells slots Q (F0 m (pc + 3) ls (.int r :: rest))) : W p l e R s m args below meth c H locs cells slots Q (F0 m pc ls (.ref (ad (110 + i)) :: rest)) :=
  rSVI (As := []) (i := i) (ctJ0_length_8abf5 hi hg) rfl lJ0_length_8abf5 k_302 hi rfl rfl C X rfl hrm hsz hR hcs hd kk
theorem qJ0_505 {p : Program} {l : Launch} {e : Env} {R : Room} {s : State} {m : MethodId} {args : Array Value} {below : List Frame} {meth : Method} {c : Code} {H : Heap} {locs : List Loc} {cells slots : Nat} {Q : State → Prop} {A : Nat → Prop} {cc : ByteArray} {nL : Nat} {D : va_G} {cy : Nat → ClassId} {ad : Nat → Nat} {μ : Mem} {ν : Lem} {pc : Nat} {ls : Array Slot} {rest : List Value} {i : Nat} (hi : i < 2) {r : Int32} (hg : fJ0_length_8abf5 i = r) (C : CxA true A p s m args meth c cc nL RJ0 D cy ad) (X : WdA true A D cy ad s.heap μ ν H locs) (hsz : ls.size = nL) (hrm : (rest.map fun v => v.category).sum ≤ 8) (hR : 1 + 1 ≤ R.frames ∧ 8 + (1 + 11) + 20 ≤ R.locals) (hcs : cells ≤ R.cells ∧ slots ≤ R.slots) (hd : decode cc pc = .ok (.invokevirtual 505, 3)) (kk : ∀ (H1 : Heap) (locs1 : List Loc), WdA true A D cy ad s.heap μ ν H1 locs1 → narrow .int (.int r) = .int r → W p l e R s m args below meth c H1 locs1 cells slots Q (F0 m (pc + 3) ls (.int r :: rest))) : W p l e R s m args below meth c H locs cells slots Q (F0 m pc ls (.ref (ad (110 + i)) :: rest)) :=
  rSVI (As := []) (i := i) (ctJ0_length_8abf5 hi hg) rfl lJ0_length_8abf5 k_370 hi rfl rfl C X rfl hrm hsz hR hcs hd kk
set_option maxRecDepth 100000 in
set_option maxHeartbeats 4000000 in
theorem wJ0_isLatin1_aae02 {p : Program} {l : Launch} {e : Env} {s : State} {m : MethodId} {args : Array Value} {below : List Frame} {meth : Method} {c : Code} {D : va_G} {cy : Nat → ClassId} {ad : Nat → Nat} {r : Int32} {μ : Mem} {ν : Lem} (C : Cx true p s m args meth c cJ0_isLatin1_aae02 1 RJ0 D cy ad) (hr : meth.sig.returnType = some .boolean) : ∀ (i : Nat) (hi : i < 2), fJ0_isLatin1_aae02 i = r → ∀ (H : Heap) (locs : List Loc), Wd true D cy ad s.heap μ ν H locs → ∀ (ls : Array Slot), lv_has ls 1 [(0, .ref (ad (110 + i)))] → WI true p l e 0 0 s m args below meth c D cy ad .boolean r μ ν H locs (F0 m 0 ls []) := by
  have hx := C.1.1
  have hb := C.1.2.1
  have hown := C.1.2.2.2.1
  have hts := C.1.2.2.2.2
  obtain ⟨z1, t1, z2, t2, z3, t3, z4, z5, ks, r1, r2⟩ := C.2.2.1.2 rfl
  intro i hi hf H locs X ls hl
  unfold fJ0_isLatin1_aae02 at hf
  refine va_gets hx hb z4 X.2.2 hown (hts _ k_310) (fun _ h => h) dJ0_isLatin1_aae02_0 ?_
  refine lv_if_eq (tgt := 17) hx hb dJ0_isLatin1_aae02_3 (by decide) (fun c3 => absurd c3 (by decide)) (fun c3 => ?_)
  refine lv_aload_n hx hb dJ0_isLatin1_aae02_6 rfl (lv_at hl 0 rfl) ?_
  refine vk_getf (v := .int 0) hx hb (ks.1 i hi).2.1 X.2.2 hown (hts _ k_1360) (fun _ h => h) dJ0_isLatin1_aae02_7 ?_
  refine lv_if_ne (tgt := 17) hx hb dJ0_isLatin1_aae02_10 (by decide) (fun c10 => absurd c10 (by decide)) (fun c10 => ?_)
  refine lv_iconst (v := 1) hx hb dJ0_isLatin1_aae02_13 (by decide) ?_
  refine lv_goto (tgt := 18) hx hb dJ0_isLatin1_aae02_14 (by decide) ?_
  exact retI C X hr rfl hf rfl rfl dJ0_isLatin1_aae02_18
theorem ctJ0_isLatin1_aae02 {i : Nat} (hi : i < 2) {μ : Mem} {ν : Lem} {r : Int32} (hg : fJ0_isLatin1_aae02 i = r) : CtI true yJ0_isLatin1_aae02 cJ0_isLatin1_aae02 1 0 0 .boolean (fun ad => [.ref (ad (110 + i))]) μ ν r μ ν :=
  mkI (by decide) rfl (fun ad => Nat.le_of_ble_eq_true rfl) (fun p l e s m args below meth c D cy ad C hr X ls hl => wJ0_isLatin1_aae02 C hr i hi hg _ _ X _ hl)
theorem qJ0_492 {p : Program} {l : Launch} {e : Env} {R : Room} {s : State} {m : MethodId} {args : Array Value} {below : List Frame} {meth : Method} {c : Code} {H : Heap} {locs : List Loc} {cells slots : Nat} {Q : State → Prop} {A : Nat → Prop} {cc : ByteArray} {nL : Nat} {D : va_G} {cy : Nat → ClassId} {ad : Nat → Nat} {μ : Mem} {ν : Lem} {pc : Nat} {ls : Array Slot} {rest : List Value} {i : Nat} (hi : i < 2) {r : Int32} (hg : fJ0_isLatin1_aae02 i = r) (C : CxA true A p s m args meth c cc nL RJ0 D cy ad) (X : WdA true A D cy ad s.heap μ ν H locs) (hsz : ls.size = nL) (hrm : (rest.map fun v => v.category).sum ≤ 8) (hR : 0 + 1 ≤ R.frames ∧ 8 + (1 + 11) + 0 ≤ R.locals) (hcs : cells ≤ R.cells ∧ slots ≤ R.slots) (hd : decode cc pc = .ok (.invokevirtual 492, 3)) (kk : ∀ (H1 : Heap) (locs1 : List Loc), WdA true A D cy ad s.heap μ ν H1 locs1 → narrow .boolean (.int r) = .int r → W p l e R s m args below meth c H1 locs1 cells slots Q (F0 m (pc + 3) ls (.int r :: rest))) : W p l e R s m args below meth c H locs cells slots Q (F0 m pc ls (.ref (ad (110 + i)) :: rest)) :=
  rSVI (As := []) (i := i) (ctJ0_isLatin1_aae02 hi hg) rfl lJ0_isLatin1_aae02 k_316 hi rfl rfl C X rfl hrm hsz hR hcs hd kk
set_option maxRecDepth 100000 in
set_option maxHeartbeats 4000000 in
theorem wJ1_charAt_3b067 {p : Program} {l : Launch} {e : Env} {s : State} {m : MethodId} {args : Array Value} {below : List Frame} {meth : Method} {c : Code} {D : va_G} {cy : Nat → ClassId} {ad : Nat → Nat} {r : Int32} {μ : Mem} {ν : Lem} (C : Cx true p s m args meth c cJ1_charAt_3b067 2 RJ1 D cy ad) (hr : meth.sig.returnType = some .char) : ∀ (x0 : Nat) (x1 : Int32) (hx0 : x0 < 2), fJ1_charAt_3b067 μ x0 x1 = some r → ∀ (H : Heap) (locs : List Loc), Wd true D cy ad s.heap μ ν H locs → ∀ (ls : Array Slot), lv_has ls 2 [(0, .ref (ad (120 + x0))), (1, .int x1)] → WI true p l e 2 43 s m args below meth c D cy ad .char r μ ν H locs (F0 m 0 ls []) := by
  have hx := C.1.1
  have hb := C.1.2.1
  have hown := C.1.2.2.2.1
  have hts := C.1.2.2.2.2
  obtain ⟨z1, t1, z2, t2, z3, t3, z4, z5, ks, r1, r2⟩ := C.2.2.1.2 rfl
  intro x0 x1 hx0 hf H locs X ls hl
  unfold fJ1_charAt_3b067 at hf
  refine lv_iload_n hx hb dJ1_charAt_3b067_0 rfl (lv_at hl 1 rfl) ?_
  refine lv_aload_n hx hb dJ1_charAt_3b067_1 rfl (lv_at hl 0 rfl) ?_
  refine va_tlen (v := nI (lenK x0)) hx hb (ks.1 x0 hx0).2.2.2 X.2.2 rfl dJ1_charAt_3b067_2 ?_
  obtain ⟨_, g3, hf⟩ := bd1_e hf
  refine qJ1_9 g3 C X hl.1 ((Nat.le_of_ble_eq_true rfl)) ⟨(Nat.le_of_ble_eq_true rfl), (Nat.le_of_ble_eq_true rfl)⟩ ⟨Nat.zero_le _, Nat.zero_le _⟩ dJ1_charAt_3b067_3 (fun H locs X => ?_)
  refine lv_aload_n hx hb dJ1_charAt_3b067_6 rfl (lv_at hl 0 rfl) ?_
  refine lv_iload_n hx hb dJ1_charAt_3b067_7 rfl (lv_at hl 1 rfl) ?_
  obtain ⟨h8, hf⟩ := gd_e hf
  refine va_tb (v := .int (bK x0 x1.toNatClampNeg)) hx hb (ks.1 x0 hx0).2.2.2 X.2.2 h8 rfl dJ1_charAt_3b067_8 ?_
  refine lv_sipush (v := 255) hx hb dJ1_charAt_3b067_9 (by decide) ?_
  refine lv_iand hx hb dJ1_charAt_3b067_12 ?_
  refine lv_i2c hx hb dJ1_charAt_3b067_13 rfl ?_
  exact retI C X hr (pk_nc _) (Option.some.inj hf) rfl rfl dJ1_charAt_3b067_14
theorem ctJ1_charAt_3b067 {x0 : Nat} {x1 : Int32} (hx0 : x0 < 2) {μ : Mem} {ν : Lem} {r : Int32} (hg : fJ1_charAt_3b067 μ x0 x1 = some r) : CtI true yJ1_charAt_3b067 cJ1_charAt_3b067 2 2 43 .char (fun ad => [.ref (ad (120 + x0)), .int x1]) μ ν r μ ν :=
  mkI (by decide) rfl (fun ad => Nat.le_of_ble_eq_true rfl) (fun p l e s m args below meth c D cy ad C hr X ls hl => wJ1_charAt_3b067 C hr x0 x1 hx0 hg _ _ X _ hl)
theorem qJ0_495 {p : Program} {l : Launch} {e : Env} {R : Room} {s : State} {m : MethodId} {args : Array Value} {below : List Frame} {meth : Method} {c : Code} {H : Heap} {locs : List Loc} {cells slots : Nat} {Q : State → Prop} {A : Nat → Prop} {cc : ByteArray} {nL : Nat} {D : va_G} {cy : Nat → ClassId} {ad : Nat → Nat} {μ : Mem} {ν : Lem} {pc : Nat} {ls : Array Slot} {rest : List Value} {x0 : Nat} {x1 : Int32} (hx0 : x0 < 2) {r : Int32} (hg : fJ1_charAt_3b067 μ x0 x1 = some r) (C : CxA true A p s m args meth c cc nL RJ0 D cy ad) (X : WdA true A D cy ad s.heap μ ν H locs) (hsz : ls.size = nL) (hrm : (rest.map fun v => v.category).sum ≤ 8) (hR : 2 + 1 ≤ R.frames ∧ 8 + (2 + 11) + 43 ≤ R.locals) (hcs : cells ≤ R.cells ∧ slots ≤ R.slots) (hd : decode cc pc = .ok (.invokestatic 495, 3)) (kk : ∀ (H1 : Heap) (locs1 : List Loc), WdA true A D cy ad s.heap μ ν H1 locs1 → narrow .char (.int r) = .int r → W p l e R s m args below meth c H1 locs1 cells slots Q (F0 m (pc + 3) ls (.int r :: rest))) : W p l e R s m args below meth c H locs cells slots Q (F0 m pc ls (.int x1 :: .ref (ad (120 + x0)) :: rest)) :=
  rCSI (As := [.ref (ad (120 + x0)), .int x1]) (ctJ1_charAt_3b067 hx0 hg) lJ1_charAt_3b067 k_320 rfl rfl C X rfl hrm hsz hR hcs hd kk
set_option maxRecDepth 100000 in
set_option maxHeartbeats 4000000 in
theorem wJ0_charAt_5068e {p : Program} {l : Launch} {e : Env} {s : State} {m : MethodId} {args : Array Value} {below : List Frame} {meth : Method} {c : Code} {D : va_G} {cy : Nat → ClassId} {ad : Nat → Nat} {r : Int32} {μ : Mem} {ν : Lem} (C : Cx true p s m args meth c cJ0_charAt_5068e 2 RJ0 D cy ad) (hr : meth.sig.returnType = some .char) : ∀ (i : Nat) (x1 : Int32) (hi : i < 2), fJ0_charAt_5068e μ i x1 = some r → ∀ (H : Heap) (locs : List Loc), Wd true D cy ad s.heap μ ν H locs → ∀ (ls : Array Slot), lv_has ls 2 [(0, .ref (ad (110 + i))), (1, .int x1)] → WI true p l e 8 200 s m args below meth c D cy ad .char r μ ν H locs (F0 m 0 ls []) := by
  have hx := C.1.1
  have hb := C.1.2.1
  have hown := C.1.2.2.2.1
  have hts := C.1.2.2.2.2
  obtain ⟨z1, t1, z2, t2, z3, t3, z4, z5, ks, r1, r2⟩ := C.2.2.1.2 rfl
  intro i x1 hi hf H locs X ls hl
  unfold fJ0_charAt_5068e at hf
  refine lv_aload_n hx hb dJ0_charAt_5068e_0 rfl (lv_at hl 0 rfl) ?_
  refine qJ0_492 (i := i) hi (r := 1) rfl C X hl.1 ((Nat.le_of_ble_eq_true rfl)) ⟨(Nat.le_of_ble_eq_true rfl), (Nat.le_of_ble_eq_true rfl)⟩ ⟨Nat.zero_le _, Nat.zero_le _⟩ dJ0_charAt_5068e_1 (fun H locs X b1 => ?_)
  refine lv_if_eq (tgt := 16) hx hb dJ0_charAt_5068e_4 (by decide) (fun c4 => absurd c4 (by decide)) (fun c4 => ?_)
  refine lv_aload_n hx hb dJ0_charAt_5068e_7 rfl (lv_at hl 0 rfl) ?_
  refine vk_getf (v := .ref (ad (120 + i))) hx hb (ks.1 i hi).2.2.1 X.2.2 hown (hts _ k_1359) (fun _ h => h) dJ0_charAt_5068e_8 ?_
  refine lv_iload_n hx hb dJ0_charAt_5068e_11 rfl (lv_at hl 1 rfl) ?_
  obtain ⟨r12, g12, hf⟩ := bd1_e hf
  refine qJ0_495 (x0 := i) hi g12 C X hl.1 ((Nat.le_of_ble_eq_true rfl)) ⟨(Nat.le_of_ble_eq_true rfl), (Nat.le_of_ble_eq_true rfl)⟩ ⟨Nat.zero_le _, Nat.zero_le _⟩ dJ0_charAt_5068e_12 (fun H locs X b12 => ?_)
  exact retI C X hr b12 (Option.some.inj hf) rfl rfl dJ0_charAt_5068e_15
theorem ctJ0_charAt_5068e {i : Nat} {x1 : Int32} (hi : i < 2) {μ : Mem} {ν : Lem} {r : Int32} (hg : fJ0_charAt_5068e μ i x1 = some r) : CtI true yJ0_charAt_5068e cJ0_charAt_5068e 2 8 200 .char (fun ad => [.ref (ad (110 + i)), .int x1]) μ ν r μ ν :=
  mkI (by decide) rfl (fun ad => Nat.le_of_ble_eq_true rfl) (fun p l e s m args below meth c D cy ad C hr X ls hl => wJ0_charAt_5068e C hr i x1 hi hg _ _ X _ hl)
theorem qX2_99 {p : Program} {l : Launch} {e : Env} {R : Room} {s : State} {m : MethodId} {args : Array Value} {below : List Frame} {meth : Method} {c : Code} {H : Heap} {locs : List Loc} {cells slots : Nat} {Q : State → Prop} {A : Nat → Prop} {cc : ByteArray} {nL : Nat} {D : va_G} {cy : Nat → ClassId} {ad : Nat → Nat} {μ : Mem} {ν : Lem} {pc : Nat} {ls : Array Slot} {rest : List Value} {i : Nat} {x1 : Int32} (hi : i < 2) {r : Int32} (hg : fJ0_charAt_5068e μ i x1 = some r) (C : CxA true A p s m args meth c cc nL RX2 D cy ad) (X : WdA true A D cy ad s.heap μ ν H locs) (hsz : ls.size = nL) (hrm : (rest.map fun v => v.category).sum ≤ 8) (hR : 8 + 1 ≤ R.frames ∧ 8 + (2 + 11) + 200 ≤ R.locals) (hcs : cells ≤ R.cells ∧ slots ≤ R.slots) (hd : decode cc pc = .ok (.invokevirtual 99, 3)) (kk : ∀ (H1 : Heap) (locs1 : List Loc), WdA true A D cy ad s.heap μ ν H1 locs1 → narrow .char (.int r) = .int r → W p l e R s m args below meth c H1 locs1 cells slots Q (F0 m (pc + 3) ls (.int r :: rest))) : W p l e R s m args below meth c H locs cells slots Q (F0 m pc ls (.int x1 :: .ref (ad (110 + i)) :: rest)) :=
  rSVI (As := [.int x1]) (i := i) (ctJ0_charAt_5068e hi hg) rfl lJ0_charAt_5068e k_312 hi rfl rfl C X rfl hrm hsz hR hcs hd kk
set_option maxRecDepth 100000 in
set_option maxHeartbeats 4000000 in
theorem w2_isWord_1 {p : Program} {l : Launch} {e : Env} {s : State} {m : MethodId} {args : Array Value} {below : List Frame} {meth : Method} {c : Code} {D : va_G} {cy : Nat → ClassId} {ad : Nat → Nat} {r : Int32} {μ : Mem} {ν : Lem} (C : Cx true p s m args meth c cX2_isWord 4 RX2 D cy ad) (hr : meth.sig.returnType = some .boolean) : ∀ (n : Nat), ∀ (x1 : Int32) (x3 : Int32), f2_isWord_1 μ n x1 x3 = some r → ∀ (H : Heap) (locs : List Loc), Wd true D cy ad s.heap μ ν H locs → ∀ (ls : Array Slot), lv_has ls 4 [(0, .ref (ad 3)), (1, .int x1), (3, .int x3)] → WI true p l e 9 221 s m args below meth c D cy ad .boolean r μ ν H locs (F0 m 22 ls []) := by
  have hx := C.1.1
  have hb := C.1.2.1
  have hown := C.1.2.2.2.1
  have hts := C.1.2.2.2.2
  obtain ⟨z1, t1, z2, t2, z3, t3, z4, z5, ks, r1, r2⟩ := C.2.2.1.2 rfl
  intro n
  induction n with
  | zero =>
    intro x1 x3 hf H locs X ls hl
    rw [f2_isWord_1] at hf
    cases hf
  | succ n ih =>
    intro x1 x3 hf H locs X ls hl
    rw [f2_isWord_1] at hf
    refine lv_iload_n hx hb dX2_isWord_22 rfl (lv_at hl 2 rfl) ?_
    refine lv_aload_n hx hb dX2_isWord_23 rfl (lv_at hl 0 rfl) ?_
    refine gfX2_19 C X dX2_isWord_24 ?_
    refine lv_icmp_ge (tgt := 60) hx hb dX2_isWord_27 (by decide) (fun c27 => ?_) (fun c27 => ?_)
    · replace hf := ifp c27 hf
      refine lv_iconst (v := 1) hx hb dX2_isWord_60 (by decide) ?_
      exact retI C X hr rfl (Option.some.inj hf) rfl rfl dX2_isWord_61
    · replace hf := ifn c27 hf
      refine lv_aload_n hx hb dX2_isWord_30 rfl (lv_at hl 0 rfl) ?_
      refine gfX2_9 C X dX2_isWord_31 ?_
      refine lv_iload_n hx hb dX2_isWord_34 rfl (lv_at hl 2 rfl) ?_
      obtain ⟨h35, hf⟩ := gd_e hf
      refine rIald C X rfl h35 dX2_isWord_35 ?_
      refine va_ldcS hx hb hown r1 dX2_isWord_36 ?_
      refine lv_iload_n hx hb dX2_isWord_38 rfl (lv_at hl 1 rfl) ?_
      refine lv_iload_n hx hb dX2_isWord_39 rfl (lv_at hl 2 rfl) ?_
      refine lv_iadd hx hb dX2_isWord_40 ?_
      refine lv_aload_n hx hb dX2_isWord_41 rfl (lv_at hl 0 rfl) ?_
      refine gfX2_54 C X dX2_isWord_42 ?_
      refine lv_isub hx hb dX2_isWord_45 ?_
      obtain ⟨r46, g46, hf⟩ := bd1_e hf
      refine qX2_99 (i := 0) (by decide) g46 C X hl.1 ((Nat.le_of_ble_eq_true rfl)) ⟨(Nat.le_of_ble_eq_true rfl), (Nat.le_of_ble_eq_true rfl)⟩ ⟨Nat.zero_le _, Nat.zero_le _⟩ dX2_isWord_46 (fun H locs X b46 => ?_)
      refine lv_icmp_eq (tgt := 54) hx hb dX2_isWord_49 (by decide) (fun c49 => ?_) (fun c49 => ?_)
      · replace hf := ifp c49 hf
        obtain ⟨v54, e54, hf⟩ := nm_e2 hf
        refine rIinc (lv' := [(3, .int v54), (0, .ref (ad 3)), (1, .int x1)]) hx hb dX2_isWord_54 hl (k := 2) rfl e54 rfl (by decide) rfl (fun ls hl => ?_)
        refine lv_goto (tgt := 22) hx hb dX2_isWord_57 (by decide) ?_
        exact ih x1 v54 hf _ _ X _ (lv_sub hl [1, 2, 0] rfl)
      · replace hf := ifn c49 hf
        refine lv_iconst (v := 0) hx hb dX2_isWord_52 (by decide) ?_
        exact retI C X hr rfl (Option.some.inj hf) rfl rfl dX2_isWord_53
set_option maxRecDepth 100000 in
set_option maxHeartbeats 4000000 in
theorem w2_isWord {p : Program} {l : Launch} {e : Env} {s : State} {m : MethodId} {args : Array Value} {below : List Frame} {meth : Method} {c : Code} {D : va_G} {cy : Nat → ClassId} {ad : Nat → Nat} {r : Int32} {μ : Mem} {ν : Lem} (C : Cx true p s m args meth c cX2_isWord 4 RX2 D cy ad) (hr : meth.sig.returnType = some .boolean) : ∀ (x1 : Int32) (x2 : Int32), f2_isWord μ x1 x2 = some r → ∀ (H : Heap) (locs : List Loc), Wd true D cy ad s.heap μ ν H locs → ∀ (ls : Array Slot), lv_has ls 4 [(0, .ref (ad 3)), (1, .int x1), (2, .int x2)] → WI true p l e 9 221 s m args below meth c D cy ad .boolean r μ ν H locs (F0 m 0 ls []) := by
  have hx := C.1.1
  have hb := C.1.2.1
  have hown := C.1.2.2.2.1
  have hts := C.1.2.2.2.2
  obtain ⟨z1, t1, z2, t2, z3, t3, z4, z5, ks, r1, r2⟩ := C.2.2.1.2 rfl
  intro x1 x2 hf H locs X ls hl
  unfold f2_isWord at hf
  refine lv_aload_n hx hb dX2_isWord_0 rfl (lv_at hl 0 rfl) ?_
  refine gfX2_19 C X dX2_isWord_1 ?_
  refine lv_aload_n hx hb dX2_isWord_4 rfl (lv_at hl 0 rfl) ?_
  refine gfX2_54 C X dX2_isWord_5 ?_
  refine lv_isub hx hb dX2_isWord_8 ?_
  refine lv_iload_n hx hb dX2_isWord_9 rfl (lv_at hl 2 rfl) ?_
  refine lv_iload_n hx hb dX2_isWord_10 rfl (lv_at hl 1 rfl) ?_
  refine lv_isub hx hb dX2_isWord_11 ?_
  refine lv_icmp_eq (tgt := 17) hx hb dX2_isWord_12 (by decide) (fun c12 => ?_) (fun c12 => ?_)
  · replace hf := ifp c12 hf
    refine lv_aload_n hx hb dX2_isWord_17 rfl (lv_at hl 0 rfl) ?_
    refine gfX2_54 C X dX2_isWord_18 ?_
    obtain ⟨v21, e21, hf⟩ := nm_e2 hf
    refine st_i e21 ?_
    refine lv_istore_n (lv' := [(3, .int v21), (0, .ref (ad 3)), (1, .int x1), (2, .int x2)]) hx hb dX2_isWord_21 rfl hl (by decide) rfl (fun ls hl => ?_)
    exact w2_isWord_1 C hr  FUEL x1 v21 hf _ _ X _ (lv_sub hl [1, 2, 0] rfl)
  · replace hf := ifn c12 hf
    refine lv_iconst (v := 0) hx hb dX2_isWord_15 (by decide) ?_
    exact retI C X hr rfl (Option.some.inj hf) rfl rfl dX2_isWord_16
theorem ct2_isWord {x1 : Int32} {x2 : Int32} {μ : Mem} {ν : Lem} {r : Int32} (hg : f2_isWord μ x1 x2 = some r) : CtI true yX2_isWord cX2_isWord 4 9 221 .boolean (fun ad => [.ref (ad 3), .int x1, .int x2]) μ ν r μ ν :=
  mkI (by decide) rfl (fun ad => Nat.le_of_ble_eq_true rfl) (fun p l e s m args below meth c D cy ad C hr X ls hl => w2_isWord C hr x1 x2 hg _ _ X _ hl)
theorem qX2_103 {p : Program} {l : Launch} {e : Env} {R : Room} {s : State} {m : MethodId} {args : Array Value} {below : List Frame} {meth : Method} {c : Code} {H : Heap} {locs : List Loc} {cells slots : Nat} {Q : State → Prop} {A : Nat → Prop} {cc : ByteArray} {nL : Nat} {D : va_G} {cy : Nat → ClassId} {ad : Nat → Nat} {μ : Mem} {ν : Lem} {pc : Nat} {ls : Array Slot} {rest : List Value} {x1 : Int32} {x2 : Int32} {r : Int32} (hg : f2_isWord μ x1 x2 = some r) (C : CxA true A p s m args meth c cc nL RX2 D cy ad) (X : WdA true A D cy ad s.heap μ ν H locs) (hsz : ls.size = nL) (hrm : (rest.map fun v => v.category).sum ≤ 8) (hR : 9 + 1 ≤ R.frames ∧ 8 + (4 + 11) + 221 ≤ R.locals) (hcs : cells ≤ R.cells ∧ slots ≤ R.slots) (hd : decode cc pc = .ok (.invokevirtual 103, 3)) (kk : ∀ (H1 : Heap) (locs1 : List Loc), WdA true A D cy ad s.heap μ ν H1 locs1 → narrow .boolean (.int r) = .int r → W p l e R s m args below meth c H1 locs1 cells slots Q (F0 m (pc + 3) ls (.int r :: rest))) : W p l e R s m args below meth c H locs cells slots Q (F0 m pc ls (.int x2 :: .int x1 :: .ref (ad 3) :: rest)) :=
  rCVI (As := [.int x1, .int x2]) (k := 3) (ct2_isWord hg) ok2 lX2_isWord k_350 rfl rfl rfl C X rfl hrm hsz hR hcs hd kk
set_option maxRecDepth 100000 in
set_option maxHeartbeats 4000000 in
theorem w2_readWord_3 {p : Program} {l : Launch} {e : Env} {s : State} {m : MethodId} {args : Array Value} {below : List Frame} {meth : Method} {c : Code} {D : va_G} {cy : Nat → ClassId} {ad : Nat → Nat} {μ1 : Mem} {ν : Lem} (C : Cx true p s m args meth c cX2_readWord 4 RX2 D cy ad) (hr : meth.sig.returnType = none) : ∀ (n : Nat), ∀ (μ : Mem) (x1 : Int32) (x2 : Int32) (x3 : Int32), f2_readWord_3 n μ x1 x2 x3 = some μ1 → ∀ (H : Heap) (locs : List Loc), Wd true D cy ad s.heap μ ν H locs → ∀ (ls : Array Slot), lv_has ls 4 [(0, .ref (ad 3)), (1, .int x1), (2, .int x2), (3, .int x3)] → WV true p l e 10 244 s m args below meth c D cy ad μ1 ν H locs (F0 m 51 ls []) := by
  have hx := C.1.1
  have hb := C.1.2.1
  have hown := C.1.2.2.2.1
  have hts := C.1.2.2.2.2
  obtain ⟨z1, t1, z2, t2, z3, t3, z4, z5, ks, r1, r2⟩ := C.2.2.1.2 rfl
  intro n
  induction n with
  | zero =>
    intro μ x1 x2 x3 hf H locs X ls hl
    rw [f2_readWord_3] at hf
    cases hf
  | succ n ih =>
    intro μ x1 x2 x3 hf H locs X ls hl
    rw [f2_readWord_3] at hf
    refine lv_iload_n hx hb dX2_readWord_51 rfl (lv_at hl 3 rfl) ?_
    refine va_ldcS hx hb hown r1 dX2_readWord_52 ?_
    refine qX2_95 (i := 0) (by decide) rfl C X hl.1 ((Nat.le_of_ble_eq_true rfl)) ⟨(Nat.le_of_ble_eq_true rfl), (Nat.le_of_ble_eq_true rfl)⟩ ⟨Nat.zero_le _, Nat.zero_le _⟩ dX2_readWord_54 (fun H locs X b54 => ?_)
    refine lv_icmp_ge (tgt := 107) hx hb dX2_readWord_57 (by decide) (fun c57 => ?_) (fun c57 => ?_)
    · replace hf := ifp c57 hf
      exact retV C X hr (Option.some.inj hf) rfl dX2_readWord_107
    · replace hf := ifn c57 hf
      refine lv_aload_n hx hb dX2_readWord_60 rfl (lv_at hl 0 rfl) ?_
      refine gfX2_48 C X dX2_readWord_61 ?_
      refine lv_bipush (v := 22) hx hb dX2_readWord_64 (by decide) ?_
      refine lv_icmp_ne (tgt := 107) hx hb dX2_readWord_66 (by decide) (fun c66 => ?_) (fun c66 => ?_)
      · replace hf := ifn c66 hf
        exact retV C X hr (Option.some.inj hf) rfl dX2_readWord_107
      · replace hf := ifp c66 hf
        refine va_ldcS hx hb hown r1 dX2_readWord_69 ?_
        refine lv_iload_n hx hb dX2_readWord_71 rfl (lv_at hl 3 rfl) ?_
        obtain ⟨r72, g72, hf⟩ := bd1_e hf
        refine qX2_99 (i := 0) (by decide) g72 C X hl.1 ((Nat.le_of_ble_eq_true rfl)) ⟨(Nat.le_of_ble_eq_true rfl), (Nat.le_of_ble_eq_true rfl)⟩ ⟨Nat.zero_le _, Nat.zero_le _⟩ dX2_readWord_72 (fun H locs X b72 => ?_)
        refine lv_bipush (v := 32) hx hb dX2_readWord_75 (by decide) ?_
        refine lv_icmp_ne (tgt := 101) hx hb dX2_readWord_77 (by decide) (fun c77 => ?_) (fun c77 => ?_)
        · replace hf := ifn c77 hf
          obtain ⟨v101, e101, hf⟩ := nm_e2 hf
          refine rIinc (lv' := [(3, .int v101), (0, .ref (ad 3)), (1, .int x1), (2, .int x2)]) hx hb dX2_readWord_101 hl (k := 3) rfl e101 rfl (by decide) rfl (fun ls hl => ?_)
          refine lv_goto (tgt := 51) hx hb dX2_readWord_104 (by decide) ?_
          exact ih μ x1 x2 v101 hf _ _ X _ (lv_sub hl [1, 2, 3, 0] rfl)
        · replace hf := ifp c77 hf
          refine lv_aload_n hx hb dX2_readWord_80 rfl (lv_at hl 0 rfl) ?_
          refine lv_iload_n hx hb dX2_readWord_81 rfl (lv_at hl 2 rfl) ?_
          refine lv_iload_n hx hb dX2_readWord_82 rfl (lv_at hl 3 rfl) ?_
          obtain ⟨r83, g83, hf⟩ := bd1_e hf
          refine qX2_103 g83 C X hl.1 ((Nat.le_of_ble_eq_true rfl)) ⟨(Nat.le_of_ble_eq_true rfl), (Nat.le_of_ble_eq_true rfl)⟩ ⟨Nat.zero_le _, Nat.zero_le _⟩ dX2_readWord_83 (fun H locs X b83 => ?_)
          refine lv_if_eq (tgt := 94) hx hb dX2_readWord_86 (by decide) (fun c86 => ?_) (fun c86 => ?_)
          · replace hf := ifp c86 hf
            obtain ⟨v94, e94, hf⟩ := nm_e2 hf
            refine rIinc (lv' := [(1, .int v94), (0, .ref (ad 3)), (2, .int x2), (3, .int x3)]) hx hb dX2_readWord_94 hl (k := 1) rfl e94 rfl (by decide) rfl (fun ls hl => ?_)
            refine lv_iload_n hx hb dX2_readWord_97 rfl (lv_at hl 3 rfl) ?_
            refine lv_iconst (v := 1) hx hb dX2_readWord_98 (by decide) ?_
            refine lv_iadd hx hb dX2_readWord_99 ?_
            obtain ⟨v100, e100, hf⟩ := nm_e2 hf
            refine st_i e100 ?_
            refine lv_istore_n (lv' := [(2, .int v100), (1, .int v94), (0, .ref (ad 3)), (3, .int x3)]) hx hb dX2_readWord_100 rfl hl (by decide) rfl (fun ls hl => ?_)
            obtain ⟨v101, e101, hf⟩ := nm_e2 hf
            refine rIinc (lv' := [(3, .int v101), (2, .int v100), (1, .int v94), (0, .ref (ad 3))]) hx hb dX2_readWord_101 hl (k := 3) rfl e101 rfl (by decide) rfl (fun ls hl => ?_)
            refine lv_goto (tgt := 51) hx hb dX2_readWord_104 (by decide) ?_
            exact ih μ v94 v100 v101 hf _ _ X _ (lv_sub hl [3, 2, 1, 0] rfl)
          · replace hf := ifn c86 hf
            refine lv_aload_n hx hb dX2_readWord_89 rfl (lv_at hl 0 rfl) ?_
            refine lv_iload_n hx hb dX2_readWord_90 rfl (lv_at hl 1 rfl) ?_
            obtain ⟨μ91, e91, hf⟩ := nm_e2 hf
            refine pfX2_48 e91 C X dX2_readWord_91 (fun H locs X => ?_)
            obtain ⟨v94, e94, hf⟩ := nm_e2 hf
            refine rIinc (lv' := [(1, .int v94), (0, .ref (ad 3)), (2, .int x2), (3, .int x3)]) hx hb dX2_readWord_94 hl (k := 1) rfl e94 rfl (by decide) rfl (fun ls hl => ?_)
            refine lv_iload_n hx hb dX2_readWord_97 rfl (lv_at hl 3 rfl) ?_
            refine lv_iconst (v := 1) hx hb dX2_readWord_98 (by decide) ?_
            refine lv_iadd hx hb dX2_readWord_99 ?_
            obtain ⟨v100, e100, hf⟩ := nm_e2 hf
            refine st_i e100 ?_
            refine lv_istore_n (lv' := [(2, .int v100), (1, .int v94), (0, .ref (ad 3)), (3, .int x3)]) hx hb dX2_readWord_100 rfl hl (by decide) rfl (fun ls hl => ?_)
            obtain ⟨v101, e101, hf⟩ := nm_e2 hf
            refine rIinc (lv' := [(3, .int v101), (2, .int v100), (1, .int v94), (0, .ref (ad 3))]) hx hb dX2_readWord_101 hl (k := 3) rfl e101 rfl (by decide) rfl (fun ls hl => ?_)
            refine lv_goto (tgt := 51) hx hb dX2_readWord_104 (by decide) ?_
            exact ih μ91 v94 v100 v101 hf _ _ X _ (lv_sub hl [3, 2, 1, 0] rfl)
set_option maxRecDepth 100000 in
set_option maxHeartbeats 4000000 in
theorem w2_readWord_2 {p : Program} {l : Launch} {e : Env} {s : State} {m : MethodId} {args : Array Value} {below : List Frame} {meth : Method} {c : Code} {D : va_G} {cy : Nat → ClassId} {ad : Nat → Nat} {μ1 : Mem} {ν : Lem} (C : Cx true p s m args meth c cX2_readWord 4 RX2 D cy ad) (hr : meth.sig.returnType = none) : ∀ (μ : Mem), f2_readWord_2 μ = some μ1 → ∀ (H : Heap) (locs : List Loc), Wd true D cy ad s.heap μ ν H locs → ∀ (ls : Array Slot), lv_has ls 4 [(0, .ref (ad 3))] → WV true p l e 10 244 s m args below meth c D cy ad μ1 ν H locs (F0 m 39 ls []) := by
  have hx := C.1.1
  have hb := C.1.2.1
  have hown := C.1.2.2.2.1
  have hts := C.1.2.2.2.2
  obtain ⟨z1, t1, z2, t2, z3, t3, z4, z5, ks, r1, r2⟩ := C.2.2.1.2 rfl
  intro μ hf H locs X ls hl
  unfold f2_readWord_2 at hf
  refine lv_aload_n hx hb dX2_readWord_39 rfl (lv_at hl 0 rfl) ?_
  refine lv_bipush (v := 22) hx hb dX2_readWord_40 (by decide) ?_
  obtain ⟨μ42, e42, hf⟩ := nm_e2 hf
  refine pfX2_48 e42 C X dX2_readWord_42 (fun H locs X => ?_)
  refine lv_iconst (v := 0) hx hb dX2_readWord_45 (by decide) ?_
  refine lv_istore_n (lv' := [(1, .int 0), (0, .ref (ad 3))]) hx hb dX2_readWord_46 rfl hl (by decide) rfl (fun ls hl => ?_)
  refine lv_iconst (v := 0) hx hb dX2_readWord_47 (by decide) ?_
  refine lv_istore_n (lv' := [(2, .int 0), (1, .int 0), (0, .ref (ad 3))]) hx hb dX2_readWord_48 rfl hl (by decide) rfl (fun ls hl => ?_)
  refine lv_iconst (v := 0) hx hb dX2_readWord_49 (by decide) ?_
  refine lv_istore_n (lv' := [(3, .int 0), (2, .int 0), (1, .int 0), (0, .ref (ad 3))]) hx hb dX2_readWord_50 rfl hl (by decide) rfl (fun ls hl => ?_)
  exact w2_readWord_3 C hr  FUEL μ42 0 0 0 hf _ _ X _ (lv_sub hl [3, 2, 1, 0] rfl)
set_option maxRecDepth 100000 in
set_option maxHeartbeats 4000000 in
theorem w2_readWord_1 {p : Program} {l : Launch} {e : Env} {s : State} {m : MethodId} {args : Array Value} {below : List Frame} {meth : Method} {c : Code} {D : va_G} {cy : Nat → ClassId} {ad : Nat → Nat} {μ1 : Mem} {ν : Lem} (C : Cx true p s m args meth c cX2_readWord 4 RX2 D cy ad) (hr : meth.sig.returnType = none) : ∀ (n : Nat), ∀ (μ : Mem), f2_readWord_1 n μ = some μ1 → ∀ (H : Heap) (locs : List Loc), Wd true D cy ad s.heap μ ν H locs → ∀ (ls : Array Slot), lv_has ls 4 [(0, .ref (ad 3))] → WV true p l e 10 244 s m args below meth c D cy ad μ1 ν H locs (F0 m 0 ls []) := by
  have hx := C.1.1
  have hb := C.1.2.1
  have hown := C.1.2.2.2.1
  have hts := C.1.2.2.2.2
  obtain ⟨z1, t1, z2, t2, z3, t3, z4, z5, ks, r1, r2⟩ := C.2.2.1.2 rfl
  intro n
  induction n with
  | zero =>
    intro μ hf H locs X ls hl
    rw [f2_readWord_1] at hf
    cases hf
  | succ n ih =>
    intro μ hf H locs X ls hl
    rw [f2_readWord_1] at hf
    refine lv_aload_n hx hb dX2_readWord_0 rfl (lv_at hl 0 rfl) ?_
    refine gfX2_19 C X dX2_readWord_1 ?_
    refine lv_aload_n hx hb dX2_readWord_4 rfl (lv_at hl 0 rfl) ?_
    refine gfX2_15 C X dX2_readWord_5 ?_
    refine lv_icmp_ge (tgt := 39) hx hb dX2_readWord_8 (by decide) (fun c8 => ?_) (fun c8 => ?_)
    · replace hf := ifp c8 hf
      exact w2_readWord_2 C hr  μ hf _ _ X _ (lv_sub hl [0] rfl)
    · replace hf := ifn c8 hf
      refine lv_aload_n hx hb dX2_readWord_11 rfl (lv_at hl 0 rfl) ?_
      refine gfX2_9 C X dX2_readWord_12 ?_
      refine lv_aload_n hx hb dX2_readWord_15 rfl (lv_at hl 0 rfl) ?_
      refine gfX2_19 C X dX2_readWord_16 ?_
      obtain ⟨h19, hf⟩ := gd_e hf
      refine rIald C X rfl h19 dX2_readWord_19 ?_
      refine qX2_73 rfl C X hl.1 ((Nat.le_of_ble_eq_true rfl)) ⟨(Nat.le_of_ble_eq_true rfl), (Nat.le_of_ble_eq_true rfl)⟩ ⟨Nat.zero_le _, Nat.zero_le _⟩ dX2_readWord_20 (fun H locs X b20 => ?_)
      refine lv_if_eq (tgt := 39) hx hb dX2_readWord_23 (by decide) (fun c23 => ?_) (fun c23 => ?_)
      · replace hf := ifp c23 hf
        exact w2_readWord_2 C hr  μ hf _ _ X _ (lv_sub hl [0] rfl)
      · replace hf := ifn c23 hf
        refine lv_aload_n hx hb dX2_readWord_26 rfl (lv_at hl 0 rfl) ?_
        refine lv_dup hx hb dX2_readWord_27 rfl ?_
        refine gfX2_19 C X dX2_readWord_28 ?_
        refine lv_iconst (v := 1) hx hb dX2_readWord_31 (by decide) ?_
        refine lv_iadd hx hb dX2_readWord_32 ?_
        obtain ⟨μ33, e33, hf⟩ := nm_e2 hf
        refine pfX2_19 e33 C X dX2_readWord_33 (fun H locs X => ?_)
        refine lv_goto (tgt := 0) hx hb dX2_readWord_36 (by decide) ?_
        exact ih μ33 hf _ _ X _ (lv_sub hl [0] rfl)
set_option maxRecDepth 100000 in
set_option maxHeartbeats 4000000 in
theorem w2_readWord {p : Program} {l : Launch} {e : Env} {s : State} {m : MethodId} {args : Array Value} {below : List Frame} {meth : Method} {c : Code} {D : va_G} {cy : Nat → ClassId} {ad : Nat → Nat} {μ1 : Mem} {ν : Lem} (C : Cx true p s m args meth c cX2_readWord 4 RX2 D cy ad) (hr : meth.sig.returnType = none) : ∀ (μ : Mem), f2_readWord μ = some μ1 → ∀ (H : Heap) (locs : List Loc), Wd true D cy ad s.heap μ ν H locs → ∀ (ls : Array Slot), lv_has ls 4 [(0, .ref (ad 3))] → WV true p l e 10 244 s m args below meth c D cy ad μ1 ν H locs (F0 m 0 ls []) := by
  have hx := C.1.1
  have hb := C.1.2.1
  have hown := C.1.2.2.2.1
  have hts := C.1.2.2.2.2
  obtain ⟨z1, t1, z2, t2, z3, t3, z4, z5, ks, r1, r2⟩ := C.2.2.1.2 rfl
  intro μ hf H locs X ls hl
  unfold f2_readWord at hf
  exact w2_readWord_1 C hr  FUEL μ hf _ _ X _ (lv_sub hl [0] rfl)
theorem ct2_readWord {μ : Mem} {ν : Lem} {μ1 : Mem} (hg : f2_readWord μ = some μ1) : CtV true yX2_readWord cX2_readWord 4 10 244 (fun ad => [.ref (ad 3)]) μ ν μ1 ν :=
  mkV (by decide) rfl (fun ad => Nat.le_of_ble_eq_true rfl) (fun p l e s m args below meth c D cy ad C hr X ls hl => w2_readWord C hr μ hg _ _ X _ hl)
theorem qX2_76 {p : Program} {l : Launch} {e : Env} {R : Room} {s : State} {m : MethodId} {args : Array Value} {below : List Frame} {meth : Method} {c : Code} {H : Heap} {locs : List Loc} {cells slots : Nat} {Q : State → Prop} {A : Nat → Prop} {cc : ByteArray} {nL : Nat} {D : va_G} {cy : Nat → ClassId} {ad : Nat → Nat} {μ : Mem} {ν : Lem} {pc : Nat} {ls : Array Slot} {rest : List Value} {μ1 : Mem} (hg : f2_readWord μ = some μ1) (C : CxA true A p s m args meth c cc nL RX2 D cy ad) (X : WdA true A D cy ad s.heap μ ν H locs) (hsz : ls.size = nL) (hrm : (rest.map fun v => v.category).sum ≤ 8) (hR : 10 + 1 ≤ R.frames ∧ 8 + (4 + 11) + 244 ≤ R.locals) (hcs : cells ≤ R.cells ∧ slots ≤ R.slots) (hd : decode cc pc = .ok (.invokevirtual 76, 3)) (kk : ∀ (H1 : Heap) (locs1 : List Loc), WdA true A D cy ad s.heap μ1 ν H1 locs1 → W p l e R s m args below meth c H1 locs1 cells slots Q (F0 m (pc + 3) ls rest)) : W p l e R s m args below meth c H locs cells slots Q (F0 m pc ls (.ref (ad 3) :: rest)) :=
  rCVV (As := []) (k := 3) (ct2_readWord hg) ok2 lX2_readWord k_297 rfl rfl rfl C X rfl hrm hsz hR hcs hd kk
set_option maxRecDepth 100000 in
set_option maxHeartbeats 4000000 in
theorem w2_isDigit {p : Program} {l : Launch} {e : Env} {s : State} {m : MethodId} {args : Array Value} {below : List Frame} {meth : Method} {c : Code} {D : va_G} {cy : Nat → ClassId} {ad : Nat → Nat} {r : Int32} {μ : Mem} {ν : Lem} (C : Cx true p s m args meth c cX2_isDigit 1 RX2 D cy ad) (hr : meth.sig.returnType = some .boolean) : ∀ (x0 : Int32), f2_isDigit x0 = r → ∀ (H : Heap) (locs : List Loc), Wd true D cy ad s.heap μ ν H locs → ∀ (ls : Array Slot), lv_has ls 1 [(0, .int x0)] → WI true p l e 0 0 s m args below meth c D cy ad .boolean r μ ν H locs (F0 m 0 ls []) := by
  have hx := C.1.1
  have hb := C.1.2.1
  have hown := C.1.2.2.2.1
  have hts := C.1.2.2.2.2
  intro x0 hf H locs X ls hl
  unfold f2_isDigit at hf
  refine lv_iload_n hx hb dX2_isDigit_0 rfl (lv_at hl 0 rfl) ?_
  refine lv_bipush (v := 48) hx hb dX2_isDigit_1 (by decide) ?_
  refine lv_icmp_lt (tgt := 16) hx hb dX2_isDigit_3 (by decide) (fun c3 => ?_) (fun c3 => ?_)
  · replace hf := ifp c3 hf
    refine lv_iconst (v := 0) hx hb dX2_isDigit_16 (by decide) ?_
    exact retI C X hr rfl hf rfl rfl dX2_isDigit_17
  · replace hf := ifn c3 hf
    refine lv_iload_n hx hb dX2_isDigit_6 rfl (lv_at hl 0 rfl) ?_
    refine lv_bipush (v := 57) hx hb dX2_isDigit_7 (by decide) ?_
    refine lv_icmp_gt (tgt := 16) hx hb dX2_isDigit_9 (by decide) (fun c9 => ?_) (fun c9 => ?_)
    · replace hf := ifp c9 hf
      refine lv_iconst (v := 0) hx hb dX2_isDigit_16 (by decide) ?_
      exact retI C X hr rfl hf rfl rfl dX2_isDigit_17
    · replace hf := ifn c9 hf
      refine lv_iconst (v := 1) hx hb dX2_isDigit_12 (by decide) ?_
      refine lv_goto (tgt := 17) hx hb dX2_isDigit_13 (by decide) ?_
      exact retI C X hr rfl hf rfl rfl dX2_isDigit_17
theorem ct2_isDigit {x0 : Int32} {μ : Mem} {ν : Lem} {r : Int32} (hg : f2_isDigit x0 = r) : CtI true yX2_isDigit cX2_isDigit 1 0 0 .boolean (fun ad => [.int x0]) μ ν r μ ν :=
  mkI (by decide) rfl (fun ad => Nat.le_of_ble_eq_true rfl) (fun p l e s m args below meth c D cy ad C hr X ls hl => w2_isDigit C hr x0 hg _ _ X _ hl)
theorem qX2_79 {p : Program} {l : Launch} {e : Env} {R : Room} {s : State} {m : MethodId} {args : Array Value} {below : List Frame} {meth : Method} {c : Code} {H : Heap} {locs : List Loc} {cells slots : Nat} {Q : State → Prop} {A : Nat → Prop} {cc : ByteArray} {nL : Nat} {D : va_G} {cy : Nat → ClassId} {ad : Nat → Nat} {μ : Mem} {ν : Lem} {pc : Nat} {ls : Array Slot} {rest : List Value} {x0 : Int32} {r : Int32} (hg : f2_isDigit x0 = r) (C : CxA true A p s m args meth c cc nL RX2 D cy ad) (X : WdA true A D cy ad s.heap μ ν H locs) (hsz : ls.size = nL) (hrm : (rest.map fun v => v.category).sum ≤ 8) (hR : 0 + 1 ≤ R.frames ∧ 8 + (1 + 11) + 0 ≤ R.locals) (hcs : cells ≤ R.cells ∧ slots ≤ R.slots) (hd : decode cc pc = .ok (.invokestatic 79, 3)) (kk : ∀ (H1 : Heap) (locs1 : List Loc), WdA true A D cy ad s.heap μ ν H1 locs1 → narrow .boolean (.int r) = .int r → W p l e R s m args below meth c H1 locs1 cells slots Q (F0 m (pc + 3) ls (.int r :: rest))) : W p l e R s m args below meth c H locs cells slots Q (F0 m pc ls (.int x0 :: rest)) :=
  rCSI (As := [.int x0]) (ct2_isDigit hg) lX2_isDigit k_354 rfl rfl C X rfl hrm hsz hR hcs hd kk
set_option maxRecDepth 100000 in
set_option maxHeartbeats 4000000 in
theorem w2_readNumber_2 {p : Program} {l : Launch} {e : Env} {s : State} {m : MethodId} {args : Array Value} {below : List Frame} {meth : Method} {c : Code} {D : va_G} {cy : Nat → ClassId} {ad : Nat → Nat} {μ1 : Mem} {ν : Lem} (C : Cx true p s m args meth c cX2_readNumber 1 RX2 D cy ad) (hr : meth.sig.returnType = none) : ∀ (μ : Mem), f2_readNumber_2 μ = some μ1 → ∀ (H : Heap) (locs : List Loc), Wd true D cy ad s.heap μ ν H locs → ∀ (ls : Array Slot), lv_has ls 1 [(0, .ref (ad 3))] → WV true p l e 1 20 s m args below meth c D cy ad μ1 ν H locs (F0 m 68 ls []) := by
  have hx := C.1.1
  have hb := C.1.2.1
  have hown := C.1.2.2.2.1
  have hts := C.1.2.2.2.2
  intro μ hf H locs X ls hl
  unfold f2_readNumber_2 at hf
  refine lv_aload_n hx hb dX2_readNumber_68 rfl (lv_at hl 0 rfl) ?_
  refine lv_aload_n hx hb dX2_readNumber_69 rfl (lv_at hl 0 rfl) ?_
  refine gfX2_19 C X dX2_readNumber_70 ?_
  refine lv_aload_n hx hb dX2_readNumber_73 rfl (lv_at hl 0 rfl) ?_
  refine gfX2_54 C X dX2_readNumber_74 ?_
  refine lv_isub hx hb dX2_readNumber_77 ?_
  refine lv_iconst (v := 4) hx hb dX2_readNumber_78 (by decide) ?_
  refine lv_icmp_le (tgt := 87) hx hb dX2_readNumber_79 (by decide) (fun c79 => ?_) (fun c79 => ?_)
  · replace hf := ifp c79 hf
    refine lv_bipush (v := 20) hx hb dX2_readNumber_87 (by decide) ?_
    obtain ⟨μ89, e89, hf⟩ := nm_e2 hf
    refine pfX2_48 e89 C X dX2_readNumber_89 (fun H locs X => ?_)
    exact retV C X hr (Option.some.inj hf) rfl dX2_readNumber_92
  · replace hf := ifn c79 hf
    refine lv_bipush (v := 22) hx hb dX2_readNumber_82 (by decide) ?_
    refine lv_goto (tgt := 89) hx hb dX2_readNumber_84 (by decide) ?_
    obtain ⟨μ89, e89, hf⟩ := nm_e2 hf
    refine pfX2_48 e89 C X dX2_readNumber_89 (fun H locs X => ?_)
    exact retV C X hr (Option.some.inj hf) rfl dX2_readNumber_92
set_option maxRecDepth 100000 in
set_option maxHeartbeats 4000000 in
theorem w2_readNumber_1 {p : Program} {l : Launch} {e : Env} {s : State} {m : MethodId} {args : Array Value} {below : List Frame} {meth : Method} {c : Code} {D : va_G} {cy : Nat → ClassId} {ad : Nat → Nat} {μ1 : Mem} {ν : Lem} (C : Cx true p s m args meth c cX2_readNumber 1 RX2 D cy ad) (hr : meth.sig.returnType = none) : ∀ (n : Nat), ∀ (μ : Mem), f2_readNumber_1 n μ = some μ1 → ∀ (H : Heap) (locs : List Loc), Wd true D cy ad s.heap μ ν H locs → ∀ (ls : Array Slot), lv_has ls 1 [(0, .ref (ad 3))] → WV true p l e 1 20 s m args below meth c D cy ad μ1 ν H locs (F0 m 5 ls []) := by
  have hx := C.1.1
  have hb := C.1.2.1
  have hown := C.1.2.2.2.1
  have hts := C.1.2.2.2.2
  intro n
  induction n with
  | zero =>
    intro μ hf H locs X ls hl
    rw [f2_readNumber_1] at hf
    cases hf
  | succ n ih =>
    intro μ hf H locs X ls hl
    rw [f2_readNumber_1] at hf
    refine lv_aload_n hx hb dX2_readNumber_5 rfl (lv_at hl 0 rfl) ?_
    refine gfX2_19 C X dX2_readNumber_6 ?_
    refine lv_aload_n hx hb dX2_readNumber_9 rfl (lv_at hl 0 rfl) ?_
    refine gfX2_15 C X dX2_readNumber_10 ?_
    refine lv_icmp_ge (tgt := 68) hx hb dX2_readNumber_13 (by decide) (fun c13 => ?_) (fun c13 => ?_)
    · replace hf := ifp c13 hf
      exact w2_readNumber_2 C hr  μ hf _ _ X _ (lv_sub hl [0] rfl)
    · replace hf := ifn c13 hf
      refine lv_aload_n hx hb dX2_readNumber_16 rfl (lv_at hl 0 rfl) ?_
      refine gfX2_9 C X dX2_readNumber_17 ?_
      refine lv_aload_n hx hb dX2_readNumber_20 rfl (lv_at hl 0 rfl) ?_
      refine gfX2_19 C X dX2_readNumber_21 ?_
      obtain ⟨h24, hf⟩ := gd_e hf
      refine rIald C X rfl h24 dX2_readNumber_24 ?_
      refine qX2_79 rfl C X hl.1 ((Nat.le_of_ble_eq_true rfl)) ⟨(Nat.le_of_ble_eq_true rfl), (Nat.le_of_ble_eq_true rfl)⟩ ⟨Nat.zero_le _, Nat.zero_le _⟩ dX2_readNumber_25 (fun H locs X b25 => ?_)
      refine lv_if_eq (tgt := 68) hx hb dX2_readNumber_28 (by decide) (fun c28 => ?_) (fun c28 => ?_)
      · replace hf := ifp c28 hf
        exact w2_readNumber_2 C hr  μ hf _ _ X _ (lv_sub hl [0] rfl)
      · replace hf := ifn c28 hf
        refine lv_aload_n hx hb dX2_readNumber_31 rfl (lv_at hl 0 rfl) ?_
        refine lv_bipush (v := 10) hx hb dX2_readNumber_32 (by decide) ?_
        refine lv_aload_n hx hb dX2_readNumber_34 rfl (lv_at hl 0 rfl) ?_
        refine gfX2_70 C X dX2_readNumber_35 ?_
        refine lv_imul hx hb dX2_readNumber_38 ?_
        refine lv_aload_n hx hb dX2_readNumber_39 rfl (lv_at hl 0 rfl) ?_
        refine gfX2_9 C X dX2_readNumber_40 ?_
        refine lv_aload_n hx hb dX2_readNumber_43 rfl (lv_at hl 0 rfl) ?_
        refine gfX2_19 C X dX2_readNumber_44 ?_
        obtain ⟨h47, hf⟩ := gd_e hf
        refine rIald C X rfl h47 dX2_readNumber_47 ?_
        refine lv_iadd hx hb dX2_readNumber_48 ?_
        refine lv_bipush (v := 48) hx hb dX2_readNumber_49 (by decide) ?_
        refine lv_isub hx hb dX2_readNumber_51 ?_
        obtain ⟨μ52, e52, hf⟩ := nm_e2 hf
        refine pfX2_70 e52 C X dX2_readNumber_52 (fun H locs X => ?_)
        refine lv_aload_n hx hb dX2_readNumber_55 rfl (lv_at hl 0 rfl) ?_
        refine lv_dup hx hb dX2_readNumber_56 rfl ?_
        refine gfX2_19 C X dX2_readNumber_57 ?_
        refine lv_iconst (v := 1) hx hb dX2_readNumber_60 (by decide) ?_
        refine lv_iadd hx hb dX2_readNumber_61 ?_
        obtain ⟨μ62, e62, hf⟩ := nm_e2 hf
        refine pfX2_19 e62 C X dX2_readNumber_62 (fun H locs X => ?_)
        refine lv_goto (tgt := 5) hx hb dX2_readNumber_65 (by decide) ?_
        exact ih μ62 hf _ _ X _ (lv_sub hl [0] rfl)
set_option maxRecDepth 100000 in
set_option maxHeartbeats 4000000 in
theorem w2_readNumber {p : Program} {l : Launch} {e : Env} {s : State} {m : MethodId} {args : Array Value} {below : List Frame} {meth : Method} {c : Code} {D : va_G} {cy : Nat → ClassId} {ad : Nat → Nat} {μ1 : Mem} {ν : Lem} (C : Cx true p s m args meth c cX2_readNumber 1 RX2 D cy ad) (hr : meth.sig.returnType = none) : ∀ (μ : Mem), f2_readNumber μ = some μ1 → ∀ (H : Heap) (locs : List Loc), Wd true D cy ad s.heap μ ν H locs → ∀ (ls : Array Slot), lv_has ls 1 [(0, .ref (ad 3))] → WV true p l e 1 20 s m args below meth c D cy ad μ1 ν H locs (F0 m 0 ls []) := by
  have hx := C.1.1
  have hb := C.1.2.1
  have hown := C.1.2.2.2.1
  have hts := C.1.2.2.2.2
  intro μ hf H locs X ls hl
  unfold f2_readNumber at hf
  refine lv_aload_n hx hb dX2_readNumber_0 rfl (lv_at hl 0 rfl) ?_
  refine lv_iconst (v := 0) hx hb dX2_readNumber_1 (by decide) ?_
  obtain ⟨μ2, e2, hf⟩ := nm_e2 hf
  refine pfX2_70 e2 C X dX2_readNumber_2 (fun H locs X => ?_)
  exact w2_readNumber_1 C hr  FUEL μ2 hf _ _ X _ (lv_sub hl [0] rfl)
theorem ct2_readNumber {μ : Mem} {ν : Lem} {μ1 : Mem} (hg : f2_readNumber μ = some μ1) : CtV true yX2_readNumber cX2_readNumber 1 1 20 (fun ad => [.ref (ad 3)]) μ ν μ1 ν :=
  mkV (by decide) rfl (fun ad => Nat.le_of_ble_eq_true rfl) (fun p l e s m args below meth c D cy ad C hr X ls hl => w2_readNumber C hr μ hg _ _ X _ hl)
theorem qX2_82 {p : Program} {l : Launch} {e : Env} {R : Room} {s : State} {m : MethodId} {args : Array Value} {below : List Frame} {meth : Method} {c : Code} {H : Heap} {locs : List Loc} {cells slots : Nat} {Q : State → Prop} {A : Nat → Prop} {cc : ByteArray} {nL : Nat} {D : va_G} {cy : Nat → ClassId} {ad : Nat → Nat} {μ : Mem} {ν : Lem} {pc : Nat} {ls : Array Slot} {rest : List Value} {μ1 : Mem} (hg : f2_readNumber μ = some μ1) (C : CxA true A p s m args meth c cc nL RX2 D cy ad) (X : WdA true A D cy ad s.heap μ ν H locs) (hsz : ls.size = nL) (hrm : (rest.map fun v => v.category).sum ≤ 8) (hR : 1 + 1 ≤ R.frames ∧ 8 + (1 + 11) + 20 ≤ R.locals) (hcs : cells ≤ R.cells ∧ slots ≤ R.slots) (hd : decode cc pc = .ok (.invokevirtual 82, 3)) (kk : ∀ (H1 : Heap) (locs1 : List Loc), WdA true A D cy ad s.heap μ1 ν H1 locs1 → W p l e R s m args below meth c H1 locs1 cells slots Q (F0 m (pc + 3) ls rest)) : W p l e R s m args below meth c H locs cells slots Q (F0 m pc ls (.ref (ad 3) :: rest)) :=
  rCVV (As := []) (k := 3) (ct2_readNumber hg) ok2 lX2_readNumber k_357 rfl rfl rfl C X rfl hrm hsz hR hcs hd kk
set_option maxRecDepth 100000 in
set_option maxHeartbeats 4000000 in
theorem wJ1_canEncode_9a6ad {p : Program} {l : Launch} {e : Env} {s : State} {m : MethodId} {args : Array Value} {below : List Frame} {meth : Method} {c : Code} {D : va_G} {cy : Nat → ClassId} {ad : Nat → Nat} {r : Int32} {μ : Mem} {ν : Lem} (C : Cx true p s m args meth c cJ1_canEncode_9a6ad 1 RJ1 D cy ad) (hr : meth.sig.returnType = some .boolean) : ∀ (x0 : Int32), fJ1_canEncode_9a6ad x0 = r → ∀ (H : Heap) (locs : List Loc), Wd true D cy ad s.heap μ ν H locs → ∀ (ls : Array Slot), lv_has ls 1 [(0, .int x0)] → WI true p l e 0 0 s m args below meth c D cy ad .boolean r μ ν H locs (F0 m 0 ls []) := by
  have hx := C.1.1
  have hb := C.1.2.1
  have hown := C.1.2.2.2.1
  have hts := C.1.2.2.2.2
  intro x0 hf H locs X ls hl
  unfold fJ1_canEncode_9a6ad at hf
  refine lv_iload_n hx hb dJ1_canEncode_9a6ad_0 rfl (lv_at hl 0 rfl) ?_
  refine lv_if_lt (tgt := 15) hx hb dJ1_canEncode_9a6ad_1 (by decide) (fun c1 => ?_) (fun c1 => ?_)
  · replace hf := ifp c1 hf
    refine lv_iconst (v := 0) hx hb dJ1_canEncode_9a6ad_15 (by decide) ?_
    exact retI C X hr rfl hf rfl rfl dJ1_canEncode_9a6ad_16
  · replace hf := ifn c1 hf
    refine lv_iload_n hx hb dJ1_canEncode_9a6ad_4 rfl (lv_at hl 0 rfl) ?_
    refine lv_sipush (v := 255) hx hb dJ1_canEncode_9a6ad_5 (by decide) ?_
    refine lv_icmp_gt (tgt := 15) hx hb dJ1_canEncode_9a6ad_8 (by decide) (fun c8 => ?_) (fun c8 => ?_)
    · replace hf := ifp c8 hf
      refine lv_iconst (v := 0) hx hb dJ1_canEncode_9a6ad_15 (by decide) ?_
      exact retI C X hr rfl hf rfl rfl dJ1_canEncode_9a6ad_16
    · replace hf := ifn c8 hf
      refine lv_iconst (v := 1) hx hb dJ1_canEncode_9a6ad_11 (by decide) ?_
      refine lv_goto (tgt := 16) hx hb dJ1_canEncode_9a6ad_12 (by decide) ?_
      exact retI C X hr rfl hf rfl rfl dJ1_canEncode_9a6ad_16
theorem ctJ1_canEncode_9a6ad {x0 : Int32} {μ : Mem} {ν : Lem} {r : Int32} (hg : fJ1_canEncode_9a6ad x0 = r) : CtI true yJ1_canEncode_9a6ad cJ1_canEncode_9a6ad 1 0 0 .boolean (fun ad => [.int x0]) μ ν r μ ν :=
  mkI (by decide) rfl (fun ad => Nat.le_of_ble_eq_true rfl) (fun p l e s m args below meth c D cy ad C hr X ls hl => wJ1_canEncode_9a6ad C hr x0 hg _ _ X _ hl)
theorem qJ1_88 {p : Program} {l : Launch} {e : Env} {R : Room} {s : State} {m : MethodId} {args : Array Value} {below : List Frame} {meth : Method} {c : Code} {H : Heap} {locs : List Loc} {cells slots : Nat} {Q : State → Prop} {A : Nat → Prop} {cc : ByteArray} {nL : Nat} {D : va_G} {cy : Nat → ClassId} {ad : Nat → Nat} {μ : Mem} {ν : Lem} {pc : Nat} {ls : Array Slot} {rest : List Value} {x0 : Int32} {r : Int32} (hg : fJ1_canEncode_9a6ad x0 = r) (C : CxA true A p s m args meth c cc nL RJ1 D cy ad) (X : WdA true A D cy ad s.heap μ ν H locs) (hsz : ls.size = nL) (hrm : (rest.map fun v => v.category).sum ≤ 8) (hR : 0 + 1 ≤ R.frames ∧ 8 + (1 + 11) + 0 ≤ R.locals) (hcs : cells ≤ R.cells ∧ slots ≤ R.slots) (hd : decode cc pc = .ok (.invokestatic 88, 3)) (kk : ∀ (H1 : Heap) (locs1 : List Loc), WdA true A D cy ad s.heap μ ν H1 locs1 → narrow .boolean (.int r) = .int r → W p l e R s m args below meth c H1 locs1 cells slots Q (F0 m (pc + 3) ls (.int r :: rest))) : W p l e R s m args below meth c H locs cells slots Q (F0 m pc ls (.int x0 :: rest)) :=
  rCSI (As := [.int x0]) (ctJ1_canEncode_9a6ad hg) lJ1_canEncode_9a6ad k_374 rfl rfl C X rfl hrm hsz hR hcs hd kk
set_option maxRecDepth 100000 in
set_option maxHeartbeats 4000000 in
theorem wJ1_indexOfChar_4cfef_1 {p : Program} {l : Launch} {e : Env} {s : State} {m : MethodId} {args : Array Value} {below : List Frame} {meth : Method} {c : Code} {D : va_G} {cy : Nat → ClassId} {ad : Nat → Nat} {r : Int32} {μ : Mem} {ν : Lem} (C : Cx true p s m args meth c cJ1_indexOfChar_4cfef 6 RJ1 D cy ad) (hr : meth.sig.returnType = some .int) : ∀ (n : Nat), ∀ (x0 : Nat) (x3 : Int32) (x4 : Int32) (x5 : Int32) (hx0 : x0 < 2), fJ1_indexOfChar_4cfef_1 μ n x0 x3 x4 x5 = some r → ∀ (H : Heap) (locs : List Loc), Wd true D cy ad s.heap μ ν H locs → ∀ (ls : Array Slot), lv_has ls 6 [(0, .ref (ad (120 + x0))), (3, .int x3), (4, .int x4), (5, .int x5)] → WI true p l e 0 0 s m args below meth c D cy ad .int r μ ν H locs (F0 m 7 ls []) := by
  have hx := C.1.1
  have hb := C.1.2.1
  have hown := C.1.2.2.2.1
  have hts := C.1.2.2.2.2
  obtain ⟨z1, t1, z2, t2, z3, t3, z4, z5, ks, r1, r2⟩ := C.2.2.1.2 rfl
  intro n
  induction n with
  | zero =>
    intro x0 x3 x4 x5 hx0 hf H locs X ls hl
    rw [fJ1_indexOfChar_4cfef_1] at hf
    cases hf
  | succ n ih =>
    intro x0 x3 x4 x5 hx0 hf H locs X ls hl
    rw [fJ1_indexOfChar_4cfef_1] at hf
    refine lv_iload hx hb dJ1_indexOfChar_4cfef_7 (lv_at hl 3 rfl) ?_
    refine lv_iload_n hx hb dJ1_indexOfChar_4cfef_9 rfl (lv_at hl 1 rfl) ?_
    refine lv_icmp_ge (tgt := 31) hx hb dJ1_indexOfChar_4cfef_10 (by decide) (fun c10 => ?_) (fun c10 => ?_)
    · replace hf := ifp c10 hf
      refine lv_iconst (v := (-1)) hx hb dJ1_indexOfChar_4cfef_31 (by decide) ?_
      exact retI C X hr rfl (Option.some.inj hf) rfl rfl dJ1_indexOfChar_4cfef_32
    · replace hf := ifn c10 hf
      refine lv_aload_n hx hb dJ1_indexOfChar_4cfef_13 rfl (lv_at hl 0 rfl) ?_
      refine lv_iload hx hb dJ1_indexOfChar_4cfef_14 (lv_at hl 3 rfl) ?_
      obtain ⟨h16, hf⟩ := gd_e hf
      refine va_tb (v := .int (bK x0 x5.toNatClampNeg)) hx hb (ks.1 x0 hx0).2.2.2 X.2.2 h16 rfl dJ1_indexOfChar_4cfef_16 ?_
      refine lv_iload hx hb dJ1_indexOfChar_4cfef_17 (lv_at hl 2 rfl) ?_
      refine lv_icmp_ne (tgt := 25) hx hb dJ1_indexOfChar_4cfef_19 (by decide) (fun c19 => ?_) (fun c19 => ?_)
      · replace hf := ifn c19 hf
        obtain ⟨v25, e25, hf⟩ := nm_e2 hf
        refine rIinc (lv' := [(5, .int v25), (0, .ref (ad (120 + x0))), (3, .int x3), (4, .int x4)]) hx hb dJ1_indexOfChar_4cfef_25 hl (k := 3) rfl e25 rfl (by decide) rfl (fun ls hl => ?_)
        refine lv_goto (tgt := 7) hx hb dJ1_indexOfChar_4cfef_28 (by decide) ?_
        exact ih x0 x3 x4 v25 hx0 hf _ _ X _ (lv_sub hl [1, 2, 3, 0] rfl)
      · replace hf := ifp c19 hf
        refine lv_iload hx hb dJ1_indexOfChar_4cfef_22 (lv_at hl 3 rfl) ?_
        exact retI C X hr rfl (Option.some.inj hf) rfl rfl dJ1_indexOfChar_4cfef_24
set_option maxRecDepth 100000 in
set_option maxHeartbeats 4000000 in
theorem wJ1_indexOfChar_4cfef {p : Program} {l : Launch} {e : Env} {s : State} {m : MethodId} {args : Array Value} {below : List Frame} {meth : Method} {c : Code} {D : va_G} {cy : Nat → ClassId} {ad : Nat → Nat} {r : Int32} {μ : Mem} {ν : Lem} (C : Cx true p s m args meth c cJ1_indexOfChar_4cfef 6 RJ1 D cy ad) (hr : meth.sig.returnType = some .int) : ∀ (x0 : Nat) (x1 : Int32) (x2 : Int32) (x3 : Int32) (hx0 : x0 < 2), fJ1_indexOfChar_4cfef μ x0 x1 x2 x3 = some r → ∀ (H : Heap) (locs : List Loc), Wd true D cy ad s.heap μ ν H locs → ∀ (ls : Array Slot), lv_has ls 6 [(0, .ref (ad (120 + x0))), (1, .int x1), (2, .int x2), (3, .int x3)] → WI true p l e 0 0 s m args below meth c D cy ad .int r μ ν H locs (F0 m 0 ls []) := by
  have hx := C.1.1
  have hb := C.1.2.1
  have hown := C.1.2.2.2.1
  have hts := C.1.2.2.2.2
  obtain ⟨z1, t1, z2, t2, z3, t3, z4, z5, ks, r1, r2⟩ := C.2.2.1.2 rfl
  intro x0 x1 x2 x3 hx0 hf H locs X ls hl
  unfold fJ1_indexOfChar_4cfef at hf
  refine lv_iload_n hx hb dJ1_indexOfChar_4cfef_0 rfl (lv_at hl 1 rfl) ?_
  refine lv_i2b hx hb dJ1_indexOfChar_4cfef_1 rfl ?_
  obtain ⟨v2, e2, hf⟩ := nm_e2 hf
  refine st_i e2 ?_
  refine lv_istore (lv' := [(4, .int v2), (0, .ref (ad (120 + x0))), (1, .int x1), (2, .int x2), (3, .int x3)]) hx hb dJ1_indexOfChar_4cfef_2 hl (by decide) rfl (fun ls hl => ?_)
  refine lv_iload_n hx hb dJ1_indexOfChar_4cfef_4 rfl (lv_at hl 3 rfl) ?_
  refine lv_istore (lv' := [(5, .int x2), (4, .int v2), (0, .ref (ad (120 + x0))), (1, .int x1), (2, .int x2), (3, .int x3)]) hx hb dJ1_indexOfChar_4cfef_5 hl (by decide) rfl (fun ls hl => ?_)
  exact wJ1_indexOfChar_4cfef_1 C hr  FUEL x0 x3 v2 x2 hx0 hf _ _ X _ (lv_sub hl [2, 5, 1, 0] rfl)
theorem ctJ1_indexOfChar_4cfef {x0 : Nat} {x1 : Int32} {x2 : Int32} {x3 : Int32} (hx0 : x0 < 2) {μ : Mem} {ν : Lem} {r : Int32} (hg : fJ1_indexOfChar_4cfef μ x0 x1 x2 x3 = some r) : CtI true yJ1_indexOfChar_4cfef cJ1_indexOfChar_4cfef 6 0 0 .int (fun ad => [.ref (ad (120 + x0)), .int x1, .int x2, .int x3]) μ ν r μ ν :=
  mkI (by decide) rfl (fun ad => Nat.le_of_ble_eq_true rfl) (fun p l e s m args below meth c D cy ad C hr X ls hl => wJ1_indexOfChar_4cfef C hr x0 x1 x2 x3 hx0 hg _ _ X _ hl)
theorem qJ1_95 {p : Program} {l : Launch} {e : Env} {R : Room} {s : State} {m : MethodId} {args : Array Value} {below : List Frame} {meth : Method} {c : Code} {H : Heap} {locs : List Loc} {cells slots : Nat} {Q : State → Prop} {A : Nat → Prop} {cc : ByteArray} {nL : Nat} {D : va_G} {cy : Nat → ClassId} {ad : Nat → Nat} {μ : Mem} {ν : Lem} {pc : Nat} {ls : Array Slot} {rest : List Value} {x0 : Nat} {x1 : Int32} {x2 : Int32} {x3 : Int32} (hx0 : x0 < 2) {r : Int32} (hg : fJ1_indexOfChar_4cfef μ x0 x1 x2 x3 = some r) (C : CxA true A p s m args meth c cc nL RJ1 D cy ad) (X : WdA true A D cy ad s.heap μ ν H locs) (hsz : ls.size = nL) (hrm : (rest.map fun v => v.category).sum ≤ 8) (hR : 0 + 1 ≤ R.frames ∧ 8 + (6 + 11) + 0 ≤ R.locals) (hcs : cells ≤ R.cells ∧ slots ≤ R.slots) (hd : decode cc pc = .ok (.invokestatic 95, 3)) (kk : ∀ (H1 : Heap) (locs1 : List Loc), WdA true A D cy ad s.heap μ ν H1 locs1 → narrow .int (.int r) = .int r → W p l e R s m args below meth c H1 locs1 cells slots Q (F0 m (pc + 3) ls (.int r :: rest))) : W p l e R s m args below meth c H locs cells slots Q (F0 m pc ls (.int x3 :: .int x2 :: .int x1 :: .ref (ad (120 + x0)) :: rest)) :=
  rCSI (As := [.ref (ad (120 + x0)), .int x1, .int x2, .int x3]) (ctJ1_indexOfChar_4cfef hx0 hg) lJ1_indexOfChar_4cfef k_381 rfl rfl C X rfl hrm hsz hR hcs hd kk
set_option maxRecDepth 100000 in
set_option maxHeartbeats 4000000 in
theorem wJ1_indexOf_4cfef {p : Program} {l : Launch} {e : Env} {s : State} {m : MethodId} {args : Array Value} {below : List Frame} {meth : Method} {c : Code} {D : va_G} {cy : Nat → ClassId} {ad : Nat → Nat} {r : Int32} {μ : Mem} {ν : Lem} (C : Cx true p s m args meth c cJ1_indexOf_4cfef 4 RJ1 D cy ad) (hr : meth.sig.returnType = some .int) : ∀ (x0 : Nat) (x1 : Int32) (x2 : Int32) (x3 : Int32) (hx0 : x0 < 2), fJ1_indexOf_4cfef μ x0 x1 x2 x3 = some r → ∀ (H : Heap) (locs : List Loc), Wd true D cy ad s.heap μ ν H locs → ∀ (ls : Array Slot), lv_has ls 4 [(0, .ref (ad (120 + x0))), (1, .int x1), (2, .int x2), (3, .int x3)] → WI true p l e 1 25 s m args below meth c D cy ad .int r μ ν H locs (F0 m 0 ls []) := by
  have hx := C.1.1
  have hb := C.1.2.1
  have hown := C.1.2.2.2.1
  have hts := C.1.2.2.2.2
  obtain ⟨z1, t1, z2, t2, z3, t3, z4, z5, ks, r1, r2⟩ := C.2.2.1.2 rfl
  intro x0 x1 x2 x3 hx0 hf H locs X ls hl
  unfold fJ1_indexOf_4cfef at hf
  refine lv_iload_n hx hb dJ1_indexOf_4cfef_0 rfl (lv_at hl 1 rfl) ?_
  refine qJ1_88 rfl C X hl.1 ((Nat.le_of_ble_eq_true rfl)) ⟨(Nat.le_of_ble_eq_true rfl), (Nat.le_of_ble_eq_true rfl)⟩ ⟨Nat.zero_le _, Nat.zero_le _⟩ dJ1_indexOf_4cfef_1 (fun H locs X b1 => ?_)
  refine lv_if_ne (tgt := 9) hx hb dJ1_indexOf_4cfef_4 (by decide) (fun c4 => ?_) (fun c4 => ?_)
  · replace hf := ifn c4 hf
    refine lv_iload_n hx hb dJ1_indexOf_4cfef_9 rfl (lv_at hl 2 rfl) ?_
    refine lv_iconst (v := 0) hx hb dJ1_indexOf_4cfef_10 (by decide) ?_
    refine rMax C k_377 hl.1 (Nat.le_of_ble_eq_true rfl) (Nat.le_of_ble_eq_true rfl) ⟨Nat.zero_le _, Nat.zero_le _⟩ dJ1_indexOf_4cfef_11 ?_
    obtain ⟨v14, e14, hf⟩ := nm_e2 hf
    refine st_i e14 ?_
    refine lv_istore_n (lv' := [(2, .int v14), (0, .ref (ad (120 + x0))), (1, .int x1), (3, .int x3)]) hx hb dJ1_indexOf_4cfef_14 rfl hl (by decide) rfl (fun ls hl => ?_)
    refine lv_iload_n hx hb dJ1_indexOf_4cfef_15 rfl (lv_at hl 3 rfl) ?_
    refine lv_aload_n hx hb dJ1_indexOf_4cfef_16 rfl (lv_at hl 1 rfl) ?_
    refine va_tlen (v := nI (lenK x0)) hx hb (ks.1 x0 hx0).2.2.2 X.2.2 rfl dJ1_indexOf_4cfef_17 ?_
    refine rMin C k_378 hl.1 (Nat.le_of_ble_eq_true rfl) (Nat.le_of_ble_eq_true rfl) ⟨Nat.zero_le _, Nat.zero_le _⟩ dJ1_indexOf_4cfef_18 ?_
    obtain ⟨v21, e21, hf⟩ := nm_e2 hf
    refine st_i e21 ?_
    refine lv_istore_n (lv' := [(3, .int v21), (2, .int v14), (0, .ref (ad (120 + x0))), (1, .int x1)]) hx hb dJ1_indexOf_4cfef_21 rfl hl (by decide) rfl (fun ls hl => ?_)
    refine lv_iload_n hx hb dJ1_indexOf_4cfef_22 rfl (lv_at hl 1 rfl) ?_
    refine lv_iload_n hx hb dJ1_indexOf_4cfef_23 rfl (lv_at hl 0 rfl) ?_
    refine lv_icmp_lt (tgt := 29) hx hb dJ1_indexOf_4cfef_24 (by decide) (fun c24 => ?_) (fun c24 => ?_)
    · replace hf := ifp c24 hf
      refine lv_aload_n hx hb dJ1_indexOf_4cfef_29 rfl (lv_at hl 2 rfl) ?_
      refine lv_iload_n hx hb dJ1_indexOf_4cfef_30 rfl (lv_at hl 3 rfl) ?_
      refine lv_iload_n hx hb dJ1_indexOf_4cfef_31 rfl (lv_at hl 1 rfl) ?_
      refine lv_iload_n hx hb dJ1_indexOf_4cfef_32 rfl (lv_at hl 0 rfl) ?_
      obtain ⟨r33, g33, hf⟩ := bd1_e hf
      refine qJ1_95 (x0 := x0) hx0 g33 C X hl.1 ((Nat.le_of_ble_eq_true rfl)) ⟨(Nat.le_of_ble_eq_true rfl), (Nat.le_of_ble_eq_true rfl)⟩ ⟨Nat.zero_le _, Nat.zero_le _⟩ dJ1_indexOf_4cfef_33 (fun H locs X b33 => ?_)
      exact retI C X hr rfl (Option.some.inj hf) rfl rfl dJ1_indexOf_4cfef_36
    · replace hf := ifn c24 hf
      refine lv_iconst (v := (-1)) hx hb dJ1_indexOf_4cfef_27 (by decide) ?_
      exact retI C X hr rfl (Option.some.inj hf) rfl rfl dJ1_indexOf_4cfef_28
  · replace hf := ifp c4 hf
    refine lv_iconst (v := (-1)) hx hb dJ1_indexOf_4cfef_7 (by decide) ?_
    exact retI C X hr rfl (Option.some.inj hf) rfl rfl dJ1_indexOf_4cfef_8
theorem ctJ1_indexOf_4cfef {x0 : Nat} {x1 : Int32} {x2 : Int32} {x3 : Int32} (hx0 : x0 < 2) {μ : Mem} {ν : Lem} {r : Int32} (hg : fJ1_indexOf_4cfef μ x0 x1 x2 x3 = some r) : CtI true yJ1_indexOf_4cfef cJ1_indexOf_4cfef 4 1 25 .int (fun ad => [.ref (ad (120 + x0)), .int x1, .int x2, .int x3]) μ ν r μ ν :=
  mkI (by decide) rfl (fun ad => Nat.le_of_ble_eq_true rfl) (fun p l e s m args below meth c D cy ad C hr X ls hl => wJ1_indexOf_4cfef C hr x0 x1 x2 x3 hx0 hg _ _ X _ hl)
theorem qJ0_637 {p : Program} {l : Launch} {e : Env} {R : Room} {s : State} {m : MethodId} {args : Array Value} {below : List Frame} {meth : Method} {c : Code} {H : Heap} {locs : List Loc} {cells slots : Nat} {Q : State → Prop} {A : Nat → Prop} {cc : ByteArray} {nL : Nat} {D : va_G} {cy : Nat → ClassId} {ad : Nat → Nat} {μ : Mem} {ν : Lem} {pc : Nat} {ls : Array Slot} {rest : List Value} {x0 : Nat} {x1 : Int32} {x2 : Int32} {x3 : Int32} (hx0 : x0 < 2) {r : Int32} (hg : fJ1_indexOf_4cfef μ x0 x1 x2 x3 = some r) (C : CxA true A p s m args meth c cc nL RJ0 D cy ad) (X : WdA true A D cy ad s.heap μ ν H locs) (hsz : ls.size = nL) (hrm : (rest.map fun v => v.category).sum ≤ 8) (hR : 1 + 1 ≤ R.frames ∧ 8 + (4 + 11) + 25 ≤ R.locals) (hcs : cells ≤ R.cells ∧ slots ≤ R.slots) (hd : decode cc pc = .ok (.invokestatic 637, 3)) (kk : ∀ (H1 : Heap) (locs1 : List Loc), WdA true A D cy ad s.heap μ ν H1 locs1 → narrow .int (.int r) = .int r → W p l e R s m args below meth c H1 locs1 cells slots Q (F0 m (pc + 3) ls (.int r :: rest))) : W p l e R s m args below meth c H locs cells slots Q (F0 m pc ls (.int x3 :: .int x2 :: .int x1 :: .ref (ad (120 + x0)) :: rest)) :=
  rCSI (As := [.ref (ad (120 + x0)), .int x1, .int x2, .int x3]) (ctJ1_indexOf_4cfef hx0 hg) lJ1_indexOf_4cfef k_371 rfl rfl C X rfl hrm hsz hR hcs hd kk
set_option maxRecDepth 100000 in
set_option maxHeartbeats 4000000 in
theorem wJ0_indexOf_7cf53 {p : Program} {l : Launch} {e : Env} {s : State} {m : MethodId} {args : Array Value} {below : List Frame} {meth : Method} {c : Code} {D : va_G} {cy : Nat → ClassId} {ad : Nat → Nat} {r : Int32} {μ : Mem} {ν : Lem} (C : Cx true p s m args meth c cJ0_indexOf_7cf53 3 RJ0 D cy ad) (hr : meth.sig.returnType = some .int) : ∀ (i : Nat) (x1 : Int32) (x2 : Int32) (hi : i < 2), fJ0_indexOf_7cf53 μ i x1 x2 = some r → ∀ (H : Heap) (locs : List Loc), Wd true D cy ad s.heap μ ν H locs → ∀ (ls : Array Slot), lv_has ls 3 [(0, .ref (ad (110 + i))), (1, .int x1), (2, .int x2)] → WI true p l e 8 200 s m args below meth c D cy ad .int r μ ν H locs (F0 m 0 ls []) := by
  have hx := C.1.1
  have hb := C.1.2.1
  have hown := C.1.2.2.2.1
  have hts := C.1.2.2.2.2
  obtain ⟨z1, t1, z2, t2, z3, t3, z4, z5, ks, r1, r2⟩ := C.2.2.1.2 rfl
  intro i x1 x2 hi hf H locs X ls hl
  unfold fJ0_indexOf_7cf53 at hf
  refine lv_aload_n hx hb dJ0_indexOf_7cf53_0 rfl (lv_at hl 0 rfl) ?_
  refine qJ0_492 (i := i) hi (r := 1) rfl C X hl.1 ((Nat.le_of_ble_eq_true rfl)) ⟨(Nat.le_of_ble_eq_true rfl), (Nat.le_of_ble_eq_true rfl)⟩ ⟨Nat.zero_le _, Nat.zero_le _⟩ dJ0_indexOf_7cf53_1 (fun H locs X b1 => ?_)
  refine lv_if_eq (tgt := 23) hx hb dJ0_indexOf_7cf53_4 (by decide) (fun c4 => absurd c4 (by decide)) (fun c4 => ?_)
  refine lv_aload_n hx hb dJ0_indexOf_7cf53_7 rfl (lv_at hl 0 rfl) ?_
  refine vk_getf (v := .ref (ad (120 + i))) hx hb (ks.1 i hi).2.2.1 X.2.2 hown (hts _ k_1359) (fun _ h => h) dJ0_indexOf_7cf53_8 ?_
  refine lv_iload_n hx hb dJ0_indexOf_7cf53_11 rfl (lv_at hl 1 rfl) ?_
  refine lv_iload_n hx hb dJ0_indexOf_7cf53_12 rfl (lv_at hl 2 rfl) ?_
  refine lv_aload_n hx hb dJ0_indexOf_7cf53_13 rfl (lv_at hl 0 rfl) ?_
  refine qJ0_505 (i := i) hi rfl C X hl.1 ((Nat.le_of_ble_eq_true rfl)) ⟨(Nat.le_of_ble_eq_true rfl), (Nat.le_of_ble_eq_true rfl)⟩ ⟨Nat.zero_le _, Nat.zero_le _⟩ dJ0_indexOf_7cf53_14 (fun H locs X b14 => ?_)
  obtain ⟨r17, g17, hf⟩ := bd1_e hf
  refine qJ0_637 (x0 := i) hi g17 C X hl.1 ((Nat.le_of_ble_eq_true rfl)) ⟨(Nat.le_of_ble_eq_true rfl), (Nat.le_of_ble_eq_true rfl)⟩ ⟨Nat.zero_le _, Nat.zero_le _⟩ dJ0_indexOf_7cf53_17 (fun H locs X b17 => ?_)
  refine lv_goto (tgt := 36) hx hb dJ0_indexOf_7cf53_20 (by decide) ?_
  exact retI C X hr rfl (Option.some.inj hf) rfl rfl dJ0_indexOf_7cf53_36
theorem ctJ0_indexOf_7cf53 {i : Nat} {x1 : Int32} {x2 : Int32} (hi : i < 2) {μ : Mem} {ν : Lem} {r : Int32} (hg : fJ0_indexOf_7cf53 μ i x1 x2 = some r) : CtI true yJ0_indexOf_7cf53 cJ0_indexOf_7cf53 3 8 200 .int (fun ad => [.ref (ad (110 + i)), .int x1, .int x2]) μ ν r μ ν :=
  mkI (by decide) rfl (fun ad => Nat.le_of_ble_eq_true rfl) (fun p l e s m args below meth c D cy ad C hr X ls hl => wJ0_indexOf_7cf53 C hr i x1 x2 hi hg _ _ X _ hl)
theorem qJ0_633 {p : Program} {l : Launch} {e : Env} {R : Room} {s : State} {m : MethodId} {args : Array Value} {below : List Frame} {meth : Method} {c : Code} {H : Heap} {locs : List Loc} {cells slots : Nat} {Q : State → Prop} {A : Nat → Prop} {cc : ByteArray} {nL : Nat} {D : va_G} {cy : Nat → ClassId} {ad : Nat → Nat} {μ : Mem} {ν : Lem} {pc : Nat} {ls : Array Slot} {rest : List Value} {i : Nat} {x1 : Int32} {x2 : Int32} (hi : i < 2) {r : Int32} (hg : fJ0_indexOf_7cf53 μ i x1 x2 = some r) (C : CxA true A p s m args meth c cc nL RJ0 D cy ad) (X : WdA true A D cy ad s.heap μ ν H locs) (hsz : ls.size = nL) (hrm : (rest.map fun v => v.category).sum ≤ 8) (hR : 8 + 1 ≤ R.frames ∧ 8 + (3 + 11) + 200 ≤ R.locals) (hcs : cells ≤ R.cells ∧ slots ≤ R.slots) (hd : decode cc pc = .ok (.invokevirtual 633, 3)) (kk : ∀ (H1 : Heap) (locs1 : List Loc), WdA true A D cy ad s.heap μ ν H1 locs1 → narrow .int (.int r) = .int r → W p l e R s m args below meth c H1 locs1 cells slots Q (F0 m (pc + 3) ls (.int r :: rest))) : W p l e R s m args below meth c H locs cells slots Q (F0 m pc ls (.int x2 :: .int x1 :: .ref (ad (110 + i)) :: rest)) :=
  rSVI (As := [.int x1, .int x2]) (i := i) (ctJ0_indexOf_7cf53 hi hg) rfl lJ0_indexOf_7cf53 k_366 hi rfl rfl C X rfl hrm hsz hR hcs hd kk
set_option maxRecDepth 100000 in
set_option maxHeartbeats 4000000 in
theorem wJ0_indexOf_0f7a4 {p : Program} {l : Launch} {e : Env} {s : State} {m : MethodId} {args : Array Value} {below : List Frame} {meth : Method} {c : Code} {D : va_G} {cy : Nat → ClassId} {ad : Nat → Nat} {r : Int32} {μ : Mem} {ν : Lem} (C : Cx true p s m args meth c cJ0_indexOf_0f7a4 2 RJ0 D cy ad) (hr : meth.sig.returnType = some .int) : ∀ (i : Nat) (x1 : Int32) (hi : i < 2), fJ0_indexOf_0f7a4 μ i x1 = some r → ∀ (H : Heap) (locs : List Loc), Wd true D cy ad s.heap μ ν H locs → ∀ (ls : Array Slot), lv_has ls 2 [(0, .ref (ad (110 + i))), (1, .int x1)] → WI true p l e 9 222 s m args below meth c D cy ad .int r μ ν H locs (F0 m 0 ls []) := by
  have hx := C.1.1
  have hb := C.1.2.1
  have hown := C.1.2.2.2.1
  have hts := C.1.2.2.2.2
  intro i x1 hi hf H locs X ls hl
  unfold fJ0_indexOf_0f7a4 at hf
  refine lv_aload_n hx hb dJ0_indexOf_0f7a4_0 rfl (lv_at hl 0 rfl) ?_
  refine lv_iload_n hx hb dJ0_indexOf_0f7a4_1 rfl (lv_at hl 1 rfl) ?_
  refine lv_iconst (v := 0) hx hb dJ0_indexOf_0f7a4_2 (by decide) ?_
  obtain ⟨r3, g3, hf⟩ := bd1_e hf
  refine qJ0_633 (i := i) hi g3 C X hl.1 ((Nat.le_of_ble_eq_true rfl)) ⟨(Nat.le_of_ble_eq_true rfl), (Nat.le_of_ble_eq_true rfl)⟩ ⟨Nat.zero_le _, Nat.zero_le _⟩ dJ0_indexOf_0f7a4_3 (fun H locs X b3 => ?_)
  exact retI C X hr rfl (Option.some.inj hf) rfl rfl dJ0_indexOf_0f7a4_6
theorem ctJ0_indexOf_0f7a4 {i : Nat} {x1 : Int32} (hi : i < 2) {μ : Mem} {ν : Lem} {r : Int32} (hg : fJ0_indexOf_0f7a4 μ i x1 = some r) : CtI true yJ0_indexOf_0f7a4 cJ0_indexOf_0f7a4 2 9 222 .int (fun ad => [.ref (ad (110 + i)), .int x1]) μ ν r μ ν :=
  mkI (by decide) rfl (fun ad => Nat.le_of_ble_eq_true rfl) (fun p l e s m args below meth c D cy ad C hr X ls hl => wJ0_indexOf_0f7a4 C hr i x1 hi hg _ _ X _ hl)
theorem qX2_87 {p : Program} {l : Launch} {e : Env} {R : Room} {s : State} {m : MethodId} {args : Array Value} {below : List Frame} {meth : Method} {c : Code} {H : Heap} {locs : List Loc} {cells slots : Nat} {Q : State → Prop} {A : Nat → Prop} {cc : ByteArray} {nL : Nat} {D : va_G} {cy : Nat → ClassId} {ad : Nat → Nat} {μ : Mem} {ν : Lem} {pc : Nat} {ls : Array Slot} {rest : List Value} {i : Nat} {x1 : Int32} (hi : i < 2) {r : Int32} (hg : fJ0_indexOf_0f7a4 μ i x1 = some r) (C : CxA true A p s m args meth c cc nL RX2 D cy ad) (X : WdA true A D cy ad s.heap μ ν H locs) (hsz : ls.size = nL) (hrm : (rest.map fun v => v.category).sum ≤ 8) (hR : 9 + 1 ≤ R.frames ∧ 8 + (2 + 11) + 222 ≤ R.locals) (hcs : cells ≤ R.cells ∧ slots ≤ R.slots) (hd : decode cc pc = .ok (.invokevirtual 87, 3)) (kk : ∀ (H1 : Heap) (locs1 : List Loc), WdA true A D cy ad s.heap μ ν H1 locs1 → narrow .int (.int r) = .int r → W p l e R s m args below meth c H1 locs1 cells slots Q (F0 m (pc + 3) ls (.int r :: rest))) : W p l e R s m args below meth c H locs cells slots Q (F0 m pc ls (.int x1 :: .ref (ad (110 + i)) :: rest)) :=
  rSVI (As := [.int x1]) (i := i) (ctJ0_indexOf_0f7a4 hi hg) rfl lJ0_indexOf_0f7a4 k_362 hi rfl rfl C X rfl hrm hsz hR hcs hd kk
set_option maxRecDepth 100000 in
set_option maxHeartbeats 4000000 in
theorem w2_advance_3 {p : Program} {l : Launch} {e : Env} {s : State} {m : MethodId} {args : Array Value} {below : List Frame} {meth : Method} {c : Code} {D : va_G} {cy : Nat → ClassId} {ad : Nat → Nat} {μ1 : Mem} {ν : Lem} (C : Cx true p s m args meth c cX2_advance 2 RX2 D cy ad) (hr : meth.sig.returnType = none) : ∀ (μ : Mem) (t1 : Int32), f2_advance_3 μ t1 = some μ1 → ∀ (H : Heap) (locs : List Loc), Wd true D cy ad s.heap μ ν H locs → ∀ (ls : Array Slot), lv_has ls 2 [(0, .ref (ad 3))] → WV true p l e 11 267 s m args below meth c D cy ad μ1 ν H locs (F0 m 154 ls [.int t1, .ref (ad 3)]) := by
  have hx := C.1.1
  have hb := C.1.2.1
  have hown := C.1.2.2.2.1
  have hts := C.1.2.2.2.2
  obtain ⟨z1, t1, z2, t2, z3, t3, z4, z5, ks, r1, r2⟩ := C.2.2.1.2 rfl
  intro μ t1 hf H locs X ls hl
  unfold f2_advance_3 at hf
  obtain ⟨μ154, e154, hf⟩ := nm_e2 hf
  refine pfX2_48 e154 C X dX2_advance_154 (fun H locs X => ?_)
  refine lv_aload_n hx hb dX2_advance_157 rfl (lv_at hl 0 rfl) ?_
  refine lv_dup hx hb dX2_advance_158 rfl ?_
  refine gfX2_19 C X dX2_advance_159 ?_
  refine lv_iconst (v := 1) hx hb dX2_advance_162 (by decide) ?_
  refine lv_iadd hx hb dX2_advance_163 ?_
  obtain ⟨μ164, e164, hf⟩ := nm_e2 hf
  refine pfX2_19 e164 C X dX2_advance_164 (fun H locs X => ?_)
  exact retV C X hr (Option.some.inj hf) rfl dX2_advance_167
set_option maxRecDepth 100000 in
set_option maxHeartbeats 4000000 in
theorem w2_advance_2 {p : Program} {l : Launch} {e : Env} {s : State} {m : MethodId} {args : Array Value} {below : List Frame} {meth : Method} {c : Code} {D : va_G} {cy : Nat → ClassId} {ad : Nat → Nat} {μ1 : Mem} {ν : Lem} (C : Cx true p s m args meth c cX2_advance 2 RX2 D cy ad) (hr : meth.sig.returnType = none) : ∀ (μ : Mem), f2_advance_2 μ = some μ1 → ∀ (H : Heap) (locs : List Loc), Wd true D cy ad s.heap μ ν H locs → ∀ (ls : Array Slot), lv_has ls 2 [(0, .ref (ad 3))] → WV true p l e 11 267 s m args below meth c D cy ad μ1 ν H locs (F0 m 52 ls []) := by
  have hx := C.1.1
  have hb := C.1.2.1
  have hown := C.1.2.2.2.1
  have hts := C.1.2.2.2.2
  obtain ⟨z1, t1, z2, t2, z3, t3, z4, z5, ks, r1, r2⟩ := C.2.2.1.2 rfl
  intro μ hf H locs X ls hl
  unfold f2_advance_2 at hf
  refine lv_aload_n hx hb dX2_advance_52 rfl (lv_at hl 0 rfl) ?_
  refine lv_aload_n hx hb dX2_advance_53 rfl (lv_at hl 0 rfl) ?_
  refine gfX2_19 C X dX2_advance_54 ?_
  obtain ⟨μ57, e57, hf⟩ := nm_e2 hf
  refine pfX2_54 e57 C X dX2_advance_57 (fun H locs X => ?_)
  refine lv_aload_n hx hb dX2_advance_60 rfl (lv_at hl 0 rfl) ?_
  refine gfX2_19 C X dX2_advance_61 ?_
  refine lv_aload_n hx hb dX2_advance_64 rfl (lv_at hl 0 rfl) ?_
  refine gfX2_15 C X dX2_advance_65 ?_
  refine lv_icmp_lt (tgt := 80) hx hb dX2_advance_68 (by decide) (fun c68 => ?_) (fun c68 => ?_)
  · replace hf := ifp c68 hf
    refine lv_aload_n hx hb dX2_advance_80 rfl (lv_at hl 0 rfl) ?_
    refine gfX2_9 C X dX2_advance_81 ?_
    refine lv_aload_n hx hb dX2_advance_84 rfl (lv_at hl 0 rfl) ?_
    refine gfX2_19 C X dX2_advance_85 ?_
    obtain ⟨h88, hf⟩ := gd_e hf
    refine rIald C X rfl h88 dX2_advance_88 ?_
    refine qX2_73 rfl C X hl.1 ((Nat.le_of_ble_eq_true rfl)) ⟨(Nat.le_of_ble_eq_true rfl), (Nat.le_of_ble_eq_true rfl)⟩ ⟨Nat.zero_le _, Nat.zero_le _⟩ dX2_advance_89 (fun H locs X b89 => ?_)
    refine lv_if_eq (tgt := 102) hx hb dX2_advance_92 (by decide) (fun c92 => ?_) (fun c92 => ?_)
    · replace hf := ifp c92 hf
      refine lv_aload_n hx hb dX2_advance_102 rfl (lv_at hl 0 rfl) ?_
      refine gfX2_9 C X dX2_advance_103 ?_
      refine lv_aload_n hx hb dX2_advance_106 rfl (lv_at hl 0 rfl) ?_
      refine gfX2_19 C X dX2_advance_107 ?_
      obtain ⟨h110, hf⟩ := gd_e hf
      refine rIald C X rfl h110 dX2_advance_110 ?_
      refine qX2_79 rfl C X hl.1 ((Nat.le_of_ble_eq_true rfl)) ⟨(Nat.le_of_ble_eq_true rfl), (Nat.le_of_ble_eq_true rfl)⟩ ⟨Nat.zero_le _, Nat.zero_le _⟩ dX2_advance_111 (fun H locs X b111 => ?_)
      refine lv_if_eq (tgt := 124) hx hb dX2_advance_114 (by decide) (fun c114 => ?_) (fun c114 => ?_)
      · replace hf := ifp c114 hf
        refine va_ldcS hx hb hown r2 dX2_advance_124 ?_
        refine lv_aload_n hx hb dX2_advance_126 rfl (lv_at hl 0 rfl) ?_
        refine gfX2_9 C X dX2_advance_127 ?_
        refine lv_aload_n hx hb dX2_advance_130 rfl (lv_at hl 0 rfl) ?_
        refine gfX2_19 C X dX2_advance_131 ?_
        obtain ⟨h134, hf⟩ := gd_e hf
        refine rIald C X rfl h134 dX2_advance_134 ?_
        refine lv_i2c hx hb dX2_advance_135 rfl ?_
        obtain ⟨r136, g136, hf⟩ := bd1_e hf
        refine qX2_87 (i := 1) (by decide) g136 C X hl.1 ((Nat.le_of_ble_eq_true rfl)) ⟨(Nat.le_of_ble_eq_true rfl), (Nat.le_of_ble_eq_true rfl)⟩ ⟨Nat.zero_le _, Nat.zero_le _⟩ dX2_advance_136 (fun H locs X b136 => ?_)
        refine lv_istore_n (lv' := [(1, .int r136), (0, .ref (ad 3))]) hx hb dX2_advance_139 rfl hl (by decide) rfl (fun ls hl => ?_)
        refine lv_aload_n hx hb dX2_advance_140 rfl (lv_at hl 1 rfl) ?_
        refine lv_iload_n hx hb dX2_advance_141 rfl (lv_at hl 0 rfl) ?_
        refine lv_if_ge (tgt := 150) hx hb dX2_advance_142 (by decide) (fun c142 => ?_) (fun c142 => ?_)
        · replace hf := ifp c142 hf
          refine lv_bipush (v := 12) hx hb dX2_advance_150 (by decide) ?_
          refine lv_iload_n hx hb dX2_advance_152 rfl (lv_at hl 0 rfl) ?_
          refine lv_iadd hx hb dX2_advance_153 ?_
          exact w2_advance_3 C hr  μ57 (12 + r136) hf _ _ X _ (lv_sub hl [1] rfl)
        · replace hf := ifn c142 hf
          refine lv_bipush (v := 22) hx hb dX2_advance_145 (by decide) ?_
          refine lv_goto (tgt := 154) hx hb dX2_advance_147 (by decide) ?_
          exact w2_advance_3 C hr  μ57 22 hf _ _ X _ (lv_sub hl [1] rfl)
      · replace hf := ifn c114 hf
        refine lv_aload_n hx hb dX2_advance_117 rfl (lv_at hl 0 rfl) ?_
        obtain ⟨μ118, g118, hf⟩ := bd1_e hf
        refine qX2_82 g118 C X hl.1 ((Nat.le_of_ble_eq_true rfl)) ⟨(Nat.le_of_ble_eq_true rfl), (Nat.le_of_ble_eq_true rfl)⟩ ⟨Nat.zero_le _, Nat.zero_le _⟩ dX2_advance_118 (fun H locs X => ?_)
        refine lv_goto (tgt := 167) hx hb dX2_advance_121 (by decide) ?_
        exact retV C X hr (Option.some.inj hf) rfl dX2_advance_167
    · replace hf := ifn c92 hf
      refine lv_aload_n hx hb dX2_advance_95 rfl (lv_at hl 0 rfl) ?_
      obtain ⟨μ96, g96, hf⟩ := bd1_e hf
      refine qX2_76 g96 C X hl.1 ((Nat.le_of_ble_eq_true rfl)) ⟨(Nat.le_of_ble_eq_true rfl), (Nat.le_of_ble_eq_true rfl)⟩ ⟨Nat.zero_le _, Nat.zero_le _⟩ dX2_advance_96 (fun H locs X => ?_)
      refine lv_goto (tgt := 167) hx hb dX2_advance_99 (by decide) ?_
      exact retV C X hr (Option.some.inj hf) rfl dX2_advance_167
  · replace hf := ifn c68 hf
    refine lv_aload_n hx hb dX2_advance_71 rfl (lv_at hl 0 rfl) ?_
    refine lv_bipush (v := 21) hx hb dX2_advance_72 (by decide) ?_
    obtain ⟨μ74, e74, hf⟩ := nm_e2 hf
    refine pfX2_48 e74 C X dX2_advance_74 (fun H locs X => ?_)
    refine lv_goto (tgt := 167) hx hb dX2_advance_77 (by decide) ?_
    exact retV C X hr (Option.some.inj hf) rfl dX2_advance_167
set_option maxRecDepth 100000 in
set_option maxHeartbeats 4000000 in
theorem w2_advance_1 {p : Program} {l : Launch} {e : Env} {s : State} {m : MethodId} {args : Array Value} {below : List Frame} {meth : Method} {c : Code} {D : va_G} {cy : Nat → ClassId} {ad : Nat → Nat} {μ1 : Mem} {ν : Lem} (C : Cx true p s m args meth c cX2_advance 2 RX2 D cy ad) (hr : meth.sig.returnType = none) : ∀ (n : Nat), ∀ (μ : Mem), f2_advance_1 n μ = some μ1 → ∀ (H : Heap) (locs : List Loc), Wd true D cy ad s.heap μ ν H locs → ∀ (ls : Array Slot), lv_has ls 2 [(0, .ref (ad 3))] → WV true p l e 11 267 s m args below meth c D cy ad μ1 ν H locs (F0 m 0 ls []) := by
  have hx := C.1.1
  have hb := C.1.2.1
  have hown := C.1.2.2.2.1
  have hts := C.1.2.2.2.2
  obtain ⟨z1, t1, z2, t2, z3, t3, z4, z5, ks, r1, r2⟩ := C.2.2.1.2 rfl
  intro n
  induction n with
  | zero =>
    intro μ hf H locs X ls hl
    rw [f2_advance_1] at hf
    cases hf
  | succ n ih =>
    intro μ hf H locs X ls hl
    rw [f2_advance_1] at hf
    refine lv_aload_n hx hb dX2_advance_0 rfl (lv_at hl 0 rfl) ?_
    refine gfX2_19 C X dX2_advance_1 ?_
    refine lv_aload_n hx hb dX2_advance_4 rfl (lv_at hl 0 rfl) ?_
    refine gfX2_15 C X dX2_advance_5 ?_
    refine lv_icmp_ge (tgt := 52) hx hb dX2_advance_8 (by decide) (fun c8 => ?_) (fun c8 => ?_)
    · replace hf := ifp c8 hf
      exact w2_advance_2 C hr  μ hf _ _ X _ (lv_sub hl [0] rfl)
    · replace hf := ifn c8 hf
      refine lv_aload_n hx hb dX2_advance_11 rfl (lv_at hl 0 rfl) ?_
      refine gfX2_9 C X dX2_advance_12 ?_
      refine lv_aload_n hx hb dX2_advance_15 rfl (lv_at hl 0 rfl) ?_
      refine gfX2_19 C X dX2_advance_16 ?_
      obtain ⟨h19, hf⟩ := gd_e hf
      refine rIald C X rfl h19 dX2_advance_19 ?_
      refine lv_bipush (v := 32) hx hb dX2_advance_20 (by decide) ?_
      refine lv_icmp_eq (tgt := 39) hx hb dX2_advance_22 (by decide) (fun c22 => ?_) (fun c22 => ?_)
      · replace hf := ifp c22 hf
        refine lv_aload_n hx hb dX2_advance_39 rfl (lv_at hl 0 rfl) ?_
        refine lv_dup hx hb dX2_advance_40 rfl ?_
        refine gfX2_19 C X dX2_advance_41 ?_
        refine lv_iconst (v := 1) hx hb dX2_advance_44 (by decide) ?_
        refine lv_iadd hx hb dX2_advance_45 ?_
        obtain ⟨μ46, e46, hf⟩ := nm_e2 hf
        refine pfX2_19 e46 C X dX2_advance_46 (fun H locs X => ?_)
        refine lv_goto (tgt := 0) hx hb dX2_advance_49 (by decide) ?_
        exact ih μ46 hf _ _ X _ (lv_sub hl [0] rfl)
      · replace hf := ifn c22 hf
        refine lv_aload_n hx hb dX2_advance_25 rfl (lv_at hl 0 rfl) ?_
        refine gfX2_9 C X dX2_advance_26 ?_
        refine lv_aload_n hx hb dX2_advance_29 rfl (lv_at hl 0 rfl) ?_
        refine gfX2_19 C X dX2_advance_30 ?_
        obtain ⟨h33, hf⟩ := gd_e hf
        refine rIald C X rfl h33 dX2_advance_33 ?_
        refine lv_bipush (v := 10) hx hb dX2_advance_34 (by decide) ?_
        refine lv_icmp_ne (tgt := 52) hx hb dX2_advance_36 (by decide) (fun c36 => ?_) (fun c36 => ?_)
        · replace hf := ifn c36 hf
          exact w2_advance_2 C hr  μ hf _ _ X _ (lv_sub hl [0] rfl)
        · replace hf := ifp c36 hf
          refine lv_aload_n hx hb dX2_advance_39 rfl (lv_at hl 0 rfl) ?_
          refine lv_dup hx hb dX2_advance_40 rfl ?_
          refine gfX2_19 C X dX2_advance_41 ?_
          refine lv_iconst (v := 1) hx hb dX2_advance_44 (by decide) ?_
          refine lv_iadd hx hb dX2_advance_45 ?_
          obtain ⟨μ46, e46, hf⟩ := nm_e2 hf
          refine pfX2_19 e46 C X dX2_advance_46 (fun H locs X => ?_)
          refine lv_goto (tgt := 0) hx hb dX2_advance_49 (by decide) ?_
          exact ih μ46 hf _ _ X _ (lv_sub hl [0] rfl)
set_option maxRecDepth 100000 in
set_option maxHeartbeats 4000000 in
theorem w2_advance {p : Program} {l : Launch} {e : Env} {s : State} {m : MethodId} {args : Array Value} {below : List Frame} {meth : Method} {c : Code} {D : va_G} {cy : Nat → ClassId} {ad : Nat → Nat} {μ1 : Mem} {ν : Lem} (C : Cx true p s m args meth c cX2_advance 2 RX2 D cy ad) (hr : meth.sig.returnType = none) : ∀ (μ : Mem), f2_advance μ = some μ1 → ∀ (H : Heap) (locs : List Loc), Wd true D cy ad s.heap μ ν H locs → ∀ (ls : Array Slot), lv_has ls 2 [(0, .ref (ad 3))] → WV true p l e 11 267 s m args below meth c D cy ad μ1 ν H locs (F0 m 0 ls []) := by
  have hx := C.1.1
  have hb := C.1.2.1
  have hown := C.1.2.2.2.1
  have hts := C.1.2.2.2.2
  obtain ⟨z1, t1, z2, t2, z3, t3, z4, z5, ks, r1, r2⟩ := C.2.2.1.2 rfl
  intro μ hf H locs X ls hl
  unfold f2_advance at hf
  exact w2_advance_1 C hr  FUEL μ hf _ _ X _ (lv_sub hl [0] rfl)
theorem ct2_advance {μ : Mem} {ν : Lem} {μ1 : Mem} (hg : f2_advance μ = some μ1) : CtV true yX2_advance cX2_advance 2 11 267 (fun ad => [.ref (ad 3)]) μ ν μ1 ν :=
  mkV (by decide) rfl (fun ad => Nat.le_of_ble_eq_true rfl) (fun p l e s m args below meth c D cy ad C hr X ls hl => w2_advance C hr μ hg _ _ X _ hl)
theorem qX2_34 {p : Program} {l : Launch} {e : Env} {R : Room} {s : State} {m : MethodId} {args : Array Value} {below : List Frame} {meth : Method} {c : Code} {H : Heap} {locs : List Loc} {cells slots : Nat} {Q : State → Prop} {A : Nat → Prop} {cc : ByteArray} {nL : Nat} {D : va_G} {cy : Nat → ClassId} {ad : Nat → Nat} {μ : Mem} {ν : Lem} {pc : Nat} {ls : Array Slot} {rest : List Value} {μ1 : Mem} (hg : f2_advance μ = some μ1) (C : CxA true A p s m args meth c cc nL RX2 D cy ad) (X : WdA true A D cy ad s.heap μ ν H locs) (hsz : ls.size = nL) (hrm : (rest.map fun v => v.category).sum ≤ 8) (hR : 11 + 1 ≤ R.frames ∧ 8 + (2 + 11) + 267 ≤ R.locals) (hcs : cells ≤ R.cells ∧ slots ≤ R.slots) (hd : decode cc pc = .ok (.invokevirtual 34, 3)) (kk : ∀ (H1 : Heap) (locs1 : List Loc), WdA true A D cy ad s.heap μ1 ν H1 locs1 → W p l e R s m args below meth c H1 locs1 cells slots Q (F0 m (pc + 3) ls rest)) : W p l e R s m args below meth c H locs cells slots Q (F0 m pc ls (.ref (ad 3) :: rest)) :=
  rCVV (As := []) (k := 3) (ct2_advance hg) ok2 lX2_advance k_290 rfl rfl rfl C X rfl hrm hsz hR hcs hd kk
set_option maxRecDepth 100000 in
set_option maxHeartbeats 4000000 in
theorem w2_refuse {p : Program} {l : Launch} {e : Env} {s : State} {m : MethodId} {args : Array Value} {below : List Frame} {meth : Method} {c : Code} {D : va_G} {cy : Nat → ClassId} {ad : Nat → Nat} {μ1 : Mem} {ν : Lem} (C : Cx true p s m args meth c cX2_refuse 1 RX2 D cy ad) (hr : meth.sig.returnType = none) : ∀ (μ : Mem), f2_refuse μ = μ1 → ∀ (H : Heap) (locs : List Loc), Wd true D cy ad s.heap μ ν H locs → ∀ (ls : Array Slot), lv_has ls 1 [(0, .ref (ad 3))] → WV true p l e 0 0 s m args below meth c D cy ad μ1 ν H locs (F0 m 0 ls []) := by
  have hx := C.1.1
  have hb := C.1.2.1
  have hown := C.1.2.2.2.1
  have hts := C.1.2.2.2.2
  intro μ hf H locs X ls hl
  unfold f2_refuse at hf
  refine lv_aload_n hx hb dX2_refuse_0 rfl (lv_at hl 0 rfl) ?_
  refine gfX2_22 C X dX2_refuse_1 ?_
  refine lv_iconst (v := (-1)) hx hb dX2_refuse_4 (by decide) ?_
  refine lv_icmp_ne (tgt := 16) hx hb dX2_refuse_5 (by decide) (fun c5 => ?_) (fun c5 => ?_)
  · replace hf := ifn c5 hf
    refine lv_aload_n hx hb dX2_refuse_16 rfl (lv_at hl 0 rfl) ?_
    refine lv_bipush (v := 22) hx hb dX2_refuse_17 (by decide) ?_
    obtain ⟨μ19, e19, hf⟩ := nm_e2 hf
    refine pfX2_48 e19 C X dX2_refuse_19 (fun H locs X => ?_)
    exact retV C X hr hf rfl dX2_refuse_22
  · replace hf := ifp c5 hf
    refine lv_aload_n hx hb dX2_refuse_8 rfl (lv_at hl 0 rfl) ?_
    refine lv_aload_n hx hb dX2_refuse_9 rfl (lv_at hl 0 rfl) ?_
    refine gfX2_54 C X dX2_refuse_10 ?_
    obtain ⟨μ13, e13, hf⟩ := nm_e2 hf
    refine pfX2_22 e13 C X dX2_refuse_13 (fun H locs X => ?_)
    refine lv_aload_n hx hb dX2_refuse_16 rfl (lv_at hl 0 rfl) ?_
    refine lv_bipush (v := 22) hx hb dX2_refuse_17 (by decide) ?_
    obtain ⟨μ19, e19, hf⟩ := nm_e2 hf
    refine pfX2_48 e19 C X dX2_refuse_19 (fun H locs X => ?_)
    exact retV C X hr hf rfl dX2_refuse_22
theorem ct2_refuse {μ : Mem} {ν : Lem} {μ1 : Mem} (hg : f2_refuse μ = μ1) : CtV true yX2_refuse cX2_refuse 1 0 0 (fun ad => [.ref (ad 3)]) μ ν μ1 ν :=
  mkV (by decide) rfl (fun ad => Nat.le_of_ble_eq_true rfl) (fun p l e s m args below meth c D cy ad C hr X ls hl => w2_refuse C hr μ hg _ _ X _ hl)
theorem qX2_51 {p : Program} {l : Launch} {e : Env} {R : Room} {s : State} {m : MethodId} {args : Array Value} {below : List Frame} {meth : Method} {c : Code} {H : Heap} {locs : List Loc} {cells slots : Nat} {Q : State → Prop} {A : Nat → Prop} {cc : ByteArray} {nL : Nat} {D : va_G} {cy : Nat → ClassId} {ad : Nat → Nat} {μ : Mem} {ν : Lem} {pc : Nat} {ls : Array Slot} {rest : List Value} {μ1 : Mem} (hg : f2_refuse μ = μ1) (C : CxA true A p s m args meth c cc nL RX2 D cy ad) (X : WdA true A D cy ad s.heap μ ν H locs) (hsz : ls.size = nL) (hrm : (rest.map fun v => v.category).sum ≤ 8) (hR : 0 + 1 ≤ R.frames ∧ 8 + (1 + 11) + 0 ≤ R.locals) (hcs : cells ≤ R.cells ∧ slots ≤ R.slots) (hd : decode cc pc = .ok (.invokevirtual 51, 3)) (kk : ∀ (H1 : Heap) (locs1 : List Loc), WdA true A D cy ad s.heap μ1 ν H1 locs1 → W p l e R s m args below meth c H1 locs1 cells slots Q (F0 m (pc + 3) ls rest)) : W p l e R s m args below meth c H locs cells slots Q (F0 m pc ls (.ref (ad 3) :: rest)) :=
  rCVV (As := []) (k := 3) (ct2_refuse hg) ok2 lX2_refuse k_423 rfl rfl rfl C X rfl hrm hsz hR hcs hd kk
set_option maxRecDepth 100000 in
set_option maxHeartbeats 4000000 in
theorem w2_expect {p : Program} {l : Launch} {e : Env} {s : State} {m : MethodId} {args : Array Value} {below : List Frame} {meth : Method} {c : Code} {D : va_G} {cy : Nat → ClassId} {ad : Nat → Nat} {μ1 : Mem} {ν : Lem} (C : Cx true p s m args meth c cX2_expect 2 RX2 D cy ad) (hr : meth.sig.returnType = none) : ∀ (μ : Mem) (x1 : Int32), f2_expect μ x1 = some μ1 → ∀ (H : Heap) (locs : List Loc), Wd true D cy ad s.heap μ ν H locs → ∀ (ls : Array Slot), lv_has ls 2 [(0, .ref (ad 3)), (1, .int x1)] → WV true p l e 12 288 s m args below meth c D cy ad μ1 ν H locs (F0 m 0 ls []) := by
  have hx := C.1.1
  have hb := C.1.2.1
  have hown := C.1.2.2.2.1
  have hts := C.1.2.2.2.2
  intro μ x1 hf H locs X ls hl
  unfold f2_expect at hf
  refine lv_aload_n hx hb dX2_expect_0 rfl (lv_at hl 0 rfl) ?_
  refine gfX2_48 C X dX2_expect_1 ?_
  refine lv_iload_n hx hb dX2_expect_4 rfl (lv_at hl 1 rfl) ?_
  refine lv_icmp_ne (tgt := 15) hx hb dX2_expect_5 (by decide) (fun c5 => ?_) (fun c5 => ?_)
  · replace hf := ifn c5 hf
    refine lv_aload_n hx hb dX2_expect_15 rfl (lv_at hl 0 rfl) ?_
    obtain ⟨μ16, g16, hf⟩ := nm_e2 hf
    refine qX2_51 g16.symm C X hl.1 ((Nat.le_of_ble_eq_true rfl)) ⟨(Nat.le_of_ble_eq_true rfl), (Nat.le_of_ble_eq_true rfl)⟩ ⟨Nat.zero_le _, Nat.zero_le _⟩ dX2_expect_16 (fun H locs X => ?_)
    exact retV C X hr (Option.some.inj hf) rfl dX2_expect_19
  · replace hf := ifp c5 hf
    refine lv_aload_n hx hb dX2_expect_8 rfl (lv_at hl 0 rfl) ?_
    obtain ⟨μ9, g9, hf⟩ := bd1_e hf
    refine qX2_34 g9 C X hl.1 ((Nat.le_of_ble_eq_true rfl)) ⟨(Nat.le_of_ble_eq_true rfl), (Nat.le_of_ble_eq_true rfl)⟩ ⟨Nat.zero_le _, Nat.zero_le _⟩ dX2_expect_9 (fun H locs X => ?_)
    refine lv_goto (tgt := 19) hx hb dX2_expect_12 (by decide) ?_
    exact retV C X hr (Option.some.inj hf) rfl dX2_expect_19
theorem ct2_expect {x1 : Int32} {μ : Mem} {ν : Lem} {μ1 : Mem} (hg : f2_expect μ x1 = some μ1) : CtV true yX2_expect cX2_expect 2 12 288 (fun ad => [.ref (ad 3), .int x1]) μ ν μ1 ν :=
  mkV (by decide) rfl (fun ad => Nat.le_of_ble_eq_true rfl) (fun p l e s m args below meth c D cy ad C hr X ls hl => w2_expect C hr μ x1 hg _ _ X _ hl)
theorem qX2_37 {p : Program} {l : Launch} {e : Env} {R : Room} {s : State} {m : MethodId} {args : Array Value} {below : List Frame} {meth : Method} {c : Code} {H : Heap} {locs : List Loc} {cells slots : Nat} {Q : State → Prop} {A : Nat → Prop} {cc : ByteArray} {nL : Nat} {D : va_G} {cy : Nat → ClassId} {ad : Nat → Nat} {μ : Mem} {ν : Lem} {pc : Nat} {ls : Array Slot} {rest : List Value} {x1 : Int32} {μ1 : Mem} (hg : f2_expect μ x1 = some μ1) (C : CxA true A p s m args meth c cc nL RX2 D cy ad) (X : WdA true A D cy ad s.heap μ ν H locs) (hsz : ls.size = nL) (hrm : (rest.map fun v => v.category).sum ≤ 8) (hR : 12 + 1 ≤ R.frames ∧ 8 + (2 + 11) + 288 ≤ R.locals) (hcs : cells ≤ R.cells ∧ slots ≤ R.slots) (hd : decode cc pc = .ok (.invokevirtual 37, 3)) (kk : ∀ (H1 : Heap) (locs1 : List Loc), WdA true A D cy ad s.heap μ1 ν H1 locs1 → W p l e R s m args below meth c H1 locs1 cells slots Q (F0 m (pc + 3) ls rest)) : W p l e R s m args below meth c H locs cells slots Q (F0 m pc ls (.int x1 :: .ref (ad 3) :: rest)) :=
  rCVV (As := [.int x1]) (k := 3) (ct2_expect hg) ok2 lX2_expect k_419 rfl rfl rfl C X rfl hrm hsz hR hcs hd kk
set_option maxRecDepth 100000 in
set_option maxHeartbeats 4000000 in
theorem w3_put {p : Program} {l : Launch} {e : Env} {s : State} {m : MethodId} {args : Array Value} {below : List Frame} {meth : Method} {c : Code} {D : va_G} {cy : Nat → ClassId} {ad : Nat → Nat} {μ1 : Mem} {ν : Lem} (C : Cx true p s m args meth c cX3_put 2 RX3 D cy ad) (hr : meth.sig.returnType = none) : ∀ (μ : Mem) (t : Nat) (x1 : Int32) (ht : t < 6), f3_put μ t x1 = some μ1 → ∀ (H : Heap) (locs : List Loc), Wd true D cy ad s.heap μ ν H locs → ∀ (ls : Array Slot), lv_has ls 2 [(0, .ref (ad (53 + 3 * t))), (1, .int x1)] → WV true p l e 0 0 s m args below meth c D cy ad μ1 ν H locs (F0 m 0 ls []) := by
  have hx := C.1.1
  have hb := C.1.2.1
  have hown := C.1.2.2.2.1
  have hts := C.1.2.2.2.2
  intro μ t x1 ht hf H locs X ls hl
  unfold f3_put at hf
  refine lv_aload_n hx hb dX3_put_0 rfl (lv_at hl 0 rfl) ?_
  refine gfX3_18 (t := t) ht rfl C X dX3_put_1 ?_
  refine lv_sipush (v := 160) hx hb dX3_put_4 (by decide) ?_
  refine lv_icmp_ge (tgt := 30) hx hb dX3_put_7 (by decide) (fun c7 => ?_) (fun c7 => ?_)
  · replace hf := ifp c7 hf
    exact retV C X hr (Option.some.inj hf) rfl dX3_put_30
  · replace hf := ifn c7 hf
    refine lv_aload_n hx hb dX3_put_10 rfl (lv_at hl 0 rfl) ?_
    refine gfX3_9 (t := t) ht rfl (k2 := (54 + 3 * t)) rfl C X dX3_put_11 ?_
    refine lv_aload_n hx hb dX3_put_14 rfl (lv_at hl 0 rfl) ?_
    refine gfX3_18 (t := t) ht rfl C X dX3_put_15 ?_
    refine lv_iload_n hx hb dX3_put_18 rfl (lv_at hl 1 rfl) ?_
    obtain ⟨h19, hf⟩ := gd_e hf
    obtain ⟨μ19, e19, hf⟩ := nm_e2 hf
    refine rIast2 C X (sTc ht) h19 e19 dX3_put_19 (fun H locs X => ?_)
    refine lv_aload_n hx hb dX3_put_20 rfl (lv_at hl 0 rfl) ?_
    refine lv_dup hx hb dX3_put_21 rfl ?_
    refine gfX3_18 (t := t) ht rfl C X dX3_put_22 ?_
    refine lv_iconst (v := 1) hx hb dX3_put_25 (by decide) ?_
    refine lv_iadd hx hb dX3_put_26 ?_
    obtain ⟨μ27, e27, hf⟩ := nm_e2 hf
    refine pfX3_18 (t := t) ht rfl e27 C X dX3_put_27 (fun H locs X => ?_)
    exact retV C X hr (Option.some.inj hf) rfl dX3_put_30
theorem ct3_put {t : Nat} {x1 : Int32} (ht : t < 6) {μ : Mem} {ν : Lem} {μ1 : Mem} (hg : f3_put μ t x1 = some μ1) : CtV true yX3_put cX3_put 2 0 0 (fun ad => [.ref (ad (53 + 3 * t)), .int x1]) μ ν μ1 ν :=
  mkV (by decide) rfl (fun ad => Nat.le_of_ble_eq_true rfl) (fun p l e s m args below meth c D cy ad C hr X ls hl => w3_put C hr μ t x1 ht hg _ _ X _ hl)
theorem qX3_25 {p : Program} {l : Launch} {e : Env} {R : Room} {s : State} {m : MethodId} {args : Array Value} {below : List Frame} {meth : Method} {c : Code} {H : Heap} {locs : List Loc} {cells slots : Nat} {Q : State → Prop} {A : Nat → Prop} {cc : ByteArray} {nL : Nat} {D : va_G} {cy : Nat → ClassId} {ad : Nat → Nat} {μ : Mem} {ν : Lem} {pc : Nat} {ls : Array Slot} {rest : List Value} {t : Nat} {x1 : Int32} (ht : t < 6) {μ1 : Mem} (hg : f3_put μ t x1 = some μ1) (C : CxA true A p s m args meth c cc nL RX3 D cy ad) (X : WdA true A D cy ad s.heap μ ν H locs) (hsz : ls.size = nL) (hrm : (rest.map fun v => v.category).sum ≤ 8) (hR : 0 + 1 ≤ R.frames ∧ 8 + (2 + 11) + 0 ≤ R.locals) (hcs : cells ≤ R.cells ∧ slots ≤ R.slots) (hd : decode cc pc = .ok (.invokevirtual 25, 3)) (kk : ∀ (H1 : Heap) (locs1 : List Loc), WdA true A D cy ad s.heap μ1 ν H1 locs1 → W p l e R s m args below meth c H1 locs1 cells slots Q (F0 m (pc + 3) ls rest)) : W p l e R s m args below meth c H locs cells slots Q (F0 m pc ls (.int x1 :: .ref (ad (53 + 3 * t)) :: rest)) :=
  rCVV (As := [.int x1]) (k := 53 + 3 * t) (ct3_put ht hg) ok3 lX3_put k_156 (sT ht) rfl rfl C X rfl hrm hsz hR hcs hd kk
theorem qX2_57 {p : Program} {l : Launch} {e : Env} {R : Room} {s : State} {m : MethodId} {args : Array Value} {below : List Frame} {meth : Method} {c : Code} {H : Heap} {locs : List Loc} {cells slots : Nat} {Q : State → Prop} {A : Nat → Prop} {cc : ByteArray} {nL : Nat} {D : va_G} {cy : Nat → ClassId} {ad : Nat → Nat} {μ : Mem} {ν : Lem} {pc : Nat} {ls : Array Slot} {rest : List Value} {t : Nat} {x1 : Int32} (ht : t < 6) {μ1 : Mem} (hg : f3_put μ t x1 = some μ1) (C : CxA true A p s m args meth c cc nL RX2 D cy ad) (X : WdA true A D cy ad s.heap μ ν H locs) (hsz : ls.size = nL) (hrm : (rest.map fun v => v.category).sum ≤ 8) (hR : 0 + 1 ≤ R.frames ∧ 8 + (2 + 11) + 0 ≤ R.locals) (hcs : cells ≤ R.cells ∧ slots ≤ R.slots) (hd : decode cc pc = .ok (.invokevirtual 57, 3)) (kk : ∀ (H1 : Heap) (locs1 : List Loc), WdA true A D cy ad s.heap μ1 ν H1 locs1 → W p l e R s m args below meth c H1 locs1 cells slots Q (F0 m (pc + 3) ls rest)) : W p l e R s m args below meth c H locs cells slots Q (F0 m pc ls (.int x1 :: .ref (ad (53 + 3 * t)) :: rest)) :=
  rCVV (As := [.int x1]) (k := 53 + 3 * t) (ct3_put ht hg) ok3 lX3_put k_439 (sT ht) rfl rfl C X rfl hrm hsz hR hcs hd kk
