set_option maxRecDepth 100000 in
set_option maxHeartbeats 4000000 in
theorem w2_emit {p : Program} {l : Launch} {e : Env} {s : State} {m : MethodId} {args : Array Value} {below : List Frame} {meth : Method} {c : Code} {D : va_G} {cy : Nat → ClassId} {ad : Nat → Nat} {μ1 : Mem} {ν : Lem} (C : Cx true p s m args meth c cX2_emit 2 RX2 D cy ad) (hr : meth.sig.returnType = none) : ∀ (μ : Mem) (x1 : Int32), f2_emit μ x1 = some μ1 → ∀ (H : Heap) (locs : List Loc), Wd true D cy ad s.heap μ ν H locs → ∀ (ls : Array Slot), lv_has ls 2 [(0, .ref (ad 3)), (1, .int x1)] → WV true p l e 1 21 s m args below meth c D cy ad μ1 ν H locs (F0 m 0 ls []) := by
  have hx := C.1.1
  have hb := C.1.2.1
  have hown := C.1.2.2.2.1
  have hts := C.1.2.2.2.2
  intro μ x1 hf H locs X ls hl
  unfold f2_emit at hf
  refine lv_aload_n hx hb dX2_emit_0 rfl (lv_at hl 0 rfl) ?_
  obtain ⟨h1, hf⟩ := gd_e hf
  refine gfX2_25 h1.1 C X dX2_emit_1 ?_
  refine lv_ifnull hx hb dX2_emit_4 ?_
  refine lv_aload_n hx hb dX2_emit_7 rfl (lv_at hl 0 rfl) ?_
  obtain ⟨h8, hf⟩ := gd_e hf
  refine gfX2_25 h8.1 C X dX2_emit_8 ?_
  refine lv_iload_n hx hb dX2_emit_11 rfl (lv_at hl 1 rfl) ?_
  obtain ⟨μ12, g12, hf⟩ := bd1_e hf
  refine qX2_57 (t := ((μ 3 7).toNatClampNeg - 1)) h8.2 g12 C X hl.1 ((Nat.le_of_ble_eq_true rfl)) ⟨(Nat.le_of_ble_eq_true rfl), (Nat.le_of_ble_eq_true rfl)⟩ ⟨Nat.zero_le _, Nat.zero_le _⟩ dX2_emit_12 (fun H locs X => ?_)
  exact retV C X hr (Option.some.inj hf) rfl dX2_emit_15
theorem ct2_emit {x1 : Int32} {μ : Mem} {ν : Lem} {μ1 : Mem} (hg : f2_emit μ x1 = some μ1) : CtV true yX2_emit cX2_emit 2 1 21 (fun ad => [.ref (ad 3), .int x1]) μ ν μ1 ν :=
  mkV (by decide) rfl (fun ad => Nat.le_of_ble_eq_true rfl) (fun p l e s m args below meth c D cy ad C hr X ls hl => w2_emit C hr μ x1 hg _ _ X _ hl)
theorem qX2_63 {p : Program} {l : Launch} {e : Env} {R : Room} {s : State} {m : MethodId} {args : Array Value} {below : List Frame} {meth : Method} {c : Code} {H : Heap} {locs : List Loc} {cells slots : Nat} {Q : State → Prop} {A : Nat → Prop} {cc : ByteArray} {nL : Nat} {D : va_G} {cy : Nat → ClassId} {ad : Nat → Nat} {μ : Mem} {ν : Lem} {pc : Nat} {ls : Array Slot} {rest : List Value} {x1 : Int32} {μ1 : Mem} (hg : f2_emit μ x1 = some μ1) (C : CxA true A p s m args meth c cc nL RX2 D cy ad) (X : WdA true A D cy ad s.heap μ ν H locs) (hsz : ls.size = nL) (hrm : (rest.map fun v => v.category).sum ≤ 8) (hR : 1 + 1 ≤ R.frames ∧ 8 + (2 + 11) + 21 ≤ R.locals) (hcs : cells ≤ R.cells ∧ slots ≤ R.slots) (hd : decode cc pc = .ok (.invokevirtual 63, 3)) (kk : ∀ (H1 : Heap) (locs1 : List Loc), WdA true A D cy ad s.heap μ1 ν H1 locs1 → W p l e R s m args below meth c H1 locs1 cells slots Q (F0 m (pc + 3) ls rest)) : W p l e R s m args below meth c H locs cells slots Q (F0 m pc ls (.int x1 :: .ref (ad 3) :: rest)) :=
  rCVV (As := [.int x1]) (k := 3) (ct2_emit hg) ok2 lX2_emit k_435 rfl rfl rfl C X rfl hrm hsz hR hcs hd kk
theorem qrX2_41 {p : Program} {l : Launch} {e : Env} {R : Room} {s : State} {m : MethodId} {args : Array Value} {below : List Frame} {meth : Method} {c : Code} {H : Heap} {locs : List Loc} {cells slots : Nat} {Q : State → Prop} {A : Nat → Prop} {cc : ByteArray} {nL : Nat} {D : va_G} {cy : Nat → ClassId} {ad : Nat → Nat} {μ : Mem} {ν : Lem} {pc : Nat} {ls : Array Slot} {rest : List Value} {P : Mem → Int32 → Int32 → Option Mem} {FR LO : Nat} (hP : ∀ (ν : Lem) (μ : Mem) (a b : Int32) (μ2 : Mem), P μ a b = some μ2 → CtV true yX2_phrase cX2_phrase 6 FR LO (fun ad => [.ref (ad 3), .int a, .int b]) μ ν μ2 ν) {x1 x2 : Int32} {μ1 : Mem} (hg : P μ x1 x2 = some μ1) (C : CxA true A p s m args meth c cc nL RX2 D cy ad) (X : WdA true A D cy ad s.heap μ ν H locs) (hsz : ls.size = nL) (hrm : (rest.map fun v => v.category).sum ≤ 8) (hR : FR + 1 ≤ R.frames ∧ 8 + (6 + 11) + LO ≤ R.locals) (hcs : cells ≤ R.cells ∧ slots ≤ R.slots) (hd : decode cc pc = .ok (.invokevirtual 41, 3)) (kk : ∀ (H1 : Heap) (locs1 : List Loc), WdA true A D cy ad s.heap μ1 ν H1 locs1 → W p l e R s m args below meth c H1 locs1 cells slots Q (F0 m (pc + 3) ls rest)) : W p l e R s m args below meth c H locs cells slots Q (F0 m pc ls (.int x2 :: .int x1 :: .ref (ad 3) :: rest)) :=
  rCVV (As := [.int x1, .int x2]) (k := 3) (hP ν μ x1 x2 μ1 hg) ok2 lX2_phrase k_427 rfl rfl rfl C X rfl hrm hsz hR hcs hd kk
set_option maxRecDepth 100000 in
set_option maxHeartbeats 4000000 in
theorem w2_one_5 {p : Program} {l : Launch} {e : Env} {s : State} {m : MethodId} {args : Array Value} {below : List Frame} {meth : Method} {c : Code} {D : va_G} {cy : Nat → ClassId} {ad : Nat → Nat} {μ1 : Mem} {ν : Lem} {P : Mem → Int32 → Int32 → Option Mem} {FR LO : Nat} (hP : ∀ (ν : Lem) (μ : Mem) (a b : Int32) (μ2 : Mem), P μ a b = some μ2 → CtV true yX2_phrase cX2_phrase 6 FR LO (fun ad => [.ref (ad 3), .int a, .int b]) μ ν μ2 ν) (hFR : 12 ≤ FR) (hLO : 400 ≤ LO) (C : Cx true p s m args meth c cX2_one 5 RX2 D cy ad) (hr : meth.sig.returnType = none) : ∀ (μ : Mem) (x1 : Int32) (x2 : Int32) (x3 : Int32) (t0 : Int32), f2_one_5 P μ x1 x2 x3 t0 = some μ1 → ∀ (H : Heap) (locs : List Loc), Wd true D cy ad s.heap μ ν H locs → ∀ (ls : Array Slot), lv_has ls 5 [(0, .ref (ad 3)), (1, .int x1), (2, .int x2), (3, .int x3)] → WV true p l e (FR + 1) (LO + 25) s m args below meth c D cy ad μ1 ν H locs (F0 m 65 ls [.int t0]) := by
  have hx := C.1.1
  have hb := C.1.2.1
  have hown := C.1.2.2.2.1
  have hts := C.1.2.2.2.2
  intro μ x1 x2 x3 t0 hf H locs X ls hl
  unfold f2_one_5 at hf
  refine lv_istore (lv' := [(4, .int t0), (0, .ref (ad 3)), (1, .int x1), (2, .int x2), (3, .int x3)]) hx hb dX2_one_65 hl (by decide) rfl (fun ls hl => ?_)
  refine lv_aload_n hx hb dX2_one_67 rfl (lv_at hl 1 rfl) ?_
  obtain ⟨μ68, g68, hf⟩ := bd1_e hf
  refine qX2_34 g68 C X hl.1 ((Nat.le_of_ble_eq_true rfl)) ⟨(by show _ ≤ FR + 1; omega), (by show _ ≤ LO + 25; omega)⟩ ⟨Nat.zero_le _, Nat.zero_le _⟩ dX2_one_68 (fun H locs X => ?_)
  refine lv_iload_n hx hb dX2_one_71 rfl (lv_at hl 4 rfl) ?_
  refine lv_if_ne (tgt := 84) hx hb dX2_one_72 (by decide) (fun c72 => ?_) (fun c72 => ?_)
  · replace hf := ifn c72 hf
    refine lv_iload_n hx hb dX2_one_84 rfl (lv_at hl 3 rfl) ?_
    refine lv_bipush (v := 16) hx hb dX2_one_85 (by decide) ?_
    refine lv_icmp_ne (tgt := 107) hx hb dX2_one_87 (by decide) (fun c87 => ?_) (fun c87 => ?_)
    · replace hf := ifn c87 hf
      refine lv_aload_n hx hb dX2_one_107 rfl (lv_at hl 1 rfl) ?_
      refine lv_iconst (v := 0) hx hb dX2_one_108 (by decide) ?_
      refine lv_iload_n hx hb dX2_one_109 rfl (lv_at hl 2 rfl) ?_
      refine lv_iconst (v := 1) hx hb dX2_one_110 (by decide) ?_
      refine lv_iadd hx hb dX2_one_111 ?_
      obtain ⟨μ112, g112, hf⟩ := bd1_e hf
      refine qrX2_41 hP g112 C X hl.1 ((Nat.le_of_ble_eq_true rfl)) ⟨(by show _ ≤ FR + 1; omega), (by show _ ≤ LO + 25; omega)⟩ ⟨Nat.zero_le _, Nat.zero_le _⟩ dX2_one_112 (fun H locs X => ?_)
      refine lv_aload_n hx hb dX2_one_115 rfl (lv_at hl 1 rfl) ?_
      refine lv_bipush (v := 13) hx hb dX2_one_116 (by decide) ?_
      obtain ⟨μ118, g118, hf⟩ := bd1_e hf
      refine qX2_37 g118 C X hl.1 ((Nat.le_of_ble_eq_true rfl)) ⟨(by show _ ≤ FR + 1; omega), (by show _ ≤ LO + 25; omega)⟩ ⟨Nat.zero_le _, Nat.zero_le _⟩ dX2_one_118 (fun H locs X => ?_)
      exact retV C X hr (Option.some.inj hf) rfl dX2_one_121
    · replace hf := ifp c87 hf
      refine lv_aload_n hx hb dX2_one_90 rfl (lv_at hl 1 rfl) ?_
      refine lv_iconst (v := 5) hx hb dX2_one_91 (by decide) ?_
      refine lv_iload_n hx hb dX2_one_92 rfl (lv_at hl 2 rfl) ?_
      refine lv_iconst (v := 1) hx hb dX2_one_93 (by decide) ?_
      refine lv_iadd hx hb dX2_one_94 ?_
      obtain ⟨μ95, g95, hf⟩ := bd1_e hf
      refine qrX2_41 hP g95 C X hl.1 ((Nat.le_of_ble_eq_true rfl)) ⟨(by show _ ≤ FR + 1; omega), (by show _ ≤ LO + 25; omega)⟩ ⟨Nat.zero_le _, Nat.zero_le _⟩ dX2_one_95 (fun H locs X => ?_)
      refine lv_aload_n hx hb dX2_one_98 rfl (lv_at hl 1 rfl) ?_
      refine lv_bipush (v := (-24)) hx hb dX2_one_99 (by decide) ?_
      obtain ⟨μ101, g101, hf⟩ := bd1_e hf
      refine qX2_63 g101 C X hl.1 ((Nat.le_of_ble_eq_true rfl)) ⟨(by show _ ≤ FR + 1; omega), (by show _ ≤ LO + 25; omega)⟩ ⟨Nat.zero_le _, Nat.zero_le _⟩ dX2_one_101 (fun H locs X => ?_)
      refine lv_goto (tgt := 121) hx hb dX2_one_104 (by decide) ?_
      exact retV C X hr (Option.some.inj hf) rfl dX2_one_121
  · replace hf := ifp c72 hf
    refine lv_aload_n hx hb dX2_one_75 rfl (lv_at hl 1 rfl) ?_
    refine lv_iload hx hb dX2_one_76 (lv_at hl 0 rfl) ?_
    obtain ⟨μ78, g78, hf⟩ := bd1_e hf
    refine qX2_63 g78 C X hl.1 ((Nat.le_of_ble_eq_true rfl)) ⟨(by show _ ≤ FR + 1; omega), (by show _ ≤ LO + 25; omega)⟩ ⟨Nat.zero_le _, Nat.zero_le _⟩ dX2_one_78 (fun H locs X => ?_)
    refine lv_goto (tgt := 121) hx hb dX2_one_81 (by decide) ?_
    exact retV C X hr (Option.some.inj hf) rfl dX2_one_121
set_option maxRecDepth 100000 in
set_option maxHeartbeats 4000000 in
theorem w2_one_4 {p : Program} {l : Launch} {e : Env} {s : State} {m : MethodId} {args : Array Value} {below : List Frame} {meth : Method} {c : Code} {D : va_G} {cy : Nat → ClassId} {ad : Nat → Nat} {μ1 : Mem} {ν : Lem} {P : Mem → Int32 → Int32 → Option Mem} {FR LO : Nat} (hP : ∀ (ν : Lem) (μ : Mem) (a b : Int32) (μ2 : Mem), P μ a b = some μ2 → CtV true yX2_phrase cX2_phrase 6 FR LO (fun ad => [.ref (ad 3), .int a, .int b]) μ ν μ2 ν) (hFR : 12 ≤ FR) (hLO : 400 ≤ LO) (C : Cx true p s m args meth c cX2_one 5 RX2 D cy ad) (hr : meth.sig.returnType = none) : ∀ (μ : Mem) (x1 : Int32) (x2 : Int32) (x3 : Int32), f2_one_4 P μ x1 x2 x3 = some μ1 → ∀ (H : Heap) (locs : List Loc), Wd true D cy ad s.heap μ ν H locs → ∀ (ls : Array Slot), lv_has ls 5 [(0, .ref (ad 3)), (1, .int x1), (2, .int x2), (3, .int x3)] → WV true p l e (FR + 1) (LO + 25) s m args below meth c D cy ad μ1 ν H locs (F0 m 49 ls []) := by
  have hx := C.1.1
  have hb := C.1.2.1
  have hown := C.1.2.2.2.1
  have hts := C.1.2.2.2.2
  intro μ x1 x2 x3 hf H locs X ls hl
  unfold f2_one_4 at hf
  refine lv_iload_n hx hb dX2_one_49 rfl (lv_at hl 2 rfl) ?_
  refine lv_bipush (v := 20) hx hb dX2_one_50 (by decide) ?_
  refine lv_icmp_ne (tgt := 62) hx hb dX2_one_52 (by decide) (fun c52 => ?_) (fun c52 => ?_)
  · replace hf := ifn c52 hf
    refine lv_iload_n hx hb dX2_one_62 rfl (lv_at hl 2 rfl) ?_
    refine lv_iconst (v := (-1)) hx hb dX2_one_63 (by decide) ?_
    refine lv_ixor hx hb dX2_one_64 ?_
    exact w2_one_5 hP hFR hLO C hr  μ x1 x2 x3 (x2 ^^^ (-1)) hf _ _ X _ (lv_sub hl [0, 1, 2, 3] rfl)
  · replace hf := ifp c52 hf
    refine lv_aload_n hx hb dX2_one_55 rfl (lv_at hl 0 rfl) ?_
    refine gfX2_70 C X dX2_one_56 ?_
    refine lv_goto (tgt := 65) hx hb dX2_one_59 (by decide) ?_
    exact w2_one_5 hP hFR hLO C hr  μ x1 x2 x3 (μ 3 5) hf _ _ X _ (lv_sub hl [0, 1, 2, 3] rfl)
set_option maxRecDepth 100000 in
set_option maxHeartbeats 4000000 in
theorem w2_one_3 {p : Program} {l : Launch} {e : Env} {s : State} {m : MethodId} {args : Array Value} {below : List Frame} {meth : Method} {c : Code} {D : va_G} {cy : Nat → ClassId} {ad : Nat → Nat} {μ1 : Mem} {ν : Lem} {P : Mem → Int32 → Int32 → Option Mem} {FR LO : Nat} (hP : ∀ (ν : Lem) (μ : Mem) (a b : Int32) (μ2 : Mem), P μ a b = some μ2 → CtV true yX2_phrase cX2_phrase 6 FR LO (fun ad => [.ref (ad 3), .int a, .int b]) μ ν μ2 ν) (hFR : 12 ≤ FR) (hLO : 400 ≤ LO) (C : Cx true p s m args meth c cX2_one 5 RX2 D cy ad) (hr : meth.sig.returnType = none) : ∀ (μ : Mem) (x1 : Int32) (x2 : Int32) (t0 : Int32), f2_one_3 P μ x1 x2 t0 = some μ1 → ∀ (H : Heap) (locs : List Loc), Wd true D cy ad s.heap μ ν H locs → ∀ (ls : Array Slot), lv_has ls 5 [(0, .ref (ad 3)), (1, .int x1), (2, .int x2)] → WV true p l e (FR + 1) (LO + 25) s m args below meth c D cy ad μ1 ν H locs (F0 m 27 ls [.int t0]) := by
  have hx := C.1.1
  have hb := C.1.2.1
  have hown := C.1.2.2.2.1
  have hts := C.1.2.2.2.2
  intro μ x1 x2 t0 hf H locs X ls hl
  unfold f2_one_3 at hf
  refine lv_istore_n (lv' := [(3, .int t0), (0, .ref (ad 3)), (1, .int x1), (2, .int x2)]) hx hb dX2_one_27 rfl hl (by decide) rfl (fun ls hl => ?_)
  refine lv_iload_n hx hb dX2_one_28 rfl (lv_at hl 0 rfl) ?_
  refine lv_if_ne (tgt := 49) hx hb dX2_one_29 (by decide) (fun c29 => ?_) (fun c29 => ?_)
  · replace hf := ifn c29 hf
    exact w2_one_4 hP hFR hLO C hr  μ x1 x2 t0 hf _ _ X _ (lv_sub hl [1, 2, 3, 0] rfl)
  · replace hf := ifp c29 hf
    refine lv_iload_n hx hb dX2_one_32 rfl (lv_at hl 3 rfl) ?_
    refine lv_bipush (v := 20) hx hb dX2_one_33 (by decide) ?_
    refine lv_icmp_eq (tgt := 49) hx hb dX2_one_35 (by decide) (fun c35 => ?_) (fun c35 => ?_)
    · replace hf := ifp c35 hf
      exact w2_one_4 hP hFR hLO C hr  μ x1 x2 t0 hf _ _ X _ (lv_sub hl [1, 2, 3, 0] rfl)
    · replace hf := ifn c35 hf
      refine lv_iload_n hx hb dX2_one_38 rfl (lv_at hl 3 rfl) ?_
      refine lv_bipush (v := 6) hx hb dX2_one_39 (by decide) ?_
      refine lv_icmp_lt (tgt := 49) hx hb dX2_one_41 (by decide) (fun c41 => ?_) (fun c41 => ?_)
      · replace hf := ifp c41 hf
        exact w2_one_4 hP hFR hLO C hr  μ x1 x2 t0 hf _ _ X _ (lv_sub hl [1, 2, 3, 0] rfl)
      · replace hf := ifn c41 hf
        refine lv_aload_n hx hb dX2_one_44 rfl (lv_at hl 1 rfl) ?_
        obtain ⟨μ45, g45, hf⟩ := nm_e2 hf
        refine qX2_51 g45.symm C X hl.1 ((Nat.le_of_ble_eq_true rfl)) ⟨(by show _ ≤ FR + 1; omega), (by show _ ≤ LO + 25; omega)⟩ ⟨Nat.zero_le _, Nat.zero_le _⟩ dX2_one_45 (fun H locs X => ?_)
        exact retV C X hr (Option.some.inj hf) rfl dX2_one_48
set_option maxRecDepth 100000 in
set_option maxHeartbeats 4000000 in
theorem w2_one_2 {p : Program} {l : Launch} {e : Env} {s : State} {m : MethodId} {args : Array Value} {below : List Frame} {meth : Method} {c : Code} {D : va_G} {cy : Nat → ClassId} {ad : Nat → Nat} {μ1 : Mem} {ν : Lem} {P : Mem → Int32 → Int32 → Option Mem} {FR LO : Nat} (hP : ∀ (ν : Lem) (μ : Mem) (a b : Int32) (μ2 : Mem), P μ a b = some μ2 → CtV true yX2_phrase cX2_phrase 6 FR LO (fun ad => [.ref (ad 3), .int a, .int b]) μ ν μ2 ν) (hFR : 12 ≤ FR) (hLO : 400 ≤ LO) (C : Cx true p s m args meth c cX2_one 5 RX2 D cy ad) (hr : meth.sig.returnType = none) : ∀ (μ : Mem) (x1 : Int32) (x2 : Int32), f2_one_2 P μ x1 x2 = some μ1 → ∀ (H : Heap) (locs : List Loc), Wd true D cy ad s.heap μ ν H locs → ∀ (ls : Array Slot), lv_has ls 5 [(0, .ref (ad 3)), (1, .int x1), (2, .int x2)] → WV true p l e (FR + 1) (LO + 25) s m args below meth c D cy ad μ1 ν H locs (F0 m 26 ls []) := by
  have hx := C.1.1
  have hb := C.1.2.1
  have hown := C.1.2.2.2.1
  have hts := C.1.2.2.2.2
  intro μ x1 x2 hf H locs X ls hl
  unfold f2_one_2 at hf
  refine lv_iconst (v := 0) hx hb dX2_one_26 (by decide) ?_
  exact w2_one_3 hP hFR hLO C hr  μ x1 x2 0 hf _ _ X _ (lv_sub hl [0, 1, 2] rfl)
set_option maxRecDepth 100000 in
set_option maxHeartbeats 4000000 in
theorem w2_one_1 {p : Program} {l : Launch} {e : Env} {s : State} {m : MethodId} {args : Array Value} {below : List Frame} {meth : Method} {c : Code} {D : va_G} {cy : Nat → ClassId} {ad : Nat → Nat} {μ1 : Mem} {ν : Lem} {P : Mem → Int32 → Int32 → Option Mem} {FR LO : Nat} (hP : ∀ (ν : Lem) (μ : Mem) (a b : Int32) (μ2 : Mem), P μ a b = some μ2 → CtV true yX2_phrase cX2_phrase 6 FR LO (fun ad => [.ref (ad 3), .int a, .int b]) μ ν μ2 ν) (hFR : 12 ≤ FR) (hLO : 400 ≤ LO) (C : Cx true p s m args meth c cX2_one 5 RX2 D cy ad) (hr : meth.sig.returnType = none) : ∀ (μ : Mem) (x1 : Int32) (x2 : Int32), f2_one_1 P μ x1 x2 = some μ1 → ∀ (H : Heap) (locs : List Loc), Wd true D cy ad s.heap μ ν H locs → ∀ (ls : Array Slot), lv_has ls 5 [(0, .ref (ad 3)), (1, .int x1), (2, .int x2)] → WV true p l e (FR + 1) (LO + 25) s m args below meth c D cy ad μ1 ν H locs (F0 m 17 ls []) := by
  have hx := C.1.1
  have hb := C.1.2.1
  have hown := C.1.2.2.2.1
  have hts := C.1.2.2.2.2
  intro μ x1 x2 hf H locs X ls hl
  unfold f2_one_1 at hf
  refine lv_iload_n hx hb dX2_one_17 rfl (lv_at hl 1 rfl) ?_
  refine lv_iconst (v := 5) hx hb dX2_one_18 (by decide) ?_
  refine lv_icmp_ge (tgt := 26) hx hb dX2_one_19 (by decide) (fun c19 => ?_) (fun c19 => ?_)
  · replace hf := ifp c19 hf
    exact w2_one_2 hP hFR hLO C hr  μ x1 x2 hf _ _ X _ (lv_sub hl [0, 1, 2] rfl)
  · replace hf := ifn c19 hf
    refine lv_iconst (v := 1) hx hb dX2_one_22 (by decide) ?_
    refine lv_goto (tgt := 27) hx hb dX2_one_23 (by decide) ?_
    exact w2_one_3 hP hFR hLO C hr  μ x1 x2 1 hf _ _ X _ (lv_sub hl [0, 1, 2] rfl)
set_option maxRecDepth 100000 in
set_option maxHeartbeats 4000000 in
theorem w2_one {p : Program} {l : Launch} {e : Env} {s : State} {m : MethodId} {args : Array Value} {below : List Frame} {meth : Method} {c : Code} {D : va_G} {cy : Nat → ClassId} {ad : Nat → Nat} {μ1 : Mem} {ν : Lem} {P : Mem → Int32 → Int32 → Option Mem} {FR LO : Nat} (hP : ∀ (ν : Lem) (μ : Mem) (a b : Int32) (μ2 : Mem), P μ a b = some μ2 → CtV true yX2_phrase cX2_phrase 6 FR LO (fun ad => [.ref (ad 3), .int a, .int b]) μ ν μ2 ν) (hFR : 12 ≤ FR) (hLO : 400 ≤ LO) (C : Cx true p s m args meth c cX2_one 5 RX2 D cy ad) (hr : meth.sig.returnType = none) : ∀ (μ : Mem) (x1 : Int32), f2_one P μ x1 = some μ1 → ∀ (H : Heap) (locs : List Loc), Wd true D cy ad s.heap μ ν H locs → ∀ (ls : Array Slot), lv_has ls 5 [(0, .ref (ad 3)), (1, .int x1)] → WV true p l e (FR + 1) (LO + 25) s m args below meth c D cy ad μ1 ν H locs (F0 m 0 ls []) := by
  have hx := C.1.1
  have hb := C.1.2.1
  have hown := C.1.2.2.2.1
  have hts := C.1.2.2.2.2
  intro μ x1 hf H locs X ls hl
  unfold f2_one at hf
  refine lv_aload_n hx hb dX2_one_0 rfl (lv_at hl 0 rfl) ?_
  refine gfX2_48 C X dX2_one_1 ?_
  obtain ⟨v4, e4, hf⟩ := nm_e2 hf
  refine st_i e4 ?_
  refine lv_istore_n (lv' := [(2, .int v4), (0, .ref (ad 3)), (1, .int x1)]) hx hb dX2_one_4 rfl hl (by decide) rfl (fun ls hl => ?_)
  refine lv_iload_n hx hb dX2_one_5 rfl (lv_at hl 0 rfl) ?_
  refine lv_bipush (v := 16) hx hb dX2_one_6 (by decide) ?_
  refine lv_icmp_eq (tgt := 17) hx hb dX2_one_8 (by decide) (fun c8 => ?_) (fun c8 => ?_)
  · replace hf := ifp c8 hf
    exact w2_one_1 hP hFR hLO C hr  μ x1 v4 hf _ _ X _ (lv_sub hl [1, 2, 0] rfl)
  · replace hf := ifn c8 hf
    refine lv_iload_n hx hb dX2_one_11 rfl (lv_at hl 0 rfl) ?_
    refine lv_bipush (v := 12) hx hb dX2_one_12 (by decide) ?_
    refine lv_icmp_ne (tgt := 26) hx hb dX2_one_14 (by decide) (fun c14 => ?_) (fun c14 => ?_)
    · replace hf := ifn c14 hf
      exact w2_one_2 hP hFR hLO C hr  μ x1 v4 hf _ _ X _ (lv_sub hl [1, 2, 0] rfl)
    · replace hf := ifp c14 hf
      exact w2_one_1 hP hFR hLO C hr  μ x1 v4 hf _ _ X _ (lv_sub hl [1, 2, 0] rfl)
theorem ct2_one {P : Mem → Int32 → Int32 → Option Mem} {FR LO : Nat} (hP : ∀ (ν : Lem) (μ : Mem) (a b : Int32) (μ2 : Mem), P μ a b = some μ2 → CtV true yX2_phrase cX2_phrase 6 FR LO (fun ad => [.ref (ad 3), .int a, .int b]) μ ν μ2 ν) (hFR : 12 ≤ FR) (hLO : 400 ≤ LO) {x1 : Int32} {μ : Mem} {ν : Lem} {μ1 : Mem} (hg : f2_one P μ x1 = some μ1) : CtV true yX2_one cX2_one 5 (FR + 1) (LO + 25) (fun ad => [.ref (ad 3), .int x1]) μ ν μ1 ν :=
  mkV (by decide) rfl (fun ad => Nat.le_of_ble_eq_true rfl) (fun p l e s m args below meth c D cy ad C hr X ls hl => w2_one hP hFR hLO C hr μ x1 hg _ _ X _ hl)
theorem qX2_60 {p : Program} {l : Launch} {e : Env} {R : Room} {s : State} {m : MethodId} {args : Array Value} {below : List Frame} {meth : Method} {c : Code} {H : Heap} {locs : List Loc} {cells slots : Nat} {Q : State → Prop} {A : Nat → Prop} {cc : ByteArray} {nL : Nat} {D : va_G} {cy : Nat → ClassId} {ad : Nat → Nat} {μ : Mem} {ν : Lem} {pc : Nat} {ls : Array Slot} {rest : List Value} {P : Mem → Int32 → Int32 → Option Mem} {FR LO : Nat} (hP : ∀ (ν : Lem) (μ : Mem) (a b : Int32) (μ2 : Mem), P μ a b = some μ2 → CtV true yX2_phrase cX2_phrase 6 FR LO (fun ad => [.ref (ad 3), .int a, .int b]) μ ν μ2 ν) (hFR : 12 ≤ FR) (hLO : 400 ≤ LO) {x1 : Int32} {μ1 : Mem} (hg : f2_one P μ x1 = some μ1) (C : CxA true A p s m args meth c cc nL RX2 D cy ad) (X : WdA true A D cy ad s.heap μ ν H locs) (hsz : ls.size = nL) (hrm : (rest.map fun v => v.category).sum ≤ 8) (hR : FR + 1 + 1 ≤ R.frames ∧ 8 + (5 + 11) + (LO + 25) ≤ R.locals) (hcs : cells ≤ R.cells ∧ slots ≤ R.slots) (hd : decode cc pc = .ok (.invokevirtual 60, 3)) (kk : ∀ (H1 : Heap) (locs1 : List Loc), WdA true A D cy ad s.heap μ1 ν H1 locs1 → W p l e R s m args below meth c H1 locs1 cells slots Q (F0 m (pc + 3) ls rest)) : W p l e R s m args below meth c H locs cells slots Q (F0 m pc ls (.int x1 :: .ref (ad 3) :: rest)) :=
  rCVV (As := [.int x1]) (k := 3) (ct2_one hP hFR hLO hg) ok2 lX2_one k_431 rfl rfl rfl C X rfl hrm hsz hR hcs hd kk
set_option maxRecDepth 100000 in
set_option maxHeartbeats 4000000 in
theorem w2_joins {p : Program} {l : Launch} {e : Env} {s : State} {m : MethodId} {args : Array Value} {below : List Frame} {meth : Method} {c : Code} {D : va_G} {cy : Nat → ClassId} {ad : Nat → Nat} {r : Int32} {μ : Mem} {ν : Lem} (C : Cx true p s m args meth c cX2_joins 2 RX2 D cy ad) (hr : meth.sig.returnType = some .boolean) : ∀ (x1 : Int32), f2_joins μ x1 = r → ∀ (H : Heap) (locs : List Loc), Wd true D cy ad s.heap μ ν H locs → ∀ (ls : Array Slot), lv_has ls 2 [(0, .ref (ad 3)), (1, .int x1)] → WI true p l e 0 0 s m args below meth c D cy ad .boolean r μ ν H locs (F0 m 0 ls []) := by
  have hx := C.1.1
  have hb := C.1.2.1
  have hown := C.1.2.2.2.1
  have hts := C.1.2.2.2.2
  intro x1 hf H locs X ls hl
  unfold f2_joins at hf
  refine lv_iload_n hx hb dX2_joins_0 rfl (lv_at hl 1 rfl) ?_
  by_cases c1_0 : x1 = 0
  · replace hf := ifp c1_0 hf
    refine rTab (v := 0) (off := 35) (tgt := 36) hx hb c1_0 dX2_joins_1 (by decide) (by decide) rfl (by decide) ?_
    refine lv_aload_n hx hb dX2_joins_36 rfl (lv_at hl 0 rfl) ?_
    refine gfX2_48 C X dX2_joins_37 ?_
    refine lv_bipush (v := 9) hx hb dX2_joins_40 (by decide) ?_
    refine lv_icmp_ne (tgt := 49) hx hb dX2_joins_42 (by decide) (fun c42 => ?_) (fun c42 => ?_)
    · replace hf := ifn c42 hf
      refine lv_iconst (v := 0) hx hb dX2_joins_49 (by decide) ?_
      exact retI C X hr rfl hf rfl rfl dX2_joins_50
    · replace hf := ifp c42 hf
      refine lv_iconst (v := 1) hx hb dX2_joins_45 (by decide) ?_
      refine lv_goto (tgt := 50) hx hb dX2_joins_46 (by decide) ?_
      exact retI C X hr rfl hf rfl rfl dX2_joins_50
  · replace hf := ifn c1_0 hf
    by_cases c1_1 : x1 = 1
    · replace hf := ifp c1_1 hf
      refine rTab (v := 1) (off := 50) (tgt := 51) hx hb c1_1 dX2_joins_1 (by decide) (by decide) rfl (by decide) ?_
      refine lv_aload_n hx hb dX2_joins_51 rfl (lv_at hl 0 rfl) ?_
      refine gfX2_48 C X dX2_joins_52 ?_
      refine lv_bipush (v := 10) hx hb dX2_joins_55 (by decide) ?_
      refine lv_icmp_ne (tgt := 64) hx hb dX2_joins_57 (by decide) (fun c57 => ?_) (fun c57 => ?_)
      · replace hf := ifn c57 hf
        refine lv_iconst (v := 0) hx hb dX2_joins_64 (by decide) ?_
        exact retI C X hr rfl hf rfl rfl dX2_joins_65
      · replace hf := ifp c57 hf
        refine lv_iconst (v := 1) hx hb dX2_joins_60 (by decide) ?_
        refine lv_goto (tgt := 65) hx hb dX2_joins_61 (by decide) ?_
        exact retI C X hr rfl hf rfl rfl dX2_joins_65
    · replace hf := ifn c1_1 hf
      by_cases c1_2 : x1 = 2
      · replace hf := ifp c1_2 hf
        refine rTab (v := 2) (off := 65) (tgt := 66) hx hb c1_2 dX2_joins_1 (by decide) (by decide) rfl (by decide) ?_
        refine lv_aload_n hx hb dX2_joins_66 rfl (lv_at hl 0 rfl) ?_
        refine gfX2_48 C X dX2_joins_67 ?_
        refine lv_bipush (v := 18) hx hb dX2_joins_70 (by decide) ?_
        refine lv_icmp_eq (tgt := 84) hx hb dX2_joins_72 (by decide) (fun c72 => ?_) (fun c72 => ?_)
        · replace hf := ifp c72 hf
          refine lv_iconst (v := 1) hx hb dX2_joins_84 (by decide) ?_
          refine lv_goto (tgt := 89) hx hb dX2_joins_85 (by decide) ?_
          exact retI C X hr rfl hf rfl rfl dX2_joins_89
        · replace hf := ifn c72 hf
          refine lv_aload_n hx hb dX2_joins_75 rfl (lv_at hl 0 rfl) ?_
          refine gfX2_48 C X dX2_joins_76 ?_
          refine lv_bipush (v := 19) hx hb dX2_joins_79 (by decide) ?_
          refine lv_icmp_ne (tgt := 88) hx hb dX2_joins_81 (by decide) (fun c81 => ?_) (fun c81 => ?_)
          · replace hf := ifn c81 hf
            refine lv_iconst (v := 0) hx hb dX2_joins_88 (by decide) ?_
            exact retI C X hr rfl hf rfl rfl dX2_joins_89
          · replace hf := ifp c81 hf
            refine lv_iconst (v := 1) hx hb dX2_joins_84 (by decide) ?_
            refine lv_goto (tgt := 89) hx hb dX2_joins_85 (by decide) ?_
            exact retI C X hr rfl hf rfl rfl dX2_joins_89
      · replace hf := ifn c1_2 hf
        by_cases c1_3 : x1 = 3
        · replace hf := ifp c1_3 hf
          refine rTab (v := 3) (off := 89) (tgt := 90) hx hb c1_3 dX2_joins_1 (by decide) (by decide) rfl (by decide) ?_
          refine lv_aload_n hx hb dX2_joins_90 rfl (lv_at hl 0 rfl) ?_
          refine gfX2_48 C X dX2_joins_91 ?_
          refine lv_bipush (v := 15) hx hb dX2_joins_94 (by decide) ?_
          refine lv_icmp_eq (tgt := 108) hx hb dX2_joins_96 (by decide) (fun c96 => ?_) (fun c96 => ?_)
          · replace hf := ifp c96 hf
            refine lv_iconst (v := 1) hx hb dX2_joins_108 (by decide) ?_
            refine lv_goto (tgt := 113) hx hb dX2_joins_109 (by decide) ?_
            exact retI C X hr rfl hf rfl rfl dX2_joins_113
          · replace hf := ifn c96 hf
            refine lv_aload_n hx hb dX2_joins_99 rfl (lv_at hl 0 rfl) ?_
            refine gfX2_48 C X dX2_joins_100 ?_
            refine lv_bipush (v := 16) hx hb dX2_joins_103 (by decide) ?_
            refine lv_icmp_ne (tgt := 112) hx hb dX2_joins_105 (by decide) (fun c105 => ?_) (fun c105 => ?_)
            · replace hf := ifn c105 hf
              refine lv_iconst (v := 0) hx hb dX2_joins_112 (by decide) ?_
              exact retI C X hr rfl hf rfl rfl dX2_joins_113
            · replace hf := ifp c105 hf
              refine lv_iconst (v := 1) hx hb dX2_joins_108 (by decide) ?_
              refine lv_goto (tgt := 113) hx hb dX2_joins_109 (by decide) ?_
              exact retI C X hr rfl hf rfl rfl dX2_joins_113
        · replace hf := ifn c1_3 hf
          by_cases c1_4 : x1 = 4
          · replace hf := ifp c1_4 hf
            refine rTab (v := 4) (off := 113) (tgt := 114) hx hb c1_4 dX2_joins_1 (by decide) (by decide) rfl (by decide) ?_
            refine lv_aload_n hx hb dX2_joins_114 rfl (lv_at hl 0 rfl) ?_
            refine gfX2_48 C X dX2_joins_115 ?_
            refine lv_bipush (v := 17) hx hb dX2_joins_118 (by decide) ?_
            refine lv_icmp_ne (tgt := 127) hx hb dX2_joins_120 (by decide) (fun c120 => ?_) (fun c120 => ?_)
            · replace hf := ifn c120 hf
              refine lv_iconst (v := 0) hx hb dX2_joins_127 (by decide) ?_
              exact retI C X hr rfl hf rfl rfl dX2_joins_128
            · replace hf := ifp c120 hf
              refine lv_iconst (v := 1) hx hb dX2_joins_123 (by decide) ?_
              refine lv_goto (tgt := 128) hx hb dX2_joins_124 (by decide) ?_
              exact retI C X hr rfl hf rfl rfl dX2_joins_128
          · replace hf := ifn c1_4 hf
            refine rTabOut hx hb 129 dX2_joins_1 (by decide) (tab_out 0 5 rfl rfl (by decide) (fun k hk => ?_)) ?_
            · rcases (show k = 0 ∨ k = 1 ∨ k = 2 ∨ k = 3 ∨ k = 4 by omega) with rfl | rfl | rfl | rfl | rfl
              · exact c1_0
              · exact c1_1
              · exact c1_2
              · exact c1_3
              · exact c1_4
            refine lv_iconst (v := 0) hx hb dX2_joins_129 (by decide) ?_
            exact retI C X hr rfl hf rfl rfl dX2_joins_130
theorem ct2_joins {x1 : Int32} {μ : Mem} {ν : Lem} {r : Int32} (hg : f2_joins μ x1 = r) : CtI true yX2_joins cX2_joins 2 0 0 .boolean (fun ad => [.ref (ad 3), .int x1]) μ ν r μ ν :=
  mkI (by decide) rfl (fun ad => Nat.le_of_ble_eq_true rfl) (fun p l e s m args below meth c D cy ad C hr X ls hl => w2_joins C hr x1 hg _ _ X _ hl)
theorem qX2_66 {p : Program} {l : Launch} {e : Env} {R : Room} {s : State} {m : MethodId} {args : Array Value} {below : List Frame} {meth : Method} {c : Code} {H : Heap} {locs : List Loc} {cells slots : Nat} {Q : State → Prop} {A : Nat → Prop} {cc : ByteArray} {nL : Nat} {D : va_G} {cy : Nat → ClassId} {ad : Nat → Nat} {μ : Mem} {ν : Lem} {pc : Nat} {ls : Array Slot} {rest : List Value} {x1 : Int32} {r : Int32} (hg : f2_joins μ x1 = r) (C : CxA true A p s m args meth c cc nL RX2 D cy ad) (X : WdA true A D cy ad s.heap μ ν H locs) (hsz : ls.size = nL) (hrm : (rest.map fun v => v.category).sum ≤ 8) (hR : 0 + 1 ≤ R.frames ∧ 8 + (2 + 11) + 0 ≤ R.locals) (hcs : cells ≤ R.cells ∧ slots ≤ R.slots) (hd : decode cc pc = .ok (.invokevirtual 66, 3)) (kk : ∀ (H1 : Heap) (locs1 : List Loc), WdA true A D cy ad s.heap μ ν H1 locs1 → narrow .boolean (.int r) = .int r → W p l e R s m args below meth c H1 locs1 cells slots Q (F0 m (pc + 3) ls (.int r :: rest))) : W p l e R s m args below meth c H locs cells slots Q (F0 m pc ls (.int x1 :: .ref (ad 3) :: rest)) :=
  rCVI (As := [.int x1]) (k := 3) (ct2_joins hg) ok2 lX2_joins k_440 rfl rfl rfl C X rfl hrm hsz hR hcs hd kk
set_option maxRecDepth 100000 in
set_option maxHeartbeats 4000000 in
theorem w2_phrase_2 {p : Program} {l : Launch} {e : Env} {s : State} {m : MethodId} {args : Array Value} {below : List Frame} {meth : Method} {c : Code} {D : va_G} {cy : Nat → ClassId} {ad : Nat → Nat} {μ1 : Mem} {ν : Lem} {P : Mem → Int32 → Int32 → Option Mem} {FR LO : Nat} (hP : ∀ (ν : Lem) (μ : Mem) (a b : Int32) (μ2 : Mem), P μ a b = some μ2 → CtV true yX2_phrase cX2_phrase 6 FR LO (fun ad => [.ref (ad 3), .int a, .int b]) μ ν μ2 ν) (hFR : 12 ≤ FR) (hLO : 400 ≤ LO) (C : Cx true p s m args meth c cX2_phrase 6 RX2 D cy ad) (hr : meth.sig.returnType = none) : ∀ (n : Nat), ∀ (μ : Mem) (x1 : Int32) (x2 : Int32) (x3 : Int32) (x4 : Int32), f2_phrase_2 P n μ x1 x2 x3 x4 = some μ1 → ∀ (H : Heap) (locs : List Loc), Wd true D cy ad s.heap μ ν H locs → ∀ (ls : Array Slot), lv_has ls 6 [(0, .ref (ad 3)), (1, .int x1), (2, .int x2), (3, .int x3), (4, .int x4)] → WV true p l e (FR + 2) (LO + 49) s m args below meth c D cy ad μ1 ν H locs (F0 m 73 ls []) := by
  have hx := C.1.1
  have hb := C.1.2.1
  have hown := C.1.2.2.2.1
  have hts := C.1.2.2.2.2
  intro n
  induction n with
  | zero =>
    intro μ x1 x2 x3 x4 hf H locs X ls hl
    rw [f2_phrase_2] at hf
    cases hf
  | succ n ih =>
    intro μ x1 x2 x3 x4 hf H locs X ls hl
    rw [f2_phrase_2] at hf
    refine lv_iload hx hb dX2_phrase_73 (lv_at hl 4 rfl) ?_
    refine lv_iload_n hx hb dX2_phrase_75 rfl (lv_at hl 3 rfl) ?_
    refine lv_icmp_ge (tgt := 119) hx hb dX2_phrase_76 (by decide) (fun c76 => ?_) (fun c76 => ?_)
    · replace hf := ifp c76 hf
      exact retV C X hr (Option.some.inj hf) rfl dX2_phrase_119
    · replace hf := ifn c76 hf
      refine lv_aload_n hx hb dX2_phrase_79 rfl (lv_at hl 0 rfl) ?_
      refine lv_iload_n hx hb dX2_phrase_80 rfl (lv_at hl 1 rfl) ?_
      refine qX2_66 rfl C X hl.1 ((Nat.le_of_ble_eq_true rfl)) ⟨(by show _ ≤ FR + 2; omega), (by show _ ≤ LO + 49; omega)⟩ ⟨Nat.zero_le _, Nat.zero_le _⟩ dX2_phrase_81 (fun H locs X b81 => ?_)
      refine lv_if_eq (tgt := 119) hx hb dX2_phrase_84 (by decide) (fun c84 => ?_) (fun c84 => ?_)
      · replace hf := ifp c84 hf
        exact retV C X hr (Option.some.inj hf) rfl dX2_phrase_119
      · replace hf := ifn c84 hf
        refine lv_aload_n hx hb dX2_phrase_87 rfl (lv_at hl 0 rfl) ?_
        refine gfX2_48 C X dX2_phrase_88 ?_
        obtain ⟨v91, e91, hf⟩ := nm_e2 hf
        refine st_i e91 ?_
        refine lv_istore (lv' := [(5, .int v91), (0, .ref (ad 3)), (1, .int x1), (2, .int x2), (3, .int x3), (4, .int x4)]) hx hb dX2_phrase_91 hl (by decide) rfl (fun ls hl => ?_)
        refine lv_aload_n hx hb dX2_phrase_93 rfl (lv_at hl 1 rfl) ?_
        obtain ⟨μ94, g94, hf⟩ := bd1_e hf
        refine qX2_34 g94 C X hl.1 ((Nat.le_of_ble_eq_true rfl)) ⟨(by show _ ≤ FR + 2; omega), (by show _ ≤ LO + 49; omega)⟩ ⟨Nat.zero_le _, Nat.zero_le _⟩ dX2_phrase_94 (fun H locs X => ?_)
        refine lv_aload_n hx hb dX2_phrase_97 rfl (lv_at hl 1 rfl) ?_
        refine lv_iload_n hx hb dX2_phrase_98 rfl (lv_at hl 2 rfl) ?_
        refine lv_iconst (v := 1) hx hb dX2_phrase_99 (by decide) ?_
        refine lv_iadd hx hb dX2_phrase_100 ?_
        refine lv_iload_n hx hb dX2_phrase_101 rfl (lv_at hl 3 rfl) ?_
        obtain ⟨μ102, g102, hf⟩ := bd1_e hf
        refine qrX2_41 hP g102 C X hl.1 ((Nat.le_of_ble_eq_true rfl)) ⟨(by show _ ≤ FR + 2; omega), (by show _ ≤ LO + 49; omega)⟩ ⟨Nat.zero_le _, Nat.zero_le _⟩ dX2_phrase_102 (fun H locs X => ?_)
        refine lv_aload_n hx hb dX2_phrase_105 rfl (lv_at hl 1 rfl) ?_
        refine lv_iload hx hb dX2_phrase_106 (lv_at hl 0 rfl) ?_
        refine lv_iconst (v := (-1)) hx hb dX2_phrase_108 (by decide) ?_
        refine lv_ixor hx hb dX2_phrase_109 ?_
        obtain ⟨μ110, g110, hf⟩ := bd1_e hf
        refine qX2_63 g110 C X hl.1 ((Nat.le_of_ble_eq_true rfl)) ⟨(by show _ ≤ FR + 2; omega), (by show _ ≤ LO + 49; omega)⟩ ⟨Nat.zero_le _, Nat.zero_le _⟩ dX2_phrase_110 (fun H locs X => ?_)
        obtain ⟨v113, e113, hf⟩ := nm_e2 hf
        refine rIinc (lv' := [(4, .int v113), (5, .int v91), (0, .ref (ad 3)), (1, .int x1), (2, .int x2), (3, .int x3)]) hx hb dX2_phrase_113 hl (k := 5) rfl e113 rfl (by decide) rfl (fun ls hl => ?_)
        refine lv_goto (tgt := 73) hx hb dX2_phrase_116 (by decide) ?_
        exact ih μ110 x1 x2 x3 v113 hf _ _ X _ (lv_sub hl [2, 3, 4, 5, 0] rfl)
set_option maxRecDepth 100000 in
set_option maxHeartbeats 4000000 in
theorem w2_phrase_1 {p : Program} {l : Launch} {e : Env} {s : State} {m : MethodId} {args : Array Value} {below : List Frame} {meth : Method} {c : Code} {D : va_G} {cy : Nat → ClassId} {ad : Nat → Nat} {μ1 : Mem} {ν : Lem} {P : Mem → Int32 → Int32 → Option Mem} {FR LO : Nat} (hP : ∀ (ν : Lem) (μ : Mem) (a b : Int32) (μ2 : Mem), P μ a b = some μ2 → CtV true yX2_phrase cX2_phrase 6 FR LO (fun ad => [.ref (ad 3), .int a, .int b]) μ ν μ2 ν) (hFR : 12 ≤ FR) (hLO : 400 ≤ LO) (C : Cx true p s m args meth c cX2_phrase 6 RX2 D cy ad) (hr : meth.sig.returnType = none) : ∀ (μ : Mem) (x1 : Int32) (x2 : Int32), f2_phrase_1 P μ x1 x2 = some μ1 → ∀ (H : Heap) (locs : List Loc), Wd true D cy ad s.heap μ ν H locs → ∀ (ls : Array Slot), lv_has ls 6 [(0, .ref (ad 3)), (1, .int x1), (2, .int x2)] → WV true p l e (FR + 2) (LO + 49) s m args below meth c D cy ad μ1 ν H locs (F0 m 49 ls []) := by
  have hx := C.1.1
  have hb := C.1.2.1
  have hown := C.1.2.2.2.1
  have hts := C.1.2.2.2.2
  intro μ x1 x2 hf H locs X ls hl
  unfold f2_phrase_1 at hf
  refine lv_aload_n hx hb dX2_phrase_49 rfl (lv_at hl 0 rfl) ?_
  refine lv_iload_n hx hb dX2_phrase_50 rfl (lv_at hl 1 rfl) ?_
  refine lv_iconst (v := 1) hx hb dX2_phrase_51 (by decide) ?_
  refine lv_iadd hx hb dX2_phrase_52 ?_
  refine lv_iload_n hx hb dX2_phrase_53 rfl (lv_at hl 2 rfl) ?_
  obtain ⟨μ54, g54, hf⟩ := bd1_e hf
  refine qrX2_41 hP g54 C X hl.1 ((Nat.le_of_ble_eq_true rfl)) ⟨(by show _ ≤ FR + 2; omega), (by show _ ≤ LO + 49; omega)⟩ ⟨Nat.zero_le _, Nat.zero_le _⟩ dX2_phrase_54 (fun H locs X => ?_)
  refine lv_iload_n hx hb dX2_phrase_57 rfl (lv_at hl 1 rfl) ?_
  refine lv_iconst (v := 2) hx hb dX2_phrase_58 (by decide) ?_
  refine lv_icmp_ne (tgt := 66) hx hb dX2_phrase_59 (by decide) (fun c59 => ?_) (fun c59 => ?_)
  · replace hf := ifn c59 hf
    refine lv_sipush (v := 160) hx hb dX2_phrase_66 (by decide) ?_
    refine lv_istore_n (lv' := [(3, .int 160), (0, .ref (ad 3)), (1, .int x1), (2, .int x2)]) hx hb dX2_phrase_69 rfl hl (by decide) rfl (fun ls hl => ?_)
    refine lv_iconst (v := 0) hx hb dX2_phrase_70 (by decide) ?_
    refine lv_istore (lv' := [(4, .int 0), (3, .int 160), (0, .ref (ad 3)), (1, .int x1), (2, .int x2)]) hx hb dX2_phrase_71 hl (by decide) rfl (fun ls hl => ?_)
    exact w2_phrase_2 hP hFR hLO C hr  FUEL μ54 x1 x2 160 0 hf _ _ X _ (lv_sub hl [2, 3, 4, 1, 0] rfl)
  · replace hf := ifp c59 hf
    refine lv_iconst (v := 1) hx hb dX2_phrase_62 (by decide) ?_
    refine lv_goto (tgt := 69) hx hb dX2_phrase_63 (by decide) ?_
    refine lv_istore_n (lv' := [(3, .int 1), (0, .ref (ad 3)), (1, .int x1), (2, .int x2)]) hx hb dX2_phrase_69 rfl hl (by decide) rfl (fun ls hl => ?_)
    refine lv_iconst (v := 0) hx hb dX2_phrase_70 (by decide) ?_
    refine lv_istore (lv' := [(4, .int 0), (3, .int 1), (0, .ref (ad 3)), (1, .int x1), (2, .int x2)]) hx hb dX2_phrase_71 hl (by decide) rfl (fun ls hl => ?_)
    exact w2_phrase_2 hP hFR hLO C hr  FUEL μ54 x1 x2 1 0 hf _ _ X _ (lv_sub hl [2, 3, 4, 1, 0] rfl)
set_option maxRecDepth 100000 in
set_option maxHeartbeats 4000000 in
theorem w2_phraseB {p : Program} {l : Launch} {e : Env} {s : State} {m : MethodId} {args : Array Value} {below : List Frame} {meth : Method} {c : Code} {D : va_G} {cy : Nat → ClassId} {ad : Nat → Nat} {μ1 : Mem} {ν : Lem} {P : Mem → Int32 → Int32 → Option Mem} {FR LO : Nat} (hP : ∀ (ν : Lem) (μ : Mem) (a b : Int32) (μ2 : Mem), P μ a b = some μ2 → CtV true yX2_phrase cX2_phrase 6 FR LO (fun ad => [.ref (ad 3), .int a, .int b]) μ ν μ2 ν) (hFR : 12 ≤ FR) (hLO : 400 ≤ LO) (C : Cx true p s m args meth c cX2_phrase 6 RX2 D cy ad) (hr : meth.sig.returnType = none) : ∀ (μ : Mem) (x1 : Int32) (x2 : Int32), f2_phraseB P μ x1 x2 = some μ1 → ∀ (H : Heap) (locs : List Loc), Wd true D cy ad s.heap μ ν H locs → ∀ (ls : Array Slot), lv_has ls 6 [(0, .ref (ad 3)), (1, .int x1), (2, .int x2)] → WV true p l e (FR + 2) (LO + 49) s m args below meth c D cy ad μ1 ν H locs (F0 m 0 ls []) := by
  have hx := C.1.1
  have hb := C.1.2.1
  have hown := C.1.2.2.2.1
  have hts := C.1.2.2.2.2
  intro μ x1 x2 hf H locs X ls hl
  unfold f2_phraseB at hf
  refine lv_iload_n hx hb dX2_phrase_0 rfl (lv_at hl 1 rfl) ?_
  refine lv_iconst (v := 5) hx hb dX2_phrase_1 (by decide) ?_
  refine lv_icmp_ne (tgt := 11) hx hb dX2_phrase_2 (by decide) (fun c2 => ?_) (fun c2 => ?_)
  · replace hf := ifn c2 hf
    refine lv_iload_n hx hb dX2_phrase_11 rfl (lv_at hl 1 rfl) ?_
    refine lv_iconst (v := 2) hx hb dX2_phrase_12 (by decide) ?_
    refine lv_icmp_ne (tgt := 49) hx hb dX2_phrase_13 (by decide) (fun c13 => ?_) (fun c13 => ?_)
    · replace hf := ifn c13 hf
      exact w2_phrase_1 hP hFR hLO C hr  μ x1 x2 hf _ _ X _ (lv_sub hl [0, 1, 2] rfl)
    · replace hf := ifp c13 hf
      refine lv_aload_n hx hb dX2_phrase_16 rfl (lv_at hl 0 rfl) ?_
      refine gfX2_48 C X dX2_phrase_17 ?_
      refine lv_bipush (v := 11) hx hb dX2_phrase_20 (by decide) ?_
      refine lv_icmp_ne (tgt := 49) hx hb dX2_phrase_22 (by decide) (fun c22 => ?_) (fun c22 => ?_)
      · replace hf := ifn c22 hf
        exact w2_phrase_1 hP hFR hLO C hr  μ x1 x2 hf _ _ X _ (lv_sub hl [0, 1, 2] rfl)
      · replace hf := ifp c22 hf
        refine lv_iload_n hx hb dX2_phrase_25 rfl (lv_at hl 2 rfl) ?_
        refine lv_iconst (v := 5) hx hb dX2_phrase_26 (by decide) ?_
        refine lv_icmp_ge (tgt := 49) hx hb dX2_phrase_27 (by decide) (fun c27 => ?_) (fun c27 => ?_)
        · replace hf := ifp c27 hf
          exact w2_phrase_1 hP hFR hLO C hr  μ x1 x2 hf _ _ X _ (lv_sub hl [0, 1, 2] rfl)
        · replace hf := ifn c27 hf
          refine lv_aload_n hx hb dX2_phrase_30 rfl (lv_at hl 0 rfl) ?_
          obtain ⟨μ31, g31, hf⟩ := bd1_e hf
          refine qX2_34 g31 C X hl.1 ((Nat.le_of_ble_eq_true rfl)) ⟨(by show _ ≤ FR + 2; omega), (by show _ ≤ LO + 49; omega)⟩ ⟨Nat.zero_le _, Nat.zero_le _⟩ dX2_phrase_31 (fun H locs X => ?_)
          refine lv_aload_n hx hb dX2_phrase_34 rfl (lv_at hl 0 rfl) ?_
          refine lv_iconst (v := 2) hx hb dX2_phrase_35 (by decide) ?_
          refine lv_iload_n hx hb dX2_phrase_36 rfl (lv_at hl 2 rfl) ?_
          refine lv_iconst (v := 1) hx hb dX2_phrase_37 (by decide) ?_
          refine lv_iadd hx hb dX2_phrase_38 ?_
          obtain ⟨μ39, g39, hf⟩ := bd1_e hf
          refine qrX2_41 hP g39 C X hl.1 ((Nat.le_of_ble_eq_true rfl)) ⟨(by show _ ≤ FR + 2; omega), (by show _ ≤ LO + 49; omega)⟩ ⟨Nat.zero_le _, Nat.zero_le _⟩ dX2_phrase_39 (fun H locs X => ?_)
          refine lv_aload_n hx hb dX2_phrase_42 rfl (lv_at hl 0 rfl) ?_
          refine lv_bipush (v := (-12)) hx hb dX2_phrase_43 (by decide) ?_
          obtain ⟨μ45, g45, hf⟩ := bd1_e hf
          refine qX2_63 g45 C X hl.1 ((Nat.le_of_ble_eq_true rfl)) ⟨(by show _ ≤ FR + 2; omega), (by show _ ≤ LO + 49; omega)⟩ ⟨Nat.zero_le _, Nat.zero_le _⟩ dX2_phrase_45 (fun H locs X => ?_)
          exact retV C X hr (Option.some.inj hf) rfl dX2_phrase_48
  · replace hf := ifp c2 hf
    refine lv_aload_n hx hb dX2_phrase_5 rfl (lv_at hl 0 rfl) ?_
    refine lv_iload_n hx hb dX2_phrase_6 rfl (lv_at hl 2 rfl) ?_
    obtain ⟨μ7, g7, hf⟩ := bd1_e hf
    refine qX2_60 hP hFR hLO g7 C X hl.1 ((Nat.le_of_ble_eq_true rfl)) ⟨(by show _ ≤ FR + 2; omega), (by show _ ≤ LO + 49; omega)⟩ ⟨Nat.zero_le _, Nat.zero_le _⟩ dX2_phrase_7 (fun H locs X => ?_)
    exact retV C X hr (Option.some.inj hf) rfl dX2_phrase_10
theorem ct2_phrase_d : ∀ (d : Nat) (ν : Lem) (μ : Mem) (a b : Int32) (μ2 : Mem), f2_phrase d μ a b = some μ2 → CtV true yX2_phrase cX2_phrase 6 (12 + 2 * d) (400 + 49 * d) (fun ad => [.ref (ad 3), .int a, .int b]) μ ν μ2 ν := by
  intro d
  induction d with
  | zero =>
    intro ν μ a b μ2 h
    rw [f2_phrase] at h
    cases h
  | succ d ih =>
    intro ν μ a b μ2 h
    rw [f2_phrase] at h
    rw [show 12 + 2 * (d + 1) = 12 + 2 * d + 2 by omega, show 400 + 49 * (d + 1) = 400 + 49 * d + 49 by omega]
    exact mkV (by decide) rfl (fun ad => Nat.le_of_ble_eq_true rfl) (fun p l e s m args below meth c D cy ad C hr X ls hl => w2_phraseB ih (by omega) (by omega) C hr μ a b h _ _ X _ hl)
theorem ct2_phrase {x1 x2 : Int32} {μ : Mem} {ν : Lem} {μ1 : Mem} (hg : f2_phrase DEEP μ x1 x2 = some μ1) : CtV true yX2_phrase cX2_phrase 6 172 4320 (fun ad => [.ref (ad 3), .int x1, .int x2]) μ ν μ1 ν := ct2_phrase_d 80 ν μ x1 x2 μ1 hg
theorem qX2_41 {p : Program} {l : Launch} {e : Env} {R : Room} {s : State} {m : MethodId} {args : Array Value} {below : List Frame} {meth : Method} {c : Code} {H : Heap} {locs : List Loc} {cells slots : Nat} {Q : State → Prop} {A : Nat → Prop} {cc : ByteArray} {nL : Nat} {D : va_G} {cy : Nat → ClassId} {ad : Nat → Nat} {μ : Mem} {ν : Lem} {pc : Nat} {ls : Array Slot} {rest : List Value} {x1 : Int32} {x2 : Int32} {μ1 : Mem} (hg : f2_phrase DEEP μ x1 x2 = some μ1) (C : CxA true A p s m args meth c cc nL RX2 D cy ad) (X : WdA true A D cy ad s.heap μ ν H locs) (hsz : ls.size = nL) (hrm : (rest.map fun v => v.category).sum ≤ 8) (hR : 172 + 1 ≤ R.frames ∧ 8 + (6 + 11) + 4320 ≤ R.locals) (hcs : cells ≤ R.cells ∧ slots ≤ R.slots) (hd : decode cc pc = .ok (.invokevirtual 41, 3)) (kk : ∀ (H1 : Heap) (locs1 : List Loc), WdA true A D cy ad s.heap μ1 ν H1 locs1 → W p l e R s m args below meth c H1 locs1 cells slots Q (F0 m (pc + 3) ls rest)) : W p l e R s m args below meth c H locs cells slots Q (F0 m pc ls (.int x2 :: .int x1 :: .ref (ad 3) :: rest)) :=
  rCVV (As := [.int x1, .int x2]) (k := 3) (ct2_phrase hg) ok2 lX2_phrase k_427 rfl rfl rfl C X rfl hrm hsz hR hcs hd kk
set_option maxRecDepth 100000 in
set_option maxHeartbeats 4000000 in
theorem w3_endPart {p : Program} {l : Launch} {e : Env} {s : State} {m : MethodId} {args : Array Value} {below : List Frame} {meth : Method} {c : Code} {D : va_G} {cy : Nat → ClassId} {ad : Nat → Nat} {μ1 : Mem} {ν : Lem} (C : Cx true p s m args meth c cX3_endPart 2 RX3 D cy ad) (hr : meth.sig.returnType = none) : ∀ (μ : Mem) (t : Nat) (x1 : Int32) (ht : t < 6), f3_endPart μ t x1 = some μ1 → ∀ (H : Heap) (locs : List Loc), Wd true D cy ad s.heap μ ν H locs → ∀ (ls : Array Slot), lv_has ls 2 [(0, .ref (ad (53 + 3 * t))), (1, .int x1)] → WV true p l e 0 0 s m args below meth c D cy ad μ1 ν H locs (F0 m 0 ls []) := by
  have hx := C.1.1
  have hb := C.1.2.1
  have hown := C.1.2.2.2.1
  have hts := C.1.2.2.2.2
  intro μ t x1 ht hf H locs X ls hl
  unfold f3_endPart at hf
  refine lv_aload_n hx hb dX3_endPart_0 rfl (lv_at hl 0 rfl) ?_
  refine gfX3_15 (t := t) ht rfl (k2 := (55 + 3 * t)) rfl C X dX3_endPart_1 ?_
  refine lv_iload_n hx hb dX3_endPart_4 rfl (lv_at hl 1 rfl) ?_
  refine lv_aload_n hx hb dX3_endPart_5 rfl (lv_at hl 0 rfl) ?_
  refine gfX3_18 (t := t) ht rfl C X dX3_endPart_6 ?_
  obtain ⟨h9, hf⟩ := gd_e hf
  obtain ⟨μ9, e9, hf⟩ := nm_e2 hf
  refine rIast2 C X (sTe ht) h9 e9 dX3_endPart_9 (fun H locs X => ?_)
  exact retV C X hr (Option.some.inj hf) rfl dX3_endPart_10
theorem ct3_endPart {t : Nat} {x1 : Int32} (ht : t < 6) {μ : Mem} {ν : Lem} {μ1 : Mem} (hg : f3_endPart μ t x1 = some μ1) : CtV true yX3_endPart cX3_endPart 2 0 0 (fun ad => [.ref (ad (53 + 3 * t)), .int x1]) μ ν μ1 ν :=
  mkV (by decide) rfl (fun ad => Nat.le_of_ble_eq_true rfl) (fun p l e s m args below meth c D cy ad C hr X ls hl => w3_endPart C hr μ t x1 ht hg _ _ X _ hl)
theorem qX3_29 {p : Program} {l : Launch} {e : Env} {R : Room} {s : State} {m : MethodId} {args : Array Value} {below : List Frame} {meth : Method} {c : Code} {H : Heap} {locs : List Loc} {cells slots : Nat} {Q : State → Prop} {A : Nat → Prop} {cc : ByteArray} {nL : Nat} {D : va_G} {cy : Nat → ClassId} {ad : Nat → Nat} {μ : Mem} {ν : Lem} {pc : Nat} {ls : Array Slot} {rest : List Value} {t : Nat} {x1 : Int32} (ht : t < 6) {μ1 : Mem} (hg : f3_endPart μ t x1 = some μ1) (C : CxA true A p s m args meth c cc nL RX3 D cy ad) (X : WdA true A D cy ad s.heap μ ν H locs) (hsz : ls.size = nL) (hrm : (rest.map fun v => v.category).sum ≤ 8) (hR : 0 + 1 ≤ R.frames ∧ 8 + (2 + 11) + 0 ≤ R.locals) (hcs : cells ≤ R.cells ∧ slots ≤ R.slots) (hd : decode cc pc = .ok (.invokevirtual 29, 3)) (kk : ∀ (H1 : Heap) (locs1 : List Loc), WdA true A D cy ad s.heap μ1 ν H1 locs1 → W p l e R s m args below meth c H1 locs1 cells slots Q (F0 m (pc + 3) ls rest)) : W p l e R s m args below meth c H locs cells slots Q (F0 m pc ls (.int x1 :: .ref (ad (53 + 3 * t)) :: rest)) :=
  rCVV (As := [.int x1]) (k := 53 + 3 * t) (ct3_endPart ht hg) ok3 lX3_endPart k_160 (sT ht) rfl rfl C X rfl hrm hsz hR hcs hd kk
theorem qX2_45 {p : Program} {l : Launch} {e : Env} {R : Room} {s : State} {m : MethodId} {args : Array Value} {below : List Frame} {meth : Method} {c : Code} {H : Heap} {locs : List Loc} {cells slots : Nat} {Q : State → Prop} {A : Nat → Prop} {cc : ByteArray} {nL : Nat} {D : va_G} {cy : Nat → ClassId} {ad : Nat → Nat} {μ : Mem} {ν : Lem} {pc : Nat} {ls : Array Slot} {rest : List Value} {t : Nat} {x1 : Int32} (ht : t < 6) {μ1 : Mem} (hg : f3_endPart μ t x1 = some μ1) (C : CxA true A p s m args meth c cc nL RX2 D cy ad) (X : WdA true A D cy ad s.heap μ ν H locs) (hsz : ls.size = nL) (hrm : (rest.map fun v => v.category).sum ≤ 8) (hR : 0 + 1 ≤ R.frames ∧ 8 + (2 + 11) + 0 ≤ R.locals) (hcs : cells ≤ R.cells ∧ slots ≤ R.slots) (hd : decode cc pc = .ok (.invokevirtual 45, 3)) (kk : ∀ (H1 : Heap) (locs1 : List Loc), WdA true A D cy ad s.heap μ1 ν H1 locs1 → W p l e R s m args below meth c H1 locs1 cells slots Q (F0 m (pc + 3) ls rest)) : W p l e R s m args below meth c H locs cells slots Q (F0 m pc ls (.int x1 :: .ref (ad (53 + 3 * t)) :: rest)) :=
  rCVV (As := [.int x1]) (k := 53 + 3 * t) (ct3_endPart ht hg) ok3 lX3_endPart k_444 (sT ht) rfl rfl C X rfl hrm hsz hR hcs hd kk
set_option maxRecDepth 100000 in
set_option maxHeartbeats 4000000 in
theorem w2_readInto_1 {p : Program} {l : Launch} {e : Env} {s : State} {m : MethodId} {args : Array Value} {below : List Frame} {meth : Method} {c : Code} {D : va_G} {cy : Nat → ClassId} {ad : Nat → Nat} {r : Int32} {μ1 : Mem} {ν : Lem} (C : Cx true p s m args meth c cX2_readInto 3 RX2 D cy ad) (hr : meth.sig.returnType = some .int) : ∀ (n : Nat), ∀ (μ : Mem) (x1 : Nat) (x2 : Int32) (hx1 : x1 < 6), f2_readInto_1 n μ x1 x2 = some (r, μ1) → ∀ (H : Heap) (locs : List Loc), Wd true D cy ad s.heap μ ν H locs → ∀ (ls : Array Slot), lv_has ls 3 [(0, .ref (ad 3)), (1, .ref (ad (53 + 3 * x1))), (2, .int x2)] → WI true p l e 173 4345 s m args below meth c D cy ad .int r μ1 ν H locs (F0 m 25 ls []) := by
  have hx := C.1.1
  have hb := C.1.2.1
  have hown := C.1.2.2.2.1
  have hts := C.1.2.2.2.2
  intro n
  induction n with
  | zero =>
    intro μ x1 x2 hx1 hf H locs X ls hl
    rw [f2_readInto_1] at hf
    cases hf
  | succ n ih =>
    intro μ x1 x2 hx1 hf H locs X ls hl
    rw [f2_readInto_1] at hf
    refine lv_iload_n hx hb dX2_readInto_25 rfl (lv_at hl 2 rfl) ?_
    refine lv_iconst (v := 3) hx hb dX2_readInto_26 (by decide) ?_
    refine lv_icmp_ge (tgt := 61) hx hb dX2_readInto_27 (by decide) (fun c27 => ?_) (fun c27 => ?_)
    · replace hf := ifp c27 hf
      refine lv_aload_n hx hb dX2_readInto_61 rfl (lv_at hl 0 rfl) ?_
      refine lv_bipush (v := 21) hx hb dX2_readInto_62 (by decide) ?_
      obtain ⟨μ64, g64, hf⟩ := bd1_e hf
      refine qX2_37 g64 C X hl.1 ((Nat.le_of_ble_eq_true rfl)) ⟨(Nat.le_of_ble_eq_true rfl), (Nat.le_of_ble_eq_true rfl)⟩ ⟨Nat.zero_le _, Nat.zero_le _⟩ dX2_readInto_64 (fun H locs X => ?_)
      refine lv_aload_n hx hb dX2_readInto_67 rfl (lv_at hl 0 rfl) ?_
      refine gfX2_22 C X dX2_readInto_68 ?_
      exact retI C X hr rfl (so2 hf).1 (so2 hf).2 rfl dX2_readInto_71
    · replace hf := ifn c27 hf
      refine lv_aload_n hx hb dX2_readInto_30 rfl (lv_at hl 0 rfl) ?_
      refine lv_bipush (v := 6) hx hb dX2_readInto_31 (by decide) ?_
      refine lv_iload_n hx hb dX2_readInto_33 rfl (lv_at hl 2 rfl) ?_
      refine lv_iadd hx hb dX2_readInto_34 ?_
      obtain ⟨μ35, g35, hf⟩ := bd1_e hf
      refine qX2_37 g35 C X hl.1 ((Nat.le_of_ble_eq_true rfl)) ⟨(Nat.le_of_ble_eq_true rfl), (Nat.le_of_ble_eq_true rfl)⟩ ⟨Nat.zero_le _, Nat.zero_le _⟩ dX2_readInto_35 (fun H locs X => ?_)
      refine lv_aload_n hx hb dX2_readInto_38 rfl (lv_at hl 0 rfl) ?_
      refine lv_iconst (v := 0) hx hb dX2_readInto_39 (by decide) ?_
      refine lv_iconst (v := 0) hx hb dX2_readInto_40 (by decide) ?_
      obtain ⟨μ41, g41, hf⟩ := bd1_e hf
      refine qX2_41 g41 C X hl.1 ((Nat.le_of_ble_eq_true rfl)) ⟨(Nat.le_of_ble_eq_true rfl), (Nat.le_of_ble_eq_true rfl)⟩ ⟨Nat.zero_le _, Nat.zero_le _⟩ dX2_readInto_41 (fun H locs X => ?_)
      refine lv_aload_n hx hb dX2_readInto_44 rfl (lv_at hl 0 rfl) ?_
      refine lv_bipush (v := 14) hx hb dX2_readInto_45 (by decide) ?_
      obtain ⟨μ47, g47, hf⟩ := bd1_e hf
      refine qX2_37 g47 C X hl.1 ((Nat.le_of_ble_eq_true rfl)) ⟨(Nat.le_of_ble_eq_true rfl), (Nat.le_of_ble_eq_true rfl)⟩ ⟨Nat.zero_le _, Nat.zero_le _⟩ dX2_readInto_47 (fun H locs X => ?_)
      refine lv_aload_n hx hb dX2_readInto_50 rfl (lv_at hl 1 rfl) ?_
      refine lv_iload_n hx hb dX2_readInto_51 rfl (lv_at hl 2 rfl) ?_
      obtain ⟨μ52, g52, hf⟩ := bd1_e hf
      refine qX2_45 (t := x1) hx1 g52 C X hl.1 ((Nat.le_of_ble_eq_true rfl)) ⟨(Nat.le_of_ble_eq_true rfl), (Nat.le_of_ble_eq_true rfl)⟩ ⟨Nat.zero_le _, Nat.zero_le _⟩ dX2_readInto_52 (fun H locs X => ?_)
      obtain ⟨v55, e55, hf⟩ := nm_e2 hf
      refine rIinc (lv' := [(2, .int v55), (0, .ref (ad 3)), (1, .ref (ad (53 + 3 * x1)))]) hx hb dX2_readInto_55 hl (k := 2) rfl e55 rfl (by decide) rfl (fun ls hl => ?_)
      refine lv_goto (tgt := 25) hx hb dX2_readInto_58 (by decide) ?_
      exact ih μ52 x1 v55 hx1 hf _ _ X _ (lv_sub hl [1, 2, 0] rfl)
set_option maxRecDepth 100000 in
set_option maxHeartbeats 4000000 in
theorem w2_readInto {p : Program} {l : Launch} {e : Env} {s : State} {m : MethodId} {args : Array Value} {below : List Frame} {meth : Method} {c : Code} {D : va_G} {cy : Nat → ClassId} {ad : Nat → Nat} {r : Int32} {μ1 : Mem} {ν : Lem} (C : Cx true p s m args meth c cX2_readInto 3 RX2 D cy ad) (hr : meth.sig.returnType = some .int) : ∀ (μ : Mem) (x1 : Nat) (hx1 : x1 < 6), f2_readInto μ x1 = some (r, μ1) → ∀ (H : Heap) (locs : List Loc), Wd true D cy ad s.heap μ ν H locs → ∀ (ls : Array Slot), lv_has ls 3 [(0, .ref (ad 3)), (1, .ref (ad (53 + 3 * x1)))] → WI true p l e 173 4345 s m args below meth c D cy ad .int r μ1 ν H locs (F0 m 0 ls []) := by
  have hx := C.1.1
  have hb := C.1.2.1
  have hown := C.1.2.2.2.1
  have hts := C.1.2.2.2.2
  intro μ x1 hx1 hf H locs X ls hl
  unfold f2_readInto at hf
  refine lv_aload_n hx hb dX2_readInto_0 rfl (lv_at hl 0 rfl) ?_
  refine lv_iconst (v := 0) hx hb dX2_readInto_1 (by decide) ?_
  obtain ⟨μ2, e2, hf⟩ := nm_e2 hf
  refine pfX2_19 e2 C X dX2_readInto_2 (fun H locs X => ?_)
  refine lv_aload_n hx hb dX2_readInto_5 rfl (lv_at hl 0 rfl) ?_
  refine lv_iconst (v := (-1)) hx hb dX2_readInto_6 (by decide) ?_
  obtain ⟨μ7, e7, hf⟩ := nm_e2 hf
  refine pfX2_22 e7 C X dX2_readInto_7 (fun H locs X => ?_)
  refine lv_aload_n hx hb dX2_readInto_10 rfl (lv_at hl 0 rfl) ?_
  refine lv_aload_n hx hb dX2_readInto_11 rfl (lv_at hl 1 rfl) ?_
  obtain ⟨μ12, e12, hf⟩ := nm_e2 hf
  refine pfX2_25 e12 hx1 C X dX2_readInto_12 (fun H locs X => ?_)
  refine lv_aload_n hx hb dX2_readInto_15 rfl (lv_at hl 1 rfl) ?_
  obtain ⟨μ16, g16, hf⟩ := nm_e2 hf
  refine qX2_29 (t := x1) hx1 g16.symm C X hl.1 ((Nat.le_of_ble_eq_true rfl)) ⟨(Nat.le_of_ble_eq_true rfl), (Nat.le_of_ble_eq_true rfl)⟩ ⟨Nat.zero_le _, Nat.zero_le _⟩ dX2_readInto_16 (fun H locs X => ?_)
  refine lv_aload_n hx hb dX2_readInto_19 rfl (lv_at hl 0 rfl) ?_
  obtain ⟨μ20, g20, hf⟩ := bd1_e hf
  refine qX2_34 g20 C X hl.1 ((Nat.le_of_ble_eq_true rfl)) ⟨(Nat.le_of_ble_eq_true rfl), (Nat.le_of_ble_eq_true rfl)⟩ ⟨Nat.zero_le _, Nat.zero_le _⟩ dX2_readInto_20 (fun H locs X => ?_)
  refine lv_iconst (v := 0) hx hb dX2_readInto_23 (by decide) ?_
  refine lv_istore_n (lv' := [(2, .int 0), (0, .ref (ad 3)), (1, .ref (ad (53 + 3 * x1)))]) hx hb dX2_readInto_24 rfl hl (by decide) rfl (fun ls hl => ?_)
  exact w2_readInto_1 C hr  FUEL μ20 x1 0 hx1 hf _ _ X _ (lv_sub hl [1, 2, 0] rfl)
theorem ct2_readInto {x1 : Nat} (hx1 : x1 < 6) {μ : Mem} {ν : Lem} {r : Int32} {μ1 : Mem} (hg : f2_readInto μ x1 = some (r, μ1)) : CtI true yX2_readInto cX2_readInto 3 173 4345 .int (fun ad => [.ref (ad 3), .ref (ad (53 + 3 * x1))]) μ ν r μ1 ν :=
  mkI (by decide) rfl (fun ad => Nat.le_of_ble_eq_true rfl) (fun p l e s m args below meth c D cy ad C hr X ls hl => w2_readInto C hr μ x1 hx1 hg _ _ X _ hl)
theorem qX5_136 {p : Program} {l : Launch} {e : Env} {R : Room} {s : State} {m : MethodId} {args : Array Value} {below : List Frame} {meth : Method} {c : Code} {H : Heap} {locs : List Loc} {cells slots : Nat} {Q : State → Prop} {A : Nat → Prop} {cc : ByteArray} {nL : Nat} {D : va_G} {cy : Nat → ClassId} {ad : Nat → Nat} {μ : Mem} {ν : Lem} {pc : Nat} {ls : Array Slot} {rest : List Value} {x1 : Nat} (hx1 : x1 < 6) {r : Int32} {μ1 : Mem} (hg : f2_readInto μ x1 = some (r, μ1)) (C : CxA true A p s m args meth c cc nL RX5 D cy ad) (X : WdA true A D cy ad s.heap μ ν H locs) (hsz : ls.size = nL) (hrm : (rest.map fun v => v.category).sum ≤ 8) (hR : 173 + 1 ≤ R.frames ∧ 8 + (3 + 11) + 4345 ≤ R.locals) (hcs : cells ≤ R.cells ∧ slots ≤ R.slots) (hd : decode cc pc = .ok (.invokevirtual 136, 3)) (kk : ∀ (H1 : Heap) (locs1 : List Loc), WdA true A D cy ad s.heap μ1 ν H1 locs1 → narrow .int (.int r) = .int r → W p l e R s m args below meth c H1 locs1 cells slots Q (F0 m (pc + 3) ls (.int r :: rest))) : W p l e R s m args below meth c H locs cells slots Q (F0 m pc ls (.ref (ad (53 + 3 * x1)) :: .ref (ad 3) :: rest)) :=
  rCVI (As := [.ref (ad (53 + 3 * x1))]) (k := 3) (ct2_readInto hx1 hg) ok2 lX2_readInto k_285 rfl rfl rfl C X rfl hrm hsz hR hcs hd kk
set_option maxRecDepth 100000 in
set_option maxHeartbeats 4000000 in
theorem w3_becomeFirst {p : Program} {l : Launch} {e : Env} {s : State} {m : MethodId} {args : Array Value} {below : List Frame} {meth : Method} {c : Code} {D : va_G} {cy : Nat → ClassId} {ad : Nat → Nat} {μ1 : Mem} {ν : Lem} (C : Cx true p s m args meth c cX3_becomeFirst 1 RX3 D cy ad) (hr : meth.sig.returnType = none) : ∀ (μ : Mem) (t : Nat) (ht : t < 6), f3_becomeFirst μ t = some μ1 → ∀ (H : Heap) (locs : List Loc), Wd true D cy ad s.heap μ ν H locs → ∀ (ls : Array Slot), lv_has ls 1 [(0, .ref (ad (53 + 3 * t)))] → WV true p l e 1 21 s m args below meth c D cy ad μ1 ν H locs (F0 m 0 ls []) := by
  have hx := C.1.1
  have hb := C.1.2.1
  have hown := C.1.2.2.2.1
  have hts := C.1.2.2.2.2
  intro μ t ht hf H locs X ls hl
  unfold f3_becomeFirst at hf
  refine lv_aload_n hx hb dX3_becomeFirst_0 rfl (lv_at hl 0 rfl) ?_
  obtain ⟨μ1, g1, hf⟩ := nm_e2 hf
  refine qX3_22 (t := t) ht g1.symm C X hl.1 ((Nat.le_of_ble_eq_true rfl)) ⟨(Nat.le_of_ble_eq_true rfl), (Nat.le_of_ble_eq_true rfl)⟩ ⟨Nat.zero_le _, Nat.zero_le _⟩ dX3_becomeFirst_1 (fun H locs X => ?_)
  refine lv_aload_n hx hb dX3_becomeFirst_4 rfl (lv_at hl 0 rfl) ?_
  refine lv_sipush (v := 500) hx hb dX3_becomeFirst_5 (by decide) ?_
  obtain ⟨μ8, g8, hf⟩ := bd1_e hf
  refine qX3_25 (t := t) ht g8 C X hl.1 ((Nat.le_of_ble_eq_true rfl)) ⟨(Nat.le_of_ble_eq_true rfl), (Nat.le_of_ble_eq_true rfl)⟩ ⟨Nat.zero_le _, Nat.zero_le _⟩ dX3_becomeFirst_8 (fun H locs X => ?_)
  refine lv_aload_n hx hb dX3_becomeFirst_11 rfl (lv_at hl 0 rfl) ?_
  refine lv_iconst (v := 0) hx hb dX3_becomeFirst_12 (by decide) ?_
  obtain ⟨μ13, g13, hf⟩ := bd1_e hf
  refine qX3_29 (t := t) ht g13 C X hl.1 ((Nat.le_of_ble_eq_true rfl)) ⟨(Nat.le_of_ble_eq_true rfl), (Nat.le_of_ble_eq_true rfl)⟩ ⟨Nat.zero_le _, Nat.zero_le _⟩ dX3_becomeFirst_13 (fun H locs X => ?_)
  refine lv_aload_n hx hb dX3_becomeFirst_16 rfl (lv_at hl 0 rfl) ?_
  refine lv_iconst (v := 0) hx hb dX3_becomeFirst_17 (by decide) ?_
  obtain ⟨μ18, g18, hf⟩ := bd1_e hf
  refine qX3_25 (t := t) ht g18 C X hl.1 ((Nat.le_of_ble_eq_true rfl)) ⟨(Nat.le_of_ble_eq_true rfl), (Nat.le_of_ble_eq_true rfl)⟩ ⟨Nat.zero_le _, Nat.zero_le _⟩ dX3_becomeFirst_18 (fun H locs X => ?_)
  refine lv_aload_n hx hb dX3_becomeFirst_21 rfl (lv_at hl 0 rfl) ?_
  refine lv_iconst (v := 1) hx hb dX3_becomeFirst_22 (by decide) ?_
  obtain ⟨μ23, g23, hf⟩ := bd1_e hf
  refine qX3_29 (t := t) ht g23 C X hl.1 ((Nat.le_of_ble_eq_true rfl)) ⟨(Nat.le_of_ble_eq_true rfl), (Nat.le_of_ble_eq_true rfl)⟩ ⟨Nat.zero_le _, Nat.zero_le _⟩ dX3_becomeFirst_23 (fun H locs X => ?_)
  refine lv_aload_n hx hb dX3_becomeFirst_26 rfl (lv_at hl 0 rfl) ?_
  refine lv_bipush (v := (-2)) hx hb dX3_becomeFirst_27 (by decide) ?_
  obtain ⟨μ29, g29, hf⟩ := bd1_e hf
  refine qX3_25 (t := t) ht g29 C X hl.1 ((Nat.le_of_ble_eq_true rfl)) ⟨(Nat.le_of_ble_eq_true rfl), (Nat.le_of_ble_eq_true rfl)⟩ ⟨Nat.zero_le _, Nat.zero_le _⟩ dX3_becomeFirst_29 (fun H locs X => ?_)
  refine lv_aload_n hx hb dX3_becomeFirst_32 rfl (lv_at hl 0 rfl) ?_
  refine lv_iconst (v := 2) hx hb dX3_becomeFirst_33 (by decide) ?_
  obtain ⟨μ34, g34, hf⟩ := bd1_e hf
  refine qX3_29 (t := t) ht g34 C X hl.1 ((Nat.le_of_ble_eq_true rfl)) ⟨(Nat.le_of_ble_eq_true rfl), (Nat.le_of_ble_eq_true rfl)⟩ ⟨Nat.zero_le _, Nat.zero_le _⟩ dX3_becomeFirst_34 (fun H locs X => ?_)
  exact retV C X hr (Option.some.inj hf) rfl dX3_becomeFirst_37
theorem ct3_becomeFirst {t : Nat} (ht : t < 6) {μ : Mem} {ν : Lem} {μ1 : Mem} (hg : f3_becomeFirst μ t = some μ1) : CtV true yX3_becomeFirst cX3_becomeFirst 1 1 21 (fun ad => [.ref (ad (53 + 3 * t))]) μ ν μ1 ν :=
  mkV (by decide) rfl (fun ad => Nat.le_of_ble_eq_true rfl) (fun p l e s m args below meth c D cy ad C hr X ls hl => w3_becomeFirst C hr μ t ht hg _ _ X _ hl)
theorem qX5_63 {p : Program} {l : Launch} {e : Env} {R : Room} {s : State} {m : MethodId} {args : Array Value} {below : List Frame} {meth : Method} {c : Code} {H : Heap} {locs : List Loc} {cells slots : Nat} {Q : State → Prop} {A : Nat → Prop} {cc : ByteArray} {nL : Nat} {D : va_G} {cy : Nat → ClassId} {ad : Nat → Nat} {μ : Mem} {ν : Lem} {pc : Nat} {ls : Array Slot} {rest : List Value} {t : Nat} (ht : t < 6) {μ1 : Mem} (hg : f3_becomeFirst μ t = some μ1) (C : CxA true A p s m args meth c cc nL RX5 D cy ad) (X : WdA true A D cy ad s.heap μ ν H locs) (hsz : ls.size = nL) (hrm : (rest.map fun v => v.category).sum ≤ 8) (hR : 1 + 1 ≤ R.frames ∧ 8 + (1 + 11) + 21 ≤ R.locals) (hcs : cells ≤ R.cells ∧ slots ≤ R.slots) (hd : decode cc pc = .ok (.invokevirtual 63, 3)) (kk : ∀ (H1 : Heap) (locs1 : List Loc), WdA true A D cy ad s.heap μ1 ν H1 locs1 → W p l e R s m args below meth c H1 locs1 cells slots Q (F0 m (pc + 3) ls rest)) : W p l e R s m args below meth c H locs cells slots Q (F0 m pc ls (.ref (ad (53 + 3 * t)) :: rest)) :=
  rCVV (As := []) (k := 53 + 3 * t) (ct3_becomeFirst ht hg) ok3 lX3_becomeFirst k_148 (sT ht) rfl rfl C X rfl hrm hsz hR hcs hd kk
set_option maxRecDepth 100000 in
set_option maxHeartbeats 4000000 in
theorem w3_truth {p : Program} {l : Launch} {e : Env} {s : State} {m : MethodId} {args : Array Value} {below : List Frame} {meth : Method} {c : Code} {D : va_G} {cy : Nat → ClassId} {ad : Nat → Nat} {r : Int32} {μ : Mem} {ν : Lem} (C : Cx true p s m args meth c cX3_truth 1 RX3 D cy ad) (hr : meth.sig.returnType = some .int) : ∀ (x0 : Int32), f3_truth x0 = r → ∀ (H : Heap) (locs : List Loc), Wd true D cy ad s.heap μ ν H locs → ∀ (ls : Array Slot), lv_has ls 1 [(0, .int x0)] → WI true p l e 0 0 s m args below meth c D cy ad .int r μ ν H locs (F0 m 0 ls []) := by
  have hx := C.1.1
  have hb := C.1.2.1
  have hown := C.1.2.2.2.1
  have hts := C.1.2.2.2.2
  intro x0 hf H locs X ls hl
  unfold f3_truth at hf
  refine lv_iload_n hx hb dX3_truth_0 rfl (lv_at hl 0 rfl) ?_
  refine lv_if_eq (tgt := 8) hx hb dX3_truth_1 (by decide) (fun c1 => ?_) (fun c1 => ?_)
  · replace hf := ifp c1 hf
    refine lv_iconst (v := 0) hx hb dX3_truth_8 (by decide) ?_
    exact retI C X hr rfl hf rfl rfl dX3_truth_9
  · replace hf := ifn c1 hf
    refine lv_iconst (v := 1) hx hb dX3_truth_4 (by decide) ?_
    refine lv_goto (tgt := 9) hx hb dX3_truth_5 (by decide) ?_
    exact retI C X hr rfl hf rfl rfl dX3_truth_9
theorem ct3_truth {x0 : Int32} {μ : Mem} {ν : Lem} {r : Int32} (hg : f3_truth x0 = r) : CtI true yX3_truth cX3_truth 1 0 0 .int (fun ad => [.int x0]) μ ν r μ ν :=
  mkI (by decide) rfl (fun ad => Nat.le_of_ble_eq_true rfl) (fun p l e s m args below meth c D cy ad C hr X ls hl => w3_truth C hr x0 hg _ _ X _ hl)
theorem qX3_32 {p : Program} {l : Launch} {e : Env} {R : Room} {s : State} {m : MethodId} {args : Array Value} {below : List Frame} {meth : Method} {c : Code} {H : Heap} {locs : List Loc} {cells slots : Nat} {Q : State → Prop} {A : Nat → Prop} {cc : ByteArray} {nL : Nat} {D : va_G} {cy : Nat → ClassId} {ad : Nat → Nat} {μ : Mem} {ν : Lem} {pc : Nat} {ls : Array Slot} {rest : List Value} {x0 : Int32} {r : Int32} (hg : f3_truth x0 = r) (C : CxA true A p s m args meth c cc nL RX3 D cy ad) (X : WdA true A D cy ad s.heap μ ν H locs) (hsz : ls.size = nL) (hrm : (rest.map fun v => v.category).sum ≤ 8) (hR : 0 + 1 ≤ R.frames ∧ 8 + (1 + 11) + 0 ≤ R.locals) (hcs : cells ≤ R.cells ∧ slots ≤ R.slots) (hd : decode cc pc = .ok (.invokestatic 32, 3)) (kk : ∀ (H1 : Heap) (locs1 : List Loc), WdA true A D cy ad s.heap μ ν H1 locs1 → narrow .int (.int r) = .int r → W p l e R s m args below meth c H1 locs1 cells slots Q (F0 m (pc + 3) ls (.int r :: rest))) : W p l e R s m args below meth c H locs cells slots Q (F0 m pc ls (.int x0 :: rest)) :=
  rCSI (As := [.int x0]) (ct3_truth hg) lX3_truth k_499 rfl rfl C X rfl hrm hsz hR hcs hd kk
set_option maxRecDepth 100000 in
set_option maxHeartbeats 4000000 in
theorem w3_joined_6 {p : Program} {l : Launch} {e : Env} {s : State} {m : MethodId} {args : Array Value} {below : List Frame} {meth : Method} {c : Code} {D : va_G} {cy : Nat → ClassId} {ad : Nat → Nat} {r : Int32} {μ : Mem} {ν : Lem} (C : Cx true p s m args meth c cX3_joined 3 RX3 D cy ad) (hr : meth.sig.returnType = some .int) : ∀ (t0 : Int32), f3_joined_6 t0 = r → ∀ (H : Heap) (locs : List Loc), Wd true D cy ad s.heap μ ν H locs → ∀ (ls : Array Slot), lv_has ls 3 [] → WI true p l e 1 20 s m args below meth c D cy ad .int r μ ν H locs (F0 m 118 ls [.int t0]) := by
  have hx := C.1.1
  have hb := C.1.2.1
  have hown := C.1.2.2.2.1
  have hts := C.1.2.2.2.2
  intro t0 hf H locs X ls hl
  unfold f3_joined_6 at hf
  refine qX3_32 rfl C X hl.1 ((Nat.le_of_ble_eq_true rfl)) ⟨(Nat.le_of_ble_eq_true rfl), (Nat.le_of_ble_eq_true rfl)⟩ ⟨Nat.zero_le _, Nat.zero_le _⟩ dX3_joined_118 (fun H locs X b118 => ?_)
  exact retI C X hr rfl hf rfl rfl dX3_joined_121
set_option maxRecDepth 100000 in
set_option maxHeartbeats 4000000 in
theorem w3_joined_5 {p : Program} {l : Launch} {e : Env} {s : State} {m : MethodId} {args : Array Value} {below : List Frame} {meth : Method} {c : Code} {D : va_G} {cy : Nat → ClassId} {ad : Nat → Nat} {r : Int32} {μ : Mem} {ν : Lem} (C : Cx true p s m args meth c cX3_joined 3 RX3 D cy ad) (hr : meth.sig.returnType = some .int) : ∀ (t0 : Int32), f3_joined_5 t0 = r → ∀ (H : Heap) (locs : List Loc), Wd true D cy ad s.heap μ ν H locs → ∀ (ls : Array Slot), lv_has ls 3 [] → WI true p l e 1 20 s m args below meth c D cy ad .int r μ ν H locs (F0 m 104 ls [.int t0]) := by
  have hx := C.1.1
  have hb := C.1.2.1
  have hown := C.1.2.2.2.1
  have hts := C.1.2.2.2.2
  intro t0 hf H locs X ls hl
  unfold f3_joined_5 at hf
  refine qX3_32 rfl C X hl.1 ((Nat.le_of_ble_eq_true rfl)) ⟨(Nat.le_of_ble_eq_true rfl), (Nat.le_of_ble_eq_true rfl)⟩ ⟨Nat.zero_le _, Nat.zero_le _⟩ dX3_joined_104 (fun H locs X b104 => ?_)
  exact retI C X hr rfl hf rfl rfl dX3_joined_107
set_option maxRecDepth 100000 in
set_option maxHeartbeats 4000000 in
theorem w3_joined_4 {p : Program} {l : Launch} {e : Env} {s : State} {m : MethodId} {args : Array Value} {below : List Frame} {meth : Method} {c : Code} {D : va_G} {cy : Nat → ClassId} {ad : Nat → Nat} {r : Int32} {μ : Mem} {ν : Lem} (C : Cx true p s m args meth c cX3_joined 3 RX3 D cy ad) (hr : meth.sig.returnType = some .int) : ∀ (t0 : Int32), f3_joined_4 t0 = r → ∀ (H : Heap) (locs : List Loc), Wd true D cy ad s.heap μ ν H locs → ∀ (ls : Array Slot), lv_has ls 3 [] → WI true p l e 1 20 s m args below meth c D cy ad .int r μ ν H locs (F0 m 90 ls [.int t0]) := by
  have hx := C.1.1
  have hb := C.1.2.1
  have hown := C.1.2.2.2.1
  have hts := C.1.2.2.2.2
  intro t0 hf H locs X ls hl
  unfold f3_joined_4 at hf
  refine qX3_32 rfl C X hl.1 ((Nat.le_of_ble_eq_true rfl)) ⟨(Nat.le_of_ble_eq_true rfl), (Nat.le_of_ble_eq_true rfl)⟩ ⟨Nat.zero_le _, Nat.zero_le _⟩ dX3_joined_90 (fun H locs X b90 => ?_)
  exact retI C X hr rfl hf rfl rfl dX3_joined_93
set_option maxRecDepth 100000 in
set_option maxHeartbeats 4000000 in
theorem w3_joined_3 {p : Program} {l : Launch} {e : Env} {s : State} {m : MethodId} {args : Array Value} {below : List Frame} {meth : Method} {c : Code} {D : va_G} {cy : Nat → ClassId} {ad : Nat → Nat} {r : Int32} {μ : Mem} {ν : Lem} (C : Cx true p s m args meth c cX3_joined 3 RX3 D cy ad) (hr : meth.sig.returnType = some .int) : f3_joined_3 = r → ∀ (H : Heap) (locs : List Loc), Wd true D cy ad s.heap μ ν H locs → ∀ (ls : Array Slot), lv_has ls 3 [] → WI true p l e 1 20 s m args below meth c D cy ad .int r μ ν H locs (F0 m 89 ls []) := by
  have hx := C.1.1
  have hb := C.1.2.1
  have hown := C.1.2.2.2.1
  have hts := C.1.2.2.2.2
  intro hf H locs X ls hl
  unfold f3_joined_3 at hf
  refine lv_iconst (v := 0) hx hb dX3_joined_89 (by decide) ?_
  exact w3_joined_4 C hr  0 hf _ _ X _ (lv_sub hl [] rfl)
set_option maxRecDepth 100000 in
set_option maxHeartbeats 4000000 in
theorem w3_joined_2 {p : Program} {l : Launch} {e : Env} {s : State} {m : MethodId} {args : Array Value} {below : List Frame} {meth : Method} {c : Code} {D : va_G} {cy : Nat → ClassId} {ad : Nat → Nat} {r : Int32} {μ : Mem} {ν : Lem} (C : Cx true p s m args meth c cX3_joined 3 RX3 D cy ad) (hr : meth.sig.returnType = some .int) : ∀ (t0 : Int32), f3_joined_2 t0 = r → ∀ (H : Heap) (locs : List Loc), Wd true D cy ad s.heap μ ν H locs → ∀ (ls : Array Slot), lv_has ls 3 [] → WI true p l e 1 20 s m args below meth c D cy ad .int r μ ν H locs (F0 m 73 ls [.int t0]) := by
  have hx := C.1.1
  have hb := C.1.2.1
  have hown := C.1.2.2.2.1
  have hts := C.1.2.2.2.2
  intro t0 hf H locs X ls hl
  unfold f3_joined_2 at hf
  refine qX3_32 rfl C X hl.1 ((Nat.le_of_ble_eq_true rfl)) ⟨(Nat.le_of_ble_eq_true rfl), (Nat.le_of_ble_eq_true rfl)⟩ ⟨Nat.zero_le _, Nat.zero_le _⟩ dX3_joined_73 (fun H locs X b73 => ?_)
  exact retI C X hr rfl hf rfl rfl dX3_joined_76
set_option maxRecDepth 100000 in
set_option maxHeartbeats 4000000 in
theorem w3_joined_1 {p : Program} {l : Launch} {e : Env} {s : State} {m : MethodId} {args : Array Value} {below : List Frame} {meth : Method} {c : Code} {D : va_G} {cy : Nat → ClassId} {ad : Nat → Nat} {r : Int32} {μ : Mem} {ν : Lem} (C : Cx true p s m args meth c cX3_joined 3 RX3 D cy ad) (hr : meth.sig.returnType = some .int) : f3_joined_1 = r → ∀ (H : Heap) (locs : List Loc), Wd true D cy ad s.heap μ ν H locs → ∀ (ls : Array Slot), lv_has ls 3 [] → WI true p l e 1 20 s m args below meth c D cy ad .int r μ ν H locs (F0 m 68 ls []) := by
  have hx := C.1.1
  have hb := C.1.2.1
  have hown := C.1.2.2.2.1
  have hts := C.1.2.2.2.2
  intro hf H locs X ls hl
  unfold f3_joined_1 at hf
  refine lv_iconst (v := 1) hx hb dX3_joined_68 (by decide) ?_
  refine lv_goto (tgt := 73) hx hb dX3_joined_69 (by decide) ?_
  exact w3_joined_2 C hr  1 hf _ _ X _ (lv_sub hl [] rfl)
set_option maxRecDepth 100000 in
set_option maxHeartbeats 4000000 in
theorem w3_joined {p : Program} {l : Launch} {e : Env} {s : State} {m : MethodId} {args : Array Value} {below : List Frame} {meth : Method} {c : Code} {D : va_G} {cy : Nat → ClassId} {ad : Nat → Nat} {r : Int32} {μ : Mem} {ν : Lem} (C : Cx true p s m args meth c cX3_joined 3 RX3 D cy ad) (hr : meth.sig.returnType = some .int) : ∀ (x0 : Int32) (x1 : Int32) (x2 : Int32), f3_joined x0 x1 x2 = r → ∀ (H : Heap) (locs : List Loc), Wd true D cy ad s.heap μ ν H locs → ∀ (ls : Array Slot), lv_has ls 3 [(0, .int x0), (1, .int x1), (2, .int x2)] → WI true p l e 1 20 s m args below meth c D cy ad .int r μ ν H locs (F0 m 0 ls []) := by
  have hx := C.1.1
  have hb := C.1.2.1
  have hown := C.1.2.2.2.1
  have hts := C.1.2.2.2.2
  intro x0 x1 x2 hf H locs X ls hl
  unfold f3_joined at hf
  refine lv_iload_n hx hb dX3_joined_0 rfl (lv_at hl 0 rfl) ?_
  by_cases c1_9 : x0 = 9
  · replace hf := ifp c1_9 hf
    refine rTab (v := 9) (off := 59) (tgt := 60) hx hb c1_9 dX3_joined_1 (by decide) (by decide) rfl (by decide) ?_
    refine lv_iload_n hx hb dX3_joined_60 rfl (lv_at hl 1 rfl) ?_
    refine lv_if_ne (tgt := 68) hx hb dX3_joined_61 (by decide) (fun c61 => ?_) (fun c61 => ?_)
    · replace hf := ifn c61 hf
      exact w3_joined_1 C hr  hf _ _ X _ (lv_sub hl [] rfl)
    · replace hf := ifp c61 hf
      refine lv_iload_n hx hb dX3_joined_64 rfl (lv_at hl 2 rfl) ?_
      refine lv_if_eq (tgt := 72) hx hb dX3_joined_65 (by decide) (fun c65 => ?_) (fun c65 => ?_)
      · replace hf := ifp c65 hf
        refine lv_iconst (v := 0) hx hb dX3_joined_72 (by decide) ?_
        exact w3_joined_2 C hr  0 hf _ _ X _ (lv_sub hl [] rfl)
      · replace hf := ifn c65 hf
        exact w3_joined_1 C hr  hf _ _ X _ (lv_sub hl [] rfl)
  · replace hf := ifn c1_9 hf
    by_cases c1_10 : x0 = 10
    · replace hf := ifp c1_10 hf
      refine rTab (v := 10) (off := 76) (tgt := 77) hx hb c1_10 dX3_joined_1 (by decide) (by decide) rfl (by decide) ?_
      refine lv_iload_n hx hb dX3_joined_77 rfl (lv_at hl 1 rfl) ?_
      refine lv_if_eq (tgt := 89) hx hb dX3_joined_78 (by decide) (fun c78 => ?_) (fun c78 => ?_)
      · replace hf := ifp c78 hf
        exact w3_joined_3 C hr  hf _ _ X _ (lv_sub hl [] rfl)
      · replace hf := ifn c78 hf
        refine lv_iload_n hx hb dX3_joined_81 rfl (lv_at hl 2 rfl) ?_
        refine lv_if_eq (tgt := 89) hx hb dX3_joined_82 (by decide) (fun c82 => ?_) (fun c82 => ?_)
        · replace hf := ifp c82 hf
          exact w3_joined_3 C hr  hf _ _ X _ (lv_sub hl [] rfl)
        · replace hf := ifn c82 hf
          refine lv_iconst (v := 1) hx hb dX3_joined_85 (by decide) ?_
          refine lv_goto (tgt := 90) hx hb dX3_joined_86 (by decide) ?_
          exact w3_joined_4 C hr  1 hf _ _ X _ (lv_sub hl [] rfl)
    · replace hf := ifn c1_10 hf
      by_cases c1_15 : x0 = 15
      · replace hf := ifp c1_15 hf
        refine rTab (v := 15) (off := 121) (tgt := 122) hx hb c1_15 dX3_joined_1 (by decide) (by decide) rfl (by decide) ?_
        refine lv_iload_n hx hb dX3_joined_122 rfl (lv_at hl 1 rfl) ?_
        refine lv_iload_n hx hb dX3_joined_123 rfl (lv_at hl 2 rfl) ?_
        refine lv_iadd hx hb dX3_joined_124 ?_
        exact retI C X hr rfl hf rfl rfl dX3_joined_125
      · replace hf := ifn c1_15 hf
        by_cases c1_16 : x0 = 16
        · replace hf := ifp c1_16 hf
          refine rTab (v := 16) (off := 125) (tgt := 126) hx hb c1_16 dX3_joined_1 (by decide) (by decide) rfl (by decide) ?_
          refine lv_iload_n hx hb dX3_joined_126 rfl (lv_at hl 1 rfl) ?_
          refine lv_iload_n hx hb dX3_joined_127 rfl (lv_at hl 2 rfl) ?_
          refine lv_isub hx hb dX3_joined_128 ?_
          exact retI C X hr rfl hf rfl rfl dX3_joined_129
        · replace hf := ifn c1_16 hf
          by_cases c1_18 : x0 = 18
          · replace hf := ifp c1_18 hf
            refine rTab (v := 18) (off := 93) (tgt := 94) hx hb c1_18 dX3_joined_1 (by decide) (by decide) rfl (by decide) ?_
            refine lv_iload_n hx hb dX3_joined_94 rfl (lv_at hl 1 rfl) ?_
            refine lv_iload_n hx hb dX3_joined_95 rfl (lv_at hl 2 rfl) ?_
            refine lv_icmp_ge (tgt := 103) hx hb dX3_joined_96 (by decide) (fun c96 => ?_) (fun c96 => ?_)
            · replace hf := ifp c96 hf
              refine lv_iconst (v := 0) hx hb dX3_joined_103 (by decide) ?_
              exact w3_joined_5 C hr  0 hf _ _ X _ (lv_sub hl [] rfl)
            · replace hf := ifn c96 hf
              refine lv_iconst (v := 1) hx hb dX3_joined_99 (by decide) ?_
              refine lv_goto (tgt := 104) hx hb dX3_joined_100 (by decide) ?_
              exact w3_joined_5 C hr  1 hf _ _ X _ (lv_sub hl [] rfl)
          · replace hf := ifn c1_18 hf
            by_cases c1_19 : x0 = 19
            · replace hf := ifp c1_19 hf
              refine rTab (v := 19) (off := 107) (tgt := 108) hx hb c1_19 dX3_joined_1 (by decide) (by decide) rfl (by decide) ?_
              refine lv_iload_n hx hb dX3_joined_108 rfl (lv_at hl 1 rfl) ?_
              refine lv_iload_n hx hb dX3_joined_109 rfl (lv_at hl 2 rfl) ?_
              refine lv_icmp_ne (tgt := 117) hx hb dX3_joined_110 (by decide) (fun c110 => ?_) (fun c110 => ?_)
              · replace hf := ifn c110 hf
                refine lv_iconst (v := 0) hx hb dX3_joined_117 (by decide) ?_
                exact w3_joined_6 C hr  0 hf _ _ X _ (lv_sub hl [] rfl)
              · replace hf := ifp c110 hf
                refine lv_iconst (v := 1) hx hb dX3_joined_113 (by decide) ?_
                refine lv_goto (tgt := 118) hx hb dX3_joined_114 (by decide) ?_
                exact w3_joined_6 C hr  1 hf _ _ X _ (lv_sub hl [] rfl)
            · replace hf := ifn c1_19 hf
              by_cases c1_11 : x0 = 11
              · refine rTab (v := 11) (off := 129) (tgt := 130) hx hb c1_11 dX3_joined_1 (by decide) (by decide) rfl (by decide) ?_
                refine lv_iload_n hx hb dX3_joined_130 rfl (lv_at hl 1 rfl) ?_
                refine lv_iload_n hx hb dX3_joined_131 rfl (lv_at hl 2 rfl) ?_
                refine lv_imul hx hb dX3_joined_132 ?_
                exact retI C X hr rfl hf rfl rfl dX3_joined_133
              ·
                by_cases c1_12 : x0 = 12
                · refine rTab (v := 12) (off := 129) (tgt := 130) hx hb c1_12 dX3_joined_1 (by decide) (by decide) rfl (by decide) ?_
                  refine lv_iload_n hx hb dX3_joined_130 rfl (lv_at hl 1 rfl) ?_
                  refine lv_iload_n hx hb dX3_joined_131 rfl (lv_at hl 2 rfl) ?_
                  refine lv_imul hx hb dX3_joined_132 ?_
                  exact retI C X hr rfl hf rfl rfl dX3_joined_133
                ·
                  by_cases c1_13 : x0 = 13
                  · refine rTab (v := 13) (off := 129) (tgt := 130) hx hb c1_13 dX3_joined_1 (by decide) (by decide) rfl (by decide) ?_
                    refine lv_iload_n hx hb dX3_joined_130 rfl (lv_at hl 1 rfl) ?_
                    refine lv_iload_n hx hb dX3_joined_131 rfl (lv_at hl 2 rfl) ?_
                    refine lv_imul hx hb dX3_joined_132 ?_
                    exact retI C X hr rfl hf rfl rfl dX3_joined_133
                  ·
                    by_cases c1_14 : x0 = 14
                    · refine rTab (v := 14) (off := 129) (tgt := 130) hx hb c1_14 dX3_joined_1 (by decide) (by decide) rfl (by decide) ?_
                      refine lv_iload_n hx hb dX3_joined_130 rfl (lv_at hl 1 rfl) ?_
                      refine lv_iload_n hx hb dX3_joined_131 rfl (lv_at hl 2 rfl) ?_
                      refine lv_imul hx hb dX3_joined_132 ?_
                      exact retI C X hr rfl hf rfl rfl dX3_joined_133
                    ·
                      by_cases c1_17 : x0 = 17
                      · refine rTab (v := 17) (off := 129) (tgt := 130) hx hb c1_17 dX3_joined_1 (by decide) (by decide) rfl (by decide) ?_
                        refine lv_iload_n hx hb dX3_joined_130 rfl (lv_at hl 1 rfl) ?_
                        refine lv_iload_n hx hb dX3_joined_131 rfl (lv_at hl 2 rfl) ?_
                        refine lv_imul hx hb dX3_joined_132 ?_
                        exact retI C X hr rfl hf rfl rfl dX3_joined_133
                      ·
                        refine rTabOut hx hb 130 dX3_joined_1 (by decide) (tab_out 9 11 rfl rfl (by decide) (fun k hk => ?_)) ?_
                        · rcases (show k = 0 ∨ k = 1 ∨ k = 2 ∨ k = 3 ∨ k = 4 ∨ k = 5 ∨ k = 6 ∨ k = 7 ∨ k = 8 ∨ k = 9 ∨ k = 10 by omega) with rfl | rfl | rfl | rfl | rfl | rfl | rfl | rfl | rfl | rfl | rfl
                          · exact c1_9
                          · exact c1_10
                          · exact c1_11
                          · exact c1_12
                          · exact c1_13
                          · exact c1_14
                          · exact c1_15
                          · exact c1_16
                          · exact c1_17
                          · exact c1_18
                          · exact c1_19
                        refine lv_iload_n hx hb dX3_joined_130 rfl (lv_at hl 1 rfl) ?_
                        refine lv_iload_n hx hb dX3_joined_131 rfl (lv_at hl 2 rfl) ?_
                        refine lv_imul hx hb dX3_joined_132 ?_
                        exact retI C X hr rfl hf rfl rfl dX3_joined_133
theorem ct3_joined {x0 : Int32} {x1 : Int32} {x2 : Int32} {μ : Mem} {ν : Lem} {r : Int32} (hg : f3_joined x0 x1 x2 = r) : CtI true yX3_joined cX3_joined 3 1 20 .int (fun ad => [.int x0, .int x1, .int x2]) μ ν r μ ν :=
  mkI (by decide) rfl (fun ad => Nat.le_of_ble_eq_true rfl) (fun p l e s m args below meth c D cy ad C hr X ls hl => w3_joined C hr x0 x1 x2 hg _ _ X _ hl)
theorem qX3_36 {p : Program} {l : Launch} {e : Env} {R : Room} {s : State} {m : MethodId} {args : Array Value} {below : List Frame} {meth : Method} {c : Code} {H : Heap} {locs : List Loc} {cells slots : Nat} {Q : State → Prop} {A : Nat → Prop} {cc : ByteArray} {nL : Nat} {D : va_G} {cy : Nat → ClassId} {ad : Nat → Nat} {μ : Mem} {ν : Lem} {pc : Nat} {ls : Array Slot} {rest : List Value} {x0 : Int32} {x1 : Int32} {x2 : Int32} {r : Int32} (hg : f3_joined x0 x1 x2 = r) (C : CxA true A p s m args meth c cc nL RX3 D cy ad) (X : WdA true A D cy ad s.heap μ ν H locs) (hsz : ls.size = nL) (hrm : (rest.map fun v => v.category).sum ≤ 8) (hR : 1 + 1 ≤ R.frames ∧ 8 + (3 + 11) + 20 ≤ R.locals) (hcs : cells ≤ R.cells ∧ slots ≤ R.slots) (hd : decode cc pc = .ok (.invokestatic 36, 3)) (kk : ∀ (H1 : Heap) (locs1 : List Loc), WdA true A D cy ad s.heap μ ν H1 locs1 → narrow .int (.int r) = .int r → W p l e R s m args below meth c H1 locs1 cells slots Q (F0 m (pc + 3) ls (.int r :: rest))) : W p l e R s m args below meth c H locs cells slots Q (F0 m pc ls (.int x2 :: .int x1 :: .int x0 :: rest)) :=
  rCSI (As := [.int x0, .int x1, .int x2]) (ct3_joined hg) lX3_joined k_502 rfl rfl C X rfl hrm hsz hR hcs hd kk
set_option maxRecDepth 100000 in
set_option maxHeartbeats 4000000 in
theorem w3_tell_4 {p : Program} {l : Launch} {e : Env} {s : State} {m : MethodId} {args : Array Value} {below : List Frame} {meth : Method} {c : Code} {D : va_G} {cy : Nat → ClassId} {ad : Nat → Nat} {r : Int32} {μ1 : Mem} {ν : Lem} (C : Cx true p s m args meth c cX3_tell 7 RX3 D cy ad) (hr : meth.sig.returnType = some .int) (K21 : Mem → Nat → Int32 → Int32 → Int32 → Option (Int32 × Mem)) (hK21 : ∀ (μ : Mem) (t : Nat) (x1 : Int32) (x4 : Int32) (x5 : Int32) (ht : t < 6), K21 μ t x1 x4 x5 = some (r, μ1) → ∀ (H : Heap) (locs : List Loc), Wd true D cy ad s.heap μ ν H locs → ∀ (ls : Array Slot), lv_has ls 7 [(0, .ref (ad (53 + 3 * t))), (1, .int x1), (2, .ref (ad 9)), (3, .ref (ad 10)), (4, .int x4), (5, .int x5)] → WI true p l e 2 42 s m args below meth c D cy ad .int r μ1 ν H locs (F0 m 21 ls [])) : ∀ (μ : Mem) (t : Nat) (x1 : Int32) (x4 : Int32) (x5 : Int32) (t1 : Int32) (t2 : Int32) (ht : t < 6), f3_tell_4 K21 μ t x1 x4 x5 t1 t2 = some (r, μ1) → ∀ (H : Heap) (locs : List Loc), Wd true D cy ad s.heap μ ν H locs → ∀ (ls : Array Slot), lv_has ls 7 [(0, .ref (ad (53 + 3 * t))), (1, .int x1), (2, .ref (ad 9)), (3, .ref (ad 10)), (4, .int x4), (5, .int x5)] → WI true p l e 2 42 s m args below meth c D cy ad .int r μ1 ν H locs (F0 m 150 ls [.int t2, .int t1, .ref (ad 10)]) := by
  have hx := C.1.1
  have hb := C.1.2.1
  have hown := C.1.2.2.2.1
  have hts := C.1.2.2.2.2
  intro μ t x1 x4 x5 t1 t2 ht hf H locs X ls hl
  unfold f3_tell_4 at hf
  refine qX3_32 rfl C X hl.1 ((Nat.le_of_ble_eq_true rfl)) ⟨(Nat.le_of_ble_eq_true rfl), (Nat.le_of_ble_eq_true rfl)⟩ ⟨Nat.zero_le _, Nat.zero_le _⟩ dX3_tell_150 (fun H locs X b150 => ?_)
  obtain ⟨h153, hf⟩ := gd_e hf
  obtain ⟨μ153, e153, hf⟩ := nm_e2 hf
  refine rIast2 C X rfl h153 e153 dX3_tell_153 (fun H locs X => ?_)
  refine lv_goto (tgt := 189) hx hb dX3_tell_154 (by decide) ?_
  obtain ⟨v189, e189, hf⟩ := nm_e2 hf
  refine rIinc (lv' := [(5, .int v189), (0, .ref (ad (53 + 3 * t))), (1, .int x1), (2, .ref (ad 9)), (3, .ref (ad 10)), (4, .int x4)]) hx hb dX3_tell_189 hl (k := 5) rfl e189 rfl (by decide) rfl (fun ls hl => ?_)
  refine lv_goto (tgt := 21) hx hb dX3_tell_192 (by decide) ?_
  exact hK21 μ153 t x1 x4 v189 ht hf _ _ X _ (lv_sub hl [1, 2, 3, 4, 5, 0] rfl)
set_option maxRecDepth 100000 in
set_option maxHeartbeats 4000000 in
theorem w3_tell_3 {p : Program} {l : Launch} {e : Env} {s : State} {m : MethodId} {args : Array Value} {below : List Frame} {meth : Method} {c : Code} {D : va_G} {cy : Nat → ClassId} {ad : Nat → Nat} {r : Int32} {μ1 : Mem} {ν : Lem} (C : Cx true p s m args meth c cX3_tell 7 RX3 D cy ad) (hr : meth.sig.returnType = some .int) (K21 : Mem → Nat → Int32 → Int32 → Int32 → Option (Int32 × Mem)) (hK21 : ∀ (μ : Mem) (t : Nat) (x1 : Int32) (x4 : Int32) (x5 : Int32) (ht : t < 6), K21 μ t x1 x4 x5 = some (r, μ1) → ∀ (H : Heap) (locs : List Loc), Wd true D cy ad s.heap μ ν H locs → ∀ (ls : Array Slot), lv_has ls 7 [(0, .ref (ad (53 + 3 * t))), (1, .int x1), (2, .ref (ad 9)), (3, .ref (ad 10)), (4, .int x4), (5, .int x5)] → WI true p l e 2 42 s m args below meth c D cy ad .int r μ1 ν H locs (F0 m 21 ls [])) : ∀ (μ : Mem) (t : Nat) (x1 : Int32) (x4 : Int32) (x5 : Int32) (x6 : Int32) (ht : t < 6), f3_tell_3 K21 μ t x1 x4 x5 x6 = some (r, μ1) → ∀ (H : Heap) (locs : List Loc), Wd true D cy ad s.heap μ ν H locs → ∀ (ls : Array Slot), lv_has ls 7 [(0, .ref (ad (53 + 3 * t))), (1, .int x1), (2, .ref (ad 9)), (3, .ref (ad 10)), (4, .int x4), (5, .int x5), (6, .int x6)] → WI true p l e 2 42 s m args below meth c D cy ad .int r μ1 ν H locs (F0 m 106 ls []) := by
  have hx := C.1.1
  have hb := C.1.2.1
  have hown := C.1.2.2.2.1
  have hts := C.1.2.2.2.2
  intro μ t x1 x4 x5 x6 ht hf H locs X ls hl
  unfold f3_tell_3 at hf
  refine lv_iload hx hb dX3_tell_106 (lv_at hl 4 rfl) ?_
  refine lv_iconst (v := 1) hx hb dX3_tell_108 (by decide) ?_
  refine lv_icmp_lt (tgt := 189) hx hb dX3_tell_109 (by decide) (fun c109 => ?_) (fun c109 => ?_)
  · replace hf := ifp c109 hf
    obtain ⟨v189, e189, hf⟩ := nm_e2 hf
    refine rIinc (lv' := [(5, .int v189), (0, .ref (ad (53 + 3 * t))), (1, .int x1), (2, .ref (ad 9)), (3, .ref (ad 10)), (4, .int x4), (6, .int x6)]) hx hb dX3_tell_189 hl (k := 5) rfl e189 rfl (by decide) rfl (fun ls hl => ?_)
    refine lv_goto (tgt := 21) hx hb dX3_tell_192 (by decide) ?_
    exact hK21 μ t x1 x4 v189 ht hf _ _ X _ (lv_sub hl [1, 2, 3, 4, 5, 0] rfl)
  · replace hf := ifn c109 hf
    refine lv_aload_n hx hb dX3_tell_112 rfl (lv_at hl 3 rfl) ?_
    refine lv_iload hx hb dX3_tell_113 (lv_at hl 4 rfl) ?_
    refine lv_iconst (v := 1) hx hb dX3_tell_115 (by decide) ?_
    refine lv_isub hx hb dX3_tell_116 ?_
    refine lv_iload hx hb dX3_tell_117 (lv_at hl 6 rfl) ?_
    refine lv_iconst (v := (-1)) hx hb dX3_tell_119 (by decide) ?_
    refine lv_ixor hx hb dX3_tell_120 ?_
    refine lv_bipush (v := 23) hx hb dX3_tell_121 (by decide) ?_
    refine lv_icmp_ne (tgt := 136) hx hb dX3_tell_123 (by decide) (fun c123 => ?_) (fun c123 => ?_)
    · replace hf := ifn c123 hf
      refine lv_aload_n hx hb dX3_tell_136 rfl (lv_at hl 3 rfl) ?_
      refine lv_iload hx hb dX3_tell_137 (lv_at hl 4 rfl) ?_
      refine lv_iconst (v := 1) hx hb dX3_tell_139 (by decide) ?_
      refine lv_isub hx hb dX3_tell_140 ?_
      obtain ⟨h141, hf⟩ := gd_e hf
      refine rIald C X rfl h141 dX3_tell_141 ?_
      refine lv_if_ne (tgt := 149) hx hb dX3_tell_142 (by decide) (fun c142 => ?_) (fun c142 => ?_)
      · replace hf := ifn c142 hf
        refine lv_iconst (v := 0) hx hb dX3_tell_149 (by decide) ?_
        exact w3_tell_4 C hr K21 hK21 μ t x1 x4 x5 (x4 - 1) 0 ht hf _ _ X _ (lv_sub hl [0, 1, 2, 3, 4, 5] rfl)
      · replace hf := ifp c142 hf
        refine lv_iconst (v := 1) hx hb dX3_tell_145 (by decide) ?_
        refine lv_goto (tgt := 150) hx hb dX3_tell_146 (by decide) ?_
        exact w3_tell_4 C hr K21 hK21 μ t x1 x4 x5 (x4 - 1) 1 ht hf _ _ X _ (lv_sub hl [0, 1, 2, 3, 4, 5] rfl)
    · replace hf := ifp c123 hf
      refine lv_aload_n hx hb dX3_tell_126 rfl (lv_at hl 3 rfl) ?_
      refine lv_iload hx hb dX3_tell_127 (lv_at hl 4 rfl) ?_
      refine lv_iconst (v := 1) hx hb dX3_tell_129 (by decide) ?_
      refine lv_isub hx hb dX3_tell_130 ?_
      obtain ⟨h131, hf⟩ := gd_e hf
      refine rIald C X rfl h131 dX3_tell_131 ?_
      refine lv_ineg hx hb dX3_tell_132 ?_
      refine lv_goto (tgt := 153) hx hb dX3_tell_133 (by decide) ?_
      obtain ⟨h153, hf⟩ := gd_e hf
      obtain ⟨μ153, e153, hf⟩ := nm_e2 hf
      refine rIast2 C X rfl h153 e153 dX3_tell_153 (fun H locs X => ?_)
      refine lv_goto (tgt := 189) hx hb dX3_tell_154 (by decide) ?_
      obtain ⟨v189, e189, hf⟩ := nm_e2 hf
      refine rIinc (lv' := [(5, .int v189), (0, .ref (ad (53 + 3 * t))), (1, .int x1), (2, .ref (ad 9)), (3, .ref (ad 10)), (4, .int x4), (6, .int x6)]) hx hb dX3_tell_189 hl (k := 5) rfl e189 rfl (by decide) rfl (fun ls hl => ?_)
      refine lv_goto (tgt := 21) hx hb dX3_tell_192 (by decide) ?_
      exact hK21 μ153 t x1 x4 v189 ht hf _ _ X _ (lv_sub hl [1, 2, 3, 4, 5, 0] rfl)
set_option maxRecDepth 100000 in
set_option maxHeartbeats 4000000 in
theorem w3_tell_2 {p : Program} {l : Launch} {e : Env} {s : State} {m : MethodId} {args : Array Value} {below : List Frame} {meth : Method} {c : Code} {D : va_G} {cy : Nat → ClassId} {ad : Nat → Nat} {r : Int32} {μ1 : Mem} {ν : Lem} (C : Cx true p s m args meth c cX3_tell 7 RX3 D cy ad) (hr : meth.sig.returnType = some .int) (K21 : Mem → Nat → Int32 → Int32 → Int32 → Option (Int32 × Mem)) (hK21 : ∀ (μ : Mem) (t : Nat) (x1 : Int32) (x4 : Int32) (x5 : Int32) (ht : t < 6), K21 μ t x1 x4 x5 = some (r, μ1) → ∀ (H : Heap) (locs : List Loc), Wd true D cy ad s.heap μ ν H locs → ∀ (ls : Array Slot), lv_has ls 7 [(0, .ref (ad (53 + 3 * t))), (1, .int x1), (2, .ref (ad 9)), (3, .ref (ad 10)), (4, .int x4), (5, .int x5)] → WI true p l e 2 42 s m args below meth c D cy ad .int r μ1 ν H locs (F0 m 21 ls [])) : ∀ (μ : Mem) (t : Nat) (x1 : Int32) (x4 : Int32) (x5 : Int32) (x6 : Int32) (ht : t < 6), f3_tell_2 K21 μ t x1 x4 x5 x6 = some (r, μ1) → ∀ (H : Heap) (locs : List Loc), Wd true D cy ad s.heap μ ν H locs → ∀ (ls : Array Slot), lv_has ls 7 [(0, .ref (ad (53 + 3 * t))), (1, .int x1), (2, .ref (ad 9)), (3, .ref (ad 10)), (4, .int x4), (5, .int x5), (6, .int x6)] → WI true p l e 2 42 s m args below meth c D cy ad .int r μ1 ν H locs (F0 m 55 ls []) := by
  have hx := C.1.1
  have hb := C.1.2.1
  have hown := C.1.2.2.2.1
  have hts := C.1.2.2.2.2
  intro μ t x1 x4 x5 x6 ht hf H locs X ls hl
  unfold f3_tell_2 at hf
  refine lv_iload hx hb dX3_tell_55 (lv_at hl 4 rfl) ?_
  refine lv_aload_n hx hb dX3_tell_57 rfl (lv_at hl 3 rfl) ?_
  refine rAlen (v := 160) C X rfl (by decide) dX3_tell_58 ?_
  refine lv_icmp_ge (tgt := 189) hx hb dX3_tell_59 (by decide) (fun c59 => ?_) (fun c59 => ?_)
  · replace hf := ifp c59 hf
    obtain ⟨v189, e189, hf⟩ := nm_e2 hf
    refine rIinc (lv' := [(5, .int v189), (0, .ref (ad (53 + 3 * t))), (1, .int x1), (2, .ref (ad 9)), (3, .ref (ad 10)), (4, .int x4), (6, .int x6)]) hx hb dX3_tell_189 hl (k := 5) rfl e189 rfl (by decide) rfl (fun ls hl => ?_)
    refine lv_goto (tgt := 21) hx hb dX3_tell_192 (by decide) ?_
    exact hK21 μ t x1 x4 v189 ht hf _ _ X _ (lv_sub hl [1, 2, 3, 4, 5, 0] rfl)
  · replace hf := ifn c59 hf
    refine lv_aload_n hx hb dX3_tell_62 rfl (lv_at hl 3 rfl) ?_
    refine lv_iload hx hb dX3_tell_63 (lv_at hl 4 rfl) ?_
    refine lv_iload hx hb dX3_tell_65 (lv_at hl 6 rfl) ?_
    refine lv_if_lt (tgt := 75) hx hb dX3_tell_67 (by decide) (fun c67 => ?_) (fun c67 => ?_)
    · replace hf := ifp c67 hf
      refine lv_aload_n hx hb dX3_tell_75 rfl (lv_at hl 2 rfl) ?_
      refine lv_iload hx hb dX3_tell_76 (lv_at hl 6 rfl) ?_
      refine lv_iconst (v := (-1)) hx hb dX3_tell_78 (by decide) ?_
      refine lv_ixor hx hb dX3_tell_79 ?_
      obtain ⟨h80, hf⟩ := gd_e hf
      refine rIald C X rfl h80 dX3_tell_80 ?_
      obtain ⟨h81, hf⟩ := gd_e hf
      obtain ⟨μ81, e81, hf⟩ := nm_e2 hf
      refine rIast2 C X rfl h81 e81 dX3_tell_81 (fun H locs X => ?_)
      obtain ⟨v82, e82, hf⟩ := nm_e2 hf
      refine rIinc (lv' := [(4, .int v82), (0, .ref (ad (53 + 3 * t))), (1, .int x1), (2, .ref (ad 9)), (3, .ref (ad 10)), (5, .int x5), (6, .int x6)]) hx hb dX3_tell_82 hl (k := 4) rfl e82 rfl (by decide) rfl (fun ls hl => ?_)
      refine lv_goto (tgt := 189) hx hb dX3_tell_85 (by decide) ?_
      obtain ⟨v189, e189, hf⟩ := nm_e2 hf
      refine rIinc (lv' := [(5, .int v189), (4, .int v82), (0, .ref (ad (53 + 3 * t))), (1, .int x1), (2, .ref (ad 9)), (3, .ref (ad 10)), (6, .int x6)]) hx hb dX3_tell_189 hl (k := 5) rfl e189 rfl (by decide) rfl (fun ls hl => ?_)
      refine lv_goto (tgt := 21) hx hb dX3_tell_192 (by decide) ?_
      exact hK21 μ81 t x1 v82 v189 ht hf _ _ X _ (lv_sub hl [2, 3, 4, 5, 1, 0] rfl)
    · replace hf := ifn c67 hf
      refine lv_iload hx hb dX3_tell_70 (lv_at hl 6 rfl) ?_
      refine lv_goto (tgt := 81) hx hb dX3_tell_72 (by decide) ?_
      obtain ⟨h81, hf⟩ := gd_e hf
      obtain ⟨μ81, e81, hf⟩ := nm_e2 hf
      refine rIast2 C X rfl h81 e81 dX3_tell_81 (fun H locs X => ?_)
      obtain ⟨v82, e82, hf⟩ := nm_e2 hf
      refine rIinc (lv' := [(4, .int v82), (0, .ref (ad (53 + 3 * t))), (1, .int x1), (2, .ref (ad 9)), (3, .ref (ad 10)), (5, .int x5), (6, .int x6)]) hx hb dX3_tell_82 hl (k := 4) rfl e82 rfl (by decide) rfl (fun ls hl => ?_)
      refine lv_goto (tgt := 189) hx hb dX3_tell_85 (by decide) ?_
      obtain ⟨v189, e189, hf⟩ := nm_e2 hf
      refine rIinc (lv' := [(5, .int v189), (4, .int v82), (0, .ref (ad (53 + 3 * t))), (1, .int x1), (2, .ref (ad 9)), (3, .ref (ad 10)), (6, .int x6)]) hx hb dX3_tell_189 hl (k := 5) rfl e189 rfl (by decide) rfl (fun ls hl => ?_)
      refine lv_goto (tgt := 21) hx hb dX3_tell_192 (by decide) ?_
      exact hK21 μ81 t x1 v82 v189 ht hf _ _ X _ (lv_sub hl [2, 3, 4, 5, 1, 0] rfl)
set_option maxRecDepth 100000 in
set_option maxHeartbeats 4000000 in
theorem w3_tell_1 {p : Program} {l : Launch} {e : Env} {s : State} {m : MethodId} {args : Array Value} {below : List Frame} {meth : Method} {c : Code} {D : va_G} {cy : Nat → ClassId} {ad : Nat → Nat} {r : Int32} {μ1 : Mem} {ν : Lem} (C : Cx true p s m args meth c cX3_tell 7 RX3 D cy ad) (hr : meth.sig.returnType = some .int) : ∀ (n : Nat), ∀ (μ : Mem) (t : Nat) (x1 : Int32) (x4 : Int32) (x5 : Int32) (ht : t < 6), f3_tell_1 n μ t x1 x4 x5 = some (r, μ1) → ∀ (H : Heap) (locs : List Loc), Wd true D cy ad s.heap μ ν H locs → ∀ (ls : Array Slot), lv_has ls 7 [(0, .ref (ad (53 + 3 * t))), (1, .int x1), (2, .ref (ad 9)), (3, .ref (ad 10)), (4, .int x4), (5, .int x5)] → WI true p l e 2 42 s m args below meth c D cy ad .int r μ1 ν H locs (F0 m 21 ls []) := by
  have hx := C.1.1
  have hb := C.1.2.1
  have hown := C.1.2.2.2.1
  have hts := C.1.2.2.2.2
  intro n
  induction n with
  | zero =>
    intro μ t x1 x4 x5 ht hf H locs X ls hl
    rw [f3_tell_1] at hf
    cases hf
  | succ n ih =>
    intro μ t x1 x4 x5 ht hf H locs X ls hl
    rw [f3_tell_1] at hf
    refine lv_iload hx hb dX3_tell_21 (lv_at hl 5 rfl) ?_
    refine lv_aload_n hx hb dX3_tell_23 rfl (lv_at hl 0 rfl) ?_
    refine gfX3_15 (t := t) ht rfl (k2 := (55 + 3 * t)) rfl C X dX3_tell_24 ?_
    refine lv_iload_n hx hb dX3_tell_27 rfl (lv_at hl 1 rfl) ?_
    obtain ⟨h28, hf⟩ := gd_e hf
    refine rIald C X (sTe ht) h28 dX3_tell_28 ?_
    refine lv_icmp_ge (tgt := 195) hx hb dX3_tell_29 (by decide) (fun c29 => ?_) (fun c29 => ?_)
    · replace hf := ifp c29 hf
      refine lv_iload hx hb dX3_tell_195 (lv_at hl 4 rfl) ?_
      refine lv_iconst (v := 1) hx hb dX3_tell_197 (by decide) ?_
      refine lv_icmp_ge (tgt := 205) hx hb dX3_tell_198 (by decide) (fun c198 => ?_) (fun c198 => ?_)
      · replace hf := ifp c198 hf
        refine lv_aload_n hx hb dX3_tell_205 rfl (lv_at hl 3 rfl) ?_
        refine lv_iload hx hb dX3_tell_206 (lv_at hl 4 rfl) ?_
        refine lv_iconst (v := 1) hx hb dX3_tell_208 (by decide) ?_
        refine lv_isub hx hb dX3_tell_209 ?_
        obtain ⟨h210, hf⟩ := gd_e hf
        refine rIald C X rfl h210 dX3_tell_210 ?_
        exact retI C X hr rfl (so2 hf).1 (so2 hf).2 rfl dX3_tell_211
      · replace hf := ifn c198 hf
        refine lv_iconst (v := 0) hx hb dX3_tell_201 (by decide) ?_
        refine lv_goto (tgt := 211) hx hb dX3_tell_202 (by decide) ?_
        exact retI C X hr rfl (so2 hf).1 (so2 hf).2 rfl dX3_tell_211
    · replace hf := ifn c29 hf
      refine lv_aload_n hx hb dX3_tell_32 rfl (lv_at hl 0 rfl) ?_
      refine gfX3_9 (t := t) ht rfl (k2 := (54 + 3 * t)) rfl C X dX3_tell_33 ?_
      refine lv_iload hx hb dX3_tell_36 (lv_at hl 5 rfl) ?_
      obtain ⟨h38, hf⟩ := gd_e hf
      refine rIald C X (sTc ht) h38 dX3_tell_38 ?_
      obtain ⟨v39, e39, hf⟩ := nm_e2 hf
      refine st_i e39 ?_
      refine lv_istore (lv' := [(6, .int v39), (0, .ref (ad (53 + 3 * t))), (1, .int x1), (2, .ref (ad 9)), (3, .ref (ad 10)), (4, .int x4), (5, .int x5)]) hx hb dX3_tell_39 hl (by decide) rfl (fun ls hl => ?_)
      refine lv_iload hx hb dX3_tell_41 (lv_at hl 0 rfl) ?_
      refine lv_if_ge (tgt := 55) hx hb dX3_tell_43 (by decide) (fun c43 => ?_) (fun c43 => ?_)
      · replace hf := ifp c43 hf
        exact w3_tell_2 C hr (f3_tell_1 n) ih μ t x1 x4 x5 v39 ht hf _ _ X _ (lv_sub hl [1, 2, 3, 4, 5, 6, 0] rfl)
      · replace hf := ifn c43 hf
        refine lv_iload hx hb dX3_tell_46 (lv_at hl 0 rfl) ?_
        refine lv_iconst (v := (-1)) hx hb dX3_tell_48 (by decide) ?_
        refine lv_ixor hx hb dX3_tell_49 ?_
        refine lv_bipush (v := 6) hx hb dX3_tell_50 (by decide) ?_
        refine lv_icmp_ge (tgt := 88) hx hb dX3_tell_52 (by decide) (fun c52 => ?_) (fun c52 => ?_)
        · replace hf := ifp c52 hf
          refine lv_iload hx hb dX3_tell_88 (lv_at hl 0 rfl) ?_
          refine lv_iconst (v := (-1)) hx hb dX3_tell_90 (by decide) ?_
          refine lv_ixor hx hb dX3_tell_91 ?_
          refine lv_bipush (v := 11) hx hb dX3_tell_92 (by decide) ?_
          refine lv_icmp_eq (tgt := 106) hx hb dX3_tell_94 (by decide) (fun c94 => ?_) (fun c94 => ?_)
          · replace hf := ifp c94 hf
            exact w3_tell_3 C hr (f3_tell_1 n) ih μ t x1 x4 x5 v39 ht hf _ _ X _ (lv_sub hl [1, 2, 3, 4, 5, 6, 0] rfl)
          · replace hf := ifn c94 hf
            refine lv_iload hx hb dX3_tell_97 (lv_at hl 0 rfl) ?_
            refine lv_iconst (v := (-1)) hx hb dX3_tell_99 (by decide) ?_
            refine lv_ixor hx hb dX3_tell_100 ?_
            refine lv_bipush (v := 23) hx hb dX3_tell_101 (by decide) ?_
            refine lv_icmp_ne (tgt := 157) hx hb dX3_tell_103 (by decide) (fun c103 => ?_) (fun c103 => ?_)
            · replace hf := ifn c103 hf
              refine lv_iload hx hb dX3_tell_157 (lv_at hl 5 rfl) ?_
              refine lv_iconst (v := 2) hx hb dX3_tell_159 (by decide) ?_
              refine lv_icmp_lt (tgt := 189) hx hb dX3_tell_160 (by decide) (fun c160 => ?_) (fun c160 => ?_)
              · replace hf := ifp c160 hf
                obtain ⟨v189, e189, hf⟩ := nm_e2 hf
                refine rIinc (lv' := [(5, .int v189), (6, .int v39), (0, .ref (ad (53 + 3 * t))), (1, .int x1), (2, .ref (ad 9)), (3, .ref (ad 10)), (4, .int x4)]) hx hb dX3_tell_189 hl (k := 6) rfl e189 rfl (by decide) rfl (fun ls hl => ?_)
                refine lv_goto (tgt := 21) hx hb dX3_tell_192 (by decide) ?_
                exact ih μ t x1 x4 v189 ht hf _ _ X _ (lv_sub hl [2, 3, 4, 5, 6, 0] rfl)
              · replace hf := ifn c160 hf
                obtain ⟨v163, e163, hf⟩ := nm_e2 hf
                refine rIinc (lv' := [(4, .int v163), (6, .int v39), (0, .ref (ad (53 + 3 * t))), (1, .int x1), (2, .ref (ad 9)), (3, .ref (ad 10)), (5, .int x5)]) hx hb dX3_tell_163 hl (k := 5) rfl e163 rfl (by decide) rfl (fun ls hl => ?_)
                refine lv_aload_n hx hb dX3_tell_166 rfl (lv_at hl 5 rfl) ?_
                refine lv_iload hx hb dX3_tell_167 (lv_at hl 0 rfl) ?_
                refine lv_iconst (v := 1) hx hb dX3_tell_169 (by decide) ?_
                refine lv_isub hx hb dX3_tell_170 ?_
                refine lv_iload hx hb dX3_tell_171 (lv_at hl 1 rfl) ?_
                refine lv_iconst (v := (-1)) hx hb dX3_tell_173 (by decide) ?_
                refine lv_ixor hx hb dX3_tell_174 ?_
                refine lv_aload_n hx hb dX3_tell_175 rfl (lv_at hl 5 rfl) ?_
                refine lv_iload hx hb dX3_tell_176 (lv_at hl 0 rfl) ?_
                refine lv_iconst (v := 1) hx hb dX3_tell_178 (by decide) ?_
                refine lv_isub hx hb dX3_tell_179 ?_
                obtain ⟨h180, hf⟩ := gd_e hf
                refine rIald C X rfl h180 dX3_tell_180 ?_
                refine lv_aload_n hx hb dX3_tell_181 rfl (lv_at hl 5 rfl) ?_
                refine lv_iload hx hb dX3_tell_182 (lv_at hl 0 rfl) ?_
                obtain ⟨h184, hf⟩ := gd_e hf
                refine rIald C X rfl h184 dX3_tell_184 ?_
                refine qX3_36 rfl C X hl.1 ((Nat.le_of_ble_eq_true rfl)) ⟨(Nat.le_of_ble_eq_true rfl), (Nat.le_of_ble_eq_true rfl)⟩ ⟨Nat.zero_le _, Nat.zero_le _⟩ dX3_tell_185 (fun H locs X b185 => ?_)
                obtain ⟨h188, hf⟩ := gd_e hf
                obtain ⟨μ188, e188, hf⟩ := nm_e2 hf
                refine rIast2 C X rfl h188 e188 dX3_tell_188 (fun H locs X => ?_)
                obtain ⟨v189, e189, hf⟩ := nm_e2 hf
                refine rIinc (lv' := [(5, .int v189), (4, .int v163), (6, .int v39), (0, .ref (ad (53 + 3 * t))), (1, .int x1), (2, .ref (ad 9)), (3, .ref (ad 10))]) hx hb dX3_tell_189 hl (k := 6) rfl e189 rfl (by decide) rfl (fun ls hl => ?_)
                refine lv_goto (tgt := 21) hx hb dX3_tell_192 (by decide) ?_
                exact ih μ188 t x1 v163 v189 ht hf _ _ X _ (lv_sub hl [3, 4, 5, 6, 1, 0] rfl)
            · replace hf := ifp c103 hf
              exact w3_tell_3 C hr (f3_tell_1 n) ih μ t x1 x4 x5 v39 ht hf _ _ X _ (lv_sub hl [1, 2, 3, 4, 5, 6, 0] rfl)
        · replace hf := ifn c52 hf
          exact w3_tell_2 C hr (f3_tell_1 n) ih μ t x1 x4 x5 v39 ht hf _ _ X _ (lv_sub hl [1, 2, 3, 4, 5, 6, 0] rfl)
set_option maxRecDepth 100000 in
set_option maxHeartbeats 4000000 in
theorem w3_tell {p : Program} {l : Launch} {e : Env} {s : State} {m : MethodId} {args : Array Value} {below : List Frame} {meth : Method} {c : Code} {D : va_G} {cy : Nat → ClassId} {ad : Nat → Nat} {r : Int32} {μ1 : Mem} {ν : Lem} (C : Cx true p s m args meth c cX3_tell 7 RX3 D cy ad) (hr : meth.sig.returnType = some .int) : ∀ (μ : Mem) (t : Nat) (x1 : Int32) (ht : t < 6), f3_tell μ t x1 = some (r, μ1) → ∀ (H : Heap) (locs : List Loc), Wd true D cy ad s.heap μ ν H locs → ∀ (ls : Array Slot), lv_has ls 7 [(0, .ref (ad (53 + 3 * t))), (1, .int x1), (2, .ref (ad 9)), (3, .ref (ad 10))] → WI true p l e 2 42 s m args below meth c D cy ad .int r μ1 ν H locs (F0 m 0 ls []) := by
  have hx := C.1.1
  have hb := C.1.2.1
  have hown := C.1.2.2.2.1
  have hts := C.1.2.2.2.2
  intro μ t x1 ht hf H locs X ls hl
  unfold f3_tell at hf
  refine lv_iconst (v := 0) hx hb dX3_tell_0 (by decide) ?_
  refine lv_istore (lv' := [(4, .int 0), (0, .ref (ad (53 + 3 * t))), (1, .int x1), (2, .ref (ad 9)), (3, .ref (ad 10))]) hx hb dX3_tell_1 hl (by decide) rfl (fun ls hl => ?_)
  refine lv_iload_n hx hb dX3_tell_3 rfl (lv_at hl 2 rfl) ?_
  refine lv_if_ne (tgt := 11) hx hb dX3_tell_4 (by decide) (fun c4 => ?_) (fun c4 => ?_)
  · replace hf := ifn c4 hf
    refine lv_aload_n hx hb dX3_tell_11 rfl (lv_at hl 1 rfl) ?_
    refine gfX3_15 (t := t) ht rfl (k2 := (55 + 3 * t)) rfl C X dX3_tell_12 ?_
    refine lv_iload_n hx hb dX3_tell_15 rfl (lv_at hl 2 rfl) ?_
    refine lv_iconst (v := 1) hx hb dX3_tell_16 (by decide) ?_
    refine lv_isub hx hb dX3_tell_17 ?_
    obtain ⟨h18, hf⟩ := gd_e hf
    refine rIald C X (sTe ht) h18 dX3_tell_18 ?_
    obtain ⟨v19, e19, hf⟩ := nm_e2 hf
    refine st_i e19 ?_
    refine lv_istore (lv' := [(5, .int v19), (4, .int 0), (0, .ref (ad (53 + 3 * t))), (1, .int x1), (2, .ref (ad 9)), (3, .ref (ad 10))]) hx hb dX3_tell_19 hl (by decide) rfl (fun ls hl => ?_)
    exact w3_tell_1 C hr  FUEL μ t x1 0 v19 ht hf _ _ X _ (lv_sub hl [2, 3, 4, 5, 1, 0] rfl)
  · replace hf := ifp c4 hf
    refine lv_iconst (v := 0) hx hb dX3_tell_7 (by decide) ?_
    refine lv_goto (tgt := 19) hx hb dX3_tell_8 (by decide) ?_
    refine lv_istore (lv' := [(5, .int 0), (4, .int 0), (0, .ref (ad (53 + 3 * t))), (1, .int x1), (2, .ref (ad 9)), (3, .ref (ad 10))]) hx hb dX3_tell_19 hl (by decide) rfl (fun ls hl => ?_)
    exact w3_tell_1 C hr  FUEL μ t x1 0 0 ht hf _ _ X _ (lv_sub hl [2, 3, 4, 5, 1, 0] rfl)
theorem ct3_tell {t : Nat} {x1 : Int32} (ht : t < 6) {μ : Mem} {ν : Lem} {r : Int32} {μ1 : Mem} (hg : f3_tell μ t x1 = some (r, μ1)) : CtI true yX3_tell cX3_tell 7 2 42 .int (fun ad => [.ref (ad (53 + 3 * t)), .int x1, .ref (ad 9), .ref (ad 10)]) μ ν r μ1 ν :=
  mkI (by decide) rfl (fun ad => Nat.le_of_ble_eq_true rfl) (fun p l e s m args below meth c D cy ad C hr X ls hl => w3_tell C hr μ t x1 ht hg _ _ X _ hl)
theorem qX5_154 {p : Program} {l : Launch} {e : Env} {R : Room} {s : State} {m : MethodId} {args : Array Value} {below : List Frame} {meth : Method} {c : Code} {H : Heap} {locs : List Loc} {cells slots : Nat} {Q : State → Prop} {A : Nat → Prop} {cc : ByteArray} {nL : Nat} {D : va_G} {cy : Nat → ClassId} {ad : Nat → Nat} {μ : Mem} {ν : Lem} {pc : Nat} {ls : Array Slot} {rest : List Value} {t : Nat} {x1 : Int32} (ht : t < 6) {r : Int32} {μ1 : Mem} (hg : f3_tell μ t x1 = some (r, μ1)) (C : CxA true A p s m args meth c cc nL RX5 D cy ad) (X : WdA true A D cy ad s.heap μ ν H locs) (hsz : ls.size = nL) (hrm : (rest.map fun v => v.category).sum ≤ 8) (hR : 2 + 1 ≤ R.frames ∧ 8 + (7 + 11) + 42 ≤ R.locals) (hcs : cells ≤ R.cells ∧ slots ≤ R.slots) (hd : decode cc pc = .ok (.invokevirtual 154, 3)) (kk : ∀ (H1 : Heap) (locs1 : List Loc), WdA true A D cy ad s.heap μ1 ν H1 locs1 → narrow .int (.int r) = .int r → W p l e R s m args below meth c H1 locs1 cells slots Q (F0 m (pc + 3) ls (.int r :: rest))) : W p l e R s m args below meth c H locs cells slots Q (F0 m pc ls (.ref (ad 10) :: .ref (ad 9) :: .int x1 :: .ref (ad (53 + 3 * t)) :: rest)) :=
  rCVI (As := [.int x1, .ref (ad 9), .ref (ad 10)]) (k := 53 + 3 * t) (ct3_tell ht hg) ok3 lX3_tell k_495 (sT ht) rfl rfl C X rfl hrm hsz hR hcs hd kk
set_option maxRecDepth 100000 in
set_option maxHeartbeats 4000000 in
theorem w4_endsAhead {p : Program} {l : Launch} {e : Env} {s : State} {m : MethodId} {args : Array Value} {below : List Frame} {meth : Method} {c : Code} {D : va_G} {cy : Nat → ClassId} {ad : Nat → Nat} {r : Int32} {μ : Mem} {ν : Lem} (C : Cx true p s m args meth c cX4_endsAhead 2 RX4 D cy ad) (hr : meth.sig.returnType = some .boolean) : ∀ (j : Nat) (x1 : Int32) (hj : j < 13), f4_endsAhead μ j x1 = some r → ∀ (H : Heap) (locs : List Loc), Wd true D cy ad s.heap μ ν H locs → ∀ (ls : Array Slot), lv_has ls 2 [(0, .ref (ad (14 + 3 * j))), (1, .int x1)] → WI true p l e 0 0 s m args below meth c D cy ad .boolean r μ ν H locs (F0 m 0 ls []) := by
  have hx := C.1.1
  have hb := C.1.2.1
  have hown := C.1.2.2.2.1
  have hts := C.1.2.2.2.2
  intro j x1 hj hf H locs X ls hl
  unfold f4_endsAhead at hf
  refine lv_aload_n hx hb dX4_endsAhead_0 rfl (lv_at hl 0 rfl) ?_
  refine gfX4_25 (j := j) hj rfl C X dX4_endsAhead_1 ?_
  refine lv_iconst (v := 1) hx hb dX4_endsAhead_4 (by decide) ?_
  refine lv_icmp_lt (tgt := 23) hx hb dX4_endsAhead_5 (by decide) (fun c5 => ?_) (fun c5 => ?_)
  · replace hf := ifp c5 hf
    refine lv_iconst (v := 1) hx hb dX4_endsAhead_23 (by decide) ?_
    refine lv_goto (tgt := 28) hx hb dX4_endsAhead_24 (by decide) ?_
    exact retI C X hr rfl (Option.some.inj hf) rfl rfl dX4_endsAhead_28
  · replace hf := ifn c5 hf
    refine lv_aload_n hx hb dX4_endsAhead_8 rfl (lv_at hl 0 rfl) ?_
    refine gfX4_9 (j := j) hj rfl (k2 := (15 + 3 * j)) rfl C X dX4_endsAhead_9 ?_
    refine lv_aload_n hx hb dX4_endsAhead_12 rfl (lv_at hl 0 rfl) ?_
    refine gfX4_25 (j := j) hj rfl C X dX4_endsAhead_13 ?_
    refine lv_iconst (v := 1) hx hb dX4_endsAhead_16 (by decide) ?_
    refine lv_isub hx hb dX4_endsAhead_17 ?_
    obtain ⟨h18, hf⟩ := gd_e hf
    refine rIald C X (sWm hj) h18 dX4_endsAhead_18 ?_
    refine lv_iload_n hx hb dX4_endsAhead_19 rfl (lv_at hl 1 rfl) ?_
    refine lv_icmp_ge (tgt := 27) hx hb dX4_endsAhead_20 (by decide) (fun c20 => ?_) (fun c20 => ?_)
    · replace hf := ifp c20 hf
      refine lv_iconst (v := 0) hx hb dX4_endsAhead_27 (by decide) ?_
      exact retI C X hr rfl (Option.some.inj hf) rfl rfl dX4_endsAhead_28
    · replace hf := ifn c20 hf
      refine lv_iconst (v := 1) hx hb dX4_endsAhead_23 (by decide) ?_
      refine lv_goto (tgt := 28) hx hb dX4_endsAhead_24 (by decide) ?_
      exact retI C X hr rfl (Option.some.inj hf) rfl rfl dX4_endsAhead_28
theorem ct4_endsAhead {j : Nat} {x1 : Int32} (hj : j < 13) {μ : Mem} {ν : Lem} {r : Int32} (hg : f4_endsAhead μ j x1 = some r) : CtI true yX4_endsAhead cX4_endsAhead 2 0 0 .boolean (fun ad => [.ref (ad (14 + 3 * j)), .int x1]) μ ν r μ ν :=
  mkI (by decide) rfl (fun ad => Nat.le_of_ble_eq_true rfl) (fun p l e s m args below meth c D cy ad C hr X ls hl => w4_endsAhead C hr j x1 hj hg _ _ X _ hl)
theorem qX5_116 {p : Program} {l : Launch} {e : Env} {R : Room} {s : State} {m : MethodId} {args : Array Value} {below : List Frame} {meth : Method} {c : Code} {H : Heap} {locs : List Loc} {cells slots : Nat} {Q : State → Prop} {A : Nat → Prop} {cc : ByteArray} {nL : Nat} {D : va_G} {cy : Nat → ClassId} {ad : Nat → Nat} {μ : Mem} {ν : Lem} {pc : Nat} {ls : Array Slot} {rest : List Value} {j : Nat} {x1 : Int32} (hj : j < 13) {r : Int32} (hg : f4_endsAhead μ j x1 = some r) (C : CxA true A p s m args meth c cc nL RX5 D cy ad) (X : WdA true A D cy ad s.heap μ ν H locs) (hsz : ls.size = nL) (hrm : (rest.map fun v => v.category).sum ≤ 8) (hR : 0 + 1 ≤ R.frames ∧ 8 + (2 + 11) + 0 ≤ R.locals) (hcs : cells ≤ R.cells ∧ slots ≤ R.slots) (hd : decode cc pc = .ok (.invokevirtual 116, 3)) (kk : ∀ (H1 : Heap) (locs1 : List Loc), WdA true A D cy ad s.heap μ ν H1 locs1 → narrow .boolean (.int r) = .int r → W p l e R s m args below meth c H1 locs1 cells slots Q (F0 m (pc + 3) ls (.int r :: rest))) : W p l e R s m args below meth c H locs cells slots Q (F0 m pc ls (.int x1 :: .ref (ad (14 + 3 * j)) :: rest)) :=
  rCVI (As := [.int x1]) (k := 14 + 3 * j) (ct4_endsAhead hj hg) ok4 lX4_endsAhead k_257 (sW hj) rfl rfl C X rfl hrm hsz hR hcs hd kk
set_option maxRecDepth 100000 in
set_option maxHeartbeats 4000000 in
theorem w4_byPoints_3 {p : Program} {l : Launch} {e : Env} {s : State} {m : MethodId} {args : Array Value} {below : List Frame} {meth : Method} {c : Code} {D : va_G} {cy : Nat → ClassId} {ad : Nat → Nat} {r : Int32} {μ : Mem} {ν : Lem} (C : Cx true p s m args meth c cX4_byPoints 7 RX4 D cy ad) (hr : meth.sig.returnType = some .int) : ∀ (j : Nat) (x2 : Int32) (hj : j < 13), f4_byPoints_3 μ j x2 = some r → ∀ (H : Heap) (locs : List Loc), Wd true D cy ad s.heap μ ν H locs → ∀ (ls : Array Slot), lv_has ls 7 [(0, .ref (ad (14 + 3 * j))), (2, .int x2)] → WI true p l e 0 0 s m args below meth c D cy ad .int r μ ν H locs (F0 m 48 ls []) := by
  have hx := C.1.1
  have hb := C.1.2.1
  have hown := C.1.2.2.2.1
  have hts := C.1.2.2.2.2
  intro j x2 hj hf H locs X ls hl
  unfold f4_byPoints_3 at hf
  refine lv_sipush (v := 1000) hx hb dX4_byPoints_48 (by decide) ?_
  refine lv_aload_n hx hb dX4_byPoints_51 rfl (lv_at hl 0 rfl) ?_
  refine gfX4_15 (j := j) hj rfl (k2 := (16 + 3 * j)) rfl C X dX4_byPoints_52 ?_
  refine lv_iload_n hx hb dX4_byPoints_55 rfl (lv_at hl 1 rfl) ?_
  refine lv_if_ne (tgt := 63) hx hb dX4_byPoints_56 (by decide) (fun c56 => ?_) (fun c56 => ?_)
  · replace hf := ifn c56 hf
    refine lv_aload_n hx hb dX4_byPoints_63 rfl (lv_at hl 0 rfl) ?_
    refine gfX4_25 (j := j) hj rfl C X dX4_byPoints_64 ?_
    refine lv_iconst (v := 1) hx hb dX4_byPoints_67 (by decide) ?_
    refine lv_isub hx hb dX4_byPoints_68 ?_
    obtain ⟨h69, hf⟩ := gd_e hf
    refine rIald C X (sWp hj) h69 dX4_byPoints_69 ?_
    refine lv_imul hx hb dX4_byPoints_70 ?_
    exact retI C X hr rfl (Option.some.inj hf) rfl rfl dX4_byPoints_71
  · replace hf := ifp c56 hf
    refine lv_iconst (v := 0) hx hb dX4_byPoints_59 (by decide) ?_
    refine lv_goto (tgt := 69) hx hb dX4_byPoints_60 (by decide) ?_
    obtain ⟨h69, hf⟩ := gd_e hf
    refine rIald C X (sWp hj) h69 dX4_byPoints_69 ?_
    refine lv_imul hx hb dX4_byPoints_70 ?_
    exact retI C X hr rfl (Option.some.inj hf) rfl rfl dX4_byPoints_71
set_option maxRecDepth 100000 in
set_option maxHeartbeats 4000000 in
theorem w4_byPoints_2 {p : Program} {l : Launch} {e : Env} {s : State} {m : MethodId} {args : Array Value} {below : List Frame} {meth : Method} {c : Code} {D : va_G} {cy : Nat → ClassId} {ad : Nat → Nat} {r : Int32} {μ : Mem} {ν : Lem} (C : Cx true p s m args meth c cX4_byPoints 7 RX4 D cy ad) (hr : meth.sig.returnType = some .int) : ∀ (j : Nat) (x1 : Int32) (x2 : Int32) (hj : j < 13), f4_byPoints_2 μ j x1 x2 = some r → ∀ (H : Heap) (locs : List Loc), Wd true D cy ad s.heap μ ν H locs → ∀ (ls : Array Slot), lv_has ls 7 [(0, .ref (ad (14 + 3 * j))), (1, .int x1), (2, .int x2)] → WI true p l e 0 0 s m args below meth c D cy ad .int r μ ν H locs (F0 m 36 ls []) := by
  have hx := C.1.1
  have hb := C.1.2.1
  have hown := C.1.2.2.2.1
  have hts := C.1.2.2.2.2
  intro j x1 x2 hj hf H locs X ls hl
  unfold f4_byPoints_2 at hf
  refine lv_iload_n hx hb dX4_byPoints_36 rfl (lv_at hl 2 rfl) ?_
  refine lv_if_eq (tgt := 48) hx hb dX4_byPoints_37 (by decide) (fun c37 => ?_) (fun c37 => ?_)
  · replace hf := ifp c37 hf
    exact w4_byPoints_3 C hr  j x2 hj hf _ _ X _ (lv_sub hl [0, 2] rfl)
  · replace hf := ifn c37 hf
    refine lv_iload_n hx hb dX4_byPoints_40 rfl (lv_at hl 2 rfl) ?_
    refine lv_aload_n hx hb dX4_byPoints_41 rfl (lv_at hl 0 rfl) ?_
    refine gfX4_25 (j := j) hj rfl C X dX4_byPoints_42 ?_
    refine lv_icmp_ne (tgt := 72) hx hb dX4_byPoints_45 (by decide) (fun c45 => ?_) (fun c45 => ?_)
    · replace hf := ifn c45 hf
      refine lv_iload_n hx hb dX4_byPoints_72 rfl (lv_at hl 2 rfl) ?_
      refine lv_iconst (v := 1) hx hb dX4_byPoints_73 (by decide) ?_
      refine lv_isub hx hb dX4_byPoints_74 ?_
      obtain ⟨v75, e75, hf⟩ := nm_e2 hf
      refine st_i e75 ?_
      refine lv_istore_n (lv' := [(3, .int v75), (0, .ref (ad (14 + 3 * j))), (1, .int x1), (2, .int x2)]) hx hb dX4_byPoints_75 rfl hl (by decide) rfl (fun ls hl => ?_)
      refine lv_sipush (v := 1000) hx hb dX4_byPoints_76 (by decide) ?_
      refine lv_aload_n hx hb dX4_byPoints_79 rfl (lv_at hl 1 rfl) ?_
      refine gfX4_15 (j := j) hj rfl (k2 := (16 + 3 * j)) rfl C X dX4_byPoints_80 ?_
      refine lv_iload_n hx hb dX4_byPoints_83 rfl (lv_at hl 0 rfl) ?_
      obtain ⟨h84, hf⟩ := gd_e hf
      refine rIald C X (sWp hj) h84 dX4_byPoints_84 ?_
      refine lv_imul hx hb dX4_byPoints_85 ?_
      obtain ⟨v86, e86, hf⟩ := nm_e2 hf
      refine st_i e86 ?_
      refine lv_istore (lv' := [(4, .int v86), (3, .int v75), (0, .ref (ad (14 + 3 * j))), (1, .int x1), (2, .int x2)]) hx hb dX4_byPoints_86 hl (by decide) rfl (fun ls hl => ?_)
      refine lv_aload_n hx hb dX4_byPoints_88 rfl (lv_at hl 2 rfl) ?_
      refine gfX4_9 (j := j) hj rfl (k2 := (15 + 3 * j)) rfl C X dX4_byPoints_89 ?_
      refine lv_iload_n hx hb dX4_byPoints_92 rfl (lv_at hl 4 rfl) ?_
      obtain ⟨h93, hf⟩ := gd_e hf
      refine rIald C X (sWm hj) h93 dX4_byPoints_93 ?_
      refine lv_aload_n hx hb dX4_byPoints_94 rfl (lv_at hl 2 rfl) ?_
      refine gfX4_9 (j := j) hj rfl (k2 := (15 + 3 * j)) rfl C X dX4_byPoints_95 ?_
      refine lv_iload_n hx hb dX4_byPoints_98 rfl (lv_at hl 1 rfl) ?_
      obtain ⟨h99, hf⟩ := gd_e hf
      refine rIald C X (sWm hj) h99 dX4_byPoints_99 ?_
      refine lv_isub hx hb dX4_byPoints_100 ?_
      obtain ⟨v101, e101, hf⟩ := nm_e2 hf
      refine st_i e101 ?_
      refine lv_istore (lv' := [(5, .int v101), (4, .int v86), (3, .int v75), (0, .ref (ad (14 + 3 * j))), (1, .int x1), (2, .int x2)]) hx hb dX4_byPoints_101 hl (by decide) rfl (fun ls hl => ?_)
      refine lv_sipush (v := 1000) hx hb dX4_byPoints_103 (by decide) ?_
      refine lv_aload_n hx hb dX4_byPoints_106 rfl (lv_at hl 3 rfl) ?_
      refine gfX4_15 (j := j) hj rfl (k2 := (16 + 3 * j)) rfl C X dX4_byPoints_107 ?_
      refine lv_iload_n hx hb dX4_byPoints_110 rfl (lv_at hl 5 rfl) ?_
      obtain ⟨h111, hf⟩ := gd_e hf
      refine rIald C X (sWp hj) h111 dX4_byPoints_111 ?_
      refine lv_aload_n hx hb dX4_byPoints_112 rfl (lv_at hl 3 rfl) ?_
      refine gfX4_15 (j := j) hj rfl (k2 := (16 + 3 * j)) rfl C X dX4_byPoints_113 ?_
      refine lv_iload_n hx hb dX4_byPoints_116 rfl (lv_at hl 2 rfl) ?_
      obtain ⟨h117, hf⟩ := gd_e hf
      refine rIald C X (sWp hj) h117 dX4_byPoints_117 ?_
      refine lv_isub hx hb dX4_byPoints_118 ?_
      refine lv_imul hx hb dX4_byPoints_119 ?_
      refine lv_iload_n hx hb dX4_byPoints_120 rfl (lv_at hl 4 rfl) ?_
      refine lv_aload_n hx hb dX4_byPoints_121 rfl (lv_at hl 3 rfl) ?_
      refine gfX4_9 (j := j) hj rfl (k2 := (15 + 3 * j)) rfl C X dX4_byPoints_122 ?_
      refine lv_iload_n hx hb dX4_byPoints_125 rfl (lv_at hl 2 rfl) ?_
      obtain ⟨h126, hf⟩ := gd_e hf
      refine rIald C X (sWm hj) h126 dX4_byPoints_126 ?_
      refine lv_isub hx hb dX4_byPoints_127 ?_
      refine lv_imul hx hb dX4_byPoints_128 ?_
      obtain ⟨v129, e129, hf⟩ := nm_e2 hf
      refine st_i e129 ?_
      refine lv_istore (lv' := [(6, .int v129), (5, .int v101), (4, .int v86), (3, .int v75), (0, .ref (ad (14 + 3 * j))), (1, .int x1), (2, .int x2)]) hx hb dX4_byPoints_129 hl (by decide) rfl (fun ls hl => ?_)
      refine lv_iload hx hb dX4_byPoints_131 (lv_at hl 1 rfl) ?_
      refine lv_iconst (v := 1) hx hb dX4_byPoints_133 (by decide) ?_
      refine lv_icmp_ge (tgt := 142) hx hb dX4_byPoints_134 (by decide) (fun c134 => ?_) (fun c134 => ?_)
      · replace hf := ifp c134 hf
        refine lv_iload hx hb dX4_byPoints_142 (lv_at hl 2 rfl) ?_
        refine lv_iload hx hb dX4_byPoints_144 (lv_at hl 0 rfl) ?_
        refine lv_iload hx hb dX4_byPoints_146 (lv_at hl 1 rfl) ?_
        obtain ⟨h148, hf⟩ := gd_e hf
        refine lv_idiv hx hb dX4_byPoints_148 h148 ?_
        refine lv_iadd hx hb dX4_byPoints_149 ?_
        exact retI C X hr rfl (Option.some.inj hf) rfl rfl dX4_byPoints_150
      · replace hf := ifn c134 hf
        refine lv_iload hx hb dX4_byPoints_137 (lv_at hl 2 rfl) ?_
        refine lv_goto (tgt := 150) hx hb dX4_byPoints_139 (by decide) ?_
        exact retI C X hr rfl (Option.some.inj hf) rfl rfl dX4_byPoints_150
    · replace hf := ifp c45 hf
      exact w4_byPoints_3 C hr  j x2 hj hf _ _ X _ (lv_sub hl [0, 2] rfl)
set_option maxRecDepth 100000 in
set_option maxHeartbeats 4000000 in
theorem w4_byPoints_1 {p : Program} {l : Launch} {e : Env} {s : State} {m : MethodId} {args : Array Value} {below : List Frame} {meth : Method} {c : Code} {D : va_G} {cy : Nat → ClassId} {ad : Nat → Nat} {r : Int32} {μ : Mem} {ν : Lem} (C : Cx true p s m args meth c cX4_byPoints 7 RX4 D cy ad) (hr : meth.sig.returnType = some .int) : ∀ (n : Nat), ∀ (j : Nat) (x1 : Int32) (x2 : Int32) (hj : j < 13), f4_byPoints_1 μ n j x1 x2 = some r → ∀ (H : Heap) (locs : List Loc), Wd true D cy ad s.heap μ ν H locs → ∀ (ls : Array Slot), lv_has ls 7 [(0, .ref (ad (14 + 3 * j))), (1, .int x1), (2, .int x2)] → WI true p l e 0 0 s m args below meth c D cy ad .int r μ ν H locs (F0 m 12 ls []) := by
  have hx := C.1.1
  have hb := C.1.2.1
  have hown := C.1.2.2.2.1
  have hts := C.1.2.2.2.2
  intro n
  induction n with
  | zero =>
    intro j x1 x2 hj hf H locs X ls hl
    rw [f4_byPoints_1] at hf
    cases hf
  | succ n ih =>
    intro j x1 x2 hj hf H locs X ls hl
    rw [f4_byPoints_1] at hf
    refine lv_iload_n hx hb dX4_byPoints_12 rfl (lv_at hl 2 rfl) ?_
    refine lv_aload_n hx hb dX4_byPoints_13 rfl (lv_at hl 0 rfl) ?_
    refine gfX4_25 (j := j) hj rfl C X dX4_byPoints_14 ?_
    refine lv_icmp_ge (tgt := 36) hx hb dX4_byPoints_17 (by decide) (fun c17 => ?_) (fun c17 => ?_)
    · replace hf := ifp c17 hf
      exact w4_byPoints_2 C hr  j x1 x2 hj hf _ _ X _ (lv_sub hl [0, 1, 2] rfl)
    · replace hf := ifn c17 hf
      refine lv_aload_n hx hb dX4_byPoints_20 rfl (lv_at hl 0 rfl) ?_
      refine gfX4_9 (j := j) hj rfl (k2 := (15 + 3 * j)) rfl C X dX4_byPoints_21 ?_
      refine lv_iload_n hx hb dX4_byPoints_24 rfl (lv_at hl 2 rfl) ?_
      obtain ⟨h25, hf⟩ := gd_e hf
      refine rIald C X (sWm hj) h25 dX4_byPoints_25 ?_
      refine lv_iload_n hx hb dX4_byPoints_26 rfl (lv_at hl 1 rfl) ?_
      refine lv_icmp_gt (tgt := 36) hx hb dX4_byPoints_27 (by decide) (fun c27 => ?_) (fun c27 => ?_)
      · replace hf := ifp c27 hf
        exact w4_byPoints_2 C hr  j x1 x2 hj hf _ _ X _ (lv_sub hl [0, 1, 2] rfl)
      · replace hf := ifn c27 hf
        obtain ⟨v30, e30, hf⟩ := nm_e2 hf
        refine rIinc (lv' := [(2, .int v30), (0, .ref (ad (14 + 3 * j))), (1, .int x1)]) hx hb dX4_byPoints_30 hl (k := 2) rfl e30 rfl (by decide) rfl (fun ls hl => ?_)
        refine lv_goto (tgt := 12) hx hb dX4_byPoints_33 (by decide) ?_
        exact ih j x1 v30 hj hf _ _ X _ (lv_sub hl [1, 2, 0] rfl)
set_option maxRecDepth 100000 in
set_option maxHeartbeats 4000000 in
theorem w4_byPoints {p : Program} {l : Launch} {e : Env} {s : State} {m : MethodId} {args : Array Value} {below : List Frame} {meth : Method} {c : Code} {D : va_G} {cy : Nat → ClassId} {ad : Nat → Nat} {r : Int32} {μ : Mem} {ν : Lem} (C : Cx true p s m args meth c cX4_byPoints 7 RX4 D cy ad) (hr : meth.sig.returnType = some .int) : ∀ (j : Nat) (x1 : Int32) (hj : j < 13), f4_byPoints μ j x1 = some r → ∀ (H : Heap) (locs : List Loc), Wd true D cy ad s.heap μ ν H locs → ∀ (ls : Array Slot), lv_has ls 7 [(0, .ref (ad (14 + 3 * j))), (1, .int x1)] → WI true p l e 0 0 s m args below meth c D cy ad .int r μ ν H locs (F0 m 0 ls []) := by
  have hx := C.1.1
  have hb := C.1.2.1
  have hown := C.1.2.2.2.1
  have hts := C.1.2.2.2.2
  intro j x1 hj hf H locs X ls hl
  unfold f4_byPoints at hf
  refine lv_aload_n hx hb dX4_byPoints_0 rfl (lv_at hl 0 rfl) ?_
  refine gfX4_25 (j := j) hj rfl C X dX4_byPoints_1 ?_
  refine lv_iconst (v := 1) hx hb dX4_byPoints_4 (by decide) ?_
  refine lv_icmp_ge (tgt := 10) hx hb dX4_byPoints_5 (by decide) (fun c5 => ?_) (fun c5 => ?_)
  · replace hf := ifp c5 hf
    refine lv_iconst (v := 0) hx hb dX4_byPoints_10 (by decide) ?_
    refine lv_istore_n (lv' := [(2, .int 0), (0, .ref (ad (14 + 3 * j))), (1, .int x1)]) hx hb dX4_byPoints_11 rfl hl (by decide) rfl (fun ls hl => ?_)
    exact w4_byPoints_1 C hr  FUEL j x1 0 hj hf _ _ X _ (lv_sub hl [1, 2, 0] rfl)
  · replace hf := ifn c5 hf
    refine lv_iconst (v := 0) hx hb dX4_byPoints_8 (by decide) ?_
    exact retI C X hr rfl (Option.some.inj hf) rfl rfl dX4_byPoints_9
theorem ct4_byPoints {j : Nat} {x1 : Int32} (hj : j < 13) {μ : Mem} {ν : Lem} {r : Int32} (hg : f4_byPoints μ j x1 = some r) : CtI true yX4_byPoints cX4_byPoints 7 0 0 .int (fun ad => [.ref (ad (14 + 3 * j)), .int x1]) μ ν r μ ν :=
  mkI (by decide) rfl (fun ad => Nat.le_of_ble_eq_true rfl) (fun p l e s m args below meth c D cy ad C hr X ls hl => w4_byPoints C hr j x1 hj hg _ _ X _ hl)
theorem qX4_61 {p : Program} {l : Launch} {e : Env} {R : Room} {s : State} {m : MethodId} {args : Array Value} {below : List Frame} {meth : Method} {c : Code} {H : Heap} {locs : List Loc} {cells slots : Nat} {Q : State → Prop} {A : Nat → Prop} {cc : ByteArray} {nL : Nat} {D : va_G} {cy : Nat → ClassId} {ad : Nat → Nat} {μ : Mem} {ν : Lem} {pc : Nat} {ls : Array Slot} {rest : List Value} {j : Nat} {x1 : Int32} (hj : j < 13) {r : Int32} (hg : f4_byPoints μ j x1 = some r) (C : CxA true A p s m args meth c cc nL RX4 D cy ad) (X : WdA true A D cy ad s.heap μ ν H locs) (hsz : ls.size = nL) (hrm : (rest.map fun v => v.category).sum ≤ 8) (hR : 0 + 1 ≤ R.frames ∧ 8 + (7 + 11) + 0 ≤ R.locals) (hcs : cells ≤ R.cells ∧ slots ≤ R.slots) (hd : decode cc pc = .ok (.invokevirtual 61, 3)) (kk : ∀ (H1 : Heap) (locs1 : List Loc), WdA true A D cy ad s.heap μ ν H1 locs1 → narrow .int (.int r) = .int r → W p l e R s m args below meth c H1 locs1 cells slots Q (F0 m (pc + 3) ls (.int r :: rest))) : W p l e R s m args below meth c H locs cells slots Q (F0 m pc ls (.int x1 :: .ref (ad (14 + 3 * j)) :: rest)) :=
  rCVI (As := [.int x1]) (k := 14 + 3 * j) (ct4_byPoints hj hg) ok4 lX4_byPoints k_466 (sW hj) rfl rfl C X rfl hrm hsz hR hcs hd kk
set_option maxRecDepth 100000 in
set_option maxHeartbeats 4000000 in
theorem w4_late {p : Program} {l : Launch} {e : Env} {s : State} {m : MethodId} {args : Array Value} {below : List Frame} {meth : Method} {c : Code} {D : va_G} {cy : Nat → ClassId} {ad : Nat → Nat} {r : Int32} {μ : Mem} {ν : Lem} (C : Cx true p s m args meth c cX4_late 2 RX4 D cy ad) (hr : meth.sig.returnType = some .int) : ∀ (j : Nat) (x1 : Int32) (hj : j < 13), f4_late μ j x1 = some r → ∀ (H : Heap) (locs : List Loc), Wd true D cy ad s.heap μ ν H locs → ∀ (ls : Array Slot), lv_has ls 2 [(0, .ref (ad (14 + 3 * j))), (1, .int x1)] → WI true p l e 1 26 s m args below meth c D cy ad .int r μ ν H locs (F0 m 0 ls []) := by
  have hx := C.1.1
  have hb := C.1.2.1
  have hown := C.1.2.2.2.1
  have hts := C.1.2.2.2.2
  intro j x1 hj hf H locs X ls hl
  unfold f4_late at hf
  refine lv_aload_n hx hb dX4_late_0 rfl (lv_at hl 0 rfl) ?_
  refine lv_iconst (v := 0) hx hb dX4_late_1 (by decide) ?_
  refine lv_iload_n hx hb dX4_late_2 rfl (lv_at hl 1 rfl) ?_
  refine lv_bipush (v := 10) hx hb dX4_late_3 (by decide) ?_
  refine lv_aload_n hx hb dX4_late_5 rfl (lv_at hl 0 rfl) ?_
  refine gfX4_22 (j := j) hj rfl C X dX4_late_6 ?_
  refine lv_imul hx hb dX4_late_9 ?_
  refine lv_isub hx hb dX4_late_10 ?_
  refine rMax C k_220 hl.1 (Nat.le_of_ble_eq_true rfl) (Nat.le_of_ble_eq_true rfl) ⟨Nat.zero_le _, Nat.zero_le _⟩ dX4_late_11 ?_
  obtain ⟨r14, g14, hf⟩ := bd1_e hf
  refine qX4_61 (j := j) hj g14 C X hl.1 ((Nat.le_of_ble_eq_true rfl)) ⟨(Nat.le_of_ble_eq_true rfl), (Nat.le_of_ble_eq_true rfl)⟩ ⟨Nat.zero_le _, Nat.zero_le _⟩ dX4_late_14 (fun H locs X b14 => ?_)
  exact retI C X hr rfl (Option.some.inj hf) rfl rfl dX4_late_17
theorem ct4_late {j : Nat} {x1 : Int32} (hj : j < 13) {μ : Mem} {ν : Lem} {r : Int32} (hg : f4_late μ j x1 = some r) : CtI true yX4_late cX4_late 2 1 26 .int (fun ad => [.ref (ad (14 + 3 * j)), .int x1]) μ ν r μ ν :=
  mkI (by decide) rfl (fun ad => Nat.le_of_ble_eq_true rfl) (fun p l e s m args below meth c D cy ad C hr X ls hl => w4_late C hr j x1 hj hg _ _ X _ hl)
theorem qX4_51 {p : Program} {l : Launch} {e : Env} {R : Room} {s : State} {m : MethodId} {args : Array Value} {below : List Frame} {meth : Method} {c : Code} {H : Heap} {locs : List Loc} {cells slots : Nat} {Q : State → Prop} {A : Nat → Prop} {cc : ByteArray} {nL : Nat} {D : va_G} {cy : Nat → ClassId} {ad : Nat → Nat} {μ : Mem} {ν : Lem} {pc : Nat} {ls : Array Slot} {rest : List Value} {j : Nat} {x1 : Int32} (hj : j < 13) {r : Int32} (hg : f4_late μ j x1 = some r) (C : CxA true A p s m args meth c cc nL RX4 D cy ad) (X : WdA true A D cy ad s.heap μ ν H locs) (hsz : ls.size = nL) (hrm : (rest.map fun v => v.category).sum ≤ 8) (hR : 1 + 1 ≤ R.frames ∧ 8 + (2 + 11) + 26 ≤ R.locals) (hcs : cells ≤ R.cells ∧ slots ≤ R.slots) (hd : decode cc pc = .ok (.invokevirtual 51, 3)) (kk : ∀ (H1 : Heap) (locs1 : List Loc), WdA true A D cy ad s.heap μ ν H1 locs1 → narrow .int (.int r) = .int r → W p l e R s m args below meth c H1 locs1 cells slots Q (F0 m (pc + 3) ls (.int r :: rest))) : W p l e R s m args below meth c H locs cells slots Q (F0 m pc ls (.int x1 :: .ref (ad (14 + 3 * j)) :: rest)) :=
  rCVI (As := [.int x1]) (k := 14 + 3 * j) (ct4_late hj hg) ok4 lX4_late k_462 (sW hj) rfl rfl C X rfl hrm hsz hR hcs hd kk
set_option maxRecDepth 100000 in
set_option maxHeartbeats 4000000 in
theorem w4_turned {p : Program} {l : Launch} {e : Env} {s : State} {m : MethodId} {args : Array Value} {below : List Frame} {meth : Method} {c : Code} {D : va_G} {cy : Nat → ClassId} {ad : Nat → Nat} {r : Int32} {μ : Mem} {ν : Lem} (C : Cx true p s m args meth c cX4_turned 3 RX4 D cy ad) (hr : meth.sig.returnType = some .int) : ∀ (j : Nat) (x1 : Int32) (x2 : Int32) (hj : j < 13), f4_turned μ j x1 x2 = some r → ∀ (H : Heap) (locs : List Loc), Wd true D cy ad s.heap μ ν H locs → ∀ (ls : Array Slot), lv_has ls 3 [(0, .ref (ad (14 + 3 * j))), (1, .int x1), (2, .int x2)] → WI true p l e 1 26 s m args below meth c D cy ad .int r μ ν H locs (F0 m 0 ls []) := by
  have hx := C.1.1
  have hb := C.1.2.1
  have hown := C.1.2.2.2.1
  have hts := C.1.2.2.2.2
  intro j x1 x2 hj hf H locs X ls hl
  unfold f4_turned at hf
  refine lv_sipush (v := 1000) hx hb dX4_turned_0 (by decide) ?_
  refine lv_iload_n hx hb dX4_turned_3 rfl (lv_at hl 2 rfl) ?_
  refine lv_imul hx hb dX4_turned_4 ?_
  refine lv_aload_n hx hb dX4_turned_5 rfl (lv_at hl 0 rfl) ?_
  refine lv_iload_n hx hb dX4_turned_6 rfl (lv_at hl 1 rfl) ?_
  obtain ⟨r7, g7, hf⟩ := bd1_e hf
  refine qX4_61 (j := j) hj g7 C X hl.1 ((Nat.le_of_ble_eq_true rfl)) ⟨(Nat.le_of_ble_eq_true rfl), (Nat.le_of_ble_eq_true rfl)⟩ ⟨Nat.zero_le _, Nat.zero_le _⟩ dX4_turned_7 (fun H locs X b7 => ?_)
  refine lv_isub hx hb dX4_turned_10 ?_
  exact retI C X hr rfl (Option.some.inj hf) rfl rfl dX4_turned_11
theorem ct4_turned {j : Nat} {x1 : Int32} {x2 : Int32} (hj : j < 13) {μ : Mem} {ν : Lem} {r : Int32} (hg : f4_turned μ j x1 x2 = some r) : CtI true yX4_turned cX4_turned 3 1 26 .int (fun ad => [.ref (ad (14 + 3 * j)), .int x1, .int x2]) μ ν r μ ν :=
  mkI (by decide) rfl (fun ad => Nat.le_of_ble_eq_true rfl) (fun p l e s m args below meth c D cy ad C hr X ls hl => w4_turned C hr j x1 x2 hj hg _ _ X _ hl)
theorem qX4_55 {p : Program} {l : Launch} {e : Env} {R : Room} {s : State} {m : MethodId} {args : Array Value} {below : List Frame} {meth : Method} {c : Code} {H : Heap} {locs : List Loc} {cells slots : Nat} {Q : State → Prop} {A : Nat → Prop} {cc : ByteArray} {nL : Nat} {D : va_G} {cy : Nat → ClassId} {ad : Nat → Nat} {μ : Mem} {ν : Lem} {pc : Nat} {ls : Array Slot} {rest : List Value} {j : Nat} {x1 : Int32} {x2 : Int32} (hj : j < 13) {r : Int32} (hg : f4_turned μ j x1 x2 = some r) (C : CxA true A p s m args meth c cc nL RX4 D cy ad) (X : WdA true A D cy ad s.heap μ ν H locs) (hsz : ls.size = nL) (hrm : (rest.map fun v => v.category).sum ≤ 8) (hR : 1 + 1 ≤ R.frames ∧ 8 + (3 + 11) + 26 ≤ R.locals) (hcs : cells ≤ R.cells ∧ slots ≤ R.slots) (hd : decode cc pc = .ok (.invokevirtual 55, 3)) (kk : ∀ (H1 : Heap) (locs1 : List Loc), WdA true A D cy ad s.heap μ ν H1 locs1 → narrow .int (.int r) = .int r → W p l e R s m args below meth c H1 locs1 cells slots Q (F0 m (pc + 3) ls (.int r :: rest))) : W p l e R s m args below meth c H locs cells slots Q (F0 m pc ls (.int x2 :: .int x1 :: .ref (ad (14 + 3 * j)) :: rest)) :=
  rCVI (As := [.int x1, .int x2]) (k := 14 + 3 * j) (ct4_turned hj hg) ok4 lX4_turned k_470 (sW hj) rfl rfl C X rfl hrm hsz hR hcs hd kk
set_option maxRecDepth 100000 in
set_option maxHeartbeats 4000000 in
theorem w4_unbound {p : Program} {l : Launch} {e : Env} {s : State} {m : MethodId} {args : Array Value} {below : List Frame} {meth : Method} {c : Code} {D : va_G} {cy : Nat → ClassId} {ad : Nat → Nat} {r : Int32} {μ : Mem} {ν : Lem} (C : Cx true p s m args meth c cX4_unbound 3 RX4 D cy ad) (hr : meth.sig.returnType = some .int) : ∀ (j : Nat) (x1 : Int32) (x2 : Int32) (hj : j < 13), f4_unbound μ j x1 x2 = some r → ∀ (H : Heap) (locs : List Loc), Wd true D cy ad s.heap μ ν H locs → ∀ (ls : Array Slot), lv_has ls 3 [(0, .ref (ad (14 + 3 * j))), (1, .int x1), (2, .int x2)] → WI true p l e 2 48 s m args below meth c D cy ad .int r μ ν H locs (F0 m 0 ls []) := by
  have hx := C.1.1
  have hb := C.1.2.1
  have hown := C.1.2.2.2.1
  have hts := C.1.2.2.2.2
  intro j x1 x2 hj hf H locs X ls hl
  unfold f4_unbound at hf
  refine lv_aload_n hx hb dX4_unbound_0 rfl (lv_at hl 0 rfl) ?_
  refine gfX4_18 (j := j) hj rfl C X dX4_unbound_1 ?_
  by_cases c4_1 : (μ (14 + 3 * j) 0) = 1
  · replace hf := ifp c4_1 hf
    refine rTab (v := 1) (off := 36) (tgt := 40) hx hb c4_1 dX4_unbound_4 (by decide) (by decide) rfl (by decide) ?_
    refine lv_aload_n hx hb dX4_unbound_40 rfl (lv_at hl 0 rfl) ?_
    refine lv_iload_n hx hb dX4_unbound_41 rfl (lv_at hl 1 rfl) ?_
    obtain ⟨r42, g42, hf⟩ := bd1_e hf
    refine qX4_51 (j := j) hj g42 C X hl.1 ((Nat.le_of_ble_eq_true rfl)) ⟨(Nat.le_of_ble_eq_true rfl), (Nat.le_of_ble_eq_true rfl)⟩ ⟨Nat.zero_le _, Nat.zero_le _⟩ dX4_unbound_42 (fun H locs X b42 => ?_)
    exact retI C X hr rfl (Option.some.inj hf) rfl rfl dX4_unbound_45
  · replace hf := ifn c4_1 hf
    by_cases c4_2 : (μ (14 + 3 * j) 0) = 2
    · replace hf := ifp c4_2 hf
      refine rTab (v := 2) (off := 42) (tgt := 46) hx hb c4_2 dX4_unbound_4 (by decide) (by decide) rfl (by decide) ?_
      refine lv_aload_n hx hb dX4_unbound_46 rfl (lv_at hl 0 rfl) ?_
      refine lv_iload_n hx hb dX4_unbound_47 rfl (lv_at hl 1 rfl) ?_
      refine lv_iload_n hx hb dX4_unbound_48 rfl (lv_at hl 2 rfl) ?_
      obtain ⟨r49, g49, hf⟩ := bd1_e hf
      refine qX4_55 (j := j) hj g49 C X hl.1 ((Nat.le_of_ble_eq_true rfl)) ⟨(Nat.le_of_ble_eq_true rfl), (Nat.le_of_ble_eq_true rfl)⟩ ⟨Nat.zero_le _, Nat.zero_le _⟩ dX4_unbound_49 (fun H locs X b49 => ?_)
      exact retI C X hr rfl (Option.some.inj hf) rfl rfl dX4_unbound_52
    · replace hf := ifn c4_2 hf
      by_cases c4_3 : (μ (14 + 3 * j) 0) = 3
      · replace hf := ifp c4_3 hf
        refine rTab (v := 3) (off := 49) (tgt := 53) hx hb c4_3 dX4_unbound_4 (by decide) (by decide) rfl (by decide) ?_
        refine lv_aload_n hx hb dX4_unbound_53 rfl (lv_at hl 0 rfl) ?_
        refine lv_iload_n hx hb dX4_unbound_54 rfl (lv_at hl 1 rfl) ?_
        obtain ⟨r55, g55, hf⟩ := bd1_e hf
        refine qX4_51 (j := j) hj g55 C X hl.1 ((Nat.le_of_ble_eq_true rfl)) ⟨(Nat.le_of_ble_eq_true rfl), (Nat.le_of_ble_eq_true rfl)⟩ ⟨Nat.zero_le _, Nat.zero_le _⟩ dX4_unbound_55 (fun H locs X b55 => ?_)
        refine lv_iconst (v := 2) hx hb dX4_unbound_58 (by decide) ?_
        refine lv_idiv hx hb dX4_unbound_59 (by decide) ?_
        exact retI C X hr rfl (Option.some.inj hf) rfl rfl dX4_unbound_60
      · replace hf := ifn c4_3 hf
        by_cases c4_4 : (μ (14 + 3 * j) 0) = 4
        · replace hf := ifp c4_4 hf
          refine rTab (v := 4) (off := 57) (tgt := 61) hx hb c4_4 dX4_unbound_4 (by decide) (by decide) rfl (by decide) ?_
          refine lv_aload_n hx hb dX4_unbound_61 rfl (lv_at hl 0 rfl) ?_
          refine lv_iload_n hx hb dX4_unbound_62 rfl (lv_at hl 1 rfl) ?_
          refine lv_iload_n hx hb dX4_unbound_63 rfl (lv_at hl 1 rfl) ?_
          refine lv_aload_n hx hb dX4_unbound_64 rfl (lv_at hl 0 rfl) ?_
          refine gfX4_22 (j := j) hj rfl C X dX4_unbound_65 ?_
          refine lv_iconst (v := 1) hx hb dX4_unbound_68 (by decide) ?_
          refine lv_iadd hx hb dX4_unbound_69 ?_
          obtain ⟨r70, g70, hf⟩ := bd1_e hf
          refine qX4_58 g70 C X hl.1 ((Nat.le_of_ble_eq_true rfl)) ⟨(Nat.le_of_ble_eq_true rfl), (Nat.le_of_ble_eq_true rfl)⟩ ⟨Nat.zero_le _, Nat.zero_le _⟩ dX4_unbound_70 (fun H locs X b70 => ?_)
          refine lv_isub hx hb dX4_unbound_73 ?_
          refine lv_iload_n hx hb dX4_unbound_74 rfl (lv_at hl 2 rfl) ?_
          obtain ⟨r75, g75, hf⟩ := bd1_e hf
          refine qX4_55 (j := j) hj g75 C X hl.1 ((Nat.le_of_ble_eq_true rfl)) ⟨(Nat.le_of_ble_eq_true rfl), (Nat.le_of_ble_eq_true rfl)⟩ ⟨Nat.zero_le _, Nat.zero_le _⟩ dX4_unbound_75 (fun H locs X b75 => ?_)
          exact retI C X hr rfl (Option.some.inj hf) rfl rfl dX4_unbound_78
        · replace hf := ifn c4_4 hf
          by_cases c4_5 : (μ (14 + 3 * j) 0) = 5
          · replace hf := ifp c4_5 hf
            refine rTab (v := 5) (off := 75) (tgt := 79) hx hb c4_5 dX4_unbound_4 (by decide) (by decide) rfl (by decide) ?_
            refine lv_aload_n hx hb dX4_unbound_79 rfl (lv_at hl 0 rfl) ?_
            refine lv_iload_n hx hb dX4_unbound_80 rfl (lv_at hl 1 rfl) ?_
            obtain ⟨r81, g81, hf⟩ := bd1_e hf
            refine qX4_51 (j := j) hj g81 C X hl.1 ((Nat.le_of_ble_eq_true rfl)) ⟨(Nat.le_of_ble_eq_true rfl), (Nat.le_of_ble_eq_true rfl)⟩ ⟨Nat.zero_le _, Nat.zero_le _⟩ dX4_unbound_81 (fun H locs X b81 => ?_)
            refine lv_sipush (v := 1000) hx hb dX4_unbound_84 (by decide) ?_
            refine lv_iload_n hx hb dX4_unbound_87 rfl (lv_at hl 1 rfl) ?_
            refine lv_aload_n hx hb dX4_unbound_88 rfl (lv_at hl 0 rfl) ?_
            refine gfX4_22 (j := j) hj rfl C X dX4_unbound_89 ?_
            refine lv_iconst (v := 2) hx hb dX4_unbound_92 (by decide) ?_
            refine lv_iadd hx hb dX4_unbound_93 ?_
            obtain ⟨r94, g94, hf⟩ := bd1_e hf
            refine qX4_58 g94 C X hl.1 ((Nat.le_of_ble_eq_true rfl)) ⟨(Nat.le_of_ble_eq_true rfl), (Nat.le_of_ble_eq_true rfl)⟩ ⟨Nat.zero_le _, Nat.zero_le _⟩ dX4_unbound_94 (fun H locs X b94 => ?_)
            refine lv_imul hx hb dX4_unbound_97 ?_
            refine lv_iadd hx hb dX4_unbound_98 ?_
            exact retI C X hr rfl (Option.some.inj hf) rfl rfl dX4_unbound_99
          · replace hf := ifn c4_5 hf
            refine rTabOut hx hb 100 dX4_unbound_4 (by decide) (tab_out 1 5 rfl rfl (by decide) (fun k hk => ?_)) ?_
            · rcases (show k = 0 ∨ k = 1 ∨ k = 2 ∨ k = 3 ∨ k = 4 by omega) with rfl | rfl | rfl | rfl | rfl
              · exact c4_1
              · exact c4_2
              · exact c4_3
              · exact c4_4
              · exact c4_5
            refine lv_aload_n hx hb dX4_unbound_100 rfl (lv_at hl 0 rfl) ?_
            refine lv_iload_n hx hb dX4_unbound_101 rfl (lv_at hl 1 rfl) ?_
            obtain ⟨r102, g102, hf⟩ := bd1_e hf
            refine qX4_61 (j := j) hj g102 C X hl.1 ((Nat.le_of_ble_eq_true rfl)) ⟨(Nat.le_of_ble_eq_true rfl), (Nat.le_of_ble_eq_true rfl)⟩ ⟨Nat.zero_le _, Nat.zero_le _⟩ dX4_unbound_102 (fun H locs X b102 => ?_)
            exact retI C X hr rfl (Option.some.inj hf) rfl rfl dX4_unbound_105
theorem ct4_unbound {j : Nat} {x1 : Int32} {x2 : Int32} (hj : j < 13) {μ : Mem} {ν : Lem} {r : Int32} (hg : f4_unbound μ j x1 x2 = some r) : CtI true yX4_unbound cX4_unbound 3 2 48 .int (fun ad => [.ref (ad (14 + 3 * j)), .int x1, .int x2]) μ ν r μ ν :=
  mkI (by decide) rfl (fun ad => Nat.le_of_ble_eq_true rfl) (fun p l e s m args below meth c D cy ad C hr X ls hl => w4_unbound C hr j x1 x2 hj hg _ _ X _ hl)
theorem qX4_44 {p : Program} {l : Launch} {e : Env} {R : Room} {s : State} {m : MethodId} {args : Array Value} {below : List Frame} {meth : Method} {c : Code} {H : Heap} {locs : List Loc} {cells slots : Nat} {Q : State → Prop} {A : Nat → Prop} {cc : ByteArray} {nL : Nat} {D : va_G} {cy : Nat → ClassId} {ad : Nat → Nat} {μ : Mem} {ν : Lem} {pc : Nat} {ls : Array Slot} {rest : List Value} {j : Nat} {x1 : Int32} {x2 : Int32} (hj : j < 13) {r : Int32} (hg : f4_unbound μ j x1 x2 = some r) (C : CxA true A p s m args meth c cc nL RX4 D cy ad) (X : WdA true A D cy ad s.heap μ ν H locs) (hsz : ls.size = nL) (hrm : (rest.map fun v => v.category).sum ≤ 8) (hR : 2 + 1 ≤ R.frames ∧ 8 + (3 + 11) + 48 ≤ R.locals) (hcs : cells ≤ R.cells ∧ slots ≤ R.slots) (hd : decode cc pc = .ok (.invokevirtual 44, 3)) (kk : ∀ (H1 : Heap) (locs1 : List Loc), WdA true A D cy ad s.heap μ ν H1 locs1 → narrow .int (.int r) = .int r → W p l e R s m args below meth c H1 locs1 cells slots Q (F0 m (pc + 3) ls (.int r :: rest))) : W p l e R s m args below meth c H locs cells slots Q (F0 m pc ls (.int x2 :: .int x1 :: .ref (ad (14 + 3 * j)) :: rest)) :=
  rCVI (As := [.int x1, .int x2]) (k := 14 + 3 * j) (ct4_unbound hj hg) ok4 lX4_unbound k_458 (sW hj) rfl rfl C X rfl hrm hsz hR hcs hd kk
set_option maxRecDepth 100000 in
set_option maxHeartbeats 4000000 in
theorem w5_within {p : Program} {l : Launch} {e : Env} {s : State} {m : MethodId} {args : Array Value} {below : List Frame} {meth : Method} {c : Code} {D : va_G} {cy : Nat → ClassId} {ad : Nat → Nat} {r : Int32} {μ : Mem} {ν : Lem} (C : Cx true p s m args meth c cX5_within 3 RX5 D cy ad) (hr : meth.sig.returnType = some .int) : ∀ (x0 : Int32) (x1 : Int32) (x2 : Int32), f5_within x0 x1 x2 = r → ∀ (H : Heap) (locs : List Loc), Wd true D cy ad s.heap μ ν H locs → ∀ (ls : Array Slot), lv_has ls 3 [(0, .int x0), (1, .int x1), (2, .int x2)] → WI true p l e 1 21 s m args below meth c D cy ad .int r μ ν H locs (F0 m 0 ls []) := by
  have hx := C.1.1
  have hb := C.1.2.1
  have hown := C.1.2.2.2.1
  have hts := C.1.2.2.2.2
  intro x0 x1 x2 hf H locs X ls hl
  unfold f5_within at hf
  refine lv_iload_n hx hb dX5_within_0 rfl (lv_at hl 0 rfl) ?_
  refine lv_iload_n hx hb dX5_within_1 rfl (lv_at hl 1 rfl) ?_
  refine lv_iload_n hx hb dX5_within_2 rfl (lv_at hl 2 rfl) ?_
  refine rMin C k_480 hl.1 (Nat.le_of_ble_eq_true rfl) (Nat.le_of_ble_eq_true rfl) ⟨Nat.zero_le _, Nat.zero_le _⟩ dX5_within_3 ?_
  refine rMax C k_481 hl.1 (Nat.le_of_ble_eq_true rfl) (Nat.le_of_ble_eq_true rfl) ⟨Nat.zero_le _, Nat.zero_le _⟩ dX5_within_6 ?_
  exact retI C X hr rfl hf rfl rfl dX5_within_9
theorem ct5_within {x0 : Int32} {x1 : Int32} {x2 : Int32} {μ : Mem} {ν : Lem} {r : Int32} (hg : f5_within x0 x1 x2 = r) : CtI true yX5_within cX5_within 3 1 21 .int (fun ad => [.int x0, .int x1, .int x2]) μ ν r μ ν :=
  mkI (by decide) rfl (fun ad => Nat.le_of_ble_eq_true rfl) (fun p l e s m args below meth c D cy ad C hr X ls hl => w5_within C hr x0 x1 x2 hg _ _ X _ hl)
theorem qX4_47 {p : Program} {l : Launch} {e : Env} {R : Room} {s : State} {m : MethodId} {args : Array Value} {below : List Frame} {meth : Method} {c : Code} {H : Heap} {locs : List Loc} {cells slots : Nat} {Q : State → Prop} {A : Nat → Prop} {cc : ByteArray} {nL : Nat} {D : va_G} {cy : Nat → ClassId} {ad : Nat → Nat} {μ : Mem} {ν : Lem} {pc : Nat} {ls : Array Slot} {rest : List Value} {x0 : Int32} {x1 : Int32} {x2 : Int32} {r : Int32} (hg : f5_within x0 x1 x2 = r) (C : CxA true A p s m args meth c cc nL RX4 D cy ad) (X : WdA true A D cy ad s.heap μ ν H locs) (hsz : ls.size = nL) (hrm : (rest.map fun v => v.category).sum ≤ 8) (hR : 1 + 1 ≤ R.frames ∧ 8 + (3 + 11) + 21 ≤ R.locals) (hcs : cells ≤ R.cells ∧ slots ≤ R.slots) (hd : decode cc pc = .ok (.invokestatic 47, 3)) (kk : ∀ (H1 : Heap) (locs1 : List Loc), WdA true A D cy ad s.heap μ ν H1 locs1 → narrow .int (.int r) = .int r → W p l e R s m args below meth c H1 locs1 cells slots Q (F0 m (pc + 3) ls (.int r :: rest))) : W p l e R s m args below meth c H locs cells slots Q (F0 m pc ls (.int x2 :: .int x1 :: .int x0 :: rest)) :=
  rCSIN (As := [.int x0, .int x1, .int x2]) (ct5_within hg) lX5_within (nk_20) rfl rfl C X rfl hrm hsz hR hcs hd kk
theorem qX5_161 {p : Program} {l : Launch} {e : Env} {R : Room} {s : State} {m : MethodId} {args : Array Value} {below : List Frame} {meth : Method} {c : Code} {H : Heap} {locs : List Loc} {cells slots : Nat} {Q : State → Prop} {A : Nat → Prop} {cc : ByteArray} {nL : Nat} {D : va_G} {cy : Nat → ClassId} {ad : Nat → Nat} {μ : Mem} {ν : Lem} {pc : Nat} {ls : Array Slot} {rest : List Value} {x0 : Int32} {x1 : Int32} {x2 : Int32} {r : Int32} (hg : f5_within x0 x1 x2 = r) (C : CxA true A p s m args meth c cc nL RX5 D cy ad) (X : WdA true A D cy ad s.heap μ ν H locs) (hsz : ls.size = nL) (hrm : (rest.map fun v => v.category).sum ≤ 8) (hR : 1 + 1 ≤ R.frames ∧ 8 + (3 + 11) + 21 ≤ R.locals) (hcs : cells ≤ R.cells ∧ slots ≤ R.slots) (hd : decode cc pc = .ok (.invokestatic 161, 3)) (kk : ∀ (H1 : Heap) (locs1 : List Loc), WdA true A D cy ad s.heap μ ν H1 locs1 → narrow .int (.int r) = .int r → W p l e R s m args below meth c H1 locs1 cells slots Q (F0 m (pc + 3) ls (.int r :: rest))) : W p l e R s m args below meth c H locs cells slots Q (F0 m pc ls (.int x2 :: .int x1 :: .int x0 :: rest)) :=
  rCSI (As := [.int x0, .int x1, .int x2]) (ct5_within hg) lX5_within k_507 rfl rfl C X rfl hrm hsz hR hcs hd kk
set_option maxRecDepth 100000 in
set_option maxHeartbeats 4000000 in
theorem w4_where {p : Program} {l : Launch} {e : Env} {s : State} {m : MethodId} {args : Array Value} {below : List Frame} {meth : Method} {c : Code} {D : va_G} {cy : Nat → ClassId} {ad : Nat → Nat} {r : Int32} {μ : Mem} {ν : Lem} (C : Cx true p s m args meth c cX4_where 3 RX4 D cy ad) (hr : meth.sig.returnType = some .int) : ∀ (j : Nat) (x1 : Int32) (x2 : Int32) (hj : j < 13), f4_where μ j x1 x2 = some r → ∀ (H : Heap) (locs : List Loc), Wd true D cy ad s.heap μ ν H locs → ∀ (ls : Array Slot), lv_has ls 3 [(0, .ref (ad (14 + 3 * j))), (1, .int x1), (2, .int x2)] → WI true p l e 3 70 s m args below meth c D cy ad .int r μ ν H locs (F0 m 0 ls []) := by
  have hx := C.1.1
  have hb := C.1.2.1
  have hown := C.1.2.2.2.1
  have hts := C.1.2.2.2.2
  intro j x1 x2 hj hf H locs X ls hl
  unfold f4_where at hf
  refine lv_iconst (v := 0) hx hb dX4_where_0 (by decide) ?_
  refine lv_aload_n hx hb dX4_where_1 rfl (lv_at hl 0 rfl) ?_
  refine lv_iload_n hx hb dX4_where_2 rfl (lv_at hl 1 rfl) ?_
  refine lv_iload_n hx hb dX4_where_3 rfl (lv_at hl 2 rfl) ?_
  obtain ⟨r4, g4, hf⟩ := bd1_e hf
  refine qX4_44 (j := j) hj g4 C X hl.1 ((Nat.le_of_ble_eq_true rfl)) ⟨(Nat.le_of_ble_eq_true rfl), (Nat.le_of_ble_eq_true rfl)⟩ ⟨Nat.zero_le _, Nat.zero_le _⟩ dX4_where_4 (fun H locs X b4 => ?_)
  refine lv_sipush (v := 1000) hx hb dX4_where_7 (by decide) ?_
  refine lv_iload_n hx hb dX4_where_10 rfl (lv_at hl 2 rfl) ?_
  refine lv_imul hx hb dX4_where_11 ?_
  refine qX4_47 rfl C X hl.1 ((Nat.le_of_ble_eq_true rfl)) ⟨(Nat.le_of_ble_eq_true rfl), (Nat.le_of_ble_eq_true rfl)⟩ ⟨Nat.zero_le _, Nat.zero_le _⟩ dX4_where_12 (fun H locs X b12 => ?_)
  exact retI C X hr rfl (Option.some.inj hf) rfl rfl dX4_where_15
theorem ct4_where {j : Nat} {x1 : Int32} {x2 : Int32} (hj : j < 13) {μ : Mem} {ν : Lem} {r : Int32} (hg : f4_where μ j x1 x2 = some r) : CtI true yX4_where cX4_where 3 3 70 .int (fun ad => [.ref (ad (14 + 3 * j)), .int x1, .int x2]) μ ν r μ ν :=
  mkI (by decide) rfl (fun ad => Nat.le_of_ble_eq_true rfl) (fun p l e s m args below meth c D cy ad C hr X ls hl => w4_where C hr j x1 x2 hj hg _ _ X _ hl)
theorem qX5_143 {p : Program} {l : Launch} {e : Env} {R : Room} {s : State} {m : MethodId} {args : Array Value} {below : List Frame} {meth : Method} {c : Code} {H : Heap} {locs : List Loc} {cells slots : Nat} {Q : State → Prop} {A : Nat → Prop} {cc : ByteArray} {nL : Nat} {D : va_G} {cy : Nat → ClassId} {ad : Nat → Nat} {μ : Mem} {ν : Lem} {pc : Nat} {ls : Array Slot} {rest : List Value} {j : Nat} {x1 : Int32} {x2 : Int32} (hj : j < 13) {r : Int32} (hg : f4_where μ j x1 x2 = some r) (C : CxA true A p s m args meth c cc nL RX5 D cy ad) (X : WdA true A D cy ad s.heap μ ν H locs) (hsz : ls.size = nL) (hrm : (rest.map fun v => v.category).sum ≤ 8) (hR : 3 + 1 ≤ R.frames ∧ 8 + (3 + 11) + 70 ≤ R.locals) (hcs : cells ≤ R.cells ∧ slots ≤ R.slots) (hd : decode cc pc = .ok (.invokevirtual 143, 3)) (kk : ∀ (H1 : Heap) (locs1 : List Loc), WdA true A D cy ad s.heap μ ν H1 locs1 → narrow .int (.int r) = .int r → W p l e R s m args below meth c H1 locs1 cells slots Q (F0 m (pc + 3) ls (.int r :: rest))) : W p l e R s m args below meth c H locs cells slots Q (F0 m pc ls (.int x2 :: .int x1 :: .ref (ad (14 + 3 * j)) :: rest)) :=
  rCVI (As := [.int x1, .int x2]) (k := 14 + 3 * j) (ct4_where hj hg) ok4 lX4_where k_454 (sW hj) rfl rfl C X rfl hrm hsz hR hcs hd kk
theorem qX4_41 {p : Program} {l : Launch} {e : Env} {R : Room} {s : State} {m : MethodId} {args : Array Value} {below : List Frame} {meth : Method} {c : Code} {H : Heap} {locs : List Loc} {cells slots : Nat} {Q : State → Prop} {A : Nat → Prop} {cc : ByteArray} {nL : Nat} {D : va_G} {cy : Nat → ClassId} {ad : Nat → Nat} {μ : Mem} {ν : Lem} {pc : Nat} {ls : Array Slot} {rest : List Value} {j : Nat} {x1 : Int32} {x2 : Int32} (hj : j < 13) {r : Int32} (hg : f4_where μ j x1 x2 = some r) (C : CxA true A p s m args meth c cc nL RX4 D cy ad) (X : WdA true A D cy ad s.heap μ ν H locs) (hsz : ls.size = nL) (hrm : (rest.map fun v => v.category).sum ≤ 8) (hR : 3 + 1 ≤ R.frames ∧ 8 + (3 + 11) + 70 ≤ R.locals) (hcs : cells ≤ R.cells ∧ slots ≤ R.slots) (hd : decode cc pc = .ok (.invokevirtual 41, 3)) (kk : ∀ (H1 : Heap) (locs1 : List Loc), WdA true A D cy ad s.heap μ ν H1 locs1 → narrow .int (.int r) = .int r → W p l e R s m args below meth c H1 locs1 cells slots Q (F0 m (pc + 3) ls (.int r :: rest))) : W p l e R s m args below meth c H locs cells slots Q (F0 m pc ls (.int x2 :: .int x1 :: .ref (ad (14 + 3 * j)) :: rest)) :=
  rCVI (As := [.int x1, .int x2]) (k := 14 + 3 * j) (ct4_where hj hg) ok4 lX4_where k_556 (sW hj) rfl rfl C X rfl hrm hsz hR hcs hd kk
set_option maxRecDepth 100000 in
set_option maxHeartbeats 4000000 in
theorem w4_lay_1 {p : Program} {l : Launch} {e : Env} {s : State} {m : MethodId} {args : Array Value} {below : List Frame} {meth : Method} {c : Code} {D : va_G} {cy : Nat → ClassId} {ad : Nat → Nat} {μ1 : Mem} {ν : Lem} (C : Cx true p s m args meth c cX4_lay 4 RX4 D cy ad) (hr : meth.sig.returnType = none) : ∀ (n : Nat), ∀ (μ : Mem) (j : Nat) (x1 : Nat) (x2 : Int32) (x3 : Int32) (hj : j < 13) (hx1 : (Sp true)[x1]? = some (.inr (0, 601, 0, 0))), f4_lay_1 n μ j x1 x2 x3 = some μ1 → ∀ (H : Heap) (locs : List Loc), Wd true D cy ad s.heap μ ν H locs → ∀ (ls : Array Slot), lv_has ls 4 [(0, .ref (ad (14 + 3 * j))), (1, .ref (ad x1)), (2, .int x2), (3, .int x3)] → WV true p l e 4 92 s m args below meth c D cy ad μ1 ν H locs (F0 m 2 ls []) := by
  have hx := C.1.1
  have hb := C.1.2.1
  have hown := C.1.2.2.2.1
  have hts := C.1.2.2.2.2
  intro n
  induction n with
  | zero =>
    intro μ j x1 x2 x3 hj hx1 hf H locs X ls hl
    rw [f4_lay_1] at hf
    cases hf
  | succ n ih =>
    intro μ j x1 x2 x3 hj hx1 hf H locs X ls hl
    rw [f4_lay_1] at hf
    refine lv_iload_n hx hb dX4_lay_2 rfl (lv_at hl 3 rfl) ?_
    refine lv_aload_n hx hb dX4_lay_3 rfl (lv_at hl 1 rfl) ?_
    refine rAlen (v := 601) C X hx1 (by decide) dX4_lay_4 ?_
    refine lv_icmp_ge (tgt := 23) hx hb dX4_lay_5 (by decide) (fun c5 => ?_) (fun c5 => ?_)
    · replace hf := ifp c5 hf
      exact retV C X hr (Option.some.inj hf) rfl dX4_lay_23
    · replace hf := ifn c5 hf
      refine lv_aload_n hx hb dX4_lay_8 rfl (lv_at hl 1 rfl) ?_
      refine lv_iload_n hx hb dX4_lay_9 rfl (lv_at hl 3 rfl) ?_
      refine lv_aload_n hx hb dX4_lay_10 rfl (lv_at hl 0 rfl) ?_
      refine lv_iload_n hx hb dX4_lay_11 rfl (lv_at hl 3 rfl) ?_
      refine lv_iload_n hx hb dX4_lay_12 rfl (lv_at hl 2 rfl) ?_
      obtain ⟨r13, g13, hf⟩ := bd1_e hf
      refine qX4_41 (j := j) hj g13 C X hl.1 ((Nat.le_of_ble_eq_true rfl)) ⟨(Nat.le_of_ble_eq_true rfl), (Nat.le_of_ble_eq_true rfl)⟩ ⟨Nat.zero_le _, Nat.zero_le _⟩ dX4_lay_13 (fun H locs X b13 => ?_)
      obtain ⟨h16, hf⟩ := gd_e hf
      obtain ⟨μ16, e16, hf⟩ := nm_e2 hf
      refine rIast2 C X hx1 h16 e16 dX4_lay_16 (fun H locs X => ?_)
      obtain ⟨v17, e17, hf⟩ := nm_e2 hf
      refine rIinc (lv' := [(3, .int v17), (0, .ref (ad (14 + 3 * j))), (1, .ref (ad x1)), (2, .int x2)]) hx hb dX4_lay_17 hl (k := 3) rfl e17 rfl (by decide) rfl (fun ls hl => ?_)
      refine lv_goto (tgt := 2) hx hb dX4_lay_20 (by decide) ?_
      exact ih μ16 j x1 x2 v17 hj hx1 hf _ _ X _ (lv_sub hl [1, 2, 3, 0] rfl)
set_option maxRecDepth 100000 in
set_option maxHeartbeats 4000000 in
theorem w4_lay {p : Program} {l : Launch} {e : Env} {s : State} {m : MethodId} {args : Array Value} {below : List Frame} {meth : Method} {c : Code} {D : va_G} {cy : Nat → ClassId} {ad : Nat → Nat} {μ1 : Mem} {ν : Lem} (C : Cx true p s m args meth c cX4_lay 4 RX4 D cy ad) (hr : meth.sig.returnType = none) : ∀ (μ : Mem) (j : Nat) (x1 : Nat) (x2 : Int32) (hj : j < 13) (hx1 : (Sp true)[x1]? = some (.inr (0, 601, 0, 0))), f4_lay μ j x1 x2 = some μ1 → ∀ (H : Heap) (locs : List Loc), Wd true D cy ad s.heap μ ν H locs → ∀ (ls : Array Slot), lv_has ls 4 [(0, .ref (ad (14 + 3 * j))), (1, .ref (ad x1)), (2, .int x2)] → WV true p l e 4 92 s m args below meth c D cy ad μ1 ν H locs (F0 m 0 ls []) := by
  have hx := C.1.1
  have hb := C.1.2.1
  have hown := C.1.2.2.2.1
  have hts := C.1.2.2.2.2
  intro μ j x1 x2 hj hx1 hf H locs X ls hl
  unfold f4_lay at hf
  refine lv_iconst (v := 0) hx hb dX4_lay_0 (by decide) ?_
  refine lv_istore_n (lv' := [(3, .int 0), (0, .ref (ad (14 + 3 * j))), (1, .ref (ad x1)), (2, .int x2)]) hx hb dX4_lay_1 rfl hl (by decide) rfl (fun ls hl => ?_)
  exact w4_lay_1 C hr  FUEL μ j x1 x2 0 hj hx1 hf _ _ X _ (lv_sub hl [1, 2, 3, 0] rfl)
theorem ct4_lay {j : Nat} {x1 : Nat} {x2 : Int32} (hj : j < 13) (hx1 : (Sp true)[x1]? = some (.inr (0, 601, 0, 0))) {μ : Mem} {ν : Lem} {μ1 : Mem} (hg : f4_lay μ j x1 x2 = some μ1) : CtV true yX4_lay cX4_lay 4 4 92 (fun ad => [.ref (ad (14 + 3 * j)), .ref (ad x1), .int x2]) μ ν μ1 ν :=
  mkV (by decide) rfl (fun ad => Nat.le_of_ble_eq_true rfl) (fun p l e s m args below meth c D cy ad C hr X ls hl => w4_lay C hr μ j x1 x2 hj hx1 hg _ _ X _ hl)
theorem qX5_220 {p : Program} {l : Launch} {e : Env} {R : Room} {s : State} {m : MethodId} {args : Array Value} {below : List Frame} {meth : Method} {c : Code} {H : Heap} {locs : List Loc} {cells slots : Nat} {Q : State → Prop} {A : Nat → Prop} {cc : ByteArray} {nL : Nat} {D : va_G} {cy : Nat → ClassId} {ad : Nat → Nat} {μ : Mem} {ν : Lem} {pc : Nat} {ls : Array Slot} {rest : List Value} {j : Nat} {x1 : Nat} {x2 : Int32} (hj : j < 13) (hx1 : (Sp true)[x1]? = some (.inr (0, 601, 0, 0))) {μ1 : Mem} (hg : f4_lay μ j x1 x2 = some μ1) (C : CxA true A p s m args meth c cc nL RX5 D cy ad) (X : WdA true A D cy ad s.heap μ ν H locs) (hsz : ls.size = nL) (hrm : (rest.map fun v => v.category).sum ≤ 8) (hR : 4 + 1 ≤ R.frames ∧ 8 + (4 + 11) + 92 ≤ R.locals) (hcs : cells ≤ R.cells ∧ slots ≤ R.slots) (hd : decode cc pc = .ok (.invokevirtual 220, 3)) (kk : ∀ (H1 : Heap) (locs1 : List Loc), WdA true A D cy ad s.heap μ1 ν H1 locs1 → W p l e R s m args below meth c H1 locs1 cells slots Q (F0 m (pc + 3) ls rest)) : W p l e R s m args below meth c H locs cells slots Q (F0 m pc ls (.int x2 :: .ref (ad x1) :: .ref (ad (14 + 3 * j)) :: rest)) :=
  rCVV (As := [.ref (ad x1), .int x2]) (k := 14 + 3 * j) (ct4_lay hj hx1 hg) ok4 lX4_lay k_552 (sW hj) rfl rfl C X rfl hrm hsz hR hcs hd kk
set_option maxRecDepth 100000 in
set_option maxHeartbeats 4000000 in
theorem w5_changeLong {p : Program} {l : Launch} {e : Env} {s : State} {m : MethodId} {args : Array Value} {below : List Frame} {meth : Method} {c : Code} {D : va_G} {cy : Nat → ClassId} {ad : Nat → Nat} {r : Int32} {μ1 : Mem} {ν : Lem} (C : Cx true p s m args meth c cX5_changeLong 3 RX5 D cy ad) (hr : meth.sig.returnType = some .int) : ∀ (μ : Mem) (x1 : Int32), f5_changeLong μ x1 = some (r, μ1) → ∀ (H : Heap) (locs : List Loc), Wd true D cy ad s.heap μ ν H locs → ∀ (ls : Array Slot), lv_has ls 3 [(0, .ref (ad 0)), (1, .int x1)] → WI true p l e 3 65 s m args below meth c D cy ad .int r μ1 ν H locs (F0 m 0 ls []) := by
  have hx := C.1.1
  have hb := C.1.2.1
  have hown := C.1.2.2.2.1
  have hts := C.1.2.2.2.2
  intro μ x1 hf H locs X ls hl
  unfold f5_changeLong at hf
  refine lv_iload_n hx hb dX5_changeLong_0 rfl (lv_at hl 1 rfl) ?_
  refine lv_bipush (v := 10) hx hb dX5_changeLong_1 (by decide) ?_
  refine lv_icmp_lt (tgt := 13) hx hb dX5_changeLong_3 (by decide) (fun c3 => ?_) (fun c3 => ?_)
  · replace hf := ifp c3 hf
    refine lv_bipush (v := (-2)) hx hb dX5_changeLong_13 (by decide) ?_
    exact retI C X hr rfl (so2 hf).1 (so2 hf).2 rfl dX5_changeLong_15
  · replace hf := ifn c3 hf
    refine lv_iload_n hx hb dX5_changeLong_6 rfl (lv_at hl 1 rfl) ?_
    refine lv_sipush (v := 999) hx hb dX5_changeLong_7 (by decide) ?_
    refine lv_icmp_le (tgt := 16) hx hb dX5_changeLong_10 (by decide) (fun c10 => ?_) (fun c10 => ?_)
    · replace hf := ifp c10 hf
      refine lv_iload_n hx hb dX5_changeLong_16 rfl (lv_at hl 1 rfl) ?_
      refine lv_aload_n hx hb dX5_changeLong_17 rfl (lv_at hl 0 rfl) ?_
      refine gfX5_10 C X dX5_changeLong_18 ?_
      obtain ⟨r21, g21, hf⟩ := bd1_e hf
      refine qX5_78 (o := 0) (by decide) g21 C X hl.1 ((Nat.le_of_ble_eq_true rfl)) ⟨(Nat.le_of_ble_eq_true rfl), (Nat.le_of_ble_eq_true rfl)⟩ ⟨Nat.zero_le _, Nat.zero_le _⟩ dX5_changeLong_21 (fun H locs X b21 => ?_)
      refine lv_icmp_ge (tgt := 30) hx hb dX5_changeLong_24 (by decide) (fun c24 => ?_) (fun c24 => ?_)
      · replace hf := ifp c24 hf
        refine lv_aload_n hx hb dX5_changeLong_30 rfl (lv_at hl 0 rfl) ?_
        refine gfX5_10 C X dX5_changeLong_31 ?_
        refine gfX5_82 (o := 0) (by decide) rfl C X dX5_changeLong_34 ?_
        obtain ⟨v37, e37, hf⟩ := nm_e2 hf
        refine st_i e37 ?_
        refine lv_istore_n (lv' := [(2, .int v37), (0, .ref (ad 0)), (1, .int x1)]) hx hb dX5_changeLong_37 rfl hl (by decide) rfl (fun ls hl => ?_)
        refine lv_aload_n hx hb dX5_changeLong_38 rfl (lv_at hl 1 rfl) ?_
        refine gfX5_10 C X dX5_changeLong_39 ?_
        refine lv_iload_n hx hb dX5_changeLong_42 rfl (lv_at hl 2 rfl) ?_
        obtain ⟨μ43, e43, hf⟩ := nm_e2 hf
        refine pfX5_82 (o := 0) (by decide) rfl e43 C X dX5_changeLong_43 (fun H locs X => ?_)
        refine lv_iload_n hx hb dX5_changeLong_46 rfl (lv_at hl 0 rfl) ?_
        exact retI C X hr rfl (so2 hf).1 (so2 hf).2 rfl dX5_changeLong_47
      · replace hf := ifn c24 hf
        refine lv_bipush (v := (-3)) hx hb dX5_changeLong_27 (by decide) ?_
        exact retI C X hr rfl (so2 hf).1 (so2 hf).2 rfl dX5_changeLong_29
    · replace hf := ifn c10 hf
      refine lv_bipush (v := (-2)) hx hb dX5_changeLong_13 (by decide) ?_
      exact retI C X hr rfl (so2 hf).1 (so2 hf).2 rfl dX5_changeLong_15
theorem ct5_changeLong {x1 : Int32} {μ : Mem} {ν : Lem} {r : Int32} {μ1 : Mem} (hg : f5_changeLong μ x1 = some (r, μ1)) : CtI true yX5_changeLong cX5_changeLong 3 3 65 .int (fun ad => [.ref (ad 0), .int x1]) μ ν r μ1 ν :=
  mkI (by decide) rfl (fun ad => Nat.le_of_ble_eq_true rfl) (fun p l e s m args below meth c D cy ad C hr X ls hl => w5_changeLong C hr μ x1 hg _ _ X _ hl)
theorem qX5_70 {p : Program} {l : Launch} {e : Env} {R : Room} {s : State} {m : MethodId} {args : Array Value} {below : List Frame} {meth : Method} {c : Code} {H : Heap} {locs : List Loc} {cells slots : Nat} {Q : State → Prop} {A : Nat → Prop} {cc : ByteArray} {nL : Nat} {D : va_G} {cy : Nat → ClassId} {ad : Nat → Nat} {μ : Mem} {ν : Lem} {pc : Nat} {ls : Array Slot} {rest : List Value} {x1 : Int32} {r : Int32} {μ1 : Mem} (hg : f5_changeLong μ x1 = some (r, μ1)) (C : CxA true A p s m args meth c cc nL RX5 D cy ad) (X : WdA true A D cy ad s.heap μ ν H locs) (hsz : ls.size = nL) (hrm : (rest.map fun v => v.category).sum ≤ 8) (hR : 3 + 1 ≤ R.frames ∧ 8 + (3 + 11) + 65 ≤ R.locals) (hcs : cells ≤ R.cells ∧ slots ≤ R.slots) (hd : decode cc pc = .ok (.invokevirtual 70, 3)) (kk : ∀ (H1 : Heap) (locs1 : List Loc), WdA true A D cy ad s.heap μ1 ν H1 locs1 → narrow .int (.int r) = .int r → W p l e R s m args below meth c H1 locs1 cells slots Q (F0 m (pc + 3) ls (.int r :: rest))) : W p l e R s m args below meth c H locs cells slots Q (F0 m pc ls (.int x1 :: .ref (ad 0) :: rest)) :=
  rCVI (As := [.int x1]) (k := 0) (ct5_changeLong hg) ok5 lX5_changeLong k_208 rfl rfl rfl C X rfl hrm hsz hR hcs hd kk
set_option maxRecDepth 100000 in
set_option maxHeartbeats 4000000 in
theorem w5_isNumber {p : Program} {l : Launch} {e : Env} {s : State} {m : MethodId} {args : Array Value} {below : List Frame} {meth : Method} {c : Code} {D : va_G} {cy : Nat → ClassId} {ad : Nat → Nat} {r : Int32} {μ : Mem} {ν : Lem} (C : Cx true p s m args meth c cX5_isNumber 1 RX5 D cy ad) (hr : meth.sig.returnType = some .boolean) : ∀ (x0 : Int32), f5_isNumber x0 = r → ∀ (H : Heap) (locs : List Loc), Wd true D cy ad s.heap μ ν H locs → ∀ (ls : Array Slot), lv_has ls 1 [(0, .int x0)] → WI true p l e 0 0 s m args below meth c D cy ad .boolean r μ ν H locs (F0 m 0 ls []) := by
  have hx := C.1.1
  have hb := C.1.2.1
  have hown := C.1.2.2.2.1
  have hts := C.1.2.2.2.2
  intro x0 hf H locs X ls hl
  unfold f5_isNumber at hf
  refine lv_iload_n hx hb dX5_isNumber_0 rfl (lv_at hl 0 rfl) ?_
  refine lv_if_lt (tgt := 14) hx hb dX5_isNumber_1 (by decide) (fun c1 => ?_) (fun c1 => ?_)
  · replace hf := ifp c1 hf
    refine lv_iconst (v := 0) hx hb dX5_isNumber_14 (by decide) ?_
    exact retI C X hr rfl hf rfl rfl dX5_isNumber_15
  · replace hf := ifn c1 hf
    refine lv_iload_n hx hb dX5_isNumber_4 rfl (lv_at hl 0 rfl) ?_
    refine lv_bipush (v := 9) hx hb dX5_isNumber_5 (by decide) ?_
    refine lv_icmp_gt (tgt := 14) hx hb dX5_isNumber_7 (by decide) (fun c7 => ?_) (fun c7 => ?_)
    · replace hf := ifp c7 hf
      refine lv_iconst (v := 0) hx hb dX5_isNumber_14 (by decide) ?_
      exact retI C X hr rfl hf rfl rfl dX5_isNumber_15
    · replace hf := ifn c7 hf
      refine lv_iconst (v := 1) hx hb dX5_isNumber_10 (by decide) ?_
      refine lv_goto (tgt := 15) hx hb dX5_isNumber_11 (by decide) ?_
      exact retI C X hr rfl hf rfl rfl dX5_isNumber_15
theorem ct5_isNumber {x0 : Int32} {μ : Mem} {ν : Lem} {r : Int32} (hg : f5_isNumber x0 = r) : CtI true yX5_isNumber cX5_isNumber 1 0 0 .boolean (fun ad => [.int x0]) μ ν r μ ν :=
  mkI (by decide) rfl (fun ad => Nat.le_of_ble_eq_true rfl) (fun p l e s m args below meth c D cy ad C hr X ls hl => w5_isNumber C hr x0 hg _ _ X _ hl)
theorem qX5_89 {p : Program} {l : Launch} {e : Env} {R : Room} {s : State} {m : MethodId} {args : Array Value} {below : List Frame} {meth : Method} {c : Code} {H : Heap} {locs : List Loc} {cells slots : Nat} {Q : State → Prop} {A : Nat → Prop} {cc : ByteArray} {nL : Nat} {D : va_G} {cy : Nat → ClassId} {ad : Nat → Nat} {μ : Mem} {ν : Lem} {pc : Nat} {ls : Array Slot} {rest : List Value} {x0 : Int32} {r : Int32} (hg : f5_isNumber x0 = r) (C : CxA true A p s m args meth c cc nL RX5 D cy ad) (X : WdA true A D cy ad s.heap μ ν H locs) (hsz : ls.size = nL) (hrm : (rest.map fun v => v.category).sum ≤ 8) (hR : 0 + 1 ≤ R.frames ∧ 8 + (1 + 11) + 0 ≤ R.locals) (hcs : cells ≤ R.cells ∧ slots ≤ R.slots) (hd : decode cc pc = .ok (.invokestatic 89, 3)) (kk : ∀ (H1 : Heap) (locs1 : List Loc), WdA true A D cy ad s.heap μ ν H1 locs1 → narrow .boolean (.int r) = .int r → W p l e R s m args below meth c H1 locs1 cells slots Q (F0 m (pc + 3) ls (.int r :: rest))) : W p l e R s m args below meth c H locs cells slots Q (F0 m pc ls (.int x0 :: rest)) :=
  rCSI (As := [.int x0]) (ct5_isNumber hg) lX5_isNumber k_232 rfl rfl C X rfl hrm hsz hR hcs hd kk
set_option maxRecDepth 100000 in
set_option maxHeartbeats 4000000 in
theorem w5_changeNumber {p : Program} {l : Launch} {e : Env} {s : State} {m : MethodId} {args : Array Value} {below : List Frame} {meth : Method} {c : Code} {D : va_G} {cy : Nat → ClassId} {ad : Nat → Nat} {r : Int32} {μ1 : Mem} {ν : Lem} (C : Cx true p s m args meth c cX5_changeNumber 4 RX5 D cy ad) (hr : meth.sig.returnType = some .int) : ∀ (μ : Mem) (x1 : Int32) (x2 : Int32), f5_changeNumber μ x1 x2 = some (r, μ1) → ∀ (H : Heap) (locs : List Loc), Wd true D cy ad s.heap μ ν H locs → ∀ (ls : Array Slot), lv_has ls 4 [(0, .ref (ad 0)), (1, .int x1), (2, .int x2)] → WI true p l e 1 21 s m args below meth c D cy ad .int r μ1 ν H locs (F0 m 0 ls []) := by
  have hx := C.1.1
  have hb := C.1.2.1
  have hown := C.1.2.2.2.1
  have hts := C.1.2.2.2.2
  intro μ x1 x2 hf H locs X ls hl
  unfold f5_changeNumber at hf
  refine lv_aload_n hx hb dX5_changeNumber_0 rfl (lv_at hl 0 rfl) ?_
  refine gfX5_10 C X dX5_changeNumber_1 ?_
  refine lv_iload_n hx hb dX5_changeNumber_4 rfl (lv_at hl 1 rfl) ?_
  refine qX5_85 (o := 0) (by decide) rfl C X hl.1 ((Nat.le_of_ble_eq_true rfl)) ⟨(Nat.le_of_ble_eq_true rfl), (Nat.le_of_ble_eq_true rfl)⟩ ⟨Nat.zero_le _, Nat.zero_le _⟩ dX5_changeNumber_5 (fun H locs X b5 => ?_)
  refine lv_if_eq (tgt := 18) hx hb dX5_changeNumber_8 (by decide) (fun c8 => ?_) (fun c8 => ?_)
  · replace hf := ifp c8 hf
    refine lv_bipush (v := (-2)) hx hb dX5_changeNumber_18 (by decide) ?_
    exact retI C X hr rfl (so2 hf).1 (so2 hf).2 rfl dX5_changeNumber_20
  · replace hf := ifn c8 hf
    refine lv_iload_n hx hb dX5_changeNumber_11 rfl (lv_at hl 2 rfl) ?_
    refine qX5_89 rfl C X hl.1 ((Nat.le_of_ble_eq_true rfl)) ⟨(Nat.le_of_ble_eq_true rfl), (Nat.le_of_ble_eq_true rfl)⟩ ⟨Nat.zero_le _, Nat.zero_le _⟩ dX5_changeNumber_12 (fun H locs X b12 => ?_)
    refine lv_if_ne (tgt := 21) hx hb dX5_changeNumber_15 (by decide) (fun c15 => ?_) (fun c15 => ?_)
    · replace hf := ifn c15 hf
      refine lv_aload_n hx hb dX5_changeNumber_21 rfl (lv_at hl 0 rfl) ?_
      refine gfX5_10 C X dX5_changeNumber_22 ?_
      refine gfX5_92 (o := 0) (by decide) rfl (k2 := 12) rfl C X dX5_changeNumber_25 ?_
      refine lv_iload_n hx hb dX5_changeNumber_28 rfl (lv_at hl 1 rfl) ?_
      obtain ⟨h29, hf⟩ := gd_e hf
      have hb29 : x1.toNatClampNeg < 13 := by have := inb_lt h29; omega
      refine rAald (t := 0) (k' := (14 + 3 * x1.toNatClampNeg)) C X rfl rfl h29 (by omega) dX5_changeNumber_29 ?_
      refine gfX5_96 (j := x1.toNatClampNeg) hb29 rfl C X dX5_changeNumber_30 ?_
      obtain ⟨v33, e33, hf⟩ := nm_e2 hf
      refine st_i e33 ?_
      refine lv_istore_n (lv' := [(3, .int v33), (0, .ref (ad 0)), (1, .int x1), (2, .int x2)]) hx hb dX5_changeNumber_33 rfl hl (by decide) rfl (fun ls hl => ?_)
      refine lv_aload_n hx hb dX5_changeNumber_34 rfl (lv_at hl 1 rfl) ?_
      refine gfX5_10 C X dX5_changeNumber_35 ?_
      refine gfX5_92 (o := 0) (by decide) rfl (k2 := 12) rfl C X dX5_changeNumber_38 ?_
      refine lv_iload_n hx hb dX5_changeNumber_41 rfl (lv_at hl 2 rfl) ?_
      obtain ⟨h42, hf⟩ := gd_e hf
      have hb42 : x1.toNatClampNeg < 13 := by have := inb_lt h42; omega
      refine rAald (t := 0) (k' := (14 + 3 * x1.toNatClampNeg)) C X rfl rfl h42 (by omega) dX5_changeNumber_42 ?_
      refine lv_iload_n hx hb dX5_changeNumber_43 rfl (lv_at hl 3 rfl) ?_
      obtain ⟨μ44, e44, hf⟩ := nm_e2 hf
      refine pfX5_96 (j := x1.toNatClampNeg) hb42 rfl e44 C X dX5_changeNumber_44 (fun H locs X => ?_)
      refine lv_iload_n hx hb dX5_changeNumber_47 rfl (lv_at hl 0 rfl) ?_
      exact retI C X hr rfl (so2 hf).1 (so2 hf).2 rfl dX5_changeNumber_48
    · replace hf := ifp c15 hf
      refine lv_bipush (v := (-2)) hx hb dX5_changeNumber_18 (by decide) ?_
      exact retI C X hr rfl (so2 hf).1 (so2 hf).2 rfl dX5_changeNumber_20
theorem ct5_changeNumber {x1 : Int32} {x2 : Int32} {μ : Mem} {ν : Lem} {r : Int32} {μ1 : Mem} (hg : f5_changeNumber μ x1 x2 = some (r, μ1)) : CtI true yX5_changeNumber cX5_changeNumber 4 1 21 .int (fun ad => [.ref (ad 0), .int x1, .int x2]) μ ν r μ1 ν :=
  mkI (by decide) rfl (fun ad => Nat.le_of_ble_eq_true rfl) (fun p l e s m args below meth c D cy ad C hr X ls hl => w5_changeNumber C hr μ x1 x2 hg _ _ X _ hl)
theorem qX5_74 {p : Program} {l : Launch} {e : Env} {R : Room} {s : State} {m : MethodId} {args : Array Value} {below : List Frame} {meth : Method} {c : Code} {H : Heap} {locs : List Loc} {cells slots : Nat} {Q : State → Prop} {A : Nat → Prop} {cc : ByteArray} {nL : Nat} {D : va_G} {cy : Nat → ClassId} {ad : Nat → Nat} {μ : Mem} {ν : Lem} {pc : Nat} {ls : Array Slot} {rest : List Value} {x1 : Int32} {x2 : Int32} {r : Int32} {μ1 : Mem} (hg : f5_changeNumber μ x1 x2 = some (r, μ1)) (C : CxA true A p s m args meth c cc nL RX5 D cy ad) (X : WdA true A D cy ad s.heap μ ν H locs) (hsz : ls.size = nL) (hrm : (rest.map fun v => v.category).sum ≤ 8) (hR : 1 + 1 ≤ R.frames ∧ 8 + (4 + 11) + 21 ≤ R.locals) (hcs : cells ≤ R.cells ∧ slots ≤ R.slots) (hd : decode cc pc = .ok (.invokevirtual 74, 3)) (kk : ∀ (H1 : Heap) (locs1 : List Loc), WdA true A D cy ad s.heap μ1 ν H1 locs1 → narrow .int (.int r) = .int r → W p l e R s m args below meth c H1 locs1 cells slots Q (F0 m (pc + 3) ls (.int r :: rest))) : W p l e R s m args below meth c H locs cells slots Q (F0 m pc ls (.int x2 :: .int x1 :: .ref (ad 0) :: rest)) :=
  rCVI (As := [.int x1, .int x2]) (k := 0) (ct5_changeNumber hg) ok5 lX5_changeNumber k_224 rfl rfl rfl C X rfl hrm hsz hR hcs hd kk
