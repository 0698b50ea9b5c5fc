set_option maxRecDepth 100000 in
set_option maxHeartbeats 4000000 in
theorem w5_gap {p : Program} {l : Launch} {e : Env} {s : State} {m : MethodId} {args : Array Value} {below : List Frame} {meth : Method} {c : Code} {D : va_G} {cy : Nat → ClassId} {ad : Nat → Nat} {r : Int32} {μ : Mem} {ν : Lem} (C : Cx true p s m args meth c cX5_gap 3 RX5 D cy ad) (hr : meth.sig.returnType = some .int) : ∀ (x1 : Int32) (x2 : Int32), f5_gap μ x1 x2 = some r → ∀ (H : Heap) (locs : List Loc), Wd true D cy ad s.heap μ ν H locs → ∀ (ls : Array Slot), lv_has ls 3 [(0, .ref (ad 0)), (1, .int x1), (2, .int x2)] → WI true p l e 1 21 s m args below meth c D cy ad .int r μ ν H locs (F0 m 0 ls []) := by
  have hx := C.1.1
  have hb := C.1.2.1
  have hown := C.1.2.2.2.1
  have hts := C.1.2.2.2.2
  intro x1 x2 hf H locs X ls hl
  unfold f5_gap at hf
  refine lv_aload_n hx hb dX5_gap_0 rfl (lv_at hl 0 rfl) ?_
  refine gfX5_38 C X dX5_gap_1 ?_
  refine lv_iconst (v := 0) hx hb dX5_gap_4 (by decide) ?_
  refine lv_iload_n hx hb dX5_gap_5 rfl (lv_at hl 1 rfl) ?_
  refine lv_iload_n hx hb dX5_gap_6 rfl (lv_at hl 2 rfl) ?_
  refine lv_isub hx hb dX5_gap_7 ?_
  refine rMax C k_481 hl.1 (Nat.le_of_ble_eq_true rfl) (Nat.le_of_ble_eq_true rfl) ⟨Nat.zero_le _, Nat.zero_le _⟩ dX5_gap_8 ?_
  obtain ⟨h11, hf⟩ := gd_e hf
  refine rIald C X rfl h11 dX5_gap_11 ?_
  refine lv_aload_n hx hb dX5_gap_12 rfl (lv_at hl 0 rfl) ?_
  refine gfX5_42 C X dX5_gap_13 ?_
  refine lv_iload_n hx hb dX5_gap_16 rfl (lv_at hl 1 rfl) ?_
  obtain ⟨h17, hf⟩ := gd_e hf
  refine rIald C X rfl h17 dX5_gap_17 ?_
  refine lv_isub hx hb dX5_gap_18 ?_
  exact retI C X hr rfl (Option.some.inj hf) rfl rfl dX5_gap_19
theorem ct5_gap {x1 : Int32} {x2 : Int32} {μ : Mem} {ν : Lem} {r : Int32} (hg : f5_gap μ x1 x2 = some r) : CtI true yX5_gap cX5_gap 3 1 21 .int (fun ad => [.ref (ad 0), .int x1, .int x2]) μ ν r μ ν :=
  mkI (by decide) rfl (fun ad => Nat.le_of_ble_eq_true rfl) (fun p l e s m args below meth c D cy ad C hr X ls hl => w5_gap C hr x1 x2 hg _ _ X _ hl)
theorem qX5_207 {p : Program} {l : Launch} {e : Env} {R : Room} {s : State} {m : MethodId} {args : Array Value} {below : List Frame} {meth : Method} {c : Code} {H : Heap} {locs : List Loc} {cells slots : Nat} {Q : State → Prop} {A : Nat → Prop} {cc : ByteArray} {nL : Nat} {D : va_G} {cy : Nat → ClassId} {ad : Nat → Nat} {μ : Mem} {ν : Lem} {pc : Nat} {ls : Array Slot} {rest : List Value} {x1 : Int32} {x2 : Int32} {r : Int32} (hg : f5_gap μ x1 x2 = some r) (C : CxA true A p s m args meth c cc nL RX5 D cy ad) (X : WdA true A D cy ad s.heap μ ν H locs) (hsz : ls.size = nL) (hrm : (rest.map fun v => v.category).sum ≤ 8) (hR : 1 + 1 ≤ R.frames ∧ 8 + (3 + 11) + 21 ≤ R.locals) (hcs : cells ≤ R.cells ∧ slots ≤ R.slots) (hd : decode cc pc = .ok (.invokevirtual 207, 3)) (kk : ∀ (H1 : Heap) (locs1 : List Loc), WdA true A D cy ad s.heap μ ν H1 locs1 → narrow .int (.int r) = .int r → W p l e R s m args below meth c H1 locs1 cells slots Q (F0 m (pc + 3) ls (.int r :: rest))) : W p l e R s m args below meth c H locs cells slots Q (F0 m pc ls (.int x2 :: .int x1 :: .ref (ad 0) :: rest)) :=
  rCVI (As := [.int x1, .int x2]) (k := 0) (ct5_gap hg) ok5 lX5_gap k_561 rfl rfl rfl C X rfl hrm hsz hR hcs hd kk
set_option maxRecDepth 100000 in
set_option maxHeartbeats 4000000 in
theorem w5_firstMeeting_1 {p : Program} {l : Launch} {e : Env} {s : State} {m : MethodId} {args : Array Value} {below : List Frame} {meth : Method} {c : Code} {D : va_G} {cy : Nat → ClassId} {ad : Nat → Nat} {r : Int32} {μ : Mem} {ν : Lem} (C : Cx true p s m args meth c cX5_firstMeeting 5 RX5 D cy ad) (hr : meth.sig.returnType = some .int) : ∀ (n : Nat), ∀ (x1 : Int32) (x2 : Int32) (x3 : Int32), f5_firstMeeting_1 μ n x1 x2 x3 = some r → ∀ (H : Heap) (locs : List Loc), Wd true D cy ad s.heap μ ν H locs → ∀ (ls : Array Slot), lv_has ls 5 [(0, .ref (ad 0)), (1, .int x1), (2, .int x2), (3, .int x3)] → WI true p l e 2 43 s m args below meth c D cy ad .int r μ ν H locs (F0 m 9 ls []) := by
  have hx := C.1.1
  have hb := C.1.2.1
  have hown := C.1.2.2.2.1
  have hts := C.1.2.2.2.2
  intro n
  induction n with
  | zero =>
    intro x1 x2 x3 hf H locs X ls hl
    rw [f5_firstMeeting_1] at hf
    cases hf
  | succ n ih =>
    intro x1 x2 x3 hf H locs X ls hl
    rw [f5_firstMeeting_1] at hf
    refine lv_iload_n hx hb dX5_firstMeeting_9 rfl (lv_at hl 3 rfl) ?_
    refine lv_sipush (v := 600) hx hb dX5_firstMeeting_10 (by decide) ?_
    refine lv_icmp_ge (tgt := 52) hx hb dX5_firstMeeting_13 (by decide) (fun c13 => ?_) (fun c13 => ?_)
    · replace hf := ifp c13 hf
      refine lv_iload_n hx hb dX5_firstMeeting_52 rfl (lv_at hl 2 rfl) ?_
      refine lv_if_ne (tgt := 62) hx hb dX5_firstMeeting_53 (by decide) (fun c53 => ?_) (fun c53 => ?_)
      · replace hf := ifn c53 hf
        refine lv_iconst (v := (-1)) hx hb dX5_firstMeeting_62 (by decide) ?_
        exact retI C X hr rfl (Option.some.inj hf) rfl rfl dX5_firstMeeting_63
      · replace hf := ifp c53 hf
        refine lv_sipush (v := 600) hx hb dX5_firstMeeting_56 (by decide) ?_
        refine lv_goto (tgt := 63) hx hb dX5_firstMeeting_59 (by decide) ?_
        exact retI C X hr rfl (Option.some.inj hf) rfl rfl dX5_firstMeeting_63
    · replace hf := ifn c13 hf
      refine lv_aload_n hx hb dX5_firstMeeting_16 rfl (lv_at hl 0 rfl) ?_
      refine lv_iload_n hx hb dX5_firstMeeting_17 rfl (lv_at hl 3 rfl) ?_
      refine lv_iconst (v := 1) hx hb dX5_firstMeeting_18 (by decide) ?_
      refine lv_iadd hx hb dX5_firstMeeting_19 ?_
      refine lv_iload_n hx hb dX5_firstMeeting_20 rfl (lv_at hl 1 rfl) ?_
      obtain ⟨r21, g21, hf⟩ := bd1_e hf
      refine qX5_207 g21 C X hl.1 ((Nat.le_of_ble_eq_true rfl)) ⟨(Nat.le_of_ble_eq_true rfl), (Nat.le_of_ble_eq_true rfl)⟩ ⟨Nat.zero_le _, Nat.zero_le _⟩ dX5_firstMeeting_21 (fun H locs X b21 => ?_)
      refine lv_istore (lv' := [(4, .int r21), (0, .ref (ad 0)), (1, .int x1), (2, .int x2), (3, .int x3)]) hx hb dX5_firstMeeting_24 hl (by decide) rfl (fun ls hl => ?_)
      refine lv_iload_n hx hb dX5_firstMeeting_26 rfl (lv_at hl 3 rfl) ?_
      refine lv_if_eq (tgt := 41) hx hb dX5_firstMeeting_27 (by decide) (fun c27 => ?_) (fun c27 => ?_)
      · replace hf := ifp c27 hf
        refine lv_iload_n hx hb dX5_firstMeeting_41 rfl (lv_at hl 4 rfl) ?_
        exact retI C X hr rfl (Option.some.inj hf) rfl rfl dX5_firstMeeting_42
      · replace hf := ifn c27 hf
        refine lv_iload_n hx hb dX5_firstMeeting_30 rfl (lv_at hl 3 rfl) ?_
        refine lv_i2l hx hb dX5_firstMeeting_31 rfl ?_
        refine lv_iload hx hb dX5_firstMeeting_32 (lv_at hl 0 rfl) ?_
        refine lv_i2l hx hb dX5_firstMeeting_34 rfl ?_
        refine qX5_174 rfl C X hl.1 ((Nat.le_of_ble_eq_true rfl)) ⟨(Nat.le_of_ble_eq_true rfl), (Nat.le_of_ble_eq_true rfl)⟩ ⟨Nat.zero_le _, Nat.zero_le _⟩ dX5_firstMeeting_35 (fun H locs X b35 => ?_)
        refine lv_if_eq (tgt := 43) hx hb dX5_firstMeeting_38 (by decide) (fun c38 => ?_) (fun c38 => ?_)
        · replace hf := ifp c38 hf
          refine lv_iload hx hb dX5_firstMeeting_43 (lv_at hl 0 rfl) ?_
          refine lv_istore_n (lv' := [(2, .int r21), (4, .int r21), (0, .ref (ad 0)), (1, .int x1), (3, .int x3)]) hx hb dX5_firstMeeting_45 rfl hl (by decide) rfl (fun ls hl => ?_)
          obtain ⟨v46, e46, hf⟩ := nm_e2 hf
          refine rIinc (lv' := [(3, .int v46), (2, .int r21), (4, .int r21), (0, .ref (ad 0)), (1, .int x1)]) hx hb dX5_firstMeeting_46 hl (k := 4) rfl e46 rfl (by decide) rfl (fun ls hl => ?_)
          refine lv_goto (tgt := 9) hx hb dX5_firstMeeting_49 (by decide) ?_
          exact ih x1 r21 v46 hf _ _ X _ (lv_sub hl [3, 4, 1, 0] rfl)
        · replace hf := ifn c38 hf
          refine lv_iload_n hx hb dX5_firstMeeting_41 rfl (lv_at hl 4 rfl) ?_
          exact retI C X hr rfl (Option.some.inj hf) rfl rfl dX5_firstMeeting_42
set_option maxRecDepth 100000 in
set_option maxHeartbeats 4000000 in
theorem w5_firstMeeting {p : Program} {l : Launch} {e : Env} {s : State} {m : MethodId} {args : Array Value} {below : List Frame} {meth : Method} {c : Code} {D : va_G} {cy : Nat → ClassId} {ad : Nat → Nat} {r : Int32} {μ : Mem} {ν : Lem} (C : Cx true p s m args meth c cX5_firstMeeting 5 RX5 D cy ad) (hr : meth.sig.returnType = some .int) : ∀ (x1 : Int32), f5_firstMeeting μ x1 = some r → ∀ (H : Heap) (locs : List Loc), Wd true D cy ad s.heap μ ν H locs → ∀ (ls : Array Slot), lv_has ls 5 [(0, .ref (ad 0)), (1, .int x1)] → WI true p l e 2 43 s m args below meth c D cy ad .int r μ ν H locs (F0 m 0 ls []) := by
  have hx := C.1.1
  have hb := C.1.2.1
  have hown := C.1.2.2.2.1
  have hts := C.1.2.2.2.2
  intro x1 hf H locs X ls hl
  unfold f5_firstMeeting at hf
  refine lv_aload_n hx hb dX5_firstMeeting_0 rfl (lv_at hl 0 rfl) ?_
  refine lv_iconst (v := 0) hx hb dX5_firstMeeting_1 (by decide) ?_
  refine lv_iload_n hx hb dX5_firstMeeting_2 rfl (lv_at hl 1 rfl) ?_
  obtain ⟨r3, g3, hf⟩ := bd1_e hf
  refine qX5_207 g3 C X hl.1 ((Nat.le_of_ble_eq_true rfl)) ⟨(Nat.le_of_ble_eq_true rfl), (Nat.le_of_ble_eq_true rfl)⟩ ⟨Nat.zero_le _, Nat.zero_le _⟩ dX5_firstMeeting_3 (fun H locs X b3 => ?_)
  refine lv_istore_n (lv' := [(2, .int r3), (0, .ref (ad 0)), (1, .int x1)]) hx hb dX5_firstMeeting_6 rfl hl (by decide) rfl (fun ls hl => ?_)
  refine lv_iconst (v := 0) hx hb dX5_firstMeeting_7 (by decide) ?_
  refine lv_istore_n (lv' := [(3, .int 0), (2, .int r3), (0, .ref (ad 0)), (1, .int x1)]) hx hb dX5_firstMeeting_8 rfl hl (by decide) rfl (fun ls hl => ?_)
  exact w5_firstMeeting_1 C hr  FUEL x1 r3 0 hf _ _ X _ (lv_sub hl [2, 3, 1, 0] rfl)
theorem ct5_firstMeeting {x1 : Int32} {μ : Mem} {ν : Lem} {r : Int32} (hg : f5_firstMeeting μ x1 = some r) : CtI true yX5_firstMeeting cX5_firstMeeting 5 2 43 .int (fun ad => [.ref (ad 0), .int x1]) μ ν r μ ν :=
  mkI (by decide) rfl (fun ad => Nat.le_of_ble_eq_true rfl) (fun p l e s m args below meth c D cy ad C hr X ls hl => w5_firstMeeting C hr x1 hg _ _ X _ hl)
theorem qX5_193 {p : Program} {l : Launch} {e : Env} {R : Room} {s : State} {m : MethodId} {args : Array Value} {below : List Frame} {meth : Method} {c : Code} {H : Heap} {locs : List Loc} {cells slots : Nat} {Q : State → Prop} {A : Nat → Prop} {cc : ByteArray} {nL : Nat} {D : va_G} {cy : Nat → ClassId} {ad : Nat → Nat} {μ : Mem} {ν : Lem} {pc : Nat} {ls : Array Slot} {rest : List Value} {x1 : Int32} {r : Int32} (hg : f5_firstMeeting μ x1 = some r) (C : CxA true A p s m args meth c cc nL RX5 D cy ad) (X : WdA true A D cy ad s.heap μ ν H locs) (hsz : ls.size = nL) (hrm : (rest.map fun v => v.category).sum ≤ 8) (hR : 2 + 1 ≤ R.frames ∧ 8 + (5 + 11) + 43 ≤ R.locals) (hcs : cells ≤ R.cells ∧ slots ≤ R.slots) (hd : decode cc pc = .ok (.invokevirtual 193, 3)) (kk : ∀ (H1 : Heap) (locs1 : List Loc), WdA true A D cy ad s.heap μ ν H1 locs1 → narrow .int (.int r) = .int r → W p l e R s m args below meth c H1 locs1 cells slots Q (F0 m (pc + 3) ls (.int r :: rest))) : W p l e R s m args below meth c H locs cells slots Q (F0 m pc ls (.int x1 :: .ref (ad 0) :: rest)) :=
  rCVI (As := [.int x1]) (k := 0) (ct5_firstMeeting hg) ok5 lX5_firstMeeting k_557 rfl rfl rfl C X rfl hrm hsz hR hcs hd kk
set_option maxRecDepth 100000 in
set_option maxHeartbeats 4000000 in
theorem w5_meetIn {p : Program} {l : Launch} {e : Env} {s : State} {m : MethodId} {args : Array Value} {below : List Frame} {meth : Method} {c : Code} {D : va_G} {cy : Nat → ClassId} {ad : Nat → Nat} {r : Int32} {μ : Mem} {ν : Lem} (C : Cx true p s m args meth c cX5_meetIn 3 RX5 D cy ad) (hr : meth.sig.returnType = some .boolean) : ∀ (x1 : Int32), f5_meetIn μ x1 = some r → ∀ (H : Heap) (locs : List Loc), Wd true D cy ad s.heap μ ν H locs → ∀ (ls : Array Slot), lv_has ls 3 [(0, .ref (ad 0)), (1, .int x1)] → WI true p l e 2 43 s m args below meth c D cy ad .boolean r μ ν H locs (F0 m 0 ls []) := by
  have hx := C.1.1
  have hb := C.1.2.1
  have hown := C.1.2.2.2.1
  have hts := C.1.2.2.2.2
  intro x1 hf H locs X ls hl
  unfold f5_meetIn at hf
  refine lv_aload_n hx hb dX5_meetIn_0 rfl (lv_at hl 0 rfl) ?_
  refine lv_iload_n hx hb dX5_meetIn_1 rfl (lv_at hl 1 rfl) ?_
  refine lv_iconst (v := 0) hx hb dX5_meetIn_2 (by decide) ?_
  obtain ⟨r3, g3, hf⟩ := bd1_e hf
  refine qX5_207 g3 C X hl.1 ((Nat.le_of_ble_eq_true rfl)) ⟨(Nat.le_of_ble_eq_true rfl), (Nat.le_of_ble_eq_true rfl)⟩ ⟨Nat.zero_le _, Nat.zero_le _⟩ dX5_meetIn_3 (fun H locs X b3 => ?_)
  refine lv_istore_n (lv' := [(2, .int r3), (0, .ref (ad 0)), (1, .int x1)]) hx hb dX5_meetIn_6 rfl hl (by decide) rfl (fun ls hl => ?_)
  refine lv_iload_n hx hb dX5_meetIn_7 rfl (lv_at hl 0 rfl) ?_
  refine lv_if_ne (tgt := 13) hx hb dX5_meetIn_8 (by decide) (fun c8 => ?_) (fun c8 => ?_)
  · replace hf := ifn c8 hf
    refine lv_iload_n hx hb dX5_meetIn_13 rfl (lv_at hl 2 rfl) ?_
    refine lv_sipush (v := 600) hx hb dX5_meetIn_14 (by decide) ?_
    refine lv_icmp_ge (tgt := 41) hx hb dX5_meetIn_17 (by decide) (fun c17 => ?_) (fun c17 => ?_)
    · replace hf := ifp c17 hf
      refine lv_iconst (v := 0) hx hb dX5_meetIn_41 (by decide) ?_
      exact retI C X hr rfl (Option.some.inj hf) rfl rfl dX5_meetIn_42
    · replace hf := ifn c17 hf
      refine lv_iload_n hx hb dX5_meetIn_20 rfl (lv_at hl 0 rfl) ?_
      refine lv_i2l hx hb dX5_meetIn_21 rfl ?_
      refine lv_aload_n hx hb dX5_meetIn_22 rfl (lv_at hl 1 rfl) ?_
      refine lv_iload_n hx hb dX5_meetIn_23 rfl (lv_at hl 2 rfl) ?_
      refine lv_iconst (v := 1) hx hb dX5_meetIn_24 (by decide) ?_
      refine lv_iadd hx hb dX5_meetIn_25 ?_
      refine lv_iconst (v := 0) hx hb dX5_meetIn_26 (by decide) ?_
      obtain ⟨r27, g27, hf⟩ := bd1_e hf
      refine qX5_207 g27 C X hl.1 ((Nat.le_of_ble_eq_true rfl)) ⟨(Nat.le_of_ble_eq_true rfl), (Nat.le_of_ble_eq_true rfl)⟩ ⟨Nat.zero_le _, Nat.zero_le _⟩ dX5_meetIn_27 (fun H locs X b27 => ?_)
      refine lv_i2l hx hb dX5_meetIn_30 rfl ?_
      refine qX5_174 rfl C X hl.1 ((Nat.le_of_ble_eq_true rfl)) ⟨(Nat.le_of_ble_eq_true rfl), (Nat.le_of_ble_eq_true rfl)⟩ ⟨Nat.zero_le _, Nat.zero_le _⟩ dX5_meetIn_31 (fun H locs X b31 => ?_)
      refine lv_if_eq (tgt := 41) hx hb dX5_meetIn_34 (by decide) (fun c34 => ?_) (fun c34 => ?_)
      · replace hf := ifp c34 hf
        refine lv_iconst (v := 0) hx hb dX5_meetIn_41 (by decide) ?_
        exact retI C X hr rfl (Option.some.inj hf) rfl rfl dX5_meetIn_42
      · replace hf := ifn c34 hf
        refine lv_iconst (v := 1) hx hb dX5_meetIn_37 (by decide) ?_
        refine lv_goto (tgt := 42) hx hb dX5_meetIn_38 (by decide) ?_
        exact retI C X hr rfl (Option.some.inj hf) rfl rfl dX5_meetIn_42
  · replace hf := ifp c8 hf
    refine lv_iconst (v := 1) hx hb dX5_meetIn_11 (by decide) ?_
    exact retI C X hr rfl (Option.some.inj hf) rfl rfl dX5_meetIn_12
theorem ct5_meetIn {x1 : Int32} {μ : Mem} {ν : Lem} {r : Int32} (hg : f5_meetIn μ x1 = some r) : CtI true yX5_meetIn cX5_meetIn 3 2 43 .boolean (fun ad => [.ref (ad 0), .int x1]) μ ν r μ ν :=
  mkI (by decide) rfl (fun ad => Nat.le_of_ble_eq_true rfl) (fun p l e s m args below meth c D cy ad C hr X ls hl => w5_meetIn C hr x1 hg _ _ X _ hl)
theorem qX5_202 {p : Program} {l : Launch} {e : Env} {R : Room} {s : State} {m : MethodId} {args : Array Value} {below : List Frame} {meth : Method} {c : Code} {H : Heap} {locs : List Loc} {cells slots : Nat} {Q : State → Prop} {A : Nat → Prop} {cc : ByteArray} {nL : Nat} {D : va_G} {cy : Nat → ClassId} {ad : Nat → Nat} {μ : Mem} {ν : Lem} {pc : Nat} {ls : Array Slot} {rest : List Value} {x1 : Int32} {r : Int32} (hg : f5_meetIn μ x1 = some r) (C : CxA true A p s m args meth c cc nL RX5 D cy ad) (X : WdA true A D cy ad s.heap μ ν H locs) (hsz : ls.size = nL) (hrm : (rest.map fun v => v.category).sum ≤ 8) (hR : 2 + 1 ≤ R.frames ∧ 8 + (3 + 11) + 43 ≤ R.locals) (hcs : cells ≤ R.cells ∧ slots ≤ R.slots) (hd : decode cc pc = .ok (.invokevirtual 202, 3)) (kk : ∀ (H1 : Heap) (locs1 : List Loc), WdA true A D cy ad s.heap μ ν H1 locs1 → narrow .boolean (.int r) = .int r → W p l e R s m args below meth c H1 locs1 cells slots Q (F0 m (pc + 3) ls (.int r :: rest))) : W p l e R s m args below meth c H locs cells slots Q (F0 m pc ls (.int x1 :: .ref (ad 0) :: rest)) :=
  rCVI (As := [.int x1]) (k := 0) (ct5_meetIn hg) ok5 lX5_meetIn k_569 rfl rfl rfl C X rfl hrm hsz hR hcs hd kk
set_option maxRecDepth 100000 in
set_option maxHeartbeats 4000000 in
theorem w5_lastMeeting_1 {p : Program} {l : Launch} {e : Env} {s : State} {m : MethodId} {args : Array Value} {below : List Frame} {meth : Method} {c : Code} {D : va_G} {cy : Nat → ClassId} {ad : Nat → Nat} {r : Int32} {μ : Mem} {ν : Lem} (C : Cx true p s m args meth c cX5_lastMeeting 2 RX5 D cy ad) (hr : meth.sig.returnType = some .int) : ∀ (n : Nat), ∀ (x1 : Int32), f5_lastMeeting_1 μ n x1 = some r → ∀ (H : Heap) (locs : List Loc), Wd true D cy ad s.heap μ ν H locs → ∀ (ls : Array Slot), lv_has ls 2 [(0, .ref (ad 0)), (1, .int x1)] → WI true p l e 3 65 s m args below meth c D cy ad .int r μ ν H locs (F0 m 4 ls []) := by
  have hx := C.1.1
  have hb := C.1.2.1
  have hown := C.1.2.2.2.1
  have hts := C.1.2.2.2.2
  intro n
  induction n with
  | zero =>
    intro x1 hf H locs X ls hl
    rw [f5_lastMeeting_1] at hf
    cases hf
  | succ n ih =>
    intro x1 hf H locs X ls hl
    rw [f5_lastMeeting_1] at hf
    refine lv_iload_n hx hb dX5_lastMeeting_4 rfl (lv_at hl 1 rfl) ?_
    refine lv_if_lt (tgt := 22) hx hb dX5_lastMeeting_5 (by decide) (fun c5 => ?_) (fun c5 => ?_)
    · replace hf := ifp c5 hf
      refine lv_iload_n hx hb dX5_lastMeeting_22 rfl (lv_at hl 1 rfl) ?_
      refine lv_if_ge (tgt := 30) hx hb dX5_lastMeeting_23 (by decide) (fun c23 => ?_) (fun c23 => ?_)
      · replace hf := ifp c23 hf
        refine lv_iload_n hx hb dX5_lastMeeting_30 rfl (lv_at hl 1 rfl) ?_
        exact retI C X hr rfl (Option.some.inj hf) rfl rfl dX5_lastMeeting_31
      · replace hf := ifn c23 hf
        refine lv_iconst (v := (-1)) hx hb dX5_lastMeeting_26 (by decide) ?_
        refine lv_goto (tgt := 31) hx hb dX5_lastMeeting_27 (by decide) ?_
        exact retI C X hr rfl (Option.some.inj hf) rfl rfl dX5_lastMeeting_31
    · replace hf := ifn c5 hf
      refine lv_aload_n hx hb dX5_lastMeeting_8 rfl (lv_at hl 0 rfl) ?_
      refine lv_iload_n hx hb dX5_lastMeeting_9 rfl (lv_at hl 1 rfl) ?_
      obtain ⟨r10, g10, hf⟩ := bd1_e hf
      refine qX5_202 g10 C X hl.1 ((Nat.le_of_ble_eq_true rfl)) ⟨(Nat.le_of_ble_eq_true rfl), (Nat.le_of_ble_eq_true rfl)⟩ ⟨Nat.zero_le _, Nat.zero_le _⟩ dX5_lastMeeting_10 (fun H locs X b10 => ?_)
      refine lv_if_ne (tgt := 22) hx hb dX5_lastMeeting_13 (by decide) (fun c13 => ?_) (fun c13 => ?_)
      · replace hf := ifn c13 hf
        refine lv_iload_n hx hb dX5_lastMeeting_22 rfl (lv_at hl 1 rfl) ?_
        refine lv_if_ge (tgt := 30) hx hb dX5_lastMeeting_23 (by decide) (fun c23 => ?_) (fun c23 => ?_)
        · replace hf := ifp c23 hf
          refine lv_iload_n hx hb dX5_lastMeeting_30 rfl (lv_at hl 1 rfl) ?_
          exact retI C X hr rfl (Option.some.inj hf) rfl rfl dX5_lastMeeting_31
        · replace hf := ifn c23 hf
          refine lv_iconst (v := (-1)) hx hb dX5_lastMeeting_26 (by decide) ?_
          refine lv_goto (tgt := 31) hx hb dX5_lastMeeting_27 (by decide) ?_
          exact retI C X hr rfl (Option.some.inj hf) rfl rfl dX5_lastMeeting_31
      · replace hf := ifp c13 hf
        obtain ⟨v16, e16, hf⟩ := nm_e2 hf
        refine rIinc (lv' := [(1, .int v16), (0, .ref (ad 0))]) hx hb dX5_lastMeeting_16 hl (k := 1) rfl e16 rfl (by decide) rfl (fun ls hl => ?_)
        refine lv_goto (tgt := 4) hx hb dX5_lastMeeting_19 (by decide) ?_
        exact ih v16 hf _ _ X _ (lv_sub hl [1, 0] rfl)
set_option maxRecDepth 100000 in
set_option maxHeartbeats 4000000 in
theorem w5_lastMeeting {p : Program} {l : Launch} {e : Env} {s : State} {m : MethodId} {args : Array Value} {below : List Frame} {meth : Method} {c : Code} {D : va_G} {cy : Nat → ClassId} {ad : Nat → Nat} {r : Int32} {μ : Mem} {ν : Lem} (C : Cx true p s m args meth c cX5_lastMeeting 2 RX5 D cy ad) (hr : meth.sig.returnType = some .int) : f5_lastMeeting μ = some r → ∀ (H : Heap) (locs : List Loc), Wd true D cy ad s.heap μ ν H locs → ∀ (ls : Array Slot), lv_has ls 2 [(0, .ref (ad 0))] → WI true p l e 3 65 s m args below meth c D cy ad .int r μ ν H locs (F0 m 0 ls []) := by
  have hx := C.1.1
  have hb := C.1.2.1
  have hown := C.1.2.2.2.1
  have hts := C.1.2.2.2.2
  intro hf H locs X ls hl
  unfold f5_lastMeeting at hf
  refine lv_sipush (v := 600) hx hb dX5_lastMeeting_0 (by decide) ?_
  refine lv_istore_n (lv' := [(1, .int 600), (0, .ref (ad 0))]) hx hb dX5_lastMeeting_3 rfl hl (by decide) rfl (fun ls hl => ?_)
  exact w5_lastMeeting_1 C hr  FUEL 600 hf _ _ X _ (lv_sub hl [1, 0] rfl)
theorem ct5_lastMeeting {μ : Mem} {ν : Lem} {r : Int32} (hg : f5_lastMeeting μ = some r) : CtI true yX5_lastMeeting cX5_lastMeeting 2 3 65 .int (fun ad => [.ref (ad 0)]) μ ν r μ ν :=
  mkI (by decide) rfl (fun ad => Nat.le_of_ble_eq_true rfl) (fun p l e s m args below meth c D cy ad C hr X ls hl => w5_lastMeeting C hr hg _ _ X _ hl)
theorem qX5_196 {p : Program} {l : Launch} {e : Env} {R : Room} {s : State} {m : MethodId} {args : Array Value} {below : List Frame} {meth : Method} {c : Code} {H : Heap} {locs : List Loc} {cells slots : Nat} {Q : State → Prop} {A : Nat → Prop} {cc : ByteArray} {nL : Nat} {D : va_G} {cy : Nat → ClassId} {ad : Nat → Nat} {μ : Mem} {ν : Lem} {pc : Nat} {ls : Array Slot} {rest : List Value} {r : Int32} (hg : f5_lastMeeting μ = some r) (C : CxA true A p s m args meth c cc nL RX5 D cy ad) (X : WdA true A D cy ad s.heap μ ν H locs) (hsz : ls.size = nL) (hrm : (rest.map fun v => v.category).sum ≤ 8) (hR : 3 + 1 ≤ R.frames ∧ 8 + (2 + 11) + 65 ≤ R.locals) (hcs : cells ≤ R.cells ∧ slots ≤ R.slots) (hd : decode cc pc = .ok (.invokevirtual 196, 3)) (kk : ∀ (H1 : Heap) (locs1 : List Loc), WdA true A D cy ad s.heap μ ν H1 locs1 → narrow .int (.int r) = .int r → W p l e R s m args below meth c H1 locs1 cells slots Q (F0 m (pc + 3) ls (.int r :: rest))) : W p l e R s m args below meth c H locs cells slots Q (F0 m pc ls (.ref (ad 0) :: rest)) :=
  rCVI (As := []) (k := 0) (ct5_lastMeeting hg) ok5 lX5_lastMeeting k_565 rfl rfl rfl C X rfl hrm hsz hR hcs hd kk
set_option maxRecDepth 100000 in
set_option maxHeartbeats 4000000 in
theorem w5_meetings_1 {p : Program} {l : Launch} {e : Env} {s : State} {m : MethodId} {args : Array Value} {below : List Frame} {meth : Method} {c : Code} {D : va_G} {cy : Nat → ClassId} {ad : Nat → Nat} {r : Int32} {μ : Mem} {ν : Lem} (C : Cx true p s m args meth c cX5_meetings 3 RX5 D cy ad) (hr : meth.sig.returnType = some .int) : ∀ (n : Nat), ∀ (x1 : Int32) (x2 : Int32), f5_meetings_1 μ n x1 x2 = some r → ∀ (H : Heap) (locs : List Loc), Wd true D cy ad s.heap μ ν H locs → ∀ (ls : Array Slot), lv_has ls 3 [(0, .ref (ad 0)), (1, .int x1), (2, .int x2)] → WI true p l e 3 65 s m args below meth c D cy ad .int r μ ν H locs (F0 m 4 ls []) := by
  have hx := C.1.1
  have hb := C.1.2.1
  have hown := C.1.2.2.2.1
  have hts := C.1.2.2.2.2
  intro n
  induction n with
  | zero =>
    intro x1 x2 hf H locs X ls hl
    rw [f5_meetings_1] at hf
    cases hf
  | succ n ih =>
    intro x1 x2 hf H locs X ls hl
    rw [f5_meetings_1] at hf
    refine lv_iload_n hx hb dX5_meetings_4 rfl (lv_at hl 2 rfl) ?_
    refine lv_sipush (v := 600) hx hb dX5_meetings_5 (by decide) ?_
    refine lv_icmp_gt (tgt := 28) hx hb dX5_meetings_8 (by decide) (fun c8 => ?_) (fun c8 => ?_)
    · replace hf := ifp c8 hf
      refine lv_iload_n hx hb dX5_meetings_28 rfl (lv_at hl 1 rfl) ?_
      exact retI C X hr rfl (Option.some.inj hf) rfl rfl dX5_meetings_29
    · replace hf := ifn c8 hf
      refine lv_aload_n hx hb dX5_meetings_11 rfl (lv_at hl 0 rfl) ?_
      refine lv_iload_n hx hb dX5_meetings_12 rfl (lv_at hl 2 rfl) ?_
      obtain ⟨r13, g13, hf⟩ := bd1_e hf
      refine qX5_202 g13 C X hl.1 ((Nat.le_of_ble_eq_true rfl)) ⟨(Nat.le_of_ble_eq_true rfl), (Nat.le_of_ble_eq_true rfl)⟩ ⟨Nat.zero_le _, Nat.zero_le _⟩ dX5_meetings_13 (fun H locs X b13 => ?_)
      refine lv_if_eq (tgt := 22) hx hb dX5_meetings_16 (by decide) (fun c16 => ?_) (fun c16 => ?_)
      · replace hf := ifp c16 hf
        obtain ⟨v22, e22, hf⟩ := nm_e2 hf
        refine rIinc (lv' := [(2, .int v22), (0, .ref (ad 0)), (1, .int x1)]) hx hb dX5_meetings_22 hl (k := 2) rfl e22 rfl (by decide) rfl (fun ls hl => ?_)
        refine lv_goto (tgt := 4) hx hb dX5_meetings_25 (by decide) ?_
        exact ih x1 v22 hf _ _ X _ (lv_sub hl [1, 2, 0] rfl)
      · replace hf := ifn c16 hf
        obtain ⟨v19, e19, hf⟩ := nm_e2 hf
        refine rIinc (lv' := [(1, .int v19), (0, .ref (ad 0)), (2, .int x2)]) hx hb dX5_meetings_19 hl (k := 1) rfl e19 rfl (by decide) rfl (fun ls hl => ?_)
        obtain ⟨v22, e22, hf⟩ := nm_e2 hf
        refine rIinc (lv' := [(2, .int v22), (1, .int v19), (0, .ref (ad 0))]) hx hb dX5_meetings_22 hl (k := 2) rfl e22 rfl (by decide) rfl (fun ls hl => ?_)
        refine lv_goto (tgt := 4) hx hb dX5_meetings_25 (by decide) ?_
        exact ih v19 v22 hf _ _ X _ (lv_sub hl [2, 1, 0] rfl)
set_option maxRecDepth 100000 in
set_option maxHeartbeats 4000000 in
theorem w5_meetings {p : Program} {l : Launch} {e : Env} {s : State} {m : MethodId} {args : Array Value} {below : List Frame} {meth : Method} {c : Code} {D : va_G} {cy : Nat → ClassId} {ad : Nat → Nat} {r : Int32} {μ : Mem} {ν : Lem} (C : Cx true p s m args meth c cX5_meetings 3 RX5 D cy ad) (hr : meth.sig.returnType = some .int) : f5_meetings μ = some r → ∀ (H : Heap) (locs : List Loc), Wd true D cy ad s.heap μ ν H locs → ∀ (ls : Array Slot), lv_has ls 3 [(0, .ref (ad 0))] → WI true p l e 3 65 s m args below meth c D cy ad .int r μ ν H locs (F0 m 0 ls []) := by
  have hx := C.1.1
  have hb := C.1.2.1
  have hown := C.1.2.2.2.1
  have hts := C.1.2.2.2.2
  intro hf H locs X ls hl
  unfold f5_meetings at hf
  refine lv_iconst (v := 0) hx hb dX5_meetings_0 (by decide) ?_
  refine lv_istore_n (lv' := [(1, .int 0), (0, .ref (ad 0))]) hx hb dX5_meetings_1 rfl hl (by decide) rfl (fun ls hl => ?_)
  refine lv_iconst (v := 0) hx hb dX5_meetings_2 (by decide) ?_
  refine lv_istore_n (lv' := [(2, .int 0), (1, .int 0), (0, .ref (ad 0))]) hx hb dX5_meetings_3 rfl hl (by decide) rfl (fun ls hl => ?_)
  exact w5_meetings_1 C hr  FUEL 0 0 hf _ _ X _ (lv_sub hl [2, 1, 0] rfl)
theorem ct5_meetings {μ : Mem} {ν : Lem} {r : Int32} (hg : f5_meetings μ = some r) : CtI true yX5_meetings cX5_meetings 3 3 65 .int (fun ad => [.ref (ad 0)]) μ ν r μ ν :=
  mkI (by decide) rfl (fun ad => Nat.le_of_ble_eq_true rfl) (fun p l e s m args below meth c D cy ad C hr X ls hl => w5_meetings C hr hg _ _ X _ hl)
theorem qX5_199 {p : Program} {l : Launch} {e : Env} {R : Room} {s : State} {m : MethodId} {args : Array Value} {below : List Frame} {meth : Method} {c : Code} {H : Heap} {locs : List Loc} {cells slots : Nat} {Q : State → Prop} {A : Nat → Prop} {cc : ByteArray} {nL : Nat} {D : va_G} {cy : Nat → ClassId} {ad : Nat → Nat} {μ : Mem} {ν : Lem} {pc : Nat} {ls : Array Slot} {rest : List Value} {r : Int32} (hg : f5_meetings μ = some r) (C : CxA true A p s m args meth c cc nL RX5 D cy ad) (X : WdA true A D cy ad s.heap μ ν H locs) (hsz : ls.size = nL) (hrm : (rest.map fun v => v.category).sum ≤ 8) (hR : 3 + 1 ≤ R.frames ∧ 8 + (3 + 11) + 65 ≤ R.locals) (hcs : cells ≤ R.cells ∧ slots ≤ R.slots) (hd : decode cc pc = .ok (.invokevirtual 199, 3)) (kk : ∀ (H1 : Heap) (locs1 : List Loc), WdA true A D cy ad s.heap μ ν H1 locs1 → narrow .int (.int r) = .int r → W p l e R s m args below meth c H1 locs1 cells slots Q (F0 m (pc + 3) ls (.int r :: rest))) : W p l e R s m args below meth c H locs cells slots Q (F0 m pc ls (.ref (ad 0) :: rest)) :=
  rCVI (As := []) (k := 0) (ct5_meetings hg) ok5 lX5_meetings k_573 rfl rfl rfl C X rfl hrm hsz hR hcs hd kk
set_option maxRecDepth 100000 in
set_option maxHeartbeats 4000000 in
theorem w5_meet {p : Program} {l : Launch} {e : Env} {s : State} {m : MethodId} {args : Array Value} {below : List Frame} {meth : Method} {c : Code} {D : va_G} {cy : Nat → ClassId} {ad : Nat → Nat} {r : Int32} {μ1 : Mem} {ν : Lem} (C : Cx true p s m args meth c cX5_meet 4 RX5 D cy ad) (hr : meth.sig.returnType = some .int) : ∀ (μ : Mem) (x1 : Int32) (x2 : Int32) (x3 : Int32), f5_meet μ x1 x2 x3 = some (r, μ1) → ∀ (H : Heap) (locs : List Loc), Wd true D cy ad s.heap μ ν H locs → ∀ (ls : Array Slot), lv_has ls 4 [(0, .ref (ad 0)), (1, .int x1), (2, .int x2), (3, .int x3)] → WI true p l e 6 137 s m args below meth c D cy ad .int r μ1 ν H locs (F0 m 0 ls []) := by
  have hx := C.1.1
  have hb := C.1.2.1
  have hown := C.1.2.2.2.1
  have hts := C.1.2.2.2.2
  intro μ x1 x2 x3 hf H locs X ls hl
  unfold f5_meet at hf
  refine lv_aload_n hx hb dX5_meet_0 rfl (lv_at hl 0 rfl) ?_
  refine lv_iload_n hx hb dX5_meet_1 rfl (lv_at hl 1 rfl) ?_
  refine lv_iload_n hx hb dX5_meet_2 rfl (lv_at hl 2 rfl) ?_
  refine qX5_186 rfl C X hl.1 ((Nat.le_of_ble_eq_true rfl)) ⟨(Nat.le_of_ble_eq_true rfl), (Nat.le_of_ble_eq_true rfl)⟩ ⟨Nat.zero_le _, Nat.zero_le _⟩ dX5_meet_3 (fun H locs X b3 => ?_)
  refine lv_if_eq (tgt := 18) hx hb dX5_meet_6 (by decide) (fun c6 => ?_) (fun c6 => ?_)
  · replace hf := ifp c6 hf
    refine lv_bipush (v := (-2)) hx hb dX5_meet_18 (by decide) ?_
    exact retI C X hr rfl (so2 hf).1 (so2 hf).2 rfl dX5_meet_20
  · replace hf := ifn c6 hf
    refine lv_iload_n hx hb dX5_meet_9 rfl (lv_at hl 3 rfl) ?_
    refine lv_if_lt (tgt := 18) hx hb dX5_meet_10 (by decide) (fun c10 => ?_) (fun c10 => ?_)
    · replace hf := ifp c10 hf
      refine lv_bipush (v := (-2)) hx hb dX5_meet_18 (by decide) ?_
      exact retI C X hr rfl (so2 hf).1 (so2 hf).2 rfl dX5_meet_20
    · replace hf := ifn c10 hf
      refine lv_iload_n hx hb dX5_meet_13 rfl (lv_at hl 3 rfl) ?_
      refine lv_iconst (v := 3) hx hb dX5_meet_14 (by decide) ?_
      refine lv_icmp_le (tgt := 21) hx hb dX5_meet_15 (by decide) (fun c15 => ?_) (fun c15 => ?_)
      · replace hf := ifp c15 hf
        refine lv_aload_n hx hb dX5_meet_21 rfl (lv_at hl 0 rfl) ?_
        refine lv_iload_n hx hb dX5_meet_22 rfl (lv_at hl 1 rfl) ?_
        refine lv_iload_n hx hb dX5_meet_23 rfl (lv_at hl 2 rfl) ?_
        obtain ⟨μ24, g24, hf⟩ := bd1_e hf
        refine qX5_190 g24 C X hl.1 ((Nat.le_of_ble_eq_true rfl)) ⟨(Nat.le_of_ble_eq_true rfl), (Nat.le_of_ble_eq_true rfl)⟩ ⟨Nat.zero_le _, Nat.zero_le _⟩ dX5_meet_24 (fun H locs X => ?_)
        refine lv_iload_n hx hb dX5_meet_27 rfl (lv_at hl 3 rfl) ?_
        refine lv_iconst (v := 1) hx hb dX5_meet_28 (by decide) ?_
        refine lv_icmp_ne (tgt := 38) hx hb dX5_meet_29 (by decide) (fun c29 => ?_) (fun c29 => ?_)
        · replace hf := ifn c29 hf
          refine lv_iload_n hx hb dX5_meet_38 rfl (lv_at hl 3 rfl) ?_
          refine lv_iconst (v := 2) hx hb dX5_meet_39 (by decide) ?_
          refine lv_icmp_ne (tgt := 50) hx hb dX5_meet_40 (by decide) (fun c40 => ?_) (fun c40 => ?_)
          · replace hf := ifn c40 hf
            refine lv_iload_n hx hb dX5_meet_50 rfl (lv_at hl 3 rfl) ?_
            refine lv_if_ne (tgt := 61) hx hb dX5_meet_51 (by decide) (fun c51 => ?_) (fun c51 => ?_)
            · replace hf := ifn c51 hf
              refine lv_aload_n hx hb dX5_meet_61 rfl (lv_at hl 0 rfl) ?_
              obtain ⟨r62, g62, hf⟩ := bd1_e hf
              refine qX5_199 g62 C X hl.1 ((Nat.le_of_ble_eq_true rfl)) ⟨(Nat.le_of_ble_eq_true rfl), (Nat.le_of_ble_eq_true rfl)⟩ ⟨Nat.zero_le _, Nat.zero_le _⟩ dX5_meet_62 (fun H locs X b62 => ?_)
              refine lv_iconst (v := 2) hx hb dX5_meet_65 (by decide) ?_
              refine rIrem hx hb dX5_meet_66 (by decide) ?_
              exact retI C X hr rfl (so2 hf).1 (so2 hf).2 rfl dX5_meet_67
            · replace hf := ifp c51 hf
              refine lv_aload_n hx hb dX5_meet_54 rfl (lv_at hl 0 rfl) ?_
              obtain ⟨r55, g55, hf⟩ := bd1_e hf
              refine qX5_199 g55 C X hl.1 ((Nat.le_of_ble_eq_true rfl)) ⟨(Nat.le_of_ble_eq_true rfl), (Nat.le_of_ble_eq_true rfl)⟩ ⟨Nat.zero_le _, Nat.zero_le _⟩ dX5_meet_55 (fun H locs X b55 => ?_)
              refine lv_goto (tgt := 67) hx hb dX5_meet_58 (by decide) ?_
              exact retI C X hr rfl (so2 hf).1 (so2 hf).2 rfl dX5_meet_67
          · replace hf := ifp c40 hf
            refine lv_aload_n hx hb dX5_meet_43 rfl (lv_at hl 0 rfl) ?_
            obtain ⟨r44, g44, hf⟩ := bd1_e hf
            refine qX5_196 g44 C X hl.1 ((Nat.le_of_ble_eq_true rfl)) ⟨(Nat.le_of_ble_eq_true rfl), (Nat.le_of_ble_eq_true rfl)⟩ ⟨Nat.zero_le _, Nat.zero_le _⟩ dX5_meet_44 (fun H locs X b44 => ?_)
            refine lv_goto (tgt := 67) hx hb dX5_meet_47 (by decide) ?_
            exact retI C X hr rfl (so2 hf).1 (so2 hf).2 rfl dX5_meet_67
        · replace hf := ifp c29 hf
          refine lv_aload_n hx hb dX5_meet_32 rfl (lv_at hl 0 rfl) ?_
          refine lv_iconst (v := 0) hx hb dX5_meet_33 (by decide) ?_
          obtain ⟨r34, g34, hf⟩ := bd1_e hf
          refine qX5_193 g34 C X hl.1 ((Nat.le_of_ble_eq_true rfl)) ⟨(Nat.le_of_ble_eq_true rfl), (Nat.le_of_ble_eq_true rfl)⟩ ⟨Nat.zero_le _, Nat.zero_le _⟩ dX5_meet_34 (fun H locs X b34 => ?_)
          exact retI C X hr rfl (so2 hf).1 (so2 hf).2 rfl dX5_meet_37
      · replace hf := ifn c15 hf
        refine lv_bipush (v := (-2)) hx hb dX5_meet_18 (by decide) ?_
        exact retI C X hr rfl (so2 hf).1 (so2 hf).2 rfl dX5_meet_20
theorem ct5_meet {x1 : Int32} {x2 : Int32} {x3 : Int32} {μ : Mem} {ν : Lem} {r : Int32} {μ1 : Mem} (hg : f5_meet μ x1 x2 x3 = some (r, μ1)) : CtI true yX5_meet cX5_meet 4 6 137 .int (fun ad => [.ref (ad 0), .int x1, .int x2, .int x3]) μ ν r μ1 ν :=
  mkI (by decide) rfl (fun ad => Nat.le_of_ble_eq_true rfl) (fun p l e s m args below meth c D cy ad C hr X ls hl => w5_meet C hr μ x1 x2 x3 hg _ _ X _ hl)
theorem qL_69 {p : Program} {l : Launch} {e : Env} {R : Room} {s : State} {m : MethodId} {args : Array Value} {below : List Frame} {meth : Method} {c : Code} {H : Heap} {locs : List Loc} {cells slots : Nat} {Q : State → Prop} {A : Nat → Prop} {cc : ByteArray} {nL : Nat} {D : va_G} {cy : Nat → ClassId} {ad : Nat → Nat} {μ : Mem} {ν : Lem} {pc : Nat} {ls : Array Slot} {rest : List Value} {x1 : Int32} {x2 : Int32} {x3 : Int32} {r : Int32} {μ1 : Mem} (hg : f5_meet μ x1 x2 x3 = some (r, μ1)) (C : CxA true A p s m args meth c cc nL RL D cy ad) (X : WdA true A D cy ad s.heap μ ν H locs) (hsz : ls.size = nL) (hrm : (rest.map fun v => v.category).sum ≤ 8) (hR : 6 + 1 ≤ R.frames ∧ 8 + (4 + 11) + 137 ≤ R.locals) (hcs : cells ≤ R.cells ∧ slots ≤ R.slots) (hd : decode cc pc = .ok (.invokevirtual 69, 3)) (kk : ∀ (H1 : Heap) (locs1 : List Loc), WdA true A D cy ad s.heap μ1 ν H1 locs1 → narrow .int (.int r) = .int r → W p l e R s m args below meth c H1 locs1 cells slots Q (F0 m (pc + 3) ls (.int r :: rest))) : W p l e R s m args below meth c H locs cells slots Q (F0 m pc ls (.int x3 :: .int x2 :: .int x1 :: .ref (ad 0) :: rest)) :=
  rCVI (As := [.int x1, .int x2, .int x3]) (k := 0) (ct5_meet hg) ok5 lX5_meet k_540 rfl rfl rfl C X rfl hrm hsz hR hcs hd kk
set_option maxRecDepth 100000 in
set_option maxHeartbeats 4000000 in
theorem w5_commonDivisor_1 {p : Program} {l : Launch} {e : Env} {s : State} {m : MethodId} {args : Array Value} {below : List Frame} {meth : Method} {c : Code} {D : va_G} {cy : Nat → ClassId} {ad : Nat → Nat} {r : Int64} {μ : Mem} {ν : Lem} (C : Cx true p s m args meth c cX5_commonDivisor 11 RX5 D cy ad) (hr : meth.sig.returnType = some .long) : ∀ (n : Nat), ∀ (x4 : Int64) (x6 : Int64) (x8 : Int32), f5_commonDivisor_1 n x4 x6 x8 = some r → ∀ (H : Heap) (locs : List Loc), Wd true D cy ad s.heap μ ν H locs → ∀ (ls : Array Slot), lv_has ls 11 [(4, .long x4), (6, .long x6), (8, .int x8)] → WL true p l e 0 0 s m args below meth c D cy ad r μ ν H locs (F0 m 9 ls []) := by
  have hx := C.1.1
  have hb := C.1.2.1
  have hown := C.1.2.2.2.1
  have hts := C.1.2.2.2.2
  intro n
  induction n with
  | zero =>
    intro x4 x6 x8 hf H locs X ls hl
    rw [f5_commonDivisor_1] at hf
    cases hf
  | succ n ih =>
    intro x4 x6 x8 hf H locs X ls hl
    rw [f5_commonDivisor_1] at hf
    refine lv_iload hx hb dX5_commonDivisor_9 (lv_at hl 2 rfl) ?_
    refine lv_sipush (v := 200) hx hb dX5_commonDivisor_11 (by decide) ?_
    refine lv_icmp_ge (tgt := 45) hx hb dX5_commonDivisor_14 (by decide) (fun c14 => ?_) (fun c14 => ?_)
    · replace hf := ifp c14 hf
      refine lv_lload hx hb dX5_commonDivisor_45 (lv_at hl 0 rfl) ?_
      exact retL C X hr (Option.some.inj hf) rfl rfl dX5_commonDivisor_47
    · replace hf := ifn c14 hf
      refine lv_lload hx hb dX5_commonDivisor_17 (lv_at hl 1 rfl) ?_
      refine lv_lconst (v := 0) hx hb dX5_commonDivisor_19 (by decide) ?_
      refine W.lcmp hx hb dX5_commonDivisor_20 ?_
      refine lv_if_eq (tgt := 45) hx hb dX5_commonDivisor_21 (by decide) (fun c21 => ?_) (fun c21 => ?_)
      · replace hf := ifp c21 hf
        refine lv_lload hx hb dX5_commonDivisor_45 (lv_at hl 0 rfl) ?_
        exact retL C X hr (Option.some.inj hf) rfl rfl dX5_commonDivisor_47
      · replace hf := ifn c21 hf
        refine lv_lload hx hb dX5_commonDivisor_24 (lv_at hl 0 rfl) ?_
        refine lv_lload hx hb dX5_commonDivisor_26 (lv_at hl 1 rfl) ?_
        obtain ⟨h28, hf⟩ := gd_e hf
        refine rLrem hx hb dX5_commonDivisor_28 h28 ?_
        obtain ⟨v29, e29, hf⟩ := nm_e2 hf
        refine st_l e29 ?_
        refine lv_lstore (lv' := [(9, .long v29), (4, .long x4), (6, .long x6), (8, .int x8)]) hx hb dX5_commonDivisor_29 hl (by decide) rfl (fun ls hl => ?_)
        refine lv_lload hx hb dX5_commonDivisor_31 (lv_at hl 2 rfl) ?_
        refine lv_lstore (lv' := [(4, .long x6), (9, .long v29), (6, .long x6), (8, .int x8)]) hx hb dX5_commonDivisor_33 hl (by decide) rfl (fun ls hl => ?_)
        refine lv_lload hx hb dX5_commonDivisor_35 (lv_at hl 1 rfl) ?_
        refine lv_lstore (lv' := [(6, .long v29), (4, .long x6), (9, .long v29), (8, .int x8)]) hx hb dX5_commonDivisor_37 hl (by decide) rfl (fun ls hl => ?_)
        obtain ⟨v39, e39, hf⟩ := nm_e2 hf
        refine rIinc (lv' := [(8, .int v39), (6, .long v29), (4, .long x6), (9, .long v29)]) hx hb dX5_commonDivisor_39 hl (k := 3) rfl e39 rfl (by decide) rfl (fun ls hl => ?_)
        refine lv_goto (tgt := 9) hx hb dX5_commonDivisor_42 (by decide) ?_
        exact ih x6 v29 v39 hf _ _ X _ (lv_sub hl [2, 1, 0] rfl)
set_option maxRecDepth 100000 in
set_option maxHeartbeats 4000000 in
theorem w5_commonDivisor {p : Program} {l : Launch} {e : Env} {s : State} {m : MethodId} {args : Array Value} {below : List Frame} {meth : Method} {c : Code} {D : va_G} {cy : Nat → ClassId} {ad : Nat → Nat} {r : Int64} {μ : Mem} {ν : Lem} (C : Cx true p s m args meth c cX5_commonDivisor 11 RX5 D cy ad) (hr : meth.sig.returnType = some .long) : ∀ (x0 : Int64) (x2 : Int64), f5_commonDivisor x0 x2 = some r → ∀ (H : Heap) (locs : List Loc), Wd true D cy ad s.heap μ ν H locs → ∀ (ls : Array Slot), lv_has ls 11 [(0, .long x0), (2, .long x2)] → WL true p l e 0 0 s m args below meth c D cy ad r μ ν H locs (F0 m 0 ls []) := by
  have hx := C.1.1
  have hb := C.1.2.1
  have hown := C.1.2.2.2.1
  have hts := C.1.2.2.2.2
  intro x0 x2 hf H locs X ls hl
  unfold f5_commonDivisor at hf
  refine lv_lload_n hx hb dX5_commonDivisor_0 rfl (lv_at hl 0 rfl) ?_
  refine lv_lstore (lv' := [(4, .long x0), (0, .long x0), (2, .long x2)]) hx hb dX5_commonDivisor_1 hl (by decide) rfl (fun ls hl => ?_)
  refine lv_lload_n hx hb dX5_commonDivisor_3 rfl (lv_at hl 2 rfl) ?_
  refine lv_lstore (lv' := [(6, .long x2), (4, .long x0), (0, .long x0), (2, .long x2)]) hx hb dX5_commonDivisor_4 hl (by decide) rfl (fun ls hl => ?_)
  refine lv_iconst (v := 0) hx hb dX5_commonDivisor_6 (by decide) ?_
  refine lv_istore (lv' := [(8, .int 0), (6, .long x2), (4, .long x0), (0, .long x0), (2, .long x2)]) hx hb dX5_commonDivisor_7 hl (by decide) rfl (fun ls hl => ?_)
  exact w5_commonDivisor_1 C hr  FUEL x0 x2 0 hf _ _ X _ (lv_sub hl [2, 1, 0] rfl)
theorem ct5_commonDivisor {x0 : Int64} {x2 : Int64} {μ : Mem} {ν : Lem} {r : Int64} (hg : f5_commonDivisor x0 x2 = some r) : CtL true yX5_commonDivisor cX5_commonDivisor 11 0 0 (fun ad => [.long x0, .long x2]) μ ν r μ ν :=
  mkL (by decide) rfl (fun ad => Nat.le_of_ble_eq_true rfl) (fun p l e s m args below meth c D cy ad C hr X ls hl => w5_commonDivisor C hr x0 x2 hg _ _ X _ hl)
theorem qX5_337 {p : Program} {l : Launch} {e : Env} {R : Room} {s : State} {m : MethodId} {args : Array Value} {below : List Frame} {meth : Method} {c : Code} {H : Heap} {locs : List Loc} {cells slots : Nat} {Q : State → Prop} {A : Nat → Prop} {cc : ByteArray} {nL : Nat} {D : va_G} {cy : Nat → ClassId} {ad : Nat → Nat} {μ : Mem} {ν : Lem} {pc : Nat} {ls : Array Slot} {rest : List Value} {x0 : Int64} {x2 : Int64} {r : Int64} (hg : f5_commonDivisor x0 x2 = some r) (C : CxA true A p s m args meth c cc nL RX5 D cy ad) (X : WdA true A D cy ad s.heap μ ν H locs) (hsz : ls.size = nL) (hrm : (rest.map fun v => v.category).sum ≤ 8) (hR : 0 + 1 ≤ R.frames ∧ 8 + (11 + 11) + 0 ≤ R.locals) (hcs : cells ≤ R.cells ∧ slots ≤ R.slots) (hd : decode cc pc = .ok (.invokestatic 337, 3)) (kk : ∀ (H1 : Heap) (locs1 : List Loc), WdA true A D cy ad s.heap μ ν H1 locs1 → W p l e R s m args below meth c H1 locs1 cells slots Q (F0 m (pc + 3) ls (.long r :: rest))) : W p l e R s m args below meth c H locs cells slots Q (F0 m pc ls (.long x2 :: .long x0 :: rest)) :=
  rCSL (As := [.long x0, .long x2]) (ct5_commonDivisor hg) lX5_commonDivisor k_585 rfl rfl C X rfl hrm hsz hR hcs hd kk
set_option maxRecDepth 100000 in
set_option maxHeartbeats 4000000 in
theorem w5_lowest_1 {p : Program} {l : Launch} {e : Env} {s : State} {m : MethodId} {args : Array Value} {below : List Frame} {meth : Method} {c : Code} {D : va_G} {cy : Nat → ClassId} {ad : Nat → Nat} {r : Int64} {μ : Mem} {ν : Lem} (C : Cx true p s m args meth c cX5_lowest 9 RX5 D cy ad) (hr : meth.sig.returnType = some .long) : ∀ (x5 : Int64) (t0 : Int64), f5_lowest_1 x5 t0 = some r → ∀ (H : Heap) (locs : List Loc), Wd true D cy ad s.heap μ ν H locs → ∀ (ls : Array Slot), lv_has ls 9 [(5, .long x5)] → WL true p l e 1 30 s m args below meth c D cy ad r μ ν H locs (F0 m 17 ls [.long t0]) := by
  have hx := C.1.1
  have hb := C.1.2.1
  have hown := C.1.2.2.2.1
  have hts := C.1.2.2.2.2
  intro x5 t0 hf H locs X ls hl
  unfold f5_lowest_1 at hf
  refine lv_lstore (lv' := [(7, .long t0), (5, .long x5)]) hx hb dX5_lowest_17 hl (by decide) rfl (fun ls hl => ?_)
  refine lv_lload hx hb dX5_lowest_19 (lv_at hl 1 rfl) ?_
  refine lv_lconst (v := 0) hx hb dX5_lowest_21 (by decide) ?_
  refine W.lcmp hx hb dX5_lowest_22 ?_
  refine lv_if_ne (tgt := 31) hx hb dX5_lowest_23 (by decide) (fun c23 => ?_) (fun c23 => ?_)
  · replace hf := ifn c23 hf
    refine lv_lload hx hb dX5_lowest_31 (lv_at hl 0 rfl) ?_
    refine lv_lload hx hb dX5_lowest_33 (lv_at hl 1 rfl) ?_
    obtain ⟨h35, hf⟩ := gd_e hf
    refine lv_ldiv hx hb dX5_lowest_35 h35 ?_
    exact retL C X hr (Option.some.inj hf) rfl rfl dX5_lowest_36
  · replace hf := ifp c23 hf
    refine lv_lload hx hb dX5_lowest_26 (lv_at hl 0 rfl) ?_
    refine lv_goto (tgt := 36) hx hb dX5_lowest_28 (by decide) ?_
    exact retL C X hr (Option.some.inj hf) rfl rfl dX5_lowest_36
set_option maxRecDepth 100000 in
set_option maxHeartbeats 4000000 in
theorem w5_lowest {p : Program} {l : Launch} {e : Env} {s : State} {m : MethodId} {args : Array Value} {below : List Frame} {meth : Method} {c : Code} {D : va_G} {cy : Nat → ClassId} {ad : Nat → Nat} {r : Int64} {μ : Mem} {ν : Lem} (C : Cx true p s m args meth c cX5_lowest 9 RX5 D cy ad) (hr : meth.sig.returnType = some .long) : ∀ (x0 : Int64) (x2 : Int64) (x4 : Int32), f5_lowest x0 x2 x4 = some r → ∀ (H : Heap) (locs : List Loc), Wd true D cy ad s.heap μ ν H locs → ∀ (ls : Array Slot), lv_has ls 9 [(0, .long x0), (2, .long x2), (4, .int x4)] → WL true p l e 1 30 s m args below meth c D cy ad r μ ν H locs (F0 m 0 ls []) := by
  have hx := C.1.1
  have hb := C.1.2.1
  have hown := C.1.2.2.2.1
  have hts := C.1.2.2.2.2
  intro x0 x2 x4 hf H locs X ls hl
  unfold f5_lowest at hf
  refine lv_lload_n hx hb dX5_lowest_0 rfl (lv_at hl 0 rfl) ?_
  refine lv_lload_n hx hb dX5_lowest_1 rfl (lv_at hl 1 rfl) ?_
  obtain ⟨r2, g2, hf⟩ := bd1_e hf
  refine qX5_337 g2 C X hl.1 ((Nat.le_of_ble_eq_true rfl)) ⟨(Nat.le_of_ble_eq_true rfl), (Nat.le_of_ble_eq_true rfl)⟩ ⟨Nat.zero_le _, Nat.zero_le _⟩ dX5_lowest_2 (fun H locs X => ?_)
  refine lv_lstore (lv' := [(5, .long r2), (0, .long x0), (2, .long x2), (4, .int x4)]) hx hb dX5_lowest_5 hl (by decide) rfl (fun ls hl => ?_)
  refine lv_iload hx hb dX5_lowest_7 (lv_at hl 3 rfl) ?_
  refine lv_if_ne (tgt := 16) hx hb dX5_lowest_9 (by decide) (fun c9 => ?_) (fun c9 => ?_)
  · replace hf := ifn c9 hf
    refine lv_lload_n hx hb dX5_lowest_16 rfl (lv_at hl 2 rfl) ?_
    exact w5_lowest_1 C hr  r2 x2 hf _ _ X _ (lv_sub hl [0] rfl)
  · replace hf := ifp c9 hf
    refine lv_lload_n hx hb dX5_lowest_12 rfl (lv_at hl 1 rfl) ?_
    refine lv_goto (tgt := 17) hx hb dX5_lowest_13 (by decide) ?_
    exact w5_lowest_1 C hr  r2 x0 hf _ _ X _ (lv_sub hl [0] rfl)
theorem ct5_lowest {x0 : Int64} {x2 : Int64} {x4 : Int32} {μ : Mem} {ν : Lem} {r : Int64} (hg : f5_lowest x0 x2 x4 = some r) : CtL true yX5_lowest cX5_lowest 9 1 30 (fun ad => [.long x0, .long x2, .int x4]) μ ν r μ ν :=
  mkL (by decide) rfl (fun ad => Nat.le_of_ble_eq_true rfl) (fun p l e s m args below meth c D cy ad C hr X ls hl => w5_lowest C hr x0 x2 x4 hg _ _ X _ hl)
theorem qX5_210 {p : Program} {l : Launch} {e : Env} {R : Room} {s : State} {m : MethodId} {args : Array Value} {below : List Frame} {meth : Method} {c : Code} {H : Heap} {locs : List Loc} {cells slots : Nat} {Q : State → Prop} {A : Nat → Prop} {cc : ByteArray} {nL : Nat} {D : va_G} {cy : Nat → ClassId} {ad : Nat → Nat} {μ : Mem} {ν : Lem} {pc : Nat} {ls : Array Slot} {rest : List Value} {x0 : Int64} {x2 : Int64} {x4 : Int32} {r : Int64} (hg : f5_lowest x0 x2 x4 = some r) (C : CxA true A p s m args meth c cc nL RX5 D cy ad) (X : WdA true A D cy ad s.heap μ ν H locs) (hsz : ls.size = nL) (hrm : (rest.map fun v => v.category).sum ≤ 8) (hR : 1 + 1 ≤ R.frames ∧ 8 + (9 + 11) + 30 ≤ R.locals) (hcs : cells ≤ R.cells ∧ slots ≤ R.slots) (hd : decode cc pc = .ok (.invokestatic 210, 3)) (kk : ∀ (H1 : Heap) (locs1 : List Loc), WdA true A D cy ad s.heap μ ν H1 locs1 → W p l e R s m args below meth c H1 locs1 cells slots Q (F0 m (pc + 3) ls (.long r :: rest))) : W p l e R s m args below meth c H locs cells slots Q (F0 m pc ls (.int x4 :: .long x2 :: .long x0 :: rest)) :=
  rCSL (As := [.long x0, .long x2, .int x4]) (ct5_lowest hg) lX5_lowest k_582 rfl rfl C X rfl hrm hsz hR hcs hd kk
set_option maxRecDepth 100000 in
set_option maxHeartbeats 4000000 in
theorem w5_when_1 {p : Program} {l : Launch} {e : Env} {s : State} {m : MethodId} {args : Array Value} {below : List Frame} {meth : Method} {c : Code} {D : va_G} {cy : Nat → ClassId} {ad : Nat → Nat} {r : Int64} {μ1 : Mem} {ν : Lem} (C : Cx true p s m args meth c cX5_when 9 RX5 D cy ad) (hr : meth.sig.returnType = some .long) : ∀ (μ : Mem) (x3 : Int32) (x4 : Int32), f5_when_1 μ x3 x4 = some (r, μ1) → ∀ (H : Heap) (locs : List Loc), Wd true D cy ad s.heap μ ν H locs → ∀ (ls : Array Slot), lv_has ls 9 [(3, .int x3), (4, .int x4)] → WL true p l e 6 137 s m args below meth c D cy ad r μ1 ν H locs (F0 m 73 ls []) := by
  have hx := C.1.1
  have hb := C.1.2.1
  have hown := C.1.2.2.2.1
  have hts := C.1.2.2.2.2
  intro μ x3 x4 hf H locs X ls hl
  unfold f5_when_1 at hf
  refine lv_iload_n hx hb dX5_when_73 rfl (lv_at hl 0 rfl) ?_
  refine lv_if_ne (tgt := 83) hx hb dX5_when_74 (by decide) (fun c74 => ?_) (fun c74 => ?_)
  · replace hf := ifn c74 hf
    refine lv_lconst (v := 1) hx hb dX5_when_83 (by decide) ?_
    exact retL C X hr (so2 hf).1 (so2 hf).2 rfl dX5_when_84
  · replace hf := ifp c74 hf
    refine lv_iload hx hb dX5_when_77 (lv_at hl 1 rfl) ?_
    refine lv_i2l hx hb dX5_when_79 rfl ?_
    refine lv_goto (tgt := 84) hx hb dX5_when_80 (by decide) ?_
    exact retL C X hr (so2 hf).1 (so2 hf).2 rfl dX5_when_84
set_option maxRecDepth 100000 in
set_option maxHeartbeats 4000000 in
theorem w5_when {p : Program} {l : Launch} {e : Env} {s : State} {m : MethodId} {args : Array Value} {below : List Frame} {meth : Method} {c : Code} {D : va_G} {cy : Nat → ClassId} {ad : Nat → Nat} {r : Int64} {μ1 : Mem} {ν : Lem} (C : Cx true p s m args meth c cX5_when 9 RX5 D cy ad) (hr : meth.sig.returnType = some .long) : ∀ (μ : Mem) (x1 : Int32) (x2 : Int32) (x3 : Int32), f5_when μ x1 x2 x3 = some (r, μ1) → ∀ (H : Heap) (locs : List Loc), Wd true D cy ad s.heap μ ν H locs → ∀ (ls : Array Slot), lv_has ls 9 [(0, .ref (ad 0)), (1, .int x1), (2, .int x2), (3, .int x3)] → WL true p l e 6 137 s m args below meth c D cy ad r μ1 ν H locs (F0 m 0 ls []) := by
  have hx := C.1.1
  have hb := C.1.2.1
  have hown := C.1.2.2.2.1
  have hts := C.1.2.2.2.2
  intro μ x1 x2 x3 hf H locs X ls hl
  unfold f5_when at hf
  refine lv_aload_n hx hb dX5_when_0 rfl (lv_at hl 0 rfl) ?_
  refine lv_iload_n hx hb dX5_when_1 rfl (lv_at hl 1 rfl) ?_
  refine lv_iload_n hx hb dX5_when_2 rfl (lv_at hl 2 rfl) ?_
  refine qX5_186 rfl C X hl.1 ((Nat.le_of_ble_eq_true rfl)) ⟨(Nat.le_of_ble_eq_true rfl), (Nat.le_of_ble_eq_true rfl)⟩ ⟨Nat.zero_le _, Nat.zero_le _⟩ dX5_when_3 (fun H locs X b3 => ?_)
  refine lv_if_eq (tgt := 18) hx hb dX5_when_6 (by decide) (fun c6 => ?_) (fun c6 => ?_)
  · replace hf := ifp c6 hf
    refine lv_ldc2 (v := (-4611686018427387904)) hx hb hown (hts _ k_581) dX5_when_18 ?_
    exact retL C X hr (so2 hf).1 (so2 hf).2 rfl dX5_when_21
  · replace hf := ifn c6 hf
    refine lv_iload_n hx hb dX5_when_9 rfl (lv_at hl 3 rfl) ?_
    refine lv_if_lt (tgt := 18) hx hb dX5_when_10 (by decide) (fun c10 => ?_) (fun c10 => ?_)
    · replace hf := ifp c10 hf
      refine lv_ldc2 (v := (-4611686018427387904)) hx hb hown (hts _ k_581) dX5_when_18 ?_
      exact retL C X hr (so2 hf).1 (so2 hf).2 rfl dX5_when_21
    · replace hf := ifn c10 hf
      refine lv_iload_n hx hb dX5_when_13 rfl (lv_at hl 3 rfl) ?_
      refine lv_iconst (v := 1) hx hb dX5_when_14 (by decide) ?_
      refine lv_icmp_le (tgt := 22) hx hb dX5_when_15 (by decide) (fun c15 => ?_) (fun c15 => ?_)
      · replace hf := ifp c15 hf
        refine lv_aload_n hx hb dX5_when_22 rfl (lv_at hl 0 rfl) ?_
        refine lv_iload_n hx hb dX5_when_23 rfl (lv_at hl 1 rfl) ?_
        refine lv_iload_n hx hb dX5_when_24 rfl (lv_at hl 2 rfl) ?_
        obtain ⟨μ25, g25, hf⟩ := bd1_e hf
        refine qX5_190 g25 C X hl.1 ((Nat.le_of_ble_eq_true rfl)) ⟨(Nat.le_of_ble_eq_true rfl), (Nat.le_of_ble_eq_true rfl)⟩ ⟨Nat.zero_le _, Nat.zero_le _⟩ dX5_when_25 (fun H locs X => ?_)
        refine lv_aload_n hx hb dX5_when_28 rfl (lv_at hl 0 rfl) ?_
        refine lv_iconst (v := 0) hx hb dX5_when_29 (by decide) ?_
        obtain ⟨r30, g30, hf⟩ := bd1_e hf
        refine qX5_193 g30 C X hl.1 ((Nat.le_of_ble_eq_true rfl)) ⟨(Nat.le_of_ble_eq_true rfl), (Nat.le_of_ble_eq_true rfl)⟩ ⟨Nat.zero_le _, Nat.zero_le _⟩ dX5_when_30 (fun H locs X b30 => ?_)
        refine lv_istore (lv' := [(4, .int r30), (0, .ref (ad 0)), (1, .int x1), (2, .int x2), (3, .int x3)]) hx hb dX5_when_33 hl (by decide) rfl (fun ls hl => ?_)
        refine lv_iload hx hb dX5_when_35 (lv_at hl 0 rfl) ?_
        refine lv_iconst (v := (-1)) hx hb dX5_when_37 (by decide) ?_
        refine lv_icmp_ne (tgt := 45) hx hb dX5_when_38 (by decide) (fun c38 => ?_) (fun c38 => ?_)
        · replace hf := ifn c38 hf
          refine lv_aload_n hx hb dX5_when_45 rfl (lv_at hl 1 rfl) ?_
          refine lv_iload hx hb dX5_when_46 (lv_at hl 0 rfl) ?_
          refine lv_iconst (v := 0) hx hb dX5_when_48 (by decide) ?_
          obtain ⟨r49, g49, hf⟩ := bd1_e hf
          refine qX5_207 g49 C X hl.1 ((Nat.le_of_ble_eq_true rfl)) ⟨(Nat.le_of_ble_eq_true rfl), (Nat.le_of_ble_eq_true rfl)⟩ ⟨Nat.zero_le _, Nat.zero_le _⟩ dX5_when_49 (fun H locs X b49 => ?_)
          refine rAbs C k_490 hl.1 (Nat.le_of_ble_eq_true rfl) (Nat.le_of_ble_eq_true rfl) ⟨Nat.zero_le _, Nat.zero_le _⟩ dX5_when_52 ?_
          refine lv_i2l hx hb dX5_when_55 rfl ?_
          obtain ⟨v56, e56, hf⟩ := nm_e2 hf
          refine st_l e56 ?_
          refine lv_lstore (lv' := [(5, .long v56), (4, .int r30), (0, .ref (ad 0)), (1, .int x1), (2, .int x2), (3, .int x3)]) hx hb dX5_when_56 hl (by decide) rfl (fun ls hl => ?_)
          refine lv_lload hx hb dX5_when_58 (lv_at hl 0 rfl) ?_
          refine lv_lconst (v := 0) hx hb dX5_when_60 (by decide) ?_
          refine W.lcmp hx hb dX5_when_61 ?_
          refine lv_if_eq (tgt := 73) hx hb dX5_when_62 (by decide) (fun c62 => ?_) (fun c62 => ?_)
          · replace hf := ifp c62 hf
            exact w5_when_1 C hr  μ25 x3 r30 hf _ _ X _ (lv_sub hl [5, 1] rfl)
          · replace hf := ifn c62 hf
            refine lv_iload hx hb dX5_when_65 (lv_at hl 1 rfl) ?_
            refine lv_sipush (v := 600) hx hb dX5_when_67 (by decide) ?_
            refine lv_icmp_lt (tgt := 85) hx hb dX5_when_70 (by decide) (fun c70 => ?_) (fun c70 => ?_)
            · replace hf := ifp c70 hf
              refine lv_lload hx hb dX5_when_85 (lv_at hl 0 rfl) ?_
              refine lv_aload_n hx hb dX5_when_87 rfl (lv_at hl 2 rfl) ?_
              refine lv_iload hx hb dX5_when_88 (lv_at hl 1 rfl) ?_
              refine lv_iconst (v := 1) hx hb dX5_when_90 (by decide) ?_
              refine lv_iadd hx hb dX5_when_91 ?_
              refine lv_iconst (v := 0) hx hb dX5_when_92 (by decide) ?_
              obtain ⟨r93, g93, hf⟩ := bd1_e hf
              refine qX5_207 g93 C X hl.1 ((Nat.le_of_ble_eq_true rfl)) ⟨(Nat.le_of_ble_eq_true rfl), (Nat.le_of_ble_eq_true rfl)⟩ ⟨Nat.zero_le _, Nat.zero_le _⟩ dX5_when_93 (fun H locs X b93 => ?_)
              refine rAbs C k_490 hl.1 (Nat.le_of_ble_eq_true rfl) (Nat.le_of_ble_eq_true rfl) ⟨Nat.zero_le _, Nat.zero_le _⟩ dX5_when_96 ?_
              refine lv_i2l hx hb dX5_when_99 rfl ?_
              refine lv_ladd hx hb dX5_when_100 ?_
              obtain ⟨v101, e101, hf⟩ := nm_e2 hf
              refine st_l e101 ?_
              refine lv_lstore (lv' := [(7, .long v101), (5, .long v56), (4, .int r30), (0, .ref (ad 0)), (1, .int x1), (2, .int x2), (3, .int x3)]) hx hb dX5_when_101 hl (by decide) rfl (fun ls hl => ?_)
              refine lv_iload hx hb dX5_when_103 (lv_at hl 2 rfl) ?_
              refine lv_i2l hx hb dX5_when_105 rfl ?_
              refine lv_lload hx hb dX5_when_106 (lv_at hl 0 rfl) ?_
              refine lv_lmul hx hb dX5_when_108 ?_
              refine lv_lload hx hb dX5_when_109 (lv_at hl 1 rfl) ?_
              refine lv_ladd hx hb dX5_when_111 ?_
              refine lv_lload hx hb dX5_when_112 (lv_at hl 0 rfl) ?_
              refine lv_iload_n hx hb dX5_when_114 rfl (lv_at hl 6 rfl) ?_
              obtain ⟨r115, g115, hf⟩ := bd1_e hf
              refine qX5_210 g115 C X hl.1 ((Nat.le_of_ble_eq_true rfl)) ⟨(Nat.le_of_ble_eq_true rfl), (Nat.le_of_ble_eq_true rfl)⟩ ⟨Nat.zero_le _, Nat.zero_le _⟩ dX5_when_115 (fun H locs X => ?_)
              exact retL C X hr (so2 hf).1 (so2 hf).2 rfl dX5_when_118
            · replace hf := ifn c70 hf
              exact w5_when_1 C hr  μ25 x3 r30 hf _ _ X _ (lv_sub hl [5, 1] rfl)
        · replace hf := ifp c38 hf
          refine lv_ldc2 (v := (-4611686018427387904)) hx hb hown (hts _ k_581) dX5_when_41 ?_
          exact retL C X hr (so2 hf).1 (so2 hf).2 rfl dX5_when_44
      · replace hf := ifn c15 hf
        refine lv_ldc2 (v := (-4611686018427387904)) hx hb hown (hts _ k_581) dX5_when_18 ?_
        exact retL C X hr (so2 hf).1 (so2 hf).2 rfl dX5_when_21
theorem ct5_when {x1 : Int32} {x2 : Int32} {x3 : Int32} {μ : Mem} {ν : Lem} {r : Int64} {μ1 : Mem} (hg : f5_when μ x1 x2 x3 = some (r, μ1)) : CtL true yX5_when cX5_when 9 6 137 (fun ad => [.ref (ad 0), .int x1, .int x2, .int x3]) μ ν r μ1 ν :=
  mkL (by decide) rfl (fun ad => Nat.le_of_ble_eq_true rfl) (fun p l e s m args below meth c D cy ad C hr X ls hl => w5_when C hr μ x1 x2 x3 hg _ _ X _ hl)
theorem qL_73 {p : Program} {l : Launch} {e : Env} {R : Room} {s : State} {m : MethodId} {args : Array Value} {below : List Frame} {meth : Method} {c : Code} {H : Heap} {locs : List Loc} {cells slots : Nat} {Q : State → Prop} {A : Nat → Prop} {cc : ByteArray} {nL : Nat} {D : va_G} {cy : Nat → ClassId} {ad : Nat → Nat} {μ : Mem} {ν : Lem} {pc : Nat} {ls : Array Slot} {rest : List Value} {x1 : Int32} {x2 : Int32} {x3 : Int32} {r : Int64} {μ1 : Mem} (hg : f5_when μ x1 x2 x3 = some (r, μ1)) (C : CxA true A p s m args meth c cc nL RL D cy ad) (X : WdA true A D cy ad s.heap μ ν H locs) (hsz : ls.size = nL) (hrm : (rest.map fun v => v.category).sum ≤ 8) (hR : 6 + 1 ≤ R.frames ∧ 8 + (9 + 11) + 137 ≤ R.locals) (hcs : cells ≤ R.cells ∧ slots ≤ R.slots) (hd : decode cc pc = .ok (.invokevirtual 73, 3)) (kk : ∀ (H1 : Heap) (locs1 : List Loc), WdA true A D cy ad s.heap μ1 ν H1 locs1 → W p l e R s m args below meth c H1 locs1 cells slots Q (F0 m (pc + 3) ls (.long r :: rest))) : W p l e R s m args below meth c H locs cells slots Q (F0 m pc ls (.int x3 :: .int x2 :: .int x1 :: .ref (ad 0) :: rest)) :=
  rCVL (As := [.int x1, .int x2, .int x3]) (k := 0) (ct5_when hg) ok5 lX5_when k_577 rfl rfl rfl C X rfl hrm hsz hR hcs hd kk
set_option maxRecDepth 100000 in
set_option maxHeartbeats 4000000 in
theorem w5_sure_2 {p : Program} {l : Launch} {e : Env} {s : State} {m : MethodId} {args : Array Value} {below : List Frame} {meth : Method} {c : Code} {D : va_G} {cy : Nat → ClassId} {ad : Nat → Nat} {r : Int32} {μ1 : Mem} {ν : Lem} (C : Cx true p s m args meth c cX5_sure 4 RX5 D cy ad) (hr : meth.sig.returnType = some .int) : ∀ (μ : Mem) (x3 : Int32), f5_sure_2 μ x3 = some (r, μ1) → ∀ (H : Heap) (locs : List Loc), Wd true D cy ad s.heap μ ν H locs → ∀ (ls : Array Slot), lv_has ls 4 [(3, .int x3)] → WI true p l e 6 137 s m args below meth c D cy ad .int r μ1 ν H locs (F0 m 41 ls []) := by
  have hx := C.1.1
  have hb := C.1.2.1
  have hown := C.1.2.2.2.1
  have hts := C.1.2.2.2.2
  intro μ x3 hf H locs X ls hl
  unfold f5_sure_2 at hf
  refine lv_iload_n hx hb dX5_sure_41 rfl (lv_at hl 0 rfl) ?_
  refine lv_if_ne (tgt := 49) hx hb dX5_sure_42 (by decide) (fun c42 => ?_) (fun c42 => ?_)
  · replace hf := ifn c42 hf
    refine lv_iload_n hx hb dX5_sure_49 rfl (lv_at hl 0 rfl) ?_
    refine lv_iconst (v := 1) hx hb dX5_sure_50 (by decide) ?_
    refine lv_isub hx hb dX5_sure_51 ?_
    exact retI C X hr rfl (so2 hf).1 (so2 hf).2 rfl dX5_sure_52
  · replace hf := ifp c42 hf
    refine lv_iconst (v := (-1)) hx hb dX5_sure_45 (by decide) ?_
    refine lv_goto (tgt := 52) hx hb dX5_sure_46 (by decide) ?_
    exact retI C X hr rfl (so2 hf).1 (so2 hf).2 rfl dX5_sure_52
set_option maxRecDepth 100000 in
set_option maxHeartbeats 4000000 in
theorem w5_sure_1 {p : Program} {l : Launch} {e : Env} {s : State} {m : MethodId} {args : Array Value} {below : List Frame} {meth : Method} {c : Code} {D : va_G} {cy : Nat → ClassId} {ad : Nat → Nat} {r : Int32} {μ1 : Mem} {ν : Lem} (C : Cx true p s m args meth c cX5_sure 4 RX5 D cy ad) (hr : meth.sig.returnType = some .int) : ∀ (n : Nat), ∀ (μ : Mem) (x3 : Int32), f5_sure_1 n μ x3 = some (r, μ1) → ∀ (H : Heap) (locs : List Loc), Wd true D cy ad s.heap μ ν H locs → ∀ (ls : Array Slot), lv_has ls 4 [(0, .ref (ad 0)), (3, .int x3)] → WI true p l e 6 137 s m args below meth c D cy ad .int r μ1 ν H locs (F0 m 20 ls []) := by
  have hx := C.1.1
  have hb := C.1.2.1
  have hown := C.1.2.2.2.1
  have hts := C.1.2.2.2.2
  intro n
  induction n with
  | zero =>
    intro μ x3 hf H locs X ls hl
    rw [f5_sure_1] at hf
    cases hf
  | succ n ih =>
    intro μ x3 hf H locs X ls hl
    rw [f5_sure_1] at hf
    refine lv_iload_n hx hb dX5_sure_20 rfl (lv_at hl 1 rfl) ?_
    refine lv_bipush (v := 120) hx hb dX5_sure_21 (by decide) ?_
    refine lv_icmp_gt (tgt := 41) hx hb dX5_sure_23 (by decide) (fun c23 => ?_) (fun c23 => ?_)
    · replace hf := ifp c23 hf
      exact w5_sure_2 C hr  μ x3 hf _ _ X _ (lv_sub hl [1] rfl)
    · replace hf := ifn c23 hf
      refine lv_aload_n hx hb dX5_sure_26 rfl (lv_at hl 0 rfl) ?_
      refine lv_iload_n hx hb dX5_sure_27 rfl (lv_at hl 1 rfl) ?_
      obtain ⟨r28, g28, hf⟩ := bd1_e hf
      refine qX5_193 g28 C X hl.1 ((Nat.le_of_ble_eq_true rfl)) ⟨(Nat.le_of_ble_eq_true rfl), (Nat.le_of_ble_eq_true rfl)⟩ ⟨Nat.zero_le _, Nat.zero_le _⟩ dX5_sure_28 (fun H locs X b28 => ?_)
      refine lv_iconst (v := (-1)) hx hb dX5_sure_31 (by decide) ?_
      refine lv_icmp_eq (tgt := 41) hx hb dX5_sure_32 (by decide) (fun c32 => ?_) (fun c32 => ?_)
      · replace hf := ifp c32 hf
        exact w5_sure_2 C hr  μ x3 hf _ _ X _ (lv_sub hl [1] rfl)
      · replace hf := ifn c32 hf
        obtain ⟨v35, e35, hf⟩ := nm_e2 hf
        refine rIinc (lv' := [(3, .int v35), (0, .ref (ad 0))]) hx hb dX5_sure_35 hl (k := 1) rfl e35 rfl (by decide) rfl (fun ls hl => ?_)
        refine lv_goto (tgt := 20) hx hb dX5_sure_38 (by decide) ?_
        exact ih μ v35 hf _ _ X _ (lv_sub hl [1, 0] rfl)
set_option maxRecDepth 100000 in
set_option maxHeartbeats 4000000 in
theorem w5_sure {p : Program} {l : Launch} {e : Env} {s : State} {m : MethodId} {args : Array Value} {below : List Frame} {meth : Method} {c : Code} {D : va_G} {cy : Nat → ClassId} {ad : Nat → Nat} {r : Int32} {μ1 : Mem} {ν : Lem} (C : Cx true p s m args meth c cX5_sure 4 RX5 D cy ad) (hr : meth.sig.returnType = some .int) : ∀ (μ : Mem) (x1 : Int32) (x2 : Int32), f5_sure μ x1 x2 = some (r, μ1) → ∀ (H : Heap) (locs : List Loc), Wd true D cy ad s.heap μ ν H locs → ∀ (ls : Array Slot), lv_has ls 4 [(0, .ref (ad 0)), (1, .int x1), (2, .int x2)] → WI true p l e 6 137 s m args below meth c D cy ad .int r μ1 ν H locs (F0 m 0 ls []) := by
  have hx := C.1.1
  have hb := C.1.2.1
  have hown := C.1.2.2.2.1
  have hts := C.1.2.2.2.2
  intro μ x1 x2 hf H locs X ls hl
  unfold f5_sure at hf
  refine lv_aload_n hx hb dX5_sure_0 rfl (lv_at hl 0 rfl) ?_
  refine lv_iload_n hx hb dX5_sure_1 rfl (lv_at hl 1 rfl) ?_
  refine lv_iload_n hx hb dX5_sure_2 rfl (lv_at hl 2 rfl) ?_
  refine qX5_186 rfl C X hl.1 ((Nat.le_of_ble_eq_true rfl)) ⟨(Nat.le_of_ble_eq_true rfl), (Nat.le_of_ble_eq_true rfl)⟩ ⟨Nat.zero_le _, Nat.zero_le _⟩ dX5_sure_3 (fun H locs X b3 => ?_)
  refine lv_if_ne (tgt := 12) hx hb dX5_sure_6 (by decide) (fun c6 => ?_) (fun c6 => ?_)
  · replace hf := ifn c6 hf
    refine lv_aload_n hx hb dX5_sure_12 rfl (lv_at hl 0 rfl) ?_
    refine lv_iload_n hx hb dX5_sure_13 rfl (lv_at hl 1 rfl) ?_
    refine lv_iload_n hx hb dX5_sure_14 rfl (lv_at hl 2 rfl) ?_
    obtain ⟨μ15, g15, hf⟩ := bd1_e hf
    refine qX5_190 g15 C X hl.1 ((Nat.le_of_ble_eq_true rfl)) ⟨(Nat.le_of_ble_eq_true rfl), (Nat.le_of_ble_eq_true rfl)⟩ ⟨Nat.zero_le _, Nat.zero_le _⟩ dX5_sure_15 (fun H locs X => ?_)
    refine lv_iconst (v := 0) hx hb dX5_sure_18 (by decide) ?_
    refine lv_istore_n (lv' := [(3, .int 0), (0, .ref (ad 0)), (1, .int x1), (2, .int x2)]) hx hb dX5_sure_19 rfl hl (by decide) rfl (fun ls hl => ?_)
    exact w5_sure_1 C hr  FUEL μ15 0 hf _ _ X _ (lv_sub hl [1, 0] rfl)
  · replace hf := ifp c6 hf
    refine lv_bipush (v := (-2)) hx hb dX5_sure_9 (by decide) ?_
    exact retI C X hr rfl (so2 hf).1 (so2 hf).2 rfl dX5_sure_11
theorem ct5_sure {x1 : Int32} {x2 : Int32} {μ : Mem} {ν : Lem} {r : Int32} {μ1 : Mem} (hg : f5_sure μ x1 x2 = some (r, μ1)) : CtI true yX5_sure cX5_sure 4 6 137 .int (fun ad => [.ref (ad 0), .int x1, .int x2]) μ ν r μ1 ν :=
  mkI (by decide) rfl (fun ad => Nat.le_of_ble_eq_true rfl) (fun p l e s m args below meth c D cy ad C hr X ls hl => w5_sure C hr μ x1 x2 hg _ _ X _ hl)
theorem qL_78 {p : Program} {l : Launch} {e : Env} {R : Room} {s : State} {m : MethodId} {args : Array Value} {below : List Frame} {meth : Method} {c : Code} {H : Heap} {locs : List Loc} {cells slots : Nat} {Q : State → Prop} {A : Nat → Prop} {cc : ByteArray} {nL : Nat} {D : va_G} {cy : Nat → ClassId} {ad : Nat → Nat} {μ : Mem} {ν : Lem} {pc : Nat} {ls : Array Slot} {rest : List Value} {x1 : Int32} {x2 : Int32} {r : Int32} {μ1 : Mem} (hg : f5_sure μ x1 x2 = some (r, μ1)) (C : CxA true A p s m args meth c cc nL RL D cy ad) (X : WdA true A D cy ad s.heap μ ν H locs) (hsz : ls.size = nL) (hrm : (rest.map fun v => v.category).sum ≤ 8) (hR : 6 + 1 ≤ R.frames ∧ 8 + (4 + 11) + 137 ≤ R.locals) (hcs : cells ≤ R.cells ∧ slots ≤ R.slots) (hd : decode cc pc = .ok (.invokevirtual 78, 3)) (kk : ∀ (H1 : Heap) (locs1 : List Loc), WdA true A D cy ad s.heap μ1 ν H1 locs1 → narrow .int (.int r) = .int r → W p l e R s m args below meth c H1 locs1 cells slots Q (F0 m (pc + 3) ls (.int r :: rest))) : W p l e R s m args below meth c H locs cells slots Q (F0 m pc ls (.int x2 :: .int x1 :: .ref (ad 0) :: rest)) :=
  rCVI (As := [.int x1, .int x2]) (k := 0) (ct5_sure hg) ok5 lX5_sure k_588 rfl rfl rfl C X rfl hrm hsz hR hcs hd kk
set_option maxRecDepth 100000 in
set_option maxHeartbeats 4000000 in
theorem w5_nearMinutes_1 {p : Program} {l : Launch} {e : Env} {s : State} {m : MethodId} {args : Array Value} {below : List Frame} {meth : Method} {c : Code} {D : va_G} {cy : Nat → ClassId} {ad : Nat → Nat} {r : Int32} {μ1 : Mem} {ν : Lem} (C : Cx true p s m args meth c cX5_nearMinutes 4 RX5 D cy ad) (hr : meth.sig.returnType = some .int) : ∀ (n : Nat), ∀ (μ : Mem) (x1 : Int32) (x2 : Int32) (x3 : Int32), f5_nearMinutes_1 n μ x1 x2 x3 = some (r, μ1) → ∀ (H : Heap) (locs : List Loc), Wd true D cy ad s.heap μ ν H locs → ∀ (ls : Array Slot), lv_has ls 4 [(0, .ref (ad 0)), (1, .int x1), (2, .int x2), (3, .int x3)] → WI true p l e 5 118 s m args below meth c D cy ad .int r μ1 ν H locs (F0 m 4 ls []) := by
  have hx := C.1.1
  have hb := C.1.2.1
  have hown := C.1.2.2.2.1
  have hts := C.1.2.2.2.2
  intro n
  induction n with
  | zero =>
    intro μ x1 x2 x3 hf H locs X ls hl
    rw [f5_nearMinutes_1] at hf
    cases hf
  | succ n ih =>
    intro μ x1 x2 x3 hf H locs X ls hl
    rw [f5_nearMinutes_1] at hf
    refine lv_iload_n hx hb dX5_nearMinutes_4 rfl (lv_at hl 3 rfl) ?_
    refine lv_sipush (v := 600) hx hb dX5_nearMinutes_5 (by decide) ?_
    refine lv_icmp_gt (tgt := 39) hx hb dX5_nearMinutes_8 (by decide) (fun c8 => ?_) (fun c8 => ?_)
    · replace hf := ifp c8 hf
      refine lv_iload_n hx hb dX5_nearMinutes_39 rfl (lv_at hl 2 rfl) ?_
      exact retI C X hr rfl (so2 hf).1 (so2 hf).2 rfl dX5_nearMinutes_40
    · replace hf := ifn c8 hf
      refine lv_aload_n hx hb dX5_nearMinutes_11 rfl (lv_at hl 0 rfl) ?_
      refine lv_iload_n hx hb dX5_nearMinutes_12 rfl (lv_at hl 3 rfl) ?_
      refine lv_iconst (v := 0) hx hb dX5_nearMinutes_13 (by decide) ?_
      obtain ⟨r14, g14, hf⟩ := bd1_e hf
      refine qX5_207 g14 C X hl.1 ((Nat.le_of_ble_eq_true rfl)) ⟨(Nat.le_of_ble_eq_true rfl), (Nat.le_of_ble_eq_true rfl)⟩ ⟨Nat.zero_le _, Nat.zero_le _⟩ dX5_nearMinutes_14 (fun H locs X b14 => ?_)
      refine rAbs C k_490 hl.1 (Nat.le_of_ble_eq_true rfl) (Nat.le_of_ble_eq_true rfl) ⟨Nat.zero_le _, Nat.zero_le _⟩ dX5_nearMinutes_17 ?_
      refine lv_aload_n hx hb dX5_nearMinutes_20 rfl (lv_at hl 0 rfl) ?_
      refine lv_iconst (v := 0) hx hb dX5_nearMinutes_21 (by decide) ?_
      refine lv_iload_n hx hb dX5_nearMinutes_22 rfl (lv_at hl 1 rfl) ?_
      refine lv_iload_n hx hb dX5_nearMinutes_23 rfl (lv_at hl 3 rfl) ?_
      obtain ⟨r24, μ24, g24, hf⟩ := bd2_e hf
      refine qX5_164 g24 C X hl.1 ((Nat.le_of_ble_eq_true rfl)) ⟨(Nat.le_of_ble_eq_true rfl), (Nat.le_of_ble_eq_true rfl)⟩ ⟨Nat.zero_le _, Nat.zero_le _⟩ dX5_nearMinutes_24 (fun H locs X b24 => ?_)
      refine lv_icmp_gt (tgt := 33) hx hb dX5_nearMinutes_27 (by decide) (fun c27 => ?_) (fun c27 => ?_)
      · replace hf := ifp c27 hf
        obtain ⟨v33, e33, hf⟩ := nm_e2 hf
        refine rIinc (lv' := [(3, .int v33), (0, .ref (ad 0)), (1, .int x1), (2, .int x2)]) hx hb dX5_nearMinutes_33 hl (k := 3) rfl e33 rfl (by decide) rfl (fun ls hl => ?_)
        refine lv_goto (tgt := 4) hx hb dX5_nearMinutes_36 (by decide) ?_
        exact ih μ24 x1 x2 v33 hf _ _ X _ (lv_sub hl [1, 2, 3, 0] rfl)
      · replace hf := ifn c27 hf
        obtain ⟨v30, e30, hf⟩ := nm_e2 hf
        refine rIinc (lv' := [(2, .int v30), (0, .ref (ad 0)), (1, .int x1), (3, .int x3)]) hx hb dX5_nearMinutes_30 hl (k := 2) rfl e30 rfl (by decide) rfl (fun ls hl => ?_)
        obtain ⟨v33, e33, hf⟩ := nm_e2 hf
        refine rIinc (lv' := [(3, .int v33), (2, .int v30), (0, .ref (ad 0)), (1, .int x1)]) hx hb dX5_nearMinutes_33 hl (k := 3) rfl e33 rfl (by decide) rfl (fun ls hl => ?_)
        refine lv_goto (tgt := 4) hx hb dX5_nearMinutes_36 (by decide) ?_
        exact ih μ24 x1 v30 v33 hf _ _ X _ (lv_sub hl [2, 3, 1, 0] rfl)
set_option maxRecDepth 100000 in
set_option maxHeartbeats 4000000 in
theorem w5_nearMinutes {p : Program} {l : Launch} {e : Env} {s : State} {m : MethodId} {args : Array Value} {below : List Frame} {meth : Method} {c : Code} {D : va_G} {cy : Nat → ClassId} {ad : Nat → Nat} {r : Int32} {μ1 : Mem} {ν : Lem} (C : Cx true p s m args meth c cX5_nearMinutes 4 RX5 D cy ad) (hr : meth.sig.returnType = some .int) : ∀ (μ : Mem) (x1 : Int32), f5_nearMinutes μ x1 = some (r, μ1) → ∀ (H : Heap) (locs : List Loc), Wd true D cy ad s.heap μ ν H locs → ∀ (ls : Array Slot), lv_has ls 4 [(0, .ref (ad 0)), (1, .int x1)] → WI true p l e 5 118 s m args below meth c D cy ad .int r μ1 ν H locs (F0 m 0 ls []) := by
  have hx := C.1.1
  have hb := C.1.2.1
  have hown := C.1.2.2.2.1
  have hts := C.1.2.2.2.2
  intro μ x1 hf H locs X ls hl
  unfold f5_nearMinutes at hf
  refine lv_iconst (v := 0) hx hb dX5_nearMinutes_0 (by decide) ?_
  refine lv_istore_n (lv' := [(2, .int 0), (0, .ref (ad 0)), (1, .int x1)]) hx hb dX5_nearMinutes_1 rfl hl (by decide) rfl (fun ls hl => ?_)
  refine lv_iconst (v := 0) hx hb dX5_nearMinutes_2 (by decide) ?_
  refine lv_istore_n (lv' := [(3, .int 0), (2, .int 0), (0, .ref (ad 0)), (1, .int x1)]) hx hb dX5_nearMinutes_3 rfl hl (by decide) rfl (fun ls hl => ?_)
  exact w5_nearMinutes_1 C hr  FUEL μ x1 0 0 hf _ _ X _ (lv_sub hl [2, 3, 1, 0] rfl)
theorem ct5_nearMinutes {x1 : Int32} {μ : Mem} {ν : Lem} {r : Int32} {μ1 : Mem} (hg : f5_nearMinutes μ x1 = some (r, μ1)) : CtI true yX5_nearMinutes cX5_nearMinutes 4 5 118 .int (fun ad => [.ref (ad 0), .int x1]) μ ν r μ1 ν :=
  mkI (by decide) rfl (fun ad => Nat.le_of_ble_eq_true rfl) (fun p l e s m args below meth c D cy ad C hr X ls hl => w5_nearMinutes C hr μ x1 hg _ _ X _ hl)
theorem qX5_214 {p : Program} {l : Launch} {e : Env} {R : Room} {s : State} {m : MethodId} {args : Array Value} {below : List Frame} {meth : Method} {c : Code} {H : Heap} {locs : List Loc} {cells slots : Nat} {Q : State → Prop} {A : Nat → Prop} {cc : ByteArray} {nL : Nat} {D : va_G} {cy : Nat → ClassId} {ad : Nat → Nat} {μ : Mem} {ν : Lem} {pc : Nat} {ls : Array Slot} {rest : List Value} {x1 : Int32} {r : Int32} {μ1 : Mem} (hg : f5_nearMinutes μ x1 = some (r, μ1)) (C : CxA true A p s m args meth c cc nL RX5 D cy ad) (X : WdA true A D cy ad s.heap μ ν H locs) (hsz : ls.size = nL) (hrm : (rest.map fun v => v.category).sum ≤ 8) (hR : 5 + 1 ≤ R.frames ∧ 8 + (4 + 11) + 118 ≤ R.locals) (hcs : cells ≤ R.cells ∧ slots ≤ R.slots) (hd : decode cc pc = .ok (.invokevirtual 214, 3)) (kk : ∀ (H1 : Heap) (locs1 : List Loc), WdA true A D cy ad s.heap μ1 ν H1 locs1 → narrow .int (.int r) = .int r → W p l e R s m args below meth c H1 locs1 cells slots Q (F0 m (pc + 3) ls (.int r :: rest))) : W p l e R s m args below meth c H locs cells slots Q (F0 m pc ls (.int x1 :: .ref (ad 0) :: rest)) :=
  rCVI (As := [.int x1]) (k := 0) (ct5_nearMinutes hg) ok5 lX5_nearMinutes k_596 rfl rfl rfl C X rfl hrm hsz hR hcs hd kk
set_option maxRecDepth 100000 in
set_option maxHeartbeats 4000000 in
theorem w5_farthestMinute_1 {p : Program} {l : Launch} {e : Env} {s : State} {m : MethodId} {args : Array Value} {below : List Frame} {meth : Method} {c : Code} {D : va_G} {cy : Nat → ClassId} {ad : Nat → Nat} {r : Int32} {μ : Mem} {ν : Lem} (C : Cx true p s m args meth c cX5_farthestMinute 5 RX5 D cy ad) (hr : meth.sig.returnType = some .int) : ∀ (n : Nat), ∀ (x1 : Int32) (x2 : Int32) (x3 : Int32), f5_farthestMinute_1 μ n x1 x2 x3 = some r → ∀ (H : Heap) (locs : List Loc), Wd true D cy ad s.heap μ ν H locs → ∀ (ls : Array Slot), lv_has ls 5 [(0, .ref (ad 0)), (1, .int x1), (2, .int x2), (3, .int x3)] → WI true p l e 2 43 s m args below meth c D cy ad .int r μ ν H locs (F0 m 14 ls []) := by
  have hx := C.1.1
  have hb := C.1.2.1
  have hown := C.1.2.2.2.1
  have hts := C.1.2.2.2.2
  intro n
  induction n with
  | zero =>
    intro x1 x2 x3 hf H locs X ls hl
    rw [f5_farthestMinute_1] at hf
    cases hf
  | succ n ih =>
    intro x1 x2 x3 hf H locs X ls hl
    rw [f5_farthestMinute_1] at hf
    refine lv_iload_n hx hb dX5_farthestMinute_14 rfl (lv_at hl 3 rfl) ?_
    refine lv_sipush (v := 600) hx hb dX5_farthestMinute_15 (by decide) ?_
    refine lv_icmp_gt (tgt := 49) hx hb dX5_farthestMinute_18 (by decide) (fun c18 => ?_) (fun c18 => ?_)
    · replace hf := ifp c18 hf
      refine lv_iload_n hx hb dX5_farthestMinute_49 rfl (lv_at hl 1 rfl) ?_
      exact retI C X hr rfl (Option.some.inj hf) rfl rfl dX5_farthestMinute_50
    · replace hf := ifn c18 hf
      refine lv_aload_n hx hb dX5_farthestMinute_21 rfl (lv_at hl 0 rfl) ?_
      refine lv_iload_n hx hb dX5_farthestMinute_22 rfl (lv_at hl 3 rfl) ?_
      refine lv_iconst (v := 0) hx hb dX5_farthestMinute_23 (by decide) ?_
      obtain ⟨r24, g24, hf⟩ := bd1_e hf
      refine qX5_207 g24 C X hl.1 ((Nat.le_of_ble_eq_true rfl)) ⟨(Nat.le_of_ble_eq_true rfl), (Nat.le_of_ble_eq_true rfl)⟩ ⟨Nat.zero_le _, Nat.zero_le _⟩ dX5_farthestMinute_24 (fun H locs X b24 => ?_)
      refine rAbs C k_490 hl.1 (Nat.le_of_ble_eq_true rfl) (Nat.le_of_ble_eq_true rfl) ⟨Nat.zero_le _, Nat.zero_le _⟩ dX5_farthestMinute_27 ?_
      obtain ⟨v30, e30, hf⟩ := nm_e2 hf
      refine st_i e30 ?_
      refine lv_istore (lv' := [(4, .int v30), (0, .ref (ad 0)), (1, .int x1), (2, .int x2), (3, .int x3)]) hx hb dX5_farthestMinute_30 hl (by decide) rfl (fun ls hl => ?_)
      refine lv_iload hx hb dX5_farthestMinute_32 (lv_at hl 0 rfl) ?_
      refine lv_iload_n hx hb dX5_farthestMinute_34 rfl (lv_at hl 3 rfl) ?_
      refine lv_icmp_le (tgt := 43) hx hb dX5_farthestMinute_35 (by decide) (fun c35 => ?_) (fun c35 => ?_)
      · replace hf := ifp c35 hf
        obtain ⟨v43, e43, hf⟩ := nm_e2 hf
        refine rIinc (lv' := [(3, .int v43), (4, .int v30), (0, .ref (ad 0)), (1, .int x1), (2, .int x2)]) hx hb dX5_farthestMinute_43 hl (k := 4) rfl e43 rfl (by decide) rfl (fun ls hl => ?_)
        refine lv_goto (tgt := 14) hx hb dX5_farthestMinute_46 (by decide) ?_
        exact ih x1 x2 v43 hf _ _ X _ (lv_sub hl [2, 3, 4, 0] rfl)
      · replace hf := ifn c35 hf
        refine lv_iload hx hb dX5_farthestMinute_38 (lv_at hl 0 rfl) ?_
        refine lv_istore_n (lv' := [(2, .int v30), (4, .int v30), (0, .ref (ad 0)), (1, .int x1), (3, .int x3)]) hx hb dX5_farthestMinute_40 rfl hl (by decide) rfl (fun ls hl => ?_)
        refine lv_iload_n hx hb dX5_farthestMinute_41 rfl (lv_at hl 4 rfl) ?_
        refine lv_istore_n (lv' := [(1, .int x3), (2, .int v30), (4, .int v30), (0, .ref (ad 0)), (3, .int x3)]) hx hb dX5_farthestMinute_42 rfl hl (by decide) rfl (fun ls hl => ?_)
        obtain ⟨v43, e43, hf⟩ := nm_e2 hf
        refine rIinc (lv' := [(3, .int v43), (1, .int x3), (2, .int v30), (4, .int v30), (0, .ref (ad 0))]) hx hb dX5_farthestMinute_43 hl (k := 4) rfl e43 rfl (by decide) rfl (fun ls hl => ?_)
        refine lv_goto (tgt := 14) hx hb dX5_farthestMinute_46 (by decide) ?_
        exact ih x3 v30 v43 hf _ _ X _ (lv_sub hl [4, 1, 2, 0] rfl)
set_option maxRecDepth 100000 in
set_option maxHeartbeats 4000000 in
theorem w5_farthestMinute {p : Program} {l : Launch} {e : Env} {s : State} {m : MethodId} {args : Array Value} {below : List Frame} {meth : Method} {c : Code} {D : va_G} {cy : Nat → ClassId} {ad : Nat → Nat} {r : Int32} {μ : Mem} {ν : Lem} (C : Cx true p s m args meth c cX5_farthestMinute 5 RX5 D cy ad) (hr : meth.sig.returnType = some .int) : f5_farthestMinute μ = some r → ∀ (H : Heap) (locs : List Loc), Wd true D cy ad s.heap μ ν H locs → ∀ (ls : Array Slot), lv_has ls 5 [(0, .ref (ad 0))] → WI true p l e 2 43 s m args below meth c D cy ad .int r μ ν H locs (F0 m 0 ls []) := by
  have hx := C.1.1
  have hb := C.1.2.1
  have hown := C.1.2.2.2.1
  have hts := C.1.2.2.2.2
  intro hf H locs X ls hl
  unfold f5_farthestMinute at hf
  refine lv_iconst (v := 0) hx hb dX5_farthestMinute_0 (by decide) ?_
  refine lv_istore_n (lv' := [(1, .int 0), (0, .ref (ad 0))]) hx hb dX5_farthestMinute_1 rfl hl (by decide) rfl (fun ls hl => ?_)
  refine lv_aload_n hx hb dX5_farthestMinute_2 rfl (lv_at hl 1 rfl) ?_
  refine lv_iconst (v := 0) hx hb dX5_farthestMinute_3 (by decide) ?_
  refine lv_iconst (v := 0) hx hb dX5_farthestMinute_4 (by decide) ?_
  obtain ⟨r5, g5, hf⟩ := bd1_e hf
  refine qX5_207 g5 C X hl.1 ((Nat.le_of_ble_eq_true rfl)) ⟨(Nat.le_of_ble_eq_true rfl), (Nat.le_of_ble_eq_true rfl)⟩ ⟨Nat.zero_le _, Nat.zero_le _⟩ dX5_farthestMinute_5 (fun H locs X b5 => ?_)
  refine rAbs C k_490 hl.1 (Nat.le_of_ble_eq_true rfl) (Nat.le_of_ble_eq_true rfl) ⟨Nat.zero_le _, Nat.zero_le _⟩ dX5_farthestMinute_8 ?_
  obtain ⟨v11, e11, hf⟩ := nm_e2 hf
  refine st_i e11 ?_
  refine lv_istore_n (lv' := [(2, .int v11), (1, .int 0), (0, .ref (ad 0))]) hx hb dX5_farthestMinute_11 rfl hl (by decide) rfl (fun ls hl => ?_)
  refine lv_iconst (v := 1) hx hb dX5_farthestMinute_12 (by decide) ?_
  refine lv_istore_n (lv' := [(3, .int 1), (2, .int v11), (1, .int 0), (0, .ref (ad 0))]) hx hb dX5_farthestMinute_13 rfl hl (by decide) rfl (fun ls hl => ?_)
  exact w5_farthestMinute_1 C hr  FUEL 0 v11 1 hf _ _ X _ (lv_sub hl [3, 2, 1, 0] rfl)
theorem ct5_farthestMinute {μ : Mem} {ν : Lem} {r : Int32} (hg : f5_farthestMinute μ = some r) : CtI true yX5_farthestMinute cX5_farthestMinute 5 2 43 .int (fun ad => [.ref (ad 0)]) μ ν r μ ν :=
  mkI (by decide) rfl (fun ad => Nat.le_of_ble_eq_true rfl) (fun p l e s m args below meth c D cy ad C hr X ls hl => w5_farthestMinute C hr hg _ _ X _ hl)
theorem qX5_217 {p : Program} {l : Launch} {e : Env} {R : Room} {s : State} {m : MethodId} {args : Array Value} {below : List Frame} {meth : Method} {c : Code} {H : Heap} {locs : List Loc} {cells slots : Nat} {Q : State → Prop} {A : Nat → Prop} {cc : ByteArray} {nL : Nat} {D : va_G} {cy : Nat → ClassId} {ad : Nat → Nat} {μ : Mem} {ν : Lem} {pc : Nat} {ls : Array Slot} {rest : List Value} {r : Int32} (hg : f5_farthestMinute μ = some r) (C : CxA true A p s m args meth c cc nL RX5 D cy ad) (X : WdA true A D cy ad s.heap μ ν H locs) (hsz : ls.size = nL) (hrm : (rest.map fun v => v.category).sum ≤ 8) (hR : 2 + 1 ≤ R.frames ∧ 8 + (5 + 11) + 43 ≤ R.locals) (hcs : cells ≤ R.cells ∧ slots ≤ R.slots) (hd : decode cc pc = .ok (.invokevirtual 217, 3)) (kk : ∀ (H1 : Heap) (locs1 : List Loc), WdA true A D cy ad s.heap μ ν H1 locs1 → narrow .int (.int r) = .int r → W p l e R s m args below meth c H1 locs1 cells slots Q (F0 m (pc + 3) ls (.int r :: rest))) : W p l e R s m args below meth c H locs cells slots Q (F0 m pc ls (.ref (ad 0) :: rest)) :=
  rCVI (As := []) (k := 0) (ct5_farthestMinute hg) ok5 lX5_farthestMinute k_600 rfl rfl rfl C X rfl hrm hsz hR hcs hd kk
set_option maxRecDepth 100000 in
set_option maxHeartbeats 4000000 in
theorem w5_apart {p : Program} {l : Launch} {e : Env} {s : State} {m : MethodId} {args : Array Value} {below : List Frame} {meth : Method} {c : Code} {D : va_G} {cy : Nat → ClassId} {ad : Nat → Nat} {r : Int32} {μ1 : Mem} {ν : Lem} (C : Cx true p s m args meth c cX5_apart 5 RX5 D cy ad) (hr : meth.sig.returnType = some .int) : ∀ (μ : Mem) (x1 : Int32) (x2 : Int32) (x3 : Int32), f5_apart μ x1 x2 x3 = some (r, μ1) → ∀ (H : Heap) (locs : List Loc), Wd true D cy ad s.heap μ ν H locs → ∀ (ls : Array Slot), lv_has ls 5 [(0, .ref (ad 0)), (1, .int x1), (2, .int x2), (3, .int x3)] → WI true p l e 6 141 s m args below meth c D cy ad .int r μ1 ν H locs (F0 m 0 ls []) := by
  have hx := C.1.1
  have hb := C.1.2.1
  have hown := C.1.2.2.2.1
  have hts := C.1.2.2.2.2
  intro μ x1 x2 x3 hf H locs X ls hl
  unfold f5_apart at hf
  refine lv_aload_n hx hb dX5_apart_0 rfl (lv_at hl 0 rfl) ?_
  refine lv_iload_n hx hb dX5_apart_1 rfl (lv_at hl 1 rfl) ?_
  refine lv_iload_n hx hb dX5_apart_2 rfl (lv_at hl 2 rfl) ?_
  refine qX5_186 rfl C X hl.1 ((Nat.le_of_ble_eq_true rfl)) ⟨(Nat.le_of_ble_eq_true rfl), (Nat.le_of_ble_eq_true rfl)⟩ ⟨Nat.zero_le _, Nat.zero_le _⟩ dX5_apart_3 (fun H locs X b3 => ?_)
  refine lv_if_eq (tgt := 18) hx hb dX5_apart_6 (by decide) (fun c6 => ?_) (fun c6 => ?_)
  · replace hf := ifp c6 hf
    refine lv_bipush (v := (-2)) hx hb dX5_apart_18 (by decide) ?_
    exact retI C X hr rfl (so2 hf).1 (so2 hf).2 rfl dX5_apart_20
  · replace hf := ifn c6 hf
    refine lv_iload_n hx hb dX5_apart_9 rfl (lv_at hl 3 rfl) ?_
    refine lv_if_lt (tgt := 18) hx hb dX5_apart_10 (by decide) (fun c10 => ?_) (fun c10 => ?_)
    · replace hf := ifp c10 hf
      refine lv_bipush (v := (-2)) hx hb dX5_apart_18 (by decide) ?_
      exact retI C X hr rfl (so2 hf).1 (so2 hf).2 rfl dX5_apart_20
    · replace hf := ifn c10 hf
      refine lv_iload_n hx hb dX5_apart_13 rfl (lv_at hl 3 rfl) ?_
      refine lv_iconst (v := 2) hx hb dX5_apart_14 (by decide) ?_
      refine lv_icmp_le (tgt := 21) hx hb dX5_apart_15 (by decide) (fun c15 => ?_) (fun c15 => ?_)
      · replace hf := ifp c15 hf
        refine lv_aload_n hx hb dX5_apart_21 rfl (lv_at hl 0 rfl) ?_
        refine lv_iload_n hx hb dX5_apart_22 rfl (lv_at hl 1 rfl) ?_
        refine lv_iload_n hx hb dX5_apart_23 rfl (lv_at hl 2 rfl) ?_
        obtain ⟨μ24, g24, hf⟩ := bd1_e hf
        refine qX5_190 g24 C X hl.1 ((Nat.le_of_ble_eq_true rfl)) ⟨(Nat.le_of_ble_eq_true rfl), (Nat.le_of_ble_eq_true rfl)⟩ ⟨Nat.zero_le _, Nat.zero_le _⟩ dX5_apart_24 (fun H locs X => ?_)
        refine lv_iload_n hx hb dX5_apart_27 rfl (lv_at hl 3 rfl) ?_
        refine lv_iconst (v := 2) hx hb dX5_apart_28 (by decide) ?_
        refine lv_icmp_ne (tgt := 38) hx hb dX5_apart_29 (by decide) (fun c29 => ?_) (fun c29 => ?_)
        · replace hf := ifn c29 hf
          refine lv_aload_n hx hb dX5_apart_38 rfl (lv_at hl 0 rfl) ?_
          obtain ⟨r39, g39, hf⟩ := bd1_e hf
          refine qX5_217 g39 C X hl.1 ((Nat.le_of_ble_eq_true rfl)) ⟨(Nat.le_of_ble_eq_true rfl), (Nat.le_of_ble_eq_true rfl)⟩ ⟨Nat.zero_le _, Nat.zero_le _⟩ dX5_apart_39 (fun H locs X b39 => ?_)
          refine lv_istore (lv' := [(4, .int r39), (0, .ref (ad 0)), (1, .int x1), (2, .int x2), (3, .int x3)]) hx hb dX5_apart_42 hl (by decide) rfl (fun ls hl => ?_)
          refine lv_iload_n hx hb dX5_apart_44 rfl (lv_at hl 4 rfl) ?_
          refine lv_iconst (v := 1) hx hb dX5_apart_45 (by decide) ?_
          refine lv_icmp_ne (tgt := 54) hx hb dX5_apart_46 (by decide) (fun c46 => ?_) (fun c46 => ?_)
          · replace hf := ifn c46 hf
            refine lv_aload_n hx hb dX5_apart_54 rfl (lv_at hl 1 rfl) ?_
            refine lv_iload hx hb dX5_apart_55 (lv_at hl 0 rfl) ?_
            refine lv_iconst (v := 0) hx hb dX5_apart_57 (by decide) ?_
            obtain ⟨r58, g58, hf⟩ := bd1_e hf
            refine qX5_207 g58 C X hl.1 ((Nat.le_of_ble_eq_true rfl)) ⟨(Nat.le_of_ble_eq_true rfl), (Nat.le_of_ble_eq_true rfl)⟩ ⟨Nat.zero_le _, Nat.zero_le _⟩ dX5_apart_58 (fun H locs X b58 => ?_)
            refine rAbs C k_490 hl.1 (Nat.le_of_ble_eq_true rfl) (Nat.le_of_ble_eq_true rfl) ⟨Nat.zero_le _, Nat.zero_le _⟩ dX5_apart_61 ?_
            exact retI C X hr rfl (so2 hf).1 (so2 hf).2 rfl dX5_apart_64
          · replace hf := ifp c46 hf
            refine lv_iload hx hb dX5_apart_49 (lv_at hl 0 rfl) ?_
            refine lv_goto (tgt := 64) hx hb dX5_apart_51 (by decide) ?_
            exact retI C X hr rfl (so2 hf).1 (so2 hf).2 rfl dX5_apart_64
        · replace hf := ifp c29 hf
          refine lv_aload_n hx hb dX5_apart_32 rfl (lv_at hl 0 rfl) ?_
          refine lv_iload_n hx hb dX5_apart_33 rfl (lv_at hl 1 rfl) ?_
          obtain ⟨r34, μ34, g34, hf⟩ := bd2_e hf
          refine qX5_214 g34 C X hl.1 ((Nat.le_of_ble_eq_true rfl)) ⟨(Nat.le_of_ble_eq_true rfl), (Nat.le_of_ble_eq_true rfl)⟩ ⟨Nat.zero_le _, Nat.zero_le _⟩ dX5_apart_34 (fun H locs X b34 => ?_)
          exact retI C X hr rfl (so2 hf).1 (so2 hf).2 rfl dX5_apart_37
      · replace hf := ifn c15 hf
        refine lv_bipush (v := (-2)) hx hb dX5_apart_18 (by decide) ?_
        exact retI C X hr rfl (so2 hf).1 (so2 hf).2 rfl dX5_apart_20
theorem ct5_apart {x1 : Int32} {x2 : Int32} {x3 : Int32} {μ : Mem} {ν : Lem} {r : Int32} {μ1 : Mem} (hg : f5_apart μ x1 x2 x3 = some (r, μ1)) : CtI true yX5_apart cX5_apart 5 6 141 .int (fun ad => [.ref (ad 0), .int x1, .int x2, .int x3]) μ ν r μ1 ν :=
  mkI (by decide) rfl (fun ad => Nat.le_of_ble_eq_true rfl) (fun p l e s m args below meth c D cy ad C hr X ls hl => w5_apart C hr μ x1 x2 x3 hg _ _ X _ hl)
theorem qL_82 {p : Program} {l : Launch} {e : Env} {R : Room} {s : State} {m : MethodId} {args : Array Value} {below : List Frame} {meth : Method} {c : Code} {H : Heap} {locs : List Loc} {cells slots : Nat} {Q : State → Prop} {A : Nat → Prop} {cc : ByteArray} {nL : Nat} {D : va_G} {cy : Nat → ClassId} {ad : Nat → Nat} {μ : Mem} {ν : Lem} {pc : Nat} {ls : Array Slot} {rest : List Value} {x1 : Int32} {x2 : Int32} {x3 : Int32} {r : Int32} {μ1 : Mem} (hg : f5_apart μ x1 x2 x3 = some (r, μ1)) (C : CxA true A p s m args meth c cc nL RL D cy ad) (X : WdA true A D cy ad s.heap μ ν H locs) (hsz : ls.size = nL) (hrm : (rest.map fun v => v.category).sum ≤ 8) (hR : 6 + 1 ≤ R.frames ∧ 8 + (5 + 11) + 141 ≤ R.locals) (hcs : cells ≤ R.cells ∧ slots ≤ R.slots) (hd : decode cc pc = .ok (.invokevirtual 82, 3)) (kk : ∀ (H1 : Heap) (locs1 : List Loc), WdA true A D cy ad s.heap μ1 ν H1 locs1 → narrow .int (.int r) = .int r → W p l e R s m args below meth c H1 locs1 cells slots Q (F0 m (pc + 3) ls (.int r :: rest))) : W p l e R s m args below meth c H locs cells slots Q (F0 m pc ls (.int x3 :: .int x2 :: .int x1 :: .ref (ad 0) :: rest)) :=
  rCVI (As := [.int x1, .int x2, .int x3]) (k := 0) (ct5_apart hg) ok5 lX5_apart k_592 rfl rfl rfl C X rfl hrm hsz hR hcs hd kk
set_option maxRecDepth 100000 in
set_option maxHeartbeats 4000000 in
theorem w5_isSheet {p : Program} {l : Launch} {e : Env} {s : State} {m : MethodId} {args : Array Value} {below : List Frame} {meth : Method} {c : Code} {D : va_G} {cy : Nat → ClassId} {ad : Nat → Nat} {r : Int32} {μ : Mem} {ν : Lem} (C : Cx true p s m args meth c cX5_isSheet 1 RX5 D cy ad) (hr : meth.sig.returnType = some .boolean) : ∀ (x0 : Int32), f5_isSheet x0 = r → ∀ (H : Heap) (locs : List Loc), Wd true D cy ad s.heap μ ν H locs → ∀ (ls : Array Slot), lv_has ls 1 [(0, .int x0)] → WI true p l e 0 0 s m args below meth c D cy ad .boolean r μ ν H locs (F0 m 0 ls []) := by
  have hx := C.1.1
  have hb := C.1.2.1
  have hown := C.1.2.2.2.1
  have hts := C.1.2.2.2.2
  intro x0 hf H locs X ls hl
  unfold f5_isSheet at hf
  refine lv_iload_n hx hb dX5_isSheet_0 rfl (lv_at hl 0 rfl) ?_
  refine lv_if_lt (tgt := 13) hx hb dX5_isSheet_1 (by decide) (fun c1 => ?_) (fun c1 => ?_)
  · replace hf := ifp c1 hf
    refine lv_iconst (v := 0) hx hb dX5_isSheet_13 (by decide) ?_
    exact retI C X hr rfl hf rfl rfl dX5_isSheet_14
  · replace hf := ifn c1 hf
    refine lv_iload_n hx hb dX5_isSheet_4 rfl (lv_at hl 0 rfl) ?_
    refine lv_iconst (v := 4) hx hb dX5_isSheet_5 (by decide) ?_
    refine lv_icmp_ge (tgt := 13) hx hb dX5_isSheet_6 (by decide) (fun c6 => ?_) (fun c6 => ?_)
    · replace hf := ifp c6 hf
      refine lv_iconst (v := 0) hx hb dX5_isSheet_13 (by decide) ?_
      exact retI C X hr rfl hf rfl rfl dX5_isSheet_14
    · replace hf := ifn c6 hf
      refine lv_iconst (v := 1) hx hb dX5_isSheet_9 (by decide) ?_
      refine lv_goto (tgt := 14) hx hb dX5_isSheet_10 (by decide) ?_
      exact retI C X hr rfl hf rfl rfl dX5_isSheet_14
theorem ct5_isSheet {x0 : Int32} {μ : Mem} {ν : Lem} {r : Int32} (hg : f5_isSheet x0 = r) : CtI true yX5_isSheet cX5_isSheet 1 0 0 .boolean (fun ad => [.int x0]) μ ν r μ ν :=
  mkI (by decide) rfl (fun ad => Nat.le_of_ble_eq_true rfl) (fun p l e s m args below meth c D cy ad C hr X ls hl => w5_isSheet C hr x0 hg _ _ X _ hl)
theorem qX5_227 {p : Program} {l : Launch} {e : Env} {R : Room} {s : State} {m : MethodId} {args : Array Value} {below : List Frame} {meth : Method} {c : Code} {H : Heap} {locs : List Loc} {cells slots : Nat} {Q : State → Prop} {A : Nat → Prop} {cc : ByteArray} {nL : Nat} {D : va_G} {cy : Nat → ClassId} {ad : Nat → Nat} {μ : Mem} {ν : Lem} {pc : Nat} {ls : Array Slot} {rest : List Value} {x0 : Int32} {r : Int32} (hg : f5_isSheet x0 = r) (C : CxA true A p s m args meth c cc nL RX5 D cy ad) (X : WdA true A D cy ad s.heap μ ν H locs) (hsz : ls.size = nL) (hrm : (rest.map fun v => v.category).sum ≤ 8) (hR : 0 + 1 ≤ R.frames ∧ 8 + (1 + 11) + 0 ≤ R.locals) (hcs : cells ≤ R.cells ∧ slots ≤ R.slots) (hd : decode cc pc = .ok (.invokestatic 227, 3)) (kk : ∀ (H1 : Heap) (locs1 : List Loc), WdA true A D cy ad s.heap μ ν H1 locs1 → narrow .boolean (.int r) = .int r → W p l e R s m args below meth c H1 locs1 cells slots Q (F0 m (pc + 3) ls (.int r :: rest))) : W p l e R s m args below meth c H locs cells slots Q (F0 m pc ls (.int x0 :: rest)) :=
  rCSI (As := [.int x0]) (ct5_isSheet hg) lX5_isSheet k_608 rfl rfl C X rfl hrm hsz hR hcs hd kk
set_option maxRecDepth 100000 in
set_option maxHeartbeats 4000000 in
theorem w5_areNotes_1 {p : Program} {l : Launch} {e : Env} {s : State} {m : MethodId} {args : Array Value} {below : List Frame} {meth : Method} {c : Code} {D : va_G} {cy : Nat → ClassId} {ad : Nat → Nat} {r : Int32} {μ : Mem} {ν : Lem} (C : Cx true p s m args meth c cX5_areNotes 2 RX5 D cy ad) (hr : meth.sig.returnType = some .boolean) : ∀ (n : Nat), ∀ (x0 : Nat) (x1 : Int32) (hx0 : x0 < 4), f5_areNotes_1 μ n x0 x1 = some r → ∀ (H : Heap) (locs : List Loc), Wd true D cy ad s.heap μ ν H locs → ∀ (ls : Array Slot), lv_has ls 2 [(0, .ref (ad (71 + 2 * x0))), (1, .int x1)] → WI true p l e 1 20 s m args below meth c D cy ad .boolean r μ ν H locs (F0 m 13 ls []) := by
  have hx := C.1.1
  have hb := C.1.2.1
  have hown := C.1.2.2.2.1
  have hts := C.1.2.2.2.2
  intro n
  induction n with
  | zero =>
    intro x0 x1 hx0 hf H locs X ls hl
    rw [f5_areNotes_1] at hf
    cases hf
  | succ n ih =>
    intro x0 x1 hx0 hf H locs X ls hl
    rw [f5_areNotes_1] at hf
    refine lv_iload_n hx hb dX5_areNotes_13 rfl (lv_at hl 1 rfl) ?_
    refine lv_aload_n hx hb dX5_areNotes_14 rfl (lv_at hl 0 rfl) ?_
    refine gfX5_242 (q := x0) hx0 rfl C X dX5_areNotes_15 ?_
    refine lv_icmp_ge (tgt := 41) hx hb dX5_areNotes_18 (by decide) (fun c18 => ?_) (fun c18 => ?_)
    · replace hf := ifp c18 hf
      refine lv_iconst (v := 1) hx hb dX5_areNotes_41 (by decide) ?_
      exact retI C X hr rfl (Option.some.inj hf) rfl rfl dX5_areNotes_42
    · replace hf := ifn c18 hf
      refine lv_aload_n hx hb dX5_areNotes_21 rfl (lv_at hl 0 rfl) ?_
      refine gfX5_243 (q := x0) hx0 rfl (k2 := (72 + 2 * x0)) rfl C X dX5_areNotes_22 ?_
      refine lv_iload_n hx hb dX5_areNotes_25 rfl (lv_at hl 1 rfl) ?_
      obtain ⟨h26, hf⟩ := gd_e hf
      refine rIald C X (sSi hx0) h26 dX5_areNotes_26 ?_
      refine qX5_113 rfl C X hl.1 ((Nat.le_of_ble_eq_true rfl)) ⟨(Nat.le_of_ble_eq_true rfl), (Nat.le_of_ble_eq_true rfl)⟩ ⟨Nat.zero_le _, Nat.zero_le _⟩ dX5_areNotes_27 (fun H locs X b27 => ?_)
      refine lv_if_ne (tgt := 35) hx hb dX5_areNotes_30 (by decide) (fun c30 => ?_) (fun c30 => ?_)
      · replace hf := ifn c30 hf
        obtain ⟨v35, e35, hf⟩ := nm_e2 hf
        refine rIinc (lv' := [(1, .int v35), (0, .ref (ad (71 + 2 * x0)))]) hx hb dX5_areNotes_35 hl (k := 1) rfl e35 rfl (by decide) rfl (fun ls hl => ?_)
        refine lv_goto (tgt := 13) hx hb dX5_areNotes_38 (by decide) ?_
        exact ih x0 v35 hx0 hf _ _ X _ (lv_sub hl [1, 0] rfl)
      · replace hf := ifp c30 hf
        refine lv_iconst (v := 0) hx hb dX5_areNotes_33 (by decide) ?_
        exact retI C X hr rfl (Option.some.inj hf) rfl rfl dX5_areNotes_34
set_option maxRecDepth 100000 in
set_option maxHeartbeats 4000000 in
theorem w5_areNotes {p : Program} {l : Launch} {e : Env} {s : State} {m : MethodId} {args : Array Value} {below : List Frame} {meth : Method} {c : Code} {D : va_G} {cy : Nat → ClassId} {ad : Nat → Nat} {r : Int32} {μ : Mem} {ν : Lem} (C : Cx true p s m args meth c cX5_areNotes 2 RX5 D cy ad) (hr : meth.sig.returnType = some .boolean) : ∀ (x0 : Nat) (hx0 : x0 < 4), f5_areNotes μ x0 = some r → ∀ (H : Heap) (locs : List Loc), Wd true D cy ad s.heap μ ν H locs → ∀ (ls : Array Slot), lv_has ls 2 [(0, .ref (ad (71 + 2 * x0)))] → WI true p l e 1 20 s m args below meth c D cy ad .boolean r μ ν H locs (F0 m 0 ls []) := by
  have hx := C.1.1
  have hb := C.1.2.1
  have hown := C.1.2.2.2.1
  have hts := C.1.2.2.2.2
  intro x0 hx0 hf H locs X ls hl
  unfold f5_areNotes at hf
  refine lv_aload_n hx hb dX5_areNotes_0 rfl (lv_at hl 0 rfl) ?_
  refine gfX5_242 (q := x0) hx0 rfl C X dX5_areNotes_1 ?_
  refine lv_iconst (v := 3) hx hb dX5_areNotes_4 (by decide) ?_
  refine rIrem hx hb dX5_areNotes_5 (by decide) ?_
  refine lv_if_eq (tgt := 11) hx hb dX5_areNotes_6 (by decide) (fun c6 => ?_) (fun c6 => ?_)
  · replace hf := ifp c6 hf
    refine lv_iconst (v := 0) hx hb dX5_areNotes_11 (by decide) ?_
    refine lv_istore_n (lv' := [(1, .int 0), (0, .ref (ad (71 + 2 * x0)))]) hx hb dX5_areNotes_12 rfl hl (by decide) rfl (fun ls hl => ?_)
    exact w5_areNotes_1 C hr  FUEL x0 0 hx0 hf _ _ X _ (lv_sub hl [1, 0] rfl)
  · replace hf := ifn c6 hf
    refine lv_iconst (v := 0) hx hb dX5_areNotes_9 (by decide) ?_
    exact retI C X hr rfl (Option.some.inj hf) rfl rfl dX5_areNotes_10
theorem ct5_areNotes {x0 : Nat} (hx0 : x0 < 4) {μ : Mem} {ν : Lem} {r : Int32} (hg : f5_areNotes μ x0 = some r) : CtI true yX5_areNotes cX5_areNotes 2 1 20 .boolean (fun ad => [.ref (ad (71 + 2 * x0))]) μ ν r μ ν :=
  mkI (by decide) rfl (fun ad => Nat.le_of_ble_eq_true rfl) (fun p l e s m args below meth c D cy ad C hr X ls hl => w5_areNotes C hr x0 hx0 hg _ _ X _ hl)
theorem qX5_234 {p : Program} {l : Launch} {e : Env} {R : Room} {s : State} {m : MethodId} {args : Array Value} {below : List Frame} {meth : Method} {c : Code} {H : Heap} {locs : List Loc} {cells slots : Nat} {Q : State → Prop} {A : Nat → Prop} {cc : ByteArray} {nL : Nat} {D : va_G} {cy : Nat → ClassId} {ad : Nat → Nat} {μ : Mem} {ν : Lem} {pc : Nat} {ls : Array Slot} {rest : List Value} {x0 : Nat} (hx0 : x0 < 4) {r : Int32} (hg : f5_areNotes μ x0 = some r) (C : CxA true A p s m args meth c cc nL RX5 D cy ad) (X : WdA true A D cy ad s.heap μ ν H locs) (hsz : ls.size = nL) (hrm : (rest.map fun v => v.category).sum ≤ 8) (hR : 1 + 1 ≤ R.frames ∧ 8 + (2 + 11) + 20 ≤ R.locals) (hcs : cells ≤ R.cells ∧ slots ≤ R.slots) (hd : decode cc pc = .ok (.invokestatic 234, 3)) (kk : ∀ (H1 : Heap) (locs1 : List Loc), WdA true A D cy ad s.heap μ ν H1 locs1 → narrow .boolean (.int r) = .int r → W p l e R s m args below meth c H1 locs1 cells slots Q (F0 m (pc + 3) ls (.int r :: rest))) : W p l e R s m args below meth c H locs cells slots Q (F0 m pc ls (.ref (ad (71 + 2 * x0)) :: rest)) :=
  rCSI (As := [.ref (ad (71 + 2 * x0))]) (ct5_areNotes hx0 hg) lX5_areNotes k_615 rfl rfl C X rfl hrm hsz hR hcs hd kk
set_option maxRecDepth 100000 in
set_option maxHeartbeats 4000000 in
theorem w5_agrees {p : Program} {l : Launch} {e : Env} {s : State} {m : MethodId} {args : Array Value} {below : List Frame} {meth : Method} {c : Code} {D : va_G} {cy : Nat → ClassId} {ad : Nat → Nat} {r : Int32} {μ : Mem} {ν : Lem} (C : Cx true p s m args meth c cX5_agrees 8 RX5 D cy ad) (hr : meth.sig.returnType = some .boolean) : ∀ (x1 : Nat) (x2 : Int32) (x3 : Int32) (x4 : Int32) (hx1 : x1 < 4), f5_agrees μ x1 x2 x3 x4 = some r → ∀ (H : Heap) (locs : List Loc), Wd true D cy ad s.heap μ ν H locs → ∀ (ls : Array Slot), lv_has ls 8 [(0, .ref (ad 0)), (1, .ref (ad (71 + 2 * x1))), (2, .int x2), (3, .int x3), (4, .int x4)] → WI true p l e 4 92 s m args below meth c D cy ad .boolean r μ ν H locs (F0 m 0 ls []) := by
  have hx := C.1.1
  have hb := C.1.2.1
  have hown := C.1.2.2.2.1
  have hts := C.1.2.2.2.2
  intro x1 x2 x3 x4 hx1 hf H locs X ls hl
  unfold f5_agrees at hf
  refine lv_iconst (v := 0) hx hb dX5_agrees_0 (by decide) ?_
  refine lv_aload_n hx hb dX5_agrees_1 rfl (lv_at hl 1 rfl) ?_
  refine gfX5_243 (q := x1) hx1 rfl (k2 := (72 + 2 * x1)) rfl C X dX5_agrees_2 ?_
  refine lv_iload_n hx hb dX5_agrees_5 rfl (lv_at hl 2 rfl) ?_
  obtain ⟨h6, hf⟩ := gd_e hf
  refine rIald C X (sSi hx1) h6 dX5_agrees_6 ?_
  refine lv_iload hx hb dX5_agrees_7 (lv_at hl 4 rfl) ?_
  refine lv_iadd hx hb dX5_agrees_9 ?_
  refine lv_sipush (v := 600) hx hb dX5_agrees_10 (by decide) ?_
  refine qX5_161 rfl C X hl.1 ((Nat.le_of_ble_eq_true rfl)) ⟨(Nat.le_of_ble_eq_true rfl), (Nat.le_of_ble_eq_true rfl)⟩ ⟨Nat.zero_le _, Nat.zero_le _⟩ dX5_agrees_13 (fun H locs X b13 => ?_)
  obtain ⟨v16, e16, hf⟩ := nm_e2 hf
  refine st_i e16 ?_
  refine lv_istore (lv' := [(5, .int v16), (0, .ref (ad 0)), (1, .ref (ad (71 + 2 * x1))), (2, .int x2), (3, .int x3), (4, .int x4)]) hx hb dX5_agrees_16 hl (by decide) rfl (fun ls hl => ?_)
  refine lv_ldc2 (v := (1000)) hx hb hown (hts _ k_626) dX5_agrees_18 ?_
  refine lv_aload_n hx hb dX5_agrees_21 rfl (lv_at hl 2 rfl) ?_
  refine gfX5_243 (q := x1) hx1 rfl (k2 := (72 + 2 * x1)) rfl C X dX5_agrees_22 ?_
  refine lv_iload_n hx hb dX5_agrees_25 rfl (lv_at hl 3 rfl) ?_
  refine lv_iconst (v := 1) hx hb dX5_agrees_26 (by decide) ?_
  refine lv_iadd hx hb dX5_agrees_27 ?_
  obtain ⟨h28, hf⟩ := gd_e hf
  refine rIald C X (sSi hx1) h28 dX5_agrees_28 ?_
  refine lv_i2l hx hb dX5_agrees_29 rfl ?_
  refine lv_lmul hx hb dX5_agrees_30 ?_
  obtain ⟨v31, e31, hf⟩ := nm_e2 hf
  refine st_l e31 ?_
  refine lv_lstore (lv' := [(6, .long v31), (5, .int v16), (0, .ref (ad 0)), (1, .ref (ad (71 + 2 * x1))), (2, .int x2), (3, .int x3), (4, .int x4)]) hx hb dX5_agrees_31 hl (by decide) rfl (fun ls hl => ?_)
  refine lv_aload_n hx hb dX5_agrees_33 rfl (lv_at hl 2 rfl) ?_
  refine gfX5_10 C X dX5_agrees_34 ?_
  refine gfX5_92 (o := 0) (by decide) rfl (k2 := 12) rfl C X dX5_agrees_37 ?_
  refine lv_iload_n hx hb dX5_agrees_40 rfl (lv_at hl 5 rfl) ?_
  obtain ⟨h41, hf⟩ := gd_e hf
  have hb41 : x3.toNatClampNeg < 13 := by have := inb_lt h41; omega
  refine rAald (t := 0) (k' := (14 + 3 * x3.toNatClampNeg)) C X rfl rfl h41 (by omega) dX5_agrees_41 ?_
  refine lv_iload hx hb dX5_agrees_42 (lv_at hl 1 rfl) ?_
  refine lv_aload_n hx hb dX5_agrees_44 rfl (lv_at hl 2 rfl) ?_
  refine gfX5_10 C X dX5_agrees_45 ?_
  refine gfX5_82 (o := 0) (by decide) rfl C X dX5_agrees_48 ?_
  obtain ⟨r51, g51, hf⟩ := bd1_e hf
  refine qX5_143 (j := x3.toNatClampNeg) hb41 g51 C X hl.1 ((Nat.le_of_ble_eq_true rfl)) ⟨(Nat.le_of_ble_eq_true rfl), (Nat.le_of_ble_eq_true rfl)⟩ ⟨Nat.zero_le _, Nat.zero_le _⟩ dX5_agrees_51 (fun H locs X b51 => ?_)
  refine lv_i2l hx hb dX5_agrees_54 rfl ?_
  refine lv_lload hx hb dX5_agrees_55 (lv_at hl 0 rfl) ?_
  refine lv_lsub hx hb dX5_agrees_57 ?_
  refine rAbsL C k_627 hl.1 (Nat.le_of_ble_eq_true rfl) (Nat.le_of_ble_eq_true rfl) ⟨Nat.zero_le _, Nat.zero_le _⟩ dX5_agrees_58 ?_
  refine lv_aload_n hx hb dX5_agrees_61 rfl (lv_at hl 3 rfl) ?_
  refine gfX5_243 (q := x1) hx1 rfl (k2 := (72 + 2 * x1)) rfl C X dX5_agrees_62 ?_
  refine lv_iload_n hx hb dX5_agrees_65 rfl (lv_at hl 4 rfl) ?_
  refine lv_iconst (v := 2) hx hb dX5_agrees_66 (by decide) ?_
  refine lv_iadd hx hb dX5_agrees_67 ?_
  obtain ⟨h68, hf⟩ := gd_e hf
  refine rIald C X (sSi hx1) h68 dX5_agrees_68 ?_
  refine lv_i2l hx hb dX5_agrees_69 rfl ?_
  refine W.lcmp hx hb dX5_agrees_70 ?_
  refine lv_if_gt (tgt := 78) hx hb dX5_agrees_71 (by decide) (fun c71 => ?_) (fun c71 => ?_)
  · replace hf := ifp c71 hf
    refine lv_iconst (v := 0) hx hb dX5_agrees_78 (by decide) ?_
    exact retI C X hr rfl (Option.some.inj hf) rfl rfl dX5_agrees_79
  · replace hf := ifn c71 hf
    refine lv_iconst (v := 1) hx hb dX5_agrees_74 (by decide) ?_
    refine lv_goto (tgt := 79) hx hb dX5_agrees_75 (by decide) ?_
    exact retI C X hr rfl (Option.some.inj hf) rfl rfl dX5_agrees_79
theorem ct5_agrees {x1 : Nat} {x2 : Int32} {x3 : Int32} {x4 : Int32} (hx1 : x1 < 4) {μ : Mem} {ν : Lem} {r : Int32} (hg : f5_agrees μ x1 x2 x3 x4 = some r) : CtI true yX5_agrees cX5_agrees 8 4 92 .boolean (fun ad => [.ref (ad 0), .ref (ad (71 + 2 * x1)), .int x2, .int x3, .int x4]) μ ν r μ ν :=
  mkI (by decide) rfl (fun ad => Nat.le_of_ble_eq_true rfl) (fun p l e s m args below meth c D cy ad C hr X ls hl => w5_agrees C hr x1 x2 x3 x4 hx1 hg _ _ X _ hl)
theorem qX5_246 {p : Program} {l : Launch} {e : Env} {R : Room} {s : State} {m : MethodId} {args : Array Value} {below : List Frame} {meth : Method} {c : Code} {H : Heap} {locs : List Loc} {cells slots : Nat} {Q : State → Prop} {A : Nat → Prop} {cc : ByteArray} {nL : Nat} {D : va_G} {cy : Nat → ClassId} {ad : Nat → Nat} {μ : Mem} {ν : Lem} {pc : Nat} {ls : Array Slot} {rest : List Value} {x1 : Nat} {x2 : Int32} {x3 : Int32} {x4 : Int32} (hx1 : x1 < 4) {r : Int32} (hg : f5_agrees μ x1 x2 x3 x4 = some r) (C : CxA true A p s m args meth c cc nL RX5 D cy ad) (X : WdA true A D cy ad s.heap μ ν H locs) (hsz : ls.size = nL) (hrm : (rest.map fun v => v.category).sum ≤ 8) (hR : 4 + 1 ≤ R.frames ∧ 8 + (8 + 11) + 92 ≤ R.locals) (hcs : cells ≤ R.cells ∧ slots ≤ R.slots) (hd : decode cc pc = .ok (.invokevirtual 246, 3)) (kk : ∀ (H1 : Heap) (locs1 : List Loc), WdA true A D cy ad s.heap μ ν H1 locs1 → narrow .boolean (.int r) = .int r → W p l e R s m args below meth c H1 locs1 cells slots Q (F0 m (pc + 3) ls (.int r :: rest))) : W p l e R s m args below meth c H locs cells slots Q (F0 m pc ls (.int x4 :: .int x3 :: .int x2 :: .ref (ad (71 + 2 * x1)) :: .ref (ad 0) :: rest)) :=
  rCVI (As := [.ref (ad (71 + 2 * x1)), .int x2, .int x3, .int x4]) (k := 0) (ct5_agrees hx1 hg) ok5 lX5_agrees k_622 rfl rfl rfl C X rfl hrm hsz hR hcs hd kk
set_option maxRecDepth 100000 in
set_option maxHeartbeats 4000000 in
theorem w5_fitsByRule_1 {p : Program} {l : Launch} {e : Env} {s : State} {m : MethodId} {args : Array Value} {below : List Frame} {meth : Method} {c : Code} {D : va_G} {cy : Nat → ClassId} {ad : Nat → Nat} {r : Int32} {μ1 : Mem} {ν : Lem} (C : Cx true p s m args meth c cX5_fitsByRule 5 RX5 D cy ad) (hr : meth.sig.returnType = some .boolean) : ∀ (n : Nat), ∀ (μ : Mem) (x1 : Nat) (x2 : Int32) (x3 : Int32) (hx1 : x1 < 4), f5_fitsByRule_1 n μ x1 x2 x3 = some (r, μ1) → ∀ (H : Heap) (locs : List Loc), Wd true D cy ad s.heap μ ν H locs → ∀ (ls : Array Slot), lv_has ls 5 [(0, .ref (ad 0)), (1, .ref (ad (71 + 2 * x1))), (2, .int x2), (3, .int x3)] → WI true p l e 5 119 s m args below meth c D cy ad .boolean r μ1 ν H locs (F0 m 2 ls []) := by
  have hx := C.1.1
  have hb := C.1.2.1
  have hown := C.1.2.2.2.1
  have hts := C.1.2.2.2.2
  intro n
  induction n with
  | zero =>
    intro μ x1 x2 x3 hx1 hf H locs X ls hl
    rw [f5_fitsByRule_1] at hf
    cases hf
  | succ n ih =>
    intro μ x1 x2 x3 hx1 hf H locs X ls hl
    rw [f5_fitsByRule_1] at hf
    refine lv_iload_n hx hb dX5_fitsByRule_2 rfl (lv_at hl 3 rfl) ?_
    refine lv_iconst (v := 2) hx hb dX5_fitsByRule_3 (by decide) ?_
    refine lv_iadd hx hb dX5_fitsByRule_4 ?_
    refine lv_aload_n hx hb dX5_fitsByRule_5 rfl (lv_at hl 1 rfl) ?_
    refine gfX5_242 (q := x1) hx1 rfl C X dX5_fitsByRule_6 ?_
    refine lv_icmp_ge (tgt := 46) hx hb dX5_fitsByRule_9 (by decide) (fun c9 => ?_) (fun c9 => ?_)
    · replace hf := ifp c9 hf
      refine lv_iconst (v := 1) hx hb dX5_fitsByRule_46 (by decide) ?_
      exact retI C X hr rfl (so2 hf).1 (so2 hf).2 rfl dX5_fitsByRule_47
    · replace hf := ifn c9 hf
      refine lv_aload_n hx hb dX5_fitsByRule_12 rfl (lv_at hl 0 rfl) ?_
      refine lv_iconst (v := 1) hx hb dX5_fitsByRule_13 (by decide) ?_
      refine lv_iload_n hx hb dX5_fitsByRule_14 rfl (lv_at hl 2 rfl) ?_
      refine lv_aload_n hx hb dX5_fitsByRule_15 rfl (lv_at hl 1 rfl) ?_
      refine gfX5_243 (q := x1) hx1 rfl (k2 := (72 + 2 * x1)) rfl C X dX5_fitsByRule_16 ?_
      refine lv_iload_n hx hb dX5_fitsByRule_19 rfl (lv_at hl 3 rfl) ?_
      obtain ⟨h20, hf⟩ := gd_e hf
      refine rIald C X (sSi hx1) h20 dX5_fitsByRule_20 ?_
      obtain ⟨r21, μ21, g21, hf⟩ := bd2_e hf
      refine qX5_164 g21 C X hl.1 ((Nat.le_of_ble_eq_true rfl)) ⟨(Nat.le_of_ble_eq_true rfl), (Nat.le_of_ble_eq_true rfl)⟩ ⟨Nat.zero_le _, Nat.zero_le _⟩ dX5_fitsByRule_21 (fun H locs X b21 => ?_)
      refine lv_istore (lv' := [(4, .int r21), (0, .ref (ad 0)), (1, .ref (ad (71 + 2 * x1))), (2, .int x2), (3, .int x3)]) hx hb dX5_fitsByRule_24 hl (by decide) rfl (fun ls hl => ?_)
      refine lv_aload_n hx hb dX5_fitsByRule_26 rfl (lv_at hl 1 rfl) ?_
      refine lv_aload_n hx hb dX5_fitsByRule_27 rfl (lv_at hl 2 rfl) ?_
      refine lv_iload_n hx hb dX5_fitsByRule_28 rfl (lv_at hl 4 rfl) ?_
      refine lv_iload_n hx hb dX5_fitsByRule_29 rfl (lv_at hl 3 rfl) ?_
      refine lv_iload hx hb dX5_fitsByRule_30 (lv_at hl 0 rfl) ?_
      obtain ⟨r32, g32, hf⟩ := bd1_e hf
      refine qX5_246 (x1 := x1) hx1 g32 C X hl.1 ((Nat.le_of_ble_eq_true rfl)) ⟨(Nat.le_of_ble_eq_true rfl), (Nat.le_of_ble_eq_true rfl)⟩ ⟨Nat.zero_le _, Nat.zero_le _⟩ dX5_fitsByRule_32 (fun H locs X b32 => ?_)
      refine lv_if_ne (tgt := 40) hx hb dX5_fitsByRule_35 (by decide) (fun c35 => ?_) (fun c35 => ?_)
      · replace hf := ifn c35 hf
        obtain ⟨v40, e40, hf⟩ := nm_e2 hf
        refine rIinc (lv' := [(3, .int v40), (4, .int r21), (0, .ref (ad 0)), (1, .ref (ad (71 + 2 * x1))), (2, .int x2)]) hx hb dX5_fitsByRule_40 hl (k := 4) rfl e40 rfl (by decide) rfl (fun ls hl => ?_)
        refine lv_goto (tgt := 2) hx hb dX5_fitsByRule_43 (by decide) ?_
        exact ih μ21 x1 x2 v40 hx1 hf _ _ X _ (lv_sub hl [2, 3, 4, 0] rfl)
      · replace hf := ifp c35 hf
        refine lv_iconst (v := 0) hx hb dX5_fitsByRule_38 (by decide) ?_
        exact retI C X hr rfl (so2 hf).1 (so2 hf).2 rfl dX5_fitsByRule_39
set_option maxRecDepth 100000 in
set_option maxHeartbeats 4000000 in
theorem w5_fitsByRule {p : Program} {l : Launch} {e : Env} {s : State} {m : MethodId} {args : Array Value} {below : List Frame} {meth : Method} {c : Code} {D : va_G} {cy : Nat → ClassId} {ad : Nat → Nat} {r : Int32} {μ1 : Mem} {ν : Lem} (C : Cx true p s m args meth c cX5_fitsByRule 5 RX5 D cy ad) (hr : meth.sig.returnType = some .boolean) : ∀ (μ : Mem) (x1 : Nat) (x2 : Int32) (hx1 : x1 < 4), f5_fitsByRule μ x1 x2 = some (r, μ1) → ∀ (H : Heap) (locs : List Loc), Wd true D cy ad s.heap μ ν H locs → ∀ (ls : Array Slot), lv_has ls 5 [(0, .ref (ad 0)), (1, .ref (ad (71 + 2 * x1))), (2, .int x2)] → WI true p l e 5 119 s m args below meth c D cy ad .boolean r μ1 ν H locs (F0 m 0 ls []) := by
  have hx := C.1.1
  have hb := C.1.2.1
  have hown := C.1.2.2.2.1
  have hts := C.1.2.2.2.2
  intro μ x1 x2 hx1 hf H locs X ls hl
  unfold f5_fitsByRule at hf
  refine lv_iconst (v := 0) hx hb dX5_fitsByRule_0 (by decide) ?_
  refine lv_istore_n (lv' := [(3, .int 0), (0, .ref (ad 0)), (1, .ref (ad (71 + 2 * x1))), (2, .int x2)]) hx hb dX5_fitsByRule_1 rfl hl (by decide) rfl (fun ls hl => ?_)
  exact w5_fitsByRule_1 C hr  FUEL μ x1 x2 0 hx1 hf _ _ X _ (lv_sub hl [1, 2, 3, 0] rfl)
theorem ct5_fitsByRule {x1 : Nat} {x2 : Int32} (hx1 : x1 < 4) {μ : Mem} {ν : Lem} {r : Int32} {μ1 : Mem} (hg : f5_fitsByRule μ x1 x2 = some (r, μ1)) : CtI true yX5_fitsByRule cX5_fitsByRule 5 5 119 .boolean (fun ad => [.ref (ad 0), .ref (ad (71 + 2 * x1)), .int x2]) μ ν r μ1 ν :=
  mkI (by decide) rfl (fun ad => Nat.le_of_ble_eq_true rfl) (fun p l e s m args below meth c D cy ad C hr X ls hl => w5_fitsByRule C hr μ x1 x2 hx1 hg _ _ X _ hl)
theorem qX5_238 {p : Program} {l : Launch} {e : Env} {R : Room} {s : State} {m : MethodId} {args : Array Value} {below : List Frame} {meth : Method} {c : Code} {H : Heap} {locs : List Loc} {cells slots : Nat} {Q : State → Prop} {A : Nat → Prop} {cc : ByteArray} {nL : Nat} {D : va_G} {cy : Nat → ClassId} {ad : Nat → Nat} {μ : Mem} {ν : Lem} {pc : Nat} {ls : Array Slot} {rest : List Value} {x1 : Nat} {x2 : Int32} (hx1 : x1 < 4) {r : Int32} {μ1 : Mem} (hg : f5_fitsByRule μ x1 x2 = some (r, μ1)) (C : CxA true A p s m args meth c cc nL RX5 D cy ad) (X : WdA true A D cy ad s.heap μ ν H locs) (hsz : ls.size = nL) (hrm : (rest.map fun v => v.category).sum ≤ 8) (hR : 5 + 1 ≤ R.frames ∧ 8 + (5 + 11) + 119 ≤ R.locals) (hcs : cells ≤ R.cells ∧ slots ≤ R.slots) (hd : decode cc pc = .ok (.invokevirtual 238, 3)) (kk : ∀ (H1 : Heap) (locs1 : List Loc), WdA true A D cy ad s.heap μ1 ν H1 locs1 → narrow .boolean (.int r) = .int r → W p l e R s m args below meth c H1 locs1 cells slots Q (F0 m (pc + 3) ls (.int r :: rest))) : W p l e R s m args below meth c H locs cells slots Q (F0 m pc ls (.int x2 :: .ref (ad (71 + 2 * x1)) :: .ref (ad 0) :: rest)) :=
  rCVI (As := [.ref (ad (71 + 2 * x1)), .int x2]) (k := 0) (ct5_fitsByRule hx1 hg) ok5 lX5_fitsByRule k_618 rfl rfl rfl C X rfl hrm hsz hR hcs hd kk
set_option maxRecDepth 100000 in
set_option maxHeartbeats 4000000 in
theorem w5_fits_1 {p : Program} {l : Launch} {e : Env} {s : State} {m : MethodId} {args : Array Value} {below : List Frame} {meth : Method} {c : Code} {D : va_G} {cy : Nat → ClassId} {ad : Nat → Nat} {r : Int32} {μ1 : Mem} {ν : Lem} (C : Cx true p s m args meth c cX5_fits 5 RX5 D cy ad) (hr : meth.sig.returnType = some .int) : ∀ (n : Nat), ∀ (μ : Mem) (x2 : Nat) (x3 : Int32) (x4 : Int32) (hx2 : x2 < 4), f5_fits_1 n μ x2 x3 x4 = some (r, μ1) → ∀ (H : Heap) (locs : List Loc), Wd true D cy ad s.heap μ ν H locs → ∀ (ls : Array Slot), lv_has ls 5 [(0, .ref (ad 0)), (2, .ref (ad (71 + 2 * x2))), (3, .int x3), (4, .int x4)] → WI true p l e 6 143 s m args below meth c D cy ad .int r μ1 ν H locs (F0 m 42 ls []) := by
  have hx := C.1.1
  have hb := C.1.2.1
  have hown := C.1.2.2.2.1
  have hts := C.1.2.2.2.2
  intro n
  induction n with
  | zero =>
    intro μ x2 x3 x4 hx2 hf H locs X ls hl
    rw [f5_fits_1] at hf
    cases hf
  | succ n ih =>
    intro μ x2 x3 x4 hx2 hf H locs X ls hl
    rw [f5_fits_1] at hf
    refine lv_iload hx hb dX5_fits_42 (lv_at hl 3 rfl) ?_
    refine lv_aload_n hx hb dX5_fits_44 rfl (lv_at hl 0 rfl) ?_
    refine gfX5_10 C X dX5_fits_45 ?_
    refine gfX5_102 (o := 0) (by decide) rfl C X dX5_fits_48 ?_
    refine lv_icmp_ge (tgt := 77) hx hb dX5_fits_51 (by decide) (fun c51 => ?_) (fun c51 => ?_)
    · replace hf := ifp c51 hf
      refine lv_iload_n hx hb dX5_fits_77 rfl (lv_at hl 2 rfl) ?_
      exact retI C X hr rfl (so2 hf).1 (so2 hf).2 rfl dX5_fits_78
    · replace hf := ifn c51 hf
      refine lv_aload_n hx hb dX5_fits_54 rfl (lv_at hl 0 rfl) ?_
      refine lv_aload_n hx hb dX5_fits_55 rfl (lv_at hl 1 rfl) ?_
      refine lv_iload hx hb dX5_fits_56 (lv_at hl 3 rfl) ?_
      obtain ⟨r58, μ58, g58, hf⟩ := bd2_e hf
      refine qX5_238 (x1 := x2) hx2 g58 C X hl.1 ((Nat.le_of_ble_eq_true rfl)) ⟨(Nat.le_of_ble_eq_true rfl), (Nat.le_of_ble_eq_true rfl)⟩ ⟨Nat.zero_le _, Nat.zero_le _⟩ dX5_fits_58 (fun H locs X b58 => ?_)
      refine lv_if_eq (tgt := 71) hx hb dX5_fits_61 (by decide) (fun c61 => ?_) (fun c61 => ?_)
      · replace hf := ifp c61 hf
        obtain ⟨v71, e71, hf⟩ := nm_e2 hf
        refine rIinc (lv' := [(4, .int v71), (0, .ref (ad 0)), (2, .ref (ad (71 + 2 * x2))), (3, .int x3)]) hx hb dX5_fits_71 hl (k := 3) rfl e71 rfl (by decide) rfl (fun ls hl => ?_)
        refine lv_goto (tgt := 42) hx hb dX5_fits_74 (by decide) ?_
        exact ih μ58 x2 x3 v71 hx2 hf _ _ X _ (lv_sub hl [1, 2, 3, 0] rfl)
      · replace hf := ifn c61 hf
        refine lv_iload_n hx hb dX5_fits_64 rfl (lv_at hl 2 rfl) ?_
        refine lv_iconst (v := 1) hx hb dX5_fits_65 (by decide) ?_
        refine lv_iload hx hb dX5_fits_66 (lv_at hl 3 rfl) ?_
        refine lv_ishl hx hb dX5_fits_68 ?_
        refine lv_ior hx hb dX5_fits_69 ?_
        obtain ⟨v70, e70, hf⟩ := nm_e2 hf
        refine st_i e70 ?_
        refine lv_istore_n (lv' := [(3, .int v70), (0, .ref (ad 0)), (2, .ref (ad (71 + 2 * x2))), (4, .int x4)]) hx hb dX5_fits_70 rfl hl (by decide) rfl (fun ls hl => ?_)
        obtain ⟨v71, e71, hf⟩ := nm_e2 hf
        refine rIinc (lv' := [(4, .int v71), (3, .int v70), (0, .ref (ad 0)), (2, .ref (ad (71 + 2 * x2)))]) hx hb dX5_fits_71 hl (k := 3) rfl e71 rfl (by decide) rfl (fun ls hl => ?_)
        refine lv_goto (tgt := 42) hx hb dX5_fits_74 (by decide) ?_
        exact ih μ58 x2 v70 v71 hx2 hf _ _ X _ (lv_sub hl [2, 3, 1, 0] rfl)
set_option maxRecDepth 100000 in
set_option maxHeartbeats 4000000 in
theorem w5_fits {p : Program} {l : Launch} {e : Env} {s : State} {m : MethodId} {args : Array Value} {below : List Frame} {meth : Method} {c : Code} {D : va_G} {cy : Nat → ClassId} {ad : Nat → Nat} {r : Int32} {μ1 : Mem} {ν : Lem} (C : Cx true p s m args meth c cX5_fits 5 RX5 D cy ad) (hr : meth.sig.returnType = some .int) : ∀ (μ : Mem) (x1 : Int32), f5_fits μ x1 = some (r, μ1) → ∀ (H : Heap) (locs : List Loc), Wd true D cy ad s.heap μ ν H locs → ∀ (ls : Array Slot), lv_has ls 5 [(0, .ref (ad 0)), (1, .int x1)] → WI true p l e 6 143 s m args below meth c D cy ad .int r μ1 ν H locs (F0 m 0 ls []) := by
  have hx := C.1.1
  have hb := C.1.2.1
  have hown := C.1.2.2.2.1
  have hts := C.1.2.2.2.2
  intro μ x1 hf H locs X ls hl
  unfold f5_fits at hf
  refine lv_iload_n hx hb dX5_fits_0 rfl (lv_at hl 1 rfl) ?_
  refine qX5_227 rfl C X hl.1 ((Nat.le_of_ble_eq_true rfl)) ⟨(Nat.le_of_ble_eq_true rfl), (Nat.le_of_ble_eq_true rfl)⟩ ⟨Nat.zero_le _, Nat.zero_le _⟩ dX5_fits_1 (fun H locs X b1 => ?_)
  refine lv_if_ne (tgt := 10) hx hb dX5_fits_4 (by decide) (fun c4 => ?_) (fun c4 => ?_)
  · replace hf := ifn c4 hf
    refine lv_aload_n hx hb dX5_fits_10 rfl (lv_at hl 0 rfl) ?_
    refine gfX5_34 C X dX5_fits_11 ?_
    refine lv_iload_n hx hb dX5_fits_14 rfl (lv_at hl 1 rfl) ?_
    obtain ⟨h15, hf⟩ := gd_e hf
    have hb15 : x1.toNatClampNeg < 4 := by have := inb_lt h15; omega
    refine rAald (t := 2) (k' := (71 + 2 * x1.toNatClampNeg)) C X rfl rfl h15 (by omega) dX5_fits_15 ?_
    refine lv_astore_n (lv' := [(2, .ref (ad (71 + 2 * x1.toNatClampNeg))), (0, .ref (ad 0)), (1, .int x1)]) hx hb dX5_fits_16 rfl hl (by decide) rfl (fun ls hl => ?_)
    refine lv_aload_n hx hb dX5_fits_17 rfl (lv_at hl 0 rfl) ?_
    refine qX5_230 (q := x1.toNatClampNeg) hb15 rfl C X hl.1 ((Nat.le_of_ble_eq_true rfl)) ⟨(Nat.le_of_ble_eq_true rfl), (Nat.le_of_ble_eq_true rfl)⟩ ⟨Nat.zero_le _, Nat.zero_le _⟩ dX5_fits_18 (fun H locs X b18 => ?_)
    refine lv_if_eq (tgt := 27) hx hb dX5_fits_21 (by decide) (fun c21 => ?_) (fun c21 => ?_)
    · replace hf := ifp c21 hf
      refine lv_aload_n hx hb dX5_fits_27 rfl (lv_at hl 0 rfl) ?_
      obtain ⟨r28, g28, hf⟩ := bd1_e hf
      refine qX5_234 (x0 := x1.toNatClampNeg) hb15 g28 C X hl.1 ((Nat.le_of_ble_eq_true rfl)) ⟨(Nat.le_of_ble_eq_true rfl), (Nat.le_of_ble_eq_true rfl)⟩ ⟨Nat.zero_le _, Nat.zero_le _⟩ dX5_fits_28 (fun H locs X b28 => ?_)
      refine lv_if_ne (tgt := 37) hx hb dX5_fits_31 (by decide) (fun c31 => ?_) (fun c31 => ?_)
      · replace hf := ifn c31 hf
        refine lv_iconst (v := 0) hx hb dX5_fits_37 (by decide) ?_
        refine lv_istore_n (lv' := [(3, .int 0), (2, .ref (ad (71 + 2 * x1.toNatClampNeg))), (0, .ref (ad 0)), (1, .int x1)]) hx hb dX5_fits_38 rfl hl (by decide) rfl (fun ls hl => ?_)
        refine lv_iconst (v := 0) hx hb dX5_fits_39 (by decide) ?_
        refine lv_istore (lv' := [(4, .int 0), (3, .int 0), (2, .ref (ad (71 + 2 * x1.toNatClampNeg))), (0, .ref (ad 0)), (1, .int x1)]) hx hb dX5_fits_40 hl (by decide) rfl (fun ls hl => ?_)
        exact w5_fits_1 C hr  FUEL μ (x1.toNatClampNeg) 0 0 hb15 hf _ _ X _ (lv_sub hl [3, 2, 1, 0] rfl)
      · replace hf := ifp c31 hf
        refine lv_bipush (v := (-2)) hx hb dX5_fits_34 (by decide) ?_
        exact retI C X hr rfl (so2 hf).1 (so2 hf).2 rfl dX5_fits_36
    · replace hf := ifn c21 hf
      refine lv_bipush (v := (-11)) hx hb dX5_fits_24 (by decide) ?_
      exact retI C X hr rfl (so2 hf).1 (so2 hf).2 rfl dX5_fits_26
  · replace hf := ifp c4 hf
    refine lv_bipush (v := (-2)) hx hb dX5_fits_7 (by decide) ?_
    exact retI C X hr rfl (so2 hf).1 (so2 hf).2 rfl dX5_fits_9
theorem ct5_fits {x1 : Int32} {μ : Mem} {ν : Lem} {r : Int32} {μ1 : Mem} (hg : f5_fits μ x1 = some (r, μ1)) : CtI true yX5_fits cX5_fits 5 6 143 .int (fun ad => [.ref (ad 0), .int x1]) μ ν r μ1 ν :=
  mkI (by decide) rfl (fun ad => Nat.le_of_ble_eq_true rfl) (fun p l e s m args below meth c D cy ad C hr X ls hl => w5_fits C hr μ x1 hg _ _ X _ hl)
theorem qL_86 {p : Program} {l : Launch} {e : Env} {R : Room} {s : State} {m : MethodId} {args : Array Value} {below : List Frame} {meth : Method} {c : Code} {H : Heap} {locs : List Loc} {cells slots : Nat} {Q : State → Prop} {A : Nat → Prop} {cc : ByteArray} {nL : Nat} {D : va_G} {cy : Nat → ClassId} {ad : Nat → Nat} {μ : Mem} {ν : Lem} {pc : Nat} {ls : Array Slot} {rest : List Value} {x1 : Int32} {r : Int32} {μ1 : Mem} (hg : f5_fits μ x1 = some (r, μ1)) (C : CxA true A p s m args meth c cc nL RL D cy ad) (X : WdA true A D cy ad s.heap μ ν H locs) (hsz : ls.size = nL) (hrm : (rest.map fun v => v.category).sum ≤ 8) (hR : 6 + 1 ≤ R.frames ∧ 8 + (5 + 11) + 143 ≤ R.locals) (hcs : cells ≤ R.cells ∧ slots ≤ R.slots) (hd : decode cc pc = .ok (.invokevirtual 86, 3)) (kk : ∀ (H1 : Heap) (locs1 : List Loc), WdA true A D cy ad s.heap μ1 ν H1 locs1 → narrow .int (.int r) = .int r → W p l e R s m args below meth c H1 locs1 cells slots Q (F0 m (pc + 3) ls (.int r :: rest))) : W p l e R s m args below meth c H locs cells slots Q (F0 m pc ls (.int x1 :: .ref (ad 0) :: rest)) :=
  rCVI (As := [.int x1]) (k := 0) (ct5_fits hg) ok5 lX5_fits k_604 rfl rfl rfl C X rfl hrm hsz hR hcs hd kk
set_option maxRecDepth 100000 in
set_option maxHeartbeats 4000000 in
theorem w5_fitsBy_1 {p : Program} {l : Launch} {e : Env} {s : State} {m : MethodId} {args : Array Value} {below : List Frame} {meth : Method} {c : Code} {D : va_G} {cy : Nat → ClassId} {ad : Nat → Nat} {r : Int32} {μ : Mem} {ν : Lem} (C : Cx true p s m args meth c cX5_fitsBy 5 RX5 D cy ad) (hr : meth.sig.returnType = some .boolean) : ∀ (n : Nat), ∀ (x1 : Nat) (x2 : Int32) (x3 : Int32) (x4 : Int32) (hx1 : x1 < 4), f5_fitsBy_1 μ n x1 x2 x3 x4 = some r → ∀ (H : Heap) (locs : List Loc), Wd true D cy ad s.heap μ ν H locs → ∀ (ls : Array Slot), lv_has ls 5 [(0, .ref (ad 0)), (1, .ref (ad (71 + 2 * x1))), (2, .int x2), (3, .int x3), (4, .int x4)] → WI true p l e 5 119 s m args below meth c D cy ad .boolean r μ ν H locs (F0 m 3 ls []) := by
  have hx := C.1.1
  have hb := C.1.2.1
  have hown := C.1.2.2.2.1
  have hts := C.1.2.2.2.2
  intro n
  induction n with
  | zero =>
    intro x1 x2 x3 x4 hx1 hf H locs X ls hl
    rw [f5_fitsBy_1] at hf
    cases hf
  | succ n ih =>
    intro x1 x2 x3 x4 hx1 hf H locs X ls hl
    rw [f5_fitsBy_1] at hf
    refine lv_iload hx hb dX5_fitsBy_3 (lv_at hl 4 rfl) ?_
    refine lv_iconst (v := 2) hx hb dX5_fitsBy_5 (by decide) ?_
    refine lv_iadd hx hb dX5_fitsBy_6 ?_
    refine lv_aload_n hx hb dX5_fitsBy_7 rfl (lv_at hl 1 rfl) ?_
    refine gfX5_242 (q := x1) hx1 rfl C X dX5_fitsBy_8 ?_
    refine lv_icmp_ge (tgt := 34) hx hb dX5_fitsBy_11 (by decide) (fun c11 => ?_) (fun c11 => ?_)
    · replace hf := ifp c11 hf
      refine lv_iconst (v := 1) hx hb dX5_fitsBy_34 (by decide) ?_
      exact retI C X hr rfl (Option.some.inj hf) rfl rfl dX5_fitsBy_35
    · replace hf := ifn c11 hf
      refine lv_aload_n hx hb dX5_fitsBy_14 rfl (lv_at hl 0 rfl) ?_
      refine lv_aload_n hx hb dX5_fitsBy_15 rfl (lv_at hl 1 rfl) ?_
      refine lv_iload hx hb dX5_fitsBy_16 (lv_at hl 4 rfl) ?_
      refine lv_iload_n hx hb dX5_fitsBy_18 rfl (lv_at hl 2 rfl) ?_
      refine lv_iload_n hx hb dX5_fitsBy_19 rfl (lv_at hl 3 rfl) ?_
      obtain ⟨r20, g20, hf⟩ := bd1_e hf
      refine qX5_246 (x1 := x1) hx1 g20 C X hl.1 ((Nat.le_of_ble_eq_true rfl)) ⟨(Nat.le_of_ble_eq_true rfl), (Nat.le_of_ble_eq_true rfl)⟩ ⟨Nat.zero_le _, Nat.zero_le _⟩ dX5_fitsBy_20 (fun H locs X b20 => ?_)
      refine lv_if_ne (tgt := 28) hx hb dX5_fitsBy_23 (by decide) (fun c23 => ?_) (fun c23 => ?_)
      · replace hf := ifn c23 hf
        obtain ⟨v28, e28, hf⟩ := nm_e2 hf
        refine rIinc (lv' := [(4, .int v28), (0, .ref (ad 0)), (1, .ref (ad (71 + 2 * x1))), (2, .int x2), (3, .int x3)]) hx hb dX5_fitsBy_28 hl (k := 4) rfl e28 rfl (by decide) rfl (fun ls hl => ?_)
        refine lv_goto (tgt := 3) hx hb dX5_fitsBy_31 (by decide) ?_
        exact ih x1 x2 x3 v28 hx1 hf _ _ X _ (lv_sub hl [1, 2, 3, 4, 0] rfl)
      · replace hf := ifp c23 hf
        refine lv_iconst (v := 0) hx hb dX5_fitsBy_26 (by decide) ?_
        exact retI C X hr rfl (Option.some.inj hf) rfl rfl dX5_fitsBy_27
set_option maxRecDepth 100000 in
set_option maxHeartbeats 4000000 in
theorem w5_fitsBy {p : Program} {l : Launch} {e : Env} {s : State} {m : MethodId} {args : Array Value} {below : List Frame} {meth : Method} {c : Code} {D : va_G} {cy : Nat → ClassId} {ad : Nat → Nat} {r : Int32} {μ : Mem} {ν : Lem} (C : Cx true p s m args meth c cX5_fitsBy 5 RX5 D cy ad) (hr : meth.sig.returnType = some .boolean) : ∀ (x1 : Nat) (x2 : Int32) (x3 : Int32) (hx1 : x1 < 4), f5_fitsBy μ x1 x2 x3 = some r → ∀ (H : Heap) (locs : List Loc), Wd true D cy ad s.heap μ ν H locs → ∀ (ls : Array Slot), lv_has ls 5 [(0, .ref (ad 0)), (1, .ref (ad (71 + 2 * x1))), (2, .int x2), (3, .int x3)] → WI true p l e 5 119 s m args below meth c D cy ad .boolean r μ ν H locs (F0 m 0 ls []) := by
  have hx := C.1.1
  have hb := C.1.2.1
  have hown := C.1.2.2.2.1
  have hts := C.1.2.2.2.2
  intro x1 x2 x3 hx1 hf H locs X ls hl
  unfold f5_fitsBy at hf
  refine lv_iconst (v := 0) hx hb dX5_fitsBy_0 (by decide) ?_
  refine lv_istore (lv' := [(4, .int 0), (0, .ref (ad 0)), (1, .ref (ad (71 + 2 * x1))), (2, .int x2), (3, .int x3)]) hx hb dX5_fitsBy_1 hl (by decide) rfl (fun ls hl => ?_)
  exact w5_fitsBy_1 C hr  FUEL x1 x2 x3 0 hx1 hf _ _ X _ (lv_sub hl [1, 2, 3, 4, 0] rfl)
theorem ct5_fitsBy {x1 : Nat} {x2 : Int32} {x3 : Int32} (hx1 : x1 < 4) {μ : Mem} {ν : Lem} {r : Int32} (hg : f5_fitsBy μ x1 x2 x3 = some r) : CtI true yX5_fitsBy cX5_fitsBy 5 5 119 .boolean (fun ad => [.ref (ad 0), .ref (ad (71 + 2 * x1)), .int x2, .int x3]) μ ν r μ ν :=
  mkI (by decide) rfl (fun ad => Nat.le_of_ble_eq_true rfl) (fun p l e s m args below meth c D cy ad C hr X ls hl => w5_fitsBy C hr x1 x2 x3 hx1 hg _ _ X _ hl)
theorem qX5_257 {p : Program} {l : Launch} {e : Env} {R : Room} {s : State} {m : MethodId} {args : Array Value} {below : List Frame} {meth : Method} {c : Code} {H : Heap} {locs : List Loc} {cells slots : Nat} {Q : State → Prop} {A : Nat → Prop} {cc : ByteArray} {nL : Nat} {D : va_G} {cy : Nat → ClassId} {ad : Nat → Nat} {μ : Mem} {ν : Lem} {pc : Nat} {ls : Array Slot} {rest : List Value} {x1 : Nat} {x2 : Int32} {x3 : Int32} (hx1 : x1 < 4) {r : Int32} (hg : f5_fitsBy μ x1 x2 x3 = some r) (C : CxA true A p s m args meth c cc nL RX5 D cy ad) (X : WdA true A D cy ad s.heap μ ν H locs) (hsz : ls.size = nL) (hrm : (rest.map fun v => v.category).sum ≤ 8) (hR : 5 + 1 ≤ R.frames ∧ 8 + (5 + 11) + 119 ≤ R.locals) (hcs : cells ≤ R.cells ∧ slots ≤ R.slots) (hd : decode cc pc = .ok (.invokevirtual 257, 3)) (kk : ∀ (H1 : Heap) (locs1 : List Loc), WdA true A D cy ad s.heap μ ν H1 locs1 → narrow .boolean (.int r) = .int r → W p l e R s m args below meth c H1 locs1 cells slots Q (F0 m (pc + 3) ls (.int r :: rest))) : W p l e R s m args below meth c H locs cells slots Q (F0 m pc ls (.int x3 :: .int x2 :: .ref (ad (71 + 2 * x1)) :: .ref (ad 0) :: rest)) :=
  rCVI (As := [.ref (ad (71 + 2 * x1)), .int x2, .int x3]) (k := 0) (ct5_fitsBy hx1 hg) ok5 lX5_fitsBy k_638 rfl rfl rfl C X rfl hrm hsz hR hcs hd kk
set_option maxRecDepth 100000 in
set_option maxHeartbeats 4000000 in
theorem w5_clocks_1 {p : Program} {l : Launch} {e : Env} {s : State} {m : MethodId} {args : Array Value} {below : List Frame} {meth : Method} {c : Code} {D : va_G} {cy : Nat → ClassId} {ad : Nat → Nat} {r : Int32} {μ : Mem} {ν : Lem} (C : Cx true p s m args meth c cX5_clocks 5 RX5 D cy ad) (hr : meth.sig.returnType = some .int) : ∀ (n : Nat), ∀ (x1 : Nat) (x2 : Int32) (x3 : Int32) (x4 : Int32) (hx1 : x1 < 4), f5_clocks_1 μ n x1 x2 x3 x4 = some r → ∀ (H : Heap) (locs : List Loc), Wd true D cy ad s.heap μ ν H locs → ∀ (ls : Array Slot), lv_has ls 5 [(0, .ref (ad 0)), (1, .ref (ad (71 + 2 * x1))), (2, .int x2), (3, .int x3), (4, .int x4)] → WI true p l e 6 143 s m args below meth c D cy ad .int r μ ν H locs (F0 m 6 ls []) := by
  have hx := C.1.1
  have hb := C.1.2.1
  have hown := C.1.2.2.2.1
  have hts := C.1.2.2.2.2
  intro n
  induction n with
  | zero =>
    intro x1 x2 x3 x4 hx1 hf H locs X ls hl
    rw [f5_clocks_1] at hf
    cases hf
  | succ n ih =>
    intro x1 x2 x3 x4 hx1 hf H locs X ls hl
    rw [f5_clocks_1] at hf
    refine lv_iload hx hb dX5_clocks_6 (lv_at hl 4 rfl) ?_
    refine lv_bipush (v := 60) hx hb dX5_clocks_8 (by decide) ?_
    refine lv_icmp_gt (tgt := 33) hx hb dX5_clocks_10 (by decide) (fun c10 => ?_) (fun c10 => ?_)
    · replace hf := ifp c10 hf
      refine lv_iload_n hx hb dX5_clocks_33 rfl (lv_at hl 3 rfl) ?_
      exact retI C X hr rfl (Option.some.inj hf) rfl rfl dX5_clocks_34
    · replace hf := ifn c10 hf
      refine lv_aload_n hx hb dX5_clocks_13 rfl (lv_at hl 0 rfl) ?_
      refine lv_aload_n hx hb dX5_clocks_14 rfl (lv_at hl 1 rfl) ?_
      refine lv_iload_n hx hb dX5_clocks_15 rfl (lv_at hl 2 rfl) ?_
      refine lv_iload hx hb dX5_clocks_16 (lv_at hl 4 rfl) ?_
      obtain ⟨r18, g18, hf⟩ := bd1_e hf
      refine qX5_257 (x1 := x1) hx1 g18 C X hl.1 ((Nat.le_of_ble_eq_true rfl)) ⟨(Nat.le_of_ble_eq_true rfl), (Nat.le_of_ble_eq_true rfl)⟩ ⟨Nat.zero_le _, Nat.zero_le _⟩ dX5_clocks_18 (fun H locs X b18 => ?_)
      refine lv_if_eq (tgt := 27) hx hb dX5_clocks_21 (by decide) (fun c21 => ?_) (fun c21 => ?_)
      · replace hf := ifp c21 hf
        obtain ⟨v27, e27, hf⟩ := nm_e2 hf
        refine rIinc (lv' := [(4, .int v27), (0, .ref (ad 0)), (1, .ref (ad (71 + 2 * x1))), (2, .int x2), (3, .int x3)]) hx hb dX5_clocks_27 hl (k := 4) rfl e27 rfl (by decide) rfl (fun ls hl => ?_)
        refine lv_goto (tgt := 6) hx hb dX5_clocks_30 (by decide) ?_
        exact ih x1 x2 x3 v27 hx1 hf _ _ X _ (lv_sub hl [1, 2, 3, 4, 0] rfl)
      · replace hf := ifn c21 hf
        obtain ⟨v24, e24, hf⟩ := nm_e2 hf
        refine rIinc (lv' := [(3, .int v24), (0, .ref (ad 0)), (1, .ref (ad (71 + 2 * x1))), (2, .int x2), (4, .int x4)]) hx hb dX5_clocks_24 hl (k := 3) rfl e24 rfl (by decide) rfl (fun ls hl => ?_)
        obtain ⟨v27, e27, hf⟩ := nm_e2 hf
        refine rIinc (lv' := [(4, .int v27), (3, .int v24), (0, .ref (ad 0)), (1, .ref (ad (71 + 2 * x1))), (2, .int x2)]) hx hb dX5_clocks_27 hl (k := 4) rfl e27 rfl (by decide) rfl (fun ls hl => ?_)
        refine lv_goto (tgt := 6) hx hb dX5_clocks_30 (by decide) ?_
        exact ih x1 x2 v24 v27 hx1 hf _ _ X _ (lv_sub hl [2, 3, 4, 1, 0] rfl)
set_option maxRecDepth 100000 in
set_option maxHeartbeats 4000000 in
theorem w5_clocks {p : Program} {l : Launch} {e : Env} {s : State} {m : MethodId} {args : Array Value} {below : List Frame} {meth : Method} {c : Code} {D : va_G} {cy : Nat → ClassId} {ad : Nat → Nat} {r : Int32} {μ : Mem} {ν : Lem} (C : Cx true p s m args meth c cX5_clocks 5 RX5 D cy ad) (hr : meth.sig.returnType = some .int) : ∀ (x1 : Nat) (x2 : Int32) (hx1 : x1 < 4), f5_clocks μ x1 x2 = some r → ∀ (H : Heap) (locs : List Loc), Wd true D cy ad s.heap μ ν H locs → ∀ (ls : Array Slot), lv_has ls 5 [(0, .ref (ad 0)), (1, .ref (ad (71 + 2 * x1))), (2, .int x2)] → WI true p l e 6 143 s m args below meth c D cy ad .int r μ ν H locs (F0 m 0 ls []) := by
  have hx := C.1.1
  have hb := C.1.2.1
  have hown := C.1.2.2.2.1
  have hts := C.1.2.2.2.2
  intro x1 x2 hx1 hf H locs X ls hl
  unfold f5_clocks at hf
  refine lv_iconst (v := 0) hx hb dX5_clocks_0 (by decide) ?_
  refine lv_istore_n (lv' := [(3, .int 0), (0, .ref (ad 0)), (1, .ref (ad (71 + 2 * x1))), (2, .int x2)]) hx hb dX5_clocks_1 rfl hl (by decide) rfl (fun ls hl => ?_)
  refine lv_bipush (v := (-60)) hx hb dX5_clocks_2 (by decide) ?_
  refine lv_istore (lv' := [(4, .int (-60)), (3, .int 0), (0, .ref (ad 0)), (1, .ref (ad (71 + 2 * x1))), (2, .int x2)]) hx hb dX5_clocks_4 hl (by decide) rfl (fun ls hl => ?_)
  exact w5_clocks_1 C hr  FUEL x1 x2 0 (-60) hx1 hf _ _ X _ (lv_sub hl [2, 3, 4, 1, 0] rfl)
theorem ct5_clocks {x1 : Nat} {x2 : Int32} (hx1 : x1 < 4) {μ : Mem} {ν : Lem} {r : Int32} (hg : f5_clocks μ x1 x2 = some r) : CtI true yX5_clocks cX5_clocks 5 6 143 .int (fun ad => [.ref (ad 0), .ref (ad (71 + 2 * x1)), .int x2]) μ ν r μ ν :=
  mkI (by decide) rfl (fun ad => Nat.le_of_ble_eq_true rfl) (fun p l e s m args below meth c D cy ad C hr X ls hl => w5_clocks C hr x1 x2 hx1 hg _ _ X _ hl)
theorem qX5_250 {p : Program} {l : Launch} {e : Env} {R : Room} {s : State} {m : MethodId} {args : Array Value} {below : List Frame} {meth : Method} {c : Code} {H : Heap} {locs : List Loc} {cells slots : Nat} {Q : State → Prop} {A : Nat → Prop} {cc : ByteArray} {nL : Nat} {D : va_G} {cy : Nat → ClassId} {ad : Nat → Nat} {μ : Mem} {ν : Lem} {pc : Nat} {ls : Array Slot} {rest : List Value} {x1 : Nat} {x2 : Int32} (hx1 : x1 < 4) {r : Int32} (hg : f5_clocks μ x1 x2 = some r) (C : CxA true A p s m args meth c cc nL RX5 D cy ad) (X : WdA true A D cy ad s.heap μ ν H locs) (hsz : ls.size = nL) (hrm : (rest.map fun v => v.category).sum ≤ 8) (hR : 6 + 1 ≤ R.frames ∧ 8 + (5 + 11) + 143 ≤ R.locals) (hcs : cells ≤ R.cells ∧ slots ≤ R.slots) (hd : decode cc pc = .ok (.invokevirtual 250, 3)) (kk : ∀ (H1 : Heap) (locs1 : List Loc), WdA true A D cy ad s.heap μ ν H1 locs1 → narrow .int (.int r) = .int r → W p l e R s m args below meth c H1 locs1 cells slots Q (F0 m (pc + 3) ls (.int r :: rest))) : W p l e R s m args below meth c H locs cells slots Q (F0 m pc ls (.int x2 :: .ref (ad (71 + 2 * x1)) :: .ref (ad 0) :: rest)) :=
  rCVI (As := [.ref (ad (71 + 2 * x1)), .int x2]) (k := 0) (ct5_clocks hx1 hg) ok5 lX5_clocks k_634 rfl rfl rfl C X rfl hrm hsz hR hcs hd kk
set_option maxRecDepth 100000 in
set_option maxHeartbeats 4000000 in
theorem w5_nearestClock_1 {p : Program} {l : Launch} {e : Env} {s : State} {m : MethodId} {args : Array Value} {below : List Frame} {meth : Method} {c : Code} {D : va_G} {cy : Nat → ClassId} {ad : Nat → Nat} {r : Int32} {μ : Mem} {ν : Lem} (C : Cx true p s m args meth c cX5_nearestClock 4 RX5 D cy ad) (hr : meth.sig.returnType = some .int) : ∀ (n : Nat), ∀ (x1 : Nat) (x2 : Int32) (x3 : Int32) (hx1 : x1 < 4), f5_nearestClock_1 μ n x1 x2 x3 = some r → ∀ (H : Heap) (locs : List Loc), Wd true D cy ad s.heap μ ν H locs → ∀ (ls : Array Slot), lv_has ls 4 [(0, .ref (ad 0)), (1, .ref (ad (71 + 2 * x1))), (2, .int x2), (3, .int x3)] → WI true p l e 6 143 s m args below meth c D cy ad .int r μ ν H locs (F0 m 2 ls []) := by
  have hx := C.1.1
  have hb := C.1.2.1
  have hown := C.1.2.2.2.1
  have hts := C.1.2.2.2.2
  intro n
  induction n with
  | zero =>
    intro x1 x2 x3 hx1 hf H locs X ls hl
    rw [f5_nearestClock_1] at hf
    cases hf
  | succ n ih =>
    intro x1 x2 x3 hx1 hf H locs X ls hl
    rw [f5_nearestClock_1] at hf
    refine lv_iload_n hx hb dX5_nearestClock_2 rfl (lv_at hl 3 rfl) ?_
    refine lv_bipush (v := 60) hx hb dX5_nearestClock_3 (by decide) ?_
    refine lv_icmp_gt (tgt := 40) hx hb dX5_nearestClock_5 (by decide) (fun c5 => ?_) (fun c5 => ?_)
    · replace hf := ifp c5 hf
      refine lv_bipush (v := 99) hx hb dX5_nearestClock_40 (by decide) ?_
      exact retI C X hr rfl (Option.some.inj hf) rfl rfl dX5_nearestClock_42
    · replace hf := ifn c5 hf
      refine lv_aload_n hx hb dX5_nearestClock_8 rfl (lv_at hl 0 rfl) ?_
      refine lv_aload_n hx hb dX5_nearestClock_9 rfl (lv_at hl 1 rfl) ?_
      refine lv_iload_n hx hb dX5_nearestClock_10 rfl (lv_at hl 2 rfl) ?_
      refine lv_iload_n hx hb dX5_nearestClock_11 rfl (lv_at hl 3 rfl) ?_
      refine lv_ineg hx hb dX5_nearestClock_12 ?_
      obtain ⟨r13, g13, hf⟩ := bd1_e hf
      refine qX5_257 (x1 := x1) hx1 g13 C X hl.1 ((Nat.le_of_ble_eq_true rfl)) ⟨(Nat.le_of_ble_eq_true rfl), (Nat.le_of_ble_eq_true rfl)⟩ ⟨Nat.zero_le _, Nat.zero_le _⟩ dX5_nearestClock_13 (fun H locs X b13 => ?_)
      refine lv_if_eq (tgt := 22) hx hb dX5_nearestClock_16 (by decide) (fun c16 => ?_) (fun c16 => ?_)
      · replace hf := ifp c16 hf
        refine lv_aload_n hx hb dX5_nearestClock_22 rfl (lv_at hl 0 rfl) ?_
        refine lv_aload_n hx hb dX5_nearestClock_23 rfl (lv_at hl 1 rfl) ?_
        refine lv_iload_n hx hb dX5_nearestClock_24 rfl (lv_at hl 2 rfl) ?_
        refine lv_iload_n hx hb dX5_nearestClock_25 rfl (lv_at hl 3 rfl) ?_
        obtain ⟨r26, g26, hf⟩ := bd1_e hf
        refine qX5_257 (x1 := x1) hx1 g26 C X hl.1 ((Nat.le_of_ble_eq_true rfl)) ⟨(Nat.le_of_ble_eq_true rfl), (Nat.le_of_ble_eq_true rfl)⟩ ⟨Nat.zero_le _, Nat.zero_le _⟩ dX5_nearestClock_26 (fun H locs X b26 => ?_)
        refine lv_if_eq (tgt := 34) hx hb dX5_nearestClock_29 (by decide) (fun c29 => ?_) (fun c29 => ?_)
        · replace hf := ifp c29 hf
          obtain ⟨v34, e34, hf⟩ := nm_e2 hf
          refine rIinc (lv' := [(3, .int v34), (0, .ref (ad 0)), (1, .ref (ad (71 + 2 * x1))), (2, .int x2)]) hx hb dX5_nearestClock_34 hl (k := 3) rfl e34 rfl (by decide) rfl (fun ls hl => ?_)
          refine lv_goto (tgt := 2) hx hb dX5_nearestClock_37 (by decide) ?_
          exact ih x1 x2 v34 hx1 hf _ _ X _ (lv_sub hl [1, 2, 3, 0] rfl)
        · replace hf := ifn c29 hf
          refine lv_iload_n hx hb dX5_nearestClock_32 rfl (lv_at hl 3 rfl) ?_
          exact retI C X hr rfl (Option.some.inj hf) rfl rfl dX5_nearestClock_33
      · replace hf := ifn c16 hf
        refine lv_iload_n hx hb dX5_nearestClock_19 rfl (lv_at hl 3 rfl) ?_
        refine lv_ineg hx hb dX5_nearestClock_20 ?_
        exact retI C X hr rfl (Option.some.inj hf) rfl rfl dX5_nearestClock_21
set_option maxRecDepth 100000 in
set_option maxHeartbeats 4000000 in
theorem w5_nearestClock {p : Program} {l : Launch} {e : Env} {s : State} {m : MethodId} {args : Array Value} {below : List Frame} {meth : Method} {c : Code} {D : va_G} {cy : Nat → ClassId} {ad : Nat → Nat} {r : Int32} {μ : Mem} {ν : Lem} (C : Cx true p s m args meth c cX5_nearestClock 4 RX5 D cy ad) (hr : meth.sig.returnType = some .int) : ∀ (x1 : Nat) (x2 : Int32) (hx1 : x1 < 4), f5_nearestClock μ x1 x2 = some r → ∀ (H : Heap) (locs : List Loc), Wd true D cy ad s.heap μ ν H locs → ∀ (ls : Array Slot), lv_has ls 4 [(0, .ref (ad 0)), (1, .ref (ad (71 + 2 * x1))), (2, .int x2)] → WI true p l e 6 143 s m args below meth c D cy ad .int r μ ν H locs (F0 m 0 ls []) := by
  have hx := C.1.1
  have hb := C.1.2.1
  have hown := C.1.2.2.2.1
  have hts := C.1.2.2.2.2
  intro x1 x2 hx1 hf H locs X ls hl
  unfold f5_nearestClock at hf
  refine lv_iconst (v := 0) hx hb dX5_nearestClock_0 (by decide) ?_
  refine lv_istore_n (lv' := [(3, .int 0), (0, .ref (ad 0)), (1, .ref (ad (71 + 2 * x1))), (2, .int x2)]) hx hb dX5_nearestClock_1 rfl hl (by decide) rfl (fun ls hl => ?_)
  exact w5_nearestClock_1 C hr  FUEL x1 x2 0 hx1 hf _ _ X _ (lv_sub hl [1, 2, 3, 0] rfl)
theorem ct5_nearestClock {x1 : Nat} {x2 : Int32} (hx1 : x1 < 4) {μ : Mem} {ν : Lem} {r : Int32} (hg : f5_nearestClock μ x1 x2 = some r) : CtI true yX5_nearestClock cX5_nearestClock 4 6 143 .int (fun ad => [.ref (ad 0), .ref (ad (71 + 2 * x1)), .int x2]) μ ν r μ ν :=
  mkI (by decide) rfl (fun ad => Nat.le_of_ble_eq_true rfl) (fun p l e s m args below meth c D cy ad C hr X ls hl => w5_nearestClock C hr x1 x2 hx1 hg _ _ X _ hl)
theorem qX5_254 {p : Program} {l : Launch} {e : Env} {R : Room} {s : State} {m : MethodId} {args : Array Value} {below : List Frame} {meth : Method} {c : Code} {H : Heap} {locs : List Loc} {cells slots : Nat} {Q : State → Prop} {A : Nat → Prop} {cc : ByteArray} {nL : Nat} {D : va_G} {cy : Nat → ClassId} {ad : Nat → Nat} {μ : Mem} {ν : Lem} {pc : Nat} {ls : Array Slot} {rest : List Value} {x1 : Nat} {x2 : Int32} (hx1 : x1 < 4) {r : Int32} (hg : f5_nearestClock μ x1 x2 = some r) (C : CxA true A p s m args meth c cc nL RX5 D cy ad) (X : WdA true A D cy ad s.heap μ ν H locs) (hsz : ls.size = nL) (hrm : (rest.map fun v => v.category).sum ≤ 8) (hR : 6 + 1 ≤ R.frames ∧ 8 + (4 + 11) + 143 ≤ R.locals) (hcs : cells ≤ R.cells ∧ slots ≤ R.slots) (hd : decode cc pc = .ok (.invokevirtual 254, 3)) (kk : ∀ (H1 : Heap) (locs1 : List Loc), WdA true A D cy ad s.heap μ ν H1 locs1 → narrow .int (.int r) = .int r → W p l e R s m args below meth c H1 locs1 cells slots Q (F0 m (pc + 3) ls (.int r :: rest))) : W p l e R s m args below meth c H locs cells slots Q (F0 m pc ls (.int x2 :: .ref (ad (71 + 2 * x1)) :: .ref (ad 0) :: rest)) :=
  rCVI (As := [.ref (ad (71 + 2 * x1)), .int x2]) (k := 0) (ct5_nearestClock hx1 hg) ok5 lX5_nearestClock k_642 rfl rfl rfl C X rfl hrm hsz hR hcs hd kk
set_option maxRecDepth 100000 in
set_option maxHeartbeats 4000000 in
theorem w5_wrong {p : Program} {l : Launch} {e : Env} {s : State} {m : MethodId} {args : Array Value} {below : List Frame} {meth : Method} {c : Code} {D : va_G} {cy : Nat → ClassId} {ad : Nat → Nat} {r : Int32} {μ : Mem} {ν : Lem} (C : Cx true p s m args meth c cX5_wrong 5 RX5 D cy ad) (hr : meth.sig.returnType = some .int) : ∀ (x1 : Int32) (x2 : Int32) (x3 : Int32), f5_wrong μ x1 x2 x3 = some r → ∀ (H : Heap) (locs : List Loc), Wd true D cy ad s.heap μ ν H locs → ∀ (ls : Array Slot), lv_has ls 5 [(0, .ref (ad 0)), (1, .int x1), (2, .int x2), (3, .int x3)] → WI true p l e 7 167 s m args below meth c D cy ad .int r μ ν H locs (F0 m 0 ls []) := by
  have hx := C.1.1
  have hb := C.1.2.1
  have hown := C.1.2.2.2.1
  have hts := C.1.2.2.2.2
  intro x1 x2 x3 hf H locs X ls hl
  unfold f5_wrong at hf
  refine lv_iload_n hx hb dX5_wrong_0 rfl (lv_at hl 1 rfl) ?_
  refine qX5_227 rfl C X hl.1 ((Nat.le_of_ble_eq_true rfl)) ⟨(Nat.le_of_ble_eq_true rfl), (Nat.le_of_ble_eq_true rfl)⟩ ⟨Nat.zero_le _, Nat.zero_le _⟩ dX5_wrong_1 (fun H locs X b1 => ?_)
  refine lv_if_eq (tgt := 27) hx hb dX5_wrong_4 (by decide) (fun c4 => ?_) (fun c4 => ?_)
  · replace hf := ifp c4 hf
    refine lv_sipush (v := (-1000)) hx hb dX5_wrong_27 (by decide) ?_
    exact retI C X hr rfl (Option.some.inj hf) rfl rfl dX5_wrong_30
  · replace hf := ifn c4 hf
    refine lv_aload_n hx hb dX5_wrong_7 rfl (lv_at hl 0 rfl) ?_
    refine gfX5_10 C X dX5_wrong_8 ?_
    refine lv_iload_n hx hb dX5_wrong_11 rfl (lv_at hl 2 rfl) ?_
    refine qX5_85 (o := 0) (by decide) rfl C X hl.1 ((Nat.le_of_ble_eq_true rfl)) ⟨(Nat.le_of_ble_eq_true rfl), (Nat.le_of_ble_eq_true rfl)⟩ ⟨Nat.zero_le _, Nat.zero_le _⟩ dX5_wrong_12 (fun H locs X b12 => ?_)
    refine lv_if_eq (tgt := 27) hx hb dX5_wrong_15 (by decide) (fun c15 => ?_) (fun c15 => ?_)
    · replace hf := ifp c15 hf
      refine lv_sipush (v := (-1000)) hx hb dX5_wrong_27 (by decide) ?_
      exact retI C X hr rfl (Option.some.inj hf) rfl rfl dX5_wrong_30
    · replace hf := ifn c15 hf
      refine lv_iload_n hx hb dX5_wrong_18 rfl (lv_at hl 3 rfl) ?_
      refine lv_if_lt (tgt := 27) hx hb dX5_wrong_19 (by decide) (fun c19 => ?_) (fun c19 => ?_)
      · replace hf := ifp c19 hf
        refine lv_sipush (v := (-1000)) hx hb dX5_wrong_27 (by decide) ?_
        exact retI C X hr rfl (Option.some.inj hf) rfl rfl dX5_wrong_30
      · replace hf := ifn c19 hf
        refine lv_iload_n hx hb dX5_wrong_22 rfl (lv_at hl 3 rfl) ?_
        refine lv_iconst (v := 1) hx hb dX5_wrong_23 (by decide) ?_
        refine lv_icmp_le (tgt := 31) hx hb dX5_wrong_24 (by decide) (fun c24 => ?_) (fun c24 => ?_)
        · replace hf := ifp c24 hf
          refine lv_aload_n hx hb dX5_wrong_31 rfl (lv_at hl 0 rfl) ?_
          refine gfX5_34 C X dX5_wrong_32 ?_
          refine lv_iload_n hx hb dX5_wrong_35 rfl (lv_at hl 1 rfl) ?_
          obtain ⟨h36, hf⟩ := gd_e hf
          have hb36 : x1.toNatClampNeg < 4 := by have := inb_lt h36; omega
          refine rAald (t := 2) (k' := (71 + 2 * x1.toNatClampNeg)) C X rfl rfl h36 (by omega) dX5_wrong_36 ?_
          refine lv_astore (lv' := [(4, .ref (ad (71 + 2 * x1.toNatClampNeg))), (0, .ref (ad 0)), (1, .int x1), (2, .int x2), (3, .int x3)]) hx hb dX5_wrong_37 hl (by decide) rfl (fun ls hl => ?_)
          refine lv_aload hx hb dX5_wrong_39 (lv_at hl 0 rfl) ?_
          refine qX5_230 (q := x1.toNatClampNeg) hb36 rfl C X hl.1 ((Nat.le_of_ble_eq_true rfl)) ⟨(Nat.le_of_ble_eq_true rfl), (Nat.le_of_ble_eq_true rfl)⟩ ⟨Nat.zero_le _, Nat.zero_le _⟩ dX5_wrong_41 (fun H locs X b41 => ?_)
          refine lv_if_ne (tgt := 55) hx hb dX5_wrong_44 (by decide) (fun c44 => ?_) (fun c44 => ?_)
          · replace hf := ifn c44 hf
            refine lv_sipush (v := (-1000)) hx hb dX5_wrong_55 (by decide) ?_
            exact retI C X hr rfl (Option.some.inj hf) rfl rfl dX5_wrong_58
          · replace hf := ifp c44 hf
            refine lv_aload hx hb dX5_wrong_47 (lv_at hl 0 rfl) ?_
            obtain ⟨r49, g49, hf⟩ := bd1_e hf
            refine qX5_234 (x0 := x1.toNatClampNeg) hb36 g49 C X hl.1 ((Nat.le_of_ble_eq_true rfl)) ⟨(Nat.le_of_ble_eq_true rfl), (Nat.le_of_ble_eq_true rfl)⟩ ⟨Nat.zero_le _, Nat.zero_le _⟩ dX5_wrong_49 (fun H locs X b49 => ?_)
            refine lv_if_ne (tgt := 59) hx hb dX5_wrong_52 (by decide) (fun c52 => ?_) (fun c52 => ?_)
            · replace hf := ifn c52 hf
              refine lv_iload_n hx hb dX5_wrong_59 rfl (lv_at hl 4 rfl) ?_
              refine lv_if_ne (tgt := 73) hx hb dX5_wrong_60 (by decide) (fun c60 => ?_) (fun c60 => ?_)
              · replace hf := ifn c60 hf
                refine lv_aload_n hx hb dX5_wrong_73 rfl (lv_at hl 1 rfl) ?_
                refine lv_aload hx hb dX5_wrong_74 (lv_at hl 0 rfl) ?_
                refine lv_iload_n hx hb dX5_wrong_76 rfl (lv_at hl 3 rfl) ?_
                obtain ⟨r77, g77, hf⟩ := bd1_e hf
                refine qX5_254 (x1 := x1.toNatClampNeg) hb36 g77 C X hl.1 ((Nat.le_of_ble_eq_true rfl)) ⟨(Nat.le_of_ble_eq_true rfl), (Nat.le_of_ble_eq_true rfl)⟩ ⟨Nat.zero_le _, Nat.zero_le _⟩ dX5_wrong_77 (fun H locs X b77 => ?_)
                exact retI C X hr rfl (Option.some.inj hf) rfl rfl dX5_wrong_80
              · replace hf := ifp c60 hf
                refine lv_aload_n hx hb dX5_wrong_63 rfl (lv_at hl 1 rfl) ?_
                refine lv_aload hx hb dX5_wrong_64 (lv_at hl 0 rfl) ?_
                refine lv_iload_n hx hb dX5_wrong_66 rfl (lv_at hl 3 rfl) ?_
                obtain ⟨r67, g67, hf⟩ := bd1_e hf
                refine qX5_250 (x1 := x1.toNatClampNeg) hb36 g67 C X hl.1 ((Nat.le_of_ble_eq_true rfl)) ⟨(Nat.le_of_ble_eq_true rfl), (Nat.le_of_ble_eq_true rfl)⟩ ⟨Nat.zero_le _, Nat.zero_le _⟩ dX5_wrong_67 (fun H locs X b67 => ?_)
                refine lv_goto (tgt := 80) hx hb dX5_wrong_70 (by decide) ?_
                exact retI C X hr rfl (Option.some.inj hf) rfl rfl dX5_wrong_80
            · replace hf := ifp c52 hf
              refine lv_sipush (v := (-1000)) hx hb dX5_wrong_55 (by decide) ?_
              exact retI C X hr rfl (Option.some.inj hf) rfl rfl dX5_wrong_58
        · replace hf := ifn c24 hf
          refine lv_sipush (v := (-1000)) hx hb dX5_wrong_27 (by decide) ?_
          exact retI C X hr rfl (Option.some.inj hf) rfl rfl dX5_wrong_30
theorem ct5_wrong {x1 : Int32} {x2 : Int32} {x3 : Int32} {μ : Mem} {ν : Lem} {r : Int32} (hg : f5_wrong μ x1 x2 x3 = some r) : CtI true yX5_wrong cX5_wrong 5 7 167 .int (fun ad => [.ref (ad 0), .int x1, .int x2, .int x3]) μ ν r μ ν :=
  mkI (by decide) rfl (fun ad => Nat.le_of_ble_eq_true rfl) (fun p l e s m args below meth c D cy ad C hr X ls hl => w5_wrong C hr x1 x2 x3 hg _ _ X _ hl)
theorem qL_90 {p : Program} {l : Launch} {e : Env} {R : Room} {s : State} {m : MethodId} {args : Array Value} {below : List Frame} {meth : Method} {c : Code} {H : Heap} {locs : List Loc} {cells slots : Nat} {Q : State → Prop} {A : Nat → Prop} {cc : ByteArray} {nL : Nat} {D : va_G} {cy : Nat → ClassId} {ad : Nat → Nat} {μ : Mem} {ν : Lem} {pc : Nat} {ls : Array Slot} {rest : List Value} {x1 : Int32} {x2 : Int32} {x3 : Int32} {r : Int32} (hg : f5_wrong μ x1 x2 x3 = some r) (C : CxA true A p s m args meth c cc nL RL D cy ad) (X : WdA true A D cy ad s.heap μ ν H locs) (hsz : ls.size = nL) (hrm : (rest.map fun v => v.category).sum ≤ 8) (hR : 7 + 1 ≤ R.frames ∧ 8 + (5 + 11) + 167 ≤ R.locals) (hcs : cells ≤ R.cells ∧ slots ≤ R.slots) (hd : decode cc pc = .ok (.invokevirtual 90, 3)) (kk : ∀ (H1 : Heap) (locs1 : List Loc), WdA true A D cy ad s.heap μ ν H1 locs1 → narrow .int (.int r) = .int r → W p l e R s m args below meth c H1 locs1 cells slots Q (F0 m (pc + 3) ls (.int r :: rest))) : W p l e R s m args below meth c H locs cells slots Q (F0 m pc ls (.int x3 :: .int x2 :: .int x1 :: .ref (ad 0) :: rest)) :=
  rCVI (As := [.int x1, .int x2, .int x3]) (k := 0) (ct5_wrong hg) ok5 lX5_wrong k_630 rfl rfl rfl C X rfl hrm hsz hR hcs hd kk
set_option maxRecDepth 100000 in
set_option maxHeartbeats 4000000 in
theorem w5_unlikePosts_1 {p : Program} {l : Launch} {e : Env} {s : State} {m : MethodId} {args : Array Value} {below : List Frame} {meth : Method} {c : Code} {D : va_G} {cy : Nat → ClassId} {ad : Nat → Nat} {r : Int32} {μ : Mem} {ν : Lem} (C : Cx true p s m args meth c cX5_unlikePosts 6 RX5 D cy ad) (hr : meth.sig.returnType = some .int) : ∀ (n : Nat), ∀ (x1 : Nat) (x2 : Nat) (x3 : Int32) (x4 : Int32) (hx1 : x1 < 13) (hx2 : x2 < 13), f5_unlikePosts_1 μ n x1 x2 x3 x4 = some r → ∀ (H : Heap) (locs : List Loc), Wd true D cy ad s.heap μ ν H locs → ∀ (ls : Array Slot), lv_has ls 6 [(0, .ref (ad 0)), (1, .ref (ad (14 + 3 * x1))), (2, .ref (ad (14 + 3 * x2))), (3, .int x3), (4, .int x4)] → WI true p l e 4 92 s m args below meth c D cy ad .int r μ ν H locs (F0 m 5 ls []) := by
  have hx := C.1.1
  have hb := C.1.2.1
  have hown := C.1.2.2.2.1
  have hts := C.1.2.2.2.2
  intro n
  induction n with
  | zero =>
    intro x1 x2 x3 x4 hx1 hx2 hf H locs X ls hl
    rw [f5_unlikePosts_1] at hf
    cases hf
  | succ n ih =>
    intro x1 x2 x3 x4 hx1 hx2 hf H locs X ls hl
    rw [f5_unlikePosts_1] at hf
    refine lv_iload hx hb dX5_unlikePosts_5 (lv_at hl 4 rfl) ?_
    refine lv_bipush (v := 11) hx hb dX5_unlikePosts_7 (by decide) ?_
    refine lv_icmp_ge (tgt := 61) hx hb dX5_unlikePosts_9 (by decide) (fun c9 => ?_) (fun c9 => ?_)
    · replace hf := ifp c9 hf
      refine lv_iload_n hx hb dX5_unlikePosts_61 rfl (lv_at hl 3 rfl) ?_
      exact retI C X hr rfl (Option.some.inj hf) rfl rfl dX5_unlikePosts_62
    · replace hf := ifn c9 hf
      refine lv_bipush (v := 60) hx hb dX5_unlikePosts_12 (by decide) ?_
      refine lv_iload hx hb dX5_unlikePosts_14 (lv_at hl 4 rfl) ?_
      refine lv_imul hx hb dX5_unlikePosts_16 ?_
      obtain ⟨v17, e17, hf⟩ := nm_e2 hf
      refine st_i e17 ?_
      refine lv_istore (lv' := [(5, .int v17), (0, .ref (ad 0)), (1, .ref (ad (14 + 3 * x1))), (2, .ref (ad (14 + 3 * x2))), (3, .int x3), (4, .int x4)]) hx hb dX5_unlikePosts_17 hl (by decide) rfl (fun ls hl => ?_)
      refine lv_aload_n hx hb dX5_unlikePosts_19 rfl (lv_at hl 2 rfl) ?_
      refine lv_iload hx hb dX5_unlikePosts_20 (lv_at hl 0 rfl) ?_
      refine lv_aload_n hx hb dX5_unlikePosts_22 rfl (lv_at hl 1 rfl) ?_
      refine gfX5_10 C X dX5_unlikePosts_23 ?_
      refine gfX5_82 (o := 0) (by decide) rfl C X dX5_unlikePosts_26 ?_
      obtain ⟨r29, g29, hf⟩ := bd1_e hf
      refine qX5_143 (j := x1) hx1 g29 C X hl.1 ((Nat.le_of_ble_eq_true rfl)) ⟨(Nat.le_of_ble_eq_true rfl), (Nat.le_of_ble_eq_true rfl)⟩ ⟨Nat.zero_le _, Nat.zero_le _⟩ dX5_unlikePosts_29 (fun H locs X b29 => ?_)
      refine lv_aload_n hx hb dX5_unlikePosts_32 rfl (lv_at hl 3 rfl) ?_
      refine lv_iload hx hb dX5_unlikePosts_33 (lv_at hl 0 rfl) ?_
      refine lv_aload_n hx hb dX5_unlikePosts_35 rfl (lv_at hl 1 rfl) ?_
      refine gfX5_10 C X dX5_unlikePosts_36 ?_
      refine gfX5_82 (o := 0) (by decide) rfl C X dX5_unlikePosts_39 ?_
      obtain ⟨r42, g42, hf⟩ := bd1_e hf
      refine qX5_143 (j := x2) hx2 g42 C X hl.1 ((Nat.le_of_ble_eq_true rfl)) ⟨(Nat.le_of_ble_eq_true rfl), (Nat.le_of_ble_eq_true rfl)⟩ ⟨Nat.zero_le _, Nat.zero_le _⟩ dX5_unlikePosts_42 (fun H locs X b42 => ?_)
      refine lv_icmp_eq (tgt := 55) hx hb dX5_unlikePosts_45 (by decide) (fun c45 => ?_) (fun c45 => ?_)
      · replace hf := ifp c45 hf
        obtain ⟨v55, e55, hf⟩ := nm_e2 hf
        refine rIinc (lv' := [(4, .int v55), (5, .int v17), (0, .ref (ad 0)), (1, .ref (ad (14 + 3 * x1))), (2, .ref (ad (14 + 3 * x2))), (3, .int x3)]) hx hb dX5_unlikePosts_55 hl (k := 5) rfl e55 rfl (by decide) rfl (fun ls hl => ?_)
        refine lv_goto (tgt := 5) hx hb dX5_unlikePosts_58 (by decide) ?_
        exact ih x1 x2 x3 v55 hx1 hx2 hf _ _ X _ (lv_sub hl [2, 3, 4, 5, 0] rfl)
      · replace hf := ifn c45 hf
        refine lv_iload_n hx hb dX5_unlikePosts_48 rfl (lv_at hl 4 rfl) ?_
        refine lv_iconst (v := 1) hx hb dX5_unlikePosts_49 (by decide) ?_
        refine lv_iload hx hb dX5_unlikePosts_50 (lv_at hl 5 rfl) ?_
        refine lv_ishl hx hb dX5_unlikePosts_52 ?_
        refine lv_ior hx hb dX5_unlikePosts_53 ?_
        obtain ⟨v54, e54, hf⟩ := nm_e2 hf
        refine st_i e54 ?_
        refine lv_istore_n (lv' := [(3, .int v54), (5, .int v17), (0, .ref (ad 0)), (1, .ref (ad (14 + 3 * x1))), (2, .ref (ad (14 + 3 * x2))), (4, .int x4)]) hx hb dX5_unlikePosts_54 rfl hl (by decide) rfl (fun ls hl => ?_)
        obtain ⟨v55, e55, hf⟩ := nm_e2 hf
        refine rIinc (lv' := [(4, .int v55), (3, .int v54), (5, .int v17), (0, .ref (ad 0)), (1, .ref (ad (14 + 3 * x1))), (2, .ref (ad (14 + 3 * x2)))]) hx hb dX5_unlikePosts_55 hl (k := 5) rfl e55 rfl (by decide) rfl (fun ls hl => ?_)
        refine lv_goto (tgt := 5) hx hb dX5_unlikePosts_58 (by decide) ?_
        exact ih x1 x2 v54 v55 hx1 hx2 hf _ _ X _ (lv_sub hl [3, 4, 5, 1, 0] rfl)
set_option maxRecDepth 100000 in
set_option maxHeartbeats 4000000 in
theorem w5_unlikePosts {p : Program} {l : Launch} {e : Env} {s : State} {m : MethodId} {args : Array Value} {below : List Frame} {meth : Method} {c : Code} {D : va_G} {cy : Nat → ClassId} {ad : Nat → Nat} {r : Int32} {μ : Mem} {ν : Lem} (C : Cx true p s m args meth c cX5_unlikePosts 6 RX5 D cy ad) (hr : meth.sig.returnType = some .int) : ∀ (x1 : Nat) (x2 : Nat) (hx1 : x1 < 13) (hx2 : x2 < 13), f5_unlikePosts μ x1 x2 = some r → ∀ (H : Heap) (locs : List Loc), Wd true D cy ad s.heap μ ν H locs → ∀ (ls : Array Slot), lv_has ls 6 [(0, .ref (ad 0)), (1, .ref (ad (14 + 3 * x1))), (2, .ref (ad (14 + 3 * x2)))] → WI true p l e 4 92 s m args below meth c D cy ad .int r μ ν H locs (F0 m 0 ls []) := by
  have hx := C.1.1
  have hb := C.1.2.1
  have hown := C.1.2.2.2.1
  have hts := C.1.2.2.2.2
  intro x1 x2 hx1 hx2 hf H locs X ls hl
  unfold f5_unlikePosts at hf
  refine lv_iconst (v := 0) hx hb dX5_unlikePosts_0 (by decide) ?_
  refine lv_istore_n (lv' := [(3, .int 0), (0, .ref (ad 0)), (1, .ref (ad (14 + 3 * x1))), (2, .ref (ad (14 + 3 * x2)))]) hx hb dX5_unlikePosts_1 rfl hl (by decide) rfl (fun ls hl => ?_)
  refine lv_iconst (v := 0) hx hb dX5_unlikePosts_2 (by decide) ?_
  refine lv_istore (lv' := [(4, .int 0), (3, .int 0), (0, .ref (ad 0)), (1, .ref (ad (14 + 3 * x1))), (2, .ref (ad (14 + 3 * x2)))]) hx hb dX5_unlikePosts_3 hl (by decide) rfl (fun ls hl => ?_)
  exact w5_unlikePosts_1 C hr  FUEL x1 x2 0 0 hx1 hx2 hf _ _ X _ (lv_sub hl [2, 3, 4, 1, 0] rfl)
theorem ct5_unlikePosts {x1 : Nat} {x2 : Nat} (hx1 : x1 < 13) (hx2 : x2 < 13) {μ : Mem} {ν : Lem} {r : Int32} (hg : f5_unlikePosts μ x1 x2 = some r) : CtI true yX5_unlikePosts cX5_unlikePosts 6 4 92 .int (fun ad => [.ref (ad 0), .ref (ad (14 + 3 * x1)), .ref (ad (14 + 3 * x2))]) μ ν r μ ν :=
  mkI (by decide) rfl (fun ad => Nat.le_of_ble_eq_true rfl) (fun p l e s m args below meth c D cy ad C hr X ls hl => w5_unlikePosts C hr x1 x2 hx1 hx2 hg _ _ X _ hl)
theorem qX5_277 {p : Program} {l : Launch} {e : Env} {R : Room} {s : State} {m : MethodId} {args : Array Value} {below : List Frame} {meth : Method} {c : Code} {H : Heap} {locs : List Loc} {cells slots : Nat} {Q : State → Prop} {A : Nat → Prop} {cc : ByteArray} {nL : Nat} {D : va_G} {cy : Nat → ClassId} {ad : Nat → Nat} {μ : Mem} {ν : Lem} {pc : Nat} {ls : Array Slot} {rest : List Value} {x1 : Nat} {x2 : Nat} (hx1 : x1 < 13) (hx2 : x2 < 13) {r : Int32} (hg : f5_unlikePosts μ x1 x2 = some r) (C : CxA true A p s m args meth c cc nL RX5 D cy ad) (X : WdA true A D cy ad s.heap μ ν H locs) (hsz : ls.size = nL) (hrm : (rest.map fun v => v.category).sum ≤ 8) (hR : 4 + 1 ≤ R.frames ∧ 8 + (6 + 11) + 92 ≤ R.locals) (hcs : cells ≤ R.cells ∧ slots ≤ R.slots) (hd : decode cc pc = .ok (.invokevirtual 277, 3)) (kk : ∀ (H1 : Heap) (locs1 : List Loc), WdA true A D cy ad s.heap μ ν H1 locs1 → narrow .int (.int r) = .int r → W p l e R s m args below meth c H1 locs1 cells slots Q (F0 m (pc + 3) ls (.int r :: rest))) : W p l e R s m args below meth c H locs cells slots Q (F0 m pc ls (.ref (ad (14 + 3 * x2)) :: .ref (ad (14 + 3 * x1)) :: .ref (ad 0) :: rest)) :=
  rCVI (As := [.ref (ad (14 + 3 * x1)), .ref (ad (14 + 3 * x2))]) (k := 0) (ct5_unlikePosts hx1 hx2 hg) ok5 lX5_unlikePosts k_654 rfl rfl rfl C X rfl hrm hsz hR hcs hd kk
set_option maxRecDepth 100000 in
set_option maxHeartbeats 4000000 in
theorem w5_layUnlike_2 {p : Program} {l : Launch} {e : Env} {s : State} {m : MethodId} {args : Array Value} {below : List Frame} {meth : Method} {c : Code} {D : va_G} {cy : Nat → ClassId} {ad : Nat → Nat} {r : Int32} {μ1 : Mem} {ν : Lem} (C : Cx true p s m args meth c cX5_layUnlike 4 RX5 D cy ad) (hr : meth.sig.returnType = some .int) (K4 : Mem → Int32 → Int32 → Option (Int32 × Mem)) (hK4 : ∀ (μ : Mem) (x1 : Int32) (x2 : Int32), K4 μ x1 x2 = some (r, μ1) → ∀ (H : Heap) (locs : List Loc), Wd true D cy ad s.heap μ ν H locs → ∀ (ls : Array Slot), lv_has ls 4 [(0, .ref (ad 0)), (1, .int x1), (2, .int x2)] → WI true p l e 5 117 s m args below meth c D cy ad .int r μ1 ν H locs (F0 m 4 ls [])) : ∀ (n : Nat), ∀ (μ : Mem) (x1 : Int32) (x2 : Int32) (x3 : Int32), f5_layUnlike_2 K4 n μ x1 x2 x3 = some (r, μ1) → ∀ (H : Heap) (locs : List Loc), Wd true D cy ad s.heap μ ν H locs → ∀ (ls : Array Slot), lv_has ls 4 [(0, .ref (ad 0)), (1, .int x1), (2, .int x2), (3, .int x3)] → WI true p l e 5 117 s m args below meth c D cy ad .int r μ1 ν H locs (F0 m 17 ls []) := by
  have hx := C.1.1
  have hb := C.1.2.1
  have hown := C.1.2.2.2.1
  have hts := C.1.2.2.2.2
  intro n
  induction n with
  | zero =>
    intro μ x1 x2 x3 hf H locs X ls hl
    rw [f5_layUnlike_2] at hf
    cases hf
  | succ n ih =>
    intro μ x1 x2 x3 hf H locs X ls hl
    rw [f5_layUnlike_2] at hf
    refine lv_iload_n hx hb dX5_layUnlike_17 rfl (lv_at hl 3 rfl) ?_
    refine lv_iload_n hx hb dX5_layUnlike_18 rfl (lv_at hl 2 rfl) ?_
    refine lv_icmp_ge (tgt := 65) hx hb dX5_layUnlike_19 (by decide) (fun c19 => ?_) (fun c19 => ?_)
    · replace hf := ifp c19 hf
      obtain ⟨v65, e65, hf⟩ := nm_e2 hf
      refine rIinc (lv' := [(2, .int v65), (0, .ref (ad 0)), (1, .int x1), (3, .int x3)]) hx hb dX5_layUnlike_65 hl (k := 2) rfl e65 rfl (by decide) rfl (fun ls hl => ?_)
      refine lv_goto (tgt := 4) hx hb dX5_layUnlike_68 (by decide) ?_
      exact hK4 μ x1 v65 hf _ _ X _ (lv_sub hl [1, 2, 0] rfl)
    · replace hf := ifn c19 hf
      refine lv_iload_n hx hb dX5_layUnlike_22 rfl (lv_at hl 1 rfl) ?_
      refine lv_bipush (v := 15) hx hb dX5_layUnlike_23 (by decide) ?_
      refine lv_icmp_ge (tgt := 65) hx hb dX5_layUnlike_25 (by decide) (fun c25 => ?_) (fun c25 => ?_)
      · replace hf := ifp c25 hf
        obtain ⟨v65, e65, hf⟩ := nm_e2 hf
        refine rIinc (lv' := [(2, .int v65), (0, .ref (ad 0)), (1, .int x1), (3, .int x3)]) hx hb dX5_layUnlike_65 hl (k := 2) rfl e65 rfl (by decide) rfl (fun ls hl => ?_)
        refine lv_goto (tgt := 4) hx hb dX5_layUnlike_68 (by decide) ?_
        exact hK4 μ x1 v65 hf _ _ X _ (lv_sub hl [1, 2, 0] rfl)
      · replace hf := ifn c25 hf
        refine lv_aload_n hx hb dX5_layUnlike_28 rfl (lv_at hl 0 rfl) ?_
        refine gfX5_51 C X dX5_layUnlike_29 ?_
        refine lv_iload_n hx hb dX5_layUnlike_32 rfl (lv_at hl 1 rfl) ?_
        refine lv_aload_n hx hb dX5_layUnlike_33 rfl (lv_at hl 0 rfl) ?_
        refine lv_aload_n hx hb dX5_layUnlike_34 rfl (lv_at hl 0 rfl) ?_
        refine gfX5_10 C X dX5_layUnlike_35 ?_
        refine gfX5_92 (o := 0) (by decide) rfl (k2 := 12) rfl C X dX5_layUnlike_38 ?_
        refine lv_iload_n hx hb dX5_layUnlike_41 rfl (lv_at hl 2 rfl) ?_
        obtain ⟨h42, hf⟩ := gd_e hf
        have hb42 : x2.toNatClampNeg < 13 := by have := inb_lt h42; omega
        refine rAald (t := 0) (k' := (14 + 3 * x2.toNatClampNeg)) C X rfl rfl h42 (by omega) dX5_layUnlike_42 ?_
        refine lv_aload_n hx hb dX5_layUnlike_43 rfl (lv_at hl 0 rfl) ?_
        refine gfX5_10 C X dX5_layUnlike_44 ?_
        refine gfX5_92 (o := 0) (by decide) rfl (k2 := 12) rfl C X dX5_layUnlike_47 ?_
        refine lv_iload_n hx hb dX5_layUnlike_50 rfl (lv_at hl 3 rfl) ?_
        obtain ⟨h51, hf⟩ := gd_e hf
        have hb51 : x3.toNatClampNeg < 13 := by have := inb_lt h51; omega
        refine rAald (t := 0) (k' := (14 + 3 * x3.toNatClampNeg)) C X rfl rfl h51 (by omega) dX5_layUnlike_51 ?_
        obtain ⟨r52, g52, hf⟩ := bd1_e hf
        refine qX5_277 (x1 := x2.toNatClampNeg) hb42 (x2 := x3.toNatClampNeg) hb51 g52 C X hl.1 ((Nat.le_of_ble_eq_true rfl)) ⟨(Nat.le_of_ble_eq_true rfl), (Nat.le_of_ble_eq_true rfl)⟩ ⟨Nat.zero_le _, Nat.zero_le _⟩ dX5_layUnlike_52 (fun H locs X b52 => ?_)
        obtain ⟨h55, hf⟩ := gd_e hf
        obtain ⟨μ55, e55, hf⟩ := nm_e2 hf
        refine rIast2 C X rfl h55 e55 dX5_layUnlike_55 (fun H locs X => ?_)
        obtain ⟨v56, e56, hf⟩ := nm_e2 hf
        refine rIinc (lv' := [(1, .int v56), (0, .ref (ad 0)), (2, .int x2), (3, .int x3)]) hx hb dX5_layUnlike_56 hl (k := 1) rfl e56 rfl (by decide) rfl (fun ls hl => ?_)
        obtain ⟨v59, e59, hf⟩ := nm_e2 hf
        refine rIinc (lv' := [(3, .int v59), (1, .int v56), (0, .ref (ad 0)), (2, .int x2)]) hx hb dX5_layUnlike_59 hl (k := 3) rfl e59 rfl (by decide) rfl (fun ls hl => ?_)
        refine lv_goto (tgt := 17) hx hb dX5_layUnlike_62 (by decide) ?_
        exact ih μ55 v56 x2 v59 hf _ _ X _ (lv_sub hl [2, 1, 3, 0] rfl)
set_option maxRecDepth 100000 in
set_option maxHeartbeats 4000000 in
theorem w5_layUnlike_1 {p : Program} {l : Launch} {e : Env} {s : State} {m : MethodId} {args : Array Value} {below : List Frame} {meth : Method} {c : Code} {D : va_G} {cy : Nat → ClassId} {ad : Nat → Nat} {r : Int32} {μ1 : Mem} {ν : Lem} (C : Cx true p s m args meth c cX5_layUnlike 4 RX5 D cy ad) (hr : meth.sig.returnType = some .int) : ∀ (n : Nat), ∀ (μ : Mem) (x1 : Int32) (x2 : Int32), f5_layUnlike_1 n μ x1 x2 = some (r, μ1) → ∀ (H : Heap) (locs : List Loc), Wd true D cy ad s.heap μ ν H locs → ∀ (ls : Array Slot), lv_has ls 4 [(0, .ref (ad 0)), (1, .int x1), (2, .int x2)] → WI true p l e 5 117 s m args below meth c D cy ad .int r μ1 ν H locs (F0 m 4 ls []) := by
  have hx := C.1.1
  have hb := C.1.2.1
  have hown := C.1.2.2.2.1
  have hts := C.1.2.2.2.2
  intro n
  induction n with
  | zero =>
    intro μ x1 x2 hf H locs X ls hl
    rw [f5_layUnlike_1] at hf
    cases hf
  | succ n ih =>
    intro μ x1 x2 hf H locs X ls hl
    rw [f5_layUnlike_1] at hf
    refine lv_iload_n hx hb dX5_layUnlike_4 rfl (lv_at hl 2 rfl) ?_
    refine lv_aload_n hx hb dX5_layUnlike_5 rfl (lv_at hl 0 rfl) ?_
    refine gfX5_10 C X dX5_layUnlike_6 ?_
    refine gfX5_102 (o := 0) (by decide) rfl C X dX5_layUnlike_9 ?_
    refine lv_icmp_ge (tgt := 71) hx hb dX5_layUnlike_12 (by decide) (fun c12 => ?_) (fun c12 => ?_)
    · replace hf := ifp c12 hf
      refine lv_iload_n hx hb dX5_layUnlike_71 rfl (lv_at hl 1 rfl) ?_
      exact retI C X hr rfl (so2 hf).1 (so2 hf).2 rfl dX5_layUnlike_72
    · replace hf := ifn c12 hf
      refine lv_iconst (v := 0) hx hb dX5_layUnlike_15 (by decide) ?_
      refine lv_istore_n (lv' := [(3, .int 0), (0, .ref (ad 0)), (1, .int x1), (2, .int x2)]) hx hb dX5_layUnlike_16 rfl hl (by decide) rfl (fun ls hl => ?_)
      exact w5_layUnlike_2 C hr (f5_layUnlike_1 n) ih FUEL μ x1 x2 0 hf _ _ X _ (lv_sub hl [1, 2, 3, 0] rfl)
set_option maxRecDepth 100000 in
set_option maxHeartbeats 4000000 in
theorem w5_layUnlike {p : Program} {l : Launch} {e : Env} {s : State} {m : MethodId} {args : Array Value} {below : List Frame} {meth : Method} {c : Code} {D : va_G} {cy : Nat → ClassId} {ad : Nat → Nat} {r : Int32} {μ1 : Mem} {ν : Lem} (C : Cx true p s m args meth c cX5_layUnlike 4 RX5 D cy ad) (hr : meth.sig.returnType = some .int) : ∀ (μ : Mem), f5_layUnlike μ = some (r, μ1) → ∀ (H : Heap) (locs : List Loc), Wd true D cy ad s.heap μ ν H locs → ∀ (ls : Array Slot), lv_has ls 4 [(0, .ref (ad 0))] → WI true p l e 5 117 s m args below meth c D cy ad .int r μ1 ν H locs (F0 m 0 ls []) := by
  have hx := C.1.1
  have hb := C.1.2.1
  have hown := C.1.2.2.2.1
  have hts := C.1.2.2.2.2
  intro μ hf H locs X ls hl
  unfold f5_layUnlike at hf
  refine lv_iconst (v := 0) hx hb dX5_layUnlike_0 (by decide) ?_
  refine lv_istore_n (lv' := [(1, .int 0), (0, .ref (ad 0))]) hx hb dX5_layUnlike_1 rfl hl (by decide) rfl (fun ls hl => ?_)
  refine lv_iconst (v := 0) hx hb dX5_layUnlike_2 (by decide) ?_
  refine lv_istore_n (lv' := [(2, .int 0), (1, .int 0), (0, .ref (ad 0))]) hx hb dX5_layUnlike_3 rfl hl (by decide) rfl (fun ls hl => ?_)
  exact w5_layUnlike_1 C hr  FUEL μ 0 0 hf _ _ X _ (lv_sub hl [2, 1, 0] rfl)
theorem ct5_layUnlike {μ : Mem} {ν : Lem} {r : Int32} {μ1 : Mem} (hg : f5_layUnlike μ = some (r, μ1)) : CtI true yX5_layUnlike cX5_layUnlike 4 5 117 .int (fun ad => [.ref (ad 0)]) μ ν r μ1 ν :=
  mkI (by decide) rfl (fun ad => Nat.le_of_ble_eq_true rfl) (fun p l e s m args below meth c D cy ad C hr X ls hl => w5_layUnlike C hr μ hg _ _ X _ hl)
theorem qX5_266 {p : Program} {l : Launch} {e : Env} {R : Room} {s : State} {m : MethodId} {args : Array Value} {below : List Frame} {meth : Method} {c : Code} {H : Heap} {locs : List Loc} {cells slots : Nat} {Q : State → Prop} {A : Nat → Prop} {cc : ByteArray} {nL : Nat} {D : va_G} {cy : Nat → ClassId} {ad : Nat → Nat} {μ : Mem} {ν : Lem} {pc : Nat} {ls : Array Slot} {rest : List Value} {r : Int32} {μ1 : Mem} (hg : f5_layUnlike μ = some (r, μ1)) (C : CxA true A p s m args meth c cc nL RX5 D cy ad) (X : WdA true A D cy ad s.heap μ ν H locs) (hsz : ls.size = nL) (hrm : (rest.map fun v => v.category).sum ≤ 8) (hR : 5 + 1 ≤ R.frames ∧ 8 + (4 + 11) + 117 ≤ R.locals) (hcs : cells ≤ R.cells ∧ slots ≤ R.slots) (hd : decode cc pc = .ok (.invokevirtual 266, 3)) (kk : ∀ (H1 : Heap) (locs1 : List Loc), WdA true A D cy ad s.heap μ1 ν H1 locs1 → narrow .int (.int r) = .int r → W p l e R s m args below meth c H1 locs1 cells slots Q (F0 m (pc + 3) ls (.int r :: rest))) : W p l e R s m args below meth c H locs cells slots Q (F0 m pc ls (.ref (ad 0) :: rest)) :=
  rCVI (As := []) (k := 0) (ct5_layUnlike hg) ok5 lX5_layUnlike k_650 rfl rfl rfl C X rfl hrm hsz hR hcs hd kk
