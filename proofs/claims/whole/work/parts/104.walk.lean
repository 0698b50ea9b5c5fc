set_option maxRecDepth 100000 in
set_option maxHeartbeats 4000000 in
theorem wJ6_bitCount_0f7a4 {p : Program} {l : Launch} {e : Env} {s : State} {m : MethodId} {args : Array Value} {below : List Frame} {meth : Method} {c : Code} {D : va_G} {cy : Nat → ClassId} {ad : Nat → Nat} {r : Int32} {μ : Mem} {ν : Lem} (C : Cx true p s m args meth c cJ6_bitCount_0f7a4 1 RJ6 D cy ad) (hr : meth.sig.returnType = some .int) : ∀ (x0 : Int32), fJ6_bitCount_0f7a4 x0 = r → ∀ (H : Heap) (locs : List Loc), Wd true D cy ad s.heap μ ν H locs → ∀ (ls : Array Slot), lv_has ls 1 [(0, .int x0)] → WI true p l e 0 0 s m args below meth c D cy ad .int r μ ν H locs (F0 m 0 ls []) := by
  have hx := C.1.1
  have hb := C.1.2.1
  have hown := C.1.2.2.2.1
  have hts := C.1.2.2.2.2
  intro x0 hf H locs X ls hl
  unfold fJ6_bitCount_0f7a4 at hf
  refine lv_iload_n hx hb dJ6_bitCount_0f7a4_0 rfl (lv_at hl 0 rfl) ?_
  refine lv_iload_n hx hb dJ6_bitCount_0f7a4_1 rfl (lv_at hl 0 rfl) ?_
  refine lv_iconst (v := 1) hx hb dJ6_bitCount_0f7a4_2 (by decide) ?_
  refine lv_iushr (v := jushr x0 1) hx hb dJ6_bitCount_0f7a4_3 rfl ?_
  refine lv_ldcw (v := 1431655765) hx hb hown (hts _ k_665) dJ6_bitCount_0f7a4_4 ?_
  refine lv_iand hx hb dJ6_bitCount_0f7a4_7 ?_
  refine lv_isub hx hb dJ6_bitCount_0f7a4_8 ?_
  obtain ⟨v9, e9, hf⟩ := nm_e2 hf
  refine st_i e9 ?_
  refine lv_istore_n (lv' := [(0, .int v9)]) hx hb dJ6_bitCount_0f7a4_9 rfl hl (by decide) rfl (fun ls hl => ?_)
  refine lv_iload_n hx hb dJ6_bitCount_0f7a4_10 rfl (lv_at hl 0 rfl) ?_
  refine lv_ldcw (v := 858993459) hx hb hown (hts _ k_666) dJ6_bitCount_0f7a4_11 ?_
  refine lv_iand hx hb dJ6_bitCount_0f7a4_14 ?_
  refine lv_iload_n hx hb dJ6_bitCount_0f7a4_15 rfl (lv_at hl 0 rfl) ?_
  refine lv_iconst (v := 2) hx hb dJ6_bitCount_0f7a4_16 (by decide) ?_
  refine lv_iushr (v := jushr v9 2) hx hb dJ6_bitCount_0f7a4_17 rfl ?_
  refine lv_ldcw (v := 858993459) hx hb hown (hts _ k_666) dJ6_bitCount_0f7a4_18 ?_
  refine lv_iand hx hb dJ6_bitCount_0f7a4_21 ?_
  refine lv_iadd hx hb dJ6_bitCount_0f7a4_22 ?_
  obtain ⟨v23, e23, hf⟩ := nm_e2 hf
  refine st_i e23 ?_
  refine lv_istore_n (lv' := [(0, .int v23)]) hx hb dJ6_bitCount_0f7a4_23 rfl hl (by decide) rfl (fun ls hl => ?_)
  refine lv_iload_n hx hb dJ6_bitCount_0f7a4_24 rfl (lv_at hl 0 rfl) ?_
  refine lv_iload_n hx hb dJ6_bitCount_0f7a4_25 rfl (lv_at hl 0 rfl) ?_
  refine lv_iconst (v := 4) hx hb dJ6_bitCount_0f7a4_26 (by decide) ?_
  refine lv_iushr (v := jushr v23 4) hx hb dJ6_bitCount_0f7a4_27 rfl ?_
  refine lv_iadd hx hb dJ6_bitCount_0f7a4_28 ?_
  refine lv_ldcw (v := 252645135) hx hb hown (hts _ k_667) dJ6_bitCount_0f7a4_29 ?_
  refine lv_iand hx hb dJ6_bitCount_0f7a4_32 ?_
  obtain ⟨v33, e33, hf⟩ := nm_e2 hf
  refine st_i e33 ?_
  refine lv_istore_n (lv' := [(0, .int v33)]) hx hb dJ6_bitCount_0f7a4_33 rfl hl (by decide) rfl (fun ls hl => ?_)
  refine lv_iload_n hx hb dJ6_bitCount_0f7a4_34 rfl (lv_at hl 0 rfl) ?_
  refine lv_iload_n hx hb dJ6_bitCount_0f7a4_35 rfl (lv_at hl 0 rfl) ?_
  refine lv_bipush (v := 8) hx hb dJ6_bitCount_0f7a4_36 (by decide) ?_
  refine lv_iushr (v := jushr v33 8) hx hb dJ6_bitCount_0f7a4_38 rfl ?_
  refine lv_iadd hx hb dJ6_bitCount_0f7a4_39 ?_
  obtain ⟨v40, e40, hf⟩ := nm_e2 hf
  refine st_i e40 ?_
  refine lv_istore_n (lv' := [(0, .int v40)]) hx hb dJ6_bitCount_0f7a4_40 rfl hl (by decide) rfl (fun ls hl => ?_)
  refine lv_iload_n hx hb dJ6_bitCount_0f7a4_41 rfl (lv_at hl 0 rfl) ?_
  refine lv_iload_n hx hb dJ6_bitCount_0f7a4_42 rfl (lv_at hl 0 rfl) ?_
  refine lv_bipush (v := 16) hx hb dJ6_bitCount_0f7a4_43 (by decide) ?_
  refine lv_iushr (v := jushr v40 16) hx hb dJ6_bitCount_0f7a4_45 rfl ?_
  refine lv_iadd hx hb dJ6_bitCount_0f7a4_46 ?_
  obtain ⟨v47, e47, hf⟩ := nm_e2 hf
  refine st_i e47 ?_
  refine lv_istore_n (lv' := [(0, .int v47)]) hx hb dJ6_bitCount_0f7a4_47 rfl hl (by decide) rfl (fun ls hl => ?_)
  refine lv_iload_n hx hb dJ6_bitCount_0f7a4_48 rfl (lv_at hl 0 rfl) ?_
  refine lv_bipush (v := 63) hx hb dJ6_bitCount_0f7a4_49 (by decide) ?_
  refine lv_iand hx hb dJ6_bitCount_0f7a4_51 ?_
  exact retI C X hr rfl hf rfl rfl dJ6_bitCount_0f7a4_52
theorem ctJ6_bitCount_0f7a4 {x0 : Int32} {μ : Mem} {ν : Lem} {r : Int32} (hg : fJ6_bitCount_0f7a4 x0 = r) : CtI true yJ6_bitCount_0f7a4 cJ6_bitCount_0f7a4 1 0 0 .int (fun ad => [.int x0]) μ ν r μ ν :=
  mkI (by decide) rfl (fun ad => Nat.le_of_ble_eq_true rfl) (fun p l e s m args below meth c D cy ad C hr X ls hl => wJ6_bitCount_0f7a4 C hr x0 hg _ _ X _ hl)
theorem qX5_272 {p : Program} {l : Launch} {e : Env} {R : Room} {s : State} {m : MethodId} {args : Array Value} {below : List Frame} {meth : Method} {c : Code} {H : Heap} {locs : List Loc} {cells slots : Nat} {Q : State → Prop} {A : Nat → Prop} {cc : ByteArray} {nL : Nat} {D : va_G} {cy : Nat → ClassId} {ad : Nat → Nat} {μ : Mem} {ν : Lem} {pc : Nat} {ls : Array Slot} {rest : List Value} {x0 : Int32} {r : Int32} (hg : fJ6_bitCount_0f7a4 x0 = r) (C : CxA true A p s m args meth c cc nL RX5 D cy ad) (X : WdA true A D cy ad s.heap μ ν H locs) (hsz : ls.size = nL) (hrm : (rest.map fun v => v.category).sum ≤ 8) (hR : 0 + 1 ≤ R.frames ∧ 8 + (1 + 11) + 0 ≤ R.locals) (hcs : cells ≤ R.cells ∧ slots ≤ R.slots) (hd : decode cc pc = .ok (.invokestatic 272, 3)) (kk : ∀ (H1 : Heap) (locs1 : List Loc), WdA true A D cy ad s.heap μ ν H1 locs1 → narrow .int (.int r) = .int r → W p l e R s m args below meth c H1 locs1 cells slots Q (F0 m (pc + 3) ls (.int r :: rest))) : W p l e R s m args below meth c H locs cells slots Q (F0 m pc ls (.int x0 :: rest)) :=
  rCSI (As := [.int x0]) (ctJ6_bitCount_0f7a4 hg) lJ6_bitCount_0f7a4 k_662 rfl rfl C X rfl hrm hsz hR hcs hd kk
set_option maxRecDepth 100000 in
set_option maxHeartbeats 4000000 in
theorem w5_tellsAllApart_1 {p : Program} {l : Launch} {e : Env} {s : State} {m : MethodId} {args : Array Value} {below : List Frame} {meth : Method} {c : Code} {D : va_G} {cy : Nat → ClassId} {ad : Nat → Nat} {r : Int32} {μ : Mem} {ν : Lem} (C : Cx true p s m args meth c cX5_tellsAllApart 4 RX5 D cy ad) (hr : meth.sig.returnType = some .boolean) : ∀ (n : Nat), ∀ (x1 : Int32) (x2 : Int32) (x3 : Int32), f5_tellsAllApart_1 μ n x1 x2 x3 = some r → ∀ (H : Heap) (locs : List Loc), Wd true D cy ad s.heap μ ν H locs → ∀ (ls : Array Slot), lv_has ls 4 [(0, .ref (ad 0)), (1, .int x1), (2, .int x2), (3, .int x3)] → WI true p l e 0 0 s m args below meth c D cy ad .boolean r μ ν H locs (F0 m 2 ls []) := by
  have hx := C.1.1
  have hb := C.1.2.1
  have hown := C.1.2.2.2.1
  have hts := C.1.2.2.2.2
  intro n
  induction n with
  | zero =>
    intro x1 x2 x3 hf H locs X ls hl
    rw [f5_tellsAllApart_1] at hf
    cases hf
  | succ n ih =>
    intro x1 x2 x3 hf H locs X ls hl
    rw [f5_tellsAllApart_1] at hf
    refine lv_iload_n hx hb dX5_tellsAllApart_2 rfl (lv_at hl 3 rfl) ?_
    refine lv_iload_n hx hb dX5_tellsAllApart_3 rfl (lv_at hl 2 rfl) ?_
    refine lv_icmp_ge (tgt := 26) hx hb dX5_tellsAllApart_4 (by decide) (fun c4 => ?_) (fun c4 => ?_)
    · replace hf := ifp c4 hf
      refine lv_iconst (v := 1) hx hb dX5_tellsAllApart_26 (by decide) ?_
      exact retI C X hr rfl (Option.some.inj hf) rfl rfl dX5_tellsAllApart_27
    · replace hf := ifn c4 hf
      refine lv_iload_n hx hb dX5_tellsAllApart_7 rfl (lv_at hl 1 rfl) ?_
      refine lv_aload_n hx hb dX5_tellsAllApart_8 rfl (lv_at hl 0 rfl) ?_
      refine gfX5_51 C X dX5_tellsAllApart_9 ?_
      refine lv_iload_n hx hb dX5_tellsAllApart_12 rfl (lv_at hl 3 rfl) ?_
      obtain ⟨h13, hf⟩ := gd_e hf
      refine rIald C X rfl h13 dX5_tellsAllApart_13 ?_
      refine lv_iand hx hb dX5_tellsAllApart_14 ?_
      refine lv_if_ne (tgt := 20) hx hb dX5_tellsAllApart_15 (by decide) (fun c15 => ?_) (fun c15 => ?_)
      · replace hf := ifn c15 hf
        obtain ⟨v20, e20, hf⟩ := nm_e2 hf
        refine rIinc (lv' := [(3, .int v20), (0, .ref (ad 0)), (1, .int x1), (2, .int x2)]) hx hb dX5_tellsAllApart_20 hl (k := 3) rfl e20 rfl (by decide) rfl (fun ls hl => ?_)
        refine lv_goto (tgt := 2) hx hb dX5_tellsAllApart_23 (by decide) ?_
        exact ih x1 x2 v20 hf _ _ X _ (lv_sub hl [1, 2, 3, 0] rfl)
      · replace hf := ifp c15 hf
        refine lv_iconst (v := 0) hx hb dX5_tellsAllApart_18 (by decide) ?_
        exact retI C X hr rfl (Option.some.inj hf) rfl rfl dX5_tellsAllApart_19
set_option maxRecDepth 100000 in
set_option maxHeartbeats 4000000 in
theorem w5_tellsAllApart {p : Program} {l : Launch} {e : Env} {s : State} {m : MethodId} {args : Array Value} {below : List Frame} {meth : Method} {c : Code} {D : va_G} {cy : Nat → ClassId} {ad : Nat → Nat} {r : Int32} {μ : Mem} {ν : Lem} (C : Cx true p s m args meth c cX5_tellsAllApart 4 RX5 D cy ad) (hr : meth.sig.returnType = some .boolean) : ∀ (x1 : Int32) (x2 : Int32), f5_tellsAllApart μ x1 x2 = some r → ∀ (H : Heap) (locs : List Loc), Wd true D cy ad s.heap μ ν H locs → ∀ (ls : Array Slot), lv_has ls 4 [(0, .ref (ad 0)), (1, .int x1), (2, .int x2)] → WI true p l e 0 0 s m args below meth c D cy ad .boolean r μ ν H locs (F0 m 0 ls []) := by
  have hx := C.1.1
  have hb := C.1.2.1
  have hown := C.1.2.2.2.1
  have hts := C.1.2.2.2.2
  intro x1 x2 hf H locs X ls hl
  unfold f5_tellsAllApart at hf
  refine lv_iconst (v := 0) hx hb dX5_tellsAllApart_0 (by decide) ?_
  refine lv_istore_n (lv' := [(3, .int 0), (0, .ref (ad 0)), (1, .int x1), (2, .int x2)]) hx hb dX5_tellsAllApart_1 rfl hl (by decide) rfl (fun ls hl => ?_)
  exact w5_tellsAllApart_1 C hr  FUEL x1 x2 0 hf _ _ X _ (lv_sub hl [1, 2, 3, 0] rfl)
theorem ct5_tellsAllApart {x1 : Int32} {x2 : Int32} {μ : Mem} {ν : Lem} {r : Int32} (hg : f5_tellsAllApart μ x1 x2 = some r) : CtI true yX5_tellsAllApart cX5_tellsAllApart 4 0 0 .boolean (fun ad => [.ref (ad 0), .int x1, .int x2]) μ ν r μ ν :=
  mkI (by decide) rfl (fun ad => Nat.le_of_ble_eq_true rfl) (fun p l e s m args below meth c D cy ad C hr X ls hl => w5_tellsAllApart C hr x1 x2 hg _ _ X _ hl)
theorem qX5_281 {p : Program} {l : Launch} {e : Env} {R : Room} {s : State} {m : MethodId} {args : Array Value} {below : List Frame} {meth : Method} {c : Code} {H : Heap} {locs : List Loc} {cells slots : Nat} {Q : State → Prop} {A : Nat → Prop} {cc : ByteArray} {nL : Nat} {D : va_G} {cy : Nat → ClassId} {ad : Nat → Nat} {μ : Mem} {ν : Lem} {pc : Nat} {ls : Array Slot} {rest : List Value} {x1 : Int32} {x2 : Int32} {r : Int32} (hg : f5_tellsAllApart μ x1 x2 = some r) (C : CxA true A p s m args meth c cc nL RX5 D cy ad) (X : WdA true A D cy ad s.heap μ ν H locs) (hsz : ls.size = nL) (hrm : (rest.map fun v => v.category).sum ≤ 8) (hR : 0 + 1 ≤ R.frames ∧ 8 + (4 + 11) + 0 ≤ R.locals) (hcs : cells ≤ R.cells ∧ slots ≤ R.slots) (hd : decode cc pc = .ok (.invokevirtual 281, 3)) (kk : ∀ (H1 : Heap) (locs1 : List Loc), WdA true A D cy ad s.heap μ ν H1 locs1 → narrow .boolean (.int r) = .int r → W p l e R s m args below meth c H1 locs1 cells slots Q (F0 m (pc + 3) ls (.int r :: rest))) : W p l e R s m args below meth c H locs cells slots Q (F0 m pc ls (.int x2 :: .int x1 :: .ref (ad 0) :: rest)) :=
  rCVI (As := [.int x1, .int x2]) (k := 0) (ct5_tellsAllApart hg) ok5 lX5_tellsAllApart k_668 rfl rfl rfl C X rfl hrm hsz hR hcs hd kk
set_option maxRecDepth 100000 in
set_option maxHeartbeats 4000000 in
theorem w5_fewestPosts_1 {p : Program} {l : Launch} {e : Env} {s : State} {m : MethodId} {args : Array Value} {below : List Frame} {meth : Method} {c : Code} {D : va_G} {cy : Nat → ClassId} {ad : Nat → Nat} {r : Int32} {μ : Mem} {ν : Lem} (C : Cx true p s m args meth c cX5_fewestPosts 6 RX5 D cy ad) (hr : meth.sig.returnType = some .int) : ∀ (n : Nat), ∀ (x1 : Int32) (x2 : Int32) (x3 : Int32) (x4 : Int32), f5_fewestPosts_1 μ n x1 x2 x3 x4 = some r → ∀ (H : Heap) (locs : List Loc), Wd true D cy ad s.heap μ ν H locs → ∀ (ls : Array Slot), lv_has ls 6 [(0, .ref (ad 0)), (1, .int x1), (2, .int x2), (3, .int x3), (4, .int x4)] → WI true p l e 1 23 s m args below meth c D cy ad .int r μ ν H locs (F0 m 8 ls []) := by
  have hx := C.1.1
  have hb := C.1.2.1
  have hown := C.1.2.2.2.1
  have hts := C.1.2.2.2.2
  intro n
  induction n with
  | zero =>
    intro x1 x2 x3 x4 hf H locs X ls hl
    rw [f5_fewestPosts_1] at hf
    cases hf
  | succ n ih =>
    intro x1 x2 x3 x4 hf H locs X ls hl
    rw [f5_fewestPosts_1] at hf
    refine lv_iload hx hb dX5_fewestPosts_8 (lv_at hl 4 rfl) ?_
    refine lv_sipush (v := 2048) hx hb dX5_fewestPosts_10 (by decide) ?_
    refine lv_icmp_ge (tgt := 51) hx hb dX5_fewestPosts_13 (by decide) (fun c13 => ?_) (fun c13 => ?_)
    · replace hf := ifp c13 hf
      refine lv_iload_n hx hb dX5_fewestPosts_51 rfl (lv_at hl 2 rfl) ?_
      exact retI C X hr rfl (Option.some.inj hf) rfl rfl dX5_fewestPosts_52
    · replace hf := ifn c13 hf
      refine lv_iload hx hb dX5_fewestPosts_16 (lv_at hl 4 rfl) ?_
      refine qX5_272 rfl C X hl.1 ((Nat.le_of_ble_eq_true rfl)) ⟨(Nat.le_of_ble_eq_true rfl), (Nat.le_of_ble_eq_true rfl)⟩ ⟨Nat.zero_le _, Nat.zero_le _⟩ dX5_fewestPosts_18 (fun H locs X b18 => ?_)
      obtain ⟨v21, e21, hf⟩ := nm_e2 hf
      refine st_i e21 ?_
      refine lv_istore (lv' := [(5, .int v21), (0, .ref (ad 0)), (1, .int x1), (2, .int x2), (3, .int x3), (4, .int x4)]) hx hb dX5_fewestPosts_21 hl (by decide) rfl (fun ls hl => ?_)
      refine lv_iload hx hb dX5_fewestPosts_23 (lv_at hl 0 rfl) ?_
      refine lv_iload_n hx hb dX5_fewestPosts_25 rfl (lv_at hl 4 rfl) ?_
      refine lv_icmp_ge (tgt := 45) hx hb dX5_fewestPosts_26 (by decide) (fun c26 => ?_) (fun c26 => ?_)
      · replace hf := ifp c26 hf
        obtain ⟨v45, e45, hf⟩ := nm_e2 hf
        refine rIinc (lv' := [(4, .int v45), (5, .int v21), (0, .ref (ad 0)), (1, .int x1), (2, .int x2), (3, .int x3)]) hx hb dX5_fewestPosts_45 hl (k := 5) rfl e45 rfl (by decide) rfl (fun ls hl => ?_)
        refine lv_goto (tgt := 8) hx hb dX5_fewestPosts_48 (by decide) ?_
        exact ih x1 x2 x3 v45 hf _ _ X _ (lv_sub hl [2, 3, 4, 5, 0] rfl)
      · replace hf := ifn c26 hf
        refine lv_aload_n hx hb dX5_fewestPosts_29 rfl (lv_at hl 1 rfl) ?_
        refine lv_iload hx hb dX5_fewestPosts_30 (lv_at hl 5 rfl) ?_
        refine lv_iload_n hx hb dX5_fewestPosts_32 rfl (lv_at hl 2 rfl) ?_
        obtain ⟨r33, g33, hf⟩ := bd1_e hf
        refine qX5_281 g33 C X hl.1 ((Nat.le_of_ble_eq_true rfl)) ⟨(Nat.le_of_ble_eq_true rfl), (Nat.le_of_ble_eq_true rfl)⟩ ⟨Nat.zero_le _, Nat.zero_le _⟩ dX5_fewestPosts_33 (fun H locs X b33 => ?_)
        refine lv_if_eq (tgt := 45) hx hb dX5_fewestPosts_36 (by decide) (fun c36 => ?_) (fun c36 => ?_)
        · replace hf := ifp c36 hf
          obtain ⟨v45, e45, hf⟩ := nm_e2 hf
          refine rIinc (lv' := [(4, .int v45), (5, .int v21), (0, .ref (ad 0)), (1, .int x1), (2, .int x2), (3, .int x3)]) hx hb dX5_fewestPosts_45 hl (k := 5) rfl e45 rfl (by decide) rfl (fun ls hl => ?_)
          refine lv_goto (tgt := 8) hx hb dX5_fewestPosts_48 (by decide) ?_
          exact ih x1 x2 x3 v45 hf _ _ X _ (lv_sub hl [2, 3, 4, 5, 0] rfl)
        · replace hf := ifn c36 hf
          refine lv_iload hx hb dX5_fewestPosts_39 (lv_at hl 5 rfl) ?_
          refine lv_istore_n (lv' := [(2, .int x4), (5, .int v21), (0, .ref (ad 0)), (1, .int x1), (3, .int x3), (4, .int x4)]) hx hb dX5_fewestPosts_41 rfl hl (by decide) rfl (fun ls hl => ?_)
          refine lv_iload hx hb dX5_fewestPosts_42 (lv_at hl 1 rfl) ?_
          refine lv_istore_n (lv' := [(3, .int v21), (2, .int x4), (5, .int v21), (0, .ref (ad 0)), (1, .int x1), (4, .int x4)]) hx hb dX5_fewestPosts_44 rfl hl (by decide) rfl (fun ls hl => ?_)
          obtain ⟨v45, e45, hf⟩ := nm_e2 hf
          refine rIinc (lv' := [(4, .int v45), (3, .int v21), (2, .int x4), (5, .int v21), (0, .ref (ad 0)), (1, .int x1)]) hx hb dX5_fewestPosts_45 hl (k := 5) rfl e45 rfl (by decide) rfl (fun ls hl => ?_)
          refine lv_goto (tgt := 8) hx hb dX5_fewestPosts_48 (by decide) ?_
          exact ih x1 x4 v21 v45 hf _ _ X _ (lv_sub hl [4, 5, 2, 1, 0] rfl)
set_option maxRecDepth 100000 in
set_option maxHeartbeats 4000000 in
theorem w5_fewestPosts {p : Program} {l : Launch} {e : Env} {s : State} {m : MethodId} {args : Array Value} {below : List Frame} {meth : Method} {c : Code} {D : va_G} {cy : Nat → ClassId} {ad : Nat → Nat} {r : Int32} {μ : Mem} {ν : Lem} (C : Cx true p s m args meth c cX5_fewestPosts 6 RX5 D cy ad) (hr : meth.sig.returnType = some .int) : ∀ (x1 : Int32), f5_fewestPosts μ x1 = some r → ∀ (H : Heap) (locs : List Loc), Wd true D cy ad s.heap μ ν H locs → ∀ (ls : Array Slot), lv_has ls 6 [(0, .ref (ad 0)), (1, .int x1)] → WI true p l e 1 23 s m args below meth c D cy ad .int r μ ν H locs (F0 m 0 ls []) := by
  have hx := C.1.1
  have hb := C.1.2.1
  have hown := C.1.2.2.2.1
  have hts := C.1.2.2.2.2
  intro x1 hf H locs X ls hl
  unfold f5_fewestPosts at hf
  refine lv_iconst (v := (-1)) hx hb dX5_fewestPosts_0 (by decide) ?_
  refine lv_istore_n (lv' := [(2, .int (-1)), (0, .ref (ad 0)), (1, .int x1)]) hx hb dX5_fewestPosts_1 rfl hl (by decide) rfl (fun ls hl => ?_)
  refine lv_bipush (v := 12) hx hb dX5_fewestPosts_2 (by decide) ?_
  refine lv_istore_n (lv' := [(3, .int 12), (2, .int (-1)), (0, .ref (ad 0)), (1, .int x1)]) hx hb dX5_fewestPosts_4 rfl hl (by decide) rfl (fun ls hl => ?_)
  refine lv_iconst (v := 0) hx hb dX5_fewestPosts_5 (by decide) ?_
  refine lv_istore (lv' := [(4, .int 0), (3, .int 12), (2, .int (-1)), (0, .ref (ad 0)), (1, .int x1)]) hx hb dX5_fewestPosts_6 hl (by decide) rfl (fun ls hl => ?_)
  exact w5_fewestPosts_1 C hr  FUEL x1 (-1) 12 0 hf _ _ X _ (lv_sub hl [3, 4, 2, 1, 0] rfl)
theorem ct5_fewestPosts {x1 : Int32} {μ : Mem} {ν : Lem} {r : Int32} (hg : f5_fewestPosts μ x1 = some r) : CtI true yX5_fewestPosts cX5_fewestPosts 6 1 23 .int (fun ad => [.ref (ad 0), .int x1]) μ ν r μ ν :=
  mkI (by decide) rfl (fun ad => Nat.le_of_ble_eq_true rfl) (fun p l e s m args below meth c D cy ad C hr X ls hl => w5_fewestPosts C hr x1 hg _ _ X _ hl)
theorem qX5_269 {p : Program} {l : Launch} {e : Env} {R : Room} {s : State} {m : MethodId} {args : Array Value} {below : List Frame} {meth : Method} {c : Code} {H : Heap} {locs : List Loc} {cells slots : Nat} {Q : State → Prop} {A : Nat → Prop} {cc : ByteArray} {nL : Nat} {D : va_G} {cy : Nat → ClassId} {ad : Nat → Nat} {μ : Mem} {ν : Lem} {pc : Nat} {ls : Array Slot} {rest : List Value} {x1 : Int32} {r : Int32} (hg : f5_fewestPosts μ x1 = some r) (C : CxA true A p s m args meth c cc nL RX5 D cy ad) (X : WdA true A D cy ad s.heap μ ν H locs) (hsz : ls.size = nL) (hrm : (rest.map fun v => v.category).sum ≤ 8) (hR : 1 + 1 ≤ R.frames ∧ 8 + (6 + 11) + 23 ≤ R.locals) (hcs : cells ≤ R.cells ∧ slots ≤ R.slots) (hd : decode cc pc = .ok (.invokevirtual 269, 3)) (kk : ∀ (H1 : Heap) (locs1 : List Loc), WdA true A D cy ad s.heap μ ν H1 locs1 → narrow .int (.int r) = .int r → W p l e R s m args below meth c H1 locs1 cells slots Q (F0 m (pc + 3) ls (.int r :: rest))) : W p l e R s m args below meth c H locs cells slots Q (F0 m pc ls (.int x1 :: .ref (ad 0) :: rest)) :=
  rCVI (As := [.int x1]) (k := 0) (ct5_fewestPosts hg) ok5 lX5_fewestPosts k_658 rfl rfl rfl C X rfl hrm hsz hR hcs hd kk
set_option maxRecDepth 100000 in
set_option maxHeartbeats 4000000 in
theorem w5_posts {p : Program} {l : Launch} {e : Env} {s : State} {m : MethodId} {args : Array Value} {below : List Frame} {meth : Method} {c : Code} {D : va_G} {cy : Nat → ClassId} {ad : Nat → Nat} {r : Int32} {μ1 : Mem} {ν : Lem} (C : Cx true p s m args meth c cX5_posts 3 RX5 D cy ad) (hr : meth.sig.returnType = some .int) : ∀ (μ : Mem) (x1 : Int32), f5_posts μ x1 = some (r, μ1) → ∀ (H : Heap) (locs : List Loc), Wd true D cy ad s.heap μ ν H locs → ∀ (ls : Array Slot), lv_has ls 3 [(0, .ref (ad 0)), (1, .int x1)] → WI true p l e 6 140 s m args below meth c D cy ad .int r μ1 ν H locs (F0 m 0 ls []) := by
  have hx := C.1.1
  have hb := C.1.2.1
  have hown := C.1.2.2.2.1
  have hts := C.1.2.2.2.2
  intro μ x1 hf H locs X ls hl
  unfold f5_posts at hf
  refine lv_iload_n hx hb dX5_posts_0 rfl (lv_at hl 1 rfl) ?_
  refine lv_if_lt (tgt := 9) hx hb dX5_posts_1 (by decide) (fun c1 => ?_) (fun c1 => ?_)
  · replace hf := ifp c1 hf
    refine lv_bipush (v := (-2)) hx hb dX5_posts_9 (by decide) ?_
    exact retI C X hr rfl (so2 hf).1 (so2 hf).2 rfl dX5_posts_11
  · replace hf := ifn c1 hf
    refine lv_iload_n hx hb dX5_posts_4 rfl (lv_at hl 1 rfl) ?_
    refine lv_iconst (v := 1) hx hb dX5_posts_5 (by decide) ?_
    refine lv_icmp_le (tgt := 12) hx hb dX5_posts_6 (by decide) (fun c6 => ?_) (fun c6 => ?_)
    · replace hf := ifp c6 hf
      refine lv_aload_n hx hb dX5_posts_12 rfl (lv_at hl 0 rfl) ?_
      refine lv_aload_n hx hb dX5_posts_13 rfl (lv_at hl 0 rfl) ?_
      obtain ⟨r14, μ14, g14, hf⟩ := bd2_e hf
      refine qX5_266 g14 C X hl.1 ((Nat.le_of_ble_eq_true rfl)) ⟨(Nat.le_of_ble_eq_true rfl), (Nat.le_of_ble_eq_true rfl)⟩ ⟨Nat.zero_le _, Nat.zero_le _⟩ dX5_posts_14 (fun H locs X b14 => ?_)
      obtain ⟨r17, g17, hf⟩ := bd1_e hf
      refine qX5_269 g17 C X hl.1 ((Nat.le_of_ble_eq_true rfl)) ⟨(Nat.le_of_ble_eq_true rfl), (Nat.le_of_ble_eq_true rfl)⟩ ⟨Nat.zero_le _, Nat.zero_le _⟩ dX5_posts_17 (fun H locs X b17 => ?_)
      refine lv_istore_n (lv' := [(2, .int r17), (0, .ref (ad 0)), (1, .int x1)]) hx hb dX5_posts_20 rfl hl (by decide) rfl (fun ls hl => ?_)
      refine lv_iload_n hx hb dX5_posts_21 rfl (lv_at hl 2 rfl) ?_
      refine lv_if_eq (tgt := 30) hx hb dX5_posts_22 (by decide) (fun c22 => ?_) (fun c22 => ?_)
      · replace hf := ifp c22 hf
        refine lv_iload_n hx hb dX5_posts_30 rfl (lv_at hl 0 rfl) ?_
        refine lv_goto (tgt := 38) hx hb dX5_posts_31 (by decide) ?_
        exact retI C X hr rfl (so2 hf).1 (so2 hf).2 rfl dX5_posts_38
      · replace hf := ifn c22 hf
        refine lv_iload_n hx hb dX5_posts_25 rfl (lv_at hl 0 rfl) ?_
        refine lv_iconst (v := (-1)) hx hb dX5_posts_26 (by decide) ?_
        refine lv_icmp_ne (tgt := 34) hx hb dX5_posts_27 (by decide) (fun c27 => ?_) (fun c27 => ?_)
        · replace hf := ifn c27 hf
          refine lv_iload_n hx hb dX5_posts_34 rfl (lv_at hl 0 rfl) ?_
          refine qX5_272 rfl C X hl.1 ((Nat.le_of_ble_eq_true rfl)) ⟨(Nat.le_of_ble_eq_true rfl), (Nat.le_of_ble_eq_true rfl)⟩ ⟨Nat.zero_le _, Nat.zero_le _⟩ dX5_posts_35 (fun H locs X b35 => ?_)
          exact retI C X hr rfl (so2 hf).1 (so2 hf).2 rfl dX5_posts_38
        · replace hf := ifp c27 hf
          refine lv_iload_n hx hb dX5_posts_30 rfl (lv_at hl 0 rfl) ?_
          refine lv_goto (tgt := 38) hx hb dX5_posts_31 (by decide) ?_
          exact retI C X hr rfl (so2 hf).1 (so2 hf).2 rfl dX5_posts_38
    · replace hf := ifn c6 hf
      refine lv_bipush (v := (-2)) hx hb dX5_posts_9 (by decide) ?_
      exact retI C X hr rfl (so2 hf).1 (so2 hf).2 rfl dX5_posts_11
theorem ct5_posts {x1 : Int32} {μ : Mem} {ν : Lem} {r : Int32} {μ1 : Mem} (hg : f5_posts μ x1 = some (r, μ1)) : CtI true yX5_posts cX5_posts 3 6 140 .int (fun ad => [.ref (ad 0), .int x1]) μ ν r μ1 ν :=
  mkI (by decide) rfl (fun ad => Nat.le_of_ble_eq_true rfl) (fun p l e s m args below meth c D cy ad C hr X ls hl => w5_posts C hr μ x1 hg _ _ X _ hl)
theorem qL_94 {p : Program} {l : Launch} {e : Env} {R : Room} {s : State} {m : MethodId} {args : Array Value} {below : List Frame} {meth : Method} {c : Code} {H : Heap} {locs : List Loc} {cells slots : Nat} {Q : State → Prop} {A : Nat → Prop} {cc : ByteArray} {nL : Nat} {D : va_G} {cy : Nat → ClassId} {ad : Nat → Nat} {μ : Mem} {ν : Lem} {pc : Nat} {ls : Array Slot} {rest : List Value} {x1 : Int32} {r : Int32} {μ1 : Mem} (hg : f5_posts μ x1 = some (r, μ1)) (C : CxA true A p s m args meth c cc nL RL D cy ad) (X : WdA true A D cy ad s.heap μ ν H locs) (hsz : ls.size = nL) (hrm : (rest.map fun v => v.category).sum ≤ 8) (hR : 6 + 1 ≤ R.frames ∧ 8 + (3 + 11) + 140 ≤ R.locals) (hcs : cells ≤ R.cells ∧ slots ≤ R.slots) (hd : decode cc pc = .ok (.invokevirtual 94, 3)) (kk : ∀ (H1 : Heap) (locs1 : List Loc), WdA true A D cy ad s.heap μ1 ν H1 locs1 → narrow .int (.int r) = .int r → W p l e R s m args below meth c H1 locs1 cells slots Q (F0 m (pc + 3) ls (.int r :: rest))) : W p l e R s m args below meth c H locs cells slots Q (F0 m pc ls (.int x1 :: .ref (ad 0) :: rest)) :=
  rCVI (As := [.int x1]) (k := 0) (ct5_posts hg) ok5 lX5_posts k_646 rfl rfl rfl C X rfl hrm hsz hR hcs hd kk
set_option maxRecDepth 100000 in
set_option maxHeartbeats 4000000 in
theorem w5_beads_1 {p : Program} {l : Launch} {e : Env} {s : State} {m : MethodId} {args : Array Value} {below : List Frame} {meth : Method} {c : Code} {D : va_G} {cy : Nat → ClassId} {ad : Nat → Nat} {r : Int32} {μ : Mem} {ν : Lem} (C : Cx true p s m args meth c cX5_beads 5 RX5 D cy ad) (hr : meth.sig.returnType = some .int) : ∀ (n : Nat), ∀ (x2 : Nat) (x3 : Int32) (x4 : Int32) (hx2 : x2 < 4), f5_beads_1 μ n x2 x3 x4 = some r → ∀ (H : Heap) (locs : List Loc), Wd true D cy ad s.heap μ ν H locs → ∀ (ls : Array Slot), lv_has ls 5 [(2, .ref (ad (71 + 2 * x2))), (3, .int x3), (4, .int x4)] → WI true p l e 3 66 s m args below meth c D cy ad .int r μ ν H locs (F0 m 54 ls []) := by
  have hx := C.1.1
  have hb := C.1.2.1
  have hown := C.1.2.2.2.1
  have hts := C.1.2.2.2.2
  intro n
  induction n with
  | zero =>
    intro x2 x3 x4 hx2 hf H locs X ls hl
    rw [f5_beads_1] at hf
    cases hf
  | succ n ih =>
    intro x2 x3 x4 hx2 hf H locs X ls hl
    rw [f5_beads_1] at hf
    refine lv_iload hx hb dX5_beads_54 (lv_at hl 2 rfl) ?_
    refine lv_aload_n hx hb dX5_beads_56 rfl (lv_at hl 0 rfl) ?_
    refine gfX5_242 (q := x2) hx2 rfl C X dX5_beads_57 ?_
    refine lv_icmp_ge (tgt := 88) hx hb dX5_beads_60 (by decide) (fun c60 => ?_) (fun c60 => ?_)
    · replace hf := ifp c60 hf
      refine lv_iconst (v := (-1)) hx hb dX5_beads_88 (by decide) ?_
      exact retI C X hr rfl (Option.some.inj hf) rfl rfl dX5_beads_89
    · replace hf := ifn c60 hf
      refine lv_aload_n hx hb dX5_beads_63 rfl (lv_at hl 0 rfl) ?_
      refine lv_iload hx hb dX5_beads_64 (lv_at hl 2 rfl) ?_
      refine lv_aload_n hx hb dX5_beads_66 rfl (lv_at hl 0 rfl) ?_
      refine gfX5_242 (q := x2) hx2 rfl C X dX5_beads_67 ?_
      refine lv_iconst (v := 2) hx hb dX5_beads_70 (by decide) ?_
      refine lv_idiv hx hb dX5_beads_71 (by decide) ?_
      obtain ⟨r72, g72, hf⟩ := bd1_e hf
      refine qX5_284 (q := x2) hx2 g72 C X hl.1 ((Nat.le_of_ble_eq_true rfl)) ⟨(Nat.le_of_ble_eq_true rfl), (Nat.le_of_ble_eq_true rfl)⟩ ⟨Nat.zero_le _, Nat.zero_le _⟩ dX5_beads_72 (fun H locs X b72 => ?_)
      refine lv_iload_n hx hb dX5_beads_75 rfl (lv_at hl 1 rfl) ?_
      refine lv_icmp_ne (tgt := 82) hx hb dX5_beads_76 (by decide) (fun c76 => ?_) (fun c76 => ?_)
      · replace hf := ifn c76 hf
        obtain ⟨v82, e82, hf⟩ := nm_e2 hf
        refine rIinc (lv' := [(4, .int v82), (2, .ref (ad (71 + 2 * x2))), (3, .int x3)]) hx hb dX5_beads_82 hl (k := 2) rfl e82 rfl (by decide) rfl (fun ls hl => ?_)
        refine lv_goto (tgt := 54) hx hb dX5_beads_85 (by decide) ?_
        exact ih x2 x3 v82 hx2 hf _ _ X _ (lv_sub hl [1, 2, 0] rfl)
      · replace hf := ifp c76 hf
        refine lv_iload hx hb dX5_beads_79 (lv_at hl 2 rfl) ?_
        exact retI C X hr rfl (Option.some.inj hf) rfl rfl dX5_beads_81
set_option maxRecDepth 100000 in
set_option maxHeartbeats 4000000 in
theorem w5_beads {p : Program} {l : Launch} {e : Env} {s : State} {m : MethodId} {args : Array Value} {below : List Frame} {meth : Method} {c : Code} {D : va_G} {cy : Nat → ClassId} {ad : Nat → Nat} {r : Int32} {μ : Mem} {ν : Lem} (C : Cx true p s m args meth c cX5_beads 5 RX5 D cy ad) (hr : meth.sig.returnType = some .int) : ∀ (x1 : Int32), f5_beads μ x1 = some r → ∀ (H : Heap) (locs : List Loc), Wd true D cy ad s.heap μ ν H locs → ∀ (ls : Array Slot), lv_has ls 5 [(0, .ref (ad 0)), (1, .int x1)] → WI true p l e 3 66 s m args below meth c D cy ad .int r μ ν H locs (F0 m 0 ls []) := by
  have hx := C.1.1
  have hb := C.1.2.1
  have hown := C.1.2.2.2.1
  have hts := C.1.2.2.2.2
  intro x1 hf H locs X ls hl
  unfold f5_beads at hf
  refine lv_iload_n hx hb dX5_beads_0 rfl (lv_at hl 1 rfl) ?_
  refine qX5_227 rfl C X hl.1 ((Nat.le_of_ble_eq_true rfl)) ⟨(Nat.le_of_ble_eq_true rfl), (Nat.le_of_ble_eq_true rfl)⟩ ⟨Nat.zero_le _, Nat.zero_le _⟩ dX5_beads_1 (fun H locs X b1 => ?_)
  refine lv_if_ne (tgt := 10) hx hb dX5_beads_4 (by decide) (fun c4 => ?_) (fun c4 => ?_)
  · replace hf := ifn c4 hf
    refine lv_aload_n hx hb dX5_beads_10 rfl (lv_at hl 0 rfl) ?_
    refine gfX5_34 C X dX5_beads_11 ?_
    refine lv_iload_n hx hb dX5_beads_14 rfl (lv_at hl 1 rfl) ?_
    obtain ⟨h15, hf⟩ := gd_e hf
    have hb15 : x1.toNatClampNeg < 4 := by have := inb_lt h15; omega
    refine rAald (t := 2) (k' := (71 + 2 * x1.toNatClampNeg)) C X rfl rfl h15 (by omega) dX5_beads_15 ?_
    refine lv_astore_n (lv' := [(2, .ref (ad (71 + 2 * x1.toNatClampNeg))), (0, .ref (ad 0)), (1, .int x1)]) hx hb dX5_beads_16 rfl hl (by decide) rfl (fun ls hl => ?_)
    refine lv_aload_n hx hb dX5_beads_17 rfl (lv_at hl 0 rfl) ?_
    refine qX5_230 (q := x1.toNatClampNeg) hb15 rfl C X hl.1 ((Nat.le_of_ble_eq_true rfl)) ⟨(Nat.le_of_ble_eq_true rfl), (Nat.le_of_ble_eq_true rfl)⟩ ⟨Nat.zero_le _, Nat.zero_le _⟩ dX5_beads_18 (fun H locs X b18 => ?_)
    refine lv_if_eq (tgt := 27) hx hb dX5_beads_21 (by decide) (fun c21 => ?_) (fun c21 => ?_)
    · replace hf := ifp c21 hf
      refine lv_aload_n hx hb dX5_beads_27 rfl (lv_at hl 0 rfl) ?_
      refine gfX5_242 (q := x1.toNatClampNeg) hb15 rfl C X dX5_beads_28 ?_
      refine lv_iconst (v := 2) hx hb dX5_beads_31 (by decide) ?_
      refine rIrem hx hb dX5_beads_32 (by decide) ?_
      refine lv_if_eq (tgt := 39) hx hb dX5_beads_33 (by decide) (fun c33 => ?_) (fun c33 => ?_)
      · replace hf := ifp c33 hf
        refine lv_aload_n hx hb dX5_beads_39 rfl (lv_at hl 0 rfl) ?_
        refine lv_iconst (v := 0) hx hb dX5_beads_40 (by decide) ?_
        refine lv_aload_n hx hb dX5_beads_41 rfl (lv_at hl 0 rfl) ?_
        refine gfX5_242 (q := x1.toNatClampNeg) hb15 rfl C X dX5_beads_42 ?_
        obtain ⟨r45, g45, hf⟩ := bd1_e hf
        refine qX5_284 (q := x1.toNatClampNeg) hb15 g45 C X hl.1 ((Nat.le_of_ble_eq_true rfl)) ⟨(Nat.le_of_ble_eq_true rfl), (Nat.le_of_ble_eq_true rfl)⟩ ⟨Nat.zero_le _, Nat.zero_le _⟩ dX5_beads_45 (fun H locs X b45 => ?_)
        refine lv_iconst (v := 2) hx hb dX5_beads_48 (by decide) ?_
        refine lv_idiv hx hb dX5_beads_49 (by decide) ?_
        obtain ⟨v50, e50, hf⟩ := nm_e2 hf
        refine st_i e50 ?_
        refine lv_istore_n (lv' := [(3, .int v50), (2, .ref (ad (71 + 2 * x1.toNatClampNeg))), (0, .ref (ad 0)), (1, .int x1)]) hx hb dX5_beads_50 rfl hl (by decide) rfl (fun ls hl => ?_)
        refine lv_iconst (v := 0) hx hb dX5_beads_51 (by decide) ?_
        refine lv_istore (lv' := [(4, .int 0), (3, .int v50), (2, .ref (ad (71 + 2 * x1.toNatClampNeg))), (0, .ref (ad 0)), (1, .int x1)]) hx hb dX5_beads_52 hl (by decide) rfl (fun ls hl => ?_)
        exact w5_beads_1 C hr  FUEL (x1.toNatClampNeg) v50 0 hb15 hf _ _ X _ (lv_sub hl [2, 1, 0] rfl)
      · replace hf := ifn c33 hf
        refine lv_bipush (v := (-2)) hx hb dX5_beads_36 (by decide) ?_
        exact retI C X hr rfl (Option.some.inj hf) rfl rfl dX5_beads_38
    · replace hf := ifn c21 hf
      refine lv_bipush (v := (-11)) hx hb dX5_beads_24 (by decide) ?_
      exact retI C X hr rfl (Option.some.inj hf) rfl rfl dX5_beads_26
  · replace hf := ifp c4 hf
    refine lv_bipush (v := (-2)) hx hb dX5_beads_7 (by decide) ?_
    exact retI C X hr rfl (Option.some.inj hf) rfl rfl dX5_beads_9
theorem ct5_beads {x1 : Int32} {μ : Mem} {ν : Lem} {r : Int32} (hg : f5_beads μ x1 = some r) : CtI true yX5_beads cX5_beads 5 3 66 .int (fun ad => [.ref (ad 0), .int x1]) μ ν r μ ν :=
  mkI (by decide) rfl (fun ad => Nat.le_of_ble_eq_true rfl) (fun p l e s m args below meth c D cy ad C hr X ls hl => w5_beads C hr x1 hg _ _ X _ hl)
theorem qL_98 {p : Program} {l : Launch} {e : Env} {R : Room} {s : State} {m : MethodId} {args : Array Value} {below : List Frame} {meth : Method} {c : Code} {H : Heap} {locs : List Loc} {cells slots : Nat} {Q : State → Prop} {A : Nat → Prop} {cc : ByteArray} {nL : Nat} {D : va_G} {cy : Nat → ClassId} {ad : Nat → Nat} {μ : Mem} {ν : Lem} {pc : Nat} {ls : Array Slot} {rest : List Value} {x1 : Int32} {r : Int32} (hg : f5_beads μ x1 = some r) (C : CxA true A p s m args meth c cc nL RL D cy ad) (X : WdA true A D cy ad s.heap μ ν H locs) (hsz : ls.size = nL) (hrm : (rest.map fun v => v.category).sum ≤ 8) (hR : 3 + 1 ≤ R.frames ∧ 8 + (5 + 11) + 66 ≤ R.locals) (hcs : cells ≤ R.cells ∧ slots ≤ R.slots) (hd : decode cc pc = .ok (.invokevirtual 98, 3)) (kk : ∀ (H1 : Heap) (locs1 : List Loc), WdA true A D cy ad s.heap μ ν H1 locs1 → narrow .int (.int r) = .int r → W p l e R s m args below meth c H1 locs1 cells slots Q (F0 m (pc + 3) ls (.int r :: rest))) : W p l e R s m args below meth c H locs cells slots Q (F0 m pc ls (.int x1 :: .ref (ad 0) :: rest)) :=
  rCVI (As := [.int x1]) (k := 0) (ct5_beads hg) ok5 lX5_beads k_672 rfl rfl rfl C X rfl hrm hsz hR hcs hd kk
set_option maxRecDepth 100000 in
set_option maxHeartbeats 4000000 in
theorem w5_heat_1 {p : Program} {l : Launch} {e : Env} {s : State} {m : MethodId} {args : Array Value} {below : List Frame} {meth : Method} {c : Code} {D : va_G} {cy : Nat → ClassId} {ad : Nat → Nat} {r : Int32} {μ : Mem} {ν : Lem} (C : Cx true p s m args meth c cX5_heat 6 RX5 D cy ad) (hr : meth.sig.returnType = some .int) : ∀ (n : Nat), ∀ (x2 : Nat) (x3 : Int32) (hx2 : x2 < 4), f5_heat_1 μ n x2 x3 = some r → ∀ (H : Heap) (locs : List Loc), Wd true D cy ad s.heap μ ν H locs → ∀ (ls : Array Slot), lv_has ls 6 [(2, .ref (ad (71 + 2 * x2))), (3, .int x3)] → WI true p l e 3 63 s m args below meth c D cy ad .int r μ ν H locs (F0 m 48 ls []) := by
  have hx := C.1.1
  have hb := C.1.2.1
  have hown := C.1.2.2.2.1
  have hts := C.1.2.2.2.2
  intro n
  induction n with
  | zero =>
    intro x2 x3 hx2 hf H locs X ls hl
    rw [f5_heat_1] at hf
    cases hf
  | succ n ih =>
    intro x2 x3 hx2 hf H locs X ls hl
    rw [f5_heat_1] at hf
    refine lv_iload_n hx hb dX5_heat_48 rfl (lv_at hl 1 rfl) ?_
    refine lv_aload_n hx hb dX5_heat_49 rfl (lv_at hl 0 rfl) ?_
    refine gfX5_242 (q := x2) hx2 rfl C X dX5_heat_50 ?_
    refine lv_icmp_ge (tgt := 93) hx hb dX5_heat_53 (by decide) (fun c53 => ?_) (fun c53 => ?_)
    · replace hf := ifp c53 hf
      refine lv_iconst (v := (-1)) hx hb dX5_heat_93 (by decide) ?_
      exact retI C X hr rfl (Option.some.inj hf) rfl rfl dX5_heat_94
    · replace hf := ifn c53 hf
      refine lv_aload_n hx hb dX5_heat_56 rfl (lv_at hl 0 rfl) ?_
      refine lv_iload_n hx hb dX5_heat_57 rfl (lv_at hl 1 rfl) ?_
      obtain ⟨r58, g58, hf⟩ := bd1_e hf
      refine qX5_287 (q := x2) hx2 g58 C X hl.1 ((Nat.le_of_ble_eq_true rfl)) ⟨(Nat.le_of_ble_eq_true rfl), (Nat.le_of_ble_eq_true rfl)⟩ ⟨Nat.zero_le _, Nat.zero_le _⟩ dX5_heat_58 (fun H locs X => ?_)
      refine lv_lstore (lv' := [(4, .long r58), (2, .ref (ad (71 + 2 * x2))), (3, .int x3)]) hx hb dX5_heat_61 hl (by decide) rfl (fun ls hl => ?_)
      refine lv_lload hx hb dX5_heat_63 (lv_at hl 0 rfl) ?_
      refine lv_lconst (v := 0) hx hb dX5_heat_65 (by decide) ?_
      refine W.lcmp hx hb dX5_heat_66 ?_
      refine lv_if_eq (tgt := 85) hx hb dX5_heat_67 (by decide) (fun c67 => ?_) (fun c67 => ?_)
      · replace hf := ifp c67 hf
        refine lv_iload_n hx hb dX5_heat_85 rfl (lv_at hl 2 rfl) ?_
        exact retI C X hr rfl (Option.some.inj hf) rfl rfl dX5_heat_86
      · replace hf := ifn c67 hf
        refine lv_lload hx hb dX5_heat_70 (lv_at hl 0 rfl) ?_
        refine lv_aload_n hx hb dX5_heat_72 rfl (lv_at hl 1 rfl) ?_
        refine lv_iload_n hx hb dX5_heat_73 rfl (lv_at hl 2 rfl) ?_
        refine lv_iconst (v := 1) hx hb dX5_heat_74 (by decide) ?_
        refine lv_iadd hx hb dX5_heat_75 ?_
        obtain ⟨r76, g76, hf⟩ := bd1_e hf
        refine qX5_287 (q := x2) hx2 g76 C X hl.1 ((Nat.le_of_ble_eq_true rfl)) ⟨(Nat.le_of_ble_eq_true rfl), (Nat.le_of_ble_eq_true rfl)⟩ ⟨Nat.zero_le _, Nat.zero_le _⟩ dX5_heat_76 (fun H locs X => ?_)
        refine qX5_174 rfl C X hl.1 ((Nat.le_of_ble_eq_true rfl)) ⟨(Nat.le_of_ble_eq_true rfl), (Nat.le_of_ble_eq_true rfl)⟩ ⟨Nat.zero_le _, Nat.zero_le _⟩ dX5_heat_79 (fun H locs X b79 => ?_)
        refine lv_if_eq (tgt := 87) hx hb dX5_heat_82 (by decide) (fun c82 => ?_) (fun c82 => ?_)
        · replace hf := ifp c82 hf
          obtain ⟨v87, e87, hf⟩ := nm_e2 hf
          refine rIinc (lv' := [(3, .int v87), (4, .long r58), (2, .ref (ad (71 + 2 * x2)))]) hx hb dX5_heat_87 hl (k := 2) rfl e87 rfl (by decide) rfl (fun ls hl => ?_)
          refine lv_goto (tgt := 48) hx hb dX5_heat_90 (by decide) ?_
          exact ih x2 v87 hx2 hf _ _ X _ (lv_sub hl [2, 0] rfl)
        · replace hf := ifn c82 hf
          refine lv_iload_n hx hb dX5_heat_85 rfl (lv_at hl 2 rfl) ?_
          exact retI C X hr rfl (Option.some.inj hf) rfl rfl dX5_heat_86
set_option maxRecDepth 100000 in
set_option maxHeartbeats 4000000 in
theorem w5_heat {p : Program} {l : Launch} {e : Env} {s : State} {m : MethodId} {args : Array Value} {below : List Frame} {meth : Method} {c : Code} {D : va_G} {cy : Nat → ClassId} {ad : Nat → Nat} {r : Int32} {μ : Mem} {ν : Lem} (C : Cx true p s m args meth c cX5_heat 6 RX5 D cy ad) (hr : meth.sig.returnType = some .int) : ∀ (x1 : Int32), f5_heat μ x1 = some r → ∀ (H : Heap) (locs : List Loc), Wd true D cy ad s.heap μ ν H locs → ∀ (ls : Array Slot), lv_has ls 6 [(0, .ref (ad 0)), (1, .int x1)] → WI true p l e 3 63 s m args below meth c D cy ad .int r μ ν H locs (F0 m 0 ls []) := by
  have hx := C.1.1
  have hb := C.1.2.1
  have hown := C.1.2.2.2.1
  have hts := C.1.2.2.2.2
  intro x1 hf H locs X ls hl
  unfold f5_heat at hf
  refine lv_iload_n hx hb dX5_heat_0 rfl (lv_at hl 1 rfl) ?_
  refine qX5_227 rfl C X hl.1 ((Nat.le_of_ble_eq_true rfl)) ⟨(Nat.le_of_ble_eq_true rfl), (Nat.le_of_ble_eq_true rfl)⟩ ⟨Nat.zero_le _, Nat.zero_le _⟩ dX5_heat_1 (fun H locs X b1 => ?_)
  refine lv_if_ne (tgt := 10) hx hb dX5_heat_4 (by decide) (fun c4 => ?_) (fun c4 => ?_)
  · replace hf := ifn c4 hf
    refine lv_aload_n hx hb dX5_heat_10 rfl (lv_at hl 0 rfl) ?_
    refine gfX5_34 C X dX5_heat_11 ?_
    refine lv_iload_n hx hb dX5_heat_14 rfl (lv_at hl 1 rfl) ?_
    obtain ⟨h15, hf⟩ := gd_e hf
    have hb15 : x1.toNatClampNeg < 4 := by have := inb_lt h15; omega
    refine rAald (t := 2) (k' := (71 + 2 * x1.toNatClampNeg)) C X rfl rfl h15 (by omega) dX5_heat_15 ?_
    refine lv_astore_n (lv' := [(2, .ref (ad (71 + 2 * x1.toNatClampNeg))), (0, .ref (ad 0)), (1, .int x1)]) hx hb dX5_heat_16 rfl hl (by decide) rfl (fun ls hl => ?_)
    refine lv_aload_n hx hb dX5_heat_17 rfl (lv_at hl 0 rfl) ?_
    refine qX5_230 (q := x1.toNatClampNeg) hb15 rfl C X hl.1 ((Nat.le_of_ble_eq_true rfl)) ⟨(Nat.le_of_ble_eq_true rfl), (Nat.le_of_ble_eq_true rfl)⟩ ⟨Nat.zero_le _, Nat.zero_le _⟩ dX5_heat_18 (fun H locs X b18 => ?_)
    refine lv_if_eq (tgt := 27) hx hb dX5_heat_21 (by decide) (fun c21 => ?_) (fun c21 => ?_)
    · replace hf := ifp c21 hf
      refine lv_aload_n hx hb dX5_heat_27 rfl (lv_at hl 0 rfl) ?_
      refine gfX5_242 (q := x1.toNatClampNeg) hb15 rfl C X dX5_heat_28 ?_
      refine lv_iconst (v := 2) hx hb dX5_heat_31 (by decide) ?_
      refine rIrem hx hb dX5_heat_32 (by decide) ?_
      refine lv_if_ne (tgt := 43) hx hb dX5_heat_33 (by decide) (fun c33 => ?_) (fun c33 => ?_)
      · replace hf := ifn c33 hf
        refine lv_bipush (v := (-2)) hx hb dX5_heat_43 (by decide) ?_
        exact retI C X hr rfl (Option.some.inj hf) rfl rfl dX5_heat_45
      · replace hf := ifp c33 hf
        refine lv_aload_n hx hb dX5_heat_36 rfl (lv_at hl 0 rfl) ?_
        refine gfX5_242 (q := x1.toNatClampNeg) hb15 rfl C X dX5_heat_37 ?_
        refine lv_if_ne (tgt := 46) hx hb dX5_heat_40 (by decide) (fun c40 => ?_) (fun c40 => ?_)
        · replace hf := ifn c40 hf
          refine lv_iconst (v := 0) hx hb dX5_heat_46 (by decide) ?_
          refine lv_istore_n (lv' := [(3, .int 0), (2, .ref (ad (71 + 2 * x1.toNatClampNeg))), (0, .ref (ad 0)), (1, .int x1)]) hx hb dX5_heat_47 rfl hl (by decide) rfl (fun ls hl => ?_)
          exact w5_heat_1 C hr  FUEL (x1.toNatClampNeg) 0 hb15 hf _ _ X _ (lv_sub hl [1, 0] rfl)
        · replace hf := ifp c40 hf
          refine lv_bipush (v := (-2)) hx hb dX5_heat_43 (by decide) ?_
          exact retI C X hr rfl (Option.some.inj hf) rfl rfl dX5_heat_45
    · replace hf := ifn c21 hf
      refine lv_bipush (v := (-11)) hx hb dX5_heat_24 (by decide) ?_
      exact retI C X hr rfl (Option.some.inj hf) rfl rfl dX5_heat_26
  · replace hf := ifp c4 hf
    refine lv_bipush (v := (-2)) hx hb dX5_heat_7 (by decide) ?_
    exact retI C X hr rfl (Option.some.inj hf) rfl rfl dX5_heat_9
theorem ct5_heat {x1 : Int32} {μ : Mem} {ν : Lem} {r : Int32} (hg : f5_heat μ x1 = some r) : CtI true yX5_heat cX5_heat 6 3 63 .int (fun ad => [.ref (ad 0), .int x1]) μ ν r μ ν :=
  mkI (by decide) rfl (fun ad => Nat.le_of_ble_eq_true rfl) (fun p l e s m args below meth c D cy ad C hr X ls hl => w5_heat C hr x1 hg _ _ X _ hl)
theorem qL_102 {p : Program} {l : Launch} {e : Env} {R : Room} {s : State} {m : MethodId} {args : Array Value} {below : List Frame} {meth : Method} {c : Code} {H : Heap} {locs : List Loc} {cells slots : Nat} {Q : State → Prop} {A : Nat → Prop} {cc : ByteArray} {nL : Nat} {D : va_G} {cy : Nat → ClassId} {ad : Nat → Nat} {μ : Mem} {ν : Lem} {pc : Nat} {ls : Array Slot} {rest : List Value} {x1 : Int32} {r : Int32} (hg : f5_heat μ x1 = some r) (C : CxA true A p s m args meth c cc nL RL D cy ad) (X : WdA true A D cy ad s.heap μ ν H locs) (hsz : ls.size = nL) (hrm : (rest.map fun v => v.category).sum ≤ 8) (hR : 3 + 1 ≤ R.frames ∧ 8 + (6 + 11) + 63 ≤ R.locals) (hcs : cells ≤ R.cells ∧ slots ≤ R.slots) (hd : decode cc pc = .ok (.invokevirtual 102, 3)) (kk : ∀ (H1 : Heap) (locs1 : List Loc), WdA true A D cy ad s.heap μ ν H1 locs1 → narrow .int (.int r) = .int r → W p l e R s m args below meth c H1 locs1 cells slots Q (F0 m (pc + 3) ls (.int r :: rest))) : W p l e R s m args below meth c H locs cells slots Q (F0 m pc ls (.int x1 :: .ref (ad 0) :: rest)) :=
  rCVI (As := [.int x1]) (k := 0) (ct5_heat hg) ok5 lX5_heat k_685 rfl rfl rfl C X rfl hrm hsz hR hcs hd kk
set_option maxRecDepth 100000 in
set_option maxHeartbeats 4000000 in
theorem w5_meetsDrawn_1 {p : Program} {l : Launch} {e : Env} {s : State} {m : MethodId} {args : Array Value} {below : List Frame} {meth : Method} {c : Code} {D : va_G} {cy : Nat → ClassId} {ad : Nat → Nat} {r : Int32} {μ1 : Mem} {ν : Lem} (C : Cx true p s m args meth c cX5_meetsDrawn 5 RX5 D cy ad) (hr : meth.sig.returnType = some .int) : ∀ (n : Nat), ∀ (μ : Mem) (x2 : Int32) (x3 : Int32) (x4 : Int32), f5_meetsDrawn_1 n μ x2 x3 x4 = some (r, μ1) → ∀ (H : Heap) (locs : List Loc), Wd true D cy ad s.heap μ ν H locs → ∀ (ls : Array Slot), lv_has ls 5 [(0, .ref (ad 0)), (2, .int x2), (3, .int x3), (4, .int x4)] → WI true p l e 5 115 s m args below meth c D cy ad .int r μ1 ν H locs (F0 m 21 ls []) := by
  have hx := C.1.1
  have hb := C.1.2.1
  have hown := C.1.2.2.2.1
  have hts := C.1.2.2.2.2
  intro n
  induction n with
  | zero =>
    intro μ x2 x3 x4 hf H locs X ls hl
    rw [f5_meetsDrawn_1] at hf
    cases hf
  | succ n ih =>
    intro μ x2 x3 x4 hf H locs X ls hl
    rw [f5_meetsDrawn_1] at hf
    refine lv_iload hx hb dX5_meetsDrawn_21 (lv_at hl 3 rfl) ?_
    refine lv_iload_n hx hb dX5_meetsDrawn_23 rfl (lv_at hl 1 rfl) ?_
    refine lv_icmp_ge (tgt := 74) hx hb dX5_meetsDrawn_24 (by decide) (fun c24 => ?_) (fun c24 => ?_)
    · replace hf := ifp c24 hf
      refine lv_aload_n hx hb dX5_meetsDrawn_74 rfl (lv_at hl 0 rfl) ?_
      refine gfX5_57 C X dX5_meetsDrawn_75 ?_
      refine lv_aload_n hx hb dX5_meetsDrawn_78 rfl (lv_at hl 0 rfl) ?_
      refine gfX5_42 C X dX5_meetsDrawn_79 ?_
      refine lv_aload_n hx hb dX5_meetsDrawn_82 rfl (lv_at hl 0 rfl) ?_
      refine gfX5_10 C X dX5_meetsDrawn_83 ?_
      refine gfX5_82 (o := 0) (by decide) rfl C X dX5_meetsDrawn_86 ?_
      obtain ⟨μ89, g89, hf⟩ := bd1_e hf
      refine qX5_220 (j := 12) (by decide) (x1 := 8) rfl g89 C X hl.1 ((Nat.le_of_ble_eq_true rfl)) ⟨(Nat.le_of_ble_eq_true rfl), (Nat.le_of_ble_eq_true rfl)⟩ ⟨Nat.zero_le _, Nat.zero_le _⟩ dX5_meetsDrawn_89 (fun H locs X => ?_)
      refine lv_aload_n hx hb dX5_meetsDrawn_92 rfl (lv_at hl 0 rfl) ?_
      refine lv_iconst (v := 0) hx hb dX5_meetsDrawn_93 (by decide) ?_
      obtain ⟨r94, g94, hf⟩ := bd1_e hf
      refine qX5_193 g94 C X hl.1 ((Nat.le_of_ble_eq_true rfl)) ⟨(Nat.le_of_ble_eq_true rfl), (Nat.le_of_ble_eq_true rfl)⟩ ⟨Nat.zero_le _, Nat.zero_le _⟩ dX5_meetsDrawn_94 (fun H locs X b94 => ?_)
      exact retI C X hr rfl (so2 hf).1 (so2 hf).2 rfl dX5_meetsDrawn_97
    · replace hf := ifn c24 hf
      refine lv_iload_n hx hb dX5_meetsDrawn_27 rfl (lv_at hl 2 rfl) ?_
      refine lv_ldcw (v := 1103515245) hx hb hown (hts _ k_701) dX5_meetsDrawn_28 ?_
      refine lv_imul hx hb dX5_meetsDrawn_31 ?_
      refine lv_sipush (v := 12345) hx hb dX5_meetsDrawn_32 (by decide) ?_
      refine lv_iadd hx hb dX5_meetsDrawn_35 ?_
      obtain ⟨v36, e36, hf⟩ := nm_e2 hf
      refine st_i e36 ?_
      refine lv_istore_n (lv' := [(3, .int v36), (0, .ref (ad 0)), (2, .int x2), (4, .int x4)]) hx hb dX5_meetsDrawn_36 rfl hl (by decide) rfl (fun ls hl => ?_)
      refine lv_aload_n hx hb dX5_meetsDrawn_37 rfl (lv_at hl 1 rfl) ?_
      refine gfX5_57 C X dX5_meetsDrawn_38 ?_
      refine lv_sipush (v := 600) hx hb dX5_meetsDrawn_41 (by decide) ?_
      refine lv_iload hx hb dX5_meetsDrawn_44 (lv_at hl 3 rfl) ?_
      refine lv_imul hx hb dX5_meetsDrawn_46 ?_
      refine lv_iload_n hx hb dX5_meetsDrawn_47 rfl (lv_at hl 2 rfl) ?_
      obtain ⟨h48, hf⟩ := gd_e hf
      refine lv_idiv hx hb dX5_meetsDrawn_48 h48 ?_
      refine lv_iload_n hx hb dX5_meetsDrawn_49 rfl (lv_at hl 0 rfl) ?_
      refine lv_bipush (v := 9) hx hb dX5_meetsDrawn_50 (by decide) ?_
      refine lv_iushr (v := jushr v36 9) hx hb dX5_meetsDrawn_52 rfl ?_
      refine lv_aload_n hx hb dX5_meetsDrawn_53 rfl (lv_at hl 1 rfl) ?_
      refine gfX5_10 C X dX5_meetsDrawn_54 ?_
      refine gfX5_82 (o := 0) (by decide) rfl C X dX5_meetsDrawn_57 ?_
      refine lv_iconst (v := 1) hx hb dX5_meetsDrawn_60 (by decide) ?_
      refine lv_iadd hx hb dX5_meetsDrawn_61 ?_
      obtain ⟨r62, g62, hf⟩ := bd1_e hf
      refine qX5_295 g62 C X hl.1 ((Nat.le_of_ble_eq_true rfl)) ⟨(Nat.le_of_ble_eq_true rfl), (Nat.le_of_ble_eq_true rfl)⟩ ⟨Nat.zero_le _, Nat.zero_le _⟩ dX5_meetsDrawn_62 (fun H locs X b62 => ?_)
      obtain ⟨μ65, g65, hf⟩ := bd1_e hf
      refine qX5_120 (j := 12) (by decide) g65 C X hl.1 ((Nat.le_of_ble_eq_true rfl)) ⟨(Nat.le_of_ble_eq_true rfl), (Nat.le_of_ble_eq_true rfl)⟩ ⟨Nat.zero_le _, Nat.zero_le _⟩ dX5_meetsDrawn_65 (fun H locs X => ?_)
      obtain ⟨v68, e68, hf⟩ := nm_e2 hf
      refine rIinc (lv' := [(4, .int v68), (3, .int v36), (0, .ref (ad 0)), (2, .int x2)]) hx hb dX5_meetsDrawn_68 hl (k := 3) rfl e68 rfl (by decide) rfl (fun ls hl => ?_)
      refine lv_goto (tgt := 21) hx hb dX5_meetsDrawn_71 (by decide) ?_
      exact ih μ65 x2 v36 v68 hf _ _ X _ (lv_sub hl [2, 3, 1, 0] rfl)
set_option maxRecDepth 100000 in
set_option maxHeartbeats 4000000 in
theorem w5_meetsDrawn {p : Program} {l : Launch} {e : Env} {s : State} {m : MethodId} {args : Array Value} {below : List Frame} {meth : Method} {c : Code} {D : va_G} {cy : Nat → ClassId} {ad : Nat → Nat} {r : Int32} {μ1 : Mem} {ν : Lem} (C : Cx true p s m args meth c cX5_meetsDrawn 5 RX5 D cy ad) (hr : meth.sig.returnType = some .int) : ∀ (μ : Mem) (x1 : Int32) (x2 : Int32), f5_meetsDrawn μ x1 x2 = some (r, μ1) → ∀ (H : Heap) (locs : List Loc), Wd true D cy ad s.heap μ ν H locs → ∀ (ls : Array Slot), lv_has ls 5 [(0, .ref (ad 0)), (1, .int x1), (2, .int x2)] → WI true p l e 5 115 s m args below meth c D cy ad .int r μ1 ν H locs (F0 m 0 ls []) := by
  have hx := C.1.1
  have hb := C.1.2.1
  have hown := C.1.2.2.2.1
  have hts := C.1.2.2.2.2
  intro μ x1 x2 hf H locs X ls hl
  unfold f5_meetsDrawn at hf
  refine lv_iload_n hx hb dX5_meetsDrawn_0 rfl (lv_at hl 2 rfl) ?_
  refine lv_iconst (v := 1) hx hb dX5_meetsDrawn_1 (by decide) ?_
  refine lv_icmp_ge (tgt := 7) hx hb dX5_meetsDrawn_2 (by decide) (fun c2 => ?_) (fun c2 => ?_)
  · replace hf := ifp c2 hf
    refine lv_aload_n hx hb dX5_meetsDrawn_7 rfl (lv_at hl 0 rfl) ?_
    refine gfX5_57 C X dX5_meetsDrawn_8 ?_
    refine lv_iconst (v := 0) hx hb dX5_meetsDrawn_11 (by decide) ?_
    refine lv_iconst (v := 0) hx hb dX5_meetsDrawn_12 (by decide) ?_
    obtain ⟨μ13, g13, hf⟩ := nm_e2 hf
    refine qX5_105 (j := 12) (by decide) g13.symm C X hl.1 ((Nat.le_of_ble_eq_true rfl)) ⟨(Nat.le_of_ble_eq_true rfl), (Nat.le_of_ble_eq_true rfl)⟩ ⟨Nat.zero_le _, Nat.zero_le _⟩ dX5_meetsDrawn_13 (fun H locs X => ?_)
    refine lv_iload_n hx hb dX5_meetsDrawn_16 rfl (lv_at hl 1 rfl) ?_
    refine lv_istore_n (lv' := [(3, .int x1), (0, .ref (ad 0)), (1, .int x1), (2, .int x2)]) hx hb dX5_meetsDrawn_17 rfl hl (by decide) rfl (fun ls hl => ?_)
    refine lv_iconst (v := 0) hx hb dX5_meetsDrawn_18 (by decide) ?_
    refine lv_istore (lv' := [(4, .int 0), (3, .int x1), (0, .ref (ad 0)), (1, .int x1), (2, .int x2)]) hx hb dX5_meetsDrawn_19 hl (by decide) rfl (fun ls hl => ?_)
    exact w5_meetsDrawn_1 C hr  FUEL μ13 x2 x1 0 hf _ _ X _ (lv_sub hl [2, 4, 1, 0] rfl)
  · replace hf := ifn c2 hf
    refine lv_iconst (v := (-1)) hx hb dX5_meetsDrawn_5 (by decide) ?_
    exact retI C X hr rfl (so2 hf).1 (so2 hf).2 rfl dX5_meetsDrawn_6
theorem ct5_meetsDrawn {x1 : Int32} {x2 : Int32} {μ : Mem} {ν : Lem} {r : Int32} {μ1 : Mem} (hg : f5_meetsDrawn μ x1 x2 = some (r, μ1)) : CtI true yX5_meetsDrawn cX5_meetsDrawn 5 5 115 .int (fun ad => [.ref (ad 0), .int x1, .int x2]) μ ν r μ1 ν :=
  mkI (by decide) rfl (fun ad => Nat.le_of_ble_eq_true rfl) (fun p l e s m args below meth c D cy ad C hr X ls hl => w5_meetsDrawn C hr μ x1 x2 hg _ _ X _ hl)
theorem qX5_291 {p : Program} {l : Launch} {e : Env} {R : Room} {s : State} {m : MethodId} {args : Array Value} {below : List Frame} {meth : Method} {c : Code} {H : Heap} {locs : List Loc} {cells slots : Nat} {Q : State → Prop} {A : Nat → Prop} {cc : ByteArray} {nL : Nat} {D : va_G} {cy : Nat → ClassId} {ad : Nat → Nat} {μ : Mem} {ν : Lem} {pc : Nat} {ls : Array Slot} {rest : List Value} {x1 : Int32} {x2 : Int32} {r : Int32} {μ1 : Mem} (hg : f5_meetsDrawn μ x1 x2 = some (r, μ1)) (C : CxA true A p s m args meth c cc nL RX5 D cy ad) (X : WdA true A D cy ad s.heap μ ν H locs) (hsz : ls.size = nL) (hrm : (rest.map fun v => v.category).sum ≤ 8) (hR : 5 + 1 ≤ R.frames ∧ 8 + (5 + 11) + 115 ≤ R.locals) (hcs : cells ≤ R.cells ∧ slots ≤ R.slots) (hd : decode cc pc = .ok (.invokevirtual 291, 3)) (kk : ∀ (H1 : Heap) (locs1 : List Loc), WdA true A D cy ad s.heap μ1 ν H1 locs1 → narrow .int (.int r) = .int r → W p l e R s m args below meth c H1 locs1 cells slots Q (F0 m (pc + 3) ls (.int r :: rest))) : W p l e R s m args below meth c H locs cells slots Q (F0 m pc ls (.int x2 :: .int x1 :: .ref (ad 0) :: rest)) :=
  rCVI (As := [.int x1, .int x2]) (k := 0) (ct5_meetsDrawn hg) ok5 lX5_meetsDrawn k_697 rfl rfl rfl C X rfl hrm hsz hR hcs hd kk
set_option maxRecDepth 100000 in
set_option maxHeartbeats 4000000 in
theorem w5_drawn {p : Program} {l : Launch} {e : Env} {s : State} {m : MethodId} {args : Array Value} {below : List Frame} {meth : Method} {c : Code} {D : va_G} {cy : Nat → ClassId} {ad : Nat → Nat} {r : Int32} {μ1 : Mem} {ν : Lem} (C : Cx true p s m args meth c cX5_drawn 4 RX5 D cy ad) (hr : meth.sig.returnType = some .int) : ∀ (μ : Mem) (x1 : Int32) (x2 : Int32) (x3 : Int32), f5_drawn μ x1 x2 x3 = some (r, μ1) → ∀ (H : Heap) (locs : List Loc), Wd true D cy ad s.heap μ ν H locs → ∀ (ls : Array Slot), lv_has ls 4 [(0, .ref (ad 0)), (1, .int x1), (2, .int x2), (3, .int x3)] → WI true p l e 6 139 s m args below meth c D cy ad .int r μ1 ν H locs (F0 m 0 ls []) := by
  have hx := C.1.1
  have hb := C.1.2.1
  have hown := C.1.2.2.2.1
  have hts := C.1.2.2.2.2
  intro μ x1 x2 x3 hf H locs X ls hl
  unfold f5_drawn at hf
  refine lv_iload_n hx hb dX5_drawn_0 rfl (lv_at hl 2 rfl) ?_
  refine lv_iconst (v := 1) hx hb dX5_drawn_1 (by decide) ?_
  refine lv_icmp_lt (tgt := 22) hx hb dX5_drawn_2 (by decide) (fun c2 => ?_) (fun c2 => ?_)
  · replace hf := ifp c2 hf
    refine lv_bipush (v := (-2)) hx hb dX5_drawn_22 (by decide) ?_
    exact retI C X hr rfl (so2 hf).1 (so2 hf).2 rfl dX5_drawn_24
  · replace hf := ifn c2 hf
    refine lv_iload_n hx hb dX5_drawn_5 rfl (lv_at hl 2 rfl) ?_
    refine lv_bipush (v := 8) hx hb dX5_drawn_6 (by decide) ?_
    refine lv_icmp_gt (tgt := 22) hx hb dX5_drawn_8 (by decide) (fun c8 => ?_) (fun c8 => ?_)
    · replace hf := ifp c8 hf
      refine lv_bipush (v := (-2)) hx hb dX5_drawn_22 (by decide) ?_
      exact retI C X hr rfl (so2 hf).1 (so2 hf).2 rfl dX5_drawn_24
    · replace hf := ifn c8 hf
      refine lv_aload_n hx hb dX5_drawn_11 rfl (lv_at hl 0 rfl) ?_
      refine gfX5_10 C X dX5_drawn_12 ?_
      refine lv_iload_n hx hb dX5_drawn_15 rfl (lv_at hl 3 rfl) ?_
      refine qX5_85 (o := 0) (by decide) rfl C X hl.1 ((Nat.le_of_ble_eq_true rfl)) ⟨(Nat.le_of_ble_eq_true rfl), (Nat.le_of_ble_eq_true rfl)⟩ ⟨Nat.zero_le _, Nat.zero_le _⟩ dX5_drawn_16 (fun H locs X b16 => ?_)
      refine lv_if_ne (tgt := 25) hx hb dX5_drawn_19 (by decide) (fun c19 => ?_) (fun c19 => ?_)
      · replace hf := ifn c19 hf
        refine lv_aload_n hx hb dX5_drawn_25 rfl (lv_at hl 0 rfl) ?_
        refine gfX5_10 C X dX5_drawn_26 ?_
        refine gfX5_92 (o := 0) (by decide) rfl (k2 := 12) rfl C X dX5_drawn_29 ?_
        refine lv_iload_n hx hb dX5_drawn_32 rfl (lv_at hl 3 rfl) ?_
        obtain ⟨h33, hf⟩ := gd_e hf
        have hb33 : x3.toNatClampNeg < 13 := by have := inb_lt h33; omega
        refine rAald (t := 0) (k' := (14 + 3 * x3.toNatClampNeg)) C X rfl rfl h33 (by omega) dX5_drawn_33 ?_
        refine lv_aload_n hx hb dX5_drawn_34 rfl (lv_at hl 0 rfl) ?_
        refine gfX5_38 C X dX5_drawn_35 ?_
        refine lv_aload_n hx hb dX5_drawn_38 rfl (lv_at hl 0 rfl) ?_
        refine gfX5_10 C X dX5_drawn_39 ?_
        refine gfX5_82 (o := 0) (by decide) rfl C X dX5_drawn_42 ?_
        obtain ⟨μ45, g45, hf⟩ := bd1_e hf
        refine qX5_220 (j := x3.toNatClampNeg) hb33 (x1 := 7) rfl g45 C X hl.1 ((Nat.le_of_ble_eq_true rfl)) ⟨(Nat.le_of_ble_eq_true rfl), (Nat.le_of_ble_eq_true rfl)⟩ ⟨Nat.zero_le _, Nat.zero_le _⟩ dX5_drawn_45 (fun H locs X => ?_)
        refine lv_aload_n hx hb dX5_drawn_48 rfl (lv_at hl 0 rfl) ?_
        refine lv_iload_n hx hb dX5_drawn_49 rfl (lv_at hl 1 rfl) ?_
        refine lv_iload_n hx hb dX5_drawn_50 rfl (lv_at hl 2 rfl) ?_
        obtain ⟨r51, μ51, g51, hf⟩ := bd2_e hf
        refine qX5_291 g51 C X hl.1 ((Nat.le_of_ble_eq_true rfl)) ⟨(Nat.le_of_ble_eq_true rfl), (Nat.le_of_ble_eq_true rfl)⟩ ⟨Nat.zero_le _, Nat.zero_le _⟩ dX5_drawn_51 (fun H locs X b51 => ?_)
        exact retI C X hr rfl (so2 hf).1 (so2 hf).2 rfl dX5_drawn_54
      · replace hf := ifp c19 hf
        refine lv_bipush (v := (-2)) hx hb dX5_drawn_22 (by decide) ?_
        exact retI C X hr rfl (so2 hf).1 (so2 hf).2 rfl dX5_drawn_24
theorem ct5_drawn {x1 : Int32} {x2 : Int32} {x3 : Int32} {μ : Mem} {ν : Lem} {r : Int32} {μ1 : Mem} (hg : f5_drawn μ x1 x2 x3 = some (r, μ1)) : CtI true yX5_drawn cX5_drawn 4 6 139 .int (fun ad => [.ref (ad 0), .int x1, .int x2, .int x3]) μ ν r μ1 ν :=
  mkI (by decide) rfl (fun ad => Nat.le_of_ble_eq_true rfl) (fun p l e s m args below meth c D cy ad C hr X ls hl => w5_drawn C hr μ x1 x2 x3 hg _ _ X _ hl)
theorem qL_106 {p : Program} {l : Launch} {e : Env} {R : Room} {s : State} {m : MethodId} {args : Array Value} {below : List Frame} {meth : Method} {c : Code} {H : Heap} {locs : List Loc} {cells slots : Nat} {Q : State → Prop} {A : Nat → Prop} {cc : ByteArray} {nL : Nat} {D : va_G} {cy : Nat → ClassId} {ad : Nat → Nat} {μ : Mem} {ν : Lem} {pc : Nat} {ls : Array Slot} {rest : List Value} {x1 : Int32} {x2 : Int32} {x3 : Int32} {r : Int32} {μ1 : Mem} (hg : f5_drawn μ x1 x2 x3 = some (r, μ1)) (C : CxA true A p s m args meth c cc nL RL D cy ad) (X : WdA true A D cy ad s.heap μ ν H locs) (hsz : ls.size = nL) (hrm : (rest.map fun v => v.category).sum ≤ 8) (hR : 6 + 1 ≤ R.frames ∧ 8 + (4 + 11) + 139 ≤ R.locals) (hcs : cells ≤ R.cells ∧ slots ≤ R.slots) (hd : decode cc pc = .ok (.invokevirtual 106, 3)) (kk : ∀ (H1 : Heap) (locs1 : List Loc), WdA true A D cy ad s.heap μ1 ν H1 locs1 → narrow .int (.int r) = .int r → W p l e R s m args below meth c H1 locs1 cells slots Q (F0 m (pc + 3) ls (.int r :: rest))) : W p l e R s m args below meth c H locs cells slots Q (F0 m pc ls (.int x3 :: .int x2 :: .int x1 :: .ref (ad 0) :: rest)) :=
  rCVI (As := [.int x1, .int x2, .int x3]) (k := 0) (ct5_drawn hg) ok5 lX5_drawn k_693 rfl rfl rfl C X rfl hrm hsz hR hcs hd kk
set_option maxRecDepth 100000 in
set_option maxHeartbeats 4000000 in
theorem w5_chance_1 {p : Program} {l : Launch} {e : Env} {s : State} {m : MethodId} {args : Array Value} {below : List Frame} {meth : Method} {c : Code} {D : va_G} {cy : Nat → ClassId} {ad : Nat → Nat} {r : Int64} {μ1 : Mem} {ν : Lem} (C : Cx true p s m args meth c cX5_chance 7 RX5 D cy ad) (hr : meth.sig.returnType = some .long) : ∀ (n : Nat), ∀ (μ : Mem) (x1 : Int32) (x2 : Int32) (x4 : Int32) (x5 : Int32) (x6 : Int32), f5_chance_1 n μ x1 x2 x4 x5 x6 = some (r, μ1) → ∀ (H : Heap) (locs : List Loc), Wd true D cy ad s.heap μ ν H locs → ∀ (ls : Array Slot), lv_has ls 7 [(0, .ref (ad 0)), (1, .int x1), (2, .int x2), (4, .int x4), (5, .int x5), (6, .int x6)] → WL true p l e 6 139 s m args below meth c D cy ad r μ1 ν H locs (F0 m 66 ls []) := by
  have hx := C.1.1
  have hb := C.1.2.1
  have hown := C.1.2.2.2.1
  have hts := C.1.2.2.2.2
  intro n
  induction n with
  | zero =>
    intro μ x1 x2 x4 x5 x6 hf H locs X ls hl
    rw [f5_chance_1] at hf
    cases hf
  | succ n ih =>
    intro μ x1 x2 x4 x5 x6 hf H locs X ls hl
    rw [f5_chance_1] at hf
    refine lv_iload hx hb dX5_chance_66 (lv_at hl 5 rfl) ?_
    refine lv_iload_n hx hb dX5_chance_68 rfl (lv_at hl 2 rfl) ?_
    refine lv_icmp_ge (tgt := 94) hx hb dX5_chance_69 (by decide) (fun c69 => ?_) (fun c69 => ?_)
    · replace hf := ifp c69 hf
      refine lv_iload hx hb dX5_chance_94 (lv_at hl 4 rfl) ?_
      refine lv_i2l hx hb dX5_chance_96 rfl ?_
      refine lv_iload_n hx hb dX5_chance_97 rfl (lv_at hl 2 rfl) ?_
      refine lv_i2l hx hb dX5_chance_98 rfl ?_
      refine lv_iload hx hb dX5_chance_99 (lv_at hl 3 rfl) ?_
      obtain ⟨r101, g101, hf⟩ := bd1_e hf
      refine qX5_210 g101 C X hl.1 ((Nat.le_of_ble_eq_true rfl)) ⟨(Nat.le_of_ble_eq_true rfl), (Nat.le_of_ble_eq_true rfl)⟩ ⟨Nat.zero_le _, Nat.zero_le _⟩ dX5_chance_101 (fun H locs X => ?_)
      exact retL C X hr (so2 hf).1 (so2 hf).2 rfl dX5_chance_104
    · replace hf := ifn c69 hf
      refine lv_aload_n hx hb dX5_chance_72 rfl (lv_at hl 0 rfl) ?_
      refine lv_iload_n hx hb dX5_chance_73 rfl (lv_at hl 1 rfl) ?_
      refine lv_iload hx hb dX5_chance_74 (lv_at hl 5 rfl) ?_
      refine lv_iadd hx hb dX5_chance_76 ?_
      refine lv_iconst (v := 4) hx hb dX5_chance_77 (by decide) ?_
      obtain ⟨r78, μ78, g78, hf⟩ := bd2_e hf
      refine qX5_291 g78 C X hl.1 ((Nat.le_of_ble_eq_true rfl)) ⟨(Nat.le_of_ble_eq_true rfl), (Nat.le_of_ble_eq_true rfl)⟩ ⟨Nat.zero_le _, Nat.zero_le _⟩ dX5_chance_78 (fun H locs X b78 => ?_)
      refine lv_iconst (v := (-1)) hx hb dX5_chance_81 (by decide) ?_
      refine lv_icmp_eq (tgt := 88) hx hb dX5_chance_82 (by decide) (fun c82 => ?_) (fun c82 => ?_)
      · replace hf := ifp c82 hf
        obtain ⟨v88, e88, hf⟩ := nm_e2 hf
        refine rIinc (lv' := [(6, .int v88), (0, .ref (ad 0)), (1, .int x1), (2, .int x2), (4, .int x4), (5, .int x5)]) hx hb dX5_chance_88 hl (k := 5) rfl e88 rfl (by decide) rfl (fun ls hl => ?_)
        refine lv_goto (tgt := 66) hx hb dX5_chance_91 (by decide) ?_
        exact ih μ78 x1 x2 x4 x5 v88 hf _ _ X _ (lv_sub hl [1, 2, 3, 4, 5, 0] rfl)
      · replace hf := ifn c82 hf
        obtain ⟨v85, e85, hf⟩ := nm_e2 hf
        refine rIinc (lv' := [(5, .int v85), (0, .ref (ad 0)), (1, .int x1), (2, .int x2), (4, .int x4), (6, .int x6)]) hx hb dX5_chance_85 hl (k := 4) rfl e85 rfl (by decide) rfl (fun ls hl => ?_)
        obtain ⟨v88, e88, hf⟩ := nm_e2 hf
        refine rIinc (lv' := [(6, .int v88), (5, .int v85), (0, .ref (ad 0)), (1, .int x1), (2, .int x2), (4, .int x4)]) hx hb dX5_chance_88 hl (k := 5) rfl e88 rfl (by decide) rfl (fun ls hl => ?_)
        refine lv_goto (tgt := 66) hx hb dX5_chance_91 (by decide) ?_
        exact ih μ78 x1 x2 x4 v85 v88 hf _ _ X _ (lv_sub hl [2, 3, 4, 5, 1, 0] rfl)
set_option maxRecDepth 100000 in
set_option maxHeartbeats 4000000 in
theorem w5_chance {p : Program} {l : Launch} {e : Env} {s : State} {m : MethodId} {args : Array Value} {below : List Frame} {meth : Method} {c : Code} {D : va_G} {cy : Nat → ClassId} {ad : Nat → Nat} {r : Int64} {μ1 : Mem} {ν : Lem} (C : Cx true p s m args meth c cX5_chance 7 RX5 D cy ad) (hr : meth.sig.returnType = some .long) : ∀ (μ : Mem) (x1 : Int32) (x2 : Int32) (x3 : Int32) (x4 : Int32), f5_chance μ x1 x2 x3 x4 = some (r, μ1) → ∀ (H : Heap) (locs : List Loc), Wd true D cy ad s.heap μ ν H locs → ∀ (ls : Array Slot), lv_has ls 7 [(0, .ref (ad 0)), (1, .int x1), (2, .int x2), (3, .int x3), (4, .int x4)] → WL true p l e 6 139 s m args below meth c D cy ad r μ1 ν H locs (F0 m 0 ls []) := by
  have hx := C.1.1
  have hb := C.1.2.1
  have hown := C.1.2.2.2.1
  have hts := C.1.2.2.2.2
  intro μ x1 x2 x3 x4 hf H locs X ls hl
  unfold f5_chance at hf
  refine lv_aload_n hx hb dX5_chance_0 rfl (lv_at hl 0 rfl) ?_
  refine gfX5_10 C X dX5_chance_1 ?_
  refine lv_iload_n hx hb dX5_chance_4 rfl (lv_at hl 3 rfl) ?_
  refine qX5_85 (o := 0) (by decide) rfl C X hl.1 ((Nat.le_of_ble_eq_true rfl)) ⟨(Nat.le_of_ble_eq_true rfl), (Nat.le_of_ble_eq_true rfl)⟩ ⟨Nat.zero_le _, Nat.zero_le _⟩ dX5_chance_5 (fun H locs X b5 => ?_)
  refine lv_if_eq (tgt := 33) hx hb dX5_chance_8 (by decide) (fun c8 => ?_) (fun c8 => ?_)
  · replace hf := ifp c8 hf
    refine lv_ldc2 (v := (-4611686018427387904)) hx hb hown (hts _ k_581) dX5_chance_33 ?_
    exact retL C X hr (so2 hf).1 (so2 hf).2 rfl dX5_chance_36
  · replace hf := ifn c8 hf
    refine lv_iload_n hx hb dX5_chance_11 rfl (lv_at hl 2 rfl) ?_
    refine lv_iconst (v := 1) hx hb dX5_chance_12 (by decide) ?_
    refine lv_icmp_lt (tgt := 33) hx hb dX5_chance_13 (by decide) (fun c13 => ?_) (fun c13 => ?_)
    · replace hf := ifp c13 hf
      refine lv_ldc2 (v := (-4611686018427387904)) hx hb hown (hts _ k_581) dX5_chance_33 ?_
      exact retL C X hr (so2 hf).1 (so2 hf).2 rfl dX5_chance_36
    · replace hf := ifn c13 hf
      refine lv_iload_n hx hb dX5_chance_16 rfl (lv_at hl 2 rfl) ?_
      refine lv_bipush (v := 20) hx hb dX5_chance_17 (by decide) ?_
      refine lv_icmp_gt (tgt := 33) hx hb dX5_chance_19 (by decide) (fun c19 => ?_) (fun c19 => ?_)
      · replace hf := ifp c19 hf
        refine lv_ldc2 (v := (-4611686018427387904)) hx hb hown (hts _ k_581) dX5_chance_33 ?_
        exact retL C X hr (so2 hf).1 (so2 hf).2 rfl dX5_chance_36
      · replace hf := ifn c19 hf
        refine lv_iload hx hb dX5_chance_22 (lv_at hl 4 rfl) ?_
        refine lv_if_lt (tgt := 33) hx hb dX5_chance_24 (by decide) (fun c24 => ?_) (fun c24 => ?_)
        · replace hf := ifp c24 hf
          refine lv_ldc2 (v := (-4611686018427387904)) hx hb hown (hts _ k_581) dX5_chance_33 ?_
          exact retL C X hr (so2 hf).1 (so2 hf).2 rfl dX5_chance_36
        · replace hf := ifn c24 hf
          refine lv_iload hx hb dX5_chance_27 (lv_at hl 4 rfl) ?_
          refine lv_iconst (v := 1) hx hb dX5_chance_29 (by decide) ?_
          refine lv_icmp_le (tgt := 37) hx hb dX5_chance_30 (by decide) (fun c30 => ?_) (fun c30 => ?_)
          · replace hf := ifp c30 hf
            refine lv_aload_n hx hb dX5_chance_37 rfl (lv_at hl 0 rfl) ?_
            refine gfX5_10 C X dX5_chance_38 ?_
            refine gfX5_92 (o := 0) (by decide) rfl (k2 := 12) rfl C X dX5_chance_41 ?_
            refine lv_iload_n hx hb dX5_chance_44 rfl (lv_at hl 3 rfl) ?_
            obtain ⟨h45, hf⟩ := gd_e hf
            have hb45 : x3.toNatClampNeg < 13 := by have := inb_lt h45; omega
            refine rAald (t := 0) (k' := (14 + 3 * x3.toNatClampNeg)) C X rfl rfl h45 (by omega) dX5_chance_45 ?_
            refine lv_aload_n hx hb dX5_chance_46 rfl (lv_at hl 0 rfl) ?_
            refine gfX5_38 C X dX5_chance_47 ?_
            refine lv_aload_n hx hb dX5_chance_50 rfl (lv_at hl 0 rfl) ?_
            refine gfX5_10 C X dX5_chance_51 ?_
            refine gfX5_82 (o := 0) (by decide) rfl C X dX5_chance_54 ?_
            obtain ⟨μ57, g57, hf⟩ := bd1_e hf
            refine qX5_220 (j := x3.toNatClampNeg) hb45 (x1 := 7) rfl g57 C X hl.1 ((Nat.le_of_ble_eq_true rfl)) ⟨(Nat.le_of_ble_eq_true rfl), (Nat.le_of_ble_eq_true rfl)⟩ ⟨Nat.zero_le _, Nat.zero_le _⟩ dX5_chance_57 (fun H locs X => ?_)
            refine lv_iconst (v := 0) hx hb dX5_chance_60 (by decide) ?_
            refine lv_istore (lv' := [(5, .int 0), (0, .ref (ad 0)), (1, .int x1), (2, .int x2), (3, .int x3), (4, .int x4)]) hx hb dX5_chance_61 hl (by decide) rfl (fun ls hl => ?_)
            refine lv_iconst (v := 0) hx hb dX5_chance_63 (by decide) ?_
            refine lv_istore (lv' := [(6, .int 0), (5, .int 0), (0, .ref (ad 0)), (1, .int x1), (2, .int x2), (3, .int x3), (4, .int x4)]) hx hb dX5_chance_64 hl (by decide) rfl (fun ls hl => ?_)
            exact w5_chance_1 C hr  FUEL μ57 x1 x2 x4 0 0 hf _ _ X _ (lv_sub hl [2, 3, 4, 6, 1, 0] rfl)
          · replace hf := ifn c30 hf
            refine lv_ldc2 (v := (-4611686018427387904)) hx hb hown (hts _ k_581) dX5_chance_33 ?_
            exact retL C X hr (so2 hf).1 (so2 hf).2 rfl dX5_chance_36
theorem ct5_chance {x1 : Int32} {x2 : Int32} {x3 : Int32} {x4 : Int32} {μ : Mem} {ν : Lem} {r : Int64} {μ1 : Mem} (hg : f5_chance μ x1 x2 x3 x4 = some (r, μ1)) : CtL true yX5_chance cX5_chance 7 6 139 (fun ad => [.ref (ad 0), .int x1, .int x2, .int x3, .int x4]) μ ν r μ1 ν :=
  mkL (by decide) rfl (fun ad => Nat.le_of_ble_eq_true rfl) (fun p l e s m args below meth c D cy ad C hr X ls hl => w5_chance C hr μ x1 x2 x3 x4 hg _ _ X _ hl)
theorem qL_110 {p : Program} {l : Launch} {e : Env} {R : Room} {s : State} {m : MethodId} {args : Array Value} {below : List Frame} {meth : Method} {c : Code} {H : Heap} {locs : List Loc} {cells slots : Nat} {Q : State → Prop} {A : Nat → Prop} {cc : ByteArray} {nL : Nat} {D : va_G} {cy : Nat → ClassId} {ad : Nat → Nat} {μ : Mem} {ν : Lem} {pc : Nat} {ls : Array Slot} {rest : List Value} {x1 : Int32} {x2 : Int32} {x3 : Int32} {x4 : Int32} {r : Int64} {μ1 : Mem} (hg : f5_chance μ x1 x2 x3 x4 = some (r, μ1)) (C : CxA true A p s m args meth c cc nL RL D cy ad) (X : WdA true A D cy ad s.heap μ ν H locs) (hsz : ls.size = nL) (hrm : (rest.map fun v => v.category).sum ≤ 8) (hR : 6 + 1 ≤ R.frames ∧ 8 + (7 + 11) + 139 ≤ R.locals) (hcs : cells ≤ R.cells ∧ slots ≤ R.slots) (hd : decode cc pc = .ok (.invokevirtual 110, 3)) (kk : ∀ (H1 : Heap) (locs1 : List Loc), WdA true A D cy ad s.heap μ1 ν H1 locs1 → W p l e R s m args below meth c H1 locs1 cells slots Q (F0 m (pc + 3) ls (.long r :: rest))) : W p l e R s m args below meth c H locs cells slots Q (F0 m pc ls (.int x4 :: .int x3 :: .int x2 :: .int x1 :: .ref (ad 0) :: rest)) :=
  rCVL (As := [.int x1, .int x2, .int x3, .int x4]) (k := 0) (ct5_chance hg) ok5 lX5_chance k_703 rfl rfl rfl C X rfl hrm hsz hR hcs hd kk
set_option maxRecDepth 100000 in
set_option maxHeartbeats 4000000 in
theorem w5_image {p : Program} {l : Launch} {e : Env} {s : State} {m : MethodId} {args : Array Value} {below : List Frame} {meth : Method} {c : Code} {D : va_G} {cy : Nat → ClassId} {ad : Nat → Nat} {r : Int32} {μ1 : Mem} {ν : Lem} (C : Cx true p s m args meth c cX5_image 1 RX5 D cy ad) (hr : meth.sig.returnType = some .int) : ∀ (μ : Mem), f5_image μ = some (r, μ1) → ∀ (H : Heap) (locs : List Loc), Wd true D cy ad s.heap μ ν H locs → ∀ (ls : Array Slot), lv_has ls 1 [(0, .ref (ad 0))] → WI true p l e 3 66 s m args below meth c D cy ad .int r μ1 ν H locs (F0 m 0 ls []) := by
  have hx := C.1.1
  have hb := C.1.2.1
  have hown := C.1.2.2.2.1
  have hts := C.1.2.2.2.2
  intro μ hf H locs X ls hl
  unfold f5_image at hf
  refine lv_aload_n hx hb dX5_image_0 rfl (lv_at hl 0 rfl) ?_
  refine gfX5_16 C X dX5_image_1 ?_
  refine lv_aload_n hx hb dX5_image_4 rfl (lv_at hl 0 rfl) ?_
  refine gfX5_10 C X dX5_image_5 ?_
  obtain ⟨μ8, g8, hf⟩ := bd1_e hf
  refine qX5_298 (o := 1) (by decide) (x1 := 0) (by decide) g8 C X hl.1 ((Nat.le_of_ble_eq_true rfl)) ⟨(Nat.le_of_ble_eq_true rfl), (Nat.le_of_ble_eq_true rfl)⟩ ⟨Nat.zero_le _, Nat.zero_le _⟩ dX5_image_8 (fun H locs X => ?_)
  refine lv_aload_n hx hb dX5_image_11 rfl (lv_at hl 0 rfl) ?_
  refine lv_iconst (v := 1) hx hb dX5_image_12 (by decide) ?_
  obtain ⟨μ13, e13, hf⟩ := nm_e2 hf
  refine pfX5_302 e13 (by decide) (by decide) C X dX5_image_13 (fun H locs X => ?_)
  refine lv_aload_n hx hb dX5_image_16 rfl (lv_at hl 0 rfl) ?_
  refine gfX5_10 C X dX5_image_17 ?_
  refine gfX5_102 (o := 0) (by decide) rfl C X dX5_image_20 ?_
  exact retI C X hr rfl (so2 hf).1 (so2 hf).2 rfl dX5_image_23
theorem ct5_image {μ : Mem} {ν : Lem} {r : Int32} {μ1 : Mem} (hg : f5_image μ = some (r, μ1)) : CtI true yX5_image cX5_image 1 3 66 .int (fun ad => [.ref (ad 0)]) μ ν r μ1 ν :=
  mkI (by decide) rfl (fun ad => Nat.le_of_ble_eq_true rfl) (fun p l e s m args below meth c D cy ad C hr X ls hl => w5_image C hr μ hg _ _ X _ hl)
theorem qL_115 {p : Program} {l : Launch} {e : Env} {R : Room} {s : State} {m : MethodId} {args : Array Value} {below : List Frame} {meth : Method} {c : Code} {H : Heap} {locs : List Loc} {cells slots : Nat} {Q : State → Prop} {A : Nat → Prop} {cc : ByteArray} {nL : Nat} {D : va_G} {cy : Nat → ClassId} {ad : Nat → Nat} {μ : Mem} {ν : Lem} {pc : Nat} {ls : Array Slot} {rest : List Value} {r : Int32} {μ1 : Mem} (hg : f5_image μ = some (r, μ1)) (C : CxA true A p s m args meth c cc nL RL D cy ad) (X : WdA true A D cy ad s.heap μ ν H locs) (hsz : ls.size = nL) (hrm : (rest.map fun v => v.category).sum ≤ 8) (hR : 3 + 1 ≤ R.frames ∧ 8 + (1 + 11) + 66 ≤ R.locals) (hcs : cells ≤ R.cells ∧ slots ≤ R.slots) (hd : decode cc pc = .ok (.invokevirtual 115, 3)) (kk : ∀ (H1 : Heap) (locs1 : List Loc), WdA true A D cy ad s.heap μ1 ν H1 locs1 → narrow .int (.int r) = .int r → W p l e R s m args below meth c H1 locs1 cells slots Q (F0 m (pc + 3) ls (.int r :: rest))) : W p l e R s m args below meth c H locs cells slots Q (F0 m pc ls (.ref (ad 0) :: rest)) :=
  rCVI (As := []) (k := 0) (ct5_image hg) ok5 lX5_image k_707 rfl rfl rfl C X rfl hrm hsz hR hcs hd kk
set_option maxRecDepth 100000 in
set_option maxHeartbeats 4000000 in
theorem w5_back {p : Program} {l : Launch} {e : Env} {s : State} {m : MethodId} {args : Array Value} {below : List Frame} {meth : Method} {c : Code} {D : va_G} {cy : Nat → ClassId} {ad : Nat → Nat} {r : Int32} {μ1 : Mem} {ν : Lem} (C : Cx true p s m args meth c cX5_back 1 RX5 D cy ad) (hr : meth.sig.returnType = some .int) : ∀ (μ : Mem), f5_back μ = some (r, μ1) → ∀ (H : Heap) (locs : List Loc), Wd true D cy ad s.heap μ ν H locs → ∀ (ls : Array Slot), lv_has ls 1 [(0, .ref (ad 0))] → WI true p l e 3 66 s m args below meth c D cy ad .int r μ1 ν H locs (F0 m 0 ls []) := by
  have hx := C.1.1
  have hb := C.1.2.1
  have hown := C.1.2.2.2.1
  have hts := C.1.2.2.2.2
  intro μ hf H locs X ls hl
  unfold f5_back at hf
  refine lv_aload_n hx hb dX5_back_0 rfl (lv_at hl 0 rfl) ?_
  refine gfX5_302 C X dX5_back_1 ?_
  refine lv_if_ne (tgt := 10) hx hb dX5_back_4 (by decide) (fun c4 => ?_) (fun c4 => ?_)
  · replace hf := ifn c4 hf
    refine lv_aload_n hx hb dX5_back_10 rfl (lv_at hl 0 rfl) ?_
    refine gfX5_10 C X dX5_back_11 ?_
    refine lv_aload_n hx hb dX5_back_14 rfl (lv_at hl 0 rfl) ?_
    refine gfX5_16 C X dX5_back_15 ?_
    obtain ⟨μ18, g18, hf⟩ := bd1_e hf
    refine qX5_298 (o := 0) (by decide) (x1 := 1) (by decide) g18 C X hl.1 ((Nat.le_of_ble_eq_true rfl)) ⟨(Nat.le_of_ble_eq_true rfl), (Nat.le_of_ble_eq_true rfl)⟩ ⟨Nat.zero_le _, Nat.zero_le _⟩ dX5_back_18 (fun H locs X => ?_)
    refine lv_aload_n hx hb dX5_back_21 rfl (lv_at hl 0 rfl) ?_
    refine gfX5_10 C X dX5_back_22 ?_
    refine gfX5_102 (o := 0) (by decide) rfl C X dX5_back_25 ?_
    exact retI C X hr rfl (so2 hf).1 (so2 hf).2 rfl dX5_back_28
  · replace hf := ifp c4 hf
    refine lv_bipush (v := (-3)) hx hb dX5_back_7 (by decide) ?_
    exact retI C X hr rfl (so2 hf).1 (so2 hf).2 rfl dX5_back_9
theorem ct5_back {μ : Mem} {ν : Lem} {r : Int32} {μ1 : Mem} (hg : f5_back μ = some (r, μ1)) : CtI true yX5_back cX5_back 1 3 66 .int (fun ad => [.ref (ad 0)]) μ ν r μ1 ν :=
  mkI (by decide) rfl (fun ad => Nat.le_of_ble_eq_true rfl) (fun p l e s m args below meth c D cy ad C hr X ls hl => w5_back C hr μ hg _ _ X _ hl)
theorem qL_119 {p : Program} {l : Launch} {e : Env} {R : Room} {s : State} {m : MethodId} {args : Array Value} {below : List Frame} {meth : Method} {c : Code} {H : Heap} {locs : List Loc} {cells slots : Nat} {Q : State → Prop} {A : Nat → Prop} {cc : ByteArray} {nL : Nat} {D : va_G} {cy : Nat → ClassId} {ad : Nat → Nat} {μ : Mem} {ν : Lem} {pc : Nat} {ls : Array Slot} {rest : List Value} {r : Int32} {μ1 : Mem} (hg : f5_back μ = some (r, μ1)) (C : CxA true A p s m args meth c cc nL RL D cy ad) (X : WdA true A D cy ad s.heap μ ν H locs) (hsz : ls.size = nL) (hrm : (rest.map fun v => v.category).sum ≤ 8) (hR : 3 + 1 ≤ R.frames ∧ 8 + (1 + 11) + 66 ≤ R.locals) (hcs : cells ≤ R.cells ∧ slots ≤ R.slots) (hd : decode cc pc = .ok (.invokevirtual 119, 3)) (kk : ∀ (H1 : Heap) (locs1 : List Loc), WdA true A D cy ad s.heap μ1 ν H1 locs1 → narrow .int (.int r) = .int r → W p l e R s m args below meth c H1 locs1 cells slots Q (F0 m (pc + 3) ls (.int r :: rest))) : W p l e R s m args below meth c H locs cells slots Q (F0 m pc ls (.ref (ad 0) :: rest)) :=
  rCVI (As := []) (k := 0) (ct5_back hg) ok5 lX5_back k_721 rfl rfl rfl C X rfl hrm hsz hR hcs hd kk
set_option maxRecDepth 100000 in
set_option maxHeartbeats 4000000 in
theorem w5_count {p : Program} {l : Launch} {e : Env} {s : State} {m : MethodId} {args : Array Value} {below : List Frame} {meth : Method} {c : Code} {D : va_G} {cy : Nat → ClassId} {ad : Nat → Nat} {r : Int32} {μ : Mem} {ν : Lem} (C : Cx true p s m args meth c cX5_count 2 RX5 D cy ad) (hr : meth.sig.returnType = some .int) : ∀ (x1 : Int32), f5_count μ x1 = some r → ∀ (H : Heap) (locs : List Loc), Wd true D cy ad s.heap μ ν H locs → ∀ (ls : Array Slot), lv_has ls 2 [(0, .ref (ad 0)), (1, .int x1)] → WI true p l e 1 22 s m args below meth c D cy ad .int r μ ν H locs (F0 m 0 ls []) := by
  have hx := C.1.1
  have hb := C.1.2.1
  have hown := C.1.2.2.2.1
  have hts := C.1.2.2.2.2
  intro x1 hf H locs X ls hl
  unfold f5_count at hf
  refine lv_iload_n hx hb dX5_count_0 rfl (lv_at hl 1 rfl) ?_
  by_cases c1_0 : x1 = 0
  · replace hf := ifp c1_0 hf
    refine rTab (v := 0) (off := 39) (tgt := 40) hx hb c1_0 dX5_count_1 (by decide) (by decide) rfl (by decide) ?_
    refine lv_aload_n hx hb dX5_count_40 rfl (lv_at hl 0 rfl) ?_
    refine gfX5_10 C X dX5_count_41 ?_
    refine gfX5_102 (o := 0) (by decide) rfl C X dX5_count_44 ?_
    exact retI C X hr rfl (Option.some.inj hf) rfl rfl dX5_count_47
  · replace hf := ifn c1_0 hf
    by_cases c1_1 : x1 = 1
    · replace hf := ifp c1_1 hf
      refine rTab (v := 1) (off := 47) (tgt := 48) hx hb c1_1 dX5_count_1 (by decide) (by decide) rfl (by decide) ?_
      refine lv_aload_n hx hb dX5_count_48 rfl (lv_at hl 0 rfl) ?_
      refine gfX5_10 C X dX5_count_49 ?_
      refine gfX5_82 (o := 0) (by decide) rfl C X dX5_count_52 ?_
      exact retI C X hr rfl (Option.some.inj hf) rfl rfl dX5_count_55
    · replace hf := ifn c1_1 hf
      by_cases c1_2 : x1 = 2
      · replace hf := ifp c1_2 hf
        refine rTab (v := 2) (off := 55) (tgt := 56) hx hb c1_2 dX5_count_1 (by decide) (by decide) rfl (by decide) ?_
        refine lv_aload_n hx hb dX5_count_56 rfl (lv_at hl 0 rfl) ?_
        refine gfX5_10 C X dX5_count_57 ?_
        obtain ⟨r60, g60, hf⟩ := bd1_e hf
        refine qX5_306 (o := 0) (by decide) g60 C X hl.1 ((Nat.le_of_ble_eq_true rfl)) ⟨(Nat.le_of_ble_eq_true rfl), (Nat.le_of_ble_eq_true rfl)⟩ ⟨Nat.zero_le _, Nat.zero_le _⟩ dX5_count_60 (fun H locs X b60 => ?_)
        exact retI C X hr rfl (Option.some.inj hf) rfl rfl dX5_count_63
      · replace hf := ifn c1_2 hf
        by_cases c1_3 : x1 = 3
        · replace hf := ifp c1_3 hf
          refine rTab (v := 3) (off := 63) (tgt := 64) hx hb c1_3 dX5_count_1 (by decide) (by decide) rfl (by decide) ?_
          refine lv_aload_n hx hb dX5_count_64 rfl (lv_at hl 0 rfl) ?_
          refine gfX5_66 C X dX5_count_65 ?_
          exact retI C X hr rfl (Option.some.inj hf) rfl rfl dX5_count_68
        · replace hf := ifn c1_3 hf
          by_cases c1_4 : x1 = 4
          · replace hf := ifp c1_4 hf
            refine rTab (v := 4) (off := 68) (tgt := 69) hx hb c1_4 dX5_count_1 (by decide) (by decide) rfl (by decide) ?_
            refine lv_aload_n hx hb dX5_count_69 rfl (lv_at hl 0 rfl) ?_
            refine gfX5_22 C X dX5_count_70 ?_
            refine gfX5_132 C X dX5_count_73 ?_
            exact retI C X hr rfl (Option.some.inj hf) rfl rfl dX5_count_76
          · replace hf := ifn c1_4 hf
            by_cases c1_5 : x1 = 5
            · replace hf := ifp c1_5 hf
              refine rTab (v := 5) (off := 76) (tgt := 77) hx hb c1_5 dX5_count_1 (by decide) (by decide) rfl (by decide) ?_
              refine lv_aload_n hx hb dX5_count_77 rfl (lv_at hl 0 rfl) ?_
              refine gfX5_10 C X dX5_count_78 ?_
              refine gfX5_140 (o := 0) (by decide) rfl C X dX5_count_81 ?_
              exact retI C X hr rfl (Option.some.inj hf) rfl rfl dX5_count_84
            · replace hf := ifn c1_5 hf
              refine rTabOut hx hb 85 dX5_count_1 (by decide) (tab_out 0 6 rfl rfl (by decide) (fun k hk => ?_)) ?_
              · rcases (show k = 0 ∨ k = 1 ∨ k = 2 ∨ k = 3 ∨ k = 4 ∨ k = 5 by omega) with rfl | rfl | rfl | rfl | rfl | rfl
                · exact c1_0
                · exact c1_1
                · exact c1_2
                · exact c1_3
                · exact c1_4
                · exact c1_5
              refine lv_bipush (v := (-2)) hx hb dX5_count_85 (by decide) ?_
              exact retI C X hr rfl (Option.some.inj hf) rfl rfl dX5_count_87
theorem ct5_count {x1 : Int32} {μ : Mem} {ν : Lem} {r : Int32} (hg : f5_count μ x1 = some r) : CtI true yX5_count cX5_count 2 1 22 .int (fun ad => [.ref (ad 0), .int x1]) μ ν r μ ν :=
  mkI (by decide) rfl (fun ad => Nat.le_of_ble_eq_true rfl) (fun p l e s m args below meth c D cy ad C hr X ls hl => w5_count C hr x1 hg _ _ X _ hl)
theorem qL_123 {p : Program} {l : Launch} {e : Env} {R : Room} {s : State} {m : MethodId} {args : Array Value} {below : List Frame} {meth : Method} {c : Code} {H : Heap} {locs : List Loc} {cells slots : Nat} {Q : State → Prop} {A : Nat → Prop} {cc : ByteArray} {nL : Nat} {D : va_G} {cy : Nat → ClassId} {ad : Nat → Nat} {μ : Mem} {ν : Lem} {pc : Nat} {ls : Array Slot} {rest : List Value} {x1 : Int32} {r : Int32} (hg : f5_count μ x1 = some r) (C : CxA true A p s m args meth c cc nL RL D cy ad) (X : WdA true A D cy ad s.heap μ ν H locs) (hsz : ls.size = nL) (hrm : (rest.map fun v => v.category).sum ≤ 8) (hR : 1 + 1 ≤ R.frames ∧ 8 + (2 + 11) + 22 ≤ R.locals) (hcs : cells ≤ R.cells ∧ slots ≤ R.slots) (hd : decode cc pc = .ok (.invokevirtual 123, 3)) (kk : ∀ (H1 : Heap) (locs1 : List Loc), WdA true A D cy ad s.heap μ ν H1 locs1 → narrow .int (.int r) = .int r → W p l e R s m args below meth c H1 locs1 cells slots Q (F0 m (pc + 3) ls (.int r :: rest))) : W p l e R s m args below meth c H locs cells slots Q (F0 m pc ls (.int x1 :: .ref (ad 0) :: rest)) :=
  rCVI (As := [.int x1]) (k := 0) (ct5_count hg) ok5 lX5_count k_725 rfl rfl rfl C X rfl hrm hsz hR hcs hd kk
set_option maxRecDepth 100000 in
set_option maxHeartbeats 4000000 in
theorem w5_isSort {p : Program} {l : Launch} {e : Env} {s : State} {m : MethodId} {args : Array Value} {below : List Frame} {meth : Method} {c : Code} {D : va_G} {cy : Nat → ClassId} {ad : Nat → Nat} {r : Int32} {μ : Mem} {ν : Lem} (C : Cx true p s m args meth c cX5_isSort 1 RX5 D cy ad) (hr : meth.sig.returnType = some .boolean) : ∀ (x0 : Int32), f5_isSort x0 = r → ∀ (H : Heap) (locs : List Loc), Wd true D cy ad s.heap μ ν H locs → ∀ (ls : Array Slot), lv_has ls 1 [(0, .int x0)] → WI true p l e 0 0 s m args below meth c D cy ad .boolean r μ ν H locs (F0 m 0 ls []) := by
  have hx := C.1.1
  have hb := C.1.2.1
  have hown := C.1.2.2.2.1
  have hts := C.1.2.2.2.2
  intro x0 hf H locs X ls hl
  unfold f5_isSort at hf
  refine lv_iload_n hx hb dX5_isSort_0 rfl (lv_at hl 0 rfl) ?_
  refine lv_if_lt (tgt := 13) hx hb dX5_isSort_1 (by decide) (fun c1 => ?_) (fun c1 => ?_)
  · replace hf := ifp c1 hf
    refine lv_iconst (v := 0) hx hb dX5_isSort_13 (by decide) ?_
    exact retI C X hr rfl hf rfl rfl dX5_isSort_14
  · replace hf := ifn c1 hf
    refine lv_iload_n hx hb dX5_isSort_4 rfl (lv_at hl 0 rfl) ?_
    refine lv_iconst (v := 3) hx hb dX5_isSort_5 (by decide) ?_
    refine lv_icmp_ge (tgt := 13) hx hb dX5_isSort_6 (by decide) (fun c6 => ?_) (fun c6 => ?_)
    · replace hf := ifp c6 hf
      refine lv_iconst (v := 0) hx hb dX5_isSort_13 (by decide) ?_
      exact retI C X hr rfl hf rfl rfl dX5_isSort_14
    · replace hf := ifn c6 hf
      refine lv_iconst (v := 1) hx hb dX5_isSort_9 (by decide) ?_
      refine lv_goto (tgt := 14) hx hb dX5_isSort_10 (by decide) ?_
      exact retI C X hr rfl hf rfl rfl dX5_isSort_14
theorem ct5_isSort {x0 : Int32} {μ : Mem} {ν : Lem} {r : Int32} (hg : f5_isSort x0 = r) : CtI true yX5_isSort cX5_isSort 1 0 0 .boolean (fun ad => [.int x0]) μ ν r μ ν :=
  mkI (by decide) rfl (fun ad => Nat.le_of_ble_eq_true rfl) (fun p l e s m args below meth c D cy ad C hr X ls hl => w5_isSort C hr x0 hg _ _ X _ hl)
theorem qX5_310 {p : Program} {l : Launch} {e : Env} {R : Room} {s : State} {m : MethodId} {args : Array Value} {below : List Frame} {meth : Method} {c : Code} {H : Heap} {locs : List Loc} {cells slots : Nat} {Q : State → Prop} {A : Nat → Prop} {cc : ByteArray} {nL : Nat} {D : va_G} {cy : Nat → ClassId} {ad : Nat → Nat} {μ : Mem} {ν : Lem} {pc : Nat} {ls : Array Slot} {rest : List Value} {x0 : Int32} {r : Int32} (hg : f5_isSort x0 = r) (C : CxA true A p s m args meth c cc nL RX5 D cy ad) (X : WdA true A D cy ad s.heap μ ν H locs) (hsz : ls.size = nL) (hrm : (rest.map fun v => v.category).sum ≤ 8) (hR : 0 + 1 ≤ R.frames ∧ 8 + (1 + 11) + 0 ≤ R.locals) (hcs : cells ≤ R.cells ∧ slots ≤ R.slots) (hd : decode cc pc = .ok (.invokestatic 310, 3)) (kk : ∀ (H1 : Heap) (locs1 : List Loc), WdA true A D cy ad s.heap μ ν H1 locs1 → narrow .boolean (.int r) = .int r → W p l e R s m args below meth c H1 locs1 cells slots Q (F0 m (pc + 3) ls (.int r :: rest))) : W p l e R s m args below meth c H locs cells slots Q (F0 m pc ls (.int x0 :: rest)) :=
  rCSI (As := [.int x0]) (ct5_isSort hg) lX5_isSort k_742 rfl rfl C X rfl hrm hsz hR hcs hd kk
set_option maxRecDepth 100000 in
set_option maxHeartbeats 4000000 in
theorem w5_sheet {p : Program} {l : Launch} {e : Env} {s : State} {m : MethodId} {args : Array Value} {below : List Frame} {meth : Method} {c : Code} {D : va_G} {cy : Nat → ClassId} {ad : Nat → Nat} {r : Int32} {μ1 : Mem} {ν : Lem} (C : Cx true p s m args meth c cX5_sheet 4 RX5 D cy ad) (hr : meth.sig.returnType = some .int) : ∀ (μ : Mem) (x1 : Int32) (x2 : Int32) (x3 : Int32), f5_sheet μ x1 x2 x3 = some (r, μ1) → ∀ (H : Heap) (locs : List Loc), Wd true D cy ad s.heap μ ν H locs → ∀ (ls : Array Slot), lv_has ls 4 [(0, .ref (ad 0)), (1, .int x1), (2, .int x2), (3, .int x3)] → WI true p l e 2 44 s m args below meth c D cy ad .int r μ1 ν H locs (F0 m 0 ls []) := by
  have hx := C.1.1
  have hb := C.1.2.1
  have hown := C.1.2.2.2.1
  have hts := C.1.2.2.2.2
  intro μ x1 x2 x3 hf H locs X ls hl
  unfold f5_sheet at hf
  refine lv_iload_n hx hb dX5_sheet_0 rfl (lv_at hl 1 rfl) ?_
  refine qX5_227 rfl C X hl.1 ((Nat.le_of_ble_eq_true rfl)) ⟨(Nat.le_of_ble_eq_true rfl), (Nat.le_of_ble_eq_true rfl)⟩ ⟨Nat.zero_le _, Nat.zero_le _⟩ dX5_sheet_1 (fun H locs X b1 => ?_)
  refine lv_if_ne (tgt := 10) hx hb dX5_sheet_4 (by decide) (fun c4 => ?_) (fun c4 => ?_)
  · replace hf := ifn c4 hf
    refine lv_iload_n hx hb dX5_sheet_10 rfl (lv_at hl 2 rfl) ?_
    refine lv_iconst (v := (-1)) hx hb dX5_sheet_11 (by decide) ?_
    refine lv_icmp_ne (tgt := 28) hx hb dX5_sheet_12 (by decide) (fun c12 => ?_) (fun c12 => ?_)
    · replace hf := ifn c12 hf
      refine lv_iload_n hx hb dX5_sheet_28 rfl (lv_at hl 2 rfl) ?_
      refine qX5_310 rfl C X hl.1 ((Nat.le_of_ble_eq_true rfl)) ⟨(Nat.le_of_ble_eq_true rfl), (Nat.le_of_ble_eq_true rfl)⟩ ⟨Nat.zero_le _, Nat.zero_le _⟩ dX5_sheet_29 (fun H locs X b29 => ?_)
      refine lv_if_eq (tgt := 41) hx hb dX5_sheet_32 (by decide) (fun c32 => ?_) (fun c32 => ?_)
      · replace hf := ifp c32 hf
        refine lv_bipush (v := (-2)) hx hb dX5_sheet_41 (by decide) ?_
        exact retI C X hr rfl (so2 hf).1 (so2 hf).2 rfl dX5_sheet_43
      · replace hf := ifn c32 hf
        refine lv_iload_n hx hb dX5_sheet_35 rfl (lv_at hl 3 rfl) ?_
        refine lv_bipush (v := 40) hx hb dX5_sheet_36 (by decide) ?_
        refine lv_icmp_le (tgt := 44) hx hb dX5_sheet_38 (by decide) (fun c38 => ?_) (fun c38 => ?_)
        · replace hf := ifp c38 hf
          refine lv_iload_n hx hb dX5_sheet_44 rfl (lv_at hl 3 rfl) ?_
          refine lv_if_ge (tgt := 51) hx hb dX5_sheet_45 (by decide) (fun c45 => ?_) (fun c45 => ?_)
          · replace hf := ifp c45 hf
            refine lv_aload_n hx hb dX5_sheet_51 rfl (lv_at hl 0 rfl) ?_
            refine gfX5_34 C X dX5_sheet_52 ?_
            refine lv_iload_n hx hb dX5_sheet_55 rfl (lv_at hl 1 rfl) ?_
            obtain ⟨h56, hf⟩ := gd_e hf
            have hb56 : x1.toNatClampNeg < 4 := by have := inb_lt h56; omega
            refine rAald (t := 2) (k' := (71 + 2 * x1.toNatClampNeg)) C X rfl rfl h56 (by omega) dX5_sheet_56 ?_
            refine lv_iload_n hx hb dX5_sheet_57 rfl (lv_at hl 2 rfl) ?_
            refine lv_iload_n hx hb dX5_sheet_58 rfl (lv_at hl 3 rfl) ?_
            obtain ⟨μ59, g59, hf⟩ := bd1_e hf
            refine qX5_309 (q := x1.toNatClampNeg) hb56 g59 C X hl.1 ((Nat.le_of_ble_eq_true rfl)) ⟨(Nat.le_of_ble_eq_true rfl), (Nat.le_of_ble_eq_true rfl)⟩ ⟨Nat.zero_le _, Nat.zero_le _⟩ dX5_sheet_59 (fun H locs X => ?_)
            refine lv_iconst (v := 1) hx hb dX5_sheet_62 (by decide) ?_
            exact retI C X hr rfl (so2 hf).1 (so2 hf).2 rfl dX5_sheet_63
          · replace hf := ifn c45 hf
            refine lv_bipush (v := (-14)) hx hb dX5_sheet_48 (by decide) ?_
            exact retI C X hr rfl (so2 hf).1 (so2 hf).2 rfl dX5_sheet_50
        · replace hf := ifn c38 hf
          refine lv_bipush (v := (-2)) hx hb dX5_sheet_41 (by decide) ?_
          exact retI C X hr rfl (so2 hf).1 (so2 hf).2 rfl dX5_sheet_43
    · replace hf := ifp c12 hf
      refine lv_aload_n hx hb dX5_sheet_15 rfl (lv_at hl 0 rfl) ?_
      refine gfX5_34 C X dX5_sheet_16 ?_
      refine lv_iload_n hx hb dX5_sheet_19 rfl (lv_at hl 1 rfl) ?_
      obtain ⟨h20, hf⟩ := gd_e hf
      have hb20 : x1.toNatClampNeg < 4 := by have := inb_lt h20; omega
      refine rAald (t := 2) (k' := (71 + 2 * x1.toNatClampNeg)) C X rfl rfl h20 (by omega) dX5_sheet_20 ?_
      refine lv_iconst (v := (-1)) hx hb dX5_sheet_21 (by decide) ?_
      refine lv_iconst (v := 0) hx hb dX5_sheet_22 (by decide) ?_
      obtain ⟨μ23, g23, hf⟩ := bd1_e hf
      refine qX5_309 (q := x1.toNatClampNeg) hb20 g23 C X hl.1 ((Nat.le_of_ble_eq_true rfl)) ⟨(Nat.le_of_ble_eq_true rfl), (Nat.le_of_ble_eq_true rfl)⟩ ⟨Nat.zero_le _, Nat.zero_le _⟩ dX5_sheet_23 (fun H locs X => ?_)
      refine lv_iconst (v := 1) hx hb dX5_sheet_26 (by decide) ?_
      exact retI C X hr rfl (so2 hf).1 (so2 hf).2 rfl dX5_sheet_27
  · replace hf := ifp c4 hf
    refine lv_bipush (v := (-2)) hx hb dX5_sheet_7 (by decide) ?_
    exact retI C X hr rfl (so2 hf).1 (so2 hf).2 rfl dX5_sheet_9
theorem ct5_sheet {x1 : Int32} {x2 : Int32} {x3 : Int32} {μ : Mem} {ν : Lem} {r : Int32} {μ1 : Mem} (hg : f5_sheet μ x1 x2 x3 = some (r, μ1)) : CtI true yX5_sheet cX5_sheet 4 2 44 .int (fun ad => [.ref (ad 0), .int x1, .int x2, .int x3]) μ ν r μ1 ν :=
  mkI (by decide) rfl (fun ad => Nat.le_of_ble_eq_true rfl) (fun p l e s m args below meth c D cy ad C hr X ls hl => w5_sheet C hr μ x1 x2 x3 hg _ _ X _ hl)
theorem qL_127 {p : Program} {l : Launch} {e : Env} {R : Room} {s : State} {m : MethodId} {args : Array Value} {below : List Frame} {meth : Method} {c : Code} {H : Heap} {locs : List Loc} {cells slots : Nat} {Q : State → Prop} {A : Nat → Prop} {cc : ByteArray} {nL : Nat} {D : va_G} {cy : Nat → ClassId} {ad : Nat → Nat} {μ : Mem} {ν : Lem} {pc : Nat} {ls : Array Slot} {rest : List Value} {x1 : Int32} {x2 : Int32} {x3 : Int32} {r : Int32} {μ1 : Mem} (hg : f5_sheet μ x1 x2 x3 = some (r, μ1)) (C : CxA true A p s m args meth c cc nL RL D cy ad) (X : WdA true A D cy ad s.heap μ ν H locs) (hsz : ls.size = nL) (hrm : (rest.map fun v => v.category).sum ≤ 8) (hR : 2 + 1 ≤ R.frames ∧ 8 + (4 + 11) + 44 ≤ R.locals) (hcs : cells ≤ R.cells ∧ slots ≤ R.slots) (hd : decode cc pc = .ok (.invokevirtual 127, 3)) (kk : ∀ (H1 : Heap) (locs1 : List Loc), WdA true A D cy ad s.heap μ1 ν H1 locs1 → narrow .int (.int r) = .int r → W p l e R s m args below meth c H1 locs1 cells slots Q (F0 m (pc + 3) ls (.int r :: rest))) : W p l e R s m args below meth c H locs cells slots Q (F0 m pc ls (.int x3 :: .int x2 :: .int x1 :: .ref (ad 0) :: rest)) :=
  rCVI (As := [.int x1, .int x2, .int x3]) (k := 0) (ct5_sheet hg) ok5 lX5_sheet k_733 rfl rfl rfl C X rfl hrm hsz hR hcs hd kk
set_option maxRecDepth 100000 in
set_option maxHeartbeats 4000000 in
theorem w5_cell {p : Program} {l : Launch} {e : Env} {s : State} {m : MethodId} {args : Array Value} {below : List Frame} {meth : Method} {c : Code} {D : va_G} {cy : Nat → ClassId} {ad : Nat → Nat} {r : Int32} {μ1 : Mem} {ν : Lem} (C : Cx true p s m args meth c cX5_cell 4 RX5 D cy ad) (hr : meth.sig.returnType = some .int) : ∀ (μ : Mem) (x1 : Int32) (x2 : Int32) (x3 : Int32), f5_cell μ x1 x2 x3 = some (r, μ1) → ∀ (H : Heap) (locs : List Loc), Wd true D cy ad s.heap μ ν H locs → ∀ (ls : Array Slot), lv_has ls 4 [(0, .ref (ad 0)), (1, .int x1), (2, .int x2), (3, .int x3)] → WI true p l e 1 22 s m args below meth c D cy ad .int r μ1 ν H locs (F0 m 0 ls []) := by
  have hx := C.1.1
  have hb := C.1.2.1
  have hown := C.1.2.2.2.1
  have hts := C.1.2.2.2.2
  intro μ x1 x2 x3 hf H locs X ls hl
  unfold f5_cell at hf
  refine lv_iload_n hx hb dX5_cell_0 rfl (lv_at hl 1 rfl) ?_
  refine qX5_227 rfl C X hl.1 ((Nat.le_of_ble_eq_true rfl)) ⟨(Nat.le_of_ble_eq_true rfl), (Nat.le_of_ble_eq_true rfl)⟩ ⟨Nat.zero_le _, Nat.zero_le _⟩ dX5_cell_1 (fun H locs X b1 => ?_)
  refine lv_if_ne (tgt := 10) hx hb dX5_cell_4 (by decide) (fun c4 => ?_) (fun c4 => ?_)
  · replace hf := ifn c4 hf
    refine lv_aload_n hx hb dX5_cell_10 rfl (lv_at hl 0 rfl) ?_
    refine gfX5_34 C X dX5_cell_11 ?_
    refine lv_iload_n hx hb dX5_cell_14 rfl (lv_at hl 1 rfl) ?_
    obtain ⟨h15, hf⟩ := gd_e hf
    have hb15 : x1.toNatClampNeg < 4 := by have := inb_lt h15; omega
    refine rAald (t := 2) (k' := (71 + 2 * x1.toNatClampNeg)) C X rfl rfl h15 (by omega) dX5_cell_15 ?_
    refine qX5_230 (q := x1.toNatClampNeg) hb15 rfl C X hl.1 ((Nat.le_of_ble_eq_true rfl)) ⟨(Nat.le_of_ble_eq_true rfl), (Nat.le_of_ble_eq_true rfl)⟩ ⟨Nat.zero_le _, Nat.zero_le _⟩ dX5_cell_16 (fun H locs X b16 => ?_)
    refine lv_if_eq (tgt := 25) hx hb dX5_cell_19 (by decide) (fun c19 => ?_) (fun c19 => ?_)
    · replace hf := ifp c19 hf
      refine lv_aload_n hx hb dX5_cell_25 rfl (lv_at hl 0 rfl) ?_
      refine gfX5_34 C X dX5_cell_26 ?_
      refine lv_iload_n hx hb dX5_cell_29 rfl (lv_at hl 1 rfl) ?_
      obtain ⟨h30, hf⟩ := gd_e hf
      have hb30 : x1.toNatClampNeg < 4 := by have := inb_lt h30; omega
      refine rAald (t := 2) (k' := (71 + 2 * x1.toNatClampNeg)) C X rfl rfl h30 (by omega) dX5_cell_30 ?_
      refine lv_iload_n hx hb dX5_cell_31 rfl (lv_at hl 2 rfl) ?_
      refine lv_iconst (v := 1) hx hb dX5_cell_32 (by decide) ?_
      refine qX5_313 (q := x1.toNatClampNeg) hb30 rfl C X hl.1 ((Nat.le_of_ble_eq_true rfl)) ⟨(Nat.le_of_ble_eq_true rfl), (Nat.le_of_ble_eq_true rfl)⟩ ⟨Nat.zero_le _, Nat.zero_le _⟩ dX5_cell_33 (fun H locs X b33 => ?_)
      refine lv_if_ne (tgt := 42) hx hb dX5_cell_36 (by decide) (fun c36 => ?_) (fun c36 => ?_)
      · replace hf := ifn c36 hf
        refine lv_aload_n hx hb dX5_cell_42 rfl (lv_at hl 0 rfl) ?_
        refine gfX5_34 C X dX5_cell_43 ?_
        refine lv_iload_n hx hb dX5_cell_46 rfl (lv_at hl 1 rfl) ?_
        obtain ⟨h47, hf⟩ := gd_e hf
        have hb47 : x1.toNatClampNeg < 4 := by have := inb_lt h47; omega
        refine rAald (t := 2) (k' := (71 + 2 * x1.toNatClampNeg)) C X rfl rfl h47 (by omega) dX5_cell_47 ?_
        refine lv_iload_n hx hb dX5_cell_48 rfl (lv_at hl 2 rfl) ?_
        refine lv_iload_n hx hb dX5_cell_49 rfl (lv_at hl 3 rfl) ?_
        obtain ⟨μ50, g50, hf⟩ := bd1_e hf
        refine qX5_316 (q := x1.toNatClampNeg) hb47 g50 C X hl.1 ((Nat.le_of_ble_eq_true rfl)) ⟨(Nat.le_of_ble_eq_true rfl), (Nat.le_of_ble_eq_true rfl)⟩ ⟨Nat.zero_le _, Nat.zero_le _⟩ dX5_cell_50 (fun H locs X => ?_)
        refine lv_iconst (v := 1) hx hb dX5_cell_53 (by decide) ?_
        exact retI C X hr rfl (so2 hf).1 (so2 hf).2 rfl dX5_cell_54
      · replace hf := ifp c36 hf
        refine lv_bipush (v := (-12)) hx hb dX5_cell_39 (by decide) ?_
        exact retI C X hr rfl (so2 hf).1 (so2 hf).2 rfl dX5_cell_41
    · replace hf := ifn c19 hf
      refine lv_bipush (v := (-11)) hx hb dX5_cell_22 (by decide) ?_
      exact retI C X hr rfl (so2 hf).1 (so2 hf).2 rfl dX5_cell_24
  · replace hf := ifp c4 hf
    refine lv_bipush (v := (-2)) hx hb dX5_cell_7 (by decide) ?_
    exact retI C X hr rfl (so2 hf).1 (so2 hf).2 rfl dX5_cell_9
theorem ct5_cell {x1 : Int32} {x2 : Int32} {x3 : Int32} {μ : Mem} {ν : Lem} {r : Int32} {μ1 : Mem} (hg : f5_cell μ x1 x2 x3 = some (r, μ1)) : CtI true yX5_cell cX5_cell 4 1 22 .int (fun ad => [.ref (ad 0), .int x1, .int x2, .int x3]) μ ν r μ1 ν :=
  mkI (by decide) rfl (fun ad => Nat.le_of_ble_eq_true rfl) (fun p l e s m args below meth c D cy ad C hr X ls hl => w5_cell C hr μ x1 x2 x3 hg _ _ X _ hl)
theorem qL_131 {p : Program} {l : Launch} {e : Env} {R : Room} {s : State} {m : MethodId} {args : Array Value} {below : List Frame} {meth : Method} {c : Code} {H : Heap} {locs : List Loc} {cells slots : Nat} {Q : State → Prop} {A : Nat → Prop} {cc : ByteArray} {nL : Nat} {D : va_G} {cy : Nat → ClassId} {ad : Nat → Nat} {μ : Mem} {ν : Lem} {pc : Nat} {ls : Array Slot} {rest : List Value} {x1 : Int32} {x2 : Int32} {x3 : Int32} {r : Int32} {μ1 : Mem} (hg : f5_cell μ x1 x2 x3 = some (r, μ1)) (C : CxA true A p s m args meth c cc nL RL D cy ad) (X : WdA true A D cy ad s.heap μ ν H locs) (hsz : ls.size = nL) (hrm : (rest.map fun v => v.category).sum ≤ 8) (hR : 1 + 1 ≤ R.frames ∧ 8 + (4 + 11) + 22 ≤ R.locals) (hcs : cells ≤ R.cells ∧ slots ≤ R.slots) (hd : decode cc pc = .ok (.invokevirtual 131, 3)) (kk : ∀ (H1 : Heap) (locs1 : List Loc), WdA true A D cy ad s.heap μ1 ν H1 locs1 → narrow .int (.int r) = .int r → W p l e R s m args below meth c H1 locs1 cells slots Q (F0 m (pc + 3) ls (.int r :: rest))) : W p l e R s m args below meth c H locs cells slots Q (F0 m pc ls (.int x3 :: .int x2 :: .int x1 :: .ref (ad 0) :: rest)) :=
  rCVI (As := [.int x1, .int x2, .int x3]) (k := 0) (ct5_cell hg) ok5 lX5_cell k_745 rfl rfl rfl C X rfl hrm hsz hR hcs hd kk
set_option maxRecDepth 100000 in
set_option maxHeartbeats 4000000 in
theorem w5_copy {p : Program} {l : Launch} {e : Env} {s : State} {m : MethodId} {args : Array Value} {below : List Frame} {meth : Method} {c : Code} {D : va_G} {cy : Nat → ClassId} {ad : Nat → Nat} {r : Int32} {μ1 : Mem} {ν : Lem} (C : Cx true p s m args meth c cX5_copy 8 RX5 D cy ad) (hr : meth.sig.returnType = some .int) : ∀ (μ : Mem) (x1 : Int32) (x2 : Int32) (x3 : Int32) (x4 : Int32) (x5 : Int32), f5_copy μ x1 x2 x3 x4 x5 = some (r, μ1) → ∀ (H : Heap) (locs : List Loc), Wd true D cy ad s.heap μ ν H locs → ∀ (ls : Array Slot), lv_has ls 8 [(0, .ref (ad 0)), (1, .int x1), (2, .int x2), (3, .int x3), (4, .int x4), (5, .int x5)] → WI true p l e 1 60 s m args below meth c D cy ad .int r μ1 ν H locs (F0 m 0 ls []) := by
  have hx := C.1.1
  have hb := C.1.2.1
  have hown := C.1.2.2.2.1
  have hts := C.1.2.2.2.2
  intro μ x1 x2 x3 x4 x5 hf H locs X ls hl
  unfold f5_copy at hf
  refine lv_iload_n hx hb dX5_copy_0 rfl (lv_at hl 1 rfl) ?_
  refine qX5_227 rfl C X hl.1 ((Nat.le_of_ble_eq_true rfl)) ⟨(Nat.le_of_ble_eq_true rfl), (Nat.le_of_ble_eq_true rfl)⟩ ⟨Nat.zero_le _, Nat.zero_le _⟩ dX5_copy_1 (fun H locs X b1 => ?_)
  refine lv_if_eq (tgt := 14) hx hb dX5_copy_4 (by decide) (fun c4 => ?_) (fun c4 => ?_)
  · replace hf := ifp c4 hf
    refine lv_bipush (v := (-2)) hx hb dX5_copy_14 (by decide) ?_
    exact retI C X hr rfl (so2 hf).1 (so2 hf).2 rfl dX5_copy_16
  · replace hf := ifn c4 hf
    refine lv_iload_n hx hb dX5_copy_7 rfl (lv_at hl 3 rfl) ?_
    refine qX5_227 rfl C X hl.1 ((Nat.le_of_ble_eq_true rfl)) ⟨(Nat.le_of_ble_eq_true rfl), (Nat.le_of_ble_eq_true rfl)⟩ ⟨Nat.zero_le _, Nat.zero_le _⟩ dX5_copy_8 (fun H locs X b8 => ?_)
    refine lv_if_ne (tgt := 17) hx hb dX5_copy_11 (by decide) (fun c11 => ?_) (fun c11 => ?_)
    · replace hf := ifn c11 hf
      refine lv_aload_n hx hb dX5_copy_17 rfl (lv_at hl 0 rfl) ?_
      refine gfX5_34 C X dX5_copy_18 ?_
      refine lv_iload_n hx hb dX5_copy_21 rfl (lv_at hl 1 rfl) ?_
      obtain ⟨h22, hf⟩ := gd_e hf
      have hb22 : x1.toNatClampNeg < 4 := by have := inb_lt h22; omega
      refine rAald (t := 2) (k' := (71 + 2 * x1.toNatClampNeg)) C X rfl rfl h22 (by omega) dX5_copy_22 ?_
      refine lv_astore (lv' := [(6, .ref (ad (71 + 2 * x1.toNatClampNeg))), (0, .ref (ad 0)), (1, .int x1), (2, .int x2), (3, .int x3), (4, .int x4), (5, .int x5)]) hx hb dX5_copy_23 hl (by decide) rfl (fun ls hl => ?_)
      refine lv_aload_n hx hb dX5_copy_25 rfl (lv_at hl 1 rfl) ?_
      refine gfX5_34 C X dX5_copy_26 ?_
      refine lv_iload_n hx hb dX5_copy_29 rfl (lv_at hl 4 rfl) ?_
      obtain ⟨h30, hf⟩ := gd_e hf
      have hb30 : x3.toNatClampNeg < 4 := by have := inb_lt h30; omega
      refine rAald (t := 2) (k' := (71 + 2 * x3.toNatClampNeg)) C X rfl rfl h30 (by omega) dX5_copy_30 ?_
      refine lv_astore (lv' := [(7, .ref (ad (71 + 2 * x3.toNatClampNeg))), (6, .ref (ad (71 + 2 * x1.toNatClampNeg))), (0, .ref (ad 0)), (1, .int x1), (2, .int x2), (3, .int x3), (4, .int x4), (5, .int x5)]) hx hb dX5_copy_31 hl (by decide) rfl (fun ls hl => ?_)
      refine lv_aload hx hb dX5_copy_33 (lv_at hl 1 rfl) ?_
      refine qX5_230 (q := x1.toNatClampNeg) hb22 rfl C X hl.1 ((Nat.le_of_ble_eq_true rfl)) ⟨(Nat.le_of_ble_eq_true rfl), (Nat.le_of_ble_eq_true rfl)⟩ ⟨Nat.zero_le _, Nat.zero_le _⟩ dX5_copy_35 (fun H locs X b35 => ?_)
      refine lv_if_ne (tgt := 49) hx hb dX5_copy_38 (by decide) (fun c38 => ?_) (fun c38 => ?_)
      · replace hf := ifn c38 hf
        refine lv_bipush (v := (-11)) hx hb dX5_copy_49 (by decide) ?_
        exact retI C X hr rfl (so2 hf).1 (so2 hf).2 rfl dX5_copy_51
      · replace hf := ifp c38 hf
        refine lv_aload hx hb dX5_copy_41 (lv_at hl 0 rfl) ?_
        refine qX5_230 (q := x3.toNatClampNeg) hb30 rfl C X hl.1 ((Nat.le_of_ble_eq_true rfl)) ⟨(Nat.le_of_ble_eq_true rfl), (Nat.le_of_ble_eq_true rfl)⟩ ⟨Nat.zero_le _, Nat.zero_le _⟩ dX5_copy_43 (fun H locs X b43 => ?_)
        refine lv_if_eq (tgt := 52) hx hb dX5_copy_46 (by decide) (fun c46 => ?_) (fun c46 => ?_)
        · replace hf := ifp c46 hf
          refine lv_aload hx hb dX5_copy_52 (lv_at hl 1 rfl) ?_
          refine gfX5_319 (q := x1.toNatClampNeg) hb22 rfl C X dX5_copy_54 ?_
          refine lv_aload hx hb dX5_copy_57 (lv_at hl 0 rfl) ?_
          refine gfX5_319 (q := x3.toNatClampNeg) hb30 rfl C X dX5_copy_59 ?_
          refine lv_icmp_eq (tgt := 68) hx hb dX5_copy_62 (by decide) (fun c62 => ?_) (fun c62 => ?_)
          · replace hf := ifp c62 hf
            refine lv_aload hx hb dX5_copy_68 (lv_at hl 1 rfl) ?_
            refine lv_iload_n hx hb dX5_copy_70 rfl (lv_at hl 4 rfl) ?_
            refine lv_iload hx hb dX5_copy_71 (lv_at hl 7 rfl) ?_
            refine qX5_313 (q := x1.toNatClampNeg) hb22 rfl C X hl.1 ((Nat.le_of_ble_eq_true rfl)) ⟨(Nat.le_of_ble_eq_true rfl), (Nat.le_of_ble_eq_true rfl)⟩ ⟨Nat.zero_le _, Nat.zero_le _⟩ dX5_copy_73 (fun H locs X b73 => ?_)
            refine lv_if_eq (tgt := 91) hx hb dX5_copy_76 (by decide) (fun c76 => ?_) (fun c76 => ?_)
            · replace hf := ifp c76 hf
              refine lv_bipush (v := (-12)) hx hb dX5_copy_91 (by decide) ?_
              exact retI C X hr rfl (so2 hf).1 (so2 hf).2 rfl dX5_copy_93
            · replace hf := ifn c76 hf
              refine lv_aload hx hb dX5_copy_79 (lv_at hl 0 rfl) ?_
              refine lv_iload hx hb dX5_copy_81 (lv_at hl 6 rfl) ?_
              refine lv_iload hx hb dX5_copy_83 (lv_at hl 7 rfl) ?_
              refine qX5_313 (q := x3.toNatClampNeg) hb30 rfl C X hl.1 ((Nat.le_of_ble_eq_true rfl)) ⟨(Nat.le_of_ble_eq_true rfl), (Nat.le_of_ble_eq_true rfl)⟩ ⟨Nat.zero_le _, Nat.zero_le _⟩ dX5_copy_85 (fun H locs X b85 => ?_)
              refine lv_if_ne (tgt := 94) hx hb dX5_copy_88 (by decide) (fun c88 => ?_) (fun c88 => ?_)
              · replace hf := ifn c88 hf
                refine lv_aload hx hb dX5_copy_94 (lv_at hl 1 rfl) ?_
                refine gfX5_243 (q := x1.toNatClampNeg) hb22 rfl (k2 := (72 + 2 * x1.toNatClampNeg)) rfl C X dX5_copy_96 ?_
                refine lv_iload_n hx hb dX5_copy_99 rfl (lv_at hl 4 rfl) ?_
                refine lv_aload hx hb dX5_copy_100 (lv_at hl 0 rfl) ?_
                refine gfX5_243 (q := x3.toNatClampNeg) hb30 rfl (k2 := (72 + 2 * x3.toNatClampNeg)) rfl C X dX5_copy_102 ?_
                refine lv_iload hx hb dX5_copy_105 (lv_at hl 6 rfl) ?_
                refine lv_iload hx hb dX5_copy_107 (lv_at hl 7 rfl) ?_
                obtain ⟨h109, hf⟩ := gd_e hf
                obtain ⟨μ109, e109, hf⟩ := nm_e2 hf
                refine rCopy C X (sSi hb22) (sSi hb30) k_761 hl.1 h109 e109 (Nat.le_of_ble_eq_true rfl) (Nat.le_of_ble_eq_true rfl) dX5_copy_109 (fun H locs X => ?_)
                refine lv_iload hx hb dX5_copy_112 (lv_at hl 7 rfl) ?_
                exact retI C X hr rfl (so2 hf).1 (so2 hf).2 rfl dX5_copy_114
              · replace hf := ifp c88 hf
                refine lv_bipush (v := (-12)) hx hb dX5_copy_91 (by decide) ?_
                exact retI C X hr rfl (so2 hf).1 (so2 hf).2 rfl dX5_copy_93
          · replace hf := ifn c62 hf
            refine lv_bipush (v := (-13)) hx hb dX5_copy_65 (by decide) ?_
            exact retI C X hr rfl (so2 hf).1 (so2 hf).2 rfl dX5_copy_67
        · replace hf := ifn c46 hf
          refine lv_bipush (v := (-11)) hx hb dX5_copy_49 (by decide) ?_
          exact retI C X hr rfl (so2 hf).1 (so2 hf).2 rfl dX5_copy_51
    · replace hf := ifp c11 hf
      refine lv_bipush (v := (-2)) hx hb dX5_copy_14 (by decide) ?_
      exact retI C X hr rfl (so2 hf).1 (so2 hf).2 rfl dX5_copy_16
theorem ct5_copy {x1 : Int32} {x2 : Int32} {x3 : Int32} {x4 : Int32} {x5 : Int32} {μ : Mem} {ν : Lem} {r : Int32} {μ1 : Mem} (hg : f5_copy μ x1 x2 x3 x4 x5 = some (r, μ1)) : CtI true yX5_copy cX5_copy 8 1 60 .int (fun ad => [.ref (ad 0), .int x1, .int x2, .int x3, .int x4, .int x5]) μ ν r μ1 ν :=
  mkI (by decide) rfl (fun ad => Nat.le_of_ble_eq_true rfl) (fun p l e s m args below meth c D cy ad C hr X ls hl => w5_copy C hr μ x1 x2 x3 x4 x5 hg _ _ X _ hl)
theorem qL_135 {p : Program} {l : Launch} {e : Env} {R : Room} {s : State} {m : MethodId} {args : Array Value} {below : List Frame} {meth : Method} {c : Code} {H : Heap} {locs : List Loc} {cells slots : Nat} {Q : State → Prop} {A : Nat → Prop} {cc : ByteArray} {nL : Nat} {D : va_G} {cy : Nat → ClassId} {ad : Nat → Nat} {μ : Mem} {ν : Lem} {pc : Nat} {ls : Array Slot} {rest : List Value} {x1 : Int32} {x2 : Int32} {x3 : Int32} {x4 : Int32} {x5 : Int32} {r : Int32} {μ1 : Mem} (hg : f5_copy μ x1 x2 x3 x4 x5 = some (r, μ1)) (C : CxA true A p s m args meth c cc nL RL D cy ad) (X : WdA true A D cy ad s.heap μ ν H locs) (hsz : ls.size = nL) (hrm : (rest.map fun v => v.category).sum ≤ 8) (hR : 1 + 1 ≤ R.frames ∧ 8 + (8 + 11) + 60 ≤ R.locals) (hcs : cells ≤ R.cells ∧ slots ≤ R.slots) (hd : decode cc pc = .ok (.invokevirtual 135, 3)) (kk : ∀ (H1 : Heap) (locs1 : List Loc), WdA true A D cy ad s.heap μ1 ν H1 locs1 → narrow .int (.int r) = .int r → W p l e R s m args below meth c H1 locs1 cells slots Q (F0 m (pc + 3) ls (.int r :: rest))) : W p l e R s m args below meth c H locs cells slots Q (F0 m pc ls (.int x5 :: .int x4 :: .int x3 :: .int x2 :: .int x1 :: .ref (ad 0) :: rest)) :=
  rCVI (As := [.int x1, .int x2, .int x3, .int x4, .int x5]) (k := 0) (ct5_copy hg) ok5 lX5_copy k_757 rfl rfl rfl C X rfl hrm hsz hR hcs hd kk
set_option maxRecDepth 100000 in
set_option maxHeartbeats 4000000 in
theorem w5_points_2 {p : Program} {l : Launch} {e : Env} {s : State} {m : MethodId} {args : Array Value} {below : List Frame} {meth : Method} {c : Code} {D : va_G} {cy : Nat → ClassId} {ad : Nat → Nat} {r : Int32} {μ1 : Mem} {ν : Lem} (C : Cx true p s m args meth c cX5_points 9 RX5 D cy ad) (hr : meth.sig.returnType = some .int) : ∀ (n : Nat), ∀ (μ : Mem) (x3 : Int32) (x4 : Int32) (x5 : Nat) (x6 : Int32) (x7 : Int32) (hx5 : x5 < 4), f5_points_2 n μ x3 x4 x5 x6 x7 = some (r, μ1) → ∀ (H : Heap) (locs : List Loc), Wd true D cy ad s.heap μ ν H locs → ∀ (ls : Array Slot), lv_has ls 9 [(0, .ref (ad 0)), (3, .int x3), (4, .int x4), (5, .ref (ad (71 + 2 * x5))), (6, .int x6), (7, .int x7)] → WI true p l e 2 46 s m args below meth c D cy ad .int r μ1 ν H locs (F0 m 74 ls []) := by
  have hx := C.1.1
  have hb := C.1.2.1
  have hown := C.1.2.2.2.1
  have hts := C.1.2.2.2.2
  intro n
  induction n with
  | zero =>
    intro μ x3 x4 x5 x6 x7 hx5 hf H locs X ls hl
    rw [f5_points_2] at hf
    cases hf
  | succ n ih =>
    intro μ x3 x4 x5 x6 x7 hx5 hf H locs X ls hl
    rw [f5_points_2] at hf
    refine lv_iload hx hb dX5_points_74 (lv_at hl 5 rfl) ?_
    refine lv_iload hx hb dX5_points_76 (lv_at hl 2 rfl) ?_
    refine lv_icmp_ge (tgt := 147) hx hb dX5_points_78 (by decide) (fun c78 => ?_) (fun c78 => ?_)
    · replace hf := ifp c78 hf
      refine lv_iload hx hb dX5_points_147 (lv_at hl 4 rfl) ?_
      exact retI C X hr rfl (so2 hf).1 (so2 hf).2 rfl dX5_points_149
    · replace hf := ifn c78 hf
      refine lv_iload_n hx hb dX5_points_81 rfl (lv_at hl 1 rfl) ?_
      refine lv_iconst (v := 3) hx hb dX5_points_82 (by decide) ?_
      refine lv_iload hx hb dX5_points_83 (lv_at hl 5 rfl) ?_
      refine lv_imul hx hb dX5_points_85 ?_
      refine lv_iadd hx hb dX5_points_86 ?_
      obtain ⟨v87, e87, hf⟩ := nm_e2 hf
      refine st_i e87 ?_
      refine lv_istore (lv' := [(8, .int v87), (0, .ref (ad 0)), (3, .int x3), (4, .int x4), (5, .ref (ad (71 + 2 * x5))), (6, .int x6), (7, .int x7)]) hx hb dX5_points_87 hl (by decide) rfl (fun ls hl => ?_)
      refine lv_aload hx hb dX5_points_89 (lv_at hl 4 rfl) ?_
      refine lv_iload hx hb dX5_points_91 (lv_at hl 0 rfl) ?_
      refine lv_iconst (v := 3) hx hb dX5_points_93 (by decide) ?_
      refine qX5_313 (q := x5) hx5 rfl C X hl.1 ((Nat.le_of_ble_eq_true rfl)) ⟨(Nat.le_of_ble_eq_true rfl), (Nat.le_of_ble_eq_true rfl)⟩ ⟨Nat.zero_le _, Nat.zero_le _⟩ dX5_points_94 (fun H locs X b94 => ?_)
      refine lv_if_ne (tgt := 103) hx hb dX5_points_97 (by decide) (fun c97 => ?_) (fun c97 => ?_)
      · replace hf := ifn c97 hf
        refine lv_aload_n hx hb dX5_points_103 rfl (lv_at hl 1 rfl) ?_
        refine lv_aload hx hb dX5_points_104 (lv_at hl 4 rfl) ?_
        refine gfX5_243 (q := x5) hx5 rfl (k2 := (72 + 2 * x5)) rfl C X dX5_points_106 ?_
        refine lv_iload hx hb dX5_points_109 (lv_at hl 0 rfl) ?_
        obtain ⟨h111, hf⟩ := gd_e hf
        refine rIald C X (sSi hx5) h111 dX5_points_111 ?_
        refine lv_aload hx hb dX5_points_112 (lv_at hl 4 rfl) ?_
        refine gfX5_243 (q := x5) hx5 rfl (k2 := (72 + 2 * x5)) rfl C X dX5_points_114 ?_
        refine lv_iload hx hb dX5_points_117 (lv_at hl 0 rfl) ?_
        refine lv_iconst (v := 1) hx hb dX5_points_119 (by decide) ?_
        refine lv_iadd hx hb dX5_points_120 ?_
        obtain ⟨h121, hf⟩ := gd_e hf
        refine rIald C X (sSi hx5) h121 dX5_points_121 ?_
        refine lv_aload hx hb dX5_points_122 (lv_at hl 4 rfl) ?_
        refine gfX5_243 (q := x5) hx5 rfl (k2 := (72 + 2 * x5)) rfl C X dX5_points_124 ?_
        refine lv_iload hx hb dX5_points_127 (lv_at hl 0 rfl) ?_
        refine lv_iconst (v := 2) hx hb dX5_points_129 (by decide) ?_
        refine lv_iadd hx hb dX5_points_130 ?_
        obtain ⟨h131, hf⟩ := gd_e hf
        refine rIald C X (sSi hx5) h131 dX5_points_131 ?_
        obtain ⟨r132, μ132, g132, hf⟩ := bd2_e hf
        refine qX5_109 g132 C X hl.1 ((Nat.le_of_ble_eq_true rfl)) ⟨(Nat.le_of_ble_eq_true rfl), (Nat.le_of_ble_eq_true rfl)⟩ ⟨Nat.zero_le _, Nat.zero_le _⟩ dX5_points_132 (fun H locs X b132 => ?_)
        refine lv_if_le (tgt := 141) hx hb dX5_points_135 (by decide) (fun c135 => ?_) (fun c135 => ?_)
        · replace hf := ifp c135 hf
          obtain ⟨v141, e141, hf⟩ := nm_e2 hf
          refine rIinc (lv' := [(7, .int v141), (8, .int v87), (0, .ref (ad 0)), (3, .int x3), (4, .int x4), (5, .ref (ad (71 + 2 * x5))), (6, .int x6)]) hx hb dX5_points_141 hl (k := 6) rfl e141 rfl (by decide) rfl (fun ls hl => ?_)
          refine lv_goto (tgt := 74) hx hb dX5_points_144 (by decide) ?_
          exact ih μ132 x3 x4 x5 x6 v141 hx5 hf _ _ X _ (lv_sub hl [2, 3, 4, 5, 6, 0] rfl)
        · replace hf := ifn c135 hf
          obtain ⟨v138, e138, hf⟩ := nm_e2 hf
          refine rIinc (lv' := [(6, .int v138), (8, .int v87), (0, .ref (ad 0)), (3, .int x3), (4, .int x4), (5, .ref (ad (71 + 2 * x5))), (7, .int x7)]) hx hb dX5_points_138 hl (k := 5) rfl e138 rfl (by decide) rfl (fun ls hl => ?_)
          obtain ⟨v141, e141, hf⟩ := nm_e2 hf
          refine rIinc (lv' := [(7, .int v141), (6, .int v138), (8, .int v87), (0, .ref (ad 0)), (3, .int x3), (4, .int x4), (5, .ref (ad (71 + 2 * x5)))]) hx hb dX5_points_141 hl (k := 6) rfl e141 rfl (by decide) rfl (fun ls hl => ?_)
          refine lv_goto (tgt := 74) hx hb dX5_points_144 (by decide) ?_
          exact ih μ132 x3 x4 x5 v138 v141 hx5 hf _ _ X _ (lv_sub hl [3, 4, 5, 6, 1, 0] rfl)
      · replace hf := ifp c97 hf
        refine lv_bipush (v := (-12)) hx hb dX5_points_100 (by decide) ?_
        exact retI C X hr rfl (so2 hf).1 (so2 hf).2 rfl dX5_points_102
set_option maxRecDepth 100000 in
set_option maxHeartbeats 4000000 in
theorem w5_points_1 {p : Program} {l : Launch} {e : Env} {s : State} {m : MethodId} {args : Array Value} {below : List Frame} {meth : Method} {c : Code} {D : va_G} {cy : Nat → ClassId} {ad : Nat → Nat} {r : Int32} {μ1 : Mem} {ν : Lem} (C : Cx true p s m args meth c cX5_points 9 RX5 D cy ad) (hr : meth.sig.returnType = some .int) : ∀ (μ : Mem) (x3 : Int32) (x4 : Int32) (x5 : Nat) (hx5 : x5 < 4), f5_points_1 μ x3 x4 x5 = some (r, μ1) → ∀ (H : Heap) (locs : List Loc), Wd true D cy ad s.heap μ ν H locs → ∀ (ls : Array Slot), lv_has ls 9 [(0, .ref (ad 0)), (3, .int x3), (4, .int x4), (5, .ref (ad (71 + 2 * x5)))] → WI true p l e 2 46 s m args below meth c D cy ad .int r μ1 ν H locs (F0 m 57 ls []) := by
  have hx := C.1.1
  have hb := C.1.2.1
  have hown := C.1.2.2.2.1
  have hts := C.1.2.2.2.2
  intro μ x3 x4 x5 hx5 hf H locs X ls hl
  unfold f5_points_1 at hf
  refine lv_aload hx hb dX5_points_57 (lv_at hl 3 rfl) ?_
  refine qX5_230 (q := x5) hx5 rfl C X hl.1 ((Nat.le_of_ble_eq_true rfl)) ⟨(Nat.le_of_ble_eq_true rfl), (Nat.le_of_ble_eq_true rfl)⟩ ⟨Nat.zero_le _, Nat.zero_le _⟩ dX5_points_59 (fun H locs X b59 => ?_)
  refine lv_if_eq (tgt := 68) hx hb dX5_points_62 (by decide) (fun c62 => ?_) (fun c62 => ?_)
  · replace hf := ifp c62 hf
    refine lv_iconst (v := 0) hx hb dX5_points_68 (by decide) ?_
    refine lv_istore (lv' := [(6, .int 0), (0, .ref (ad 0)), (3, .int x3), (4, .int x4), (5, .ref (ad (71 + 2 * x5)))]) hx hb dX5_points_69 hl (by decide) rfl (fun ls hl => ?_)
    refine lv_iconst (v := 0) hx hb dX5_points_71 (by decide) ?_
    refine lv_istore (lv' := [(7, .int 0), (6, .int 0), (0, .ref (ad 0)), (3, .int x3), (4, .int x4), (5, .ref (ad (71 + 2 * x5)))]) hx hb dX5_points_72 hl (by decide) rfl (fun ls hl => ?_)
    exact w5_points_2 C hr  FUEL μ x3 x4 x5 0 0 hx5 hf _ _ X _ (lv_sub hl [2, 3, 4, 5, 1, 0] rfl)
  · replace hf := ifn c62 hf
    refine lv_bipush (v := (-11)) hx hb dX5_points_65 (by decide) ?_
    exact retI C X hr rfl (so2 hf).1 (so2 hf).2 rfl dX5_points_67
set_option maxRecDepth 100000 in
set_option maxHeartbeats 4000000 in
theorem w5_points {p : Program} {l : Launch} {e : Env} {s : State} {m : MethodId} {args : Array Value} {below : List Frame} {meth : Method} {c : Code} {D : va_G} {cy : Nat → ClassId} {ad : Nat → Nat} {r : Int32} {μ1 : Mem} {ν : Lem} (C : Cx true p s m args meth c cX5_points 9 RX5 D cy ad) (hr : meth.sig.returnType = some .int) : ∀ (μ : Mem) (x1 : Int32) (x2 : Int32) (x3 : Int32) (x4 : Int32), f5_points μ x1 x2 x3 x4 = some (r, μ1) → ∀ (H : Heap) (locs : List Loc), Wd true D cy ad s.heap μ ν H locs → ∀ (ls : Array Slot), lv_has ls 9 [(0, .ref (ad 0)), (1, .int x1), (2, .int x2), (3, .int x3), (4, .int x4)] → WI true p l e 2 46 s m args below meth c D cy ad .int r μ1 ν H locs (F0 m 0 ls []) := by
  have hx := C.1.1
  have hb := C.1.2.1
  have hown := C.1.2.2.2.1
  have hts := C.1.2.2.2.2
  intro μ x1 x2 x3 x4 hf H locs X ls hl
  unfold f5_points at hf
  refine lv_iload_n hx hb dX5_points_0 rfl (lv_at hl 1 rfl) ?_
  refine qX5_227 rfl C X hl.1 ((Nat.le_of_ble_eq_true rfl)) ⟨(Nat.le_of_ble_eq_true rfl), (Nat.le_of_ble_eq_true rfl)⟩ ⟨Nat.zero_le _, Nat.zero_le _⟩ dX5_points_1 (fun H locs X b1 => ?_)
  refine lv_if_eq (tgt := 26) hx hb dX5_points_4 (by decide) (fun c4 => ?_) (fun c4 => ?_)
  · replace hf := ifp c4 hf
    refine lv_bipush (v := (-2)) hx hb dX5_points_26 (by decide) ?_
    exact retI C X hr rfl (so2 hf).1 (so2 hf).2 rfl dX5_points_28
  · replace hf := ifn c4 hf
    refine lv_iload_n hx hb dX5_points_7 rfl (lv_at hl 2 rfl) ?_
    refine qX5_310 rfl C X hl.1 ((Nat.le_of_ble_eq_true rfl)) ⟨(Nat.le_of_ble_eq_true rfl), (Nat.le_of_ble_eq_true rfl)⟩ ⟨Nat.zero_le _, Nat.zero_le _⟩ dX5_points_8 (fun H locs X b8 => ?_)
    refine lv_if_eq (tgt := 26) hx hb dX5_points_11 (by decide) (fun c11 => ?_) (fun c11 => ?_)
    · replace hf := ifp c11 hf
      refine lv_bipush (v := (-2)) hx hb dX5_points_26 (by decide) ?_
      exact retI C X hr rfl (so2 hf).1 (so2 hf).2 rfl dX5_points_28
    · replace hf := ifn c11 hf
      refine lv_iload hx hb dX5_points_14 (lv_at hl 4 rfl) ?_
      refine lv_if_lt (tgt := 26) hx hb dX5_points_16 (by decide) (fun c16 => ?_) (fun c16 => ?_)
      · replace hf := ifp c16 hf
        refine lv_bipush (v := (-2)) hx hb dX5_points_26 (by decide) ?_
        exact retI C X hr rfl (so2 hf).1 (so2 hf).2 rfl dX5_points_28
      · replace hf := ifn c16 hf
        refine lv_iload hx hb dX5_points_19 (lv_at hl 4 rfl) ?_
        refine lv_bipush (v := 13) hx hb dX5_points_21 (by decide) ?_
        refine lv_icmp_le (tgt := 29) hx hb dX5_points_23 (by decide) (fun c23 => ?_) (fun c23 => ?_)
        · replace hf := ifp c23 hf
          refine lv_aload_n hx hb dX5_points_29 rfl (lv_at hl 0 rfl) ?_
          refine gfX5_34 C X dX5_points_30 ?_
          refine lv_iload_n hx hb dX5_points_33 rfl (lv_at hl 1 rfl) ?_
          obtain ⟨h34, hf⟩ := gd_e hf
          have hb34 : x1.toNatClampNeg < 4 := by have := inb_lt h34; omega
          refine rAald (t := 2) (k' := (71 + 2 * x1.toNatClampNeg)) C X rfl rfl h34 (by omega) dX5_points_34 ?_
          refine lv_astore (lv' := [(5, .ref (ad (71 + 2 * x1.toNatClampNeg))), (0, .ref (ad 0)), (1, .int x1), (2, .int x2), (3, .int x3), (4, .int x4)]) hx hb dX5_points_35 hl (by decide) rfl (fun ls hl => ?_)
          refine lv_aload hx hb dX5_points_37 (lv_at hl 0 rfl) ?_
          refine qX5_230 (q := x1.toNatClampNeg) hb34 rfl C X hl.1 ((Nat.le_of_ble_eq_true rfl)) ⟨(Nat.le_of_ble_eq_true rfl), (Nat.le_of_ble_eq_true rfl)⟩ ⟨Nat.zero_le _, Nat.zero_le _⟩ dX5_points_39 (fun H locs X b39 => ?_)
          refine lv_if_ne (tgt := 57) hx hb dX5_points_42 (by decide) (fun c42 => ?_) (fun c42 => ?_)
          · replace hf := ifn c42 hf
            exact w5_points_1 C hr  μ x3 x4 (x1.toNatClampNeg) hb34 hf _ _ X _ (lv_sub hl [1, 4, 5, 0] rfl)
          · replace hf := ifp c42 hf
            refine lv_aload hx hb dX5_points_45 (lv_at hl 0 rfl) ?_
            refine gfX5_319 (q := x1.toNatClampNeg) hb34 rfl C X dX5_points_47 ?_
            refine lv_iload_n hx hb dX5_points_50 rfl (lv_at hl 3 rfl) ?_
            refine lv_icmp_eq (tgt := 57) hx hb dX5_points_51 (by decide) (fun c51 => ?_) (fun c51 => ?_)
            · replace hf := ifp c51 hf
              exact w5_points_1 C hr  μ x3 x4 (x1.toNatClampNeg) hb34 hf _ _ X _ (lv_sub hl [1, 4, 5, 0] rfl)
            · replace hf := ifn c51 hf
              refine lv_bipush (v := (-13)) hx hb dX5_points_54 (by decide) ?_
              exact retI C X hr rfl (so2 hf).1 (so2 hf).2 rfl dX5_points_56
        · replace hf := ifn c23 hf
          refine lv_bipush (v := (-2)) hx hb dX5_points_26 (by decide) ?_
          exact retI C X hr rfl (so2 hf).1 (so2 hf).2 rfl dX5_points_28
theorem ct5_points {x1 : Int32} {x2 : Int32} {x3 : Int32} {x4 : Int32} {μ : Mem} {ν : Lem} {r : Int32} {μ1 : Mem} (hg : f5_points μ x1 x2 x3 x4 = some (r, μ1)) : CtI true yX5_points cX5_points 9 2 46 .int (fun ad => [.ref (ad 0), .int x1, .int x2, .int x3, .int x4]) μ ν r μ1 ν :=
  mkI (by decide) rfl (fun ad => Nat.le_of_ble_eq_true rfl) (fun p l e s m args below meth c D cy ad C hr X ls hl => w5_points C hr μ x1 x2 x3 x4 hg _ _ X _ hl)
theorem qL_140 {p : Program} {l : Launch} {e : Env} {R : Room} {s : State} {m : MethodId} {args : Array Value} {below : List Frame} {meth : Method} {c : Code} {H : Heap} {locs : List Loc} {cells slots : Nat} {Q : State → Prop} {A : Nat → Prop} {cc : ByteArray} {nL : Nat} {D : va_G} {cy : Nat → ClassId} {ad : Nat → Nat} {μ : Mem} {ν : Lem} {pc : Nat} {ls : Array Slot} {rest : List Value} {x1 : Int32} {x2 : Int32} {x3 : Int32} {x4 : Int32} {r : Int32} {μ1 : Mem} (hg : f5_points μ x1 x2 x3 x4 = some (r, μ1)) (C : CxA true A p s m args meth c cc nL RL D cy ad) (X : WdA true A D cy ad s.heap μ ν H locs) (hsz : ls.size = nL) (hrm : (rest.map fun v => v.category).sum ≤ 8) (hR : 2 + 1 ≤ R.frames ∧ 8 + (9 + 11) + 46 ≤ R.locals) (hcs : cells ≤ R.cells ∧ slots ≤ R.slots) (hd : decode cc pc = .ok (.invokevirtual 140, 3)) (kk : ∀ (H1 : Heap) (locs1 : List Loc), WdA true A D cy ad s.heap μ1 ν H1 locs1 → narrow .int (.int r) = .int r → W p l e R s m args below meth c H1 locs1 cells slots Q (F0 m (pc + 3) ls (.int r :: rest))) : W p l e R s m args below meth c H locs cells slots Q (F0 m pc ls (.int x4 :: .int x3 :: .int x2 :: .int x1 :: .ref (ad 0) :: rest)) :=
  rCVI (As := [.int x1, .int x2, .int x3, .int x4]) (k := 0) (ct5_points hg) ok5 lX5_points k_764 rfl rfl rfl C X rfl hrm hsz hR hcs hd kk
set_option maxRecDepth 100000 in
set_option maxHeartbeats 4000000 in
theorem w5_isUnder_1 {p : Program} {l : Launch} {e : Env} {s : State} {m : MethodId} {args : Array Value} {below : List Frame} {meth : Method} {c : Code} {D : va_G} {cy : Nat → ClassId} {ad : Nat → Nat} {r : Int32} {μ : Mem} {ν : Lem} (C : Cx true p s m args meth c cX5_isUnder 4 RX5 D cy ad) (hr : meth.sig.returnType = some .boolean) : ∀ (n : Nat), ∀ (x1 : Int32) (x2 : Int32) (x3 : Int32), f5_isUnder_1 μ n x1 x2 x3 = some r → ∀ (H : Heap) (locs : List Loc), Wd true D cy ad s.heap μ ν H locs → ∀ (ls : Array Slot), lv_has ls 4 [(1, .int x1), (2, .int x2), (3, .int x3)] → WI true p l e 1 20 s m args below meth c D cy ad .boolean r μ ν H locs (F0 m 4 ls []) := by
  have hx := C.1.1
  have hb := C.1.2.1
  have hown := C.1.2.2.2.1
  have hts := C.1.2.2.2.2
  obtain ⟨z1, t1, z2, t2, z3, t3, z4, z5, ks, r1, r2⟩ := C.2.2.1.2 rfl
  intro n
  induction n with
  | zero =>
    intro x1 x2 x3 hf H locs X ls hl
    rw [f5_isUnder_1] at hf
    cases hf
  | succ n ih =>
    intro x1 x2 x3 hf H locs X ls hl
    rw [f5_isUnder_1] at hf
    refine lv_iload_n hx hb dX5_isUnder_4 rfl (lv_at hl 2 rfl) ?_
    refine lv_bipush (v := 6) hx hb dX5_isUnder_5 (by decide) ?_
    refine lv_icmp_ge (tgt := 36) hx hb dX5_isUnder_7 (by decide) (fun c7 => ?_) (fun c7 => ?_)
    · replace hf := ifp c7 hf
      refine lv_iconst (v := 0) hx hb dX5_isUnder_36 (by decide) ?_
      exact retI C X hr rfl (Option.some.inj hf) rfl rfl dX5_isUnder_37
    · replace hf := ifn c7 hf
      refine lv_iload_n hx hb dX5_isUnder_10 rfl (lv_at hl 1 rfl) ?_
      refine qX5_99 rfl C X hl.1 ((Nat.le_of_ble_eq_true rfl)) ⟨(Nat.le_of_ble_eq_true rfl), (Nat.le_of_ble_eq_true rfl)⟩ ⟨Nat.zero_le _, Nat.zero_le _⟩ dX5_isUnder_11 (fun H locs X b11 => ?_)
      refine lv_if_eq (tgt := 36) hx hb dX5_isUnder_14 (by decide) (fun c14 => ?_) (fun c14 => ?_)
      · replace hf := ifp c14 hf
        refine lv_iconst (v := 0) hx hb dX5_isUnder_36 (by decide) ?_
        exact retI C X hr rfl (Option.some.inj hf) rfl rfl dX5_isUnder_37
      · replace hf := ifn c14 hf
        refine lv_iload_n hx hb dX5_isUnder_17 rfl (lv_at hl 1 rfl) ?_
        refine lv_iload_n hx hb dX5_isUnder_18 rfl (lv_at hl 0 rfl) ?_
        refine lv_icmp_ne (tgt := 24) hx hb dX5_isUnder_19 (by decide) (fun c19 => ?_) (fun c19 => ?_)
        · replace hf := ifn c19 hf
          refine va_gets hx hb z1 X.2.2 hown (hts _ k_775) (fun _ h => h) dX5_isUnder_24 ?_
          refine lv_iload_n hx hb dX5_isUnder_27 rfl (lv_at hl 1 rfl) ?_
          obtain ⟨h28, hf⟩ := gd_e hf
          refine va_ti (v := .int (stUnder x2.toNatClampNeg)) hx hb t1 X.2.2 h28 rfl dX5_isUnder_28 ?_
          obtain ⟨v29, e29, hf⟩ := nm_e2 hf
          refine st_i e29 ?_
          refine lv_istore_n (lv' := [(2, .int v29), (1, .int x1), (3, .int x3)]) hx hb dX5_isUnder_29 rfl hl (by decide) rfl (fun ls hl => ?_)
          obtain ⟨v30, e30, hf⟩ := nm_e2 hf
          refine rIinc (lv' := [(3, .int v30), (2, .int v29), (1, .int x1)]) hx hb dX5_isUnder_30 hl (k := 2) rfl e30 rfl (by decide) rfl (fun ls hl => ?_)
          refine lv_goto (tgt := 4) hx hb dX5_isUnder_33 (by decide) ?_
          exact ih x1 v29 v30 hf _ _ X _ (lv_sub hl [2, 1, 0] rfl)
        · replace hf := ifp c19 hf
          refine lv_iconst (v := 1) hx hb dX5_isUnder_22 (by decide) ?_
          exact retI C X hr rfl (Option.some.inj hf) rfl rfl dX5_isUnder_23
set_option maxRecDepth 100000 in
set_option maxHeartbeats 4000000 in
theorem w5_isUnder {p : Program} {l : Launch} {e : Env} {s : State} {m : MethodId} {args : Array Value} {below : List Frame} {meth : Method} {c : Code} {D : va_G} {cy : Nat → ClassId} {ad : Nat → Nat} {r : Int32} {μ : Mem} {ν : Lem} (C : Cx true p s m args meth c cX5_isUnder 4 RX5 D cy ad) (hr : meth.sig.returnType = some .boolean) : ∀ (x0 : Int32) (x1 : Int32), f5_isUnder μ x0 x1 = some r → ∀ (H : Heap) (locs : List Loc), Wd true D cy ad s.heap μ ν H locs → ∀ (ls : Array Slot), lv_has ls 4 [(0, .int x0), (1, .int x1)] → WI true p l e 1 20 s m args below meth c D cy ad .boolean r μ ν H locs (F0 m 0 ls []) := by
  have hx := C.1.1
  have hb := C.1.2.1
  have hown := C.1.2.2.2.1
  have hts := C.1.2.2.2.2
  obtain ⟨z1, t1, z2, t2, z3, t3, z4, z5, ks, r1, r2⟩ := C.2.2.1.2 rfl
  intro x0 x1 hf H locs X ls hl
  unfold f5_isUnder at hf
  refine lv_iload_n hx hb dX5_isUnder_0 rfl (lv_at hl 0 rfl) ?_
  refine lv_istore_n (lv' := [(2, .int x0), (0, .int x0), (1, .int x1)]) hx hb dX5_isUnder_1 rfl hl (by decide) rfl (fun ls hl => ?_)
  refine lv_iconst (v := 0) hx hb dX5_isUnder_2 (by decide) ?_
  refine lv_istore_n (lv' := [(3, .int 0), (2, .int x0), (0, .int x0), (1, .int x1)]) hx hb dX5_isUnder_3 rfl hl (by decide) rfl (fun ls hl => ?_)
  exact w5_isUnder_1 C hr  FUEL x1 x0 0 hf _ _ X _ (lv_sub hl [3, 1, 0] rfl)
theorem ct5_isUnder {x0 : Int32} {x1 : Int32} {μ : Mem} {ν : Lem} {r : Int32} (hg : f5_isUnder μ x0 x1 = some r) : CtI true yX5_isUnder cX5_isUnder 4 1 20 .boolean (fun ad => [.int x0, .int x1]) μ ν r μ ν :=
  mkI (by decide) rfl (fun ad => Nat.le_of_ble_eq_true rfl) (fun p l e s m args below meth c D cy ad C hr X ls hl => w5_isUnder C hr x0 x1 hg _ _ X _ hl)
theorem qX5_328 {p : Program} {l : Launch} {e : Env} {R : Room} {s : State} {m : MethodId} {args : Array Value} {below : List Frame} {meth : Method} {c : Code} {H : Heap} {locs : List Loc} {cells slots : Nat} {Q : State → Prop} {A : Nat → Prop} {cc : ByteArray} {nL : Nat} {D : va_G} {cy : Nat → ClassId} {ad : Nat → Nat} {μ : Mem} {ν : Lem} {pc : Nat} {ls : Array Slot} {rest : List Value} {x0 : Int32} {x1 : Int32} {r : Int32} (hg : f5_isUnder μ x0 x1 = some r) (C : CxA true A p s m args meth c cc nL RX5 D cy ad) (X : WdA true A D cy ad s.heap μ ν H locs) (hsz : ls.size = nL) (hrm : (rest.map fun v => v.category).sum ≤ 8) (hR : 1 + 1 ≤ R.frames ∧ 8 + (4 + 11) + 20 ≤ R.locals) (hcs : cells ≤ R.cells ∧ slots ≤ R.slots) (hd : decode cc pc = .ok (.invokestatic 328, 3)) (kk : ∀ (H1 : Heap) (locs1 : List Loc), WdA true A D cy ad s.heap μ ν H1 locs1 → narrow .boolean (.int r) = .int r → W p l e R s m args below meth c H1 locs1 cells slots Q (F0 m (pc + 3) ls (.int r :: rest))) : W p l e R s m args below meth c H locs cells slots Q (F0 m pc ls (.int x1 :: .int x0 :: rest)) :=
  rCSI (As := [.int x0, .int x1]) (ct5_isUnder hg) lX5_isUnder k_772 rfl rfl C X rfl hrm hsz hR hcs hd kk
set_option maxRecDepth 100000 in
set_option maxHeartbeats 4000000 in
theorem w5_taken {p : Program} {l : Launch} {e : Env} {s : State} {m : MethodId} {args : Array Value} {below : List Frame} {meth : Method} {c : Code} {D : va_G} {cy : Nat → ClassId} {ad : Nat → Nat} {r : Int32} {μ : Mem} {ν : Lem} (C : Cx true p s m args meth c cX5_taken 3 RX5 D cy ad) (hr : meth.sig.returnType = some .int) : ∀ (x1 : Int32) (x2 : Int32), f5_taken μ x1 x2 = some r → ∀ (H : Heap) (locs : List Loc), Wd true D cy ad s.heap μ ν H locs → ∀ (ls : Array Slot), lv_has ls 3 [(0, .ref (ad 0)), (1, .int x1), (2, .int x2)] → WI true p l e 2 43 s m args below meth c D cy ad .int r μ ν H locs (F0 m 0 ls []) := by
  have hx := C.1.1
  have hb := C.1.2.1
  have hown := C.1.2.2.2.1
  have hts := C.1.2.2.2.2
  intro x1 x2 hf H locs X ls hl
  unfold f5_taken at hf
  refine lv_iload_n hx hb dX5_taken_0 rfl (lv_at hl 2 rfl) ?_
  refine qX5_99 rfl C X hl.1 ((Nat.le_of_ble_eq_true rfl)) ⟨(Nat.le_of_ble_eq_true rfl), (Nat.le_of_ble_eq_true rfl)⟩ ⟨Nat.zero_le _, Nat.zero_le _⟩ dX5_taken_1 (fun H locs X b1 => ?_)
  refine lv_if_ne (tgt := 10) hx hb dX5_taken_4 (by decide) (fun c4 => ?_) (fun c4 => ?_)
  · replace hf := ifn c4 hf
    refine lv_aload_n hx hb dX5_taken_10 rfl (lv_at hl 0 rfl) ?_
    refine gfX5_10 C X dX5_taken_11 ?_
    refine lv_iload_n hx hb dX5_taken_14 rfl (lv_at hl 1 rfl) ?_
    refine qX5_85 (o := 0) (by decide) rfl C X hl.1 ((Nat.le_of_ble_eq_true rfl)) ⟨(Nat.le_of_ble_eq_true rfl), (Nat.le_of_ble_eq_true rfl)⟩ ⟨Nat.zero_le _, Nat.zero_le _⟩ dX5_taken_15 (fun H locs X b15 => ?_)
    refine lv_if_ne (tgt := 24) hx hb dX5_taken_18 (by decide) (fun c18 => ?_) (fun c18 => ?_)
    · replace hf := ifn c18 hf
      refine lv_aload_n hx hb dX5_taken_24 rfl (lv_at hl 0 rfl) ?_
      refine gfX5_10 C X dX5_taken_25 ?_
      refine gfX5_92 (o := 0) (by decide) rfl (k2 := 12) rfl C X dX5_taken_28 ?_
      refine lv_iload_n hx hb dX5_taken_31 rfl (lv_at hl 1 rfl) ?_
      obtain ⟨h32, hf⟩ := gd_e hf
      have hb32 : x1.toNatClampNeg < 13 := by have := inb_lt h32; omega
      refine rAald (t := 0) (k' := (14 + 3 * x1.toNatClampNeg)) C X rfl rfl h32 (by omega) dX5_taken_32 ?_
      refine gfX5_123 (j := x1.toNatClampNeg) hb32 rfl C X dX5_taken_33 ?_
      refine lv_iload_n hx hb dX5_taken_36 rfl (lv_at hl 2 rfl) ?_
      obtain ⟨r37, g37, hf⟩ := bd1_e hf
      refine qX5_328 g37 C X hl.1 ((Nat.le_of_ble_eq_true rfl)) ⟨(Nat.le_of_ble_eq_true rfl), (Nat.le_of_ble_eq_true rfl)⟩ ⟨Nat.zero_le _, Nat.zero_le _⟩ dX5_taken_37 (fun H locs X b37 => ?_)
      refine lv_if_eq (tgt := 58) hx hb dX5_taken_40 (by decide) (fun c40 => ?_) (fun c40 => ?_)
      · replace hf := ifp c40 hf
        refine lv_bipush (v := (-13)) hx hb dX5_taken_58 (by decide) ?_
        exact retI C X hr rfl (Option.some.inj hf) rfl rfl dX5_taken_60
      · replace hf := ifn c40 hf
        refine lv_aload_n hx hb dX5_taken_43 rfl (lv_at hl 0 rfl) ?_
        refine gfX5_10 C X dX5_taken_44 ?_
        refine gfX5_92 (o := 0) (by decide) rfl (k2 := 12) rfl C X dX5_taken_47 ?_
        refine lv_iload_n hx hb dX5_taken_50 rfl (lv_at hl 1 rfl) ?_
        obtain ⟨h51, hf⟩ := gd_e hf
        have hb51 : x1.toNatClampNeg < 13 := by have := inb_lt h51; omega
        refine rAald (t := 0) (k' := (14 + 3 * x1.toNatClampNeg)) C X rfl rfl h51 (by omega) dX5_taken_51 ?_
        refine gfX5_96 (j := x1.toNatClampNeg) hb51 rfl C X dX5_taken_52 ?_
        refine lv_goto (tgt := 60) hx hb dX5_taken_55 (by decide) ?_
        exact retI C X hr rfl (Option.some.inj hf) rfl rfl dX5_taken_60
    · replace hf := ifp c18 hf
      refine lv_bipush (v := (-11)) hx hb dX5_taken_21 (by decide) ?_
      exact retI C X hr rfl (Option.some.inj hf) rfl rfl dX5_taken_23
  · replace hf := ifp c4 hf
    refine lv_bipush (v := (-2)) hx hb dX5_taken_7 (by decide) ?_
    exact retI C X hr rfl (Option.some.inj hf) rfl rfl dX5_taken_9
theorem ct5_taken {x1 : Int32} {x2 : Int32} {μ : Mem} {ν : Lem} {r : Int32} (hg : f5_taken μ x1 x2 = some r) : CtI true yX5_taken cX5_taken 3 2 43 .int (fun ad => [.ref (ad 0), .int x1, .int x2]) μ ν r μ ν :=
  mkI (by decide) rfl (fun ad => Nat.le_of_ble_eq_true rfl) (fun p l e s m args below meth c D cy ad C hr X ls hl => w5_taken C hr x1 x2 hg _ _ X _ hl)
theorem qL_145 {p : Program} {l : Launch} {e : Env} {R : Room} {s : State} {m : MethodId} {args : Array Value} {below : List Frame} {meth : Method} {c : Code} {H : Heap} {locs : List Loc} {cells slots : Nat} {Q : State → Prop} {A : Nat → Prop} {cc : ByteArray} {nL : Nat} {D : va_G} {cy : Nat → ClassId} {ad : Nat → Nat} {μ : Mem} {ν : Lem} {pc : Nat} {ls : Array Slot} {rest : List Value} {x1 : Int32} {x2 : Int32} {r : Int32} (hg : f5_taken μ x1 x2 = some r) (C : CxA true A p s m args meth c cc nL RL D cy ad) (X : WdA true A D cy ad s.heap μ ν H locs) (hsz : ls.size = nL) (hrm : (rest.map fun v => v.category).sum ≤ 8) (hR : 2 + 1 ≤ R.frames ∧ 8 + (3 + 11) + 43 ≤ R.locals) (hcs : cells ≤ R.cells ∧ slots ≤ R.slots) (hd : decode cc pc = .ok (.invokevirtual 145, 3)) (kk : ∀ (H1 : Heap) (locs1 : List Loc), WdA true A D cy ad s.heap μ ν H1 locs1 → narrow .int (.int r) = .int r → W p l e R s m args below meth c H1 locs1 cells slots Q (F0 m (pc + 3) ls (.int r :: rest))) : W p l e R s m args below meth c H locs cells slots Q (F0 m pc ls (.int x2 :: .int x1 :: .ref (ad 0) :: rest)) :=
  rCVI (As := [.int x1, .int x2]) (k := 0) (ct5_taken hg) ok5 lX5_taken k_768 rfl rfl rfl C X rfl hrm hsz hR hcs hd kk
set_option maxRecDepth 100000 in
set_option maxHeartbeats 4000000 in
theorem w6_in {p : Program} {l : Launch} {e : Env} {s : State} {m : MethodId} {args : Array Value} {below : List Frame} {meth : Method} {c : Code} {D : va_G} {cy : Nat → ClassId} {ad : Nat → Nat} {r : Int32} {μ : Mem} {ν : Lem} (C : Cx false p s m args meth c cX6_in 6 RX6 D cy ad) (hr : meth.sig.returnType = some .boolean) : ∀ (x0 : Int64) (x2 : Int64) (x4 : Int64), f6_in x0 x2 x4 = r → ∀ (H : Heap) (locs : List Loc), Wd false D cy ad s.heap μ ν H locs → ∀ (ls : Array Slot), lv_has ls 6 [(0, .long x0), (2, .long x2), (4, .long x4)] → WI false p l e 0 0 s m args below meth c D cy ad .boolean r μ ν H locs (F0 m 0 ls []) := by
  have hx := C.1.1
  have hb := C.1.2.1
  have hown := C.1.2.2.2.1
  have hts := C.1.2.2.2.2
  intro x0 x2 x4 hf H locs X ls hl
  unfold f6_in at hf
  refine lv_lload_n hx hb dX6_in_0 rfl (lv_at hl 0 rfl) ?_
  refine lv_lload_n hx hb dX6_in_1 rfl (lv_at hl 1 rfl) ?_
  refine W.lcmp hx hb dX6_in_2 ?_
  refine lv_if_lt (tgt := 17) hx hb dX6_in_3 (by decide) (fun c3 => ?_) (fun c3 => ?_)
  · replace hf := ifp c3 hf
    refine lv_iconst (v := 0) hx hb dX6_in_17 (by decide) ?_
    exact retI C X hr rfl hf rfl rfl dX6_in_18
  · replace hf := ifn c3 hf
    refine lv_lload_n hx hb dX6_in_6 rfl (lv_at hl 0 rfl) ?_
    refine lv_lload hx hb dX6_in_7 (lv_at hl 2 rfl) ?_
    refine W.lcmp hx hb dX6_in_9 ?_
    refine lv_if_gt (tgt := 17) hx hb dX6_in_10 (by decide) (fun c10 => ?_) (fun c10 => ?_)
    · replace hf := ifp c10 hf
      refine lv_iconst (v := 0) hx hb dX6_in_17 (by decide) ?_
      exact retI C X hr rfl hf rfl rfl dX6_in_18
    · replace hf := ifn c10 hf
      refine lv_iconst (v := 1) hx hb dX6_in_13 (by decide) ?_
      refine lv_goto (tgt := 18) hx hb dX6_in_14 (by decide) ?_
      exact retI C X hr rfl hf rfl rfl dX6_in_18
theorem ct6_in {x0 : Int64} {x2 : Int64} {x4 : Int64} {μ : Mem} {ν : Lem} {r : Int32} (hg : f6_in x0 x2 x4 = r) : CtI false yX6_in cX6_in 6 0 0 .boolean (fun ad => [.long x0, .long x2, .long x4]) μ ν r μ ν :=
  mkI (by decide) rfl (fun ad => Nat.le_of_ble_eq_true rfl) (fun p l e s m args below meth c D cy ad C hr X ls hl => w6_in C hr x0 x2 x4 hg _ _ X _ hl)
theorem qX6_92 {p : Program} {l : Launch} {e : Env} {R : Room} {s : State} {m : MethodId} {args : Array Value} {below : List Frame} {meth : Method} {c : Code} {H : Heap} {locs : List Loc} {cells slots : Nat} {Q : State → Prop} {A : Nat → Prop} {cc : ByteArray} {nL : Nat} {D : va_G} {cy : Nat → ClassId} {ad : Nat → Nat} {μ : Mem} {ν : Lem} {pc : Nat} {ls : Array Slot} {rest : List Value} {x0 : Int64} {x2 : Int64} {x4 : Int64} {r : Int32} (hg : f6_in x0 x2 x4 = r) (C : CxA false A p s m args meth c cc nL RX6 D cy ad) (X : WdA false A D cy ad s.heap μ ν H locs) (hsz : ls.size = nL) (hrm : (rest.map fun v => v.category).sum ≤ 8) (hR : 0 + 1 ≤ R.frames ∧ 8 + (6 + 11) + 0 ≤ R.locals) (hcs : cells ≤ R.cells ∧ slots ≤ R.slots) (hd : decode cc pc = .ok (.invokestatic 92, 3)) (kk : ∀ (H1 : Heap) (locs1 : List Loc), WdA false A D cy ad s.heap μ ν H1 locs1 → narrow .boolean (.int r) = .int r → W p l e R s m args below meth c H1 locs1 cells slots Q (F0 m (pc + 3) ls (.int r :: rest))) : W p l e R s m args below meth c H locs cells slots Q (F0 m pc ls (.long x4 :: .long x2 :: .long x0 :: rest)) :=
  rCSI (As := [.long x0, .long x2, .long x4]) (ct6_in hg) lX6_in k_925 rfl rfl C X rfl hrm hsz hR hcs hd kk
set_option maxRecDepth 100000 in
set_option maxHeartbeats 4000000 in
theorem w6_within {p : Program} {l : Launch} {e : Env} {s : State} {m : MethodId} {args : Array Value} {below : List Frame} {meth : Method} {c : Code} {D : va_G} {cy : Nat → ClassId} {ad : Nat → Nat} {r : Int32} {μ : Mem} {ν : Lem} (C : Cx false p s m args meth c cX6_within 3 RX6 D cy ad) (hr : meth.sig.returnType = some .int) : ∀ (x0 : Int32) (x1 : Int32) (x2 : Int32), f6_within x0 x1 x2 = r → ∀ (H : Heap) (locs : List Loc), Wd false D cy ad s.heap μ ν H locs → ∀ (ls : Array Slot), lv_has ls 3 [(0, .int x0), (1, .int x1), (2, .int x2)] → WI false p l e 0 0 s m args below meth c D cy ad .int r μ ν H locs (F0 m 0 ls []) := by
  have hx := C.1.1
  have hb := C.1.2.1
  have hown := C.1.2.2.2.1
  have hts := C.1.2.2.2.2
  intro x0 x1 x2 hf H locs X ls hl
  unfold f6_within at hf
  refine lv_iload_n hx hb dX6_within_0 rfl (lv_at hl 0 rfl) ?_
  refine lv_iload_n hx hb dX6_within_1 rfl (lv_at hl 1 rfl) ?_
  refine lv_icmp_ge (tgt := 9) hx hb dX6_within_2 (by decide) (fun c2 => ?_) (fun c2 => ?_)
  · replace hf := ifp c2 hf
    refine lv_iload_n hx hb dX6_within_9 rfl (lv_at hl 0 rfl) ?_
    refine lv_iload_n hx hb dX6_within_10 rfl (lv_at hl 2 rfl) ?_
    refine lv_icmp_le (tgt := 18) hx hb dX6_within_11 (by decide) (fun c11 => ?_) (fun c11 => ?_)
    · replace hf := ifp c11 hf
      refine lv_iload_n hx hb dX6_within_18 rfl (lv_at hl 0 rfl) ?_
      exact retI C X hr rfl hf rfl rfl dX6_within_19
    · replace hf := ifn c11 hf
      refine lv_iload_n hx hb dX6_within_14 rfl (lv_at hl 2 rfl) ?_
      refine lv_goto (tgt := 19) hx hb dX6_within_15 (by decide) ?_
      exact retI C X hr rfl hf rfl rfl dX6_within_19
  · replace hf := ifn c2 hf
    refine lv_iload_n hx hb dX6_within_5 rfl (lv_at hl 1 rfl) ?_
    refine lv_goto (tgt := 19) hx hb dX6_within_6 (by decide) ?_
    exact retI C X hr rfl hf rfl rfl dX6_within_19
theorem ct6_within {x0 : Int32} {x1 : Int32} {x2 : Int32} {μ : Mem} {ν : Lem} {r : Int32} (hg : f6_within x0 x1 x2 = r) : CtI false yX6_within cX6_within 3 0 0 .int (fun ad => [.int x0, .int x1, .int x2]) μ ν r μ ν :=
  mkI (by decide) rfl (fun ad => Nat.le_of_ble_eq_true rfl) (fun p l e s m args below meth c D cy ad C hr X ls hl => w6_within C hr x0 x1 x2 hg _ _ X _ hl)
theorem qX6_120 {p : Program} {l : Launch} {e : Env} {R : Room} {s : State} {m : MethodId} {args : Array Value} {below : List Frame} {meth : Method} {c : Code} {H : Heap} {locs : List Loc} {cells slots : Nat} {Q : State → Prop} {A : Nat → Prop} {cc : ByteArray} {nL : Nat} {D : va_G} {cy : Nat → ClassId} {ad : Nat → Nat} {μ : Mem} {ν : Lem} {pc : Nat} {ls : Array Slot} {rest : List Value} {x0 : Int32} {x1 : Int32} {x2 : Int32} {r : Int32} (hg : f6_within x0 x1 x2 = r) (C : CxA false A p s m args meth c cc nL RX6 D cy ad) (X : WdA false A D cy ad s.heap μ ν H locs) (hsz : ls.size = nL) (hrm : (rest.map fun v => v.category).sum ≤ 8) (hR : 0 + 1 ≤ R.frames ∧ 8 + (3 + 11) + 0 ≤ R.locals) (hcs : cells ≤ R.cells ∧ slots ≤ R.slots) (hd : decode cc pc = .ok (.invokestatic 120, 3)) (kk : ∀ (H1 : Heap) (locs1 : List Loc), WdA false A D cy ad s.heap μ ν H1 locs1 → narrow .int (.int r) = .int r → W p l e R s m args below meth c H1 locs1 cells slots Q (F0 m (pc + 3) ls (.int r :: rest))) : W p l e R s m args below meth c H locs cells slots Q (F0 m pc ls (.int x2 :: .int x1 :: .int x0 :: rest)) :=
  rCSI (As := [.int x0, .int x1, .int x2]) (ct6_within hg) lX6_within k_1175 rfl rfl C X rfl hrm hsz hR hcs hd kk
set_option maxRecDepth 100000 in
set_option maxHeartbeats 4000000 in
theorem w6_plain {p : Program} {l : Launch} {e : Env} {s : State} {m : MethodId} {args : Array Value} {below : List Frame} {meth : Method} {c : Code} {D : va_G} {cy : Nat → ClassId} {ad : Nat → Nat} {r : Int64} {μ : Mem} {ν : Lem} (C : Cx false p s m args meth c cX6_plain 2 RX6 D cy ad) (hr : meth.sig.returnType = some .long) : ∀ (x0 : Int64), f6_plain x0 = r → ∀ (H : Heap) (locs : List Loc), Wd false D cy ad s.heap μ ν H locs → ∀ (ls : Array Slot), lv_has ls 2 [(0, .long x0)] → WL false p l e 0 0 s m args below meth c D cy ad r μ ν H locs (F0 m 0 ls []) := by
  have hx := C.1.1
  have hb := C.1.2.1
  have hown := C.1.2.2.2.1
  have hts := C.1.2.2.2.2
  intro x0 hf H locs X ls hl
  unfold f6_plain at hf
  refine lv_lload_n hx hb dX6_plain_0 rfl (lv_at hl 0 rfl) ?_
  refine lv_lconst (v := 0) hx hb dX6_plain_1 (by decide) ?_
  refine W.lcmp hx hb dX6_plain_2 ?_
  refine lv_if_ge (tgt := 11) hx hb dX6_plain_3 (by decide) (fun c3 => ?_) (fun c3 => ?_)
  · replace hf := ifp c3 hf
    refine lv_lload_n hx hb dX6_plain_11 rfl (lv_at hl 0 rfl) ?_
    exact retL C X hr hf rfl rfl dX6_plain_12
  · replace hf := ifn c3 hf
    refine lv_lload_n hx hb dX6_plain_6 rfl (lv_at hl 0 rfl) ?_
    refine lv_lneg hx hb dX6_plain_7 ?_
    refine lv_goto (tgt := 12) hx hb dX6_plain_8 (by decide) ?_
    exact retL C X hr hf rfl rfl dX6_plain_12
theorem ct6_plain {x0 : Int64} {μ : Mem} {ν : Lem} {r : Int64} (hg : f6_plain x0 = r) : CtL false yX6_plain cX6_plain 2 0 0 (fun ad => [.long x0]) μ ν r μ ν :=
  mkL (by decide) rfl (fun ad => Nat.le_of_ble_eq_true rfl) (fun p l e s m args below meth c D cy ad C hr X ls hl => w6_plain C hr x0 hg _ _ X _ hl)
theorem qX6_338 {p : Program} {l : Launch} {e : Env} {R : Room} {s : State} {m : MethodId} {args : Array Value} {below : List Frame} {meth : Method} {c : Code} {H : Heap} {locs : List Loc} {cells slots : Nat} {Q : State → Prop} {A : Nat → Prop} {cc : ByteArray} {nL : Nat} {D : va_G} {cy : Nat → ClassId} {ad : Nat → Nat} {μ : Mem} {ν : Lem} {pc : Nat} {ls : Array Slot} {rest : List Value} {x0 : Int64} {r : Int64} (hg : f6_plain x0 = r) (C : CxA false A p s m args meth c cc nL RX6 D cy ad) (X : WdA false A D cy ad s.heap μ ν H locs) (hsz : ls.size = nL) (hrm : (rest.map fun v => v.category).sum ≤ 8) (hR : 0 + 1 ≤ R.frames ∧ 8 + (2 + 11) + 0 ≤ R.locals) (hcs : cells ≤ R.cells ∧ slots ≤ R.slots) (hd : decode cc pc = .ok (.invokestatic 338, 3)) (kk : ∀ (H1 : Heap) (locs1 : List Loc), WdA false A D cy ad s.heap μ ν H1 locs1 → W p l e R s m args below meth c H1 locs1 cells slots Q (F0 m (pc + 3) ls (.long r :: rest))) : W p l e R s m args below meth c H locs cells slots Q (F0 m pc ls (.long x0 :: rest)) :=
  rCSL (As := [.long x0]) (ct6_plain hg) lX6_plain k_1187 rfl rfl C X rfl hrm hsz hR hcs hd kk
set_option maxRecDepth 100000 in
set_option maxHeartbeats 4000000 in
theorem w6_spell {p : Program} {l : Launch} {e : Env} {s : State} {m : MethodId} {args : Array Value} {below : List Frame} {meth : Method} {c : Code} {D : va_G} {cy : Nat → ClassId} {ad : Nat → Nat} {μ1 : Mem} {ν1 : Lem} (C : Cx false p s m args meth c cX6_spell 10 RX6 D cy ad) (hr : meth.sig.returnType = none) : ∀ (μ : Mem) (ν : Lem) (x1 : Int32) (x2 : Int32) (x3 : Int32) (x4 : Int32) (x5 : Int32) (x6 : Int32) (x7 : Int32) (x8 : Int32) (x9 : Int32), f6_spell μ ν x1 x2 x3 x4 x5 x6 x7 x8 x9 = some (μ1, ν1) → ∀ (H : Heap) (locs : List Loc), Wd false D cy ad s.heap μ ν H locs → ∀ (ls : Array Slot), lv_has ls 10 [(0, .ref (ad 0)), (1, .int x1), (2, .int x2), (3, .int x3), (4, .int x4), (5, .int x5), (6, .int x6), (7, .int x7), (8, .int x8), (9, .int x9)] → WV false p l e 0 0 s m args below meth c D cy ad μ1 ν1 H locs (F0 m 0 ls []) := by
  have hx := C.1.1
  have hb := C.1.2.1
  have hown := C.1.2.2.2.1
  have hts := C.1.2.2.2.2
  intro μ ν x1 x2 x3 x4 x5 x6 x7 x8 x9 hf H locs X ls hl
  unfold f6_spell at hf
  refine lv_aload_n hx hb dX6_spell_0 rfl (lv_at hl 0 rfl) ?_
  refine gfX6_13 C X dX6_spell_1 ?_
  refine lv_iload_n hx hb dX6_spell_4 rfl (lv_at hl 1 rfl) ?_
  refine lv_iload_n hx hb dX6_spell_5 rfl (lv_at hl 2 rfl) ?_
  obtain ⟨h6, hf⟩ := gd_e hf
  obtain ⟨μ6, e6, hf⟩ := nm_e2 hf
  refine rIast2 C X rfl h6 e6 dX6_spell_6 (fun H locs X => ?_)
  refine lv_aload_n hx hb dX6_spell_7 rfl (lv_at hl 0 rfl) ?_
  refine gfX6_13 C X dX6_spell_8 ?_
  refine lv_iload_n hx hb dX6_spell_11 rfl (lv_at hl 1 rfl) ?_
  refine lv_iconst (v := 1) hx hb dX6_spell_12 (by decide) ?_
  refine lv_iadd hx hb dX6_spell_13 ?_
  refine lv_iload_n hx hb dX6_spell_14 rfl (lv_at hl 3 rfl) ?_
  obtain ⟨h15, hf⟩ := gd_e hf
  obtain ⟨μ15, e15, hf⟩ := nm_e2 hf
  refine rIast2 C X rfl h15 e15 dX6_spell_15 (fun H locs X => ?_)
  refine lv_aload_n hx hb dX6_spell_16 rfl (lv_at hl 0 rfl) ?_
  refine gfX6_13 C X dX6_spell_17 ?_
  refine lv_iload_n hx hb dX6_spell_20 rfl (lv_at hl 1 rfl) ?_
  refine lv_iconst (v := 2) hx hb dX6_spell_21 (by decide) ?_
  refine lv_iadd hx hb dX6_spell_22 ?_
  refine lv_iload hx hb dX6_spell_23 (lv_at hl 4 rfl) ?_
  obtain ⟨h25, hf⟩ := gd_e hf
  obtain ⟨μ25, e25, hf⟩ := nm_e2 hf
  refine rIast2 C X rfl h25 e25 dX6_spell_25 (fun H locs X => ?_)
  refine lv_aload_n hx hb dX6_spell_26 rfl (lv_at hl 0 rfl) ?_
  refine gfX6_13 C X dX6_spell_27 ?_
  refine lv_iload_n hx hb dX6_spell_30 rfl (lv_at hl 1 rfl) ?_
  refine lv_iconst (v := 3) hx hb dX6_spell_31 (by decide) ?_
  refine lv_iadd hx hb dX6_spell_32 ?_
  refine lv_iload hx hb dX6_spell_33 (lv_at hl 5 rfl) ?_
  obtain ⟨h35, hf⟩ := gd_e hf
  obtain ⟨μ35, e35, hf⟩ := nm_e2 hf
  refine rIast2 C X rfl h35 e35 dX6_spell_35 (fun H locs X => ?_)
  refine lv_aload_n hx hb dX6_spell_36 rfl (lv_at hl 0 rfl) ?_
  refine gfX6_13 C X dX6_spell_37 ?_
  refine lv_iload_n hx hb dX6_spell_40 rfl (lv_at hl 1 rfl) ?_
  refine lv_iconst (v := 4) hx hb dX6_spell_41 (by decide) ?_
  refine lv_iadd hx hb dX6_spell_42 ?_
  refine lv_iload hx hb dX6_spell_43 (lv_at hl 6 rfl) ?_
  obtain ⟨h45, hf⟩ := gd_e hf
  obtain ⟨μ45, e45, hf⟩ := nm_e2 hf
  refine rIast2 C X rfl h45 e45 dX6_spell_45 (fun H locs X => ?_)
  refine lv_aload_n hx hb dX6_spell_46 rfl (lv_at hl 0 rfl) ?_
  refine gfX6_13 C X dX6_spell_47 ?_
  refine lv_iload_n hx hb dX6_spell_50 rfl (lv_at hl 1 rfl) ?_
  refine lv_iconst (v := 5) hx hb dX6_spell_51 (by decide) ?_
  refine lv_iadd hx hb dX6_spell_52 ?_
  refine lv_iload hx hb dX6_spell_53 (lv_at hl 7 rfl) ?_
  obtain ⟨h55, hf⟩ := gd_e hf
  obtain ⟨μ55, e55, hf⟩ := nm_e2 hf
  refine rIast2 C X rfl h55 e55 dX6_spell_55 (fun H locs X => ?_)
  refine lv_aload_n hx hb dX6_spell_56 rfl (lv_at hl 0 rfl) ?_
  refine gfX6_13 C X dX6_spell_57 ?_
  refine lv_iload_n hx hb dX6_spell_60 rfl (lv_at hl 1 rfl) ?_
  refine lv_bipush (v := 6) hx hb dX6_spell_61 (by decide) ?_
  refine lv_iadd hx hb dX6_spell_63 ?_
  refine lv_iload hx hb dX6_spell_64 (lv_at hl 8 rfl) ?_
  obtain ⟨h66, hf⟩ := gd_e hf
  obtain ⟨μ66, e66, hf⟩ := nm_e2 hf
  refine rIast2 C X rfl h66 e66 dX6_spell_66 (fun H locs X => ?_)
  refine lv_aload_n hx hb dX6_spell_67 rfl (lv_at hl 0 rfl) ?_
  refine gfX6_13 C X dX6_spell_68 ?_
  refine lv_iload_n hx hb dX6_spell_71 rfl (lv_at hl 1 rfl) ?_
  refine lv_bipush (v := 7) hx hb dX6_spell_72 (by decide) ?_
  refine lv_iadd hx hb dX6_spell_74 ?_
  refine lv_iload hx hb dX6_spell_75 (lv_at hl 9 rfl) ?_
  obtain ⟨h77, hf⟩ := gd_e hf
  obtain ⟨μ77, e77, hf⟩ := nm_e2 hf
  refine rIast2 C X rfl h77 e77 dX6_spell_77 (fun H locs X => ?_)
  exact retV C X hr (so2 hf).1 (so2 hf).2 dX6_spell_78
theorem ct6_spell {x1 : Int32} {x2 : Int32} {x3 : Int32} {x4 : Int32} {x5 : Int32} {x6 : Int32} {x7 : Int32} {x8 : Int32} {x9 : Int32} {μ : Mem} {ν : Lem} {μ1 : Mem} {ν1 : Lem} (hg : f6_spell μ ν x1 x2 x3 x4 x5 x6 x7 x8 x9 = some (μ1, ν1)) : CtV false yX6_spell cX6_spell 10 0 0 (fun ad => [.ref (ad 0), .int x1, .int x2, .int x3, .int x4, .int x5, .int x6, .int x7, .int x8, .int x9]) μ ν μ1 ν1 :=
  mkV (by decide) rfl (fun ad => Nat.le_of_ble_eq_true rfl) (fun p l e s m args below meth c D cy ad C hr X ls hl => w6_spell C hr μ ν x1 x2 x3 x4 x5 x6 x7 x8 x9 hg _ _ X _ hl)
theorem qX6_82 {p : Program} {l : Launch} {e : Env} {R : Room} {s : State} {m : MethodId} {args : Array Value} {below : List Frame} {meth : Method} {c : Code} {H : Heap} {locs : List Loc} {cells slots : Nat} {Q : State → Prop} {A : Nat → Prop} {cc : ByteArray} {nL : Nat} {D : va_G} {cy : Nat → ClassId} {ad : Nat → Nat} {μ : Mem} {ν : Lem} {pc : Nat} {ls : Array Slot} {rest : List Value} {x1 : Int32} {x2 : Int32} {x3 : Int32} {x4 : Int32} {x5 : Int32} {x6 : Int32} {x7 : Int32} {x8 : Int32} {x9 : Int32} {μ1 : Mem} {ν1 : Lem} (hg : f6_spell μ ν x1 x2 x3 x4 x5 x6 x7 x8 x9 = some (μ1, ν1)) (C : CxA false A p s m args meth c cc nL RX6 D cy ad) (X : WdA false A D cy ad s.heap μ ν H locs) (hsz : ls.size = nL) (hrm : (rest.map fun v => v.category).sum ≤ 8) (hR : 0 + 1 ≤ R.frames ∧ 8 + (10 + 11) + 0 ≤ R.locals) (hcs : cells ≤ R.cells ∧ slots ≤ R.slots) (hd : decode cc pc = .ok (.invokevirtual 82, 3)) (kk : ∀ (H1 : Heap) (locs1 : List Loc), WdA false A D cy ad s.heap μ1 ν1 H1 locs1 → W p l e R s m args below meth c H1 locs1 cells slots Q (F0 m (pc + 3) ls rest)) : W p l e R s m args below meth c H locs cells slots Q (F0 m pc ls (.int x9 :: .int x8 :: .int x7 :: .int x6 :: .int x5 :: .int x4 :: .int x3 :: .int x2 :: .int x1 :: .ref (ad 0) :: rest)) :=
  rCVV (As := [.int x1, .int x2, .int x3, .int x4, .int x5, .int x6, .int x7, .int x8, .int x9]) (k := 0) (ct6_spell hg) ok6 lX6_spell k_783 rfl rfl rfl C X rfl hrm hsz hR hcs hd kk
