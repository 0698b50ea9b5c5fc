set_option maxRecDepth 100000 in
set_option maxHeartbeats 4000000 in
theorem w6_fail {p : Program} {l : Launch} {e : Env} {s : State} {m : MethodId} {args : Array Value} {below : List Frame} {meth : Method} {c : Code} {D : va_G} {cy : Nat → ClassId} {ad : Nat → Nat} {μ1 : Mem} {ν1 : Lem} (C : Cx false p s m args meth c cX6_fail 1 RX6 D cy ad) (hr : meth.sig.returnType = none) : ∀ (μ : Mem) (ν : Lem), f6_fail μ ν = (μ1, ν1) → ∀ (H : Heap) (locs : List Loc), Wd false D cy ad s.heap μ ν H locs → ∀ (ls : Array Slot), lv_has ls 1 [(0, .ref (ad 0))] → WV false p l e 0 0 s m args below meth c D cy ad μ1 ν1 H locs (F0 m 0 ls []) := by
  have hx := C.1.1
  have hb := C.1.2.1
  have hown := C.1.2.2.2.1
  have hts := C.1.2.2.2.2
  intro μ ν hf H locs X ls hl
  unfold f6_fail at hf
  refine lv_aload_n hx hb dX6_fail_0 rfl (lv_at hl 0 rfl) ?_
  refine gfX6_160 C X dX6_fail_1 ?_
  refine lv_if_ne (tgt := 20) hx hb dX6_fail_4 (by decide) (fun c4 => ?_) (fun c4 => ?_)
  · replace hf := ifn c4 hf
    exact retV C X hr (sp2 hf).1 (sp2 hf).2 dX6_fail_20
  · replace hf := ifp c4 hf
    refine lv_aload_n hx hb dX6_fail_7 rfl (lv_at hl 0 rfl) ?_
    refine lv_iconst (v := 1) hx hb dX6_fail_8 (by decide) ?_
    obtain ⟨μ9, e9, hf⟩ := nm_e2 hf
    refine pfX6_160 e9 (by decide) (by decide) C X dX6_fail_9 (fun H locs X => ?_)
    refine lv_aload_n hx hb dX6_fail_12 rfl (lv_at hl 0 rfl) ?_
    refine lv_aload_n hx hb dX6_fail_13 rfl (lv_at hl 0 rfl) ?_
    refine gfX6_142 C X dX6_fail_14 ?_
    obtain ⟨μ17, e17, hf⟩ := nm_e2 hf
    refine pfX6_164 e17 C X dX6_fail_17 (fun H locs X => ?_)
    exact retV C X hr (sp2 hf).1 (sp2 hf).2 dX6_fail_20
theorem ct6_fail {μ : Mem} {ν : Lem} {μ1 : Mem} {ν1 : Lem} (hg : f6_fail μ ν = (μ1, ν1)) : CtV false yX6_fail cX6_fail 1 0 0 (fun ad => [.ref (ad 0)]) μ ν μ1 ν1 :=
  mkV (by decide) rfl (fun ad => Nat.le_of_ble_eq_true rfl) (fun p l e s m args below meth c D cy ad C hr X ls hl => w6_fail C hr μ ν hg _ _ X _ hl)
theorem qX6_174 {p : Program} {l : Launch} {e : Env} {R : Room} {s : State} {m : MethodId} {args : Array Value} {below : List Frame} {meth : Method} {c : Code} {H : Heap} {locs : List Loc} {cells slots : Nat} {Q : State → Prop} {A : Nat → Prop} {cc : ByteArray} {nL : Nat} {D : va_G} {cy : Nat → ClassId} {ad : Nat → Nat} {μ : Mem} {ν : Lem} {pc : Nat} {ls : Array Slot} {rest : List Value} {μ1 : Mem} {ν1 : Lem} (hg : f6_fail μ ν = (μ1, ν1)) (C : CxA false A p s m args meth c cc nL RX6 D cy ad) (X : WdA false A D cy ad s.heap μ ν H locs) (hsz : ls.size = nL) (hrm : (rest.map fun v => v.category).sum ≤ 8) (hR : 0 + 1 ≤ R.frames ∧ 8 + (1 + 11) + 0 ≤ R.locals) (hcs : cells ≤ R.cells ∧ slots ≤ R.slots) (hd : decode cc pc = .ok (.invokevirtual 174, 3)) (kk : ∀ (H1 : Heap) (locs1 : List Loc), WdA false A D cy ad s.heap μ1 ν1 H1 locs1 → W p l e R s m args below meth c H1 locs1 cells slots Q (F0 m (pc + 3) ls rest)) : W p l e R s m args below meth c H locs cells slots Q (F0 m pc ls (.ref (ad 0) :: rest)) :=
  rCVV (As := []) (k := 0) (ct6_fail hg) ok6 lX6_fail k_993 rfl rfl rfl C X rfl hrm hsz hR hcs hd kk
set_option maxRecDepth 100000 in
set_option maxHeartbeats 4000000 in
theorem w6_isLetter {p : Program} {l : Launch} {e : Env} {s : State} {m : MethodId} {args : Array Value} {below : List Frame} {meth : Method} {c : Code} {D : va_G} {cy : Nat → ClassId} {ad : Nat → Nat} {r : Int32} {μ : Mem} {ν : Lem} (C : Cx false p s m args meth c cX6_isLetter 3 RX6 D cy ad) (hr : meth.sig.returnType = some .boolean) : ∀ (x1 : Int32) (x2 : Int32), f6_isLetter μ ν x1 x2 = some r → ∀ (H : Heap) (locs : List Loc), Wd false D cy ad s.heap μ ν H locs → ∀ (ls : Array Slot), lv_has ls 3 [(0, .ref (ad 0)), (1, .int x1), (2, .int x2)] → WI false p l e 1 21 s m args below meth c D cy ad .boolean r μ ν H locs (F0 m 0 ls []) := by
  have hx := C.1.1
  have hb := C.1.2.1
  have hown := C.1.2.2.2.1
  have hts := C.1.2.2.2.2
  intro x1 x2 hf H locs X ls hl
  unfold f6_isLetter at hf
  refine lv_aload_n hx hb dX6_isLetter_0 rfl (lv_at hl 0 rfl) ?_
  refine gfX6_142 C X dX6_isLetter_1 ?_
  refine lv_iload_n hx hb dX6_isLetter_4 rfl (lv_at hl 1 rfl) ?_
  refine lv_iadd hx hb dX6_isLetter_5 ?_
  refine lv_aload_n hx hb dX6_isLetter_6 rfl (lv_at hl 0 rfl) ?_
  refine gfX6_135 C X dX6_isLetter_7 ?_
  refine lv_icmp_ge (tgt := 35) hx hb dX6_isLetter_10 (by decide) (fun c10 => ?_) (fun c10 => ?_)
  · replace hf := ifp c10 hf
    refine lv_iload_n hx hb dX6_isLetter_35 rfl (lv_at hl 2 rfl) ?_
    refine lv_if_ne (tgt := 43) hx hb dX6_isLetter_36 (by decide) (fun c36 => ?_) (fun c36 => ?_)
    · replace hf := ifn c36 hf
      refine lv_iconst (v := 0) hx hb dX6_isLetter_43 (by decide) ?_
      exact retI C X hr rfl (Option.some.inj hf) rfl rfl dX6_isLetter_44
    · replace hf := ifp c36 hf
      refine lv_iconst (v := 1) hx hb dX6_isLetter_39 (by decide) ?_
      refine lv_goto (tgt := 44) hx hb dX6_isLetter_40 (by decide) ?_
      exact retI C X hr rfl (Option.some.inj hf) rfl rfl dX6_isLetter_44
  · replace hf := ifn c10 hf
    refine lv_aload_n hx hb dX6_isLetter_13 rfl (lv_at hl 0 rfl) ?_
    refine lv_aload_n hx hb dX6_isLetter_14 rfl (lv_at hl 0 rfl) ?_
    refine gfX6_142 C X dX6_isLetter_15 ?_
    refine lv_iload_n hx hb dX6_isLetter_18 rfl (lv_at hl 1 rfl) ?_
    refine lv_iadd hx hb dX6_isLetter_19 ?_
    obtain ⟨r20, g20, hf⟩ := bd1_e hf
    refine qX6_138 g20 C X hl.1 ((Nat.le_of_ble_eq_true rfl)) ⟨(Nat.le_of_ble_eq_true rfl), (Nat.le_of_ble_eq_true rfl)⟩ ⟨Nat.zero_le _, Nat.zero_le _⟩ dX6_isLetter_20 (fun H locs X b20 => ?_)
    refine lv_iload_n hx hb dX6_isLetter_23 rfl (lv_at hl 2 rfl) ?_
    refine lv_icmp_ne (tgt := 31) hx hb dX6_isLetter_24 (by decide) (fun c24 => ?_) (fun c24 => ?_)
    · replace hf := ifn c24 hf
      refine lv_iconst (v := 0) hx hb dX6_isLetter_31 (by decide) ?_
      refine lv_goto (tgt := 44) hx hb dX6_isLetter_32 (by decide) ?_
      exact retI C X hr rfl (Option.some.inj hf) rfl rfl dX6_isLetter_44
    · replace hf := ifp c24 hf
      refine lv_iconst (v := 1) hx hb dX6_isLetter_27 (by decide) ?_
      refine lv_goto (tgt := 44) hx hb dX6_isLetter_28 (by decide) ?_
      exact retI C X hr rfl (Option.some.inj hf) rfl rfl dX6_isLetter_44
theorem ct6_isLetter {x1 : Int32} {x2 : Int32} {μ : Mem} {ν : Lem} {r : Int32} (hg : f6_isLetter μ ν x1 x2 = some r) : CtI false yX6_isLetter cX6_isLetter 3 1 21 .boolean (fun ad => [.ref (ad 0), .int x1, .int x2]) μ ν r μ ν :=
  mkI (by decide) rfl (fun ad => Nat.le_of_ble_eq_true rfl) (fun p l e s m args below meth c D cy ad C hr X ls hl => w6_isLetter C hr x1 x2 hg _ _ X _ hl)
theorem qX6_167 {p : Program} {l : Launch} {e : Env} {R : Room} {s : State} {m : MethodId} {args : Array Value} {below : List Frame} {meth : Method} {c : Code} {H : Heap} {locs : List Loc} {cells slots : Nat} {Q : State → Prop} {A : Nat → Prop} {cc : ByteArray} {nL : Nat} {D : va_G} {cy : Nat → ClassId} {ad : Nat → Nat} {μ : Mem} {ν : Lem} {pc : Nat} {ls : Array Slot} {rest : List Value} {x1 : Int32} {x2 : Int32} {r : Int32} (hg : f6_isLetter μ ν x1 x2 = some r) (C : CxA false A p s m args meth c cc nL RX6 D cy ad) (X : WdA false A D cy ad s.heap μ ν H locs) (hsz : ls.size = nL) (hrm : (rest.map fun v => v.category).sum ≤ 8) (hR : 1 + 1 ≤ R.frames ∧ 8 + (3 + 11) + 21 ≤ R.locals) (hcs : cells ≤ R.cells ∧ slots ≤ R.slots) (hd : decode cc pc = .ok (.invokevirtual 167, 3)) (kk : ∀ (H1 : Heap) (locs1 : List Loc), WdA false A D cy ad s.heap μ ν H1 locs1 → narrow .boolean (.int r) = .int r → W p l e R s m args below meth c H1 locs1 cells slots Q (F0 m (pc + 3) ls (.int r :: rest))) : W p l e R s m args below meth c H locs cells slots Q (F0 m pc ls (.int x2 :: .int x1 :: .ref (ad 0) :: rest)) :=
  rCVI (As := [.int x1, .int x2]) (k := 0) (ct6_isLetter hg) ok6 lX6_isLetter k_985 rfl rfl rfl C X rfl hrm hsz hR hcs hd kk
set_option maxRecDepth 100000 in
set_option maxHeartbeats 4000000 in
theorem w6_isWord {p : Program} {l : Launch} {e : Env} {s : State} {m : MethodId} {args : Array Value} {below : List Frame} {meth : Method} {c : Code} {D : va_G} {cy : Nat → ClassId} {ad : Nat → Nat} {r : Int32} {μ : Mem} {ν : Lem} (C : Cx false p s m args meth c cX6_isWord 9 RX6 D cy ad) (hr : meth.sig.returnType = some .boolean) : ∀ (x1 : Int32) (x2 : Int32) (x3 : Int32) (x4 : Int32) (x5 : Int32) (x6 : Int32) (x7 : Int32) (x8 : Int32), f6_isWord μ ν x1 x2 x3 x4 x5 x6 x7 x8 = some r → ∀ (H : Heap) (locs : List Loc), Wd false D cy ad s.heap μ ν H locs → ∀ (ls : Array Slot), lv_has ls 9 [(0, .ref (ad 0)), (1, .int x1), (2, .int x2), (3, .int x3), (4, .int x4), (5, .int x5), (6, .int x6), (7, .int x7), (8, .int x8)] → WI false p l e 2 43 s m args below meth c D cy ad .boolean r μ ν H locs (F0 m 0 ls []) := by
  have hx := C.1.1
  have hb := C.1.2.1
  have hown := C.1.2.2.2.1
  have hts := C.1.2.2.2.2
  intro x1 x2 x3 x4 x5 x6 x7 x8 hf H locs X ls hl
  unfold f6_isWord at hf
  refine lv_aload_n hx hb dX6_isWord_0 rfl (lv_at hl 0 rfl) ?_
  refine gfX6_160 C X dX6_isWord_1 ?_
  refine lv_if_ne (tgt := 112) hx hb dX6_isWord_4 (by decide) (fun c4 => ?_) (fun c4 => ?_)
  · replace hf := ifn c4 hf
    refine lv_iconst (v := 0) hx hb dX6_isWord_112 (by decide) ?_
    exact retI C X hr rfl (Option.some.inj hf) rfl rfl dX6_isWord_113
  · replace hf := ifp c4 hf
    refine lv_aload_n hx hb dX6_isWord_7 rfl (lv_at hl 0 rfl) ?_
    refine gfX6_145 C X dX6_isWord_8 ?_
    refine lv_iconst (v := 1) hx hb dX6_isWord_11 (by decide) ?_
    refine lv_icmp_ne (tgt := 112) hx hb dX6_isWord_12 (by decide) (fun c12 => ?_) (fun c12 => ?_)
    · replace hf := ifn c12 hf
      refine lv_iconst (v := 0) hx hb dX6_isWord_112 (by decide) ?_
      exact retI C X hr rfl (Option.some.inj hf) rfl rfl dX6_isWord_113
    · replace hf := ifp c12 hf
      refine lv_aload_n hx hb dX6_isWord_15 rfl (lv_at hl 0 rfl) ?_
      refine gfX6_135 C X dX6_isWord_16 ?_
      refine lv_aload_n hx hb dX6_isWord_19 rfl (lv_at hl 0 rfl) ?_
      refine gfX6_142 C X dX6_isWord_20 ?_
      refine lv_bipush (v := 8) hx hb dX6_isWord_23 (by decide) ?_
      refine lv_iadd hx hb dX6_isWord_25 ?_
      refine lv_icmp_gt (tgt := 112) hx hb dX6_isWord_26 (by decide) (fun c26 => ?_) (fun c26 => ?_)
      · replace hf := ifp c26 hf
        refine lv_iconst (v := 0) hx hb dX6_isWord_112 (by decide) ?_
        exact retI C X hr rfl (Option.some.inj hf) rfl rfl dX6_isWord_113
      · replace hf := ifn c26 hf
        refine lv_aload_n hx hb dX6_isWord_29 rfl (lv_at hl 0 rfl) ?_
        refine lv_iconst (v := 0) hx hb dX6_isWord_30 (by decide) ?_
        refine lv_iload_n hx hb dX6_isWord_31 rfl (lv_at hl 1 rfl) ?_
        obtain ⟨r32, g32, hf⟩ := bd1_e hf
        refine qX6_167 g32 C X hl.1 ((Nat.le_of_ble_eq_true rfl)) ⟨(Nat.le_of_ble_eq_true rfl), (Nat.le_of_ble_eq_true rfl)⟩ ⟨Nat.zero_le _, Nat.zero_le _⟩ dX6_isWord_32 (fun H locs X b32 => ?_)
        refine lv_if_eq (tgt := 112) hx hb dX6_isWord_35 (by decide) (fun c35 => ?_) (fun c35 => ?_)
        · replace hf := ifp c35 hf
          refine lv_iconst (v := 0) hx hb dX6_isWord_112 (by decide) ?_
          exact retI C X hr rfl (Option.some.inj hf) rfl rfl dX6_isWord_113
        · replace hf := ifn c35 hf
          refine lv_aload_n hx hb dX6_isWord_38 rfl (lv_at hl 0 rfl) ?_
          refine lv_iconst (v := 1) hx hb dX6_isWord_39 (by decide) ?_
          refine lv_iload_n hx hb dX6_isWord_40 rfl (lv_at hl 2 rfl) ?_
          obtain ⟨r41, g41, hf⟩ := bd1_e hf
          refine qX6_167 g41 C X hl.1 ((Nat.le_of_ble_eq_true rfl)) ⟨(Nat.le_of_ble_eq_true rfl), (Nat.le_of_ble_eq_true rfl)⟩ ⟨Nat.zero_le _, Nat.zero_le _⟩ dX6_isWord_41 (fun H locs X b41 => ?_)
          refine lv_if_eq (tgt := 112) hx hb dX6_isWord_44 (by decide) (fun c44 => ?_) (fun c44 => ?_)
          · replace hf := ifp c44 hf
            refine lv_iconst (v := 0) hx hb dX6_isWord_112 (by decide) ?_
            exact retI C X hr rfl (Option.some.inj hf) rfl rfl dX6_isWord_113
          · replace hf := ifn c44 hf
            refine lv_aload_n hx hb dX6_isWord_47 rfl (lv_at hl 0 rfl) ?_
            refine lv_iconst (v := 2) hx hb dX6_isWord_48 (by decide) ?_
            refine lv_iload_n hx hb dX6_isWord_49 rfl (lv_at hl 3 rfl) ?_
            obtain ⟨r50, g50, hf⟩ := bd1_e hf
            refine qX6_167 g50 C X hl.1 ((Nat.le_of_ble_eq_true rfl)) ⟨(Nat.le_of_ble_eq_true rfl), (Nat.le_of_ble_eq_true rfl)⟩ ⟨Nat.zero_le _, Nat.zero_le _⟩ dX6_isWord_50 (fun H locs X b50 => ?_)
            refine lv_if_eq (tgt := 112) hx hb dX6_isWord_53 (by decide) (fun c53 => ?_) (fun c53 => ?_)
            · replace hf := ifp c53 hf
              refine lv_iconst (v := 0) hx hb dX6_isWord_112 (by decide) ?_
              exact retI C X hr rfl (Option.some.inj hf) rfl rfl dX6_isWord_113
            · replace hf := ifn c53 hf
              refine lv_aload_n hx hb dX6_isWord_56 rfl (lv_at hl 0 rfl) ?_
              refine lv_iconst (v := 3) hx hb dX6_isWord_57 (by decide) ?_
              refine lv_iload hx hb dX6_isWord_58 (lv_at hl 4 rfl) ?_
              obtain ⟨r60, g60, hf⟩ := bd1_e hf
              refine qX6_167 g60 C X hl.1 ((Nat.le_of_ble_eq_true rfl)) ⟨(Nat.le_of_ble_eq_true rfl), (Nat.le_of_ble_eq_true rfl)⟩ ⟨Nat.zero_le _, Nat.zero_le _⟩ dX6_isWord_60 (fun H locs X b60 => ?_)
              refine lv_if_eq (tgt := 112) hx hb dX6_isWord_63 (by decide) (fun c63 => ?_) (fun c63 => ?_)
              · replace hf := ifp c63 hf
                refine lv_iconst (v := 0) hx hb dX6_isWord_112 (by decide) ?_
                exact retI C X hr rfl (Option.some.inj hf) rfl rfl dX6_isWord_113
              · replace hf := ifn c63 hf
                refine lv_aload_n hx hb dX6_isWord_66 rfl (lv_at hl 0 rfl) ?_
                refine lv_iconst (v := 4) hx hb dX6_isWord_67 (by decide) ?_
                refine lv_iload hx hb dX6_isWord_68 (lv_at hl 5 rfl) ?_
                obtain ⟨r70, g70, hf⟩ := bd1_e hf
                refine qX6_167 g70 C X hl.1 ((Nat.le_of_ble_eq_true rfl)) ⟨(Nat.le_of_ble_eq_true rfl), (Nat.le_of_ble_eq_true rfl)⟩ ⟨Nat.zero_le _, Nat.zero_le _⟩ dX6_isWord_70 (fun H locs X b70 => ?_)
                refine lv_if_eq (tgt := 112) hx hb dX6_isWord_73 (by decide) (fun c73 => ?_) (fun c73 => ?_)
                · replace hf := ifp c73 hf
                  refine lv_iconst (v := 0) hx hb dX6_isWord_112 (by decide) ?_
                  exact retI C X hr rfl (Option.some.inj hf) rfl rfl dX6_isWord_113
                · replace hf := ifn c73 hf
                  refine lv_aload_n hx hb dX6_isWord_76 rfl (lv_at hl 0 rfl) ?_
                  refine lv_iconst (v := 5) hx hb dX6_isWord_77 (by decide) ?_
                  refine lv_iload hx hb dX6_isWord_78 (lv_at hl 6 rfl) ?_
                  obtain ⟨r80, g80, hf⟩ := bd1_e hf
                  refine qX6_167 g80 C X hl.1 ((Nat.le_of_ble_eq_true rfl)) ⟨(Nat.le_of_ble_eq_true rfl), (Nat.le_of_ble_eq_true rfl)⟩ ⟨Nat.zero_le _, Nat.zero_le _⟩ dX6_isWord_80 (fun H locs X b80 => ?_)
                  refine lv_if_eq (tgt := 112) hx hb dX6_isWord_83 (by decide) (fun c83 => ?_) (fun c83 => ?_)
                  · replace hf := ifp c83 hf
                    refine lv_iconst (v := 0) hx hb dX6_isWord_112 (by decide) ?_
                    exact retI C X hr rfl (Option.some.inj hf) rfl rfl dX6_isWord_113
                  · replace hf := ifn c83 hf
                    refine lv_aload_n hx hb dX6_isWord_86 rfl (lv_at hl 0 rfl) ?_
                    refine lv_bipush (v := 6) hx hb dX6_isWord_87 (by decide) ?_
                    refine lv_iload hx hb dX6_isWord_89 (lv_at hl 7 rfl) ?_
                    obtain ⟨r91, g91, hf⟩ := bd1_e hf
                    refine qX6_167 g91 C X hl.1 ((Nat.le_of_ble_eq_true rfl)) ⟨(Nat.le_of_ble_eq_true rfl), (Nat.le_of_ble_eq_true rfl)⟩ ⟨Nat.zero_le _, Nat.zero_le _⟩ dX6_isWord_91 (fun H locs X b91 => ?_)
                    refine lv_if_eq (tgt := 112) hx hb dX6_isWord_94 (by decide) (fun c94 => ?_) (fun c94 => ?_)
                    · replace hf := ifp c94 hf
                      refine lv_iconst (v := 0) hx hb dX6_isWord_112 (by decide) ?_
                      exact retI C X hr rfl (Option.some.inj hf) rfl rfl dX6_isWord_113
                    · replace hf := ifn c94 hf
                      refine lv_aload_n hx hb dX6_isWord_97 rfl (lv_at hl 0 rfl) ?_
                      refine lv_bipush (v := 7) hx hb dX6_isWord_98 (by decide) ?_
                      refine lv_iload hx hb dX6_isWord_100 (lv_at hl 8 rfl) ?_
                      obtain ⟨r102, g102, hf⟩ := bd1_e hf
                      refine qX6_167 g102 C X hl.1 ((Nat.le_of_ble_eq_true rfl)) ⟨(Nat.le_of_ble_eq_true rfl), (Nat.le_of_ble_eq_true rfl)⟩ ⟨Nat.zero_le _, Nat.zero_le _⟩ dX6_isWord_102 (fun H locs X b102 => ?_)
                      refine lv_if_eq (tgt := 112) hx hb dX6_isWord_105 (by decide) (fun c105 => ?_) (fun c105 => ?_)
                      · replace hf := ifp c105 hf
                        refine lv_iconst (v := 0) hx hb dX6_isWord_112 (by decide) ?_
                        exact retI C X hr rfl (Option.some.inj hf) rfl rfl dX6_isWord_113
                      · replace hf := ifn c105 hf
                        refine lv_iconst (v := 1) hx hb dX6_isWord_108 (by decide) ?_
                        refine lv_goto (tgt := 113) hx hb dX6_isWord_109 (by decide) ?_
                        exact retI C X hr rfl (Option.some.inj hf) rfl rfl dX6_isWord_113
theorem ct6_isWord {x1 : Int32} {x2 : Int32} {x3 : Int32} {x4 : Int32} {x5 : Int32} {x6 : Int32} {x7 : Int32} {x8 : Int32} {μ : Mem} {ν : Lem} {r : Int32} (hg : f6_isWord μ ν x1 x2 x3 x4 x5 x6 x7 x8 = some r) : CtI false yX6_isWord cX6_isWord 9 2 43 .boolean (fun ad => [.ref (ad 0), .int x1, .int x2, .int x3, .int x4, .int x5, .int x6, .int x7, .int x8]) μ ν r μ ν :=
  mkI (by decide) rfl (fun ad => Nat.le_of_ble_eq_true rfl) (fun p l e s m args below meth c D cy ad C hr X ls hl => w6_isWord C hr x1 x2 x3 x4 x5 x6 x7 x8 hg _ _ X _ hl)
theorem qX6_180 {p : Program} {l : Launch} {e : Env} {R : Room} {s : State} {m : MethodId} {args : Array Value} {below : List Frame} {meth : Method} {c : Code} {H : Heap} {locs : List Loc} {cells slots : Nat} {Q : State → Prop} {A : Nat → Prop} {cc : ByteArray} {nL : Nat} {D : va_G} {cy : Nat → ClassId} {ad : Nat → Nat} {μ : Mem} {ν : Lem} {pc : Nat} {ls : Array Slot} {rest : List Value} {x1 : Int32} {x2 : Int32} {x3 : Int32} {x4 : Int32} {x5 : Int32} {x6 : Int32} {x7 : Int32} {x8 : Int32} {r : Int32} (hg : f6_isWord μ ν x1 x2 x3 x4 x5 x6 x7 x8 = some r) (C : CxA false A p s m args meth c cc nL RX6 D cy ad) (X : WdA false A D cy ad s.heap μ ν H locs) (hsz : ls.size = nL) (hrm : (rest.map fun v => v.category).sum ≤ 8) (hR : 2 + 1 ≤ R.frames ∧ 8 + (9 + 11) + 43 ≤ R.locals) (hcs : cells ≤ R.cells ∧ slots ≤ R.slots) (hd : decode cc pc = .ok (.invokevirtual 180, 3)) (kk : ∀ (H1 : Heap) (locs1 : List Loc), WdA false A D cy ad s.heap μ ν H1 locs1 → narrow .boolean (.int r) = .int r → W p l e R s m args below meth c H1 locs1 cells slots Q (F0 m (pc + 3) ls (.int r :: rest))) : W p l e R s m args below meth c H locs cells slots Q (F0 m pc ls (.int x8 :: .int x7 :: .int x6 :: .int x5 :: .int x4 :: .int x3 :: .int x2 :: .int x1 :: .ref (ad 0) :: rest)) :=
  rCVI (As := [.int x1, .int x2, .int x3, .int x4, .int x5, .int x6, .int x7, .int x8]) (k := 0) (ct6_isWord hg) ok6 lX6_isWord k_981 rfl rfl rfl C X rfl hrm hsz hR hcs hd kk
set_option maxRecDepth 100000 in
set_option maxHeartbeats 4000000 in
theorem w6_isSign {p : Program} {l : Launch} {e : Env} {s : State} {m : MethodId} {args : Array Value} {below : List Frame} {meth : Method} {c : Code} {D : va_G} {cy : Nat → ClassId} {ad : Nat → Nat} {r : Int32} {μ : Mem} {ν : Lem} (C : Cx false p s m args meth c cX6_isSign 2 RX6 D cy ad) (hr : meth.sig.returnType = some .boolean) : ∀ (x1 : Int32), f6_isSign μ ν x1 = r → ∀ (H : Heap) (locs : List Loc), Wd false D cy ad s.heap μ ν H locs → ∀ (ls : Array Slot), lv_has ls 2 [(0, .ref (ad 0)), (1, .int x1)] → WI false p l e 0 0 s m args below meth c D cy ad .boolean r μ ν H locs (F0 m 0 ls []) := by
  have hx := C.1.1
  have hb := C.1.2.1
  have hown := C.1.2.2.2.1
  have hts := C.1.2.2.2.2
  intro x1 hf H locs X ls hl
  unfold f6_isSign at hf
  refine lv_aload_n hx hb dX6_isSign_0 rfl (lv_at hl 0 rfl) ?_
  refine gfX6_160 C X dX6_isSign_1 ?_
  refine lv_if_ne (tgt := 29) hx hb dX6_isSign_4 (by decide) (fun c4 => ?_) (fun c4 => ?_)
  · replace hf := ifn c4 hf
    refine lv_iconst (v := 0) hx hb dX6_isSign_29 (by decide) ?_
    exact retI C X hr rfl hf rfl rfl dX6_isSign_30
  · replace hf := ifp c4 hf
    refine lv_aload_n hx hb dX6_isSign_7 rfl (lv_at hl 0 rfl) ?_
    refine gfX6_145 C X dX6_isSign_8 ?_
    refine lv_iconst (v := 3) hx hb dX6_isSign_11 (by decide) ?_
    refine lv_icmp_ne (tgt := 29) hx hb dX6_isSign_12 (by decide) (fun c12 => ?_) (fun c12 => ?_)
    · replace hf := ifn c12 hf
      refine lv_iconst (v := 0) hx hb dX6_isSign_29 (by decide) ?_
      exact retI C X hr rfl hf rfl rfl dX6_isSign_30
    · replace hf := ifp c12 hf
      refine lv_aload_n hx hb dX6_isSign_15 rfl (lv_at hl 0 rfl) ?_
      refine gfX6_156 C X dX6_isSign_16 ?_
      refine lv_iload_n hx hb dX6_isSign_19 rfl (lv_at hl 1 rfl) ?_
      refine lv_i2l hx hb dX6_isSign_20 rfl ?_
      refine W.lcmp hx hb dX6_isSign_21 ?_
      refine lv_if_ne (tgt := 29) hx hb dX6_isSign_22 (by decide) (fun c22 => ?_) (fun c22 => ?_)
      · replace hf := ifn c22 hf
        refine lv_iconst (v := 0) hx hb dX6_isSign_29 (by decide) ?_
        exact retI C X hr rfl hf rfl rfl dX6_isSign_30
      · replace hf := ifp c22 hf
        refine lv_iconst (v := 1) hx hb dX6_isSign_25 (by decide) ?_
        refine lv_goto (tgt := 30) hx hb dX6_isSign_26 (by decide) ?_
        exact retI C X hr rfl hf rfl rfl dX6_isSign_30
theorem ct6_isSign {x1 : Int32} {μ : Mem} {ν : Lem} {r : Int32} (hg : f6_isSign μ ν x1 = r) : CtI false yX6_isSign cX6_isSign 2 0 0 .boolean (fun ad => [.ref (ad 0), .int x1]) μ ν r μ ν :=
  mkI (by decide) rfl (fun ad => Nat.le_of_ble_eq_true rfl) (fun p l e s m args below meth c D cy ad C hr X ls hl => w6_isSign C hr x1 hg _ _ X _ hl)
theorem qX6_202 {p : Program} {l : Launch} {e : Env} {R : Room} {s : State} {m : MethodId} {args : Array Value} {below : List Frame} {meth : Method} {c : Code} {H : Heap} {locs : List Loc} {cells slots : Nat} {Q : State → Prop} {A : Nat → Prop} {cc : ByteArray} {nL : Nat} {D : va_G} {cy : Nat → ClassId} {ad : Nat → Nat} {μ : Mem} {ν : Lem} {pc : Nat} {ls : Array Slot} {rest : List Value} {x1 : Int32} {r : Int32} (hg : f6_isSign μ ν x1 = r) (C : CxA false A p s m args meth c cc nL RX6 D cy ad) (X : WdA false A D cy ad s.heap μ ν H locs) (hsz : ls.size = nL) (hrm : (rest.map fun v => v.category).sum ≤ 8) (hR : 0 + 1 ≤ R.frames ∧ 8 + (2 + 11) + 0 ≤ R.locals) (hcs : cells ≤ R.cells ∧ slots ≤ R.slots) (hd : decode cc pc = .ok (.invokevirtual 202, 3)) (kk : ∀ (H1 : Heap) (locs1 : List Loc), WdA false A D cy ad s.heap μ ν H1 locs1 → narrow .boolean (.int r) = .int r → W p l e R s m args below meth c H1 locs1 cells slots Q (F0 m (pc + 3) ls (.int r :: rest))) : W p l e R s m args below meth c H locs cells slots Q (F0 m pc ls (.int x1 :: .ref (ad 0) :: rest)) :=
  rCVI (As := [.int x1]) (k := 0) (ct6_isSign hg) ok6 lX6_isSign k_1045 rfl rfl rfl C X rfl hrm hsz hR hcs hd kk
set_option maxRecDepth 100000 in
set_option maxHeartbeats 4000000 in
theorem w6_opens {p : Program} {l : Launch} {e : Env} {s : State} {m : MethodId} {args : Array Value} {below : List Frame} {meth : Method} {c : Code} {D : va_G} {cy : Nat → ClassId} {ad : Nat → Nat} {r : Int32} {μ1 : Mem} {ν1 : Lem} (C : Cx false p s m args meth c cX6_opens 1 RX6 D cy ad) (hr : meth.sig.returnType = some .boolean) : ∀ (μ : Mem) (ν : Lem), f6_opens μ ν = some (r, μ1, ν1) → ∀ (H : Heap) (locs : List Loc), Wd false D cy ad s.heap μ ν H locs → ∀ (ls : Array Slot), lv_has ls 1 [(0, .ref (ad 0))] → WI false p l e 2 47 s m args below meth c D cy ad .boolean r μ1 ν1 H locs (F0 m 0 ls []) := by
  have hx := C.1.1
  have hb := C.1.2.1
  have hown := C.1.2.2.2.1
  have hts := C.1.2.2.2.2
  intro μ ν hf H locs X ls hl
  unfold f6_opens at hf
  refine lv_aload_n hx hb dX6_opens_0 rfl (lv_at hl 0 rfl) ?_
  refine gfX6_171 C X dX6_opens_1 ?_
  refine lv_iconst (v := 5) hx hb dX6_opens_4 (by decide) ?_
  refine lv_icmp_ne (tgt := 14) hx hb dX6_opens_5 (by decide) (fun c5 => ?_) (fun c5 => ?_)
  · replace hf := ifn c5 hf
    refine lv_aload_n hx hb dX6_opens_14 rfl (lv_at hl 0 rfl) ?_
    refine lv_dup hx hb dX6_opens_15 rfl ?_
    refine gfX6_171 C X dX6_opens_16 ?_
    refine lv_iconst (v := 1) hx hb dX6_opens_19 (by decide) ?_
    refine lv_iadd hx hb dX6_opens_20 ?_
    obtain ⟨μ21, e21, hf⟩ := nm_e2 hf
    refine pfX6_171 e21 C X dX6_opens_21 (fun H locs X => ?_)
    refine lv_aload_n hx hb dX6_opens_24 rfl (lv_at hl 0 rfl) ?_
    obtain ⟨μ25, ν25, g25, hf⟩ := bd2_e hf
    refine qX6_177 g25 C X hl.1 ((Nat.le_of_ble_eq_true rfl)) ⟨(Nat.le_of_ble_eq_true rfl), (Nat.le_of_ble_eq_true rfl)⟩ ⟨Nat.zero_le _, Nat.zero_le _⟩ dX6_opens_25 (fun H locs X => ?_)
    refine lv_iconst (v := 1) hx hb dX6_opens_28 (by decide) ?_
    exact retI C X hr rfl (so3 hf).1 (so3 hf).2.1 (so3 hf).2.2 dX6_opens_29
  · replace hf := ifp c5 hf
    refine lv_aload_n hx hb dX6_opens_8 rfl (lv_at hl 0 rfl) ?_
    obtain ⟨μ9, ν9, g9, hf⟩ := pr2_e hf
    refine qX6_174 g9 C X hl.1 ((Nat.le_of_ble_eq_true rfl)) ⟨(Nat.le_of_ble_eq_true rfl), (Nat.le_of_ble_eq_true rfl)⟩ ⟨Nat.zero_le _, Nat.zero_le _⟩ dX6_opens_9 (fun H locs X => ?_)
    refine lv_iconst (v := 0) hx hb dX6_opens_12 (by decide) ?_
    exact retI C X hr rfl (so3 hf).1 (so3 hf).2.1 (so3 hf).2.2 dX6_opens_13
theorem ct6_opens {μ : Mem} {ν : Lem} {r : Int32} {μ1 : Mem} {ν1 : Lem} (hg : f6_opens μ ν = some (r, μ1, ν1)) : CtI false yX6_opens cX6_opens 1 2 47 .boolean (fun ad => [.ref (ad 0)]) μ ν r μ1 ν1 :=
  mkI (by decide) rfl (fun ad => Nat.le_of_ble_eq_true rfl) (fun p l e s m args below meth c D cy ad C hr X ls hl => w6_opens C hr μ ν hg _ _ X _ hl)
theorem qX6_205 {p : Program} {l : Launch} {e : Env} {R : Room} {s : State} {m : MethodId} {args : Array Value} {below : List Frame} {meth : Method} {c : Code} {H : Heap} {locs : List Loc} {cells slots : Nat} {Q : State → Prop} {A : Nat → Prop} {cc : ByteArray} {nL : Nat} {D : va_G} {cy : Nat → ClassId} {ad : Nat → Nat} {μ : Mem} {ν : Lem} {pc : Nat} {ls : Array Slot} {rest : List Value} {r : Int32} {μ1 : Mem} {ν1 : Lem} (hg : f6_opens μ ν = some (r, μ1, ν1)) (C : CxA false A p s m args meth c cc nL RX6 D cy ad) (X : WdA false A D cy ad s.heap μ ν H locs) (hsz : ls.size = nL) (hrm : (rest.map fun v => v.category).sum ≤ 8) (hR : 2 + 1 ≤ R.frames ∧ 8 + (1 + 11) + 47 ≤ R.locals) (hcs : cells ≤ R.cells ∧ slots ≤ R.slots) (hd : decode cc pc = .ok (.invokevirtual 205, 3)) (kk : ∀ (H1 : Heap) (locs1 : List Loc), WdA false A D cy ad s.heap μ1 ν1 H1 locs1 → narrow .boolean (.int r) = .int r → W p l e R s m args below meth c H1 locs1 cells slots Q (F0 m (pc + 3) ls (.int r :: rest))) : W p l e R s m args below meth c H locs cells slots Q (F0 m pc ls (.ref (ad 0) :: rest)) :=
  rCVI (As := []) (k := 0) (ct6_opens hg) ok6 lX6_opens k_1009 rfl rfl rfl C X rfl hrm hsz hR hcs hd kk
set_option maxRecDepth 100000 in
set_option maxHeartbeats 4000000 in
theorem w6_name {p : Program} {l : Launch} {e : Env} {s : State} {m : MethodId} {args : Array Value} {below : List Frame} {meth : Method} {c : Code} {D : va_G} {cy : Nat → ClassId} {ad : Nat → Nat} {r : Int32} {μ1 : Mem} {ν1 : Lem} (C : Cx false p s m args meth c cX6_name 1 RX6 D cy ad) (hr : meth.sig.returnType = some .int) : ∀ (μ : Mem) (ν : Lem), f6_name μ ν = some (r, μ1, ν1) → ∀ (H : Heap) (locs : List Loc), Wd false D cy ad s.heap μ ν H locs → ∀ (ls : Array Slot), lv_has ls 1 [(0, .ref (ad 0))] → WI false p l e 3 71 s m args below meth c D cy ad .int r μ1 ν1 H locs (F0 m 0 ls []) := by
  have hx := C.1.1
  have hb := C.1.2.1
  have hown := C.1.2.2.2.1
  have hts := C.1.2.2.2.2
  intro μ ν hf H locs X ls hl
  unfold f6_name at hf
  refine lv_aload_n hx hb dX6_name_0 rfl (lv_at hl 0 rfl) ?_
  refine lv_bipush (v := 109) hx hb dX6_name_1 (by decide) ?_
  refine lv_bipush (v := 105) hx hb dX6_name_3 (by decide) ?_
  refine lv_bipush (v := 110) hx hb dX6_name_5 (by decide) ?_
  refine lv_bipush (v := 117) hx hb dX6_name_7 (by decide) ?_
  refine lv_bipush (v := 116) hx hb dX6_name_9 (by decide) ?_
  refine lv_bipush (v := 101) hx hb dX6_name_11 (by decide) ?_
  refine lv_iconst (v := 0) hx hb dX6_name_13 (by decide) ?_
  refine lv_iconst (v := 0) hx hb dX6_name_14 (by decide) ?_
  obtain ⟨r15, g15, hf⟩ := bd1_e hf
  refine qX6_180 g15 C X hl.1 ((Nat.le_of_ble_eq_true rfl)) ⟨(Nat.le_of_ble_eq_true rfl), (Nat.le_of_ble_eq_true rfl)⟩ ⟨Nat.zero_le _, Nat.zero_le _⟩ dX6_name_15 (fun H locs X b15 => ?_)
  refine lv_if_eq (tgt := 26) hx hb dX6_name_18 (by decide) (fun c18 => ?_) (fun c18 => ?_)
  · replace hf := ifp c18 hf
    refine lv_aload_n hx hb dX6_name_26 rfl (lv_at hl 0 rfl) ?_
    refine lv_bipush (v := 112) hx hb dX6_name_27 (by decide) ?_
    refine lv_bipush (v := 108) hx hb dX6_name_29 (by decide) ?_
    refine lv_bipush (v := 97) hx hb dX6_name_31 (by decide) ?_
    refine lv_bipush (v := 99) hx hb dX6_name_33 (by decide) ?_
    refine lv_bipush (v := 101) hx hb dX6_name_35 (by decide) ?_
    refine lv_iconst (v := 0) hx hb dX6_name_37 (by decide) ?_
    refine lv_iconst (v := 0) hx hb dX6_name_38 (by decide) ?_
    refine lv_iconst (v := 0) hx hb dX6_name_39 (by decide) ?_
    obtain ⟨r40, g40, hf⟩ := bd1_e hf
    refine qX6_180 g40 C X hl.1 ((Nat.le_of_ble_eq_true rfl)) ⟨(Nat.le_of_ble_eq_true rfl), (Nat.le_of_ble_eq_true rfl)⟩ ⟨Nat.zero_le _, Nat.zero_le _⟩ dX6_name_40 (fun H locs X b40 => ?_)
    refine lv_if_eq (tgt := 51) hx hb dX6_name_43 (by decide) (fun c43 => ?_) (fun c43 => ?_)
    · replace hf := ifp c43 hf
      refine lv_aload_n hx hb dX6_name_51 rfl (lv_at hl 0 rfl) ?_
      refine lv_bipush (v := 119) hx hb dX6_name_52 (by decide) ?_
      refine lv_bipush (v := 97) hx hb dX6_name_54 (by decide) ?_
      refine lv_bipush (v := 121) hx hb dX6_name_56 (by decide) ?_
      refine lv_iconst (v := 0) hx hb dX6_name_58 (by decide) ?_
      refine lv_iconst (v := 0) hx hb dX6_name_59 (by decide) ?_
      refine lv_iconst (v := 0) hx hb dX6_name_60 (by decide) ?_
      refine lv_iconst (v := 0) hx hb dX6_name_61 (by decide) ?_
      refine lv_iconst (v := 0) hx hb dX6_name_62 (by decide) ?_
      obtain ⟨r63, g63, hf⟩ := bd1_e hf
      refine qX6_180 g63 C X hl.1 ((Nat.le_of_ble_eq_true rfl)) ⟨(Nat.le_of_ble_eq_true rfl), (Nat.le_of_ble_eq_true rfl)⟩ ⟨Nat.zero_le _, Nat.zero_le _⟩ dX6_name_63 (fun H locs X b63 => ?_)
      refine lv_if_eq (tgt := 74) hx hb dX6_name_66 (by decide) (fun c66 => ?_) (fun c66 => ?_)
      · replace hf := ifp c66 hf
        refine lv_aload_n hx hb dX6_name_74 rfl (lv_at hl 0 rfl) ?_
        refine lv_bipush (v := 112) hx hb dX6_name_75 (by decide) ?_
        refine lv_bipush (v := 97) hx hb dX6_name_77 (by decide) ?_
        refine lv_bipush (v := 99) hx hb dX6_name_79 (by decide) ?_
        refine lv_bipush (v := 101) hx hb dX6_name_81 (by decide) ?_
        refine lv_iconst (v := 0) hx hb dX6_name_83 (by decide) ?_
        refine lv_iconst (v := 0) hx hb dX6_name_84 (by decide) ?_
        refine lv_iconst (v := 0) hx hb dX6_name_85 (by decide) ?_
        refine lv_iconst (v := 0) hx hb dX6_name_86 (by decide) ?_
        obtain ⟨r87, g87, hf⟩ := bd1_e hf
        refine qX6_180 g87 C X hl.1 ((Nat.le_of_ble_eq_true rfl)) ⟨(Nat.le_of_ble_eq_true rfl), (Nat.le_of_ble_eq_true rfl)⟩ ⟨Nat.zero_le _, Nat.zero_le _⟩ dX6_name_87 (fun H locs X b87 => ?_)
        refine lv_if_eq (tgt := 98) hx hb dX6_name_90 (by decide) (fun c90 => ?_) (fun c90 => ?_)
        · replace hf := ifp c90 hf
          refine lv_aload_n hx hb dX6_name_98 rfl (lv_at hl 0 rfl) ?_
          refine lv_bipush (v := 102) hx hb dX6_name_99 (by decide) ?_
          refine lv_bipush (v := 97) hx hb dX6_name_101 (by decide) ?_
          refine lv_bipush (v := 114) hx hb dX6_name_103 (by decide) ?_
          refine lv_iconst (v := 0) hx hb dX6_name_105 (by decide) ?_
          refine lv_iconst (v := 0) hx hb dX6_name_106 (by decide) ?_
          refine lv_iconst (v := 0) hx hb dX6_name_107 (by decide) ?_
          refine lv_iconst (v := 0) hx hb dX6_name_108 (by decide) ?_
          refine lv_iconst (v := 0) hx hb dX6_name_109 (by decide) ?_
          obtain ⟨r110, g110, hf⟩ := bd1_e hf
          refine qX6_180 g110 C X hl.1 ((Nat.le_of_ble_eq_true rfl)) ⟨(Nat.le_of_ble_eq_true rfl), (Nat.le_of_ble_eq_true rfl)⟩ ⟨Nat.zero_le _, Nat.zero_le _⟩ dX6_name_110 (fun H locs X b110 => ?_)
          refine lv_if_eq (tgt := 121) hx hb dX6_name_113 (by decide) (fun c113 => ?_) (fun c113 => ?_)
          · replace hf := ifp c113 hf
            refine lv_aload_n hx hb dX6_name_121 rfl (lv_at hl 0 rfl) ?_
            refine lv_bipush (v := 112) hx hb dX6_name_122 (by decide) ?_
            refine lv_bipush (v := 111) hx hb dX6_name_124 (by decide) ?_
            refine lv_bipush (v := 105) hx hb dX6_name_126 (by decide) ?_
            refine lv_bipush (v := 110) hx hb dX6_name_128 (by decide) ?_
            refine lv_bipush (v := 116) hx hb dX6_name_130 (by decide) ?_
            refine lv_bipush (v := 115) hx hb dX6_name_132 (by decide) ?_
            refine lv_iconst (v := 0) hx hb dX6_name_134 (by decide) ?_
            refine lv_iconst (v := 0) hx hb dX6_name_135 (by decide) ?_
            obtain ⟨r136, g136, hf⟩ := bd1_e hf
            refine qX6_180 g136 C X hl.1 ((Nat.le_of_ble_eq_true rfl)) ⟨(Nat.le_of_ble_eq_true rfl), (Nat.le_of_ble_eq_true rfl)⟩ ⟨Nat.zero_le _, Nat.zero_le _⟩ dX6_name_136 (fun H locs X b136 => ?_)
            refine lv_if_eq (tgt := 147) hx hb dX6_name_139 (by decide) (fun c139 => ?_) (fun c139 => ?_)
            · replace hf := ifp c139 hf
              refine lv_aload_n hx hb dX6_name_147 rfl (lv_at hl 0 rfl) ?_
              obtain ⟨μ148, ν148, g148, hf⟩ := pr2_e hf
              refine qX6_174 g148 C X hl.1 ((Nat.le_of_ble_eq_true rfl)) ⟨(Nat.le_of_ble_eq_true rfl), (Nat.le_of_ble_eq_true rfl)⟩ ⟨Nat.zero_le _, Nat.zero_le _⟩ dX6_name_148 (fun H locs X => ?_)
              refine lv_iconst (v := 0) hx hb dX6_name_151 (by decide) ?_
              exact retI C X hr rfl (so3 hf).1 (so3 hf).2.1 (so3 hf).2.2 dX6_name_152
            · replace hf := ifn c139 hf
              refine lv_aload_n hx hb dX6_name_142 rfl (lv_at hl 0 rfl) ?_
              refine gfX6_199 C X dX6_name_143 ?_
              exact retI C X hr rfl (so3 hf).1 (so3 hf).2.1 (so3 hf).2.2 dX6_name_146
          · replace hf := ifn c113 hf
            refine lv_aload_n hx hb dX6_name_116 rfl (lv_at hl 0 rfl) ?_
            refine gfX6_196 C X dX6_name_117 ?_
            exact retI C X hr rfl (so3 hf).1 (so3 hf).2.1 (so3 hf).2.2 dX6_name_120
        · replace hf := ifn c90 hf
          refine lv_aload_n hx hb dX6_name_93 rfl (lv_at hl 0 rfl) ?_
          refine gfX6_193 C X dX6_name_94 ?_
          exact retI C X hr rfl (so3 hf).1 (so3 hf).2.1 (so3 hf).2.2 dX6_name_97
      · replace hf := ifn c66 hf
        refine lv_aload_n hx hb dX6_name_69 rfl (lv_at hl 0 rfl) ?_
        refine gfX6_190 C X dX6_name_70 ?_
        exact retI C X hr rfl (so3 hf).1 (so3 hf).2.1 (so3 hf).2.2 dX6_name_73
    · replace hf := ifn c43 hf
      refine lv_aload_n hx hb dX6_name_46 rfl (lv_at hl 0 rfl) ?_
      refine gfX6_187 C X dX6_name_47 ?_
      exact retI C X hr rfl (so3 hf).1 (so3 hf).2.1 (so3 hf).2.2 dX6_name_50
  · replace hf := ifn c18 hf
    refine lv_aload_n hx hb dX6_name_21 rfl (lv_at hl 0 rfl) ?_
    refine gfX6_184 C X dX6_name_22 ?_
    exact retI C X hr rfl (so3 hf).1 (so3 hf).2.1 (so3 hf).2.2 dX6_name_25
theorem ct6_name {μ : Mem} {ν : Lem} {r : Int32} {μ1 : Mem} {ν1 : Lem} (hg : f6_name μ ν = some (r, μ1, ν1)) : CtI false yX6_name cX6_name 1 3 71 .int (fun ad => [.ref (ad 0)]) μ ν r μ1 ν1 :=
  mkI (by decide) rfl (fun ad => Nat.le_of_ble_eq_true rfl) (fun p l e s m args below meth c D cy ad C hr X ls hl => w6_name C hr μ ν hg _ _ X _ hl)
theorem qX6_209 {p : Program} {l : Launch} {e : Env} {R : Room} {s : State} {m : MethodId} {args : Array Value} {below : List Frame} {meth : Method} {c : Code} {H : Heap} {locs : List Loc} {cells slots : Nat} {Q : State → Prop} {A : Nat → Prop} {cc : ByteArray} {nL : Nat} {D : va_G} {cy : Nat → ClassId} {ad : Nat → Nat} {μ : Mem} {ν : Lem} {pc : Nat} {ls : Array Slot} {rest : List Value} {r : Int32} {μ1 : Mem} {ν1 : Lem} (hg : f6_name μ ν = some (r, μ1, ν1)) (C : CxA false A p s m args meth c cc nL RX6 D cy ad) (X : WdA false A D cy ad s.heap μ ν H locs) (hsz : ls.size = nL) (hrm : (rest.map fun v => v.category).sum ≤ 8) (hR : 3 + 1 ≤ R.frames ∧ 8 + (1 + 11) + 71 ≤ R.locals) (hcs : cells ≤ R.cells ∧ slots ≤ R.slots) (hd : decode cc pc = .ok (.invokevirtual 209, 3)) (kk : ∀ (H1 : Heap) (locs1 : List Loc), WdA false A D cy ad s.heap μ1 ν1 H1 locs1 → narrow .int (.int r) = .int r → W p l e R s m args below meth c H1 locs1 cells slots Q (F0 m (pc + 3) ls (.int r :: rest))) : W p l e R s m args below meth c H locs cells slots Q (F0 m pc ls (.ref (ad 0) :: rest)) :=
  rCVI (As := []) (k := 0) (ct6_name hg) ok6 lX6_name k_1049 rfl rfl rfl C X rfl hrm hsz hR hcs hd kk
set_option maxRecDepth 100000 in
set_option maxHeartbeats 4000000 in
theorem w6_atom5_2 {p : Program} {l : Launch} {e : Env} {s : State} {m : MethodId} {args : Array Value} {below : List Frame} {meth : Method} {c : Code} {D : va_G} {cy : Nat → ClassId} {ad : Nat → Nat} {r : Int32} {μ1 : Mem} {ν1 : Lem} (C : Cx false p s m args meth c cX6_atom5 2 RX6 D cy ad) (hr : meth.sig.returnType = some .int) : ∀ (μ : Mem) (ν : Lem) (x1 : Int32), f6_atom5_2 μ ν x1 = some (r, μ1, ν1) → ∀ (H : Heap) (locs : List Loc), Wd false D cy ad s.heap μ ν H locs → ∀ (ls : Array Slot), lv_has ls 2 [(0, .ref (ad 0)), (1, .int x1)] → WI false p l e 4 91 s m args below meth c D cy ad .int r μ1 ν1 H locs (F0 m 98 ls []) := by
  have hx := C.1.1
  have hb := C.1.2.1
  have hown := C.1.2.2.2.1
  have hts := C.1.2.2.2.2
  intro μ ν x1 hf H locs X ls hl
  unfold f6_atom5_2 at hf
  refine lv_aload_n hx hb dX6_atom5_98 rfl (lv_at hl 0 rfl) ?_
  obtain ⟨μ99, ν99, g99, hf⟩ := pr2_e hf
  refine qX6_174 g99 C X hl.1 ((Nat.le_of_ble_eq_true rfl)) ⟨(Nat.le_of_ble_eq_true rfl), (Nat.le_of_ble_eq_true rfl)⟩ ⟨Nat.zero_le _, Nat.zero_le _⟩ dX6_atom5_99 (fun H locs X => ?_)
  refine lv_iload_n hx hb dX6_atom5_102 rfl (lv_at hl 1 rfl) ?_
  exact retI C X hr rfl (so3 hf).1 (so3 hf).2.1 (so3 hf).2.2 dX6_atom5_103
set_option maxRecDepth 100000 in
set_option maxHeartbeats 4000000 in
theorem w6_atom5_1 {p : Program} {l : Launch} {e : Env} {s : State} {m : MethodId} {args : Array Value} {below : List Frame} {meth : Method} {c : Code} {D : va_G} {cy : Nat → ClassId} {ad : Nat → Nat} {r : Int32} {μ1 : Mem} {ν1 : Lem} (C : Cx false p s m args meth c cX6_atom5 2 RX6 D cy ad) (hr : meth.sig.returnType = some .int) : ∀ (μ : Mem) (ν : Lem) (x1 : Int32), f6_atom5_1 μ ν x1 = some (r, μ1, ν1) → ∀ (H : Heap) (locs : List Loc), Wd false D cy ad s.heap μ ν H locs → ∀ (ls : Array Slot), lv_has ls 2 [(0, .ref (ad 0)), (1, .int x1)] → WI false p l e 4 91 s m args below meth c D cy ad .int r μ1 ν1 H locs (F0 m 64 ls []) := by
  have hx := C.1.1
  have hb := C.1.2.1
  have hown := C.1.2.2.2.1
  have hts := C.1.2.2.2.2
  intro μ ν x1 hf H locs X ls hl
  unfold f6_atom5_1 at hf
  refine lv_aload_n hx hb dX6_atom5_64 rfl (lv_at hl 0 rfl) ?_
  refine gfX6_160 C X dX6_atom5_65 ?_
  refine lv_if_ne (tgt := 98) hx hb dX6_atom5_68 (by decide) (fun c68 => ?_) (fun c68 => ?_)
  · replace hf := ifn c68 hf
    exact w6_atom5_2 C hr  μ ν x1 hf _ _ X _ (lv_sub hl [0, 1] rfl)
  · replace hf := ifp c68 hf
    refine lv_aload_n hx hb dX6_atom5_71 rfl (lv_at hl 0 rfl) ?_
    refine gfX6_145 C X dX6_atom5_72 ?_
    refine lv_iconst (v := 1) hx hb dX6_atom5_75 (by decide) ?_
    refine lv_icmp_ne (tgt := 98) hx hb dX6_atom5_76 (by decide) (fun c76 => ?_) (fun c76 => ?_)
    · replace hf := ifn c76 hf
      exact w6_atom5_2 C hr  μ ν x1 hf _ _ X _ (lv_sub hl [0, 1] rfl)
    · replace hf := ifp c76 hf
      refine lv_aload_n hx hb dX6_atom5_79 rfl (lv_at hl 0 rfl) ?_
      obtain ⟨r80, μ80, ν80, g80, hf⟩ := bd3_e hf
      refine qX6_209 g80 C X hl.1 ((Nat.le_of_ble_eq_true rfl)) ⟨(Nat.le_of_ble_eq_true rfl), (Nat.le_of_ble_eq_true rfl)⟩ ⟨Nat.zero_le _, Nat.zero_le _⟩ dX6_atom5_80 (fun H locs X b80 => ?_)
      refine lv_istore_n (lv' := [(1, .int r80), (0, .ref (ad 0))]) hx hb dX6_atom5_83 rfl hl (by decide) rfl (fun ls hl => ?_)
      refine lv_aload_n hx hb dX6_atom5_84 rfl (lv_at hl 1 rfl) ?_
      refine gfX6_160 C X dX6_atom5_85 ?_
      refine lv_if_ne (tgt := 102) hx hb dX6_atom5_88 (by decide) (fun c88 => ?_) (fun c88 => ?_)
      · replace hf := ifn c88 hf
        refine lv_iload_n hx hb dX6_atom5_102 rfl (lv_at hl 0 rfl) ?_
        exact retI C X hr rfl (so3 hf).1 (so3 hf).2.1 (so3 hf).2.2 dX6_atom5_103
      · replace hf := ifp c88 hf
        refine lv_aload_n hx hb dX6_atom5_91 rfl (lv_at hl 1 rfl) ?_
        obtain ⟨μ92, ν92, g92, hf⟩ := bd2_e hf
        refine qX6_177 g92 C X hl.1 ((Nat.le_of_ble_eq_true rfl)) ⟨(Nat.le_of_ble_eq_true rfl), (Nat.le_of_ble_eq_true rfl)⟩ ⟨Nat.zero_le _, Nat.zero_le _⟩ dX6_atom5_92 (fun H locs X => ?_)
        refine lv_goto (tgt := 102) hx hb dX6_atom5_95 (by decide) ?_
        refine lv_iload_n hx hb dX6_atom5_102 rfl (lv_at hl 0 rfl) ?_
        exact retI C X hr rfl (so3 hf).1 (so3 hf).2.1 (so3 hf).2.2 dX6_atom5_103
set_option maxRecDepth 100000 in
set_option maxHeartbeats 4000000 in
theorem w6_atom5 {p : Program} {l : Launch} {e : Env} {s : State} {m : MethodId} {args : Array Value} {below : List Frame} {meth : Method} {c : Code} {D : va_G} {cy : Nat → ClassId} {ad : Nat → Nat} {r : Int32} {μ1 : Mem} {ν1 : Lem} (C : Cx false p s m args meth c cX6_atom5 2 RX6 D cy ad) (hr : meth.sig.returnType = some .int) : ∀ (μ : Mem) (ν : Lem), f6_atom5 μ ν = some (r, μ1, ν1) → ∀ (H : Heap) (locs : List Loc), Wd false D cy ad s.heap μ ν H locs → ∀ (ls : Array Slot), lv_has ls 2 [(0, .ref (ad 0))] → WI false p l e 4 91 s m args below meth c D cy ad .int r μ1 ν1 H locs (F0 m 0 ls []) := by
  have hx := C.1.1
  have hb := C.1.2.1
  have hown := C.1.2.2.2.1
  have hts := C.1.2.2.2.2
  intro μ ν hf H locs X ls hl
  unfold f6_atom5 at hf
  refine lv_iconst (v := 0) hx hb dX6_atom5_0 (by decide) ?_
  refine lv_istore_n (lv' := [(1, .int 0), (0, .ref (ad 0))]) hx hb dX6_atom5_1 rfl hl (by decide) rfl (fun ls hl => ?_)
  refine lv_aload_n hx hb dX6_atom5_2 rfl (lv_at hl 1 rfl) ?_
  refine lv_bipush (v := 45) hx hb dX6_atom5_3 (by decide) ?_
  refine qX6_202 rfl C X hl.1 ((Nat.le_of_ble_eq_true rfl)) ⟨(Nat.le_of_ble_eq_true rfl), (Nat.le_of_ble_eq_true rfl)⟩ ⟨Nat.zero_le _, Nat.zero_le _⟩ dX6_atom5_5 (fun H locs X b5 => ?_)
  refine lv_if_eq (tgt := 19) hx hb dX6_atom5_8 (by decide) (fun c8 => ?_) (fun c8 => ?_)
  · replace hf := ifp c8 hf
    refine lv_aload_n hx hb dX6_atom5_19 rfl (lv_at hl 1 rfl) ?_
    refine lv_bipush (v := 40) hx hb dX6_atom5_20 (by decide) ?_
    refine qX6_202 rfl C X hl.1 ((Nat.le_of_ble_eq_true rfl)) ⟨(Nat.le_of_ble_eq_true rfl), (Nat.le_of_ble_eq_true rfl)⟩ ⟨Nat.zero_le _, Nat.zero_le _⟩ dX6_atom5_22 (fun H locs X b22 => ?_)
    refine lv_if_eq (tgt := 36) hx hb dX6_atom5_25 (by decide) (fun c25 => ?_) (fun c25 => ?_)
    · replace hf := ifp c25 hf
      refine lv_aload_n hx hb dX6_atom5_36 rfl (lv_at hl 1 rfl) ?_
      refine gfX6_160 C X dX6_atom5_37 ?_
      refine lv_if_ne (tgt := 64) hx hb dX6_atom5_40 (by decide) (fun c40 => ?_) (fun c40 => ?_)
      · replace hf := ifn c40 hf
        exact w6_atom5_1 C hr  μ ν 0 hf _ _ X _ (lv_sub hl [1, 0] rfl)
      · replace hf := ifp c40 hf
        refine lv_aload_n hx hb dX6_atom5_43 rfl (lv_at hl 1 rfl) ?_
        refine gfX6_145 C X dX6_atom5_44 ?_
        refine lv_iconst (v := 2) hx hb dX6_atom5_47 (by decide) ?_
        refine lv_icmp_ne (tgt := 64) hx hb dX6_atom5_48 (by decide) (fun c48 => ?_) (fun c48 => ?_)
        · replace hf := ifn c48 hf
          exact w6_atom5_1 C hr  μ ν 0 hf _ _ X _ (lv_sub hl [1, 0] rfl)
        · replace hf := ifp c48 hf
          refine lv_aload_n hx hb dX6_atom5_51 rfl (lv_at hl 1 rfl) ?_
          refine gfX6_156 C X dX6_atom5_52 ?_
          refine lv_l2i hx hb dX6_atom5_55 rfl ?_
          obtain ⟨v56, e56, hf⟩ := nm_e2 hf
          refine st_i e56 ?_
          refine lv_istore_n (lv' := [(1, .int v56), (0, .ref (ad 0))]) hx hb dX6_atom5_56 rfl hl (by decide) rfl (fun ls hl => ?_)
          refine lv_aload_n hx hb dX6_atom5_57 rfl (lv_at hl 1 rfl) ?_
          obtain ⟨μ58, ν58, g58, hf⟩ := bd2_e hf
          refine qX6_177 g58 C X hl.1 ((Nat.le_of_ble_eq_true rfl)) ⟨(Nat.le_of_ble_eq_true rfl), (Nat.le_of_ble_eq_true rfl)⟩ ⟨Nat.zero_le _, Nat.zero_le _⟩ dX6_atom5_58 (fun H locs X => ?_)
          refine lv_goto (tgt := 102) hx hb dX6_atom5_61 (by decide) ?_
          refine lv_iload_n hx hb dX6_atom5_102 rfl (lv_at hl 0 rfl) ?_
          exact retI C X hr rfl (so3 hf).1 (so3 hf).2.1 (so3 hf).2.2 dX6_atom5_103
    · replace hf := ifn c25 hf
      refine lv_aload_n hx hb dX6_atom5_28 rfl (lv_at hl 1 rfl) ?_
      obtain ⟨r29, μ29, ν29, g29, hf⟩ := bd3_e hf
      refine qX6_205 g29 C X hl.1 ((Nat.le_of_ble_eq_true rfl)) ⟨(Nat.le_of_ble_eq_true rfl), (Nat.le_of_ble_eq_true rfl)⟩ ⟨Nat.zero_le _, Nat.zero_le _⟩ dX6_atom5_29 (fun H locs X b29 => ?_)
      refine lv_pop hx hb dX6_atom5_32 rfl ?_
      refine lv_goto (tgt := 102) hx hb dX6_atom5_33 (by decide) ?_
      refine lv_iload_n hx hb dX6_atom5_102 rfl (lv_at hl 0 rfl) ?_
      exact retI C X hr rfl (so3 hf).1 (so3 hf).2.1 (so3 hf).2.2 dX6_atom5_103
  · replace hf := ifn c8 hf
    refine lv_aload_n hx hb dX6_atom5_11 rfl (lv_at hl 1 rfl) ?_
    obtain ⟨r12, μ12, ν12, g12, hf⟩ := bd3_e hf
    refine qX6_205 g12 C X hl.1 ((Nat.le_of_ble_eq_true rfl)) ⟨(Nat.le_of_ble_eq_true rfl), (Nat.le_of_ble_eq_true rfl)⟩ ⟨Nat.zero_le _, Nat.zero_le _⟩ dX6_atom5_12 (fun H locs X b12 => ?_)
    refine lv_pop hx hb dX6_atom5_15 rfl ?_
    refine lv_goto (tgt := 102) hx hb dX6_atom5_16 (by decide) ?_
    refine lv_iload_n hx hb dX6_atom5_102 rfl (lv_at hl 0 rfl) ?_
    exact retI C X hr rfl (so3 hf).1 (so3 hf).2.1 (so3 hf).2.2 dX6_atom5_103
theorem ct6_atom5 {μ : Mem} {ν : Lem} {r : Int32} {μ1 : Mem} {ν1 : Lem} (hg : f6_atom5 μ ν = some (r, μ1, ν1)) : CtI false yX6_atom5 cX6_atom5 2 4 91 .int (fun ad => [.ref (ad 0)]) μ ν r μ1 ν1 :=
  mkI (by decide) rfl (fun ad => Nat.le_of_ble_eq_true rfl) (fun p l e s m args below meth c D cy ad C hr X ls hl => w6_atom5 C hr μ ν hg _ _ X _ hl)
theorem qX6_213 {p : Program} {l : Launch} {e : Env} {R : Room} {s : State} {m : MethodId} {args : Array Value} {below : List Frame} {meth : Method} {c : Code} {H : Heap} {locs : List Loc} {cells slots : Nat} {Q : State → Prop} {A : Nat → Prop} {cc : ByteArray} {nL : Nat} {D : va_G} {cy : Nat → ClassId} {ad : Nat → Nat} {μ : Mem} {ν : Lem} {pc : Nat} {ls : Array Slot} {rest : List Value} {r : Int32} {μ1 : Mem} {ν1 : Lem} (hg : f6_atom5 μ ν = some (r, μ1, ν1)) (C : CxA false A p s m args meth c cc nL RX6 D cy ad) (X : WdA false A D cy ad s.heap μ ν H locs) (hsz : ls.size = nL) (hrm : (rest.map fun v => v.category).sum ≤ 8) (hR : 4 + 1 ≤ R.frames ∧ 8 + (2 + 11) + 91 ≤ R.locals) (hcs : cells ≤ R.cells ∧ slots ≤ R.slots) (hd : decode cc pc = .ok (.invokevirtual 213, 3)) (kk : ∀ (H1 : Heap) (locs1 : List Loc), WdA false A D cy ad s.heap μ1 ν1 H1 locs1 → narrow .int (.int r) = .int r → W p l e R s m args below meth c H1 locs1 cells slots Q (F0 m (pc + 3) ls (.int r :: rest))) : W p l e R s m args below meth c H locs cells slots Q (F0 m pc ls (.ref (ad 0) :: rest)) :=
  rCVI (As := []) (k := 0) (ct6_atom5 hg) ok6 lX6_atom5 k_1041 rfl rfl rfl C X rfl hrm hsz hR hcs hd kk
set_option maxRecDepth 100000 in
set_option maxHeartbeats 4000000 in
theorem w6_term5_1 {p : Program} {l : Launch} {e : Env} {s : State} {m : MethodId} {args : Array Value} {below : List Frame} {meth : Method} {c : Code} {D : va_G} {cy : Nat → ClassId} {ad : Nat → Nat} {r : Int32} {μ1 : Mem} {ν1 : Lem} (C : Cx false p s m args meth c cX6_term5 2 RX6 D cy ad) (hr : meth.sig.returnType = some .int) : ∀ (n : Nat), ∀ (μ : Mem) (ν : Lem) (x1 : Int32), f6_term5_1 n μ ν x1 = some (r, μ1, ν1) → ∀ (H : Heap) (locs : List Loc), Wd false D cy ad s.heap μ ν H locs → ∀ (ls : Array Slot), lv_has ls 2 [(0, .ref (ad 0)), (1, .int x1)] → WI false p l e 5 112 s m args below meth c D cy ad .int r μ1 ν1 H locs (F0 m 5 ls []) := by
  have hx := C.1.1
  have hb := C.1.2.1
  have hown := C.1.2.2.2.1
  have hts := C.1.2.2.2.2
  intro n
  induction n with
  | zero =>
    intro μ ν x1 hf H locs X ls hl
    rw [f6_term5_1] at hf
    cases hf
  | succ n ih =>
    intro μ ν x1 hf H locs X ls hl
    rw [f6_term5_1] at hf
    refine lv_aload_n hx hb dX6_term5_5 rfl (lv_at hl 0 rfl) ?_
    refine lv_bipush (v := 42) hx hb dX6_term5_6 (by decide) ?_
    refine qX6_202 rfl C X hl.1 ((Nat.le_of_ble_eq_true rfl)) ⟨(Nat.le_of_ble_eq_true rfl), (Nat.le_of_ble_eq_true rfl)⟩ ⟨Nat.zero_le _, Nat.zero_le _⟩ dX6_term5_8 (fun H locs X b8 => ?_)
    refine lv_if_eq (tgt := 28) hx hb dX6_term5_11 (by decide) (fun c11 => ?_) (fun c11 => ?_)
    · replace hf := ifp c11 hf
      refine lv_iload_n hx hb dX6_term5_28 rfl (lv_at hl 1 rfl) ?_
      exact retI C X hr rfl (so3 hf).1 (so3 hf).2.1 (so3 hf).2.2 dX6_term5_29
    · replace hf := ifn c11 hf
      refine lv_aload_n hx hb dX6_term5_14 rfl (lv_at hl 0 rfl) ?_
      obtain ⟨μ15, ν15, g15, hf⟩ := bd2_e hf
      refine qX6_177 g15 C X hl.1 ((Nat.le_of_ble_eq_true rfl)) ⟨(Nat.le_of_ble_eq_true rfl), (Nat.le_of_ble_eq_true rfl)⟩ ⟨Nat.zero_le _, Nat.zero_le _⟩ dX6_term5_15 (fun H locs X => ?_)
      refine lv_iload_n hx hb dX6_term5_18 rfl (lv_at hl 1 rfl) ?_
      refine lv_aload_n hx hb dX6_term5_19 rfl (lv_at hl 0 rfl) ?_
      obtain ⟨r20, μ20, ν20, g20, hf⟩ := bd3_e hf
      refine qX6_213 g20 C X hl.1 ((Nat.le_of_ble_eq_true rfl)) ⟨(Nat.le_of_ble_eq_true rfl), (Nat.le_of_ble_eq_true rfl)⟩ ⟨Nat.zero_le _, Nat.zero_le _⟩ dX6_term5_20 (fun H locs X b20 => ?_)
      refine lv_imul hx hb dX6_term5_23 ?_
      obtain ⟨v24, e24, hf⟩ := nm_e2 hf
      refine st_i e24 ?_
      refine lv_istore_n (lv' := [(1, .int v24), (0, .ref (ad 0))]) hx hb dX6_term5_24 rfl hl (by decide) rfl (fun ls hl => ?_)
      refine lv_goto (tgt := 5) hx hb dX6_term5_25 (by decide) ?_
      exact ih μ20 ν20 v24 hf _ _ X _ (lv_sub hl [1, 0] rfl)
set_option maxRecDepth 100000 in
set_option maxHeartbeats 4000000 in
theorem w6_term5 {p : Program} {l : Launch} {e : Env} {s : State} {m : MethodId} {args : Array Value} {below : List Frame} {meth : Method} {c : Code} {D : va_G} {cy : Nat → ClassId} {ad : Nat → Nat} {r : Int32} {μ1 : Mem} {ν1 : Lem} (C : Cx false p s m args meth c cX6_term5 2 RX6 D cy ad) (hr : meth.sig.returnType = some .int) : ∀ (μ : Mem) (ν : Lem), f6_term5 μ ν = some (r, μ1, ν1) → ∀ (H : Heap) (locs : List Loc), Wd false D cy ad s.heap μ ν H locs → ∀ (ls : Array Slot), lv_has ls 2 [(0, .ref (ad 0))] → WI false p l e 5 112 s m args below meth c D cy ad .int r μ1 ν1 H locs (F0 m 0 ls []) := by
  have hx := C.1.1
  have hb := C.1.2.1
  have hown := C.1.2.2.2.1
  have hts := C.1.2.2.2.2
  intro μ ν hf H locs X ls hl
  unfold f6_term5 at hf
  refine lv_aload_n hx hb dX6_term5_0 rfl (lv_at hl 0 rfl) ?_
  obtain ⟨r1, μ1, ν1, g1, hf⟩ := bd3_e hf
  refine qX6_213 g1 C X hl.1 ((Nat.le_of_ble_eq_true rfl)) ⟨(Nat.le_of_ble_eq_true rfl), (Nat.le_of_ble_eq_true rfl)⟩ ⟨Nat.zero_le _, Nat.zero_le _⟩ dX6_term5_1 (fun H locs X b1 => ?_)
  refine lv_istore_n (lv' := [(1, .int r1), (0, .ref (ad 0))]) hx hb dX6_term5_4 rfl hl (by decide) rfl (fun ls hl => ?_)
  exact w6_term5_1 C hr  FUEL μ1 ν1 r1 hf _ _ X _ (lv_sub hl [1, 0] rfl)
theorem ct6_term5 {μ : Mem} {ν : Lem} {r : Int32} {μ1 : Mem} {ν1 : Lem} (hg : f6_term5 μ ν = some (r, μ1, ν1)) : CtI false yX6_term5 cX6_term5 2 5 112 .int (fun ad => [.ref (ad 0)]) μ ν r μ1 ν1 :=
  mkI (by decide) rfl (fun ad => Nat.le_of_ble_eq_true rfl) (fun p l e s m args below meth c D cy ad C hr X ls hl => w6_term5 C hr μ ν hg _ _ X _ hl)
theorem qX6_216 {p : Program} {l : Launch} {e : Env} {R : Room} {s : State} {m : MethodId} {args : Array Value} {below : List Frame} {meth : Method} {c : Code} {H : Heap} {locs : List Loc} {cells slots : Nat} {Q : State → Prop} {A : Nat → Prop} {cc : ByteArray} {nL : Nat} {D : va_G} {cy : Nat → ClassId} {ad : Nat → Nat} {μ : Mem} {ν : Lem} {pc : Nat} {ls : Array Slot} {rest : List Value} {r : Int32} {μ1 : Mem} {ν1 : Lem} (hg : f6_term5 μ ν = some (r, μ1, ν1)) (C : CxA false A p s m args meth c cc nL RX6 D cy ad) (X : WdA false A D cy ad s.heap μ ν H locs) (hsz : ls.size = nL) (hrm : (rest.map fun v => v.category).sum ≤ 8) (hR : 5 + 1 ≤ R.frames ∧ 8 + (2 + 11) + 112 ≤ R.locals) (hcs : cells ≤ R.cells ∧ slots ≤ R.slots) (hd : decode cc pc = .ok (.invokevirtual 216, 3)) (kk : ∀ (H1 : Heap) (locs1 : List Loc), WdA false A D cy ad s.heap μ1 ν1 H1 locs1 → narrow .int (.int r) = .int r → W p l e R s m args below meth c H1 locs1 cells slots Q (F0 m (pc + 3) ls (.int r :: rest))) : W p l e R s m args below meth c H locs cells slots Q (F0 m pc ls (.ref (ad 0) :: rest)) :=
  rCVI (As := []) (k := 0) (ct6_term5 hg) ok6 lX6_term5 k_1037 rfl rfl rfl C X rfl hrm hsz hR hcs hd kk
set_option maxRecDepth 100000 in
set_option maxHeartbeats 4000000 in
theorem w6_added5_3 {p : Program} {l : Launch} {e : Env} {s : State} {m : MethodId} {args : Array Value} {below : List Frame} {meth : Method} {c : Code} {D : va_G} {cy : Nat → ClassId} {ad : Nat → Nat} {r : Int32} {μ1 : Mem} {ν1 : Lem} (C : Cx false p s m args meth c cX6_added5 4 RX6 D cy ad) (hr : meth.sig.returnType = some .int) (K5 : Mem → Lem → Int32 → Option (Int32 × Mem × Lem)) (hK5 : ∀ (μ : Mem) (ν : Lem) (x1 : Int32), K5 μ ν x1 = some (r, μ1, ν1) → ∀ (H : Heap) (locs : List Loc), Wd false D cy ad s.heap μ ν H locs → ∀ (ls : Array Slot), lv_has ls 4 [(0, .ref (ad 0)), (1, .int x1)] → WI false p l e 6 133 s m args below meth c D cy ad .int r μ1 ν1 H locs (F0 m 5 ls [])) : ∀ (μ : Mem) (ν : Lem) (x1 : Int32) (t0 : Int32), f6_added5_3 K5 μ ν x1 t0 = some (r, μ1, ν1) → ∀ (H : Heap) (locs : List Loc), Wd false D cy ad s.heap μ ν H locs → ∀ (ls : Array Slot), lv_has ls 4 [(0, .ref (ad 0)), (1, .int x1)] → WI false p l e 6 133 s m args below meth c D cy ad .int r μ1 ν1 H locs (F0 m 39 ls [.int t0]) := by
  have hx := C.1.1
  have hb := C.1.2.1
  have hown := C.1.2.2.2.1
  have hts := C.1.2.2.2.2
  intro μ ν x1 t0 hf H locs X ls hl
  unfold f6_added5_3 at hf
  refine lv_istore_n (lv' := [(2, .int t0), (0, .ref (ad 0)), (1, .int x1)]) hx hb dX6_added5_39 rfl hl (by decide) rfl (fun ls hl => ?_)
  refine lv_aload_n hx hb dX6_added5_40 rfl (lv_at hl 1 rfl) ?_
  obtain ⟨μ41, ν41, g41, hf⟩ := bd2_e hf
  refine qX6_177 g41 C X hl.1 ((Nat.le_of_ble_eq_true rfl)) ⟨(Nat.le_of_ble_eq_true rfl), (Nat.le_of_ble_eq_true rfl)⟩ ⟨Nat.zero_le _, Nat.zero_le _⟩ dX6_added5_41 (fun H locs X => ?_)
  refine lv_aload_n hx hb dX6_added5_44 rfl (lv_at hl 1 rfl) ?_
  obtain ⟨r45, μ45, ν45, g45, hf⟩ := bd3_e hf
  refine qX6_216 g45 C X hl.1 ((Nat.le_of_ble_eq_true rfl)) ⟨(Nat.le_of_ble_eq_true rfl), (Nat.le_of_ble_eq_true rfl)⟩ ⟨Nat.zero_le _, Nat.zero_le _⟩ dX6_added5_45 (fun H locs X b45 => ?_)
  refine lv_istore_n (lv' := [(3, .int r45), (2, .int t0), (0, .ref (ad 0)), (1, .int x1)]) hx hb dX6_added5_48 rfl hl (by decide) rfl (fun ls hl => ?_)
  refine lv_iload_n hx hb dX6_added5_49 rfl (lv_at hl 1 rfl) ?_
  refine lv_if_eq (tgt := 59) hx hb dX6_added5_50 (by decide) (fun c50 => ?_) (fun c50 => ?_)
  · replace hf := ifp c50 hf
    refine lv_iload_n hx hb dX6_added5_59 rfl (lv_at hl 3 rfl) ?_
    refine lv_iload_n hx hb dX6_added5_60 rfl (lv_at hl 0 rfl) ?_
    refine lv_isub hx hb dX6_added5_61 ?_
    obtain ⟨v62, e62, hf⟩ := nm_e2 hf
    refine st_i e62 ?_
    refine lv_istore_n (lv' := [(1, .int v62), (3, .int r45), (2, .int t0), (0, .ref (ad 0))]) hx hb dX6_added5_62 rfl hl (by decide) rfl (fun ls hl => ?_)
    refine lv_goto (tgt := 5) hx hb dX6_added5_63 (by decide) ?_
    exact hK5 μ45 ν45 v62 hf _ _ X _ (lv_sub hl [3, 0] rfl)
  · replace hf := ifn c50 hf
    refine lv_iload_n hx hb dX6_added5_53 rfl (lv_at hl 3 rfl) ?_
    refine lv_iload_n hx hb dX6_added5_54 rfl (lv_at hl 0 rfl) ?_
    refine lv_iadd hx hb dX6_added5_55 ?_
    refine lv_goto (tgt := 62) hx hb dX6_added5_56 (by decide) ?_
    obtain ⟨v62, e62, hf⟩ := nm_e2 hf
    refine st_i e62 ?_
    refine lv_istore_n (lv' := [(1, .int v62), (3, .int r45), (2, .int t0), (0, .ref (ad 0))]) hx hb dX6_added5_62 rfl hl (by decide) rfl (fun ls hl => ?_)
    refine lv_goto (tgt := 5) hx hb dX6_added5_63 (by decide) ?_
    exact hK5 μ45 ν45 v62 hf _ _ X _ (lv_sub hl [3, 0] rfl)
set_option maxRecDepth 100000 in
set_option maxHeartbeats 4000000 in
theorem w6_added5_2 {p : Program} {l : Launch} {e : Env} {s : State} {m : MethodId} {args : Array Value} {below : List Frame} {meth : Method} {c : Code} {D : va_G} {cy : Nat → ClassId} {ad : Nat → Nat} {r : Int32} {μ1 : Mem} {ν1 : Lem} (C : Cx false p s m args meth c cX6_added5 4 RX6 D cy ad) (hr : meth.sig.returnType = some .int) (K5 : Mem → Lem → Int32 → Option (Int32 × Mem × Lem)) (hK5 : ∀ (μ : Mem) (ν : Lem) (x1 : Int32), K5 μ ν x1 = some (r, μ1, ν1) → ∀ (H : Heap) (locs : List Loc), Wd false D cy ad s.heap μ ν H locs → ∀ (ls : Array Slot), lv_has ls 4 [(0, .ref (ad 0)), (1, .int x1)] → WI false p l e 6 133 s m args below meth c D cy ad .int r μ1 ν1 H locs (F0 m 5 ls [])) : ∀ (μ : Mem) (ν : Lem) (x1 : Int32), f6_added5_2 K5 μ ν x1 = some (r, μ1, ν1) → ∀ (H : Heap) (locs : List Loc), Wd false D cy ad s.heap μ ν H locs → ∀ (ls : Array Slot), lv_has ls 4 [(0, .ref (ad 0)), (1, .int x1)] → WI false p l e 6 133 s m args below meth c D cy ad .int r μ1 ν1 H locs (F0 m 23 ls []) := by
  have hx := C.1.1
  have hb := C.1.2.1
  have hown := C.1.2.2.2.1
  have hts := C.1.2.2.2.2
  intro μ ν x1 hf H locs X ls hl
  unfold f6_added5_2 at hf
  refine lv_aload_n hx hb dX6_added5_23 rfl (lv_at hl 0 rfl) ?_
  refine gfX6_156 C X dX6_added5_24 ?_
  refine lv_ldc2 (v := (43)) hx hb hown (hts _ k_1053) dX6_added5_27 ?_
  refine W.lcmp hx hb dX6_added5_30 ?_
  refine lv_if_ne (tgt := 38) hx hb dX6_added5_31 (by decide) (fun c31 => ?_) (fun c31 => ?_)
  · replace hf := ifn c31 hf
    refine lv_iconst (v := 0) hx hb dX6_added5_38 (by decide) ?_
    exact w6_added5_3 C hr K5 hK5 μ ν x1 0 hf _ _ X _ (lv_sub hl [0, 1] rfl)
  · replace hf := ifp c31 hf
    refine lv_iconst (v := 1) hx hb dX6_added5_34 (by decide) ?_
    refine lv_goto (tgt := 39) hx hb dX6_added5_35 (by decide) ?_
    exact w6_added5_3 C hr K5 hK5 μ ν x1 1 hf _ _ X _ (lv_sub hl [0, 1] rfl)
set_option maxRecDepth 100000 in
set_option maxHeartbeats 4000000 in
theorem w6_added5_1 {p : Program} {l : Launch} {e : Env} {s : State} {m : MethodId} {args : Array Value} {below : List Frame} {meth : Method} {c : Code} {D : va_G} {cy : Nat → ClassId} {ad : Nat → Nat} {r : Int32} {μ1 : Mem} {ν1 : Lem} (C : Cx false p s m args meth c cX6_added5 4 RX6 D cy ad) (hr : meth.sig.returnType = some .int) : ∀ (n : Nat), ∀ (μ : Mem) (ν : Lem) (x1 : Int32), f6_added5_1 n μ ν x1 = some (r, μ1, ν1) → ∀ (H : Heap) (locs : List Loc), Wd false D cy ad s.heap μ ν H locs → ∀ (ls : Array Slot), lv_has ls 4 [(0, .ref (ad 0)), (1, .int x1)] → WI false p l e 6 133 s m args below meth c D cy ad .int r μ1 ν1 H locs (F0 m 5 ls []) := by
  have hx := C.1.1
  have hb := C.1.2.1
  have hown := C.1.2.2.2.1
  have hts := C.1.2.2.2.2
  intro n
  induction n with
  | zero =>
    intro μ ν x1 hf H locs X ls hl
    rw [f6_added5_1] at hf
    cases hf
  | succ n ih =>
    intro μ ν x1 hf H locs X ls hl
    rw [f6_added5_1] at hf
    refine lv_aload_n hx hb dX6_added5_5 rfl (lv_at hl 0 rfl) ?_
    refine lv_bipush (v := 43) hx hb dX6_added5_6 (by decide) ?_
    refine qX6_202 rfl C X hl.1 ((Nat.le_of_ble_eq_true rfl)) ⟨(Nat.le_of_ble_eq_true rfl), (Nat.le_of_ble_eq_true rfl)⟩ ⟨Nat.zero_le _, Nat.zero_le _⟩ dX6_added5_8 (fun H locs X b8 => ?_)
    refine lv_if_ne (tgt := 23) hx hb dX6_added5_11 (by decide) (fun c11 => ?_) (fun c11 => ?_)
    · replace hf := ifn c11 hf
      exact w6_added5_2 C hr (f6_added5_1 n) ih μ ν x1 hf _ _ X _ (lv_sub hl [0, 1] rfl)
    · replace hf := ifp c11 hf
      refine lv_aload_n hx hb dX6_added5_14 rfl (lv_at hl 0 rfl) ?_
      refine lv_bipush (v := 45) hx hb dX6_added5_15 (by decide) ?_
      refine qX6_202 rfl C X hl.1 ((Nat.le_of_ble_eq_true rfl)) ⟨(Nat.le_of_ble_eq_true rfl), (Nat.le_of_ble_eq_true rfl)⟩ ⟨Nat.zero_le _, Nat.zero_le _⟩ dX6_added5_17 (fun H locs X b17 => ?_)
      refine lv_if_eq (tgt := 66) hx hb dX6_added5_20 (by decide) (fun c20 => ?_) (fun c20 => ?_)
      · replace hf := ifp c20 hf
        refine lv_iload_n hx hb dX6_added5_66 rfl (lv_at hl 1 rfl) ?_
        exact retI C X hr rfl (so3 hf).1 (so3 hf).2.1 (so3 hf).2.2 dX6_added5_67
      · replace hf := ifn c20 hf
        exact w6_added5_2 C hr (f6_added5_1 n) ih μ ν x1 hf _ _ X _ (lv_sub hl [0, 1] rfl)
set_option maxRecDepth 100000 in
set_option maxHeartbeats 4000000 in
theorem w6_added5 {p : Program} {l : Launch} {e : Env} {s : State} {m : MethodId} {args : Array Value} {below : List Frame} {meth : Method} {c : Code} {D : va_G} {cy : Nat → ClassId} {ad : Nat → Nat} {r : Int32} {μ1 : Mem} {ν1 : Lem} (C : Cx false p s m args meth c cX6_added5 4 RX6 D cy ad) (hr : meth.sig.returnType = some .int) : ∀ (μ : Mem) (ν : Lem), f6_added5 μ ν = some (r, μ1, ν1) → ∀ (H : Heap) (locs : List Loc), Wd false D cy ad s.heap μ ν H locs → ∀ (ls : Array Slot), lv_has ls 4 [(0, .ref (ad 0))] → WI false p l e 6 133 s m args below meth c D cy ad .int r μ1 ν1 H locs (F0 m 0 ls []) := by
  have hx := C.1.1
  have hb := C.1.2.1
  have hown := C.1.2.2.2.1
  have hts := C.1.2.2.2.2
  intro μ ν hf H locs X ls hl
  unfold f6_added5 at hf
  refine lv_aload_n hx hb dX6_added5_0 rfl (lv_at hl 0 rfl) ?_
  obtain ⟨r1, μ1, ν1, g1, hf⟩ := bd3_e hf
  refine qX6_216 g1 C X hl.1 ((Nat.le_of_ble_eq_true rfl)) ⟨(Nat.le_of_ble_eq_true rfl), (Nat.le_of_ble_eq_true rfl)⟩ ⟨Nat.zero_le _, Nat.zero_le _⟩ dX6_added5_1 (fun H locs X b1 => ?_)
  refine lv_istore_n (lv' := [(1, .int r1), (0, .ref (ad 0))]) hx hb dX6_added5_4 rfl hl (by decide) rfl (fun ls hl => ?_)
  exact w6_added5_1 C hr  FUEL μ1 ν1 r1 hf _ _ X _ (lv_sub hl [1, 0] rfl)
theorem ct6_added5 {μ : Mem} {ν : Lem} {r : Int32} {μ1 : Mem} {ν1 : Lem} (hg : f6_added5 μ ν = some (r, μ1, ν1)) : CtI false yX6_added5 cX6_added5 4 6 133 .int (fun ad => [.ref (ad 0)]) μ ν r μ1 ν1 :=
  mkI (by decide) rfl (fun ad => Nat.le_of_ble_eq_true rfl) (fun p l e s m args below meth c D cy ad C hr X ls hl => w6_added5 C hr μ ν hg _ _ X _ hl)
theorem qX6_221 {p : Program} {l : Launch} {e : Env} {R : Room} {s : State} {m : MethodId} {args : Array Value} {below : List Frame} {meth : Method} {c : Code} {H : Heap} {locs : List Loc} {cells slots : Nat} {Q : State → Prop} {A : Nat → Prop} {cc : ByteArray} {nL : Nat} {D : va_G} {cy : Nat → ClassId} {ad : Nat → Nat} {μ : Mem} {ν : Lem} {pc : Nat} {ls : Array Slot} {rest : List Value} {r : Int32} {μ1 : Mem} {ν1 : Lem} (hg : f6_added5 μ ν = some (r, μ1, ν1)) (C : CxA false A p s m args meth c cc nL RX6 D cy ad) (X : WdA false A D cy ad s.heap μ ν H locs) (hsz : ls.size = nL) (hrm : (rest.map fun v => v.category).sum ≤ 8) (hR : 6 + 1 ≤ R.frames ∧ 8 + (4 + 11) + 133 ≤ R.locals) (hcs : cells ≤ R.cells ∧ slots ≤ R.slots) (hd : decode cc pc = .ok (.invokevirtual 221, 3)) (kk : ∀ (H1 : Heap) (locs1 : List Loc), WdA false A D cy ad s.heap μ1 ν1 H1 locs1 → narrow .int (.int r) = .int r → W p l e R s m args below meth c H1 locs1 cells slots Q (F0 m (pc + 3) ls (.int r :: rest))) : W p l e R s m args below meth c H locs cells slots Q (F0 m pc ls (.ref (ad 0) :: rest)) :=
  rCVI (As := []) (k := 0) (ct6_added5 hg) ok6 lX6_added5 k_1033 rfl rfl rfl C X rfl hrm hsz hR hcs hd kk
set_option maxRecDepth 100000 in
set_option maxHeartbeats 4000000 in
theorem w6_not5_2 {p : Program} {l : Launch} {e : Env} {s : State} {m : MethodId} {args : Array Value} {below : List Frame} {meth : Method} {c : Code} {D : va_G} {cy : Nat → ClassId} {ad : Nat → Nat} {r : Int32} {μ1 : Mem} {ν1 : Lem} (C : Cx false p s m args meth c cX6_not5 4 RX6 D cy ad) (hr : meth.sig.returnType = some .int) : ∀ (μ : Mem) (ν : Lem) (x1 : Int32) (t0 : Int32), f6_not5_2 μ ν x1 t0 = some (r, μ1, ν1) → ∀ (H : Heap) (locs : List Loc), Wd false D cy ad s.heap μ ν H locs → ∀ (ls : Array Slot), lv_has ls 4 [(0, .ref (ad 0)), (1, .int x1)] → WI false p l e 7 156 s m args below meth c D cy ad .int r μ1 ν1 H locs (F0 m 66 ls [.int t0]) := by
  have hx := C.1.1
  have hb := C.1.2.1
  have hown := C.1.2.2.2.1
  have hts := C.1.2.2.2.2
  intro μ ν x1 t0 hf H locs X ls hl
  unfold f6_not5_2 at hf
  refine lv_istore_n (lv' := [(2, .int t0), (0, .ref (ad 0)), (1, .int x1)]) hx hb dX6_not5_66 rfl hl (by decide) rfl (fun ls hl => ?_)
  refine lv_aload_n hx hb dX6_not5_67 rfl (lv_at hl 1 rfl) ?_
  obtain ⟨μ68, ν68, g68, hf⟩ := bd2_e hf
  refine qX6_177 g68 C X hl.1 ((Nat.le_of_ble_eq_true rfl)) ⟨(Nat.le_of_ble_eq_true rfl), (Nat.le_of_ble_eq_true rfl)⟩ ⟨Nat.zero_le _, Nat.zero_le _⟩ dX6_not5_68 (fun H locs X => ?_)
  refine lv_aload_n hx hb dX6_not5_71 rfl (lv_at hl 1 rfl) ?_
  obtain ⟨r72, μ72, ν72, g72, hf⟩ := bd3_e hf
  refine qX6_221 g72 C X hl.1 ((Nat.le_of_ble_eq_true rfl)) ⟨(Nat.le_of_ble_eq_true rfl), (Nat.le_of_ble_eq_true rfl)⟩ ⟨Nat.zero_le _, Nat.zero_le _⟩ dX6_not5_72 (fun H locs X b72 => ?_)
  refine lv_istore_n (lv' := [(3, .int r72), (2, .int t0), (0, .ref (ad 0)), (1, .int x1)]) hx hb dX6_not5_75 rfl hl (by decide) rfl (fun ls hl => ?_)
  refine lv_iload_n hx hb dX6_not5_76 rfl (lv_at hl 1 rfl) ?_
  refine lv_if_eq (tgt := 88) hx hb dX6_not5_77 (by decide) (fun c77 => ?_) (fun c77 => ?_)
  · replace hf := ifp c77 hf
    refine lv_iload_n hx hb dX6_not5_88 rfl (lv_at hl 3 rfl) ?_
    refine lv_iload_n hx hb dX6_not5_89 rfl (lv_at hl 0 rfl) ?_
    refine lv_icmp_ne (tgt := 97) hx hb dX6_not5_90 (by decide) (fun c90 => ?_) (fun c90 => ?_)
    · replace hf := ifn c90 hf
      refine lv_iconst (v := 0) hx hb dX6_not5_97 (by decide) ?_
      exact retI C X hr rfl (so3 hf).1 (so3 hf).2.1 (so3 hf).2.2 dX6_not5_98
    · replace hf := ifp c90 hf
      refine lv_iconst (v := 1) hx hb dX6_not5_93 (by decide) ?_
      refine lv_goto (tgt := 98) hx hb dX6_not5_94 (by decide) ?_
      exact retI C X hr rfl (so3 hf).1 (so3 hf).2.1 (so3 hf).2.2 dX6_not5_98
  · replace hf := ifn c77 hf
    refine lv_iload_n hx hb dX6_not5_80 rfl (lv_at hl 3 rfl) ?_
    refine lv_iload_n hx hb dX6_not5_81 rfl (lv_at hl 0 rfl) ?_
    refine lv_icmp_ge (tgt := 97) hx hb dX6_not5_82 (by decide) (fun c82 => ?_) (fun c82 => ?_)
    · replace hf := ifp c82 hf
      refine lv_iconst (v := 0) hx hb dX6_not5_97 (by decide) ?_
      exact retI C X hr rfl (so3 hf).1 (so3 hf).2.1 (so3 hf).2.2 dX6_not5_98
    · replace hf := ifn c82 hf
      refine lv_goto (tgt := 93) hx hb dX6_not5_85 (by decide) ?_
      refine lv_iconst (v := 1) hx hb dX6_not5_93 (by decide) ?_
      refine lv_goto (tgt := 98) hx hb dX6_not5_94 (by decide) ?_
      exact retI C X hr rfl (so3 hf).1 (so3 hf).2.1 (so3 hf).2.2 dX6_not5_98
set_option maxRecDepth 100000 in
set_option maxHeartbeats 4000000 in
theorem w6_not5_1 {p : Program} {l : Launch} {e : Env} {s : State} {m : MethodId} {args : Array Value} {below : List Frame} {meth : Method} {c : Code} {D : va_G} {cy : Nat → ClassId} {ad : Nat → Nat} {r : Int32} {μ1 : Mem} {ν1 : Lem} (C : Cx false p s m args meth c cX6_not5 4 RX6 D cy ad) (hr : meth.sig.returnType = some .int) : ∀ (μ : Mem) (ν : Lem) (x1 : Int32), f6_not5_1 μ ν x1 = some (r, μ1, ν1) → ∀ (H : Heap) (locs : List Loc), Wd false D cy ad s.heap μ ν H locs → ∀ (ls : Array Slot), lv_has ls 4 [(0, .ref (ad 0)), (1, .int x1)] → WI false p l e 7 156 s m args below meth c D cy ad .int r μ1 ν1 H locs (F0 m 50 ls []) := by
  have hx := C.1.1
  have hb := C.1.2.1
  have hown := C.1.2.2.2.1
  have hts := C.1.2.2.2.2
  intro μ ν x1 hf H locs X ls hl
  unfold f6_not5_1 at hf
  refine lv_aload_n hx hb dX6_not5_50 rfl (lv_at hl 0 rfl) ?_
  refine gfX6_156 C X dX6_not5_51 ?_
  refine lv_ldc2 (v := (60)) hx hb hown (hts _ k_1054) dX6_not5_54 ?_
  refine W.lcmp hx hb dX6_not5_57 ?_
  refine lv_if_ne (tgt := 65) hx hb dX6_not5_58 (by decide) (fun c58 => ?_) (fun c58 => ?_)
  · replace hf := ifn c58 hf
    refine lv_iconst (v := 0) hx hb dX6_not5_65 (by decide) ?_
    exact w6_not5_2 C hr  μ ν x1 0 hf _ _ X _ (lv_sub hl [0, 1] rfl)
  · replace hf := ifp c58 hf
    refine lv_iconst (v := 1) hx hb dX6_not5_61 (by decide) ?_
    refine lv_goto (tgt := 66) hx hb dX6_not5_62 (by decide) ?_
    exact w6_not5_2 C hr  μ ν x1 1 hf _ _ X _ (lv_sub hl [0, 1] rfl)
set_option maxRecDepth 100000 in
set_option maxHeartbeats 4000000 in
theorem w6_not5 {p : Program} {l : Launch} {e : Env} {s : State} {m : MethodId} {args : Array Value} {below : List Frame} {meth : Method} {c : Code} {D : va_G} {cy : Nat → ClassId} {ad : Nat → Nat} {r : Int32} {μ1 : Mem} {ν1 : Lem} (C : Cx false p s m args meth c cX6_not5 4 RX6 D cy ad) (hr : meth.sig.returnType = some .int) : ∀ (μ : Mem) (ν : Lem), f6_not5 μ ν = some (r, μ1, ν1) → ∀ (H : Heap) (locs : List Loc), Wd false D cy ad s.heap μ ν H locs → ∀ (ls : Array Slot), lv_has ls 4 [(0, .ref (ad 0))] → WI false p l e 7 156 s m args below meth c D cy ad .int r μ1 ν1 H locs (F0 m 0 ls []) := by
  have hx := C.1.1
  have hb := C.1.2.1
  have hown := C.1.2.2.2.1
  have hts := C.1.2.2.2.2
  intro μ ν hf H locs X ls hl
  unfold f6_not5 at hf
  refine lv_aload_n hx hb dX6_not5_0 rfl (lv_at hl 0 rfl) ?_
  refine lv_bipush (v := 110) hx hb dX6_not5_1 (by decide) ?_
  refine lv_bipush (v := 111) hx hb dX6_not5_3 (by decide) ?_
  refine lv_bipush (v := 116) hx hb dX6_not5_5 (by decide) ?_
  refine lv_iconst (v := 0) hx hb dX6_not5_7 (by decide) ?_
  refine lv_iconst (v := 0) hx hb dX6_not5_8 (by decide) ?_
  refine lv_iconst (v := 0) hx hb dX6_not5_9 (by decide) ?_
  refine lv_iconst (v := 0) hx hb dX6_not5_10 (by decide) ?_
  refine lv_iconst (v := 0) hx hb dX6_not5_11 (by decide) ?_
  obtain ⟨r12, g12, hf⟩ := bd1_e hf
  refine qX6_180 g12 C X hl.1 ((Nat.le_of_ble_eq_true rfl)) ⟨(Nat.le_of_ble_eq_true rfl), (Nat.le_of_ble_eq_true rfl)⟩ ⟨Nat.zero_le _, Nat.zero_le _⟩ dX6_not5_12 (fun H locs X b12 => ?_)
  refine lv_if_eq (tgt := 25) hx hb dX6_not5_15 (by decide) (fun c15 => ?_) (fun c15 => ?_)
  · replace hf := ifp c15 hf
    refine lv_aload_n hx hb dX6_not5_25 rfl (lv_at hl 0 rfl) ?_
    obtain ⟨r26, μ26, ν26, g26, hf⟩ := bd3_e hf
    refine qX6_221 g26 C X hl.1 ((Nat.le_of_ble_eq_true rfl)) ⟨(Nat.le_of_ble_eq_true rfl), (Nat.le_of_ble_eq_true rfl)⟩ ⟨Nat.zero_le _, Nat.zero_le _⟩ dX6_not5_26 (fun H locs X b26 => ?_)
    refine lv_istore_n (lv' := [(1, .int r26), (0, .ref (ad 0))]) hx hb dX6_not5_29 rfl hl (by decide) rfl (fun ls hl => ?_)
    refine lv_aload_n hx hb dX6_not5_30 rfl (lv_at hl 1 rfl) ?_
    refine lv_bipush (v := 60) hx hb dX6_not5_31 (by decide) ?_
    refine qX6_202 rfl C X hl.1 ((Nat.le_of_ble_eq_true rfl)) ⟨(Nat.le_of_ble_eq_true rfl), (Nat.le_of_ble_eq_true rfl)⟩ ⟨Nat.zero_le _, Nat.zero_le _⟩ dX6_not5_33 (fun H locs X b33 => ?_)
    refine lv_if_ne (tgt := 50) hx hb dX6_not5_36 (by decide) (fun c36 => ?_) (fun c36 => ?_)
    · replace hf := ifn c36 hf
      exact w6_not5_1 C hr  μ26 ν26 r26 hf _ _ X _ (lv_sub hl [1, 0] rfl)
    · replace hf := ifp c36 hf
      refine lv_aload_n hx hb dX6_not5_39 rfl (lv_at hl 1 rfl) ?_
      refine lv_bipush (v := 61) hx hb dX6_not5_40 (by decide) ?_
      refine qX6_202 rfl C X hl.1 ((Nat.le_of_ble_eq_true rfl)) ⟨(Nat.le_of_ble_eq_true rfl), (Nat.le_of_ble_eq_true rfl)⟩ ⟨Nat.zero_le _, Nat.zero_le _⟩ dX6_not5_42 (fun H locs X b42 => ?_)
      refine lv_if_ne (tgt := 50) hx hb dX6_not5_45 (by decide) (fun c45 => ?_) (fun c45 => ?_)
      · replace hf := ifn c45 hf
        exact w6_not5_1 C hr  μ26 ν26 r26 hf _ _ X _ (lv_sub hl [1, 0] rfl)
      · replace hf := ifp c45 hf
        refine lv_iload_n hx hb dX6_not5_48 rfl (lv_at hl 0 rfl) ?_
        exact retI C X hr rfl (so3 hf).1 (so3 hf).2.1 (so3 hf).2.2 dX6_not5_49
  · replace hf := ifn c15 hf
    refine lv_aload_n hx hb dX6_not5_18 rfl (lv_at hl 0 rfl) ?_
    obtain ⟨r19, μ19, ν19, g19, hf⟩ := bd3_e hf
    refine qX6_205 g19 C X hl.1 ((Nat.le_of_ble_eq_true rfl)) ⟨(Nat.le_of_ble_eq_true rfl), (Nat.le_of_ble_eq_true rfl)⟩ ⟨Nat.zero_le _, Nat.zero_le _⟩ dX6_not5_19 (fun H locs X b19 => ?_)
    refine lv_pop hx hb dX6_not5_22 rfl ?_
    refine lv_iconst (v := 0) hx hb dX6_not5_23 (by decide) ?_
    exact retI C X hr rfl (so3 hf).1 (so3 hf).2.1 (so3 hf).2.2 dX6_not5_24
theorem ct6_not5 {μ : Mem} {ν : Lem} {r : Int32} {μ1 : Mem} {ν1 : Lem} (hg : f6_not5 μ ν = some (r, μ1, ν1)) : CtI false yX6_not5 cX6_not5 4 7 156 .int (fun ad => [.ref (ad 0)]) μ ν r μ1 ν1 :=
  mkI (by decide) rfl (fun ad => Nat.le_of_ble_eq_true rfl) (fun p l e s m args below meth c D cy ad C hr X ls hl => w6_not5 C hr μ ν hg _ _ X _ hl)
theorem qX6_226 {p : Program} {l : Launch} {e : Env} {R : Room} {s : State} {m : MethodId} {args : Array Value} {below : List Frame} {meth : Method} {c : Code} {H : Heap} {locs : List Loc} {cells slots : Nat} {Q : State → Prop} {A : Nat → Prop} {cc : ByteArray} {nL : Nat} {D : va_G} {cy : Nat → ClassId} {ad : Nat → Nat} {μ : Mem} {ν : Lem} {pc : Nat} {ls : Array Slot} {rest : List Value} {r : Int32} {μ1 : Mem} {ν1 : Lem} (hg : f6_not5 μ ν = some (r, μ1, ν1)) (C : CxA false A p s m args meth c cc nL RX6 D cy ad) (X : WdA false A D cy ad s.heap μ ν H locs) (hsz : ls.size = nL) (hrm : (rest.map fun v => v.category).sum ≤ 8) (hR : 7 + 1 ≤ R.frames ∧ 8 + (4 + 11) + 156 ≤ R.locals) (hcs : cells ≤ R.cells ∧ slots ≤ R.slots) (hd : decode cc pc = .ok (.invokevirtual 226, 3)) (kk : ∀ (H1 : Heap) (locs1 : List Loc), WdA false A D cy ad s.heap μ1 ν1 H1 locs1 → narrow .int (.int r) = .int r → W p l e R s m args below meth c H1 locs1 cells slots Q (F0 m (pc + 3) ls (.int r :: rest))) : W p l e R s m args below meth c H locs cells slots Q (F0 m pc ls (.ref (ad 0) :: rest)) :=
  rCVI (As := []) (k := 0) (ct6_not5 hg) ok6 lX6_not5 k_1029 rfl rfl rfl C X rfl hrm hsz hR hcs hd kk
set_option maxRecDepth 100000 in
set_option maxHeartbeats 4000000 in
theorem w6_both5_1 {p : Program} {l : Launch} {e : Env} {s : State} {m : MethodId} {args : Array Value} {below : List Frame} {meth : Method} {c : Code} {D : va_G} {cy : Nat → ClassId} {ad : Nat → Nat} {r : Int32} {μ1 : Mem} {ν1 : Lem} (C : Cx false p s m args meth c cX6_both5 3 RX6 D cy ad) (hr : meth.sig.returnType = some .int) : ∀ (n : Nat), ∀ (μ : Mem) (ν : Lem) (x1 : Int32), f6_both5_1 n μ ν x1 = some (r, μ1, ν1) → ∀ (H : Heap) (locs : List Loc), Wd false D cy ad s.heap μ ν H locs → ∀ (ls : Array Slot), lv_has ls 3 [(0, .ref (ad 0)), (1, .int x1)] → WI false p l e 8 179 s m args below meth c D cy ad .int r μ1 ν1 H locs (F0 m 5 ls []) := by
  have hx := C.1.1
  have hb := C.1.2.1
  have hown := C.1.2.2.2.1
  have hts := C.1.2.2.2.2
  intro n
  induction n with
  | zero =>
    intro μ ν x1 hf H locs X ls hl
    rw [f6_both5_1] at hf
    cases hf
  | succ n ih =>
    intro μ ν x1 hf H locs X ls hl
    rw [f6_both5_1] at hf
    refine lv_aload_n hx hb dX6_both5_5 rfl (lv_at hl 0 rfl) ?_
    refine lv_bipush (v := 97) hx hb dX6_both5_6 (by decide) ?_
    refine lv_bipush (v := 110) hx hb dX6_both5_8 (by decide) ?_
    refine lv_bipush (v := 100) hx hb dX6_both5_10 (by decide) ?_
    refine lv_iconst (v := 0) hx hb dX6_both5_12 (by decide) ?_
    refine lv_iconst (v := 0) hx hb dX6_both5_13 (by decide) ?_
    refine lv_iconst (v := 0) hx hb dX6_both5_14 (by decide) ?_
    refine lv_iconst (v := 0) hx hb dX6_both5_15 (by decide) ?_
    refine lv_iconst (v := 0) hx hb dX6_both5_16 (by decide) ?_
    obtain ⟨r17, g17, hf⟩ := bd1_e hf
    refine qX6_180 g17 C X hl.1 ((Nat.le_of_ble_eq_true rfl)) ⟨(Nat.le_of_ble_eq_true rfl), (Nat.le_of_ble_eq_true rfl)⟩ ⟨Nat.zero_le _, Nat.zero_le _⟩ dX6_both5_17 (fun H locs X b17 => ?_)
    refine lv_if_eq (tgt := 49) hx hb dX6_both5_20 (by decide) (fun c20 => ?_) (fun c20 => ?_)
    · replace hf := ifp c20 hf
      refine lv_iload_n hx hb dX6_both5_49 rfl (lv_at hl 1 rfl) ?_
      exact retI C X hr rfl (so3 hf).1 (so3 hf).2.1 (so3 hf).2.2 dX6_both5_50
    · replace hf := ifn c20 hf
      refine lv_aload_n hx hb dX6_both5_23 rfl (lv_at hl 0 rfl) ?_
      obtain ⟨μ24, ν24, g24, hf⟩ := bd2_e hf
      refine qX6_177 g24 C X hl.1 ((Nat.le_of_ble_eq_true rfl)) ⟨(Nat.le_of_ble_eq_true rfl), (Nat.le_of_ble_eq_true rfl)⟩ ⟨Nat.zero_le _, Nat.zero_le _⟩ dX6_both5_24 (fun H locs X => ?_)
      refine lv_aload_n hx hb dX6_both5_27 rfl (lv_at hl 0 rfl) ?_
      obtain ⟨r28, μ28, ν28, g28, hf⟩ := bd3_e hf
      refine qX6_226 g28 C X hl.1 ((Nat.le_of_ble_eq_true rfl)) ⟨(Nat.le_of_ble_eq_true rfl), (Nat.le_of_ble_eq_true rfl)⟩ ⟨Nat.zero_le _, Nat.zero_le _⟩ dX6_both5_28 (fun H locs X b28 => ?_)
      refine lv_istore_n (lv' := [(2, .int r28), (0, .ref (ad 0)), (1, .int x1)]) hx hb dX6_both5_31 rfl hl (by decide) rfl (fun ls hl => ?_)
      refine lv_iload_n hx hb dX6_both5_32 rfl (lv_at hl 2 rfl) ?_
      refine lv_if_eq (tgt := 44) hx hb dX6_both5_33 (by decide) (fun c33 => ?_) (fun c33 => ?_)
      · replace hf := ifp c33 hf
        refine lv_iconst (v := 0) hx hb dX6_both5_44 (by decide) ?_
        refine lv_istore_n (lv' := [(1, .int 0), (2, .int r28), (0, .ref (ad 0))]) hx hb dX6_both5_45 rfl hl (by decide) rfl (fun ls hl => ?_)
        refine lv_goto (tgt := 5) hx hb dX6_both5_46 (by decide) ?_
        exact ih μ28 ν28 0 hf _ _ X _ (lv_sub hl [2, 0] rfl)
      · replace hf := ifn c33 hf
        refine lv_iload_n hx hb dX6_both5_36 rfl (lv_at hl 0 rfl) ?_
        refine lv_if_eq (tgt := 44) hx hb dX6_both5_37 (by decide) (fun c37 => ?_) (fun c37 => ?_)
        · replace hf := ifp c37 hf
          refine lv_iconst (v := 0) hx hb dX6_both5_44 (by decide) ?_
          refine lv_istore_n (lv' := [(1, .int 0), (2, .int r28), (0, .ref (ad 0))]) hx hb dX6_both5_45 rfl hl (by decide) rfl (fun ls hl => ?_)
          refine lv_goto (tgt := 5) hx hb dX6_both5_46 (by decide) ?_
          exact ih μ28 ν28 0 hf _ _ X _ (lv_sub hl [2, 0] rfl)
        · replace hf := ifn c37 hf
          refine lv_iconst (v := 1) hx hb dX6_both5_40 (by decide) ?_
          refine lv_goto (tgt := 45) hx hb dX6_both5_41 (by decide) ?_
          refine lv_istore_n (lv' := [(1, .int 1), (2, .int r28), (0, .ref (ad 0))]) hx hb dX6_both5_45 rfl hl (by decide) rfl (fun ls hl => ?_)
          refine lv_goto (tgt := 5) hx hb dX6_both5_46 (by decide) ?_
          exact ih μ28 ν28 1 hf _ _ X _ (lv_sub hl [2, 0] rfl)
set_option maxRecDepth 100000 in
set_option maxHeartbeats 4000000 in
theorem w6_both5 {p : Program} {l : Launch} {e : Env} {s : State} {m : MethodId} {args : Array Value} {below : List Frame} {meth : Method} {c : Code} {D : va_G} {cy : Nat → ClassId} {ad : Nat → Nat} {r : Int32} {μ1 : Mem} {ν1 : Lem} (C : Cx false p s m args meth c cX6_both5 3 RX6 D cy ad) (hr : meth.sig.returnType = some .int) : ∀ (μ : Mem) (ν : Lem), f6_both5 μ ν = some (r, μ1, ν1) → ∀ (H : Heap) (locs : List Loc), Wd false D cy ad s.heap μ ν H locs → ∀ (ls : Array Slot), lv_has ls 3 [(0, .ref (ad 0))] → WI false p l e 8 179 s m args below meth c D cy ad .int r μ1 ν1 H locs (F0 m 0 ls []) := by
  have hx := C.1.1
  have hb := C.1.2.1
  have hown := C.1.2.2.2.1
  have hts := C.1.2.2.2.2
  intro μ ν hf H locs X ls hl
  unfold f6_both5 at hf
  refine lv_aload_n hx hb dX6_both5_0 rfl (lv_at hl 0 rfl) ?_
  obtain ⟨r1, μ1, ν1, g1, hf⟩ := bd3_e hf
  refine qX6_226 g1 C X hl.1 ((Nat.le_of_ble_eq_true rfl)) ⟨(Nat.le_of_ble_eq_true rfl), (Nat.le_of_ble_eq_true rfl)⟩ ⟨Nat.zero_le _, Nat.zero_le _⟩ dX6_both5_1 (fun H locs X b1 => ?_)
  refine lv_istore_n (lv' := [(1, .int r1), (0, .ref (ad 0))]) hx hb dX6_both5_4 rfl hl (by decide) rfl (fun ls hl => ?_)
  exact w6_both5_1 C hr  FUEL μ1 ν1 r1 hf _ _ X _ (lv_sub hl [1, 0] rfl)
theorem ct6_both5 {μ : Mem} {ν : Lem} {r : Int32} {μ1 : Mem} {ν1 : Lem} (hg : f6_both5 μ ν = some (r, μ1, ν1)) : CtI false yX6_both5 cX6_both5 3 8 179 .int (fun ad => [.ref (ad 0)]) μ ν r μ1 ν1 :=
  mkI (by decide) rfl (fun ad => Nat.le_of_ble_eq_true rfl) (fun p l e s m args below meth c D cy ad C hr X ls hl => w6_both5 C hr μ ν hg _ _ X _ hl)
theorem qX6_229 {p : Program} {l : Launch} {e : Env} {R : Room} {s : State} {m : MethodId} {args : Array Value} {below : List Frame} {meth : Method} {c : Code} {H : Heap} {locs : List Loc} {cells slots : Nat} {Q : State → Prop} {A : Nat → Prop} {cc : ByteArray} {nL : Nat} {D : va_G} {cy : Nat → ClassId} {ad : Nat → Nat} {μ : Mem} {ν : Lem} {pc : Nat} {ls : Array Slot} {rest : List Value} {r : Int32} {μ1 : Mem} {ν1 : Lem} (hg : f6_both5 μ ν = some (r, μ1, ν1)) (C : CxA false A p s m args meth c cc nL RX6 D cy ad) (X : WdA false A D cy ad s.heap μ ν H locs) (hsz : ls.size = nL) (hrm : (rest.map fun v => v.category).sum ≤ 8) (hR : 8 + 1 ≤ R.frames ∧ 8 + (3 + 11) + 179 ≤ R.locals) (hcs : cells ≤ R.cells ∧ slots ≤ R.slots) (hd : decode cc pc = .ok (.invokevirtual 229, 3)) (kk : ∀ (H1 : Heap) (locs1 : List Loc), WdA false A D cy ad s.heap μ1 ν1 H1 locs1 → narrow .int (.int r) = .int r → W p l e R s m args below meth c H1 locs1 cells slots Q (F0 m (pc + 3) ls (.int r :: rest))) : W p l e R s m args below meth c H locs cells slots Q (F0 m pc ls (.ref (ad 0) :: rest)) :=
  rCVI (As := []) (k := 0) (ct6_both5 hg) ok6 lX6_both5 k_1071 rfl rfl rfl C X rfl hrm hsz hR hcs hd kk
set_option maxRecDepth 100000 in
set_option maxHeartbeats 4000000 in
theorem w6_either5_1 {p : Program} {l : Launch} {e : Env} {s : State} {m : MethodId} {args : Array Value} {below : List Frame} {meth : Method} {c : Code} {D : va_G} {cy : Nat → ClassId} {ad : Nat → Nat} {r : Int32} {μ1 : Mem} {ν1 : Lem} (C : Cx false p s m args meth c cX6_either5 3 RX6 D cy ad) (hr : meth.sig.returnType = some .int) : ∀ (n : Nat), ∀ (μ : Mem) (ν : Lem) (x1 : Int32), f6_either5_1 n μ ν x1 = some (r, μ1, ν1) → ∀ (H : Heap) (locs : List Loc), Wd false D cy ad s.heap μ ν H locs → ∀ (ls : Array Slot), lv_has ls 3 [(0, .ref (ad 0)), (1, .int x1)] → WI false p l e 9 201 s m args below meth c D cy ad .int r μ1 ν1 H locs (F0 m 5 ls []) := by
  have hx := C.1.1
  have hb := C.1.2.1
  have hown := C.1.2.2.2.1
  have hts := C.1.2.2.2.2
  intro n
  induction n with
  | zero =>
    intro μ ν x1 hf H locs X ls hl
    rw [f6_either5_1] at hf
    cases hf
  | succ n ih =>
    intro μ ν x1 hf H locs X ls hl
    rw [f6_either5_1] at hf
    refine lv_aload_n hx hb dX6_either5_5 rfl (lv_at hl 0 rfl) ?_
    refine lv_bipush (v := 111) hx hb dX6_either5_6 (by decide) ?_
    refine lv_bipush (v := 114) hx hb dX6_either5_8 (by decide) ?_
    refine lv_iconst (v := 0) hx hb dX6_either5_10 (by decide) ?_
    refine lv_iconst (v := 0) hx hb dX6_either5_11 (by decide) ?_
    refine lv_iconst (v := 0) hx hb dX6_either5_12 (by decide) ?_
    refine lv_iconst (v := 0) hx hb dX6_either5_13 (by decide) ?_
    refine lv_iconst (v := 0) hx hb dX6_either5_14 (by decide) ?_
    refine lv_iconst (v := 0) hx hb dX6_either5_15 (by decide) ?_
    obtain ⟨r16, g16, hf⟩ := bd1_e hf
    refine qX6_180 g16 C X hl.1 ((Nat.le_of_ble_eq_true rfl)) ⟨(Nat.le_of_ble_eq_true rfl), (Nat.le_of_ble_eq_true rfl)⟩ ⟨Nat.zero_le _, Nat.zero_le _⟩ dX6_either5_16 (fun H locs X b16 => ?_)
    refine lv_if_eq (tgt := 48) hx hb dX6_either5_19 (by decide) (fun c19 => ?_) (fun c19 => ?_)
    · replace hf := ifp c19 hf
      refine lv_iload_n hx hb dX6_either5_48 rfl (lv_at hl 1 rfl) ?_
      exact retI C X hr rfl (so3 hf).1 (so3 hf).2.1 (so3 hf).2.2 dX6_either5_49
    · replace hf := ifn c19 hf
      refine lv_aload_n hx hb dX6_either5_22 rfl (lv_at hl 0 rfl) ?_
      obtain ⟨μ23, ν23, g23, hf⟩ := bd2_e hf
      refine qX6_177 g23 C X hl.1 ((Nat.le_of_ble_eq_true rfl)) ⟨(Nat.le_of_ble_eq_true rfl), (Nat.le_of_ble_eq_true rfl)⟩ ⟨Nat.zero_le _, Nat.zero_le _⟩ dX6_either5_23 (fun H locs X => ?_)
      refine lv_aload_n hx hb dX6_either5_26 rfl (lv_at hl 0 rfl) ?_
      obtain ⟨r27, μ27, ν27, g27, hf⟩ := bd3_e hf
      refine qX6_229 g27 C X hl.1 ((Nat.le_of_ble_eq_true rfl)) ⟨(Nat.le_of_ble_eq_true rfl), (Nat.le_of_ble_eq_true rfl)⟩ ⟨Nat.zero_le _, Nat.zero_le _⟩ dX6_either5_27 (fun H locs X b27 => ?_)
      refine lv_istore_n (lv' := [(2, .int r27), (0, .ref (ad 0)), (1, .int x1)]) hx hb dX6_either5_30 rfl hl (by decide) rfl (fun ls hl => ?_)
      refine lv_iload_n hx hb dX6_either5_31 rfl (lv_at hl 2 rfl) ?_
      refine lv_if_ne (tgt := 39) hx hb dX6_either5_32 (by decide) (fun c32 => ?_) (fun c32 => ?_)
      · replace hf := ifn c32 hf
        refine lv_iconst (v := 1) hx hb dX6_either5_39 (by decide) ?_
        refine lv_goto (tgt := 44) hx hb dX6_either5_40 (by decide) ?_
        refine lv_istore_n (lv' := [(1, .int 1), (2, .int r27), (0, .ref (ad 0))]) hx hb dX6_either5_44 rfl hl (by decide) rfl (fun ls hl => ?_)
        refine lv_goto (tgt := 5) hx hb dX6_either5_45 (by decide) ?_
        exact ih μ27 ν27 1 hf _ _ X _ (lv_sub hl [2, 0] rfl)
      · replace hf := ifp c32 hf
        refine lv_iload_n hx hb dX6_either5_35 rfl (lv_at hl 0 rfl) ?_
        refine lv_if_eq (tgt := 43) hx hb dX6_either5_36 (by decide) (fun c36 => ?_) (fun c36 => ?_)
        · replace hf := ifp c36 hf
          refine lv_iconst (v := 0) hx hb dX6_either5_43 (by decide) ?_
          refine lv_istore_n (lv' := [(1, .int 0), (2, .int r27), (0, .ref (ad 0))]) hx hb dX6_either5_44 rfl hl (by decide) rfl (fun ls hl => ?_)
          refine lv_goto (tgt := 5) hx hb dX6_either5_45 (by decide) ?_
          exact ih μ27 ν27 0 hf _ _ X _ (lv_sub hl [2, 0] rfl)
        · replace hf := ifn c36 hf
          refine lv_iconst (v := 1) hx hb dX6_either5_39 (by decide) ?_
          refine lv_goto (tgt := 44) hx hb dX6_either5_40 (by decide) ?_
          refine lv_istore_n (lv' := [(1, .int 1), (2, .int r27), (0, .ref (ad 0))]) hx hb dX6_either5_44 rfl hl (by decide) rfl (fun ls hl => ?_)
          refine lv_goto (tgt := 5) hx hb dX6_either5_45 (by decide) ?_
          exact ih μ27 ν27 1 hf _ _ X _ (lv_sub hl [2, 0] rfl)
set_option maxRecDepth 100000 in
set_option maxHeartbeats 4000000 in
theorem w6_either5 {p : Program} {l : Launch} {e : Env} {s : State} {m : MethodId} {args : Array Value} {below : List Frame} {meth : Method} {c : Code} {D : va_G} {cy : Nat → ClassId} {ad : Nat → Nat} {r : Int32} {μ1 : Mem} {ν1 : Lem} (C : Cx false p s m args meth c cX6_either5 3 RX6 D cy ad) (hr : meth.sig.returnType = some .int) : ∀ (μ : Mem) (ν : Lem), f6_either5 μ ν = some (r, μ1, ν1) → ∀ (H : Heap) (locs : List Loc), Wd false D cy ad s.heap μ ν H locs → ∀ (ls : Array Slot), lv_has ls 3 [(0, .ref (ad 0))] → WI false p l e 9 201 s m args below meth c D cy ad .int r μ1 ν1 H locs (F0 m 0 ls []) := by
  have hx := C.1.1
  have hb := C.1.2.1
  have hown := C.1.2.2.2.1
  have hts := C.1.2.2.2.2
  intro μ ν hf H locs X ls hl
  unfold f6_either5 at hf
  refine lv_aload_n hx hb dX6_either5_0 rfl (lv_at hl 0 rfl) ?_
  obtain ⟨r1, μ1, ν1, g1, hf⟩ := bd3_e hf
  refine qX6_229 g1 C X hl.1 ((Nat.le_of_ble_eq_true rfl)) ⟨(Nat.le_of_ble_eq_true rfl), (Nat.le_of_ble_eq_true rfl)⟩ ⟨Nat.zero_le _, Nat.zero_le _⟩ dX6_either5_1 (fun H locs X b1 => ?_)
  refine lv_istore_n (lv' := [(1, .int r1), (0, .ref (ad 0))]) hx hb dX6_either5_4 rfl hl (by decide) rfl (fun ls hl => ?_)
  exact w6_either5_1 C hr  FUEL μ1 ν1 r1 hf _ _ X _ (lv_sub hl [1, 0] rfl)
theorem ct6_either5 {μ : Mem} {ν : Lem} {r : Int32} {μ1 : Mem} {ν1 : Lem} (hg : f6_either5 μ ν = some (r, μ1, ν1)) : CtI false yX6_either5 cX6_either5 3 9 201 .int (fun ad => [.ref (ad 0)]) μ ν r μ1 ν1 :=
  mkI (by decide) rfl (fun ad => Nat.le_of_ble_eq_true rfl) (fun p l e s m args below meth c D cy ad C hr X ls hl => w6_either5 C hr μ ν hg _ _ X _ hl)
theorem qX6_232 {p : Program} {l : Launch} {e : Env} {R : Room} {s : State} {m : MethodId} {args : Array Value} {below : List Frame} {meth : Method} {c : Code} {H : Heap} {locs : List Loc} {cells slots : Nat} {Q : State → Prop} {A : Nat → Prop} {cc : ByteArray} {nL : Nat} {D : va_G} {cy : Nat → ClassId} {ad : Nat → Nat} {μ : Mem} {ν : Lem} {pc : Nat} {ls : Array Slot} {rest : List Value} {r : Int32} {μ1 : Mem} {ν1 : Lem} (hg : f6_either5 μ ν = some (r, μ1, ν1)) (C : CxA false A p s m args meth c cc nL RX6 D cy ad) (X : WdA false A D cy ad s.heap μ ν H locs) (hsz : ls.size = nL) (hrm : (rest.map fun v => v.category).sum ≤ 8) (hR : 9 + 1 ≤ R.frames ∧ 8 + (3 + 11) + 201 ≤ R.locals) (hcs : cells ≤ R.cells ∧ slots ≤ R.slots) (hd : decode cc pc = .ok (.invokevirtual 232, 3)) (kk : ∀ (H1 : Heap) (locs1 : List Loc), WdA false A D cy ad s.heap μ1 ν1 H1 locs1 → narrow .int (.int r) = .int r → W p l e R s m args below meth c H1 locs1 cells slots Q (F0 m (pc + 3) ls (.int r :: rest))) : W p l e R s m args below meth c H locs cells slots Q (F0 m pc ls (.ref (ad 0) :: rest)) :=
  rCVI (As := []) (k := 0) (ct6_either5 hg) ok6 lX6_either5 k_1067 rfl rfl rfl C X rfl hrm hsz hR hcs hd kk
set_option maxRecDepth 100000 in
set_option maxHeartbeats 4000000 in
theorem w6_atom4_3 {p : Program} {l : Launch} {e : Env} {s : State} {m : MethodId} {args : Array Value} {below : List Frame} {meth : Method} {c : Code} {D : va_G} {cy : Nat → ClassId} {ad : Nat → Nat} {r : Int32} {μ1 : Mem} {ν1 : Lem} (C : Cx false p s m args meth c cX6_atom4 2 RX6 D cy ad) (hr : meth.sig.returnType = some .int) : ∀ (μ : Mem) (ν : Lem) (x1 : Int32), f6_atom4_3 μ ν x1 = some (r, μ1, ν1) → ∀ (H : Heap) (locs : List Loc), Wd false D cy ad s.heap μ ν H locs → ∀ (ls : Array Slot), lv_has ls 2 [(0, .ref (ad 0)), (1, .int x1)] → WI false p l e 10 223 s m args below meth c D cy ad .int r μ1 ν1 H locs (F0 m 157 ls []) := by
  have hx := C.1.1
  have hb := C.1.2.1
  have hown := C.1.2.2.2.1
  have hts := C.1.2.2.2.2
  intro μ ν x1 hf H locs X ls hl
  unfold f6_atom4_3 at hf
  refine lv_aload_n hx hb dX6_atom4_157 rfl (lv_at hl 0 rfl) ?_
  obtain ⟨μ158, ν158, g158, hf⟩ := pr2_e hf
  refine qX6_174 g158 C X hl.1 ((Nat.le_of_ble_eq_true rfl)) ⟨(Nat.le_of_ble_eq_true rfl), (Nat.le_of_ble_eq_true rfl)⟩ ⟨Nat.zero_le _, Nat.zero_le _⟩ dX6_atom4_158 (fun H locs X => ?_)
  refine lv_iload_n hx hb dX6_atom4_161 rfl (lv_at hl 1 rfl) ?_
  exact retI C X hr rfl (so3 hf).1 (so3 hf).2.1 (so3 hf).2.2 dX6_atom4_162
set_option maxRecDepth 100000 in
set_option maxHeartbeats 4000000 in
theorem w6_atom4_2 {p : Program} {l : Launch} {e : Env} {s : State} {m : MethodId} {args : Array Value} {below : List Frame} {meth : Method} {c : Code} {D : va_G} {cy : Nat → ClassId} {ad : Nat → Nat} {r : Int32} {μ1 : Mem} {ν1 : Lem} (C : Cx false p s m args meth c cX6_atom4 2 RX6 D cy ad) (hr : meth.sig.returnType = some .int) : ∀ (μ : Mem) (ν : Lem) (x1 : Int32), f6_atom4_2 μ ν x1 = some (r, μ1, ν1) → ∀ (H : Heap) (locs : List Loc), Wd false D cy ad s.heap μ ν H locs → ∀ (ls : Array Slot), lv_has ls 2 [(0, .ref (ad 0)), (1, .int x1)] → WI false p l e 10 223 s m args below meth c D cy ad .int r μ1 ν1 H locs (F0 m 123 ls []) := by
  have hx := C.1.1
  have hb := C.1.2.1
  have hown := C.1.2.2.2.1
  have hts := C.1.2.2.2.2
  intro μ ν x1 hf H locs X ls hl
  unfold f6_atom4_2 at hf
  refine lv_aload_n hx hb dX6_atom4_123 rfl (lv_at hl 0 rfl) ?_
  refine gfX6_160 C X dX6_atom4_124 ?_
  refine lv_if_ne (tgt := 157) hx hb dX6_atom4_127 (by decide) (fun c127 => ?_) (fun c127 => ?_)
  · replace hf := ifn c127 hf
    exact w6_atom4_3 C hr  μ ν x1 hf _ _ X _ (lv_sub hl [0, 1] rfl)
  · replace hf := ifp c127 hf
    refine lv_aload_n hx hb dX6_atom4_130 rfl (lv_at hl 0 rfl) ?_
    refine gfX6_145 C X dX6_atom4_131 ?_
    refine lv_iconst (v := 1) hx hb dX6_atom4_134 (by decide) ?_
    refine lv_icmp_ne (tgt := 157) hx hb dX6_atom4_135 (by decide) (fun c135 => ?_) (fun c135 => ?_)
    · replace hf := ifn c135 hf
      exact w6_atom4_3 C hr  μ ν x1 hf _ _ X _ (lv_sub hl [0, 1] rfl)
    · replace hf := ifp c135 hf
      refine lv_aload_n hx hb dX6_atom4_138 rfl (lv_at hl 0 rfl) ?_
      obtain ⟨r139, μ139, ν139, g139, hf⟩ := bd3_e hf
      refine qX6_209 g139 C X hl.1 ((Nat.le_of_ble_eq_true rfl)) ⟨(Nat.le_of_ble_eq_true rfl), (Nat.le_of_ble_eq_true rfl)⟩ ⟨Nat.zero_le _, Nat.zero_le _⟩ dX6_atom4_139 (fun H locs X b139 => ?_)
      refine lv_istore_n (lv' := [(1, .int r139), (0, .ref (ad 0))]) hx hb dX6_atom4_142 rfl hl (by decide) rfl (fun ls hl => ?_)
      refine lv_aload_n hx hb dX6_atom4_143 rfl (lv_at hl 1 rfl) ?_
      refine gfX6_160 C X dX6_atom4_144 ?_
      refine lv_if_ne (tgt := 161) hx hb dX6_atom4_147 (by decide) (fun c147 => ?_) (fun c147 => ?_)
      · replace hf := ifn c147 hf
        refine lv_iload_n hx hb dX6_atom4_161 rfl (lv_at hl 0 rfl) ?_
        exact retI C X hr rfl (so3 hf).1 (so3 hf).2.1 (so3 hf).2.2 dX6_atom4_162
      · replace hf := ifp c147 hf
        refine lv_aload_n hx hb dX6_atom4_150 rfl (lv_at hl 1 rfl) ?_
        obtain ⟨μ151, ν151, g151, hf⟩ := bd2_e hf
        refine qX6_177 g151 C X hl.1 ((Nat.le_of_ble_eq_true rfl)) ⟨(Nat.le_of_ble_eq_true rfl), (Nat.le_of_ble_eq_true rfl)⟩ ⟨Nat.zero_le _, Nat.zero_le _⟩ dX6_atom4_151 (fun H locs X => ?_)
        refine lv_goto (tgt := 161) hx hb dX6_atom4_154 (by decide) ?_
        refine lv_iload_n hx hb dX6_atom4_161 rfl (lv_at hl 0 rfl) ?_
        exact retI C X hr rfl (so3 hf).1 (so3 hf).2.1 (so3 hf).2.2 dX6_atom4_162
set_option maxRecDepth 100000 in
set_option maxHeartbeats 4000000 in
theorem w6_atom4_1 {p : Program} {l : Launch} {e : Env} {s : State} {m : MethodId} {args : Array Value} {below : List Frame} {meth : Method} {c : Code} {D : va_G} {cy : Nat → ClassId} {ad : Nat → Nat} {r : Int32} {μ1 : Mem} {ν1 : Lem} (C : Cx false p s m args meth c cX6_atom4 2 RX6 D cy ad) (hr : meth.sig.returnType = some .int) : ∀ (μ : Mem) (ν : Lem) (x1 : Int32), f6_atom4_1 μ ν x1 = some (r, μ1, ν1) → ∀ (H : Heap) (locs : List Loc), Wd false D cy ad s.heap μ ν H locs → ∀ (ls : Array Slot), lv_has ls 2 [(0, .ref (ad 0)), (1, .int x1)] → WI false p l e 10 223 s m args below meth c D cy ad .int r μ1 ν1 H locs (F0 m 71 ls []) := by
  have hx := C.1.1
  have hb := C.1.2.1
  have hown := C.1.2.2.2.1
  have hts := C.1.2.2.2.2
  intro μ ν x1 hf H locs X ls hl
  unfold f6_atom4_1 at hf
  refine lv_aload_n hx hb dX6_atom4_71 rfl (lv_at hl 0 rfl) ?_
  refine lv_dup hx hb dX6_atom4_72 rfl ?_
  refine gfX6_171 C X dX6_atom4_73 ?_
  refine lv_iconst (v := 1) hx hb dX6_atom4_76 (by decide) ?_
  refine lv_isub hx hb dX6_atom4_77 ?_
  obtain ⟨μ78, e78, hf⟩ := nm_e2 hf
  refine pfX6_171 e78 C X dX6_atom4_78 (fun H locs X => ?_)
  refine lv_aload_n hx hb dX6_atom4_81 rfl (lv_at hl 0 rfl) ?_
  refine gfX6_160 C X dX6_atom4_82 ?_
  refine lv_if_ne (tgt := 161) hx hb dX6_atom4_85 (by decide) (fun c85 => ?_) (fun c85 => ?_)
  · replace hf := ifn c85 hf
    refine lv_iload_n hx hb dX6_atom4_161 rfl (lv_at hl 1 rfl) ?_
    exact retI C X hr rfl (so3 hf).1 (so3 hf).2.1 (so3 hf).2.2 dX6_atom4_162
  · replace hf := ifp c85 hf
    refine lv_aload_n hx hb dX6_atom4_88 rfl (lv_at hl 0 rfl) ?_
    obtain ⟨μ89, ν89, g89, hf⟩ := bd2_e hf
    refine qX6_177 g89 C X hl.1 ((Nat.le_of_ble_eq_true rfl)) ⟨(Nat.le_of_ble_eq_true rfl), (Nat.le_of_ble_eq_true rfl)⟩ ⟨Nat.zero_le _, Nat.zero_le _⟩ dX6_atom4_89 (fun H locs X => ?_)
    refine lv_goto (tgt := 161) hx hb dX6_atom4_92 (by decide) ?_
    refine lv_iload_n hx hb dX6_atom4_161 rfl (lv_at hl 1 rfl) ?_
    exact retI C X hr rfl (so3 hf).1 (so3 hf).2.1 (so3 hf).2.2 dX6_atom4_162
set_option maxRecDepth 100000 in
set_option maxHeartbeats 4000000 in
theorem w6_atom4 {p : Program} {l : Launch} {e : Env} {s : State} {m : MethodId} {args : Array Value} {below : List Frame} {meth : Method} {c : Code} {D : va_G} {cy : Nat → ClassId} {ad : Nat → Nat} {r : Int32} {μ1 : Mem} {ν1 : Lem} (C : Cx false p s m args meth c cX6_atom4 2 RX6 D cy ad) (hr : meth.sig.returnType = some .int) : ∀ (μ : Mem) (ν : Lem), f6_atom4 μ ν = some (r, μ1, ν1) → ∀ (H : Heap) (locs : List Loc), Wd false D cy ad s.heap μ ν H locs → ∀ (ls : Array Slot), lv_has ls 2 [(0, .ref (ad 0))] → WI false p l e 10 223 s m args below meth c D cy ad .int r μ1 ν1 H locs (F0 m 0 ls []) := by
  have hx := C.1.1
  have hb := C.1.2.1
  have hown := C.1.2.2.2.1
  have hts := C.1.2.2.2.2
  intro μ ν hf H locs X ls hl
  unfold f6_atom4 at hf
  refine lv_iconst (v := 0) hx hb dX6_atom4_0 (by decide) ?_
  refine lv_istore_n (lv' := [(1, .int 0), (0, .ref (ad 0))]) hx hb dX6_atom4_1 rfl hl (by decide) rfl (fun ls hl => ?_)
  refine lv_aload_n hx hb dX6_atom4_2 rfl (lv_at hl 1 rfl) ?_
  refine lv_bipush (v := 45) hx hb dX6_atom4_3 (by decide) ?_
  refine qX6_202 rfl C X hl.1 ((Nat.le_of_ble_eq_true rfl)) ⟨(Nat.le_of_ble_eq_true rfl), (Nat.le_of_ble_eq_true rfl)⟩ ⟨Nat.zero_le _, Nat.zero_le _⟩ dX6_atom4_5 (fun H locs X b5 => ?_)
  refine lv_if_eq (tgt := 37) hx hb dX6_atom4_8 (by decide) (fun c8 => ?_) (fun c8 => ?_)
  · replace hf := ifp c8 hf
    refine lv_aload_n hx hb dX6_atom4_37 rfl (lv_at hl 1 rfl) ?_
    refine lv_bipush (v := 40) hx hb dX6_atom4_38 (by decide) ?_
    refine qX6_202 rfl C X hl.1 ((Nat.le_of_ble_eq_true rfl)) ⟨(Nat.le_of_ble_eq_true rfl), (Nat.le_of_ble_eq_true rfl)⟩ ⟨Nat.zero_le _, Nat.zero_le _⟩ dX6_atom4_40 (fun H locs X b40 => ?_)
    refine lv_if_eq (tgt := 95) hx hb dX6_atom4_43 (by decide) (fun c43 => ?_) (fun c43 => ?_)
    · replace hf := ifp c43 hf
      refine lv_aload_n hx hb dX6_atom4_95 rfl (lv_at hl 1 rfl) ?_
      refine gfX6_160 C X dX6_atom4_96 ?_
      refine lv_if_ne (tgt := 123) hx hb dX6_atom4_99 (by decide) (fun c99 => ?_) (fun c99 => ?_)
      · replace hf := ifn c99 hf
        exact w6_atom4_2 C hr  μ ν 0 hf _ _ X _ (lv_sub hl [1, 0] rfl)
      · replace hf := ifp c99 hf
        refine lv_aload_n hx hb dX6_atom4_102 rfl (lv_at hl 1 rfl) ?_
        refine gfX6_145 C X dX6_atom4_103 ?_
        refine lv_iconst (v := 2) hx hb dX6_atom4_106 (by decide) ?_
        refine lv_icmp_ne (tgt := 123) hx hb dX6_atom4_107 (by decide) (fun c107 => ?_) (fun c107 => ?_)
        · replace hf := ifn c107 hf
          exact w6_atom4_2 C hr  μ ν 0 hf _ _ X _ (lv_sub hl [1, 0] rfl)
        · replace hf := ifp c107 hf
          refine lv_aload_n hx hb dX6_atom4_110 rfl (lv_at hl 1 rfl) ?_
          refine gfX6_156 C X dX6_atom4_111 ?_
          refine lv_l2i hx hb dX6_atom4_114 rfl ?_
          obtain ⟨v115, e115, hf⟩ := nm_e2 hf
          refine st_i e115 ?_
          refine lv_istore_n (lv' := [(1, .int v115), (0, .ref (ad 0))]) hx hb dX6_atom4_115 rfl hl (by decide) rfl (fun ls hl => ?_)
          refine lv_aload_n hx hb dX6_atom4_116 rfl (lv_at hl 1 rfl) ?_
          obtain ⟨μ117, ν117, g117, hf⟩ := bd2_e hf
          refine qX6_177 g117 C X hl.1 ((Nat.le_of_ble_eq_true rfl)) ⟨(Nat.le_of_ble_eq_true rfl), (Nat.le_of_ble_eq_true rfl)⟩ ⟨Nat.zero_le _, Nat.zero_le _⟩ dX6_atom4_117 (fun H locs X => ?_)
          refine lv_goto (tgt := 161) hx hb dX6_atom4_120 (by decide) ?_
          refine lv_iload_n hx hb dX6_atom4_161 rfl (lv_at hl 0 rfl) ?_
          exact retI C X hr rfl (so3 hf).1 (so3 hf).2.1 (so3 hf).2.2 dX6_atom4_162
    · replace hf := ifn c43 hf
      refine lv_aload_n hx hb dX6_atom4_46 rfl (lv_at hl 1 rfl) ?_
      obtain ⟨r47, μ47, ν47, g47, hf⟩ := bd3_e hf
      refine qX6_205 g47 C X hl.1 ((Nat.le_of_ble_eq_true rfl)) ⟨(Nat.le_of_ble_eq_true rfl), (Nat.le_of_ble_eq_true rfl)⟩ ⟨Nat.zero_le _, Nat.zero_le _⟩ dX6_atom4_47 (fun H locs X b47 => ?_)
      refine lv_if_eq (tgt := 161) hx hb dX6_atom4_50 (by decide) (fun c50 => ?_) (fun c50 => ?_)
      · replace hf := ifp c50 hf
        refine lv_iload_n hx hb dX6_atom4_161 rfl (lv_at hl 0 rfl) ?_
        exact retI C X hr rfl (so3 hf).1 (so3 hf).2.1 (so3 hf).2.2 dX6_atom4_162
      · replace hf := ifn c50 hf
        refine lv_aload_n hx hb dX6_atom4_53 rfl (lv_at hl 1 rfl) ?_
        obtain ⟨r54, μ54, ν54, g54, hf⟩ := bd3_e hf
        refine qX6_232 g54 C X hl.1 ((Nat.le_of_ble_eq_true rfl)) ⟨(Nat.le_of_ble_eq_true rfl), (Nat.le_of_ble_eq_true rfl)⟩ ⟨Nat.zero_le _, Nat.zero_le _⟩ dX6_atom4_54 (fun H locs X b54 => ?_)
        refine lv_istore_n (lv' := [(1, .int r54), (0, .ref (ad 0))]) hx hb dX6_atom4_57 rfl hl (by decide) rfl (fun ls hl => ?_)
        refine lv_aload_n hx hb dX6_atom4_58 rfl (lv_at hl 1 rfl) ?_
        refine lv_bipush (v := 41) hx hb dX6_atom4_59 (by decide) ?_
        refine qX6_202 rfl C X hl.1 ((Nat.le_of_ble_eq_true rfl)) ⟨(Nat.le_of_ble_eq_true rfl), (Nat.le_of_ble_eq_true rfl)⟩ ⟨Nat.zero_le _, Nat.zero_le _⟩ dX6_atom4_61 (fun H locs X b61 => ?_)
        refine lv_if_ne (tgt := 71) hx hb dX6_atom4_64 (by decide) (fun c64 => ?_) (fun c64 => ?_)
        · replace hf := ifn c64 hf
          exact w6_atom4_1 C hr  μ54 ν54 r54 hf _ _ X _ (lv_sub hl [1, 0] rfl)
        · replace hf := ifp c64 hf
          refine lv_aload_n hx hb dX6_atom4_67 rfl (lv_at hl 1 rfl) ?_
          obtain ⟨μ68, ν68, g68, hf⟩ := pr2_e hf
          refine qX6_174 g68 C X hl.1 ((Nat.le_of_ble_eq_true rfl)) ⟨(Nat.le_of_ble_eq_true rfl), (Nat.le_of_ble_eq_true rfl)⟩ ⟨Nat.zero_le _, Nat.zero_le _⟩ dX6_atom4_68 (fun H locs X => ?_)
          exact w6_atom4_1 C hr  μ68 ν68 r54 hf _ _ X _ (lv_sub hl [1, 0] rfl)
  · replace hf := ifn c8 hf
    refine lv_aload_n hx hb dX6_atom4_11 rfl (lv_at hl 1 rfl) ?_
    obtain ⟨r12, μ12, ν12, g12, hf⟩ := bd3_e hf
    refine qX6_205 g12 C X hl.1 ((Nat.le_of_ble_eq_true rfl)) ⟨(Nat.le_of_ble_eq_true rfl), (Nat.le_of_ble_eq_true rfl)⟩ ⟨Nat.zero_le _, Nat.zero_le _⟩ dX6_atom4_12 (fun H locs X b12 => ?_)
    refine lv_if_eq (tgt := 161) hx hb dX6_atom4_15 (by decide) (fun c15 => ?_) (fun c15 => ?_)
    · replace hf := ifp c15 hf
      refine lv_iload_n hx hb dX6_atom4_161 rfl (lv_at hl 0 rfl) ?_
      exact retI C X hr rfl (so3 hf).1 (so3 hf).2.1 (so3 hf).2.2 dX6_atom4_162
    · replace hf := ifn c15 hf
      refine lv_aload_n hx hb dX6_atom4_18 rfl (lv_at hl 1 rfl) ?_
      obtain ⟨r19, μ19, ν19, g19, hf⟩ := bd3_e hf
      refine qX6_213 g19 C X hl.1 ((Nat.le_of_ble_eq_true rfl)) ⟨(Nat.le_of_ble_eq_true rfl), (Nat.le_of_ble_eq_true rfl)⟩ ⟨Nat.zero_le _, Nat.zero_le _⟩ dX6_atom4_19 (fun H locs X b19 => ?_)
      refine lv_ineg hx hb dX6_atom4_22 ?_
      obtain ⟨v23, e23, hf⟩ := nm_e2 hf
      refine st_i e23 ?_
      refine lv_istore_n (lv' := [(1, .int v23), (0, .ref (ad 0))]) hx hb dX6_atom4_23 rfl hl (by decide) rfl (fun ls hl => ?_)
      refine lv_aload_n hx hb dX6_atom4_24 rfl (lv_at hl 1 rfl) ?_
      refine lv_dup hx hb dX6_atom4_25 rfl ?_
      refine gfX6_171 C X dX6_atom4_26 ?_
      refine lv_iconst (v := 1) hx hb dX6_atom4_29 (by decide) ?_
      refine lv_isub hx hb dX6_atom4_30 ?_
      obtain ⟨μ31, e31, hf⟩ := nm_e2 hf
      refine pfX6_171 e31 C X dX6_atom4_31 (fun H locs X => ?_)
      refine lv_goto (tgt := 161) hx hb dX6_atom4_34 (by decide) ?_
      refine lv_iload_n hx hb dX6_atom4_161 rfl (lv_at hl 0 rfl) ?_
      exact retI C X hr rfl (so3 hf).1 (so3 hf).2.1 (so3 hf).2.2 dX6_atom4_162
theorem ct6_atom4 {μ : Mem} {ν : Lem} {r : Int32} {μ1 : Mem} {ν1 : Lem} (hg : f6_atom4 μ ν = some (r, μ1, ν1)) : CtI false yX6_atom4 cX6_atom4 2 10 223 .int (fun ad => [.ref (ad 0)]) μ ν r μ1 ν1 :=
  mkI (by decide) rfl (fun ad => Nat.le_of_ble_eq_true rfl) (fun p l e s m args below meth c D cy ad C hr X ls hl => w6_atom4 C hr μ ν hg _ _ X _ hl)
theorem qX6_235 {p : Program} {l : Launch} {e : Env} {R : Room} {s : State} {m : MethodId} {args : Array Value} {below : List Frame} {meth : Method} {c : Code} {H : Heap} {locs : List Loc} {cells slots : Nat} {Q : State → Prop} {A : Nat → Prop} {cc : ByteArray} {nL : Nat} {D : va_G} {cy : Nat → ClassId} {ad : Nat → Nat} {μ : Mem} {ν : Lem} {pc : Nat} {ls : Array Slot} {rest : List Value} {r : Int32} {μ1 : Mem} {ν1 : Lem} (hg : f6_atom4 μ ν = some (r, μ1, ν1)) (C : CxA false A p s m args meth c cc nL RX6 D cy ad) (X : WdA false A D cy ad s.heap μ ν H locs) (hsz : ls.size = nL) (hrm : (rest.map fun v => v.category).sum ≤ 8) (hR : 10 + 1 ≤ R.frames ∧ 8 + (2 + 11) + 223 ≤ R.locals) (hcs : cells ≤ R.cells ∧ slots ≤ R.slots) (hd : decode cc pc = .ok (.invokevirtual 235, 3)) (kk : ∀ (H1 : Heap) (locs1 : List Loc), WdA false A D cy ad s.heap μ1 ν1 H1 locs1 → narrow .int (.int r) = .int r → W p l e R s m args below meth c H1 locs1 cells slots Q (F0 m (pc + 3) ls (.int r :: rest))) : W p l e R s m args below meth c H locs cells slots Q (F0 m pc ls (.ref (ad 0) :: rest)) :=
  rCVI (As := []) (k := 0) (ct6_atom4 hg) ok6 lX6_atom4 k_1063 rfl rfl rfl C X rfl hrm hsz hR hcs hd kk
set_option maxRecDepth 100000 in
set_option maxHeartbeats 4000000 in
theorem w6_term4_1 {p : Program} {l : Launch} {e : Env} {s : State} {m : MethodId} {args : Array Value} {below : List Frame} {meth : Method} {c : Code} {D : va_G} {cy : Nat → ClassId} {ad : Nat → Nat} {r : Int32} {μ1 : Mem} {ν1 : Lem} (C : Cx false p s m args meth c cX6_term4 2 RX6 D cy ad) (hr : meth.sig.returnType = some .int) : ∀ (n : Nat), ∀ (μ : Mem) (ν : Lem) (x1 : Int32), f6_term4_1 n μ ν x1 = some (r, μ1, ν1) → ∀ (H : Heap) (locs : List Loc), Wd false D cy ad s.heap μ ν H locs → ∀ (ls : Array Slot), lv_has ls 2 [(0, .ref (ad 0)), (1, .int x1)] → WI false p l e 11 244 s m args below meth c D cy ad .int r μ1 ν1 H locs (F0 m 5 ls []) := by
  have hx := C.1.1
  have hb := C.1.2.1
  have hown := C.1.2.2.2.1
  have hts := C.1.2.2.2.2
  intro n
  induction n with
  | zero =>
    intro μ ν x1 hf H locs X ls hl
    rw [f6_term4_1] at hf
    cases hf
  | succ n ih =>
    intro μ ν x1 hf H locs X ls hl
    rw [f6_term4_1] at hf
    refine lv_aload_n hx hb dX6_term4_5 rfl (lv_at hl 0 rfl) ?_
    refine lv_bipush (v := 42) hx hb dX6_term4_6 (by decide) ?_
    refine qX6_202 rfl C X hl.1 ((Nat.le_of_ble_eq_true rfl)) ⟨(Nat.le_of_ble_eq_true rfl), (Nat.le_of_ble_eq_true rfl)⟩ ⟨Nat.zero_le _, Nat.zero_le _⟩ dX6_term4_8 (fun H locs X b8 => ?_)
    refine lv_if_eq (tgt := 28) hx hb dX6_term4_11 (by decide) (fun c11 => ?_) (fun c11 => ?_)
    · replace hf := ifp c11 hf
      refine lv_iload_n hx hb dX6_term4_28 rfl (lv_at hl 1 rfl) ?_
      exact retI C X hr rfl (so3 hf).1 (so3 hf).2.1 (so3 hf).2.2 dX6_term4_29
    · replace hf := ifn c11 hf
      refine lv_aload_n hx hb dX6_term4_14 rfl (lv_at hl 0 rfl) ?_
      obtain ⟨μ15, ν15, g15, hf⟩ := bd2_e hf
      refine qX6_177 g15 C X hl.1 ((Nat.le_of_ble_eq_true rfl)) ⟨(Nat.le_of_ble_eq_true rfl), (Nat.le_of_ble_eq_true rfl)⟩ ⟨Nat.zero_le _, Nat.zero_le _⟩ dX6_term4_15 (fun H locs X => ?_)
      refine lv_iload_n hx hb dX6_term4_18 rfl (lv_at hl 1 rfl) ?_
      refine lv_aload_n hx hb dX6_term4_19 rfl (lv_at hl 0 rfl) ?_
      obtain ⟨r20, μ20, ν20, g20, hf⟩ := bd3_e hf
      refine qX6_235 g20 C X hl.1 ((Nat.le_of_ble_eq_true rfl)) ⟨(Nat.le_of_ble_eq_true rfl), (Nat.le_of_ble_eq_true rfl)⟩ ⟨Nat.zero_le _, Nat.zero_le _⟩ dX6_term4_20 (fun H locs X b20 => ?_)
      refine lv_imul hx hb dX6_term4_23 ?_
      obtain ⟨v24, e24, hf⟩ := nm_e2 hf
      refine st_i e24 ?_
      refine lv_istore_n (lv' := [(1, .int v24), (0, .ref (ad 0))]) hx hb dX6_term4_24 rfl hl (by decide) rfl (fun ls hl => ?_)
      refine lv_goto (tgt := 5) hx hb dX6_term4_25 (by decide) ?_
      exact ih μ20 ν20 v24 hf _ _ X _ (lv_sub hl [1, 0] rfl)
set_option maxRecDepth 100000 in
set_option maxHeartbeats 4000000 in
theorem w6_term4 {p : Program} {l : Launch} {e : Env} {s : State} {m : MethodId} {args : Array Value} {below : List Frame} {meth : Method} {c : Code} {D : va_G} {cy : Nat → ClassId} {ad : Nat → Nat} {r : Int32} {μ1 : Mem} {ν1 : Lem} (C : Cx false p s m args meth c cX6_term4 2 RX6 D cy ad) (hr : meth.sig.returnType = some .int) : ∀ (μ : Mem) (ν : Lem), f6_term4 μ ν = some (r, μ1, ν1) → ∀ (H : Heap) (locs : List Loc), Wd false D cy ad s.heap μ ν H locs → ∀ (ls : Array Slot), lv_has ls 2 [(0, .ref (ad 0))] → WI false p l e 11 244 s m args below meth c D cy ad .int r μ1 ν1 H locs (F0 m 0 ls []) := by
  have hx := C.1.1
  have hb := C.1.2.1
  have hown := C.1.2.2.2.1
  have hts := C.1.2.2.2.2
  intro μ ν hf H locs X ls hl
  unfold f6_term4 at hf
  refine lv_aload_n hx hb dX6_term4_0 rfl (lv_at hl 0 rfl) ?_
  obtain ⟨r1, μ1, ν1, g1, hf⟩ := bd3_e hf
  refine qX6_235 g1 C X hl.1 ((Nat.le_of_ble_eq_true rfl)) ⟨(Nat.le_of_ble_eq_true rfl), (Nat.le_of_ble_eq_true rfl)⟩ ⟨Nat.zero_le _, Nat.zero_le _⟩ dX6_term4_1 (fun H locs X b1 => ?_)
  refine lv_istore_n (lv' := [(1, .int r1), (0, .ref (ad 0))]) hx hb dX6_term4_4 rfl hl (by decide) rfl (fun ls hl => ?_)
  exact w6_term4_1 C hr  FUEL μ1 ν1 r1 hf _ _ X _ (lv_sub hl [1, 0] rfl)
theorem ct6_term4 {μ : Mem} {ν : Lem} {r : Int32} {μ1 : Mem} {ν1 : Lem} (hg : f6_term4 μ ν = some (r, μ1, ν1)) : CtI false yX6_term4 cX6_term4 2 11 244 .int (fun ad => [.ref (ad 0)]) μ ν r μ1 ν1 :=
  mkI (by decide) rfl (fun ad => Nat.le_of_ble_eq_true rfl) (fun p l e s m args below meth c D cy ad C hr X ls hl => w6_term4 C hr μ ν hg _ _ X _ hl)
theorem qX6_238 {p : Program} {l : Launch} {e : Env} {R : Room} {s : State} {m : MethodId} {args : Array Value} {below : List Frame} {meth : Method} {c : Code} {H : Heap} {locs : List Loc} {cells slots : Nat} {Q : State → Prop} {A : Nat → Prop} {cc : ByteArray} {nL : Nat} {D : va_G} {cy : Nat → ClassId} {ad : Nat → Nat} {μ : Mem} {ν : Lem} {pc : Nat} {ls : Array Slot} {rest : List Value} {r : Int32} {μ1 : Mem} {ν1 : Lem} (hg : f6_term4 μ ν = some (r, μ1, ν1)) (C : CxA false A p s m args meth c cc nL RX6 D cy ad) (X : WdA false A D cy ad s.heap μ ν H locs) (hsz : ls.size = nL) (hrm : (rest.map fun v => v.category).sum ≤ 8) (hR : 11 + 1 ≤ R.frames ∧ 8 + (2 + 11) + 244 ≤ R.locals) (hcs : cells ≤ R.cells ∧ slots ≤ R.slots) (hd : decode cc pc = .ok (.invokevirtual 238, 3)) (kk : ∀ (H1 : Heap) (locs1 : List Loc), WdA false A D cy ad s.heap μ1 ν1 H1 locs1 → narrow .int (.int r) = .int r → W p l e R s m args below meth c H1 locs1 cells slots Q (F0 m (pc + 3) ls (.int r :: rest))) : W p l e R s m args below meth c H locs cells slots Q (F0 m pc ls (.ref (ad 0) :: rest)) :=
  rCVI (As := []) (k := 0) (ct6_term4 hg) ok6 lX6_term4 k_1059 rfl rfl rfl C X rfl hrm hsz hR hcs hd kk
set_option maxRecDepth 100000 in
set_option maxHeartbeats 4000000 in
theorem w6_added4_3 {p : Program} {l : Launch} {e : Env} {s : State} {m : MethodId} {args : Array Value} {below : List Frame} {meth : Method} {c : Code} {D : va_G} {cy : Nat → ClassId} {ad : Nat → Nat} {r : Int32} {μ1 : Mem} {ν1 : Lem} (C : Cx false p s m args meth c cX6_added4 4 RX6 D cy ad) (hr : meth.sig.returnType = some .int) (K5 : Mem → Lem → Int32 → Option (Int32 × Mem × Lem)) (hK5 : ∀ (μ : Mem) (ν : Lem) (x1 : Int32), K5 μ ν x1 = some (r, μ1, ν1) → ∀ (H : Heap) (locs : List Loc), Wd false D cy ad s.heap μ ν H locs → ∀ (ls : Array Slot), lv_has ls 4 [(0, .ref (ad 0)), (1, .int x1)] → WI false p l e 12 265 s m args below meth c D cy ad .int r μ1 ν1 H locs (F0 m 5 ls [])) : ∀ (μ : Mem) (ν : Lem) (x1 : Int32) (t0 : Int32), f6_added4_3 K5 μ ν x1 t0 = some (r, μ1, ν1) → ∀ (H : Heap) (locs : List Loc), Wd false D cy ad s.heap μ ν H locs → ∀ (ls : Array Slot), lv_has ls 4 [(0, .ref (ad 0)), (1, .int x1)] → WI false p l e 12 265 s m args below meth c D cy ad .int r μ1 ν1 H locs (F0 m 39 ls [.int t0]) := by
  have hx := C.1.1
  have hb := C.1.2.1
  have hown := C.1.2.2.2.1
  have hts := C.1.2.2.2.2
  intro μ ν x1 t0 hf H locs X ls hl
  unfold f6_added4_3 at hf
  refine lv_istore_n (lv' := [(2, .int t0), (0, .ref (ad 0)), (1, .int x1)]) hx hb dX6_added4_39 rfl hl (by decide) rfl (fun ls hl => ?_)
  refine lv_aload_n hx hb dX6_added4_40 rfl (lv_at hl 1 rfl) ?_
  obtain ⟨μ41, ν41, g41, hf⟩ := bd2_e hf
  refine qX6_177 g41 C X hl.1 ((Nat.le_of_ble_eq_true rfl)) ⟨(Nat.le_of_ble_eq_true rfl), (Nat.le_of_ble_eq_true rfl)⟩ ⟨Nat.zero_le _, Nat.zero_le _⟩ dX6_added4_41 (fun H locs X => ?_)
  refine lv_aload_n hx hb dX6_added4_44 rfl (lv_at hl 1 rfl) ?_
  obtain ⟨r45, μ45, ν45, g45, hf⟩ := bd3_e hf
  refine qX6_238 g45 C X hl.1 ((Nat.le_of_ble_eq_true rfl)) ⟨(Nat.le_of_ble_eq_true rfl), (Nat.le_of_ble_eq_true rfl)⟩ ⟨Nat.zero_le _, Nat.zero_le _⟩ dX6_added4_45 (fun H locs X b45 => ?_)
  refine lv_istore_n (lv' := [(3, .int r45), (2, .int t0), (0, .ref (ad 0)), (1, .int x1)]) hx hb dX6_added4_48 rfl hl (by decide) rfl (fun ls hl => ?_)
  refine lv_iload_n hx hb dX6_added4_49 rfl (lv_at hl 1 rfl) ?_
  refine lv_if_eq (tgt := 59) hx hb dX6_added4_50 (by decide) (fun c50 => ?_) (fun c50 => ?_)
  · replace hf := ifp c50 hf
    refine lv_iload_n hx hb dX6_added4_59 rfl (lv_at hl 3 rfl) ?_
    refine lv_iload_n hx hb dX6_added4_60 rfl (lv_at hl 0 rfl) ?_
    refine lv_isub hx hb dX6_added4_61 ?_
    obtain ⟨v62, e62, hf⟩ := nm_e2 hf
    refine st_i e62 ?_
    refine lv_istore_n (lv' := [(1, .int v62), (3, .int r45), (2, .int t0), (0, .ref (ad 0))]) hx hb dX6_added4_62 rfl hl (by decide) rfl (fun ls hl => ?_)
    refine lv_goto (tgt := 5) hx hb dX6_added4_63 (by decide) ?_
    exact hK5 μ45 ν45 v62 hf _ _ X _ (lv_sub hl [3, 0] rfl)
  · replace hf := ifn c50 hf
    refine lv_iload_n hx hb dX6_added4_53 rfl (lv_at hl 3 rfl) ?_
    refine lv_iload_n hx hb dX6_added4_54 rfl (lv_at hl 0 rfl) ?_
    refine lv_iadd hx hb dX6_added4_55 ?_
    refine lv_goto (tgt := 62) hx hb dX6_added4_56 (by decide) ?_
    obtain ⟨v62, e62, hf⟩ := nm_e2 hf
    refine st_i e62 ?_
    refine lv_istore_n (lv' := [(1, .int v62), (3, .int r45), (2, .int t0), (0, .ref (ad 0))]) hx hb dX6_added4_62 rfl hl (by decide) rfl (fun ls hl => ?_)
    refine lv_goto (tgt := 5) hx hb dX6_added4_63 (by decide) ?_
    exact hK5 μ45 ν45 v62 hf _ _ X _ (lv_sub hl [3, 0] rfl)
set_option maxRecDepth 100000 in
set_option maxHeartbeats 4000000 in
theorem w6_added4_2 {p : Program} {l : Launch} {e : Env} {s : State} {m : MethodId} {args : Array Value} {below : List Frame} {meth : Method} {c : Code} {D : va_G} {cy : Nat → ClassId} {ad : Nat → Nat} {r : Int32} {μ1 : Mem} {ν1 : Lem} (C : Cx false p s m args meth c cX6_added4 4 RX6 D cy ad) (hr : meth.sig.returnType = some .int) (K5 : Mem → Lem → Int32 → Option (Int32 × Mem × Lem)) (hK5 : ∀ (μ : Mem) (ν : Lem) (x1 : Int32), K5 μ ν x1 = some (r, μ1, ν1) → ∀ (H : Heap) (locs : List Loc), Wd false D cy ad s.heap μ ν H locs → ∀ (ls : Array Slot), lv_has ls 4 [(0, .ref (ad 0)), (1, .int x1)] → WI false p l e 12 265 s m args below meth c D cy ad .int r μ1 ν1 H locs (F0 m 5 ls [])) : ∀ (μ : Mem) (ν : Lem) (x1 : Int32), f6_added4_2 K5 μ ν x1 = some (r, μ1, ν1) → ∀ (H : Heap) (locs : List Loc), Wd false D cy ad s.heap μ ν H locs → ∀ (ls : Array Slot), lv_has ls 4 [(0, .ref (ad 0)), (1, .int x1)] → WI false p l e 12 265 s m args below meth c D cy ad .int r μ1 ν1 H locs (F0 m 23 ls []) := by
  have hx := C.1.1
  have hb := C.1.2.1
  have hown := C.1.2.2.2.1
  have hts := C.1.2.2.2.2
  intro μ ν x1 hf H locs X ls hl
  unfold f6_added4_2 at hf
  refine lv_aload_n hx hb dX6_added4_23 rfl (lv_at hl 0 rfl) ?_
  refine gfX6_156 C X dX6_added4_24 ?_
  refine lv_ldc2 (v := (43)) hx hb hown (hts _ k_1053) dX6_added4_27 ?_
  refine W.lcmp hx hb dX6_added4_30 ?_
  refine lv_if_ne (tgt := 38) hx hb dX6_added4_31 (by decide) (fun c31 => ?_) (fun c31 => ?_)
  · replace hf := ifn c31 hf
    refine lv_iconst (v := 0) hx hb dX6_added4_38 (by decide) ?_
    exact w6_added4_3 C hr K5 hK5 μ ν x1 0 hf _ _ X _ (lv_sub hl [0, 1] rfl)
  · replace hf := ifp c31 hf
    refine lv_iconst (v := 1) hx hb dX6_added4_34 (by decide) ?_
    refine lv_goto (tgt := 39) hx hb dX6_added4_35 (by decide) ?_
    exact w6_added4_3 C hr K5 hK5 μ ν x1 1 hf _ _ X _ (lv_sub hl [0, 1] rfl)
set_option maxRecDepth 100000 in
set_option maxHeartbeats 4000000 in
theorem w6_added4_1 {p : Program} {l : Launch} {e : Env} {s : State} {m : MethodId} {args : Array Value} {below : List Frame} {meth : Method} {c : Code} {D : va_G} {cy : Nat → ClassId} {ad : Nat → Nat} {r : Int32} {μ1 : Mem} {ν1 : Lem} (C : Cx false p s m args meth c cX6_added4 4 RX6 D cy ad) (hr : meth.sig.returnType = some .int) : ∀ (n : Nat), ∀ (μ : Mem) (ν : Lem) (x1 : Int32), f6_added4_1 n μ ν x1 = some (r, μ1, ν1) → ∀ (H : Heap) (locs : List Loc), Wd false D cy ad s.heap μ ν H locs → ∀ (ls : Array Slot), lv_has ls 4 [(0, .ref (ad 0)), (1, .int x1)] → WI false p l e 12 265 s m args below meth c D cy ad .int r μ1 ν1 H locs (F0 m 5 ls []) := by
  have hx := C.1.1
  have hb := C.1.2.1
  have hown := C.1.2.2.2.1
  have hts := C.1.2.2.2.2
  intro n
  induction n with
  | zero =>
    intro μ ν x1 hf H locs X ls hl
    rw [f6_added4_1] at hf
    cases hf
  | succ n ih =>
    intro μ ν x1 hf H locs X ls hl
    rw [f6_added4_1] at hf
    refine lv_aload_n hx hb dX6_added4_5 rfl (lv_at hl 0 rfl) ?_
    refine lv_bipush (v := 43) hx hb dX6_added4_6 (by decide) ?_
    refine qX6_202 rfl C X hl.1 ((Nat.le_of_ble_eq_true rfl)) ⟨(Nat.le_of_ble_eq_true rfl), (Nat.le_of_ble_eq_true rfl)⟩ ⟨Nat.zero_le _, Nat.zero_le _⟩ dX6_added4_8 (fun H locs X b8 => ?_)
    refine lv_if_ne (tgt := 23) hx hb dX6_added4_11 (by decide) (fun c11 => ?_) (fun c11 => ?_)
    · replace hf := ifn c11 hf
      exact w6_added4_2 C hr (f6_added4_1 n) ih μ ν x1 hf _ _ X _ (lv_sub hl [0, 1] rfl)
    · replace hf := ifp c11 hf
      refine lv_aload_n hx hb dX6_added4_14 rfl (lv_at hl 0 rfl) ?_
      refine lv_bipush (v := 45) hx hb dX6_added4_15 (by decide) ?_
      refine qX6_202 rfl C X hl.1 ((Nat.le_of_ble_eq_true rfl)) ⟨(Nat.le_of_ble_eq_true rfl), (Nat.le_of_ble_eq_true rfl)⟩ ⟨Nat.zero_le _, Nat.zero_le _⟩ dX6_added4_17 (fun H locs X b17 => ?_)
      refine lv_if_eq (tgt := 66) hx hb dX6_added4_20 (by decide) (fun c20 => ?_) (fun c20 => ?_)
      · replace hf := ifp c20 hf
        refine lv_iload_n hx hb dX6_added4_66 rfl (lv_at hl 1 rfl) ?_
        exact retI C X hr rfl (so3 hf).1 (so3 hf).2.1 (so3 hf).2.2 dX6_added4_67
      · replace hf := ifn c20 hf
        exact w6_added4_2 C hr (f6_added4_1 n) ih μ ν x1 hf _ _ X _ (lv_sub hl [0, 1] rfl)
set_option maxRecDepth 100000 in
set_option maxHeartbeats 4000000 in
theorem w6_added4 {p : Program} {l : Launch} {e : Env} {s : State} {m : MethodId} {args : Array Value} {below : List Frame} {meth : Method} {c : Code} {D : va_G} {cy : Nat → ClassId} {ad : Nat → Nat} {r : Int32} {μ1 : Mem} {ν1 : Lem} (C : Cx false p s m args meth c cX6_added4 4 RX6 D cy ad) (hr : meth.sig.returnType = some .int) : ∀ (μ : Mem) (ν : Lem), f6_added4 μ ν = some (r, μ1, ν1) → ∀ (H : Heap) (locs : List Loc), Wd false D cy ad s.heap μ ν H locs → ∀ (ls : Array Slot), lv_has ls 4 [(0, .ref (ad 0))] → WI false p l e 12 265 s m args below meth c D cy ad .int r μ1 ν1 H locs (F0 m 0 ls []) := by
  have hx := C.1.1
  have hb := C.1.2.1
  have hown := C.1.2.2.2.1
  have hts := C.1.2.2.2.2
  intro μ ν hf H locs X ls hl
  unfold f6_added4 at hf
  refine lv_aload_n hx hb dX6_added4_0 rfl (lv_at hl 0 rfl) ?_
  obtain ⟨r1, μ1, ν1, g1, hf⟩ := bd3_e hf
  refine qX6_238 g1 C X hl.1 ((Nat.le_of_ble_eq_true rfl)) ⟨(Nat.le_of_ble_eq_true rfl), (Nat.le_of_ble_eq_true rfl)⟩ ⟨Nat.zero_le _, Nat.zero_le _⟩ dX6_added4_1 (fun H locs X b1 => ?_)
  refine lv_istore_n (lv' := [(1, .int r1), (0, .ref (ad 0))]) hx hb dX6_added4_4 rfl hl (by decide) rfl (fun ls hl => ?_)
  exact w6_added4_1 C hr  FUEL μ1 ν1 r1 hf _ _ X _ (lv_sub hl [1, 0] rfl)
theorem ct6_added4 {μ : Mem} {ν : Lem} {r : Int32} {μ1 : Mem} {ν1 : Lem} (hg : f6_added4 μ ν = some (r, μ1, ν1)) : CtI false yX6_added4 cX6_added4 4 12 265 .int (fun ad => [.ref (ad 0)]) μ ν r μ1 ν1 :=
  mkI (by decide) rfl (fun ad => Nat.le_of_ble_eq_true rfl) (fun p l e s m args below meth c D cy ad C hr X ls hl => w6_added4 C hr μ ν hg _ _ X _ hl)
theorem qX6_241 {p : Program} {l : Launch} {e : Env} {R : Room} {s : State} {m : MethodId} {args : Array Value} {below : List Frame} {meth : Method} {c : Code} {H : Heap} {locs : List Loc} {cells slots : Nat} {Q : State → Prop} {A : Nat → Prop} {cc : ByteArray} {nL : Nat} {D : va_G} {cy : Nat → ClassId} {ad : Nat → Nat} {μ : Mem} {ν : Lem} {pc : Nat} {ls : Array Slot} {rest : List Value} {r : Int32} {μ1 : Mem} {ν1 : Lem} (hg : f6_added4 μ ν = some (r, μ1, ν1)) (C : CxA false A p s m args meth c cc nL RX6 D cy ad) (X : WdA false A D cy ad s.heap μ ν H locs) (hsz : ls.size = nL) (hrm : (rest.map fun v => v.category).sum ≤ 8) (hR : 12 + 1 ≤ R.frames ∧ 8 + (4 + 11) + 265 ≤ R.locals) (hcs : cells ≤ R.cells ∧ slots ≤ R.slots) (hd : decode cc pc = .ok (.invokevirtual 241, 3)) (kk : ∀ (H1 : Heap) (locs1 : List Loc), WdA false A D cy ad s.heap μ1 ν1 H1 locs1 → narrow .int (.int r) = .int r → W p l e R s m args below meth c H1 locs1 cells slots Q (F0 m (pc + 3) ls (.int r :: rest))) : W p l e R s m args below meth c H locs cells slots Q (F0 m pc ls (.ref (ad 0) :: rest)) :=
  rCVI (As := []) (k := 0) (ct6_added4 hg) ok6 lX6_added4 k_1055 rfl rfl rfl C X rfl hrm hsz hR hcs hd kk
set_option maxRecDepth 100000 in
set_option maxHeartbeats 4000000 in
theorem w6_not4_2 {p : Program} {l : Launch} {e : Env} {s : State} {m : MethodId} {args : Array Value} {below : List Frame} {meth : Method} {c : Code} {D : va_G} {cy : Nat → ClassId} {ad : Nat → Nat} {r : Int32} {μ1 : Mem} {ν1 : Lem} (C : Cx false p s m args meth c cX6_not4 4 RX6 D cy ad) (hr : meth.sig.returnType = some .int) : ∀ (μ : Mem) (ν : Lem) (x1 : Int32) (t0 : Int32), f6_not4_2 μ ν x1 t0 = some (r, μ1, ν1) → ∀ (H : Heap) (locs : List Loc), Wd false D cy ad s.heap μ ν H locs → ∀ (ls : Array Slot), lv_has ls 4 [(0, .ref (ad 0)), (1, .int x1)] → WI false p l e 13 288 s m args below meth c D cy ad .int r μ1 ν1 H locs (F0 m 93 ls [.int t0]) := by
  have hx := C.1.1
  have hb := C.1.2.1
  have hown := C.1.2.2.2.1
  have hts := C.1.2.2.2.2
  intro μ ν x1 t0 hf H locs X ls hl
  unfold f6_not4_2 at hf
  refine lv_istore_n (lv' := [(2, .int t0), (0, .ref (ad 0)), (1, .int x1)]) hx hb dX6_not4_93 rfl hl (by decide) rfl (fun ls hl => ?_)
  refine lv_aload_n hx hb dX6_not4_94 rfl (lv_at hl 1 rfl) ?_
  obtain ⟨μ95, ν95, g95, hf⟩ := bd2_e hf
  refine qX6_177 g95 C X hl.1 ((Nat.le_of_ble_eq_true rfl)) ⟨(Nat.le_of_ble_eq_true rfl), (Nat.le_of_ble_eq_true rfl)⟩ ⟨Nat.zero_le _, Nat.zero_le _⟩ dX6_not4_95 (fun H locs X => ?_)
  refine lv_aload_n hx hb dX6_not4_98 rfl (lv_at hl 1 rfl) ?_
  obtain ⟨r99, μ99, ν99, g99, hf⟩ := bd3_e hf
  refine qX6_241 g99 C X hl.1 ((Nat.le_of_ble_eq_true rfl)) ⟨(Nat.le_of_ble_eq_true rfl), (Nat.le_of_ble_eq_true rfl)⟩ ⟨Nat.zero_le _, Nat.zero_le _⟩ dX6_not4_99 (fun H locs X b99 => ?_)
  refine lv_istore_n (lv' := [(3, .int r99), (2, .int t0), (0, .ref (ad 0)), (1, .int x1)]) hx hb dX6_not4_102 rfl hl (by decide) rfl (fun ls hl => ?_)
  refine lv_iload_n hx hb dX6_not4_103 rfl (lv_at hl 1 rfl) ?_
  refine lv_if_eq (tgt := 115) hx hb dX6_not4_104 (by decide) (fun c104 => ?_) (fun c104 => ?_)
  · replace hf := ifp c104 hf
    refine lv_iload_n hx hb dX6_not4_115 rfl (lv_at hl 3 rfl) ?_
    refine lv_iload_n hx hb dX6_not4_116 rfl (lv_at hl 0 rfl) ?_
    refine lv_icmp_ne (tgt := 124) hx hb dX6_not4_117 (by decide) (fun c117 => ?_) (fun c117 => ?_)
    · replace hf := ifn c117 hf
      refine lv_iconst (v := 0) hx hb dX6_not4_124 (by decide) ?_
      exact retI C X hr rfl (so3 hf).1 (so3 hf).2.1 (so3 hf).2.2 dX6_not4_125
    · replace hf := ifp c117 hf
      refine lv_iconst (v := 1) hx hb dX6_not4_120 (by decide) ?_
      refine lv_goto (tgt := 125) hx hb dX6_not4_121 (by decide) ?_
      exact retI C X hr rfl (so3 hf).1 (so3 hf).2.1 (so3 hf).2.2 dX6_not4_125
  · replace hf := ifn c104 hf
    refine lv_iload_n hx hb dX6_not4_107 rfl (lv_at hl 3 rfl) ?_
    refine lv_iload_n hx hb dX6_not4_108 rfl (lv_at hl 0 rfl) ?_
    refine lv_icmp_ge (tgt := 124) hx hb dX6_not4_109 (by decide) (fun c109 => ?_) (fun c109 => ?_)
    · replace hf := ifp c109 hf
      refine lv_iconst (v := 0) hx hb dX6_not4_124 (by decide) ?_
      exact retI C X hr rfl (so3 hf).1 (so3 hf).2.1 (so3 hf).2.2 dX6_not4_125
    · replace hf := ifn c109 hf
      refine lv_goto (tgt := 120) hx hb dX6_not4_112 (by decide) ?_
      refine lv_iconst (v := 1) hx hb dX6_not4_120 (by decide) ?_
      refine lv_goto (tgt := 125) hx hb dX6_not4_121 (by decide) ?_
      exact retI C X hr rfl (so3 hf).1 (so3 hf).2.1 (so3 hf).2.2 dX6_not4_125
set_option maxRecDepth 100000 in
set_option maxHeartbeats 4000000 in
theorem w6_not4_1 {p : Program} {l : Launch} {e : Env} {s : State} {m : MethodId} {args : Array Value} {below : List Frame} {meth : Method} {c : Code} {D : va_G} {cy : Nat → ClassId} {ad : Nat → Nat} {r : Int32} {μ1 : Mem} {ν1 : Lem} (C : Cx false p s m args meth c cX6_not4 4 RX6 D cy ad) (hr : meth.sig.returnType = some .int) : ∀ (μ : Mem) (ν : Lem) (x1 : Int32), f6_not4_1 μ ν x1 = some (r, μ1, ν1) → ∀ (H : Heap) (locs : List Loc), Wd false D cy ad s.heap μ ν H locs → ∀ (ls : Array Slot), lv_has ls 4 [(0, .ref (ad 0)), (1, .int x1)] → WI false p l e 13 288 s m args below meth c D cy ad .int r μ1 ν1 H locs (F0 m 77 ls []) := by
  have hx := C.1.1
  have hb := C.1.2.1
  have hown := C.1.2.2.2.1
  have hts := C.1.2.2.2.2
  intro μ ν x1 hf H locs X ls hl
  unfold f6_not4_1 at hf
  refine lv_aload_n hx hb dX6_not4_77 rfl (lv_at hl 0 rfl) ?_
  refine gfX6_156 C X dX6_not4_78 ?_
  refine lv_ldc2 (v := (60)) hx hb hown (hts _ k_1054) dX6_not4_81 ?_
  refine W.lcmp hx hb dX6_not4_84 ?_
  refine lv_if_ne (tgt := 92) hx hb dX6_not4_85 (by decide) (fun c85 => ?_) (fun c85 => ?_)
  · replace hf := ifn c85 hf
    refine lv_iconst (v := 0) hx hb dX6_not4_92 (by decide) ?_
    exact w6_not4_2 C hr  μ ν x1 0 hf _ _ X _ (lv_sub hl [0, 1] rfl)
  · replace hf := ifp c85 hf
    refine lv_iconst (v := 1) hx hb dX6_not4_88 (by decide) ?_
    refine lv_goto (tgt := 93) hx hb dX6_not4_89 (by decide) ?_
    exact w6_not4_2 C hr  μ ν x1 1 hf _ _ X _ (lv_sub hl [0, 1] rfl)
set_option maxRecDepth 100000 in
set_option maxHeartbeats 4000000 in
theorem w6_not4 {p : Program} {l : Launch} {e : Env} {s : State} {m : MethodId} {args : Array Value} {below : List Frame} {meth : Method} {c : Code} {D : va_G} {cy : Nat → ClassId} {ad : Nat → Nat} {r : Int32} {μ1 : Mem} {ν1 : Lem} (C : Cx false p s m args meth c cX6_not4 4 RX6 D cy ad) (hr : meth.sig.returnType = some .int) : ∀ (μ : Mem) (ν : Lem), f6_not4 μ ν = some (r, μ1, ν1) → ∀ (H : Heap) (locs : List Loc), Wd false D cy ad s.heap μ ν H locs → ∀ (ls : Array Slot), lv_has ls 4 [(0, .ref (ad 0))] → WI false p l e 13 288 s m args below meth c D cy ad .int r μ1 ν1 H locs (F0 m 0 ls []) := by
  have hx := C.1.1
  have hb := C.1.2.1
  have hown := C.1.2.2.2.1
  have hts := C.1.2.2.2.2
  intro μ ν hf H locs X ls hl
  unfold f6_not4 at hf
  refine lv_aload_n hx hb dX6_not4_0 rfl (lv_at hl 0 rfl) ?_
  refine lv_bipush (v := 110) hx hb dX6_not4_1 (by decide) ?_
  refine lv_bipush (v := 111) hx hb dX6_not4_3 (by decide) ?_
  refine lv_bipush (v := 116) hx hb dX6_not4_5 (by decide) ?_
  refine lv_iconst (v := 0) hx hb dX6_not4_7 (by decide) ?_
  refine lv_iconst (v := 0) hx hb dX6_not4_8 (by decide) ?_
  refine lv_iconst (v := 0) hx hb dX6_not4_9 (by decide) ?_
  refine lv_iconst (v := 0) hx hb dX6_not4_10 (by decide) ?_
  refine lv_iconst (v := 0) hx hb dX6_not4_11 (by decide) ?_
  obtain ⟨r12, g12, hf⟩ := bd1_e hf
  refine qX6_180 g12 C X hl.1 ((Nat.le_of_ble_eq_true rfl)) ⟨(Nat.le_of_ble_eq_true rfl), (Nat.le_of_ble_eq_true rfl)⟩ ⟨Nat.zero_le _, Nat.zero_le _⟩ dX6_not4_12 (fun H locs X b12 => ?_)
  refine lv_if_eq (tgt := 52) hx hb dX6_not4_15 (by decide) (fun c15 => ?_) (fun c15 => ?_)
  · replace hf := ifp c15 hf
    refine lv_aload_n hx hb dX6_not4_52 rfl (lv_at hl 0 rfl) ?_
    obtain ⟨r53, μ53, ν53, g53, hf⟩ := bd3_e hf
    refine qX6_241 g53 C X hl.1 ((Nat.le_of_ble_eq_true rfl)) ⟨(Nat.le_of_ble_eq_true rfl), (Nat.le_of_ble_eq_true rfl)⟩ ⟨Nat.zero_le _, Nat.zero_le _⟩ dX6_not4_53 (fun H locs X b53 => ?_)
    refine lv_istore_n (lv' := [(1, .int r53), (0, .ref (ad 0))]) hx hb dX6_not4_56 rfl hl (by decide) rfl (fun ls hl => ?_)
    refine lv_aload_n hx hb dX6_not4_57 rfl (lv_at hl 1 rfl) ?_
    refine lv_bipush (v := 60) hx hb dX6_not4_58 (by decide) ?_
    refine qX6_202 rfl C X hl.1 ((Nat.le_of_ble_eq_true rfl)) ⟨(Nat.le_of_ble_eq_true rfl), (Nat.le_of_ble_eq_true rfl)⟩ ⟨Nat.zero_le _, Nat.zero_le _⟩ dX6_not4_60 (fun H locs X b60 => ?_)
    refine lv_if_ne (tgt := 77) hx hb dX6_not4_63 (by decide) (fun c63 => ?_) (fun c63 => ?_)
    · replace hf := ifn c63 hf
      exact w6_not4_1 C hr  μ53 ν53 r53 hf _ _ X _ (lv_sub hl [1, 0] rfl)
    · replace hf := ifp c63 hf
      refine lv_aload_n hx hb dX6_not4_66 rfl (lv_at hl 1 rfl) ?_
      refine lv_bipush (v := 61) hx hb dX6_not4_67 (by decide) ?_
      refine qX6_202 rfl C X hl.1 ((Nat.le_of_ble_eq_true rfl)) ⟨(Nat.le_of_ble_eq_true rfl), (Nat.le_of_ble_eq_true rfl)⟩ ⟨Nat.zero_le _, Nat.zero_le _⟩ dX6_not4_69 (fun H locs X b69 => ?_)
      refine lv_if_ne (tgt := 77) hx hb dX6_not4_72 (by decide) (fun c72 => ?_) (fun c72 => ?_)
      · replace hf := ifn c72 hf
        exact w6_not4_1 C hr  μ53 ν53 r53 hf _ _ X _ (lv_sub hl [1, 0] rfl)
      · replace hf := ifp c72 hf
        refine lv_iload_n hx hb dX6_not4_75 rfl (lv_at hl 0 rfl) ?_
        exact retI C X hr rfl (so3 hf).1 (so3 hf).2.1 (so3 hf).2.2 dX6_not4_76
  · replace hf := ifn c15 hf
    refine lv_aload_n hx hb dX6_not4_18 rfl (lv_at hl 0 rfl) ?_
    obtain ⟨r19, μ19, ν19, g19, hf⟩ := bd3_e hf
    refine qX6_205 g19 C X hl.1 ((Nat.le_of_ble_eq_true rfl)) ⟨(Nat.le_of_ble_eq_true rfl), (Nat.le_of_ble_eq_true rfl)⟩ ⟨Nat.zero_le _, Nat.zero_le _⟩ dX6_not4_19 (fun H locs X b19 => ?_)
    refine lv_if_ne (tgt := 27) hx hb dX6_not4_22 (by decide) (fun c22 => ?_) (fun c22 => ?_)
    · replace hf := ifn c22 hf
      refine lv_aload_n hx hb dX6_not4_27 rfl (lv_at hl 0 rfl) ?_
      obtain ⟨r28, μ28, ν28, g28, hf⟩ := bd3_e hf
      refine qX6_226 g28 C X hl.1 ((Nat.le_of_ble_eq_true rfl)) ⟨(Nat.le_of_ble_eq_true rfl), (Nat.le_of_ble_eq_true rfl)⟩ ⟨Nat.zero_le _, Nat.zero_le _⟩ dX6_not4_28 (fun H locs X b28 => ?_)
      refine lv_istore_n (lv' := [(1, .int r28), (0, .ref (ad 0))]) hx hb dX6_not4_31 rfl hl (by decide) rfl (fun ls hl => ?_)
      refine lv_aload_n hx hb dX6_not4_32 rfl (lv_at hl 1 rfl) ?_
      refine lv_dup hx hb dX6_not4_33 rfl ?_
      refine gfX6_171 C X dX6_not4_34 ?_
      refine lv_iconst (v := 1) hx hb dX6_not4_37 (by decide) ?_
      refine lv_isub hx hb dX6_not4_38 ?_
      obtain ⟨μ39, e39, hf⟩ := nm_e2 hf
      refine pfX6_171 e39 C X dX6_not4_39 (fun H locs X => ?_)
      refine lv_iload_n hx hb dX6_not4_42 rfl (lv_at hl 0 rfl) ?_
      refine lv_if_ne (tgt := 50) hx hb dX6_not4_43 (by decide) (fun c43 => ?_) (fun c43 => ?_)
      · replace hf := ifn c43 hf
        refine lv_iconst (v := 0) hx hb dX6_not4_50 (by decide) ?_
        exact retI C X hr rfl (so3 hf).1 (so3 hf).2.1 (so3 hf).2.2 dX6_not4_51
      · replace hf := ifp c43 hf
        refine lv_iconst (v := 1) hx hb dX6_not4_46 (by decide) ?_
        refine lv_goto (tgt := 51) hx hb dX6_not4_47 (by decide) ?_
        exact retI C X hr rfl (so3 hf).1 (so3 hf).2.1 (so3 hf).2.2 dX6_not4_51
    · replace hf := ifp c22 hf
      refine lv_iconst (v := 0) hx hb dX6_not4_25 (by decide) ?_
      exact retI C X hr rfl (so3 hf).1 (so3 hf).2.1 (so3 hf).2.2 dX6_not4_26
theorem ct6_not4 {μ : Mem} {ν : Lem} {r : Int32} {μ1 : Mem} {ν1 : Lem} (hg : f6_not4 μ ν = some (r, μ1, ν1)) : CtI false yX6_not4 cX6_not4 4 13 288 .int (fun ad => [.ref (ad 0)]) μ ν r μ1 ν1 :=
  mkI (by decide) rfl (fun ad => Nat.le_of_ble_eq_true rfl) (fun p l e s m args below meth c D cy ad C hr X ls hl => w6_not4 C hr μ ν hg _ _ X _ hl)
theorem qX6_244 {p : Program} {l : Launch} {e : Env} {R : Room} {s : State} {m : MethodId} {args : Array Value} {below : List Frame} {meth : Method} {c : Code} {H : Heap} {locs : List Loc} {cells slots : Nat} {Q : State → Prop} {A : Nat → Prop} {cc : ByteArray} {nL : Nat} {D : va_G} {cy : Nat → ClassId} {ad : Nat → Nat} {μ : Mem} {ν : Lem} {pc : Nat} {ls : Array Slot} {rest : List Value} {r : Int32} {μ1 : Mem} {ν1 : Lem} (hg : f6_not4 μ ν = some (r, μ1, ν1)) (C : CxA false A p s m args meth c cc nL RX6 D cy ad) (X : WdA false A D cy ad s.heap μ ν H locs) (hsz : ls.size = nL) (hrm : (rest.map fun v => v.category).sum ≤ 8) (hR : 13 + 1 ≤ R.frames ∧ 8 + (4 + 11) + 288 ≤ R.locals) (hcs : cells ≤ R.cells ∧ slots ≤ R.slots) (hd : decode cc pc = .ok (.invokevirtual 244, 3)) (kk : ∀ (H1 : Heap) (locs1 : List Loc), WdA false A D cy ad s.heap μ1 ν1 H1 locs1 → narrow .int (.int r) = .int r → W p l e R s m args below meth c H1 locs1 cells slots Q (F0 m (pc + 3) ls (.int r :: rest))) : W p l e R s m args below meth c H locs cells slots Q (F0 m pc ls (.ref (ad 0) :: rest)) :=
  rCVI (As := []) (k := 0) (ct6_not4 hg) ok6 lX6_not4 k_1025 rfl rfl rfl C X rfl hrm hsz hR hcs hd kk
set_option maxRecDepth 100000 in
set_option maxHeartbeats 4000000 in
theorem w6_both4_1 {p : Program} {l : Launch} {e : Env} {s : State} {m : MethodId} {args : Array Value} {below : List Frame} {meth : Method} {c : Code} {D : va_G} {cy : Nat → ClassId} {ad : Nat → Nat} {r : Int32} {μ1 : Mem} {ν1 : Lem} (C : Cx false p s m args meth c cX6_both4 3 RX6 D cy ad) (hr : meth.sig.returnType = some .int) : ∀ (n : Nat), ∀ (μ : Mem) (ν : Lem) (x1 : Int32), f6_both4_1 n μ ν x1 = some (r, μ1, ν1) → ∀ (H : Heap) (locs : List Loc), Wd false D cy ad s.heap μ ν H locs → ∀ (ls : Array Slot), lv_has ls 3 [(0, .ref (ad 0)), (1, .int x1)] → WI false p l e 14 311 s m args below meth c D cy ad .int r μ1 ν1 H locs (F0 m 5 ls []) := by
  have hx := C.1.1
  have hb := C.1.2.1
  have hown := C.1.2.2.2.1
  have hts := C.1.2.2.2.2
  intro n
  induction n with
  | zero =>
    intro μ ν x1 hf H locs X ls hl
    rw [f6_both4_1] at hf
    cases hf
  | succ n ih =>
    intro μ ν x1 hf H locs X ls hl
    rw [f6_both4_1] at hf
    refine lv_aload_n hx hb dX6_both4_5 rfl (lv_at hl 0 rfl) ?_
    refine lv_bipush (v := 97) hx hb dX6_both4_6 (by decide) ?_
    refine lv_bipush (v := 110) hx hb dX6_both4_8 (by decide) ?_
    refine lv_bipush (v := 100) hx hb dX6_both4_10 (by decide) ?_
    refine lv_iconst (v := 0) hx hb dX6_both4_12 (by decide) ?_
    refine lv_iconst (v := 0) hx hb dX6_both4_13 (by decide) ?_
    refine lv_iconst (v := 0) hx hb dX6_both4_14 (by decide) ?_
    refine lv_iconst (v := 0) hx hb dX6_both4_15 (by decide) ?_
    refine lv_iconst (v := 0) hx hb dX6_both4_16 (by decide) ?_
    obtain ⟨r17, g17, hf⟩ := bd1_e hf
    refine qX6_180 g17 C X hl.1 ((Nat.le_of_ble_eq_true rfl)) ⟨(Nat.le_of_ble_eq_true rfl), (Nat.le_of_ble_eq_true rfl)⟩ ⟨Nat.zero_le _, Nat.zero_le _⟩ dX6_both4_17 (fun H locs X b17 => ?_)
    refine lv_if_eq (tgt := 49) hx hb dX6_both4_20 (by decide) (fun c20 => ?_) (fun c20 => ?_)
    · replace hf := ifp c20 hf
      refine lv_iload_n hx hb dX6_both4_49 rfl (lv_at hl 1 rfl) ?_
      exact retI C X hr rfl (so3 hf).1 (so3 hf).2.1 (so3 hf).2.2 dX6_both4_50
    · replace hf := ifn c20 hf
      refine lv_aload_n hx hb dX6_both4_23 rfl (lv_at hl 0 rfl) ?_
      obtain ⟨μ24, ν24, g24, hf⟩ := bd2_e hf
      refine qX6_177 g24 C X hl.1 ((Nat.le_of_ble_eq_true rfl)) ⟨(Nat.le_of_ble_eq_true rfl), (Nat.le_of_ble_eq_true rfl)⟩ ⟨Nat.zero_le _, Nat.zero_le _⟩ dX6_both4_24 (fun H locs X => ?_)
      refine lv_aload_n hx hb dX6_both4_27 rfl (lv_at hl 0 rfl) ?_
      obtain ⟨r28, μ28, ν28, g28, hf⟩ := bd3_e hf
      refine qX6_244 g28 C X hl.1 ((Nat.le_of_ble_eq_true rfl)) ⟨(Nat.le_of_ble_eq_true rfl), (Nat.le_of_ble_eq_true rfl)⟩ ⟨Nat.zero_le _, Nat.zero_le _⟩ dX6_both4_28 (fun H locs X b28 => ?_)
      refine lv_istore_n (lv' := [(2, .int r28), (0, .ref (ad 0)), (1, .int x1)]) hx hb dX6_both4_31 rfl hl (by decide) rfl (fun ls hl => ?_)
      refine lv_iload_n hx hb dX6_both4_32 rfl (lv_at hl 2 rfl) ?_
      refine lv_if_eq (tgt := 44) hx hb dX6_both4_33 (by decide) (fun c33 => ?_) (fun c33 => ?_)
      · replace hf := ifp c33 hf
        refine lv_iconst (v := 0) hx hb dX6_both4_44 (by decide) ?_
        refine lv_istore_n (lv' := [(1, .int 0), (2, .int r28), (0, .ref (ad 0))]) hx hb dX6_both4_45 rfl hl (by decide) rfl (fun ls hl => ?_)
        refine lv_goto (tgt := 5) hx hb dX6_both4_46 (by decide) ?_
        exact ih μ28 ν28 0 hf _ _ X _ (lv_sub hl [2, 0] rfl)
      · replace hf := ifn c33 hf
        refine lv_iload_n hx hb dX6_both4_36 rfl (lv_at hl 0 rfl) ?_
        refine lv_if_eq (tgt := 44) hx hb dX6_both4_37 (by decide) (fun c37 => ?_) (fun c37 => ?_)
        · replace hf := ifp c37 hf
          refine lv_iconst (v := 0) hx hb dX6_both4_44 (by decide) ?_
          refine lv_istore_n (lv' := [(1, .int 0), (2, .int r28), (0, .ref (ad 0))]) hx hb dX6_both4_45 rfl hl (by decide) rfl (fun ls hl => ?_)
          refine lv_goto (tgt := 5) hx hb dX6_both4_46 (by decide) ?_
          exact ih μ28 ν28 0 hf _ _ X _ (lv_sub hl [2, 0] rfl)
        · replace hf := ifn c37 hf
          refine lv_iconst (v := 1) hx hb dX6_both4_40 (by decide) ?_
          refine lv_goto (tgt := 45) hx hb dX6_both4_41 (by decide) ?_
          refine lv_istore_n (lv' := [(1, .int 1), (2, .int r28), (0, .ref (ad 0))]) hx hb dX6_both4_45 rfl hl (by decide) rfl (fun ls hl => ?_)
          refine lv_goto (tgt := 5) hx hb dX6_both4_46 (by decide) ?_
          exact ih μ28 ν28 1 hf _ _ X _ (lv_sub hl [2, 0] rfl)
set_option maxRecDepth 100000 in
set_option maxHeartbeats 4000000 in
theorem w6_both4 {p : Program} {l : Launch} {e : Env} {s : State} {m : MethodId} {args : Array Value} {below : List Frame} {meth : Method} {c : Code} {D : va_G} {cy : Nat → ClassId} {ad : Nat → Nat} {r : Int32} {μ1 : Mem} {ν1 : Lem} (C : Cx false p s m args meth c cX6_both4 3 RX6 D cy ad) (hr : meth.sig.returnType = some .int) : ∀ (μ : Mem) (ν : Lem), f6_both4 μ ν = some (r, μ1, ν1) → ∀ (H : Heap) (locs : List Loc), Wd false D cy ad s.heap μ ν H locs → ∀ (ls : Array Slot), lv_has ls 3 [(0, .ref (ad 0))] → WI false p l e 14 311 s m args below meth c D cy ad .int r μ1 ν1 H locs (F0 m 0 ls []) := by
  have hx := C.1.1
  have hb := C.1.2.1
  have hown := C.1.2.2.2.1
  have hts := C.1.2.2.2.2
  intro μ ν hf H locs X ls hl
  unfold f6_both4 at hf
  refine lv_aload_n hx hb dX6_both4_0 rfl (lv_at hl 0 rfl) ?_
  obtain ⟨r1, μ1, ν1, g1, hf⟩ := bd3_e hf
  refine qX6_244 g1 C X hl.1 ((Nat.le_of_ble_eq_true rfl)) ⟨(Nat.le_of_ble_eq_true rfl), (Nat.le_of_ble_eq_true rfl)⟩ ⟨Nat.zero_le _, Nat.zero_le _⟩ dX6_both4_1 (fun H locs X b1 => ?_)
  refine lv_istore_n (lv' := [(1, .int r1), (0, .ref (ad 0))]) hx hb dX6_both4_4 rfl hl (by decide) rfl (fun ls hl => ?_)
  exact w6_both4_1 C hr  FUEL μ1 ν1 r1 hf _ _ X _ (lv_sub hl [1, 0] rfl)
theorem ct6_both4 {μ : Mem} {ν : Lem} {r : Int32} {μ1 : Mem} {ν1 : Lem} (hg : f6_both4 μ ν = some (r, μ1, ν1)) : CtI false yX6_both4 cX6_both4 3 14 311 .int (fun ad => [.ref (ad 0)]) μ ν r μ1 ν1 :=
  mkI (by decide) rfl (fun ad => Nat.le_of_ble_eq_true rfl) (fun p l e s m args below meth c D cy ad C hr X ls hl => w6_both4 C hr μ ν hg _ _ X _ hl)
theorem qX6_247 {p : Program} {l : Launch} {e : Env} {R : Room} {s : State} {m : MethodId} {args : Array Value} {below : List Frame} {meth : Method} {c : Code} {H : Heap} {locs : List Loc} {cells slots : Nat} {Q : State → Prop} {A : Nat → Prop} {cc : ByteArray} {nL : Nat} {D : va_G} {cy : Nat → ClassId} {ad : Nat → Nat} {μ : Mem} {ν : Lem} {pc : Nat} {ls : Array Slot} {rest : List Value} {r : Int32} {μ1 : Mem} {ν1 : Lem} (hg : f6_both4 μ ν = some (r, μ1, ν1)) (C : CxA false A p s m args meth c cc nL RX6 D cy ad) (X : WdA false A D cy ad s.heap μ ν H locs) (hsz : ls.size = nL) (hrm : (rest.map fun v => v.category).sum ≤ 8) (hR : 14 + 1 ≤ R.frames ∧ 8 + (3 + 11) + 311 ≤ R.locals) (hcs : cells ≤ R.cells ∧ slots ≤ R.slots) (hd : decode cc pc = .ok (.invokevirtual 247, 3)) (kk : ∀ (H1 : Heap) (locs1 : List Loc), WdA false A D cy ad s.heap μ1 ν1 H1 locs1 → narrow .int (.int r) = .int r → W p l e R s m args below meth c H1 locs1 cells slots Q (F0 m (pc + 3) ls (.int r :: rest))) : W p l e R s m args below meth c H locs cells slots Q (F0 m pc ls (.ref (ad 0) :: rest)) :=
  rCVI (As := []) (k := 0) (ct6_both4 hg) ok6 lX6_both4 k_1091 rfl rfl rfl C X rfl hrm hsz hR hcs hd kk
set_option maxRecDepth 100000 in
set_option maxHeartbeats 4000000 in
theorem w6_either4_1 {p : Program} {l : Launch} {e : Env} {s : State} {m : MethodId} {args : Array Value} {below : List Frame} {meth : Method} {c : Code} {D : va_G} {cy : Nat → ClassId} {ad : Nat → Nat} {r : Int32} {μ1 : Mem} {ν1 : Lem} (C : Cx false p s m args meth c cX6_either4 3 RX6 D cy ad) (hr : meth.sig.returnType = some .int) : ∀ (n : Nat), ∀ (μ : Mem) (ν : Lem) (x1 : Int32), f6_either4_1 n μ ν x1 = some (r, μ1, ν1) → ∀ (H : Heap) (locs : List Loc), Wd false D cy ad s.heap μ ν H locs → ∀ (ls : Array Slot), lv_has ls 3 [(0, .ref (ad 0)), (1, .int x1)] → WI false p l e 15 333 s m args below meth c D cy ad .int r μ1 ν1 H locs (F0 m 5 ls []) := by
  have hx := C.1.1
  have hb := C.1.2.1
  have hown := C.1.2.2.2.1
  have hts := C.1.2.2.2.2
  intro n
  induction n with
  | zero =>
    intro μ ν x1 hf H locs X ls hl
    rw [f6_either4_1] at hf
    cases hf
  | succ n ih =>
    intro μ ν x1 hf H locs X ls hl
    rw [f6_either4_1] at hf
    refine lv_aload_n hx hb dX6_either4_5 rfl (lv_at hl 0 rfl) ?_
    refine lv_bipush (v := 111) hx hb dX6_either4_6 (by decide) ?_
    refine lv_bipush (v := 114) hx hb dX6_either4_8 (by decide) ?_
    refine lv_iconst (v := 0) hx hb dX6_either4_10 (by decide) ?_
    refine lv_iconst (v := 0) hx hb dX6_either4_11 (by decide) ?_
    refine lv_iconst (v := 0) hx hb dX6_either4_12 (by decide) ?_
    refine lv_iconst (v := 0) hx hb dX6_either4_13 (by decide) ?_
    refine lv_iconst (v := 0) hx hb dX6_either4_14 (by decide) ?_
    refine lv_iconst (v := 0) hx hb dX6_either4_15 (by decide) ?_
    obtain ⟨r16, g16, hf⟩ := bd1_e hf
    refine qX6_180 g16 C X hl.1 ((Nat.le_of_ble_eq_true rfl)) ⟨(Nat.le_of_ble_eq_true rfl), (Nat.le_of_ble_eq_true rfl)⟩ ⟨Nat.zero_le _, Nat.zero_le _⟩ dX6_either4_16 (fun H locs X b16 => ?_)
    refine lv_if_eq (tgt := 48) hx hb dX6_either4_19 (by decide) (fun c19 => ?_) (fun c19 => ?_)
    · replace hf := ifp c19 hf
      refine lv_iload_n hx hb dX6_either4_48 rfl (lv_at hl 1 rfl) ?_
      exact retI C X hr rfl (so3 hf).1 (so3 hf).2.1 (so3 hf).2.2 dX6_either4_49
    · replace hf := ifn c19 hf
      refine lv_aload_n hx hb dX6_either4_22 rfl (lv_at hl 0 rfl) ?_
      obtain ⟨μ23, ν23, g23, hf⟩ := bd2_e hf
      refine qX6_177 g23 C X hl.1 ((Nat.le_of_ble_eq_true rfl)) ⟨(Nat.le_of_ble_eq_true rfl), (Nat.le_of_ble_eq_true rfl)⟩ ⟨Nat.zero_le _, Nat.zero_le _⟩ dX6_either4_23 (fun H locs X => ?_)
      refine lv_aload_n hx hb dX6_either4_26 rfl (lv_at hl 0 rfl) ?_
      obtain ⟨r27, μ27, ν27, g27, hf⟩ := bd3_e hf
      refine qX6_247 g27 C X hl.1 ((Nat.le_of_ble_eq_true rfl)) ⟨(Nat.le_of_ble_eq_true rfl), (Nat.le_of_ble_eq_true rfl)⟩ ⟨Nat.zero_le _, Nat.zero_le _⟩ dX6_either4_27 (fun H locs X b27 => ?_)
      refine lv_istore_n (lv' := [(2, .int r27), (0, .ref (ad 0)), (1, .int x1)]) hx hb dX6_either4_30 rfl hl (by decide) rfl (fun ls hl => ?_)
      refine lv_iload_n hx hb dX6_either4_31 rfl (lv_at hl 2 rfl) ?_
      refine lv_if_ne (tgt := 39) hx hb dX6_either4_32 (by decide) (fun c32 => ?_) (fun c32 => ?_)
      · replace hf := ifn c32 hf
        refine lv_iconst (v := 1) hx hb dX6_either4_39 (by decide) ?_
        refine lv_goto (tgt := 44) hx hb dX6_either4_40 (by decide) ?_
        refine lv_istore_n (lv' := [(1, .int 1), (2, .int r27), (0, .ref (ad 0))]) hx hb dX6_either4_44 rfl hl (by decide) rfl (fun ls hl => ?_)
        refine lv_goto (tgt := 5) hx hb dX6_either4_45 (by decide) ?_
        exact ih μ27 ν27 1 hf _ _ X _ (lv_sub hl [2, 0] rfl)
      · replace hf := ifp c32 hf
        refine lv_iload_n hx hb dX6_either4_35 rfl (lv_at hl 0 rfl) ?_
        refine lv_if_eq (tgt := 43) hx hb dX6_either4_36 (by decide) (fun c36 => ?_) (fun c36 => ?_)
        · replace hf := ifp c36 hf
          refine lv_iconst (v := 0) hx hb dX6_either4_43 (by decide) ?_
          refine lv_istore_n (lv' := [(1, .int 0), (2, .int r27), (0, .ref (ad 0))]) hx hb dX6_either4_44 rfl hl (by decide) rfl (fun ls hl => ?_)
          refine lv_goto (tgt := 5) hx hb dX6_either4_45 (by decide) ?_
          exact ih μ27 ν27 0 hf _ _ X _ (lv_sub hl [2, 0] rfl)
        · replace hf := ifn c36 hf
          refine lv_iconst (v := 1) hx hb dX6_either4_39 (by decide) ?_
          refine lv_goto (tgt := 44) hx hb dX6_either4_40 (by decide) ?_
          refine lv_istore_n (lv' := [(1, .int 1), (2, .int r27), (0, .ref (ad 0))]) hx hb dX6_either4_44 rfl hl (by decide) rfl (fun ls hl => ?_)
          refine lv_goto (tgt := 5) hx hb dX6_either4_45 (by decide) ?_
          exact ih μ27 ν27 1 hf _ _ X _ (lv_sub hl [2, 0] rfl)
set_option maxRecDepth 100000 in
set_option maxHeartbeats 4000000 in
theorem w6_either4 {p : Program} {l : Launch} {e : Env} {s : State} {m : MethodId} {args : Array Value} {below : List Frame} {meth : Method} {c : Code} {D : va_G} {cy : Nat → ClassId} {ad : Nat → Nat} {r : Int32} {μ1 : Mem} {ν1 : Lem} (C : Cx false p s m args meth c cX6_either4 3 RX6 D cy ad) (hr : meth.sig.returnType = some .int) : ∀ (μ : Mem) (ν : Lem), f6_either4 μ ν = some (r, μ1, ν1) → ∀ (H : Heap) (locs : List Loc), Wd false D cy ad s.heap μ ν H locs → ∀ (ls : Array Slot), lv_has ls 3 [(0, .ref (ad 0))] → WI false p l e 15 333 s m args below meth c D cy ad .int r μ1 ν1 H locs (F0 m 0 ls []) := by
  have hx := C.1.1
  have hb := C.1.2.1
  have hown := C.1.2.2.2.1
  have hts := C.1.2.2.2.2
  intro μ ν hf H locs X ls hl
  unfold f6_either4 at hf
  refine lv_aload_n hx hb dX6_either4_0 rfl (lv_at hl 0 rfl) ?_
  obtain ⟨r1, μ1, ν1, g1, hf⟩ := bd3_e hf
  refine qX6_247 g1 C X hl.1 ((Nat.le_of_ble_eq_true rfl)) ⟨(Nat.le_of_ble_eq_true rfl), (Nat.le_of_ble_eq_true rfl)⟩ ⟨Nat.zero_le _, Nat.zero_le _⟩ dX6_either4_1 (fun H locs X b1 => ?_)
  refine lv_istore_n (lv' := [(1, .int r1), (0, .ref (ad 0))]) hx hb dX6_either4_4 rfl hl (by decide) rfl (fun ls hl => ?_)
  exact w6_either4_1 C hr  FUEL μ1 ν1 r1 hf _ _ X _ (lv_sub hl [1, 0] rfl)
theorem ct6_either4 {μ : Mem} {ν : Lem} {r : Int32} {μ1 : Mem} {ν1 : Lem} (hg : f6_either4 μ ν = some (r, μ1, ν1)) : CtI false yX6_either4 cX6_either4 3 15 333 .int (fun ad => [.ref (ad 0)]) μ ν r μ1 ν1 :=
  mkI (by decide) rfl (fun ad => Nat.le_of_ble_eq_true rfl) (fun p l e s m args below meth c D cy ad C hr X ls hl => w6_either4 C hr μ ν hg _ _ X _ hl)
theorem qX6_250 {p : Program} {l : Launch} {e : Env} {R : Room} {s : State} {m : MethodId} {args : Array Value} {below : List Frame} {meth : Method} {c : Code} {H : Heap} {locs : List Loc} {cells slots : Nat} {Q : State → Prop} {A : Nat → Prop} {cc : ByteArray} {nL : Nat} {D : va_G} {cy : Nat → ClassId} {ad : Nat → Nat} {μ : Mem} {ν : Lem} {pc : Nat} {ls : Array Slot} {rest : List Value} {r : Int32} {μ1 : Mem} {ν1 : Lem} (hg : f6_either4 μ ν = some (r, μ1, ν1)) (C : CxA false A p s m args meth c cc nL RX6 D cy ad) (X : WdA false A D cy ad s.heap μ ν H locs) (hsz : ls.size = nL) (hrm : (rest.map fun v => v.category).sum ≤ 8) (hR : 15 + 1 ≤ R.frames ∧ 8 + (3 + 11) + 333 ≤ R.locals) (hcs : cells ≤ R.cells ∧ slots ≤ R.slots) (hd : decode cc pc = .ok (.invokevirtual 250, 3)) (kk : ∀ (H1 : Heap) (locs1 : List Loc), WdA false A D cy ad s.heap μ1 ν1 H1 locs1 → narrow .int (.int r) = .int r → W p l e R s m args below meth c H1 locs1 cells slots Q (F0 m (pc + 3) ls (.int r :: rest))) : W p l e R s m args below meth c H locs cells slots Q (F0 m pc ls (.ref (ad 0) :: rest)) :=
  rCVI (As := []) (k := 0) (ct6_either4 hg) ok6 lX6_either4 k_1087 rfl rfl rfl C X rfl hrm hsz hR hcs hd kk
