set_option maxRecDepth 100000 in
set_option maxHeartbeats 4000000 in
theorem w6_atom3_3 {p : Program} {l : Launch} {e : Env} {s : State} {m : MethodId} {args : Array Value} {below : List Frame} {meth : Method} {c : Code} {D : va_G} {cy : Nat → ClassId} {ad : Nat → Nat} {r : Int32} {μ1 : Mem} {ν1 : Lem} (C : Cx false p s m args meth c cX6_atom3 2 RX6 D cy ad) (hr : meth.sig.returnType = some .int) : ∀ (μ : Mem) (ν : Lem) (x1 : Int32), f6_atom3_3 μ ν x1 = some (r, μ1, ν1) → ∀ (H : Heap) (locs : List Loc), Wd false D cy ad s.heap μ ν H locs → ∀ (ls : Array Slot), lv_has ls 2 [(0, .ref (ad 0)), (1, .int x1)] → WI false p l e 16 355 s m args below meth c D cy ad .int r μ1 ν1 H locs (F0 m 157 ls []) := by
  have hx := C.1.1
  have hb := C.1.2.1
  have hown := C.1.2.2.2.1
  have hts := C.1.2.2.2.2
  intro μ ν x1 hf H locs X ls hl
  unfold f6_atom3_3 at hf
  refine lv_aload_n hx hb dX6_atom3_157 rfl (lv_at hl 0 rfl) ?_
  obtain ⟨μ158, ν158, g158, hf⟩ := pr2_e hf
  refine qX6_174 g158 C X hl.1 ((Nat.le_of_ble_eq_true rfl)) ⟨(Nat.le_of_ble_eq_true rfl), (Nat.le_of_ble_eq_true rfl)⟩ ⟨Nat.zero_le _, Nat.zero_le _⟩ dX6_atom3_158 (fun H locs X => ?_)
  refine lv_iload_n hx hb dX6_atom3_161 rfl (lv_at hl 1 rfl) ?_
  exact retI C X hr rfl (so3 hf).1 (so3 hf).2.1 (so3 hf).2.2 dX6_atom3_162
set_option maxRecDepth 100000 in
set_option maxHeartbeats 4000000 in
theorem w6_atom3_2 {p : Program} {l : Launch} {e : Env} {s : State} {m : MethodId} {args : Array Value} {below : List Frame} {meth : Method} {c : Code} {D : va_G} {cy : Nat → ClassId} {ad : Nat → Nat} {r : Int32} {μ1 : Mem} {ν1 : Lem} (C : Cx false p s m args meth c cX6_atom3 2 RX6 D cy ad) (hr : meth.sig.returnType = some .int) : ∀ (μ : Mem) (ν : Lem) (x1 : Int32), f6_atom3_2 μ ν x1 = some (r, μ1, ν1) → ∀ (H : Heap) (locs : List Loc), Wd false D cy ad s.heap μ ν H locs → ∀ (ls : Array Slot), lv_has ls 2 [(0, .ref (ad 0)), (1, .int x1)] → WI false p l e 16 355 s m args below meth c D cy ad .int r μ1 ν1 H locs (F0 m 123 ls []) := by
  have hx := C.1.1
  have hb := C.1.2.1
  have hown := C.1.2.2.2.1
  have hts := C.1.2.2.2.2
  intro μ ν x1 hf H locs X ls hl
  unfold f6_atom3_2 at hf
  refine lv_aload_n hx hb dX6_atom3_123 rfl (lv_at hl 0 rfl) ?_
  refine gfX6_160 C X dX6_atom3_124 ?_
  refine lv_if_ne (tgt := 157) hx hb dX6_atom3_127 (by decide) (fun c127 => ?_) (fun c127 => ?_)
  · replace hf := ifn c127 hf
    exact w6_atom3_3 C hr  μ ν x1 hf _ _ X _ (lv_sub hl [0, 1] rfl)
  · replace hf := ifp c127 hf
    refine lv_aload_n hx hb dX6_atom3_130 rfl (lv_at hl 0 rfl) ?_
    refine gfX6_145 C X dX6_atom3_131 ?_
    refine lv_iconst (v := 1) hx hb dX6_atom3_134 (by decide) ?_
    refine lv_icmp_ne (tgt := 157) hx hb dX6_atom3_135 (by decide) (fun c135 => ?_) (fun c135 => ?_)
    · replace hf := ifn c135 hf
      exact w6_atom3_3 C hr  μ ν x1 hf _ _ X _ (lv_sub hl [0, 1] rfl)
    · replace hf := ifp c135 hf
      refine lv_aload_n hx hb dX6_atom3_138 rfl (lv_at hl 0 rfl) ?_
      obtain ⟨r139, μ139, ν139, g139, hf⟩ := bd3_e hf
      refine qX6_209 g139 C X hl.1 ((Nat.le_of_ble_eq_true rfl)) ⟨(Nat.le_of_ble_eq_true rfl), (Nat.le_of_ble_eq_true rfl)⟩ ⟨Nat.zero_le _, Nat.zero_le _⟩ dX6_atom3_139 (fun H locs X b139 => ?_)
      refine lv_istore_n (lv' := [(1, .int r139), (0, .ref (ad 0))]) hx hb dX6_atom3_142 rfl hl (by decide) rfl (fun ls hl => ?_)
      refine lv_aload_n hx hb dX6_atom3_143 rfl (lv_at hl 1 rfl) ?_
      refine gfX6_160 C X dX6_atom3_144 ?_
      refine lv_if_ne (tgt := 161) hx hb dX6_atom3_147 (by decide) (fun c147 => ?_) (fun c147 => ?_)
      · replace hf := ifn c147 hf
        refine lv_iload_n hx hb dX6_atom3_161 rfl (lv_at hl 0 rfl) ?_
        exact retI C X hr rfl (so3 hf).1 (so3 hf).2.1 (so3 hf).2.2 dX6_atom3_162
      · replace hf := ifp c147 hf
        refine lv_aload_n hx hb dX6_atom3_150 rfl (lv_at hl 1 rfl) ?_
        obtain ⟨μ151, ν151, g151, hf⟩ := bd2_e hf
        refine qX6_177 g151 C X hl.1 ((Nat.le_of_ble_eq_true rfl)) ⟨(Nat.le_of_ble_eq_true rfl), (Nat.le_of_ble_eq_true rfl)⟩ ⟨Nat.zero_le _, Nat.zero_le _⟩ dX6_atom3_151 (fun H locs X => ?_)
        refine lv_goto (tgt := 161) hx hb dX6_atom3_154 (by decide) ?_
        refine lv_iload_n hx hb dX6_atom3_161 rfl (lv_at hl 0 rfl) ?_
        exact retI C X hr rfl (so3 hf).1 (so3 hf).2.1 (so3 hf).2.2 dX6_atom3_162
set_option maxRecDepth 100000 in
set_option maxHeartbeats 4000000 in
theorem w6_atom3_1 {p : Program} {l : Launch} {e : Env} {s : State} {m : MethodId} {args : Array Value} {below : List Frame} {meth : Method} {c : Code} {D : va_G} {cy : Nat → ClassId} {ad : Nat → Nat} {r : Int32} {μ1 : Mem} {ν1 : Lem} (C : Cx false p s m args meth c cX6_atom3 2 RX6 D cy ad) (hr : meth.sig.returnType = some .int) : ∀ (μ : Mem) (ν : Lem) (x1 : Int32), f6_atom3_1 μ ν x1 = some (r, μ1, ν1) → ∀ (H : Heap) (locs : List Loc), Wd false D cy ad s.heap μ ν H locs → ∀ (ls : Array Slot), lv_has ls 2 [(0, .ref (ad 0)), (1, .int x1)] → WI false p l e 16 355 s m args below meth c D cy ad .int r μ1 ν1 H locs (F0 m 71 ls []) := by
  have hx := C.1.1
  have hb := C.1.2.1
  have hown := C.1.2.2.2.1
  have hts := C.1.2.2.2.2
  intro μ ν x1 hf H locs X ls hl
  unfold f6_atom3_1 at hf
  refine lv_aload_n hx hb dX6_atom3_71 rfl (lv_at hl 0 rfl) ?_
  refine lv_dup hx hb dX6_atom3_72 rfl ?_
  refine gfX6_171 C X dX6_atom3_73 ?_
  refine lv_iconst (v := 1) hx hb dX6_atom3_76 (by decide) ?_
  refine lv_isub hx hb dX6_atom3_77 ?_
  obtain ⟨μ78, e78, hf⟩ := nm_e2 hf
  refine pfX6_171 e78 C X dX6_atom3_78 (fun H locs X => ?_)
  refine lv_aload_n hx hb dX6_atom3_81 rfl (lv_at hl 0 rfl) ?_
  refine gfX6_160 C X dX6_atom3_82 ?_
  refine lv_if_ne (tgt := 161) hx hb dX6_atom3_85 (by decide) (fun c85 => ?_) (fun c85 => ?_)
  · replace hf := ifn c85 hf
    refine lv_iload_n hx hb dX6_atom3_161 rfl (lv_at hl 1 rfl) ?_
    exact retI C X hr rfl (so3 hf).1 (so3 hf).2.1 (so3 hf).2.2 dX6_atom3_162
  · replace hf := ifp c85 hf
    refine lv_aload_n hx hb dX6_atom3_88 rfl (lv_at hl 0 rfl) ?_
    obtain ⟨μ89, ν89, g89, hf⟩ := bd2_e hf
    refine qX6_177 g89 C X hl.1 ((Nat.le_of_ble_eq_true rfl)) ⟨(Nat.le_of_ble_eq_true rfl), (Nat.le_of_ble_eq_true rfl)⟩ ⟨Nat.zero_le _, Nat.zero_le _⟩ dX6_atom3_89 (fun H locs X => ?_)
    refine lv_goto (tgt := 161) hx hb dX6_atom3_92 (by decide) ?_
    refine lv_iload_n hx hb dX6_atom3_161 rfl (lv_at hl 1 rfl) ?_
    exact retI C X hr rfl (so3 hf).1 (so3 hf).2.1 (so3 hf).2.2 dX6_atom3_162
set_option maxRecDepth 100000 in
set_option maxHeartbeats 4000000 in
theorem w6_atom3 {p : Program} {l : Launch} {e : Env} {s : State} {m : MethodId} {args : Array Value} {below : List Frame} {meth : Method} {c : Code} {D : va_G} {cy : Nat → ClassId} {ad : Nat → Nat} {r : Int32} {μ1 : Mem} {ν1 : Lem} (C : Cx false p s m args meth c cX6_atom3 2 RX6 D cy ad) (hr : meth.sig.returnType = some .int) : ∀ (μ : Mem) (ν : Lem), f6_atom3 μ ν = some (r, μ1, ν1) → ∀ (H : Heap) (locs : List Loc), Wd false D cy ad s.heap μ ν H locs → ∀ (ls : Array Slot), lv_has ls 2 [(0, .ref (ad 0))] → WI false p l e 16 355 s m args below meth c D cy ad .int r μ1 ν1 H locs (F0 m 0 ls []) := by
  have hx := C.1.1
  have hb := C.1.2.1
  have hown := C.1.2.2.2.1
  have hts := C.1.2.2.2.2
  intro μ ν hf H locs X ls hl
  unfold f6_atom3 at hf
  refine lv_iconst (v := 0) hx hb dX6_atom3_0 (by decide) ?_
  refine lv_istore_n (lv' := [(1, .int 0), (0, .ref (ad 0))]) hx hb dX6_atom3_1 rfl hl (by decide) rfl (fun ls hl => ?_)
  refine lv_aload_n hx hb dX6_atom3_2 rfl (lv_at hl 1 rfl) ?_
  refine lv_bipush (v := 45) hx hb dX6_atom3_3 (by decide) ?_
  refine qX6_202 rfl C X hl.1 ((Nat.le_of_ble_eq_true rfl)) ⟨(Nat.le_of_ble_eq_true rfl), (Nat.le_of_ble_eq_true rfl)⟩ ⟨Nat.zero_le _, Nat.zero_le _⟩ dX6_atom3_5 (fun H locs X b5 => ?_)
  refine lv_if_eq (tgt := 37) hx hb dX6_atom3_8 (by decide) (fun c8 => ?_) (fun c8 => ?_)
  · replace hf := ifp c8 hf
    refine lv_aload_n hx hb dX6_atom3_37 rfl (lv_at hl 1 rfl) ?_
    refine lv_bipush (v := 40) hx hb dX6_atom3_38 (by decide) ?_
    refine qX6_202 rfl C X hl.1 ((Nat.le_of_ble_eq_true rfl)) ⟨(Nat.le_of_ble_eq_true rfl), (Nat.le_of_ble_eq_true rfl)⟩ ⟨Nat.zero_le _, Nat.zero_le _⟩ dX6_atom3_40 (fun H locs X b40 => ?_)
    refine lv_if_eq (tgt := 95) hx hb dX6_atom3_43 (by decide) (fun c43 => ?_) (fun c43 => ?_)
    · replace hf := ifp c43 hf
      refine lv_aload_n hx hb dX6_atom3_95 rfl (lv_at hl 1 rfl) ?_
      refine gfX6_160 C X dX6_atom3_96 ?_
      refine lv_if_ne (tgt := 123) hx hb dX6_atom3_99 (by decide) (fun c99 => ?_) (fun c99 => ?_)
      · replace hf := ifn c99 hf
        exact w6_atom3_2 C hr  μ ν 0 hf _ _ X _ (lv_sub hl [1, 0] rfl)
      · replace hf := ifp c99 hf
        refine lv_aload_n hx hb dX6_atom3_102 rfl (lv_at hl 1 rfl) ?_
        refine gfX6_145 C X dX6_atom3_103 ?_
        refine lv_iconst (v := 2) hx hb dX6_atom3_106 (by decide) ?_
        refine lv_icmp_ne (tgt := 123) hx hb dX6_atom3_107 (by decide) (fun c107 => ?_) (fun c107 => ?_)
        · replace hf := ifn c107 hf
          exact w6_atom3_2 C hr  μ ν 0 hf _ _ X _ (lv_sub hl [1, 0] rfl)
        · replace hf := ifp c107 hf
          refine lv_aload_n hx hb dX6_atom3_110 rfl (lv_at hl 1 rfl) ?_
          refine gfX6_156 C X dX6_atom3_111 ?_
          refine lv_l2i hx hb dX6_atom3_114 rfl ?_
          obtain ⟨v115, e115, hf⟩ := nm_e2 hf
          refine st_i e115 ?_
          refine lv_istore_n (lv' := [(1, .int v115), (0, .ref (ad 0))]) hx hb dX6_atom3_115 rfl hl (by decide) rfl (fun ls hl => ?_)
          refine lv_aload_n hx hb dX6_atom3_116 rfl (lv_at hl 1 rfl) ?_
          obtain ⟨μ117, ν117, g117, hf⟩ := bd2_e hf
          refine qX6_177 g117 C X hl.1 ((Nat.le_of_ble_eq_true rfl)) ⟨(Nat.le_of_ble_eq_true rfl), (Nat.le_of_ble_eq_true rfl)⟩ ⟨Nat.zero_le _, Nat.zero_le _⟩ dX6_atom3_117 (fun H locs X => ?_)
          refine lv_goto (tgt := 161) hx hb dX6_atom3_120 (by decide) ?_
          refine lv_iload_n hx hb dX6_atom3_161 rfl (lv_at hl 0 rfl) ?_
          exact retI C X hr rfl (so3 hf).1 (so3 hf).2.1 (so3 hf).2.2 dX6_atom3_162
    · replace hf := ifn c43 hf
      refine lv_aload_n hx hb dX6_atom3_46 rfl (lv_at hl 1 rfl) ?_
      obtain ⟨r47, μ47, ν47, g47, hf⟩ := bd3_e hf
      refine qX6_205 g47 C X hl.1 ((Nat.le_of_ble_eq_true rfl)) ⟨(Nat.le_of_ble_eq_true rfl), (Nat.le_of_ble_eq_true rfl)⟩ ⟨Nat.zero_le _, Nat.zero_le _⟩ dX6_atom3_47 (fun H locs X b47 => ?_)
      refine lv_if_eq (tgt := 161) hx hb dX6_atom3_50 (by decide) (fun c50 => ?_) (fun c50 => ?_)
      · replace hf := ifp c50 hf
        refine lv_iload_n hx hb dX6_atom3_161 rfl (lv_at hl 0 rfl) ?_
        exact retI C X hr rfl (so3 hf).1 (so3 hf).2.1 (so3 hf).2.2 dX6_atom3_162
      · replace hf := ifn c50 hf
        refine lv_aload_n hx hb dX6_atom3_53 rfl (lv_at hl 1 rfl) ?_
        obtain ⟨r54, μ54, ν54, g54, hf⟩ := bd3_e hf
        refine qX6_250 g54 C X hl.1 ((Nat.le_of_ble_eq_true rfl)) ⟨(Nat.le_of_ble_eq_true rfl), (Nat.le_of_ble_eq_true rfl)⟩ ⟨Nat.zero_le _, Nat.zero_le _⟩ dX6_atom3_54 (fun H locs X b54 => ?_)
        refine lv_istore_n (lv' := [(1, .int r54), (0, .ref (ad 0))]) hx hb dX6_atom3_57 rfl hl (by decide) rfl (fun ls hl => ?_)
        refine lv_aload_n hx hb dX6_atom3_58 rfl (lv_at hl 1 rfl) ?_
        refine lv_bipush (v := 41) hx hb dX6_atom3_59 (by decide) ?_
        refine qX6_202 rfl C X hl.1 ((Nat.le_of_ble_eq_true rfl)) ⟨(Nat.le_of_ble_eq_true rfl), (Nat.le_of_ble_eq_true rfl)⟩ ⟨Nat.zero_le _, Nat.zero_le _⟩ dX6_atom3_61 (fun H locs X b61 => ?_)
        refine lv_if_ne (tgt := 71) hx hb dX6_atom3_64 (by decide) (fun c64 => ?_) (fun c64 => ?_)
        · replace hf := ifn c64 hf
          exact w6_atom3_1 C hr  μ54 ν54 r54 hf _ _ X _ (lv_sub hl [1, 0] rfl)
        · replace hf := ifp c64 hf
          refine lv_aload_n hx hb dX6_atom3_67 rfl (lv_at hl 1 rfl) ?_
          obtain ⟨μ68, ν68, g68, hf⟩ := pr2_e hf
          refine qX6_174 g68 C X hl.1 ((Nat.le_of_ble_eq_true rfl)) ⟨(Nat.le_of_ble_eq_true rfl), (Nat.le_of_ble_eq_true rfl)⟩ ⟨Nat.zero_le _, Nat.zero_le _⟩ dX6_atom3_68 (fun H locs X => ?_)
          exact w6_atom3_1 C hr  μ68 ν68 r54 hf _ _ X _ (lv_sub hl [1, 0] rfl)
  · replace hf := ifn c8 hf
    refine lv_aload_n hx hb dX6_atom3_11 rfl (lv_at hl 1 rfl) ?_
    obtain ⟨r12, μ12, ν12, g12, hf⟩ := bd3_e hf
    refine qX6_205 g12 C X hl.1 ((Nat.le_of_ble_eq_true rfl)) ⟨(Nat.le_of_ble_eq_true rfl), (Nat.le_of_ble_eq_true rfl)⟩ ⟨Nat.zero_le _, Nat.zero_le _⟩ dX6_atom3_12 (fun H locs X b12 => ?_)
    refine lv_if_eq (tgt := 161) hx hb dX6_atom3_15 (by decide) (fun c15 => ?_) (fun c15 => ?_)
    · replace hf := ifp c15 hf
      refine lv_iload_n hx hb dX6_atom3_161 rfl (lv_at hl 0 rfl) ?_
      exact retI C X hr rfl (so3 hf).1 (so3 hf).2.1 (so3 hf).2.2 dX6_atom3_162
    · replace hf := ifn c15 hf
      refine lv_aload_n hx hb dX6_atom3_18 rfl (lv_at hl 1 rfl) ?_
      obtain ⟨r19, μ19, ν19, g19, hf⟩ := bd3_e hf
      refine qX6_235 g19 C X hl.1 ((Nat.le_of_ble_eq_true rfl)) ⟨(Nat.le_of_ble_eq_true rfl), (Nat.le_of_ble_eq_true rfl)⟩ ⟨Nat.zero_le _, Nat.zero_le _⟩ dX6_atom3_19 (fun H locs X b19 => ?_)
      refine lv_ineg hx hb dX6_atom3_22 ?_
      obtain ⟨v23, e23, hf⟩ := nm_e2 hf
      refine st_i e23 ?_
      refine lv_istore_n (lv' := [(1, .int v23), (0, .ref (ad 0))]) hx hb dX6_atom3_23 rfl hl (by decide) rfl (fun ls hl => ?_)
      refine lv_aload_n hx hb dX6_atom3_24 rfl (lv_at hl 1 rfl) ?_
      refine lv_dup hx hb dX6_atom3_25 rfl ?_
      refine gfX6_171 C X dX6_atom3_26 ?_
      refine lv_iconst (v := 1) hx hb dX6_atom3_29 (by decide) ?_
      refine lv_isub hx hb dX6_atom3_30 ?_
      obtain ⟨μ31, e31, hf⟩ := nm_e2 hf
      refine pfX6_171 e31 C X dX6_atom3_31 (fun H locs X => ?_)
      refine lv_goto (tgt := 161) hx hb dX6_atom3_34 (by decide) ?_
      refine lv_iload_n hx hb dX6_atom3_161 rfl (lv_at hl 0 rfl) ?_
      exact retI C X hr rfl (so3 hf).1 (so3 hf).2.1 (so3 hf).2.2 dX6_atom3_162
theorem ct6_atom3 {μ : Mem} {ν : Lem} {r : Int32} {μ1 : Mem} {ν1 : Lem} (hg : f6_atom3 μ ν = some (r, μ1, ν1)) : CtI false yX6_atom3 cX6_atom3 2 16 355 .int (fun ad => [.ref (ad 0)]) μ ν r μ1 ν1 :=
  mkI (by decide) rfl (fun ad => Nat.le_of_ble_eq_true rfl) (fun p l e s m args below meth c D cy ad C hr X ls hl => w6_atom3 C hr μ ν hg _ _ X _ hl)
theorem qX6_253 {p : Program} {l : Launch} {e : Env} {R : Room} {s : State} {m : MethodId} {args : Array Value} {below : List Frame} {meth : Method} {c : Code} {H : Heap} {locs : List Loc} {cells slots : Nat} {Q : State → Prop} {A : Nat → Prop} {cc : ByteArray} {nL : Nat} {D : va_G} {cy : Nat → ClassId} {ad : Nat → Nat} {μ : Mem} {ν : Lem} {pc : Nat} {ls : Array Slot} {rest : List Value} {r : Int32} {μ1 : Mem} {ν1 : Lem} (hg : f6_atom3 μ ν = some (r, μ1, ν1)) (C : CxA false A p s m args meth c cc nL RX6 D cy ad) (X : WdA false A D cy ad s.heap μ ν H locs) (hsz : ls.size = nL) (hrm : (rest.map fun v => v.category).sum ≤ 8) (hR : 16 + 1 ≤ R.frames ∧ 8 + (2 + 11) + 355 ≤ R.locals) (hcs : cells ≤ R.cells ∧ slots ≤ R.slots) (hd : decode cc pc = .ok (.invokevirtual 253, 3)) (kk : ∀ (H1 : Heap) (locs1 : List Loc), WdA false A D cy ad s.heap μ1 ν1 H1 locs1 → narrow .int (.int r) = .int r → W p l e R s m args below meth c H1 locs1 cells slots Q (F0 m (pc + 3) ls (.int r :: rest))) : W p l e R s m args below meth c H locs cells slots Q (F0 m pc ls (.ref (ad 0) :: rest)) :=
  rCVI (As := []) (k := 0) (ct6_atom3 hg) ok6 lX6_atom3 k_1083 rfl rfl rfl C X rfl hrm hsz hR hcs hd kk
set_option maxRecDepth 100000 in
set_option maxHeartbeats 4000000 in
theorem w6_term3_1 {p : Program} {l : Launch} {e : Env} {s : State} {m : MethodId} {args : Array Value} {below : List Frame} {meth : Method} {c : Code} {D : va_G} {cy : Nat → ClassId} {ad : Nat → Nat} {r : Int32} {μ1 : Mem} {ν1 : Lem} (C : Cx false p s m args meth c cX6_term3 2 RX6 D cy ad) (hr : meth.sig.returnType = some .int) : ∀ (n : Nat), ∀ (μ : Mem) (ν : Lem) (x1 : Int32), f6_term3_1 n μ ν x1 = some (r, μ1, ν1) → ∀ (H : Heap) (locs : List Loc), Wd false D cy ad s.heap μ ν H locs → ∀ (ls : Array Slot), lv_has ls 2 [(0, .ref (ad 0)), (1, .int x1)] → WI false p l e 17 376 s m args below meth c D cy ad .int r μ1 ν1 H locs (F0 m 5 ls []) := by
  have hx := C.1.1
  have hb := C.1.2.1
  have hown := C.1.2.2.2.1
  have hts := C.1.2.2.2.2
  intro n
  induction n with
  | zero =>
    intro μ ν x1 hf H locs X ls hl
    rw [f6_term3_1] at hf
    cases hf
  | succ n ih =>
    intro μ ν x1 hf H locs X ls hl
    rw [f6_term3_1] at hf
    refine lv_aload_n hx hb dX6_term3_5 rfl (lv_at hl 0 rfl) ?_
    refine lv_bipush (v := 42) hx hb dX6_term3_6 (by decide) ?_
    refine qX6_202 rfl C X hl.1 ((Nat.le_of_ble_eq_true rfl)) ⟨(Nat.le_of_ble_eq_true rfl), (Nat.le_of_ble_eq_true rfl)⟩ ⟨Nat.zero_le _, Nat.zero_le _⟩ dX6_term3_8 (fun H locs X b8 => ?_)
    refine lv_if_eq (tgt := 28) hx hb dX6_term3_11 (by decide) (fun c11 => ?_) (fun c11 => ?_)
    · replace hf := ifp c11 hf
      refine lv_iload_n hx hb dX6_term3_28 rfl (lv_at hl 1 rfl) ?_
      exact retI C X hr rfl (so3 hf).1 (so3 hf).2.1 (so3 hf).2.2 dX6_term3_29
    · replace hf := ifn c11 hf
      refine lv_aload_n hx hb dX6_term3_14 rfl (lv_at hl 0 rfl) ?_
      obtain ⟨μ15, ν15, g15, hf⟩ := bd2_e hf
      refine qX6_177 g15 C X hl.1 ((Nat.le_of_ble_eq_true rfl)) ⟨(Nat.le_of_ble_eq_true rfl), (Nat.le_of_ble_eq_true rfl)⟩ ⟨Nat.zero_le _, Nat.zero_le _⟩ dX6_term3_15 (fun H locs X => ?_)
      refine lv_iload_n hx hb dX6_term3_18 rfl (lv_at hl 1 rfl) ?_
      refine lv_aload_n hx hb dX6_term3_19 rfl (lv_at hl 0 rfl) ?_
      obtain ⟨r20, μ20, ν20, g20, hf⟩ := bd3_e hf
      refine qX6_253 g20 C X hl.1 ((Nat.le_of_ble_eq_true rfl)) ⟨(Nat.le_of_ble_eq_true rfl), (Nat.le_of_ble_eq_true rfl)⟩ ⟨Nat.zero_le _, Nat.zero_le _⟩ dX6_term3_20 (fun H locs X b20 => ?_)
      refine lv_imul hx hb dX6_term3_23 ?_
      obtain ⟨v24, e24, hf⟩ := nm_e2 hf
      refine st_i e24 ?_
      refine lv_istore_n (lv' := [(1, .int v24), (0, .ref (ad 0))]) hx hb dX6_term3_24 rfl hl (by decide) rfl (fun ls hl => ?_)
      refine lv_goto (tgt := 5) hx hb dX6_term3_25 (by decide) ?_
      exact ih μ20 ν20 v24 hf _ _ X _ (lv_sub hl [1, 0] rfl)
set_option maxRecDepth 100000 in
set_option maxHeartbeats 4000000 in
theorem w6_term3 {p : Program} {l : Launch} {e : Env} {s : State} {m : MethodId} {args : Array Value} {below : List Frame} {meth : Method} {c : Code} {D : va_G} {cy : Nat → ClassId} {ad : Nat → Nat} {r : Int32} {μ1 : Mem} {ν1 : Lem} (C : Cx false p s m args meth c cX6_term3 2 RX6 D cy ad) (hr : meth.sig.returnType = some .int) : ∀ (μ : Mem) (ν : Lem), f6_term3 μ ν = some (r, μ1, ν1) → ∀ (H : Heap) (locs : List Loc), Wd false D cy ad s.heap μ ν H locs → ∀ (ls : Array Slot), lv_has ls 2 [(0, .ref (ad 0))] → WI false p l e 17 376 s m args below meth c D cy ad .int r μ1 ν1 H locs (F0 m 0 ls []) := by
  have hx := C.1.1
  have hb := C.1.2.1
  have hown := C.1.2.2.2.1
  have hts := C.1.2.2.2.2
  intro μ ν hf H locs X ls hl
  unfold f6_term3 at hf
  refine lv_aload_n hx hb dX6_term3_0 rfl (lv_at hl 0 rfl) ?_
  obtain ⟨r1, μ1, ν1, g1, hf⟩ := bd3_e hf
  refine qX6_253 g1 C X hl.1 ((Nat.le_of_ble_eq_true rfl)) ⟨(Nat.le_of_ble_eq_true rfl), (Nat.le_of_ble_eq_true rfl)⟩ ⟨Nat.zero_le _, Nat.zero_le _⟩ dX6_term3_1 (fun H locs X b1 => ?_)
  refine lv_istore_n (lv' := [(1, .int r1), (0, .ref (ad 0))]) hx hb dX6_term3_4 rfl hl (by decide) rfl (fun ls hl => ?_)
  exact w6_term3_1 C hr  FUEL μ1 ν1 r1 hf _ _ X _ (lv_sub hl [1, 0] rfl)
theorem ct6_term3 {μ : Mem} {ν : Lem} {r : Int32} {μ1 : Mem} {ν1 : Lem} (hg : f6_term3 μ ν = some (r, μ1, ν1)) : CtI false yX6_term3 cX6_term3 2 17 376 .int (fun ad => [.ref (ad 0)]) μ ν r μ1 ν1 :=
  mkI (by decide) rfl (fun ad => Nat.le_of_ble_eq_true rfl) (fun p l e s m args below meth c D cy ad C hr X ls hl => w6_term3 C hr μ ν hg _ _ X _ hl)
theorem qX6_256 {p : Program} {l : Launch} {e : Env} {R : Room} {s : State} {m : MethodId} {args : Array Value} {below : List Frame} {meth : Method} {c : Code} {H : Heap} {locs : List Loc} {cells slots : Nat} {Q : State → Prop} {A : Nat → Prop} {cc : ByteArray} {nL : Nat} {D : va_G} {cy : Nat → ClassId} {ad : Nat → Nat} {μ : Mem} {ν : Lem} {pc : Nat} {ls : Array Slot} {rest : List Value} {r : Int32} {μ1 : Mem} {ν1 : Lem} (hg : f6_term3 μ ν = some (r, μ1, ν1)) (C : CxA false A p s m args meth c cc nL RX6 D cy ad) (X : WdA false A D cy ad s.heap μ ν H locs) (hsz : ls.size = nL) (hrm : (rest.map fun v => v.category).sum ≤ 8) (hR : 17 + 1 ≤ R.frames ∧ 8 + (2 + 11) + 376 ≤ R.locals) (hcs : cells ≤ R.cells ∧ slots ≤ R.slots) (hd : decode cc pc = .ok (.invokevirtual 256, 3)) (kk : ∀ (H1 : Heap) (locs1 : List Loc), WdA false A D cy ad s.heap μ1 ν1 H1 locs1 → narrow .int (.int r) = .int r → W p l e R s m args below meth c H1 locs1 cells slots Q (F0 m (pc + 3) ls (.int r :: rest))) : W p l e R s m args below meth c H locs cells slots Q (F0 m pc ls (.ref (ad 0) :: rest)) :=
  rCVI (As := []) (k := 0) (ct6_term3 hg) ok6 lX6_term3 k_1079 rfl rfl rfl C X rfl hrm hsz hR hcs hd kk
set_option maxRecDepth 100000 in
set_option maxHeartbeats 4000000 in
theorem w6_added3_3 {p : Program} {l : Launch} {e : Env} {s : State} {m : MethodId} {args : Array Value} {below : List Frame} {meth : Method} {c : Code} {D : va_G} {cy : Nat → ClassId} {ad : Nat → Nat} {r : Int32} {μ1 : Mem} {ν1 : Lem} (C : Cx false p s m args meth c cX6_added3 4 RX6 D cy ad) (hr : meth.sig.returnType = some .int) (K5 : Mem → Lem → Int32 → Option (Int32 × Mem × Lem)) (hK5 : ∀ (μ : Mem) (ν : Lem) (x1 : Int32), K5 μ ν x1 = some (r, μ1, ν1) → ∀ (H : Heap) (locs : List Loc), Wd false D cy ad s.heap μ ν H locs → ∀ (ls : Array Slot), lv_has ls 4 [(0, .ref (ad 0)), (1, .int x1)] → WI false p l e 18 397 s m args below meth c D cy ad .int r μ1 ν1 H locs (F0 m 5 ls [])) : ∀ (μ : Mem) (ν : Lem) (x1 : Int32) (t0 : Int32), f6_added3_3 K5 μ ν x1 t0 = some (r, μ1, ν1) → ∀ (H : Heap) (locs : List Loc), Wd false D cy ad s.heap μ ν H locs → ∀ (ls : Array Slot), lv_has ls 4 [(0, .ref (ad 0)), (1, .int x1)] → WI false p l e 18 397 s m args below meth c D cy ad .int r μ1 ν1 H locs (F0 m 39 ls [.int t0]) := by
  have hx := C.1.1
  have hb := C.1.2.1
  have hown := C.1.2.2.2.1
  have hts := C.1.2.2.2.2
  intro μ ν x1 t0 hf H locs X ls hl
  unfold f6_added3_3 at hf
  refine lv_istore_n (lv' := [(2, .int t0), (0, .ref (ad 0)), (1, .int x1)]) hx hb dX6_added3_39 rfl hl (by decide) rfl (fun ls hl => ?_)
  refine lv_aload_n hx hb dX6_added3_40 rfl (lv_at hl 1 rfl) ?_
  obtain ⟨μ41, ν41, g41, hf⟩ := bd2_e hf
  refine qX6_177 g41 C X hl.1 ((Nat.le_of_ble_eq_true rfl)) ⟨(Nat.le_of_ble_eq_true rfl), (Nat.le_of_ble_eq_true rfl)⟩ ⟨Nat.zero_le _, Nat.zero_le _⟩ dX6_added3_41 (fun H locs X => ?_)
  refine lv_aload_n hx hb dX6_added3_44 rfl (lv_at hl 1 rfl) ?_
  obtain ⟨r45, μ45, ν45, g45, hf⟩ := bd3_e hf
  refine qX6_256 g45 C X hl.1 ((Nat.le_of_ble_eq_true rfl)) ⟨(Nat.le_of_ble_eq_true rfl), (Nat.le_of_ble_eq_true rfl)⟩ ⟨Nat.zero_le _, Nat.zero_le _⟩ dX6_added3_45 (fun H locs X b45 => ?_)
  refine lv_istore_n (lv' := [(3, .int r45), (2, .int t0), (0, .ref (ad 0)), (1, .int x1)]) hx hb dX6_added3_48 rfl hl (by decide) rfl (fun ls hl => ?_)
  refine lv_iload_n hx hb dX6_added3_49 rfl (lv_at hl 1 rfl) ?_
  refine lv_if_eq (tgt := 59) hx hb dX6_added3_50 (by decide) (fun c50 => ?_) (fun c50 => ?_)
  · replace hf := ifp c50 hf
    refine lv_iload_n hx hb dX6_added3_59 rfl (lv_at hl 3 rfl) ?_
    refine lv_iload_n hx hb dX6_added3_60 rfl (lv_at hl 0 rfl) ?_
    refine lv_isub hx hb dX6_added3_61 ?_
    obtain ⟨v62, e62, hf⟩ := nm_e2 hf
    refine st_i e62 ?_
    refine lv_istore_n (lv' := [(1, .int v62), (3, .int r45), (2, .int t0), (0, .ref (ad 0))]) hx hb dX6_added3_62 rfl hl (by decide) rfl (fun ls hl => ?_)
    refine lv_goto (tgt := 5) hx hb dX6_added3_63 (by decide) ?_
    exact hK5 μ45 ν45 v62 hf _ _ X _ (lv_sub hl [3, 0] rfl)
  · replace hf := ifn c50 hf
    refine lv_iload_n hx hb dX6_added3_53 rfl (lv_at hl 3 rfl) ?_
    refine lv_iload_n hx hb dX6_added3_54 rfl (lv_at hl 0 rfl) ?_
    refine lv_iadd hx hb dX6_added3_55 ?_
    refine lv_goto (tgt := 62) hx hb dX6_added3_56 (by decide) ?_
    obtain ⟨v62, e62, hf⟩ := nm_e2 hf
    refine st_i e62 ?_
    refine lv_istore_n (lv' := [(1, .int v62), (3, .int r45), (2, .int t0), (0, .ref (ad 0))]) hx hb dX6_added3_62 rfl hl (by decide) rfl (fun ls hl => ?_)
    refine lv_goto (tgt := 5) hx hb dX6_added3_63 (by decide) ?_
    exact hK5 μ45 ν45 v62 hf _ _ X _ (lv_sub hl [3, 0] rfl)
set_option maxRecDepth 100000 in
set_option maxHeartbeats 4000000 in
theorem w6_added3_2 {p : Program} {l : Launch} {e : Env} {s : State} {m : MethodId} {args : Array Value} {below : List Frame} {meth : Method} {c : Code} {D : va_G} {cy : Nat → ClassId} {ad : Nat → Nat} {r : Int32} {μ1 : Mem} {ν1 : Lem} (C : Cx false p s m args meth c cX6_added3 4 RX6 D cy ad) (hr : meth.sig.returnType = some .int) (K5 : Mem → Lem → Int32 → Option (Int32 × Mem × Lem)) (hK5 : ∀ (μ : Mem) (ν : Lem) (x1 : Int32), K5 μ ν x1 = some (r, μ1, ν1) → ∀ (H : Heap) (locs : List Loc), Wd false D cy ad s.heap μ ν H locs → ∀ (ls : Array Slot), lv_has ls 4 [(0, .ref (ad 0)), (1, .int x1)] → WI false p l e 18 397 s m args below meth c D cy ad .int r μ1 ν1 H locs (F0 m 5 ls [])) : ∀ (μ : Mem) (ν : Lem) (x1 : Int32), f6_added3_2 K5 μ ν x1 = some (r, μ1, ν1) → ∀ (H : Heap) (locs : List Loc), Wd false D cy ad s.heap μ ν H locs → ∀ (ls : Array Slot), lv_has ls 4 [(0, .ref (ad 0)), (1, .int x1)] → WI false p l e 18 397 s m args below meth c D cy ad .int r μ1 ν1 H locs (F0 m 23 ls []) := by
  have hx := C.1.1
  have hb := C.1.2.1
  have hown := C.1.2.2.2.1
  have hts := C.1.2.2.2.2
  intro μ ν x1 hf H locs X ls hl
  unfold f6_added3_2 at hf
  refine lv_aload_n hx hb dX6_added3_23 rfl (lv_at hl 0 rfl) ?_
  refine gfX6_156 C X dX6_added3_24 ?_
  refine lv_ldc2 (v := (43)) hx hb hown (hts _ k_1053) dX6_added3_27 ?_
  refine W.lcmp hx hb dX6_added3_30 ?_
  refine lv_if_ne (tgt := 38) hx hb dX6_added3_31 (by decide) (fun c31 => ?_) (fun c31 => ?_)
  · replace hf := ifn c31 hf
    refine lv_iconst (v := 0) hx hb dX6_added3_38 (by decide) ?_
    exact w6_added3_3 C hr K5 hK5 μ ν x1 0 hf _ _ X _ (lv_sub hl [0, 1] rfl)
  · replace hf := ifp c31 hf
    refine lv_iconst (v := 1) hx hb dX6_added3_34 (by decide) ?_
    refine lv_goto (tgt := 39) hx hb dX6_added3_35 (by decide) ?_
    exact w6_added3_3 C hr K5 hK5 μ ν x1 1 hf _ _ X _ (lv_sub hl [0, 1] rfl)
set_option maxRecDepth 100000 in
set_option maxHeartbeats 4000000 in
theorem w6_added3_1 {p : Program} {l : Launch} {e : Env} {s : State} {m : MethodId} {args : Array Value} {below : List Frame} {meth : Method} {c : Code} {D : va_G} {cy : Nat → ClassId} {ad : Nat → Nat} {r : Int32} {μ1 : Mem} {ν1 : Lem} (C : Cx false p s m args meth c cX6_added3 4 RX6 D cy ad) (hr : meth.sig.returnType = some .int) : ∀ (n : Nat), ∀ (μ : Mem) (ν : Lem) (x1 : Int32), f6_added3_1 n μ ν x1 = some (r, μ1, ν1) → ∀ (H : Heap) (locs : List Loc), Wd false D cy ad s.heap μ ν H locs → ∀ (ls : Array Slot), lv_has ls 4 [(0, .ref (ad 0)), (1, .int x1)] → WI false p l e 18 397 s m args below meth c D cy ad .int r μ1 ν1 H locs (F0 m 5 ls []) := by
  have hx := C.1.1
  have hb := C.1.2.1
  have hown := C.1.2.2.2.1
  have hts := C.1.2.2.2.2
  intro n
  induction n with
  | zero =>
    intro μ ν x1 hf H locs X ls hl
    rw [f6_added3_1] at hf
    cases hf
  | succ n ih =>
    intro μ ν x1 hf H locs X ls hl
    rw [f6_added3_1] at hf
    refine lv_aload_n hx hb dX6_added3_5 rfl (lv_at hl 0 rfl) ?_
    refine lv_bipush (v := 43) hx hb dX6_added3_6 (by decide) ?_
    refine qX6_202 rfl C X hl.1 ((Nat.le_of_ble_eq_true rfl)) ⟨(Nat.le_of_ble_eq_true rfl), (Nat.le_of_ble_eq_true rfl)⟩ ⟨Nat.zero_le _, Nat.zero_le _⟩ dX6_added3_8 (fun H locs X b8 => ?_)
    refine lv_if_ne (tgt := 23) hx hb dX6_added3_11 (by decide) (fun c11 => ?_) (fun c11 => ?_)
    · replace hf := ifn c11 hf
      exact w6_added3_2 C hr (f6_added3_1 n) ih μ ν x1 hf _ _ X _ (lv_sub hl [0, 1] rfl)
    · replace hf := ifp c11 hf
      refine lv_aload_n hx hb dX6_added3_14 rfl (lv_at hl 0 rfl) ?_
      refine lv_bipush (v := 45) hx hb dX6_added3_15 (by decide) ?_
      refine qX6_202 rfl C X hl.1 ((Nat.le_of_ble_eq_true rfl)) ⟨(Nat.le_of_ble_eq_true rfl), (Nat.le_of_ble_eq_true rfl)⟩ ⟨Nat.zero_le _, Nat.zero_le _⟩ dX6_added3_17 (fun H locs X b17 => ?_)
      refine lv_if_eq (tgt := 66) hx hb dX6_added3_20 (by decide) (fun c20 => ?_) (fun c20 => ?_)
      · replace hf := ifp c20 hf
        refine lv_iload_n hx hb dX6_added3_66 rfl (lv_at hl 1 rfl) ?_
        exact retI C X hr rfl (so3 hf).1 (so3 hf).2.1 (so3 hf).2.2 dX6_added3_67
      · replace hf := ifn c20 hf
        exact w6_added3_2 C hr (f6_added3_1 n) ih μ ν x1 hf _ _ X _ (lv_sub hl [0, 1] rfl)
set_option maxRecDepth 100000 in
set_option maxHeartbeats 4000000 in
theorem w6_added3 {p : Program} {l : Launch} {e : Env} {s : State} {m : MethodId} {args : Array Value} {below : List Frame} {meth : Method} {c : Code} {D : va_G} {cy : Nat → ClassId} {ad : Nat → Nat} {r : Int32} {μ1 : Mem} {ν1 : Lem} (C : Cx false p s m args meth c cX6_added3 4 RX6 D cy ad) (hr : meth.sig.returnType = some .int) : ∀ (μ : Mem) (ν : Lem), f6_added3 μ ν = some (r, μ1, ν1) → ∀ (H : Heap) (locs : List Loc), Wd false D cy ad s.heap μ ν H locs → ∀ (ls : Array Slot), lv_has ls 4 [(0, .ref (ad 0))] → WI false p l e 18 397 s m args below meth c D cy ad .int r μ1 ν1 H locs (F0 m 0 ls []) := by
  have hx := C.1.1
  have hb := C.1.2.1
  have hown := C.1.2.2.2.1
  have hts := C.1.2.2.2.2
  intro μ ν hf H locs X ls hl
  unfold f6_added3 at hf
  refine lv_aload_n hx hb dX6_added3_0 rfl (lv_at hl 0 rfl) ?_
  obtain ⟨r1, μ1, ν1, g1, hf⟩ := bd3_e hf
  refine qX6_256 g1 C X hl.1 ((Nat.le_of_ble_eq_true rfl)) ⟨(Nat.le_of_ble_eq_true rfl), (Nat.le_of_ble_eq_true rfl)⟩ ⟨Nat.zero_le _, Nat.zero_le _⟩ dX6_added3_1 (fun H locs X b1 => ?_)
  refine lv_istore_n (lv' := [(1, .int r1), (0, .ref (ad 0))]) hx hb dX6_added3_4 rfl hl (by decide) rfl (fun ls hl => ?_)
  exact w6_added3_1 C hr  FUEL μ1 ν1 r1 hf _ _ X _ (lv_sub hl [1, 0] rfl)
theorem ct6_added3 {μ : Mem} {ν : Lem} {r : Int32} {μ1 : Mem} {ν1 : Lem} (hg : f6_added3 μ ν = some (r, μ1, ν1)) : CtI false yX6_added3 cX6_added3 4 18 397 .int (fun ad => [.ref (ad 0)]) μ ν r μ1 ν1 :=
  mkI (by decide) rfl (fun ad => Nat.le_of_ble_eq_true rfl) (fun p l e s m args below meth c D cy ad C hr X ls hl => w6_added3 C hr μ ν hg _ _ X _ hl)
theorem qX6_259 {p : Program} {l : Launch} {e : Env} {R : Room} {s : State} {m : MethodId} {args : Array Value} {below : List Frame} {meth : Method} {c : Code} {H : Heap} {locs : List Loc} {cells slots : Nat} {Q : State → Prop} {A : Nat → Prop} {cc : ByteArray} {nL : Nat} {D : va_G} {cy : Nat → ClassId} {ad : Nat → Nat} {μ : Mem} {ν : Lem} {pc : Nat} {ls : Array Slot} {rest : List Value} {r : Int32} {μ1 : Mem} {ν1 : Lem} (hg : f6_added3 μ ν = some (r, μ1, ν1)) (C : CxA false A p s m args meth c cc nL RX6 D cy ad) (X : WdA false A D cy ad s.heap μ ν H locs) (hsz : ls.size = nL) (hrm : (rest.map fun v => v.category).sum ≤ 8) (hR : 18 + 1 ≤ R.frames ∧ 8 + (4 + 11) + 397 ≤ R.locals) (hcs : cells ≤ R.cells ∧ slots ≤ R.slots) (hd : decode cc pc = .ok (.invokevirtual 259, 3)) (kk : ∀ (H1 : Heap) (locs1 : List Loc), WdA false A D cy ad s.heap μ1 ν1 H1 locs1 → narrow .int (.int r) = .int r → W p l e R s m args below meth c H1 locs1 cells slots Q (F0 m (pc + 3) ls (.int r :: rest))) : W p l e R s m args below meth c H locs cells slots Q (F0 m pc ls (.ref (ad 0) :: rest)) :=
  rCVI (As := []) (k := 0) (ct6_added3 hg) ok6 lX6_added3 k_1075 rfl rfl rfl C X rfl hrm hsz hR hcs hd kk
set_option maxRecDepth 100000 in
set_option maxHeartbeats 4000000 in
theorem w6_not3_2 {p : Program} {l : Launch} {e : Env} {s : State} {m : MethodId} {args : Array Value} {below : List Frame} {meth : Method} {c : Code} {D : va_G} {cy : Nat → ClassId} {ad : Nat → Nat} {r : Int32} {μ1 : Mem} {ν1 : Lem} (C : Cx false p s m args meth c cX6_not3 4 RX6 D cy ad) (hr : meth.sig.returnType = some .int) : ∀ (μ : Mem) (ν : Lem) (x1 : Int32) (t0 : Int32), f6_not3_2 μ ν x1 t0 = some (r, μ1, ν1) → ∀ (H : Heap) (locs : List Loc), Wd false D cy ad s.heap μ ν H locs → ∀ (ls : Array Slot), lv_has ls 4 [(0, .ref (ad 0)), (1, .int x1)] → WI false p l e 19 420 s m args below meth c D cy ad .int r μ1 ν1 H locs (F0 m 93 ls [.int t0]) := by
  have hx := C.1.1
  have hb := C.1.2.1
  have hown := C.1.2.2.2.1
  have hts := C.1.2.2.2.2
  intro μ ν x1 t0 hf H locs X ls hl
  unfold f6_not3_2 at hf
  refine lv_istore_n (lv' := [(2, .int t0), (0, .ref (ad 0)), (1, .int x1)]) hx hb dX6_not3_93 rfl hl (by decide) rfl (fun ls hl => ?_)
  refine lv_aload_n hx hb dX6_not3_94 rfl (lv_at hl 1 rfl) ?_
  obtain ⟨μ95, ν95, g95, hf⟩ := bd2_e hf
  refine qX6_177 g95 C X hl.1 ((Nat.le_of_ble_eq_true rfl)) ⟨(Nat.le_of_ble_eq_true rfl), (Nat.le_of_ble_eq_true rfl)⟩ ⟨Nat.zero_le _, Nat.zero_le _⟩ dX6_not3_95 (fun H locs X => ?_)
  refine lv_aload_n hx hb dX6_not3_98 rfl (lv_at hl 1 rfl) ?_
  obtain ⟨r99, μ99, ν99, g99, hf⟩ := bd3_e hf
  refine qX6_259 g99 C X hl.1 ((Nat.le_of_ble_eq_true rfl)) ⟨(Nat.le_of_ble_eq_true rfl), (Nat.le_of_ble_eq_true rfl)⟩ ⟨Nat.zero_le _, Nat.zero_le _⟩ dX6_not3_99 (fun H locs X b99 => ?_)
  refine lv_istore_n (lv' := [(3, .int r99), (2, .int t0), (0, .ref (ad 0)), (1, .int x1)]) hx hb dX6_not3_102 rfl hl (by decide) rfl (fun ls hl => ?_)
  refine lv_iload_n hx hb dX6_not3_103 rfl (lv_at hl 1 rfl) ?_
  refine lv_if_eq (tgt := 115) hx hb dX6_not3_104 (by decide) (fun c104 => ?_) (fun c104 => ?_)
  · replace hf := ifp c104 hf
    refine lv_iload_n hx hb dX6_not3_115 rfl (lv_at hl 3 rfl) ?_
    refine lv_iload_n hx hb dX6_not3_116 rfl (lv_at hl 0 rfl) ?_
    refine lv_icmp_ne (tgt := 124) hx hb dX6_not3_117 (by decide) (fun c117 => ?_) (fun c117 => ?_)
    · replace hf := ifn c117 hf
      refine lv_iconst (v := 0) hx hb dX6_not3_124 (by decide) ?_
      exact retI C X hr rfl (so3 hf).1 (so3 hf).2.1 (so3 hf).2.2 dX6_not3_125
    · replace hf := ifp c117 hf
      refine lv_iconst (v := 1) hx hb dX6_not3_120 (by decide) ?_
      refine lv_goto (tgt := 125) hx hb dX6_not3_121 (by decide) ?_
      exact retI C X hr rfl (so3 hf).1 (so3 hf).2.1 (so3 hf).2.2 dX6_not3_125
  · replace hf := ifn c104 hf
    refine lv_iload_n hx hb dX6_not3_107 rfl (lv_at hl 3 rfl) ?_
    refine lv_iload_n hx hb dX6_not3_108 rfl (lv_at hl 0 rfl) ?_
    refine lv_icmp_ge (tgt := 124) hx hb dX6_not3_109 (by decide) (fun c109 => ?_) (fun c109 => ?_)
    · replace hf := ifp c109 hf
      refine lv_iconst (v := 0) hx hb dX6_not3_124 (by decide) ?_
      exact retI C X hr rfl (so3 hf).1 (so3 hf).2.1 (so3 hf).2.2 dX6_not3_125
    · replace hf := ifn c109 hf
      refine lv_goto (tgt := 120) hx hb dX6_not3_112 (by decide) ?_
      refine lv_iconst (v := 1) hx hb dX6_not3_120 (by decide) ?_
      refine lv_goto (tgt := 125) hx hb dX6_not3_121 (by decide) ?_
      exact retI C X hr rfl (so3 hf).1 (so3 hf).2.1 (so3 hf).2.2 dX6_not3_125
set_option maxRecDepth 100000 in
set_option maxHeartbeats 4000000 in
theorem w6_not3_1 {p : Program} {l : Launch} {e : Env} {s : State} {m : MethodId} {args : Array Value} {below : List Frame} {meth : Method} {c : Code} {D : va_G} {cy : Nat → ClassId} {ad : Nat → Nat} {r : Int32} {μ1 : Mem} {ν1 : Lem} (C : Cx false p s m args meth c cX6_not3 4 RX6 D cy ad) (hr : meth.sig.returnType = some .int) : ∀ (μ : Mem) (ν : Lem) (x1 : Int32), f6_not3_1 μ ν x1 = some (r, μ1, ν1) → ∀ (H : Heap) (locs : List Loc), Wd false D cy ad s.heap μ ν H locs → ∀ (ls : Array Slot), lv_has ls 4 [(0, .ref (ad 0)), (1, .int x1)] → WI false p l e 19 420 s m args below meth c D cy ad .int r μ1 ν1 H locs (F0 m 77 ls []) := by
  have hx := C.1.1
  have hb := C.1.2.1
  have hown := C.1.2.2.2.1
  have hts := C.1.2.2.2.2
  intro μ ν x1 hf H locs X ls hl
  unfold f6_not3_1 at hf
  refine lv_aload_n hx hb dX6_not3_77 rfl (lv_at hl 0 rfl) ?_
  refine gfX6_156 C X dX6_not3_78 ?_
  refine lv_ldc2 (v := (60)) hx hb hown (hts _ k_1054) dX6_not3_81 ?_
  refine W.lcmp hx hb dX6_not3_84 ?_
  refine lv_if_ne (tgt := 92) hx hb dX6_not3_85 (by decide) (fun c85 => ?_) (fun c85 => ?_)
  · replace hf := ifn c85 hf
    refine lv_iconst (v := 0) hx hb dX6_not3_92 (by decide) ?_
    exact w6_not3_2 C hr  μ ν x1 0 hf _ _ X _ (lv_sub hl [0, 1] rfl)
  · replace hf := ifp c85 hf
    refine lv_iconst (v := 1) hx hb dX6_not3_88 (by decide) ?_
    refine lv_goto (tgt := 93) hx hb dX6_not3_89 (by decide) ?_
    exact w6_not3_2 C hr  μ ν x1 1 hf _ _ X _ (lv_sub hl [0, 1] rfl)
set_option maxRecDepth 100000 in
set_option maxHeartbeats 4000000 in
theorem w6_not3 {p : Program} {l : Launch} {e : Env} {s : State} {m : MethodId} {args : Array Value} {below : List Frame} {meth : Method} {c : Code} {D : va_G} {cy : Nat → ClassId} {ad : Nat → Nat} {r : Int32} {μ1 : Mem} {ν1 : Lem} (C : Cx false p s m args meth c cX6_not3 4 RX6 D cy ad) (hr : meth.sig.returnType = some .int) : ∀ (μ : Mem) (ν : Lem), f6_not3 μ ν = some (r, μ1, ν1) → ∀ (H : Heap) (locs : List Loc), Wd false D cy ad s.heap μ ν H locs → ∀ (ls : Array Slot), lv_has ls 4 [(0, .ref (ad 0))] → WI false p l e 19 420 s m args below meth c D cy ad .int r μ1 ν1 H locs (F0 m 0 ls []) := by
  have hx := C.1.1
  have hb := C.1.2.1
  have hown := C.1.2.2.2.1
  have hts := C.1.2.2.2.2
  intro μ ν hf H locs X ls hl
  unfold f6_not3 at hf
  refine lv_aload_n hx hb dX6_not3_0 rfl (lv_at hl 0 rfl) ?_
  refine lv_bipush (v := 110) hx hb dX6_not3_1 (by decide) ?_
  refine lv_bipush (v := 111) hx hb dX6_not3_3 (by decide) ?_
  refine lv_bipush (v := 116) hx hb dX6_not3_5 (by decide) ?_
  refine lv_iconst (v := 0) hx hb dX6_not3_7 (by decide) ?_
  refine lv_iconst (v := 0) hx hb dX6_not3_8 (by decide) ?_
  refine lv_iconst (v := 0) hx hb dX6_not3_9 (by decide) ?_
  refine lv_iconst (v := 0) hx hb dX6_not3_10 (by decide) ?_
  refine lv_iconst (v := 0) hx hb dX6_not3_11 (by decide) ?_
  obtain ⟨r12, g12, hf⟩ := bd1_e hf
  refine qX6_180 g12 C X hl.1 ((Nat.le_of_ble_eq_true rfl)) ⟨(Nat.le_of_ble_eq_true rfl), (Nat.le_of_ble_eq_true rfl)⟩ ⟨Nat.zero_le _, Nat.zero_le _⟩ dX6_not3_12 (fun H locs X b12 => ?_)
  refine lv_if_eq (tgt := 52) hx hb dX6_not3_15 (by decide) (fun c15 => ?_) (fun c15 => ?_)
  · replace hf := ifp c15 hf
    refine lv_aload_n hx hb dX6_not3_52 rfl (lv_at hl 0 rfl) ?_
    obtain ⟨r53, μ53, ν53, g53, hf⟩ := bd3_e hf
    refine qX6_259 g53 C X hl.1 ((Nat.le_of_ble_eq_true rfl)) ⟨(Nat.le_of_ble_eq_true rfl), (Nat.le_of_ble_eq_true rfl)⟩ ⟨Nat.zero_le _, Nat.zero_le _⟩ dX6_not3_53 (fun H locs X b53 => ?_)
    refine lv_istore_n (lv' := [(1, .int r53), (0, .ref (ad 0))]) hx hb dX6_not3_56 rfl hl (by decide) rfl (fun ls hl => ?_)
    refine lv_aload_n hx hb dX6_not3_57 rfl (lv_at hl 1 rfl) ?_
    refine lv_bipush (v := 60) hx hb dX6_not3_58 (by decide) ?_
    refine qX6_202 rfl C X hl.1 ((Nat.le_of_ble_eq_true rfl)) ⟨(Nat.le_of_ble_eq_true rfl), (Nat.le_of_ble_eq_true rfl)⟩ ⟨Nat.zero_le _, Nat.zero_le _⟩ dX6_not3_60 (fun H locs X b60 => ?_)
    refine lv_if_ne (tgt := 77) hx hb dX6_not3_63 (by decide) (fun c63 => ?_) (fun c63 => ?_)
    · replace hf := ifn c63 hf
      exact w6_not3_1 C hr  μ53 ν53 r53 hf _ _ X _ (lv_sub hl [1, 0] rfl)
    · replace hf := ifp c63 hf
      refine lv_aload_n hx hb dX6_not3_66 rfl (lv_at hl 1 rfl) ?_
      refine lv_bipush (v := 61) hx hb dX6_not3_67 (by decide) ?_
      refine qX6_202 rfl C X hl.1 ((Nat.le_of_ble_eq_true rfl)) ⟨(Nat.le_of_ble_eq_true rfl), (Nat.le_of_ble_eq_true rfl)⟩ ⟨Nat.zero_le _, Nat.zero_le _⟩ dX6_not3_69 (fun H locs X b69 => ?_)
      refine lv_if_ne (tgt := 77) hx hb dX6_not3_72 (by decide) (fun c72 => ?_) (fun c72 => ?_)
      · replace hf := ifn c72 hf
        exact w6_not3_1 C hr  μ53 ν53 r53 hf _ _ X _ (lv_sub hl [1, 0] rfl)
      · replace hf := ifp c72 hf
        refine lv_iload_n hx hb dX6_not3_75 rfl (lv_at hl 0 rfl) ?_
        exact retI C X hr rfl (so3 hf).1 (so3 hf).2.1 (so3 hf).2.2 dX6_not3_76
  · replace hf := ifn c15 hf
    refine lv_aload_n hx hb dX6_not3_18 rfl (lv_at hl 0 rfl) ?_
    obtain ⟨r19, μ19, ν19, g19, hf⟩ := bd3_e hf
    refine qX6_205 g19 C X hl.1 ((Nat.le_of_ble_eq_true rfl)) ⟨(Nat.le_of_ble_eq_true rfl), (Nat.le_of_ble_eq_true rfl)⟩ ⟨Nat.zero_le _, Nat.zero_le _⟩ dX6_not3_19 (fun H locs X b19 => ?_)
    refine lv_if_ne (tgt := 27) hx hb dX6_not3_22 (by decide) (fun c22 => ?_) (fun c22 => ?_)
    · replace hf := ifn c22 hf
      refine lv_aload_n hx hb dX6_not3_27 rfl (lv_at hl 0 rfl) ?_
      obtain ⟨r28, μ28, ν28, g28, hf⟩ := bd3_e hf
      refine qX6_244 g28 C X hl.1 ((Nat.le_of_ble_eq_true rfl)) ⟨(Nat.le_of_ble_eq_true rfl), (Nat.le_of_ble_eq_true rfl)⟩ ⟨Nat.zero_le _, Nat.zero_le _⟩ dX6_not3_28 (fun H locs X b28 => ?_)
      refine lv_istore_n (lv' := [(1, .int r28), (0, .ref (ad 0))]) hx hb dX6_not3_31 rfl hl (by decide) rfl (fun ls hl => ?_)
      refine lv_aload_n hx hb dX6_not3_32 rfl (lv_at hl 1 rfl) ?_
      refine lv_dup hx hb dX6_not3_33 rfl ?_
      refine gfX6_171 C X dX6_not3_34 ?_
      refine lv_iconst (v := 1) hx hb dX6_not3_37 (by decide) ?_
      refine lv_isub hx hb dX6_not3_38 ?_
      obtain ⟨μ39, e39, hf⟩ := nm_e2 hf
      refine pfX6_171 e39 C X dX6_not3_39 (fun H locs X => ?_)
      refine lv_iload_n hx hb dX6_not3_42 rfl (lv_at hl 0 rfl) ?_
      refine lv_if_ne (tgt := 50) hx hb dX6_not3_43 (by decide) (fun c43 => ?_) (fun c43 => ?_)
      · replace hf := ifn c43 hf
        refine lv_iconst (v := 0) hx hb dX6_not3_50 (by decide) ?_
        exact retI C X hr rfl (so3 hf).1 (so3 hf).2.1 (so3 hf).2.2 dX6_not3_51
      · replace hf := ifp c43 hf
        refine lv_iconst (v := 1) hx hb dX6_not3_46 (by decide) ?_
        refine lv_goto (tgt := 51) hx hb dX6_not3_47 (by decide) ?_
        exact retI C X hr rfl (so3 hf).1 (so3 hf).2.1 (so3 hf).2.2 dX6_not3_51
    · replace hf := ifp c22 hf
      refine lv_iconst (v := 0) hx hb dX6_not3_25 (by decide) ?_
      exact retI C X hr rfl (so3 hf).1 (so3 hf).2.1 (so3 hf).2.2 dX6_not3_26
theorem ct6_not3 {μ : Mem} {ν : Lem} {r : Int32} {μ1 : Mem} {ν1 : Lem} (hg : f6_not3 μ ν = some (r, μ1, ν1)) : CtI false yX6_not3 cX6_not3 4 19 420 .int (fun ad => [.ref (ad 0)]) μ ν r μ1 ν1 :=
  mkI (by decide) rfl (fun ad => Nat.le_of_ble_eq_true rfl) (fun p l e s m args below meth c D cy ad C hr X ls hl => w6_not3 C hr μ ν hg _ _ X _ hl)
theorem qX6_262 {p : Program} {l : Launch} {e : Env} {R : Room} {s : State} {m : MethodId} {args : Array Value} {below : List Frame} {meth : Method} {c : Code} {H : Heap} {locs : List Loc} {cells slots : Nat} {Q : State → Prop} {A : Nat → Prop} {cc : ByteArray} {nL : Nat} {D : va_G} {cy : Nat → ClassId} {ad : Nat → Nat} {μ : Mem} {ν : Lem} {pc : Nat} {ls : Array Slot} {rest : List Value} {r : Int32} {μ1 : Mem} {ν1 : Lem} (hg : f6_not3 μ ν = some (r, μ1, ν1)) (C : CxA false A p s m args meth c cc nL RX6 D cy ad) (X : WdA false A D cy ad s.heap μ ν H locs) (hsz : ls.size = nL) (hrm : (rest.map fun v => v.category).sum ≤ 8) (hR : 19 + 1 ≤ R.frames ∧ 8 + (4 + 11) + 420 ≤ R.locals) (hcs : cells ≤ R.cells ∧ slots ≤ R.slots) (hd : decode cc pc = .ok (.invokevirtual 262, 3)) (kk : ∀ (H1 : Heap) (locs1 : List Loc), WdA false A D cy ad s.heap μ1 ν1 H1 locs1 → narrow .int (.int r) = .int r → W p l e R s m args below meth c H1 locs1 cells slots Q (F0 m (pc + 3) ls (.int r :: rest))) : W p l e R s m args below meth c H locs cells slots Q (F0 m pc ls (.ref (ad 0) :: rest)) :=
  rCVI (As := []) (k := 0) (ct6_not3 hg) ok6 lX6_not3 k_1021 rfl rfl rfl C X rfl hrm hsz hR hcs hd kk
set_option maxRecDepth 100000 in
set_option maxHeartbeats 4000000 in
theorem w6_both3_1 {p : Program} {l : Launch} {e : Env} {s : State} {m : MethodId} {args : Array Value} {below : List Frame} {meth : Method} {c : Code} {D : va_G} {cy : Nat → ClassId} {ad : Nat → Nat} {r : Int32} {μ1 : Mem} {ν1 : Lem} (C : Cx false p s m args meth c cX6_both3 3 RX6 D cy ad) (hr : meth.sig.returnType = some .int) : ∀ (n : Nat), ∀ (μ : Mem) (ν : Lem) (x1 : Int32), f6_both3_1 n μ ν x1 = some (r, μ1, ν1) → ∀ (H : Heap) (locs : List Loc), Wd false D cy ad s.heap μ ν H locs → ∀ (ls : Array Slot), lv_has ls 3 [(0, .ref (ad 0)), (1, .int x1)] → WI false p l e 20 443 s m args below meth c D cy ad .int r μ1 ν1 H locs (F0 m 5 ls []) := by
  have hx := C.1.1
  have hb := C.1.2.1
  have hown := C.1.2.2.2.1
  have hts := C.1.2.2.2.2
  intro n
  induction n with
  | zero =>
    intro μ ν x1 hf H locs X ls hl
    rw [f6_both3_1] at hf
    cases hf
  | succ n ih =>
    intro μ ν x1 hf H locs X ls hl
    rw [f6_both3_1] at hf
    refine lv_aload_n hx hb dX6_both3_5 rfl (lv_at hl 0 rfl) ?_
    refine lv_bipush (v := 97) hx hb dX6_both3_6 (by decide) ?_
    refine lv_bipush (v := 110) hx hb dX6_both3_8 (by decide) ?_
    refine lv_bipush (v := 100) hx hb dX6_both3_10 (by decide) ?_
    refine lv_iconst (v := 0) hx hb dX6_both3_12 (by decide) ?_
    refine lv_iconst (v := 0) hx hb dX6_both3_13 (by decide) ?_
    refine lv_iconst (v := 0) hx hb dX6_both3_14 (by decide) ?_
    refine lv_iconst (v := 0) hx hb dX6_both3_15 (by decide) ?_
    refine lv_iconst (v := 0) hx hb dX6_both3_16 (by decide) ?_
    obtain ⟨r17, g17, hf⟩ := bd1_e hf
    refine qX6_180 g17 C X hl.1 ((Nat.le_of_ble_eq_true rfl)) ⟨(Nat.le_of_ble_eq_true rfl), (Nat.le_of_ble_eq_true rfl)⟩ ⟨Nat.zero_le _, Nat.zero_le _⟩ dX6_both3_17 (fun H locs X b17 => ?_)
    refine lv_if_eq (tgt := 49) hx hb dX6_both3_20 (by decide) (fun c20 => ?_) (fun c20 => ?_)
    · replace hf := ifp c20 hf
      refine lv_iload_n hx hb dX6_both3_49 rfl (lv_at hl 1 rfl) ?_
      exact retI C X hr rfl (so3 hf).1 (so3 hf).2.1 (so3 hf).2.2 dX6_both3_50
    · replace hf := ifn c20 hf
      refine lv_aload_n hx hb dX6_both3_23 rfl (lv_at hl 0 rfl) ?_
      obtain ⟨μ24, ν24, g24, hf⟩ := bd2_e hf
      refine qX6_177 g24 C X hl.1 ((Nat.le_of_ble_eq_true rfl)) ⟨(Nat.le_of_ble_eq_true rfl), (Nat.le_of_ble_eq_true rfl)⟩ ⟨Nat.zero_le _, Nat.zero_le _⟩ dX6_both3_24 (fun H locs X => ?_)
      refine lv_aload_n hx hb dX6_both3_27 rfl (lv_at hl 0 rfl) ?_
      obtain ⟨r28, μ28, ν28, g28, hf⟩ := bd3_e hf
      refine qX6_262 g28 C X hl.1 ((Nat.le_of_ble_eq_true rfl)) ⟨(Nat.le_of_ble_eq_true rfl), (Nat.le_of_ble_eq_true rfl)⟩ ⟨Nat.zero_le _, Nat.zero_le _⟩ dX6_both3_28 (fun H locs X b28 => ?_)
      refine lv_istore_n (lv' := [(2, .int r28), (0, .ref (ad 0)), (1, .int x1)]) hx hb dX6_both3_31 rfl hl (by decide) rfl (fun ls hl => ?_)
      refine lv_iload_n hx hb dX6_both3_32 rfl (lv_at hl 2 rfl) ?_
      refine lv_if_eq (tgt := 44) hx hb dX6_both3_33 (by decide) (fun c33 => ?_) (fun c33 => ?_)
      · replace hf := ifp c33 hf
        refine lv_iconst (v := 0) hx hb dX6_both3_44 (by decide) ?_
        refine lv_istore_n (lv' := [(1, .int 0), (2, .int r28), (0, .ref (ad 0))]) hx hb dX6_both3_45 rfl hl (by decide) rfl (fun ls hl => ?_)
        refine lv_goto (tgt := 5) hx hb dX6_both3_46 (by decide) ?_
        exact ih μ28 ν28 0 hf _ _ X _ (lv_sub hl [2, 0] rfl)
      · replace hf := ifn c33 hf
        refine lv_iload_n hx hb dX6_both3_36 rfl (lv_at hl 0 rfl) ?_
        refine lv_if_eq (tgt := 44) hx hb dX6_both3_37 (by decide) (fun c37 => ?_) (fun c37 => ?_)
        · replace hf := ifp c37 hf
          refine lv_iconst (v := 0) hx hb dX6_both3_44 (by decide) ?_
          refine lv_istore_n (lv' := [(1, .int 0), (2, .int r28), (0, .ref (ad 0))]) hx hb dX6_both3_45 rfl hl (by decide) rfl (fun ls hl => ?_)
          refine lv_goto (tgt := 5) hx hb dX6_both3_46 (by decide) ?_
          exact ih μ28 ν28 0 hf _ _ X _ (lv_sub hl [2, 0] rfl)
        · replace hf := ifn c37 hf
          refine lv_iconst (v := 1) hx hb dX6_both3_40 (by decide) ?_
          refine lv_goto (tgt := 45) hx hb dX6_both3_41 (by decide) ?_
          refine lv_istore_n (lv' := [(1, .int 1), (2, .int r28), (0, .ref (ad 0))]) hx hb dX6_both3_45 rfl hl (by decide) rfl (fun ls hl => ?_)
          refine lv_goto (tgt := 5) hx hb dX6_both3_46 (by decide) ?_
          exact ih μ28 ν28 1 hf _ _ X _ (lv_sub hl [2, 0] rfl)
set_option maxRecDepth 100000 in
set_option maxHeartbeats 4000000 in
theorem w6_both3 {p : Program} {l : Launch} {e : Env} {s : State} {m : MethodId} {args : Array Value} {below : List Frame} {meth : Method} {c : Code} {D : va_G} {cy : Nat → ClassId} {ad : Nat → Nat} {r : Int32} {μ1 : Mem} {ν1 : Lem} (C : Cx false p s m args meth c cX6_both3 3 RX6 D cy ad) (hr : meth.sig.returnType = some .int) : ∀ (μ : Mem) (ν : Lem), f6_both3 μ ν = some (r, μ1, ν1) → ∀ (H : Heap) (locs : List Loc), Wd false D cy ad s.heap μ ν H locs → ∀ (ls : Array Slot), lv_has ls 3 [(0, .ref (ad 0))] → WI false p l e 20 443 s m args below meth c D cy ad .int r μ1 ν1 H locs (F0 m 0 ls []) := by
  have hx := C.1.1
  have hb := C.1.2.1
  have hown := C.1.2.2.2.1
  have hts := C.1.2.2.2.2
  intro μ ν hf H locs X ls hl
  unfold f6_both3 at hf
  refine lv_aload_n hx hb dX6_both3_0 rfl (lv_at hl 0 rfl) ?_
  obtain ⟨r1, μ1, ν1, g1, hf⟩ := bd3_e hf
  refine qX6_262 g1 C X hl.1 ((Nat.le_of_ble_eq_true rfl)) ⟨(Nat.le_of_ble_eq_true rfl), (Nat.le_of_ble_eq_true rfl)⟩ ⟨Nat.zero_le _, Nat.zero_le _⟩ dX6_both3_1 (fun H locs X b1 => ?_)
  refine lv_istore_n (lv' := [(1, .int r1), (0, .ref (ad 0))]) hx hb dX6_both3_4 rfl hl (by decide) rfl (fun ls hl => ?_)
  exact w6_both3_1 C hr  FUEL μ1 ν1 r1 hf _ _ X _ (lv_sub hl [1, 0] rfl)
theorem ct6_both3 {μ : Mem} {ν : Lem} {r : Int32} {μ1 : Mem} {ν1 : Lem} (hg : f6_both3 μ ν = some (r, μ1, ν1)) : CtI false yX6_both3 cX6_both3 3 20 443 .int (fun ad => [.ref (ad 0)]) μ ν r μ1 ν1 :=
  mkI (by decide) rfl (fun ad => Nat.le_of_ble_eq_true rfl) (fun p l e s m args below meth c D cy ad C hr X ls hl => w6_both3 C hr μ ν hg _ _ X _ hl)
theorem qX6_265 {p : Program} {l : Launch} {e : Env} {R : Room} {s : State} {m : MethodId} {args : Array Value} {below : List Frame} {meth : Method} {c : Code} {H : Heap} {locs : List Loc} {cells slots : Nat} {Q : State → Prop} {A : Nat → Prop} {cc : ByteArray} {nL : Nat} {D : va_G} {cy : Nat → ClassId} {ad : Nat → Nat} {μ : Mem} {ν : Lem} {pc : Nat} {ls : Array Slot} {rest : List Value} {r : Int32} {μ1 : Mem} {ν1 : Lem} (hg : f6_both3 μ ν = some (r, μ1, ν1)) (C : CxA false A p s m args meth c cc nL RX6 D cy ad) (X : WdA false A D cy ad s.heap μ ν H locs) (hsz : ls.size = nL) (hrm : (rest.map fun v => v.category).sum ≤ 8) (hR : 20 + 1 ≤ R.frames ∧ 8 + (3 + 11) + 443 ≤ R.locals) (hcs : cells ≤ R.cells ∧ slots ≤ R.slots) (hd : decode cc pc = .ok (.invokevirtual 265, 3)) (kk : ∀ (H1 : Heap) (locs1 : List Loc), WdA false A D cy ad s.heap μ1 ν1 H1 locs1 → narrow .int (.int r) = .int r → W p l e R s m args below meth c H1 locs1 cells slots Q (F0 m (pc + 3) ls (.int r :: rest))) : W p l e R s m args below meth c H locs cells slots Q (F0 m pc ls (.ref (ad 0) :: rest)) :=
  rCVI (As := []) (k := 0) (ct6_both3 hg) ok6 lX6_both3 k_1111 rfl rfl rfl C X rfl hrm hsz hR hcs hd kk
set_option maxRecDepth 100000 in
set_option maxHeartbeats 4000000 in
theorem w6_either3_1 {p : Program} {l : Launch} {e : Env} {s : State} {m : MethodId} {args : Array Value} {below : List Frame} {meth : Method} {c : Code} {D : va_G} {cy : Nat → ClassId} {ad : Nat → Nat} {r : Int32} {μ1 : Mem} {ν1 : Lem} (C : Cx false p s m args meth c cX6_either3 3 RX6 D cy ad) (hr : meth.sig.returnType = some .int) : ∀ (n : Nat), ∀ (μ : Mem) (ν : Lem) (x1 : Int32), f6_either3_1 n μ ν x1 = some (r, μ1, ν1) → ∀ (H : Heap) (locs : List Loc), Wd false D cy ad s.heap μ ν H locs → ∀ (ls : Array Slot), lv_has ls 3 [(0, .ref (ad 0)), (1, .int x1)] → WI false p l e 21 465 s m args below meth c D cy ad .int r μ1 ν1 H locs (F0 m 5 ls []) := by
  have hx := C.1.1
  have hb := C.1.2.1
  have hown := C.1.2.2.2.1
  have hts := C.1.2.2.2.2
  intro n
  induction n with
  | zero =>
    intro μ ν x1 hf H locs X ls hl
    rw [f6_either3_1] at hf
    cases hf
  | succ n ih =>
    intro μ ν x1 hf H locs X ls hl
    rw [f6_either3_1] at hf
    refine lv_aload_n hx hb dX6_either3_5 rfl (lv_at hl 0 rfl) ?_
    refine lv_bipush (v := 111) hx hb dX6_either3_6 (by decide) ?_
    refine lv_bipush (v := 114) hx hb dX6_either3_8 (by decide) ?_
    refine lv_iconst (v := 0) hx hb dX6_either3_10 (by decide) ?_
    refine lv_iconst (v := 0) hx hb dX6_either3_11 (by decide) ?_
    refine lv_iconst (v := 0) hx hb dX6_either3_12 (by decide) ?_
    refine lv_iconst (v := 0) hx hb dX6_either3_13 (by decide) ?_
    refine lv_iconst (v := 0) hx hb dX6_either3_14 (by decide) ?_
    refine lv_iconst (v := 0) hx hb dX6_either3_15 (by decide) ?_
    obtain ⟨r16, g16, hf⟩ := bd1_e hf
    refine qX6_180 g16 C X hl.1 ((Nat.le_of_ble_eq_true rfl)) ⟨(Nat.le_of_ble_eq_true rfl), (Nat.le_of_ble_eq_true rfl)⟩ ⟨Nat.zero_le _, Nat.zero_le _⟩ dX6_either3_16 (fun H locs X b16 => ?_)
    refine lv_if_eq (tgt := 48) hx hb dX6_either3_19 (by decide) (fun c19 => ?_) (fun c19 => ?_)
    · replace hf := ifp c19 hf
      refine lv_iload_n hx hb dX6_either3_48 rfl (lv_at hl 1 rfl) ?_
      exact retI C X hr rfl (so3 hf).1 (so3 hf).2.1 (so3 hf).2.2 dX6_either3_49
    · replace hf := ifn c19 hf
      refine lv_aload_n hx hb dX6_either3_22 rfl (lv_at hl 0 rfl) ?_
      obtain ⟨μ23, ν23, g23, hf⟩ := bd2_e hf
      refine qX6_177 g23 C X hl.1 ((Nat.le_of_ble_eq_true rfl)) ⟨(Nat.le_of_ble_eq_true rfl), (Nat.le_of_ble_eq_true rfl)⟩ ⟨Nat.zero_le _, Nat.zero_le _⟩ dX6_either3_23 (fun H locs X => ?_)
      refine lv_aload_n hx hb dX6_either3_26 rfl (lv_at hl 0 rfl) ?_
      obtain ⟨r27, μ27, ν27, g27, hf⟩ := bd3_e hf
      refine qX6_265 g27 C X hl.1 ((Nat.le_of_ble_eq_true rfl)) ⟨(Nat.le_of_ble_eq_true rfl), (Nat.le_of_ble_eq_true rfl)⟩ ⟨Nat.zero_le _, Nat.zero_le _⟩ dX6_either3_27 (fun H locs X b27 => ?_)
      refine lv_istore_n (lv' := [(2, .int r27), (0, .ref (ad 0)), (1, .int x1)]) hx hb dX6_either3_30 rfl hl (by decide) rfl (fun ls hl => ?_)
      refine lv_iload_n hx hb dX6_either3_31 rfl (lv_at hl 2 rfl) ?_
      refine lv_if_ne (tgt := 39) hx hb dX6_either3_32 (by decide) (fun c32 => ?_) (fun c32 => ?_)
      · replace hf := ifn c32 hf
        refine lv_iconst (v := 1) hx hb dX6_either3_39 (by decide) ?_
        refine lv_goto (tgt := 44) hx hb dX6_either3_40 (by decide) ?_
        refine lv_istore_n (lv' := [(1, .int 1), (2, .int r27), (0, .ref (ad 0))]) hx hb dX6_either3_44 rfl hl (by decide) rfl (fun ls hl => ?_)
        refine lv_goto (tgt := 5) hx hb dX6_either3_45 (by decide) ?_
        exact ih μ27 ν27 1 hf _ _ X _ (lv_sub hl [2, 0] rfl)
      · replace hf := ifp c32 hf
        refine lv_iload_n hx hb dX6_either3_35 rfl (lv_at hl 0 rfl) ?_
        refine lv_if_eq (tgt := 43) hx hb dX6_either3_36 (by decide) (fun c36 => ?_) (fun c36 => ?_)
        · replace hf := ifp c36 hf
          refine lv_iconst (v := 0) hx hb dX6_either3_43 (by decide) ?_
          refine lv_istore_n (lv' := [(1, .int 0), (2, .int r27), (0, .ref (ad 0))]) hx hb dX6_either3_44 rfl hl (by decide) rfl (fun ls hl => ?_)
          refine lv_goto (tgt := 5) hx hb dX6_either3_45 (by decide) ?_
          exact ih μ27 ν27 0 hf _ _ X _ (lv_sub hl [2, 0] rfl)
        · replace hf := ifn c36 hf
          refine lv_iconst (v := 1) hx hb dX6_either3_39 (by decide) ?_
          refine lv_goto (tgt := 44) hx hb dX6_either3_40 (by decide) ?_
          refine lv_istore_n (lv' := [(1, .int 1), (2, .int r27), (0, .ref (ad 0))]) hx hb dX6_either3_44 rfl hl (by decide) rfl (fun ls hl => ?_)
          refine lv_goto (tgt := 5) hx hb dX6_either3_45 (by decide) ?_
          exact ih μ27 ν27 1 hf _ _ X _ (lv_sub hl [2, 0] rfl)
set_option maxRecDepth 100000 in
set_option maxHeartbeats 4000000 in
theorem w6_either3 {p : Program} {l : Launch} {e : Env} {s : State} {m : MethodId} {args : Array Value} {below : List Frame} {meth : Method} {c : Code} {D : va_G} {cy : Nat → ClassId} {ad : Nat → Nat} {r : Int32} {μ1 : Mem} {ν1 : Lem} (C : Cx false p s m args meth c cX6_either3 3 RX6 D cy ad) (hr : meth.sig.returnType = some .int) : ∀ (μ : Mem) (ν : Lem), f6_either3 μ ν = some (r, μ1, ν1) → ∀ (H : Heap) (locs : List Loc), Wd false D cy ad s.heap μ ν H locs → ∀ (ls : Array Slot), lv_has ls 3 [(0, .ref (ad 0))] → WI false p l e 21 465 s m args below meth c D cy ad .int r μ1 ν1 H locs (F0 m 0 ls []) := by
  have hx := C.1.1
  have hb := C.1.2.1
  have hown := C.1.2.2.2.1
  have hts := C.1.2.2.2.2
  intro μ ν hf H locs X ls hl
  unfold f6_either3 at hf
  refine lv_aload_n hx hb dX6_either3_0 rfl (lv_at hl 0 rfl) ?_
  obtain ⟨r1, μ1, ν1, g1, hf⟩ := bd3_e hf
  refine qX6_265 g1 C X hl.1 ((Nat.le_of_ble_eq_true rfl)) ⟨(Nat.le_of_ble_eq_true rfl), (Nat.le_of_ble_eq_true rfl)⟩ ⟨Nat.zero_le _, Nat.zero_le _⟩ dX6_either3_1 (fun H locs X b1 => ?_)
  refine lv_istore_n (lv' := [(1, .int r1), (0, .ref (ad 0))]) hx hb dX6_either3_4 rfl hl (by decide) rfl (fun ls hl => ?_)
  exact w6_either3_1 C hr  FUEL μ1 ν1 r1 hf _ _ X _ (lv_sub hl [1, 0] rfl)
theorem ct6_either3 {μ : Mem} {ν : Lem} {r : Int32} {μ1 : Mem} {ν1 : Lem} (hg : f6_either3 μ ν = some (r, μ1, ν1)) : CtI false yX6_either3 cX6_either3 3 21 465 .int (fun ad => [.ref (ad 0)]) μ ν r μ1 ν1 :=
  mkI (by decide) rfl (fun ad => Nat.le_of_ble_eq_true rfl) (fun p l e s m args below meth c D cy ad C hr X ls hl => w6_either3 C hr μ ν hg _ _ X _ hl)
theorem qX6_268 {p : Program} {l : Launch} {e : Env} {R : Room} {s : State} {m : MethodId} {args : Array Value} {below : List Frame} {meth : Method} {c : Code} {H : Heap} {locs : List Loc} {cells slots : Nat} {Q : State → Prop} {A : Nat → Prop} {cc : ByteArray} {nL : Nat} {D : va_G} {cy : Nat → ClassId} {ad : Nat → Nat} {μ : Mem} {ν : Lem} {pc : Nat} {ls : Array Slot} {rest : List Value} {r : Int32} {μ1 : Mem} {ν1 : Lem} (hg : f6_either3 μ ν = some (r, μ1, ν1)) (C : CxA false A p s m args meth c cc nL RX6 D cy ad) (X : WdA false A D cy ad s.heap μ ν H locs) (hsz : ls.size = nL) (hrm : (rest.map fun v => v.category).sum ≤ 8) (hR : 21 + 1 ≤ R.frames ∧ 8 + (3 + 11) + 465 ≤ R.locals) (hcs : cells ≤ R.cells ∧ slots ≤ R.slots) (hd : decode cc pc = .ok (.invokevirtual 268, 3)) (kk : ∀ (H1 : Heap) (locs1 : List Loc), WdA false A D cy ad s.heap μ1 ν1 H1 locs1 → narrow .int (.int r) = .int r → W p l e R s m args below meth c H1 locs1 cells slots Q (F0 m (pc + 3) ls (.int r :: rest))) : W p l e R s m args below meth c H locs cells slots Q (F0 m pc ls (.ref (ad 0) :: rest)) :=
  rCVI (As := []) (k := 0) (ct6_either3 hg) ok6 lX6_either3 k_1107 rfl rfl rfl C X rfl hrm hsz hR hcs hd kk
set_option maxRecDepth 100000 in
set_option maxHeartbeats 4000000 in
theorem w6_atom2_3 {p : Program} {l : Launch} {e : Env} {s : State} {m : MethodId} {args : Array Value} {below : List Frame} {meth : Method} {c : Code} {D : va_G} {cy : Nat → ClassId} {ad : Nat → Nat} {r : Int32} {μ1 : Mem} {ν1 : Lem} (C : Cx false p s m args meth c cX6_atom2 2 RX6 D cy ad) (hr : meth.sig.returnType = some .int) : ∀ (μ : Mem) (ν : Lem) (x1 : Int32), f6_atom2_3 μ ν x1 = some (r, μ1, ν1) → ∀ (H : Heap) (locs : List Loc), Wd false D cy ad s.heap μ ν H locs → ∀ (ls : Array Slot), lv_has ls 2 [(0, .ref (ad 0)), (1, .int x1)] → WI false p l e 22 487 s m args below meth c D cy ad .int r μ1 ν1 H locs (F0 m 157 ls []) := by
  have hx := C.1.1
  have hb := C.1.2.1
  have hown := C.1.2.2.2.1
  have hts := C.1.2.2.2.2
  intro μ ν x1 hf H locs X ls hl
  unfold f6_atom2_3 at hf
  refine lv_aload_n hx hb dX6_atom2_157 rfl (lv_at hl 0 rfl) ?_
  obtain ⟨μ158, ν158, g158, hf⟩ := pr2_e hf
  refine qX6_174 g158 C X hl.1 ((Nat.le_of_ble_eq_true rfl)) ⟨(Nat.le_of_ble_eq_true rfl), (Nat.le_of_ble_eq_true rfl)⟩ ⟨Nat.zero_le _, Nat.zero_le _⟩ dX6_atom2_158 (fun H locs X => ?_)
  refine lv_iload_n hx hb dX6_atom2_161 rfl (lv_at hl 1 rfl) ?_
  exact retI C X hr rfl (so3 hf).1 (so3 hf).2.1 (so3 hf).2.2 dX6_atom2_162
set_option maxRecDepth 100000 in
set_option maxHeartbeats 4000000 in
theorem w6_atom2_2 {p : Program} {l : Launch} {e : Env} {s : State} {m : MethodId} {args : Array Value} {below : List Frame} {meth : Method} {c : Code} {D : va_G} {cy : Nat → ClassId} {ad : Nat → Nat} {r : Int32} {μ1 : Mem} {ν1 : Lem} (C : Cx false p s m args meth c cX6_atom2 2 RX6 D cy ad) (hr : meth.sig.returnType = some .int) : ∀ (μ : Mem) (ν : Lem) (x1 : Int32), f6_atom2_2 μ ν x1 = some (r, μ1, ν1) → ∀ (H : Heap) (locs : List Loc), Wd false D cy ad s.heap μ ν H locs → ∀ (ls : Array Slot), lv_has ls 2 [(0, .ref (ad 0)), (1, .int x1)] → WI false p l e 22 487 s m args below meth c D cy ad .int r μ1 ν1 H locs (F0 m 123 ls []) := by
  have hx := C.1.1
  have hb := C.1.2.1
  have hown := C.1.2.2.2.1
  have hts := C.1.2.2.2.2
  intro μ ν x1 hf H locs X ls hl
  unfold f6_atom2_2 at hf
  refine lv_aload_n hx hb dX6_atom2_123 rfl (lv_at hl 0 rfl) ?_
  refine gfX6_160 C X dX6_atom2_124 ?_
  refine lv_if_ne (tgt := 157) hx hb dX6_atom2_127 (by decide) (fun c127 => ?_) (fun c127 => ?_)
  · replace hf := ifn c127 hf
    exact w6_atom2_3 C hr  μ ν x1 hf _ _ X _ (lv_sub hl [0, 1] rfl)
  · replace hf := ifp c127 hf
    refine lv_aload_n hx hb dX6_atom2_130 rfl (lv_at hl 0 rfl) ?_
    refine gfX6_145 C X dX6_atom2_131 ?_
    refine lv_iconst (v := 1) hx hb dX6_atom2_134 (by decide) ?_
    refine lv_icmp_ne (tgt := 157) hx hb dX6_atom2_135 (by decide) (fun c135 => ?_) (fun c135 => ?_)
    · replace hf := ifn c135 hf
      exact w6_atom2_3 C hr  μ ν x1 hf _ _ X _ (lv_sub hl [0, 1] rfl)
    · replace hf := ifp c135 hf
      refine lv_aload_n hx hb dX6_atom2_138 rfl (lv_at hl 0 rfl) ?_
      obtain ⟨r139, μ139, ν139, g139, hf⟩ := bd3_e hf
      refine qX6_209 g139 C X hl.1 ((Nat.le_of_ble_eq_true rfl)) ⟨(Nat.le_of_ble_eq_true rfl), (Nat.le_of_ble_eq_true rfl)⟩ ⟨Nat.zero_le _, Nat.zero_le _⟩ dX6_atom2_139 (fun H locs X b139 => ?_)
      refine lv_istore_n (lv' := [(1, .int r139), (0, .ref (ad 0))]) hx hb dX6_atom2_142 rfl hl (by decide) rfl (fun ls hl => ?_)
      refine lv_aload_n hx hb dX6_atom2_143 rfl (lv_at hl 1 rfl) ?_
      refine gfX6_160 C X dX6_atom2_144 ?_
      refine lv_if_ne (tgt := 161) hx hb dX6_atom2_147 (by decide) (fun c147 => ?_) (fun c147 => ?_)
      · replace hf := ifn c147 hf
        refine lv_iload_n hx hb dX6_atom2_161 rfl (lv_at hl 0 rfl) ?_
        exact retI C X hr rfl (so3 hf).1 (so3 hf).2.1 (so3 hf).2.2 dX6_atom2_162
      · replace hf := ifp c147 hf
        refine lv_aload_n hx hb dX6_atom2_150 rfl (lv_at hl 1 rfl) ?_
        obtain ⟨μ151, ν151, g151, hf⟩ := bd2_e hf
        refine qX6_177 g151 C X hl.1 ((Nat.le_of_ble_eq_true rfl)) ⟨(Nat.le_of_ble_eq_true rfl), (Nat.le_of_ble_eq_true rfl)⟩ ⟨Nat.zero_le _, Nat.zero_le _⟩ dX6_atom2_151 (fun H locs X => ?_)
        refine lv_goto (tgt := 161) hx hb dX6_atom2_154 (by decide) ?_
        refine lv_iload_n hx hb dX6_atom2_161 rfl (lv_at hl 0 rfl) ?_
        exact retI C X hr rfl (so3 hf).1 (so3 hf).2.1 (so3 hf).2.2 dX6_atom2_162
set_option maxRecDepth 100000 in
set_option maxHeartbeats 4000000 in
theorem w6_atom2_1 {p : Program} {l : Launch} {e : Env} {s : State} {m : MethodId} {args : Array Value} {below : List Frame} {meth : Method} {c : Code} {D : va_G} {cy : Nat → ClassId} {ad : Nat → Nat} {r : Int32} {μ1 : Mem} {ν1 : Lem} (C : Cx false p s m args meth c cX6_atom2 2 RX6 D cy ad) (hr : meth.sig.returnType = some .int) : ∀ (μ : Mem) (ν : Lem) (x1 : Int32), f6_atom2_1 μ ν x1 = some (r, μ1, ν1) → ∀ (H : Heap) (locs : List Loc), Wd false D cy ad s.heap μ ν H locs → ∀ (ls : Array Slot), lv_has ls 2 [(0, .ref (ad 0)), (1, .int x1)] → WI false p l e 22 487 s m args below meth c D cy ad .int r μ1 ν1 H locs (F0 m 71 ls []) := by
  have hx := C.1.1
  have hb := C.1.2.1
  have hown := C.1.2.2.2.1
  have hts := C.1.2.2.2.2
  intro μ ν x1 hf H locs X ls hl
  unfold f6_atom2_1 at hf
  refine lv_aload_n hx hb dX6_atom2_71 rfl (lv_at hl 0 rfl) ?_
  refine lv_dup hx hb dX6_atom2_72 rfl ?_
  refine gfX6_171 C X dX6_atom2_73 ?_
  refine lv_iconst (v := 1) hx hb dX6_atom2_76 (by decide) ?_
  refine lv_isub hx hb dX6_atom2_77 ?_
  obtain ⟨μ78, e78, hf⟩ := nm_e2 hf
  refine pfX6_171 e78 C X dX6_atom2_78 (fun H locs X => ?_)
  refine lv_aload_n hx hb dX6_atom2_81 rfl (lv_at hl 0 rfl) ?_
  refine gfX6_160 C X dX6_atom2_82 ?_
  refine lv_if_ne (tgt := 161) hx hb dX6_atom2_85 (by decide) (fun c85 => ?_) (fun c85 => ?_)
  · replace hf := ifn c85 hf
    refine lv_iload_n hx hb dX6_atom2_161 rfl (lv_at hl 1 rfl) ?_
    exact retI C X hr rfl (so3 hf).1 (so3 hf).2.1 (so3 hf).2.2 dX6_atom2_162
  · replace hf := ifp c85 hf
    refine lv_aload_n hx hb dX6_atom2_88 rfl (lv_at hl 0 rfl) ?_
    obtain ⟨μ89, ν89, g89, hf⟩ := bd2_e hf
    refine qX6_177 g89 C X hl.1 ((Nat.le_of_ble_eq_true rfl)) ⟨(Nat.le_of_ble_eq_true rfl), (Nat.le_of_ble_eq_true rfl)⟩ ⟨Nat.zero_le _, Nat.zero_le _⟩ dX6_atom2_89 (fun H locs X => ?_)
    refine lv_goto (tgt := 161) hx hb dX6_atom2_92 (by decide) ?_
    refine lv_iload_n hx hb dX6_atom2_161 rfl (lv_at hl 1 rfl) ?_
    exact retI C X hr rfl (so3 hf).1 (so3 hf).2.1 (so3 hf).2.2 dX6_atom2_162
set_option maxRecDepth 100000 in
set_option maxHeartbeats 4000000 in
theorem w6_atom2 {p : Program} {l : Launch} {e : Env} {s : State} {m : MethodId} {args : Array Value} {below : List Frame} {meth : Method} {c : Code} {D : va_G} {cy : Nat → ClassId} {ad : Nat → Nat} {r : Int32} {μ1 : Mem} {ν1 : Lem} (C : Cx false p s m args meth c cX6_atom2 2 RX6 D cy ad) (hr : meth.sig.returnType = some .int) : ∀ (μ : Mem) (ν : Lem), f6_atom2 μ ν = some (r, μ1, ν1) → ∀ (H : Heap) (locs : List Loc), Wd false D cy ad s.heap μ ν H locs → ∀ (ls : Array Slot), lv_has ls 2 [(0, .ref (ad 0))] → WI false p l e 22 487 s m args below meth c D cy ad .int r μ1 ν1 H locs (F0 m 0 ls []) := by
  have hx := C.1.1
  have hb := C.1.2.1
  have hown := C.1.2.2.2.1
  have hts := C.1.2.2.2.2
  intro μ ν hf H locs X ls hl
  unfold f6_atom2 at hf
  refine lv_iconst (v := 0) hx hb dX6_atom2_0 (by decide) ?_
  refine lv_istore_n (lv' := [(1, .int 0), (0, .ref (ad 0))]) hx hb dX6_atom2_1 rfl hl (by decide) rfl (fun ls hl => ?_)
  refine lv_aload_n hx hb dX6_atom2_2 rfl (lv_at hl 1 rfl) ?_
  refine lv_bipush (v := 45) hx hb dX6_atom2_3 (by decide) ?_
  refine qX6_202 rfl C X hl.1 ((Nat.le_of_ble_eq_true rfl)) ⟨(Nat.le_of_ble_eq_true rfl), (Nat.le_of_ble_eq_true rfl)⟩ ⟨Nat.zero_le _, Nat.zero_le _⟩ dX6_atom2_5 (fun H locs X b5 => ?_)
  refine lv_if_eq (tgt := 37) hx hb dX6_atom2_8 (by decide) (fun c8 => ?_) (fun c8 => ?_)
  · replace hf := ifp c8 hf
    refine lv_aload_n hx hb dX6_atom2_37 rfl (lv_at hl 1 rfl) ?_
    refine lv_bipush (v := 40) hx hb dX6_atom2_38 (by decide) ?_
    refine qX6_202 rfl C X hl.1 ((Nat.le_of_ble_eq_true rfl)) ⟨(Nat.le_of_ble_eq_true rfl), (Nat.le_of_ble_eq_true rfl)⟩ ⟨Nat.zero_le _, Nat.zero_le _⟩ dX6_atom2_40 (fun H locs X b40 => ?_)
    refine lv_if_eq (tgt := 95) hx hb dX6_atom2_43 (by decide) (fun c43 => ?_) (fun c43 => ?_)
    · replace hf := ifp c43 hf
      refine lv_aload_n hx hb dX6_atom2_95 rfl (lv_at hl 1 rfl) ?_
      refine gfX6_160 C X dX6_atom2_96 ?_
      refine lv_if_ne (tgt := 123) hx hb dX6_atom2_99 (by decide) (fun c99 => ?_) (fun c99 => ?_)
      · replace hf := ifn c99 hf
        exact w6_atom2_2 C hr  μ ν 0 hf _ _ X _ (lv_sub hl [1, 0] rfl)
      · replace hf := ifp c99 hf
        refine lv_aload_n hx hb dX6_atom2_102 rfl (lv_at hl 1 rfl) ?_
        refine gfX6_145 C X dX6_atom2_103 ?_
        refine lv_iconst (v := 2) hx hb dX6_atom2_106 (by decide) ?_
        refine lv_icmp_ne (tgt := 123) hx hb dX6_atom2_107 (by decide) (fun c107 => ?_) (fun c107 => ?_)
        · replace hf := ifn c107 hf
          exact w6_atom2_2 C hr  μ ν 0 hf _ _ X _ (lv_sub hl [1, 0] rfl)
        · replace hf := ifp c107 hf
          refine lv_aload_n hx hb dX6_atom2_110 rfl (lv_at hl 1 rfl) ?_
          refine gfX6_156 C X dX6_atom2_111 ?_
          refine lv_l2i hx hb dX6_atom2_114 rfl ?_
          obtain ⟨v115, e115, hf⟩ := nm_e2 hf
          refine st_i e115 ?_
          refine lv_istore_n (lv' := [(1, .int v115), (0, .ref (ad 0))]) hx hb dX6_atom2_115 rfl hl (by decide) rfl (fun ls hl => ?_)
          refine lv_aload_n hx hb dX6_atom2_116 rfl (lv_at hl 1 rfl) ?_
          obtain ⟨μ117, ν117, g117, hf⟩ := bd2_e hf
          refine qX6_177 g117 C X hl.1 ((Nat.le_of_ble_eq_true rfl)) ⟨(Nat.le_of_ble_eq_true rfl), (Nat.le_of_ble_eq_true rfl)⟩ ⟨Nat.zero_le _, Nat.zero_le _⟩ dX6_atom2_117 (fun H locs X => ?_)
          refine lv_goto (tgt := 161) hx hb dX6_atom2_120 (by decide) ?_
          refine lv_iload_n hx hb dX6_atom2_161 rfl (lv_at hl 0 rfl) ?_
          exact retI C X hr rfl (so3 hf).1 (so3 hf).2.1 (so3 hf).2.2 dX6_atom2_162
    · replace hf := ifn c43 hf
      refine lv_aload_n hx hb dX6_atom2_46 rfl (lv_at hl 1 rfl) ?_
      obtain ⟨r47, μ47, ν47, g47, hf⟩ := bd3_e hf
      refine qX6_205 g47 C X hl.1 ((Nat.le_of_ble_eq_true rfl)) ⟨(Nat.le_of_ble_eq_true rfl), (Nat.le_of_ble_eq_true rfl)⟩ ⟨Nat.zero_le _, Nat.zero_le _⟩ dX6_atom2_47 (fun H locs X b47 => ?_)
      refine lv_if_eq (tgt := 161) hx hb dX6_atom2_50 (by decide) (fun c50 => ?_) (fun c50 => ?_)
      · replace hf := ifp c50 hf
        refine lv_iload_n hx hb dX6_atom2_161 rfl (lv_at hl 0 rfl) ?_
        exact retI C X hr rfl (so3 hf).1 (so3 hf).2.1 (so3 hf).2.2 dX6_atom2_162
      · replace hf := ifn c50 hf
        refine lv_aload_n hx hb dX6_atom2_53 rfl (lv_at hl 1 rfl) ?_
        obtain ⟨r54, μ54, ν54, g54, hf⟩ := bd3_e hf
        refine qX6_268 g54 C X hl.1 ((Nat.le_of_ble_eq_true rfl)) ⟨(Nat.le_of_ble_eq_true rfl), (Nat.le_of_ble_eq_true rfl)⟩ ⟨Nat.zero_le _, Nat.zero_le _⟩ dX6_atom2_54 (fun H locs X b54 => ?_)
        refine lv_istore_n (lv' := [(1, .int r54), (0, .ref (ad 0))]) hx hb dX6_atom2_57 rfl hl (by decide) rfl (fun ls hl => ?_)
        refine lv_aload_n hx hb dX6_atom2_58 rfl (lv_at hl 1 rfl) ?_
        refine lv_bipush (v := 41) hx hb dX6_atom2_59 (by decide) ?_
        refine qX6_202 rfl C X hl.1 ((Nat.le_of_ble_eq_true rfl)) ⟨(Nat.le_of_ble_eq_true rfl), (Nat.le_of_ble_eq_true rfl)⟩ ⟨Nat.zero_le _, Nat.zero_le _⟩ dX6_atom2_61 (fun H locs X b61 => ?_)
        refine lv_if_ne (tgt := 71) hx hb dX6_atom2_64 (by decide) (fun c64 => ?_) (fun c64 => ?_)
        · replace hf := ifn c64 hf
          exact w6_atom2_1 C hr  μ54 ν54 r54 hf _ _ X _ (lv_sub hl [1, 0] rfl)
        · replace hf := ifp c64 hf
          refine lv_aload_n hx hb dX6_atom2_67 rfl (lv_at hl 1 rfl) ?_
          obtain ⟨μ68, ν68, g68, hf⟩ := pr2_e hf
          refine qX6_174 g68 C X hl.1 ((Nat.le_of_ble_eq_true rfl)) ⟨(Nat.le_of_ble_eq_true rfl), (Nat.le_of_ble_eq_true rfl)⟩ ⟨Nat.zero_le _, Nat.zero_le _⟩ dX6_atom2_68 (fun H locs X => ?_)
          exact w6_atom2_1 C hr  μ68 ν68 r54 hf _ _ X _ (lv_sub hl [1, 0] rfl)
  · replace hf := ifn c8 hf
    refine lv_aload_n hx hb dX6_atom2_11 rfl (lv_at hl 1 rfl) ?_
    obtain ⟨r12, μ12, ν12, g12, hf⟩ := bd3_e hf
    refine qX6_205 g12 C X hl.1 ((Nat.le_of_ble_eq_true rfl)) ⟨(Nat.le_of_ble_eq_true rfl), (Nat.le_of_ble_eq_true rfl)⟩ ⟨Nat.zero_le _, Nat.zero_le _⟩ dX6_atom2_12 (fun H locs X b12 => ?_)
    refine lv_if_eq (tgt := 161) hx hb dX6_atom2_15 (by decide) (fun c15 => ?_) (fun c15 => ?_)
    · replace hf := ifp c15 hf
      refine lv_iload_n hx hb dX6_atom2_161 rfl (lv_at hl 0 rfl) ?_
      exact retI C X hr rfl (so3 hf).1 (so3 hf).2.1 (so3 hf).2.2 dX6_atom2_162
    · replace hf := ifn c15 hf
      refine lv_aload_n hx hb dX6_atom2_18 rfl (lv_at hl 1 rfl) ?_
      obtain ⟨r19, μ19, ν19, g19, hf⟩ := bd3_e hf
      refine qX6_253 g19 C X hl.1 ((Nat.le_of_ble_eq_true rfl)) ⟨(Nat.le_of_ble_eq_true rfl), (Nat.le_of_ble_eq_true rfl)⟩ ⟨Nat.zero_le _, Nat.zero_le _⟩ dX6_atom2_19 (fun H locs X b19 => ?_)
      refine lv_ineg hx hb dX6_atom2_22 ?_
      obtain ⟨v23, e23, hf⟩ := nm_e2 hf
      refine st_i e23 ?_
      refine lv_istore_n (lv' := [(1, .int v23), (0, .ref (ad 0))]) hx hb dX6_atom2_23 rfl hl (by decide) rfl (fun ls hl => ?_)
      refine lv_aload_n hx hb dX6_atom2_24 rfl (lv_at hl 1 rfl) ?_
      refine lv_dup hx hb dX6_atom2_25 rfl ?_
      refine gfX6_171 C X dX6_atom2_26 ?_
      refine lv_iconst (v := 1) hx hb dX6_atom2_29 (by decide) ?_
      refine lv_isub hx hb dX6_atom2_30 ?_
      obtain ⟨μ31, e31, hf⟩ := nm_e2 hf
      refine pfX6_171 e31 C X dX6_atom2_31 (fun H locs X => ?_)
      refine lv_goto (tgt := 161) hx hb dX6_atom2_34 (by decide) ?_
      refine lv_iload_n hx hb dX6_atom2_161 rfl (lv_at hl 0 rfl) ?_
      exact retI C X hr rfl (so3 hf).1 (so3 hf).2.1 (so3 hf).2.2 dX6_atom2_162
theorem ct6_atom2 {μ : Mem} {ν : Lem} {r : Int32} {μ1 : Mem} {ν1 : Lem} (hg : f6_atom2 μ ν = some (r, μ1, ν1)) : CtI false yX6_atom2 cX6_atom2 2 22 487 .int (fun ad => [.ref (ad 0)]) μ ν r μ1 ν1 :=
  mkI (by decide) rfl (fun ad => Nat.le_of_ble_eq_true rfl) (fun p l e s m args below meth c D cy ad C hr X ls hl => w6_atom2 C hr μ ν hg _ _ X _ hl)
theorem qX6_271 {p : Program} {l : Launch} {e : Env} {R : Room} {s : State} {m : MethodId} {args : Array Value} {below : List Frame} {meth : Method} {c : Code} {H : Heap} {locs : List Loc} {cells slots : Nat} {Q : State → Prop} {A : Nat → Prop} {cc : ByteArray} {nL : Nat} {D : va_G} {cy : Nat → ClassId} {ad : Nat → Nat} {μ : Mem} {ν : Lem} {pc : Nat} {ls : Array Slot} {rest : List Value} {r : Int32} {μ1 : Mem} {ν1 : Lem} (hg : f6_atom2 μ ν = some (r, μ1, ν1)) (C : CxA false A p s m args meth c cc nL RX6 D cy ad) (X : WdA false A D cy ad s.heap μ ν H locs) (hsz : ls.size = nL) (hrm : (rest.map fun v => v.category).sum ≤ 8) (hR : 22 + 1 ≤ R.frames ∧ 8 + (2 + 11) + 487 ≤ R.locals) (hcs : cells ≤ R.cells ∧ slots ≤ R.slots) (hd : decode cc pc = .ok (.invokevirtual 271, 3)) (kk : ∀ (H1 : Heap) (locs1 : List Loc), WdA false A D cy ad s.heap μ1 ν1 H1 locs1 → narrow .int (.int r) = .int r → W p l e R s m args below meth c H1 locs1 cells slots Q (F0 m (pc + 3) ls (.int r :: rest))) : W p l e R s m args below meth c H locs cells slots Q (F0 m pc ls (.ref (ad 0) :: rest)) :=
  rCVI (As := []) (k := 0) (ct6_atom2 hg) ok6 lX6_atom2 k_1103 rfl rfl rfl C X rfl hrm hsz hR hcs hd kk
set_option maxRecDepth 100000 in
set_option maxHeartbeats 4000000 in
theorem w6_term2_1 {p : Program} {l : Launch} {e : Env} {s : State} {m : MethodId} {args : Array Value} {below : List Frame} {meth : Method} {c : Code} {D : va_G} {cy : Nat → ClassId} {ad : Nat → Nat} {r : Int32} {μ1 : Mem} {ν1 : Lem} (C : Cx false p s m args meth c cX6_term2 2 RX6 D cy ad) (hr : meth.sig.returnType = some .int) : ∀ (n : Nat), ∀ (μ : Mem) (ν : Lem) (x1 : Int32), f6_term2_1 n μ ν x1 = some (r, μ1, ν1) → ∀ (H : Heap) (locs : List Loc), Wd false D cy ad s.heap μ ν H locs → ∀ (ls : Array Slot), lv_has ls 2 [(0, .ref (ad 0)), (1, .int x1)] → WI false p l e 23 508 s m args below meth c D cy ad .int r μ1 ν1 H locs (F0 m 5 ls []) := by
  have hx := C.1.1
  have hb := C.1.2.1
  have hown := C.1.2.2.2.1
  have hts := C.1.2.2.2.2
  intro n
  induction n with
  | zero =>
    intro μ ν x1 hf H locs X ls hl
    rw [f6_term2_1] at hf
    cases hf
  | succ n ih =>
    intro μ ν x1 hf H locs X ls hl
    rw [f6_term2_1] at hf
    refine lv_aload_n hx hb dX6_term2_5 rfl (lv_at hl 0 rfl) ?_
    refine lv_bipush (v := 42) hx hb dX6_term2_6 (by decide) ?_
    refine qX6_202 rfl C X hl.1 ((Nat.le_of_ble_eq_true rfl)) ⟨(Nat.le_of_ble_eq_true rfl), (Nat.le_of_ble_eq_true rfl)⟩ ⟨Nat.zero_le _, Nat.zero_le _⟩ dX6_term2_8 (fun H locs X b8 => ?_)
    refine lv_if_eq (tgt := 28) hx hb dX6_term2_11 (by decide) (fun c11 => ?_) (fun c11 => ?_)
    · replace hf := ifp c11 hf
      refine lv_iload_n hx hb dX6_term2_28 rfl (lv_at hl 1 rfl) ?_
      exact retI C X hr rfl (so3 hf).1 (so3 hf).2.1 (so3 hf).2.2 dX6_term2_29
    · replace hf := ifn c11 hf
      refine lv_aload_n hx hb dX6_term2_14 rfl (lv_at hl 0 rfl) ?_
      obtain ⟨μ15, ν15, g15, hf⟩ := bd2_e hf
      refine qX6_177 g15 C X hl.1 ((Nat.le_of_ble_eq_true rfl)) ⟨(Nat.le_of_ble_eq_true rfl), (Nat.le_of_ble_eq_true rfl)⟩ ⟨Nat.zero_le _, Nat.zero_le _⟩ dX6_term2_15 (fun H locs X => ?_)
      refine lv_iload_n hx hb dX6_term2_18 rfl (lv_at hl 1 rfl) ?_
      refine lv_aload_n hx hb dX6_term2_19 rfl (lv_at hl 0 rfl) ?_
      obtain ⟨r20, μ20, ν20, g20, hf⟩ := bd3_e hf
      refine qX6_271 g20 C X hl.1 ((Nat.le_of_ble_eq_true rfl)) ⟨(Nat.le_of_ble_eq_true rfl), (Nat.le_of_ble_eq_true rfl)⟩ ⟨Nat.zero_le _, Nat.zero_le _⟩ dX6_term2_20 (fun H locs X b20 => ?_)
      refine lv_imul hx hb dX6_term2_23 ?_
      obtain ⟨v24, e24, hf⟩ := nm_e2 hf
      refine st_i e24 ?_
      refine lv_istore_n (lv' := [(1, .int v24), (0, .ref (ad 0))]) hx hb dX6_term2_24 rfl hl (by decide) rfl (fun ls hl => ?_)
      refine lv_goto (tgt := 5) hx hb dX6_term2_25 (by decide) ?_
      exact ih μ20 ν20 v24 hf _ _ X _ (lv_sub hl [1, 0] rfl)
set_option maxRecDepth 100000 in
set_option maxHeartbeats 4000000 in
theorem w6_term2 {p : Program} {l : Launch} {e : Env} {s : State} {m : MethodId} {args : Array Value} {below : List Frame} {meth : Method} {c : Code} {D : va_G} {cy : Nat → ClassId} {ad : Nat → Nat} {r : Int32} {μ1 : Mem} {ν1 : Lem} (C : Cx false p s m args meth c cX6_term2 2 RX6 D cy ad) (hr : meth.sig.returnType = some .int) : ∀ (μ : Mem) (ν : Lem), f6_term2 μ ν = some (r, μ1, ν1) → ∀ (H : Heap) (locs : List Loc), Wd false D cy ad s.heap μ ν H locs → ∀ (ls : Array Slot), lv_has ls 2 [(0, .ref (ad 0))] → WI false p l e 23 508 s m args below meth c D cy ad .int r μ1 ν1 H locs (F0 m 0 ls []) := by
  have hx := C.1.1
  have hb := C.1.2.1
  have hown := C.1.2.2.2.1
  have hts := C.1.2.2.2.2
  intro μ ν hf H locs X ls hl
  unfold f6_term2 at hf
  refine lv_aload_n hx hb dX6_term2_0 rfl (lv_at hl 0 rfl) ?_
  obtain ⟨r1, μ1, ν1, g1, hf⟩ := bd3_e hf
  refine qX6_271 g1 C X hl.1 ((Nat.le_of_ble_eq_true rfl)) ⟨(Nat.le_of_ble_eq_true rfl), (Nat.le_of_ble_eq_true rfl)⟩ ⟨Nat.zero_le _, Nat.zero_le _⟩ dX6_term2_1 (fun H locs X b1 => ?_)
  refine lv_istore_n (lv' := [(1, .int r1), (0, .ref (ad 0))]) hx hb dX6_term2_4 rfl hl (by decide) rfl (fun ls hl => ?_)
  exact w6_term2_1 C hr  FUEL μ1 ν1 r1 hf _ _ X _ (lv_sub hl [1, 0] rfl)
theorem ct6_term2 {μ : Mem} {ν : Lem} {r : Int32} {μ1 : Mem} {ν1 : Lem} (hg : f6_term2 μ ν = some (r, μ1, ν1)) : CtI false yX6_term2 cX6_term2 2 23 508 .int (fun ad => [.ref (ad 0)]) μ ν r μ1 ν1 :=
  mkI (by decide) rfl (fun ad => Nat.le_of_ble_eq_true rfl) (fun p l e s m args below meth c D cy ad C hr X ls hl => w6_term2 C hr μ ν hg _ _ X _ hl)
theorem qX6_274 {p : Program} {l : Launch} {e : Env} {R : Room} {s : State} {m : MethodId} {args : Array Value} {below : List Frame} {meth : Method} {c : Code} {H : Heap} {locs : List Loc} {cells slots : Nat} {Q : State → Prop} {A : Nat → Prop} {cc : ByteArray} {nL : Nat} {D : va_G} {cy : Nat → ClassId} {ad : Nat → Nat} {μ : Mem} {ν : Lem} {pc : Nat} {ls : Array Slot} {rest : List Value} {r : Int32} {μ1 : Mem} {ν1 : Lem} (hg : f6_term2 μ ν = some (r, μ1, ν1)) (C : CxA false A p s m args meth c cc nL RX6 D cy ad) (X : WdA false A D cy ad s.heap μ ν H locs) (hsz : ls.size = nL) (hrm : (rest.map fun v => v.category).sum ≤ 8) (hR : 23 + 1 ≤ R.frames ∧ 8 + (2 + 11) + 508 ≤ R.locals) (hcs : cells ≤ R.cells ∧ slots ≤ R.slots) (hd : decode cc pc = .ok (.invokevirtual 274, 3)) (kk : ∀ (H1 : Heap) (locs1 : List Loc), WdA false A D cy ad s.heap μ1 ν1 H1 locs1 → narrow .int (.int r) = .int r → W p l e R s m args below meth c H1 locs1 cells slots Q (F0 m (pc + 3) ls (.int r :: rest))) : W p l e R s m args below meth c H locs cells slots Q (F0 m pc ls (.ref (ad 0) :: rest)) :=
  rCVI (As := []) (k := 0) (ct6_term2 hg) ok6 lX6_term2 k_1099 rfl rfl rfl C X rfl hrm hsz hR hcs hd kk
set_option maxRecDepth 100000 in
set_option maxHeartbeats 4000000 in
theorem w6_added2_3 {p : Program} {l : Launch} {e : Env} {s : State} {m : MethodId} {args : Array Value} {below : List Frame} {meth : Method} {c : Code} {D : va_G} {cy : Nat → ClassId} {ad : Nat → Nat} {r : Int32} {μ1 : Mem} {ν1 : Lem} (C : Cx false p s m args meth c cX6_added2 4 RX6 D cy ad) (hr : meth.sig.returnType = some .int) (K5 : Mem → Lem → Int32 → Option (Int32 × Mem × Lem)) (hK5 : ∀ (μ : Mem) (ν : Lem) (x1 : Int32), K5 μ ν x1 = some (r, μ1, ν1) → ∀ (H : Heap) (locs : List Loc), Wd false D cy ad s.heap μ ν H locs → ∀ (ls : Array Slot), lv_has ls 4 [(0, .ref (ad 0)), (1, .int x1)] → WI false p l e 24 529 s m args below meth c D cy ad .int r μ1 ν1 H locs (F0 m 5 ls [])) : ∀ (μ : Mem) (ν : Lem) (x1 : Int32) (t0 : Int32), f6_added2_3 K5 μ ν x1 t0 = some (r, μ1, ν1) → ∀ (H : Heap) (locs : List Loc), Wd false D cy ad s.heap μ ν H locs → ∀ (ls : Array Slot), lv_has ls 4 [(0, .ref (ad 0)), (1, .int x1)] → WI false p l e 24 529 s m args below meth c D cy ad .int r μ1 ν1 H locs (F0 m 39 ls [.int t0]) := by
  have hx := C.1.1
  have hb := C.1.2.1
  have hown := C.1.2.2.2.1
  have hts := C.1.2.2.2.2
  intro μ ν x1 t0 hf H locs X ls hl
  unfold f6_added2_3 at hf
  refine lv_istore_n (lv' := [(2, .int t0), (0, .ref (ad 0)), (1, .int x1)]) hx hb dX6_added2_39 rfl hl (by decide) rfl (fun ls hl => ?_)
  refine lv_aload_n hx hb dX6_added2_40 rfl (lv_at hl 1 rfl) ?_
  obtain ⟨μ41, ν41, g41, hf⟩ := bd2_e hf
  refine qX6_177 g41 C X hl.1 ((Nat.le_of_ble_eq_true rfl)) ⟨(Nat.le_of_ble_eq_true rfl), (Nat.le_of_ble_eq_true rfl)⟩ ⟨Nat.zero_le _, Nat.zero_le _⟩ dX6_added2_41 (fun H locs X => ?_)
  refine lv_aload_n hx hb dX6_added2_44 rfl (lv_at hl 1 rfl) ?_
  obtain ⟨r45, μ45, ν45, g45, hf⟩ := bd3_e hf
  refine qX6_274 g45 C X hl.1 ((Nat.le_of_ble_eq_true rfl)) ⟨(Nat.le_of_ble_eq_true rfl), (Nat.le_of_ble_eq_true rfl)⟩ ⟨Nat.zero_le _, Nat.zero_le _⟩ dX6_added2_45 (fun H locs X b45 => ?_)
  refine lv_istore_n (lv' := [(3, .int r45), (2, .int t0), (0, .ref (ad 0)), (1, .int x1)]) hx hb dX6_added2_48 rfl hl (by decide) rfl (fun ls hl => ?_)
  refine lv_iload_n hx hb dX6_added2_49 rfl (lv_at hl 1 rfl) ?_
  refine lv_if_eq (tgt := 59) hx hb dX6_added2_50 (by decide) (fun c50 => ?_) (fun c50 => ?_)
  · replace hf := ifp c50 hf
    refine lv_iload_n hx hb dX6_added2_59 rfl (lv_at hl 3 rfl) ?_
    refine lv_iload_n hx hb dX6_added2_60 rfl (lv_at hl 0 rfl) ?_
    refine lv_isub hx hb dX6_added2_61 ?_
    obtain ⟨v62, e62, hf⟩ := nm_e2 hf
    refine st_i e62 ?_
    refine lv_istore_n (lv' := [(1, .int v62), (3, .int r45), (2, .int t0), (0, .ref (ad 0))]) hx hb dX6_added2_62 rfl hl (by decide) rfl (fun ls hl => ?_)
    refine lv_goto (tgt := 5) hx hb dX6_added2_63 (by decide) ?_
    exact hK5 μ45 ν45 v62 hf _ _ X _ (lv_sub hl [3, 0] rfl)
  · replace hf := ifn c50 hf
    refine lv_iload_n hx hb dX6_added2_53 rfl (lv_at hl 3 rfl) ?_
    refine lv_iload_n hx hb dX6_added2_54 rfl (lv_at hl 0 rfl) ?_
    refine lv_iadd hx hb dX6_added2_55 ?_
    refine lv_goto (tgt := 62) hx hb dX6_added2_56 (by decide) ?_
    obtain ⟨v62, e62, hf⟩ := nm_e2 hf
    refine st_i e62 ?_
    refine lv_istore_n (lv' := [(1, .int v62), (3, .int r45), (2, .int t0), (0, .ref (ad 0))]) hx hb dX6_added2_62 rfl hl (by decide) rfl (fun ls hl => ?_)
    refine lv_goto (tgt := 5) hx hb dX6_added2_63 (by decide) ?_
    exact hK5 μ45 ν45 v62 hf _ _ X _ (lv_sub hl [3, 0] rfl)
set_option maxRecDepth 100000 in
set_option maxHeartbeats 4000000 in
theorem w6_added2_2 {p : Program} {l : Launch} {e : Env} {s : State} {m : MethodId} {args : Array Value} {below : List Frame} {meth : Method} {c : Code} {D : va_G} {cy : Nat → ClassId} {ad : Nat → Nat} {r : Int32} {μ1 : Mem} {ν1 : Lem} (C : Cx false p s m args meth c cX6_added2 4 RX6 D cy ad) (hr : meth.sig.returnType = some .int) (K5 : Mem → Lem → Int32 → Option (Int32 × Mem × Lem)) (hK5 : ∀ (μ : Mem) (ν : Lem) (x1 : Int32), K5 μ ν x1 = some (r, μ1, ν1) → ∀ (H : Heap) (locs : List Loc), Wd false D cy ad s.heap μ ν H locs → ∀ (ls : Array Slot), lv_has ls 4 [(0, .ref (ad 0)), (1, .int x1)] → WI false p l e 24 529 s m args below meth c D cy ad .int r μ1 ν1 H locs (F0 m 5 ls [])) : ∀ (μ : Mem) (ν : Lem) (x1 : Int32), f6_added2_2 K5 μ ν x1 = some (r, μ1, ν1) → ∀ (H : Heap) (locs : List Loc), Wd false D cy ad s.heap μ ν H locs → ∀ (ls : Array Slot), lv_has ls 4 [(0, .ref (ad 0)), (1, .int x1)] → WI false p l e 24 529 s m args below meth c D cy ad .int r μ1 ν1 H locs (F0 m 23 ls []) := by
  have hx := C.1.1
  have hb := C.1.2.1
  have hown := C.1.2.2.2.1
  have hts := C.1.2.2.2.2
  intro μ ν x1 hf H locs X ls hl
  unfold f6_added2_2 at hf
  refine lv_aload_n hx hb dX6_added2_23 rfl (lv_at hl 0 rfl) ?_
  refine gfX6_156 C X dX6_added2_24 ?_
  refine lv_ldc2 (v := (43)) hx hb hown (hts _ k_1053) dX6_added2_27 ?_
  refine W.lcmp hx hb dX6_added2_30 ?_
  refine lv_if_ne (tgt := 38) hx hb dX6_added2_31 (by decide) (fun c31 => ?_) (fun c31 => ?_)
  · replace hf := ifn c31 hf
    refine lv_iconst (v := 0) hx hb dX6_added2_38 (by decide) ?_
    exact w6_added2_3 C hr K5 hK5 μ ν x1 0 hf _ _ X _ (lv_sub hl [0, 1] rfl)
  · replace hf := ifp c31 hf
    refine lv_iconst (v := 1) hx hb dX6_added2_34 (by decide) ?_
    refine lv_goto (tgt := 39) hx hb dX6_added2_35 (by decide) ?_
    exact w6_added2_3 C hr K5 hK5 μ ν x1 1 hf _ _ X _ (lv_sub hl [0, 1] rfl)
set_option maxRecDepth 100000 in
set_option maxHeartbeats 4000000 in
theorem w6_added2_1 {p : Program} {l : Launch} {e : Env} {s : State} {m : MethodId} {args : Array Value} {below : List Frame} {meth : Method} {c : Code} {D : va_G} {cy : Nat → ClassId} {ad : Nat → Nat} {r : Int32} {μ1 : Mem} {ν1 : Lem} (C : Cx false p s m args meth c cX6_added2 4 RX6 D cy ad) (hr : meth.sig.returnType = some .int) : ∀ (n : Nat), ∀ (μ : Mem) (ν : Lem) (x1 : Int32), f6_added2_1 n μ ν x1 = some (r, μ1, ν1) → ∀ (H : Heap) (locs : List Loc), Wd false D cy ad s.heap μ ν H locs → ∀ (ls : Array Slot), lv_has ls 4 [(0, .ref (ad 0)), (1, .int x1)] → WI false p l e 24 529 s m args below meth c D cy ad .int r μ1 ν1 H locs (F0 m 5 ls []) := by
  have hx := C.1.1
  have hb := C.1.2.1
  have hown := C.1.2.2.2.1
  have hts := C.1.2.2.2.2
  intro n
  induction n with
  | zero =>
    intro μ ν x1 hf H locs X ls hl
    rw [f6_added2_1] at hf
    cases hf
  | succ n ih =>
    intro μ ν x1 hf H locs X ls hl
    rw [f6_added2_1] at hf
    refine lv_aload_n hx hb dX6_added2_5 rfl (lv_at hl 0 rfl) ?_
    refine lv_bipush (v := 43) hx hb dX6_added2_6 (by decide) ?_
    refine qX6_202 rfl C X hl.1 ((Nat.le_of_ble_eq_true rfl)) ⟨(Nat.le_of_ble_eq_true rfl), (Nat.le_of_ble_eq_true rfl)⟩ ⟨Nat.zero_le _, Nat.zero_le _⟩ dX6_added2_8 (fun H locs X b8 => ?_)
    refine lv_if_ne (tgt := 23) hx hb dX6_added2_11 (by decide) (fun c11 => ?_) (fun c11 => ?_)
    · replace hf := ifn c11 hf
      exact w6_added2_2 C hr (f6_added2_1 n) ih μ ν x1 hf _ _ X _ (lv_sub hl [0, 1] rfl)
    · replace hf := ifp c11 hf
      refine lv_aload_n hx hb dX6_added2_14 rfl (lv_at hl 0 rfl) ?_
      refine lv_bipush (v := 45) hx hb dX6_added2_15 (by decide) ?_
      refine qX6_202 rfl C X hl.1 ((Nat.le_of_ble_eq_true rfl)) ⟨(Nat.le_of_ble_eq_true rfl), (Nat.le_of_ble_eq_true rfl)⟩ ⟨Nat.zero_le _, Nat.zero_le _⟩ dX6_added2_17 (fun H locs X b17 => ?_)
      refine lv_if_eq (tgt := 66) hx hb dX6_added2_20 (by decide) (fun c20 => ?_) (fun c20 => ?_)
      · replace hf := ifp c20 hf
        refine lv_iload_n hx hb dX6_added2_66 rfl (lv_at hl 1 rfl) ?_
        exact retI C X hr rfl (so3 hf).1 (so3 hf).2.1 (so3 hf).2.2 dX6_added2_67
      · replace hf := ifn c20 hf
        exact w6_added2_2 C hr (f6_added2_1 n) ih μ ν x1 hf _ _ X _ (lv_sub hl [0, 1] rfl)
set_option maxRecDepth 100000 in
set_option maxHeartbeats 4000000 in
theorem w6_added2 {p : Program} {l : Launch} {e : Env} {s : State} {m : MethodId} {args : Array Value} {below : List Frame} {meth : Method} {c : Code} {D : va_G} {cy : Nat → ClassId} {ad : Nat → Nat} {r : Int32} {μ1 : Mem} {ν1 : Lem} (C : Cx false p s m args meth c cX6_added2 4 RX6 D cy ad) (hr : meth.sig.returnType = some .int) : ∀ (μ : Mem) (ν : Lem), f6_added2 μ ν = some (r, μ1, ν1) → ∀ (H : Heap) (locs : List Loc), Wd false D cy ad s.heap μ ν H locs → ∀ (ls : Array Slot), lv_has ls 4 [(0, .ref (ad 0))] → WI false p l e 24 529 s m args below meth c D cy ad .int r μ1 ν1 H locs (F0 m 0 ls []) := by
  have hx := C.1.1
  have hb := C.1.2.1
  have hown := C.1.2.2.2.1
  have hts := C.1.2.2.2.2
  intro μ ν hf H locs X ls hl
  unfold f6_added2 at hf
  refine lv_aload_n hx hb dX6_added2_0 rfl (lv_at hl 0 rfl) ?_
  obtain ⟨r1, μ1, ν1, g1, hf⟩ := bd3_e hf
  refine qX6_274 g1 C X hl.1 ((Nat.le_of_ble_eq_true rfl)) ⟨(Nat.le_of_ble_eq_true rfl), (Nat.le_of_ble_eq_true rfl)⟩ ⟨Nat.zero_le _, Nat.zero_le _⟩ dX6_added2_1 (fun H locs X b1 => ?_)
  refine lv_istore_n (lv' := [(1, .int r1), (0, .ref (ad 0))]) hx hb dX6_added2_4 rfl hl (by decide) rfl (fun ls hl => ?_)
  exact w6_added2_1 C hr  FUEL μ1 ν1 r1 hf _ _ X _ (lv_sub hl [1, 0] rfl)
theorem ct6_added2 {μ : Mem} {ν : Lem} {r : Int32} {μ1 : Mem} {ν1 : Lem} (hg : f6_added2 μ ν = some (r, μ1, ν1)) : CtI false yX6_added2 cX6_added2 4 24 529 .int (fun ad => [.ref (ad 0)]) μ ν r μ1 ν1 :=
  mkI (by decide) rfl (fun ad => Nat.le_of_ble_eq_true rfl) (fun p l e s m args below meth c D cy ad C hr X ls hl => w6_added2 C hr μ ν hg _ _ X _ hl)
theorem qX6_277 {p : Program} {l : Launch} {e : Env} {R : Room} {s : State} {m : MethodId} {args : Array Value} {below : List Frame} {meth : Method} {c : Code} {H : Heap} {locs : List Loc} {cells slots : Nat} {Q : State → Prop} {A : Nat → Prop} {cc : ByteArray} {nL : Nat} {D : va_G} {cy : Nat → ClassId} {ad : Nat → Nat} {μ : Mem} {ν : Lem} {pc : Nat} {ls : Array Slot} {rest : List Value} {r : Int32} {μ1 : Mem} {ν1 : Lem} (hg : f6_added2 μ ν = some (r, μ1, ν1)) (C : CxA false A p s m args meth c cc nL RX6 D cy ad) (X : WdA false A D cy ad s.heap μ ν H locs) (hsz : ls.size = nL) (hrm : (rest.map fun v => v.category).sum ≤ 8) (hR : 24 + 1 ≤ R.frames ∧ 8 + (4 + 11) + 529 ≤ R.locals) (hcs : cells ≤ R.cells ∧ slots ≤ R.slots) (hd : decode cc pc = .ok (.invokevirtual 277, 3)) (kk : ∀ (H1 : Heap) (locs1 : List Loc), WdA false A D cy ad s.heap μ1 ν1 H1 locs1 → narrow .int (.int r) = .int r → W p l e R s m args below meth c H1 locs1 cells slots Q (F0 m (pc + 3) ls (.int r :: rest))) : W p l e R s m args below meth c H locs cells slots Q (F0 m pc ls (.ref (ad 0) :: rest)) :=
  rCVI (As := []) (k := 0) (ct6_added2 hg) ok6 lX6_added2 k_1095 rfl rfl rfl C X rfl hrm hsz hR hcs hd kk
set_option maxRecDepth 100000 in
set_option maxHeartbeats 4000000 in
theorem w6_not2_2 {p : Program} {l : Launch} {e : Env} {s : State} {m : MethodId} {args : Array Value} {below : List Frame} {meth : Method} {c : Code} {D : va_G} {cy : Nat → ClassId} {ad : Nat → Nat} {r : Int32} {μ1 : Mem} {ν1 : Lem} (C : Cx false p s m args meth c cX6_not2 4 RX6 D cy ad) (hr : meth.sig.returnType = some .int) : ∀ (μ : Mem) (ν : Lem) (x1 : Int32) (t0 : Int32), f6_not2_2 μ ν x1 t0 = some (r, μ1, ν1) → ∀ (H : Heap) (locs : List Loc), Wd false D cy ad s.heap μ ν H locs → ∀ (ls : Array Slot), lv_has ls 4 [(0, .ref (ad 0)), (1, .int x1)] → WI false p l e 25 552 s m args below meth c D cy ad .int r μ1 ν1 H locs (F0 m 93 ls [.int t0]) := by
  have hx := C.1.1
  have hb := C.1.2.1
  have hown := C.1.2.2.2.1
  have hts := C.1.2.2.2.2
  intro μ ν x1 t0 hf H locs X ls hl
  unfold f6_not2_2 at hf
  refine lv_istore_n (lv' := [(2, .int t0), (0, .ref (ad 0)), (1, .int x1)]) hx hb dX6_not2_93 rfl hl (by decide) rfl (fun ls hl => ?_)
  refine lv_aload_n hx hb dX6_not2_94 rfl (lv_at hl 1 rfl) ?_
  obtain ⟨μ95, ν95, g95, hf⟩ := bd2_e hf
  refine qX6_177 g95 C X hl.1 ((Nat.le_of_ble_eq_true rfl)) ⟨(Nat.le_of_ble_eq_true rfl), (Nat.le_of_ble_eq_true rfl)⟩ ⟨Nat.zero_le _, Nat.zero_le _⟩ dX6_not2_95 (fun H locs X => ?_)
  refine lv_aload_n hx hb dX6_not2_98 rfl (lv_at hl 1 rfl) ?_
  obtain ⟨r99, μ99, ν99, g99, hf⟩ := bd3_e hf
  refine qX6_277 g99 C X hl.1 ((Nat.le_of_ble_eq_true rfl)) ⟨(Nat.le_of_ble_eq_true rfl), (Nat.le_of_ble_eq_true rfl)⟩ ⟨Nat.zero_le _, Nat.zero_le _⟩ dX6_not2_99 (fun H locs X b99 => ?_)
  refine lv_istore_n (lv' := [(3, .int r99), (2, .int t0), (0, .ref (ad 0)), (1, .int x1)]) hx hb dX6_not2_102 rfl hl (by decide) rfl (fun ls hl => ?_)
  refine lv_iload_n hx hb dX6_not2_103 rfl (lv_at hl 1 rfl) ?_
  refine lv_if_eq (tgt := 115) hx hb dX6_not2_104 (by decide) (fun c104 => ?_) (fun c104 => ?_)
  · replace hf := ifp c104 hf
    refine lv_iload_n hx hb dX6_not2_115 rfl (lv_at hl 3 rfl) ?_
    refine lv_iload_n hx hb dX6_not2_116 rfl (lv_at hl 0 rfl) ?_
    refine lv_icmp_ne (tgt := 124) hx hb dX6_not2_117 (by decide) (fun c117 => ?_) (fun c117 => ?_)
    · replace hf := ifn c117 hf
      refine lv_iconst (v := 0) hx hb dX6_not2_124 (by decide) ?_
      exact retI C X hr rfl (so3 hf).1 (so3 hf).2.1 (so3 hf).2.2 dX6_not2_125
    · replace hf := ifp c117 hf
      refine lv_iconst (v := 1) hx hb dX6_not2_120 (by decide) ?_
      refine lv_goto (tgt := 125) hx hb dX6_not2_121 (by decide) ?_
      exact retI C X hr rfl (so3 hf).1 (so3 hf).2.1 (so3 hf).2.2 dX6_not2_125
  · replace hf := ifn c104 hf
    refine lv_iload_n hx hb dX6_not2_107 rfl (lv_at hl 3 rfl) ?_
    refine lv_iload_n hx hb dX6_not2_108 rfl (lv_at hl 0 rfl) ?_
    refine lv_icmp_ge (tgt := 124) hx hb dX6_not2_109 (by decide) (fun c109 => ?_) (fun c109 => ?_)
    · replace hf := ifp c109 hf
      refine lv_iconst (v := 0) hx hb dX6_not2_124 (by decide) ?_
      exact retI C X hr rfl (so3 hf).1 (so3 hf).2.1 (so3 hf).2.2 dX6_not2_125
    · replace hf := ifn c109 hf
      refine lv_goto (tgt := 120) hx hb dX6_not2_112 (by decide) ?_
      refine lv_iconst (v := 1) hx hb dX6_not2_120 (by decide) ?_
      refine lv_goto (tgt := 125) hx hb dX6_not2_121 (by decide) ?_
      exact retI C X hr rfl (so3 hf).1 (so3 hf).2.1 (so3 hf).2.2 dX6_not2_125
set_option maxRecDepth 100000 in
set_option maxHeartbeats 4000000 in
theorem w6_not2_1 {p : Program} {l : Launch} {e : Env} {s : State} {m : MethodId} {args : Array Value} {below : List Frame} {meth : Method} {c : Code} {D : va_G} {cy : Nat → ClassId} {ad : Nat → Nat} {r : Int32} {μ1 : Mem} {ν1 : Lem} (C : Cx false p s m args meth c cX6_not2 4 RX6 D cy ad) (hr : meth.sig.returnType = some .int) : ∀ (μ : Mem) (ν : Lem) (x1 : Int32), f6_not2_1 μ ν x1 = some (r, μ1, ν1) → ∀ (H : Heap) (locs : List Loc), Wd false D cy ad s.heap μ ν H locs → ∀ (ls : Array Slot), lv_has ls 4 [(0, .ref (ad 0)), (1, .int x1)] → WI false p l e 25 552 s m args below meth c D cy ad .int r μ1 ν1 H locs (F0 m 77 ls []) := by
  have hx := C.1.1
  have hb := C.1.2.1
  have hown := C.1.2.2.2.1
  have hts := C.1.2.2.2.2
  intro μ ν x1 hf H locs X ls hl
  unfold f6_not2_1 at hf
  refine lv_aload_n hx hb dX6_not2_77 rfl (lv_at hl 0 rfl) ?_
  refine gfX6_156 C X dX6_not2_78 ?_
  refine lv_ldc2 (v := (60)) hx hb hown (hts _ k_1054) dX6_not2_81 ?_
  refine W.lcmp hx hb dX6_not2_84 ?_
  refine lv_if_ne (tgt := 92) hx hb dX6_not2_85 (by decide) (fun c85 => ?_) (fun c85 => ?_)
  · replace hf := ifn c85 hf
    refine lv_iconst (v := 0) hx hb dX6_not2_92 (by decide) ?_
    exact w6_not2_2 C hr  μ ν x1 0 hf _ _ X _ (lv_sub hl [0, 1] rfl)
  · replace hf := ifp c85 hf
    refine lv_iconst (v := 1) hx hb dX6_not2_88 (by decide) ?_
    refine lv_goto (tgt := 93) hx hb dX6_not2_89 (by decide) ?_
    exact w6_not2_2 C hr  μ ν x1 1 hf _ _ X _ (lv_sub hl [0, 1] rfl)
set_option maxRecDepth 100000 in
set_option maxHeartbeats 4000000 in
theorem w6_not2 {p : Program} {l : Launch} {e : Env} {s : State} {m : MethodId} {args : Array Value} {below : List Frame} {meth : Method} {c : Code} {D : va_G} {cy : Nat → ClassId} {ad : Nat → Nat} {r : Int32} {μ1 : Mem} {ν1 : Lem} (C : Cx false p s m args meth c cX6_not2 4 RX6 D cy ad) (hr : meth.sig.returnType = some .int) : ∀ (μ : Mem) (ν : Lem), f6_not2 μ ν = some (r, μ1, ν1) → ∀ (H : Heap) (locs : List Loc), Wd false D cy ad s.heap μ ν H locs → ∀ (ls : Array Slot), lv_has ls 4 [(0, .ref (ad 0))] → WI false p l e 25 552 s m args below meth c D cy ad .int r μ1 ν1 H locs (F0 m 0 ls []) := by
  have hx := C.1.1
  have hb := C.1.2.1
  have hown := C.1.2.2.2.1
  have hts := C.1.2.2.2.2
  intro μ ν hf H locs X ls hl
  unfold f6_not2 at hf
  refine lv_aload_n hx hb dX6_not2_0 rfl (lv_at hl 0 rfl) ?_
  refine lv_bipush (v := 110) hx hb dX6_not2_1 (by decide) ?_
  refine lv_bipush (v := 111) hx hb dX6_not2_3 (by decide) ?_
  refine lv_bipush (v := 116) hx hb dX6_not2_5 (by decide) ?_
  refine lv_iconst (v := 0) hx hb dX6_not2_7 (by decide) ?_
  refine lv_iconst (v := 0) hx hb dX6_not2_8 (by decide) ?_
  refine lv_iconst (v := 0) hx hb dX6_not2_9 (by decide) ?_
  refine lv_iconst (v := 0) hx hb dX6_not2_10 (by decide) ?_
  refine lv_iconst (v := 0) hx hb dX6_not2_11 (by decide) ?_
  obtain ⟨r12, g12, hf⟩ := bd1_e hf
  refine qX6_180 g12 C X hl.1 ((Nat.le_of_ble_eq_true rfl)) ⟨(Nat.le_of_ble_eq_true rfl), (Nat.le_of_ble_eq_true rfl)⟩ ⟨Nat.zero_le _, Nat.zero_le _⟩ dX6_not2_12 (fun H locs X b12 => ?_)
  refine lv_if_eq (tgt := 52) hx hb dX6_not2_15 (by decide) (fun c15 => ?_) (fun c15 => ?_)
  · replace hf := ifp c15 hf
    refine lv_aload_n hx hb dX6_not2_52 rfl (lv_at hl 0 rfl) ?_
    obtain ⟨r53, μ53, ν53, g53, hf⟩ := bd3_e hf
    refine qX6_277 g53 C X hl.1 ((Nat.le_of_ble_eq_true rfl)) ⟨(Nat.le_of_ble_eq_true rfl), (Nat.le_of_ble_eq_true rfl)⟩ ⟨Nat.zero_le _, Nat.zero_le _⟩ dX6_not2_53 (fun H locs X b53 => ?_)
    refine lv_istore_n (lv' := [(1, .int r53), (0, .ref (ad 0))]) hx hb dX6_not2_56 rfl hl (by decide) rfl (fun ls hl => ?_)
    refine lv_aload_n hx hb dX6_not2_57 rfl (lv_at hl 1 rfl) ?_
    refine lv_bipush (v := 60) hx hb dX6_not2_58 (by decide) ?_
    refine qX6_202 rfl C X hl.1 ((Nat.le_of_ble_eq_true rfl)) ⟨(Nat.le_of_ble_eq_true rfl), (Nat.le_of_ble_eq_true rfl)⟩ ⟨Nat.zero_le _, Nat.zero_le _⟩ dX6_not2_60 (fun H locs X b60 => ?_)
    refine lv_if_ne (tgt := 77) hx hb dX6_not2_63 (by decide) (fun c63 => ?_) (fun c63 => ?_)
    · replace hf := ifn c63 hf
      exact w6_not2_1 C hr  μ53 ν53 r53 hf _ _ X _ (lv_sub hl [1, 0] rfl)
    · replace hf := ifp c63 hf
      refine lv_aload_n hx hb dX6_not2_66 rfl (lv_at hl 1 rfl) ?_
      refine lv_bipush (v := 61) hx hb dX6_not2_67 (by decide) ?_
      refine qX6_202 rfl C X hl.1 ((Nat.le_of_ble_eq_true rfl)) ⟨(Nat.le_of_ble_eq_true rfl), (Nat.le_of_ble_eq_true rfl)⟩ ⟨Nat.zero_le _, Nat.zero_le _⟩ dX6_not2_69 (fun H locs X b69 => ?_)
      refine lv_if_ne (tgt := 77) hx hb dX6_not2_72 (by decide) (fun c72 => ?_) (fun c72 => ?_)
      · replace hf := ifn c72 hf
        exact w6_not2_1 C hr  μ53 ν53 r53 hf _ _ X _ (lv_sub hl [1, 0] rfl)
      · replace hf := ifp c72 hf
        refine lv_iload_n hx hb dX6_not2_75 rfl (lv_at hl 0 rfl) ?_
        exact retI C X hr rfl (so3 hf).1 (so3 hf).2.1 (so3 hf).2.2 dX6_not2_76
  · replace hf := ifn c15 hf
    refine lv_aload_n hx hb dX6_not2_18 rfl (lv_at hl 0 rfl) ?_
    obtain ⟨r19, μ19, ν19, g19, hf⟩ := bd3_e hf
    refine qX6_205 g19 C X hl.1 ((Nat.le_of_ble_eq_true rfl)) ⟨(Nat.le_of_ble_eq_true rfl), (Nat.le_of_ble_eq_true rfl)⟩ ⟨Nat.zero_le _, Nat.zero_le _⟩ dX6_not2_19 (fun H locs X b19 => ?_)
    refine lv_if_ne (tgt := 27) hx hb dX6_not2_22 (by decide) (fun c22 => ?_) (fun c22 => ?_)
    · replace hf := ifn c22 hf
      refine lv_aload_n hx hb dX6_not2_27 rfl (lv_at hl 0 rfl) ?_
      obtain ⟨r28, μ28, ν28, g28, hf⟩ := bd3_e hf
      refine qX6_262 g28 C X hl.1 ((Nat.le_of_ble_eq_true rfl)) ⟨(Nat.le_of_ble_eq_true rfl), (Nat.le_of_ble_eq_true rfl)⟩ ⟨Nat.zero_le _, Nat.zero_le _⟩ dX6_not2_28 (fun H locs X b28 => ?_)
      refine lv_istore_n (lv' := [(1, .int r28), (0, .ref (ad 0))]) hx hb dX6_not2_31 rfl hl (by decide) rfl (fun ls hl => ?_)
      refine lv_aload_n hx hb dX6_not2_32 rfl (lv_at hl 1 rfl) ?_
      refine lv_dup hx hb dX6_not2_33 rfl ?_
      refine gfX6_171 C X dX6_not2_34 ?_
      refine lv_iconst (v := 1) hx hb dX6_not2_37 (by decide) ?_
      refine lv_isub hx hb dX6_not2_38 ?_
      obtain ⟨μ39, e39, hf⟩ := nm_e2 hf
      refine pfX6_171 e39 C X dX6_not2_39 (fun H locs X => ?_)
      refine lv_iload_n hx hb dX6_not2_42 rfl (lv_at hl 0 rfl) ?_
      refine lv_if_ne (tgt := 50) hx hb dX6_not2_43 (by decide) (fun c43 => ?_) (fun c43 => ?_)
      · replace hf := ifn c43 hf
        refine lv_iconst (v := 0) hx hb dX6_not2_50 (by decide) ?_
        exact retI C X hr rfl (so3 hf).1 (so3 hf).2.1 (so3 hf).2.2 dX6_not2_51
      · replace hf := ifp c43 hf
        refine lv_iconst (v := 1) hx hb dX6_not2_46 (by decide) ?_
        refine lv_goto (tgt := 51) hx hb dX6_not2_47 (by decide) ?_
        exact retI C X hr rfl (so3 hf).1 (so3 hf).2.1 (so3 hf).2.2 dX6_not2_51
    · replace hf := ifp c22 hf
      refine lv_iconst (v := 0) hx hb dX6_not2_25 (by decide) ?_
      exact retI C X hr rfl (so3 hf).1 (so3 hf).2.1 (so3 hf).2.2 dX6_not2_26
theorem ct6_not2 {μ : Mem} {ν : Lem} {r : Int32} {μ1 : Mem} {ν1 : Lem} (hg : f6_not2 μ ν = some (r, μ1, ν1)) : CtI false yX6_not2 cX6_not2 4 25 552 .int (fun ad => [.ref (ad 0)]) μ ν r μ1 ν1 :=
  mkI (by decide) rfl (fun ad => Nat.le_of_ble_eq_true rfl) (fun p l e s m args below meth c D cy ad C hr X ls hl => w6_not2 C hr μ ν hg _ _ X _ hl)
theorem qX6_280 {p : Program} {l : Launch} {e : Env} {R : Room} {s : State} {m : MethodId} {args : Array Value} {below : List Frame} {meth : Method} {c : Code} {H : Heap} {locs : List Loc} {cells slots : Nat} {Q : State → Prop} {A : Nat → Prop} {cc : ByteArray} {nL : Nat} {D : va_G} {cy : Nat → ClassId} {ad : Nat → Nat} {μ : Mem} {ν : Lem} {pc : Nat} {ls : Array Slot} {rest : List Value} {r : Int32} {μ1 : Mem} {ν1 : Lem} (hg : f6_not2 μ ν = some (r, μ1, ν1)) (C : CxA false A p s m args meth c cc nL RX6 D cy ad) (X : WdA false A D cy ad s.heap μ ν H locs) (hsz : ls.size = nL) (hrm : (rest.map fun v => v.category).sum ≤ 8) (hR : 25 + 1 ≤ R.frames ∧ 8 + (4 + 11) + 552 ≤ R.locals) (hcs : cells ≤ R.cells ∧ slots ≤ R.slots) (hd : decode cc pc = .ok (.invokevirtual 280, 3)) (kk : ∀ (H1 : Heap) (locs1 : List Loc), WdA false A D cy ad s.heap μ1 ν1 H1 locs1 → narrow .int (.int r) = .int r → W p l e R s m args below meth c H1 locs1 cells slots Q (F0 m (pc + 3) ls (.int r :: rest))) : W p l e R s m args below meth c H locs cells slots Q (F0 m pc ls (.ref (ad 0) :: rest)) :=
  rCVI (As := []) (k := 0) (ct6_not2 hg) ok6 lX6_not2 k_1017 rfl rfl rfl C X rfl hrm hsz hR hcs hd kk
set_option maxRecDepth 100000 in
set_option maxHeartbeats 4000000 in
theorem w6_both2_1 {p : Program} {l : Launch} {e : Env} {s : State} {m : MethodId} {args : Array Value} {below : List Frame} {meth : Method} {c : Code} {D : va_G} {cy : Nat → ClassId} {ad : Nat → Nat} {r : Int32} {μ1 : Mem} {ν1 : Lem} (C : Cx false p s m args meth c cX6_both2 3 RX6 D cy ad) (hr : meth.sig.returnType = some .int) : ∀ (n : Nat), ∀ (μ : Mem) (ν : Lem) (x1 : Int32), f6_both2_1 n μ ν x1 = some (r, μ1, ν1) → ∀ (H : Heap) (locs : List Loc), Wd false D cy ad s.heap μ ν H locs → ∀ (ls : Array Slot), lv_has ls 3 [(0, .ref (ad 0)), (1, .int x1)] → WI false p l e 26 575 s m args below meth c D cy ad .int r μ1 ν1 H locs (F0 m 5 ls []) := by
  have hx := C.1.1
  have hb := C.1.2.1
  have hown := C.1.2.2.2.1
  have hts := C.1.2.2.2.2
  intro n
  induction n with
  | zero =>
    intro μ ν x1 hf H locs X ls hl
    rw [f6_both2_1] at hf
    cases hf
  | succ n ih =>
    intro μ ν x1 hf H locs X ls hl
    rw [f6_both2_1] at hf
    refine lv_aload_n hx hb dX6_both2_5 rfl (lv_at hl 0 rfl) ?_
    refine lv_bipush (v := 97) hx hb dX6_both2_6 (by decide) ?_
    refine lv_bipush (v := 110) hx hb dX6_both2_8 (by decide) ?_
    refine lv_bipush (v := 100) hx hb dX6_both2_10 (by decide) ?_
    refine lv_iconst (v := 0) hx hb dX6_both2_12 (by decide) ?_
    refine lv_iconst (v := 0) hx hb dX6_both2_13 (by decide) ?_
    refine lv_iconst (v := 0) hx hb dX6_both2_14 (by decide) ?_
    refine lv_iconst (v := 0) hx hb dX6_both2_15 (by decide) ?_
    refine lv_iconst (v := 0) hx hb dX6_both2_16 (by decide) ?_
    obtain ⟨r17, g17, hf⟩ := bd1_e hf
    refine qX6_180 g17 C X hl.1 ((Nat.le_of_ble_eq_true rfl)) ⟨(Nat.le_of_ble_eq_true rfl), (Nat.le_of_ble_eq_true rfl)⟩ ⟨Nat.zero_le _, Nat.zero_le _⟩ dX6_both2_17 (fun H locs X b17 => ?_)
    refine lv_if_eq (tgt := 49) hx hb dX6_both2_20 (by decide) (fun c20 => ?_) (fun c20 => ?_)
    · replace hf := ifp c20 hf
      refine lv_iload_n hx hb dX6_both2_49 rfl (lv_at hl 1 rfl) ?_
      exact retI C X hr rfl (so3 hf).1 (so3 hf).2.1 (so3 hf).2.2 dX6_both2_50
    · replace hf := ifn c20 hf
      refine lv_aload_n hx hb dX6_both2_23 rfl (lv_at hl 0 rfl) ?_
      obtain ⟨μ24, ν24, g24, hf⟩ := bd2_e hf
      refine qX6_177 g24 C X hl.1 ((Nat.le_of_ble_eq_true rfl)) ⟨(Nat.le_of_ble_eq_true rfl), (Nat.le_of_ble_eq_true rfl)⟩ ⟨Nat.zero_le _, Nat.zero_le _⟩ dX6_both2_24 (fun H locs X => ?_)
      refine lv_aload_n hx hb dX6_both2_27 rfl (lv_at hl 0 rfl) ?_
      obtain ⟨r28, μ28, ν28, g28, hf⟩ := bd3_e hf
      refine qX6_280 g28 C X hl.1 ((Nat.le_of_ble_eq_true rfl)) ⟨(Nat.le_of_ble_eq_true rfl), (Nat.le_of_ble_eq_true rfl)⟩ ⟨Nat.zero_le _, Nat.zero_le _⟩ dX6_both2_28 (fun H locs X b28 => ?_)
      refine lv_istore_n (lv' := [(2, .int r28), (0, .ref (ad 0)), (1, .int x1)]) hx hb dX6_both2_31 rfl hl (by decide) rfl (fun ls hl => ?_)
      refine lv_iload_n hx hb dX6_both2_32 rfl (lv_at hl 2 rfl) ?_
      refine lv_if_eq (tgt := 44) hx hb dX6_both2_33 (by decide) (fun c33 => ?_) (fun c33 => ?_)
      · replace hf := ifp c33 hf
        refine lv_iconst (v := 0) hx hb dX6_both2_44 (by decide) ?_
        refine lv_istore_n (lv' := [(1, .int 0), (2, .int r28), (0, .ref (ad 0))]) hx hb dX6_both2_45 rfl hl (by decide) rfl (fun ls hl => ?_)
        refine lv_goto (tgt := 5) hx hb dX6_both2_46 (by decide) ?_
        exact ih μ28 ν28 0 hf _ _ X _ (lv_sub hl [2, 0] rfl)
      · replace hf := ifn c33 hf
        refine lv_iload_n hx hb dX6_both2_36 rfl (lv_at hl 0 rfl) ?_
        refine lv_if_eq (tgt := 44) hx hb dX6_both2_37 (by decide) (fun c37 => ?_) (fun c37 => ?_)
        · replace hf := ifp c37 hf
          refine lv_iconst (v := 0) hx hb dX6_both2_44 (by decide) ?_
          refine lv_istore_n (lv' := [(1, .int 0), (2, .int r28), (0, .ref (ad 0))]) hx hb dX6_both2_45 rfl hl (by decide) rfl (fun ls hl => ?_)
          refine lv_goto (tgt := 5) hx hb dX6_both2_46 (by decide) ?_
          exact ih μ28 ν28 0 hf _ _ X _ (lv_sub hl [2, 0] rfl)
        · replace hf := ifn c37 hf
          refine lv_iconst (v := 1) hx hb dX6_both2_40 (by decide) ?_
          refine lv_goto (tgt := 45) hx hb dX6_both2_41 (by decide) ?_
          refine lv_istore_n (lv' := [(1, .int 1), (2, .int r28), (0, .ref (ad 0))]) hx hb dX6_both2_45 rfl hl (by decide) rfl (fun ls hl => ?_)
          refine lv_goto (tgt := 5) hx hb dX6_both2_46 (by decide) ?_
          exact ih μ28 ν28 1 hf _ _ X _ (lv_sub hl [2, 0] rfl)
set_option maxRecDepth 100000 in
set_option maxHeartbeats 4000000 in
theorem w6_both2 {p : Program} {l : Launch} {e : Env} {s : State} {m : MethodId} {args : Array Value} {below : List Frame} {meth : Method} {c : Code} {D : va_G} {cy : Nat → ClassId} {ad : Nat → Nat} {r : Int32} {μ1 : Mem} {ν1 : Lem} (C : Cx false p s m args meth c cX6_both2 3 RX6 D cy ad) (hr : meth.sig.returnType = some .int) : ∀ (μ : Mem) (ν : Lem), f6_both2 μ ν = some (r, μ1, ν1) → ∀ (H : Heap) (locs : List Loc), Wd false D cy ad s.heap μ ν H locs → ∀ (ls : Array Slot), lv_has ls 3 [(0, .ref (ad 0))] → WI false p l e 26 575 s m args below meth c D cy ad .int r μ1 ν1 H locs (F0 m 0 ls []) := by
  have hx := C.1.1
  have hb := C.1.2.1
  have hown := C.1.2.2.2.1
  have hts := C.1.2.2.2.2
  intro μ ν hf H locs X ls hl
  unfold f6_both2 at hf
  refine lv_aload_n hx hb dX6_both2_0 rfl (lv_at hl 0 rfl) ?_
  obtain ⟨r1, μ1, ν1, g1, hf⟩ := bd3_e hf
  refine qX6_280 g1 C X hl.1 ((Nat.le_of_ble_eq_true rfl)) ⟨(Nat.le_of_ble_eq_true rfl), (Nat.le_of_ble_eq_true rfl)⟩ ⟨Nat.zero_le _, Nat.zero_le _⟩ dX6_both2_1 (fun H locs X b1 => ?_)
  refine lv_istore_n (lv' := [(1, .int r1), (0, .ref (ad 0))]) hx hb dX6_both2_4 rfl hl (by decide) rfl (fun ls hl => ?_)
  exact w6_both2_1 C hr  FUEL μ1 ν1 r1 hf _ _ X _ (lv_sub hl [1, 0] rfl)
theorem ct6_both2 {μ : Mem} {ν : Lem} {r : Int32} {μ1 : Mem} {ν1 : Lem} (hg : f6_both2 μ ν = some (r, μ1, ν1)) : CtI false yX6_both2 cX6_both2 3 26 575 .int (fun ad => [.ref (ad 0)]) μ ν r μ1 ν1 :=
  mkI (by decide) rfl (fun ad => Nat.le_of_ble_eq_true rfl) (fun p l e s m args below meth c D cy ad C hr X ls hl => w6_both2 C hr μ ν hg _ _ X _ hl)
theorem qX6_283 {p : Program} {l : Launch} {e : Env} {R : Room} {s : State} {m : MethodId} {args : Array Value} {below : List Frame} {meth : Method} {c : Code} {H : Heap} {locs : List Loc} {cells slots : Nat} {Q : State → Prop} {A : Nat → Prop} {cc : ByteArray} {nL : Nat} {D : va_G} {cy : Nat → ClassId} {ad : Nat → Nat} {μ : Mem} {ν : Lem} {pc : Nat} {ls : Array Slot} {rest : List Value} {r : Int32} {μ1 : Mem} {ν1 : Lem} (hg : f6_both2 μ ν = some (r, μ1, ν1)) (C : CxA false A p s m args meth c cc nL RX6 D cy ad) (X : WdA false A D cy ad s.heap μ ν H locs) (hsz : ls.size = nL) (hrm : (rest.map fun v => v.category).sum ≤ 8) (hR : 26 + 1 ≤ R.frames ∧ 8 + (3 + 11) + 575 ≤ R.locals) (hcs : cells ≤ R.cells ∧ slots ≤ R.slots) (hd : decode cc pc = .ok (.invokevirtual 283, 3)) (kk : ∀ (H1 : Heap) (locs1 : List Loc), WdA false A D cy ad s.heap μ1 ν1 H1 locs1 → narrow .int (.int r) = .int r → W p l e R s m args below meth c H1 locs1 cells slots Q (F0 m (pc + 3) ls (.int r :: rest))) : W p l e R s m args below meth c H locs cells slots Q (F0 m pc ls (.ref (ad 0) :: rest)) :=
  rCVI (As := []) (k := 0) (ct6_both2 hg) ok6 lX6_both2 k_1131 rfl rfl rfl C X rfl hrm hsz hR hcs hd kk
set_option maxRecDepth 100000 in
set_option maxHeartbeats 4000000 in
theorem w6_either2_1 {p : Program} {l : Launch} {e : Env} {s : State} {m : MethodId} {args : Array Value} {below : List Frame} {meth : Method} {c : Code} {D : va_G} {cy : Nat → ClassId} {ad : Nat → Nat} {r : Int32} {μ1 : Mem} {ν1 : Lem} (C : Cx false p s m args meth c cX6_either2 3 RX6 D cy ad) (hr : meth.sig.returnType = some .int) : ∀ (n : Nat), ∀ (μ : Mem) (ν : Lem) (x1 : Int32), f6_either2_1 n μ ν x1 = some (r, μ1, ν1) → ∀ (H : Heap) (locs : List Loc), Wd false D cy ad s.heap μ ν H locs → ∀ (ls : Array Slot), lv_has ls 3 [(0, .ref (ad 0)), (1, .int x1)] → WI false p l e 27 597 s m args below meth c D cy ad .int r μ1 ν1 H locs (F0 m 5 ls []) := by
  have hx := C.1.1
  have hb := C.1.2.1
  have hown := C.1.2.2.2.1
  have hts := C.1.2.2.2.2
  intro n
  induction n with
  | zero =>
    intro μ ν x1 hf H locs X ls hl
    rw [f6_either2_1] at hf
    cases hf
  | succ n ih =>
    intro μ ν x1 hf H locs X ls hl
    rw [f6_either2_1] at hf
    refine lv_aload_n hx hb dX6_either2_5 rfl (lv_at hl 0 rfl) ?_
    refine lv_bipush (v := 111) hx hb dX6_either2_6 (by decide) ?_
    refine lv_bipush (v := 114) hx hb dX6_either2_8 (by decide) ?_
    refine lv_iconst (v := 0) hx hb dX6_either2_10 (by decide) ?_
    refine lv_iconst (v := 0) hx hb dX6_either2_11 (by decide) ?_
    refine lv_iconst (v := 0) hx hb dX6_either2_12 (by decide) ?_
    refine lv_iconst (v := 0) hx hb dX6_either2_13 (by decide) ?_
    refine lv_iconst (v := 0) hx hb dX6_either2_14 (by decide) ?_
    refine lv_iconst (v := 0) hx hb dX6_either2_15 (by decide) ?_
    obtain ⟨r16, g16, hf⟩ := bd1_e hf
    refine qX6_180 g16 C X hl.1 ((Nat.le_of_ble_eq_true rfl)) ⟨(Nat.le_of_ble_eq_true rfl), (Nat.le_of_ble_eq_true rfl)⟩ ⟨Nat.zero_le _, Nat.zero_le _⟩ dX6_either2_16 (fun H locs X b16 => ?_)
    refine lv_if_eq (tgt := 48) hx hb dX6_either2_19 (by decide) (fun c19 => ?_) (fun c19 => ?_)
    · replace hf := ifp c19 hf
      refine lv_iload_n hx hb dX6_either2_48 rfl (lv_at hl 1 rfl) ?_
      exact retI C X hr rfl (so3 hf).1 (so3 hf).2.1 (so3 hf).2.2 dX6_either2_49
    · replace hf := ifn c19 hf
      refine lv_aload_n hx hb dX6_either2_22 rfl (lv_at hl 0 rfl) ?_
      obtain ⟨μ23, ν23, g23, hf⟩ := bd2_e hf
      refine qX6_177 g23 C X hl.1 ((Nat.le_of_ble_eq_true rfl)) ⟨(Nat.le_of_ble_eq_true rfl), (Nat.le_of_ble_eq_true rfl)⟩ ⟨Nat.zero_le _, Nat.zero_le _⟩ dX6_either2_23 (fun H locs X => ?_)
      refine lv_aload_n hx hb dX6_either2_26 rfl (lv_at hl 0 rfl) ?_
      obtain ⟨r27, μ27, ν27, g27, hf⟩ := bd3_e hf
      refine qX6_283 g27 C X hl.1 ((Nat.le_of_ble_eq_true rfl)) ⟨(Nat.le_of_ble_eq_true rfl), (Nat.le_of_ble_eq_true rfl)⟩ ⟨Nat.zero_le _, Nat.zero_le _⟩ dX6_either2_27 (fun H locs X b27 => ?_)
      refine lv_istore_n (lv' := [(2, .int r27), (0, .ref (ad 0)), (1, .int x1)]) hx hb dX6_either2_30 rfl hl (by decide) rfl (fun ls hl => ?_)
      refine lv_iload_n hx hb dX6_either2_31 rfl (lv_at hl 2 rfl) ?_
      refine lv_if_ne (tgt := 39) hx hb dX6_either2_32 (by decide) (fun c32 => ?_) (fun c32 => ?_)
      · replace hf := ifn c32 hf
        refine lv_iconst (v := 1) hx hb dX6_either2_39 (by decide) ?_
        refine lv_goto (tgt := 44) hx hb dX6_either2_40 (by decide) ?_
        refine lv_istore_n (lv' := [(1, .int 1), (2, .int r27), (0, .ref (ad 0))]) hx hb dX6_either2_44 rfl hl (by decide) rfl (fun ls hl => ?_)
        refine lv_goto (tgt := 5) hx hb dX6_either2_45 (by decide) ?_
        exact ih μ27 ν27 1 hf _ _ X _ (lv_sub hl [2, 0] rfl)
      · replace hf := ifp c32 hf
        refine lv_iload_n hx hb dX6_either2_35 rfl (lv_at hl 0 rfl) ?_
        refine lv_if_eq (tgt := 43) hx hb dX6_either2_36 (by decide) (fun c36 => ?_) (fun c36 => ?_)
        · replace hf := ifp c36 hf
          refine lv_iconst (v := 0) hx hb dX6_either2_43 (by decide) ?_
          refine lv_istore_n (lv' := [(1, .int 0), (2, .int r27), (0, .ref (ad 0))]) hx hb dX6_either2_44 rfl hl (by decide) rfl (fun ls hl => ?_)
          refine lv_goto (tgt := 5) hx hb dX6_either2_45 (by decide) ?_
          exact ih μ27 ν27 0 hf _ _ X _ (lv_sub hl [2, 0] rfl)
        · replace hf := ifn c36 hf
          refine lv_iconst (v := 1) hx hb dX6_either2_39 (by decide) ?_
          refine lv_goto (tgt := 44) hx hb dX6_either2_40 (by decide) ?_
          refine lv_istore_n (lv' := [(1, .int 1), (2, .int r27), (0, .ref (ad 0))]) hx hb dX6_either2_44 rfl hl (by decide) rfl (fun ls hl => ?_)
          refine lv_goto (tgt := 5) hx hb dX6_either2_45 (by decide) ?_
          exact ih μ27 ν27 1 hf _ _ X _ (lv_sub hl [2, 0] rfl)
set_option maxRecDepth 100000 in
set_option maxHeartbeats 4000000 in
theorem w6_either2 {p : Program} {l : Launch} {e : Env} {s : State} {m : MethodId} {args : Array Value} {below : List Frame} {meth : Method} {c : Code} {D : va_G} {cy : Nat → ClassId} {ad : Nat → Nat} {r : Int32} {μ1 : Mem} {ν1 : Lem} (C : Cx false p s m args meth c cX6_either2 3 RX6 D cy ad) (hr : meth.sig.returnType = some .int) : ∀ (μ : Mem) (ν : Lem), f6_either2 μ ν = some (r, μ1, ν1) → ∀ (H : Heap) (locs : List Loc), Wd false D cy ad s.heap μ ν H locs → ∀ (ls : Array Slot), lv_has ls 3 [(0, .ref (ad 0))] → WI false p l e 27 597 s m args below meth c D cy ad .int r μ1 ν1 H locs (F0 m 0 ls []) := by
  have hx := C.1.1
  have hb := C.1.2.1
  have hown := C.1.2.2.2.1
  have hts := C.1.2.2.2.2
  intro μ ν hf H locs X ls hl
  unfold f6_either2 at hf
  refine lv_aload_n hx hb dX6_either2_0 rfl (lv_at hl 0 rfl) ?_
  obtain ⟨r1, μ1, ν1, g1, hf⟩ := bd3_e hf
  refine qX6_283 g1 C X hl.1 ((Nat.le_of_ble_eq_true rfl)) ⟨(Nat.le_of_ble_eq_true rfl), (Nat.le_of_ble_eq_true rfl)⟩ ⟨Nat.zero_le _, Nat.zero_le _⟩ dX6_either2_1 (fun H locs X b1 => ?_)
  refine lv_istore_n (lv' := [(1, .int r1), (0, .ref (ad 0))]) hx hb dX6_either2_4 rfl hl (by decide) rfl (fun ls hl => ?_)
  exact w6_either2_1 C hr  FUEL μ1 ν1 r1 hf _ _ X _ (lv_sub hl [1, 0] rfl)
theorem ct6_either2 {μ : Mem} {ν : Lem} {r : Int32} {μ1 : Mem} {ν1 : Lem} (hg : f6_either2 μ ν = some (r, μ1, ν1)) : CtI false yX6_either2 cX6_either2 3 27 597 .int (fun ad => [.ref (ad 0)]) μ ν r μ1 ν1 :=
  mkI (by decide) rfl (fun ad => Nat.le_of_ble_eq_true rfl) (fun p l e s m args below meth c D cy ad C hr X ls hl => w6_either2 C hr μ ν hg _ _ X _ hl)
theorem qX6_286 {p : Program} {l : Launch} {e : Env} {R : Room} {s : State} {m : MethodId} {args : Array Value} {below : List Frame} {meth : Method} {c : Code} {H : Heap} {locs : List Loc} {cells slots : Nat} {Q : State → Prop} {A : Nat → Prop} {cc : ByteArray} {nL : Nat} {D : va_G} {cy : Nat → ClassId} {ad : Nat → Nat} {μ : Mem} {ν : Lem} {pc : Nat} {ls : Array Slot} {rest : List Value} {r : Int32} {μ1 : Mem} {ν1 : Lem} (hg : f6_either2 μ ν = some (r, μ1, ν1)) (C : CxA false A p s m args meth c cc nL RX6 D cy ad) (X : WdA false A D cy ad s.heap μ ν H locs) (hsz : ls.size = nL) (hrm : (rest.map fun v => v.category).sum ≤ 8) (hR : 27 + 1 ≤ R.frames ∧ 8 + (3 + 11) + 597 ≤ R.locals) (hcs : cells ≤ R.cells ∧ slots ≤ R.slots) (hd : decode cc pc = .ok (.invokevirtual 286, 3)) (kk : ∀ (H1 : Heap) (locs1 : List Loc), WdA false A D cy ad s.heap μ1 ν1 H1 locs1 → narrow .int (.int r) = .int r → W p l e R s m args below meth c H1 locs1 cells slots Q (F0 m (pc + 3) ls (.int r :: rest))) : W p l e R s m args below meth c H locs cells slots Q (F0 m pc ls (.ref (ad 0) :: rest)) :=
  rCVI (As := []) (k := 0) (ct6_either2 hg) ok6 lX6_either2 k_1127 rfl rfl rfl C X rfl hrm hsz hR hcs hd kk
set_option maxRecDepth 100000 in
set_option maxHeartbeats 4000000 in
theorem w6_atom1_3 {p : Program} {l : Launch} {e : Env} {s : State} {m : MethodId} {args : Array Value} {below : List Frame} {meth : Method} {c : Code} {D : va_G} {cy : Nat → ClassId} {ad : Nat → Nat} {r : Int32} {μ1 : Mem} {ν1 : Lem} (C : Cx false p s m args meth c cX6_atom1 2 RX6 D cy ad) (hr : meth.sig.returnType = some .int) : ∀ (μ : Mem) (ν : Lem) (x1 : Int32), f6_atom1_3 μ ν x1 = some (r, μ1, ν1) → ∀ (H : Heap) (locs : List Loc), Wd false D cy ad s.heap μ ν H locs → ∀ (ls : Array Slot), lv_has ls 2 [(0, .ref (ad 0)), (1, .int x1)] → WI false p l e 28 619 s m args below meth c D cy ad .int r μ1 ν1 H locs (F0 m 157 ls []) := by
  have hx := C.1.1
  have hb := C.1.2.1
  have hown := C.1.2.2.2.1
  have hts := C.1.2.2.2.2
  intro μ ν x1 hf H locs X ls hl
  unfold f6_atom1_3 at hf
  refine lv_aload_n hx hb dX6_atom1_157 rfl (lv_at hl 0 rfl) ?_
  obtain ⟨μ158, ν158, g158, hf⟩ := pr2_e hf
  refine qX6_174 g158 C X hl.1 ((Nat.le_of_ble_eq_true rfl)) ⟨(Nat.le_of_ble_eq_true rfl), (Nat.le_of_ble_eq_true rfl)⟩ ⟨Nat.zero_le _, Nat.zero_le _⟩ dX6_atom1_158 (fun H locs X => ?_)
  refine lv_iload_n hx hb dX6_atom1_161 rfl (lv_at hl 1 rfl) ?_
  exact retI C X hr rfl (so3 hf).1 (so3 hf).2.1 (so3 hf).2.2 dX6_atom1_162
set_option maxRecDepth 100000 in
set_option maxHeartbeats 4000000 in
theorem w6_atom1_2 {p : Program} {l : Launch} {e : Env} {s : State} {m : MethodId} {args : Array Value} {below : List Frame} {meth : Method} {c : Code} {D : va_G} {cy : Nat → ClassId} {ad : Nat → Nat} {r : Int32} {μ1 : Mem} {ν1 : Lem} (C : Cx false p s m args meth c cX6_atom1 2 RX6 D cy ad) (hr : meth.sig.returnType = some .int) : ∀ (μ : Mem) (ν : Lem) (x1 : Int32), f6_atom1_2 μ ν x1 = some (r, μ1, ν1) → ∀ (H : Heap) (locs : List Loc), Wd false D cy ad s.heap μ ν H locs → ∀ (ls : Array Slot), lv_has ls 2 [(0, .ref (ad 0)), (1, .int x1)] → WI false p l e 28 619 s m args below meth c D cy ad .int r μ1 ν1 H locs (F0 m 123 ls []) := by
  have hx := C.1.1
  have hb := C.1.2.1
  have hown := C.1.2.2.2.1
  have hts := C.1.2.2.2.2
  intro μ ν x1 hf H locs X ls hl
  unfold f6_atom1_2 at hf
  refine lv_aload_n hx hb dX6_atom1_123 rfl (lv_at hl 0 rfl) ?_
  refine gfX6_160 C X dX6_atom1_124 ?_
  refine lv_if_ne (tgt := 157) hx hb dX6_atom1_127 (by decide) (fun c127 => ?_) (fun c127 => ?_)
  · replace hf := ifn c127 hf
    exact w6_atom1_3 C hr  μ ν x1 hf _ _ X _ (lv_sub hl [0, 1] rfl)
  · replace hf := ifp c127 hf
    refine lv_aload_n hx hb dX6_atom1_130 rfl (lv_at hl 0 rfl) ?_
    refine gfX6_145 C X dX6_atom1_131 ?_
    refine lv_iconst (v := 1) hx hb dX6_atom1_134 (by decide) ?_
    refine lv_icmp_ne (tgt := 157) hx hb dX6_atom1_135 (by decide) (fun c135 => ?_) (fun c135 => ?_)
    · replace hf := ifn c135 hf
      exact w6_atom1_3 C hr  μ ν x1 hf _ _ X _ (lv_sub hl [0, 1] rfl)
    · replace hf := ifp c135 hf
      refine lv_aload_n hx hb dX6_atom1_138 rfl (lv_at hl 0 rfl) ?_
      obtain ⟨r139, μ139, ν139, g139, hf⟩ := bd3_e hf
      refine qX6_209 g139 C X hl.1 ((Nat.le_of_ble_eq_true rfl)) ⟨(Nat.le_of_ble_eq_true rfl), (Nat.le_of_ble_eq_true rfl)⟩ ⟨Nat.zero_le _, Nat.zero_le _⟩ dX6_atom1_139 (fun H locs X b139 => ?_)
      refine lv_istore_n (lv' := [(1, .int r139), (0, .ref (ad 0))]) hx hb dX6_atom1_142 rfl hl (by decide) rfl (fun ls hl => ?_)
      refine lv_aload_n hx hb dX6_atom1_143 rfl (lv_at hl 1 rfl) ?_
      refine gfX6_160 C X dX6_atom1_144 ?_
      refine lv_if_ne (tgt := 161) hx hb dX6_atom1_147 (by decide) (fun c147 => ?_) (fun c147 => ?_)
      · replace hf := ifn c147 hf
        refine lv_iload_n hx hb dX6_atom1_161 rfl (lv_at hl 0 rfl) ?_
        exact retI C X hr rfl (so3 hf).1 (so3 hf).2.1 (so3 hf).2.2 dX6_atom1_162
      · replace hf := ifp c147 hf
        refine lv_aload_n hx hb dX6_atom1_150 rfl (lv_at hl 1 rfl) ?_
        obtain ⟨μ151, ν151, g151, hf⟩ := bd2_e hf
        refine qX6_177 g151 C X hl.1 ((Nat.le_of_ble_eq_true rfl)) ⟨(Nat.le_of_ble_eq_true rfl), (Nat.le_of_ble_eq_true rfl)⟩ ⟨Nat.zero_le _, Nat.zero_le _⟩ dX6_atom1_151 (fun H locs X => ?_)
        refine lv_goto (tgt := 161) hx hb dX6_atom1_154 (by decide) ?_
        refine lv_iload_n hx hb dX6_atom1_161 rfl (lv_at hl 0 rfl) ?_
        exact retI C X hr rfl (so3 hf).1 (so3 hf).2.1 (so3 hf).2.2 dX6_atom1_162
set_option maxRecDepth 100000 in
set_option maxHeartbeats 4000000 in
theorem w6_atom1_1 {p : Program} {l : Launch} {e : Env} {s : State} {m : MethodId} {args : Array Value} {below : List Frame} {meth : Method} {c : Code} {D : va_G} {cy : Nat → ClassId} {ad : Nat → Nat} {r : Int32} {μ1 : Mem} {ν1 : Lem} (C : Cx false p s m args meth c cX6_atom1 2 RX6 D cy ad) (hr : meth.sig.returnType = some .int) : ∀ (μ : Mem) (ν : Lem) (x1 : Int32), f6_atom1_1 μ ν x1 = some (r, μ1, ν1) → ∀ (H : Heap) (locs : List Loc), Wd false D cy ad s.heap μ ν H locs → ∀ (ls : Array Slot), lv_has ls 2 [(0, .ref (ad 0)), (1, .int x1)] → WI false p l e 28 619 s m args below meth c D cy ad .int r μ1 ν1 H locs (F0 m 71 ls []) := by
  have hx := C.1.1
  have hb := C.1.2.1
  have hown := C.1.2.2.2.1
  have hts := C.1.2.2.2.2
  intro μ ν x1 hf H locs X ls hl
  unfold f6_atom1_1 at hf
  refine lv_aload_n hx hb dX6_atom1_71 rfl (lv_at hl 0 rfl) ?_
  refine lv_dup hx hb dX6_atom1_72 rfl ?_
  refine gfX6_171 C X dX6_atom1_73 ?_
  refine lv_iconst (v := 1) hx hb dX6_atom1_76 (by decide) ?_
  refine lv_isub hx hb dX6_atom1_77 ?_
  obtain ⟨μ78, e78, hf⟩ := nm_e2 hf
  refine pfX6_171 e78 C X dX6_atom1_78 (fun H locs X => ?_)
  refine lv_aload_n hx hb dX6_atom1_81 rfl (lv_at hl 0 rfl) ?_
  refine gfX6_160 C X dX6_atom1_82 ?_
  refine lv_if_ne (tgt := 161) hx hb dX6_atom1_85 (by decide) (fun c85 => ?_) (fun c85 => ?_)
  · replace hf := ifn c85 hf
    refine lv_iload_n hx hb dX6_atom1_161 rfl (lv_at hl 1 rfl) ?_
    exact retI C X hr rfl (so3 hf).1 (so3 hf).2.1 (so3 hf).2.2 dX6_atom1_162
  · replace hf := ifp c85 hf
    refine lv_aload_n hx hb dX6_atom1_88 rfl (lv_at hl 0 rfl) ?_
    obtain ⟨μ89, ν89, g89, hf⟩ := bd2_e hf
    refine qX6_177 g89 C X hl.1 ((Nat.le_of_ble_eq_true rfl)) ⟨(Nat.le_of_ble_eq_true rfl), (Nat.le_of_ble_eq_true rfl)⟩ ⟨Nat.zero_le _, Nat.zero_le _⟩ dX6_atom1_89 (fun H locs X => ?_)
    refine lv_goto (tgt := 161) hx hb dX6_atom1_92 (by decide) ?_
    refine lv_iload_n hx hb dX6_atom1_161 rfl (lv_at hl 1 rfl) ?_
    exact retI C X hr rfl (so3 hf).1 (so3 hf).2.1 (so3 hf).2.2 dX6_atom1_162
set_option maxRecDepth 100000 in
set_option maxHeartbeats 4000000 in
theorem w6_atom1 {p : Program} {l : Launch} {e : Env} {s : State} {m : MethodId} {args : Array Value} {below : List Frame} {meth : Method} {c : Code} {D : va_G} {cy : Nat → ClassId} {ad : Nat → Nat} {r : Int32} {μ1 : Mem} {ν1 : Lem} (C : Cx false p s m args meth c cX6_atom1 2 RX6 D cy ad) (hr : meth.sig.returnType = some .int) : ∀ (μ : Mem) (ν : Lem), f6_atom1 μ ν = some (r, μ1, ν1) → ∀ (H : Heap) (locs : List Loc), Wd false D cy ad s.heap μ ν H locs → ∀ (ls : Array Slot), lv_has ls 2 [(0, .ref (ad 0))] → WI false p l e 28 619 s m args below meth c D cy ad .int r μ1 ν1 H locs (F0 m 0 ls []) := by
  have hx := C.1.1
  have hb := C.1.2.1
  have hown := C.1.2.2.2.1
  have hts := C.1.2.2.2.2
  intro μ ν hf H locs X ls hl
  unfold f6_atom1 at hf
  refine lv_iconst (v := 0) hx hb dX6_atom1_0 (by decide) ?_
  refine lv_istore_n (lv' := [(1, .int 0), (0, .ref (ad 0))]) hx hb dX6_atom1_1 rfl hl (by decide) rfl (fun ls hl => ?_)
  refine lv_aload_n hx hb dX6_atom1_2 rfl (lv_at hl 1 rfl) ?_
  refine lv_bipush (v := 45) hx hb dX6_atom1_3 (by decide) ?_
  refine qX6_202 rfl C X hl.1 ((Nat.le_of_ble_eq_true rfl)) ⟨(Nat.le_of_ble_eq_true rfl), (Nat.le_of_ble_eq_true rfl)⟩ ⟨Nat.zero_le _, Nat.zero_le _⟩ dX6_atom1_5 (fun H locs X b5 => ?_)
  refine lv_if_eq (tgt := 37) hx hb dX6_atom1_8 (by decide) (fun c8 => ?_) (fun c8 => ?_)
  · replace hf := ifp c8 hf
    refine lv_aload_n hx hb dX6_atom1_37 rfl (lv_at hl 1 rfl) ?_
    refine lv_bipush (v := 40) hx hb dX6_atom1_38 (by decide) ?_
    refine qX6_202 rfl C X hl.1 ((Nat.le_of_ble_eq_true rfl)) ⟨(Nat.le_of_ble_eq_true rfl), (Nat.le_of_ble_eq_true rfl)⟩ ⟨Nat.zero_le _, Nat.zero_le _⟩ dX6_atom1_40 (fun H locs X b40 => ?_)
    refine lv_if_eq (tgt := 95) hx hb dX6_atom1_43 (by decide) (fun c43 => ?_) (fun c43 => ?_)
    · replace hf := ifp c43 hf
      refine lv_aload_n hx hb dX6_atom1_95 rfl (lv_at hl 1 rfl) ?_
      refine gfX6_160 C X dX6_atom1_96 ?_
      refine lv_if_ne (tgt := 123) hx hb dX6_atom1_99 (by decide) (fun c99 => ?_) (fun c99 => ?_)
      · replace hf := ifn c99 hf
        exact w6_atom1_2 C hr  μ ν 0 hf _ _ X _ (lv_sub hl [1, 0] rfl)
      · replace hf := ifp c99 hf
        refine lv_aload_n hx hb dX6_atom1_102 rfl (lv_at hl 1 rfl) ?_
        refine gfX6_145 C X dX6_atom1_103 ?_
        refine lv_iconst (v := 2) hx hb dX6_atom1_106 (by decide) ?_
        refine lv_icmp_ne (tgt := 123) hx hb dX6_atom1_107 (by decide) (fun c107 => ?_) (fun c107 => ?_)
        · replace hf := ifn c107 hf
          exact w6_atom1_2 C hr  μ ν 0 hf _ _ X _ (lv_sub hl [1, 0] rfl)
        · replace hf := ifp c107 hf
          refine lv_aload_n hx hb dX6_atom1_110 rfl (lv_at hl 1 rfl) ?_
          refine gfX6_156 C X dX6_atom1_111 ?_
          refine lv_l2i hx hb dX6_atom1_114 rfl ?_
          obtain ⟨v115, e115, hf⟩ := nm_e2 hf
          refine st_i e115 ?_
          refine lv_istore_n (lv' := [(1, .int v115), (0, .ref (ad 0))]) hx hb dX6_atom1_115 rfl hl (by decide) rfl (fun ls hl => ?_)
          refine lv_aload_n hx hb dX6_atom1_116 rfl (lv_at hl 1 rfl) ?_
          obtain ⟨μ117, ν117, g117, hf⟩ := bd2_e hf
          refine qX6_177 g117 C X hl.1 ((Nat.le_of_ble_eq_true rfl)) ⟨(Nat.le_of_ble_eq_true rfl), (Nat.le_of_ble_eq_true rfl)⟩ ⟨Nat.zero_le _, Nat.zero_le _⟩ dX6_atom1_117 (fun H locs X => ?_)
          refine lv_goto (tgt := 161) hx hb dX6_atom1_120 (by decide) ?_
          refine lv_iload_n hx hb dX6_atom1_161 rfl (lv_at hl 0 rfl) ?_
          exact retI C X hr rfl (so3 hf).1 (so3 hf).2.1 (so3 hf).2.2 dX6_atom1_162
    · replace hf := ifn c43 hf
      refine lv_aload_n hx hb dX6_atom1_46 rfl (lv_at hl 1 rfl) ?_
      obtain ⟨r47, μ47, ν47, g47, hf⟩ := bd3_e hf
      refine qX6_205 g47 C X hl.1 ((Nat.le_of_ble_eq_true rfl)) ⟨(Nat.le_of_ble_eq_true rfl), (Nat.le_of_ble_eq_true rfl)⟩ ⟨Nat.zero_le _, Nat.zero_le _⟩ dX6_atom1_47 (fun H locs X b47 => ?_)
      refine lv_if_eq (tgt := 161) hx hb dX6_atom1_50 (by decide) (fun c50 => ?_) (fun c50 => ?_)
      · replace hf := ifp c50 hf
        refine lv_iload_n hx hb dX6_atom1_161 rfl (lv_at hl 0 rfl) ?_
        exact retI C X hr rfl (so3 hf).1 (so3 hf).2.1 (so3 hf).2.2 dX6_atom1_162
      · replace hf := ifn c50 hf
        refine lv_aload_n hx hb dX6_atom1_53 rfl (lv_at hl 1 rfl) ?_
        obtain ⟨r54, μ54, ν54, g54, hf⟩ := bd3_e hf
        refine qX6_286 g54 C X hl.1 ((Nat.le_of_ble_eq_true rfl)) ⟨(Nat.le_of_ble_eq_true rfl), (Nat.le_of_ble_eq_true rfl)⟩ ⟨Nat.zero_le _, Nat.zero_le _⟩ dX6_atom1_54 (fun H locs X b54 => ?_)
        refine lv_istore_n (lv' := [(1, .int r54), (0, .ref (ad 0))]) hx hb dX6_atom1_57 rfl hl (by decide) rfl (fun ls hl => ?_)
        refine lv_aload_n hx hb dX6_atom1_58 rfl (lv_at hl 1 rfl) ?_
        refine lv_bipush (v := 41) hx hb dX6_atom1_59 (by decide) ?_
        refine qX6_202 rfl C X hl.1 ((Nat.le_of_ble_eq_true rfl)) ⟨(Nat.le_of_ble_eq_true rfl), (Nat.le_of_ble_eq_true rfl)⟩ ⟨Nat.zero_le _, Nat.zero_le _⟩ dX6_atom1_61 (fun H locs X b61 => ?_)
        refine lv_if_ne (tgt := 71) hx hb dX6_atom1_64 (by decide) (fun c64 => ?_) (fun c64 => ?_)
        · replace hf := ifn c64 hf
          exact w6_atom1_1 C hr  μ54 ν54 r54 hf _ _ X _ (lv_sub hl [1, 0] rfl)
        · replace hf := ifp c64 hf
          refine lv_aload_n hx hb dX6_atom1_67 rfl (lv_at hl 1 rfl) ?_
          obtain ⟨μ68, ν68, g68, hf⟩ := pr2_e hf
          refine qX6_174 g68 C X hl.1 ((Nat.le_of_ble_eq_true rfl)) ⟨(Nat.le_of_ble_eq_true rfl), (Nat.le_of_ble_eq_true rfl)⟩ ⟨Nat.zero_le _, Nat.zero_le _⟩ dX6_atom1_68 (fun H locs X => ?_)
          exact w6_atom1_1 C hr  μ68 ν68 r54 hf _ _ X _ (lv_sub hl [1, 0] rfl)
  · replace hf := ifn c8 hf
    refine lv_aload_n hx hb dX6_atom1_11 rfl (lv_at hl 1 rfl) ?_
    obtain ⟨r12, μ12, ν12, g12, hf⟩ := bd3_e hf
    refine qX6_205 g12 C X hl.1 ((Nat.le_of_ble_eq_true rfl)) ⟨(Nat.le_of_ble_eq_true rfl), (Nat.le_of_ble_eq_true rfl)⟩ ⟨Nat.zero_le _, Nat.zero_le _⟩ dX6_atom1_12 (fun H locs X b12 => ?_)
    refine lv_if_eq (tgt := 161) hx hb dX6_atom1_15 (by decide) (fun c15 => ?_) (fun c15 => ?_)
    · replace hf := ifp c15 hf
      refine lv_iload_n hx hb dX6_atom1_161 rfl (lv_at hl 0 rfl) ?_
      exact retI C X hr rfl (so3 hf).1 (so3 hf).2.1 (so3 hf).2.2 dX6_atom1_162
    · replace hf := ifn c15 hf
      refine lv_aload_n hx hb dX6_atom1_18 rfl (lv_at hl 1 rfl) ?_
      obtain ⟨r19, μ19, ν19, g19, hf⟩ := bd3_e hf
      refine qX6_271 g19 C X hl.1 ((Nat.le_of_ble_eq_true rfl)) ⟨(Nat.le_of_ble_eq_true rfl), (Nat.le_of_ble_eq_true rfl)⟩ ⟨Nat.zero_le _, Nat.zero_le _⟩ dX6_atom1_19 (fun H locs X b19 => ?_)
      refine lv_ineg hx hb dX6_atom1_22 ?_
      obtain ⟨v23, e23, hf⟩ := nm_e2 hf
      refine st_i e23 ?_
      refine lv_istore_n (lv' := [(1, .int v23), (0, .ref (ad 0))]) hx hb dX6_atom1_23 rfl hl (by decide) rfl (fun ls hl => ?_)
      refine lv_aload_n hx hb dX6_atom1_24 rfl (lv_at hl 1 rfl) ?_
      refine lv_dup hx hb dX6_atom1_25 rfl ?_
      refine gfX6_171 C X dX6_atom1_26 ?_
      refine lv_iconst (v := 1) hx hb dX6_atom1_29 (by decide) ?_
      refine lv_isub hx hb dX6_atom1_30 ?_
      obtain ⟨μ31, e31, hf⟩ := nm_e2 hf
      refine pfX6_171 e31 C X dX6_atom1_31 (fun H locs X => ?_)
      refine lv_goto (tgt := 161) hx hb dX6_atom1_34 (by decide) ?_
      refine lv_iload_n hx hb dX6_atom1_161 rfl (lv_at hl 0 rfl) ?_
      exact retI C X hr rfl (so3 hf).1 (so3 hf).2.1 (so3 hf).2.2 dX6_atom1_162
theorem ct6_atom1 {μ : Mem} {ν : Lem} {r : Int32} {μ1 : Mem} {ν1 : Lem} (hg : f6_atom1 μ ν = some (r, μ1, ν1)) : CtI false yX6_atom1 cX6_atom1 2 28 619 .int (fun ad => [.ref (ad 0)]) μ ν r μ1 ν1 :=
  mkI (by decide) rfl (fun ad => Nat.le_of_ble_eq_true rfl) (fun p l e s m args below meth c D cy ad C hr X ls hl => w6_atom1 C hr μ ν hg _ _ X _ hl)
theorem qX6_289 {p : Program} {l : Launch} {e : Env} {R : Room} {s : State} {m : MethodId} {args : Array Value} {below : List Frame} {meth : Method} {c : Code} {H : Heap} {locs : List Loc} {cells slots : Nat} {Q : State → Prop} {A : Nat → Prop} {cc : ByteArray} {nL : Nat} {D : va_G} {cy : Nat → ClassId} {ad : Nat → Nat} {μ : Mem} {ν : Lem} {pc : Nat} {ls : Array Slot} {rest : List Value} {r : Int32} {μ1 : Mem} {ν1 : Lem} (hg : f6_atom1 μ ν = some (r, μ1, ν1)) (C : CxA false A p s m args meth c cc nL RX6 D cy ad) (X : WdA false A D cy ad s.heap μ ν H locs) (hsz : ls.size = nL) (hrm : (rest.map fun v => v.category).sum ≤ 8) (hR : 28 + 1 ≤ R.frames ∧ 8 + (2 + 11) + 619 ≤ R.locals) (hcs : cells ≤ R.cells ∧ slots ≤ R.slots) (hd : decode cc pc = .ok (.invokevirtual 289, 3)) (kk : ∀ (H1 : Heap) (locs1 : List Loc), WdA false A D cy ad s.heap μ1 ν1 H1 locs1 → narrow .int (.int r) = .int r → W p l e R s m args below meth c H1 locs1 cells slots Q (F0 m (pc + 3) ls (.int r :: rest))) : W p l e R s m args below meth c H locs cells slots Q (F0 m pc ls (.ref (ad 0) :: rest)) :=
  rCVI (As := []) (k := 0) (ct6_atom1 hg) ok6 lX6_atom1 k_1123 rfl rfl rfl C X rfl hrm hsz hR hcs hd kk
set_option maxRecDepth 100000 in
set_option maxHeartbeats 4000000 in
theorem w6_term1_1 {p : Program} {l : Launch} {e : Env} {s : State} {m : MethodId} {args : Array Value} {below : List Frame} {meth : Method} {c : Code} {D : va_G} {cy : Nat → ClassId} {ad : Nat → Nat} {r : Int32} {μ1 : Mem} {ν1 : Lem} (C : Cx false p s m args meth c cX6_term1 2 RX6 D cy ad) (hr : meth.sig.returnType = some .int) : ∀ (n : Nat), ∀ (μ : Mem) (ν : Lem) (x1 : Int32), f6_term1_1 n μ ν x1 = some (r, μ1, ν1) → ∀ (H : Heap) (locs : List Loc), Wd false D cy ad s.heap μ ν H locs → ∀ (ls : Array Slot), lv_has ls 2 [(0, .ref (ad 0)), (1, .int x1)] → WI false p l e 29 640 s m args below meth c D cy ad .int r μ1 ν1 H locs (F0 m 5 ls []) := by
  have hx := C.1.1
  have hb := C.1.2.1
  have hown := C.1.2.2.2.1
  have hts := C.1.2.2.2.2
  intro n
  induction n with
  | zero =>
    intro μ ν x1 hf H locs X ls hl
    rw [f6_term1_1] at hf
    cases hf
  | succ n ih =>
    intro μ ν x1 hf H locs X ls hl
    rw [f6_term1_1] at hf
    refine lv_aload_n hx hb dX6_term1_5 rfl (lv_at hl 0 rfl) ?_
    refine lv_bipush (v := 42) hx hb dX6_term1_6 (by decide) ?_
    refine qX6_202 rfl C X hl.1 ((Nat.le_of_ble_eq_true rfl)) ⟨(Nat.le_of_ble_eq_true rfl), (Nat.le_of_ble_eq_true rfl)⟩ ⟨Nat.zero_le _, Nat.zero_le _⟩ dX6_term1_8 (fun H locs X b8 => ?_)
    refine lv_if_eq (tgt := 28) hx hb dX6_term1_11 (by decide) (fun c11 => ?_) (fun c11 => ?_)
    · replace hf := ifp c11 hf
      refine lv_iload_n hx hb dX6_term1_28 rfl (lv_at hl 1 rfl) ?_
      exact retI C X hr rfl (so3 hf).1 (so3 hf).2.1 (so3 hf).2.2 dX6_term1_29
    · replace hf := ifn c11 hf
      refine lv_aload_n hx hb dX6_term1_14 rfl (lv_at hl 0 rfl) ?_
      obtain ⟨μ15, ν15, g15, hf⟩ := bd2_e hf
      refine qX6_177 g15 C X hl.1 ((Nat.le_of_ble_eq_true rfl)) ⟨(Nat.le_of_ble_eq_true rfl), (Nat.le_of_ble_eq_true rfl)⟩ ⟨Nat.zero_le _, Nat.zero_le _⟩ dX6_term1_15 (fun H locs X => ?_)
      refine lv_iload_n hx hb dX6_term1_18 rfl (lv_at hl 1 rfl) ?_
      refine lv_aload_n hx hb dX6_term1_19 rfl (lv_at hl 0 rfl) ?_
      obtain ⟨r20, μ20, ν20, g20, hf⟩ := bd3_e hf
      refine qX6_289 g20 C X hl.1 ((Nat.le_of_ble_eq_true rfl)) ⟨(Nat.le_of_ble_eq_true rfl), (Nat.le_of_ble_eq_true rfl)⟩ ⟨Nat.zero_le _, Nat.zero_le _⟩ dX6_term1_20 (fun H locs X b20 => ?_)
      refine lv_imul hx hb dX6_term1_23 ?_
      obtain ⟨v24, e24, hf⟩ := nm_e2 hf
      refine st_i e24 ?_
      refine lv_istore_n (lv' := [(1, .int v24), (0, .ref (ad 0))]) hx hb dX6_term1_24 rfl hl (by decide) rfl (fun ls hl => ?_)
      refine lv_goto (tgt := 5) hx hb dX6_term1_25 (by decide) ?_
      exact ih μ20 ν20 v24 hf _ _ X _ (lv_sub hl [1, 0] rfl)
set_option maxRecDepth 100000 in
set_option maxHeartbeats 4000000 in
theorem w6_term1 {p : Program} {l : Launch} {e : Env} {s : State} {m : MethodId} {args : Array Value} {below : List Frame} {meth : Method} {c : Code} {D : va_G} {cy : Nat → ClassId} {ad : Nat → Nat} {r : Int32} {μ1 : Mem} {ν1 : Lem} (C : Cx false p s m args meth c cX6_term1 2 RX6 D cy ad) (hr : meth.sig.returnType = some .int) : ∀ (μ : Mem) (ν : Lem), f6_term1 μ ν = some (r, μ1, ν1) → ∀ (H : Heap) (locs : List Loc), Wd false D cy ad s.heap μ ν H locs → ∀ (ls : Array Slot), lv_has ls 2 [(0, .ref (ad 0))] → WI false p l e 29 640 s m args below meth c D cy ad .int r μ1 ν1 H locs (F0 m 0 ls []) := by
  have hx := C.1.1
  have hb := C.1.2.1
  have hown := C.1.2.2.2.1
  have hts := C.1.2.2.2.2
  intro μ ν hf H locs X ls hl
  unfold f6_term1 at hf
  refine lv_aload_n hx hb dX6_term1_0 rfl (lv_at hl 0 rfl) ?_
  obtain ⟨r1, μ1, ν1, g1, hf⟩ := bd3_e hf
  refine qX6_289 g1 C X hl.1 ((Nat.le_of_ble_eq_true rfl)) ⟨(Nat.le_of_ble_eq_true rfl), (Nat.le_of_ble_eq_true rfl)⟩ ⟨Nat.zero_le _, Nat.zero_le _⟩ dX6_term1_1 (fun H locs X b1 => ?_)
  refine lv_istore_n (lv' := [(1, .int r1), (0, .ref (ad 0))]) hx hb dX6_term1_4 rfl hl (by decide) rfl (fun ls hl => ?_)
  exact w6_term1_1 C hr  FUEL μ1 ν1 r1 hf _ _ X _ (lv_sub hl [1, 0] rfl)
theorem ct6_term1 {μ : Mem} {ν : Lem} {r : Int32} {μ1 : Mem} {ν1 : Lem} (hg : f6_term1 μ ν = some (r, μ1, ν1)) : CtI false yX6_term1 cX6_term1 2 29 640 .int (fun ad => [.ref (ad 0)]) μ ν r μ1 ν1 :=
  mkI (by decide) rfl (fun ad => Nat.le_of_ble_eq_true rfl) (fun p l e s m args below meth c D cy ad C hr X ls hl => w6_term1 C hr μ ν hg _ _ X _ hl)
theorem qX6_292 {p : Program} {l : Launch} {e : Env} {R : Room} {s : State} {m : MethodId} {args : Array Value} {below : List Frame} {meth : Method} {c : Code} {H : Heap} {locs : List Loc} {cells slots : Nat} {Q : State → Prop} {A : Nat → Prop} {cc : ByteArray} {nL : Nat} {D : va_G} {cy : Nat → ClassId} {ad : Nat → Nat} {μ : Mem} {ν : Lem} {pc : Nat} {ls : Array Slot} {rest : List Value} {r : Int32} {μ1 : Mem} {ν1 : Lem} (hg : f6_term1 μ ν = some (r, μ1, ν1)) (C : CxA false A p s m args meth c cc nL RX6 D cy ad) (X : WdA false A D cy ad s.heap μ ν H locs) (hsz : ls.size = nL) (hrm : (rest.map fun v => v.category).sum ≤ 8) (hR : 29 + 1 ≤ R.frames ∧ 8 + (2 + 11) + 640 ≤ R.locals) (hcs : cells ≤ R.cells ∧ slots ≤ R.slots) (hd : decode cc pc = .ok (.invokevirtual 292, 3)) (kk : ∀ (H1 : Heap) (locs1 : List Loc), WdA false A D cy ad s.heap μ1 ν1 H1 locs1 → narrow .int (.int r) = .int r → W p l e R s m args below meth c H1 locs1 cells slots Q (F0 m (pc + 3) ls (.int r :: rest))) : W p l e R s m args below meth c H locs cells slots Q (F0 m pc ls (.ref (ad 0) :: rest)) :=
  rCVI (As := []) (k := 0) (ct6_term1 hg) ok6 lX6_term1 k_1119 rfl rfl rfl C X rfl hrm hsz hR hcs hd kk
set_option maxRecDepth 100000 in
set_option maxHeartbeats 4000000 in
theorem w6_added1_3 {p : Program} {l : Launch} {e : Env} {s : State} {m : MethodId} {args : Array Value} {below : List Frame} {meth : Method} {c : Code} {D : va_G} {cy : Nat → ClassId} {ad : Nat → Nat} {r : Int32} {μ1 : Mem} {ν1 : Lem} (C : Cx false p s m args meth c cX6_added1 4 RX6 D cy ad) (hr : meth.sig.returnType = some .int) (K5 : Mem → Lem → Int32 → Option (Int32 × Mem × Lem)) (hK5 : ∀ (μ : Mem) (ν : Lem) (x1 : Int32), K5 μ ν x1 = some (r, μ1, ν1) → ∀ (H : Heap) (locs : List Loc), Wd false D cy ad s.heap μ ν H locs → ∀ (ls : Array Slot), lv_has ls 4 [(0, .ref (ad 0)), (1, .int x1)] → WI false p l e 30 661 s m args below meth c D cy ad .int r μ1 ν1 H locs (F0 m 5 ls [])) : ∀ (μ : Mem) (ν : Lem) (x1 : Int32) (t0 : Int32), f6_added1_3 K5 μ ν x1 t0 = some (r, μ1, ν1) → ∀ (H : Heap) (locs : List Loc), Wd false D cy ad s.heap μ ν H locs → ∀ (ls : Array Slot), lv_has ls 4 [(0, .ref (ad 0)), (1, .int x1)] → WI false p l e 30 661 s m args below meth c D cy ad .int r μ1 ν1 H locs (F0 m 39 ls [.int t0]) := by
  have hx := C.1.1
  have hb := C.1.2.1
  have hown := C.1.2.2.2.1
  have hts := C.1.2.2.2.2
  intro μ ν x1 t0 hf H locs X ls hl
  unfold f6_added1_3 at hf
  refine lv_istore_n (lv' := [(2, .int t0), (0, .ref (ad 0)), (1, .int x1)]) hx hb dX6_added1_39 rfl hl (by decide) rfl (fun ls hl => ?_)
  refine lv_aload_n hx hb dX6_added1_40 rfl (lv_at hl 1 rfl) ?_
  obtain ⟨μ41, ν41, g41, hf⟩ := bd2_e hf
  refine qX6_177 g41 C X hl.1 ((Nat.le_of_ble_eq_true rfl)) ⟨(Nat.le_of_ble_eq_true rfl), (Nat.le_of_ble_eq_true rfl)⟩ ⟨Nat.zero_le _, Nat.zero_le _⟩ dX6_added1_41 (fun H locs X => ?_)
  refine lv_aload_n hx hb dX6_added1_44 rfl (lv_at hl 1 rfl) ?_
  obtain ⟨r45, μ45, ν45, g45, hf⟩ := bd3_e hf
  refine qX6_292 g45 C X hl.1 ((Nat.le_of_ble_eq_true rfl)) ⟨(Nat.le_of_ble_eq_true rfl), (Nat.le_of_ble_eq_true rfl)⟩ ⟨Nat.zero_le _, Nat.zero_le _⟩ dX6_added1_45 (fun H locs X b45 => ?_)
  refine lv_istore_n (lv' := [(3, .int r45), (2, .int t0), (0, .ref (ad 0)), (1, .int x1)]) hx hb dX6_added1_48 rfl hl (by decide) rfl (fun ls hl => ?_)
  refine lv_iload_n hx hb dX6_added1_49 rfl (lv_at hl 1 rfl) ?_
  refine lv_if_eq (tgt := 59) hx hb dX6_added1_50 (by decide) (fun c50 => ?_) (fun c50 => ?_)
  · replace hf := ifp c50 hf
    refine lv_iload_n hx hb dX6_added1_59 rfl (lv_at hl 3 rfl) ?_
    refine lv_iload_n hx hb dX6_added1_60 rfl (lv_at hl 0 rfl) ?_
    refine lv_isub hx hb dX6_added1_61 ?_
    obtain ⟨v62, e62, hf⟩ := nm_e2 hf
    refine st_i e62 ?_
    refine lv_istore_n (lv' := [(1, .int v62), (3, .int r45), (2, .int t0), (0, .ref (ad 0))]) hx hb dX6_added1_62 rfl hl (by decide) rfl (fun ls hl => ?_)
    refine lv_goto (tgt := 5) hx hb dX6_added1_63 (by decide) ?_
    exact hK5 μ45 ν45 v62 hf _ _ X _ (lv_sub hl [3, 0] rfl)
  · replace hf := ifn c50 hf
    refine lv_iload_n hx hb dX6_added1_53 rfl (lv_at hl 3 rfl) ?_
    refine lv_iload_n hx hb dX6_added1_54 rfl (lv_at hl 0 rfl) ?_
    refine lv_iadd hx hb dX6_added1_55 ?_
    refine lv_goto (tgt := 62) hx hb dX6_added1_56 (by decide) ?_
    obtain ⟨v62, e62, hf⟩ := nm_e2 hf
    refine st_i e62 ?_
    refine lv_istore_n (lv' := [(1, .int v62), (3, .int r45), (2, .int t0), (0, .ref (ad 0))]) hx hb dX6_added1_62 rfl hl (by decide) rfl (fun ls hl => ?_)
    refine lv_goto (tgt := 5) hx hb dX6_added1_63 (by decide) ?_
    exact hK5 μ45 ν45 v62 hf _ _ X _ (lv_sub hl [3, 0] rfl)
set_option maxRecDepth 100000 in
set_option maxHeartbeats 4000000 in
theorem w6_added1_2 {p : Program} {l : Launch} {e : Env} {s : State} {m : MethodId} {args : Array Value} {below : List Frame} {meth : Method} {c : Code} {D : va_G} {cy : Nat → ClassId} {ad : Nat → Nat} {r : Int32} {μ1 : Mem} {ν1 : Lem} (C : Cx false p s m args meth c cX6_added1 4 RX6 D cy ad) (hr : meth.sig.returnType = some .int) (K5 : Mem → Lem → Int32 → Option (Int32 × Mem × Lem)) (hK5 : ∀ (μ : Mem) (ν : Lem) (x1 : Int32), K5 μ ν x1 = some (r, μ1, ν1) → ∀ (H : Heap) (locs : List Loc), Wd false D cy ad s.heap μ ν H locs → ∀ (ls : Array Slot), lv_has ls 4 [(0, .ref (ad 0)), (1, .int x1)] → WI false p l e 30 661 s m args below meth c D cy ad .int r μ1 ν1 H locs (F0 m 5 ls [])) : ∀ (μ : Mem) (ν : Lem) (x1 : Int32), f6_added1_2 K5 μ ν x1 = some (r, μ1, ν1) → ∀ (H : Heap) (locs : List Loc), Wd false D cy ad s.heap μ ν H locs → ∀ (ls : Array Slot), lv_has ls 4 [(0, .ref (ad 0)), (1, .int x1)] → WI false p l e 30 661 s m args below meth c D cy ad .int r μ1 ν1 H locs (F0 m 23 ls []) := by
  have hx := C.1.1
  have hb := C.1.2.1
  have hown := C.1.2.2.2.1
  have hts := C.1.2.2.2.2
  intro μ ν x1 hf H locs X ls hl
  unfold f6_added1_2 at hf
  refine lv_aload_n hx hb dX6_added1_23 rfl (lv_at hl 0 rfl) ?_
  refine gfX6_156 C X dX6_added1_24 ?_
  refine lv_ldc2 (v := (43)) hx hb hown (hts _ k_1053) dX6_added1_27 ?_
  refine W.lcmp hx hb dX6_added1_30 ?_
  refine lv_if_ne (tgt := 38) hx hb dX6_added1_31 (by decide) (fun c31 => ?_) (fun c31 => ?_)
  · replace hf := ifn c31 hf
    refine lv_iconst (v := 0) hx hb dX6_added1_38 (by decide) ?_
    exact w6_added1_3 C hr K5 hK5 μ ν x1 0 hf _ _ X _ (lv_sub hl [0, 1] rfl)
  · replace hf := ifp c31 hf
    refine lv_iconst (v := 1) hx hb dX6_added1_34 (by decide) ?_
    refine lv_goto (tgt := 39) hx hb dX6_added1_35 (by decide) ?_
    exact w6_added1_3 C hr K5 hK5 μ ν x1 1 hf _ _ X _ (lv_sub hl [0, 1] rfl)
set_option maxRecDepth 100000 in
set_option maxHeartbeats 4000000 in
theorem w6_added1_1 {p : Program} {l : Launch} {e : Env} {s : State} {m : MethodId} {args : Array Value} {below : List Frame} {meth : Method} {c : Code} {D : va_G} {cy : Nat → ClassId} {ad : Nat → Nat} {r : Int32} {μ1 : Mem} {ν1 : Lem} (C : Cx false p s m args meth c cX6_added1 4 RX6 D cy ad) (hr : meth.sig.returnType = some .int) : ∀ (n : Nat), ∀ (μ : Mem) (ν : Lem) (x1 : Int32), f6_added1_1 n μ ν x1 = some (r, μ1, ν1) → ∀ (H : Heap) (locs : List Loc), Wd false D cy ad s.heap μ ν H locs → ∀ (ls : Array Slot), lv_has ls 4 [(0, .ref (ad 0)), (1, .int x1)] → WI false p l e 30 661 s m args below meth c D cy ad .int r μ1 ν1 H locs (F0 m 5 ls []) := by
  have hx := C.1.1
  have hb := C.1.2.1
  have hown := C.1.2.2.2.1
  have hts := C.1.2.2.2.2
  intro n
  induction n with
  | zero =>
    intro μ ν x1 hf H locs X ls hl
    rw [f6_added1_1] at hf
    cases hf
  | succ n ih =>
    intro μ ν x1 hf H locs X ls hl
    rw [f6_added1_1] at hf
    refine lv_aload_n hx hb dX6_added1_5 rfl (lv_at hl 0 rfl) ?_
    refine lv_bipush (v := 43) hx hb dX6_added1_6 (by decide) ?_
    refine qX6_202 rfl C X hl.1 ((Nat.le_of_ble_eq_true rfl)) ⟨(Nat.le_of_ble_eq_true rfl), (Nat.le_of_ble_eq_true rfl)⟩ ⟨Nat.zero_le _, Nat.zero_le _⟩ dX6_added1_8 (fun H locs X b8 => ?_)
    refine lv_if_ne (tgt := 23) hx hb dX6_added1_11 (by decide) (fun c11 => ?_) (fun c11 => ?_)
    · replace hf := ifn c11 hf
      exact w6_added1_2 C hr (f6_added1_1 n) ih μ ν x1 hf _ _ X _ (lv_sub hl [0, 1] rfl)
    · replace hf := ifp c11 hf
      refine lv_aload_n hx hb dX6_added1_14 rfl (lv_at hl 0 rfl) ?_
      refine lv_bipush (v := 45) hx hb dX6_added1_15 (by decide) ?_
      refine qX6_202 rfl C X hl.1 ((Nat.le_of_ble_eq_true rfl)) ⟨(Nat.le_of_ble_eq_true rfl), (Nat.le_of_ble_eq_true rfl)⟩ ⟨Nat.zero_le _, Nat.zero_le _⟩ dX6_added1_17 (fun H locs X b17 => ?_)
      refine lv_if_eq (tgt := 66) hx hb dX6_added1_20 (by decide) (fun c20 => ?_) (fun c20 => ?_)
      · replace hf := ifp c20 hf
        refine lv_iload_n hx hb dX6_added1_66 rfl (lv_at hl 1 rfl) ?_
        exact retI C X hr rfl (so3 hf).1 (so3 hf).2.1 (so3 hf).2.2 dX6_added1_67
      · replace hf := ifn c20 hf
        exact w6_added1_2 C hr (f6_added1_1 n) ih μ ν x1 hf _ _ X _ (lv_sub hl [0, 1] rfl)
set_option maxRecDepth 100000 in
set_option maxHeartbeats 4000000 in
theorem w6_added1 {p : Program} {l : Launch} {e : Env} {s : State} {m : MethodId} {args : Array Value} {below : List Frame} {meth : Method} {c : Code} {D : va_G} {cy : Nat → ClassId} {ad : Nat → Nat} {r : Int32} {μ1 : Mem} {ν1 : Lem} (C : Cx false p s m args meth c cX6_added1 4 RX6 D cy ad) (hr : meth.sig.returnType = some .int) : ∀ (μ : Mem) (ν : Lem), f6_added1 μ ν = some (r, μ1, ν1) → ∀ (H : Heap) (locs : List Loc), Wd false D cy ad s.heap μ ν H locs → ∀ (ls : Array Slot), lv_has ls 4 [(0, .ref (ad 0))] → WI false p l e 30 661 s m args below meth c D cy ad .int r μ1 ν1 H locs (F0 m 0 ls []) := by
  have hx := C.1.1
  have hb := C.1.2.1
  have hown := C.1.2.2.2.1
  have hts := C.1.2.2.2.2
  intro μ ν hf H locs X ls hl
  unfold f6_added1 at hf
  refine lv_aload_n hx hb dX6_added1_0 rfl (lv_at hl 0 rfl) ?_
  obtain ⟨r1, μ1, ν1, g1, hf⟩ := bd3_e hf
  refine qX6_292 g1 C X hl.1 ((Nat.le_of_ble_eq_true rfl)) ⟨(Nat.le_of_ble_eq_true rfl), (Nat.le_of_ble_eq_true rfl)⟩ ⟨Nat.zero_le _, Nat.zero_le _⟩ dX6_added1_1 (fun H locs X b1 => ?_)
  refine lv_istore_n (lv' := [(1, .int r1), (0, .ref (ad 0))]) hx hb dX6_added1_4 rfl hl (by decide) rfl (fun ls hl => ?_)
  exact w6_added1_1 C hr  FUEL μ1 ν1 r1 hf _ _ X _ (lv_sub hl [1, 0] rfl)
theorem ct6_added1 {μ : Mem} {ν : Lem} {r : Int32} {μ1 : Mem} {ν1 : Lem} (hg : f6_added1 μ ν = some (r, μ1, ν1)) : CtI false yX6_added1 cX6_added1 4 30 661 .int (fun ad => [.ref (ad 0)]) μ ν r μ1 ν1 :=
  mkI (by decide) rfl (fun ad => Nat.le_of_ble_eq_true rfl) (fun p l e s m args below meth c D cy ad C hr X ls hl => w6_added1 C hr μ ν hg _ _ X _ hl)
theorem qX6_295 {p : Program} {l : Launch} {e : Env} {R : Room} {s : State} {m : MethodId} {args : Array Value} {below : List Frame} {meth : Method} {c : Code} {H : Heap} {locs : List Loc} {cells slots : Nat} {Q : State → Prop} {A : Nat → Prop} {cc : ByteArray} {nL : Nat} {D : va_G} {cy : Nat → ClassId} {ad : Nat → Nat} {μ : Mem} {ν : Lem} {pc : Nat} {ls : Array Slot} {rest : List Value} {r : Int32} {μ1 : Mem} {ν1 : Lem} (hg : f6_added1 μ ν = some (r, μ1, ν1)) (C : CxA false A p s m args meth c cc nL RX6 D cy ad) (X : WdA false A D cy ad s.heap μ ν H locs) (hsz : ls.size = nL) (hrm : (rest.map fun v => v.category).sum ≤ 8) (hR : 30 + 1 ≤ R.frames ∧ 8 + (4 + 11) + 661 ≤ R.locals) (hcs : cells ≤ R.cells ∧ slots ≤ R.slots) (hd : decode cc pc = .ok (.invokevirtual 295, 3)) (kk : ∀ (H1 : Heap) (locs1 : List Loc), WdA false A D cy ad s.heap μ1 ν1 H1 locs1 → narrow .int (.int r) = .int r → W p l e R s m args below meth c H1 locs1 cells slots Q (F0 m (pc + 3) ls (.int r :: rest))) : W p l e R s m args below meth c H locs cells slots Q (F0 m pc ls (.ref (ad 0) :: rest)) :=
  rCVI (As := []) (k := 0) (ct6_added1 hg) ok6 lX6_added1 k_1115 rfl rfl rfl C X rfl hrm hsz hR hcs hd kk
set_option maxRecDepth 100000 in
set_option maxHeartbeats 4000000 in
theorem w6_not1_2 {p : Program} {l : Launch} {e : Env} {s : State} {m : MethodId} {args : Array Value} {below : List Frame} {meth : Method} {c : Code} {D : va_G} {cy : Nat → ClassId} {ad : Nat → Nat} {r : Int32} {μ1 : Mem} {ν1 : Lem} (C : Cx false p s m args meth c cX6_not1 4 RX6 D cy ad) (hr : meth.sig.returnType = some .int) : ∀ (μ : Mem) (ν : Lem) (x1 : Int32) (t0 : Int32), f6_not1_2 μ ν x1 t0 = some (r, μ1, ν1) → ∀ (H : Heap) (locs : List Loc), Wd false D cy ad s.heap μ ν H locs → ∀ (ls : Array Slot), lv_has ls 4 [(0, .ref (ad 0)), (1, .int x1)] → WI false p l e 31 684 s m args below meth c D cy ad .int r μ1 ν1 H locs (F0 m 93 ls [.int t0]) := by
  have hx := C.1.1
  have hb := C.1.2.1
  have hown := C.1.2.2.2.1
  have hts := C.1.2.2.2.2
  intro μ ν x1 t0 hf H locs X ls hl
  unfold f6_not1_2 at hf
  refine lv_istore_n (lv' := [(2, .int t0), (0, .ref (ad 0)), (1, .int x1)]) hx hb dX6_not1_93 rfl hl (by decide) rfl (fun ls hl => ?_)
  refine lv_aload_n hx hb dX6_not1_94 rfl (lv_at hl 1 rfl) ?_
  obtain ⟨μ95, ν95, g95, hf⟩ := bd2_e hf
  refine qX6_177 g95 C X hl.1 ((Nat.le_of_ble_eq_true rfl)) ⟨(Nat.le_of_ble_eq_true rfl), (Nat.le_of_ble_eq_true rfl)⟩ ⟨Nat.zero_le _, Nat.zero_le _⟩ dX6_not1_95 (fun H locs X => ?_)
  refine lv_aload_n hx hb dX6_not1_98 rfl (lv_at hl 1 rfl) ?_
  obtain ⟨r99, μ99, ν99, g99, hf⟩ := bd3_e hf
  refine qX6_295 g99 C X hl.1 ((Nat.le_of_ble_eq_true rfl)) ⟨(Nat.le_of_ble_eq_true rfl), (Nat.le_of_ble_eq_true rfl)⟩ ⟨Nat.zero_le _, Nat.zero_le _⟩ dX6_not1_99 (fun H locs X b99 => ?_)
  refine lv_istore_n (lv' := [(3, .int r99), (2, .int t0), (0, .ref (ad 0)), (1, .int x1)]) hx hb dX6_not1_102 rfl hl (by decide) rfl (fun ls hl => ?_)
  refine lv_iload_n hx hb dX6_not1_103 rfl (lv_at hl 1 rfl) ?_
  refine lv_if_eq (tgt := 115) hx hb dX6_not1_104 (by decide) (fun c104 => ?_) (fun c104 => ?_)
  · replace hf := ifp c104 hf
    refine lv_iload_n hx hb dX6_not1_115 rfl (lv_at hl 3 rfl) ?_
    refine lv_iload_n hx hb dX6_not1_116 rfl (lv_at hl 0 rfl) ?_
    refine lv_icmp_ne (tgt := 124) hx hb dX6_not1_117 (by decide) (fun c117 => ?_) (fun c117 => ?_)
    · replace hf := ifn c117 hf
      refine lv_iconst (v := 0) hx hb dX6_not1_124 (by decide) ?_
      exact retI C X hr rfl (so3 hf).1 (so3 hf).2.1 (so3 hf).2.2 dX6_not1_125
    · replace hf := ifp c117 hf
      refine lv_iconst (v := 1) hx hb dX6_not1_120 (by decide) ?_
      refine lv_goto (tgt := 125) hx hb dX6_not1_121 (by decide) ?_
      exact retI C X hr rfl (so3 hf).1 (so3 hf).2.1 (so3 hf).2.2 dX6_not1_125
  · replace hf := ifn c104 hf
    refine lv_iload_n hx hb dX6_not1_107 rfl (lv_at hl 3 rfl) ?_
    refine lv_iload_n hx hb dX6_not1_108 rfl (lv_at hl 0 rfl) ?_
    refine lv_icmp_ge (tgt := 124) hx hb dX6_not1_109 (by decide) (fun c109 => ?_) (fun c109 => ?_)
    · replace hf := ifp c109 hf
      refine lv_iconst (v := 0) hx hb dX6_not1_124 (by decide) ?_
      exact retI C X hr rfl (so3 hf).1 (so3 hf).2.1 (so3 hf).2.2 dX6_not1_125
    · replace hf := ifn c109 hf
      refine lv_goto (tgt := 120) hx hb dX6_not1_112 (by decide) ?_
      refine lv_iconst (v := 1) hx hb dX6_not1_120 (by decide) ?_
      refine lv_goto (tgt := 125) hx hb dX6_not1_121 (by decide) ?_
      exact retI C X hr rfl (so3 hf).1 (so3 hf).2.1 (so3 hf).2.2 dX6_not1_125
set_option maxRecDepth 100000 in
set_option maxHeartbeats 4000000 in
theorem w6_not1_1 {p : Program} {l : Launch} {e : Env} {s : State} {m : MethodId} {args : Array Value} {below : List Frame} {meth : Method} {c : Code} {D : va_G} {cy : Nat → ClassId} {ad : Nat → Nat} {r : Int32} {μ1 : Mem} {ν1 : Lem} (C : Cx false p s m args meth c cX6_not1 4 RX6 D cy ad) (hr : meth.sig.returnType = some .int) : ∀ (μ : Mem) (ν : Lem) (x1 : Int32), f6_not1_1 μ ν x1 = some (r, μ1, ν1) → ∀ (H : Heap) (locs : List Loc), Wd false D cy ad s.heap μ ν H locs → ∀ (ls : Array Slot), lv_has ls 4 [(0, .ref (ad 0)), (1, .int x1)] → WI false p l e 31 684 s m args below meth c D cy ad .int r μ1 ν1 H locs (F0 m 77 ls []) := by
  have hx := C.1.1
  have hb := C.1.2.1
  have hown := C.1.2.2.2.1
  have hts := C.1.2.2.2.2
  intro μ ν x1 hf H locs X ls hl
  unfold f6_not1_1 at hf
  refine lv_aload_n hx hb dX6_not1_77 rfl (lv_at hl 0 rfl) ?_
  refine gfX6_156 C X dX6_not1_78 ?_
  refine lv_ldc2 (v := (60)) hx hb hown (hts _ k_1054) dX6_not1_81 ?_
  refine W.lcmp hx hb dX6_not1_84 ?_
  refine lv_if_ne (tgt := 92) hx hb dX6_not1_85 (by decide) (fun c85 => ?_) (fun c85 => ?_)
  · replace hf := ifn c85 hf
    refine lv_iconst (v := 0) hx hb dX6_not1_92 (by decide) ?_
    exact w6_not1_2 C hr  μ ν x1 0 hf _ _ X _ (lv_sub hl [0, 1] rfl)
  · replace hf := ifp c85 hf
    refine lv_iconst (v := 1) hx hb dX6_not1_88 (by decide) ?_
    refine lv_goto (tgt := 93) hx hb dX6_not1_89 (by decide) ?_
    exact w6_not1_2 C hr  μ ν x1 1 hf _ _ X _ (lv_sub hl [0, 1] rfl)
set_option maxRecDepth 100000 in
set_option maxHeartbeats 4000000 in
theorem w6_not1 {p : Program} {l : Launch} {e : Env} {s : State} {m : MethodId} {args : Array Value} {below : List Frame} {meth : Method} {c : Code} {D : va_G} {cy : Nat → ClassId} {ad : Nat → Nat} {r : Int32} {μ1 : Mem} {ν1 : Lem} (C : Cx false p s m args meth c cX6_not1 4 RX6 D cy ad) (hr : meth.sig.returnType = some .int) : ∀ (μ : Mem) (ν : Lem), f6_not1 μ ν = some (r, μ1, ν1) → ∀ (H : Heap) (locs : List Loc), Wd false D cy ad s.heap μ ν H locs → ∀ (ls : Array Slot), lv_has ls 4 [(0, .ref (ad 0))] → WI false p l e 31 684 s m args below meth c D cy ad .int r μ1 ν1 H locs (F0 m 0 ls []) := by
  have hx := C.1.1
  have hb := C.1.2.1
  have hown := C.1.2.2.2.1
  have hts := C.1.2.2.2.2
  intro μ ν hf H locs X ls hl
  unfold f6_not1 at hf
  refine lv_aload_n hx hb dX6_not1_0 rfl (lv_at hl 0 rfl) ?_
  refine lv_bipush (v := 110) hx hb dX6_not1_1 (by decide) ?_
  refine lv_bipush (v := 111) hx hb dX6_not1_3 (by decide) ?_
  refine lv_bipush (v := 116) hx hb dX6_not1_5 (by decide) ?_
  refine lv_iconst (v := 0) hx hb dX6_not1_7 (by decide) ?_
  refine lv_iconst (v := 0) hx hb dX6_not1_8 (by decide) ?_
  refine lv_iconst (v := 0) hx hb dX6_not1_9 (by decide) ?_
  refine lv_iconst (v := 0) hx hb dX6_not1_10 (by decide) ?_
  refine lv_iconst (v := 0) hx hb dX6_not1_11 (by decide) ?_
  obtain ⟨r12, g12, hf⟩ := bd1_e hf
  refine qX6_180 g12 C X hl.1 ((Nat.le_of_ble_eq_true rfl)) ⟨(Nat.le_of_ble_eq_true rfl), (Nat.le_of_ble_eq_true rfl)⟩ ⟨Nat.zero_le _, Nat.zero_le _⟩ dX6_not1_12 (fun H locs X b12 => ?_)
  refine lv_if_eq (tgt := 52) hx hb dX6_not1_15 (by decide) (fun c15 => ?_) (fun c15 => ?_)
  · replace hf := ifp c15 hf
    refine lv_aload_n hx hb dX6_not1_52 rfl (lv_at hl 0 rfl) ?_
    obtain ⟨r53, μ53, ν53, g53, hf⟩ := bd3_e hf
    refine qX6_295 g53 C X hl.1 ((Nat.le_of_ble_eq_true rfl)) ⟨(Nat.le_of_ble_eq_true rfl), (Nat.le_of_ble_eq_true rfl)⟩ ⟨Nat.zero_le _, Nat.zero_le _⟩ dX6_not1_53 (fun H locs X b53 => ?_)
    refine lv_istore_n (lv' := [(1, .int r53), (0, .ref (ad 0))]) hx hb dX6_not1_56 rfl hl (by decide) rfl (fun ls hl => ?_)
    refine lv_aload_n hx hb dX6_not1_57 rfl (lv_at hl 1 rfl) ?_
    refine lv_bipush (v := 60) hx hb dX6_not1_58 (by decide) ?_
    refine qX6_202 rfl C X hl.1 ((Nat.le_of_ble_eq_true rfl)) ⟨(Nat.le_of_ble_eq_true rfl), (Nat.le_of_ble_eq_true rfl)⟩ ⟨Nat.zero_le _, Nat.zero_le _⟩ dX6_not1_60 (fun H locs X b60 => ?_)
    refine lv_if_ne (tgt := 77) hx hb dX6_not1_63 (by decide) (fun c63 => ?_) (fun c63 => ?_)
    · replace hf := ifn c63 hf
      exact w6_not1_1 C hr  μ53 ν53 r53 hf _ _ X _ (lv_sub hl [1, 0] rfl)
    · replace hf := ifp c63 hf
      refine lv_aload_n hx hb dX6_not1_66 rfl (lv_at hl 1 rfl) ?_
      refine lv_bipush (v := 61) hx hb dX6_not1_67 (by decide) ?_
      refine qX6_202 rfl C X hl.1 ((Nat.le_of_ble_eq_true rfl)) ⟨(Nat.le_of_ble_eq_true rfl), (Nat.le_of_ble_eq_true rfl)⟩ ⟨Nat.zero_le _, Nat.zero_le _⟩ dX6_not1_69 (fun H locs X b69 => ?_)
      refine lv_if_ne (tgt := 77) hx hb dX6_not1_72 (by decide) (fun c72 => ?_) (fun c72 => ?_)
      · replace hf := ifn c72 hf
        exact w6_not1_1 C hr  μ53 ν53 r53 hf _ _ X _ (lv_sub hl [1, 0] rfl)
      · replace hf := ifp c72 hf
        refine lv_iload_n hx hb dX6_not1_75 rfl (lv_at hl 0 rfl) ?_
        exact retI C X hr rfl (so3 hf).1 (so3 hf).2.1 (so3 hf).2.2 dX6_not1_76
  · replace hf := ifn c15 hf
    refine lv_aload_n hx hb dX6_not1_18 rfl (lv_at hl 0 rfl) ?_
    obtain ⟨r19, μ19, ν19, g19, hf⟩ := bd3_e hf
    refine qX6_205 g19 C X hl.1 ((Nat.le_of_ble_eq_true rfl)) ⟨(Nat.le_of_ble_eq_true rfl), (Nat.le_of_ble_eq_true rfl)⟩ ⟨Nat.zero_le _, Nat.zero_le _⟩ dX6_not1_19 (fun H locs X b19 => ?_)
    refine lv_if_ne (tgt := 27) hx hb dX6_not1_22 (by decide) (fun c22 => ?_) (fun c22 => ?_)
    · replace hf := ifn c22 hf
      refine lv_aload_n hx hb dX6_not1_27 rfl (lv_at hl 0 rfl) ?_
      obtain ⟨r28, μ28, ν28, g28, hf⟩ := bd3_e hf
      refine qX6_280 g28 C X hl.1 ((Nat.le_of_ble_eq_true rfl)) ⟨(Nat.le_of_ble_eq_true rfl), (Nat.le_of_ble_eq_true rfl)⟩ ⟨Nat.zero_le _, Nat.zero_le _⟩ dX6_not1_28 (fun H locs X b28 => ?_)
      refine lv_istore_n (lv' := [(1, .int r28), (0, .ref (ad 0))]) hx hb dX6_not1_31 rfl hl (by decide) rfl (fun ls hl => ?_)
      refine lv_aload_n hx hb dX6_not1_32 rfl (lv_at hl 1 rfl) ?_
      refine lv_dup hx hb dX6_not1_33 rfl ?_
      refine gfX6_171 C X dX6_not1_34 ?_
      refine lv_iconst (v := 1) hx hb dX6_not1_37 (by decide) ?_
      refine lv_isub hx hb dX6_not1_38 ?_
      obtain ⟨μ39, e39, hf⟩ := nm_e2 hf
      refine pfX6_171 e39 C X dX6_not1_39 (fun H locs X => ?_)
      refine lv_iload_n hx hb dX6_not1_42 rfl (lv_at hl 0 rfl) ?_
      refine lv_if_ne (tgt := 50) hx hb dX6_not1_43 (by decide) (fun c43 => ?_) (fun c43 => ?_)
      · replace hf := ifn c43 hf
        refine lv_iconst (v := 0) hx hb dX6_not1_50 (by decide) ?_
        exact retI C X hr rfl (so3 hf).1 (so3 hf).2.1 (so3 hf).2.2 dX6_not1_51
      · replace hf := ifp c43 hf
        refine lv_iconst (v := 1) hx hb dX6_not1_46 (by decide) ?_
        refine lv_goto (tgt := 51) hx hb dX6_not1_47 (by decide) ?_
        exact retI C X hr rfl (so3 hf).1 (so3 hf).2.1 (so3 hf).2.2 dX6_not1_51
    · replace hf := ifp c22 hf
      refine lv_iconst (v := 0) hx hb dX6_not1_25 (by decide) ?_
      exact retI C X hr rfl (so3 hf).1 (so3 hf).2.1 (so3 hf).2.2 dX6_not1_26
theorem ct6_not1 {μ : Mem} {ν : Lem} {r : Int32} {μ1 : Mem} {ν1 : Lem} (hg : f6_not1 μ ν = some (r, μ1, ν1)) : CtI false yX6_not1 cX6_not1 4 31 684 .int (fun ad => [.ref (ad 0)]) μ ν r μ1 ν1 :=
  mkI (by decide) rfl (fun ad => Nat.le_of_ble_eq_true rfl) (fun p l e s m args below meth c D cy ad C hr X ls hl => w6_not1 C hr μ ν hg _ _ X _ hl)
theorem qX6_298 {p : Program} {l : Launch} {e : Env} {R : Room} {s : State} {m : MethodId} {args : Array Value} {below : List Frame} {meth : Method} {c : Code} {H : Heap} {locs : List Loc} {cells slots : Nat} {Q : State → Prop} {A : Nat → Prop} {cc : ByteArray} {nL : Nat} {D : va_G} {cy : Nat → ClassId} {ad : Nat → Nat} {μ : Mem} {ν : Lem} {pc : Nat} {ls : Array Slot} {rest : List Value} {r : Int32} {μ1 : Mem} {ν1 : Lem} (hg : f6_not1 μ ν = some (r, μ1, ν1)) (C : CxA false A p s m args meth c cc nL RX6 D cy ad) (X : WdA false A D cy ad s.heap μ ν H locs) (hsz : ls.size = nL) (hrm : (rest.map fun v => v.category).sum ≤ 8) (hR : 31 + 1 ≤ R.frames ∧ 8 + (4 + 11) + 684 ≤ R.locals) (hcs : cells ≤ R.cells ∧ slots ≤ R.slots) (hd : decode cc pc = .ok (.invokevirtual 298, 3)) (kk : ∀ (H1 : Heap) (locs1 : List Loc), WdA false A D cy ad s.heap μ1 ν1 H1 locs1 → narrow .int (.int r) = .int r → W p l e R s m args below meth c H1 locs1 cells slots Q (F0 m (pc + 3) ls (.int r :: rest))) : W p l e R s m args below meth c H locs cells slots Q (F0 m pc ls (.ref (ad 0) :: rest)) :=
  rCVI (As := []) (k := 0) (ct6_not1 hg) ok6 lX6_not1 k_1013 rfl rfl rfl C X rfl hrm hsz hR hcs hd kk
