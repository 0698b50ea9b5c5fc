set_option maxRecDepth 100000 in
set_option maxHeartbeats 4000000 in
theorem w6_copy_2 {p : Program} {l : Launch} {e : Env} {s : State} {m : MethodId} {args : Array Value} {below : List Frame} {meth : Method} {c : Code} {D : va_G} {cy : Nat → ClassId} {ad : Nat → Nat} {r : Int32} {μ1 : Mem} {ν1 : Lem} (C : Cx false p s m args meth c cX6_copy 9 RX6 D cy ad) (hr : meth.sig.returnType = some .int) (K121 : Mem → Lem → Int32 → Int32 → Int32 → Int32 → Int32 → Int32 → Int32 → Option (Int32 × Mem × Lem)) (hK121 : ∀ (μ : Mem) (ν : Lem) (x1 : Int32) (x2 : Int32) (x3 : Int32) (x4 : Int32) (x5 : Int32) (x6 : Int32) (x7 : Int32), K121 μ ν x1 x2 x3 x4 x5 x6 x7 = some (r, μ1, ν1) → ∀ (H : Heap) (locs : List Loc), Wd false D cy ad s.heap μ ν H locs → ∀ (ls : Array Slot), lv_has ls 9 [(0, .ref (ad 0)), (1, .int x1), (2, .int x2), (3, .int x3), (4, .int x4), (5, .int x5), (6, .int x6), (7, .int x7)] → WI false p l e 2 45 s m args below meth c D cy ad .int r μ1 ν1 H locs (F0 m 121 ls [])) : ∀ (μ : Mem) (ν : Lem) (x1 : Int32) (x2 : Int32) (x3 : Int32) (x4 : Int32) (x5 : Int32) (x6 : Int32) (x7 : Int32) (t0 : Int32), f6_copy_2 K121 μ ν x1 x2 x3 x4 x5 x6 x7 t0 = some (r, μ1, ν1) → ∀ (H : Heap) (locs : List Loc), Wd false D cy ad s.heap μ ν H locs → ∀ (ls : Array Slot), lv_has ls 9 [(0, .ref (ad 0)), (1, .int x1), (2, .int x2), (3, .int x3), (4, .int x4), (5, .int x5), (6, .int x6), (7, .int x7)] → WI false p l e 2 45 s m args below meth c D cy ad .int r μ1 ν1 H locs (F0 m 145 ls [.int t0]) := by
  have hx := C.1.1
  have hb := C.1.2.1
  have hown := C.1.2.2.2.1
  have hts := C.1.2.2.2.2
  intro μ ν x1 x2 x3 x4 x5 x6 x7 t0 hf H locs X ls hl
  unfold f6_copy_2 at hf
  refine lv_istore (lv' := [(8, .int t0), (0, .ref (ad 0)), (1, .int x1), (2, .int x2), (3, .int x3), (4, .int x4), (5, .int x5), (6, .int x6), (7, .int x7)]) hx hb dX6_copy_145 hl (by decide) rfl (fun ls hl => ?_)
  refine lv_aload_n hx hb dX6_copy_147 rfl (lv_at hl 1 rfl) ?_
  refine gfX6_79 C X dX6_copy_148 ?_
  refine lv_bipush (v := 40) hx hb dX6_copy_151 (by decide) ?_
  refine lv_iload_n hx hb dX6_copy_153 rfl (lv_at hl 4 rfl) ?_
  refine lv_imul hx hb dX6_copy_154 ?_
  refine lv_iload hx hb dX6_copy_155 (lv_at hl 5 rfl) ?_
  refine lv_iadd hx hb dX6_copy_157 ?_
  refine lv_iload hx hb dX6_copy_158 (lv_at hl 0 rfl) ?_
  refine lv_iadd hx hb dX6_copy_160 ?_
  refine lv_aload_n hx hb dX6_copy_161 rfl (lv_at hl 1 rfl) ?_
  refine gfX6_79 C X dX6_copy_162 ?_
  refine lv_bipush (v := 40) hx hb dX6_copy_165 (by decide) ?_
  refine lv_iload_n hx hb dX6_copy_167 rfl (lv_at hl 2 rfl) ?_
  refine lv_imul hx hb dX6_copy_168 ?_
  refine lv_iload_n hx hb dX6_copy_169 rfl (lv_at hl 3 rfl) ?_
  refine lv_iadd hx hb dX6_copy_170 ?_
  refine lv_iload hx hb dX6_copy_171 (lv_at hl 0 rfl) ?_
  refine lv_iadd hx hb dX6_copy_173 ?_
  obtain ⟨h174, hf⟩ := gd_e hf
  refine rIald C X rfl h174 dX6_copy_174 ?_
  obtain ⟨h175, hf⟩ := gd_e hf
  obtain ⟨μ175, e175, hf⟩ := nm_e2 hf
  refine rIast2 C X rfl h175 e175 dX6_copy_175 (fun H locs X => ?_)
  obtain ⟨v176, e176, hf⟩ := nm_e2 hf
  refine rIinc (lv' := [(7, .int v176), (8, .int t0), (0, .ref (ad 0)), (1, .int x1), (2, .int x2), (3, .int x3), (4, .int x4), (5, .int x5), (6, .int x6)]) hx hb dX6_copy_176 hl (k := 8) rfl e176 rfl (by decide) rfl (fun ls hl => ?_)
  refine lv_goto (tgt := 121) hx hb dX6_copy_179 (by decide) ?_
  exact hK121 μ175 ν x1 x2 x3 x4 x5 x6 v176 hf _ _ X _ (lv_sub hl [2, 3, 4, 5, 6, 7, 8, 0] rfl)
set_option maxRecDepth 100000 in
set_option maxHeartbeats 4000000 in
theorem w6_copy_1 {p : Program} {l : Launch} {e : Env} {s : State} {m : MethodId} {args : Array Value} {below : List Frame} {meth : Method} {c : Code} {D : va_G} {cy : Nat → ClassId} {ad : Nat → Nat} {r : Int32} {μ1 : Mem} {ν1 : Lem} (C : Cx false p s m args meth c cX6_copy 9 RX6 D cy ad) (hr : meth.sig.returnType = some .int) : ∀ (n : Nat), ∀ (μ : Mem) (ν : Lem) (x1 : Int32) (x2 : Int32) (x3 : Int32) (x4 : Int32) (x5 : Int32) (x6 : Int32) (x7 : Int32), f6_copy_1 n μ ν x1 x2 x3 x4 x5 x6 x7 = some (r, μ1, ν1) → ∀ (H : Heap) (locs : List Loc), Wd false D cy ad s.heap μ ν H locs → ∀ (ls : Array Slot), lv_has ls 9 [(0, .ref (ad 0)), (1, .int x1), (2, .int x2), (3, .int x3), (4, .int x4), (5, .int x5), (6, .int x6), (7, .int x7)] → WI false p l e 2 45 s m args below meth c D cy ad .int r μ1 ν1 H locs (F0 m 121 ls []) := by
  have hx := C.1.1
  have hb := C.1.2.1
  have hown := C.1.2.2.2.1
  have hts := C.1.2.2.2.2
  intro n
  induction n with
  | zero =>
    intro μ ν x1 x2 x3 x4 x5 x6 x7 hf H locs X ls hl
    rw [f6_copy_1] at hf
    cases hf
  | succ n ih =>
    intro μ ν x1 x2 x3 x4 x5 x6 x7 hf H locs X ls hl
    rw [f6_copy_1] at hf
    refine lv_iload hx hb dX6_copy_121 (lv_at hl 7 rfl) ?_
    refine lv_iload hx hb dX6_copy_123 (lv_at hl 5 rfl) ?_
    refine lv_icmp_ge (tgt := 182) hx hb dX6_copy_125 (by decide) (fun c125 => ?_) (fun c125 => ?_)
    · replace hf := ifp c125 hf
      refine lv_iload hx hb dX6_copy_182 (lv_at hl 5 rfl) ?_
      exact retI C X hr rfl (so3 hf).1 (so3 hf).2.1 (so3 hf).2.2 dX6_copy_184
    · replace hf := ifn c125 hf
      refine lv_iload hx hb dX6_copy_128 (lv_at hl 6 rfl) ?_
      refine lv_if_eq (tgt := 143) hx hb dX6_copy_130 (by decide) (fun c130 => ?_) (fun c130 => ?_)
      · replace hf := ifp c130 hf
        refine lv_iload hx hb dX6_copy_143 (lv_at hl 7 rfl) ?_
        exact w6_copy_2 C hr (f6_copy_1 n) ih μ ν x1 x2 x3 x4 x5 x6 x7 x7 hf _ _ X _ (lv_sub hl [0, 1, 2, 3, 4, 5, 6, 7] rfl)
      · replace hf := ifn c130 hf
        refine lv_iload hx hb dX6_copy_133 (lv_at hl 5 rfl) ?_
        refine lv_iconst (v := 1) hx hb dX6_copy_135 (by decide) ?_
        refine lv_isub hx hb dX6_copy_136 ?_
        refine lv_iload hx hb dX6_copy_137 (lv_at hl 7 rfl) ?_
        refine lv_isub hx hb dX6_copy_139 ?_
        refine lv_goto (tgt := 145) hx hb dX6_copy_140 (by decide) ?_
        exact w6_copy_2 C hr (f6_copy_1 n) ih μ ν x1 x2 x3 x4 x5 x6 x7 ((x5 - 1) - x7) hf _ _ X _ (lv_sub hl [0, 1, 2, 3, 4, 5, 6, 7] rfl)
set_option maxRecDepth 100000 in
set_option maxHeartbeats 4000000 in
theorem w6_copy {p : Program} {l : Launch} {e : Env} {s : State} {m : MethodId} {args : Array Value} {below : List Frame} {meth : Method} {c : Code} {D : va_G} {cy : Nat → ClassId} {ad : Nat → Nat} {r : Int32} {μ1 : Mem} {ν1 : Lem} (C : Cx false p s m args meth c cX6_copy 9 RX6 D cy ad) (hr : meth.sig.returnType = some .int) : ∀ (μ : Mem) (ν : Lem) (x1 : Int32) (x2 : Int32) (x3 : Int32) (x4 : Int32) (x5 : Int32), f6_copy μ ν x1 x2 x3 x4 x5 = some (r, μ1, ν1) → ∀ (H : Heap) (locs : List Loc), Wd false D cy ad s.heap μ ν H locs → ∀ (ls : Array Slot), lv_has ls 9 [(0, .ref (ad 0)), (1, .int x1), (2, .int x2), (3, .int x3), (4, .int x4), (5, .int x5)] → WI false p l e 2 45 s m args below meth c D cy ad .int r μ1 ν1 H locs (F0 m 0 ls []) := by
  have hx := C.1.1
  have hb := C.1.2.1
  have hown := C.1.2.2.2.1
  have hts := C.1.2.2.2.2
  intro μ ν x1 x2 x3 x4 x5 hf H locs X ls hl
  unfold f6_copy at hf
  refine lv_iload_n hx hb dX6_copy_0 rfl (lv_at hl 1 rfl) ?_
  refine qX6_385 rfl C X hl.1 ((Nat.le_of_ble_eq_true rfl)) ⟨(Nat.le_of_ble_eq_true rfl), (Nat.le_of_ble_eq_true rfl)⟩ ⟨Nat.zero_le _, Nat.zero_le _⟩ dX6_copy_1 (fun H locs X b1 => ?_)
  refine lv_if_eq (tgt := 14) hx hb dX6_copy_4 (by decide) (fun c4 => ?_) (fun c4 => ?_)
  · replace hf := ifp c4 hf
    refine lv_bipush (v := (-2)) hx hb dX6_copy_14 (by decide) ?_
    exact retI C X hr rfl (so3 hf).1 (so3 hf).2.1 (so3 hf).2.2 dX6_copy_16
  · replace hf := ifn c4 hf
    refine lv_iload_n hx hb dX6_copy_7 rfl (lv_at hl 3 rfl) ?_
    refine qX6_385 rfl C X hl.1 ((Nat.le_of_ble_eq_true rfl)) ⟨(Nat.le_of_ble_eq_true rfl), (Nat.le_of_ble_eq_true rfl)⟩ ⟨Nat.zero_le _, Nat.zero_le _⟩ dX6_copy_8 (fun H locs X b8 => ?_)
    refine lv_if_ne (tgt := 17) hx hb dX6_copy_11 (by decide) (fun c11 => ?_) (fun c11 => ?_)
    · replace hf := ifn c11 hf
      refine lv_aload_n hx hb dX6_copy_17 rfl (lv_at hl 0 rfl) ?_
      refine gfX6_69 C X dX6_copy_18 ?_
      refine lv_iload_n hx hb dX6_copy_21 rfl (lv_at hl 1 rfl) ?_
      obtain ⟨h22, hf⟩ := gd_e hf
      refine rZald C X rfl h22 dX6_copy_22 ?_
      refine lv_if_eq (tgt := 35) hx hb dX6_copy_23 (by decide) (fun c23 => ?_) (fun c23 => ?_)
      · replace hf := ifp c23 hf
        refine lv_bipush (v := (-11)) hx hb dX6_copy_35 (by decide) ?_
        exact retI C X hr rfl (so3 hf).1 (so3 hf).2.1 (so3 hf).2.2 dX6_copy_37
      · replace hf := ifn c23 hf
        refine lv_aload_n hx hb dX6_copy_26 rfl (lv_at hl 0 rfl) ?_
        refine gfX6_69 C X dX6_copy_27 ?_
        refine lv_iload_n hx hb dX6_copy_30 rfl (lv_at hl 3 rfl) ?_
        obtain ⟨h31, hf⟩ := gd_e hf
        refine rZald C X rfl h31 dX6_copy_31 ?_
        refine lv_if_ne (tgt := 38) hx hb dX6_copy_32 (by decide) (fun c32 => ?_) (fun c32 => ?_)
        · replace hf := ifn c32 hf
          refine lv_aload_n hx hb dX6_copy_38 rfl (lv_at hl 0 rfl) ?_
          refine gfX6_73 C X dX6_copy_39 ?_
          refine lv_iload_n hx hb dX6_copy_42 rfl (lv_at hl 1 rfl) ?_
          obtain ⟨h43, hf⟩ := gd_e hf
          refine rIald C X rfl h43 dX6_copy_43 ?_
          refine lv_aload_n hx hb dX6_copy_44 rfl (lv_at hl 0 rfl) ?_
          refine gfX6_73 C X dX6_copy_45 ?_
          refine lv_iload_n hx hb dX6_copy_48 rfl (lv_at hl 3 rfl) ?_
          obtain ⟨h49, hf⟩ := gd_e hf
          refine rIald C X rfl h49 dX6_copy_49 ?_
          refine lv_icmp_eq (tgt := 56) hx hb dX6_copy_50 (by decide) (fun c50 => ?_) (fun c50 => ?_)
          · replace hf := ifp c50 hf
            refine lv_iload hx hb dX6_copy_56 (lv_at hl 5 rfl) ?_
            refine lv_if_lt (tgt := 97) hx hb dX6_copy_58 (by decide) (fun c58 => ?_) (fun c58 => ?_)
            · replace hf := ifp c58 hf
              refine lv_bipush (v := (-12)) hx hb dX6_copy_97 (by decide) ?_
              exact retI C X hr rfl (so3 hf).1 (so3 hf).2.1 (so3 hf).2.2 dX6_copy_99
            · replace hf := ifn c58 hf
              refine lv_iload_n hx hb dX6_copy_61 rfl (lv_at hl 2 rfl) ?_
              refine lv_if_lt (tgt := 97) hx hb dX6_copy_62 (by decide) (fun c62 => ?_) (fun c62 => ?_)
              · replace hf := ifp c62 hf
                refine lv_bipush (v := (-12)) hx hb dX6_copy_97 (by decide) ?_
                exact retI C X hr rfl (so3 hf).1 (so3 hf).2.1 (so3 hf).2.2 dX6_copy_99
              · replace hf := ifn c62 hf
                refine lv_iload hx hb dX6_copy_65 (lv_at hl 4 rfl) ?_
                refine lv_if_lt (tgt := 97) hx hb dX6_copy_67 (by decide) (fun c67 => ?_) (fun c67 => ?_)
                · replace hf := ifp c67 hf
                  refine lv_bipush (v := (-12)) hx hb dX6_copy_97 (by decide) ?_
                  exact retI C X hr rfl (so3 hf).1 (so3 hf).2.1 (so3 hf).2.2 dX6_copy_99
                · replace hf := ifn c67 hf
                  refine lv_iload_n hx hb dX6_copy_70 rfl (lv_at hl 2 rfl) ?_
                  refine lv_aload_n hx hb dX6_copy_71 rfl (lv_at hl 0 rfl) ?_
                  refine gfX6_76 C X dX6_copy_72 ?_
                  refine lv_iload_n hx hb dX6_copy_75 rfl (lv_at hl 1 rfl) ?_
                  obtain ⟨h76, hf⟩ := gd_e hf
                  refine rIald C X rfl h76 dX6_copy_76 ?_
                  refine lv_iload hx hb dX6_copy_77 (lv_at hl 5 rfl) ?_
                  refine lv_isub hx hb dX6_copy_79 ?_
                  refine lv_icmp_gt (tgt := 97) hx hb dX6_copy_80 (by decide) (fun c80 => ?_) (fun c80 => ?_)
                  · replace hf := ifp c80 hf
                    refine lv_bipush (v := (-12)) hx hb dX6_copy_97 (by decide) ?_
                    exact retI C X hr rfl (so3 hf).1 (so3 hf).2.1 (so3 hf).2.2 dX6_copy_99
                  · replace hf := ifn c80 hf
                    refine lv_iload hx hb dX6_copy_83 (lv_at hl 4 rfl) ?_
                    refine lv_aload_n hx hb dX6_copy_85 rfl (lv_at hl 0 rfl) ?_
                    refine gfX6_76 C X dX6_copy_86 ?_
                    refine lv_iload_n hx hb dX6_copy_89 rfl (lv_at hl 3 rfl) ?_
                    obtain ⟨h90, hf⟩ := gd_e hf
                    refine rIald C X rfl h90 dX6_copy_90 ?_
                    refine lv_iload hx hb dX6_copy_91 (lv_at hl 5 rfl) ?_
                    refine lv_isub hx hb dX6_copy_93 ?_
                    refine lv_icmp_le (tgt := 100) hx hb dX6_copy_94 (by decide) (fun c94 => ?_) (fun c94 => ?_)
                    · replace hf := ifp c94 hf
                      refine lv_iload_n hx hb dX6_copy_100 rfl (lv_at hl 1 rfl) ?_
                      refine lv_iload_n hx hb dX6_copy_101 rfl (lv_at hl 3 rfl) ?_
                      refine lv_icmp_ne (tgt := 115) hx hb dX6_copy_102 (by decide) (fun c102 => ?_) (fun c102 => ?_)
                      · replace hf := ifn c102 hf
                        refine lv_iconst (v := 0) hx hb dX6_copy_115 (by decide) ?_
                        refine lv_istore (lv' := [(6, .int 0), (0, .ref (ad 0)), (1, .int x1), (2, .int x2), (3, .int x3), (4, .int x4), (5, .int x5)]) hx hb dX6_copy_116 hl (by decide) rfl (fun ls hl => ?_)
                        refine lv_iconst (v := 0) hx hb dX6_copy_118 (by decide) ?_
                        refine lv_istore (lv' := [(7, .int 0), (6, .int 0), (0, .ref (ad 0)), (1, .int x1), (2, .int x2), (3, .int x3), (4, .int x4), (5, .int x5)]) hx hb dX6_copy_119 hl (by decide) rfl (fun ls hl => ?_)
                        exact w6_copy_1 C hr  FUEL μ ν x1 x2 x3 x4 x5 0 0 hf _ _ X _ (lv_sub hl [2, 3, 4, 5, 6, 7, 1, 0] rfl)
                      · replace hf := ifp c102 hf
                        refine lv_iload_n hx hb dX6_copy_105 rfl (lv_at hl 2 rfl) ?_
                        refine lv_iload hx hb dX6_copy_106 (lv_at hl 4 rfl) ?_
                        refine lv_icmp_ge (tgt := 115) hx hb dX6_copy_108 (by decide) (fun c108 => ?_) (fun c108 => ?_)
                        · replace hf := ifp c108 hf
                          refine lv_iconst (v := 0) hx hb dX6_copy_115 (by decide) ?_
                          refine lv_istore (lv' := [(6, .int 0), (0, .ref (ad 0)), (1, .int x1), (2, .int x2), (3, .int x3), (4, .int x4), (5, .int x5)]) hx hb dX6_copy_116 hl (by decide) rfl (fun ls hl => ?_)
                          refine lv_iconst (v := 0) hx hb dX6_copy_118 (by decide) ?_
                          refine lv_istore (lv' := [(7, .int 0), (6, .int 0), (0, .ref (ad 0)), (1, .int x1), (2, .int x2), (3, .int x3), (4, .int x4), (5, .int x5)]) hx hb dX6_copy_119 hl (by decide) rfl (fun ls hl => ?_)
                          exact w6_copy_1 C hr  FUEL μ ν x1 x2 x3 x4 x5 0 0 hf _ _ X _ (lv_sub hl [2, 3, 4, 5, 6, 7, 1, 0] rfl)
                        · replace hf := ifn c108 hf
                          refine lv_iconst (v := 1) hx hb dX6_copy_111 (by decide) ?_
                          refine lv_goto (tgt := 116) hx hb dX6_copy_112 (by decide) ?_
                          refine lv_istore (lv' := [(6, .int 1), (0, .ref (ad 0)), (1, .int x1), (2, .int x2), (3, .int x3), (4, .int x4), (5, .int x5)]) hx hb dX6_copy_116 hl (by decide) rfl (fun ls hl => ?_)
                          refine lv_iconst (v := 0) hx hb dX6_copy_118 (by decide) ?_
                          refine lv_istore (lv' := [(7, .int 0), (6, .int 1), (0, .ref (ad 0)), (1, .int x1), (2, .int x2), (3, .int x3), (4, .int x4), (5, .int x5)]) hx hb dX6_copy_119 hl (by decide) rfl (fun ls hl => ?_)
                          exact w6_copy_1 C hr  FUEL μ ν x1 x2 x3 x4 x5 1 0 hf _ _ X _ (lv_sub hl [2, 3, 4, 5, 6, 7, 1, 0] rfl)
                    · replace hf := ifn c94 hf
                      refine lv_bipush (v := (-12)) hx hb dX6_copy_97 (by decide) ?_
                      exact retI C X hr rfl (so3 hf).1 (so3 hf).2.1 (so3 hf).2.2 dX6_copy_99
          · replace hf := ifn c50 hf
            refine lv_bipush (v := (-13)) hx hb dX6_copy_53 (by decide) ?_
            exact retI C X hr rfl (so3 hf).1 (so3 hf).2.1 (so3 hf).2.2 dX6_copy_55
        · replace hf := ifp c32 hf
          refine lv_bipush (v := (-11)) hx hb dX6_copy_35 (by decide) ?_
          exact retI C X hr rfl (so3 hf).1 (so3 hf).2.1 (so3 hf).2.2 dX6_copy_37
    · replace hf := ifp c11 hf
      refine lv_bipush (v := (-2)) hx hb dX6_copy_14 (by decide) ?_
      exact retI C X hr rfl (so3 hf).1 (so3 hf).2.1 (so3 hf).2.2 dX6_copy_16
theorem ct6_copy {x1 : Int32} {x2 : Int32} {x3 : Int32} {x4 : Int32} {x5 : Int32} {μ : Mem} {ν : Lem} {r : Int32} {μ1 : Mem} {ν1 : Lem} (hg : f6_copy μ ν x1 x2 x3 x4 x5 = some (r, μ1, ν1)) : CtI false yX6_copy cX6_copy 9 2 45 .int (fun ad => [.ref (ad 0), .int x1, .int x2, .int x3, .int x4, .int x5]) μ ν r μ1 ν1 :=
  mkI (by decide) rfl (fun ad => Nat.le_of_ble_eq_true rfl) (fun p l e s m args below meth c D cy ad C hr X ls hl => w6_copy C hr μ ν x1 x2 x3 x4 x5 hg _ _ X _ hl)
theorem qL_139 {p : Program} {l : Launch} {e : Env} {R : Room} {s : State} {m : MethodId} {args : Array Value} {below : List Frame} {meth : Method} {c : Code} {H : Heap} {locs : List Loc} {cells slots : Nat} {Q : State → Prop} {A : Nat → Prop} {cc : ByteArray} {nL : Nat} {D : va_G} {cy : Nat → ClassId} {ad : Nat → Nat} {μ : Mem} {ν : Lem} {pc : Nat} {ls : Array Slot} {rest : List Value} {x1 : Int32} {x2 : Int32} {x3 : Int32} {x4 : Int32} {x5 : Int32} {r : Int32} {μ1 : Mem} {ν1 : Lem} (hg : f6_copy μ ν x1 x2 x3 x4 x5 = some (r, μ1, ν1)) (C : CxA false A p s m args meth c cc nL RL D cy ad) (X : WdA false A D cy ad s.heap μ ν H locs) (hsz : ls.size = nL) (hrm : (rest.map fun v => v.category).sum ≤ 8) (hR : 2 + 1 ≤ R.frames ∧ 8 + (9 + 11) + 45 ≤ R.locals) (hcs : cells ≤ R.cells ∧ slots ≤ R.slots) (hd : decode cc pc = .ok (.invokevirtual 139, 3)) (kk : ∀ (H1 : Heap) (locs1 : List Loc), WdA false A D cy ad s.heap μ1 ν1 H1 locs1 → narrow .int (.int r) = .int r → W p l e R s m args below meth c H1 locs1 cells slots Q (F0 m (pc + 3) ls (.int r :: rest))) : W p l e R s m args below meth c H locs cells slots Q (F0 m pc ls (.int x5 :: .int x4 :: .int x3 :: .int x2 :: .int x1 :: .ref (ad 0) :: rest)) :=
  rCVI (As := [.int x1, .int x2, .int x3, .int x4, .int x5]) (k := 0) (ct6_copy hg) ok6 lX6_copy k_1342 rfl rfl rfl C X rfl hrm hsz hR hcs hd kk
set_option maxRecDepth 100000 in
set_option maxHeartbeats 4000000 in
theorem w6_points_2 {p : Program} {l : Launch} {e : Env} {s : State} {m : MethodId} {args : Array Value} {below : List Frame} {meth : Method} {c : Code} {D : va_G} {cy : Nat → ClassId} {ad : Nat → Nat} {r : Int32} {μ1 : Mem} {ν1 : Lem} (C : Cx false p s m args meth c cX6_points 8 RX6 D cy ad) (hr : meth.sig.returnType = some .int) : ∀ (n : Nat), ∀ (μ : Mem) (ν : Lem) (x1 : Int32) (x3 : Int32) (x4 : Int32) (x5 : Int32) (x6 : Int32), f6_points_2 n μ ν x1 x3 x4 x5 x6 = some (r, μ1, ν1) → ∀ (H : Heap) (locs : List Loc), Wd false D cy ad s.heap μ ν H locs → ∀ (ls : Array Slot), lv_has ls 8 [(0, .ref (ad 0)), (1, .int x1), (3, .int x3), (4, .int x4), (5, .int x5), (6, .int x6)] → WI false p l e 3 70 s m args below meth c D cy ad .int r μ1 ν1 H locs (F0 m 75 ls []) := by
  have hx := C.1.1
  have hb := C.1.2.1
  have hown := C.1.2.2.2.1
  have hts := C.1.2.2.2.2
  intro n
  induction n with
  | zero =>
    intro μ ν x1 x3 x4 x5 x6 hf H locs X ls hl
    rw [f6_points_2] at hf
    cases hf
  | succ n ih =>
    intro μ ν x1 x3 x4 x5 x6 hf H locs X ls hl
    rw [f6_points_2] at hf
    refine lv_iload hx hb dX6_points_75 (lv_at hl 5 rfl) ?_
    refine lv_iload hx hb dX6_points_77 (lv_at hl 3 rfl) ?_
    refine lv_icmp_ge (tgt := 167) hx hb dX6_points_79 (by decide) (fun c79 => ?_) (fun c79 => ?_)
    · replace hf := ifp c79 hf
      refine lv_iload hx hb dX6_points_167 (lv_at hl 4 rfl) ?_
      exact retI C X hr rfl (so3 hf).1 (so3 hf).2.1 (so3 hf).2.2 dX6_points_169
    · replace hf := ifn c79 hf
      refine lv_iload_n hx hb dX6_points_82 rfl (lv_at hl 2 rfl) ?_
      refine lv_if_lt (tgt := 103) hx hb dX6_points_83 (by decide) (fun c83 => ?_) (fun c83 => ?_)
      · replace hf := ifp c83 hf
        refine lv_bipush (v := (-12)) hx hb dX6_points_103 (by decide) ?_
        exact retI C X hr rfl (so3 hf).1 (so3 hf).2.1 (so3 hf).2.2 dX6_points_105
      · replace hf := ifn c83 hf
        refine lv_iload_n hx hb dX6_points_86 rfl (lv_at hl 2 rfl) ?_
        refine lv_aload_n hx hb dX6_points_87 rfl (lv_at hl 0 rfl) ?_
        refine gfX6_76 C X dX6_points_88 ?_
        refine lv_iload_n hx hb dX6_points_91 rfl (lv_at hl 1 rfl) ?_
        obtain ⟨h92, hf⟩ := gd_e hf
        refine rIald C X rfl h92 dX6_points_92 ?_
        refine lv_iconst (v := 3) hx hb dX6_points_93 (by decide) ?_
        refine lv_iload hx hb dX6_points_94 (lv_at hl 5 rfl) ?_
        refine lv_imul hx hb dX6_points_96 ?_
        refine lv_isub hx hb dX6_points_97 ?_
        refine lv_iconst (v := 3) hx hb dX6_points_98 (by decide) ?_
        refine lv_isub hx hb dX6_points_99 ?_
        refine lv_icmp_le (tgt := 106) hx hb dX6_points_100 (by decide) (fun c100 => ?_) (fun c100 => ?_)
        · replace hf := ifp c100 hf
          refine lv_bipush (v := 40) hx hb dX6_points_106 (by decide) ?_
          refine lv_iload_n hx hb dX6_points_108 rfl (lv_at hl 1 rfl) ?_
          refine lv_imul hx hb dX6_points_109 ?_
          refine lv_iload_n hx hb dX6_points_110 rfl (lv_at hl 2 rfl) ?_
          refine lv_iadd hx hb dX6_points_111 ?_
          refine lv_iconst (v := 3) hx hb dX6_points_112 (by decide) ?_
          refine lv_iload hx hb dX6_points_113 (lv_at hl 5 rfl) ?_
          refine lv_imul hx hb dX6_points_115 ?_
          refine lv_iadd hx hb dX6_points_116 ?_
          obtain ⟨v117, e117, hf⟩ := nm_e2 hf
          refine st_i e117 ?_
          refine lv_istore (lv' := [(7, .int v117), (0, .ref (ad 0)), (1, .int x1), (3, .int x3), (4, .int x4), (5, .int x5), (6, .int x6)]) hx hb dX6_points_117 hl (by decide) rfl (fun ls hl => ?_)
          refine lv_iload hx hb dX6_points_119 (lv_at hl 5 rfl) ?_
          refine lv_aload_n hx hb dX6_points_121 rfl (lv_at hl 1 rfl) ?_
          refine lv_aload_n hx hb dX6_points_122 rfl (lv_at hl 1 rfl) ?_
          refine gfX6_79 C X dX6_points_123 ?_
          refine lv_iload hx hb dX6_points_126 (lv_at hl 0 rfl) ?_
          obtain ⟨h128, hf⟩ := gd_e hf
          refine rIald C X rfl h128 dX6_points_128 ?_
          refine lv_aload_n hx hb dX6_points_129 rfl (lv_at hl 1 rfl) ?_
          refine gfX6_79 C X dX6_points_130 ?_
          refine lv_iload hx hb dX6_points_133 (lv_at hl 0 rfl) ?_
          refine lv_iconst (v := 1) hx hb dX6_points_135 (by decide) ?_
          refine lv_iadd hx hb dX6_points_136 ?_
          obtain ⟨h137, hf⟩ := gd_e hf
          refine rIald C X rfl h137 dX6_points_137 ?_
          refine lv_aload_n hx hb dX6_points_138 rfl (lv_at hl 1 rfl) ?_
          refine gfX6_79 C X dX6_points_139 ?_
          refine lv_iload hx hb dX6_points_142 (lv_at hl 0 rfl) ?_
          refine lv_iconst (v := 2) hx hb dX6_points_144 (by decide) ?_
          refine lv_iadd hx hb dX6_points_145 ?_
          obtain ⟨h146, hf⟩ := gd_e hf
          refine rIald C X rfl h146 dX6_points_146 ?_
          obtain ⟨r147, μ147, ν147, g147, hf⟩ := bd3_e hf
          refine qX6_430 g147 C X hl.1 ((Nat.le_of_ble_eq_true rfl)) ⟨(Nat.le_of_ble_eq_true rfl), (Nat.le_of_ble_eq_true rfl)⟩ ⟨Nat.zero_le _, Nat.zero_le _⟩ dX6_points_147 (fun H locs X b147 => ?_)
          refine lv_if_lt (tgt := 157) hx hb dX6_points_150 (by decide) (fun c150 => ?_) (fun c150 => ?_)
          · replace hf := ifp c150 hf
            refine lv_iconst (v := 0) hx hb dX6_points_157 (by decide) ?_
            refine lv_iadd hx hb dX6_points_158 ?_
            obtain ⟨v159, e159, hf⟩ := nm_e2 hf
            refine st_i e159 ?_
            refine lv_istore (lv' := [(5, .int v159), (7, .int v117), (0, .ref (ad 0)), (1, .int x1), (3, .int x3), (4, .int x4), (6, .int x6)]) hx hb dX6_points_159 hl (by decide) rfl (fun ls hl => ?_)
            obtain ⟨v161, e161, hf⟩ := nm_e2 hf
            refine rIinc (lv' := [(6, .int v161), (5, .int v159), (7, .int v117), (0, .ref (ad 0)), (1, .int x1), (3, .int x3), (4, .int x4)]) hx hb dX6_points_161 hl (k := 6) rfl e161 rfl (by decide) rfl (fun ls hl => ?_)
            refine lv_goto (tgt := 75) hx hb dX6_points_164 (by decide) ?_
            exact ih μ147 ν147 x1 x3 x4 v159 v161 hf _ _ X _ (lv_sub hl [3, 4, 5, 6, 1, 0] rfl)
          · replace hf := ifn c150 hf
            refine lv_iconst (v := 1) hx hb dX6_points_153 (by decide) ?_
            refine lv_goto (tgt := 158) hx hb dX6_points_154 (by decide) ?_
            refine lv_iadd hx hb dX6_points_158 ?_
            obtain ⟨v159, e159, hf⟩ := nm_e2 hf
            refine st_i e159 ?_
            refine lv_istore (lv' := [(5, .int v159), (7, .int v117), (0, .ref (ad 0)), (1, .int x1), (3, .int x3), (4, .int x4), (6, .int x6)]) hx hb dX6_points_159 hl (by decide) rfl (fun ls hl => ?_)
            obtain ⟨v161, e161, hf⟩ := nm_e2 hf
            refine rIinc (lv' := [(6, .int v161), (5, .int v159), (7, .int v117), (0, .ref (ad 0)), (1, .int x1), (3, .int x3), (4, .int x4)]) hx hb dX6_points_161 hl (k := 6) rfl e161 rfl (by decide) rfl (fun ls hl => ?_)
            refine lv_goto (tgt := 75) hx hb dX6_points_164 (by decide) ?_
            exact ih μ147 ν147 x1 x3 x4 v159 v161 hf _ _ X _ (lv_sub hl [3, 4, 5, 6, 1, 0] rfl)
        · replace hf := ifn c100 hf
          refine lv_bipush (v := (-12)) hx hb dX6_points_103 (by decide) ?_
          exact retI C X hr rfl (so3 hf).1 (so3 hf).2.1 (so3 hf).2.2 dX6_points_105
set_option maxRecDepth 100000 in
set_option maxHeartbeats 4000000 in
theorem w6_points_1 {p : Program} {l : Launch} {e : Env} {s : State} {m : MethodId} {args : Array Value} {below : List Frame} {meth : Method} {c : Code} {D : va_G} {cy : Nat → ClassId} {ad : Nat → Nat} {r : Int32} {μ1 : Mem} {ν1 : Lem} (C : Cx false p s m args meth c cX6_points 8 RX6 D cy ad) (hr : meth.sig.returnType = some .int) : ∀ (μ : Mem) (ν : Lem) (x1 : Int32) (x3 : Int32) (x4 : Int32), f6_points_1 μ ν x1 x3 x4 = some (r, μ1, ν1) → ∀ (H : Heap) (locs : List Loc), Wd false D cy ad s.heap μ ν H locs → ∀ (ls : Array Slot), lv_has ls 8 [(0, .ref (ad 0)), (1, .int x1), (3, .int x3), (4, .int x4)] → WI false p l e 3 70 s m args below meth c D cy ad .int r μ1 ν1 H locs (F0 m 57 ls []) := by
  have hx := C.1.1
  have hb := C.1.2.1
  have hown := C.1.2.2.2.1
  have hts := C.1.2.2.2.2
  intro μ ν x1 x3 x4 hf H locs X ls hl
  unfold f6_points_1 at hf
  refine lv_aload_n hx hb dX6_points_57 rfl (lv_at hl 0 rfl) ?_
  refine gfX6_69 C X dX6_points_58 ?_
  refine lv_iload_n hx hb dX6_points_61 rfl (lv_at hl 1 rfl) ?_
  obtain ⟨h62, hf⟩ := gd_e hf
  refine rZald C X rfl h62 dX6_points_62 ?_
  refine lv_if_ne (tgt := 69) hx hb dX6_points_63 (by decide) (fun c63 => ?_) (fun c63 => ?_)
  · replace hf := ifn c63 hf
    refine lv_iconst (v := 0) hx hb dX6_points_69 (by decide) ?_
    refine lv_istore (lv' := [(5, .int 0), (0, .ref (ad 0)), (1, .int x1), (3, .int x3), (4, .int x4)]) hx hb dX6_points_70 hl (by decide) rfl (fun ls hl => ?_)
    refine lv_iconst (v := 0) hx hb dX6_points_72 (by decide) ?_
    refine lv_istore (lv' := [(6, .int 0), (5, .int 0), (0, .ref (ad 0)), (1, .int x1), (3, .int x3), (4, .int x4)]) hx hb dX6_points_73 hl (by decide) rfl (fun ls hl => ?_)
    exact w6_points_2 C hr  FUEL μ ν x1 x3 x4 0 0 hf _ _ X _ (lv_sub hl [2, 3, 4, 5, 1, 0] rfl)
  · replace hf := ifp c63 hf
    refine lv_bipush (v := (-11)) hx hb dX6_points_66 (by decide) ?_
    exact retI C X hr rfl (so3 hf).1 (so3 hf).2.1 (so3 hf).2.2 dX6_points_68
set_option maxRecDepth 100000 in
set_option maxHeartbeats 4000000 in
theorem w6_points {p : Program} {l : Launch} {e : Env} {s : State} {m : MethodId} {args : Array Value} {below : List Frame} {meth : Method} {c : Code} {D : va_G} {cy : Nat → ClassId} {ad : Nat → Nat} {r : Int32} {μ1 : Mem} {ν1 : Lem} (C : Cx false p s m args meth c cX6_points 8 RX6 D cy ad) (hr : meth.sig.returnType = some .int) : ∀ (μ : Mem) (ν : Lem) (x1 : Int32) (x2 : Int32) (x3 : Int32) (x4 : Int32), f6_points μ ν x1 x2 x3 x4 = some (r, μ1, ν1) → ∀ (H : Heap) (locs : List Loc), Wd false D cy ad s.heap μ ν H locs → ∀ (ls : Array Slot), lv_has ls 8 [(0, .ref (ad 0)), (1, .int x1), (2, .int x2), (3, .int x3), (4, .int x4)] → WI false p l e 3 70 s m args below meth c D cy ad .int r μ1 ν1 H locs (F0 m 0 ls []) := by
  have hx := C.1.1
  have hb := C.1.2.1
  have hown := C.1.2.2.2.1
  have hts := C.1.2.2.2.2
  intro μ ν x1 x2 x3 x4 hf H locs X ls hl
  unfold f6_points at hf
  refine lv_iload_n hx hb dX6_points_0 rfl (lv_at hl 1 rfl) ?_
  refine qX6_385 rfl C X hl.1 ((Nat.le_of_ble_eq_true rfl)) ⟨(Nat.le_of_ble_eq_true rfl), (Nat.le_of_ble_eq_true rfl)⟩ ⟨Nat.zero_le _, Nat.zero_le _⟩ dX6_points_1 (fun H locs X b1 => ?_)
  refine lv_if_eq (tgt := 32) hx hb dX6_points_4 (by decide) (fun c4 => ?_) (fun c4 => ?_)
  · replace hf := ifp c4 hf
    refine lv_bipush (v := (-2)) hx hb dX6_points_32 (by decide) ?_
    exact retI C X hr rfl (so3 hf).1 (so3 hf).2.1 (so3 hf).2.2 dX6_points_34
  · replace hf := ifn c4 hf
    refine lv_iload_n hx hb dX6_points_7 rfl (lv_at hl 2 rfl) ?_
    refine lv_i2l hx hb dX6_points_8 rfl ?_
    refine lv_lconst (v := 0) hx hb dX6_points_9 (by decide) ?_
    refine lv_ldc2 (v := (2)) hx hb hown (hts _ k_1182) dX6_points_10 ?_
    refine qX6_92 rfl C X hl.1 ((Nat.le_of_ble_eq_true rfl)) ⟨(Nat.le_of_ble_eq_true rfl), (Nat.le_of_ble_eq_true rfl)⟩ ⟨Nat.zero_le _, Nat.zero_le _⟩ dX6_points_13 (fun H locs X b13 => ?_)
    refine lv_if_eq (tgt := 32) hx hb dX6_points_16 (by decide) (fun c16 => ?_) (fun c16 => ?_)
    · replace hf := ifp c16 hf
      refine lv_bipush (v := (-2)) hx hb dX6_points_32 (by decide) ?_
      exact retI C X hr rfl (so3 hf).1 (so3 hf).2.1 (so3 hf).2.2 dX6_points_34
    · replace hf := ifn c16 hf
      refine lv_iload hx hb dX6_points_19 (lv_at hl 4 rfl) ?_
      refine lv_i2l hx hb dX6_points_21 rfl ?_
      refine lv_lconst (v := 0) hx hb dX6_points_22 (by decide) ?_
      refine lv_ldc2 (v := (13)) hx hb hown (hts _ k_1350) dX6_points_23 ?_
      refine qX6_92 rfl C X hl.1 ((Nat.le_of_ble_eq_true rfl)) ⟨(Nat.le_of_ble_eq_true rfl), (Nat.le_of_ble_eq_true rfl)⟩ ⟨Nat.zero_le _, Nat.zero_le _⟩ dX6_points_26 (fun H locs X b26 => ?_)
      refine lv_if_ne (tgt := 35) hx hb dX6_points_29 (by decide) (fun c29 => ?_) (fun c29 => ?_)
      · replace hf := ifn c29 hf
        refine lv_aload_n hx hb dX6_points_35 rfl (lv_at hl 0 rfl) ?_
        refine gfX6_69 C X dX6_points_36 ?_
        refine lv_iload_n hx hb dX6_points_39 rfl (lv_at hl 1 rfl) ?_
        obtain ⟨h40, hf⟩ := gd_e hf
        refine rZald C X rfl h40 dX6_points_40 ?_
        refine lv_if_eq (tgt := 57) hx hb dX6_points_41 (by decide) (fun c41 => ?_) (fun c41 => ?_)
        · replace hf := ifp c41 hf
          exact w6_points_1 C hr  μ ν x1 x3 x4 hf _ _ X _ (lv_sub hl [0, 1, 3, 4] rfl)
        · replace hf := ifn c41 hf
          refine lv_aload_n hx hb dX6_points_44 rfl (lv_at hl 0 rfl) ?_
          refine gfX6_73 C X dX6_points_45 ?_
          refine lv_iload_n hx hb dX6_points_48 rfl (lv_at hl 1 rfl) ?_
          obtain ⟨h49, hf⟩ := gd_e hf
          refine rIald C X rfl h49 dX6_points_49 ?_
          refine lv_iload_n hx hb dX6_points_50 rfl (lv_at hl 2 rfl) ?_
          refine lv_icmp_eq (tgt := 57) hx hb dX6_points_51 (by decide) (fun c51 => ?_) (fun c51 => ?_)
          · replace hf := ifp c51 hf
            exact w6_points_1 C hr  μ ν x1 x3 x4 hf _ _ X _ (lv_sub hl [0, 1, 3, 4] rfl)
          · replace hf := ifn c51 hf
            refine lv_bipush (v := (-13)) hx hb dX6_points_54 (by decide) ?_
            exact retI C X hr rfl (so3 hf).1 (so3 hf).2.1 (so3 hf).2.2 dX6_points_56
      · replace hf := ifp c29 hf
        refine lv_bipush (v := (-2)) hx hb dX6_points_32 (by decide) ?_
        exact retI C X hr rfl (so3 hf).1 (so3 hf).2.1 (so3 hf).2.2 dX6_points_34
theorem ct6_points {x1 : Int32} {x2 : Int32} {x3 : Int32} {x4 : Int32} {μ : Mem} {ν : Lem} {r : Int32} {μ1 : Mem} {ν1 : Lem} (hg : f6_points μ ν x1 x2 x3 x4 = some (r, μ1, ν1)) : CtI false yX6_points cX6_points 8 3 70 .int (fun ad => [.ref (ad 0), .int x1, .int x2, .int x3, .int x4]) μ ν r μ1 ν1 :=
  mkI (by decide) rfl (fun ad => Nat.le_of_ble_eq_true rfl) (fun p l e s m args below meth c D cy ad C hr X ls hl => w6_points C hr μ ν x1 x2 x3 x4 hg _ _ X _ hl)
theorem qL_144 {p : Program} {l : Launch} {e : Env} {R : Room} {s : State} {m : MethodId} {args : Array Value} {below : List Frame} {meth : Method} {c : Code} {H : Heap} {locs : List Loc} {cells slots : Nat} {Q : State → Prop} {A : Nat → Prop} {cc : ByteArray} {nL : Nat} {D : va_G} {cy : Nat → ClassId} {ad : Nat → Nat} {μ : Mem} {ν : Lem} {pc : Nat} {ls : Array Slot} {rest : List Value} {x1 : Int32} {x2 : Int32} {x3 : Int32} {x4 : Int32} {r : Int32} {μ1 : Mem} {ν1 : Lem} (hg : f6_points μ ν x1 x2 x3 x4 = some (r, μ1, ν1)) (C : CxA false A p s m args meth c cc nL RL D cy ad) (X : WdA false A D cy ad s.heap μ ν H locs) (hsz : ls.size = nL) (hrm : (rest.map fun v => v.category).sum ≤ 8) (hR : 3 + 1 ≤ R.frames ∧ 8 + (8 + 11) + 70 ≤ R.locals) (hcs : cells ≤ R.cells ∧ slots ≤ R.slots) (hd : decode cc pc = .ok (.invokevirtual 144, 3)) (kk : ∀ (H1 : Heap) (locs1 : List Loc), WdA false A D cy ad s.heap μ1 ν1 H1 locs1 → narrow .int (.int r) = .int r → W p l e R s m args below meth c H1 locs1 cells slots Q (F0 m (pc + 3) ls (.int r :: rest))) : W p l e R s m args below meth c H locs cells slots Q (F0 m pc ls (.int x4 :: .int x3 :: .int x2 :: .int x1 :: .ref (ad 0) :: rest)) :=
  rCVI (As := [.int x1, .int x2, .int x3, .int x4]) (k := 0) (ct6_points hg) ok6 lX6_points k_1346 rfl rfl rfl C X rfl hrm hsz hR hcs hd kk
set_option maxRecDepth 100000 in
set_option maxHeartbeats 4000000 in
theorem w6_over {p : Program} {l : Launch} {e : Env} {s : State} {m : MethodId} {args : Array Value} {below : List Frame} {meth : Method} {c : Code} {D : va_G} {cy : Nat → ClassId} {ad : Nat → Nat} {r : Int32} {μ : Mem} {ν : Lem} (C : Cx false p s m args meth c cX6_over 1 RX6 D cy ad) (hr : meth.sig.returnType = some .int) : ∀ (x0 : Int32), f6_over x0 = r → ∀ (H : Heap) (locs : List Loc), Wd false D cy ad s.heap μ ν H locs → ∀ (ls : Array Slot), lv_has ls 1 [(0, .int x0)] → WI false p l e 0 0 s m args below meth c D cy ad .int r μ ν H locs (F0 m 0 ls []) := by
  have hx := C.1.1
  have hb := C.1.2.1
  have hown := C.1.2.2.2.1
  have hts := C.1.2.2.2.2
  intro x0 hf H locs X ls hl
  unfold f6_over at hf
  refine lv_iload_n hx hb dX6_over_0 rfl (lv_at hl 0 rfl) ?_
  refine lv_if_ne (tgt := 8) hx hb dX6_over_1 (by decide) (fun c1 => ?_) (fun c1 => ?_)
  · replace hf := ifn c1 hf
    refine lv_iload_n hx hb dX6_over_8 rfl (lv_at hl 0 rfl) ?_
    refine lv_iconst (v := 4) hx hb dX6_over_9 (by decide) ?_
    refine lv_icmp_ne (tgt := 17) hx hb dX6_over_10 (by decide) (fun c10 => ?_) (fun c10 => ?_)
    · replace hf := ifn c10 hf
      refine lv_iload_n hx hb dX6_over_17 rfl (lv_at hl 0 rfl) ?_
      refine lv_iconst (v := 3) hx hb dX6_over_18 (by decide) ?_
      refine lv_icmp_eq (tgt := 27) hx hb dX6_over_19 (by decide) (fun c19 => ?_) (fun c19 => ?_)
      · replace hf := ifp c19 hf
        refine lv_iconst (v := 1) hx hb dX6_over_27 (by decide) ?_
        refine lv_goto (tgt := 32) hx hb dX6_over_28 (by decide) ?_
        exact retI C X hr rfl hf rfl rfl dX6_over_32
      · replace hf := ifn c19 hf
        refine lv_iload_n hx hb dX6_over_22 rfl (lv_at hl 0 rfl) ?_
        refine lv_iconst (v := 5) hx hb dX6_over_23 (by decide) ?_
        refine lv_icmp_ne (tgt := 31) hx hb dX6_over_24 (by decide) (fun c24 => ?_) (fun c24 => ?_)
        · replace hf := ifn c24 hf
          refine lv_iconst (v := 0) hx hb dX6_over_31 (by decide) ?_
          exact retI C X hr rfl hf rfl rfl dX6_over_32
        · replace hf := ifp c24 hf
          refine lv_iconst (v := 1) hx hb dX6_over_27 (by decide) ?_
          refine lv_goto (tgt := 32) hx hb dX6_over_28 (by decide) ?_
          exact retI C X hr rfl hf rfl rfl dX6_over_32
    · replace hf := ifp c10 hf
      refine lv_iconst (v := 2) hx hb dX6_over_13 (by decide) ?_
      refine lv_goto (tgt := 32) hx hb dX6_over_14 (by decide) ?_
      exact retI C X hr rfl hf rfl rfl dX6_over_32
  · replace hf := ifp c1 hf
    refine lv_iconst (v := (-1)) hx hb dX6_over_4 (by decide) ?_
    refine lv_goto (tgt := 32) hx hb dX6_over_5 (by decide) ?_
    exact retI C X hr rfl hf rfl rfl dX6_over_32
theorem ct6_over {x0 : Int32} {μ : Mem} {ν : Lem} {r : Int32} (hg : f6_over x0 = r) : CtI false yX6_over cX6_over 1 0 0 .int (fun ad => [.int x0]) μ ν r μ ν :=
  mkI (by decide) rfl (fun ad => Nat.le_of_ble_eq_true rfl) (fun p l e s m args below meth c D cy ad C hr X ls hl => w6_over C hr x0 hg _ _ X _ hl)
theorem qX6_433 {p : Program} {l : Launch} {e : Env} {R : Room} {s : State} {m : MethodId} {args : Array Value} {below : List Frame} {meth : Method} {c : Code} {H : Heap} {locs : List Loc} {cells slots : Nat} {Q : State → Prop} {A : Nat → Prop} {cc : ByteArray} {nL : Nat} {D : va_G} {cy : Nat → ClassId} {ad : Nat → Nat} {μ : Mem} {ν : Lem} {pc : Nat} {ls : Array Slot} {rest : List Value} {x0 : Int32} {r : Int32} (hg : f6_over x0 = r) (C : CxA false A p s m args meth c cc nL RX6 D cy ad) (X : WdA false A D cy ad s.heap μ ν H locs) (hsz : ls.size = nL) (hrm : (rest.map fun v => v.category).sum ≤ 8) (hR : 0 + 1 ≤ R.frames ∧ 8 + (1 + 11) + 0 ≤ R.locals) (hcs : cells ≤ R.cells ∧ slots ≤ R.slots) (hd : decode cc pc = .ok (.invokestatic 433, 3)) (kk : ∀ (H1 : Heap) (locs1 : List Loc), WdA false A D cy ad s.heap μ ν H1 locs1 → narrow .int (.int r) = .int r → W p l e R s m args below meth c H1 locs1 cells slots Q (F0 m (pc + 3) ls (.int r :: rest))) : W p l e R s m args below meth c H locs cells slots Q (F0 m pc ls (.int x0 :: rest)) :=
  rCSI (As := [.int x0]) (ct6_over hg) lX6_over k_1356 rfl rfl C X rfl hrm hsz hR hcs hd kk
set_option maxRecDepth 100000 in
set_option maxHeartbeats 4000000 in
theorem w6_taken_2 {p : Program} {l : Launch} {e : Env} {s : State} {m : MethodId} {args : Array Value} {below : List Frame} {meth : Method} {c : Code} {D : va_G} {cy : Nat → ClassId} {ad : Nat → Nat} {r : Int32} {μ : Mem} {ν : Lem} (C : Cx false p s m args meth c cX6_taken 4 RX6 D cy ad) (hr : meth.sig.returnType = some .int) : ∀ (x1 : Int32) (x2 : Int32) (x3 : Int32), f6_taken_2 μ ν x1 x2 x3 = some r → ∀ (H : Heap) (locs : List Loc), Wd false D cy ad s.heap μ ν H locs → ∀ (ls : Array Slot), lv_has ls 4 [(0, .ref (ad 0)), (1, .int x1), (2, .int x2), (3, .int x3)] → WI false p l e 2 46 s m args below meth c D cy ad .int r μ ν H locs (F0 m 51 ls []) := by
  have hx := C.1.1
  have hb := C.1.2.1
  have hown := C.1.2.2.2.1
  have hts := C.1.2.2.2.2
  intro x1 x2 x3 hf H locs X ls hl
  unfold f6_taken_2 at hf
  refine lv_iload_n hx hb dX6_taken_51 rfl (lv_at hl 3 rfl) ?_
  refine lv_iload_n hx hb dX6_taken_52 rfl (lv_at hl 2 rfl) ?_
  refine lv_icmp_ne (tgt := 65) hx hb dX6_taken_53 (by decide) (fun c53 => ?_) (fun c53 => ?_)
  · replace hf := ifn c53 hf
    refine lv_bipush (v := (-13)) hx hb dX6_taken_65 (by decide) ?_
    exact retI C X hr rfl (Option.some.inj hf) rfl rfl dX6_taken_67
  · replace hf := ifp c53 hf
    refine lv_aload_n hx hb dX6_taken_56 rfl (lv_at hl 0 rfl) ?_
    refine gfX6_29 C X dX6_taken_57 ?_
    refine lv_iload_n hx hb dX6_taken_60 rfl (lv_at hl 1 rfl) ?_
    obtain ⟨h61, hf⟩ := gd_e hf
    refine rIald C X rfl h61 dX6_taken_61 ?_
    refine lv_goto (tgt := 67) hx hb dX6_taken_62 (by decide) ?_
    exact retI C X hr rfl (Option.some.inj hf) rfl rfl dX6_taken_67
set_option maxRecDepth 100000 in
set_option maxHeartbeats 4000000 in
theorem w6_taken_1 {p : Program} {l : Launch} {e : Env} {s : State} {m : MethodId} {args : Array Value} {below : List Frame} {meth : Method} {c : Code} {D : va_G} {cy : Nat → ClassId} {ad : Nat → Nat} {r : Int32} {μ : Mem} {ν : Lem} (C : Cx false p s m args meth c cX6_taken 4 RX6 D cy ad) (hr : meth.sig.returnType = some .int) : ∀ (n : Nat), ∀ (x1 : Int32) (x2 : Int32) (x3 : Int32), f6_taken_1 μ ν n x1 x2 x3 = some r → ∀ (H : Heap) (locs : List Loc), Wd false D cy ad s.heap μ ν H locs → ∀ (ls : Array Slot), lv_has ls 4 [(0, .ref (ad 0)), (1, .int x1), (2, .int x2), (3, .int x3)] → WI false p l e 2 46 s m args below meth c D cy ad .int r μ ν H locs (F0 m 33 ls []) := by
  have hx := C.1.1
  have hb := C.1.2.1
  have hown := C.1.2.2.2.1
  have hts := C.1.2.2.2.2
  intro n
  induction n with
  | zero =>
    intro x1 x2 x3 hf H locs X ls hl
    rw [f6_taken_1] at hf
    cases hf
  | succ n ih =>
    intro x1 x2 x3 hf H locs X ls hl
    rw [f6_taken_1] at hf
    refine lv_iload_n hx hb dX6_taken_33 rfl (lv_at hl 3 rfl) ?_
    refine lv_iconst (v := (-1)) hx hb dX6_taken_34 (by decide) ?_
    refine lv_icmp_eq (tgt := 51) hx hb dX6_taken_35 (by decide) (fun c35 => ?_) (fun c35 => ?_)
    · replace hf := ifp c35 hf
      exact w6_taken_2 C hr  x1 x2 x3 hf _ _ X _ (lv_sub hl [0, 1, 2, 3] rfl)
    · replace hf := ifn c35 hf
      refine lv_iload_n hx hb dX6_taken_38 rfl (lv_at hl 3 rfl) ?_
      refine lv_iload_n hx hb dX6_taken_39 rfl (lv_at hl 2 rfl) ?_
      refine lv_icmp_eq (tgt := 51) hx hb dX6_taken_40 (by decide) (fun c40 => ?_) (fun c40 => ?_)
      · replace hf := ifp c40 hf
        exact w6_taken_2 C hr  x1 x2 x3 hf _ _ X _ (lv_sub hl [0, 1, 2, 3] rfl)
      · replace hf := ifn c40 hf
        refine lv_iload_n hx hb dX6_taken_43 rfl (lv_at hl 3 rfl) ?_
        refine qX6_433 rfl C X hl.1 ((Nat.le_of_ble_eq_true rfl)) ⟨(Nat.le_of_ble_eq_true rfl), (Nat.le_of_ble_eq_true rfl)⟩ ⟨Nat.zero_le _, Nat.zero_le _⟩ dX6_taken_44 (fun H locs X b44 => ?_)
        obtain ⟨v47, e47, hf⟩ := nm_e2 hf
        refine st_i e47 ?_
        refine lv_istore_n (lv' := [(3, .int v47), (0, .ref (ad 0)), (1, .int x1), (2, .int x2)]) hx hb dX6_taken_47 rfl hl (by decide) rfl (fun ls hl => ?_)
        refine lv_goto (tgt := 33) hx hb dX6_taken_48 (by decide) ?_
        exact ih x1 x2 v47 hf _ _ X _ (lv_sub hl [1, 2, 3, 0] rfl)
set_option maxRecDepth 100000 in
set_option maxHeartbeats 4000000 in
theorem w6_taken {p : Program} {l : Launch} {e : Env} {s : State} {m : MethodId} {args : Array Value} {below : List Frame} {meth : Method} {c : Code} {D : va_G} {cy : Nat → ClassId} {ad : Nat → Nat} {r : Int32} {μ : Mem} {ν : Lem} (C : Cx false p s m args meth c cX6_taken 4 RX6 D cy ad) (hr : meth.sig.returnType = some .int) : ∀ (x1 : Int32) (x2 : Int32), f6_taken μ ν x1 x2 = some r → ∀ (H : Heap) (locs : List Loc), Wd false D cy ad s.heap μ ν H locs → ∀ (ls : Array Slot), lv_has ls 4 [(0, .ref (ad 0)), (1, .int x1), (2, .int x2)] → WI false p l e 2 46 s m args below meth c D cy ad .int r μ ν H locs (F0 m 0 ls []) := by
  have hx := C.1.1
  have hb := C.1.2.1
  have hown := C.1.2.2.2.1
  have hts := C.1.2.2.2.2
  intro x1 x2 hf H locs X ls hl
  unfold f6_taken at hf
  refine lv_iload_n hx hb dX6_taken_0 rfl (lv_at hl 2 rfl) ?_
  refine lv_i2l hx hb dX6_taken_1 rfl ?_
  refine lv_lconst (v := 0) hx hb dX6_taken_2 (by decide) ?_
  refine lv_ldc2 (v := (5)) hx hb hown (hts _ k_939) dX6_taken_3 ?_
  refine qX6_92 rfl C X hl.1 ((Nat.le_of_ble_eq_true rfl)) ⟨(Nat.le_of_ble_eq_true rfl), (Nat.le_of_ble_eq_true rfl)⟩ ⟨Nat.zero_le _, Nat.zero_le _⟩ dX6_taken_6 (fun H locs X b6 => ?_)
  refine lv_if_ne (tgt := 15) hx hb dX6_taken_9 (by decide) (fun c9 => ?_) (fun c9 => ?_)
  · replace hf := ifn c9 hf
    refine lv_aload_n hx hb dX6_taken_15 rfl (lv_at hl 0 rfl) ?_
    refine lv_iload_n hx hb dX6_taken_16 rfl (lv_at hl 1 rfl) ?_
    refine qX6_96 rfl C X hl.1 ((Nat.le_of_ble_eq_true rfl)) ⟨(Nat.le_of_ble_eq_true rfl), (Nat.le_of_ble_eq_true rfl)⟩ ⟨Nat.zero_le _, Nat.zero_le _⟩ dX6_taken_17 (fun H locs X b17 => ?_)
    refine lv_if_ne (tgt := 26) hx hb dX6_taken_20 (by decide) (fun c20 => ?_) (fun c20 => ?_)
    · replace hf := ifn c20 hf
      refine lv_aload_n hx hb dX6_taken_26 rfl (lv_at hl 0 rfl) ?_
      refine gfX6_26 C X dX6_taken_27 ?_
      refine lv_iload_n hx hb dX6_taken_30 rfl (lv_at hl 1 rfl) ?_
      obtain ⟨h31, hf⟩ := gd_e hf
      refine rIald C X rfl h31 dX6_taken_31 ?_
      obtain ⟨v32, e32, hf⟩ := nm_e2 hf
      refine st_i e32 ?_
      refine lv_istore_n (lv' := [(3, .int v32), (0, .ref (ad 0)), (1, .int x1), (2, .int x2)]) hx hb dX6_taken_32 rfl hl (by decide) rfl (fun ls hl => ?_)
      exact w6_taken_1 C hr  FUEL x1 x2 v32 hf _ _ X _ (lv_sub hl [1, 2, 3, 0] rfl)
    · replace hf := ifp c20 hf
      refine lv_bipush (v := (-11)) hx hb dX6_taken_23 (by decide) ?_
      exact retI C X hr rfl (Option.some.inj hf) rfl rfl dX6_taken_25
  · replace hf := ifp c9 hf
    refine lv_bipush (v := (-2)) hx hb dX6_taken_12 (by decide) ?_
    exact retI C X hr rfl (Option.some.inj hf) rfl rfl dX6_taken_14
theorem ct6_taken {x1 : Int32} {x2 : Int32} {μ : Mem} {ν : Lem} {r : Int32} (hg : f6_taken μ ν x1 x2 = some r) : CtI false yX6_taken cX6_taken 4 2 46 .int (fun ad => [.ref (ad 0), .int x1, .int x2]) μ ν r μ ν :=
  mkI (by decide) rfl (fun ad => Nat.le_of_ble_eq_true rfl) (fun p l e s m args below meth c D cy ad C hr X ls hl => w6_taken C hr x1 x2 hg _ _ X _ hl)
theorem qL_148 {p : Program} {l : Launch} {e : Env} {R : Room} {s : State} {m : MethodId} {args : Array Value} {below : List Frame} {meth : Method} {c : Code} {H : Heap} {locs : List Loc} {cells slots : Nat} {Q : State → Prop} {A : Nat → Prop} {cc : ByteArray} {nL : Nat} {D : va_G} {cy : Nat → ClassId} {ad : Nat → Nat} {μ : Mem} {ν : Lem} {pc : Nat} {ls : Array Slot} {rest : List Value} {x1 : Int32} {x2 : Int32} {r : Int32} (hg : f6_taken μ ν x1 x2 = some r) (C : CxA false A p s m args meth c cc nL RL D cy ad) (X : WdA false A D cy ad s.heap μ ν H locs) (hsz : ls.size = nL) (hrm : (rest.map fun v => v.category).sum ≤ 8) (hR : 2 + 1 ≤ R.frames ∧ 8 + (4 + 11) + 46 ≤ R.locals) (hcs : cells ≤ R.cells ∧ slots ≤ R.slots) (hd : decode cc pc = .ok (.invokevirtual 148, 3)) (kk : ∀ (H1 : Heap) (locs1 : List Loc), WdA false A D cy ad s.heap μ ν H1 locs1 → narrow .int (.int r) = .int r → W p l e R s m args below meth c H1 locs1 cells slots Q (F0 m (pc + 3) ls (.int r :: rest))) : W p l e R s m args below meth c H locs cells slots Q (F0 m pc ls (.int x2 :: .int x1 :: .ref (ad 0) :: rest)) :=
  rCVI (As := [.int x1, .int x2]) (k := 0) (ct6_taken hg) ok6 lX6_taken k_1352 rfl rfl rfl C X rfl hrm hsz hR hcs hd kk
