def mkW (cy : Nat → ClassId) (h : Nat) (u : Nat → Nat) : va_W := [(h, .inr (4, [.int 0, .int 0, .int 0, .ref (u 0), .ref (u 1)])), (u 0, .inl (cy 0, 8, .inl (fun _ => 0))), (u 1, .inl (cy 0, 8, .inl (fun _ => 0)))]
def mkS (cy : Nat → ClassId) (h : Nat) (u : Nat → Nat) : va_W := [(h, .inr (1, [.int (-1), .int 0, .ref (u 0)])), (u 0, .inl (cy 0, 40, .inl (fun _ => 0)))]
def mkT (cy : Nat → ClassId) (h : Nat) (u : Nat → Nat) : va_W := [(h, .inr (2, [.ref (u 0), .int 0, .int 0, .int 0, .int 0, .int 0, .int 0, .null])), (u 0, .inl (cy 0, 160, .inl (fun _ => 0)))]
def mkX (cy : Nat → ClassId) (h : Nat) (u : Nat → Nat) : va_W := [(h, .inr (3, [.ref (u 0), .ref (u 1), .int 0])), (u 0, .inl (cy 0, 160, .inl (fun _ => 0))), (u 1, .inl (cy 0, 3, .inl (fun _ => 0)))]
def mkP (cy : Nat → ClassId) (h : Nat) (u : Nat → Nat) : va_W := [(h, .inr (0, [.int 600, .int 0, .int 0, .ref (u 0)])), (u 0, .inl (cy 3, 6, .inr (.inr (.inr (.inr (fun j => some (u (1 + 3 * j)))))))), (u 1, .inr (4, [.int 0, .int 0, .int 0, .ref (u 2), .ref (u 3)])), (u 2, .inl (cy 0, 8, .inl (fun _ => 0))), (u 3, .inl (cy 0, 8, .inl (fun _ => 0))), (u 4, .inr (4, [.int 0, .int 0, .int 0, .ref (u 5), .ref (u 6)])), (u 5, .inl (cy 0, 8, .inl (fun _ => 0))), (u 6, .inl (cy 0, 8, .inl (fun _ => 0))), (u 7, .inr (4, [.int 0, .int 0, .int 0, .ref (u 8), .ref (u 9)])), (u 8, .inl (cy 0, 8, .inl (fun _ => 0))), (u 9, .inl (cy 0, 8, .inl (fun _ => 0))), (u 10, .inr (4, [.int 0, .int 0, .int 0, .ref (u 11), .ref (u 12)])), (u 11, .inl (cy 0, 8, .inl (fun _ => 0))), (u 12, .inl (cy 0, 8, .inl (fun _ => 0))), (u 13, .inr (4, [.int 0, .int 0, .int 0, .ref (u 14), .ref (u 15)])), (u 14, .inl (cy 0, 8, .inl (fun _ => 0))), (u 15, .inl (cy 0, 8, .inl (fun _ => 0))), (u 16, .inr (4, [.int 0, .int 0, .int 0, .ref (u 17), .ref (u 18)])), (u 17, .inl (cy 0, 8, .inl (fun _ => 0))), (u 18, .inl (cy 0, 8, .inl (fun _ => 0)))]
theorem lkdX0 : lkD yX0_init 0 := ⟨by decide, by decide, by decide +kernel⟩
theorem lkdX1 : lkD yX1_init 0 := ⟨by decide, by decide, by decide +kernel⟩
theorem lkdX2 : lkD yX2_init 0 := ⟨by decide, by decide, by decide +kernel⟩
theorem lkdX3 : lkD yX3_init 0 := ⟨by decide, by decide, by decide +kernel⟩
theorem lkdX4 : lkD yX4_init 0 := ⟨by decide, by decide, by decide +kernel⟩
theorem lkdX5 : lkD yX5_init 0 := ⟨by decide, by decide, by decide +kernel⟩
theorem lkdX6 : lkD yX6_init 0 := ⟨by decide, by decide, by decide +kernel⟩
theorem kx_22 : (Cond.instanceMethod Lib.objectInit) ∈ tb := tb_of (List.mem_append_right _ (List.mem_of_getElem? (i := 22) (by decide +kernel))) (by decide +kernel)
theorem kx_23 : (Cond.code Lib.objectInit ⟨#[0xb1]⟩ 1 none) ∈ tb := tb_of (List.mem_append_right _ (List.mem_of_getElem? (i := 23) (by decide +kernel))) (by decide +kernel)
theorem kx_36 : (Cond.methodLink RX4 3 Lib.objectInit) ∈ tb := tb_of (List.mem_append_right _ (List.mem_of_getElem? (i := 36) (by decide +kernel))) (by decide +kernel)
theorem kx_59 : (Cond.arrayClass .int) ∈ tb := tb_of (List.mem_append_right _ (List.mem_of_getElem? (i := 59) (by decide +kernel))) (by decide +kernel)
theorem kx_134 : (Cond.methodLink RX1 3 Lib.objectInit) ∈ tb := tb_of (List.mem_append_right _ (List.mem_of_getElem? (i := 134) (by decide +kernel))) (by decide +kernel)
theorem kx_82 : (Cond.methodLink RX2 3 Lib.objectInit) ∈ tb := tb_of (List.mem_append_right _ (List.mem_of_getElem? (i := 82) (by decide +kernel))) (by decide +kernel)
theorem kx_119 : (Cond.methodLink RX3 3 Lib.objectInit) ∈ tb := tb_of (List.mem_append_right _ (List.mem_of_getElem? (i := 119) (by decide +kernel))) (by decide +kernel)
theorem kx_29 : (Cond.methodLink RX0 3 Lib.objectInit) ∈ tb := tb_of (List.mem_append_right _ (List.mem_of_getElem? (i := 29) (by decide +kernel))) (by decide +kernel)
set_option maxRecDepth 100000 in
set_option maxHeartbeats 8000000 in
theorem ctNX4 (cy : Nat → ClassId) : CtN cy yX4_init cX4_init 1 1 12 2 16 4 [.int 0, .int 0, .int 0, .null, .null] (mkW cy) := by
  refine mkN (by decide) rfl rfl (by decide) (fun p l e s m args below meth c D h0 A C hA hr X ls hl => ?_)
  have hx := C.1.1
  have hb := C.1.2.1
  refine lv_aload_n hx hb dX4_init_0 rfl (lv_at hl 0 rfl) ?_
  refine kObj C kx_36 kx_22 kx_23 hl.1 (Nat.le_of_ble_eq_true rfl) (Nat.le_of_ble_eq_true rfl) dX4_init_1 ?_
  refine lv_aload_n hx hb dX4_init_4 rfl (lv_at hl 0 rfl) ?_
  refine lv_bipush (v := 8) hx hb dX4_init_5 (by decide) ?_
  refine kArr (atype := .int) (a0 := (8, .inl (fun _ => 0))) C X (ty := .int) rfl kx_59 0 rfl (fun U x h => h) (fun _ => rfl) (by decide) (N := 8) rfl (Nat.le_of_ble_eq_true rfl) (Nat.le_of_ble_eq_true rfl) (Nat.le_of_ble_eq_true rfl) dX4_init_7 (fun q1 H X => ?_)
  refine kPutF C X ok4 0 rfl 3 (by decide) k_44 rfl rfl (v := .ref q1) rfl rfl (Nat.le_of_ble_eq_true rfl) (ws' := ([(h0, .inr (4, [.int 0, .int 0, .int 0, .ref q1, .null]))] ++ [(q1, .inl (cy 0, 8, .inl (fun _ => 0)))])) rfl dX4_init_9 (fun H locs X => ?_)
  refine lv_aload_n hx hb dX4_init_12 rfl (lv_at hl 0 rfl) ?_
  refine lv_bipush (v := 8) hx hb dX4_init_13 (by decide) ?_
  refine kArr (atype := .int) (a0 := (8, .inl (fun _ => 0))) C X (ty := .int) rfl kx_59 0 rfl (fun U x h => h) (fun _ => rfl) (by decide) (N := 8) rfl (Nat.le_of_ble_eq_true rfl) (Nat.le_of_ble_eq_true rfl) (Nat.le_of_ble_eq_true rfl) dX4_init_15 (fun q2 H X => ?_)
  refine kPutF C X ok4 0 rfl 4 (by decide) k_46 rfl rfl (v := .ref q2) rfl rfl (Nat.le_of_ble_eq_true rfl) (ws' := (([(h0, .inr (4, [.int 0, .int 0, .int 0, .ref q1, .ref q2]))] ++ [(q1, .inl (cy 0, 8, .inl (fun _ => 0)))]) ++ [(q2, .inl (cy 0, 8, .inl (fun _ => 0)))])) rfl dX4_init_17 (fun H locs X => ?_)
  have X9 : WK A s.heap D (mkW cy h0 (fun k => ([q1, q2] : List Nat).getD k 0)) H locs := ⟨X.1, va_D_fst X.2.1 rfl, X.2.2⟩
  exact kRet C hA _ X9 hr dX4_init_20
set_option maxRecDepth 100000 in
set_option maxHeartbeats 8000000 in
theorem ctNX1 (cy : Nat → ClassId) : CtN cy yX1_init cX1_init 1 1 12 1 40 1 [.int 0, .int 0, .null] (mkS cy) := by
  refine mkN (by decide) rfl rfl (by decide) (fun p l e s m args below meth c D h0 A C hA hr X ls hl => ?_)
  have hx := C.1.1
  have hb := C.1.2.1
  refine lv_aload_n hx hb dX1_init_0 rfl (lv_at hl 0 rfl) ?_
  refine kObj C kx_134 kx_22 kx_23 hl.1 (Nat.le_of_ble_eq_true rfl) (Nat.le_of_ble_eq_true rfl) dX1_init_1 ?_
  refine lv_aload_n hx hb dX1_init_4 rfl (lv_at hl 0 rfl) ?_
  refine lv_iconst (v := (-1)) hx hb dX1_init_5 (by decide) ?_
  refine kPut C X ok1 0 rfl 0 (by decide) k_135 rfl (v := .int (-1)) rfl rfl (Nat.le_of_ble_eq_true rfl) (ws' := [(h0, .inr (1, [.int (-1), .int 0, .null]))]) rfl dX1_init_6 (fun H locs X => ?_)
  refine lv_aload_n hx hb dX1_init_9 rfl (lv_at hl 0 rfl) ?_
  refine lv_bipush (v := 40) hx hb dX1_init_10 (by decide) ?_
  refine kArr (atype := .int) (a0 := (40, .inl (fun _ => 0))) C X (ty := .int) rfl kx_59 0 rfl (fun U x h => h) (fun _ => rfl) (by decide) (N := 40) rfl (Nat.le_of_ble_eq_true rfl) (Nat.le_of_ble_eq_true rfl) (Nat.le_of_ble_eq_true rfl) dX1_init_12 (fun q1 H X => ?_)
  refine kPutF C X ok1 0 rfl 2 (by decide) k_139 rfl rfl (v := .ref q1) rfl rfl (Nat.le_of_ble_eq_true rfl) (ws' := ([(h0, .inr (1, [.int (-1), .int 0, .ref q1]))] ++ [(q1, .inl (cy 0, 40, .inl (fun _ => 0)))])) rfl dX1_init_14 (fun H locs X => ?_)
  have X9 : WK A s.heap D (mkS cy h0 (fun k => ([q1] : List Nat).getD k 0)) H locs := ⟨X.1, va_D_fst X.2.1 rfl, X.2.2⟩
  exact kRet C hA _ X9 hr dX1_init_17
set_option maxRecDepth 100000 in
set_option maxHeartbeats 8000000 in
theorem ctNX2 (cy : Nat → ClassId) : CtN cy yX2_init cX2_init 1 1 12 1 160 2 [.null, .int 0, .int 0, .int 0, .int 0, .int 0, .int 0, .null] (mkT cy) := by
  refine mkN (by decide) rfl rfl (by decide) (fun p l e s m args below meth c D h0 A C hA hr X ls hl => ?_)
  have hx := C.1.1
  have hb := C.1.2.1
  refine lv_aload_n hx hb dX2_init_0 rfl (lv_at hl 0 rfl) ?_
  refine kObj C kx_82 kx_22 kx_23 hl.1 (Nat.le_of_ble_eq_true rfl) (Nat.le_of_ble_eq_true rfl) dX2_init_1 ?_
  refine lv_aload_n hx hb dX2_init_4 rfl (lv_at hl 0 rfl) ?_
  refine lv_sipush (v := 160) hx hb dX2_init_5 (by decide) ?_
  refine kArr (atype := .int) (a0 := (160, .inl (fun _ => 0))) C X (ty := .int) rfl kx_59 0 rfl (fun U x h => h) (fun _ => rfl) (by decide) (N := 160) rfl (Nat.le_of_ble_eq_true rfl) (Nat.le_of_ble_eq_true rfl) (Nat.le_of_ble_eq_true rfl) dX2_init_8 (fun q1 H X => ?_)
  refine kPutF C X ok2 0 rfl 0 (by decide) k_83 rfl rfl (v := .ref q1) rfl rfl (Nat.le_of_ble_eq_true rfl) (ws' := ([(h0, .inr (2, [.ref q1, .int 0, .int 0, .int 0, .int 0, .int 0, .int 0, .null]))] ++ [(q1, .inl (cy 0, 160, .inl (fun _ => 0)))])) rfl dX2_init_10 (fun H locs X => ?_)
  have X9 : WK A s.heap D (mkT cy h0 (fun k => ([q1] : List Nat).getD k 0)) H locs := ⟨X.1, va_D_fst X.2.1 rfl, X.2.2⟩
  exact kRet C hA _ X9 hr dX2_init_13
set_option maxRecDepth 100000 in
set_option maxHeartbeats 8000000 in
theorem ctNX3 (cy : Nat → ClassId) : CtN cy yX3_init cX3_init 1 1 12 2 163 3 [.null, .null, .int 0] (mkX cy) := by
  refine mkN (by decide) rfl rfl (by decide) (fun p l e s m args below meth c D h0 A C hA hr X ls hl => ?_)
  have hx := C.1.1
  have hb := C.1.2.1
  refine lv_aload_n hx hb dX3_init_0 rfl (lv_at hl 0 rfl) ?_
  refine kObj C kx_119 kx_22 kx_23 hl.1 (Nat.le_of_ble_eq_true rfl) (Nat.le_of_ble_eq_true rfl) dX3_init_1 ?_
  refine lv_aload_n hx hb dX3_init_4 rfl (lv_at hl 0 rfl) ?_
  refine lv_sipush (v := 160) hx hb dX3_init_5 (by decide) ?_
  refine kArr (atype := .int) (a0 := (160, .inl (fun _ => 0))) C X (ty := .int) rfl kx_59 0 rfl (fun U x h => h) (fun _ => rfl) (by decide) (N := 160) rfl (Nat.le_of_ble_eq_true rfl) (Nat.le_of_ble_eq_true rfl) (Nat.le_of_ble_eq_true rfl) dX3_init_8 (fun q1 H X => ?_)
  refine kPutF C X ok3 0 rfl 0 (by decide) k_120 rfl rfl (v := .ref q1) rfl rfl (Nat.le_of_ble_eq_true rfl) (ws' := ([(h0, .inr (3, [.ref q1, .null, .int 0]))] ++ [(q1, .inl (cy 0, 160, .inl (fun _ => 0)))])) rfl dX3_init_10 (fun H locs X => ?_)
  refine lv_aload_n hx hb dX3_init_13 rfl (lv_at hl 0 rfl) ?_
  refine lv_iconst (v := 3) hx hb dX3_init_14 (by decide) ?_
  refine kArr (atype := .int) (a0 := (3, .inl (fun _ => 0))) C X (ty := .int) rfl kx_59 0 rfl (fun U x h => h) (fun _ => rfl) (by decide) (N := 3) rfl (Nat.le_of_ble_eq_true rfl) (Nat.le_of_ble_eq_true rfl) (Nat.le_of_ble_eq_true rfl) dX3_init_15 (fun q2 H X => ?_)
  refine kPutF C X ok3 0 rfl 1 (by decide) k_121 rfl rfl (v := .ref q2) rfl rfl (Nat.le_of_ble_eq_true rfl) (ws' := (([(h0, .inr (3, [.ref q1, .ref q2, .int 0]))] ++ [(q1, .inl (cy 0, 160, .inl (fun _ => 0)))]) ++ [(q2, .inl (cy 0, 3, .inl (fun _ => 0)))])) rfl dX3_init_17 (fun H locs X => ?_)
  have X9 : WK A s.heap D (mkX cy h0 (fun k => ([q1, q2] : List Nat).getD k 0)) H locs := ⟨X.1, va_D_fst X.2.1 rfl, X.2.2⟩
  exact kRet C hA _ X9 hr dX3_init_20
set_option maxRecDepth 100000 in
set_option maxHeartbeats 8000000 in
theorem ctNX0 (cy : Nat → ClassId) : CtN cy yX0_init cX0_init 2 2 40 19 132 0 [.int 0, .int 0, .int 0, .null] (mkP cy) := by
  refine mkN (by decide) rfl rfl (by decide) (fun p l e s m args below meth c D h0 A C hA hr X ls hl => ?_)
  have hx := C.1.1
  have hb := C.1.2.1
  refine lv_aload_n hx hb dX0_init_0 rfl (lv_at hl 0 rfl) ?_
  refine kObj C kx_29 kx_22 kx_23 hl.1 (Nat.le_of_ble_eq_true rfl) (Nat.le_of_ble_eq_true rfl) dX0_init_1 ?_
  refine lv_aload_n hx hb dX0_init_4 rfl (lv_at hl 0 rfl) ?_
  refine lv_sipush (v := 600) hx hb dX0_init_5 (by decide) ?_
  refine kPut C X ok0 0 rfl 0 (by decide) k_60 rfl (v := .int 600) rfl rfl (Nat.le_of_ble_eq_true rfl) (ws' := [(h0, .inr (0, [.int 600, .int 0, .int 0, .null]))]) rfl dX0_init_8 (fun H locs X => ?_)
  refine lv_aload_n hx hb dX0_init_11 rfl (lv_at hl 0 rfl) ?_
  refine lv_bipush (v := 6) hx hb dX0_init_12 (by decide) ?_
  refine kArrQ C X k_30 C.2.1.2.2.1 3 rfl (by decide) (N := 6) rfl (Nat.le_of_ble_eq_true rfl) (Nat.le_of_ble_eq_true rfl) (Nat.le_of_ble_eq_true rfl) dX0_init_14 (fun q1 H X => ?_)
  refine kPutF C X ok0 0 rfl 3 (by decide) k_66 rfl rfl (v := .ref q1) rfl rfl (Nat.le_of_ble_eq_true rfl) (ws' := ([(h0, .inr (0, [.int 600, .int 0, .int 0, .ref q1]))] ++ [(q1, .inl (cy 3, 6, .inr (.inr (.inr (.inr (fun _ => none))))))])) rfl dX0_init_17 (fun H locs X => ?_)
  refine lv_iconst (v := 0) hx hb dX0_init_20 (by decide) ?_
  refine lv_istore_n (lv' := [(1, .int 0), (0, .ref h0)]) hx hb dX0_init_21 rfl hl (by decide) rfl (fun ls hl => ?_)
  refine lv_iload_n hx hb dX0_init_22 rfl (lv_at hl 0 rfl) ?_
  refine lv_bipush (v := 6) hx hb dX0_init_23 (by decide) ?_
  refine lv_icmp_ge (tgt := 47) hx hb dX0_init_25 (by decide) (fun c => absurd c (by decide)) (fun c => ?_)
  refine lv_aload_n hx hb dX0_init_28 rfl (lv_at hl 1 rfl) ?_
  refine kGet C X ok0 0 rfl 3 (by decide) k_66 (v := .ref q1) rfl dX0_init_29 ?_
  refine lv_iload_n hx hb dX0_init_32 rfl (lv_at hl 0 rfl) ?_
  refine kNew C X ok4 k_30 k_32 k_3 (fs := [.int 0, .int 0, .int 0, .null, .null]) (fun j hj => by rcases (show j = 0 ∨ j = 1 ∨ j = 2 ∨ j = 3 ∨ j = 4 by omega) with rfl | rfl | rfl | rfl | rfl <;> rfl) (Nat.le_of_ble_eq_true rfl) (Nat.le_of_ble_eq_true rfl) dX0_init_33 (fun q2 H X => ?_)
  refine lv_dup hx hb dX0_init_36 rfl ?_
  refine kCallN (ctNX4 cy) C X k_35 k_3 k_34 nk_0 rfl lkdX4 hl.1 (Nat.le_of_ble_eq_true rfl) ⟨(Nat.le_of_ble_eq_true rfl), (Nat.le_of_ble_eq_true rfl)⟩ ⟨(Nat.le_of_ble_eq_true rfl), (Nat.le_of_ble_eq_true rfl)⟩ dX0_init_37 (fun u3 H locs X => ?_)
  refine kAst C X 1 3 2 4 ok4 rfl rfl rfl (show ¬ ((0 : Int32) < 0 ∨ 6 ≤ (0 : Int32).toNatClampNeg) by decide) (ws' := (([(h0, .inr (0, [.int 600, .int 0, .int 0, .ref q1]))] ++ [(q1, .inl (cy 3, 6, .inr (.inr (.inr (.inr (va_up (fun _ => none) (0 : Int32).toNatClampNeg (some q2)))))))]) ++ mkW cy q2 u3)) rfl dX0_init_40 (fun H locs X => ?_)
  refine lv_iinc (v := 1) (lv' := [(1, .int 1), (0, .ref h0)]) hx hb dX0_init_41 hl (k := 0) rfl (by decide) (by decide) rfl (fun ls hl => ?_)
  refine lv_goto (tgt := 22) hx hb dX0_init_44 (by decide) ?_
  refine lv_iload_n hx hb dX0_init_22 rfl (lv_at hl 0 rfl) ?_
  refine lv_bipush (v := 6) hx hb dX0_init_23 (by decide) ?_
  refine lv_icmp_ge (tgt := 47) hx hb dX0_init_25 (by decide) (fun c => absurd c (by decide)) (fun c => ?_)
  refine lv_aload_n hx hb dX0_init_28 rfl (lv_at hl 1 rfl) ?_
  refine kGet C X ok0 0 rfl 3 (by decide) k_66 (v := .ref q1) rfl dX0_init_29 ?_
  refine lv_iload_n hx hb dX0_init_32 rfl (lv_at hl 0 rfl) ?_
  refine kNew C X ok4 k_30 k_32 k_3 (fs := [.int 0, .int 0, .int 0, .null, .null]) (fun j hj => by rcases (show j = 0 ∨ j = 1 ∨ j = 2 ∨ j = 3 ∨ j = 4 by omega) with rfl | rfl | rfl | rfl | rfl <;> rfl) (Nat.le_of_ble_eq_true rfl) (Nat.le_of_ble_eq_true rfl) dX0_init_33 (fun q4 H X => ?_)
  refine lv_dup hx hb dX0_init_36 rfl ?_
  refine kCallN (ctNX4 cy) C X k_35 k_3 k_34 nk_0 rfl lkdX4 hl.1 (Nat.le_of_ble_eq_true rfl) ⟨(Nat.le_of_ble_eq_true rfl), (Nat.le_of_ble_eq_true rfl)⟩ ⟨(Nat.le_of_ble_eq_true rfl), (Nat.le_of_ble_eq_true rfl)⟩ dX0_init_37 (fun u5 H locs X => ?_)
  refine kAst C X 1 3 5 4 ok4 rfl rfl rfl (show ¬ ((1 : Int32) < 0 ∨ 6 ≤ (1 : Int32).toNatClampNeg) by decide) (ws' := ((([(h0, .inr (0, [.int 600, .int 0, .int 0, .ref q1]))] ++ [(q1, .inl (cy 3, 6, .inr (.inr (.inr (.inr (va_up (va_up (fun _ => none) (0 : Int32).toNatClampNeg (some q2)) (1 : Int32).toNatClampNeg (some q4)))))))]) ++ mkW cy q2 u3) ++ mkW cy q4 u5)) rfl dX0_init_40 (fun H locs X => ?_)
  refine lv_iinc (v := 2) (lv' := [(1, .int 2), (0, .ref h0)]) hx hb dX0_init_41 hl (k := 0) rfl (by decide) (by decide) rfl (fun ls hl => ?_)
  refine lv_goto (tgt := 22) hx hb dX0_init_44 (by decide) ?_
  refine lv_iload_n hx hb dX0_init_22 rfl (lv_at hl 0 rfl) ?_
  refine lv_bipush (v := 6) hx hb dX0_init_23 (by decide) ?_
  refine lv_icmp_ge (tgt := 47) hx hb dX0_init_25 (by decide) (fun c => absurd c (by decide)) (fun c => ?_)
  refine lv_aload_n hx hb dX0_init_28 rfl (lv_at hl 1 rfl) ?_
  refine kGet C X ok0 0 rfl 3 (by decide) k_66 (v := .ref q1) rfl dX0_init_29 ?_
  refine lv_iload_n hx hb dX0_init_32 rfl (lv_at hl 0 rfl) ?_
  refine kNew C X ok4 k_30 k_32 k_3 (fs := [.int 0, .int 0, .int 0, .null, .null]) (fun j hj => by rcases (show j = 0 ∨ j = 1 ∨ j = 2 ∨ j = 3 ∨ j = 4 by omega) with rfl | rfl | rfl | rfl | rfl <;> rfl) (Nat.le_of_ble_eq_true rfl) (Nat.le_of_ble_eq_true rfl) dX0_init_33 (fun q6 H X => ?_)
  refine lv_dup hx hb dX0_init_36 rfl ?_
  refine kCallN (ctNX4 cy) C X k_35 k_3 k_34 nk_0 rfl lkdX4 hl.1 (Nat.le_of_ble_eq_true rfl) ⟨(Nat.le_of_ble_eq_true rfl), (Nat.le_of_ble_eq_true rfl)⟩ ⟨(Nat.le_of_ble_eq_true rfl), (Nat.le_of_ble_eq_true rfl)⟩ dX0_init_37 (fun u7 H locs X => ?_)
  refine kAst C X 1 3 8 4 ok4 rfl rfl rfl (show ¬ ((2 : Int32) < 0 ∨ 6 ≤ (2 : Int32).toNatClampNeg) by decide) (ws' := (((([(h0, .inr (0, [.int 600, .int 0, .int 0, .ref q1]))] ++ [(q1, .inl (cy 3, 6, .inr (.inr (.inr (.inr (va_up (va_up (va_up (fun _ => none) (0 : Int32).toNatClampNeg (some q2)) (1 : Int32).toNatClampNeg (some q4)) (2 : Int32).toNatClampNeg (some q6)))))))]) ++ mkW cy q2 u3) ++ mkW cy q4 u5) ++ mkW cy q6 u7)) rfl dX0_init_40 (fun H locs X => ?_)
  refine lv_iinc (v := 3) (lv' := [(1, .int 3), (0, .ref h0)]) hx hb dX0_init_41 hl (k := 0) rfl (by decide) (by decide) rfl (fun ls hl => ?_)
  refine lv_goto (tgt := 22) hx hb dX0_init_44 (by decide) ?_
  refine lv_iload_n hx hb dX0_init_22 rfl (lv_at hl 0 rfl) ?_
  refine lv_bipush (v := 6) hx hb dX0_init_23 (by decide) ?_
  refine lv_icmp_ge (tgt := 47) hx hb dX0_init_25 (by decide) (fun c => absurd c (by decide)) (fun c => ?_)
  refine lv_aload_n hx hb dX0_init_28 rfl (lv_at hl 1 rfl) ?_
  refine kGet C X ok0 0 rfl 3 (by decide) k_66 (v := .ref q1) rfl dX0_init_29 ?_
  refine lv_iload_n hx hb dX0_init_32 rfl (lv_at hl 0 rfl) ?_
  refine kNew C X ok4 k_30 k_32 k_3 (fs := [.int 0, .int 0, .int 0, .null, .null]) (fun j hj => by rcases (show j = 0 ∨ j = 1 ∨ j = 2 ∨ j = 3 ∨ j = 4 by omega) with rfl | rfl | rfl | rfl | rfl <;> rfl) (Nat.le_of_ble_eq_true rfl) (Nat.le_of_ble_eq_true rfl) dX0_init_33 (fun q8 H X => ?_)
  refine lv_dup hx hb dX0_init_36 rfl ?_
  refine kCallN (ctNX4 cy) C X k_35 k_3 k_34 nk_0 rfl lkdX4 hl.1 (Nat.le_of_ble_eq_true rfl) ⟨(Nat.le_of_ble_eq_true rfl), (Nat.le_of_ble_eq_true rfl)⟩ ⟨(Nat.le_of_ble_eq_true rfl), (Nat.le_of_ble_eq_true rfl)⟩ dX0_init_37 (fun u9 H locs X => ?_)
  refine kAst C X 1 3 11 4 ok4 rfl rfl rfl (show ¬ ((3 : Int32) < 0 ∨ 6 ≤ (3 : Int32).toNatClampNeg) by decide) (ws' := ((((([(h0, .inr (0, [.int 600, .int 0, .int 0, .ref q1]))] ++ [(q1, .inl (cy 3, 6, .inr (.inr (.inr (.inr (va_up (va_up (va_up (va_up (fun _ => none) (0 : Int32).toNatClampNeg (some q2)) (1 : Int32).toNatClampNeg (some q4)) (2 : Int32).toNatClampNeg (some q6)) (3 : Int32).toNatClampNeg (some q8)))))))]) ++ mkW cy q2 u3) ++ mkW cy q4 u5) ++ mkW cy q6 u7) ++ mkW cy q8 u9)) rfl dX0_init_40 (fun H locs X => ?_)
  refine lv_iinc (v := 4) (lv' := [(1, .int 4), (0, .ref h0)]) hx hb dX0_init_41 hl (k := 0) rfl (by decide) (by decide) rfl (fun ls hl => ?_)
  refine lv_goto (tgt := 22) hx hb dX0_init_44 (by decide) ?_
  refine lv_iload_n hx hb dX0_init_22 rfl (lv_at hl 0 rfl) ?_
  refine lv_bipush (v := 6) hx hb dX0_init_23 (by decide) ?_
  refine lv_icmp_ge (tgt := 47) hx hb dX0_init_25 (by decide) (fun c => absurd c (by decide)) (fun c => ?_)
  refine lv_aload_n hx hb dX0_init_28 rfl (lv_at hl 1 rfl) ?_
  refine kGet C X ok0 0 rfl 3 (by decide) k_66 (v := .ref q1) rfl dX0_init_29 ?_
  refine lv_iload_n hx hb dX0_init_32 rfl (lv_at hl 0 rfl) ?_
  refine kNew C X ok4 k_30 k_32 k_3 (fs := [.int 0, .int 0, .int 0, .null, .null]) (fun j hj => by rcases (show j = 0 ∨ j = 1 ∨ j = 2 ∨ j = 3 ∨ j = 4 by omega) with rfl | rfl | rfl | rfl | rfl <;> rfl) (Nat.le_of_ble_eq_true rfl) (Nat.le_of_ble_eq_true rfl) dX0_init_33 (fun q10 H X => ?_)
  refine lv_dup hx hb dX0_init_36 rfl ?_
  refine kCallN (ctNX4 cy) C X k_35 k_3 k_34 nk_0 rfl lkdX4 hl.1 (Nat.le_of_ble_eq_true rfl) ⟨(Nat.le_of_ble_eq_true rfl), (Nat.le_of_ble_eq_true rfl)⟩ ⟨(Nat.le_of_ble_eq_true rfl), (Nat.le_of_ble_eq_true rfl)⟩ dX0_init_37 (fun u11 H locs X => ?_)
  refine kAst C X 1 3 14 4 ok4 rfl rfl rfl (show ¬ ((4 : Int32) < 0 ∨ 6 ≤ (4 : Int32).toNatClampNeg) by decide) (ws' := (((((([(h0, .inr (0, [.int 600, .int 0, .int 0, .ref q1]))] ++ [(q1, .inl (cy 3, 6, .inr (.inr (.inr (.inr (va_up (va_up (va_up (va_up (va_up (fun _ => none) (0 : Int32).toNatClampNeg (some q2)) (1 : Int32).toNatClampNeg (some q4)) (2 : Int32).toNatClampNeg (some q6)) (3 : Int32).toNatClampNeg (some q8)) (4 : Int32).toNatClampNeg (some q10)))))))]) ++ mkW cy q2 u3) ++ mkW cy q4 u5) ++ mkW cy q6 u7) ++ mkW cy q8 u9) ++ mkW cy q10 u11)) rfl dX0_init_40 (fun H locs X => ?_)
  refine lv_iinc (v := 5) (lv' := [(1, .int 5), (0, .ref h0)]) hx hb dX0_init_41 hl (k := 0) rfl (by decide) (by decide) rfl (fun ls hl => ?_)
  refine lv_goto (tgt := 22) hx hb dX0_init_44 (by decide) ?_
  refine lv_iload_n hx hb dX0_init_22 rfl (lv_at hl 0 rfl) ?_
  refine lv_bipush (v := 6) hx hb dX0_init_23 (by decide) ?_
  refine lv_icmp_ge (tgt := 47) hx hb dX0_init_25 (by decide) (fun c => absurd c (by decide)) (fun c => ?_)
  refine lv_aload_n hx hb dX0_init_28 rfl (lv_at hl 1 rfl) ?_
  refine kGet C X ok0 0 rfl 3 (by decide) k_66 (v := .ref q1) rfl dX0_init_29 ?_
  refine lv_iload_n hx hb dX0_init_32 rfl (lv_at hl 0 rfl) ?_
  refine kNew C X ok4 k_30 k_32 k_3 (fs := [.int 0, .int 0, .int 0, .null, .null]) (fun j hj => by rcases (show j = 0 ∨ j = 1 ∨ j = 2 ∨ j = 3 ∨ j = 4 by omega) with rfl | rfl | rfl | rfl | rfl <;> rfl) (Nat.le_of_ble_eq_true rfl) (Nat.le_of_ble_eq_true rfl) dX0_init_33 (fun q12 H X => ?_)
  refine lv_dup hx hb dX0_init_36 rfl ?_
  refine kCallN (ctNX4 cy) C X k_35 k_3 k_34 nk_0 rfl lkdX4 hl.1 (Nat.le_of_ble_eq_true rfl) ⟨(Nat.le_of_ble_eq_true rfl), (Nat.le_of_ble_eq_true rfl)⟩ ⟨(Nat.le_of_ble_eq_true rfl), (Nat.le_of_ble_eq_true rfl)⟩ dX0_init_37 (fun u13 H locs X => ?_)
  refine kAst C X 1 3 17 4 ok4 rfl rfl rfl (show ¬ ((5 : Int32) < 0 ∨ 6 ≤ (5 : Int32).toNatClampNeg) by decide) (ws' := ((((((([(h0, .inr (0, [.int 600, .int 0, .int 0, .ref q1]))] ++ [(q1, .inl (cy 3, 6, .inr (.inr (.inr (.inr (va_up (va_up (va_up (va_up (va_up (va_up (fun _ => none) (0 : Int32).toNatClampNeg (some q2)) (1 : Int32).toNatClampNeg (some q4)) (2 : Int32).toNatClampNeg (some q6)) (3 : Int32).toNatClampNeg (some q8)) (4 : Int32).toNatClampNeg (some q10)) (5 : Int32).toNatClampNeg (some q12)))))))]) ++ mkW cy q2 u3) ++ mkW cy q4 u5) ++ mkW cy q6 u7) ++ mkW cy q8 u9) ++ mkW cy q10 u11) ++ mkW cy q12 u13)) rfl dX0_init_40 (fun H locs X => ?_)
  refine lv_iinc (v := 6) (lv' := [(1, .int 6), (0, .ref h0)]) hx hb dX0_init_41 hl (k := 0) rfl (by decide) (by decide) rfl (fun ls hl => ?_)
  refine lv_goto (tgt := 22) hx hb dX0_init_44 (by decide) ?_
  refine lv_iload_n hx hb dX0_init_22 rfl (lv_at hl 0 rfl) ?_
  refine lv_bipush (v := 6) hx hb dX0_init_23 (by decide) ?_
  refine lv_icmp_ge (tgt := 47) hx hb dX0_init_25 (by decide) (fun c => ?_) (fun c => absurd c (by decide))
  have X9 : WK A s.heap D (mkP cy h0 (fun k => ([q1, q2, (u3 0), (u3 1), q4, (u5 0), (u5 1), q6, (u7 0), (u7 1), q8, (u9 0), (u9 1), q10, (u11 0), (u11 1), q12, (u13 0), (u13 1)] : List Nat).getD k 0)) H locs := ⟨pArr X.1 1 (fun j => some (([q1, q2, (u3 0), (u3 1), q4, (u5 0), (u5 1), q6, (u7 0), (u7 1), q8, (u9 0), (u9 1), q10, (u11 0), (u11 1), q12, (u13 0), (u13 1)] : List Nat).getD (1 + 3 * j) 0)) rfl (fun j hj => by rcases (show j = 0 ∨ j = 1 ∨ j = 2 ∨ j = 3 ∨ j = 4 ∨ j = 5 by omega) with rfl | rfl | rfl | rfl | rfl | rfl <;> rfl), va_D_fst X.2.1 rfl, X.2.2⟩
  exact kRet C hA _ X9 hr dX0_init_47
