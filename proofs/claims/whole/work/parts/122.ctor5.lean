def mkad (l : List Nat) (sta : Nat → Nat) (k : Nat) : Nat := (l[k]?).getD (sta k)
theorem mkad_out {l : List Nat} {sta : Nat → Nat} {k : Nat} (h : l.length ≤ k) : mkad l sta k = sta k := by
  unfold mkad
  rw [List.getElem?_eq_none h]
  rfl
theorem St_congr {b : Bool} {ad sta : Nat → Nat} {A : Nat → Prop} {U : State} {H : Heap} (h : ∀ k, 100 ≤ k → ad k = sta k) (hs : St b sta A U H) : St b ad A U H := by
  refine ⟨hs.1, fun hb => ?_⟩
  have h9 := hs.2 hb
  rw [← h 100 (by omega), ← h 101 (by omega), ← h 102 (by omega), ← h 110 (by omega), ← h 111 (by omega), show (fun i => sta (110 + i)) = fun i => ad (110 + i) from funext fun i => (h _ (by omega)).symm, show (fun i => sta (120 + i)) = fun i => ad (120 + i) from funext fun i => (h _ (by omega)).symm] at h9
  exact h9
theorem Ad_of {b : Bool} {A : Nat → Prop} {cy : Nat → ClassId} {ad : Nat → Nat} {μ : Mem} {ν : Lem} (h : va_D A (cs (Sp b) cy ad μ ν)) : ∀ q, Ad b ad q → A q := by
  rintro q ⟨k, hk, rfl⟩
  exact h.2 k (ad k, _) (cs_get (List.getElem?_eq_getElem hk))
def ν0 : Lem := fun _ _ => 0
def μC0 : Mem := up (up (up (up (up (up (fun _ _ => 0) 1 0 600) 2 0 600) 71 0 (-1)) 73 0 (-1)) 75 0 (-1)) 77 0 (-1)
def μC1 : Mem := (f3_becomeFirst μC0 0).getD μC0
def μCI : Mem := up μC1 0 5 1
def fs5 : List Value := [.null, .null, .int 0, .null, .null, .int 0, .null, .null, .null, .null, .null, .null, .null]
def fs6 : List Value := [.int 0, .null, .null, .int 0, .int 0, .null, .int 0, .int 0, .null, .null, .null, .null, .null, .int 0, .int 0, .int 0, .int 0, .int 0, .int 0, .int 0, .int 0, .int 0, .int 0, .int 0, .int 0, .long 0, .int 0, .int 0, .int 0, .null, .null, .null, .null, .null, .null, .null, .null, .int 0, .int 0, .int 0, .null, .null, .null, .null]
theorem lk1 {α : Type} {x y : α} {G B Z : List α} : ((x :: (G ++ y :: B)) ++ Z)[G.length + 1]? = some y := by
  rw [List.cons_append, List.getElem?_cons_succ, List.append_assoc, List.getElem?_append_right (Nat.le_refl _), Nat.sub_self]
  rfl
theorem lk2 {α : Type} {x y z : α} {G B Z : List α} : ((x :: (G ++ y :: B)) ++ z :: Z)[G.length + (B.length + 2)]? = some z := by
  rw [List.getElem?_append_right (by simp only [List.length_cons, List.length_append]; omega)]
  rw [show G.length + (B.length + 2) - (x :: (G ++ y :: B)).length = 0 by simp only [List.length_cons, List.length_append]; omega]
  rfl
theorem st1 {α : Type} {x y y' : α} {G B Z : List α} : ((x :: (G ++ y :: B)) ++ Z).set (G.length + 1) y' = x :: (G ++ y' :: (B ++ Z)) := by
  rw [List.cons_append, List.set_cons_succ, List.append_assoc, List.set_append_right _ _ (Nat.le_refl _), Nat.sub_self]
  rfl
theorem va_P.mem {D : va_G} {cl : List vw_C} {ws : va_W} {H : Heap} (h : va_P D cl ws H) {q : Nat × va_E} (hq : q ∈ ws) : va_at D cl q H := by
  obtain ⟨i, hi⟩ := List.getElem?_of_mem hq
  exact h i q hi
theorem va_P.of {D : va_G} {cl : List vw_C} {ws ws' : va_W} {H : Heap} (h : va_P D cl ws H) (hs : ∀ q ∈ ws', q ∈ ws) : va_P D cl ws' H := fun k q hk => h.mem (hs q (List.mem_of_getElem? hk))
theorem va_P.cons {D : va_G} {cl : List vw_C} {q : Nat × va_E} {ws : va_W} {H : Heap} (h : va_at D cl q H) (ht : va_P D cl ws H) : va_P D cl (q :: ws) H := by
  intro k x hk
  cases k with
  | zero => cases hk; exact h
  | succ k => exact ht k x hk
theorem va_P.nil {D : va_G} {cl : List vw_C} {H : Heap} : va_P D cl [] H := fun k q h => by simp at h
theorem va_at_q {D : va_G} {cl : List vw_C} {H : Heap} {a : Nat} {cA : ClassId} {n : Nat} {f : Nat → Option Nat} (g : Nat → Option Nat) (h : va_at D cl (a, .inl (cA, n, .inr (.inr (.inr (.inr f))))) H) (hfg : ∀ j, j < n → f j = g j) : va_at D cl (a, .inl (cA, n, .inr (.inr (.inr (.inr g))))) H := by
  have h2 : H[a]? = some (vp_cell cA (n, .inr (.inr (.inr (.inr f))))) := h
  show H[a]? = some (vp_cell cA _)
  rw [h2, vp_cell_q, vp_cell_q]
  exact congrArg some (arrV_congr fun j hj => by rw [hfg j hj])
theorem kx_21 : (Cond.methodLink RX5 1 Lib.objectInit) ∈ tb := tb_of (List.mem_append_right _ (List.mem_of_getElem? (i := 21) (by decide +kernel))) (by decide +kernel)
theorem kx_782 : (Cond.methodLink RX6 7 Lib.objectInit) ∈ tb := tb_of (List.mem_append_right _ (List.mem_of_getElem? (i := 782) (by decide +kernel))) (by decide +kernel)
theorem kx_919 : (Cond.arrayClass .long) ∈ tb := tb_of (List.mem_append_right _ (List.mem_of_getElem? (i := 919) (by decide +kernel))) (by decide +kernel)
theorem kx_920 : (Cond.arrayClass .boolean) ∈ tb := tb_of (List.mem_append_right _ (List.mem_of_getElem? (i := 920) (by decide +kernel))) (by decide +kernel)
theorem f3bF : f3_becomeFirst μC0 0 = some μC1 := by
  rfl
set_option maxRecDepth 100000 in
set_option maxHeartbeats 8000000 in
theorem it5t {p : Program} {l : Launch} {e : Env} {R : Room} {s : State} {m : MethodId} {args : Array Value} {below : List Frame} {meth : Method} {c : Code} {H : Heap} {locs : List Loc} {cells slots : Nat} {Q : State → Prop} {A : Nat → Prop} {D : va_G} {cy : Nat → ClassId} {ls : Array Slot} {h0 ta : Nat} {fs : List Value} {G B : va_W} {f : Nat → Option Nat} {i i2 : Int32} (C : CK A s.heap p s m args meth c cX5_init 2 RX5 D cy) (X : WK A s.heap D ((h0, .inr (5, fs)) :: (G ++ (ta, .inl (cy 4, 6, .inr (.inr (.inr (.inr f))))) :: B)) H locs) (hfs : fs[4]? = some (.ref ta)) (hi : ¬ 6 ≤ i) (hin : vp_in i 6) (hi2 : i2 = i + 1) (hl : lv_has ls 2 [(1, .int i), (0, .ref h0)]) (hR : 2 ≤ R.frames ∧ 32 ≤ R.locals) (hc : cells + 3 ≤ R.cells ∧ slots + 166 ≤ R.slots)
    (kk : ∀ (q : Nat) (u : Nat → Nat) (H1 : Heap) (locs1 : List Loc) (ls1 : Array Slot), WK A s.heap D ((h0, .inr (5, fs)) :: (G ++ (ta, .inl (cy 4, 6, .inr (.inr (.inr (.inr (va_up f i.toNatClampNeg (some q))))))) :: (B ++ mkX cy q u))) H1 locs1 → lv_has ls1 2 [(1, .int i2), (0, .ref h0)] → W p l e R s m args below meth c H1 locs1 (cells + 3) (slots + 166) Q (F0 m 110 ls1 [])) : W p l e R s m args below meth c H locs cells slots Q (F0 m 110 ls []) := by
  have hx := C.1.1
  have hb := C.1.2.1
  refine lv_iload_n hx hb dX5_init_110 rfl (lv_at hl 0 rfl) ?_
  refine lv_bipush (v := 6) hx hb dX5_init_111 (by decide) ?_
  refine lv_icmp_ge (tgt := 135) hx hb dX5_init_113 (by decide) (fun c => absurd c hi) (fun _ => ?_)
  refine lv_aload_n hx hb dX5_init_116 rfl (lv_at hl 1 rfl) ?_
  refine kGet C X ok5 0 rfl 4 (by decide) k_168 hfs dX5_init_117 ?_
  refine lv_iload_n hx hb dX5_init_120 rfl (lv_at hl 0 rfl) ?_
  refine kNew C X ok3 k_109 k_115 k_5 (fs := [.null, .null, .int 0]) (fun j hj => by rcases (show j = 0 ∨ j = 1 ∨ j = 2 by omega) with rfl | rfl | rfl <;> rfl) (by omega) (by omega) dX5_init_121 (fun q H X => ?_)
  refine lv_dup hx hb dX5_init_124 rfl ?_
  refine kCallN (ctNX3 cy) C X k_118 k_5 k_117 nk_14 rfl lkdX3 hl.1 (Nat.le_of_ble_eq_true rfl) ⟨by omega, by omega⟩ ⟨by omega, by omega⟩ dX5_init_125 (fun u H locs X => ?_)
  refine kAst C X (G.length + 1) 4 (G.length + (B.length + 2)) 3 ok3 lk1 rfl lk2 hin (ws' := (h0, .inr (5, fs)) :: (G ++ (ta, .inl (cy 4, 6, .inr (.inr (.inr (.inr (va_up f i.toNatClampNeg (some q))))))) :: (B ++ mkX cy q u))) st1 dX5_init_128 (fun H locs X => ?_)
  refine rIinc (lv' := [(1, .int i2), (0, .ref h0)]) hx hb dX5_init_129 hl (k := 0) rfl hi2 rfl (by decide) rfl (fun ls hl => ?_)
  refine lv_goto (tgt := 110) hx hb dX5_init_132 (by decide) ?_
  refine W.widen (k := cells + 3) (n := slots + 166) (by omega) (by omega) ?_
  exact kk q u H locs ls X hl
set_option maxRecDepth 100000 in
set_option maxHeartbeats 8000000 in
theorem it5s {p : Program} {l : Launch} {e : Env} {R : Room} {s : State} {m : MethodId} {args : Array Value} {below : List Frame} {meth : Method} {c : Code} {H : Heap} {locs : List Loc} {cells slots : Nat} {Q : State → Prop} {A : Nat → Prop} {D : va_G} {cy : Nat → ClassId} {ls : Array Slot} {h0 ta : Nat} {fs : List Value} {G B : va_W} {f : Nat → Option Nat} {i i2 : Int32} (C : CK A s.heap p s m args meth c cX5_init 2 RX5 D cy) (X : WK A s.heap D ((h0, .inr (5, fs)) :: (G ++ (ta, .inl (cy 5, 4, .inr (.inr (.inr (.inr f))))) :: B)) H locs) (hfs : fs[6]? = some (.ref ta)) (hi : ¬ 4 ≤ i) (hin : vp_in i 4) (hi2 : i2 = i + 1) (hl : lv_has ls 2 [(1, .int i), (0, .ref h0)]) (hR : 2 ≤ R.frames ∧ 32 ≤ R.locals) (hc : cells + 2 ≤ R.cells ∧ slots + 43 ≤ R.slots)
    (kk : ∀ (q : Nat) (u : Nat → Nat) (H1 : Heap) (locs1 : List Loc) (ls1 : Array Slot), WK A s.heap D ((h0, .inr (5, fs)) :: (G ++ (ta, .inl (cy 5, 4, .inr (.inr (.inr (.inr (va_up f i.toNatClampNeg (some q))))))) :: (B ++ mkS cy q u))) H1 locs1 → lv_has ls1 2 [(1, .int i2), (0, .ref h0)] → W p l e R s m args below meth c H1 locs1 (cells + 2) (slots + 43) Q (F0 m 137 ls1 [])) : W p l e R s m args below meth c H locs cells slots Q (F0 m 137 ls []) := by
  have hx := C.1.1
  have hb := C.1.2.1
  refine lv_iload_n hx hb dX5_init_137 rfl (lv_at hl 0 rfl) ?_
  refine lv_iconst (v := 4) hx hb dX5_init_138 (by decide) ?_
  refine lv_icmp_ge (tgt := 161) hx hb dX5_init_139 (by decide) (fun c => absurd c hi) (fun _ => ?_)
  refine lv_aload_n hx hb dX5_init_142 rfl (lv_at hl 1 rfl) ?_
  refine kGet C X ok5 0 rfl 6 (by decide) k_170 hfs dX5_init_143 ?_
  refine lv_iload_n hx hb dX5_init_146 rfl (lv_at hl 0 rfl) ?_
  refine kNew C X ok1 k_111 k_130 k_6 (fs := [.int 0, .int 0, .null]) (fun j hj => by rcases (show j = 0 ∨ j = 1 ∨ j = 2 by omega) with rfl | rfl | rfl <;> rfl) (by omega) (by omega) dX5_init_147 (fun q H X => ?_)
  refine lv_dup hx hb dX5_init_150 rfl ?_
  refine kCallN (ctNX1 cy) C X k_133 k_6 k_132 nk_15 rfl lkdX1 hl.1 (Nat.le_of_ble_eq_true rfl) ⟨by omega, by omega⟩ ⟨by omega, by omega⟩ dX5_init_151 (fun u H locs X => ?_)
  refine kAst C X (G.length + 1) 5 (G.length + (B.length + 2)) 1 ok1 lk1 rfl lk2 hin (ws' := (h0, .inr (5, fs)) :: (G ++ (ta, .inl (cy 5, 4, .inr (.inr (.inr (.inr (va_up f i.toNatClampNeg (some q))))))) :: (B ++ mkS cy q u))) st1 dX5_init_154 (fun H locs X => ?_)
  refine rIinc (lv' := [(1, .int i2), (0, .ref h0)]) hx hb dX5_init_155 hl (k := 0) rfl hi2 rfl (by decide) rfl (fun ls hl => ?_)
  refine lv_goto (tgt := 137) hx hb dX5_init_158 (by decide) ?_
  refine W.widen (k := cells + 2) (n := slots + 43) (by omega) (by omega) ?_
  exact kk q u H locs ls X hl
set_option maxRecDepth 100000 in
set_option maxHeartbeats 8000000 in
theorem ctX5 (l : Launch) (D : va_G) (cy : Nat → ClassId) (h0 sz : Nat) (sta : Nat → Nat) : Met l yX5_init (.code yX5_init cX5_init 2 none :: tb) (romN 3 78 3022 71) (va_Pc [.ref h0] (fun U => PreN D cy h0 sz 5 fs5 U ∧ St true sta (va_A (W1 h0 5 fs5) sz) U U.heap)) (va_Qv (fun (ad : Nat → Nat) => ad 0 = h0 ∧ ∀ k, 100 ≤ k → ad k = sta k) (fun ad t => va_P D vwCl (cs (Sp true) cy ad μCI ν0) t.heap ∧ va_D (va_A (W1 h0 5 fs5) sz) (cs (Sp true) cy ad μCI ν0)) (va_A (W1 h0 5 fs5) sz)) 78 3022 (va_A (W1 h0 5 fs5) sz) := by
  refine Met.ofW (cc := cX5_init) (maxL := 2) (ret := none) (by decide) rfl ?_
  intro p e s m args below meth c s₁ B hml hv
  obtain ⟨rfl, ⟨hsz, hP, hD0, hKO⟩, hSt⟩ := hv
  subst hsz
  have hts := atoms_spec (ws := .code yX5_init cX5_init 2 none :: tb) B.pre
  have hown : s.vm.findClass RX5 = some m.cls := findClass_of_methodNamed B.named
  have hin : meth.name = "<init>" := (name_of_methodNamed B.named B.method).1
  have hr := B.returns
  have hl := lv_entry ([.ref h0]) (n := 2) (Nat.le_of_ble_eq_true rfl)
  rw [lg_entry_eq]
  generalize (lg_sl ([.ref h0]) ++ List.replicate (2 - (lg_sl ([.ref h0])).length) Slot.unset).toArray = ls at hl ⊢
  have hl : lv_has ls 2 [(0, .ref h0)] := hl
  generalize hAe : va_A (W1 h0 5 fs5) s.heap.size = A at hSt ⊢
  have C : CK A s.heap p s m _ meth c cX5_init 2 RX5 D cy := ⟨⟨B.exec, B.bytes, hml, hown, fun w hw => hts w (List.mem_cons_of_mem _ hw)⟩, hKO, fun q h => by rw [← hAe]; exact Or.inr h, hin, B.notSynchronized⟩
  have X : WK A s.heap D (W1 h0 5 fs5) s.heap [] := ⟨hP, by rw [← hAe]; exact hD0.self, va_S.rf⟩
  have hx := C.1.1
  have hb := C.1.2.1
  refine lv_aload_n hx hb dX5_init_0 rfl (lv_at hl 0 rfl) ?_
  refine kObj C kx_21 kx_22 kx_23 hl.1 (Nat.le_of_ble_eq_true rfl) (Nat.le_of_ble_eq_true rfl) dX5_init_1 ?_
  refine lv_aload_n hx hb dX5_init_4 rfl (lv_at hl 0 rfl) ?_
  refine kNew C X ok0 k_24 k_25 k_2 (fs := [.int 0, .int 0, .int 0, .null]) (fun j hj => by rcases (show j = 0 ∨ j = 1 ∨ j = 2 ∨ j = 3 by omega) with rfl | rfl | rfl | rfl <;> rfl) (Nat.le_of_ble_eq_true rfl) (Nat.le_of_ble_eq_true rfl) dX5_init_5 (fun q1 H X => ?_)
  refine lv_dup hx hb dX5_init_8 rfl ?_
  refine kCall (ctNX0 cy) C X k_28 k_2 k_27 k_26 rfl lkdX0 hl.1 (Nat.le_of_ble_eq_true rfl) ⟨(Nat.le_of_ble_eq_true rfl), (Nat.le_of_ble_eq_true rfl)⟩ ⟨(Nat.le_of_ble_eq_true rfl), (Nat.le_of_ble_eq_true rfl)⟩ dX5_init_9 (fun u2 H locs X => ?_)
  refine kPutF C X ok5 0 rfl 0 (by decide) k_164 rfl rfl (v := .ref q1) rfl rfl (Nat.le_of_ble_eq_true rfl) (ws' := ([(h0, .inr (5, [.ref q1, .null, .int 0, .null, .null, .int 0, .null, .null, .null, .null, .null, .null, .null]))] ++ mkP cy q1 u2)) rfl dX5_init_12 (fun H locs X => ?_)
  refine lv_aload_n hx hb dX5_init_15 rfl (lv_at hl 0 rfl) ?_
  refine kNew C X ok0 k_24 k_25 k_2 (fs := [.int 0, .int 0, .int 0, .null]) (fun j hj => by rcases (show j = 0 ∨ j = 1 ∨ j = 2 ∨ j = 3 by omega) with rfl | rfl | rfl | rfl <;> rfl) (Nat.le_of_ble_eq_true rfl) (Nat.le_of_ble_eq_true rfl) dX5_init_16 (fun q3 H X => ?_)
  refine lv_dup hx hb dX5_init_19 rfl ?_
  refine kCall (ctNX0 cy) C X k_28 k_2 k_27 k_26 rfl lkdX0 hl.1 (Nat.le_of_ble_eq_true rfl) ⟨(Nat.le_of_ble_eq_true rfl), (Nat.le_of_ble_eq_true rfl)⟩ ⟨(Nat.le_of_ble_eq_true rfl), (Nat.le_of_ble_eq_true rfl)⟩ dX5_init_20 (fun u4 H locs X => ?_)
  refine kPutF C X ok5 0 rfl 1 (by decide) k_165 rfl rfl (v := .ref q3) rfl rfl (Nat.le_of_ble_eq_true rfl) (ws' := (([(h0, .inr (5, [.ref q1, .ref q3, .int 0, .null, .null, .int 0, .null, .null, .null, .null, .null, .null, .null]))] ++ mkP cy q1 u2) ++ mkP cy q3 u4)) rfl dX5_init_23 (fun H locs X => ?_)
  refine lv_aload_n hx hb dX5_init_26 rfl (lv_at hl 0 rfl) ?_
  refine kNew C X ok2 k_77 k_78 k_4 (fs := [.null, .int 0, .int 0, .int 0, .int 0, .int 0, .int 0, .null]) (fun j hj => by rcases (show j = 0 ∨ j = 1 ∨ j = 2 ∨ j = 3 ∨ j = 4 ∨ j = 5 ∨ j = 6 ∨ j = 7 by omega) with rfl | rfl | rfl | rfl | rfl | rfl | rfl | rfl <;> rfl) (Nat.le_of_ble_eq_true rfl) (Nat.le_of_ble_eq_true rfl) dX5_init_27 (fun q5 H X => ?_)
  refine lv_dup hx hb dX5_init_30 rfl ?_
  refine kCallN (ctNX2 cy) C X k_81 k_4 k_80 nk_11 rfl lkdX2 hl.1 (Nat.le_of_ble_eq_true rfl) ⟨(Nat.le_of_ble_eq_true rfl), (Nat.le_of_ble_eq_true rfl)⟩ ⟨(Nat.le_of_ble_eq_true rfl), (Nat.le_of_ble_eq_true rfl)⟩ dX5_init_31 (fun u6 H locs X => ?_)
  refine kPutF C X ok5 0 rfl 3 (by decide) k_167 rfl rfl (v := .ref q5) rfl rfl (Nat.le_of_ble_eq_true rfl) (ws' := ((([(h0, .inr (5, [.ref q1, .ref q3, .int 0, .ref q5, .null, .int 0, .null, .null, .null, .null, .null, .null, .null]))] ++ mkP cy q1 u2) ++ mkP cy q3 u4) ++ mkT cy q5 u6)) rfl dX5_init_34 (fun H locs X => ?_)
  refine lv_aload_n hx hb dX5_init_37 rfl (lv_at hl 0 rfl) ?_
  refine lv_bipush (v := 6) hx hb dX5_init_38 (by decide) ?_
  refine kArrQ C X k_109 C.2.1.2.2.2.1 4 rfl (by decide) (N := 6) rfl (Nat.le_of_ble_eq_true rfl) (Nat.le_of_ble_eq_true rfl) (Nat.le_of_ble_eq_true rfl) dX5_init_40 (fun q7 H X => ?_)
  refine kPutF C X ok5 0 rfl 4 (by decide) k_168 rfl rfl (v := .ref q7) rfl rfl (Nat.le_of_ble_eq_true rfl) (ws' := (((([(h0, .inr (5, [.ref q1, .ref q3, .int 0, .ref q5, .ref q7, .int 0, .null, .null, .null, .null, .null, .null, .null]))] ++ mkP cy q1 u2) ++ mkP cy q3 u4) ++ mkT cy q5 u6) ++ [(q7, .inl (cy 4, 6, .inr (.inr (.inr (.inr (fun _ => none))))))])) rfl dX5_init_43 (fun H locs X => ?_)
  refine lv_aload_n hx hb dX5_init_46 rfl (lv_at hl 0 rfl) ?_
  refine lv_iconst (v := 4) hx hb dX5_init_47 (by decide) ?_
  refine kArrQ C X k_111 C.2.1.2.2.2.2 5 rfl (by decide) (N := 4) rfl (Nat.le_of_ble_eq_true rfl) (Nat.le_of_ble_eq_true rfl) (Nat.le_of_ble_eq_true rfl) dX5_init_48 (fun q8 H X => ?_)
  refine kPutF C X ok5 0 rfl 6 (by decide) k_170 rfl rfl (v := .ref q8) rfl rfl (Nat.le_of_ble_eq_true rfl) (ws' := ((((([(h0, .inr (5, [.ref q1, .ref q3, .int 0, .ref q5, .ref q7, .int 0, .ref q8, .null, .null, .null, .null, .null, .null]))] ++ mkP cy q1 u2) ++ mkP cy q3 u4) ++ mkT cy q5 u6) ++ [(q7, .inl (cy 4, 6, .inr (.inr (.inr (.inr (fun _ => none))))))]) ++ [(q8, .inl (cy 5, 4, .inr (.inr (.inr (.inr (fun _ => none))))))])) rfl dX5_init_51 (fun H locs X => ?_)
  refine lv_aload_n hx hb dX5_init_54 rfl (lv_at hl 0 rfl) ?_
  refine lv_sipush (v := 601) hx hb dX5_init_55 (by decide) ?_
  refine kArr (atype := .int) (a0 := (601, .inl (fun _ => 0))) C X (ty := .int) rfl kx_59 0 rfl (fun U x h => h) (fun _ => rfl) (by decide) (N := 601) rfl (Nat.le_of_ble_eq_true rfl) (Nat.le_of_ble_eq_true rfl) (Nat.le_of_ble_eq_true rfl) dX5_init_58 (fun q9 H X => ?_)
  refine kPutF C X ok5 0 rfl 7 (by decide) k_171 rfl rfl (v := .ref q9) rfl rfl (Nat.le_of_ble_eq_true rfl) (ws' := (((((([(h0, .inr (5, [.ref q1, .ref q3, .int 0, .ref q5, .ref q7, .int 0, .ref q8, .ref q9, .null, .null, .null, .null, .null]))] ++ mkP cy q1 u2) ++ mkP cy q3 u4) ++ mkT cy q5 u6) ++ [(q7, .inl (cy 4, 6, .inr (.inr (.inr (.inr (fun _ => none))))))]) ++ [(q8, .inl (cy 5, 4, .inr (.inr (.inr (.inr (fun _ => none))))))]) ++ [(q9, .inl (cy 0, 601, .inl (fun _ => 0)))])) rfl dX5_init_60 (fun H locs X => ?_)
  refine lv_aload_n hx hb dX5_init_63 rfl (lv_at hl 0 rfl) ?_
  refine lv_sipush (v := 601) hx hb dX5_init_64 (by decide) ?_
  refine kArr (atype := .int) (a0 := (601, .inl (fun _ => 0))) C X (ty := .int) rfl kx_59 0 rfl (fun U x h => h) (fun _ => rfl) (by decide) (N := 601) rfl (Nat.le_of_ble_eq_true rfl) (Nat.le_of_ble_eq_true rfl) (Nat.le_of_ble_eq_true rfl) dX5_init_67 (fun q10 H X => ?_)
  refine kPutF C X ok5 0 rfl 8 (by decide) k_172 rfl rfl (v := .ref q10) rfl rfl (Nat.le_of_ble_eq_true rfl) (ws' := ((((((([(h0, .inr (5, [.ref q1, .ref q3, .int 0, .ref q5, .ref q7, .int 0, .ref q8, .ref q9, .ref q10, .null, .null, .null, .null]))] ++ mkP cy q1 u2) ++ mkP cy q3 u4) ++ mkT cy q5 u6) ++ [(q7, .inl (cy 4, 6, .inr (.inr (.inr (.inr (fun _ => none))))))]) ++ [(q8, .inl (cy 5, 4, .inr (.inr (.inr (.inr (fun _ => none))))))]) ++ [(q9, .inl (cy 0, 601, .inl (fun _ => 0)))]) ++ [(q10, .inl (cy 0, 601, .inl (fun _ => 0)))])) rfl dX5_init_69 (fun H locs X => ?_)
  refine lv_aload_n hx hb dX5_init_72 rfl (lv_at hl 0 rfl) ?_
  refine lv_bipush (v := 6) hx hb dX5_init_73 (by decide) ?_
  refine kArr (atype := .int) (a0 := (6, .inl (fun _ => 0))) C X (ty := .int) rfl kx_59 0 rfl (fun U x h => h) (fun _ => rfl) (by decide) (N := 6) rfl (Nat.le_of_ble_eq_true rfl) (Nat.le_of_ble_eq_true rfl) (Nat.le_of_ble_eq_true rfl) dX5_init_75 (fun q11 H X => ?_)
  refine kPutF C X ok5 0 rfl 9 (by decide) k_173 rfl rfl (v := .ref q11) rfl rfl (Nat.le_of_ble_eq_true rfl) (ws' := (((((((([(h0, .inr (5, [.ref q1, .ref q3, .int 0, .ref q5, .ref q7, .int 0, .ref q8, .ref q9, .ref q10, .ref q11, .null, .null, .null]))] ++ mkP cy q1 u2) ++ mkP cy q3 u4) ++ mkT cy q5 u6) ++ [(q7, .inl (cy 4, 6, .inr (.inr (.inr (.inr (fun _ => none))))))]) ++ [(q8, .inl (cy 5, 4, .inr (.inr (.inr (.inr (fun _ => none))))))]) ++ [(q9, .inl (cy 0, 601, .inl (fun _ => 0)))]) ++ [(q10, .inl (cy 0, 601, .inl (fun _ => 0)))]) ++ [(q11, .inl (cy 0, 6, .inl (fun _ => 0)))])) rfl dX5_init_77 (fun H locs X => ?_)
  refine lv_aload_n hx hb dX5_init_80 rfl (lv_at hl 0 rfl) ?_
  refine lv_sipush (v := 160) hx hb dX5_init_81 (by decide) ?_
  refine kArr (atype := .int) (a0 := (160, .inl (fun _ => 0))) C X (ty := .int) rfl kx_59 0 rfl (fun U x h => h) (fun _ => rfl) (by decide) (N := 160) rfl (Nat.le_of_ble_eq_true rfl) (Nat.le_of_ble_eq_true rfl) (Nat.le_of_ble_eq_true rfl) dX5_init_84 (fun q12 H X => ?_)
  refine kPutF C X ok5 0 rfl 10 (by decide) k_174 rfl rfl (v := .ref q12) rfl rfl (Nat.le_of_ble_eq_true rfl) (ws' := ((((((((([(h0, .inr (5, [.ref q1, .ref q3, .int 0, .ref q5, .ref q7, .int 0, .ref q8, .ref q9, .ref q10, .ref q11, .ref q12, .null, .null]))] ++ mkP cy q1 u2) ++ mkP cy q3 u4) ++ mkT cy q5 u6) ++ [(q7, .inl (cy 4, 6, .inr (.inr (.inr (.inr (fun _ => none))))))]) ++ [(q8, .inl (cy 5, 4, .inr (.inr (.inr (.inr (fun _ => none))))))]) ++ [(q9, .inl (cy 0, 601, .inl (fun _ => 0)))]) ++ [(q10, .inl (cy 0, 601, .inl (fun _ => 0)))]) ++ [(q11, .inl (cy 0, 6, .inl (fun _ => 0)))]) ++ [(q12, .inl (cy 0, 160, .inl (fun _ => 0)))])) rfl dX5_init_86 (fun H locs X => ?_)
  refine lv_aload_n hx hb dX5_init_89 rfl (lv_at hl 0 rfl) ?_
  refine lv_bipush (v := 15) hx hb dX5_init_90 (by decide) ?_
  refine kArr (atype := .int) (a0 := (15, .inl (fun _ => 0))) C X (ty := .int) rfl kx_59 0 rfl (fun U x h => h) (fun _ => rfl) (by decide) (N := 15) rfl (Nat.le_of_ble_eq_true rfl) (Nat.le_of_ble_eq_true rfl) (Nat.le_of_ble_eq_true rfl) dX5_init_92 (fun q13 H X => ?_)
  refine kPutF C X ok5 0 rfl 11 (by decide) k_175 rfl rfl (v := .ref q13) rfl rfl (Nat.le_of_ble_eq_true rfl) (ws' := (((((((((([(h0, .inr (5, [.ref q1, .ref q3, .int 0, .ref q5, .ref q7, .int 0, .ref q8, .ref q9, .ref q10, .ref q11, .ref q12, .ref q13, .null]))] ++ mkP cy q1 u2) ++ mkP cy q3 u4) ++ mkT cy q5 u6) ++ [(q7, .inl (cy 4, 6, .inr (.inr (.inr (.inr (fun _ => none))))))]) ++ [(q8, .inl (cy 5, 4, .inr (.inr (.inr (.inr (fun _ => none))))))]) ++ [(q9, .inl (cy 0, 601, .inl (fun _ => 0)))]) ++ [(q10, .inl (cy 0, 601, .inl (fun _ => 0)))]) ++ [(q11, .inl (cy 0, 6, .inl (fun _ => 0)))]) ++ [(q12, .inl (cy 0, 160, .inl (fun _ => 0)))]) ++ [(q13, .inl (cy 0, 15, .inl (fun _ => 0)))])) rfl dX5_init_94 (fun H locs X => ?_)
  refine lv_aload_n hx hb dX5_init_97 rfl (lv_at hl 0 rfl) ?_
  refine kNew C X ok4 k_113 k_32 k_3 (fs := [.int 0, .int 0, .int 0, .null, .null]) (fun j hj => by rcases (show j = 0 ∨ j = 1 ∨ j = 2 ∨ j = 3 ∨ j = 4 by omega) with rfl | rfl | rfl | rfl | rfl <;> rfl) (Nat.le_of_ble_eq_true rfl) (Nat.le_of_ble_eq_true rfl) dX5_init_98 (fun q14 H X => ?_)
  refine lv_dup hx hb dX5_init_101 rfl ?_
  refine kCallN (ctNX4 cy) C X k_35 k_3 k_34 nk_13 rfl lkdX4 hl.1 (Nat.le_of_ble_eq_true rfl) ⟨(Nat.le_of_ble_eq_true rfl), (Nat.le_of_ble_eq_true rfl)⟩ ⟨(Nat.le_of_ble_eq_true rfl), (Nat.le_of_ble_eq_true rfl)⟩ dX5_init_102 (fun u15 H locs X => ?_)
  refine kPutF C X ok5 0 rfl 12 (by decide) k_176 rfl rfl (v := .ref q14) rfl rfl (Nat.le_of_ble_eq_true rfl) (ws' := ((((((((((([(h0, .inr (5, [.ref q1, .ref q3, .int 0, .ref q5, .ref q7, .int 0, .ref q8, .ref q9, .ref q10, .ref q11, .ref q12, .ref q13, .ref q14]))] ++ mkP cy q1 u2) ++ mkP cy q3 u4) ++ mkT cy q5 u6) ++ [(q7, .inl (cy 4, 6, .inr (.inr (.inr (.inr (fun _ => none))))))]) ++ [(q8, .inl (cy 5, 4, .inr (.inr (.inr (.inr (fun _ => none))))))]) ++ [(q9, .inl (cy 0, 601, .inl (fun _ => 0)))]) ++ [(q10, .inl (cy 0, 601, .inl (fun _ => 0)))]) ++ [(q11, .inl (cy 0, 6, .inl (fun _ => 0)))]) ++ [(q12, .inl (cy 0, 160, .inl (fun _ => 0)))]) ++ [(q13, .inl (cy 0, 15, .inl (fun _ => 0)))]) ++ mkW cy q14 u15)) rfl dX5_init_105 (fun H locs X => ?_)
  refine lv_iconst (v := 0) hx hb dX5_init_108 (by decide) ?_
  refine lv_istore_n (lv' := [(1, .int 0), (0, .ref h0)]) hx hb dX5_init_109 rfl hl (by decide) rfl (fun ls hl => ?_)
  obtain ⟨G1, hG1⟩ : ∃ G1 : va_W, G1 = mkP cy q1 u2 ++ (mkP cy q3 u4 ++ (mkT cy q5 u6)) := ⟨_, rfl⟩
  obtain ⟨B0, hB0⟩ : ∃ B0 : va_W, B0 = [(q9, .inl (cy 0, 601, .inl (fun _ => 0)))] ++ ([(q10, .inl (cy 0, 601, .inl (fun _ => 0)))] ++ ([(q11, .inl (cy 0, 6, .inl (fun _ => 0)))] ++ ([(q12, .inl (cy 0, 160, .inl (fun _ => 0)))] ++ ([(q13, .inl (cy 0, 15, .inl (fun _ => 0)))] ++ (mkW cy q14 u15))))) := ⟨_, rfl⟩
  have X : WK A s.heap D ((h0, .inr (5, [.ref q1, .ref q3, .int 0, .ref q5, .ref q7, .int 0, .ref q8, .ref q9, .ref q10, .ref q11, .ref q12, .ref q13, .ref q14])) :: (G1 ++ (q7, .inl (cy 4, 6, .inr (.inr (.inr (.inr (fun _ => none)))))) :: ((q8, .inl (cy 5, 4, .inr (.inr (.inr (.inr (fun _ => none)))))) :: B0))) H locs := by
      rw [hG1, hB0]
      simpa only [List.append_assoc, List.cons_append, List.nil_append] using X
  refine W.widen (k := 52) (n := 1854) (Nat.le_of_ble_eq_true rfl) (Nat.le_of_ble_eq_true rfl) ?_
  refine it5t (i := 0) (i2 := 1) C X rfl (by decide) (show ¬ ((0 : Int32) < 0 ∨ 6 ≤ (0 : Int32).toNatClampNeg) by decide) (by decide) hl ⟨(Nat.le_of_ble_eq_true rfl), (Nat.le_of_ble_eq_true rfl)⟩ ⟨(Nat.le_of_ble_eq_true rfl), (Nat.le_of_ble_eq_true rfl)⟩ (fun x0 y0 H locs ls X hl => ?_)
  refine it5t (i := 1) (i2 := 2) C X rfl (by decide) (show ¬ ((1 : Int32) < 0 ∨ 6 ≤ (1 : Int32).toNatClampNeg) by decide) (by decide) hl ⟨(Nat.le_of_ble_eq_true rfl), (Nat.le_of_ble_eq_true rfl)⟩ ⟨(Nat.le_of_ble_eq_true rfl), (Nat.le_of_ble_eq_true rfl)⟩ (fun x1 y1 H locs ls X hl => ?_)
  refine it5t (i := 2) (i2 := 3) C X rfl (by decide) (show ¬ ((2 : Int32) < 0 ∨ 6 ≤ (2 : Int32).toNatClampNeg) by decide) (by decide) hl ⟨(Nat.le_of_ble_eq_true rfl), (Nat.le_of_ble_eq_true rfl)⟩ ⟨(Nat.le_of_ble_eq_true rfl), (Nat.le_of_ble_eq_true rfl)⟩ (fun x2 y2 H locs ls X hl => ?_)
  refine it5t (i := 3) (i2 := 4) C X rfl (by decide) (show ¬ ((3 : Int32) < 0 ∨ 6 ≤ (3 : Int32).toNatClampNeg) by decide) (by decide) hl ⟨(Nat.le_of_ble_eq_true rfl), (Nat.le_of_ble_eq_true rfl)⟩ ⟨(Nat.le_of_ble_eq_true rfl), (Nat.le_of_ble_eq_true rfl)⟩ (fun x3 y3 H locs ls X hl => ?_)
  refine it5t (i := 4) (i2 := 5) C X rfl (by decide) (show ¬ ((4 : Int32) < 0 ∨ 6 ≤ (4 : Int32).toNatClampNeg) by decide) (by decide) hl ⟨(Nat.le_of_ble_eq_true rfl), (Nat.le_of_ble_eq_true rfl)⟩ ⟨(Nat.le_of_ble_eq_true rfl), (Nat.le_of_ble_eq_true rfl)⟩ (fun x4 y4 H locs ls X hl => ?_)
  refine it5t (i := 5) (i2 := 6) C X rfl (by decide) (show ¬ ((5 : Int32) < 0 ∨ 6 ≤ (5 : Int32).toNatClampNeg) by decide) (by decide) hl ⟨(Nat.le_of_ble_eq_true rfl), (Nat.le_of_ble_eq_true rfl)⟩ ⟨(Nat.le_of_ble_eq_true rfl), (Nat.le_of_ble_eq_true rfl)⟩ (fun x5 y5 H locs ls X hl => ?_)
  refine lv_iload_n hx hb dX5_init_110 rfl (lv_at hl 0 rfl) ?_
  refine lv_bipush (v := 6) hx hb dX5_init_111 (by decide) ?_
  refine lv_icmp_ge (tgt := 135) hx hb dX5_init_113 (by decide) (fun _ => ?_) (fun c => absurd (by decide) c)
  refine lv_iconst (v := 0) hx hb dX5_init_135 (by decide) ?_
  refine lv_istore_n (lv' := [(1, .int 0), (0, .ref h0)]) hx hb dX5_init_136 rfl hl (by decide) rfl (fun ls hl => ?_)
  obtain ⟨fT, hfT⟩ : ∃ f : Nat → Option Nat, f = (va_up (va_up (va_up (va_up (va_up (va_up (fun _ => none) (0 : Int32).toNatClampNeg (some x0)) (1 : Int32).toNatClampNeg (some x1)) (2 : Int32).toNatClampNeg (some x2)) (3 : Int32).toNatClampNeg (some x3)) (4 : Int32).toNatClampNeg (some x4)) (5 : Int32).toNatClampNeg (some x5)) := ⟨_, rfl⟩
  obtain ⟨B1, hB1⟩ : ∃ B1 : va_W, B1 = B0 ++ (mkX cy x0 y0 ++ (mkX cy x1 y1 ++ (mkX cy x2 y2 ++ (mkX cy x3 y3 ++ (mkX cy x4 y4 ++ (mkX cy x5 y5)))))) := ⟨_, rfl⟩
  have X : WK A s.heap D ((h0, .inr (5, [.ref q1, .ref q3, .int 0, .ref q5, .ref q7, .int 0, .ref q8, .ref q9, .ref q10, .ref q11, .ref q12, .ref q13, .ref q14])) :: ((G1 ++ [(q7, .inl (cy 4, 6, .inr (.inr (.inr (.inr fT)))))]) ++ (q8, .inl (cy 5, 4, .inr (.inr (.inr (.inr (fun _ => none)))))) :: B1)) H locs := by
      rw [hB1, hfT]
      simpa only [List.append_assoc, List.cons_append, List.nil_append] using X
  refine W.widen (k := 70) (n := 2850) (Nat.le_of_ble_eq_true rfl) (Nat.le_of_ble_eq_true rfl) ?_
  refine it5s (i := 0) (i2 := 1) C X rfl (by decide) (show ¬ ((0 : Int32) < 0 ∨ 4 ≤ (0 : Int32).toNatClampNeg) by decide) (by decide) hl ⟨(Nat.le_of_ble_eq_true rfl), (Nat.le_of_ble_eq_true rfl)⟩ ⟨(Nat.le_of_ble_eq_true rfl), (Nat.le_of_ble_eq_true rfl)⟩ (fun z0 w0 H locs ls X hl => ?_)
  refine it5s (i := 1) (i2 := 2) C X rfl (by decide) (show ¬ ((1 : Int32) < 0 ∨ 4 ≤ (1 : Int32).toNatClampNeg) by decide) (by decide) hl ⟨(Nat.le_of_ble_eq_true rfl), (Nat.le_of_ble_eq_true rfl)⟩ ⟨(Nat.le_of_ble_eq_true rfl), (Nat.le_of_ble_eq_true rfl)⟩ (fun z1 w1 H locs ls X hl => ?_)
  refine it5s (i := 2) (i2 := 3) C X rfl (by decide) (show ¬ ((2 : Int32) < 0 ∨ 4 ≤ (2 : Int32).toNatClampNeg) by decide) (by decide) hl ⟨(Nat.le_of_ble_eq_true rfl), (Nat.le_of_ble_eq_true rfl)⟩ ⟨(Nat.le_of_ble_eq_true rfl), (Nat.le_of_ble_eq_true rfl)⟩ (fun z2 w2 H locs ls X hl => ?_)
  refine it5s (i := 3) (i2 := 4) C X rfl (by decide) (show ¬ ((3 : Int32) < 0 ∨ 4 ≤ (3 : Int32).toNatClampNeg) by decide) (by decide) hl ⟨(Nat.le_of_ble_eq_true rfl), (Nat.le_of_ble_eq_true rfl)⟩ ⟨(Nat.le_of_ble_eq_true rfl), (Nat.le_of_ble_eq_true rfl)⟩ (fun z3 w3 H locs ls X hl => ?_)
  refine lv_iload_n hx hb dX5_init_137 rfl (lv_at hl 0 rfl) ?_
  refine lv_iconst (v := 4) hx hb dX5_init_138 (by decide) ?_
  refine lv_icmp_ge (tgt := 161) hx hb dX5_init_139 (by decide) (fun _ => ?_) (fun c => absurd (by decide) c)
  obtain ⟨fS, hfS⟩ : ∃ f : Nat → Option Nat, f = (va_up (va_up (va_up (va_up (fun _ => none) (0 : Int32).toNatClampNeg (some z0)) (1 : Int32).toNatClampNeg (some z1)) (2 : Int32).toNatClampNeg (some z2)) (3 : Int32).toNatClampNeg (some z3)) := ⟨_, rfl⟩
  have X : WK A s.heap D ((h0, .inr (5, [.ref q1, .ref q3, .int 0, .ref q5, .ref q7, .int 0, .ref q8, .ref q9, .ref q10, .ref q11, .ref q12, .ref q13, .ref q14])) :: ((G1 ++ [(q7, .inl (cy 4, 6, .inr (.inr (.inr (.inr fT)))))]) ++ (q8, .inl (cy 5, 4, .inr (.inr (.inr (.inr fS))))) :: (B1 ++ (mkS cy z0 w0 ++ (mkS cy z1 w1 ++ (mkS cy z2 w2 ++ (mkS cy z3 w3))))))) H locs := by
      rw [hfS]
      simpa only [List.append_assoc, List.cons_append, List.nil_append] using X
  refine W.widen (k := 78) (n := 3022) (Nat.le_of_ble_eq_true rfl) (Nat.le_of_ble_eq_true rfl) ?_
  have hM : ∀ q, q ∈ ((h0, .inr (5, [.ref q1, .ref q3, .int 0, .ref q5, .ref q7, .int 0, .ref q8, .ref q9, .ref q10, .ref q11, .ref q12, .ref q13, .ref q14])) :: ((G1 ++ [(q7, .inl (cy 4, 6, .inr (.inr (.inr (.inr fT)))))]) ++ (q8, .inl (cy 5, 4, .inr (.inr (.inr (.inr fS))))) :: (B1 ++ (mkS cy z0 w0 ++ (mkS cy z1 w1 ++ (mkS cy z2 w2 ++ (mkS cy z3 w3)))))) : va_W) ↔ q = (h0, .inr (5, [.ref q1, .ref q3, .int 0, .ref q5, .ref q7, .int 0, .ref q8, .ref q9, .ref q10, .ref q11, .ref q12, .ref q13, .ref q14])) ∨ q ∈ mkP cy q1 u2 ∨ q ∈ mkP cy q3 u4 ∨ q ∈ mkT cy q5 u6 ∨ q = (q7, .inl (cy 4, 6, .inr (.inr (.inr (.inr fT))))) ∨ q = (q8, .inl (cy 5, 4, .inr (.inr (.inr (.inr fS))))) ∨ q = (q9, .inl (cy 0, 601, .inl (fun _ => 0))) ∨ q = (q10, .inl (cy 0, 601, .inl (fun _ => 0))) ∨ q = (q11, .inl (cy 0, 6, .inl (fun _ => 0))) ∨ q = (q12, .inl (cy 0, 160, .inl (fun _ => 0))) ∨ q = (q13, .inl (cy 0, 15, .inl (fun _ => 0))) ∨ q ∈ mkW cy q14 u15 ∨ q ∈ mkX cy x0 y0 ∨ q ∈ mkX cy x1 y1 ∨ q ∈ mkX cy x2 y2 ∨ q ∈ mkX cy x3 y3 ∨ q ∈ mkX cy x4 y4 ∨ q ∈ mkX cy x5 y5 ∨ q ∈ mkS cy z0 w0 ∨ q ∈ mkS cy z1 w1 ∨ q ∈ mkS cy z2 w2 ∨ q ∈ mkS cy z3 w3 := by
      intro q
      rw [hB1, hB0, hG1]
      simp only [List.mem_cons, List.mem_append, List.not_mem_nil, or_false, or_assoc]
  have o0 : va_P D vwCl ([(h0, .inr (5, [.ref q1, .ref q3, .int 0, .ref q5, .ref q7, .int 0, .ref q8, .ref q9, .ref q10, .ref q11, .ref q12, .ref q13, .ref q14]))]) H := X.1.of (fun q hq => (hM q).mpr (by have hq := List.mem_singleton.mp hq; exact Or.inl hq))
  have g_q1 : va_P D vwCl (mkP cy q1 u2) H := X.1.of (fun q hq => (hM q).mpr (Or.inr (Or.inl hq)))
  have g_q3 : va_P D vwCl (mkP cy q3 u4) H := X.1.of (fun q hq => (hM q).mpr (Or.inr (Or.inr (Or.inl hq))))
  have g_q5 : va_P D vwCl (mkT cy q5 u6) H := X.1.of (fun q hq => (hM q).mpr (Or.inr (Or.inr (Or.inr (Or.inl hq)))))
  have g_t : va_P D vwCl ([(q7, .inl (cy 4, 6, .inr (.inr (.inr (.inr fT)))))]) H := X.1.of (fun q hq => (hM q).mpr (by have hq := List.mem_singleton.mp hq; exact Or.inr (Or.inr (Or.inr (Or.inr (Or.inl hq))))))
  have g_s : va_P D vwCl ([(q8, .inl (cy 5, 4, .inr (.inr (.inr (.inr fS)))))]) H := X.1.of (fun q hq => (hM q).mpr (by have hq := List.mem_singleton.mp hq; exact Or.inr (Or.inr (Or.inr (Or.inr (Or.inr (Or.inl hq)))))))
  have g_q9 : va_P D vwCl ([(q9, .inl (cy 0, 601, .inl (fun _ => 0)))]) H := X.1.of (fun q hq => (hM q).mpr (by have hq := List.mem_singleton.mp hq; exact Or.inr (Or.inr (Or.inr (Or.inr (Or.inr (Or.inr (Or.inl hq))))))))
  have g_q10 : va_P D vwCl ([(q10, .inl (cy 0, 601, .inl (fun _ => 0)))]) H := X.1.of (fun q hq => (hM q).mpr (by have hq := List.mem_singleton.mp hq; exact Or.inr (Or.inr (Or.inr (Or.inr (Or.inr (Or.inr (Or.inr (Or.inl hq)))))))))
  have g_q11 : va_P D vwCl ([(q11, .inl (cy 0, 6, .inl (fun _ => 0)))]) H := X.1.of (fun q hq => (hM q).mpr (by have hq := List.mem_singleton.mp hq; exact Or.inr (Or.inr (Or.inr (Or.inr (Or.inr (Or.inr (Or.inr (Or.inr (Or.inl hq))))))))))
  have g_q12 : va_P D vwCl ([(q12, .inl (cy 0, 160, .inl (fun _ => 0)))]) H := X.1.of (fun q hq => (hM q).mpr (by have hq := List.mem_singleton.mp hq; exact Or.inr (Or.inr (Or.inr (Or.inr (Or.inr (Or.inr (Or.inr (Or.inr (Or.inr (Or.inl hq)))))))))))
  have g_q13 : va_P D vwCl ([(q13, .inl (cy 0, 15, .inl (fun _ => 0)))]) H := X.1.of (fun q hq => (hM q).mpr (by have hq := List.mem_singleton.mp hq; exact Or.inr (Or.inr (Or.inr (Or.inr (Or.inr (Or.inr (Or.inr (Or.inr (Or.inr (Or.inr (Or.inl hq))))))))))))
  have g_q14 : va_P D vwCl (mkW cy q14 u15) H := X.1.of (fun q hq => (hM q).mpr (Or.inr (Or.inr (Or.inr (Or.inr (Or.inr (Or.inr (Or.inr (Or.inr (Or.inr (Or.inr (Or.inr (Or.inl hq)))))))))))))
  have g_x0 : va_P D vwCl (mkX cy x0 y0) H := X.1.of (fun q hq => (hM q).mpr (Or.inr (Or.inr (Or.inr (Or.inr (Or.inr (Or.inr (Or.inr (Or.inr (Or.inr (Or.inr (Or.inr (Or.inr (Or.inl hq))))))))))))))
  have g_x1 : va_P D vwCl (mkX cy x1 y1) H := X.1.of (fun q hq => (hM q).mpr (Or.inr (Or.inr (Or.inr (Or.inr (Or.inr (Or.inr (Or.inr (Or.inr (Or.inr (Or.inr (Or.inr (Or.inr (Or.inr (Or.inl hq)))))))))))))))
  have g_x2 : va_P D vwCl (mkX cy x2 y2) H := X.1.of (fun q hq => (hM q).mpr (Or.inr (Or.inr (Or.inr (Or.inr (Or.inr (Or.inr (Or.inr (Or.inr (Or.inr (Or.inr (Or.inr (Or.inr (Or.inr (Or.inr (Or.inl hq))))))))))))))))
  have g_x3 : va_P D vwCl (mkX cy x3 y3) H := X.1.of (fun q hq => (hM q).mpr (Or.inr (Or.inr (Or.inr (Or.inr (Or.inr (Or.inr (Or.inr (Or.inr (Or.inr (Or.inr (Or.inr (Or.inr (Or.inr (Or.inr (Or.inr (Or.inl hq)))))))))))))))))
  have g_x4 : va_P D vwCl (mkX cy x4 y4) H := X.1.of (fun q hq => (hM q).mpr (Or.inr (Or.inr (Or.inr (Or.inr (Or.inr (Or.inr (Or.inr (Or.inr (Or.inr (Or.inr (Or.inr (Or.inr (Or.inr (Or.inr (Or.inr (Or.inr (Or.inl hq))))))))))))))))))
  have g_x5 : va_P D vwCl (mkX cy x5 y5) H := X.1.of (fun q hq => (hM q).mpr (Or.inr (Or.inr (Or.inr (Or.inr (Or.inr (Or.inr (Or.inr (Or.inr (Or.inr (Or.inr (Or.inr (Or.inr (Or.inr (Or.inr (Or.inr (Or.inr (Or.inr (Or.inl hq)))))))))))))))))))
  have g_z0 : va_P D vwCl (mkS cy z0 w0) H := X.1.of (fun q hq => (hM q).mpr (Or.inr (Or.inr (Or.inr (Or.inr (Or.inr (Or.inr (Or.inr (Or.inr (Or.inr (Or.inr (Or.inr (Or.inr (Or.inr (Or.inr (Or.inr (Or.inr (Or.inr (Or.inr (Or.inl hq))))))))))))))))))))
  have g_z1 : va_P D vwCl (mkS cy z1 w1) H := X.1.of (fun q hq => (hM q).mpr (Or.inr (Or.inr (Or.inr (Or.inr (Or.inr (Or.inr (Or.inr (Or.inr (Or.inr (Or.inr (Or.inr (Or.inr (Or.inr (Or.inr (Or.inr (Or.inr (Or.inr (Or.inr (Or.inr (Or.inl hq)))))))))))))))))))))
  have g_z2 : va_P D vwCl (mkS cy z2 w2) H := X.1.of (fun q hq => (hM q).mpr (Or.inr (Or.inr (Or.inr (Or.inr (Or.inr (Or.inr (Or.inr (Or.inr (Or.inr (Or.inr (Or.inr (Or.inr (Or.inr (Or.inr (Or.inr (Or.inr (Or.inr (Or.inr (Or.inr (Or.inr (Or.inl hq))))))))))))))))))))))
  have g_z3 : va_P D vwCl (mkS cy z3 w3) H := X.1.of (fun q hq => (hM q).mpr (Or.inr (Or.inr (Or.inr (Or.inr (Or.inr (Or.inr (Or.inr (Or.inr (Or.inr (Or.inr (Or.inr (Or.inr (Or.inr (Or.inr (Or.inr (Or.inr (Or.inr (Or.inr (Or.inr (Or.inr (Or.inr (hq)))))))))))))))))))))))
  have hfTe : ∀ j, j < 6 → fT j = some ((mkad [h0, q1, q3, q5, (u6 0), q7, q8, q9, q10, q11, q12, q13, (u2 0), (u4 0), (u2 1), (u2 2), (u2 3), (u2 4), (u2 5), (u2 6), (u2 7), (u2 8), (u2 9), (u2 10), (u2 11), (u2 12), (u2 13), (u2 14), (u2 15), (u2 16), (u2 17), (u2 18), (u4 1), (u4 2), (u4 3), (u4 4), (u4 5), (u4 6), (u4 7), (u4 8), (u4 9), (u4 10), (u4 11), (u4 12), (u4 13), (u4 14), (u4 15), (u4 16), (u4 17), (u4 18), q14, (u15 0), (u15 1), x0, (y0 0), (y0 1), x1, (y1 0), (y1 1), x2, (y2 0), (y2 1), x3, (y3 0), (y3 1), x4, (y4 0), (y4 1), x5, (y5 0), (y5 1), z0, (w0 0), z1, (w1 0), z2, (w2 0), z3, (w3 0)] sta) (53 + 3 * j)) := by rw [hfT]; exact (fun j hj => by rcases (show j = 0 ∨ j = 1 ∨ j = 2 ∨ j = 3 ∨ j = 4 ∨ j = 5 by omega) with rfl | rfl | rfl | rfl | rfl | rfl <;> rfl)
  have hfSe : ∀ j, j < 4 → fS j = some ((mkad [h0, q1, q3, q5, (u6 0), q7, q8, q9, q10, q11, q12, q13, (u2 0), (u4 0), (u2 1), (u2 2), (u2 3), (u2 4), (u2 5), (u2 6), (u2 7), (u2 8), (u2 9), (u2 10), (u2 11), (u2 12), (u2 13), (u2 14), (u2 15), (u2 16), (u2 17), (u2 18), (u4 1), (u4 2), (u4 3), (u4 4), (u4 5), (u4 6), (u4 7), (u4 8), (u4 9), (u4 10), (u4 11), (u4 12), (u4 13), (u4 14), (u4 15), (u4 16), (u4 17), (u4 18), q14, (u15 0), (u15 1), x0, (y0 0), (y0 1), x1, (y1 0), (y1 1), x2, (y2 0), (y2 1), x3, (y3 0), (y3 1), x4, (y4 0), (y4 1), x5, (y5 0), (y5 1), z0, (w0 0), z1, (w1 0), z2, (w2 0), z3, (w3 0)] sta) (71 + 2 * j)) := by rw [hfS]; exact (fun j hj => by rcases (show j = 0 ∨ j = 1 ∨ j = 2 ∨ j = 3 by omega) with rfl | rfl | rfl | rfl <;> rfl)
  have hPc : va_P D vwCl (cs (Sp true) cy (mkad [h0, q1, q3, q5, (u6 0), q7, q8, q9, q10, q11, q12, q13, (u2 0), (u4 0), (u2 1), (u2 2), (u2 3), (u2 4), (u2 5), (u2 6), (u2 7), (u2 8), (u2 9), (u2 10), (u2 11), (u2 12), (u2 13), (u2 14), (u2 15), (u2 16), (u2 17), (u2 18), (u4 1), (u4 2), (u4 3), (u4 4), (u4 5), (u4 6), (u4 7), (u4 8), (u4 9), (u4 10), (u4 11), (u4 12), (u4 13), (u4 14), (u4 15), (u4 16), (u4 17), (u4 18), q14, (u15 0), (u15 1), x0, (y0 0), (y0 1), x1, (y1 0), (y1 1), x2, (y2 0), (y2 1), x3, (y3 0), (y3 1), x4, (y4 0), (y4 1), x5, (y5 0), (y5 1), z0, (w0 0), z1, (w1 0), z2, (w2 0), z3, (w3 0)] sta) μC0 ν0) H := by
      rw [cs_csF]
      refine va_P.cons (o0 0 _ rfl) ?_
      refine va_P.cons (g_q1 0 _ rfl) ?_
      refine va_P.cons (g_q3 0 _ rfl) ?_
      refine va_P.cons (g_q5 0 _ rfl) ?_
      refine va_P.cons (g_q5 1 _ rfl) ?_
      refine va_P.cons (va_at_q _ (g_t 0 _ rfl) hfTe) ?_
      refine va_P.cons (va_at_q _ (g_s 0 _ rfl) hfSe) ?_
      refine va_P.cons (g_q9 0 _ rfl) ?_
      refine va_P.cons (g_q10 0 _ rfl) ?_
      refine va_P.cons (g_q11 0 _ rfl) ?_
      refine va_P.cons (g_q12 0 _ rfl) ?_
      refine va_P.cons (g_q13 0 _ rfl) ?_
      refine va_P.cons (va_at_q (fun j => some ((mkad [h0, q1, q3, q5, (u6 0), q7, q8, q9, q10, q11, q12, q13, (u2 0), (u4 0), (u2 1), (u2 2), (u2 3), (u2 4), (u2 5), (u2 6), (u2 7), (u2 8), (u2 9), (u2 10), (u2 11), (u2 12), (u2 13), (u2 14), (u2 15), (u2 16), (u2 17), (u2 18), (u4 1), (u4 2), (u4 3), (u4 4), (u4 5), (u4 6), (u4 7), (u4 8), (u4 9), (u4 10), (u4 11), (u4 12), (u4 13), (u4 14), (u4 15), (u4 16), (u4 17), (u4 18), q14, (u15 0), (u15 1), x0, (y0 0), (y0 1), x1, (y1 0), (y1 1), x2, (y2 0), (y2 1), x3, (y3 0), (y3 1), x4, (y4 0), (y4 1), x5, (y5 0), (y5 1), z0, (w0 0), z1, (w1 0), z2, (w2 0), z3, (w3 0)] sta) (14 + 3 * j))) (g_q1 1 _ rfl) (fun j hj => by have hj : j < 6 := hj; rcases (show j = 0 ∨ j = 1 ∨ j = 2 ∨ j = 3 ∨ j = 4 ∨ j = 5 by omega) with rfl | rfl | rfl | rfl | rfl | rfl <;> rfl)) ?_
      refine va_P.cons (va_at_q (fun j => some ((mkad [h0, q1, q3, q5, (u6 0), q7, q8, q9, q10, q11, q12, q13, (u2 0), (u4 0), (u2 1), (u2 2), (u2 3), (u2 4), (u2 5), (u2 6), (u2 7), (u2 8), (u2 9), (u2 10), (u2 11), (u2 12), (u2 13), (u2 14), (u2 15), (u2 16), (u2 17), (u2 18), (u4 1), (u4 2), (u4 3), (u4 4), (u4 5), (u4 6), (u4 7), (u4 8), (u4 9), (u4 10), (u4 11), (u4 12), (u4 13), (u4 14), (u4 15), (u4 16), (u4 17), (u4 18), q14, (u15 0), (u15 1), x0, (y0 0), (y0 1), x1, (y1 0), (y1 1), x2, (y2 0), (y2 1), x3, (y3 0), (y3 1), x4, (y4 0), (y4 1), x5, (y5 0), (y5 1), z0, (w0 0), z1, (w1 0), z2, (w2 0), z3, (w3 0)] sta) (32 + 3 * j))) (g_q3 1 _ rfl) (fun j hj => by have hj : j < 6 := hj; rcases (show j = 0 ∨ j = 1 ∨ j = 2 ∨ j = 3 ∨ j = 4 ∨ j = 5 by omega) with rfl | rfl | rfl | rfl | rfl | rfl <;> rfl)) ?_
      refine va_P.cons (g_q1 2 _ rfl) ?_
      refine va_P.cons (g_q1 3 _ rfl) ?_
      refine va_P.cons (g_q1 4 _ rfl) ?_
      refine va_P.cons (g_q1 5 _ rfl) ?_
      refine va_P.cons (g_q1 6 _ rfl) ?_
      refine va_P.cons (g_q1 7 _ rfl) ?_
      refine va_P.cons (g_q1 8 _ rfl) ?_
      refine va_P.cons (g_q1 9 _ rfl) ?_
      refine va_P.cons (g_q1 10 _ rfl) ?_
      refine va_P.cons (g_q1 11 _ rfl) ?_
      refine va_P.cons (g_q1 12 _ rfl) ?_
      refine va_P.cons (g_q1 13 _ rfl) ?_
      refine va_P.cons (g_q1 14 _ rfl) ?_
      refine va_P.cons (g_q1 15 _ rfl) ?_
      refine va_P.cons (g_q1 16 _ rfl) ?_
      refine va_P.cons (g_q1 17 _ rfl) ?_
      refine va_P.cons (g_q1 18 _ rfl) ?_
      refine va_P.cons (g_q1 19 _ rfl) ?_
      refine va_P.cons (g_q3 2 _ rfl) ?_
      refine va_P.cons (g_q3 3 _ rfl) ?_
      refine va_P.cons (g_q3 4 _ rfl) ?_
      refine va_P.cons (g_q3 5 _ rfl) ?_
      refine va_P.cons (g_q3 6 _ rfl) ?_
      refine va_P.cons (g_q3 7 _ rfl) ?_
      refine va_P.cons (g_q3 8 _ rfl) ?_
      refine va_P.cons (g_q3 9 _ rfl) ?_
      refine va_P.cons (g_q3 10 _ rfl) ?_
      refine va_P.cons (g_q3 11 _ rfl) ?_
      refine va_P.cons (g_q3 12 _ rfl) ?_
      refine va_P.cons (g_q3 13 _ rfl) ?_
      refine va_P.cons (g_q3 14 _ rfl) ?_
      refine va_P.cons (g_q3 15 _ rfl) ?_
      refine va_P.cons (g_q3 16 _ rfl) ?_
      refine va_P.cons (g_q3 17 _ rfl) ?_
      refine va_P.cons (g_q3 18 _ rfl) ?_
      refine va_P.cons (g_q3 19 _ rfl) ?_
      refine va_P.cons (g_q14 0 _ rfl) ?_
      refine va_P.cons (g_q14 1 _ rfl) ?_
      refine va_P.cons (g_q14 2 _ rfl) ?_
      refine va_P.cons (g_x0 0 _ rfl) ?_
      refine va_P.cons (g_x0 1 _ rfl) ?_
      refine va_P.cons (g_x0 2 _ rfl) ?_
      refine va_P.cons (g_x1 0 _ rfl) ?_
      refine va_P.cons (g_x1 1 _ rfl) ?_
      refine va_P.cons (g_x1 2 _ rfl) ?_
      refine va_P.cons (g_x2 0 _ rfl) ?_
      refine va_P.cons (g_x2 1 _ rfl) ?_
      refine va_P.cons (g_x2 2 _ rfl) ?_
      refine va_P.cons (g_x3 0 _ rfl) ?_
      refine va_P.cons (g_x3 1 _ rfl) ?_
      refine va_P.cons (g_x3 2 _ rfl) ?_
      refine va_P.cons (g_x4 0 _ rfl) ?_
      refine va_P.cons (g_x4 1 _ rfl) ?_
      refine va_P.cons (g_x4 2 _ rfl) ?_
      refine va_P.cons (g_x5 0 _ rfl) ?_
      refine va_P.cons (g_x5 1 _ rfl) ?_
      refine va_P.cons (g_x5 2 _ rfl) ?_
      refine va_P.cons (g_z0 0 _ rfl) ?_
      refine va_P.cons (g_z0 1 _ rfl) ?_
      refine va_P.cons (g_z1 0 _ rfl) ?_
      refine va_P.cons (g_z1 1 _ rfl) ?_
      refine va_P.cons (g_z2 0 _ rfl) ?_
      refine va_P.cons (g_z2 1 _ rfl) ?_
      refine va_P.cons (g_z3 0 _ rfl) ?_
      refine va_P.cons (g_z3 1 _ rfl) ?_
      exact va_P.nil
  have hd1 : va_D A ([(h0, .inr (0, [])), (q1, .inr (0, [])), ((u2 0), .inr (0, [])), ((u2 1), .inr (0, [])), ((u2 2), .inr (0, [])), ((u2 3), .inr (0, [])), ((u2 4), .inr (0, [])), ((u2 5), .inr (0, [])), ((u2 6), .inr (0, [])), ((u2 7), .inr (0, [])), ((u2 8), .inr (0, [])), ((u2 9), .inr (0, [])), ((u2 10), .inr (0, [])), ((u2 11), .inr (0, [])), ((u2 12), .inr (0, [])), ((u2 13), .inr (0, [])), ((u2 14), .inr (0, [])), ((u2 15), .inr (0, [])), ((u2 16), .inr (0, [])), ((u2 17), .inr (0, [])), ((u2 18), .inr (0, [])), (q3, .inr (0, [])), ((u4 0), .inr (0, [])), ((u4 1), .inr (0, [])), ((u4 2), .inr (0, [])), ((u4 3), .inr (0, [])), ((u4 4), .inr (0, [])), ((u4 5), .inr (0, [])), ((u4 6), .inr (0, [])), ((u4 7), .inr (0, [])), ((u4 8), .inr (0, [])), ((u4 9), .inr (0, [])), ((u4 10), .inr (0, [])), ((u4 11), .inr (0, [])), ((u4 12), .inr (0, [])), ((u4 13), .inr (0, [])), ((u4 14), .inr (0, [])), ((u4 15), .inr (0, [])), ((u4 16), .inr (0, [])), ((u4 17), .inr (0, [])), ((u4 18), .inr (0, [])), (q5, .inr (0, [])), ((u6 0), .inr (0, [])), (q7, .inr (0, [])), (q8, .inr (0, [])), (q9, .inr (0, [])), (q10, .inr (0, [])), (q11, .inr (0, [])), (q12, .inr (0, [])), (q13, .inr (0, [])), (q14, .inr (0, [])), ((u15 0), .inr (0, [])), ((u15 1), .inr (0, [])), (x0, .inr (0, [])), ((y0 0), .inr (0, [])), ((y0 1), .inr (0, [])), (x1, .inr (0, [])), ((y1 0), .inr (0, [])), ((y1 1), .inr (0, [])), (x2, .inr (0, [])), ((y2 0), .inr (0, [])), ((y2 1), .inr (0, [])), (x3, .inr (0, [])), ((y3 0), .inr (0, [])), ((y3 1), .inr (0, [])), (x4, .inr (0, [])), ((y4 0), .inr (0, [])), ((y4 1), .inr (0, [])), (x5, .inr (0, [])), ((y5 0), .inr (0, [])), ((y5 1), .inr (0, [])), (z0, .inr (0, [])), ((w0 0), .inr (0, [])), (z1, .inr (0, [])), ((w1 0), .inr (0, [])), (z2, .inr (0, [])), ((w2 0), .inr (0, [])), (z3, .inr (0, [])), ((w3 0), .inr (0, []))] : va_W) := va_D_fst X.2.1 (by rw [hB1, hB0, hG1]; rfl)
  have hd2 : va_D A ([(h0, .inr (0, [])), (q1, .inr (0, [])), (q3, .inr (0, [])), (q5, .inr (0, [])), ((u6 0), .inr (0, [])), (q7, .inr (0, [])), (q8, .inr (0, [])), (q9, .inr (0, [])), (q10, .inr (0, [])), (q11, .inr (0, [])), (q12, .inr (0, [])), (q13, .inr (0, [])), ((u2 0), .inr (0, [])), ((u4 0), .inr (0, [])), ((u2 1), .inr (0, [])), ((u2 2), .inr (0, [])), ((u2 3), .inr (0, [])), ((u2 4), .inr (0, [])), ((u2 5), .inr (0, [])), ((u2 6), .inr (0, [])), ((u2 7), .inr (0, [])), ((u2 8), .inr (0, [])), ((u2 9), .inr (0, [])), ((u2 10), .inr (0, [])), ((u2 11), .inr (0, [])), ((u2 12), .inr (0, [])), ((u2 13), .inr (0, [])), ((u2 14), .inr (0, [])), ((u2 15), .inr (0, [])), ((u2 16), .inr (0, [])), ((u2 17), .inr (0, [])), ((u2 18), .inr (0, [])), ((u4 1), .inr (0, [])), ((u4 2), .inr (0, [])), ((u4 3), .inr (0, [])), ((u4 4), .inr (0, [])), ((u4 5), .inr (0, [])), ((u4 6), .inr (0, [])), ((u4 7), .inr (0, [])), ((u4 8), .inr (0, [])), ((u4 9), .inr (0, [])), ((u4 10), .inr (0, [])), ((u4 11), .inr (0, [])), ((u4 12), .inr (0, [])), ((u4 13), .inr (0, [])), ((u4 14), .inr (0, [])), ((u4 15), .inr (0, [])), ((u4 16), .inr (0, [])), ((u4 17), .inr (0, [])), ((u4 18), .inr (0, [])), (q14, .inr (0, [])), ((u15 0), .inr (0, [])), ((u15 1), .inr (0, [])), (x0, .inr (0, [])), ((y0 0), .inr (0, [])), ((y0 1), .inr (0, [])), (x1, .inr (0, [])), ((y1 0), .inr (0, [])), ((y1 1), .inr (0, [])), (x2, .inr (0, [])), ((y2 0), .inr (0, [])), ((y2 1), .inr (0, [])), (x3, .inr (0, [])), ((y3 0), .inr (0, [])), ((y3 1), .inr (0, [])), (x4, .inr (0, [])), ((y4 0), .inr (0, [])), ((y4 1), .inr (0, [])), (x5, .inr (0, [])), ((y5 0), .inr (0, [])), ((y5 1), .inr (0, [])), (z0, .inr (0, [])), ((w0 0), .inr (0, [])), (z1, .inr (0, [])), ((w1 0), .inr (0, [])), (z2, .inr (0, [])), ((w2 0), .inr (0, [])), (z3, .inr (0, [])), ((w3 0), .inr (0, []))] : va_W) := hd1.sub [0, 1, 21, 41, 42, 43, 44, 45, 46, 47, 48, 49, 2, 22, 3, 4, 5, 6, 7, 8, 9, 10, 11, 12, 13, 14, 15, 16, 17, 18, 19, 20, 23, 24, 25, 26, 27, 28, 29, 30, 31, 32, 33, 34, 35, 36, 37, 38, 39, 40, 50, 51, 52, 53, 54, 55, 56, 57, 58, 59, 60, 61, 62, 63, 64, 65, 66, 67, 68, 69, 70, 71, 72, 73, 74, 75, 76, 77, 78] (by decide) rfl
  have hDc : va_D A (cs (Sp true) cy (mkad [h0, q1, q3, q5, (u6 0), q7, q8, q9, q10, q11, q12, q13, (u2 0), (u4 0), (u2 1), (u2 2), (u2 3), (u2 4), (u2 5), (u2 6), (u2 7), (u2 8), (u2 9), (u2 10), (u2 11), (u2 12), (u2 13), (u2 14), (u2 15), (u2 16), (u2 17), (u2 18), (u4 1), (u4 2), (u4 3), (u4 4), (u4 5), (u4 6), (u4 7), (u4 8), (u4 9), (u4 10), (u4 11), (u4 12), (u4 13), (u4 14), (u4 15), (u4 16), (u4 17), (u4 18), q14, (u15 0), (u15 1), x0, (y0 0), (y0 1), x1, (y1 0), (y1 1), x2, (y2 0), (y2 1), x3, (y3 0), (y3 1), x4, (y4 0), (y4 1), x5, (y5 0), (y5 1), z0, (w0 0), z1, (w1 0), z2, (w2 0), z3, (w3 0)] sta) μC0 ν0) := va_D_fst hd2 (by rw [cs_csF]; rfl)
  have had : ∀ k, 100 ≤ k → (mkad [h0, q1, q3, q5, (u6 0), q7, q8, q9, q10, q11, q12, q13, (u2 0), (u4 0), (u2 1), (u2 2), (u2 3), (u2 4), (u2 5), (u2 6), (u2 7), (u2 8), (u2 9), (u2 10), (u2 11), (u2 12), (u2 13), (u2 14), (u2 15), (u2 16), (u2 17), (u2 18), (u4 1), (u4 2), (u4 3), (u4 4), (u4 5), (u4 6), (u4 7), (u4 8), (u4 9), (u4 10), (u4 11), (u4 12), (u4 13), (u4 14), (u4 15), (u4 16), (u4 17), (u4 18), q14, (u15 0), (u15 1), x0, (y0 0), (y0 1), x1, (y1 0), (y1 1), x2, (y2 0), (y2 1), x3, (y3 0), (y3 1), x4, (y4 0), (y4 1), x5, (y5 0), (y5 1), z0, (w0 0), z1, (w1 0), z2, (w2 0), z3, (w3 0)] sta) k = sta k := fun k hk => mkad_out (by show 79 ≤ k; omega)
  have hl : lv_has ls 2 [(0, .ref ((mkad [h0, q1, q3, q5, (u6 0), q7, q8, q9, q10, q11, q12, q13, (u2 0), (u4 0), (u2 1), (u2 2), (u2 3), (u2 4), (u2 5), (u2 6), (u2 7), (u2 8), (u2 9), (u2 10), (u2 11), (u2 12), (u2 13), (u2 14), (u2 15), (u2 16), (u2 17), (u2 18), (u4 1), (u4 2), (u4 3), (u4 4), (u4 5), (u4 6), (u4 7), (u4 8), (u4 9), (u4 10), (u4 11), (u4 12), (u4 13), (u4 14), (u4 15), (u4 16), (u4 17), (u4 18), q14, (u15 0), (u15 1), x0, (y0 0), (y0 1), x1, (y1 0), (y1 1), x2, (y2 0), (y2 1), x3, (y3 0), (y3 1), x4, (y4 0), (y4 1), x5, (y5 0), (y5 1), z0, (w0 0), z1, (w1 0), z2, (w2 0), z3, (w3 0)] sta) 0))] := lv_sub hl [1] rfl
  have e0 : (mkad [h0, q1, q3, q5, (u6 0), q7, q8, q9, q10, q11, q12, q13, (u2 0), (u4 0), (u2 1), (u2 2), (u2 3), (u2 4), (u2 5), (u2 6), (u2 7), (u2 8), (u2 9), (u2 10), (u2 11), (u2 12), (u2 13), (u2 14), (u2 15), (u2 16), (u2 17), (u2 18), (u4 1), (u4 2), (u4 3), (u4 4), (u4 5), (u4 6), (u4 7), (u4 8), (u4 9), (u4 10), (u4 11), (u4 12), (u4 13), (u4 14), (u4 15), (u4 16), (u4 17), (u4 18), q14, (u15 0), (u15 1), x0, (y0 0), (y0 1), x1, (y1 0), (y1 1), x2, (y2 0), (y2 1), x3, (y3 0), (y3 1), x4, (y4 0), (y4 1), x5, (y5 0), (y5 1), z0, (w0 0), z1, (w1 0), z2, (w2 0), z3, (w3 0)] sta) 0 = h0 := rfl
  generalize (mkad [h0, q1, q3, q5, (u6 0), q7, q8, q9, q10, q11, q12, q13, (u2 0), (u4 0), (u2 1), (u2 2), (u2 3), (u2 4), (u2 5), (u2 6), (u2 7), (u2 8), (u2 9), (u2 10), (u2 11), (u2 12), (u2 13), (u2 14), (u2 15), (u2 16), (u2 17), (u2 18), (u4 1), (u4 2), (u4 3), (u4 4), (u4 5), (u4 6), (u4 7), (u4 8), (u4 9), (u4 10), (u4 11), (u4 12), (u4 13), (u4 14), (u4 15), (u4 16), (u4 17), (u4 18), q14, (u15 0), (u15 1), x0, (y0 0), (y0 1), x1, (y1 0), (y1 1), x2, (y2 0), (y2 1), x3, (y3 0), (y3 1), x4, (y4 0), (y4 1), x5, (y5 0), (y5 1), z0, (w0 0), z1, (w1 0), z2, (w2 0), z3, (w3 0)] sta) = ad at hPc hDc had hl e0
  have C2 : CxA true A p s m _ meth c cX5_init 2 RX5 D cy ad := ⟨C.1, C.2.1.1, St_congr had hSt, C.2.2.2.2, Ad_of hDc⟩
  have X2 : WdA true A D cy ad s.heap μC0 ν0 H locs := ⟨hPc, hDc, X.2.2⟩
  refine lv_aload_n hx hb dX5_init_161 rfl (lv_at hl 0 rfl) ?_
  refine gfX5_28 C2 X2 dX5_init_162 ?_
  refine lv_iconst (v := 0) hx hb dX5_init_165 (by decide) ?_
  refine rAald (t := 1) (k' := 53) C2 X2 rfl rfl (by decide) rfl dX5_init_166 ?_
  refine qX5_63 (t := 0) (by decide) f3bF C2 X2 hl.1 (Nat.le_of_ble_eq_true rfl) ⟨(Nat.le_of_ble_eq_true rfl), (Nat.le_of_ble_eq_true rfl)⟩ ⟨(Nat.le_of_ble_eq_true rfl), (Nat.le_of_ble_eq_true rfl)⟩ dX5_init_167 (fun H locs X2 => ?_)
  refine lv_aload_n hx hb dX5_init_170 rfl (lv_at hl 0 rfl) ?_
  refine lv_iconst (v := 1) hx hb dX5_init_171 (by decide) ?_
  refine pfX5_66 (μ1 := μCI) rfl C2 X2 dX5_init_172 (fun H locs X2 => ?_)
  subst hAe
  exact W.vret hx hb hr (fun t ht hW => ⟨⟨ad, rfl, ⟨e0, had⟩, by rw [ht]; exact X2.1, X2.2.1⟩, X2.2.2.F ht⟩) X2.2.2.2.2 dX5_init_175 C.2.2.2.2
