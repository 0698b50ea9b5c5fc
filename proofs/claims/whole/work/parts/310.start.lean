/-! the law's start: what the tables and the statics say, the two objects -/
theorem law_KO {args : Array Value} {s : State} (hts : ∀ w ∈ lw_tbl, w.before args s = true) : ∃ (D : va_G) (cy : Nat → ClassId), KO D cy s := by
  have ht : ∀ w ∈ tb, w.before args s = true := fun w h => hts w (tb_in h)
  obtain ⟨c0, i0, h0⟩ := u_known (C := RX0) (T := TX0) (N := 4) (n := 4) ht ok0.2.1 (ht _ k_25)
  obtain ⟨c1, i1, h1⟩ := u_known (C := RX1) (T := TX1) (N := 3) (n := 3) ht ok1.2.1 (ht _ k_130)
  obtain ⟨c2, i2, h2⟩ := u_known (C := RX2) (T := TX2) (N := 8) (n := 8) ht ok2.2.1 (ht _ k_78)
  obtain ⟨c3, i3, h3⟩ := u_known (C := RX3) (T := TX3) (N := 3) (n := 3) ht ok3.2.1 (ht _ k_115)
  obtain ⟨c4, i4, h4⟩ := u_known (C := RX4) (T := TX4) (N := 5) (n := 5) ht ok4.2.1 (ht _ k_32)
  obtain ⟨c5, i5, h5⟩ := u_known (C := RX5) (T := TX5) (N := 13) (n := 13) ht ok5.2.1 (ht _ k_17)
  obtain ⟨c6, i6, h6⟩ := u_known (C := RX6) (T := TX6) (N := 44) (n := 44) ht ok6.2.1 (ht _ k_778)
  obtain ⟨a0, ka0, cp0, f0, g0, e0⟩ := Cond.arrayClass_spec (ht _ kx_59)
  obtain ⟨a1, ka1, cp1, f1, g1, e1⟩ := Cond.arrayClass_spec (ht _ kx_919)
  obtain ⟨a2, ka2, cp2, f2, g2, e2⟩ := Cond.arrayClass_spec (ht _ kx_920)
  have o3 : (Cond.arrayOver (.object RX4)).before args s = true := hts _ (by decide +kernel)
  obtain ⟨cp3, a3, ka3, f3, -, g3, e3, n3⟩ := Cond.arrayOver_spec o3
  have o4 : (Cond.arrayOver (.object RX3)).before args s = true := hts _ (by decide +kernel)
  obtain ⟨cp4, a4, ka4, f4, -, g4, e4, n4⟩ := Cond.arrayOver_spec o4
  have o5 : (Cond.arrayOver (.object RX1)).before args s = true := hts _ (by decide +kernel)
  obtain ⟨cp5, a5, ka5, f5, -, g5, e5, n5⟩ := Cond.arrayOver_spec o5
  refine ⟨(fun k => if k = 0 then c0 else if k = 1 then c1 else if k = 2 then c2 else if k = 3 then c3 else if k = 4 then c4 else if k = 5 then c5 else c6, fun k => if k = 0 then i0 else if k = 1 then i1 else if k = 2 then i2 else if k = 3 then i3 else if k = 4 then i4 else if k = 5 then i5 else i6), fun k => if k = 0 then a0 else if k = 1 then a1 else if k = 2 then a2 else if k = 3 then a3 else if k = 4 then a4 else a5, ⟨fun k q hq => ?_, fun k q hq => ?_⟩, fun w hw => va_Nw.of (nestW_on w hw) (hts w ((by decide +kernel : ∀ w ∈ nestW, w ∈ lw_tbl) w hw)), va_AO.of o3, va_AO.of o4, va_AO.of o5⟩
  · match k, hq with
    | 0, hq => cases hq; exact h0
    | 1, hq => cases hq; exact h1
    | 2, hq => cases hq; exact h2
    | 3, hq => cases hq; exact h3
    | 4, hq => cases hq; exact h4
    | 5, hq => cases hq; exact h5
    | 6, hq => cases hq; exact h6
    | k + 7, hq => exact absurd hq (by simp [vwCl])
  · match k, hq with
    | 0, hq => cases hq; exact ⟨fun N z => ⟨(fun k h => by cases h), ka0, g0, cp0, e0⟩, f0⟩
    | 1, hq => cases hq; exact ⟨fun N z => ⟨(fun k h => by cases h), ka1, g1, cp1, e1⟩, f1⟩
    | 2, hq => cases hq; exact ⟨fun N z => ⟨(fun k h => by cases h), ka2, g2, cp2, e2⟩, f2⟩
    | 3, hq => cases hq; exact ⟨fun N z => ⟨(fun k h => by cases h), ka3, g3, cp3, e3⟩, ka3, cp3, g3, e3, f3, n3⟩
    | 4, hq => cases hq; exact ⟨fun N z => ⟨(fun k h => by cases h), ka4, g4, cp4, e4⟩, ka4, cp4, g4, e4, f4, n4⟩
    | 5, hq => cases hq; exact ⟨fun N z => ⟨(fun k h => by cases h), ka5, g5, cp5, e5⟩, ka5, cp5, g5, e5, f5, n5⟩
    | k + 6, hq => exact absurd hq (by simp [tysOf])
/-- the two String constants -/
def lS (i : Nat) : Term := if i = 0 then .string RX2 93 else .string RX2 85
set_option maxRecDepth 100000 in
theorem lS_mem : (∀ i, i < 2 → Cond.exactly (lS i) "java/lang/String" ∈ flatC (Cond.and given_1 narrow_1)) ∧ (∀ i, i < 2 → Cond.eq (.field (lS i) "java/lang/String" "coder" "B") (.int 0) ∈ flatC (Cond.and given_1 narrow_1)) ∧ (∀ i, i < 2 → Cond.arrayOf (.field (lS i) "java/lang/String" "value" "[B") .byte ∈ flatC (Cond.and given_1 narrow_1)) ∧ (∀ i, i < 2 → Cond.eq (.length (.field (lS i) "java/lang/String" "value" "[B")) (.int (Int32.ofNat (lensK.getD i 0))) ∈ flatC (Cond.and given_1 narrow_1)) ∧ (∀ i, i < 2 → ∀ j, j < lensK.getD i 0 → Cond.eq (.elem (.field (lS i) "java/lang/String" "value" "[B") (.int (Int32.ofNat j))) (.int ((bytsK.getD i []).getD j 0)) ∈ flatC (Cond.and given_1 narrow_1)) ∧ Cond.not (Cond.eq (lS 0) (lS 1)) ∈ flatC (Cond.and given_1 narrow_1) := by decide +kernel
set_option maxRecDepth 100000 in
theorem lT0_mem : Cond.arrayOf (.static "SamePlace" "UNDER" "[I") .int ∈ flatC (Cond.and given_1 narrow_1) ∧ Cond.eq (.length (.static "SamePlace" "UNDER" "[I")) (.int (Int32.ofNat 6)) ∈ flatC (Cond.and given_1 narrow_1) ∧ (∀ j, j < 6 → Cond.eq (.elem (.static "SamePlace" "UNDER" "[I") (.int (Int32.ofNat j))) (.int (([-1, 0, 0, 1, 2, 1] : List Int32).getD j 0)) ∈ flatC (Cond.and given_1 narrow_1)) ∧ Cond.laysStatic "SamePlace" "UNDER" "[I" ∈ lw_tbl := by decide +kernel
theorem lT0 {args : Array Value} {s : State} (hts : ∀ w ∈ lw_tbl, w.before args s = true) (hs : ∀ c ∈ flatC (Cond.and given_1 narrow_1), c.before args s = true) : ∃ t : Nat, va_Z "SamePlace" "UNDER" "[I" (.ref t) (lA s) s s.heap ∧ va_T .int t 6 (fun j => .int (([-1, 0, 0, 1, 2, 1] : List Int32).getD j 0)) (lA s) s s.heap := by
  have hA : ∀ a : Nat, a < s.heap.size → ¬ lA s a := fun a h => Nat.not_le.mpr h
  obtain ⟨m1, m2, m3, m4⟩ := lT0_mem
  obtain ⟨t, e, hT⟩ := va_Tof (tm := .static "SamePlace" "UNDER" "[I") (ty := .int) (N := 6) (f := fun j => .int (([-1, 0, 0, 1, 2, 1] : List Int32).getD j 0)) (A := lA s) (by decide) (hs _ m1) (va_eqt (hs _ m2)) (fun j hj => va_eqt (hs _ (m3 j hj))) hA
  exact ⟨t, va_Zref (hts _ m4) (hts (Cond.initialized RX5) (tb_in k_1)) e hA, hT⟩
set_option maxRecDepth 100000 in
theorem lT1_mem : Cond.arrayOf (.static "SamePlace" "PART_LEAST" "[I") .int ∈ flatC (Cond.and given_1 narrow_1) ∧ Cond.eq (.length (.static "SamePlace" "PART_LEAST" "[I")) (.int (Int32.ofNat 3)) ∈ flatC (Cond.and given_1 narrow_1) ∧ (∀ j, j < 3 → Cond.eq (.elem (.static "SamePlace" "PART_LEAST" "[I") (.int (Int32.ofNat j))) (.int (([0, -60, 0] : List Int32).getD j 0)) ∈ flatC (Cond.and given_1 narrow_1)) ∧ Cond.laysStatic "SamePlace" "PART_LEAST" "[I" ∈ lw_tbl := by decide +kernel
theorem lT1 {args : Array Value} {s : State} (hts : ∀ w ∈ lw_tbl, w.before args s = true) (hs : ∀ c ∈ flatC (Cond.and given_1 narrow_1), c.before args s = true) : ∃ t : Nat, va_Z "SamePlace" "PART_LEAST" "[I" (.ref t) (lA s) s s.heap ∧ va_T .int t 3 (fun j => .int (([0, -60, 0] : List Int32).getD j 0)) (lA s) s s.heap := by
  have hA : ∀ a : Nat, a < s.heap.size → ¬ lA s a := fun a h => Nat.not_le.mpr h
  obtain ⟨m1, m2, m3, m4⟩ := lT1_mem
  obtain ⟨t, e, hT⟩ := va_Tof (tm := .static "SamePlace" "PART_LEAST" "[I") (ty := .int) (N := 3) (f := fun j => .int (([0, -60, 0] : List Int32).getD j 0)) (A := lA s) (by decide) (hs _ m1) (va_eqt (hs _ m2)) (fun j hj => va_eqt (hs _ (m3 j hj))) hA
  exact ⟨t, va_Zref (hts _ m4) (hts (Cond.initialized RX5) (tb_in k_1)) e hA, hT⟩
set_option maxRecDepth 100000 in
theorem lT2_mem : Cond.arrayOf (.static "SamePlace" "PART_MOST" "[I") .int ∈ flatC (Cond.and given_1 narrow_1) ∧ Cond.eq (.length (.static "SamePlace" "PART_MOST" "[I")) (.int (Int32.ofNat 3)) ∈ flatC (Cond.and given_1 narrow_1) ∧ (∀ j, j < 3 → Cond.eq (.elem (.static "SamePlace" "PART_MOST" "[I") (.int (Int32.ofNat j))) (.int (([9999, 60, 99] : List Int32).getD j 0)) ∈ flatC (Cond.and given_1 narrow_1)) ∧ Cond.laysStatic "SamePlace" "PART_MOST" "[I" ∈ lw_tbl := by decide +kernel
theorem lT2 {args : Array Value} {s : State} (hts : ∀ w ∈ lw_tbl, w.before args s = true) (hs : ∀ c ∈ flatC (Cond.and given_1 narrow_1), c.before args s = true) : ∃ t : Nat, va_Z "SamePlace" "PART_MOST" "[I" (.ref t) (lA s) s s.heap ∧ va_T .int t 3 (fun j => .int (([9999, 60, 99] : List Int32).getD j 0)) (lA s) s s.heap := by
  have hA : ∀ a : Nat, a < s.heap.size → ¬ lA s a := fun a h => Nat.not_le.mpr h
  obtain ⟨m1, m2, m3, m4⟩ := lT2_mem
  obtain ⟨t, e, hT⟩ := va_Tof (tm := .static "SamePlace" "PART_MOST" "[I") (ty := .int) (N := 3) (f := fun j => .int (([9999, 60, 99] : List Int32).getD j 0)) (A := lA s) (by decide) (hs _ m1) (va_eqt (hs _ m2)) (fun j hj => va_eqt (hs _ (m3 j hj))) hA
  exact ⟨t, va_Zref (hts _ m4) (hts (Cond.initialized RX5) (tb_in k_1)) e hA, hT⟩
theorem law_St {b : Nat} {s : State} (hts : ∀ w ∈ lw_tbl, w.before #[Value.ref b] s = true) (hgv : (Jvm.Cond.and given_1 narrow_1).before #[Value.ref b] s = true) (hN : NW s) : ∃ sta : Nat → Nat, St true sta (lA s) s s.heap := by
  have hs : ∀ c ∈ flatC (Cond.and given_1 narrow_1), c.before #[Value.ref b] s = true := flat_of_before _ hgv
  have hA : ∀ a : Nat, a < s.heap.size → ¬ lA s a := fun a h => Nat.not_le.mpr h
  obtain ⟨t0, z0, T0⟩ := lT0 hts hs
  obtain ⟨t1, z1, T1⟩ := lT1 hts hs
  obtain ⟨t2, z2, T2⟩ := lT2 hts hs
  obtain ⟨m1, m2, m3, m4, m5, m6⟩ := lS_mem
  obtain ⟨adK, adV, ⟨g1, g2⟩, g3⟩ := vk_Sof (args := #[Value.ref b]) (s := s) (N := 2) (tm := lS) (len := lensK) (byt := bytsK) (A := lA s) (by decide) (fun i hi => hs _ (m1 i hi)) (fun i hi => hs _ (m2 i hi)) (fun i hi => hs _ (m3 i hi)) (fun i hi => hs _ (m4 i hi)) (fun i hi j hj => hs _ (m5 i hi j hj)) (fun i j hi hj hij => by
    rcases (show (i = 0 ∧ j = 1) ∨ (i = 1 ∧ j = 0) by omega) with ⟨rfl, rfl⟩ | ⟨rfl, rfl⟩
    · exact Or.inl (hs _ m6)
    · exact Or.inr (hs _ m6)) hA
  refine ⟨fun k => if k = 100 then t0 else if k = 101 then t1 else if k = 102 then t2 else if k < 120 then adK (k - 110) else adV (k - 120), hN, fun _ => ⟨z0, T0, z1, T1, z2, T2, ?_, ?_, ?_, ?_, ?_⟩⟩
  · exact va_Zof (hts _ (by decide +kernel)) (hts _ (by decide +kernel)) (va_eqi (hs _ (by decide +kernel))) hA
  · exact va_Zqof (hts _ (by decide +kernel)) (hts _ (by decide +kernel)) (hs _ (by decide +kernel)) hA
  · refine ⟨fun i hi => ?_, fun i j hi hj h => ?_⟩
    · rcases (show i = 0 ∨ i = 1 by omega) with rfl | rfl
      · exact g1 0 (by decide)
      · exact g1 1 (by decide)
    · rcases (show i = 0 ∨ i = 1 by omega) with rfl | rfl <;> rcases (show j = 0 ∨ j = 1 by omega) with rfl | rfl
      · rfl
      · exact g2 0 1 (by decide) (by decide) h
      · exact g2 1 0 (by decide) (by decide) h
      · rfl
  · exact vk_R.of (hts _ (by decide +kernel)) (g3 0 (by decide))
  · exact vk_R.of (hts _ (by decide +kernel)) (g3 1 (by decide))
theorem preN_of {D : va_G} {cy : Nat → ClassId} {s U : State} {w0 : va_W} {h0 ci : Nat} {fs : List Value} {H : Heap} (hKO : KO D cy s) (hP : va_P D vwCl (w0 ++ W1 h0 ci fs) H) (hU : U.heap = H) (hW : s.WarmedH U.vm) : PreN D cy h0 H.size ci fs U := by
  have hlast : (w0 ++ W1 h0 ci fs)[w0.length]? = some (h0, .inr (ci, fs)) := by
    rw [List.getElem?_append_right (Nat.le_refl _), Nat.sub_self]; rfl
  refine ⟨by rw [hU], ?_, ⟨fun i j x y hi hj _ => ?_, fun _ _ _ => trivial⟩, hKO.warm hW⟩
  · intro k q hq
    cases k with
    | zero => cases hq; rw [hU]; exact hP _ _ hlast
    | succ k => cases hq
  · have h1 := (List.getElem?_eq_some_iff.mp hi).1
    have h2 := (List.getElem?_eq_some_iff.mp hj).1
    simp at h1 h2
    omega
theorem dfl5 : ∀ j, j < 13 → defaultValue (tyX5 j) = vp_V fs5 j := fun j hj => by
  rcases (show j = 0 ∨ j = 1 ∨ j = 2 ∨ j = 3 ∨ j = 4 ∨ j = 5 ∨ j = 6 ∨ j = 7 ∨ j = 8 ∨ j = 9 ∨ j = 10 ∨ j = 11 ∨ j = 12 by omega) with rfl | rfl | rfl | rfl | rfl | rfl | rfl | rfl | rfl | rfl | rfl | rfl | rfl <;> rfl
theorem dfl6 : ∀ j, j < 44 → defaultValue (tyX6 j) = vp_V fs6 j := fun j hj => by
  rcases (show j = 0 ∨ j = 1 ∨ j = 2 ∨ j = 3 ∨ j = 4 ∨ j = 5 ∨ j = 6 ∨ j = 7 ∨ j = 8 ∨ j = 9 ∨ j = 10 ∨ j = 11 ∨ j = 12 ∨ j = 13 ∨ j = 14 ∨ j = 15 ∨ j = 16 ∨ j = 17 ∨ j = 18 ∨ j = 19 ∨ j = 20 ∨ j = 21 ∨ j = 22 ∨ j = 23 ∨ j = 24 ∨ j = 25 ∨ j = 26 ∨ j = 27 ∨ j = 28 ∨ j = 29 ∨ j = 30 ∨ j = 31 ∨ j = 32 ∨ j = 33 ∨ j = 34 ∨ j = 35 ∨ j = 36 ∨ j = 37 ∨ j = 38 ∨ j = 39 ∨ j = 40 ∨ j = 41 ∨ j = 42 ∨ j = 43 by omega) with rfl | rfl | rfl | rfl | rfl | rfl | rfl | rfl | rfl | rfl | rfl | rfl | rfl | rfl | rfl | rfl | rfl | rfl | rfl | rfl | rfl | rfl | rfl | rfl | rfl | rfl | rfl | rfl | rfl | rfl | rfl | rfl | rfl | rfl | rfl | rfl | rfl | rfl | rfl | rfl | rfl | rfl | rfl | rfl <;> rfl
/-- both objects stand -/
theorem ws_c {p : Program} {l : Launch} {e : Env} {s : State} {m : MethodId} {below : List Frame} {meth : Method} {c : Code} {D : va_G} {cy : Nat → ClassId} {ad5 : Nat → Nat} {b L : Nat} {xs : Nat → Int32} {locs : List Loc} {ls : Array Slot} {ad6 : Nat → Nat} {sta : Nat → Nat} {q5 q6 : Nat} {H3 : Heap} {cells slots : Nat} (hcs : cells ≤ 600000 ∧ slots ≤ 7302250) (hr : meth.sig.returnType = ret) (CF : CallFix p m c code 4 s #[Value.ref b] tb RL) (hKO : KO D cy s) (hSt : St true sta (lA s) s s.heap) (hlocks : meth.locks = false) (hX : va_X b L xs s s.heap) (hbl : b < s.heap.size) (hL : L ≤ 3072) (hD5 : va_D (lA s) (cs (Sp true) cy ad5 μCI ν0)) (hP9 : va_P D vwCl (cs (Sp true) cy ad5 μCI ν0 ++ cs (Sp false) cy ad6 μMI ν0) H3) (hD9 : va_D (lA s) (cs (Sp true) cy ad5 μCI ν0 ++ cs (Sp false) cy ad6 μMI ν0)) (hS3 : va_S (lA s) s.heap H3 locs) (hw5 : ad5 0 = q5 ∧ ∀ k, 100 ≤ k → ad5 k = sta k) (hw6 : ad6 0 = q6) (hl : lv_has ls 4 [(1, .ref q5), (0, .ref b)]) :
    W p l e room_1 s m #[Value.ref b] below meth c H3 locs cells slots (lw_Z below #[Value.ref b] s) (F0 m 15 ls [.ref q6]) := by
  have hx := CF.1
  have hb := CF.2.1
  have hl5 : (cs (Sp true) cy ad5 μCI ν0).length = 79 := by rw [cs_len, sp_len.1]
  have hl6 : (cs (Sp false) cy ad6 μMI ν0).length = 21 := by rw [cs_len, sp_len.2]
  have at5 : ∀ (k : Nat) (q : Nat × va_E), (cs (Sp true) cy ad5 μCI ν0)[k]? = some q → (cs (Sp true) cy ad5 μCI ν0 ++ cs (Sp false) cy ad6 μMI ν0)[k]? = some q := fun k q hq => by
    rw [List.getElem?_append_left (List.getElem?_eq_some_iff.mp hq).1]
    exact hq
  have at6 : ∀ (k : Nat) (q : Nat × va_E), (cs (Sp false) cy ad6 μMI ν0)[k]? = some q → (cs (Sp true) cy ad5 μCI ν0 ++ cs (Sp false) cy ad6 μMI ν0)[79 + k]? = some q := fun k q hq => by
    rw [List.getElem?_append_right (by omega), hl5, show 79 + k - 79 = k by omega]
    exact hq
  have g5 : ∀ k, k < 79 → ∃ z, (cs (Sp true) cy ad5 μCI ν0)[k]? = some (ad5 k, z) := fun k hk => ⟨_, cs_get (List.getElem?_eq_getElem (show k < (Sp true).length by rw [sp_len.1]; exact hk))⟩
  have g6 : ∀ k, k < 21 → ∃ z, (cs (Sp false) cy ad6 μMI ν0)[k]? = some (ad6 k, z) := fun k hk => ⟨_, cs_get (List.getElem?_eq_getElem (show k < (Sp false).length by rw [sp_len.2]; exact hk))⟩
  generalize hw1 : cs (Sp true) cy ad5 μCI ν0 = w1 at *
  generalize hw2 : cs (Sp false) cy ad6 μMI ν0 = w2 at *
  have hPa : va_P D vwCl w1 H3 := fun k q hq => hP9 k q (at5 k q hq)
  have hPb : va_P D vwCl w2 H3 := fun k q hq => hP9 (79 + k) q (at6 k q hq)
  have hDb : va_D (lA s) w2 := ⟨fun i j x y hi hj hxy => by
    have := hD9.1 (79 + i) (79 + j) x y (at6 i x hi) (at6 j y hj) hxy
    omega, fun k q hk => hD9.2 (79 + k) q (at6 k q hk)⟩
  have hap : ∀ k k', k < 79 → k' < 21 → ad5 k ≠ ad6 k' := by
    intro k k' hk hk' he
    obtain ⟨z5, e5⟩ := g5 k hk
    obtain ⟨z6, e6⟩ := g6 k' hk'
    have := hD9.1 k (79 + k') _ _ (at5 k _ e5) (at6 k' _ e6) he
    omega
  rw [← hw1] at hD5 hPa
  rw [← hw2] at hDb hPb
  refine lv_astore_n (lv' := [(2, .ref q6), (1, .ref q5), (0, .ref b)]) hx hb dL_law_15 rfl hl (by decide) rfl (fun ls hl => ?_)
  refine lv_iconst (v := 0) hx hb dL_law_16 (by decide) ?_
  refine lv_istore_n (lv' := [(3, .int 0), (2, .ref q6), (1, .ref q5), (0, .ref b)]) hx hb dL_law_17 rfl hl (by decide) rfl (fun ls hl => ?_)
  have hl : lv_has ls 4 (lLoc ad5 ad6 b 0) := by
    show lv_has ls 4 [(3, .int (nI 0)), (2, .ref (ad6 0)), (1, .ref (ad5 0)), (0, .ref b)]
    rw [hw5.1, hw6]
    exact hl
  have CL : LC p s m meth c D cy ad5 ad6 b L xs := ⟨⟨CF, hKO.1, St_congr hw5.2 hSt, hlocks, Ad_of hD5⟩, ⟨CF, hKO.1, ⟨hKO.2.1, fun h => by cases h⟩, hlocks, Ad_of hDb⟩, hD5, hDb, hap, hX, hbl, hL⟩
  exact law_loop (ν := ν0) CL hr hcs (L + 7) 0 μCI μMI ν0 H3 locs ls (Nat.zero_le _) (by omega) start_RR ⟨hPa, hPb, hS3⟩ hl
/-- the class's object stands -/
theorem ws_b {p : Program} {l : Launch} {e : Env} {s : State} {m : MethodId} {below : List Frame} {meth : Method} {c : Code} {D : va_G} {cy : Nat → ClassId} {ad5 : Nat → Nat} {b L : Nat} {xs : Nat → Int32} {locs : List Loc} {ls : Array Slot} {sta : Nat → Nat} {q5 : Nat} {H1 : Heap} {cells slots : Nat} (hcs : cells + 1 + 20 ≤ 600000 ∧ slots + 44 + 3406 ≤ 7302250) (hr : meth.sig.returnType = ret) (CF : CallFix p m c code 4 s #[Value.ref b] tb RL) (hKO : KO D cy s) (hSt : St true sta (lA s) s s.heap) (hlocks : meth.locks = false) (hX : va_X b L xs s s.heap) (hbl : b < s.heap.size) (hL : L ≤ 3072) (hD5 : va_D (lA s) (cs (Sp true) cy ad5 μCI ν0)) (hP5 : va_P D vwCl (cs (Sp true) cy ad5 μCI ν0) H1) (hS1 : va_S (lA s) s.heap H1 locs) (hw5 : ad5 0 = q5 ∧ ∀ k, 100 ≤ k → ad5 k = sta k) (hl : lv_has ls 4 [(1, .ref q5), (0, .ref b)]) :
    W p l e room_1 s m #[Value.ref b] below meth c H1 locs cells slots (lw_Z below #[Value.ref b] s) (F0 m 8 ls []) := by
  have hx := CF.1
  have hb := CF.2.1
  have ht := CF.2.2.2.2
  have hA : ∀ q : Nat, s.heap.size ≤ q → lA s q := fun _ h => h
  have key : ∀ (w1 : va_W), va_D (lA s) w1 → va_P D vwCl w1 H1 → (∀ (ad6 : Nat → Nat) (q6 : Nat) (H3 : Heap) (locs3 : List Loc), ad6 0 = q6 → va_P D vwCl (w1 ++ cs (Sp false) cy ad6 μMI ν0) H3 → va_D (lA s) (w1 ++ cs (Sp false) cy ad6 μMI ν0) → va_S (lA s) s.heap H3 locs3 → W p l e room_1 s m #[Value.ref b] below meth c H3 locs3 (cells + 1 + 20) (slots + 44 + 3406) (lw_Z below #[Value.ref b] s) (F0 m 15 ls [.ref q6])) → W p l e room_1 s m #[Value.ref b] below meth c H1 locs cells slots (lw_Z below #[Value.ref b] s) (F0 m 8 ls []) := by
    intro w1 hD5 hP5 kk
    have h600 : room_1.cells = 600000 := rfl
    have h730 : room_1.slots = 7302250 := rfl
    refine va_new (ci := 6) (fs := fs6) hx hb ht ok6.2.1 tyX6 ok6.2.2.1 CF.2.2.2.1 (ht _ k_777) (ht _ k_778) (ht _ k_7) hKO.1 hP5 hD5 hS1 hA ok6.1 dfl6 (by omega) (by omega) dL_law_8 (fun q6 H2 hP2 hD2 hS2 => ?_)
    refine lv_dup hx hb dL_law_11 rfl ?_
    have hF6 : ∀ q, va_A (W1 q6 6 fs6) H2.size q → lA s q := (kJoin (w1 := []) hP2 hD2 hS2 hA (fun _ _ _ => rfl) (fun k q h => by simp at h) ⟨fun i j p q h => by simp at h, fun k q h => by simp at h⟩).2.2
    refine va_callv (va_runI (As := []) (rest := [.ref q6]) CF (ctX6 l D cy q6 H2.size (fun _ => 0)) ⟨callB_of 0 ht (tb_cons k_781) rfl rfl rfl (ht _ k_7) (ht _ k_779) lkdX6 ⟨Nat.le_of_ble_eq_true rfl, Nat.le_of_ble_eq_true rfl⟩, rfl, ht _ k_780⟩
      ⟨PreN.blind, fun U hU hW => ⟨rfl, preN_of hKO hP2 hU hW⟩⟩ rfl rfl hl.1 rfl (lv_room (Nat.le_of_ble_eq_true rfl)) dL_law_12 ⟨by omega, by omega⟩) hS2 (fun q _ h => hF6 q h) hF6 (fun ad6 t6 H3 locs3 ht3 hvm6 hw6 hB6 hz6 hkk6 hS3 => ?_)
    obtain ⟨hP4, hD4⟩ := hB6
    rw [ht3] at hP4
    obtain ⟨hP9, hD9, -⟩ := kJoin hP2 hD2 hS2 hA hkk6 hP4 hD4
    exact kk ad6 q6 H3 locs3 hw6.1 hP9 hD9 hS3
  exact key _ hD5 hP5 (fun ad6 q6 H3 locs3 h6 hP9 hD9 hS3 => ws_c hcs hr CF hKO hSt hlocks hX hbl hL hD5 hP9 hD9 hS3 hw5 h6 hl)
/-- THE LAW, from its entry -/
theorem whole_start {p : Program} {e : Env} {s : State} {m : MethodId} {below : List Frame} {meth : Method} {c : Code} (l : Launch) (hflags : l.flags = flags0) {b L : Nat} {xs : Nat → Int32} (hL : L ≤ 3072) (C0 : lw_At p s m meth c b L xs) : W p l e room_1 s m #[Value.ref b] below meth c s.heap [] 0 0 (lw_Z below #[Value.ref b] s) (entryFrame m ([Value.ref b] : List Value).toArray 4) := by
  obtain ⟨hx, hb, hr, hml, hown, hts, hX, hbl, hlocks, hgv⟩ := id C0
  have ht : ∀ w ∈ tb, w.before #[Value.ref b] s = true := fun w h => hts w (tb_in h)
  obtain ⟨D, cy, hKO⟩ := law_KO hts
  obtain ⟨sta, hSt⟩ := law_St hts hgv hKO.2.1
  have CF : CallFix p m c code 4 s #[Value.ref b] tb RL := ⟨hx, hb, hml, hown, ht⟩
  have hA : ∀ q : Nat, s.heap.size ≤ q → lA s q := fun _ h => h
  have hS : va_S (lA s) s.heap s.heap [] := va_S.rf
  have hP : va_P D vwCl [] s.heap := fun k q h => by simp at h
  have hD : va_D (lA s) [] := ⟨fun i j p q h => by simp at h, fun k q h => by simp at h⟩
  have hl := lv_entry ([.ref b]) (n := 4) (Nat.le_of_ble_eq_true rfl)
  rw [lg_entry_eq]
  generalize (lg_sl ([.ref b]) ++ List.replicate (4 - (lg_sl ([.ref b])).length) Slot.unset).toArray = ls at hl ⊢
  have hl : lv_has ls 4 [(0, .ref b)] := hl
  have h600 : room_1.cells = 600000 := rfl
  have h730 : room_1.slots = 7302250 := rfl
  refine va_new (ci := 5) (fs := fs5) hx hb ht ok5.2.1 tyX5 ok5.2.2.1 hown (ht _ k_16) (ht _ k_17) (ht _ k_1) hKO.1 hP hD hS hA ok5.1 dfl5 (by omega) (by omega) dL_law_0 (fun q5 H hP hD hS => ?_)
  refine lv_dup hx hb dL_law_3 rfl ?_
  have hF5 : ∀ q, va_A (W1 q5 5 fs5) H.size q → lA s q := (kJoin (w0 := []) (w1 := []) hP hD hS hA (fun _ _ _ => rfl) (fun k q h => by simp at h) ⟨fun i j p q h => by simp at h, fun k q h => by simp at h⟩).2.2
  refine va_callv (va_runI (As := []) (rest := [.ref q5]) CF (ctX5 l D cy q5 H.size sta) ⟨callB_of 0 ht (tb_cons k_20) rfl rfl rfl (ht _ k_1) (ht _ k_18) lkdX5 ⟨Nat.le_of_ble_eq_true rfl, Nat.le_of_ble_eq_true rfl⟩, rfl, ht _ k_19⟩
    ⟨fun a U g mk q => by
      obtain ⟨q0, q1, q2⟩ := q
      have := PreN.blind (av := [.ref q5]) a U g mk ⟨q0, q1⟩
      exact ⟨q0, this.2, St.same (u := U) (U := U.calling g mk a) rfl q2⟩,
     fun U hU hW => ⟨rfl, preN_of hKO hP hU hW, by rw [hU]; exact (hSt.warm hW hS).narrow hF5⟩⟩ rfl rfl hl.1 rfl (lv_room (Nat.le_of_ble_eq_true rfl)) dL_law_4 ⟨by omega, by omega⟩) hS (fun q _ h => hF5 q h) hF5 (fun ad5 t H1 locs1 ht1 hvm hw5 hB hz hkk hS1 => ?_)
  obtain ⟨hP1, hD1⟩ := hB
  rw [ht1] at hP1
  obtain ⟨hP5, hD5, -⟩ := kJoin (w0 := []) hP hD hS hA hkk hP1 hD1
  rw [List.nil_append] at hP5 hD5
  refine lv_astore_n (lv' := [(1, .ref q5), (0, .ref b)]) hx hb dL_law_7 rfl hl (by decide) rfl (fun ls hl => ?_)
  exact ws_b ⟨by omega, by omega⟩ hr CF hKO hSt hlocks hX hbl hL hD5 hP5 hS1 hw5 hl
