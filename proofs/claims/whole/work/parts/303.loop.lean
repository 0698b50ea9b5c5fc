/-! the law's loop -/
theorem and31 (x : Int32) : ∃ k : Nat, k < 32 ∧ x &&& 31 = nI k := by
  refine ⟨(x &&& 31).toBitVec.toNat, ?_, ?_⟩
  · rw [Int32.toBitVec_and, BitVec.toNat_and]
    exact Nat.lt_succ_of_le Nat.and_le_right
  · apply Int32.toBitVec_inj.mp
    show (x &&& 31).toBitVec = BitVec.ofNat 32 (x &&& 31).toBitVec.toNat
    rw [BitVec.ofNat_toNat, BitVec.setWidth_eq]
set_option maxHeartbeats 4000000 in
set_option maxRecDepth 20000 in
theorem law_loop {p : Program} {l : Launch} {e : Env} {s : State} {m : MethodId} {below : List Frame} {meth : Method} {c : Code} {D : va_G} {cy : Nat → ClassId} {ad5 ad6 : Nat → Nat} {b L : Nat} {xs : Nat → Int32} {ν : Lem} {cells slots : Nat} (C : LC p s m meth c D cy ad5 ad6 b L xs) (hr : meth.sig.returnType = ret) (hcs : cells ≤ 600000 ∧ slots ≤ 7302250) :
    ∀ (n i : Nat) (μ μM : Mem) (νM : Lem) (H : Heap) (locs : List Loc) (ls : Array Slot), i ≤ L + 6 → L + 6 - i < n → RR μ μM → LW s D cy ad5 ad6 μ ν μM νM H locs → lv_has ls 4 (lLoc ad5 ad6 b i) → W p l e room_1 s m #[Value.ref b] below meth c H locs cells slots (lw_Z below #[Value.ref b] s) (F0 m 18 ls []) := by
  have hx := C.1.1.1
  have hb := C.1.1.2.1
  have hL := C.2.2.2.2.2.2.2
  have hX := C.2.2.2.2.2.1
  have hbl := C.2.2.2.2.2.2.1
  have hbA : ¬ lA s b := Nat.not_le.mpr hbl
  intro n
  induction n with
  | zero =>
    intro i μ μM νM H locs ls _ h
    exact absurd h (Nat.not_lt_zero _)
  | succ n ih =>
    intro i μ μM νM H locs ls hi6 hn hR X hl
    refine lv_iload_n hx hb dL_law_18 rfl (lv_at hl 0 rfl) ?_
    refine lv_aload_n hx hb dL_law_19 rfl (lv_at hl 3 rfl) ?_
    refine va_slen hx hb hX hbl hbA X.2.2 dL_law_20 ?_
    refine lv_bipush (v := 6) hx hb dL_law_21 (by decide) ?_
    refine lv_isub hx hb dL_law_23 ?_
    have hd : (nI L - 6).toInt = (L : Int) - 6 := pk_sub_toInt (b := 6) (by omega) (by decide)
    refine lv_icmp_gt (tgt := 1280) hx hb dL_law_24 (by decide) (fun c0 => ?_) (fun c0 => ?_)
    · refine lv_iconst (v := 1) hx hb dL_law_1280 (by decide) ?_
      refine va_forget (fun q hq => X.2.2.2.2 q hq) ?_
      refine W.widen (k := 600000) (n := 7302250) hcs.1 hcs.2 ?_
      exact lw_ret hx hb hr C.1.2.2.2.1 dL_law_1281
    · have hi : i + 6 ≤ L := by
        have c0 : ¬ (nI L - 6) < nI i := c0
        rw [fa_lt, hd, nI_toInt (by omega)] at c0
        omega
      refine lv_aload_n hx hb dL_law_27 rfl (lv_at hl 3 rfl) ?_
      refine lv_iload_n hx hb dL_law_28 rfl (lv_at hl 0 rfl) ?_
      refine va_sld hx hb hX hbl hbA X.2.2 (nI_in (by omega) (by omega)) dL_law_29 ?_
      refine lv_bipush (v := 31) hx hb dL_law_30 (by decide) ?_
      refine lv_iand hx hb dL_law_32 ?_
      rw [nI_clamp (by omega)]
      obtain ⟨k, hk, hx31⟩ := and31 (xs i)
      have next : ∀ (μ1 μM1 : Mem) (νM1 : Lem) (H1 : Heap) (locs1 : List Loc), RR μ1 μM1 → LW s D cy ad5 ad6 μ1 ν μM1 νM1 H1 locs1 → W p l e room_1 s m #[Value.ref b] below meth c H1 locs1 cells slots (lw_Z below #[Value.ref b] s) (F0 m 1274 ls []) := by
        intro μ1 μM1 νM1 H1 locs1 hR1 X1
        refine lv_iinc (v := nI (i + 6)) (lv' := lLoc ad5 ad6 b (i + 6)) hx hb dL_law_1274 hl (k := 0) rfl (show nI i + nI 6 = nI (i + 6) from nI_add i 6) (by decide) rfl (fun ls hl => ?_)
        refine lv_goto (tgt := 18) hx hb dL_law_1277 (by decide) ?_
        exact ih (i + 6) μ1 μM1 νM1 H1 locs1 ls (by omega) (by omega) hR1 X1 hl
      rcases (show k = 0 ∨ k = 1 ∨ k = 2 ∨ k = 3 ∨ k = 4 ∨ k = 5 ∨ k = 6 ∨ k = 7 ∨ k = 8 ∨ k = 9 ∨ k = 10 ∨ k = 11 ∨ k = 12 ∨ k = 13 ∨ k = 14 ∨ k = 15 ∨ k = 16 ∨ k = 17 ∨ k = 18 ∨ k = 19 ∨ k = 20 ∨ k = 21 ∨ k = 22 ∨ k = 23 ∨ k = 24 ∨ k = 25 ∨ k = 26 ∨ k = 27 ∨ k = 28 ∨ k = 29 ∨ k = 30 ∨ k = 31 by omega) with rfl | rfl | rfl | rfl | rfl | rfl | rfl | rfl | rfl | rfl | rfl | rfl | rfl | rfl | rfl | rfl | rfl | rfl | rfl | rfl | rfl | rfl | rfl | rfl | rfl | rfl | rfl | rfl | rfl | rfl | rfl | rfl
      · exact rTab (v := 0) (off := 143) (tgt := 176) hx hb hx31 dL_law_33 (by decide) (by decide) rfl (by decide) (lk_set C hR X hi hl hcs next)
      · exact rTab (v := 1) (off := 186) (tgt := 219) hx hb hx31 dL_law_33 (by decide) (by decide) rfl (by decide) (lk_way C hR X hi hl hcs next)
      · exact rTab (v := 2) (off := 219) (tgt := 252) hx hb hx31 dL_law_33 (by decide) (by decide) rfl (by decide) (lk_point C hR X hi hl hcs next)
      · exact rTab (v := 3) (off := 262) (tgt := 295) hx hb hx31 dL_law_33 (by decide) (by decide) rfl (by decide) (lk_clear C hR X hi hl hcs next)
      · exact rTab (v := 4) (off := 285) (tgt := 318) hx hb hx31 dL_law_33 (by decide) (by decide) rfl (by decide) (lk_told C hR X hi hl hcs next)
      · exact rTab (v := 5) (off := 318) (tgt := 351) hx hb hx31 dL_law_33 (by decide) (by decide) rfl (by decide) (lk_feed C hR X hi hl hcs next)
      · exact rTab (v := 6) (off := 341) (tgt := 374) hx hb hx31 dL_law_33 (by decide) (by decide) rfl (by decide) (lk_text C hR X hi hl hcs next)
      · exact rTab (v := 7) (off := 354) (tgt := 387) hx hb hx31 dL_law_33 (by decide) (by decide) rfl (by decide) (lk_force C hR X hi hl hcs next)
      · exact rTab (v := 8) (off := 377) (tgt := 410) hx hb hx31 dL_law_33 (by decide) (by decide) rfl (by decide) (lk_at C hR X hi hl hcs next)
      · exact rTab (v := 9) (off := 410) (tgt := 443) hx hb hx31 dL_law_33 (by decide) (by decide) rfl (by decide) (lk_asks C hR X hi hl hcs next)
      · exact rTab (v := 10) (off := 453) (tgt := 486) hx hb hx31 dL_law_33 (by decide) (by decide) rfl (by decide) (lk_length C hR X hi hl hcs next)
      · exact rTab (v := 11) (off := 496) (tgt := 529) hx hb hx31 dL_law_33 (by decide) (by decide) rfl (by decide) (lk_mean C hR X hi hl hcs next)
      · exact rTab (v := 12) (off := 529) (tgt := 562) hx hb hx31 dL_law_33 (by decide) (by decide) rfl (by decide) (lk_half C hR X hi hl hcs next)
      · exact rTab (v := 13) (off := 562) (tgt := 595) hx hb hx31 dL_law_33 (by decide) (by decide) rfl (by decide) (lk_meet C hR X hi hl hcs next)
      · exact rTab (v := 14) (off := 605) (tgt := 638) hx hb hx31 dL_law_33 (by decide) (by decide) rfl (by decide) (lk_when C hR X hi hl hcs next)
      · exact rTab (v := 15) (off := 649) (tgt := 682) hx hb hx31 dL_law_33 (by decide) (by decide) rfl (by decide) (lk_sure C hR X hi hl hcs next)
      · exact rTab (v := 16) (off := 682) (tgt := 715) hx hb hx31 dL_law_33 (by decide) (by decide) rfl (by decide) (lk_apart C hR X hi hl hcs next)
      · exact rTab (v := 17) (off := 725) (tgt := 758) hx hb hx31 dL_law_33 (by decide) (by decide) rfl (by decide) (lk_fits C hR X hi hl hcs next)
      · exact rTab (v := 18) (off := 748) (tgt := 781) hx hb hx31 dL_law_33 (by decide) (by decide) rfl (by decide) (lk_wrong C hR X hi hl hcs next)
      · exact rTab (v := 19) (off := 791) (tgt := 824) hx hb hx31 dL_law_33 (by decide) (by decide) rfl (by decide) (lk_posts C hR X hi hl hcs next)
      · exact rTab (v := 20) (off := 814) (tgt := 847) hx hb hx31 dL_law_33 (by decide) (by decide) rfl (by decide) (lk_beads C hR X hi hl hcs next)
      · exact rTab (v := 21) (off := 837) (tgt := 870) hx hb hx31 dL_law_33 (by decide) (by decide) rfl (by decide) (lk_heat C hR X hi hl hcs next)
      · exact rTab (v := 22) (off := 860) (tgt := 893) hx hb hx31 dL_law_33 (by decide) (by decide) rfl (by decide) (lk_drawn C hR X hi hl hcs next)
      · exact rTab (v := 23) (off := 903) (tgt := 936) hx hb hx31 dL_law_33 (by decide) (by decide) rfl (by decide) (lk_chance C hR X hi hl hcs next)
      · exact rTab (v := 24) (off := 957) (tgt := 990) hx hb hx31 dL_law_33 (by decide) (by decide) rfl (by decide) (lk_image C hR X hi hl hcs next)
      · exact rTab (v := 25) (off := 970) (tgt := 1003) hx hb hx31 dL_law_33 (by decide) (by decide) rfl (by decide) (lk_back C hR X hi hl hcs next)
      · exact rTab (v := 26) (off := 983) (tgt := 1016) hx hb hx31 dL_law_33 (by decide) (by decide) rfl (by decide) (lk_count C hR X hi hl hcs next)
      · exact rTab (v := 27) (off := 1006) (tgt := 1039) hx hb hx31 dL_law_33 (by decide) (by decide) rfl (by decide) (lk_sheet C hR X hi hl hcs next)
      · exact rTab (v := 28) (off := 1049) (tgt := 1082) hx hb hx31 dL_law_33 (by decide) (by decide) rfl (by decide) (lk_cell C hR X hi hl hcs next)
      · exact rTab (v := 29) (off := 1092) (tgt := 1125) hx hb hx31 dL_law_33 (by decide) (by decide) rfl (by decide) (lk_copy C hR X hi hl hcs next)
      · exact rTab (v := 30) (off := 1155) (tgt := 1188) hx hb hx31 dL_law_33 (by decide) (by decide) rfl (by decide) (lk_points C hR X hi hl hcs next)
      · exact rTab (v := 31) (off := 1208) (tgt := 1241) hx hb hx31 dL_law_33 (by decide) (by decide) rfl (by decide) (lk_taken C hR X hi hl hcs next)
