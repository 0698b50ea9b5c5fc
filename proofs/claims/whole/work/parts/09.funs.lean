def fJ0_checkIndex_df160 (x0 x1 : Int32) : Option Unit := gd (¬ x0 < 0 ∧ x0 < x1) (some ())
def f0_has (μ : Mem) (o : Nat) (x1 : Int32) : Int32 :=
  if x1 < 0 then 0 else if (μ (1 + o) 1) ≤ x1 then 0 else 1
def f4_begin (μ : Mem) (j : Nat) (x1 : Int32) (x2 : Int32) : Mem :=
  nm (up μ (14 + 3 * j) 0 x1) (fun μ2 => nm (up μ2 (14 + 3 * j) 1 x2) (fun μ7 => nm (up μ7 (14 + 3 * j) 2 0) (fun μ12 => μ12)))
def f4_add (μ : Mem) (j : Nat) (x1 : Int32) (x2 : Int32) : Option (Mem) :=
  if 8 ≤ (μ (14 + 3 * j) 2) then some μ else gd (inb (μ (14 + 3 * j) 2) 8) (nm (up μ (15 + 3 * j) (μ (14 + 3 * j) 2).toNatClampNeg x1) (fun μ18 => gd (inb (μ18 (14 + 3 * j) 2) 8) (nm (up μ18 (16 + 3 * j) (μ18 (14 + 3 * j) 2).toNatClampNeg x2) (fun μ28 => nm (up μ28 (14 + 3 * j) 2 ((μ28 (14 + 3 * j) 2) + 1)) (fun μ36 => some μ36)))))
def f4_become_1 (n : Nat) (μ : Mem) (j : Nat) (x1 : Nat) (x2 : Int32) : Option (Mem) :=
  match n with
  | 0 => none
  | n + 1 => if (μ (14 + 3 * x1) 2) ≤ x2 then some μ else gd (inb x2 8) (gd (inb x2 8) (bd1 (f4_add μ j (μ (15 + 3 * x1) x2.toNatClampNeg) (μ (16 + 3 * x1) x2.toNatClampNeg)) (fun μ35 => nm (x2 + 1) (fun v38 => f4_become_1 n μ35 j x1 v38))))
def f4_become (μ : Mem) (j : Nat) (x1 : Nat) : Option (Mem) :=
  nm (f4_begin μ j (μ (14 + 3 * x1) 0) (μ (14 + 3 * x1) 1)) (fun μ9 => f4_become_1 FUEL μ9 j x1 0)
def f0_become_1 (n : Nat) (μ : Mem) (o : Nat) (x1 : Nat) (x2 : Int32) : Option (Mem) :=
  match n with
  | 0 => none
  | n + 1 => if (μ (1 + o) 1) ≤ x2 then some μ else gd (inb x2 6) (gd (inb x2 6) (bd1 (f4_become μ (6 * o + x2.toNatClampNeg) (6 * x1 + x2.toNatClampNeg)) (fun μ46 => nm (x2 + 1) (fun v49 => f0_become_1 n μ46 o x1 v49))))
def f0_become (μ : Mem) (o : Nat) (x1 : Nat) : Option (Mem) :=
  nm (up μ (1 + o) 0 (μ (1 + x1) 0)) (fun μ5 => nm (up μ5 (1 + o) 1 (μ5 (1 + x1) 1)) (fun μ13 => nm (up μ13 (1 + o) 2 (μ13 (1 + x1) 2)) (fun μ21 => f0_become_1 FUEL μ21 o x1 0)))
def f0_allPoints_1 (μ : Mem) (n : Nat) (o : Nat) (x1 : Int32) (x2 : Int32) : Option (Int32) :=
  match n with
  | 0 => none
  | n + 1 => if (μ (1 + o) 1) ≤ x2 then some x1 else gd (inb x2 6) (nm (x1 + (μ (14 + 3 * (6 * o + x2.toNatClampNeg)) 2)) (fun v23 => nm (x2 + 1) (fun v24 => f0_allPoints_1 μ n o v23 v24)))
def f0_allPoints (μ : Mem) (o : Nat) : Option (Int32) :=
  f0_allPoints_1 μ FUEL o 0 0
def f4_farthestPlace_1 (μ : Mem) (n : Nat) (j : Nat) (x1 : Int32) (x2 : Int32) : Option (Int32) :=
  match n with
  | 0 => none
  | n + 1 => if (μ (14 + 3 * j) 2) ≤ x2 then some x1 else gd (inb x2 8) (nm (jmax x1 (μ (16 + 3 * j) x2.toNatClampNeg)) (fun v22 => nm (x2 + 1) (fun v23 => f4_farthestPlace_1 μ n j v22 v23)))
def f4_farthestPlace (μ : Mem) (j : Nat) : Option (Int32) :=
  f4_farthestPlace_1 μ FUEL j 0 0
def f0_farthestPlace_1 (μ : Mem) (n : Nat) (o : Nat) (x1 : Int32) (x2 : Int32) : Option (Int32) :=
  match n with
  | 0 => none
  | n + 1 => if (μ (1 + o) 1) ≤ x2 then some x1 else gd (inb x2 6) (bd1 (f4_farthestPlace μ (6 * o + x2.toNatClampNeg)) (fun r19 => nm (jmax x1 r19) (fun v25 => nm (x2 + 1) (fun v26 => f0_farthestPlace_1 μ n o v25 v26))))
def f0_farthestPlace (μ : Mem) (o : Nat) : Option (Int32) :=
  f0_farthestPlace_1 μ FUEL o 0 0
def f1_begin_1 (n : Nat) (μ : Mem) (q : Nat) (x3 : Int32) : Option (Mem) :=
  match n with
  | 0 => none
  | n + 1 => if (μ (71 + 2 * q) 1) ≤ x3 then some μ else gd (inb x3 40) (nm (up μ (72 + 2 * q) x3.toNatClampNeg 0) (fun μ31 => nm (x3 + 1) (fun v32 => f1_begin_1 n μ31 q v32)))
def f1_begin (μ : Mem) (q : Nat) (x1 : Int32) (x2 : Int32) : Option (Mem) :=
  nm (up μ (71 + 2 * q) 0 x1) (fun μ2 => nm (up μ2 (71 + 2 * q) 1 (jmin x2 40)) (fun μ12 => f1_begin_1 FUEL μ12 q 0))
def f1_isMissing (μ : Mem) (q : Nat) : Int32 :=
  if (μ (71 + 2 * q) 0) = (-1) then 1 else 0
def f1_holds (μ : Mem) (q : Nat) (x1 : Int32) (x2 : Int32) : Int32 :=
  if x1 < 0 then 0 else if x2 < 0 then 0 else if (μ (71 + 2 * q) 1) < x2 then 0 else if ((μ (71 + 2 * q) 1) - x2) < x1 then 0 else 1
def f1_put (μ : Mem) (q : Nat) (x1 : Int32) (x2 : Int32) : Option (Mem) :=
  if (μ (71 + 2 * q) 0) = 0 then gd (inb x1 40) (nm (up μ (72 + 2 * q) x1.toNatClampNeg (x2.toInt8.toInt32)) (fun μ31 => some μ31)) else if (μ (71 + 2 * q) 0) = 1 then gd (inb x1 40) (nm (up μ (72 + 2 * q) x1.toNatClampNeg (x2.toInt16.toInt32)) (fun μ31 => some μ31)) else gd (inb x1 40) (nm (up μ (72 + 2 * q) x1.toNatClampNeg x2) (fun μ31 => some μ31))
def f5_rest (x0 : Int32) (x1 : Int32) : Option (Int32) :=
  if 1 ≤ x1 then gd (¬ x1 = 0) (some (jrem x0 x1)) else some 0
def f1_onRing (μ : Mem) (q : Nat) (x1 : Int32) : Option (Int32) :=
  bd1 (f5_rest x1 (μ (71 + 2 * q) 1)) (fun r9 => gd (inb r9 40) (some (μ (72 + 2 * q) r9.toNatClampNeg)))
def f1_filled_1 (μ : Mem) (n : Nat) (q : Nat) (x1 : Int32) (x2 : Int32) (x3 : Int32) (x4 : Int32) : Option (Int32) :=
  match n with
  | 0 => none
  | n + 1 => if x2 ≤ x4 then some x3 else bd1 (f1_onRing μ q (x1 + x4)) (fun r16 => if r16 = 0 then nm (x4 + 1) (fun v25 => f1_filled_1 μ n q x1 x2 x3 v25) else nm (x3 + 1) (fun v22 => nm (x4 + 1) (fun v25 => f1_filled_1 μ n q x1 x2 v22 v25)))
def f1_filled (μ : Mem) (q : Nat) (x1 : Int32) (x2 : Int32) : Option (Int32) :=
  f1_filled_1 μ FUEL q x1 x2 0 0
def f1_acrossFrom (μ : Mem) (q : Nat) (x1 : Int32) : Option (Int64) :=
  bd1 (f1_onRing μ q x1) (fun r2 => bd1 (f1_onRing μ q (x1 + ((μ (71 + 2 * q) 1) / 2))) (fun r15 => some ((r2.toInt64) - (r15.toInt64))))
def f2_add (μ : Mem) (x1 : Int32) : Option (Mem) :=
  if 160 ≤ (μ 3 1) then some μ else gd (inb (μ 3 1) 160) (nm (up μ 4 (μ 3 1).toNatClampNeg x1) (fun μ19 => nm (up μ19 3 1 ((μ19 3 1) + 1)) (fun μ27 => some μ27)))
def f3_begin (μ : Mem) (t : Nat) : Mem :=
  nm (up μ (53 + 3 * t) 2 0) (fun μ2 => μ2)
def f2_isLetter (x0 : Int32) : Int32 :=
  if x0 < 97 then 0 else if 122 < x0 then 0 else 1
def fJ0_coder_7d493 (i : Nat) : Int32 :=
  0
def fJ0_length_8abf5 (i : Nat) : Int32 :=
  ((nI (lenK i)) >>> (0 &&& 31))
def fJ0_isLatin1_aae02 (i : Nat) : Int32 :=
  1
def fJ1_charAt_3b067 (μ : Mem) (x0 : Nat) (x1 : Int32) : Option (Int32) :=
  bd1 (fJ0_checkIndex_df160 x1 (nI (lenK x0))) (fun _ => gd (inb x1 (lenK x0)) (some ((((bK x0 x1.toNatClampNeg) &&& 255).toUInt32 % 65536).toInt32)))
def fJ0_charAt_5068e (μ : Mem) (i : Nat) (x1 : Int32) : Option (Int32) :=
  bd1 (fJ1_charAt_3b067 μ i x1) (fun r12 => some r12)
def f2_isWord_1 (μ : Mem) (n : Nat) (x1 : Int32) (x3 : Int32) : Option (Int32) :=
  match n with
  | 0 => none
  | n + 1 => if (μ 3 2) ≤ x3 then some 1 else gd (inb x3 160) (bd1 (fJ0_charAt_5068e μ 0 ((x1 + x3) - (μ 3 3))) (fun r46 => if (μ 4 x3.toNatClampNeg) = r46 then nm (x3 + 1) (fun v54 => f2_isWord_1 μ n x1 v54) else some 0))
def f2_isWord (μ : Mem) (x1 : Int32) (x2 : Int32) : Option (Int32) :=
  if ((μ 3 2) - (μ 3 3)) = (x2 - x1) then nm (μ 3 3) (fun v21 => f2_isWord_1 μ FUEL x1 v21) else some 0
def f2_readWord_3 (n : Nat) (μ : Mem) (x1 : Int32) (x2 : Int32) (x3 : Int32) : Option (Mem) :=
  match n with
  | 0 => none
  | n + 1 => if (fJ0_length_8abf5 0) ≤ x3 then some μ else if (μ 3 4) = 22 then bd1 (fJ0_charAt_5068e μ 0 x3) (fun r72 => if r72 = 32 then bd1 (f2_isWord μ x2 x3) (fun r83 => if r83 = 0 then nm (x1 + 1) (fun v94 => nm (x3 + 1) (fun v100 => nm (x3 + 1) (fun v101 => f2_readWord_3 n μ v94 v100 v101))) else nm (up μ 3 4 x1) (fun μ91 => nm (x1 + 1) (fun v94 => nm (x3 + 1) (fun v100 => nm (x3 + 1) (fun v101 => f2_readWord_3 n μ91 v94 v100 v101))))) else nm (x3 + 1) (fun v101 => f2_readWord_3 n μ x1 x2 v101)) else some μ
def f2_readWord_2 (μ : Mem) : Option (Mem) :=
  nm (up μ 3 4 22) (fun μ42 => f2_readWord_3 FUEL μ42 0 0 0)
def f2_readWord_1 (n : Nat) (μ : Mem) : Option (Mem) :=
  match n with
  | 0 => none
  | n + 1 => if (μ 3 1) ≤ (μ 3 2) then f2_readWord_2 μ else gd (inb (μ 3 2) 160) (if (f2_isLetter (μ 4 (μ 3 2).toNatClampNeg)) = 0 then f2_readWord_2 μ else nm (up μ 3 2 ((μ 3 2) + 1)) (fun μ33 => f2_readWord_1 n μ33))
def f2_readWord (μ : Mem) : Option (Mem) :=
  f2_readWord_1 FUEL μ
def f2_isDigit (x0 : Int32) : Int32 :=
  if x0 < 48 then 0 else if 57 < x0 then 0 else 1
def f2_readNumber_2 (μ : Mem) : Option (Mem) :=
  if ((μ 3 2) - (μ 3 3)) ≤ 4 then nm (up μ 3 4 20) (fun μ89 => some μ89) else nm (up μ 3 4 22) (fun μ89 => some μ89)
def f2_readNumber_1 (n : Nat) (μ : Mem) : Option (Mem) :=
  match n with
  | 0 => none
  | n + 1 => if (μ 3 1) ≤ (μ 3 2) then f2_readNumber_2 μ else gd (inb (μ 3 2) 160) (if (f2_isDigit (μ 4 (μ 3 2).toNatClampNeg)) = 0 then f2_readNumber_2 μ else gd (inb (μ 3 2) 160) (nm (up μ 3 5 (((10 * (μ 3 5)) + (μ 4 (μ 3 2).toNatClampNeg)) - 48)) (fun μ52 => nm (up μ52 3 2 ((μ52 3 2) + 1)) (fun μ62 => f2_readNumber_1 n μ62))))
def f2_readNumber (μ : Mem) : Option (Mem) :=
  nm (up μ 3 5 0) (fun μ2 => f2_readNumber_1 FUEL μ2)
def fJ1_canEncode_9a6ad (x0 : Int32) : Int32 :=
  if x0 < 0 then 0 else if 255 < x0 then 0 else 1
def fJ1_indexOfChar_4cfef_1 (μ : Mem) (n : Nat) (x0 : Nat) (x3 : Int32) (x4 : Int32) (x5 : Int32) : Option (Int32) :=
  match n with
  | 0 => none
  | n + 1 => if x3 ≤ x5 then some (-1) else gd (inb x5 (lenK x0)) (if (bK x0 x5.toNatClampNeg) = x4 then some x5 else nm (x5 + 1) (fun v25 => fJ1_indexOfChar_4cfef_1 μ n x0 x3 x4 v25))
def fJ1_indexOfChar_4cfef (μ : Mem) (x0 : Nat) (x1 : Int32) (x2 : Int32) (x3 : Int32) : Option (Int32) :=
  nm (x1.toInt8.toInt32) (fun v2 => fJ1_indexOfChar_4cfef_1 μ FUEL x0 x3 v2 x2)
def fJ1_indexOf_4cfef (μ : Mem) (x0 : Nat) (x1 : Int32) (x2 : Int32) (x3 : Int32) : Option (Int32) :=
  if (fJ1_canEncode_9a6ad x1) = 0 then some (-1) else nm (jmax x2 0) (fun v14 => nm (jmin x3 (nI (lenK x0))) (fun v21 => if v14 < v21 then bd1 (fJ1_indexOfChar_4cfef μ x0 x1 v14 v21) (fun r33 => some r33) else some (-1)))
def fJ0_indexOf_7cf53 (μ : Mem) (i : Nat) (x1 : Int32) (x2 : Int32) : Option (Int32) :=
  bd1 (fJ1_indexOf_4cfef μ i x1 x2 (fJ0_length_8abf5 i)) (fun r17 => some r17)
def fJ0_indexOf_0f7a4 (μ : Mem) (i : Nat) (x1 : Int32) : Option (Int32) :=
  bd1 (fJ0_indexOf_7cf53 μ i x1 0) (fun r3 => some r3)
def f2_advance_3 (μ : Mem) (t1 : Int32) : Option (Mem) :=
  nm (up μ 3 4 t1) (fun μ154 => nm (up μ154 3 2 ((μ154 3 2) + 1)) (fun μ164 => some μ164))
def f2_advance_2 (μ : Mem) : Option (Mem) :=
  nm (up μ 3 3 (μ 3 2)) (fun μ57 => if (μ57 3 2) < (μ57 3 1) then gd (inb (μ57 3 2) 160) (if (f2_isLetter (μ57 4 (μ57 3 2).toNatClampNeg)) = 0 then gd (inb (μ57 3 2) 160) (if (f2_isDigit (μ57 4 (μ57 3 2).toNatClampNeg)) = 0 then gd (inb (μ57 3 2) 160) (bd1 (fJ0_indexOf_0f7a4 μ57 1 (((μ57 4 (μ57 3 2).toNatClampNeg).toUInt32 % 65536).toInt32)) (fun r136 => if 0 ≤ r136 then f2_advance_3 μ57 (12 + r136) else f2_advance_3 μ57 22)) else bd1 (f2_readNumber μ57) (fun μ118 => some μ118)) else bd1 (f2_readWord μ57) (fun μ96 => some μ96)) else nm (up μ57 3 4 21) (fun μ74 => some μ74))
def f2_advance_1 (n : Nat) (μ : Mem) : Option (Mem) :=
  match n with
  | 0 => none
  | n + 1 => if (μ 3 1) ≤ (μ 3 2) then f2_advance_2 μ else gd (inb (μ 3 2) 160) (if (μ 4 (μ 3 2).toNatClampNeg) = 32 then nm (up μ 3 2 ((μ 3 2) + 1)) (fun μ46 => f2_advance_1 n μ46) else gd (inb (μ 3 2) 160) (if (μ 4 (μ 3 2).toNatClampNeg) = 10 then nm (up μ 3 2 ((μ 3 2) + 1)) (fun μ46 => f2_advance_1 n μ46) else f2_advance_2 μ))
def f2_advance (μ : Mem) : Option (Mem) :=
  f2_advance_1 FUEL μ
def f2_refuse (μ : Mem) : Mem :=
  if (μ 3 6) = (-1) then nm (up μ 3 6 (μ 3 3)) (fun μ13 => nm (up μ13 3 4 22) (fun μ19 => μ19)) else nm (up μ 3 4 22) (fun μ19 => μ19)
def f2_expect (μ : Mem) (x1 : Int32) : Option (Mem) :=
  if (μ 3 4) = x1 then bd1 (f2_advance μ) (fun μ9 => some μ9) else nm (f2_refuse μ) (fun μ16 => some μ16)
def f3_put (μ : Mem) (t : Nat) (x1 : Int32) : Option (Mem) :=
  if 160 ≤ (μ (53 + 3 * t) 2) then some μ else gd (inb (μ (53 + 3 * t) 2) 160) (nm (up μ (54 + 3 * t) (μ (53 + 3 * t) 2).toNatClampNeg x1) (fun μ19 => nm (up μ19 (53 + 3 * t) 2 ((μ19 (53 + 3 * t) 2) + 1)) (fun μ27 => some μ27)))
def f2_emit (μ : Mem) (x1 : Int32) : Option (Mem) :=
  gd (¬ μ 3 7 = 0 ∧ (μ 3 7).toNatClampNeg - 1 < 6) (gd (¬ μ 3 7 = 0 ∧ (μ 3 7).toNatClampNeg - 1 < 6) (bd1 (f3_put μ ((μ 3 7).toNatClampNeg - 1) x1) (fun μ12 => some μ12)))
def f2_one_5 (P : Mem → Int32 → Int32 → Option Mem) (μ : Mem) (x1 : Int32) (x2 : Int32) (x3 : Int32) (t0 : Int32) : Option (Mem) :=
  bd1 (f2_advance μ) (fun μ68 => if x3 = 0 then bd1 (f2_emit μ68 t0) (fun μ78 => some μ78) else if x2 = 16 then bd1 (P μ68 5 (x1 + 1)) (fun μ95 => bd1 (f2_emit μ95 (-24)) (fun μ101 => some μ101)) else bd1 (P μ68 0 (x1 + 1)) (fun μ112 => bd1 (f2_expect μ112 13) (fun μ118 => some μ118)))
def f2_one_4 (P : Mem → Int32 → Int32 → Option Mem) (μ : Mem) (x1 : Int32) (x2 : Int32) (x3 : Int32) : Option (Mem) :=
  if x2 = 20 then f2_one_5 P μ x1 x2 x3 (μ 3 5) else f2_one_5 P μ x1 x2 x3 (x2 ^^^ (-1))
def f2_one_3 (P : Mem → Int32 → Int32 → Option Mem) (μ : Mem) (x1 : Int32) (x2 : Int32) (t0 : Int32) : Option (Mem) :=
  if t0 = 0 then if x2 = 20 then f2_one_4 P μ x1 x2 t0 else if x2 < 6 then f2_one_4 P μ x1 x2 t0 else nm (f2_refuse μ) (fun μ45 => some μ45) else f2_one_4 P μ x1 x2 t0
def f2_one_2 (P : Mem → Int32 → Int32 → Option Mem) (μ : Mem) (x1 : Int32) (x2 : Int32) : Option (Mem) :=
  f2_one_3 P μ x1 x2 0
def f2_one_1 (P : Mem → Int32 → Int32 → Option Mem) (μ : Mem) (x1 : Int32) (x2 : Int32) : Option (Mem) :=
  if 5 ≤ x1 then f2_one_2 P μ x1 x2 else f2_one_3 P μ x1 x2 1
def f2_one (P : Mem → Int32 → Int32 → Option Mem) (μ : Mem) (x1 : Int32) : Option (Mem) :=
  nm (μ 3 4) (fun v4 => if v4 = 16 then f2_one_1 P μ x1 v4 else if v4 = 12 then f2_one_1 P μ x1 v4 else f2_one_2 P μ x1 v4)
def f2_joins (μ : Mem) (x1 : Int32) : Int32 :=
  if x1 = 0 then if (μ 3 4) = 9 then 1 else 0 else if x1 = 1 then if (μ 3 4) = 10 then 1 else 0 else if x1 = 2 then if (μ 3 4) = 18 then 1 else if (μ 3 4) = 19 then 1 else 0 else if x1 = 3 then if (μ 3 4) = 15 then 1 else if (μ 3 4) = 16 then 1 else 0 else if x1 = 4 then if (μ 3 4) = 17 then 1 else 0 else 0
def f2_phrase_2 (P : Mem → Int32 → Int32 → Option Mem) (n : Nat) (μ : Mem) (x1 : Int32) (x2 : Int32) (x3 : Int32) (x4 : Int32) : Option (Mem) :=
  match n with
  | 0 => none
  | n + 1 => if x3 ≤ x4 then some μ else if (f2_joins μ x1) = 0 then some μ else nm (μ 3 4) (fun v91 => bd1 (f2_advance μ) (fun μ94 => bd1 (P μ94 (x1 + 1) x2) (fun μ102 => bd1 (f2_emit μ102 (v91 ^^^ (-1))) (fun μ110 => nm (x4 + 1) (fun v113 => f2_phrase_2 P n μ110 x1 x2 x3 v113)))))
def f2_phrase_1 (P : Mem → Int32 → Int32 → Option Mem) (μ : Mem) (x1 : Int32) (x2 : Int32) : Option (Mem) :=
  bd1 (P μ (x1 + 1) x2) (fun μ54 => if x1 = 2 then f2_phrase_2 P FUEL μ54 x1 x2 1 0 else f2_phrase_2 P FUEL μ54 x1 x2 160 0)
def f2_phraseB (P : Mem → Int32 → Int32 → Option Mem) (μ : Mem) (x1 : Int32) (x2 : Int32) : Option (Mem) :=
  if x1 = 5 then bd1 (f2_one P μ x2) (fun μ7 => some μ7) else if x1 = 2 then if (μ 3 4) = 11 then if 5 ≤ x2 then f2_phrase_1 P μ x1 x2 else bd1 (f2_advance μ) (fun μ31 => bd1 (P μ31 2 (x2 + 1)) (fun μ39 => bd1 (f2_emit μ39 (-12)) (fun μ45 => some μ45))) else f2_phrase_1 P μ x1 x2 else f2_phrase_1 P μ x1 x2
def f2_phrase (d : Nat) (μ : Mem) (x1 : Int32) (x2 : Int32) : Option Mem :=
  match d with
  | 0 => none
  | d + 1 => f2_phraseB (f2_phrase d) μ x1 x2
def DEEP : Nat := 80
def f3_endPart (μ : Mem) (t : Nat) (x1 : Int32) : Option (Mem) :=
  gd (inb x1 3) (nm (up μ (55 + 3 * t) x1.toNatClampNeg (μ (53 + 3 * t) 2)) (fun μ9 => some μ9))
def f2_readInto_1 (n : Nat) (μ : Mem) (x1 : Nat) (x2 : Int32) : Option (Int32 × Mem) :=
  match n with
  | 0 => none
  | n + 1 => if 3 ≤ x2 then bd1 (f2_expect μ 21) (fun μ64 => some (μ64 3 6, μ64)) else bd1 (f2_expect μ (6 + x2)) (fun μ35 => bd1 (f2_phrase DEEP μ35 0 0) (fun μ41 => bd1 (f2_expect μ41 14) (fun μ47 => bd1 (f3_endPart μ47 x1 x2) (fun μ52 => nm (x2 + 1) (fun v55 => f2_readInto_1 n μ52 x1 v55)))))
def f2_readInto (μ : Mem) (x1 : Nat) : Option (Int32 × Mem) :=
  nm (up μ 3 2 0) (fun μ2 => nm (up μ2 3 6 (-1)) (fun μ7 => nm (up μ7 3 7 (nI (x1 + 1))) (fun μ12 => nm (f3_begin μ12 x1) (fun μ16 => bd1 (f2_advance μ16) (fun μ20 => f2_readInto_1 FUEL μ20 x1 0)))))
def f3_becomeFirst (μ : Mem) (t : Nat) : Option (Mem) :=
  nm (f3_begin μ t) (fun μ1 => bd1 (f3_put μ1 t 500) (fun μ8 => bd1 (f3_endPart μ8 t 0) (fun μ13 => bd1 (f3_put μ13 t 0) (fun μ18 => bd1 (f3_endPart μ18 t 1) (fun μ23 => bd1 (f3_put μ23 t (-2)) (fun μ29 => bd1 (f3_endPart μ29 t 2) (fun μ34 => some μ34)))))))
def f3_truth (x0 : Int32) : Int32 :=
  if x0 = 0 then 0 else 1
def f3_joined_6 (t0 : Int32) : Int32 :=
  (f3_truth t0)
def f3_joined_5 (t0 : Int32) : Int32 :=
  (f3_truth t0)
def f3_joined_4 (t0 : Int32) : Int32 :=
  (f3_truth t0)
def f3_joined_3 : Int32 :=
  f3_joined_4 0
def f3_joined_2 (t0 : Int32) : Int32 :=
  (f3_truth t0)
def f3_joined_1 : Int32 :=
  f3_joined_2 1
def f3_joined (x0 : Int32) (x1 : Int32) (x2 : Int32) : Int32 :=
  if x0 = 9 then if x1 = 0 then if x2 = 0 then f3_joined_2 0 else f3_joined_1 else f3_joined_1 else if x0 = 10 then if x1 = 0 then f3_joined_3 else if x2 = 0 then f3_joined_3 else f3_joined_4 1 else if x0 = 15 then (x1 + x2) else if x0 = 16 then (x1 - x2) else if x0 = 18 then if x2 ≤ x1 then f3_joined_5 0 else f3_joined_5 1 else if x0 = 19 then if x1 = x2 then f3_joined_6 1 else f3_joined_6 0 else (x1 * x2)
def f3_tell_4 (K21 : Mem → Nat → Int32 → Int32 → Int32 → Option (Int32 × Mem)) (μ : Mem) (t : Nat) (x1 : Int32) (x4 : Int32) (x5 : Int32) (t1 : Int32) (t2 : Int32) : Option (Int32 × Mem) :=
  gd (inb t1 160) (nm (up μ 10 t1.toNatClampNeg (f3_truth t2)) (fun μ153 => nm (x5 + 1) (fun v189 => K21 μ153 t x1 x4 v189)))
def f3_tell_3 (K21 : Mem → Nat → Int32 → Int32 → Int32 → Option (Int32 × Mem)) (μ : Mem) (t : Nat) (x1 : Int32) (x4 : Int32) (x5 : Int32) (x6 : Int32) : Option (Int32 × Mem) :=
  if x4 < 1 then nm (x5 + 1) (fun v189 => K21 μ t x1 x4 v189) else if (x6 ^^^ (-1)) = 23 then gd (inb (x4 - 1) 160) (gd (inb (x4 - 1) 160) (nm (up μ 10 (x4 - 1).toNatClampNeg (-(μ 10 (x4 - 1).toNatClampNeg))) (fun μ153 => nm (x5 + 1) (fun v189 => K21 μ153 t x1 x4 v189)))) else gd (inb (x4 - 1) 160) (if (μ 10 (x4 - 1).toNatClampNeg) = 0 then f3_tell_4 K21 μ t x1 x4 x5 (x4 - 1) 1 else f3_tell_4 K21 μ t x1 x4 x5 (x4 - 1) 0)
def f3_tell_2 (K21 : Mem → Nat → Int32 → Int32 → Int32 → Option (Int32 × Mem)) (μ : Mem) (t : Nat) (x1 : Int32) (x4 : Int32) (x5 : Int32) (x6 : Int32) : Option (Int32 × Mem) :=
  if 160 ≤ x4 then nm (x5 + 1) (fun v189 => K21 μ t x1 x4 v189) else if x6 < 0 then gd (inb (x6 ^^^ (-1)) 6) (gd (inb x4 160) (nm (up μ 10 x4.toNatClampNeg (μ 9 (x6 ^^^ (-1)).toNatClampNeg)) (fun μ81 => nm (x4 + 1) (fun v82 => nm (x5 + 1) (fun v189 => K21 μ81 t x1 v82 v189))))) else gd (inb x4 160) (nm (up μ 10 x4.toNatClampNeg x6) (fun μ81 => nm (x4 + 1) (fun v82 => nm (x5 + 1) (fun v189 => K21 μ81 t x1 v82 v189))))
def f3_tell_1 (n : Nat) (μ : Mem) (t : Nat) (x1 : Int32) (x4 : Int32) (x5 : Int32) : Option (Int32 × Mem) :=
  match n with
  | 0 => none
  | n + 1 => gd (inb x1 3) (if (μ (55 + 3 * t) x1.toNatClampNeg) ≤ x5 then if 1 ≤ x4 then gd (inb (x4 - 1) 160) (some (μ 10 (x4 - 1).toNatClampNeg, μ)) else some (0, μ) else gd (inb x5 160) (nm (μ (54 + 3 * t) x5.toNatClampNeg) (fun v39 => if 0 ≤ v39 then f3_tell_2 (f3_tell_1 n) μ t x1 x4 x5 v39 else if 6 ≤ (v39 ^^^ (-1)) then if (v39 ^^^ (-1)) = 11 then f3_tell_3 (f3_tell_1 n) μ t x1 x4 x5 v39 else if (v39 ^^^ (-1)) = 23 then f3_tell_3 (f3_tell_1 n) μ t x1 x4 x5 v39 else if x4 < 2 then nm (x5 + 1) (fun v189 => f3_tell_1 n μ t x1 x4 v189) else nm (x4 + (-1)) (fun v163 => gd (inb (v163 - 1) 160) (gd (inb v163 160) (gd (inb (v163 - 1) 160) (nm (up μ 10 (v163 - 1).toNatClampNeg (f3_joined (v39 ^^^ (-1)) (μ 10 (v163 - 1).toNatClampNeg) (μ 10 v163.toNatClampNeg))) (fun μ188 => nm (x5 + 1) (fun v189 => f3_tell_1 n μ188 t x1 v163 v189)))))) else f3_tell_2 (f3_tell_1 n) μ t x1 x4 x5 v39)))
def f3_tell (μ : Mem) (t : Nat) (x1 : Int32) : Option (Int32 × Mem) :=
  if x1 = 0 then f3_tell_1 FUEL μ t x1 0 0 else gd (inb (x1 - 1) 3) (nm (μ (55 + 3 * t) (x1 - 1).toNatClampNeg) (fun v19 => f3_tell_1 FUEL μ t x1 0 v19))
def f4_endsAhead (μ : Mem) (j : Nat) (x1 : Int32) : Option (Int32) :=
  if (μ (14 + 3 * j) 2) < 1 then some 1 else gd (inb ((μ (14 + 3 * j) 2) - 1) 8) (if x1 ≤ (μ (15 + 3 * j) ((μ (14 + 3 * j) 2) - 1).toNatClampNeg) then some 0 else some 1)
def f4_byPoints_3 (μ : Mem) (j : Nat) (x2 : Int32) : Option (Int32) :=
  if x2 = 0 then gd (inb 0 8) (some (1000 * (μ (16 + 3 * j) (0 : Int32).toNatClampNeg))) else gd (inb ((μ (14 + 3 * j) 2) - 1) 8) (some (1000 * (μ (16 + 3 * j) ((μ (14 + 3 * j) 2) - 1).toNatClampNeg)))
def f4_byPoints_2 (μ : Mem) (j : Nat) (x1 : Int32) (x2 : Int32) : Option (Int32) :=
  if x2 = 0 then f4_byPoints_3 μ j x2 else if x2 = (μ (14 + 3 * j) 2) then f4_byPoints_3 μ j x2 else nm (x2 - 1) (fun v75 => gd (inb v75 8) (nm (1000 * (μ (16 + 3 * j) v75.toNatClampNeg)) (fun v86 => gd (inb x2 8) (gd (inb v75 8) (nm ((μ (15 + 3 * j) x2.toNatClampNeg) - (μ (15 + 3 * j) v75.toNatClampNeg)) (fun v101 => gd (inb x2 8) (gd (inb v75 8) (gd (inb v75 8) (nm ((1000 * ((μ (16 + 3 * j) x2.toNatClampNeg) - (μ (16 + 3 * j) v75.toNatClampNeg))) * (x1 - (μ (15 + 3 * j) v75.toNatClampNeg))) (fun v129 => if 1 ≤ v101 then gd (¬ v101 = 0) (some (v86 + (v129 / v101))) else some v86))))))))))
def f4_byPoints_1 (μ : Mem) (n : Nat) (j : Nat) (x1 : Int32) (x2 : Int32) : Option (Int32) :=
  match n with
  | 0 => none
  | n + 1 => if (μ (14 + 3 * j) 2) ≤ x2 then f4_byPoints_2 μ j x1 x2 else gd (inb x2 8) (if x1 < (μ (15 + 3 * j) x2.toNatClampNeg) then f4_byPoints_2 μ j x1 x2 else nm (x2 + 1) (fun v30 => f4_byPoints_1 μ n j x1 v30))
def f4_byPoints (μ : Mem) (j : Nat) (x1 : Int32) : Option (Int32) :=
  if 1 ≤ (μ (14 + 3 * j) 2) then f4_byPoints_1 μ FUEL j x1 0 else some 0
def f4_late (μ : Mem) (j : Nat) (x1 : Int32) : Option (Int32) :=
  bd1 (f4_byPoints μ j (jmax 0 (x1 - (10 * (μ (14 + 3 * j) 1))))) (fun r14 => some r14)
def f4_turned (μ : Mem) (j : Nat) (x1 : Int32) (x2 : Int32) : Option (Int32) :=
  bd1 (f4_byPoints μ j x1) (fun r7 => some ((1000 * x2) - r7))
def f4_unbound (μ : Mem) (j : Nat) (x1 : Int32) (x2 : Int32) : Option (Int32) :=
  if (μ (14 + 3 * j) 0) = 1 then bd1 (f4_late μ j x1) (fun r42 => some r42) else if (μ (14 + 3 * j) 0) = 2 then bd1 (f4_turned μ j x1 x2) (fun r49 => some r49) else if (μ (14 + 3 * j) 0) = 3 then bd1 (f4_late μ j x1) (fun r55 => some (r55 / 2)) else if (μ (14 + 3 * j) 0) = 4 then bd1 (f5_rest x1 ((μ (14 + 3 * j) 1) + 1)) (fun r70 => bd1 (f4_turned μ j (x1 - r70) x2) (fun r75 => some r75)) else if (μ (14 + 3 * j) 0) = 5 then bd1 (f4_late μ j x1) (fun r81 => bd1 (f5_rest x1 ((μ (14 + 3 * j) 1) + 2)) (fun r94 => some (r81 + (1000 * r94)))) else bd1 (f4_byPoints μ j x1) (fun r102 => some r102)
def f5_within (x0 : Int32) (x1 : Int32) (x2 : Int32) : Int32 :=
  (jmax x0 (jmin x1 x2))
def f4_where (μ : Mem) (j : Nat) (x1 : Int32) (x2 : Int32) : Option (Int32) :=
  bd1 (f4_unbound μ j x1 x2) (fun r4 => some (f5_within 0 r4 (1000 * x2)))
def f4_lay_1 (n : Nat) (μ : Mem) (j : Nat) (x1 : Nat) (x2 : Int32) (x3 : Int32) : Option (Mem) :=
  match n with
  | 0 => none
  | n + 1 => if 601 ≤ x3 then some μ else bd1 (f4_where μ j x3 x2) (fun r13 => gd (inb x3 601) (nm (up μ x1 x3.toNatClampNeg r13) (fun μ16 => nm (x3 + 1) (fun v17 => f4_lay_1 n μ16 j x1 x2 v17))))
def f4_lay (μ : Mem) (j : Nat) (x1 : Nat) (x2 : Int32) : Option (Mem) :=
  f4_lay_1 FUEL μ j x1 x2 0
def f5_changeLong (μ : Mem) (x1 : Int32) : Option (Int32 × Mem) :=
  if x1 < 10 then some ((-2), μ) else if x1 ≤ 999 then bd1 (f0_farthestPlace μ 0) (fun r21 => if r21 ≤ x1 then nm (μ 1 0) (fun v37 => nm (up μ 1 0 x1) (fun μ43 => some (v37, μ43))) else some ((-3), μ)) else some ((-2), μ)
def f5_isNumber (x0 : Int32) : Int32 :=
  if x0 < 0 then 0 else if 9 < x0 then 0 else 1
def f5_changeNumber (μ : Mem) (x1 : Int32) (x2 : Int32) : Option (Int32 × Mem) :=
  if (f0_has μ 0 x1) = 0 then some ((-2), μ) else if (f5_isNumber x2) = 0 then some ((-2), μ) else gd (inb x1 6) (nm (μ (14 + 3 * x1.toNatClampNeg) 1) (fun v33 => gd (inb x1 6) (nm (up μ (14 + 3 * x1.toNatClampNeg) 1 x2) (fun μ44 => some (v33, μ44)))))
def f5_set (μ : Mem) (x1 : Int32) (x2 : Int32) (x3 : Int32) : Option (Int32 × Mem) :=
  if x1 = 0 then bd2 (f5_changeLong μ x3) (fun r6 μ6 => some (r6, μ6)) else if x1 = 1 then bd2 (f5_changeNumber μ x2 x3) (fun r18 μ18 => some (r18, μ18)) else some ((-2), μ)
def f5_isKind (x0 : Int32) : Int32 :=
  if x0 < 0 then 0 else if 6 ≤ x0 then 0 else 1
def f5_way (μ : Mem) (x1 : Int32) (x2 : Int32) : Option (Int32 × Mem) :=
  if (f5_isKind x1) = 0 then some ((-2), μ) else if (f5_isNumber x2) = 0 then some ((-2), μ) else if (μ 1 1) < 6 then gd (inb (μ 1 1) 6) (nm (f4_begin μ ((μ 1 1).toNatClampNeg) x1 x2) (fun μ49 => nm (up μ49 1 1 ((μ49 1 1) + 1)) (fun μ62 => some ((μ62 1 1) - 1, μ62)))) else some ((-4), μ)
def f5_isMinute (x0 : Int32) : Int32 :=
  if x0 < 0 then 0 else if 600 < x0 then 0 else 1
def f5_addPoint (μ : Mem) (x1 : Int32) (x2 : Int32) (x3 : Int32) : Option (Int32 × Mem) :=
  if (f0_has μ 0 x1) = 0 then some ((-2), μ) else if (f5_isMinute x2) = 0 then some ((-2), μ) else if x3 < 0 then some ((-2), μ) else if x3 ≤ (μ 1 0) then gd (inb x1 6) (bd1 (f4_endsAhead μ (x1.toNatClampNeg) x2) (fun r50 => if r50 = 0 then some ((-2), μ) else if (μ (14 + 3 * x1.toNatClampNeg) 2) < 8 then bd1 (f4_add μ (x1.toNatClampNeg) x2 x3) (fun μ76 => some (μ76 (14 + 3 * x1.toNatClampNeg) 2, μ76)) else some ((-4), μ))) else some ((-2), μ)
def f5_point (μ : Mem) (x1 : Int32) (x2 : Int32) (x3 : Int32) : Option (Int32 × Mem) :=
  bd2 (f5_addPoint μ x1 x2 x3) (fun r4 μ4 => some (r4, μ4))
def f5_clear (μ : Mem) (x1 : Int32) : Option (Int32 × Mem) :=
  if (f0_has μ 0 x1) = 0 then some ((-2), μ) else gd (inb x1 6) (nm (μ (14 + 3 * x1.toNatClampNeg) 2) (fun v26 => gd (inb x1 6) (nm (up μ (14 + 3 * x1.toNatClampNeg) 2 0) (fun μ37 => some (v26, μ37)))))
def f5_told (μ : Mem) (x1 : Int32) (x2 : Int32) : Option (Int32) :=
  if (f0_has μ 0 x1) = 0 then some (-2) else if 0 ≤ x2 then gd (inb x1 6) (if x2 = 0 then some (μ (14 + 3 * x1.toNatClampNeg) 0) else if x2 = 1 then some (μ (14 + 3 * x1.toNatClampNeg) 1) else if x2 = 2 then some (μ (14 + 3 * x1.toNatClampNeg) 2) else nm ((x2 - 3) / 2) (fun v62 => if v62 < (μ (14 + 3 * x1.toNatClampNeg) 2) then if (jrem x2 2) = 1 then gd (inb v62 8) (some (μ (15 + 3 * x1.toNatClampNeg) v62.toNatClampNeg)) else gd (inb v62 8) (some (μ (16 + 3 * x1.toNatClampNeg) v62.toNatClampNeg)) else some (-2))) else some (-2)
def f5_feed (μ : Mem) (x1 : Int32) : Option (Int32 × Mem) :=
  if x1 < 0 then some ((-2), μ) else if x1 ≤ 255 then if (μ 3 1) < 160 then bd1 (f2_add μ x1) (fun μ35 => some (μ35 3 1, μ35)) else some ((-4), μ) else some ((-2), μ)
def f5_text (μ : Mem) : Option (Int32 × Mem) :=
  if (μ 0 5) < 6 then gd (inb (μ 0 5) 6) (bd2 (f2_readInto μ ((μ 0 5).toNatClampNeg)) (fun r25 μ25 => nm (up μ25 3 1 0) (fun μ34 => if r25 = (-1) then nm (up μ34 0 5 ((μ34 0 5) + 1)) (fun μ54 => some ((μ54 0 5) - 1, μ54)) else some ((-100) - r25, μ34)))) else some ((-4), μ)
def f5_force (μ : Mem) (x1 : Int32) : Int32 × Mem :=
  if x1 < 0 then ((-2), μ) else if x1 < (μ 0 5) then nm (μ 1 2) (fun v22 => nm (up μ 1 2 x1) (fun μ28 => (v22, μ28))) else ((-2), μ)
def f5_ruled_1 (μ : Mem) (x1 : Int32) (x2 : Int32) (x3 : Int32) (x4 : Nat) (x5 : Int32) (t0 : Int32) : Option (Int32 × Mem) :=
  gd (inb 0 6) (nm (up μ 9 (0 : Int32).toNatClampNeg x3) (fun μ58 => gd (inb 1 6) (nm (up μ58 9 (1 : Int32).toNatClampNeg (x5 / 1000)) (fun μ70 => gd (inb 2 6) (nm (up μ70 9 (2 : Int32).toNatClampNeg x2) (fun μ77 => gd (inb 3 6) (nm (up μ77 9 (3 : Int32).toNatClampNeg (jabs (x5 - t0))) (fun μ91 => gd (inb 4 6) (nm (up μ91 9 (4 : Int32).toNatClampNeg (μ91 1 0)) (fun μ104 => gd (inb 5 6) (nm (up μ104 9 (5 : Int32).toNatClampNeg (μ104 (14 + 3 * x4) 2)) (fun μ115 => gd (inb x1 3) (gd (inb (μ115 1 2) 6) (bd2 (f3_tell μ115 ((μ115 1 2).toNatClampNeg) x1) (fun r142 μ142 => gd (inb x1 3) (some ((f5_within (stLeast x1.toNatClampNeg) r142 (stMost x1.toNatClampNeg)), μ142)))))))))))))))))
def f5_ruled (μ : Mem) (x1 : Int32) (x2 : Int32) (x3 : Int32) : Option (Int32 × Mem) :=
  gd (inb x2 6) (bd1 (f4_where μ (x2.toNatClampNeg) x3 (μ 1 0)) (fun r21 => if x3 ≤ 0 then f5_ruled_1 μ x1 x2 x3 (x2.toNatClampNeg) r21 r21 else bd1 (f4_where μ (x2.toNatClampNeg) (x3 - 1) (μ 1 0)) (fun r42 => f5_ruled_1 μ x1 x2 x3 (x2.toNatClampNeg) r21 r42)))
def f5_at (μ : Mem) (x1 : Int32) (x2 : Int32) : Option (Int32) :=
  if (f0_has μ 0 x1) = 0 then some (-2) else if (f5_isMinute x2) = 0 then some (-2) else gd (inb x1 6) (bd1 (f4_where μ (x1.toNatClampNeg) x2 (μ 1 0)) (fun r38 => some r38))
def f5_asks (μ : Mem) (x1 : Int32) (x2 : Int32) (x3 : Int32) : Option (Int32 × Mem) :=
  if x1 < 0 then some ((-1000), μ) else if 3 ≤ x1 then some ((-1000), μ) else if (f0_has μ 0 x2) = 0 then some ((-1000), μ) else if (f5_isMinute x3) = 0 then some ((-1000), μ) else bd2 (f5_ruled μ x1 x2 x3) (fun r35 μ35 => some (r35, μ35))
def f5_layWalked_1 (n : Nat) (μ : Mem) (x2 : Nat) (x3 : Int32) (x4 : Int32) : Option (Mem) :=
  match n with
  | 0 => none
  | n + 1 => if 600 < x4 then some μ else bd1 (f4_where μ x2 x4 (μ 1 0)) (fun r51 => gd (inb (x4 - 1) 601) (gd (inb x4 601) (nm (up μ 7 x4.toNatClampNeg ((μ 7 (x4 - 1).toNatClampNeg) + (jabs (r51 - x3)))) (fun μ79 => nm (x4 + 1) (fun v83 => f5_layWalked_1 n μ79 x2 r51 v83)))))
def f5_layWalked (μ : Mem) (x1 : Int32) : Option (Mem) :=
  gd (inb x1 6) (bd1 (f4_where μ (x1.toNatClampNeg) 0 (μ 1 0)) (fun r19 => gd (inb 0 601) (nm (up μ 7 (0 : Int32).toNatClampNeg 0) (fun μ29 => f5_layWalked_1 FUEL μ29 (x1.toNatClampNeg) r19 1))))
def f5_length (μ : Mem) (x1 : Int32) (x2 : Int32) (x3 : Int32) : Option (Int32 × Mem) :=
  if (f0_has μ 0 x1) = 0 then some ((-2), μ) else if (f5_isMinute x2) = 0 then some ((-2), μ) else if (f5_isMinute x3) = 0 then some ((-2), μ) else if x2 ≤ x3 then bd1 (f5_layWalked μ x1) (fun μ35 => gd (inb x3 601) (gd (inb x2 601) (some ((μ35 7 x3.toNatClampNeg) - (μ35 7 x2.toNatClampNeg), μ35)))) else some ((-2), μ)
def f5_beyondMean (μ : Mem) (x1 : Int32) (x2 : Int32) : Option (Int64) :=
  gd (inb (x1 + x2) 601) (gd (inb x1 601) (gd (inb 600 601) (some (((600 : Int64) * (((μ 7 (x1 + x2).toNatClampNeg) - (μ 7 x1.toNatClampNeg)).toInt64)) - ((x2.toInt64) * ((μ 7 (600 : Int32).toNatClampNeg).toInt64))))))
def f5_areOpposite_1 (x0 : Int64) (x2 : Int64) : Int32 :=
  if 0 ≤ (lg_cmp x0 (0 : Int64)) then 0 else if (lg_cmp x2 (0 : Int64)) ≤ 0 then 0 else 1
def f5_areOpposite (x0 : Int64) (x2 : Int64) : Int32 :=
  if (lg_cmp x0 (0 : Int64)) ≤ 0 then f5_areOpposite_1 x0 x2 else if (lg_cmp x2 (0 : Int64)) < 0 then 1 else f5_areOpposite_1 x0 x2
def f5_mean_1 (n : Nat) (μ : Mem) (x2 : Int32) (x3 : Int64) (x5 : Int32) : Option (Int32 × Mem) :=
  match n with
  | 0 => none
  | n + 1 => if (600 - x2) ≤ x5 then if (lg_cmp x3 (0 : Int64)) = 0 then some (600 - x2, μ) else some ((-1), μ) else bd1 (f5_beyondMean μ (x5 + 1) x2) (fun r57 => if (lg_cmp x3 (0 : Int64)) = 0 then some (x5, μ) else if (f5_areOpposite x3 r57) = 0 then nm (x5 + 1) (fun v83 => f5_mean_1 n μ x2 r57 v83) else some (x5, μ))
def f5_mean (μ : Mem) (x1 : Int32) (x2 : Int32) : Option (Int32 × Mem) :=
  if (f0_has μ 0 x1) = 0 then some ((-2), μ) else if x2 < 1 then some ((-2), μ) else if x2 ≤ 300 then bd1 (f5_layWalked μ x1) (fun μ28 => bd1 (f5_beyondMean μ28 0 x2) (fun r34 => f5_mean_1 FUEL μ28 x2 r34 0)) else some ((-2), μ)
def f5_halfWalked_1 (n : Nat) (μ : Mem) (x2 : Int32) : Option (Int32 × Mem) :=
  match n with
  | 0 => none
  | n + 1 => if 600 ≤ x2 then some (x2, μ) else gd (inb x2 601) (gd (inb 600 601) (if (μ 7 (600 : Int32).toNatClampNeg) ≤ (2 * (μ 7 x2.toNatClampNeg)) then some (x2, μ) else nm (x2 + 1) (fun v33 => f5_halfWalked_1 n μ v33)))
def f5_halfWalked (μ : Mem) (x1 : Int32) : Option (Int32 × Mem) :=
  bd1 (f5_layWalked μ x1) (fun μ2 => f5_halfWalked_1 FUEL μ2 0)
def f5_bestMinute_1 (n : Nat) (μ : Mem) (x1 : Int32) (x2 : Int32) (x3 : Int32) (x4 : Int32) : Option (Int32 × Mem) :=
  match n with
  | 0 => none
  | n + 1 => if 600 < x4 then some (x2, μ) else bd2 (f5_ruled μ 2 x1 x4) (fun r26 μ26 => if r26 ≤ x3 then nm (x4 + 1) (fun v43 => f5_bestMinute_1 n μ26 x1 x2 x3 v43) else nm (x4 + 1) (fun v43 => f5_bestMinute_1 n μ26 x1 x4 r26 v43))
def f5_bestMinute (μ : Mem) (x1 : Int32) : Option (Int32 × Mem) :=
  bd2 (f5_ruled μ 2 x1 0) (fun r6 μ6 => f5_bestMinute_1 FUEL μ6 x1 0 r6 1)
def f5_half (μ : Mem) (x1 : Int32) (x2 : Int32) : Option (Int32 × Mem) :=
  if (f0_has μ 0 x1) = 0 then some ((-2), μ) else if x2 < 0 then some ((-2), μ) else if x2 ≤ 2 then if x2 = 0 then bd2 (f5_halfWalked μ x1) (fun r29 μ29 => some (r29, μ29)) else bd2 (f5_bestMinute μ x1) (fun r35 μ35 => if x2 = 1 then some (r35, μ35) else bd2 (f5_ruled μ35 2 x1 r35) (fun r52 μ52 => some (r52, μ52))) else some ((-2), μ)
def f5_areTwo (μ : Mem) (x1 : Int32) (x2 : Int32) : Int32 :=
  if (f0_has μ 0 x1) = 0 then 0 else if (f0_has μ 0 x2) = 0 then 0 else if x1 = x2 then 0 else 1
def f5_layTwo (μ : Mem) (x1 : Int32) (x2 : Int32) : Option (Mem) :=
  gd (inb x1 6) (bd1 (f4_lay μ (x1.toNatClampNeg) 7 (μ 1 0)) (fun μ20 => gd (inb x2 6) (bd1 (f4_lay μ20 (x2.toNatClampNeg) 8 (μ20 1 0)) (fun μ43 => some μ43))))
def f5_gap (μ : Mem) (x1 : Int32) (x2 : Int32) : Option (Int32) :=
  gd (inb (jmax 0 (x1 - x2)) 601) (gd (inb x1 601) (some ((μ 7 (jmax 0 (x1 - x2)).toNatClampNeg) - (μ 8 x1.toNatClampNeg))))
def f5_firstMeeting_1 (μ : Mem) (n : Nat) (x1 : Int32) (x2 : Int32) (x3 : Int32) : Option (Int32) :=
  match n with
  | 0 => none
  | n + 1 => if 600 ≤ x3 then if x2 = 0 then some 600 else some (-1) else bd1 (f5_gap μ (x3 + 1) x1) (fun r21 => if x2 = 0 then some x3 else if (f5_areOpposite (x2.toInt64) (r21.toInt64)) = 0 then nm (x3 + 1) (fun v46 => f5_firstMeeting_1 μ n x1 r21 v46) else some x3)
def f5_firstMeeting (μ : Mem) (x1 : Int32) : Option (Int32) :=
  bd1 (f5_gap μ 0 x1) (fun r3 => f5_firstMeeting_1 μ FUEL x1 r3 0)
def f5_meetIn (μ : Mem) (x1 : Int32) : Option (Int32) :=
  bd1 (f5_gap μ x1 0) (fun r3 => if r3 = 0 then some 1 else if 600 ≤ x1 then some 0 else bd1 (f5_gap μ (x1 + 1) 0) (fun r27 => if (f5_areOpposite (r3.toInt64) (r27.toInt64)) = 0 then some 0 else some 1))
def f5_lastMeeting_1 (μ : Mem) (n : Nat) (x1 : Int32) : Option (Int32) :=
  match n with
  | 0 => none
  | n + 1 => if x1 < 0 then if 0 ≤ x1 then some x1 else some (-1) else bd1 (f5_meetIn μ x1) (fun r10 => if r10 = 0 then nm (x1 + (-1)) (fun v16 => f5_lastMeeting_1 μ n v16) else if 0 ≤ x1 then some x1 else some (-1))
def f5_lastMeeting (μ : Mem) : Option (Int32) :=
  f5_lastMeeting_1 μ FUEL 600
def f5_meetings_1 (μ : Mem) (n : Nat) (x1 : Int32) (x2 : Int32) : Option (Int32) :=
  match n with
  | 0 => none
  | n + 1 => if 600 < x2 then some x1 else bd1 (f5_meetIn μ x2) (fun r13 => if r13 = 0 then nm (x2 + 1) (fun v22 => f5_meetings_1 μ n x1 v22) else nm (x1 + 1) (fun v19 => nm (x2 + 1) (fun v22 => f5_meetings_1 μ n v19 v22)))
def f5_meetings (μ : Mem) : Option (Int32) :=
  f5_meetings_1 μ FUEL 0 0
def f5_meet (μ : Mem) (x1 : Int32) (x2 : Int32) (x3 : Int32) : Option (Int32 × Mem) :=
  if (f5_areTwo μ x1 x2) = 0 then some ((-2), μ) else if x3 < 0 then some ((-2), μ) else if x3 ≤ 3 then bd1 (f5_layTwo μ x1 x2) (fun μ24 => if x3 = 1 then bd1 (f5_firstMeeting μ24 0) (fun r34 => some (r34, μ24)) else if x3 = 2 then bd1 (f5_lastMeeting μ24) (fun r44 => some (r44, μ24)) else if x3 = 0 then bd1 (f5_meetings μ24) (fun r55 => some (r55, μ24)) else bd1 (f5_meetings μ24) (fun r62 => some (jrem r62 2, μ24))) else some ((-2), μ)
def f5_commonDivisor_1 (n : Nat) (x4 : Int64) (x6 : Int64) (x8 : Int32) : Option (Int64) :=
  match n with
  | 0 => none
  | n + 1 => if 200 ≤ x8 then some x4 else if (lg_cmp x6 (0 : Int64)) = 0 then some x4 else gd (¬ x6 = 0) (nm (jremL x4 x6) (fun v29 => nm (x8 + 1) (fun v39 => f5_commonDivisor_1 n x6 v29 v39)))
def f5_commonDivisor (x0 : Int64) (x2 : Int64) : Option (Int64) :=
  f5_commonDivisor_1 FUEL x0 x2 0
def f5_lowest_1 (x5 : Int64) (t0 : Int64) : Option (Int64) :=
  if (lg_cmp x5 (0 : Int64)) = 0 then some t0 else gd (¬ x5 = 0) (some (t0 / x5))
def f5_lowest (x0 : Int64) (x2 : Int64) (x4 : Int32) : Option (Int64) :=
  bd1 (f5_commonDivisor x0 x2) (fun r2 => if x4 = 0 then f5_lowest_1 r2 x0 else f5_lowest_1 r2 x2)
def f5_when_1 (μ : Mem) (x3 : Int32) (x4 : Int32) : Option (Int64 × Mem) :=
  if x3 = 0 then some (x4.toInt64, μ) else some ((1 : Int64), μ)
def f5_when (μ : Mem) (x1 : Int32) (x2 : Int32) (x3 : Int32) : Option (Int64 × Mem) :=
  if (f5_areTwo μ x1 x2) = 0 then some ((-4611686018427387904 : Int64), μ) else if x3 < 0 then some ((-4611686018427387904 : Int64), μ) else if x3 ≤ 1 then bd1 (f5_layTwo μ x1 x2) (fun μ25 => bd1 (f5_firstMeeting μ25 0) (fun r30 => if r30 = (-1) then some ((-4611686018427387904 : Int64), μ25) else bd1 (f5_gap μ25 r30 0) (fun r49 => nm ((jabs r49).toInt64) (fun v56 => if (lg_cmp v56 (0 : Int64)) = 0 then f5_when_1 μ25 x3 r30 else if r30 < 600 then bd1 (f5_gap μ25 (r30 + 1) 0) (fun r93 => nm (v56 + ((jabs r93).toInt64)) (fun v101 => bd1 (f5_lowest (((r30.toInt64) * v101) + v56) v101 x3) (fun r115 => some (r115, μ25)))) else f5_when_1 μ25 x3 r30)))) else some ((-4611686018427387904 : Int64), μ)
def f5_sure_2 (μ : Mem) (x3 : Int32) : Option (Int32 × Mem) :=
  if x3 = 0 then some ((-1), μ) else some (x3 - 1, μ)
def f5_sure_1 (n : Nat) (μ : Mem) (x3 : Int32) : Option (Int32 × Mem) :=
  match n with
  | 0 => none
  | n + 1 => if 120 < x3 then f5_sure_2 μ x3 else bd1 (f5_firstMeeting μ x3) (fun r28 => if r28 = (-1) then f5_sure_2 μ x3 else nm (x3 + 1) (fun v35 => f5_sure_1 n μ v35))
def f5_sure (μ : Mem) (x1 : Int32) (x2 : Int32) : Option (Int32 × Mem) :=
  if (f5_areTwo μ x1 x2) = 0 then some ((-2), μ) else bd1 (f5_layTwo μ x1 x2) (fun μ15 => f5_sure_1 FUEL μ15 0)
def f5_nearMinutes_1 (n : Nat) (μ : Mem) (x1 : Int32) (x2 : Int32) (x3 : Int32) : Option (Int32 × Mem) :=
  match n with
  | 0 => none
  | n + 1 => if 600 < x3 then some (x2, μ) else bd1 (f5_gap μ x3 0) (fun r14 => bd2 (f5_ruled μ 0 x1 x3) (fun r24 μ24 => if r24 < (jabs r14) then nm (x3 + 1) (fun v33 => f5_nearMinutes_1 n μ24 x1 x2 v33) else nm (x2 + 1) (fun v30 => nm (x3 + 1) (fun v33 => f5_nearMinutes_1 n μ24 x1 v30 v33))))
def f5_nearMinutes (μ : Mem) (x1 : Int32) : Option (Int32 × Mem) :=
  f5_nearMinutes_1 FUEL μ x1 0 0
def f5_farthestMinute_1 (μ : Mem) (n : Nat) (x1 : Int32) (x2 : Int32) (x3 : Int32) : Option (Int32) :=
  match n with
  | 0 => none
  | n + 1 => if 600 < x3 then some x1 else bd1 (f5_gap μ x3 0) (fun r24 => nm (jabs r24) (fun v30 => if v30 ≤ x2 then nm (x3 + 1) (fun v43 => f5_farthestMinute_1 μ n x1 x2 v43) else nm (x3 + 1) (fun v43 => f5_farthestMinute_1 μ n x3 v30 v43)))
def f5_farthestMinute (μ : Mem) : Option (Int32) :=
  bd1 (f5_gap μ 0 0) (fun r5 => nm (jabs r5) (fun v11 => f5_farthestMinute_1 μ FUEL 0 v11 1))
def f5_apart (μ : Mem) (x1 : Int32) (x2 : Int32) (x3 : Int32) : Option (Int32 × Mem) :=
  if (f5_areTwo μ x1 x2) = 0 then some ((-2), μ) else if x3 < 0 then some ((-2), μ) else if x3 ≤ 2 then bd1 (f5_layTwo μ x1 x2) (fun μ24 => if x3 = 2 then bd2 (f5_nearMinutes μ24 x1) (fun r34 μ34 => some (r34, μ34)) else bd1 (f5_farthestMinute μ24) (fun r39 => if x3 = 1 then some (r39, μ24) else bd1 (f5_gap μ24 r39 0) (fun r58 => some (jabs r58, μ24)))) else some ((-2), μ)
def f5_isSheet (x0 : Int32) : Int32 :=
  if x0 < 0 then 0 else if 4 ≤ x0 then 0 else 1
def f5_areNotes_1 (μ : Mem) (n : Nat) (x0 : Nat) (x1 : Int32) : Option (Int32) :=
  match n with
  | 0 => none
  | n + 1 => if (μ (71 + 2 * x0) 1) ≤ x1 then some 1 else gd (inb x1 40) (if (f5_isMinute (μ (72 + 2 * x0) x1.toNatClampNeg)) = 0 then some 0 else nm (x1 + 3) (fun v35 => f5_areNotes_1 μ n x0 v35))
def f5_areNotes (μ : Mem) (x0 : Nat) : Option (Int32) :=
  if (jrem (μ (71 + 2 * x0) 1) 3) = 0 then f5_areNotes_1 μ FUEL x0 0 else some 0
def f5_agrees (μ : Mem) (x1 : Nat) (x2 : Int32) (x3 : Int32) (x4 : Int32) : Option (Int32) :=
  gd (inb x2 40) (nm (f5_within 0 ((μ (72 + 2 * x1) x2.toNatClampNeg) + x4) 600) (fun v16 => gd (inb (x2 + 1) 40) (nm ((1000 : Int64) * ((μ (72 + 2 * x1) (x2 + 1).toNatClampNeg).toInt64)) (fun v31 => gd (inb x3 6) (bd1 (f4_where μ (x3.toNatClampNeg) v16 (μ 1 0)) (fun r51 => gd (inb (x2 + 2) 40) (if 0 < (lg_cmp (jabsL ((r51.toInt64) - v31)) ((μ (72 + 2 * x1) (x2 + 2).toNatClampNeg).toInt64)) then some 0 else some 1)))))))
def f5_fitsByRule_1 (n : Nat) (μ : Mem) (x1 : Nat) (x2 : Int32) (x3 : Int32) : Option (Int32 × Mem) :=
  match n with
  | 0 => none
  | n + 1 => if (μ (71 + 2 * x1) 1) ≤ (x3 + 2) then some (1, μ) else gd (inb x3 40) (bd2 (f5_ruled μ 1 x2 (μ (72 + 2 * x1) x3.toNatClampNeg)) (fun r21 μ21 => bd1 (f5_agrees μ21 x1 x3 x2 r21) (fun r32 => if r32 = 0 then some (0, μ21) else nm (x3 + 3) (fun v40 => f5_fitsByRule_1 n μ21 x1 x2 v40))))
def f5_fitsByRule (μ : Mem) (x1 : Nat) (x2 : Int32) : Option (Int32 × Mem) :=
  f5_fitsByRule_1 FUEL μ x1 x2 0
def f5_fits_1 (n : Nat) (μ : Mem) (x2 : Nat) (x3 : Int32) (x4 : Int32) : Option (Int32 × Mem) :=
  match n with
  | 0 => none
  | n + 1 => if (μ 1 1) ≤ x4 then some (x3, μ) else bd2 (f5_fitsByRule μ x2 x4) (fun r58 μ58 => if r58 = 0 then nm (x4 + 1) (fun v71 => f5_fits_1 n μ58 x2 x3 v71) else nm (x3 ||| (1 <<< (x4 &&& 31))) (fun v70 => nm (x4 + 1) (fun v71 => f5_fits_1 n μ58 x2 v70 v71)))
def f5_fits (μ : Mem) (x1 : Int32) : Option (Int32 × Mem) :=
  if (f5_isSheet x1) = 0 then some ((-2), μ) else gd (inb x1 4) (if (f1_isMissing μ (x1.toNatClampNeg)) = 0 then bd1 (f5_areNotes μ (x1.toNatClampNeg)) (fun r28 => if r28 = 0 then some ((-2), μ) else f5_fits_1 FUEL μ (x1.toNatClampNeg) 0 0) else some ((-11), μ))
def f5_fitsBy_1 (μ : Mem) (n : Nat) (x1 : Nat) (x2 : Int32) (x3 : Int32) (x4 : Int32) : Option (Int32) :=
  match n with
  | 0 => none
  | n + 1 => if (μ (71 + 2 * x1) 1) ≤ (x4 + 2) then some 1 else bd1 (f5_agrees μ x1 x4 x2 x3) (fun r20 => if r20 = 0 then some 0 else nm (x4 + 3) (fun v28 => f5_fitsBy_1 μ n x1 x2 x3 v28))
def f5_fitsBy (μ : Mem) (x1 : Nat) (x2 : Int32) (x3 : Int32) : Option (Int32) :=
  f5_fitsBy_1 μ FUEL x1 x2 x3 0
def f5_clocks_1 (μ : Mem) (n : Nat) (x1 : Nat) (x2 : Int32) (x3 : Int32) (x4 : Int32) : Option (Int32) :=
  match n with
  | 0 => none
  | n + 1 => if 60 < x4 then some x3 else bd1 (f5_fitsBy μ x1 x2 x4) (fun r18 => if r18 = 0 then nm (x4 + 1) (fun v27 => f5_clocks_1 μ n x1 x2 x3 v27) else nm (x3 + 1) (fun v24 => nm (x4 + 1) (fun v27 => f5_clocks_1 μ n x1 x2 v24 v27)))
def f5_clocks (μ : Mem) (x1 : Nat) (x2 : Int32) : Option (Int32) :=
  f5_clocks_1 μ FUEL x1 x2 0 (-60)
def f5_nearestClock_1 (μ : Mem) (n : Nat) (x1 : Nat) (x2 : Int32) (x3 : Int32) : Option (Int32) :=
  match n with
  | 0 => none
  | n + 1 => if 60 < x3 then some 99 else bd1 (f5_fitsBy μ x1 x2 (-x3)) (fun r13 => if r13 = 0 then bd1 (f5_fitsBy μ x1 x2 x3) (fun r26 => if r26 = 0 then nm (x3 + 1) (fun v34 => f5_nearestClock_1 μ n x1 x2 v34) else some x3) else some (-x3))
def f5_nearestClock (μ : Mem) (x1 : Nat) (x2 : Int32) : Option (Int32) :=
  f5_nearestClock_1 μ FUEL x1 x2 0
def f5_wrong (μ : Mem) (x1 : Int32) (x2 : Int32) (x3 : Int32) : Option (Int32) :=
  if (f5_isSheet x1) = 0 then some (-1000) else if (f0_has μ 0 x2) = 0 then some (-1000) else if x3 < 0 then some (-1000) else if x3 ≤ 1 then gd (inb x1 4) (if (f1_isMissing μ (x1.toNatClampNeg)) = 0 then bd1 (f5_areNotes μ (x1.toNatClampNeg)) (fun r49 => if r49 = 0 then some (-1000) else if x3 = 0 then bd1 (f5_clocks μ (x1.toNatClampNeg) x2) (fun r67 => some r67) else bd1 (f5_nearestClock μ (x1.toNatClampNeg) x2) (fun r77 => some r77)) else some (-1000)) else some (-1000)
def f5_unlikePosts_1 (μ : Mem) (n : Nat) (x1 : Nat) (x2 : Nat) (x3 : Int32) (x4 : Int32) : Option (Int32) :=
  match n with
  | 0 => none
  | n + 1 => if 11 ≤ x4 then some x3 else nm (60 * x4) (fun v17 => bd1 (f4_where μ x1 v17 (μ 1 0)) (fun r29 => bd1 (f4_where μ x2 v17 (μ 1 0)) (fun r42 => if r29 = r42 then nm (x4 + 1) (fun v55 => f5_unlikePosts_1 μ n x1 x2 x3 v55) else nm (x3 ||| (1 <<< (x4 &&& 31))) (fun v54 => nm (x4 + 1) (fun v55 => f5_unlikePosts_1 μ n x1 x2 v54 v55)))))
def f5_unlikePosts (μ : Mem) (x1 : Nat) (x2 : Nat) : Option (Int32) :=
  f5_unlikePosts_1 μ FUEL x1 x2 0 0
def f5_layUnlike_2 (K4 : Mem → Int32 → Int32 → Option (Int32 × Mem)) (n : Nat) (μ : Mem) (x1 : Int32) (x2 : Int32) (x3 : Int32) : Option (Int32 × Mem) :=
  match n with
  | 0 => none
  | n + 1 => if x2 ≤ x3 then nm (x2 + 1) (fun v65 => K4 μ x1 v65) else if 15 ≤ x1 then nm (x2 + 1) (fun v65 => K4 μ x1 v65) else gd (inb x2 6) (gd (inb x3 6) (bd1 (f5_unlikePosts μ (x2.toNatClampNeg) (x3.toNatClampNeg)) (fun r52 => gd (inb x1 15) (nm (up μ 11 x1.toNatClampNeg r52) (fun μ55 => nm (x1 + 1) (fun v56 => nm (x3 + 1) (fun v59 => f5_layUnlike_2 K4 n μ55 v56 x2 v59)))))))
def f5_layUnlike_1 (n : Nat) (μ : Mem) (x1 : Int32) (x2 : Int32) : Option (Int32 × Mem) :=
  match n with
  | 0 => none
  | n + 1 => if (μ 1 1) ≤ x2 then some (x1, μ) else f5_layUnlike_2 (f5_layUnlike_1 n) FUEL μ x1 x2 0
def f5_layUnlike (μ : Mem) : Option (Int32 × Mem) :=
  f5_layUnlike_1 FUEL μ 0 0
def fJ6_bitCount_0f7a4 (x0 : Int32) : Int32 :=
  nm (x0 - ((jushr x0 1) &&& 1431655765)) (fun v9 => nm ((v9 &&& 858993459) + ((jushr v9 2) &&& 858993459)) (fun v23 => nm ((v23 + (jushr v23 4)) &&& 252645135) (fun v33 => nm (v33 + (jushr v33 8)) (fun v40 => nm (v40 + (jushr v40 16)) (fun v47 => (v47 &&& 63))))))
def f5_tellsAllApart_1 (μ : Mem) (n : Nat) (x1 : Int32) (x2 : Int32) (x3 : Int32) : Option (Int32) :=
  match n with
  | 0 => none
  | n + 1 => if x2 ≤ x3 then some 1 else gd (inb x3 15) (if (x1 &&& (μ 11 x3.toNatClampNeg)) = 0 then some 0 else nm (x3 + 1) (fun v20 => f5_tellsAllApart_1 μ n x1 x2 v20))
def f5_tellsAllApart (μ : Mem) (x1 : Int32) (x2 : Int32) : Option (Int32) :=
  f5_tellsAllApart_1 μ FUEL x1 x2 0
def f5_fewestPosts_1 (μ : Mem) (n : Nat) (x1 : Int32) (x2 : Int32) (x3 : Int32) (x4 : Int32) : Option (Int32) :=
  match n with
  | 0 => none
  | n + 1 => if 2048 ≤ x4 then some x2 else nm (fJ6_bitCount_0f7a4 x4) (fun v21 => if x3 ≤ v21 then nm (x4 + 1) (fun v45 => f5_fewestPosts_1 μ n x1 x2 x3 v45) else bd1 (f5_tellsAllApart μ x4 x1) (fun r33 => if r33 = 0 then nm (x4 + 1) (fun v45 => f5_fewestPosts_1 μ n x1 x2 x3 v45) else nm (x4 + 1) (fun v45 => f5_fewestPosts_1 μ n x1 x4 v21 v45)))
def f5_fewestPosts (μ : Mem) (x1 : Int32) : Option (Int32) :=
  f5_fewestPosts_1 μ FUEL x1 (-1) 12 0
def f5_posts (μ : Mem) (x1 : Int32) : Option (Int32 × Mem) :=
  if x1 < 0 then some ((-2), μ) else if x1 ≤ 1 then bd2 (f5_layUnlike μ) (fun r14 μ14 => bd1 (f5_fewestPosts μ14 r14) (fun r17 => if x1 = 0 then some (r17, μ14) else if r17 = (-1) then some (r17, μ14) else some ((fJ6_bitCount_0f7a4 r17), μ14))) else some ((-2), μ)
def f5_beads_1 (μ : Mem) (n : Nat) (x2 : Nat) (x3 : Int32) (x4 : Int32) : Option (Int32) :=
  match n with
  | 0 => none
  | n + 1 => if (μ (71 + 2 * x2) 1) ≤ x4 then some (-1) else bd1 (f1_filled μ x2 x4 ((μ (71 + 2 * x2) 1) / 2)) (fun r72 => if r72 = x3 then some x4 else nm (x4 + 1) (fun v82 => f5_beads_1 μ n x2 x3 v82))
def f5_beads (μ : Mem) (x1 : Int32) : Option (Int32) :=
  if (f5_isSheet x1) = 0 then some (-2) else gd (inb x1 4) (if (f1_isMissing μ (x1.toNatClampNeg)) = 0 then if (jrem (μ (71 + 2 * x1.toNatClampNeg) 1) 2) = 0 then bd1 (f1_filled μ (x1.toNatClampNeg) 0 (μ (71 + 2 * x1.toNatClampNeg) 1)) (fun r45 => nm (r45 / 2) (fun v50 => f5_beads_1 μ FUEL (x1.toNatClampNeg) v50 0)) else some (-2) else some (-11))
def f5_heat_1 (μ : Mem) (n : Nat) (x2 : Nat) (x3 : Int32) : Option (Int32) :=
  match n with
  | 0 => none
  | n + 1 => if (μ (71 + 2 * x2) 1) ≤ x3 then some (-1) else bd1 (f1_acrossFrom μ x2 x3) (fun r58 => if (lg_cmp r58 (0 : Int64)) = 0 then some x3 else bd1 (f1_acrossFrom μ x2 (x3 + 1)) (fun r76 => if (f5_areOpposite r58 r76) = 0 then nm (x3 + 1) (fun v87 => f5_heat_1 μ n x2 v87) else some x3))
def f5_heat (μ : Mem) (x1 : Int32) : Option (Int32) :=
  if (f5_isSheet x1) = 0 then some (-2) else gd (inb x1 4) (if (f1_isMissing μ (x1.toNatClampNeg)) = 0 then if (jrem (μ (71 + 2 * x1.toNatClampNeg) 1) 2) = 0 then if (μ (71 + 2 * x1.toNatClampNeg) 1) = 0 then some (-2) else f5_heat_1 μ FUEL (x1.toNatClampNeg) 0 else some (-2) else some (-11))
def f5_meetsDrawn_1 (n : Nat) (μ : Mem) (x2 : Int32) (x3 : Int32) (x4 : Int32) : Option (Int32 × Mem) :=
  match n with
  | 0 => none
  | n + 1 => if x2 ≤ x4 then bd1 (f4_lay μ 12 8 (μ 1 0)) (fun μ89 => bd1 (f5_firstMeeting μ89 0) (fun r94 => some (r94, μ89))) else nm ((x3 * 1103515245) + 12345) (fun v36 => gd (¬ x2 = 0) (bd1 (f5_rest (jushr v36 9) ((μ 1 0) + 1)) (fun r62 => bd1 (f4_add μ 12 ((600 * x4) / x2) r62) (fun μ65 => nm (x4 + 1) (fun v68 => f5_meetsDrawn_1 n μ65 x2 v36 v68)))))
def f5_meetsDrawn (μ : Mem) (x1 : Int32) (x2 : Int32) : Option (Int32 × Mem) :=
  if 1 ≤ x2 then nm (f4_begin μ 12 0 0) (fun μ13 => f5_meetsDrawn_1 FUEL μ13 x2 x1 0) else some ((-1), μ)
def f5_drawn (μ : Mem) (x1 : Int32) (x2 : Int32) (x3 : Int32) : Option (Int32 × Mem) :=
  if x2 < 1 then some ((-2), μ) else if 8 < x2 then some ((-2), μ) else if (f0_has μ 0 x3) = 0 then some ((-2), μ) else gd (inb x3 6) (bd1 (f4_lay μ (x3.toNatClampNeg) 7 (μ 1 0)) (fun μ45 => bd2 (f5_meetsDrawn μ45 x1 x2) (fun r51 μ51 => some (r51, μ51))))
def f5_chance_1 (n : Nat) (μ : Mem) (x1 : Int32) (x2 : Int32) (x4 : Int32) (x5 : Int32) (x6 : Int32) : Option (Int64 × Mem) :=
  match n with
  | 0 => none
  | n + 1 => if x2 ≤ x6 then bd1 (f5_lowest (x5.toInt64) (x2.toInt64) x4) (fun r101 => some (r101, μ)) else bd2 (f5_meetsDrawn μ (x1 + x6) 4) (fun r78 μ78 => if r78 = (-1) then nm (x6 + 1) (fun v88 => f5_chance_1 n μ78 x1 x2 x4 x5 v88) else nm (x5 + 1) (fun v85 => nm (x6 + 1) (fun v88 => f5_chance_1 n μ78 x1 x2 x4 v85 v88)))
def f5_chance (μ : Mem) (x1 : Int32) (x2 : Int32) (x3 : Int32) (x4 : Int32) : Option (Int64 × Mem) :=
  if (f0_has μ 0 x3) = 0 then some ((-4611686018427387904 : Int64), μ) else if x2 < 1 then some ((-4611686018427387904 : Int64), μ) else if 20 < x2 then some ((-4611686018427387904 : Int64), μ) else if x4 < 0 then some ((-4611686018427387904 : Int64), μ) else if x4 ≤ 1 then gd (inb x3 6) (bd1 (f4_lay μ (x3.toNatClampNeg) 7 (μ 1 0)) (fun μ57 => f5_chance_1 FUEL μ57 x1 x2 x4 0 0)) else some ((-4611686018427387904 : Int64), μ)
def f5_image (μ : Mem) : Option (Int32 × Mem) :=
  bd1 (f0_become μ 1 0) (fun μ8 => nm (up μ8 0 2 1) (fun μ13 => some (μ13 1 1, μ13)))
def f5_back (μ : Mem) : Option (Int32 × Mem) :=
  if (μ 0 2) = 0 then some ((-3), μ) else bd1 (f0_become μ 0 1) (fun μ18 => some (μ18 1 1, μ18))
def f5_count (μ : Mem) (x1 : Int32) : Option (Int32) :=
  if x1 = 0 then some (μ 1 1) else if x1 = 1 then some (μ 1 0) else if x1 = 2 then bd1 (f0_allPoints μ 0) (fun r60 => some r60) else if x1 = 3 then some (μ 0 5) else if x1 = 4 then some (μ 3 1) else if x1 = 5 then some (μ 1 2) else some (-2)
def f5_isSort (x0 : Int32) : Int32 :=
  if x0 < 0 then 0 else if 3 ≤ x0 then 0 else 1
def f5_sheet (μ : Mem) (x1 : Int32) (x2 : Int32) (x3 : Int32) : Option (Int32 × Mem) :=
  if (f5_isSheet x1) = 0 then some ((-2), μ) else if x2 = (-1) then gd (inb x1 4) (bd1 (f1_begin μ (x1.toNatClampNeg) (-1) 0) (fun μ23 => some (1, μ23))) else if (f5_isSort x2) = 0 then some ((-2), μ) else if x3 ≤ 40 then if 0 ≤ x3 then gd (inb x1 4) (bd1 (f1_begin μ (x1.toNatClampNeg) x2 x3) (fun μ59 => some (1, μ59))) else some ((-14), μ) else some ((-2), μ)
def f5_cell (μ : Mem) (x1 : Int32) (x2 : Int32) (x3 : Int32) : Option (Int32 × Mem) :=
  if (f5_isSheet x1) = 0 then some ((-2), μ) else gd (inb x1 4) (if (f1_isMissing μ (x1.toNatClampNeg)) = 0 then gd (inb x1 4) (if (f1_holds μ (x1.toNatClampNeg) x2 1) = 0 then some ((-12), μ) else gd (inb x1 4) (bd1 (f1_put μ (x1.toNatClampNeg) x2 x3) (fun μ50 => some (1, μ50)))) else some ((-11), μ))
def f5_copy (μ : Mem) (x1 : Int32) (x2 : Int32) (x3 : Int32) (x4 : Int32) (x5 : Int32) : Option (Int32 × Mem) :=
  if (f5_isSheet x1) = 0 then some ((-2), μ) else if (f5_isSheet x3) = 0 then some ((-2), μ) else gd (inb x1 4) (gd (inb x3 4) (if (f1_isMissing μ (x1.toNatClampNeg)) = 0 then if (f1_isMissing μ (x3.toNatClampNeg)) = 0 then if (μ (71 + 2 * x1.toNatClampNeg) 0) = (μ (71 + 2 * x3.toNatClampNeg) 0) then if (f1_holds μ (x1.toNatClampNeg) x2 x5) = 0 then some ((-12), μ) else if (f1_holds μ (x3.toNatClampNeg) x4 x5) = 0 then some ((-12), μ) else gd (cpok x2 x4 x5 40 40) (nm (upR μ (72 + 2 * x3.toNatClampNeg) (va_cpy (μ (72 + 2 * x1.toNatClampNeg)) (μ (72 + 2 * x3.toNatClampNeg)) x2.toNatClampNeg x4.toNatClampNeg x5.toNatClampNeg)) (fun μ109 => some (x5, μ109))) else some ((-13), μ) else some ((-11), μ) else some ((-11), μ)))
def f5_points_2 (n : Nat) (μ : Mem) (x3 : Int32) (x4 : Int32) (x5 : Nat) (x6 : Int32) (x7 : Int32) : Option (Int32 × Mem) :=
  match n with
  | 0 => none
  | n + 1 => if x4 ≤ x7 then some (x6, μ) else nm (x3 + (3 * x7)) (fun v87 => if (f1_holds μ x5 v87 3) = 0 then some ((-12), μ) else gd (inb v87 40) (gd (inb (v87 + 1) 40) (gd (inb (v87 + 2) 40) (bd2 (f5_addPoint μ (μ (72 + 2 * x5) v87.toNatClampNeg) (μ (72 + 2 * x5) (v87 + 1).toNatClampNeg) (μ (72 + 2 * x5) (v87 + 2).toNatClampNeg)) (fun r132 μ132 => if r132 ≤ 0 then nm (x7 + 1) (fun v141 => f5_points_2 n μ132 x3 x4 x5 x6 v141) else nm (x6 + 1) (fun v138 => nm (x7 + 1) (fun v141 => f5_points_2 n μ132 x3 x4 x5 v138 v141)))))))
def f5_points_1 (μ : Mem) (x3 : Int32) (x4 : Int32) (x5 : Nat) : Option (Int32 × Mem) :=
  if (f1_isMissing μ x5) = 0 then f5_points_2 FUEL μ x3 x4 x5 0 0 else some ((-11), μ)
def f5_points (μ : Mem) (x1 : Int32) (x2 : Int32) (x3 : Int32) (x4 : Int32) : Option (Int32 × Mem) :=
  if (f5_isSheet x1) = 0 then some ((-2), μ) else if (f5_isSort x2) = 0 then some ((-2), μ) else if x4 < 0 then some ((-2), μ) else if x4 ≤ 13 then gd (inb x1 4) (if (f1_isMissing μ (x1.toNatClampNeg)) = 0 then if (μ (71 + 2 * x1.toNatClampNeg) 0) = x2 then f5_points_1 μ x3 x4 (x1.toNatClampNeg) else some ((-13), μ) else f5_points_1 μ x3 x4 (x1.toNatClampNeg)) else some ((-2), μ)
def f5_isUnder_1 (μ : Mem) (n : Nat) (x1 : Int32) (x2 : Int32) (x3 : Int32) : Option (Int32) :=
  match n with
  | 0 => none
  | n + 1 => if 6 ≤ x3 then some 0 else if (f5_isKind x2) = 0 then some 0 else if x2 = x1 then some 1 else gd (inb x2 6) (nm (stUnder x2.toNatClampNeg) (fun v29 => nm (x3 + 1) (fun v30 => f5_isUnder_1 μ n x1 v29 v30)))
def f5_isUnder (μ : Mem) (x0 : Int32) (x1 : Int32) : Option (Int32) :=
  f5_isUnder_1 μ FUEL x1 x0 0
def f5_taken (μ : Mem) (x1 : Int32) (x2 : Int32) : Option (Int32) :=
  if (f5_isKind x2) = 0 then some (-2) else if (f0_has μ 0 x1) = 0 then some (-11) else gd (inb x1 6) (bd1 (f5_isUnder μ (μ (14 + 3 * x1.toNatClampNeg) 0) x2) (fun r37 => if r37 = 0 then some (-13) else gd (inb x1 6) (some (μ (14 + 3 * x1.toNatClampNeg) 1))))
def f6_in (x0 : Int64) (x2 : Int64) (x4 : Int64) : Int32 :=
  if (lg_cmp x0 x2) < 0 then 0 else if 0 < (lg_cmp x0 x4) then 0 else 1
def f6_within (x0 : Int32) (x1 : Int32) (x2 : Int32) : Int32 :=
  if x1 ≤ x0 then if x0 ≤ x2 then x0 else x2 else x1
def f6_plain (x0 : Int64) : Int64 :=
  if 0 ≤ (lg_cmp x0 (0 : Int64)) then x0 else (-x0)
def f6_spell (μ : Mem) (ν : Lem) (x1 : Int32) (x2 : Int32) (x3 : Int32) (x4 : Int32) (x5 : Int32) (x6 : Int32) (x7 : Int32) (x8 : Int32) (x9 : Int32) : Option (Mem × Lem) :=
  gd (inb x1 960) (nm (up μ 1 x1.toNatClampNeg x2) (fun μ6 => gd (inb (x1 + 1) 960) (nm (up μ6 1 (x1 + 1).toNatClampNeg x3) (fun μ15 => gd (inb (x1 + 2) 960) (nm (up μ15 1 (x1 + 2).toNatClampNeg x4) (fun μ25 => gd (inb (x1 + 3) 960) (nm (up μ25 1 (x1 + 3).toNatClampNeg x5) (fun μ35 => gd (inb (x1 + 4) 960) (nm (up μ35 1 (x1 + 4).toNatClampNeg x6) (fun μ45 => gd (inb (x1 + 5) 960) (nm (up μ45 1 (x1 + 5).toNatClampNeg x7) (fun μ55 => gd (inb (x1 + 6) 960) (nm (up μ55 1 (x1 + 6).toNatClampNeg x8) (fun μ66 => gd (inb (x1 + 7) 960) (nm (up μ66 1 (x1 + 7).toNatClampNeg x9) (fun μ77 => some (μ77, ν)))))))))))))))))
def f6_isWay (μ : Mem) (ν : Lem) (x1 : Int32) : Int32 :=
  (f6_in (x1.toInt64) (0 : Int64) (((μ 0 13) - 1).toInt64))
def f6_areTwo (μ : Mem) (ν : Lem) (x1 : Int32) (x2 : Int32) : Int32 :=
  if (f6_isWay μ ν x1) = 0 then 0 else if (f6_isWay μ ν x2) = 0 then 0 else if x1 = x2 then 0 else 1
def f6_isMinute (x0 : Int32) : Int32 :=
  (f6_in (x0.toInt64) (0 : Int64) (600 : Int64))
def f6_set_5 (K84 : Mem → Lem → Int32 → Int32 → Option (Int32 × Mem × Lem)) (n : Nat) (μ : Mem) (ν : Lem) (x3 : Int32) (x4 : Int32) (x5 : Int32) : Option (Int32 × Mem × Lem) :=
  match n with
  | 0 => none
  | n + 1 => gd (inb x4 7) (if (μ 8 x4.toNatClampNeg) ≤ x5 then nm (x4 + 1) (fun v134 => K84 μ ν x3 v134) else gd (inb ((8 * x4) + x5) 56) (if (μ 7 ((8 * x4) + x5).toNatClampNeg) ≤ x3 then nm (x5 + 1) (fun v128 => f6_set_5 K84 n μ ν x3 x4 v128) else some ((-3), μ, ν)))
def f6_set_4 (n : Nat) (μ : Mem) (ν : Lem) (x3 : Int32) (x4 : Int32) : Option (Int32 × Mem × Lem) :=
  match n with
  | 0 => none
  | n + 1 => if (μ 0 13) ≤ x4 then nm (μ 0 7) (fun v144 => nm (up μ 0 7 x3) (fun μ148 => some (v144, μ148, ν))) else f6_set_5 (f6_set_4 n) FUEL μ ν x3 x4 0
def f6_set_3 (μ : Mem) (ν : Lem) (x1 : Int32) (x2 : Int32) (x3 : Int32) (t0 : Int64) (t1 : Int64) (t2 : Int64) : Option (Int32 × Mem × Lem) :=
  if (f6_in t0 t1 t2) = 0 then some ((-2), μ, ν) else if x1 = 1 then gd (inb x2 6) (nm (μ 5 x2.toNatClampNeg) (fun v69 => gd (inb x2 6) (nm (up μ 5 x2.toNatClampNeg x3) (fun μ77 => some (v69, μ77, ν))))) else f6_set_4 FUEL μ ν x3 0
def f6_set_2 (μ : Mem) (ν : Lem) (x1 : Int32) (x2 : Int32) (x3 : Int32) (t0 : Int64) (t1 : Int64) : Option (Int32 × Mem × Lem) :=
  if x1 = 0 then f6_set_3 μ ν x1 x2 x3 t0 t1 (999 : Int64) else f6_set_3 μ ν x1 x2 x3 t0 t1 (9 : Int64)
def f6_set_1 (μ : Mem) (ν : Lem) (x1 : Int32) (x2 : Int32) (x3 : Int32) : Option (Int32 × Mem × Lem) :=
  if x1 = 0 then f6_set_2 μ ν x1 x2 x3 (x3.toInt64) (10 : Int64) else f6_set_2 μ ν x1 x2 x3 (x3.toInt64) (0 : Int64)
def f6_set (μ : Mem) (ν : Lem) (x1 : Int32) (x2 : Int32) (x3 : Int32) : Option (Int32 × Mem × Lem) :=
  if (f6_in (x1.toInt64) (0 : Int64) (1 : Int64)) = 0 then some ((-2), μ, ν) else if x1 = 1 then if (f6_isWay μ ν x2) = 0 then some ((-2), μ, ν) else f6_set_1 μ ν x1 x2 x3 else f6_set_1 μ ν x1 x2 x3
def f6_way (μ : Mem) (ν : Lem) (x1 : Int32) (x2 : Int32) : Option (Int32 × Mem × Lem) :=
  if (f6_in (x1.toInt64) (0 : Int64) (5 : Int64)) = 0 then some ((-2), μ, ν) else if (f6_in (x2.toInt64) (0 : Int64) (9 : Int64)) = 0 then some ((-2), μ, ν) else if (μ 0 13) = 6 then some ((-4), μ, ν) else gd (inb (μ 0 13) 6) (nm (up μ 4 (μ 0 13).toNatClampNeg x1) (fun μ48 => gd (inb (μ48 0 13) 6) (nm (up μ48 5 (μ48 0 13).toNatClampNeg x2) (fun μ58 => gd (inb (μ58 0 13) 7) (nm (up μ58 8 (μ58 0 13).toNatClampNeg 0) (fun μ68 => nm (up μ68 0 13 ((μ68 0 13) + 1)) (fun μ76 => some ((μ76 0 13) - 1, μ76, ν))))))))
def f6_point_1 (μ : Mem) (ν : Lem) (x1 : Int32) (x2 : Int32) (x3 : Int32) (x4 : Int32) : Option (Int32 × Mem × Lem) :=
  if x4 = 8 then some ((-4), μ, ν) else gd (inb ((8 * x1) + x4) 56) (nm (up μ 6 ((8 * x1) + x4).toNatClampNeg x2) (fun μ88 => gd (inb ((8 * x1) + x4) 56) (nm (up μ88 7 ((8 * x1) + x4).toNatClampNeg x3) (fun μ101 => gd (inb x1 7) (nm (up μ101 8 x1.toNatClampNeg (x4 + 1)) (fun μ111 => some (x4 + 1, μ111, ν)))))))
def f6_point (μ : Mem) (ν : Lem) (x1 : Int32) (x2 : Int32) (x3 : Int32) : Option (Int32 × Mem × Lem) :=
  if (f6_isWay μ ν x1) = 0 then some ((-2), μ, ν) else if (f6_isMinute x2) = 0 then some ((-2), μ, ν) else if (f6_in (x3.toInt64) (0 : Int64) ((μ 0 7).toInt64)) = 0 then some ((-2), μ, ν) else gd (inb x1 7) (nm (μ 8 x1.toNatClampNeg) (fun v38 => if v38 ≤ 0 then f6_point_1 μ ν x1 x2 x3 v38 else gd (inb (((8 * x1) + v38) - 1) 56) (if (μ 6 (((8 * x1) + v38) - 1).toNatClampNeg) < x2 then f6_point_1 μ ν x1 x2 x3 v38 else some ((-2), μ, ν))))
def f6_clear (μ : Mem) (ν : Lem) (x1 : Int32) : Option (Int32 × Mem × Lem) :=
  if (f6_isWay μ ν x1) = 0 then some ((-2), μ, ν) else gd (inb x1 7) (nm (μ 8 x1.toNatClampNeg) (fun v17 => gd (inb x1 7) (nm (up μ 8 x1.toNatClampNeg 0) (fun μ24 => some (v17, μ24, ν)))))
def f6_told (μ : Mem) (ν : Lem) (x1 : Int32) (x2 : Int32) : Option (Int32) :=
  if (f6_isWay μ ν x1) = 0 then some (-2) else gd (inb x1 7) (if (f6_in (x2.toInt64) (0 : Int64) ((2 + (2 * (μ 8 x1.toNatClampNeg))).toInt64)) = 0 then some (-2) else if 3 ≤ x2 then nm ((8 * x1) + ((x2 - 3) / 2)) (fun v80 => if (jrem x2 2) = 1 then gd (inb v80 56) (some (μ 6 v80.toNatClampNeg)) else gd (inb v80 56) (some (μ 7 v80.toNatClampNeg))) else if x2 = 0 then gd (inb x1 6) (some (μ 4 x1.toNatClampNeg)) else if x2 = 1 then gd (inb x1 6) (some (μ 5 x1.toNatClampNeg)) else gd (inb x1 7) (some (μ 8 x1.toNatClampNeg)))
def f6_toldAt_1 (μ : Mem) (ν : Lem) (n : Nat) (x2 : Int32) (x5 : Int32) : Option (Int32) :=
  match n with
  | 0 => none
  | n + 1 => gd (inb (x5 + 1) 56) (if x2 < (μ 6 (x5 + 1).toNatClampNeg) then gd (inb x5 56) (gd (inb (x5 + 1) 56) (gd (inb x5 56) (gd (inb x5 56) (gd (inb (x5 + 1) 56) (gd (inb x5 56) (gd (¬ ((μ 6 (x5 + 1).toNatClampNeg) - (μ 6 x5.toNatClampNeg)) = 0) (some ((1000 * (μ 7 x5.toNatClampNeg)) + (((1000 * ((μ 7 (x5 + 1).toNatClampNeg) - (μ 7 x5.toNatClampNeg))) * (x2 - (μ 6 x5.toNatClampNeg))) / ((μ 6 (x5 + 1).toNatClampNeg) - (μ 6 x5.toNatClampNeg))))))))))) else nm (x5 + 1) (fun v90 => f6_toldAt_1 μ ν n x2 v90))
def f6_toldAt (μ : Mem) (ν : Lem) (x1 : Int32) (x2 : Int32) : Option (Int32) :=
  gd (inb x1 7) (nm (μ 8 x1.toNatClampNeg) (fun v6 => if v6 = 0 then some 0 else nm (8 * x1) (fun v17 => gd (inb v17 56) (if (μ 6 v17.toNatClampNeg) < x2 then gd (inb ((v17 + v6) - 1) 56) (if x2 < (μ 6 ((v17 + v6) - 1).toNatClampNeg) then f6_toldAt_1 μ ν FUEL x2 v17 else gd (inb ((v17 + v6) - 1) 56) (some (1000 * (μ 7 ((v17 + v6) - 1).toNatClampNeg)))) else gd (inb v17 56) (some (1000 * (μ 7 v17.toNatClampNeg)))))))
def f6_lateAt_1 (μ : Mem) (ν : Lem) (t1 : Int32) (t2 : Int32) : Option (Int32) :=
  bd1 (f6_toldAt μ ν t1 t2) (fun r23 => some r23)
def f6_lateAt (μ : Mem) (ν : Lem) (x1 : Int32) (x2 : Int32) : Option (Int32) :=
  gd (inb x1 6) (nm (x2 - (10 * (μ 5 x1.toNatClampNeg))) (fun v11 => if 0 ≤ v11 then f6_lateAt_1 μ ν x1 v11 else f6_lateAt_1 μ ν x1 0))
def f6_where_7 (μ : Mem) (ν : Lem) (x4 : Int32) : Option (Int32) :=
  some (f6_within x4 0 (1000 * (μ 0 7)))
def f6_where_6 (μ : Mem) (ν : Lem) (x1 : Int32) (x2 : Int32) (x3 : Int32) (x4 : Int32) : Option (Int32) :=
  if x3 = 4 then gd (inb x1 6) (gd (¬ ((μ 5 x1.toNatClampNeg) + 1) = 0) (bd1 (f6_toldAt μ ν x1 (x2 - (jrem x2 ((μ 5 x1.toNatClampNeg) + 1)))) (fun r137 => nm ((1000 * (μ 0 7)) - r137) (fun v141 => f6_where_7 μ ν v141)))) else f6_where_7 μ ν x4
def f6_where_5 (μ : Mem) (ν : Lem) (x1 : Int32) (x2 : Int32) (x3 : Int32) (x4 : Int32) : Option (Int32) :=
  if x3 = 2 then bd1 (f6_toldAt μ ν x1 x2) (fun r104 => nm ((1000 * (μ 0 7)) - r104) (fun v108 => f6_where_6 μ ν x1 x2 x3 v108)) else f6_where_6 μ ν x1 x2 x3 x4
def f6_where_4 (μ : Mem) (ν : Lem) (x1 : Int32) (x2 : Int32) (x3 : Int32) (x4 : Int32) : Option (Int32) :=
  if x3 = 5 then bd1 (f6_lateAt μ ν x1 x2) (fun r68 => gd (inb x1 6) (gd (¬ ((μ 5 x1.toNatClampNeg) + 2) = 0) (nm (r68 + (1000 * (jrem x2 ((μ 5 x1.toNatClampNeg) + 2)))) (fun v86 => f6_where_5 μ ν x1 x2 x3 v86)))) else f6_where_5 μ ν x1 x2 x3 x4
def f6_where_3 (μ : Mem) (ν : Lem) (x1 : Int32) (x2 : Int32) (x3 : Int32) (x4 : Int32) : Option (Int32) :=
  if x3 = 3 then bd1 (f6_lateAt μ ν x1 x2) (fun r53 => nm (r53 / 2) (fun v58 => f6_where_4 μ ν x1 x2 x3 v58)) else f6_where_4 μ ν x1 x2 x3 x4
def f6_where_2 (μ : Mem) (ν : Lem) (x1 : Int32) (x2 : Int32) (x3 : Int32) (x4 : Int32) : Option (Int32) :=
  if x3 = 1 then bd1 (f6_lateAt μ ν x1 x2) (fun r40 => f6_where_3 μ ν x1 x2 x3 r40) else f6_where_3 μ ν x1 x2 x3 x4
def f6_where_1 (μ : Mem) (ν : Lem) (x1 : Int32) (x2 : Int32) (t0 : Int32) : Option (Int32) :=
  if t0 = 0 then bd1 (f6_toldAt μ ν x1 x2) (fun r27 => f6_where_2 μ ν x1 x2 t0 r27) else f6_where_2 μ ν x1 x2 t0 0
def f6_where (μ : Mem) (ν : Lem) (x1 : Int32) (x2 : Int32) : Option (Int32) :=
  if x1 = 6 then f6_where_1 μ ν x1 x2 0 else gd (inb x1 6) (f6_where_1 μ ν x1 x2 (μ 4 x1.toNatClampNeg))
def f6_feed (μ : Mem) (ν : Lem) (x1 : Int32) : Option (Int32 × Mem × Lem) :=
  if (f6_in (x1.toInt64) (0 : Int64) (255 : Int64)) = 0 then some ((-2), μ, ν) else if (μ 0 6) = 160 then some ((-4), μ, ν) else gd (inb (μ 0 6) 160) (nm (up μ 3 (μ 0 6).toNatClampNeg x1) (fun μ37 => nm (up μ37 0 6 ((μ37 0 6) + 1)) (fun μ45 => some (μ45 0 6, μ45, ν))))
def f6_byteAt (μ : Mem) (ν : Lem) (x1 : Int32) : Option (Int32) :=
  if (μ 0 21) ≤ x1 then some (-1) else gd (inb ((μ 0 20) + x1) 960) (some (μ 1 ((μ 0 20) + x1).toNatClampNeg))
def f6_next_5 (μ : Mem) (ν : Lem) (x1 : Int32) : Option (Mem × Lem) :=
  nm (up μ 0 23 3) (fun μ302 => nm (upL ν 0 25 (x1.toInt64)) (fun ν308 => nm (up μ302 0 22 ((μ302 0 22) + 1)) (fun μ318 => some (μ318, ν308))))
def f6_next_4 (K160 : Mem → Lem → Int32 → Option (Mem × Lem)) (μ : Mem) (ν : Lem) (x2 : Int32) (t1 : Int64) : Option (Mem × Lem) :=
  nm (upL ν 0 25 t1) (fun ν216 => nm (x2 + 1) (fun v219 => nm (up μ 0 22 ((μ 0 22) + 1)) (fun μ229 => K160 μ229 ν216 v219)))
def f6_next_3 (n : Nat) (μ : Mem) (ν : Lem) (x2 : Int32) : Option (Mem × Lem) :=
  match n with
  | 0 => none
  | n + 1 => bd1 (f6_byteAt μ ν (μ 0 22)) (fun r165 => if (f6_in (r165.toInt64) (48 : Int64) (57 : Int64)) = 0 then if x2 ≤ 4 then nm (up μ 0 23 2) (fun μ246 => some (μ246, ν)) else nm (up μ 0 23 4) (fun μ246 => some (μ246, ν)) else if 4 ≤ x2 then f6_next_4 (f6_next_3 n) μ ν x2 (ν 0 25) else bd1 (f6_byteAt μ ν (μ 0 22)) (fun r200 => f6_next_4 (f6_next_3 n) μ ν x2 ((((10 : Int64) * (ν 0 25)) + (r200.toInt64)) - (48 : Int64))))
def f6_next_2 (n : Nat) (μ : Mem) (ν : Lem) : Option (Mem × Lem) :=
  match n with
  | 0 => none
  | n + 1 => bd1 (f6_byteAt μ ν (μ 0 22)) (fun r105 => if (f6_in (r105.toInt64) (97 : Int64) (122 : Int64)) = 0 then some (μ, ν) else nm (up μ 0 22 ((μ 0 22) + 1)) (fun μ128 => f6_next_2 n μ128 ν))
def f6_next_1 (n : Nat) (μ : Mem) (ν : Lem) : Option (Mem × Lem) :=
  match n with
  | 0 => none
  | n + 1 => bd1 (f6_byteAt μ ν (μ 0 22)) (fun r5 => if r5 = 32 then nm (up μ 0 22 ((μ 0 22) + 1)) (fun μ33 => f6_next_1 n μ33 ν) else bd1 (f6_byteAt μ ν (μ 0 22)) (fun r18 => if r18 = 10 then nm (up μ 0 22 ((μ 0 22) + 1)) (fun μ33 => f6_next_1 n μ33 ν) else nm (up μ 0 24 (μ 0 22)) (fun μ44 => bd1 (f6_byteAt μ44 ν (μ44 0 22)) (fun r52 => nm (up μ44 0 23 4) (fun μ58 => if 0 ≤ r52 then if (f6_in (r52.toInt64) (97 : Int64) (122 : Int64)) = 0 then if (f6_in (r52.toInt64) (48 : Int64) (57 : Int64)) = 0 then if r52 = 40 then f6_next_5 μ58 ν r52 else if r52 = 41 then f6_next_5 μ58 ν r52 else if r52 = 59 then f6_next_5 μ58 ν r52 else if r52 = 43 then f6_next_5 μ58 ν r52 else if r52 = 45 then f6_next_5 μ58 ν r52 else if r52 = 42 then f6_next_5 μ58 ν r52 else if r52 = 60 then f6_next_5 μ58 ν r52 else if r52 = 61 then f6_next_5 μ58 ν r52 else some (μ58, ν) else nm (up μ58 0 23 2) (fun μ150 => nm (upL ν 0 25 (0 : Int64)) (fun ν155 => f6_next_3 FUEL μ150 ν155 0)) else nm (up μ58 0 23 1) (fun μ97 => f6_next_2 FUEL μ97 ν) else nm (up μ58 0 23 0) (fun μ67 => nm (up μ67 0 24 (μ67 0 21)) (fun μ75 => some (μ75, ν))))))))
def f6_next (μ : Mem) (ν : Lem) : Option (Mem × Lem) :=
  f6_next_1 FUEL μ ν
def f6_fail (μ : Mem) (ν : Lem) : Mem × Lem :=
  if (μ 0 27) = 0 then nm (up μ 0 27 1) (fun μ9 => nm (up μ9 0 28 (μ9 0 24)) (fun μ17 => (μ17, ν))) else (μ, ν)
def f6_isLetter (μ : Mem) (ν : Lem) (x1 : Int32) (x2 : Int32) : Option (Int32) :=
  if (μ 0 22) ≤ ((μ 0 24) + x1) then if x2 = 0 then some 1 else some 0 else bd1 (f6_byteAt μ ν ((μ 0 24) + x1)) (fun r20 => if r20 = x2 then some 1 else some 0)
def f6_isWord (μ : Mem) (ν : Lem) (x1 : Int32) (x2 : Int32) (x3 : Int32) (x4 : Int32) (x5 : Int32) (x6 : Int32) (x7 : Int32) (x8 : Int32) : Option (Int32) :=
  if (μ 0 27) = 0 then if (μ 0 23) = 1 then if ((μ 0 24) + 8) < (μ 0 22) then some 0 else bd1 (f6_isLetter μ ν 0 x1) (fun r32 => if r32 = 0 then some 0 else bd1 (f6_isLetter μ ν 1 x2) (fun r41 => if r41 = 0 then some 0 else bd1 (f6_isLetter μ ν 2 x3) (fun r50 => if r50 = 0 then some 0 else bd1 (f6_isLetter μ ν 3 x4) (fun r60 => if r60 = 0 then some 0 else bd1 (f6_isLetter μ ν 4 x5) (fun r70 => if r70 = 0 then some 0 else bd1 (f6_isLetter μ ν 5 x6) (fun r80 => if r80 = 0 then some 0 else bd1 (f6_isLetter μ ν 6 x7) (fun r91 => if r91 = 0 then some 0 else bd1 (f6_isLetter μ ν 7 x8) (fun r102 => if r102 = 0 then some 0 else some 1)))))))) else some 0 else some 0
def f6_isSign (μ : Mem) (ν : Lem) (x1 : Int32) : Int32 :=
  if (μ 0 27) = 0 then if (μ 0 23) = 3 then if (lg_cmp (ν 0 25) (x1.toInt64)) = 0 then 1 else 0 else 0 else 0
def f6_opens (μ : Mem) (ν : Lem) : Option (Int32 × Mem × Lem) :=
  if (μ 0 26) = 5 then pr2 (f6_fail μ ν) (fun μ9 ν9 => some (0, μ9, ν9)) else nm (up μ 0 26 ((μ 0 26) + 1)) (fun μ21 => bd2 (f6_next μ21 ν) (fun μ25 ν25 => some (1, μ25, ν25)))
def f6_name (μ : Mem) (ν : Lem) : Option (Int32 × Mem × Lem) :=
  bd1 (f6_isWord μ ν 109 105 110 117 116 101 0 0) (fun r15 => if r15 = 0 then bd1 (f6_isWord μ ν 112 108 97 99 101 0 0 0) (fun r40 => if r40 = 0 then bd1 (f6_isWord μ ν 119 97 121 0 0 0 0 0) (fun r63 => if r63 = 0 then bd1 (f6_isWord μ ν 112 97 99 101 0 0 0 0) (fun r87 => if r87 = 0 then bd1 (f6_isWord μ ν 102 97 114 0 0 0 0 0) (fun r110 => if r110 = 0 then bd1 (f6_isWord μ ν 112 111 105 110 116 115 0 0) (fun r136 => if r136 = 0 then pr2 (f6_fail μ ν) (fun μ148 ν148 => some (0, μ148, ν148)) else some (μ 0 19, μ, ν)) else some (μ 0 18, μ, ν)) else some (μ 0 17, μ, ν)) else some (μ 0 16, μ, ν)) else some (μ 0 15, μ, ν)) else some (μ 0 14, μ, ν))
def f6_atom5_2 (μ : Mem) (ν : Lem) (x1 : Int32) : Option (Int32 × Mem × Lem) :=
  pr2 (f6_fail μ ν) (fun μ99 ν99 => some (x1, μ99, ν99))
def f6_atom5_1 (μ : Mem) (ν : Lem) (x1 : Int32) : Option (Int32 × Mem × Lem) :=
  if (μ 0 27) = 0 then if (μ 0 23) = 1 then bd3 (f6_name μ ν) (fun r80 μ80 ν80 => if (μ80 0 27) = 0 then bd2 (f6_next μ80 ν80) (fun μ92 ν92 => some (r80, μ92, ν92)) else some (r80, μ80, ν80)) else f6_atom5_2 μ ν x1 else f6_atom5_2 μ ν x1
def f6_atom5 (μ : Mem) (ν : Lem) : Option (Int32 × Mem × Lem) :=
  if (f6_isSign μ ν 45) = 0 then if (f6_isSign μ ν 40) = 0 then if (μ 0 27) = 0 then if (μ 0 23) = 2 then nm ((ν 0 25).toInt32) (fun v56 => bd2 (f6_next μ ν) (fun μ58 ν58 => some (v56, μ58, ν58))) else f6_atom5_1 μ ν 0 else f6_atom5_1 μ ν 0 else bd3 (f6_opens μ ν) (fun r29 μ29 ν29 => some (0, μ29, ν29)) else bd3 (f6_opens μ ν) (fun r12 μ12 ν12 => some (0, μ12, ν12))
def f6_term5_1 (n : Nat) (μ : Mem) (ν : Lem) (x1 : Int32) : Option (Int32 × Mem × Lem) :=
  match n with
  | 0 => none
  | n + 1 => if (f6_isSign μ ν 42) = 0 then some (x1, μ, ν) else bd2 (f6_next μ ν) (fun μ15 ν15 => bd3 (f6_atom5 μ15 ν15) (fun r20 μ20 ν20 => nm (x1 * r20) (fun v24 => f6_term5_1 n μ20 ν20 v24)))
def f6_term5 (μ : Mem) (ν : Lem) : Option (Int32 × Mem × Lem) :=
  bd3 (f6_atom5 μ ν) (fun r1 μ1 ν1 => f6_term5_1 FUEL μ1 ν1 r1)
def f6_added5_3 (K5 : Mem → Lem → Int32 → Option (Int32 × Mem × Lem)) (μ : Mem) (ν : Lem) (x1 : Int32) (t0 : Int32) : Option (Int32 × Mem × Lem) :=
  bd2 (f6_next μ ν) (fun μ41 ν41 => bd3 (f6_term5 μ41 ν41) (fun r45 μ45 ν45 => if t0 = 0 then nm (x1 - r45) (fun v62 => K5 μ45 ν45 v62) else nm (x1 + r45) (fun v62 => K5 μ45 ν45 v62)))
def f6_added5_2 (K5 : Mem → Lem → Int32 → Option (Int32 × Mem × Lem)) (μ : Mem) (ν : Lem) (x1 : Int32) : Option (Int32 × Mem × Lem) :=
  if (lg_cmp (ν 0 25) (43 : Int64)) = 0 then f6_added5_3 K5 μ ν x1 1 else f6_added5_3 K5 μ ν x1 0
def f6_added5_1 (n : Nat) (μ : Mem) (ν : Lem) (x1 : Int32) : Option (Int32 × Mem × Lem) :=
  match n with
  | 0 => none
  | n + 1 => if (f6_isSign μ ν 43) = 0 then if (f6_isSign μ ν 45) = 0 then some (x1, μ, ν) else f6_added5_2 (f6_added5_1 n) μ ν x1 else f6_added5_2 (f6_added5_1 n) μ ν x1
def f6_added5 (μ : Mem) (ν : Lem) : Option (Int32 × Mem × Lem) :=
  bd3 (f6_term5 μ ν) (fun r1 μ1 ν1 => f6_added5_1 FUEL μ1 ν1 r1)
def f6_not5_2 (μ : Mem) (ν : Lem) (x1 : Int32) (t0 : Int32) : Option (Int32 × Mem × Lem) :=
  bd2 (f6_next μ ν) (fun μ68 ν68 => bd3 (f6_added5 μ68 ν68) (fun r72 μ72 ν72 => if t0 = 0 then if x1 = r72 then some (1, μ72, ν72) else some (0, μ72, ν72) else if r72 ≤ x1 then some (0, μ72, ν72) else some (1, μ72, ν72)))
def f6_not5_1 (μ : Mem) (ν : Lem) (x1 : Int32) : Option (Int32 × Mem × Lem) :=
  if (lg_cmp (ν 0 25) (60 : Int64)) = 0 then f6_not5_2 μ ν x1 1 else f6_not5_2 μ ν x1 0
def f6_not5 (μ : Mem) (ν : Lem) : Option (Int32 × Mem × Lem) :=
  bd1 (f6_isWord μ ν 110 111 116 0 0 0 0 0) (fun r12 => if r12 = 0 then bd3 (f6_added5 μ ν) (fun r26 μ26 ν26 => if (f6_isSign μ26 ν26 60) = 0 then if (f6_isSign μ26 ν26 61) = 0 then some (r26, μ26, ν26) else f6_not5_1 μ26 ν26 r26 else f6_not5_1 μ26 ν26 r26) else bd3 (f6_opens μ ν) (fun r19 μ19 ν19 => some (0, μ19, ν19)))
def f6_both5_1 (n : Nat) (μ : Mem) (ν : Lem) (x1 : Int32) : Option (Int32 × Mem × Lem) :=
  match n with
  | 0 => none
  | n + 1 => bd1 (f6_isWord μ ν 97 110 100 0 0 0 0 0) (fun r17 => if r17 = 0 then some (x1, μ, ν) else bd2 (f6_next μ ν) (fun μ24 ν24 => bd3 (f6_not5 μ24 ν24) (fun r28 μ28 ν28 => if x1 = 0 then f6_both5_1 n μ28 ν28 0 else if r28 = 0 then f6_both5_1 n μ28 ν28 0 else f6_both5_1 n μ28 ν28 1)))
def f6_both5 (μ : Mem) (ν : Lem) : Option (Int32 × Mem × Lem) :=
  bd3 (f6_not5 μ ν) (fun r1 μ1 ν1 => f6_both5_1 FUEL μ1 ν1 r1)
def f6_either5_1 (n : Nat) (μ : Mem) (ν : Lem) (x1 : Int32) : Option (Int32 × Mem × Lem) :=
  match n with
  | 0 => none
  | n + 1 => bd1 (f6_isWord μ ν 111 114 0 0 0 0 0 0) (fun r16 => if r16 = 0 then some (x1, μ, ν) else bd2 (f6_next μ ν) (fun μ23 ν23 => bd3 (f6_both5 μ23 ν23) (fun r27 μ27 ν27 => if x1 = 0 then if r27 = 0 then f6_either5_1 n μ27 ν27 0 else f6_either5_1 n μ27 ν27 1 else f6_either5_1 n μ27 ν27 1)))
def f6_either5 (μ : Mem) (ν : Lem) : Option (Int32 × Mem × Lem) :=
  bd3 (f6_both5 μ ν) (fun r1 μ1 ν1 => f6_either5_1 FUEL μ1 ν1 r1)
def f6_atom4_3 (μ : Mem) (ν : Lem) (x1 : Int32) : Option (Int32 × Mem × Lem) :=
  pr2 (f6_fail μ ν) (fun μ158 ν158 => some (x1, μ158, ν158))
def f6_atom4_2 (μ : Mem) (ν : Lem) (x1 : Int32) : Option (Int32 × Mem × Lem) :=
  if (μ 0 27) = 0 then if (μ 0 23) = 1 then bd3 (f6_name μ ν) (fun r139 μ139 ν139 => if (μ139 0 27) = 0 then bd2 (f6_next μ139 ν139) (fun μ151 ν151 => some (r139, μ151, ν151)) else some (r139, μ139, ν139)) else f6_atom4_3 μ ν x1 else f6_atom4_3 μ ν x1
def f6_atom4_1 (μ : Mem) (ν : Lem) (x1 : Int32) : Option (Int32 × Mem × Lem) :=
  nm (up μ 0 26 ((μ 0 26) - 1)) (fun μ78 => if (μ78 0 27) = 0 then bd2 (f6_next μ78 ν) (fun μ89 ν89 => some (x1, μ89, ν89)) else some (x1, μ78, ν))
def f6_atom4 (μ : Mem) (ν : Lem) : Option (Int32 × Mem × Lem) :=
  if (f6_isSign μ ν 45) = 0 then if (f6_isSign μ ν 40) = 0 then if (μ 0 27) = 0 then if (μ 0 23) = 2 then nm ((ν 0 25).toInt32) (fun v115 => bd2 (f6_next μ ν) (fun μ117 ν117 => some (v115, μ117, ν117))) else f6_atom4_2 μ ν 0 else f6_atom4_2 μ ν 0 else bd3 (f6_opens μ ν) (fun r47 μ47 ν47 => if r47 = 0 then some (0, μ47, ν47) else bd3 (f6_either5 μ47 ν47) (fun r54 μ54 ν54 => if (f6_isSign μ54 ν54 41) = 0 then pr2 (f6_fail μ54 ν54) (fun μ68 ν68 => f6_atom4_1 μ68 ν68 r54) else f6_atom4_1 μ54 ν54 r54)) else bd3 (f6_opens μ ν) (fun r12 μ12 ν12 => if r12 = 0 then some (0, μ12, ν12) else bd3 (f6_atom5 μ12 ν12) (fun r19 μ19 ν19 => nm (-r19) (fun v23 => nm (up μ19 0 26 ((μ19 0 26) - 1)) (fun μ31 => some (v23, μ31, ν19)))))
def f6_term4_1 (n : Nat) (μ : Mem) (ν : Lem) (x1 : Int32) : Option (Int32 × Mem × Lem) :=
  match n with
  | 0 => none
  | n + 1 => if (f6_isSign μ ν 42) = 0 then some (x1, μ, ν) else bd2 (f6_next μ ν) (fun μ15 ν15 => bd3 (f6_atom4 μ15 ν15) (fun r20 μ20 ν20 => nm (x1 * r20) (fun v24 => f6_term4_1 n μ20 ν20 v24)))
def f6_term4 (μ : Mem) (ν : Lem) : Option (Int32 × Mem × Lem) :=
  bd3 (f6_atom4 μ ν) (fun r1 μ1 ν1 => f6_term4_1 FUEL μ1 ν1 r1)
def f6_added4_3 (K5 : Mem → Lem → Int32 → Option (Int32 × Mem × Lem)) (μ : Mem) (ν : Lem) (x1 : Int32) (t0 : Int32) : Option (Int32 × Mem × Lem) :=
  bd2 (f6_next μ ν) (fun μ41 ν41 => bd3 (f6_term4 μ41 ν41) (fun r45 μ45 ν45 => if t0 = 0 then nm (x1 - r45) (fun v62 => K5 μ45 ν45 v62) else nm (x1 + r45) (fun v62 => K5 μ45 ν45 v62)))
def f6_added4_2 (K5 : Mem → Lem → Int32 → Option (Int32 × Mem × Lem)) (μ : Mem) (ν : Lem) (x1 : Int32) : Option (Int32 × Mem × Lem) :=
  if (lg_cmp (ν 0 25) (43 : Int64)) = 0 then f6_added4_3 K5 μ ν x1 1 else f6_added4_3 K5 μ ν x1 0
def f6_added4_1 (n : Nat) (μ : Mem) (ν : Lem) (x1 : Int32) : Option (Int32 × Mem × Lem) :=
  match n with
  | 0 => none
  | n + 1 => if (f6_isSign μ ν 43) = 0 then if (f6_isSign μ ν 45) = 0 then some (x1, μ, ν) else f6_added4_2 (f6_added4_1 n) μ ν x1 else f6_added4_2 (f6_added4_1 n) μ ν x1
def f6_added4 (μ : Mem) (ν : Lem) : Option (Int32 × Mem × Lem) :=
  bd3 (f6_term4 μ ν) (fun r1 μ1 ν1 => f6_added4_1 FUEL μ1 ν1 r1)
def f6_not4_2 (μ : Mem) (ν : Lem) (x1 : Int32) (t0 : Int32) : Option (Int32 × Mem × Lem) :=
  bd2 (f6_next μ ν) (fun μ95 ν95 => bd3 (f6_added4 μ95 ν95) (fun r99 μ99 ν99 => if t0 = 0 then if x1 = r99 then some (1, μ99, ν99) else some (0, μ99, ν99) else if r99 ≤ x1 then some (0, μ99, ν99) else some (1, μ99, ν99)))
def f6_not4_1 (μ : Mem) (ν : Lem) (x1 : Int32) : Option (Int32 × Mem × Lem) :=
  if (lg_cmp (ν 0 25) (60 : Int64)) = 0 then f6_not4_2 μ ν x1 1 else f6_not4_2 μ ν x1 0
def f6_not4 (μ : Mem) (ν : Lem) : Option (Int32 × Mem × Lem) :=
  bd1 (f6_isWord μ ν 110 111 116 0 0 0 0 0) (fun r12 => if r12 = 0 then bd3 (f6_added4 μ ν) (fun r53 μ53 ν53 => if (f6_isSign μ53 ν53 60) = 0 then if (f6_isSign μ53 ν53 61) = 0 then some (r53, μ53, ν53) else f6_not4_1 μ53 ν53 r53 else f6_not4_1 μ53 ν53 r53) else bd3 (f6_opens μ ν) (fun r19 μ19 ν19 => if r19 = 0 then some (0, μ19, ν19) else bd3 (f6_not5 μ19 ν19) (fun r28 μ28 ν28 => nm (up μ28 0 26 ((μ28 0 26) - 1)) (fun μ39 => if r28 = 0 then some (1, μ39, ν28) else some (0, μ39, ν28)))))
def f6_both4_1 (n : Nat) (μ : Mem) (ν : Lem) (x1 : Int32) : Option (Int32 × Mem × Lem) :=
  match n with
  | 0 => none
  | n + 1 => bd1 (f6_isWord μ ν 97 110 100 0 0 0 0 0) (fun r17 => if r17 = 0 then some (x1, μ, ν) else bd2 (f6_next μ ν) (fun μ24 ν24 => bd3 (f6_not4 μ24 ν24) (fun r28 μ28 ν28 => if x1 = 0 then f6_both4_1 n μ28 ν28 0 else if r28 = 0 then f6_both4_1 n μ28 ν28 0 else f6_both4_1 n μ28 ν28 1)))
def f6_both4 (μ : Mem) (ν : Lem) : Option (Int32 × Mem × Lem) :=
  bd3 (f6_not4 μ ν) (fun r1 μ1 ν1 => f6_both4_1 FUEL μ1 ν1 r1)
def f6_either4_1 (n : Nat) (μ : Mem) (ν : Lem) (x1 : Int32) : Option (Int32 × Mem × Lem) :=
  match n with
  | 0 => none
  | n + 1 => bd1 (f6_isWord μ ν 111 114 0 0 0 0 0 0) (fun r16 => if r16 = 0 then some (x1, μ, ν) else bd2 (f6_next μ ν) (fun μ23 ν23 => bd3 (f6_both4 μ23 ν23) (fun r27 μ27 ν27 => if x1 = 0 then if r27 = 0 then f6_either4_1 n μ27 ν27 0 else f6_either4_1 n μ27 ν27 1 else f6_either4_1 n μ27 ν27 1)))
def f6_either4 (μ : Mem) (ν : Lem) : Option (Int32 × Mem × Lem) :=
  bd3 (f6_both4 μ ν) (fun r1 μ1 ν1 => f6_either4_1 FUEL μ1 ν1 r1)
def f6_atom3_3 (μ : Mem) (ν : Lem) (x1 : Int32) : Option (Int32 × Mem × Lem) :=
  pr2 (f6_fail μ ν) (fun μ158 ν158 => some (x1, μ158, ν158))
def f6_atom3_2 (μ : Mem) (ν : Lem) (x1 : Int32) : Option (Int32 × Mem × Lem) :=
  if (μ 0 27) = 0 then if (μ 0 23) = 1 then bd3 (f6_name μ ν) (fun r139 μ139 ν139 => if (μ139 0 27) = 0 then bd2 (f6_next μ139 ν139) (fun μ151 ν151 => some (r139, μ151, ν151)) else some (r139, μ139, ν139)) else f6_atom3_3 μ ν x1 else f6_atom3_3 μ ν x1
def f6_atom3_1 (μ : Mem) (ν : Lem) (x1 : Int32) : Option (Int32 × Mem × Lem) :=
  nm (up μ 0 26 ((μ 0 26) - 1)) (fun μ78 => if (μ78 0 27) = 0 then bd2 (f6_next μ78 ν) (fun μ89 ν89 => some (x1, μ89, ν89)) else some (x1, μ78, ν))
def f6_atom3 (μ : Mem) (ν : Lem) : Option (Int32 × Mem × Lem) :=
  if (f6_isSign μ ν 45) = 0 then if (f6_isSign μ ν 40) = 0 then if (μ 0 27) = 0 then if (μ 0 23) = 2 then nm ((ν 0 25).toInt32) (fun v115 => bd2 (f6_next μ ν) (fun μ117 ν117 => some (v115, μ117, ν117))) else f6_atom3_2 μ ν 0 else f6_atom3_2 μ ν 0 else bd3 (f6_opens μ ν) (fun r47 μ47 ν47 => if r47 = 0 then some (0, μ47, ν47) else bd3 (f6_either4 μ47 ν47) (fun r54 μ54 ν54 => if (f6_isSign μ54 ν54 41) = 0 then pr2 (f6_fail μ54 ν54) (fun μ68 ν68 => f6_atom3_1 μ68 ν68 r54) else f6_atom3_1 μ54 ν54 r54)) else bd3 (f6_opens μ ν) (fun r12 μ12 ν12 => if r12 = 0 then some (0, μ12, ν12) else bd3 (f6_atom4 μ12 ν12) (fun r19 μ19 ν19 => nm (-r19) (fun v23 => nm (up μ19 0 26 ((μ19 0 26) - 1)) (fun μ31 => some (v23, μ31, ν19)))))
def f6_term3_1 (n : Nat) (μ : Mem) (ν : Lem) (x1 : Int32) : Option (Int32 × Mem × Lem) :=
  match n with
  | 0 => none
  | n + 1 => if (f6_isSign μ ν 42) = 0 then some (x1, μ, ν) else bd2 (f6_next μ ν) (fun μ15 ν15 => bd3 (f6_atom3 μ15 ν15) (fun r20 μ20 ν20 => nm (x1 * r20) (fun v24 => f6_term3_1 n μ20 ν20 v24)))
def f6_term3 (μ : Mem) (ν : Lem) : Option (Int32 × Mem × Lem) :=
  bd3 (f6_atom3 μ ν) (fun r1 μ1 ν1 => f6_term3_1 FUEL μ1 ν1 r1)
def f6_added3_3 (K5 : Mem → Lem → Int32 → Option (Int32 × Mem × Lem)) (μ : Mem) (ν : Lem) (x1 : Int32) (t0 : Int32) : Option (Int32 × Mem × Lem) :=
  bd2 (f6_next μ ν) (fun μ41 ν41 => bd3 (f6_term3 μ41 ν41) (fun r45 μ45 ν45 => if t0 = 0 then nm (x1 - r45) (fun v62 => K5 μ45 ν45 v62) else nm (x1 + r45) (fun v62 => K5 μ45 ν45 v62)))
def f6_added3_2 (K5 : Mem → Lem → Int32 → Option (Int32 × Mem × Lem)) (μ : Mem) (ν : Lem) (x1 : Int32) : Option (Int32 × Mem × Lem) :=
  if (lg_cmp (ν 0 25) (43 : Int64)) = 0 then f6_added3_3 K5 μ ν x1 1 else f6_added3_3 K5 μ ν x1 0
def f6_added3_1 (n : Nat) (μ : Mem) (ν : Lem) (x1 : Int32) : Option (Int32 × Mem × Lem) :=
  match n with
  | 0 => none
  | n + 1 => if (f6_isSign μ ν 43) = 0 then if (f6_isSign μ ν 45) = 0 then some (x1, μ, ν) else f6_added3_2 (f6_added3_1 n) μ ν x1 else f6_added3_2 (f6_added3_1 n) μ ν x1
def f6_added3 (μ : Mem) (ν : Lem) : Option (Int32 × Mem × Lem) :=
  bd3 (f6_term3 μ ν) (fun r1 μ1 ν1 => f6_added3_1 FUEL μ1 ν1 r1)
def f6_not3_2 (μ : Mem) (ν : Lem) (x1 : Int32) (t0 : Int32) : Option (Int32 × Mem × Lem) :=
  bd2 (f6_next μ ν) (fun μ95 ν95 => bd3 (f6_added3 μ95 ν95) (fun r99 μ99 ν99 => if t0 = 0 then if x1 = r99 then some (1, μ99, ν99) else some (0, μ99, ν99) else if r99 ≤ x1 then some (0, μ99, ν99) else some (1, μ99, ν99)))
def f6_not3_1 (μ : Mem) (ν : Lem) (x1 : Int32) : Option (Int32 × Mem × Lem) :=
  if (lg_cmp (ν 0 25) (60 : Int64)) = 0 then f6_not3_2 μ ν x1 1 else f6_not3_2 μ ν x1 0
def f6_not3 (μ : Mem) (ν : Lem) : Option (Int32 × Mem × Lem) :=
  bd1 (f6_isWord μ ν 110 111 116 0 0 0 0 0) (fun r12 => if r12 = 0 then bd3 (f6_added3 μ ν) (fun r53 μ53 ν53 => if (f6_isSign μ53 ν53 60) = 0 then if (f6_isSign μ53 ν53 61) = 0 then some (r53, μ53, ν53) else f6_not3_1 μ53 ν53 r53 else f6_not3_1 μ53 ν53 r53) else bd3 (f6_opens μ ν) (fun r19 μ19 ν19 => if r19 = 0 then some (0, μ19, ν19) else bd3 (f6_not4 μ19 ν19) (fun r28 μ28 ν28 => nm (up μ28 0 26 ((μ28 0 26) - 1)) (fun μ39 => if r28 = 0 then some (1, μ39, ν28) else some (0, μ39, ν28)))))
def f6_both3_1 (n : Nat) (μ : Mem) (ν : Lem) (x1 : Int32) : Option (Int32 × Mem × Lem) :=
  match n with
  | 0 => none
  | n + 1 => bd1 (f6_isWord μ ν 97 110 100 0 0 0 0 0) (fun r17 => if r17 = 0 then some (x1, μ, ν) else bd2 (f6_next μ ν) (fun μ24 ν24 => bd3 (f6_not3 μ24 ν24) (fun r28 μ28 ν28 => if x1 = 0 then f6_both3_1 n μ28 ν28 0 else if r28 = 0 then f6_both3_1 n μ28 ν28 0 else f6_both3_1 n μ28 ν28 1)))
def f6_both3 (μ : Mem) (ν : Lem) : Option (Int32 × Mem × Lem) :=
  bd3 (f6_not3 μ ν) (fun r1 μ1 ν1 => f6_both3_1 FUEL μ1 ν1 r1)
def f6_either3_1 (n : Nat) (μ : Mem) (ν : Lem) (x1 : Int32) : Option (Int32 × Mem × Lem) :=
  match n with
  | 0 => none
  | n + 1 => bd1 (f6_isWord μ ν 111 114 0 0 0 0 0 0) (fun r16 => if r16 = 0 then some (x1, μ, ν) else bd2 (f6_next μ ν) (fun μ23 ν23 => bd3 (f6_both3 μ23 ν23) (fun r27 μ27 ν27 => if x1 = 0 then if r27 = 0 then f6_either3_1 n μ27 ν27 0 else f6_either3_1 n μ27 ν27 1 else f6_either3_1 n μ27 ν27 1)))
def f6_either3 (μ : Mem) (ν : Lem) : Option (Int32 × Mem × Lem) :=
  bd3 (f6_both3 μ ν) (fun r1 μ1 ν1 => f6_either3_1 FUEL μ1 ν1 r1)
def f6_atom2_3 (μ : Mem) (ν : Lem) (x1 : Int32) : Option (Int32 × Mem × Lem) :=
  pr2 (f6_fail μ ν) (fun μ158 ν158 => some (x1, μ158, ν158))
def f6_atom2_2 (μ : Mem) (ν : Lem) (x1 : Int32) : Option (Int32 × Mem × Lem) :=
  if (μ 0 27) = 0 then if (μ 0 23) = 1 then bd3 (f6_name μ ν) (fun r139 μ139 ν139 => if (μ139 0 27) = 0 then bd2 (f6_next μ139 ν139) (fun μ151 ν151 => some (r139, μ151, ν151)) else some (r139, μ139, ν139)) else f6_atom2_3 μ ν x1 else f6_atom2_3 μ ν x1
def f6_atom2_1 (μ : Mem) (ν : Lem) (x1 : Int32) : Option (Int32 × Mem × Lem) :=
  nm (up μ 0 26 ((μ 0 26) - 1)) (fun μ78 => if (μ78 0 27) = 0 then bd2 (f6_next μ78 ν) (fun μ89 ν89 => some (x1, μ89, ν89)) else some (x1, μ78, ν))
def f6_atom2 (μ : Mem) (ν : Lem) : Option (Int32 × Mem × Lem) :=
  if (f6_isSign μ ν 45) = 0 then if (f6_isSign μ ν 40) = 0 then if (μ 0 27) = 0 then if (μ 0 23) = 2 then nm ((ν 0 25).toInt32) (fun v115 => bd2 (f6_next μ ν) (fun μ117 ν117 => some (v115, μ117, ν117))) else f6_atom2_2 μ ν 0 else f6_atom2_2 μ ν 0 else bd3 (f6_opens μ ν) (fun r47 μ47 ν47 => if r47 = 0 then some (0, μ47, ν47) else bd3 (f6_either3 μ47 ν47) (fun r54 μ54 ν54 => if (f6_isSign μ54 ν54 41) = 0 then pr2 (f6_fail μ54 ν54) (fun μ68 ν68 => f6_atom2_1 μ68 ν68 r54) else f6_atom2_1 μ54 ν54 r54)) else bd3 (f6_opens μ ν) (fun r12 μ12 ν12 => if r12 = 0 then some (0, μ12, ν12) else bd3 (f6_atom3 μ12 ν12) (fun r19 μ19 ν19 => nm (-r19) (fun v23 => nm (up μ19 0 26 ((μ19 0 26) - 1)) (fun μ31 => some (v23, μ31, ν19)))))
def f6_term2_1 (n : Nat) (μ : Mem) (ν : Lem) (x1 : Int32) : Option (Int32 × Mem × Lem) :=
  match n with
  | 0 => none
  | n + 1 => if (f6_isSign μ ν 42) = 0 then some (x1, μ, ν) else bd2 (f6_next μ ν) (fun μ15 ν15 => bd3 (f6_atom2 μ15 ν15) (fun r20 μ20 ν20 => nm (x1 * r20) (fun v24 => f6_term2_1 n μ20 ν20 v24)))
def f6_term2 (μ : Mem) (ν : Lem) : Option (Int32 × Mem × Lem) :=
  bd3 (f6_atom2 μ ν) (fun r1 μ1 ν1 => f6_term2_1 FUEL μ1 ν1 r1)
def f6_added2_3 (K5 : Mem → Lem → Int32 → Option (Int32 × Mem × Lem)) (μ : Mem) (ν : Lem) (x1 : Int32) (t0 : Int32) : Option (Int32 × Mem × Lem) :=
  bd2 (f6_next μ ν) (fun μ41 ν41 => bd3 (f6_term2 μ41 ν41) (fun r45 μ45 ν45 => if t0 = 0 then nm (x1 - r45) (fun v62 => K5 μ45 ν45 v62) else nm (x1 + r45) (fun v62 => K5 μ45 ν45 v62)))
def f6_added2_2 (K5 : Mem → Lem → Int32 → Option (Int32 × Mem × Lem)) (μ : Mem) (ν : Lem) (x1 : Int32) : Option (Int32 × Mem × Lem) :=
  if (lg_cmp (ν 0 25) (43 : Int64)) = 0 then f6_added2_3 K5 μ ν x1 1 else f6_added2_3 K5 μ ν x1 0
def f6_added2_1 (n : Nat) (μ : Mem) (ν : Lem) (x1 : Int32) : Option (Int32 × Mem × Lem) :=
  match n with
  | 0 => none
  | n + 1 => if (f6_isSign μ ν 43) = 0 then if (f6_isSign μ ν 45) = 0 then some (x1, μ, ν) else f6_added2_2 (f6_added2_1 n) μ ν x1 else f6_added2_2 (f6_added2_1 n) μ ν x1
def f6_added2 (μ : Mem) (ν : Lem) : Option (Int32 × Mem × Lem) :=
  bd3 (f6_term2 μ ν) (fun r1 μ1 ν1 => f6_added2_1 FUEL μ1 ν1 r1)
def f6_not2_2 (μ : Mem) (ν : Lem) (x1 : Int32) (t0 : Int32) : Option (Int32 × Mem × Lem) :=
  bd2 (f6_next μ ν) (fun μ95 ν95 => bd3 (f6_added2 μ95 ν95) (fun r99 μ99 ν99 => if t0 = 0 then if x1 = r99 then some (1, μ99, ν99) else some (0, μ99, ν99) else if r99 ≤ x1 then some (0, μ99, ν99) else some (1, μ99, ν99)))
def f6_not2_1 (μ : Mem) (ν : Lem) (x1 : Int32) : Option (Int32 × Mem × Lem) :=
  if (lg_cmp (ν 0 25) (60 : Int64)) = 0 then f6_not2_2 μ ν x1 1 else f6_not2_2 μ ν x1 0
def f6_not2 (μ : Mem) (ν : Lem) : Option (Int32 × Mem × Lem) :=
  bd1 (f6_isWord μ ν 110 111 116 0 0 0 0 0) (fun r12 => if r12 = 0 then bd3 (f6_added2 μ ν) (fun r53 μ53 ν53 => if (f6_isSign μ53 ν53 60) = 0 then if (f6_isSign μ53 ν53 61) = 0 then some (r53, μ53, ν53) else f6_not2_1 μ53 ν53 r53 else f6_not2_1 μ53 ν53 r53) else bd3 (f6_opens μ ν) (fun r19 μ19 ν19 => if r19 = 0 then some (0, μ19, ν19) else bd3 (f6_not3 μ19 ν19) (fun r28 μ28 ν28 => nm (up μ28 0 26 ((μ28 0 26) - 1)) (fun μ39 => if r28 = 0 then some (1, μ39, ν28) else some (0, μ39, ν28)))))
def f6_both2_1 (n : Nat) (μ : Mem) (ν : Lem) (x1 : Int32) : Option (Int32 × Mem × Lem) :=
  match n with
  | 0 => none
  | n + 1 => bd1 (f6_isWord μ ν 97 110 100 0 0 0 0 0) (fun r17 => if r17 = 0 then some (x1, μ, ν) else bd2 (f6_next μ ν) (fun μ24 ν24 => bd3 (f6_not2 μ24 ν24) (fun r28 μ28 ν28 => if x1 = 0 then f6_both2_1 n μ28 ν28 0 else if r28 = 0 then f6_both2_1 n μ28 ν28 0 else f6_both2_1 n μ28 ν28 1)))
def f6_both2 (μ : Mem) (ν : Lem) : Option (Int32 × Mem × Lem) :=
  bd3 (f6_not2 μ ν) (fun r1 μ1 ν1 => f6_both2_1 FUEL μ1 ν1 r1)
def f6_either2_1 (n : Nat) (μ : Mem) (ν : Lem) (x1 : Int32) : Option (Int32 × Mem × Lem) :=
  match n with
  | 0 => none
  | n + 1 => bd1 (f6_isWord μ ν 111 114 0 0 0 0 0 0) (fun r16 => if r16 = 0 then some (x1, μ, ν) else bd2 (f6_next μ ν) (fun μ23 ν23 => bd3 (f6_both2 μ23 ν23) (fun r27 μ27 ν27 => if x1 = 0 then if r27 = 0 then f6_either2_1 n μ27 ν27 0 else f6_either2_1 n μ27 ν27 1 else f6_either2_1 n μ27 ν27 1)))
def f6_either2 (μ : Mem) (ν : Lem) : Option (Int32 × Mem × Lem) :=
  bd3 (f6_both2 μ ν) (fun r1 μ1 ν1 => f6_either2_1 FUEL μ1 ν1 r1)
def f6_atom1_3 (μ : Mem) (ν : Lem) (x1 : Int32) : Option (Int32 × Mem × Lem) :=
  pr2 (f6_fail μ ν) (fun μ158 ν158 => some (x1, μ158, ν158))
def f6_atom1_2 (μ : Mem) (ν : Lem) (x1 : Int32) : Option (Int32 × Mem × Lem) :=
  if (μ 0 27) = 0 then if (μ 0 23) = 1 then bd3 (f6_name μ ν) (fun r139 μ139 ν139 => if (μ139 0 27) = 0 then bd2 (f6_next μ139 ν139) (fun μ151 ν151 => some (r139, μ151, ν151)) else some (r139, μ139, ν139)) else f6_atom1_3 μ ν x1 else f6_atom1_3 μ ν x1
def f6_atom1_1 (μ : Mem) (ν : Lem) (x1 : Int32) : Option (Int32 × Mem × Lem) :=
  nm (up μ 0 26 ((μ 0 26) - 1)) (fun μ78 => if (μ78 0 27) = 0 then bd2 (f6_next μ78 ν) (fun μ89 ν89 => some (x1, μ89, ν89)) else some (x1, μ78, ν))
def f6_atom1 (μ : Mem) (ν : Lem) : Option (Int32 × Mem × Lem) :=
  if (f6_isSign μ ν 45) = 0 then if (f6_isSign μ ν 40) = 0 then if (μ 0 27) = 0 then if (μ 0 23) = 2 then nm ((ν 0 25).toInt32) (fun v115 => bd2 (f6_next μ ν) (fun μ117 ν117 => some (v115, μ117, ν117))) else f6_atom1_2 μ ν 0 else f6_atom1_2 μ ν 0 else bd3 (f6_opens μ ν) (fun r47 μ47 ν47 => if r47 = 0 then some (0, μ47, ν47) else bd3 (f6_either2 μ47 ν47) (fun r54 μ54 ν54 => if (f6_isSign μ54 ν54 41) = 0 then pr2 (f6_fail μ54 ν54) (fun μ68 ν68 => f6_atom1_1 μ68 ν68 r54) else f6_atom1_1 μ54 ν54 r54)) else bd3 (f6_opens μ ν) (fun r12 μ12 ν12 => if r12 = 0 then some (0, μ12, ν12) else bd3 (f6_atom2 μ12 ν12) (fun r19 μ19 ν19 => nm (-r19) (fun v23 => nm (up μ19 0 26 ((μ19 0 26) - 1)) (fun μ31 => some (v23, μ31, ν19)))))
def f6_term1_1 (n : Nat) (μ : Mem) (ν : Lem) (x1 : Int32) : Option (Int32 × Mem × Lem) :=
  match n with
  | 0 => none
  | n + 1 => if (f6_isSign μ ν 42) = 0 then some (x1, μ, ν) else bd2 (f6_next μ ν) (fun μ15 ν15 => bd3 (f6_atom1 μ15 ν15) (fun r20 μ20 ν20 => nm (x1 * r20) (fun v24 => f6_term1_1 n μ20 ν20 v24)))
def f6_term1 (μ : Mem) (ν : Lem) : Option (Int32 × Mem × Lem) :=
  bd3 (f6_atom1 μ ν) (fun r1 μ1 ν1 => f6_term1_1 FUEL μ1 ν1 r1)
def f6_added1_3 (K5 : Mem → Lem → Int32 → Option (Int32 × Mem × Lem)) (μ : Mem) (ν : Lem) (x1 : Int32) (t0 : Int32) : Option (Int32 × Mem × Lem) :=
  bd2 (f6_next μ ν) (fun μ41 ν41 => bd3 (f6_term1 μ41 ν41) (fun r45 μ45 ν45 => if t0 = 0 then nm (x1 - r45) (fun v62 => K5 μ45 ν45 v62) else nm (x1 + r45) (fun v62 => K5 μ45 ν45 v62)))
def f6_added1_2 (K5 : Mem → Lem → Int32 → Option (Int32 × Mem × Lem)) (μ : Mem) (ν : Lem) (x1 : Int32) : Option (Int32 × Mem × Lem) :=
  if (lg_cmp (ν 0 25) (43 : Int64)) = 0 then f6_added1_3 K5 μ ν x1 1 else f6_added1_3 K5 μ ν x1 0
def f6_added1_1 (n : Nat) (μ : Mem) (ν : Lem) (x1 : Int32) : Option (Int32 × Mem × Lem) :=
  match n with
  | 0 => none
  | n + 1 => if (f6_isSign μ ν 43) = 0 then if (f6_isSign μ ν 45) = 0 then some (x1, μ, ν) else f6_added1_2 (f6_added1_1 n) μ ν x1 else f6_added1_2 (f6_added1_1 n) μ ν x1
def f6_added1 (μ : Mem) (ν : Lem) : Option (Int32 × Mem × Lem) :=
  bd3 (f6_term1 μ ν) (fun r1 μ1 ν1 => f6_added1_1 FUEL μ1 ν1 r1)
def f6_not1_2 (μ : Mem) (ν : Lem) (x1 : Int32) (t0 : Int32) : Option (Int32 × Mem × Lem) :=
  bd2 (f6_next μ ν) (fun μ95 ν95 => bd3 (f6_added1 μ95 ν95) (fun r99 μ99 ν99 => if t0 = 0 then if x1 = r99 then some (1, μ99, ν99) else some (0, μ99, ν99) else if r99 ≤ x1 then some (0, μ99, ν99) else some (1, μ99, ν99)))
def f6_not1_1 (μ : Mem) (ν : Lem) (x1 : Int32) : Option (Int32 × Mem × Lem) :=
  if (lg_cmp (ν 0 25) (60 : Int64)) = 0 then f6_not1_2 μ ν x1 1 else f6_not1_2 μ ν x1 0
def f6_not1 (μ : Mem) (ν : Lem) : Option (Int32 × Mem × Lem) :=
  bd1 (f6_isWord μ ν 110 111 116 0 0 0 0 0) (fun r12 => if r12 = 0 then bd3 (f6_added1 μ ν) (fun r53 μ53 ν53 => if (f6_isSign μ53 ν53 60) = 0 then if (f6_isSign μ53 ν53 61) = 0 then some (r53, μ53, ν53) else f6_not1_1 μ53 ν53 r53 else f6_not1_1 μ53 ν53 r53) else bd3 (f6_opens μ ν) (fun r19 μ19 ν19 => if r19 = 0 then some (0, μ19, ν19) else bd3 (f6_not2 μ19 ν19) (fun r28 μ28 ν28 => nm (up μ28 0 26 ((μ28 0 26) - 1)) (fun μ39 => if r28 = 0 then some (1, μ39, ν28) else some (0, μ39, ν28)))))
def f6_both1_1 (n : Nat) (μ : Mem) (ν : Lem) (x1 : Int32) : Option (Int32 × Mem × Lem) :=
  match n with
  | 0 => none
  | n + 1 => bd1 (f6_isWord μ ν 97 110 100 0 0 0 0 0) (fun r17 => if r17 = 0 then some (x1, μ, ν) else bd2 (f6_next μ ν) (fun μ24 ν24 => bd3 (f6_not1 μ24 ν24) (fun r28 μ28 ν28 => if x1 = 0 then f6_both1_1 n μ28 ν28 0 else if r28 = 0 then f6_both1_1 n μ28 ν28 0 else f6_both1_1 n μ28 ν28 1)))
def f6_both1 (μ : Mem) (ν : Lem) : Option (Int32 × Mem × Lem) :=
  bd3 (f6_not1 μ ν) (fun r1 μ1 ν1 => f6_both1_1 FUEL μ1 ν1 r1)
def f6_either1_1 (n : Nat) (μ : Mem) (ν : Lem) (x1 : Int32) : Option (Int32 × Mem × Lem) :=
  match n with
  | 0 => none
  | n + 1 => bd1 (f6_isWord μ ν 111 114 0 0 0 0 0 0) (fun r16 => if r16 = 0 then some (x1, μ, ν) else bd2 (f6_next μ ν) (fun μ23 ν23 => bd3 (f6_both1 μ23 ν23) (fun r27 μ27 ν27 => if x1 = 0 then if r27 = 0 then f6_either1_1 n μ27 ν27 0 else f6_either1_1 n μ27 ν27 1 else f6_either1_1 n μ27 ν27 1)))
def f6_either1 (μ : Mem) (ν : Lem) : Option (Int32 × Mem × Lem) :=
  bd3 (f6_both1 μ ν) (fun r1 μ1 ν1 => f6_either1_1 FUEL μ1 ν1 r1)
def f6_atom0_3 (μ : Mem) (ν : Lem) (x1 : Int32) : Option (Int32 × Mem × Lem) :=
  pr2 (f6_fail μ ν) (fun μ158 ν158 => some (x1, μ158, ν158))
def f6_atom0_2 (μ : Mem) (ν : Lem) (x1 : Int32) : Option (Int32 × Mem × Lem) :=
  if (μ 0 27) = 0 then if (μ 0 23) = 1 then bd3 (f6_name μ ν) (fun r139 μ139 ν139 => if (μ139 0 27) = 0 then bd2 (f6_next μ139 ν139) (fun μ151 ν151 => some (r139, μ151, ν151)) else some (r139, μ139, ν139)) else f6_atom0_3 μ ν x1 else f6_atom0_3 μ ν x1
def f6_atom0_1 (μ : Mem) (ν : Lem) (x1 : Int32) : Option (Int32 × Mem × Lem) :=
  nm (up μ 0 26 ((μ 0 26) - 1)) (fun μ78 => if (μ78 0 27) = 0 then bd2 (f6_next μ78 ν) (fun μ89 ν89 => some (x1, μ89, ν89)) else some (x1, μ78, ν))
def f6_atom0 (μ : Mem) (ν : Lem) : Option (Int32 × Mem × Lem) :=
  if (f6_isSign μ ν 45) = 0 then if (f6_isSign μ ν 40) = 0 then if (μ 0 27) = 0 then if (μ 0 23) = 2 then nm ((ν 0 25).toInt32) (fun v115 => bd2 (f6_next μ ν) (fun μ117 ν117 => some (v115, μ117, ν117))) else f6_atom0_2 μ ν 0 else f6_atom0_2 μ ν 0 else bd3 (f6_opens μ ν) (fun r47 μ47 ν47 => if r47 = 0 then some (0, μ47, ν47) else bd3 (f6_either1 μ47 ν47) (fun r54 μ54 ν54 => if (f6_isSign μ54 ν54 41) = 0 then pr2 (f6_fail μ54 ν54) (fun μ68 ν68 => f6_atom0_1 μ68 ν68 r54) else f6_atom0_1 μ54 ν54 r54)) else bd3 (f6_opens μ ν) (fun r12 μ12 ν12 => if r12 = 0 then some (0, μ12, ν12) else bd3 (f6_atom1 μ12 ν12) (fun r19 μ19 ν19 => nm (-r19) (fun v23 => nm (up μ19 0 26 ((μ19 0 26) - 1)) (fun μ31 => some (v23, μ31, ν19)))))
def f6_term0_1 (n : Nat) (μ : Mem) (ν : Lem) (x1 : Int32) : Option (Int32 × Mem × Lem) :=
  match n with
  | 0 => none
  | n + 1 => if (f6_isSign μ ν 42) = 0 then some (x1, μ, ν) else bd2 (f6_next μ ν) (fun μ15 ν15 => bd3 (f6_atom0 μ15 ν15) (fun r20 μ20 ν20 => nm (x1 * r20) (fun v24 => f6_term0_1 n μ20 ν20 v24)))
def f6_term0 (μ : Mem) (ν : Lem) : Option (Int32 × Mem × Lem) :=
  bd3 (f6_atom0 μ ν) (fun r1 μ1 ν1 => f6_term0_1 FUEL μ1 ν1 r1)
def f6_added0_3 (K5 : Mem → Lem → Int32 → Option (Int32 × Mem × Lem)) (μ : Mem) (ν : Lem) (x1 : Int32) (t0 : Int32) : Option (Int32 × Mem × Lem) :=
  bd2 (f6_next μ ν) (fun μ41 ν41 => bd3 (f6_term0 μ41 ν41) (fun r45 μ45 ν45 => if t0 = 0 then nm (x1 - r45) (fun v62 => K5 μ45 ν45 v62) else nm (x1 + r45) (fun v62 => K5 μ45 ν45 v62)))
def f6_added0_2 (K5 : Mem → Lem → Int32 → Option (Int32 × Mem × Lem)) (μ : Mem) (ν : Lem) (x1 : Int32) : Option (Int32 × Mem × Lem) :=
  if (lg_cmp (ν 0 25) (43 : Int64)) = 0 then f6_added0_3 K5 μ ν x1 1 else f6_added0_3 K5 μ ν x1 0
def f6_added0_1 (n : Nat) (μ : Mem) (ν : Lem) (x1 : Int32) : Option (Int32 × Mem × Lem) :=
  match n with
  | 0 => none
  | n + 1 => if (f6_isSign μ ν 43) = 0 then if (f6_isSign μ ν 45) = 0 then some (x1, μ, ν) else f6_added0_2 (f6_added0_1 n) μ ν x1 else f6_added0_2 (f6_added0_1 n) μ ν x1
def f6_added0 (μ : Mem) (ν : Lem) : Option (Int32 × Mem × Lem) :=
  bd3 (f6_term0 μ ν) (fun r1 μ1 ν1 => f6_added0_1 FUEL μ1 ν1 r1)
def f6_not0_2 (μ : Mem) (ν : Lem) (x1 : Int32) (t0 : Int32) : Option (Int32 × Mem × Lem) :=
  bd2 (f6_next μ ν) (fun μ95 ν95 => bd3 (f6_added0 μ95 ν95) (fun r99 μ99 ν99 => if t0 = 0 then if x1 = r99 then some (1, μ99, ν99) else some (0, μ99, ν99) else if r99 ≤ x1 then some (0, μ99, ν99) else some (1, μ99, ν99)))
def f6_not0_1 (μ : Mem) (ν : Lem) (x1 : Int32) : Option (Int32 × Mem × Lem) :=
  if (lg_cmp (ν 0 25) (60 : Int64)) = 0 then f6_not0_2 μ ν x1 1 else f6_not0_2 μ ν x1 0
def f6_not0 (μ : Mem) (ν : Lem) : Option (Int32 × Mem × Lem) :=
  bd1 (f6_isWord μ ν 110 111 116 0 0 0 0 0) (fun r12 => if r12 = 0 then bd3 (f6_added0 μ ν) (fun r53 μ53 ν53 => if (f6_isSign μ53 ν53 60) = 0 then if (f6_isSign μ53 ν53 61) = 0 then some (r53, μ53, ν53) else f6_not0_1 μ53 ν53 r53 else f6_not0_1 μ53 ν53 r53) else bd3 (f6_opens μ ν) (fun r19 μ19 ν19 => if r19 = 0 then some (0, μ19, ν19) else bd3 (f6_not1 μ19 ν19) (fun r28 μ28 ν28 => nm (up μ28 0 26 ((μ28 0 26) - 1)) (fun μ39 => if r28 = 0 then some (1, μ39, ν28) else some (0, μ39, ν28)))))
def f6_both0_1 (n : Nat) (μ : Mem) (ν : Lem) (x1 : Int32) : Option (Int32 × Mem × Lem) :=
  match n with
  | 0 => none
  | n + 1 => bd1 (f6_isWord μ ν 97 110 100 0 0 0 0 0) (fun r17 => if r17 = 0 then some (x1, μ, ν) else bd2 (f6_next μ ν) (fun μ24 ν24 => bd3 (f6_not0 μ24 ν24) (fun r28 μ28 ν28 => if x1 = 0 then f6_both0_1 n μ28 ν28 0 else if r28 = 0 then f6_both0_1 n μ28 ν28 0 else f6_both0_1 n μ28 ν28 1)))
def f6_both0 (μ : Mem) (ν : Lem) : Option (Int32 × Mem × Lem) :=
  bd3 (f6_not0 μ ν) (fun r1 μ1 ν1 => f6_both0_1 FUEL μ1 ν1 r1)
def f6_either0_1 (n : Nat) (μ : Mem) (ν : Lem) (x1 : Int32) : Option (Int32 × Mem × Lem) :=
  match n with
  | 0 => none
  | n + 1 => bd1 (f6_isWord μ ν 111 114 0 0 0 0 0 0) (fun r16 => if r16 = 0 then some (x1, μ, ν) else bd2 (f6_next μ ν) (fun μ23 ν23 => bd3 (f6_both0 μ23 ν23) (fun r27 μ27 ν27 => if x1 = 0 then if r27 = 0 then f6_either0_1 n μ27 ν27 0 else f6_either0_1 n μ27 ν27 1 else f6_either0_1 n μ27 ν27 1)))
def f6_either0 (μ : Mem) (ν : Lem) : Option (Int32 × Mem × Lem) :=
  bd3 (f6_both0 μ ν) (fun r1 μ1 ν1 => f6_either0_1 FUEL μ1 ν1 r1)
def f6_part_4 (μ : Mem) (ν : Lem) (x2 : Int32) : Option (Int32 × Mem × Lem) :=
  if (μ 0 27) = 0 then bd2 (f6_next μ ν) (fun μ56 ν56 => some (x2, μ56, ν56)) else some (x2, μ, ν)
def f6_part_3 (μ : Mem) (ν : Lem) (t0 : Int32) : Option (Int32 × Mem × Lem) :=
  if (f6_isSign μ ν 59) = 0 then pr2 (f6_fail μ ν) (fun μ45 ν45 => f6_part_4 μ45 ν45 t0) else f6_part_4 μ ν t0
def f6_part_2 (μ : Mem) (ν : Lem) : Option (Int32 × Mem × Lem) :=
  if (μ 0 27) = 0 then bd3 (f6_either0 μ ν) (fun r31 μ31 ν31 => f6_part_3 μ31 ν31 r31) else f6_part_3 μ ν 0
def f6_part_1 (μ : Mem) (ν : Lem) : Option (Int32 × Mem × Lem) :=
  if (μ 0 27) = 0 then bd2 (f6_next μ ν) (fun μ16 ν16 => f6_part_2 μ16 ν16) else f6_part_2 μ ν
def f6_part (μ : Mem) (ν : Lem) (x1 : Int32) : Option (Int32 × Mem × Lem) :=
  if x1 = 0 then pr2 (f6_fail μ ν) (fun μ5 ν5 => f6_part_1 μ5 ν5) else f6_part_1 μ ν
def f6_read_3 (μ : Mem) (ν : Lem) (x2 : Int32) (x3 : Int32) (x4 : Int32) (x5 : Int32) : Option (Int32 × Mem × Lem) :=
  if x2 = 0 then some (x3, μ, ν) else if x2 = 1 then some (x4, μ, ν) else some (x5, μ, ν)
def f6_read_2 (μ : Mem) (ν : Lem) (x2 : Int32) (x3 : Int32) (x4 : Int32) (t0 : Int32) : Option (Int32 × Mem × Lem) :=
  if (μ 0 27) = 0 then if (μ 0 23) = 0 then f6_read_3 μ ν x2 x3 x4 t0 else pr2 (f6_fail μ ν) (fun μ140 ν140 => f6_read_3 μ140 ν140 x2 x3 x4 t0) else f6_read_3 μ ν x2 x3 x4 t0
def f6_read_1 (μ : Mem) (ν : Lem) (x2 : Int32) (x3 : Int32) (t0 : Int32) : Option (Int32 × Mem × Lem) :=
  if (μ 0 27) = 0 then bd1 (f6_isWord μ ν 119 111 114 116 104 0 0 0) (fun r117 => bd3 (f6_part μ ν r117) (fun r120 μ120 ν120 => f6_read_2 μ120 ν120 x2 x3 t0 r120)) else f6_read_2 μ ν x2 x3 t0 0
def f6_read (μ : Mem) (ν : Lem) (x1 : Int32) (x2 : Int32) : Option (Int32 × Mem × Lem) :=
  nm (up μ 0 20 (160 * x1)) (fun μ6 => gd (inb x1 6) (nm (up μ6 0 21 (μ6 2 x1.toNatClampNeg)) (fun μ16 => nm (up μ16 0 22 0) (fun μ21 => nm (up μ21 0 26 0) (fun μ26 => nm (up μ26 0 27 0) (fun μ31 => bd2 (f6_next μ31 ν) (fun μ35 ν35 => bd1 (f6_isWord μ35 ν35 110 101 97 114 0 0 0 0) (fun r52 => bd3 (f6_part μ35 ν35 r52) (fun r55 μ55 ν55 => if (μ55 0 27) = 0 then bd1 (f6_isWord μ55 ν55 111 102 102 0 0 0 0 0) (fun r83 => bd3 (f6_part μ55 ν55 r83) (fun r86 μ86 ν86 => f6_read_1 μ86 ν86 x2 r55 r86)) else f6_read_1 μ55 ν55 x2 r55 0)))))))))
def f6_text_1 (n : Nat) (μ : Mem) (ν : Lem) (x1 : Int32) : Option (Int32 × Mem × Lem) :=
  match n with
  | 0 => none
  | n + 1 => if (μ 0 6) ≤ x1 then gd (inb (μ 0 3) 6) (nm (up μ 2 (μ 0 3).toNatClampNeg (μ 0 6)) (fun μ61 => nm (up μ61 0 6 0) (fun μ64 => bd3 (f6_read μ64 ν (μ64 0 3) 0) (fun r73 μ73 ν73 => if (μ73 0 27) = 0 then nm (up μ73 0 3 ((μ73 0 3) + 1)) (fun μ99 => some ((μ99 0 3) - 1, μ99, ν73)) else some ((-100) - (μ73 0 28), μ73, ν73))))) else gd (inb x1 160) (gd (inb ((160 * (μ 0 3)) + x1) 960) (nm (up μ 1 ((160 * (μ 0 3)) + x1).toNatClampNeg (μ 3 x1.toNatClampNeg)) (fun μ42 => nm (x1 + 1) (fun v43 => f6_text_1 n μ42 ν v43))))
def f6_text (μ : Mem) (ν : Lem) : Option (Int32 × Mem × Lem) :=
  if (μ 0 3) = 6 then some ((-4), μ, ν) else f6_text_1 FUEL μ ν 0
def f6_force (μ : Mem) (ν : Lem) (x1 : Int32) : Int32 × Mem × Lem :=
  if (f6_in (x1.toInt64) (0 : Int64) (((μ 0 3) - 1).toInt64)) = 0 then ((-2), μ, ν) else nm (μ 0 4) (fun v23 => nm (up μ 0 4 x1) (fun μ26 => (v23, μ26, ν)))
def f6_says_1 (μ : Mem) (ν : Lem) (x1 : Int32) (x2 : Int32) (t1 : Int32) : Option (Int32 × Mem × Lem) :=
  nm (up μ 0 17 t1) (fun μ53 => nm (up μ53 0 18 (μ53 0 7)) (fun μ61 => gd (inb x2 7) (nm (up μ61 0 19 (μ61 8 x2.toNatClampNeg)) (fun μ71 => bd3 (f6_read μ71 ν (μ71 0 4) x1) (fun r80 μ80 ν80 => if x1 = 0 then some ((f6_within r80 0 9999), μ80, ν80) else if x1 = 1 then some ((f6_within r80 (-60) 60), μ80, ν80) else some ((f6_within r80 0 99), μ80, ν80))))))
def f6_says (μ : Mem) (ν : Lem) (x1 : Int32) (x2 : Int32) (x3 : Int32) : Option (Int32 × Mem × Lem) :=
  bd1 (f6_where μ ν x2 x3) (fun r3 => nm (up μ 0 14 x3) (fun μ10 => nm (up μ10 0 15 (r3 / 1000)) (fun μ20 => nm (up μ20 0 16 x2) (fun μ25 => if x3 = 0 then f6_says_1 μ25 ν x1 x2 0 else bd1 (f6_where μ25 ν x2 (x3 - 1)) (fun r44 => f6_says_1 μ25 ν x1 x2 ((f6_plain ((r3 - r44).toInt64)).toInt32))))))
def f6_at (μ : Mem) (ν : Lem) (x1 : Int32) (x2 : Int32) : Option (Int32) :=
  if (f6_isWay μ ν x1) = 0 then some (-2) else if (f6_isMinute x2) = 0 then some (-2) else bd1 (f6_where μ ν x1 x2) (fun r18 => some r18)
def f6_asks (μ : Mem) (ν : Lem) (x1 : Int32) (x2 : Int32) (x3 : Int32) : Option (Int32 × Mem × Lem) :=
  if (f6_in (x1.toInt64) (0 : Int64) (2 : Int64)) = 0 then some ((-1000), μ, ν) else if (f6_isWay μ ν x2) = 0 then some ((-1000), μ, ν) else if (f6_isMinute x3) = 0 then some ((-1000), μ, ν) else bd3 (f6_says μ ν x1 x2 x3) (fun r31 μ31 ν31 => some (r31, μ31, ν31))
def f6_walks_1 (n : Nat) (μ : Mem) (ν : Lem) (x1 : Int32) (x2 : Int32) (x3 : Int32) : Option (Mem × Lem) :=
  match n with
  | 0 => none
  | n + 1 => if 601 ≤ x3 then some (μ, ν) else bd1 (f6_where μ ν x1 x3) (fun r26 => gd (inb (x3 - 1) 601) (gd (inb x3 601) (nm (upL ν 9 x3.toNatClampNeg ((ν 9 (x3 - 1).toNatClampNeg) + (f6_plain ((r26 - x2).toInt64)))) (fun ν53 => nm (x3 + 1) (fun v57 => f6_walks_1 n μ ν53 x1 r26 v57)))))
def f6_walks (μ : Mem) (ν : Lem) (x1 : Int32) : Option (Mem × Lem) :=
  gd (inb 0 601) (nm (upL ν 9 (0 : Int32).toNatClampNeg (0 : Int64)) (fun ν6 => bd1 (f6_where μ ν6 x1 0) (fun r10 => f6_walks_1 FUEL μ ν6 x1 r10 1)))
def f6_length (μ : Mem) (ν : Lem) (x1 : Int32) (x2 : Int32) (x3 : Int32) : Option (Int32 × Mem × Lem) :=
  if (f6_isWay μ ν x1) = 0 then some ((-2), μ, ν) else if (f6_isMinute x2) = 0 then some ((-2), μ, ν) else if (f6_isMinute x3) = 0 then some ((-2), μ, ν) else if x2 ≤ x3 then bd2 (f6_walks μ ν x1) (fun μ32 ν32 => gd (inb x3 601) (gd (inb x2 601) (some (((ν32 9 x3.toNatClampNeg) - (ν32 9 x2.toNatClampNeg)).toInt32, μ32, ν32)))) else some ((-2), μ, ν)
def f6_more (μ : Mem) (ν : Lem) (x1 : Int32) (x2 : Int32) : Option (Int64) :=
  gd (inb (x1 + x2) 601) (gd (inb x1 601) (gd (inb 600 601) (some (((600 : Int64) * ((ν 9 (x1 + x2).toNatClampNeg) - (ν 9 x1.toNatClampNeg))) - ((x2.toInt64) * (ν 9 (600 : Int32).toNatClampNeg))))))
def f6_areUnlike_1 (x0 : Int64) (x2 : Int64) : Int32 :=
  if 0 ≤ (lg_cmp x0 (0 : Int64)) then 0 else if (lg_cmp x2 (0 : Int64)) ≤ 0 then 0 else 1
def f6_areUnlike (x0 : Int64) (x2 : Int64) : Int32 :=
  if (lg_cmp x0 (0 : Int64)) ≤ 0 then f6_areUnlike_1 x0 x2 else if (lg_cmp x2 (0 : Int64)) < 0 then 1 else f6_areUnlike_1 x0 x2
def f6_mean_1 (n : Nat) (μ : Mem) (ν : Lem) (x2 : Int32) (x3 : Int32) : Option (Int32 × Mem × Lem) :=
  match n with
  | 0 => none
  | n + 1 => if (600 - x2) < x3 then some ((-1), μ, ν) else bd1 (f6_more μ ν x3 x2) (fun r42 => if (lg_cmp r42 (0 : Int64)) = 0 then some (x3, μ, ν) else if (600 - x2) ≤ x3 then nm (x3 + 1) (fun v81 => f6_mean_1 n μ ν x2 v81) else bd1 (f6_more μ ν x3 x2) (fun r62 => bd1 (f6_more μ ν (x3 + 1) x2) (fun r70 => if (f6_areUnlike r62 r70) = 0 then nm (x3 + 1) (fun v81 => f6_mean_1 n μ ν x2 v81) else some (x3, μ, ν))))
def f6_mean (μ : Mem) (ν : Lem) (x1 : Int32) (x2 : Int32) : Option (Int32 × Mem × Lem) :=
  if (f6_isWay μ ν x1) = 0 then some ((-2), μ, ν) else if (f6_in (x2.toInt64) (1 : Int64) (300 : Int64)) = 0 then some ((-2), μ, ν) else bd2 (f6_walks μ ν x1) (fun μ25 ν25 => f6_mean_1 FUEL μ25 ν25 x2 0)
def f6_half_2 (n : Nat) (μ : Mem) (ν : Lem) (x1 : Int32) (x2 : Int32) (x3 : Int32) (x4 : Int32) (x5 : Int32) : Option (Int32 × Mem × Lem) :=
  match n with
  | 0 => none
  | n + 1 => if 601 ≤ x5 then if x2 = 1 then some (x3, μ, ν) else some (x4, μ, ν) else bd3 (f6_says μ ν 2 x1 x5) (fun r85 μ85 ν85 => if r85 ≤ x4 then nm (x5 + 1) (fun v104 => f6_half_2 n μ85 ν85 x1 x2 x3 x4 v104) else nm (x5 + 1) (fun v104 => f6_half_2 n μ85 ν85 x1 x2 x5 r85 v104))
def f6_half_1 (n : Nat) (μ : Mem) (ν : Lem) (x3 : Int32) : Option (Int32 × Mem × Lem) :=
  match n with
  | 0 => none
  | n + 1 => gd (inb x3 601) (gd (inb 600 601) (if 0 ≤ (lg_cmp ((2 : Int64) * (ν 9 x3.toNatClampNeg)) (ν 9 (600 : Int32).toNatClampNeg)) then some (x3, μ, ν) else nm (x3 + 1) (fun v56 => f6_half_1 n μ ν v56)))
def f6_half (μ : Mem) (ν : Lem) (x1 : Int32) (x2 : Int32) : Option (Int32 × Mem × Lem) :=
  if (f6_isWay μ ν x1) = 0 then some ((-2), μ, ν) else if (f6_in (x2.toInt64) (0 : Int64) (2 : Int64)) = 0 then some ((-2), μ, ν) else if x2 = 0 then bd2 (f6_walks μ ν x1) (fun μ29 ν29 => f6_half_1 FUEL μ29 ν29 0) else f6_half_2 FUEL μ ν x1 x2 0 (-1) 0
def f6_lays_1 (n : Nat) (μ : Mem) (ν : Lem) (x1 : Int32) (x2 : Int32) (x3 : Int32) : Option (Mem × Lem) :=
  match n with
  | 0 => none
  | n + 1 => if 601 ≤ x3 then some (μ, ν) else bd1 (f6_where μ ν x1 x3) (fun r17 => gd (inb x3 601) (nm (up μ 10 x3.toNatClampNeg r17) (fun μ20 => bd1 (f6_where μ20 ν x2 x3) (fun r29 => gd (inb x3 601) (nm (up μ20 11 x3.toNatClampNeg r29) (fun μ32 => nm (x3 + 1) (fun v33 => f6_lays_1 n μ32 ν x1 x2 v33)))))))
def f6_lays (μ : Mem) (ν : Lem) (x1 : Int32) (x2 : Int32) : Option (Mem × Lem) :=
  f6_lays_1 FUEL μ ν x1 x2 0
def f6_apartAt (μ : Mem) (ν : Lem) (x1 : Int32) (x2 : Int32) : Option (Int32) :=
  if x2 ≤ x1 then gd (inb (x1 - x2) 601) (gd (inb x1 601) (some ((μ 10 (x1 - x2).toNatClampNeg) - (μ 11 x1.toNatClampNeg)))) else gd (inb 0 601) (gd (inb x1 601) (some ((μ 10 (0 : Int32).toNatClampNeg) - (μ 11 x1.toNatClampNeg))))
def f6_doMeet (μ : Mem) (ν : Lem) (x1 : Int32) (x2 : Int32) : Option (Int32) :=
  bd1 (f6_apartAt μ ν x1 x2) (fun r3 => if r3 = 0 then some 1 else if 600 ≤ x1 then some 0 else bd1 (f6_apartAt μ ν (x1 + 1) x2) (fun r25 => if (f6_areUnlike (r3.toInt64) (r25.toInt64)) = 0 then some 0 else some 1))
def f6_firstMeet_1 (μ : Mem) (ν : Lem) (n : Nat) (x1 : Int32) (x2 : Int32) : Option (Int32) :=
  match n with
  | 0 => none
  | n + 1 => if 601 ≤ x2 then some (-1) else bd1 (f6_doMeet μ ν x2 x1) (fun r12 => if r12 = 0 then nm (x2 + 1) (fun v20 => f6_firstMeet_1 μ ν n x1 v20) else some x2)
def f6_firstMeet (μ : Mem) (ν : Lem) (x1 : Int32) : Option (Int32) :=
  f6_firstMeet_1 μ ν FUEL x1 0
def f6_meet_1 (n : Nat) (μ : Mem) (ν : Lem) (x3 : Int32) (x4 : Int32) (x5 : Int32) (x6 : Int32) : Option (Int32 × Mem × Lem) :=
  match n with
  | 0 => none
  | n + 1 => if 601 ≤ x6 then if x3 = 0 then some (x4, μ, ν) else if x3 = 1 then bd1 (f6_firstMeet μ ν 0) (fun r86 => some (r86, μ, ν)) else if x3 = 2 then some (x5, μ, ν) else some (jrem x4 2, μ, ν) else bd1 (f6_doMeet μ ν x6 0) (fun r51 => if r51 = 0 then nm (x6 + 1) (fun v64 => f6_meet_1 n μ ν x3 x4 x5 v64) else nm (x4 + 1) (fun v57 => nm (x6 + 1) (fun v64 => f6_meet_1 n μ ν x3 v57 x6 v64)))
def f6_meet (μ : Mem) (ν : Lem) (x1 : Int32) (x2 : Int32) (x3 : Int32) : Option (Int32 × Mem × Lem) :=
  if (f6_areTwo μ ν x1 x2) = 0 then some ((-2), μ, ν) else if (f6_in (x3.toInt64) (0 : Int64) (3 : Int64)) = 0 then some ((-2), μ, ν) else bd2 (f6_lays μ ν x1 x2) (fun μ27 ν27 => f6_meet_1 FUEL μ27 ν27 x3 0 (-1) 0)
def f6_lowest_1 (n : Nat) (x0 : Int64) (x2 : Int64) (x4 : Int32) (x5 : Int64) (x7 : Int64) : Option (Int64) :=
  match n with
  | 0 => none
  | n + 1 => if (lg_cmp x7 (0 : Int64)) = 0 then if x4 = 0 then gd (¬ x5 = 0) (some (x0 / x5)) else gd (¬ x5 = 0) (some (x2 / x5)) else gd (¬ x7 = 0) (nm (jremL x5 x7) (fun v18 => f6_lowest_1 n x0 x2 x4 x7 v18))
def f6_lowest (x0 : Int64) (x2 : Int64) (x4 : Int32) : Option (Int64) :=
  f6_lowest_1 FUEL x0 x2 x4 x0 x2
def f6_when (μ : Mem) (ν : Lem) (x1 : Int32) (x2 : Int32) (x3 : Int32) : Option (Int64 × Mem × Lem) :=
  if (f6_areTwo μ ν x1 x2) = 0 then some ((-4611686018427387904 : Int64), μ, ν) else if (f6_in (x3.toInt64) (0 : Int64) (1 : Int64)) = 0 then some ((-4611686018427387904 : Int64), μ, ν) else bd2 (f6_lays μ ν x1 x2) (fun μ26 ν26 => bd1 (f6_firstMeet μ26 ν26 0) (fun r31 => if r31 = (-1) then some ((-4611686018427387904 : Int64), μ26, ν26) else bd1 (f6_apartAt μ26 ν26 r31 0) (fun r50 => nm (f6_plain (r50.toInt64)) (fun v57 => if (lg_cmp v57 (0 : Int64)) = 0 then if x3 = 0 then some (r31.toInt64, μ26, ν26) else some ((1 : Int64), μ26, ν26) else bd1 (f6_apartAt μ26 ν26 (r31 + 1) 0) (fun r86 => nm (v57 + (f6_plain (r86.toInt64))) (fun v94 => bd1 (f6_lowest (((r31.toInt64) * v94) + v57) v94 x3) (fun r108 => some (r108, μ26, ν26))))))))
def f6_sure_1 (n : Nat) (μ : Mem) (ν : Lem) (x3 : Int32) : Option (Int32 × Mem × Lem) :=
  match n with
  | 0 => none
  | n + 1 => if 120 ≤ x3 then some (x3, μ, ν) else bd1 (f6_firstMeet μ ν (x3 + 1)) (fun r30 => if r30 = (-1) then some (x3, μ, ν) else nm (x3 + 1) (fun v37 => f6_sure_1 n μ ν v37))
def f6_sure (μ : Mem) (ν : Lem) (x1 : Int32) (x2 : Int32) : Option (Int32 × Mem × Lem) :=
  if (f6_areTwo μ ν x1 x2) = 0 then some ((-2), μ, ν) else bd2 (f6_lays μ ν x1 x2) (fun μ15 ν15 => f6_sure_1 FUEL μ15 ν15 (-1))
def f6_apart_2 (K42 : Mem → Lem → Int32 → Int32 → Int32 → Int32 → Int32 → Int32 → Option (Int32 × Mem × Lem)) (μ : Mem) (ν : Lem) (x1 : Int32) (x3 : Int32) (x4 : Int32) (x5 : Int32) (x6 : Int32) (x7 : Int32) (x8 : Int32) : Option (Int32 × Mem × Lem) :=
  if x3 = 2 then bd3 (f6_says μ ν 0 x1 x7) (fun r91 μ91 ν91 => if r91 < x8 then nm (x7 + 1) (fun v100 => K42 μ91 ν91 x1 x3 x4 x5 x6 v100) else nm (x6 + 1) (fun v97 => nm (x7 + 1) (fun v100 => K42 μ91 ν91 x1 x3 x4 x5 v97 v100))) else nm (x7 + 1) (fun v100 => K42 μ ν x1 x3 x4 x5 x6 v100)
def f6_apart_1 (n : Nat) (μ : Mem) (ν : Lem) (x1 : Int32) (x3 : Int32) (x4 : Int32) (x5 : Int32) (x6 : Int32) (x7 : Int32) : Option (Int32 × Mem × Lem) :=
  match n with
  | 0 => none
  | n + 1 => if 601 ≤ x7 then if x3 = 0 then some (x4, μ, ν) else if x3 = 1 then some (x5, μ, ν) else some (x6, μ, ν) else bd1 (f6_apartAt μ ν x7 0) (fun r54 => nm ((f6_plain (r54.toInt64)).toInt32) (fun v62 => if v62 ≤ x4 then f6_apart_2 (f6_apart_1 n) μ ν x1 x3 x4 x5 x6 x7 v62 else f6_apart_2 (f6_apart_1 n) μ ν x1 x3 v62 x7 x6 x7 v62))
def f6_apart (μ : Mem) (ν : Lem) (x1 : Int32) (x2 : Int32) (x3 : Int32) : Option (Int32 × Mem × Lem) :=
  if (f6_areTwo μ ν x1 x2) = 0 then some ((-2), μ, ν) else if (f6_in (x3.toInt64) (0 : Int64) (2 : Int64)) = 0 then some ((-2), μ, ν) else bd2 (f6_lays μ ν x1 x2) (fun μ27 ν27 => f6_apart_1 FUEL μ27 ν27 x1 x3 (-1) 0 0 0)
def f6_isSheet (x0 : Int32) : Int32 :=
  (f6_in (x0.toInt64) (0 : Int64) (3 : Int64))
def f6_notesBad_1 (μ : Mem) (ν : Lem) (n : Nat) (x1 : Int32) (x2 : Int32) : Option (Int32) :=
  match n with
  | 0 => none
  | n + 1 => gd (inb x1 4) (if (μ 19 x1.toNatClampNeg) ≤ x2 then some 0 else gd (inb ((40 * x1) + x2) 160) (if (f6_isMinute (μ 20 ((40 * x1) + x2).toNatClampNeg)) = 0 then some (-2) else nm (x2 + 3) (fun v68 => f6_notesBad_1 μ ν n x1 v68)))
def f6_notesBad (μ : Mem) (ν : Lem) (x1 : Int32) : Option (Int32) :=
  if (f6_isSheet x1) = 0 then some (-2) else gd (inb x1 4) (if (μ 17 x1.toNatClampNeg) = 0 then some (-11) else gd (inb x1 4) (if (jrem (μ 19 x1.toNatClampNeg) 3) = 0 then f6_notesBad_1 μ ν FUEL x1 0 else some (-2)))
def f6_isSo_2 (K3 : Mem → Lem → Int32 → Int32 → Int32 → Int32 → Option (Int32 × Mem × Lem)) (μ : Mem) (ν : Lem) (x1 : Int32) (x2 : Int32) (x3 : Int32) (x4 : Int32) (t0 : Int32) (t1 : Int32) : Option (Int32 × Mem × Lem) :=
  nm (f6_within (t0 + t1) 0 600) (fun v56 => bd1 (f6_where μ ν x2 v56) (fun r62 => gd (inb (((40 * x1) + x4) + 1) 160) (gd (inb (((40 * x1) + x4) + 2) 160) (if (lg_cmp (f6_plain ((r62.toInt64) - ((1000 : Int64) * ((μ 20 (((40 * x1) + x4) + 1).toNatClampNeg).toInt64)))) ((μ 20 (((40 * x1) + x4) + 2).toNatClampNeg).toInt64)) ≤ 0 then nm (x4 + 3) (fun v110 => K3 μ ν x1 x2 x3 v110) else some (0, μ, ν)))))
def f6_isSo_1 (n : Nat) (μ : Mem) (ν : Lem) (x1 : Int32) (x2 : Int32) (x3 : Int32) (x4 : Int32) : Option (Int32 × Mem × Lem) :=
  match n with
  | 0 => none
  | n + 1 => gd (inb x1 4) (if (μ 19 x1.toNatClampNeg) ≤ x4 then some (1, μ, ν) else gd (inb ((40 * x1) + x4) 160) (nm (μ 20 ((40 * x1) + x4).toNatClampNeg) (fun v26 => if x3 = 99 then bd3 (f6_says μ ν 1 x2 v26) (fun r41 μ41 ν41 => f6_isSo_2 (f6_isSo_1 n) μ41 ν41 x1 x2 x3 x4 v26 r41) else f6_isSo_2 (f6_isSo_1 n) μ ν x1 x2 x3 x4 v26 x3)))
def f6_isSo (μ : Mem) (ν : Lem) (x1 : Int32) (x2 : Int32) (x3 : Int32) : Option (Int32 × Mem × Lem) :=
  f6_isSo_1 FUEL μ ν x1 x2 x3 0
def f6_fits_1 (n : Nat) (μ : Mem) (ν : Lem) (x1 : Int32) (x3 : Int32) (x4 : Int32) : Option (Int32 × Mem × Lem) :=
  match n with
  | 0 => none
  | n + 1 => if (μ 0 13) ≤ x4 then some (x3, μ, ν) else bd3 (f6_isSo μ ν x1 x4 99) (fun r33 μ33 ν33 => if r33 = 0 then nm (x3 ||| (0 <<< (x4 &&& 31))) (fun v48 => nm (x4 + 1) (fun v49 => f6_fits_1 n μ33 ν33 x1 v48 v49)) else nm (x3 ||| (1 <<< (x4 &&& 31))) (fun v48 => nm (x4 + 1) (fun v49 => f6_fits_1 n μ33 ν33 x1 v48 v49)))
def f6_fits (μ : Mem) (ν : Lem) (x1 : Int32) : Option (Int32 × Mem × Lem) :=
  bd1 (f6_notesBad μ ν x1) (fun r2 => if r2 = 0 then f6_fits_1 FUEL μ ν x1 0 0 else some (r2, μ, ν))
def f6_wrong_3 (K40 : Mem → Lem → Int32 → Int32 → Int32 → Int32 → Int32 → Int32 → Option (Int32 × Mem × Lem)) (μ : Mem) (ν : Lem) (x1 : Int32) (x2 : Int32) (x3 : Int32) (x4 : Int32) (x5 : Int32) (x6 : Int32) : Option (Int32 × Mem × Lem) :=
  if x6 ≤ 0 then nm (x6 + 1) (fun v114 => K40 μ ν x1 x2 x3 x4 x5 v114) else bd3 (f6_isSo μ ν x1 x2 x6) (fun r89 μ89 ν89 => if r89 = 0 then nm (x6 + 1) (fun v114 => K40 μ89 ν89 x1 x2 x3 x4 x5 v114) else nm (x4 + 1) (fun v95 => if x5 = 99 then nm (x6 + 1) (fun v114 => K40 μ89 ν89 x1 x2 x3 v95 x6 v114) else nm (x6 + 1) (fun v114 => K40 μ89 ν89 x1 x2 x3 v95 x5 v114)))
def f6_wrong_2 (K40 : Mem → Lem → Int32 → Int32 → Int32 → Int32 → Int32 → Int32 → Option (Int32 × Mem × Lem)) (μ : Mem) (ν : Lem) (x1 : Int32) (x2 : Int32) (x3 : Int32) (x4 : Int32) (x6 : Int32) (t0 : Int32) : Option (Int32 × Mem × Lem) :=
  f6_wrong_3 K40 μ ν x1 x2 x3 x4 t0 x6
def f6_wrong_1 (n : Nat) (μ : Mem) (ν : Lem) (x1 : Int32) (x2 : Int32) (x3 : Int32) (x4 : Int32) (x5 : Int32) (x6 : Int32) : Option (Int32 × Mem × Lem) :=
  match n with
  | 0 => none
  | n + 1 => if 61 ≤ x6 then if x3 = 0 then some (x4, μ, ν) else some (x5, μ, ν) else bd3 (f6_isSo μ ν x1 x2 (-x6)) (fun r53 μ53 ν53 => if r53 = 0 then f6_wrong_3 (f6_wrong_1 n) μ53 ν53 x1 x2 x3 x4 x5 x6 else nm (x4 + 1) (fun v59 => if x5 = 99 then f6_wrong_2 (f6_wrong_1 n) μ53 ν53 x1 x2 x3 v59 x6 (-x6) else f6_wrong_2 (f6_wrong_1 n) μ53 ν53 x1 x2 x3 v59 x6 x5))
def f6_wrong (μ : Mem) (ν : Lem) (x1 : Int32) (x2 : Int32) (x3 : Int32) : Option (Int32 × Mem × Lem) :=
  bd1 (f6_notesBad μ ν x1) (fun r2 => if r2 = 0 then if (f6_isWay μ ν x2) = 0 then some ((-1000), μ, ν) else if (f6_in (x3.toInt64) (0 : Int64) (1 : Int64)) = 0 then some ((-1000), μ, ν) else f6_wrong_1 FUEL μ ν x1 x2 x3 0 99 0 else some ((-1000), μ, ν))
def f6_bitsOf_1 (n : Nat) (x1 : Int32) (x2 : Int32) : Option (Int32) :=
  match n with
  | 0 => none
  | n + 1 => if x2 = 0 then some x1 else nm (x1 + 1) (fun v8 => nm (x2 &&& (x2 - 1)) (fun v16 => f6_bitsOf_1 n v8 v16))
def f6_bitsOf (x0 : Int32) : Option (Int32) :=
  f6_bitsOf_1 FUEL 0 x0
def f6_partsAll_3 (μ : Mem) (ν : Lem) (K2 : Int32 → Int32 → Option (Int32)) (K14 : Int32 → Int32 → Int32 → Option (Int32)) (n : Nat) (x1 : Int32) (x2 : Int32) (x3 : Int32) (x4 : Int32) (x5 : Int32) : Option (Int32) :=
  match n with
  | 0 => none
  | n + 1 => if 11 ≤ x5 then if x4 = 0 then some 0 else nm (x3 + 1) (fun v97 => K14 x1 x2 v97) else if x4 = 0 then if ((x1 >>> (x5 &&& 31)) &&& 1) = 1 then gd (inb ((6 * x5) + x2) 66) (gd (inb ((6 * x5) + x3) 66) (if (μ 12 ((6 * x5) + x2).toNatClampNeg) = (μ 12 ((6 * x5) + x3).toNatClampNeg) then nm (x5 + 1) (fun v84 => f6_partsAll_3 μ ν K2 K14 n x1 x2 x3 0 v84) else nm (x5 + 1) (fun v84 => f6_partsAll_3 μ ν K2 K14 n x1 x2 x3 1 v84))) else nm (x5 + 1) (fun v84 => f6_partsAll_3 μ ν K2 K14 n x1 x2 x3 0 v84) else nm (x5 + 1) (fun v84 => f6_partsAll_3 μ ν K2 K14 n x1 x2 x3 1 v84)
def f6_partsAll_2 (μ : Mem) (ν : Lem) (K2 : Int32 → Int32 → Option (Int32)) (n : Nat) (x1 : Int32) (x2 : Int32) (x3 : Int32) : Option (Int32) :=
  match n with
  | 0 => none
  | n + 1 => if (μ 0 13) ≤ x3 then nm (x2 + 1) (fun v103 => K2 x1 v103) else f6_partsAll_3 μ ν K2 (f6_partsAll_2 μ ν K2 n) FUEL x1 x2 x3 0 0
def f6_partsAll_1 (μ : Mem) (ν : Lem) (n : Nat) (x1 : Int32) (x2 : Int32) : Option (Int32) :=
  match n with
  | 0 => none
  | n + 1 => if (μ 0 13) ≤ x2 then some 1 else nm (x2 + 1) (fun v13 => f6_partsAll_2 μ ν (f6_partsAll_1 μ ν n) FUEL x1 x2 v13)
def f6_partsAll (μ : Mem) (ν : Lem) (x1 : Int32) : Option (Int32) :=
  f6_partsAll_1 μ ν FUEL x1 0
def f6_posts_4 (K67 : Mem → Lem → Int32 → Int32 → Int32 → Option (Int32 × Mem × Lem)) (μ : Mem) (ν : Lem) (x1 : Int32) (x2 : Int32) (x3 : Int32) : Option (Int32 × Mem × Lem) :=
  bd1 (f6_partsAll μ ν x3) (fun r92 => if r92 = 0 then nm (x3 + 1) (fun v100 => K67 μ ν x1 x2 v100) else nm (x3 + 1) (fun v100 => K67 μ ν x1 x3 v100))
def f6_posts_3 (n : Nat) (μ : Mem) (ν : Lem) (x1 : Int32) (x2 : Int32) (x3 : Int32) : Option (Int32 × Mem × Lem) :=
  match n with
  | 0 => none
  | n + 1 => if 2048 ≤ x3 then if x1 = 0 then some (x2, μ, ν) else if x2 = (-1) then some (x2, μ, ν) else bd1 (f6_bitsOf x2) (fun r120 => some (r120, μ, ν)) else if x2 = (-1) then f6_posts_4 (f6_posts_3 n) μ ν x1 x2 x3 else bd1 (f6_bitsOf x3) (fun r80 => bd1 (f6_bitsOf x2) (fun r84 => if r84 ≤ r80 then nm (x3 + 1) (fun v100 => f6_posts_3 n μ ν x1 x2 v100) else f6_posts_4 (f6_posts_3 n) μ ν x1 x2 x3))
def f6_posts_2 (K15 : Mem → Lem → Int32 → Int32 → Option (Int32 × Mem × Lem)) (n : Nat) (μ : Mem) (ν : Lem) (x1 : Int32) (x2 : Int32) (x3 : Int32) : Option (Int32 × Mem × Lem) :=
  match n with
  | 0 => none
  | n + 1 => if (μ 0 13) ≤ x3 then nm (x2 + 1) (fun v57 => K15 μ ν x1 v57) else bd1 (f6_where μ ν x3 (60 * x2)) (fun r47 => gd (inb ((6 * x2) + x3) 66) (nm (up μ 12 ((6 * x2) + x3).toNatClampNeg r47) (fun μ50 => nm (x3 + 1) (fun v51 => f6_posts_2 K15 n μ50 ν x1 x2 v51))))
def f6_posts_1 (n : Nat) (μ : Mem) (ν : Lem) (x1 : Int32) (x2 : Int32) : Option (Int32 × Mem × Lem) :=
  match n with
  | 0 => none
  | n + 1 => if 11 ≤ x2 then f6_posts_3 FUEL μ ν x1 (-1) 0 else f6_posts_2 (f6_posts_1 n) FUEL μ ν x1 x2 0
def f6_posts (μ : Mem) (ν : Lem) (x1 : Int32) : Option (Int32 × Mem × Lem) :=
  if (f6_in (x1.toInt64) (0 : Int64) (1 : Int64)) = 0 then some ((-2), μ, ν) else f6_posts_1 FUEL μ ν x1 0
def f6_ringBad (μ : Mem) (ν : Lem) (x1 : Int32) : Option (Int32) :=
  if (f6_isSheet x1) = 0 then some (-2) else gd (inb x1 4) (if (μ 17 x1.toNatClampNeg) = 0 then some (-11) else gd (inb x1 4) (if (jrem (μ 19 x1.toNatClampNeg) 2) = 0 then some 0 else some (-2)))
def f6_ring (μ : Mem) (ν : Lem) (x1 : Int32) (x2 : Int32) : Option (Int32) :=
  gd (inb x1 4) (gd (¬ (μ 19 x1.toNatClampNeg) = 0) (gd (inb ((40 * x1) + (jrem x2 (μ 19 x1.toNatClampNeg))) 160) (some (μ 20 ((40 * x1) + (jrem x2 (μ 19 x1.toNatClampNeg))).toNatClampNeg))))
def f6_beads_3 (μ : Mem) (ν : Lem) (K60 : Int32 → Int32 → Int32 → Int32 → Option (Int32)) (n : Nat) (x1 : Int32) (x3 : Int32) (x4 : Int32) (x5 : Int32) (x6 : Int32) (x7 : Int32) : Option (Int32) :=
  match n with
  | 0 => none
  | n + 1 => if (x3 / 2) ≤ x7 then if x6 = (x4 / 2) then some x5 else nm (x5 + 1) (fun v121 => K60 x1 x3 x4 v121) else bd1 (f6_ring μ ν x1 (x5 + x7)) (fun r89 => if r89 = 0 then nm (x6 + 0) (fun v101 => nm (x7 + 1) (fun v103 => f6_beads_3 μ ν K60 n x1 x3 x4 x5 v101 v103)) else nm (x6 + 1) (fun v101 => nm (x7 + 1) (fun v103 => f6_beads_3 μ ν K60 n x1 x3 x4 x5 v101 v103)))
def f6_beads_2 (μ : Mem) (ν : Lem) (n : Nat) (x1 : Int32) (x3 : Int32) (x4 : Int32) (x5 : Int32) : Option (Int32) :=
  match n with
  | 0 => none
  | n + 1 => if x3 ≤ x5 then some (-1) else f6_beads_3 μ ν (f6_beads_2 μ ν n) FUEL x1 x3 x4 x5 0 0
def f6_beads_1 (μ : Mem) (ν : Lem) (n : Nat) (x1 : Int32) (x3 : Int32) (x4 : Int32) (x5 : Int32) : Option (Int32) :=
  match n with
  | 0 => none
  | n + 1 => if x3 ≤ x5 then f6_beads_2 μ ν FUEL x1 x3 x4 0 else bd1 (f6_ring μ ν x1 x5) (fun r37 => if r37 = 0 then nm (x4 + 0) (fun v49 => nm (x5 + 1) (fun v51 => f6_beads_1 μ ν n x1 x3 v49 v51)) else nm (x4 + 1) (fun v49 => nm (x5 + 1) (fun v51 => f6_beads_1 μ ν n x1 x3 v49 v51)))
def f6_beads (μ : Mem) (ν : Lem) (x1 : Int32) : Option (Int32) :=
  bd1 (f6_ringBad μ ν x1) (fun r2 => if r2 = 0 then gd (inb x1 4) (nm (μ 19 x1.toNatClampNeg) (fun v18 => f6_beads_1 μ ν FUEL x1 v18 0 0)) else some r2)
def f6_across (μ : Mem) (ν : Lem) (x1 : Int32) (x2 : Int32) : Option (Int64) :=
  bd1 (f6_ring μ ν x1 x2) (fun r3 => gd (inb x1 4) (bd1 (f6_ring μ ν x1 (x2 + ((μ 19 x1.toNatClampNeg) / 2))) (fun r19 => some ((r3.toInt64) - (r19.toInt64)))))
def f6_heat_1 (μ : Mem) (ν : Lem) (n : Nat) (x1 : Int32) (x3 : Int32) : Option (Int32) :=
  match n with
  | 0 => none
  | n + 1 => bd1 (f6_across μ ν x1 x3) (fun r35 => if (lg_cmp r35 (0 : Int64)) = 0 then some x3 else bd1 (f6_across μ ν x1 x3) (fun r46 => bd1 (f6_across μ ν x1 (x3 + 1)) (fun r54 => if (f6_areUnlike r46 r54) = 0 then nm (x3 + 1) (fun v63 => f6_heat_1 μ ν n x1 v63) else some x3)))
def f6_heat (μ : Mem) (ν : Lem) (x1 : Int32) : Option (Int32) :=
  bd1 (f6_ringBad μ ν x1) (fun r2 => if r2 = 0 then gd (inb x1 4) (if (μ 19 x1.toNatClampNeg) = 0 then if r2 = 0 then some (-2) else some r2 else f6_heat_1 μ ν FUEL x1 0) else if r2 = 0 then some (-2) else some r2)
def f6_draws_1 (n : Nat) (μ : Mem) (ν : Lem) (x2 : Int32) (x3 : Int32) (x4 : Int32) (x5 : Int32) : Option (Int32 × Mem × Lem) :=
  match n with
  | 0 => none
  | n + 1 => if x2 ≤ x5 then bd2 (f6_lays μ ν x3 6) (fun μ82 ν82 => bd1 (f6_firstMeet μ82 ν82 0) (fun r87 => some (r87, μ82, ν82))) else nm ((x4 * 1103515245) + 12345) (fun v30 => gd (¬ x2 = 0) (gd (inb (48 + x5) 56) (nm (up μ 6 (48 + x5).toNatClampNeg ((600 * x5) / x2)) (fun μ49 => gd (¬ ((μ49 0 7) + 1) = 0) (gd (inb (48 + x5) 56) (nm (up μ49 7 (48 + x5).toNatClampNeg (jrem (jushr v30 9) ((μ49 0 7) + 1))) (fun μ71 => nm (x5 + 1) (fun v72 => f6_draws_1 n μ71 ν x2 x3 v30 v72))))))))
def f6_draws (μ : Mem) (ν : Lem) (x1 : Int32) (x2 : Int32) (x3 : Int32) : Option (Int32 × Mem × Lem) :=
  gd (inb 6 7) (nm (up μ 8 (6 : Int32).toNatClampNeg x2) (fun μ10 => f6_draws_1 FUEL μ10 ν x2 x3 x1 0))
def f6_drawn (μ : Mem) (ν : Lem) (x1 : Int32) (x2 : Int32) (x3 : Int32) : Option (Int32 × Mem × Lem) :=
  if (f6_in (x2.toInt64) (1 : Int64) (8 : Int64)) = 0 then some ((-2), μ, ν) else if (f6_isWay μ ν x3) = 0 then some ((-2), μ, ν) else bd3 (f6_draws μ ν x1 x2 x3) (fun r24 μ24 ν24 => some (r24, μ24, ν24))
def f6_chance_1 (n : Nat) (μ : Mem) (ν : Lem) (x1 : Int32) (x2 : Int32) (x3 : Int32) (x4 : Int32) (x5 : Int64) (x7 : Int32) : Option (Int64 × Mem × Lem) :=
  match n with
  | 0 => none
  | n + 1 => if x2 ≤ x7 then bd1 (f6_lowest x5 (x2.toInt64) x4) (fun r83 => some (r83, μ, ν)) else bd3 (f6_draws μ ν (x1 + x7) 4 x3) (fun r56 μ56 ν56 => if r56 = (-1) then nm (x5 + (0 : Int64)) (fun v69 => nm (x7 + 1) (fun v71 => f6_chance_1 n μ56 ν56 x1 x2 x3 x4 v69 v71)) else nm (x5 + (1 : Int64)) (fun v69 => nm (x7 + 1) (fun v71 => f6_chance_1 n μ56 ν56 x1 x2 x3 x4 v69 v71)))
def f6_chance (μ : Mem) (ν : Lem) (x1 : Int32) (x2 : Int32) (x3 : Int32) (x4 : Int32) : Option (Int64 × Mem × Lem) :=
  if (f6_in (x2.toInt64) (1 : Int64) (20 : Int64)) = 0 then some ((-4611686018427387904 : Int64), μ, ν) else if (f6_isWay μ ν x3) = 0 then some ((-4611686018427387904 : Int64), μ, ν) else if (f6_in (x4.toInt64) (0 : Int64) (1 : Int64)) = 0 then some ((-4611686018427387904 : Int64), μ, ν) else f6_chance_1 FUEL μ ν x1 x2 x3 x4 (0 : Int64) 0
def f6_image_2 (n : Nat) (μ : Mem) (ν : Lem) (x1 : Int32) : Option (Int32 × Mem × Lem) :=
  match n with
  | 0 => none
  | n + 1 => if 6 ≤ x1 then nm (up μ 0 37 (μ 0 13)) (fun μ81 => nm (up μ81 0 38 (μ81 0 7)) (fun μ89 => nm (up μ89 0 39 (μ89 0 4)) (fun μ97 => some (μ97 0 13, μ97, ν)))) else gd (inb x1 6) (gd (inb x1 6) (nm (up μ 13 x1.toNatClampNeg (μ 5 x1.toNatClampNeg)) (fun μ57 => gd (inb x1 7) (gd (inb x1 6) (nm (up μ57 16 x1.toNatClampNeg (μ57 8 x1.toNatClampNeg)) (fun μ69 => nm (x1 + 1) (fun v70 => f6_image_2 n μ69 ν v70)))))))
def f6_image_1 (n : Nat) (μ : Mem) (ν : Lem) (x1 : Int32) : Option (Int32 × Mem × Lem) :=
  match n with
  | 0 => none
  | n + 1 => if 48 ≤ x1 then f6_image_2 FUEL μ ν 0 else gd (inb x1 56) (gd (inb x1 48) (nm (up μ 14 x1.toNatClampNeg (μ 6 x1.toNatClampNeg)) (fun μ19 => gd (inb x1 56) (gd (inb x1 48) (nm (up μ19 15 x1.toNatClampNeg (μ19 7 x1.toNatClampNeg)) (fun μ31 => nm (x1 + 1) (fun v32 => f6_image_1 n μ31 ν v32)))))))
def f6_image (μ : Mem) (ν : Lem) : Option (Int32 × Mem × Lem) :=
  f6_image_1 FUEL μ ν 0
def f6_back_2 (n : Nat) (μ : Mem) (ν : Lem) (x1 : Int32) : Option (Int32 × Mem × Lem) :=
  match n with
  | 0 => none
  | n + 1 => if 6 ≤ x1 then nm (up μ 0 13 (μ 0 37)) (fun μ92 => nm (up μ92 0 7 (μ92 0 38)) (fun μ100 => nm (up μ100 0 4 (μ100 0 39)) (fun μ108 => some (μ108 0 13, μ108, ν)))) else gd (inb x1 6) (gd (inb x1 6) (nm (up μ 5 x1.toNatClampNeg (μ 13 x1.toNatClampNeg)) (fun μ68 => gd (inb x1 6) (gd (inb x1 7) (nm (up μ68 8 x1.toNatClampNeg (μ68 16 x1.toNatClampNeg)) (fun μ80 => nm (x1 + 1) (fun v81 => f6_back_2 n μ80 ν v81)))))))
def f6_back_1 (n : Nat) (μ : Mem) (ν : Lem) (x1 : Int32) : Option (Int32 × Mem × Lem) :=
  match n with
  | 0 => none
  | n + 1 => if 48 ≤ x1 then f6_back_2 FUEL μ ν 0 else gd (inb x1 48) (gd (inb x1 56) (nm (up μ 6 x1.toNatClampNeg (μ 14 x1.toNatClampNeg)) (fun μ30 => gd (inb x1 48) (gd (inb x1 56) (nm (up μ30 7 x1.toNatClampNeg (μ30 15 x1.toNatClampNeg)) (fun μ42 => nm (x1 + 1) (fun v43 => f6_back_1 n μ42 ν v43)))))))
def f6_back (μ : Mem) (ν : Lem) : Option (Int32 × Mem × Lem) :=
  if (μ 0 37) = (-1) then some ((-3), μ, ν) else f6_back_1 FUEL μ ν 0
def f6_count_1 (μ : Mem) (ν : Lem) (n : Nat) (x1 : Int32) (x2 : Int32) (x3 : Int32) : Option (Int32) :=
  match n with
  | 0 => none
  | n + 1 => if (μ 0 13) ≤ x3 then if x1 = 0 then some (μ 0 13) else if x1 = 1 then some (μ 0 7) else some x2 else gd (inb x3 7) (nm (x2 + (μ 8 x3.toNatClampNeg)) (fun v69 => nm (x3 + 1) (fun v70 => f6_count_1 μ ν n x1 v69 v70)))
def f6_count (μ : Mem) (ν : Lem) (x1 : Int32) : Option (Int32) :=
  if (f6_in (x1.toInt64) (0 : Int64) (5 : Int64)) = 0 then some (-2) else if x1 ≤ 2 then f6_count_1 μ ν FUEL x1 0 0 else if x1 = 3 then some (μ 0 3) else if x1 = 4 then some (μ 0 6) else some (μ 0 4)
def f6_sheet_4 (n : Nat) (μ : Mem) (ν : Lem) (x1 : Int32) (x2 : Int32) (x3 : Int32) (x4 : Int32) : Option (Int32 × Mem × Lem) :=
  match n with
  | 0 => none
  | n + 1 => if x3 ≤ x4 then some (1, μ, ν) else if x2 < 0 then some (1, μ, ν) else gd (inb ((40 * x1) + x4) 160) (nm (up μ 20 ((40 * x1) + x4).toNatClampNeg 0) (fun μ99 => nm (x4 + 1) (fun v100 => f6_sheet_4 n μ99 ν x1 x2 x3 v100)))
def f6_sheet_3 (μ : Mem) (ν : Lem) (x1 : Int32) (x2 : Int32) (x3 : Int32) (t1 : Int32) (t2 : Int32) : Option (Int32 × Mem × Lem) :=
  gd (inb t1 4) (nm (up μ 17 t1.toNatClampNeg (vp_nar .boolean t2)) (fun μ59 => gd (inb x1 4) (nm (up μ59 18 x1.toNatClampNeg x2) (fun μ66 => gd (inb x1 4) (nm (up μ66 19 x1.toNatClampNeg x3) (fun μ73 => f6_sheet_4 FUEL μ73 ν x1 x2 x3 0))))))
def f6_sheet_2 (μ : Mem) (ν : Lem) (x1 : Int32) (x2 : Int32) (x3 : Int32) : Option (Int32 × Mem × Lem) :=
  if x2 < 0 then f6_sheet_3 μ ν x1 x2 x3 x1 0 else f6_sheet_3 μ ν x1 x2 x3 x1 1
def f6_sheet_1 (μ : Mem) (ν : Lem) (x1 : Int32) (x2 : Int32) (x3 : Int32) : Option (Int32 × Mem × Lem) :=
  if x2 < 0 then f6_sheet_2 μ ν x1 x2 x3 else if 0 ≤ x3 then f6_sheet_2 μ ν x1 x2 x3 else some ((-14), μ, ν)
def f6_sheet (μ : Mem) (ν : Lem) (x1 : Int32) (x2 : Int32) (x3 : Int32) : Option (Int32 × Mem × Lem) :=
  if (f6_isSheet x1) = 0 then some ((-2), μ, ν) else if (f6_in (x2.toInt64) (-1 : Int64) (2 : Int64)) = 0 then some ((-2), μ, ν) else if x2 < 0 then f6_sheet_1 μ ν x1 x2 x3 else if x3 ≤ 40 then f6_sheet_1 μ ν x1 x2 x3 else some ((-2), μ, ν)
def f6_cell (μ : Mem) (ν : Lem) (x1 : Int32) (x2 : Int32) (x3 : Int32) : Option (Int32 × Mem × Lem) :=
  if (f6_isSheet x1) = 0 then some ((-2), μ, ν) else gd (inb x1 4) (if (μ 17 x1.toNatClampNeg) = 0 then some ((-11), μ, ν) else gd (inb x1 4) (if (f6_in (x2.toInt64) (0 : Int64) (((μ 19 x1.toNatClampNeg) - 1).toInt64)) = 0 then some ((-12), μ, ν) else gd (inb x1 4) (if (μ 18 x1.toNatClampNeg) = 0 then gd (inb ((40 * x1) + x2) 160) (nm (up μ 20 ((40 * x1) + x2).toNatClampNeg (x3.toInt8.toInt32)) (fun μ83 => some (1, μ83, ν))) else gd (inb x1 4) (if (μ 18 x1.toNatClampNeg) = 1 then gd (inb ((40 * x1) + x2) 160) (nm (up μ 20 ((40 * x1) + x2).toNatClampNeg (x3.toInt16.toInt32)) (fun μ83 => some (1, μ83, ν))) else gd (inb ((40 * x1) + x2) 160) (nm (up μ 20 ((40 * x1) + x2).toNatClampNeg x3) (fun μ83 => some (1, μ83, ν)))))))
def f6_copy_2 (K121 : Mem → Lem → Int32 → Int32 → Int32 → Int32 → Int32 → Int32 → Int32 → Option (Int32 × Mem × Lem)) (μ : Mem) (ν : Lem) (x1 : Int32) (x2 : Int32) (x3 : Int32) (x4 : Int32) (x5 : Int32) (x6 : Int32) (x7 : Int32) (t0 : Int32) : Option (Int32 × Mem × Lem) :=
  gd (inb (((40 * x1) + x2) + t0) 160) (gd (inb (((40 * x3) + x4) + t0) 160) (nm (up μ 20 (((40 * x3) + x4) + t0).toNatClampNeg (μ 20 (((40 * x1) + x2) + t0).toNatClampNeg)) (fun μ175 => nm (x7 + 1) (fun v176 => K121 μ175 ν x1 x2 x3 x4 x5 x6 v176))))
def f6_copy_1 (n : Nat) (μ : Mem) (ν : Lem) (x1 : Int32) (x2 : Int32) (x3 : Int32) (x4 : Int32) (x5 : Int32) (x6 : Int32) (x7 : Int32) : Option (Int32 × Mem × Lem) :=
  match n with
  | 0 => none
  | n + 1 => if x5 ≤ x7 then some (x5, μ, ν) else if x6 = 0 then f6_copy_2 (f6_copy_1 n) μ ν x1 x2 x3 x4 x5 x6 x7 x7 else f6_copy_2 (f6_copy_1 n) μ ν x1 x2 x3 x4 x5 x6 x7 ((x5 - 1) - x7)
def f6_copy (μ : Mem) (ν : Lem) (x1 : Int32) (x2 : Int32) (x3 : Int32) (x4 : Int32) (x5 : Int32) : Option (Int32 × Mem × Lem) :=
  if (f6_isSheet x1) = 0 then some ((-2), μ, ν) else if (f6_isSheet x3) = 0 then some ((-2), μ, ν) else gd (inb x1 4) (if (μ 17 x1.toNatClampNeg) = 0 then some ((-11), μ, ν) else gd (inb x3 4) (if (μ 17 x3.toNatClampNeg) = 0 then some ((-11), μ, ν) else gd (inb x1 4) (gd (inb x3 4) (if (μ 18 x1.toNatClampNeg) = (μ 18 x3.toNatClampNeg) then if x5 < 0 then some ((-12), μ, ν) else if x2 < 0 then some ((-12), μ, ν) else if x4 < 0 then some ((-12), μ, ν) else gd (inb x1 4) (if ((μ 19 x1.toNatClampNeg) - x5) < x2 then some ((-12), μ, ν) else gd (inb x3 4) (if x4 ≤ ((μ 19 x3.toNatClampNeg) - x5) then if x1 = x3 then if x4 ≤ x2 then f6_copy_1 FUEL μ ν x1 x2 x3 x4 x5 0 0 else f6_copy_1 FUEL μ ν x1 x2 x3 x4 x5 1 0 else f6_copy_1 FUEL μ ν x1 x2 x3 x4 x5 0 0 else some ((-12), μ, ν))) else some ((-13), μ, ν)))))
def f6_points_2 (n : Nat) (μ : Mem) (ν : Lem) (x1 : Int32) (x3 : Int32) (x4 : Int32) (x5 : Int32) (x6 : Int32) : Option (Int32 × Mem × Lem) :=
  match n with
  | 0 => none
  | n + 1 => if x4 ≤ x6 then some (x5, μ, ν) else if x3 < 0 then some ((-12), μ, ν) else gd (inb x1 4) (if x3 ≤ (((μ 19 x1.toNatClampNeg) - (3 * x6)) - 3) then nm (((40 * x1) + x3) + (3 * x6)) (fun v117 => gd (inb v117 160) (gd (inb (v117 + 1) 160) (gd (inb (v117 + 2) 160) (bd3 (f6_point μ ν (μ 20 v117.toNatClampNeg) (μ 20 (v117 + 1).toNatClampNeg) (μ 20 (v117 + 2).toNatClampNeg)) (fun r147 μ147 ν147 => if r147 < 0 then nm (x5 + 0) (fun v159 => nm (x6 + 1) (fun v161 => f6_points_2 n μ147 ν147 x1 x3 x4 v159 v161)) else nm (x5 + 1) (fun v159 => nm (x6 + 1) (fun v161 => f6_points_2 n μ147 ν147 x1 x3 x4 v159 v161))))))) else some ((-12), μ, ν))
def f6_points_1 (μ : Mem) (ν : Lem) (x1 : Int32) (x3 : Int32) (x4 : Int32) : Option (Int32 × Mem × Lem) :=
  gd (inb x1 4) (if (μ 17 x1.toNatClampNeg) = 0 then some ((-11), μ, ν) else f6_points_2 FUEL μ ν x1 x3 x4 0 0)
def f6_points (μ : Mem) (ν : Lem) (x1 : Int32) (x2 : Int32) (x3 : Int32) (x4 : Int32) : Option (Int32 × Mem × Lem) :=
  if (f6_isSheet x1) = 0 then some ((-2), μ, ν) else if (f6_in (x2.toInt64) (0 : Int64) (2 : Int64)) = 0 then some ((-2), μ, ν) else if (f6_in (x4.toInt64) (0 : Int64) (13 : Int64)) = 0 then some ((-2), μ, ν) else gd (inb x1 4) (if (μ 17 x1.toNatClampNeg) = 0 then f6_points_1 μ ν x1 x3 x4 else gd (inb x1 4) (if (μ 18 x1.toNatClampNeg) = x2 then f6_points_1 μ ν x1 x3 x4 else some ((-13), μ, ν)))
def f6_over (x0 : Int32) : Int32 :=
  if x0 = 0 then (-1) else if x0 = 4 then 2 else if x0 = 3 then 1 else if x0 = 5 then 1 else 0
def f6_taken_2 (μ : Mem) (ν : Lem) (x1 : Int32) (x2 : Int32) (x3 : Int32) : Option (Int32) :=
  if x3 = x2 then gd (inb x1 6) (some (μ 5 x1.toNatClampNeg)) else some (-13)
def f6_taken_1 (μ : Mem) (ν : Lem) (n : Nat) (x1 : Int32) (x2 : Int32) (x3 : Int32) : Option (Int32) :=
  match n with
  | 0 => none
  | n + 1 => if x3 = (-1) then f6_taken_2 μ ν x1 x2 x3 else if x3 = x2 then f6_taken_2 μ ν x1 x2 x3 else nm (f6_over x3) (fun v47 => f6_taken_1 μ ν n x1 x2 v47)
def f6_taken (μ : Mem) (ν : Lem) (x1 : Int32) (x2 : Int32) : Option (Int32) :=
  if (f6_in (x2.toInt64) (0 : Int64) (5 : Int64)) = 0 then some (-2) else if (f6_isWay μ ν x1) = 0 then some (-11) else gd (inb x1 6) (nm (μ 4 x1.toNatClampNeg) (fun v32 => f6_taken_1 μ ν FUEL x1 x2 v32))
