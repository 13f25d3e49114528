def fJ6_bitCount_0f7a4 (N : Nat) (p0 : Int32) : Option (Int32) := ((some (p0 - (((p0.toUInt32 >>> ((1 : Int32).toUInt32 &&& Int32.toUInt32 31)).toInt32) &&& 1431655765))).bind fun z_1 => ((some ((z_1 &&& 858993459) + (((z_1.toUInt32 >>> ((2 : Int32).toUInt32 &&& Int32.toUInt32 31)).toInt32) &&& 858993459))).bind fun z_3 => ((some ((z_3 + ((z_3.toUInt32 >>> ((4 : Int32).toUInt32 &&& Int32.toUInt32 31)).toInt32)) &&& 252645135)).bind fun z_5 => ((some (z_5 + ((z_5.toUInt32 >>> ((8 : Int32).toUInt32 &&& Int32.toUInt32 31)).toInt32))).bind fun z_7 => ((some (z_7 + ((z_7.toUInt32 >>> ((16 : Int32).toUInt32 &&& Int32.toUInt32 31)).toInt32))).bind fun z_9 => some (z_9 &&& 63))))))
def fJ13_bitCount_95d88 (N : Nat) (p0 : Int64) : Option (Int32) := ((some (p0 - (((p0.toUInt64 >>> ((1 : Int32).toInt64.toUInt64 &&& Int64.toUInt64 63)).toInt64) &&& 6148914691236517205))).bind fun z_1 => ((some ((z_1 &&& 3689348814741910323) + (((z_1.toUInt64 >>> ((2 : Int32).toInt64.toUInt64 &&& Int64.toUInt64 63)).toInt64) &&& 3689348814741910323))).bind fun z_3 => ((some ((z_3 + ((z_3.toUInt64 >>> ((4 : Int32).toInt64.toUInt64 &&& Int64.toUInt64 63)).toInt64)) &&& 1085102592571150095)).bind fun z_5 => ((some (z_5 + ((z_5.toUInt64 >>> ((8 : Int32).toInt64.toUInt64 &&& Int64.toUInt64 63)).toInt64))).bind fun z_7 => ((some (z_7 + ((z_7.toUInt64 >>> ((16 : Int32).toInt64.toUInt64 &&& Int64.toUInt64 63)).toInt64))).bind fun z_9 => ((some (z_9 + ((z_9.toUInt64 >>> ((32 : Int32).toInt64.toUInt64 &&& Int64.toUInt64 63)).toInt64))).bind fun z_11 => some (z_11.toInt32 &&& 127)))))))
def fX5_isWithin (N : Nat) (p0 : Int32) (p1 : Int32) (p2 : Int32) : Option (Int32) := (if p0 < p1 then some (0) else (if p2 < p0 then some (0) else some (1)))
def fX5_isOrder (N : Nat) (p0 : Int32) : Option (Int32) := (if p0 < 0 then some (0) else (if 200 ≤ p0 then some (0) else some (1)))
def fX5_isLotSize (N : Nat) (p0 : Int32) : Option (Int32) := ((fX5_isWithin N p0 2 5000).bind fun r_1 => (if r_1 = 0 ∨ r_1 = 1 then some (r_1) else none))
def fX5_isFindings (N : Nat) (p0 : Int64) : Option (Int32) := (if (lg_cmp p0 0) < 0 then some (0) else (if 0 < (lg_cmp p0 1125899906842623) then some (0) else some (1)))
def fX1_choices_b16 (N : Nat) : Nat → Int32 → Int32 → Int64 → Int32 → Option (Int64)
  | 0, _, _, _, _ => none
  | k + 1, x0, x1, x2, x4 => (if x1 < x4 then some (x2) else (if ¬ x4.toInt64 = 0 then ((some ((x2 * (((x0 - x1) + x4).toInt64)) / x4.toInt64)).bind fun z_3 => fX1_choices_b16 N k x0 x1 z_3 (x4 + 1)) else none))
def fX1_choices (N : Nat) (p0 : Int32) (p1 : Int32) : Option (Int64) := (if p1 < 0 then some (0) else (if p1 ≤ p0 then fX1_choices_b16 N N p0 p1 1 1 else some (0)))
def fX1_withExactly (N : Nat) (p0 : Int32) (p1 : Int32) (p2 : Int32) (p3 : Int32) : Option (Int64) := ((fX1_choices N p1 p3).bind fun r_1 => ((fX1_choices N (p0 - p1) (p2 - p3)).bind fun r_3 => some (r_1 * r_3)))
def fX1_withAtMost_b6 (N : Nat) : Nat → Int32 → Int32 → Int32 → Int32 → Int64 → Int32 → Option (Int64)
  | 0, _, _, _, _, _, _ => none
  | k + 1, x0, x1, x2, x3, x4, x6 => (if x3 < x6 then some (x4) else (if x2 < x6 then some (x4) else ((fX1_withExactly N x0 x1 x2 x6).bind fun r_3 => fX1_withAtMost_b6 N k x0 x1 x2 x3 (x4 + r_3) (x6 + 1))))
def fX1_withAtMost (N : Nat) (p0 : Int32) (p1 : Int32) (p2 : Int32) (p3 : Int32) : Option (Int64) := fX1_withAtMost_b6 N N p0 p1 p2 p3 0 0
def fX1_nextWithAsManyBits (N : Nat) (p0 : Int32) : Option (Int32) := (if 0 < (p0 &&& (-p0)) then (if ¬ (p0 &&& (-p0)) = 0 then some ((p0 + (p0 &&& (-p0))) ||| (((((p0 + (p0 &&& (-p0))) ^^^ p0).toUInt32 >>> ((2 : Int32).toUInt32 &&& Int32.toUInt32 31)).toInt32) / (p0 &&& (-p0)))) else none) else some (2147483647))
def fX1_listedWithAtMost_b57 (N : Nat) (rec_25 : Int32 → Int32 → Int32 → Int32 → Int64 → Int32 → Option (Int64)) (x3 : Int32) (x4 : Int32) (x5 : Int32) (x6 : Int32) (x7 : Int64) (x9 : Int32) : Option (Int64) := ((fX1_nextWithAsManyBits N x6).bind fun r_6 => rec_25 x3 x4 x5 r_6 x7 (x9 + 1))
def fX1_listedWithAtMost_b25 (N : Nat) : Nat → Int32 → Int32 → Int32 → Int32 → Int64 → Int32 → Option (Int64)
  | 0, _, _, _, _, _, _ => none
  | k + 1, x3, x4, x5, x6, x7, x9 => (if x5 ≤ x9 then some (x7) else (if x5 ≤ x6 then some (x7) else ((fJ6_bitCount_0f7a4 N (x6 &&& x4)).bind fun r_3 => (if x3 < r_3 then fX1_listedWithAtMost_b57 N (fun x3 x4 x5 x6 x7 x9 => fX1_listedWithAtMost_b25 N k x3 x4 x5 x6 x7 x9) x3 x4 x5 x6 x7 x9 else fX1_listedWithAtMost_b57 N (fun x3 x4 x5 x6 x7 x9 => fX1_listedWithAtMost_b25 N k x3 x4 x5 x6 x7 x9) x3 x4 x5 x6 (x7 + 1) x9))))
def fX1_listedWithAtMost (N : Nat) (p0 : Int32) (p1 : Int32) (p2 : Int32) (p3 : Int32) : Option (Int64) := fX1_listedWithAtMost_b25 N N p3 ((1 <<< (p1 &&& 31)) - 1) (1 <<< (p0 &&& 31)) ((1 <<< (p2 &&& 31)) - 1) 0 0
def fX1_pairsAccepted_b48 (N : Nat) (rec_11 : Int32 → Int32 → Int32 → Int32 → Int32 → Int64 → Int32 → Option (Int64)) (x0 : Int32) (x1 : Int32) (x2 : Int32) (x3 : Int32) (x4 : Int32) (x5 : Int64) (x7 : Int32) (y0 : Int64) : Option (Int64) := ((fX1_withExactly N x0 x1 x2 x7).bind fun r_7 => rec_11 x0 x1 x2 x3 x4 (x5 + (r_7 * y0)) (x7 + 1))
def fX1_pairsAccepted_b11 (N : Nat) : Nat → Int32 → Int32 → Int32 → Int32 → Int32 → Int64 → Int32 → Option (Int64)
  | 0, _, _, _, _, _, _, _ => none
  | k + 1, x0, x1, x2, x3, x4, x5, x7 => (if x2 < x7 then some (x5) else (if (x3 - 2) < x7 then ((fX1_withAtMost N x4 (x1 - x7) x2 (x3 - x7)).bind fun r_3 => fX1_pairsAccepted_b48 N (fun x0 x1 x2 x3 x4 x5 x7 => fX1_pairsAccepted_b11 N k x0 x1 x2 x3 x4 x5 x7) x0 x1 x2 x3 x4 x5 x7 r_3) else ((fX1_choices N x4 x2).bind fun r_5 => fX1_pairsAccepted_b48 N (fun x0 x1 x2 x3 x4 x5 x7 => fX1_pairsAccepted_b11 N k x0 x1 x2 x3 x4 x5 x7) x0 x1 x2 x3 x4 x5 x7 r_5)))
def fX1_pairsAccepted (N : Nat) (p0 : Int32) (p1 : Int32) (p2 : Int32) (p3 : Int32) : Option (Int64) := fX1_pairsAccepted_b11 N N p0 p1 p2 p3 (p0 - p2) 0 0
def fX6_in (N : Nat) (p0 : Int32) (p1 : Int32) (p2 : Int32) : Option (Int32) := (if p0 < p1 then some (0) else (if p2 < p0 then some (0) else some (1)))
def fX6_areFindings (N : Nat) (p0 : Int64) : Option (Int32) := (if (lg_cmp p0 0) < 0 then some (0) else (if (lg_cmp (p0 >>> ((50 : Int32).toInt64 &&& 63)) 0) = 0 then some (1) else some (0)))
def fX6_sizeOf (N : Nat) (p0 : Int32) : Option (Int32) := (if 3 ≤ p0 then (if p0 = 3 then some (8) else (if p0 = 4 then some (13) else (if p0 = 5 then some (20) else (if p0 = 6 then some (32) else some (50))))) else (if 2 ≤ p0 then some (5) else some (p0 + 2)))
def fX6_shared_b6 (N : Nat) : Nat → Int64 → Int64 → Option (Int64)
  | 0, _, _ => none
  | k + 1, x4, x6 => (if (lg_cmp x6 0) ≤ 0 then some (x4) else (if ¬ x6 = 0 then fX6_shared_b6 N k x6 (x4 - x4 / x6 * x6) else none))
def fX6_shared (N : Nat) (p0 : Int64) (p2 : Int64) : Option (Int64) := fX6_shared_b6 N N p0 p2
def fX6_ways_b31 (N : Nat) : Nat → Int32 → Int32 → Int64 → Int32 → Option (Int64)
  | 0, _, _, _, _ => none
  | k + 1, x0, x2, x3, x5 => (if x2 < x5 then some (x3) else ((fX6_shared N (((x0 - x2) + x5).toInt64) x5.toInt64).bind fun r_2 => (if ¬ r_2 = 0 then (if ¬ (x5.toInt64 / r_2) = 0 then (if ¬ r_2 = 0 then ((some ((x3 / (x5.toInt64 / r_2)) * ((((x0 - x2) + x5).toInt64) / r_2))).bind fun z_7 => fX6_ways_b31 N k x0 x2 z_7 (x5 + 1)) else none) else none) else none)))
def fX6_ways_b25 (N : Nat) (x0 : Int32) (y0 : Int32) : Option (Int64) := fX6_ways_b31 N N x0 y0 1 1
def fX6_ways (N : Nat) (p0 : Int32) (p1 : Int32) : Option (Int64) := (if p1 < 0 then some (0) else (if p1 ≤ p0 then (if (p0 - p1) ≤ p1 then fX6_ways_b25 N p0 (p0 - p1) else fX6_ways_b25 N p0 p1) else some (0)))
def fX6_upTo_b6 (N : Nat) : Nat → Int32 → Int32 → Int32 → Int32 → Int64 → Int32 → Option (Int64)
  | 0, _, _, _, _, _, _ => none
  | k + 1, x0, x1, x2, x3, x4, x6 => (if x3 < x6 then some (x4) else (if x2 < x6 then some (x4) else ((fX6_ways N x1 x6).bind fun r_3 => ((fX6_ways N (x0 - x1) (x2 - x6)).bind fun r_5 => fX6_upTo_b6 N k x0 x1 x2 x3 (x4 + (r_3 * r_5)) (x6 + 1)))))
def fX6_upTo (N : Nat) (p0 : Int32) (p1 : Int32) (p2 : Int32) (p3 : Int32) : Option (Int64) := fX6_upTo_b6 N N p0 p1 p2 p3 0 0
