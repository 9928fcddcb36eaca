def zf_X0_addLot (u : z_St) (a_1 : Int32) (a_2 : Int32) (a_3 : Int32) : Option (Int32 × z_St) :=
  (if (z_rI u 3 0) < (40 : Int32) then z_gd (z_inb (z_rI u 3 0) 40) (z_nm (z_wI u 0 (z_rI u 3 0).toNatClampNeg a_1) (fun (u3 : z_St) => z_gd (z_inb (z_rI u3 3 0) 40) (z_nm (z_wI u3 1 (z_rI u3 3 0).toNatClampNeg a_2) (fun (u5 : z_St) => z_gd (z_inb (z_rI u5 3 0) 40) (z_nm (z_wI u5 2 (z_rI u5 3 0).toNatClampNeg a_3) (fun (u7 : z_St) => z_nm (z_wI u7 3 0 ((z_rI u7 3 0) + (1 : Int32))) (fun (u8 : z_St) => some (((z_rI u8 3 0) - (1 : Int32)), u8)))))))) else some ((-4 : Int32), u))
def zf_X0_lotCount (u : z_St) : Int32 :=
  (z_rI u 3 0)
def zf_X0_tally_30 (a_4 : Int32) (a_5 : Int32) (u : z_St) : Nat → Int32 → Int32 → Option (Int32 × Int32)
  | 0, _, _ => none
  | n + 1, x_6, x_7 => (if (z_rI u 3 0) ≤ x_7 then some (x_6, x_7) else z_gd (z_inb x_7 40) ((if ((z_rI u 0 x_7.toNatClampNeg) &&& a_4) = a_4 then z_gd (z_inb x_7 40) ((if ((z_rI u 1 x_7.toNatClampNeg) &&& a_5) = a_5 then z_nm (x_6 + (1 : Int32)) (fun (x8 : Int32) => z_nm (x_7 + (1 : Int32)) (fun (x9 : Int32) => zf_X0_tally_30 a_4 a_5 u n x8 x9)) else z_nm (x_7 + (1 : Int32)) (fun (x7 : Int32) => zf_X0_tally_30 a_4 a_5 u n x_6 x7))) else z_nm (x_7 + (1 : Int32)) (fun (x4 : Int32) => zf_X0_tally_30 a_4 a_5 u n x_6 x4))))
def zf_X0_tally (u : z_St) (a_1 : Int32) (a_2 : Int32) (a_3 : Int32) : Option Int32 :=
  z_nm (((1 : Int32) <<< (a_1 &&& (31 : Int32))) ||| ((1 : Int32) <<< (a_2 &&& (31 : Int32)))) (fun (x1 : Int32) => z_nm (((a_3 &&& (1 : Int32)) <<< (a_1 &&& (31 : Int32))) ||| (((a_3 >>> ((1 : Int32) &&& (31 : Int32))) &&& (1 : Int32)) <<< (a_2 &&& (31 : Int32)))) (fun (x2 : Int32) => z_bd2 (zf_X0_tally_30 x1 x2 u 5000 (0 : Int32) (0 : Int32)) (fun (y3 : Int32) (y4 : Int32) => some y3)))
def zf_X0_choose_16 (a_0 : Int32) (a_1 : Int32) : Nat → Int64 → Int32 → Option (Int64 × Int32)
  | 0, _, _ => none
  | n + 1, x_2, x_4 => (if a_1 < x_4 then some (x_2, x_4) else z_gd (z_nzL x_4.toInt64) (z_nm ((x_2 * ((a_0 - a_1) + x_4).toInt64) / x_4.toInt64) (fun (x3 : Int64) => z_nm (x_4 + (1 : Int32)) (fun (x4 : Int32) => zf_X0_choose_16 a_0 a_1 n x3 x4))))
def zf_X0_choose (a_0 : Int32) (a_1 : Int32) : Option Int64 :=
  (if a_1 < (0 : Int32) then some (0 : Int64) else (if a_1 ≤ a_0 then z_bd2 (zf_X0_choose_16 a_0 a_1 5000 (1 : Int64) (1 : Int32)) (fun (y3 : Int64) (y4 : Int32) => some y3) else some (0 : Int64)))
def zf_X0_allWays (u : z_St) (a_1 : Int32) (a_2 : Int32) : Option Int64 :=
  z_bd (zf_X0_tally u a_1 a_2 (0 : Int32)) (fun (r1 : Int32) => z_bd (zf_X0_tally u a_1 a_2 (2 : Int32)) (fun (r2 : Int32) => z_bd (zf_X0_choose r1 r2) (fun (r3 : Int64) => some r3)))
def zf_X0_waysAsShy_41 (a_3 : Int32) (a_4 : Int32) (a_5 : Int32) (a_6 : Int32) : Nat → Int64 → Int32 → Option (Int64 × Int32)
  | 0, _, _ => none
  | n + 1, x_7, x_9 => (if a_6 < x_9 then some (x_7, x_9) else z_bd (zf_X0_choose a_4 x_9) (fun (r2 : Int64) => z_bd (zf_X0_choose (a_3 - a_4) (a_5 - x_9)) (fun (r3 : Int64) => z_nm (x_7 + (r2 * r3)) (fun (x4 : Int64) => z_nm (x_9 + (1 : Int32)) (fun (x5 : Int32) => zf_X0_waysAsShy_41 a_3 a_4 a_5 a_6 n x4 x5)))))
def zf_X0_waysAsShy (u : z_St) (a_1 : Int32) (a_2 : Int32) : Option Int64 :=
  z_bd (zf_X0_tally u a_1 a_2 (0 : Int32)) (fun (r1 : Int32) => z_bd (zf_X0_tally u a_1 a_2 (1 : Int32)) (fun (r2 : Int32) => z_bd (zf_X0_tally u a_1 a_2 (2 : Int32)) (fun (r3 : Int32) => z_bd (zf_X0_tally u a_1 a_2 (3 : Int32)) (fun (r4 : Int32) => z_bd2 (zf_X0_waysAsShy_41 r1 r2 r3 r4 5000 (0 : Int64) (0 : Int32)) (fun (y5 : Int64) (y6 : Int32) => some y5)))))
def zf_X0_productBelow (a_0 : Int64) (a_2 : Int64) (a_4 : Int64) (a_6 : Int64) : Int32 :=
  z_nm (((a_0 >>> ((20 : Int32).toInt64 &&& (63 : Int64))) * a_2) + (((a_0 &&& (1048575 : Int64)) * a_2) >>> ((20 : Int32).toInt64 &&& (63 : Int64)))) (fun (x1 : Int64) => z_nm (((a_4 >>> ((20 : Int32).toInt64 &&& (63 : Int64))) * a_6) + (((a_4 &&& (1048575 : Int64)) * a_6) >>> ((20 : Int32).toInt64 &&& (63 : Int64)))) (fun (x2 : Int64) => (if (lg_cmp x1 x2) = (0 : Int32) then (if (0 : Int32) ≤ (lg_cmp (((a_0 &&& (1048575 : Int64)) * a_2) &&& (1048575 : Int64)) (((a_4 &&& (1048575 : Int64)) * a_6) &&& (1048575 : Int64))) then (0 : Int32) else (1 : Int32)) else (if (0 : Int32) ≤ (lg_cmp x1 x2) then (0 : Int32) else (1 : Int32)))))
def zf_X0_shyestTwo_25 (a_7 : Int32) (u : z_St) : Nat → Int32 → Int32 → Int64 → Int64 → Int32 → Option (Int32 × Int32 × Int64 × Int64 × Int32)
  | 0, _, _, _, _, _ => none
  | n + 1, x_1, x_2, x_3, x_5, x_8 => (if (8 : Int32) ≤ x_8 then some (x_1, x_2, x_3, x_5, x_8) else z_bd (zf_X0_waysAsShy u a_7 x_8) (fun (r2 : Int64) => z_bd (zf_X0_allWays u a_7 x_8) (fun (r3 : Int64) => (if (zf_X0_productBelow r2 x_5 x_3 r3) = (0 : Int32) then z_nm (x_8 + (1 : Int32)) (fun (x5 : Int32) => zf_X0_shyestTwo_25 a_7 u n x_1 x_2 x_3 x_5 x5) else z_nm (x_8 + (1 : Int32)) (fun (x6 : Int32) => zf_X0_shyestTwo_25 a_7 u n a_7 x_8 r2 r3 x6)))))
def zf_X0_shyestTwo_12 (u : z_St) : Nat → Int32 → Int32 → Int64 → Int64 → Int32 → Option (Int32 × Int32 × Int64 × Int64 × Int32)
  | 0, _, _, _, _, _ => none
  | n + 1, x_1, x_2, x_3, x_5, x_7 => (if (8 : Int32) ≤ x_7 then some (x_1, x_2, x_3, x_5, x_7) else z_nm (x_7 + (1 : Int32)) (fun (x2 : Int32) => z_bd5 (zf_X0_shyestTwo_25 x_7 u 5000 x_1 x_2 x_3 x_5 x2) (fun (y3 : Int32) (y4 : Int32) (y5 : Int64) (y6 : Int64) (y7 : Int32) => z_nm (x_7 + (1 : Int32)) (fun (x8 : Int32) => zf_X0_shyestTwo_12 u n y3 y4 y5 y6 x8))))
def zf_X0_shyestTwo (u : z_St) : Option Int32 :=
  z_bd5 (zf_X0_shyestTwo_12 u 5000 (0 : Int32) (1 : Int32) (1 : Int64) (1 : Int64) (0 : Int32)) (fun (y1 : Int32) (y2 : Int32) (y3 : Int64) (y4 : Int64) (y5 : Int32) => some (((8 : Int32) * y1) + y2))
def zf_X0_commonDivisor_9 : Nat → Int64 → Int64 → Int32 → Option (Int64 × Int64 × Int32)
  | 0, _, _, _ => none
  | n + 1, x_4, x_6, x_8 => (if (100 : Int32) ≤ x_8 then some (x_4, x_6, x_8) else (if (lg_cmp x_6 (0 : Int64)) = (0 : Int32) then some (x_4, x_6, x_8) else z_gd (z_nzL x_6) (z_nm (x_4 - x_4 / x_6 * x_6) (fun (x4 : Int64) => z_nm (x_8 + (1 : Int32)) (fun (x5 : Int32) => zf_X0_commonDivisor_9 n x_6 x4 x5)))))
def zf_X0_commonDivisor (a_0 : Int64) (a_2 : Int64) : Option Int64 :=
  z_bd3 (zf_X0_commonDivisor_9 5000 a_0 a_2 (0 : Int32)) (fun (y1 : Int64) (y2 : Int64) (y3 : Int32) => some y1)
def zf_X5_mix (a_0 : Int64) (a_2 : Int32) : Int64 :=
  (((31 : Int64) * a_0) + a_2.toInt64)
def zf_X0_mixLots_5 (u : z_St) : Nat → Int64 → Int32 → Option (Int64 × Int32)
  | 0, _, _ => none
  | n + 1, x_3, x_5 => (if (z_rI u 3 0) ≤ x_5 then some (x_3, x_5) else z_gd (z_inb x_5 40) (z_nm (zf_X5_mix x_3 (z_rI u 0 x_5.toNatClampNeg)) (fun (x3 : Int64) => z_gd (z_inb x_5 40) (z_nm (zf_X5_mix x3 (z_rI u 1 x_5.toNatClampNeg)) (fun (x5 : Int64) => z_gd (z_inb x_5 40) (z_nm (zf_X5_mix x5 (z_rI u 2 x_5.toNatClampNeg)) (fun (x7 : Int64) => z_nm (x_5 + (1 : Int32)) (fun (x8 : Int32) => zf_X0_mixLots_5 u n x7 x8))))))))
def zf_X0_mixLots (u : z_St) (a_1 : Int64) : Option Int64 :=
  z_bd2 (zf_X0_mixLots_5 u 5000 a_1 (0 : Int32)) (fun (y1 : Int64) (y2 : Int32) => some y1)
def zf_X1_change (u : z_St) (a_1 : Int32) (a_2 : Int32) (a_3 : Int32) : Option (Int32 × z_St) :=
  z_gd (z_inb ((a_1 * (8 : Int32)) + a_2) 64) (z_nm (z_rI u 4 ((a_1 * (8 : Int32)) + a_2).toNatClampNeg) (fun (x2 : Int32) => z_gd (z_inb ((a_1 * (8 : Int32)) + a_2) 64) (z_nm (z_wI u 4 ((a_1 * (8 : Int32)) + a_2).toNatClampNeg a_3) (fun (u4 : z_St) => some (x2, u4)))))
def zf_X1_total_4 (u : z_St) : Nat → Int32 → Int32 → Option (Int32 × Int32)
  | 0, _, _ => none
  | n + 1, x_1, x_2 => (if (64 : Int32) ≤ x_2 then some (x_1, x_2) else z_gd (z_inb x_2 64) (z_nm (x_1 + (z_rI u 4 x_2.toNatClampNeg)) (fun (x3 : Int32) => z_nm (x_2 + (1 : Int32)) (fun (x4 : Int32) => zf_X1_total_4 u n x3 x4))))
def zf_X1_total (u : z_St) : Option Int32 :=
  z_bd2 (zf_X1_total_4 u 5000 (0 : Int32) (0 : Int32)) (fun (y1 : Int32) (y2 : Int32) => some y1)
def zf_X1_owedTo_5 (a_1 : Int32) (a_2 : Int32) (u : z_St) : Nat → Int32 → Int32 → Option (Int32 × Int32)
  | 0, _, _ => none
  | n + 1, x_3, x_4 => (if (8 : Int32) ≤ x_4 then some (x_3, x_4) else (if ((a_2 >>> (x_4 &&& (31 : Int32))) &&& (1 : Int32)) = (1 : Int32) then z_gd (z_inb ((x_4 * (8 : Int32)) + a_1) 64) (z_nm (x_3 + (z_rI u 4 ((x_4 * (8 : Int32)) + a_1).toNatClampNeg)) (fun (x5 : Int32) => z_nm (x_4 + (1 : Int32)) (fun (x6 : Int32) => zf_X1_owedTo_5 a_1 a_2 u n x5 x6))) else z_nm (x_4 + (1 : Int32)) (fun (x3 : Int32) => zf_X1_owedTo_5 a_1 a_2 u n x_3 x3)))
def zf_X1_owedTo (u : z_St) (a_1 : Int32) (a_2 : Int32) : Option Int32 :=
  z_bd2 (zf_X1_owedTo_5 a_1 a_2 u 5000 (0 : Int32) (0 : Int32)) (fun (y1 : Int32) (y2 : Int32) => some y1)
def zf_X1_owedBy_4 (a_1 : Int32) (u : z_St) : Nat → Int32 → Int32 → Option (Int32 × Int32)
  | 0, _, _ => none
  | n + 1, x_2, x_3 => (if (8 : Int32) ≤ x_3 then some (x_2, x_3) else z_gd (z_inb ((a_1 * (8 : Int32)) + x_3) 64) (z_nm (x_2 + (z_rI u 4 ((a_1 * (8 : Int32)) + x_3).toNatClampNeg)) (fun (x3 : Int32) => z_nm (x_3 + (1 : Int32)) (fun (x4 : Int32) => zf_X1_owedBy_4 a_1 u n x3 x4))))
def zf_X1_owedBy (u : z_St) (a_1 : Int32) : Option Int32 :=
  z_bd2 (zf_X1_owedBy_4 a_1 u 5000 (0 : Int32) (0 : Int32)) (fun (y1 : Int32) (y2 : Int32) => some y1)
def zf_X1_netOf (u : z_St) (a_1 : Int32) : Option Int32 :=
  z_bd (zf_X1_owedTo u a_1 (255 : Int32)) (fun (r1 : Int32) => z_bd (zf_X1_owedBy u a_1) (fun (r2 : Int32) => some (r1 - r2)))
def zf_X1_fallingNext_5 (a_1 : Int32) (a_2 : Int32) (u : z_St) : Nat → Int32 → Int32 → Option (Int32 × Int32)
  | 0, _, _ => none
  | n + 1, x_3, x_4 => (if (8 : Int32) ≤ x_4 then some (x_3, x_4) else (if ((a_1 >>> (x_4 &&& (31 : Int32))) &&& (1 : Int32)) = (0 : Int32) then z_bd (zf_X1_owedTo u x_4 (a_1 ^^^ (-1 : Int32))) (fun (r4 : Int32) => z_bd (zf_X1_owedBy u x_4) (fun (r5 : Int32) => (if r5 ≤ (a_2 + r4) then z_nm (x_4 + (1 : Int32)) (fun (x7 : Int32) => zf_X1_fallingNext_5 a_1 a_2 u n x_3 x7) else z_nm (x_3 ||| ((1 : Int32) <<< (x_4 &&& (31 : Int32)))) (fun (x8 : Int32) => z_nm (x_4 + (1 : Int32)) (fun (x9 : Int32) => zf_X1_fallingNext_5 a_1 a_2 u n x8 x9))))) else z_nm (x_4 + (1 : Int32)) (fun (x3 : Int32) => zf_X1_fallingNext_5 a_1 a_2 u n x_3 x3)))
def zf_X1_fallingNext (u : z_St) (a_1 : Int32) (a_2 : Int32) : Option Int32 :=
  z_bd2 (zf_X1_fallingNext_5 a_1 a_2 u 5000 (0 : Int32) (0 : Int32)) (fun (y1 : Int32) (y2 : Int32) => some y1)
def zf_X1_fallFrom_7 (a_2 : Int32) (u : z_St) : Nat → Int32 → Int32 → Option (Int32 × Int32)
  | 0, _, _ => none
  | n + 1, x_3, x_4 => (if (8 : Int32) ≤ x_4 then some (x_3, x_4) else z_bd (zf_X1_fallingNext u x_3 a_2) (fun (r2 : Int32) => z_nm (x_3 ||| r2) (fun (x3 : Int32) => z_nm (x_4 + (1 : Int32)) (fun (x4 : Int32) => zf_X1_fallFrom_7 a_2 u n x3 x4))))
def zf_X1_fallFrom (u : z_St) (a_1 : Int32) (a_2 : Int32) : Option Int32 :=
  z_nm ((1 : Int32) <<< (a_1 &&& (31 : Int32))) (fun (x1 : Int32) => z_bd2 (zf_X1_fallFrom_7 a_2 u 5000 x1 (0 : Int32)) (fun (y2 : Int32) (y3 : Int32) => some y2))
def zf_X2_setYears (u : z_St) (a_1 : Int32) (a_2 : Int32) (a_3 : Int32) : Option z_St :=
  z_gd (z_inb a_1 10) (z_nm (z_wI u 5 a_1.toNatClampNeg a_2) (fun (u2 : z_St) => z_gd (z_inb a_1 10) (z_nm (z_wI u2 6 a_1.toNatClampNeg a_3) (fun (u4 : z_St) => some u4))))
def zf_X2_addThing (u : z_St) (a_1 : Int32) : Option (Int32 × z_St) :=
  (if (z_rI u 9 0) < (12 : Int32) then z_gd (z_inb (z_rI u 9 0) 12) (z_nm (z_wI u 7 (z_rI u 9 0).toNatClampNeg a_1) (fun (u3 : z_St) => z_nm (z_wI u3 9 0 ((z_rI u3 9 0) + (1 : Int32))) (fun (u4 : z_St) => some (((z_rI u4 9 0) - (1 : Int32)), u4)))) else some ((-4 : Int32), u))
def zf_X2_thingCount (u : z_St) : Int32 :=
  (z_rI u 9 0)
def zf_X5_within (a_0 : Int32) (a_1 : Int32) (a_2 : Int32) : Int32 :=
  (if a_0 < a_1 then (0 : Int32) else (if a_2 < a_0 then (0 : Int32) else (1 : Int32)))
theorem zn_X5_within (a b c : Int32) : narrow .boolean (.int (zf_X5_within a b c)) = .int (zf_X5_within a b c) := by
  unfold zf_X5_within
  split <;> first | rfl | (split <;> rfl)
def zf_X2_hasThing (u : z_St) (a_1 : Int32) : Int32 :=
  (zf_X5_within a_1 (0 : Int32) ((z_rI u 9 0) - (1 : Int32)))
def zf_X2_hasPart (u : z_St) (a_1 : Int32) (a_2 : Int32) : Option Int32 :=
  (if (zf_X2_hasThing u a_1) = (0 : Int32) then some (0 : Int32) else z_gd (z_inb a_1 12) ((if (zf_X5_within a_2 (0 : Int32) ((z_rI u 7 a_1.toNatClampNeg) - (1 : Int32))) = (0 : Int32) then some (0 : Int32) else some (1 : Int32))))
def zf_X2_worksOf (u : z_St) (a_1 : Int32) (a_2 : Int32) : Option Int32 :=
  z_gd (z_inb ((a_1 * (5 : Int32)) + a_2) 60) (some (z_rI u 8 ((a_1 * (5 : Int32)) + a_2).toNatClampNeg))
def zf_X2_changeWorks (u : z_St) (a_1 : Int32) (a_2 : Int32) (a_3 : Int32) : Option (Int32 × z_St) :=
  z_bd (zf_X2_worksOf u a_1 a_2) (fun (r1 : Int32) => z_gd (z_inb ((a_1 * (5 : Int32)) + a_2) 60) (z_nm (z_wI u 8 ((a_1 * (5 : Int32)) + a_2).toNatClampNeg a_3) (fun (u3 : z_St) => some (r1, u3))))
def zf_X2_worksWithout_5 (a_1 : Int32) (a_2 : Int32) (u : z_St) : Nat → Int32 → Int32 → Option (Int32 × Int32)
  | 0, _, _ => none
  | n + 1, x_3, x_4 => z_gd (z_inb a_1 12) ((if (z_rI u 7 a_1.toNatClampNeg) ≤ x_4 then some (x_3, x_4) else (if ((a_2 >>> (x_4 &&& (31 : Int32))) &&& (1 : Int32)) = (0 : Int32) then z_bd (zf_X2_worksOf u a_1 x_4) (fun (r5 : Int32) => z_nm (x_3 ||| r5) (fun (x6 : Int32) => z_nm (x_4 + (1 : Int32)) (fun (x7 : Int32) => zf_X2_worksWithout_5 a_1 a_2 u n x6 x7))) else z_nm (x_4 + (1 : Int32)) (fun (x4 : Int32) => zf_X2_worksWithout_5 a_1 a_2 u n x_3 x4))))
def zf_X2_worksWithout (u : z_St) (a_1 : Int32) (a_2 : Int32) : Option Int32 :=
  z_bd2 (zf_X2_worksWithout_5 a_1 a_2 u 5000 (0 : Int32) (0 : Int32)) (fun (y1 : Int32) (y2 : Int32) => some y1)
def zf_X2_yearOf_12 (a_1 : Int32) (u : z_St) : Nat → Int32 → Int32 → Int32 → Option (Int32 × Int32 × Int32)
  | 0, _, _, _ => none
  | n + 1, x_3, x_4, x_5 => (if (10 : Int32) ≤ x_5 then some (x_3, x_4, x_5) else (if ((a_1 >>> (x_5 &&& (31 : Int32))) &&& (1 : Int32)) = (1 : Int32) then z_gd (z_inb x_5 10) (z_nm (if x_3 < (z_rI u 5 x_5.toNatClampNeg) then (z_rI u 5 x_5.toNatClampNeg) else x_3) (fun (x5 : Int32) => z_gd (z_inb x_5 10) (z_nm (if (z_rI u 6 x_5.toNatClampNeg) < x_4 then (z_rI u 6 x_5.toNatClampNeg) else x_4) (fun (x7 : Int32) => z_nm (x_5 + (1 : Int32)) (fun (x8 : Int32) => zf_X2_yearOf_12 a_1 u n x5 x7 x8))))) else z_nm (x_5 + (1 : Int32)) (fun (x3 : Int32) => zf_X2_yearOf_12 a_1 u n x_3 x_4 x3)))
def zf_X2_yearOf (u : z_St) (a_1 : Int32) (a_2 : Int32) : Option Int32 :=
  z_bd3 (zf_X2_yearOf_12 a_1 u 5000 (1600 : Int32) (1950 : Int32) (0 : Int32)) (fun (y1 : Int32) (y2 : Int32) (y3 : Int32) => (if y1 ≤ y2 then (if a_2 = (0 : Int32) then some y1 else some y2) else some (-1 : Int32)))
def zf_J6_bitCount_0f7a4 (a_0 : Int32) : Int32 :=
  z_nm (a_0 - ((a_0.toUInt32 >>> ((1 : Int32).toUInt32 &&& Int32.toUInt32 31)).toInt32 &&& (1431655765 : Int32))) (fun (x1 : Int32) => z_nm ((x1 &&& (858993459 : Int32)) + ((x1.toUInt32 >>> ((2 : Int32).toUInt32 &&& Int32.toUInt32 31)).toInt32 &&& (858993459 : Int32))) (fun (x2 : Int32) => z_nm ((x2 + (x2.toUInt32 >>> ((4 : Int32).toUInt32 &&& Int32.toUInt32 31)).toInt32) &&& (252645135 : Int32)) (fun (x3 : Int32) => z_nm (x3 + (x3.toUInt32 >>> ((8 : Int32).toUInt32 &&& Int32.toUInt32 31)).toInt32) (fun (x4 : Int32) => z_nm (x4 + (x4.toUInt32 >>> ((16 : Int32).toUInt32 &&& Int32.toUInt32 31)).toInt32) (fun (x5 : Int32) => (x5 &&& (63 : Int32)))))))
def zf_X2_strangers_16 (a_1 : Int32) (a_2 : Int32) (u : z_St) : Nat → Int32 → Int32 → Option (Int32 × Int32)
  | 0, _, _ => none
  | n + 1, x_3, x_4 => (if a_2 ≤ x_4 then some (x_3, x_4) else (if x_3 = (-1 : Int32) then z_bd (zf_X2_worksWithout u a_1 x_4) (fun (r3 : Int32) => z_bd (zf_X2_yearOf u r3 (0 : Int32)) (fun (r4 : Int32) => (if r4 = (-1 : Int32) then z_nm (x_4 + (1 : Int32)) (fun (x6 : Int32) => zf_X2_strangers_16 a_1 a_2 u n x_3 x6) else z_nm (x_4 + (1 : Int32)) (fun (x7 : Int32) => zf_X2_strangers_16 a_1 a_2 u n x_4 x7)))) else (if (zf_J6_bitCount_0f7a4 x_3) ≤ (zf_J6_bitCount_0f7a4 x_4) then z_nm (x_4 + (1 : Int32)) (fun (x9 : Int32) => zf_X2_strangers_16 a_1 a_2 u n x_3 x9) else z_bd (zf_X2_worksWithout u a_1 x_4) (fun (r10 : Int32) => z_bd (zf_X2_yearOf u r10 (0 : Int32)) (fun (r11 : Int32) => (if r11 = (-1 : Int32) then z_nm (x_4 + (1 : Int32)) (fun (x13 : Int32) => zf_X2_strangers_16 a_1 a_2 u n x_3 x13) else z_nm (x_4 + (1 : Int32)) (fun (x14 : Int32) => zf_X2_strangers_16 a_1 a_2 u n x_4 x14)))))))
def zf_X2_strangers (u : z_St) (a_1 : Int32) : Option Int32 :=
  z_gd (z_inb a_1 12) (z_nm (((1 : Int32) <<< ((z_rI u 7 a_1.toNatClampNeg) &&& (31 : Int32))) - (1 : Int32)) (fun (x2 : Int32) => z_bd2 (zf_X2_strangers_16 a_1 x2 u 5000 (-1 : Int32) (0 : Int32)) (fun (y3 : Int32) (y4 : Int32) => some y3)))
def zf_X2_mixWorks_5 (u : z_St) : Nat → Int64 → Int32 → Option (Int64 × Int32)
  | 0, _, _ => none
  | n + 1, x_3, x_5 => (if (10 : Int32) ≤ x_5 then some (x_3, x_5) else z_gd (z_inb x_5 10) (z_nm (zf_X5_mix x_3 (z_rI u 5 x_5.toNatClampNeg)) (fun (x3 : Int64) => z_gd (z_inb x_5 10) (z_nm (zf_X5_mix x3 (z_rI u 6 x_5.toNatClampNeg)) (fun (x5 : Int64) => z_nm (x_5 + (1 : Int32)) (fun (x6 : Int32) => zf_X2_mixWorks_5 u n x5 x6))))))
def zf_X2_mixWorks (u : z_St) (a_1 : Int64) : Option Int64 :=
  z_bd2 (zf_X2_mixWorks_5 u 5000 a_1 (0 : Int32)) (fun (y1 : Int64) (y2 : Int32) => some y1)
def zf_X2_mixParts_15 (a_3 : Int32) (u : z_St) : Nat → Int64 → Int32 → Option (Int64 × Int32)
  | 0, _, _ => none
  | n + 1, x_4, x_6 => z_gd (z_inb a_3 12) ((if (z_rI u 7 a_3.toNatClampNeg) ≤ x_6 then some (x_4, x_6) else z_bd (zf_X2_worksOf u a_3 x_6) (fun (r3 : Int32) => z_nm (zf_X5_mix x_4 r3) (fun (x4 : Int64) => z_nm (x_6 + (1 : Int32)) (fun (x5 : Int32) => zf_X2_mixParts_15 a_3 u n x4 x5)))))
def zf_X2_mixParts (u : z_St) (a_1 : Int64) (a_3 : Int32) : Option Int64 :=
  z_gd (z_inb a_3 12) (z_nm (zf_X5_mix a_1 (z_rI u 7 a_3.toNatClampNeg)) (fun (x2 : Int64) => z_bd2 (zf_X2_mixParts_15 a_3 u 5000 x2 (0 : Int32)) (fun (y3 : Int64) (y4 : Int32) => some y3)))
def zf_X3_addEntry (u : z_St) (a_1 : Int32) : Option (Int32 × z_St) :=
  (if (z_rI u 15 0) < (10 : Int32) then z_gd (z_inb (z_rI u 15 0) 10) (z_nm (z_wI u 10 (z_rI u 15 0).toNatClampNeg a_1) (fun (u3 : z_St) => z_nm (z_wI u3 15 0 ((z_rI u3 15 0) + (1 : Int32))) (fun (u4 : z_St) => some (((z_rI u4 15 0) - (1 : Int32)), u4)))) else some ((-4 : Int32), u))
def zf_X3_entryCount (u : z_St) : Int32 :=
  (z_rI u 15 0)
def zf_X3_hasEntry (u : z_St) (a_1 : Int32) : Int32 :=
  (zf_X5_within a_1 (0 : Int32) ((z_rI u 15 0) - (1 : Int32)))
def zf_X3_changeMark (u : z_St) (a_1 : Int32) (a_2 : Int32) (a_3 : Int32) : Option (Int32 × z_St) :=
  z_nm ((1 : Int32) <<< (a_2 &&& (31 : Int32))) (fun (x1 : Int32) => z_gd (z_inb a_1 12) ((if ((z_rI u 11 a_1.toNatClampNeg) &&& x1) = (0 : Int32) then z_gd (z_inb a_1 12) ((if ((z_rI u 12 a_1.toNatClampNeg) &&& x1) = (0 : Int32) then (if a_3 = (1 : Int32) then z_gd (z_inb a_1 12) (z_gd (z_inb a_1 12) (z_nm (z_wI u 11 a_1.toNatClampNeg ((z_rI u 11 a_1.toNatClampNeg) ||| x1)) (fun (u19 : z_St) => (if a_3 = (2 : Int32) then z_gd (z_inb a_1 12) (z_gd (z_inb a_1 12) (z_nm (z_wI u19 12 a_1.toNatClampNeg ((z_rI u19 12 a_1.toNatClampNeg) ||| x1)) (fun (u26 : z_St) => some ((0 : Int32), u26)))) else z_gd (z_inb a_1 12) (z_gd (z_inb a_1 12) (z_nm (z_wI u19 12 a_1.toNatClampNeg ((z_rI u19 12 a_1.toNatClampNeg) &&& (x1 ^^^ (-1 : Int32)))) (fun (u23 : z_St) => some ((0 : Int32), u23)))))))) else z_gd (z_inb a_1 12) (z_gd (z_inb a_1 12) (z_nm (z_wI u 11 a_1.toNatClampNeg ((z_rI u 11 a_1.toNatClampNeg) &&& (x1 ^^^ (-1 : Int32)))) (fun (u9 : z_St) => (if a_3 = (2 : Int32) then z_gd (z_inb a_1 12) (z_gd (z_inb a_1 12) (z_nm (z_wI u9 12 a_1.toNatClampNeg ((z_rI u9 12 a_1.toNatClampNeg) ||| x1)) (fun (u16 : z_St) => some ((0 : Int32), u16)))) else z_gd (z_inb a_1 12) (z_gd (z_inb a_1 12) (z_nm (z_wI u9 12 a_1.toNatClampNeg ((z_rI u9 12 a_1.toNatClampNeg) &&& (x1 ^^^ (-1 : Int32)))) (fun (u13 : z_St) => some ((0 : Int32), u13))))))))) else (if a_3 = (1 : Int32) then z_gd (z_inb a_1 12) (z_gd (z_inb a_1 12) (z_nm (z_wI u 11 a_1.toNatClampNeg ((z_rI u 11 a_1.toNatClampNeg) ||| x1)) (fun (u40 : z_St) => (if a_3 = (2 : Int32) then z_gd (z_inb a_1 12) (z_gd (z_inb a_1 12) (z_nm (z_wI u40 12 a_1.toNatClampNeg ((z_rI u40 12 a_1.toNatClampNeg) ||| x1)) (fun (u47 : z_St) => some ((2 : Int32), u47)))) else z_gd (z_inb a_1 12) (z_gd (z_inb a_1 12) (z_nm (z_wI u40 12 a_1.toNatClampNeg ((z_rI u40 12 a_1.toNatClampNeg) &&& (x1 ^^^ (-1 : Int32)))) (fun (u44 : z_St) => some ((2 : Int32), u44)))))))) else z_gd (z_inb a_1 12) (z_gd (z_inb a_1 12) (z_nm (z_wI u 11 a_1.toNatClampNeg ((z_rI u 11 a_1.toNatClampNeg) &&& (x1 ^^^ (-1 : Int32)))) (fun (u30 : z_St) => (if a_3 = (2 : Int32) then z_gd (z_inb a_1 12) (z_gd (z_inb a_1 12) (z_nm (z_wI u30 12 a_1.toNatClampNeg ((z_rI u30 12 a_1.toNatClampNeg) ||| x1)) (fun (u37 : z_St) => some ((2 : Int32), u37)))) else z_gd (z_inb a_1 12) (z_gd (z_inb a_1 12) (z_nm (z_wI u30 12 a_1.toNatClampNeg ((z_rI u30 12 a_1.toNatClampNeg) &&& (x1 ^^^ (-1 : Int32)))) (fun (u34 : z_St) => some ((2 : Int32), u34))))))))))) else (if a_3 = (1 : Int32) then z_gd (z_inb a_1 12) (z_gd (z_inb a_1 12) (z_nm (z_wI u 11 a_1.toNatClampNeg ((z_rI u 11 a_1.toNatClampNeg) ||| x1)) (fun (u61 : z_St) => (if a_3 = (2 : Int32) then z_gd (z_inb a_1 12) (z_gd (z_inb a_1 12) (z_nm (z_wI u61 12 a_1.toNatClampNeg ((z_rI u61 12 a_1.toNatClampNeg) ||| x1)) (fun (u68 : z_St) => some ((1 : Int32), u68)))) else z_gd (z_inb a_1 12) (z_gd (z_inb a_1 12) (z_nm (z_wI u61 12 a_1.toNatClampNeg ((z_rI u61 12 a_1.toNatClampNeg) &&& (x1 ^^^ (-1 : Int32)))) (fun (u65 : z_St) => some ((1 : Int32), u65)))))))) else z_gd (z_inb a_1 12) (z_gd (z_inb a_1 12) (z_nm (z_wI u 11 a_1.toNatClampNeg ((z_rI u 11 a_1.toNatClampNeg) &&& (x1 ^^^ (-1 : Int32)))) (fun (u51 : z_St) => (if a_3 = (2 : Int32) then z_gd (z_inb a_1 12) (z_gd (z_inb a_1 12) (z_nm (z_wI u51 12 a_1.toNatClampNeg ((z_rI u51 12 a_1.toNatClampNeg) ||| x1)) (fun (u58 : z_St) => some ((1 : Int32), u58)))) else z_gd (z_inb a_1 12) (z_gd (z_inb a_1 12) (z_nm (z_wI u51 12 a_1.toNatClampNeg ((z_rI u51 12 a_1.toNatClampNeg) &&& (x1 ^^^ (-1 : Int32)))) (fun (u55 : z_St) => some ((1 : Int32), u55))))))))))))
def zf_X3_scoreOf (u : z_St) (a_1 : Int32) (a_2 : Int32) : Option Int32 :=
  z_gd (z_inb a_1 10) (z_nm (z_rI u 10 a_1.toNatClampNeg) (fun (x2 : Int32) => z_gd (z_inb a_2 12) (z_gd (z_inb a_2 12) (z_gd (z_inb a_2 12) (some ((((2 : Int32) * (zf_J6_bitCount_0f7a4 (x2 &&& (z_rI u 11 a_2.toNatClampNeg)))) - ((3 : Int32) * (zf_J6_bitCount_0f7a4 (x2 &&& (z_rI u 12 a_2.toNatClampNeg))))) - (zf_J6_bitCount_0f7a4 ((z_rI u 11 a_2.toNatClampNeg) &&& (x2 ^^^ (-1 : Int32))))))))))
def zf_X3_isJoinable (u : z_St) : Int32 :=
  (if (6 : Int32) < (z_rI u 15 0) then (0 : Int32) else (1 : Int32))
def zf_X3_weigh_2 (a_1 : Int32) : Nat → Int32 → z_St → Option (Int32 × z_St)
  | 0, _, _ => none
  | n + 1, x_2, u => (if (6 : Int32) ≤ x_2 then some (x_2, u) else (if (zf_X3_hasEntry u x_2) = (0 : Int32) then z_gd (z_inb x_2 6) (z_nm (z_wI u 14 x_2.toNatClampNeg (0 : Int32)) (fun (u4 : z_St) => z_nm (x_2 + (1 : Int32)) (fun (x5 : Int32) => zf_X3_weigh_2 a_1 n x5 u4))) else z_bd (zf_X3_scoreOf u x_2 a_1) (fun (r6 : Int32) => (if r6 ≤ (0 : Int32) then z_gd (z_inb x_2 6) (z_nm (z_wI u 14 x_2.toNatClampNeg (0 : Int32)) (fun (u9 : z_St) => z_nm (x_2 + (1 : Int32)) (fun (x10 : Int32) => zf_X3_weigh_2 a_1 n x10 u9))) else z_gd (z_inb x_2 6) (z_gd (z_inb x_2 6) (z_nm (z_wI u 14 x_2.toNatClampNeg ((r6 * (4826809 : Int32)) + (((12 : Int32) - a_1) * (zx_pv x_2.toNatClampNeg)))) (fun (u13 : z_St) => z_nm (x_2 + (1 : Int32)) (fun (x14 : Int32) => zf_X3_weigh_2 a_1 n x14 u13))))))))
def zf_X3_weigh (u : z_St) (a_1 : Int32) : Option z_St :=
  z_bd2 (zf_X3_weigh_2 a_1 5000 (0 : Int32) u) (fun (y1 : Int32) (u2 : z_St) => some u2)
def zf_X3_bestWithThing_9 (a_1 : Int32) (u : z_St) : Nat → Int32 → Int32 → Option (Int32 × Int32)
  | 0, _, _ => none
  | n + 1, x_2, x_3 => (if (6 : Int32) ≤ x_3 then some (x_2, x_3) else (if ((a_1 >>> (x_3 &&& (31 : Int32))) &&& (1 : Int32)) = (1 : Int32) then z_gd (z_inb (a_1 ^^^ ((1 : Int32) <<< (x_3 &&& (31 : Int32)))) 64) (z_gd (z_inb x_3 6) (z_nm (if x_2 < ((z_rI u 13 (a_1 ^^^ ((1 : Int32) <<< (x_3 &&& (31 : Int32)))).toNatClampNeg) + (z_rI u 14 x_3.toNatClampNeg)) then ((z_rI u 13 (a_1 ^^^ ((1 : Int32) <<< (x_3 &&& (31 : Int32)))).toNatClampNeg) + (z_rI u 14 x_3.toNatClampNeg)) else x_2) (fun (x6 : Int32) => z_nm (x_3 + (1 : Int32)) (fun (x7 : Int32) => zf_X3_bestWithThing_9 a_1 u n x6 x7)))) else z_nm (x_3 + (1 : Int32)) (fun (x3 : Int32) => zf_X3_bestWithThing_9 a_1 u n x_2 x3)))
def zf_X3_bestWithThing (u : z_St) (a_1 : Int32) : Option Int32 :=
  z_gd (z_inb a_1 64) (z_nm (z_rI u 13 a_1.toNatClampNeg) (fun (x2 : Int32) => z_bd2 (zf_X3_bestWithThing_9 a_1 u 5000 x2 (0 : Int32)) (fun (y3 : Int32) (y4 : Int32) => some y3)))
def zf_J7_fill_53178_5 (a_1 : Int32) (a_3 : Int32) : Nat → Int32 → z_St → Option (Int32 × z_St)
  | 0, _, _ => none
  | n + 1, x_2, u => (if a_3 ≤ x_2 then some (x_2, u) else z_gd (z_inb x_2 64) (z_nm (z_wI u 13 x_2.toNatClampNeg a_1) (fun (u3 : z_St) => z_nm (x_2 + (1 : Int32)) (fun (x4 : Int32) => zf_J7_fill_53178_5 a_1 a_3 n x4 u3))))
def zf_fill13 (u : z_St) (a_1 : Int32) : Option z_St :=
  z_bd2 (zf_J7_fill_53178_5 a_1 (64 : Int32) 5000 (0 : Int32) u) (fun (y1 : Int32) (u2 : z_St) => some u2)
def zf_X3_bestJoin_37 : Nat → Int32 → z_St → Option (Int32 × z_St)
  | 0, _, _ => none
  | n + 1, x_4, u => (if x_4 ≤ (0 : Int32) then some (x_4, u) else z_bd (zf_X3_bestWithThing u x_4) (fun (r2 : Int32) => z_gd (z_inb x_4 64) (z_nm (z_wI u 13 x_4.toNatClampNeg r2) (fun (u4 : z_St) => z_nm (x_4 + (-1 : Int32)) (fun (x5 : Int32) => zf_X3_bestJoin_37 n x5 u4)))))
def zf_X3_bestJoin_22 (a_1 : Int32) (a_2 : Int32) : Nat → Int32 → z_St → Option (Int32 × z_St)
  | 0, _, _ => none
  | n + 1, x_3, u => (if a_1 ≤ x_3 then some (x_3, u) else z_bd (zf_X3_weigh u x_3) (fun (u2 : z_St) => z_nm (a_2 - (1 : Int32)) (fun (x3 : Int32) => z_bd2 (zf_X3_bestJoin_37 5000 x3 u2) (fun (y4 : Int32) (u5 : z_St) => z_nm (x_3 + (1 : Int32)) (fun (x6 : Int32) => zf_X3_bestJoin_22 a_1 a_2 n x6 u5)))))
def zf_X3_bestJoin (u : z_St) (a_1 : Int32) : Option (Int32 × z_St) :=
  z_nm ((1 : Int32) <<< ((if (6 : Int32) < (z_rI u 15 0) then (6 : Int32) else (z_rI u 15 0)) &&& (31 : Int32))) (fun (x1 : Int32) => z_bd (zf_fill13 u (0 : Int32)) (fun (u2 : z_St) => z_bd2 (zf_X3_bestJoin_22 a_1 x1 5000 (0 : Int32) u2) (fun (y3 : Int32) (u4 : z_St) => z_gd (z_inb (x1 - (1 : Int32)) 64) (some ((z_rI u4 13 (x1 - (1 : Int32)).toNatClampNeg), u4)))))
def zf_X3_sumIn (a_0 : Int32) : Int32 :=
  (a_0 / (4826809 : Int32))
def zf_X3_thingIn (a_0 : Int32) (a_1 : Int32) : Option Int32 :=
  (if (zf_X5_within a_1 (0 : Int32) (5 : Int32)) = (0 : Int32) then some (-1 : Int32) else z_gd (z_inb a_1 6) (z_gd (z_nz (zx_pv a_1.toNatClampNeg)) (z_nm ((a_0 / (zx_pv a_1.toNatClampNeg)) - (a_0 / (zx_pv a_1.toNatClampNeg)) / (13 : Int32) * (13 : Int32)) (fun (x4 : Int32) => (if x4 = (0 : Int32) then some (-1 : Int32) else some ((12 : Int32) - x4))))))
def zf_X3_mixMarks (u : z_St) (a_1 : Int64) (a_3 : Int32) : Option Int64 :=
  z_gd (z_inb a_3 12) (z_gd (z_inb a_3 12) (some (zf_X5_mix (zf_X5_mix a_1 (z_rI u 11 a_3.toNatClampNeg)) (z_rI u 12 a_3.toNatClampNeg))))
def zf_X3_mixEntries_5 (u : z_St) : Nat → Int64 → Int32 → Option (Int64 × Int32)
  | 0, _, _ => none
  | n + 1, x_3, x_5 => (if (z_rI u 15 0) ≤ x_5 then some (x_3, x_5) else z_gd (z_inb x_5 10) (z_nm (zf_X5_mix x_3 (z_rI u 10 x_5.toNatClampNeg)) (fun (x3 : Int64) => z_nm (x_5 + (1 : Int32)) (fun (x4 : Int32) => zf_X3_mixEntries_5 u n x3 x4))))
def zf_X3_mixEntries (u : z_St) (a_1 : Int64) : Option Int64 :=
  z_bd2 (zf_X3_mixEntries_5 u 5000 a_1 (0 : Int32)) (fun (y1 : Int64) (y2 : Int32) => some y1)
def zf_X4_holderOf (u : z_St) (a_1 : Int32) : Option Int32 :=
  z_gd (z_inb a_1 12) (some (z_rI u 16 a_1.toNatClampNeg))
def zf_X4_handOver (u : z_St) (a_1 : Int32) (a_2 : Int32) : Option (Int32 × z_St) :=
  z_gd (z_inb a_1 12) (z_nm (z_rI u 16 a_1.toNatClampNeg) (fun (x2 : Int32) => z_gd (z_inb a_1 12) (z_nm (z_wI u 16 a_1.toNatClampNeg a_2) (fun (u4 : z_St) => z_gd (z_inb a_1 12) (z_nm (z_wI u4 17 a_1.toNatClampNeg (-1 : Int32)) (fun (u6 : z_St) => some (x2, u6)))))))
def zf_X4_currentHour (u : z_St) : Int32 :=
  (z_rI u 22 0)
def zf_X4_passHours (u : z_St) (a_1 : Int32) : Option (Int32 × z_St) :=
  z_nm (z_wI u 22 0 ((z_rI u 22 0) + a_1)) (fun (u1 : z_St) => some ((z_rI u1 22 0), u1))
def zf_X4_mayBeSold (u : z_St) (a_1 : Int32) (a_2 : Int32) (a_3 : Int32) : Option Int32 :=
  z_gd (z_inb a_1 12) (z_nm (z_rI u 16 a_1.toNatClampNeg) (fun (x2 : Int32) => (if x2 = (-1 : Int32) then some (0 : Int32) else (if x2 = a_2 then some (0 : Int32) else (if a_3 = (0 : Int32) then z_gd (z_inb a_1 12) ((if (z_rI u 18 a_1.toNatClampNeg) = (z_rI u 22 0) then some (0 : Int32) else some (1 : Int32))) else (if a_3 ≤ (z_rI u 22 0) then some (0 : Int32) else z_gd (z_inb a_1 12) ((if (z_rI u 18 a_1.toNatClampNeg) = (z_rI u 22 0) then some (0 : Int32) else some (1 : Int32)))))))))
def zf_X4_addSale (u : z_St) (a_1 : Int32) (a_2 : Int32) (a_3 : Int32) (a_4 : Int32) : Option (Int32 × z_St) :=
  z_bd (zf_X4_mayBeSold u a_1 a_2 a_4) (fun (r1 : Int32) => (if r1 = (0 : Int32) then some ((-3 : Int32), u) else (if (z_rI u 21 0) < (80 : Int32) then z_nm ((z_rI u 21 0) * (7 : Int32)) (fun (x4 : Int32) => z_gd (z_inb (x4 + (0 : Int32)) 560) (z_nm (z_wI u 19 (x4 + (0 : Int32)).toNatClampNeg a_1) (fun (u6 : z_St) => z_gd (z_inb a_1 12) (z_gd (z_inb (x4 + (1 : Int32)) 560) (z_nm (z_wI u6 19 (x4 + (1 : Int32)).toNatClampNeg (z_rI u6 16 a_1.toNatClampNeg)) (fun (u9 : z_St) => z_gd (z_inb (x4 + (2 : Int32)) 560) (z_nm (z_wI u9 19 (x4 + (2 : Int32)).toNatClampNeg a_2) (fun (u11 : z_St) => z_gd (z_inb (x4 + (3 : Int32)) 560) (z_nm (z_wI u11 19 (x4 + (3 : Int32)).toNatClampNeg a_3) (fun (u13 : z_St) => z_gd (z_inb (x4 + (4 : Int32)) 560) (z_nm (z_wI u13 19 (x4 + (4 : Int32)).toNatClampNeg (z_rI u13 22 0)) (fun (u15 : z_St) => z_gd (z_inb (x4 + (5 : Int32)) 560) (z_nm (z_wI u15 19 (x4 + (5 : Int32)).toNatClampNeg a_4) (fun (u17 : z_St) => z_gd (z_inb (x4 + (6 : Int32)) 560) (z_nm (z_wI u17 19 (x4 + (6 : Int32)).toNatClampNeg (1 : Int32)) (fun (u19 : z_St) => z_gd (z_inb a_1 12) (z_gd (z_inb (z_rI u19 21 0) 80) (z_nm (z_wI u19 20 (z_rI u19 21 0).toNatClampNeg (z_rI u19 17 a_1.toNatClampNeg)) (fun (u22 : z_St) => z_gd (z_inb a_1 12) (z_nm (z_wI u22 17 a_1.toNatClampNeg (z_rI u22 21 0)) (fun (u24 : z_St) => z_gd (z_inb a_1 12) (z_nm (z_wI u24 18 a_1.toNatClampNeg (z_rI u24 22 0)) (fun (u26 : z_St) => z_gd (z_inb a_1 12) (z_nm (z_wI u26 16 a_1.toNatClampNeg a_2) (fun (u28 : z_St) => z_nm (z_wI u28 21 0 ((z_rI u28 21 0) + (1 : Int32))) (fun (u29 : z_St) => some (((z_rI u29 21 0) - (1 : Int32)), u29))))))))))))))))))))))))))) else some ((-4 : Int32), u))))
def zf_X4_field (u : z_St) (a_1 : Int32) (a_2 : Int32) : Option Int32 :=
  z_gd (z_inb ((a_1 * (7 : Int32)) + a_2) 560) (some (z_rI u 19 ((a_1 * (7 : Int32)) + a_2).toNatClampNeg))
def zf_X4_giveBack (u : z_St) (a_1 : Int32) : Option (Int32 × z_St) :=
  z_gd (z_inb a_1 12) (z_nm (z_rI u 17 a_1.toNatClampNeg) (fun (x2 : Int32) => (if x2 = (-1 : Int32) then some ((-3 : Int32), u) else z_bd (zf_X4_field u x2 (2 : Int32)) (fun (r4 : Int32) => z_gd (z_inb a_1 12) ((if r4 = (z_rI u 16 a_1.toNatClampNeg) then z_bd (zf_X4_field u x2 (5 : Int32)) (fun (r7 : Int32) => (if (z_rI u 22 0) < r7 then z_gd (z_inb ((x2 * (7 : Int32)) + (6 : Int32)) 560) (z_nm (z_wI u 19 ((x2 * (7 : Int32)) + (6 : Int32)).toNatClampNeg (0 : Int32)) (fun (u10 : z_St) => z_gd (z_inb x2 80) (z_gd (z_inb a_1 12) (z_nm (z_wI u10 17 a_1.toNatClampNeg (z_rI u10 20 x2.toNatClampNeg)) (fun (u13 : z_St) => z_bd (zf_X4_field u13 x2 (1 : Int32)) (fun (r14 : Int32) => z_gd (z_inb a_1 12) (z_nm (z_wI u13 16 a_1.toNatClampNeg r14) (fun (u16 : z_St) => z_gd (z_inb a_1 12) (some ((z_rI u16 16 a_1.toNatClampNeg), u16)))))))))) else some ((-3 : Int32), u))) else some ((-3 : Int32), u)))))))
def zf_X4_saleCount (u : z_St) : Int32 :=
  (z_rI u 21 0)
def zf_X4_stands (u : z_St) (a_1 : Int32) : Option Int32 :=
  z_bd (zf_X4_field u a_1 (6 : Int32)) (fun (r1 : Int32) => (if r1 = (1 : Int32) then some (1 : Int32) else some (0 : Int32)))
def zf_X4_standingCount_4 (u : z_St) : Nat → Int32 → Int32 → Option (Int32 × Int32)
  | 0, _, _ => none
  | n + 1, x_1, x_2 => (if (z_rI u 21 0) ≤ x_2 then some (x_1, x_2) else z_bd (zf_X4_field u x_2 (6 : Int32)) (fun (r2 : Int32) => z_nm (x_1 + r2) (fun (x3 : Int32) => z_nm (x_2 + (1 : Int32)) (fun (x4 : Int32) => zf_X4_standingCount_4 u n x3 x4))))
def zf_X4_standingCount (u : z_St) : Option Int32 :=
  z_bd2 (zf_X4_standingCount_4 u 5000 (0 : Int32) (0 : Int32)) (fun (y1 : Int32) (y2 : Int32) => some y1)
def zf_X4_gainOf_4 (a_1 : Int32) (u : z_St) : Nat → Int32 → Int32 → Option (Int32 × Int32)
  | 0, _, _ => none
  | n + 1, x_2, x_3 => (if (z_rI u 21 0) ≤ x_3 then some (x_2, x_3) else z_bd (zf_X4_stands u x_3) (fun (r2 : Int32) => (if r2 = (0 : Int32) then z_bd (zf_X4_stands u x_3) (fun (r4 : Int32) => (if r4 = (0 : Int32) then z_nm (x_3 + (1 : Int32)) (fun (x6 : Int32) => zf_X4_gainOf_4 a_1 u n x_2 x6) else z_bd (zf_X4_field u x_3 (2 : Int32)) (fun (r7 : Int32) => (if r7 = a_1 then z_bd (zf_X4_field u x_3 (3 : Int32)) (fun (r10 : Int32) => z_nm (x_2 - r10) (fun (x11 : Int32) => z_nm (x_3 + (1 : Int32)) (fun (x12 : Int32) => zf_X4_gainOf_4 a_1 u n x11 x12))) else z_nm (x_3 + (1 : Int32)) (fun (x9 : Int32) => zf_X4_gainOf_4 a_1 u n x_2 x9))))) else z_bd (zf_X4_field u x_3 (1 : Int32)) (fun (r13 : Int32) => (if r13 = a_1 then z_bd (zf_X4_field u x_3 (3 : Int32)) (fun (r24 : Int32) => z_nm (x_2 + r24) (fun (x25 : Int32) => z_bd (zf_X4_stands u x_3) (fun (r26 : Int32) => (if r26 = (0 : Int32) then z_nm (x_3 + (1 : Int32)) (fun (x28 : Int32) => zf_X4_gainOf_4 a_1 u n x25 x28) else z_bd (zf_X4_field u x_3 (2 : Int32)) (fun (r29 : Int32) => (if r29 = a_1 then z_bd (zf_X4_field u x_3 (3 : Int32)) (fun (r32 : Int32) => z_nm (x25 - r32) (fun (x33 : Int32) => z_nm (x_3 + (1 : Int32)) (fun (x34 : Int32) => zf_X4_gainOf_4 a_1 u n x33 x34))) else z_nm (x_3 + (1 : Int32)) (fun (x31 : Int32) => zf_X4_gainOf_4 a_1 u n x25 x31))))))) else z_bd (zf_X4_stands u x_3) (fun (r15 : Int32) => (if r15 = (0 : Int32) then z_nm (x_3 + (1 : Int32)) (fun (x17 : Int32) => zf_X4_gainOf_4 a_1 u n x_2 x17) else z_bd (zf_X4_field u x_3 (2 : Int32)) (fun (r18 : Int32) => (if r18 = a_1 then z_bd (zf_X4_field u x_3 (3 : Int32)) (fun (r21 : Int32) => z_nm (x_2 - r21) (fun (x22 : Int32) => z_nm (x_3 + (1 : Int32)) (fun (x23 : Int32) => zf_X4_gainOf_4 a_1 u n x22 x23))) else z_nm (x_3 + (1 : Int32)) (fun (x20 : Int32) => zf_X4_gainOf_4 a_1 u n x_2 x20))))))))))
def zf_X4_gainOf (u : z_St) (a_1 : Int32) : Option Int32 :=
  z_bd2 (zf_X4_gainOf_4 a_1 u 5000 (0 : Int32) (0 : Int32)) (fun (y1 : Int32) (y2 : Int32) => some y1)
def zf_X4_riseOf_7 (a_1 : Int32) (u : z_St) : Nat → Int32 → Int32 → Int32 → Option (Int32 × Int32 × Int32)
  | 0, _, _, _ => none
  | n + 1, x_2, x_3, x_4 => (if (z_rI u 21 0) ≤ x_4 then some (x_2, x_3, x_4) else z_bd (zf_X4_stands u x_4) (fun (r2 : Int32) => (if r2 = (0 : Int32) then z_nm (x_4 + (1 : Int32)) (fun (x4 : Int32) => zf_X4_riseOf_7 a_1 u n x_2 x_3 x4) else z_bd (zf_X4_field u x_4 (0 : Int32)) (fun (r5 : Int32) => (if r5 = a_1 then (if x_2 = (-1 : Int32) then z_nm (x_4 + (1 : Int32)) (fun (x10 : Int32) => zf_X4_riseOf_7 a_1 u n x_4 x_4 x10) else z_nm (x_4 + (1 : Int32)) (fun (x9 : Int32) => zf_X4_riseOf_7 a_1 u n x_2 x_4 x9)) else z_nm (x_4 + (1 : Int32)) (fun (x7 : Int32) => zf_X4_riseOf_7 a_1 u n x_2 x_3 x7))))))
def zf_X4_riseOf (u : z_St) (a_1 : Int32) : Option Int32 :=
  z_bd3 (zf_X4_riseOf_7 a_1 u 5000 (-1 : Int32) (-1 : Int32) (0 : Int32)) (fun (y1 : Int32) (y2 : Int32) (y3 : Int32) => (if y1 = (-1 : Int32) then some (0 : Int32) else z_bd (zf_X4_field u y2 (3 : Int32)) (fun (r5 : Int32) => z_bd (zf_X4_field u y1 (3 : Int32)) (fun (r6 : Int32) => some (r5 - r6)))))
def zf_X4_mixSales_5 (u : z_St) : Nat → Int64 → Int32 → Option (Int64 × Int32)
  | 0, _, _ => none
  | n + 1, x_3, x_5 => (if ((z_rI u 21 0) * (7 : Int32)) ≤ x_5 then some (x_3, x_5) else z_gd (z_inb x_5 560) (z_nm (zf_X5_mix x_3 (z_rI u 19 x_5.toNatClampNeg)) (fun (x3 : Int64) => z_nm (x_5 + (1 : Int32)) (fun (x4 : Int32) => zf_X4_mixSales_5 u n x3 x4))))
def zf_X4_mixSales (u : z_St) (a_1 : Int64) : Option Int64 :=
  z_bd2 (zf_X4_mixSales_5 u 5000 a_1 (0 : Int32)) (fun (y1 : Int64) (y2 : Int32) => some y1)
def zf_X5_work (u : z_St) (a_1 : Int32) (a_2 : Int32) (a_3 : Int32) : Option (Int32 × z_St) :=
  (if (zf_X5_within a_1 (0 : Int32) (9 : Int32)) = (0 : Int32) then some ((-2 : Int32), u) else (if (zf_X5_within a_2 (1600 : Int32) (1950 : Int32)) = (0 : Int32) then some ((-2 : Int32), u) else (if (zf_X5_within a_3 a_2 (1950 : Int32)) = (0 : Int32) then some ((-2 : Int32), u) else z_bd (zf_X2_setYears u a_1 a_2 a_3) (fun (u4 : z_St) => some ((1 : Int32), u4)))))
def zf_X5_thing (u : z_St) (a_1 : Int32) : Option (Int32 × z_St) :=
  (if (zf_X5_within a_1 (1 : Int32) (5 : Int32)) = (0 : Int32) then some ((-2 : Int32), u) else z_bd2 (zf_X2_addThing u a_1) (fun (r2 : Int32) (u3 : z_St) => some (r2, u3)))
def zf_X5_part (u : z_St) (a_1 : Int32) (a_2 : Int32) (a_3 : Int32) : Option (Int32 × z_St) :=
  z_bd (zf_X2_hasPart u a_1 a_2) (fun (r1 : Int32) => (if r1 = (0 : Int32) then some ((-2 : Int32), u) else (if (zf_X5_within a_3 (0 : Int32) (1023 : Int32)) = (0 : Int32) then some ((-2 : Int32), u) else z_bd2 (zf_X2_changeWorks u a_1 a_2 a_3) (fun (r4 : Int32) (u5 : z_St) => some (r4, u5)))))
def zf_X5_span (u : z_St) (a_1 : Int32) (a_2 : Int32) (a_3 : Int32) : Option Int32 :=
  z_bd (zf_X2_hasPart u a_1 a_2) (fun (r1 : Int32) => (if r1 = (0 : Int32) then some (-2 : Int32) else (if (zf_X5_within a_3 (0 : Int32) (1 : Int32)) = (0 : Int32) then some (-2 : Int32) else z_bd (zf_X2_worksOf u a_1 a_2) (fun (r4 : Int32) => z_bd (zf_X2_yearOf u r4 a_3) (fun (r5 : Int32) => some r5)))))
def zf_X5_apart (u : z_St) (a_1 : Int32) : Option Int32 :=
  (if (zf_X2_hasThing u a_1) = (0 : Int32) then some (-2 : Int32) else z_bd (zf_X2_strangers u a_1) (fun (r2 : Int32) => some r2))
def zf_X5_date (u : z_St) (a_1 : Int32) (a_2 : Int32) : Option Int32 :=
  (if (zf_X2_hasThing u a_1) = (0 : Int32) then some (-2 : Int32) else (if (zf_X5_within a_2 (0 : Int32) (1 : Int32)) = (0 : Int32) then some (-2 : Int32) else z_bd (zf_X2_strangers u a_1) (fun (r3 : Int32) => (if r3 = (-1 : Int32) then some (-1 : Int32) else z_bd (zf_X2_worksWithout u a_1 r3) (fun (r5 : Int32) => z_bd (zf_X2_yearOf u r5 a_2) (fun (r6 : Int32) => some r6))))))
def zf_X5_hold (u : z_St) (a_1 : Int32) (a_2 : Int32) : Option (Int32 × z_St) :=
  (if (zf_X2_hasThing u a_1) = (0 : Int32) then some ((-2 : Int32), u) else (if (zf_X5_within a_2 (-1 : Int32) (7 : Int32)) = (0 : Int32) then some ((-2 : Int32), u) else z_bd2 (zf_X4_handOver u a_1 a_2) (fun (r3 : Int32) (u4 : z_St) => some (r3, u4))))
def zf_X5_holder (u : z_St) (a_1 : Int32) : Option Int32 :=
  (if (zf_X2_hasThing u a_1) = (0 : Int32) then some (-2 : Int32) else z_bd (zf_X4_holderOf u a_1) (fun (r2 : Int32) => some r2))
def zf_X5_hours (u : z_St) (a_1 : Int32) : Option (Int32 × z_St) :=
  (if (zf_X5_within a_1 (1 : Int32) (20 : Int32)) = (0 : Int32) then some ((-2 : Int32), u) else z_bd2 (zf_X4_passHours u a_1) (fun (r2 : Int32) (u3 : z_St) => some (r2, u3)))
def zf_X5_isDealer (a_0 : Int32) : Int32 :=
  (zf_X5_within a_0 (0 : Int32) (7 : Int32))
def zf_X5_sell (u : z_St) (a_1 : Int32) (a_2 : Int32) (a_3 : Int32) (a_4 : Int32) : Option (Int32 × z_St) :=
  (if (zf_X2_hasThing u a_1) = (0 : Int32) then some ((-2 : Int32), u) else (if (zf_X5_isDealer a_2) = (0 : Int32) then some ((-2 : Int32), u) else (if (zf_X5_within a_3 (0 : Int32) (100000 : Int32)) = (0 : Int32) then some ((-2 : Int32), u) else (if (zf_X5_within a_4 (0 : Int32) (2000 : Int32)) = (0 : Int32) then some ((-2 : Int32), u) else z_bd2 (zf_X4_addSale u a_1 a_2 a_3 a_4) (fun (r5 : Int32) (u6 : z_St) => some (r5, u6))))))
def zf_X5_back (u : z_St) (a_1 : Int32) : Option (Int32 × z_St) :=
  (if (zf_X2_hasThing u a_1) = (0 : Int32) then some ((-2 : Int32), u) else z_bd2 (zf_X4_giveBack u a_1) (fun (r2 : Int32) (u3 : z_St) => some (r2, u3)))
def zf_X5_sale (u : z_St) (a_1 : Int32) (a_2 : Int32) : Option Int32 :=
  (if a_1 < (0 : Int32) then some (-2 : Int32) else (if (zf_X5_within a_2 (0 : Int32) (6 : Int32)) = (0 : Int32) then some (-2 : Int32) else (if a_1 < (zf_X4_saleCount u) then z_bd (zf_X4_field u a_1 a_2) (fun (r4 : Int32) => some r4) else some (-1 : Int32))))
def zf_X5_gain (u : z_St) (a_1 : Int32) : Option Int32 :=
  (if (zf_X5_isDealer a_1) = (0 : Int32) then some (-2000000000 : Int32) else z_bd (zf_X4_gainOf u a_1) (fun (r2 : Int32) => some r2))
def zf_X5_rose (u : z_St) (a_1 : Int32) : Option Int32 :=
  (if (zf_X2_hasThing u a_1) = (0 : Int32) then some (-2000000000 : Int32) else z_bd (zf_X4_riseOf u a_1) (fun (r2 : Int32) => some r2))
def zf_X5_mayHaveWon (a_0 : Int32) (a_1 : Int32) : Int32 :=
  (if a_0 = (0 : Int32) then (if a_1 = (-1 : Int32) then (1 : Int32) else (0 : Int32)) else (if (zf_X5_isDealer a_1) = (0 : Int32) then (0 : Int32) else (if ((a_0 >>> (a_1 &&& (31 : Int32))) &&& (1 : Int32)) = (1 : Int32) then (1 : Int32) else (0 : Int32))))
def zf_X5_lot (u : z_St) (a_1 : Int32) (a_2 : Int32) (a_3 : Int32) : Option (Int32 × z_St) :=
  (if (zf_X5_within a_1 (0 : Int32) (255 : Int32)) = (0 : Int32) then some ((-2 : Int32), u) else (if (zf_X5_within a_2 (0 : Int32) (255 : Int32)) = (0 : Int32) then some ((-2 : Int32), u) else (if (a_2 &&& (a_1 ^^^ (-1 : Int32))) = (0 : Int32) then (if (zf_X5_mayHaveWon a_2 a_3) = (0 : Int32) then some ((-2 : Int32), u) else z_bd2 (zf_X0_addLot u a_1 a_2 a_3) (fun (r5 : Int32) (u6 : z_St) => some (r5, u6))) else some ((-2 : Int32), u))))
def zf_X5_areTwo (a_0 : Int32) (a_1 : Int32) : Int32 :=
  (if (zf_X5_isDealer a_0) = (0 : Int32) then (0 : Int32) else (if (zf_X5_isDealer a_1) = (0 : Int32) then (0 : Int32) else (if a_0 = a_1 then (0 : Int32) else (1 : Int32))))
def zf_X5_both (u : z_St) (a_1 : Int32) (a_2 : Int32) (a_3 : Int32) : Option Int32 :=
  (if (zf_X5_areTwo a_1 a_2) = (0 : Int32) then some (-2 : Int32) else (if (zf_X5_within a_3 (0 : Int32) (3 : Int32)) = (0 : Int32) then some (-2 : Int32) else z_bd (zf_X0_tally u a_1 a_2 a_3) (fun (r3 : Int32) => some r3)))
def zf_X5_chance (u : z_St) (a_1 : Int32) (a_2 : Int32) (a_3 : Int32) : Option Int64 :=
  (if (zf_X5_areTwo a_1 a_2) = (0 : Int32) then some (-2 : Int64) else (if (zf_X5_within a_3 (0 : Int32) (1 : Int32)) = (0 : Int32) then some (-2 : Int64) else z_bd (zf_X0_waysAsShy u a_1 a_2) (fun (r3 : Int64) => z_bd (zf_X0_allWays u a_1 a_2) (fun (r4 : Int64) => z_bd (zf_X0_commonDivisor r3 r4) (fun (r5 : Int64) => z_nm (if r5 < (1 : Int64) then (1 : Int64) else r5) (fun (x6 : Int64) => (if a_3 = (0 : Int32) then z_gd (z_nzL x6) (some (r3 / x6)) else z_gd (z_nzL x6) (some (r4 / x6)))))))))
def zf_X5_shyest (u : z_St) : Option Int32 :=
  z_bd (zf_X0_shyestTwo u) (fun (r1 : Int32) => some r1)
def zf_X5_inside (a_1 : Int32) (a_2 : Int32) (a_3 : Int32) (a_4 : Int32) : Option Int32 :=
  (if (zf_X5_within a_1 (0 : Int32) (255 : Int32)) = (0 : Int32) then some (-2 : Int32) else (if (zf_X5_within a_2 (0 : Int32) (100000 : Int32)) = (0 : Int32) then some (-2 : Int32) else (if (zf_X5_within a_3 a_2 (100000 : Int32)) = (0 : Int32) then some (-2 : Int32) else (if (zf_X5_within a_4 (0 : Int32) (1 : Int32)) = (0 : Int32) then some (-2 : Int32) else z_nm (zf_J6_bitCount_0f7a4 a_1) (fun (x5 : Int32) => (if (2 : Int32) ≤ x5 then z_gd (z_nz x5) (z_nm ((a_3 - a_2) / x5) (fun (x8 : Int32) => (if a_4 = (0 : Int32) then some x8 else some ((a_3 - a_2) - (x8 * (x5 - (1 : Int32))))))) else some (-2 : Int32)))))))
def zf_X5_entry (u : z_St) (a_1 : Int32) : Option (Int32 × z_St) :=
  (if (zf_X5_within a_1 (0 : Int32) (4095 : Int32)) = (0 : Int32) then some ((-2 : Int32), u) else z_bd2 (zf_X3_addEntry u a_1) (fun (r2 : Int32) (u3 : z_St) => some (r2, u3)))
def zf_X5_mark (u : z_St) (a_1 : Int32) (a_2 : Int32) (a_3 : Int32) : Option (Int32 × z_St) :=
  (if (zf_X2_hasThing u a_1) = (0 : Int32) then some ((-2 : Int32), u) else (if (zf_X5_within a_2 (0 : Int32) (11 : Int32)) = (0 : Int32) then some ((-2 : Int32), u) else (if (zf_X5_within a_3 (0 : Int32) (2 : Int32)) = (0 : Int32) then some ((-2 : Int32), u) else z_bd2 (zf_X3_changeMark u a_1 a_2 a_3) (fun (r4 : Int32) (u5 : z_St) => some (r4, u5)))))
def zf_X5_score (u : z_St) (a_1 : Int32) (a_2 : Int32) : Option Int32 :=
  (if (zf_X3_hasEntry u a_1) = (0 : Int32) then some (-1000 : Int32) else (if (zf_X2_hasThing u a_2) = (0 : Int32) then some (-1000 : Int32) else z_bd (zf_X3_scoreOf u a_1 a_2) (fun (r3 : Int32) => some r3)))
def zf_X5_joined (u : z_St) : Option (Int32 × z_St) :=
  (if (zf_X3_isJoinable u) = (0 : Int32) then some ((-3 : Int32), u) else z_bd2 (zf_X3_bestJoin u (zf_X2_thingCount u)) (fun (r2 : Int32) (u3 : z_St) => some ((zf_X3_sumIn r2), u3)))
def zf_X5_joinedTo (u : z_St) (a_1 : Int32) : Option (Int32 × z_St) :=
  (if (zf_X3_hasEntry u a_1) = (0 : Int32) then some ((-2 : Int32), u) else (if (zf_X3_isJoinable u) = (0 : Int32) then some ((-3 : Int32), u) else z_bd2 (zf_X3_bestJoin u (zf_X2_thingCount u)) (fun (r3 : Int32) (u4 : z_St) => z_bd (zf_X3_thingIn r3 a_1) (fun (r5 : Int32) => some (r5, u4)))))
def zf_X5_owe (u : z_St) (a_1 : Int32) (a_2 : Int32) (a_3 : Int32) : Option (Int32 × z_St) :=
  (if (zf_X5_areTwo a_1 a_2) = (0 : Int32) then some ((-2 : Int32), u) else (if (zf_X5_within a_3 (0 : Int32) (10000 : Int32)) = (0 : Int32) then some ((-2 : Int32), u) else z_bd2 (zf_X1_change u a_1 a_2 a_3) (fun (r3 : Int32) (u4 : z_St) => some (r3, u4))))
def zf_X5_net (u : z_St) (a_1 : Int32) : Option Int32 :=
  (if (zf_X5_isDealer a_1) = (0 : Int32) then some (-2000000000 : Int32) else z_bd (zf_X1_netOf u a_1) (fun (r2 : Int32) => some r2))
def zf_X5_fall (u : z_St) (a_1 : Int32) (a_2 : Int32) : Option Int32 :=
  (if (zf_X5_isDealer a_1) = (0 : Int32) then some (-2 : Int32) else (if (zf_X5_within a_2 (0 : Int32) (100000 : Int32)) = (0 : Int32) then some (-2 : Int32) else z_bd (zf_X1_fallFrom u a_1 a_2) (fun (r3 : Int32) => some r3)))
def zf_X5_count (u : z_St) (a_1 : Int32) : Option Int32 :=
  (if a_1 = (0 : Int32) then some (zf_X2_thingCount u) else (if a_1 = (1 : Int32) then some (zf_X4_saleCount u) else (if a_1 = (2 : Int32) then z_bd (zf_X4_standingCount u) (fun (r4 : Int32) => some r4) else (if a_1 = (3 : Int32) then some (zf_X0_lotCount u) else (if a_1 = (4 : Int32) then some (zf_X3_entryCount u) else (if a_1 = (5 : Int32) then some (zf_X4_currentHour u) else (if a_1 = (6 : Int32) then z_bd (zf_X1_total u) (fun (r9 : Int32) => some r9) else some (-2 : Int32))))))))
def zf_X5_digest_6 (u : z_St) : Nat → Int64 → Int32 → Option (Int64 × Int32)
  | 0, _, _ => none
  | n + 1, x_1, x_3 => (if (7 : Int32) ≤ x_3 then some (x_1, x_3) else z_bd (zf_X5_count u x_3) (fun (r2 : Int32) => z_nm (zf_X5_mix x_1 r2) (fun (x3 : Int64) => z_nm (x_3 + (1 : Int32)) (fun (x4 : Int32) => zf_X5_digest_6 u n x3 x4))))
def zf_X5_digest_39 (u : z_St) : Nat → Int64 → Int32 → Option (Int64 × Int32)
  | 0, _, _ => none
  | n + 1, x_1, x_3 => (if (zf_X2_thingCount u) ≤ x_3 then some (x_1, x_3) else z_bd (zf_X2_mixParts u x_1 x_3) (fun (r2 : Int64) => z_bd (zf_X4_holderOf u x_3) (fun (r3 : Int32) => z_nm (zf_X5_mix r2 r3) (fun (x4 : Int64) => z_bd (zf_X3_mixMarks u x4 x_3) (fun (r5 : Int64) => z_nm (x_3 + (1 : Int32)) (fun (x6 : Int32) => zf_X5_digest_39 u n r5 x6))))))
def zf_X5_digest_118 (u : z_St) : Nat → Int64 → Int32 → Option (Int64 × Int32)
  | 0, _, _ => none
  | n + 1, x_1, x_3 => (if (8 : Int32) ≤ x_3 then some (x_1, x_3) else z_bd (zf_X4_gainOf u x_3) (fun (r2 : Int32) => z_nm (zf_X5_mix x_1 r2) (fun (x3 : Int64) => z_bd (zf_X1_netOf u x_3) (fun (r4 : Int32) => z_nm (zf_X5_mix x3 r4) (fun (x5 : Int64) => z_nm (x_3 + (1 : Int32)) (fun (x6 : Int32) => zf_X5_digest_118 u n x5 x6))))))
def zf_X5_digest (u : z_St) : Option Int64 :=
  z_bd2 (zf_X5_digest_6 u 5000 (239 : Int64) (0 : Int32)) (fun (y1 : Int64) (y2 : Int32) => z_bd (zf_X2_mixWorks u y1) (fun (r3 : Int64) => z_bd2 (zf_X5_digest_39 u 5000 r3 (0 : Int32)) (fun (y4 : Int64) (y5 : Int32) => z_bd (zf_X4_mixSales u y4) (fun (r6 : Int64) => z_bd (zf_X0_mixLots u r6) (fun (r7 : Int64) => z_bd (zf_X3_mixEntries u r7) (fun (r8 : Int64) => z_bd2 (zf_X5_digest_118 u 5000 r8 (0 : Int32)) (fun (y9 : Int64) (y10 : Int32) => some y9)))))))
