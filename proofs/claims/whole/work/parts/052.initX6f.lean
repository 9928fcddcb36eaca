def zf_X6_init_213 : Nat → Int32 → z_St → Option (Int32 × z_St)
  | 0, _, _ => none
  | n + 1, x_1, u => (if (10 : Int32) ≤ x_1 then some (x_1, u) else z_gd (z_inb x_1 10) (z_nm (z_wI u 0 x_1.toNatClampNeg (1600 : Int32)) (fun (u3 : z_St) => z_gd (z_inb x_1 10) (z_nm (z_wI u3 1 x_1.toNatClampNeg (1950 : Int32)) (fun (u5 : z_St) => z_nm (x_1 + (1 : Int32)) (fun (x6 : Int32) => zf_X6_init_213 n x6 u5))))))
def zf_X6_init_253 (a_1 : Int32) : Nat → Int32 → z_St → Option (Int32 × z_St)
  | 0, _, _ => none
  | n + 1, x_2, u => (if a_1 < x_2 then some (x_2, u) else (if x_2 = (0 : Int32) then z_gd (z_inb (((41 : Int32) * a_1) + x_2) 1681) (z_nm (z_wL u 25 (((41 : Int32) * a_1) + x_2).toNatClampNeg (1 : Int64)) (fun (u4 : z_St) => z_nm (x_2 + (1 : Int32)) (fun (x5 : Int32) => zf_X6_init_253 a_1 n x5 u4))) else (if x_2 = a_1 then z_gd (z_inb (((41 : Int32) * a_1) + x_2) 1681) (z_nm (z_wL u 25 (((41 : Int32) * a_1) + x_2).toNatClampNeg (1 : Int64)) (fun (u13 : z_St) => z_nm (x_2 + (1 : Int32)) (fun (x14 : Int32) => zf_X6_init_253 a_1 n x14 u13))) else z_gd (z_inb ((((41 : Int32) * (a_1 - (1 : Int32))) + x_2) - (1 : Int32)) 1681) (z_gd (z_inb (((41 : Int32) * (a_1 - (1 : Int32))) + x_2) 1681) (z_gd (z_inb (((41 : Int32) * a_1) + x_2) 1681) (z_nm (z_wL u 25 (((41 : Int32) * a_1) + x_2).toNatClampNeg ((z_rL u 25 ((((41 : Int32) * (a_1 - (1 : Int32))) + x_2) - (1 : Int32)).toNatClampNeg) + (z_rL u 25 (((41 : Int32) * (a_1 - (1 : Int32))) + x_2).toNatClampNeg))) (fun (u10 : z_St) => z_nm (x_2 + (1 : Int32)) (fun (x11 : Int32) => zf_X6_init_253 a_1 n x11 u10))))))))
def zf_X6_init_245 : Nat → Int32 → z_St → Option (Int32 × z_St)
  | 0, _, _ => none
  | n + 1, x_1, u => (if (41 : Int32) ≤ x_1 then some (x_1, u) else z_bd2 (zf_X6_init_253 x_1 5000 (0 : Int32) u) (fun (y2 : Int32) (u3 : z_St) => z_nm (x_1 + (1 : Int32)) (fun (x4 : Int32) => zf_X6_init_245 n x4 u3)))
def zf_X6_init (u : z_St) : Option z_St :=
  z_bd2 (zf_X6_init_213 5000 (0 : Int32) u) (fun (y1 : Int32) (u2 : z_St) => z_bd2 (zf_X6_init_245 5000 (0 : Int32) u2) (fun (y3 : Int32) (u4 : z_St) => some u4))
