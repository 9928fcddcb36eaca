theorem zk_16_17 (w : z_St) (j : Nat) (v : Int32) : z_rI (z_wI w 16 j v) 17 = z_rI w 17 := rfl
theorem zk_16_18 (w : z_St) (j : Nat) (v : Int32) : z_rI (z_wI w 16 j v) 18 = z_rI w 18 := rfl
theorem zk_16_19 (w : z_St) (j : Nat) (v : Int32) : z_rI (z_wI w 16 j v) 19 = z_rI w 19 := rfl
theorem zk_16_20 (w : z_St) (j : Nat) (v : Int32) : z_rI (z_wI w 16 j v) 20 = z_rI w 20 := rfl
theorem zk_16_21 (w : z_St) (j : Nat) (v : Int32) : z_rI (z_wI w 16 j v) 21 = z_rI w 21 := rfl
theorem zk_16_22 (w : z_St) (j : Nat) (v : Int32) : z_rI (z_wI w 16 j v) 22 = z_rI w 22 := rfl
theorem zk_17_16 (w : z_St) (j : Nat) (v : Int32) : z_rI (z_wI w 17 j v) 16 = z_rI w 16 := rfl
theorem zk_17_18 (w : z_St) (j : Nat) (v : Int32) : z_rI (z_wI w 17 j v) 18 = z_rI w 18 := rfl
theorem zk_17_19 (w : z_St) (j : Nat) (v : Int32) : z_rI (z_wI w 17 j v) 19 = z_rI w 19 := rfl
theorem zk_17_20 (w : z_St) (j : Nat) (v : Int32) : z_rI (z_wI w 17 j v) 20 = z_rI w 20 := rfl
theorem zk_17_21 (w : z_St) (j : Nat) (v : Int32) : z_rI (z_wI w 17 j v) 21 = z_rI w 21 := rfl
theorem zk_17_22 (w : z_St) (j : Nat) (v : Int32) : z_rI (z_wI w 17 j v) 22 = z_rI w 22 := rfl
theorem zk_18_16 (w : z_St) (j : Nat) (v : Int32) : z_rI (z_wI w 18 j v) 16 = z_rI w 16 := rfl
theorem zk_18_17 (w : z_St) (j : Nat) (v : Int32) : z_rI (z_wI w 18 j v) 17 = z_rI w 17 := rfl
theorem zk_18_19 (w : z_St) (j : Nat) (v : Int32) : z_rI (z_wI w 18 j v) 19 = z_rI w 19 := rfl
theorem zk_18_20 (w : z_St) (j : Nat) (v : Int32) : z_rI (z_wI w 18 j v) 20 = z_rI w 20 := rfl
theorem zk_18_21 (w : z_St) (j : Nat) (v : Int32) : z_rI (z_wI w 18 j v) 21 = z_rI w 21 := rfl
theorem zk_18_22 (w : z_St) (j : Nat) (v : Int32) : z_rI (z_wI w 18 j v) 22 = z_rI w 22 := rfl
theorem zk_19_16 (w : z_St) (j : Nat) (v : Int32) : z_rI (z_wI w 19 j v) 16 = z_rI w 16 := rfl
theorem zk_19_17 (w : z_St) (j : Nat) (v : Int32) : z_rI (z_wI w 19 j v) 17 = z_rI w 17 := rfl
theorem zk_19_18 (w : z_St) (j : Nat) (v : Int32) : z_rI (z_wI w 19 j v) 18 = z_rI w 18 := rfl
theorem zk_19_20 (w : z_St) (j : Nat) (v : Int32) : z_rI (z_wI w 19 j v) 20 = z_rI w 20 := rfl
theorem zk_19_21 (w : z_St) (j : Nat) (v : Int32) : z_rI (z_wI w 19 j v) 21 = z_rI w 21 := rfl
theorem zk_19_22 (w : z_St) (j : Nat) (v : Int32) : z_rI (z_wI w 19 j v) 22 = z_rI w 22 := rfl
theorem zk_20_16 (w : z_St) (j : Nat) (v : Int32) : z_rI (z_wI w 20 j v) 16 = z_rI w 16 := rfl
theorem zk_20_17 (w : z_St) (j : Nat) (v : Int32) : z_rI (z_wI w 20 j v) 17 = z_rI w 17 := rfl
theorem zk_20_18 (w : z_St) (j : Nat) (v : Int32) : z_rI (z_wI w 20 j v) 18 = z_rI w 18 := rfl
theorem zk_20_19 (w : z_St) (j : Nat) (v : Int32) : z_rI (z_wI w 20 j v) 19 = z_rI w 19 := rfl
theorem zk_20_21 (w : z_St) (j : Nat) (v : Int32) : z_rI (z_wI w 20 j v) 21 = z_rI w 21 := rfl
theorem zk_20_22 (w : z_St) (j : Nat) (v : Int32) : z_rI (z_wI w 20 j v) 22 = z_rI w 22 := rfl
theorem zk_21_16 (w : z_St) (j : Nat) (v : Int32) : z_rI (z_wI w 21 j v) 16 = z_rI w 16 := rfl
theorem zk_21_17 (w : z_St) (j : Nat) (v : Int32) : z_rI (z_wI w 21 j v) 17 = z_rI w 17 := rfl
theorem zk_21_18 (w : z_St) (j : Nat) (v : Int32) : z_rI (z_wI w 21 j v) 18 = z_rI w 18 := rfl
theorem zk_21_19 (w : z_St) (j : Nat) (v : Int32) : z_rI (z_wI w 21 j v) 19 = z_rI w 19 := rfl
theorem zk_21_20 (w : z_St) (j : Nat) (v : Int32) : z_rI (z_wI w 21 j v) 20 = z_rI w 20 := rfl
theorem zk_21_22 (w : z_St) (j : Nat) (v : Int32) : z_rI (z_wI w 21 j v) 22 = z_rI w 22 := rfl
theorem zk_22_16 (w : z_St) (j : Nat) (v : Int32) : z_rI (z_wI w 22 j v) 16 = z_rI w 16 := rfl
theorem zk_22_17 (w : z_St) (j : Nat) (v : Int32) : z_rI (z_wI w 22 j v) 17 = z_rI w 17 := rfl
theorem zk_22_18 (w : z_St) (j : Nat) (v : Int32) : z_rI (z_wI w 22 j v) 18 = z_rI w 18 := rfl
theorem zk_22_19 (w : z_St) (j : Nat) (v : Int32) : z_rI (z_wI w 22 j v) 19 = z_rI w 19 := rfl
theorem zk_22_20 (w : z_St) (j : Nat) (v : Int32) : z_rI (z_wI w 22 j v) 20 = z_rI w 20 := rfl
theorem zk_22_21 (w : z_St) (j : Nat) (v : Int32) : z_rI (z_wI w 22 j v) 21 = z_rI w 21 := rfl
theorem zk_5_6 (w : z_St) (j : Nat) (v : Int32) : z_rI (z_wI w 5 j v) 6 = z_rI w 6 := rfl
theorem zk_5_11 (w : z_St) (j : Nat) (v : Int32) : z_rI (z_wI w 5 j v) 11 = z_rI w 11 := rfl
theorem zk_5_12 (w : z_St) (j : Nat) (v : Int32) : z_rI (z_wI w 5 j v) 12 = z_rI w 12 := rfl
theorem zk_5_13 (w : z_St) (j : Nat) (v : Int32) : z_rI (z_wI w 5 j v) 13 = z_rI w 13 := rfl
theorem zk_5_14 (w : z_St) (j : Nat) (v : Int32) : z_rI (z_wI w 5 j v) 14 = z_rI w 14 := rfl
theorem zk_5_15 (w : z_St) (j : Nat) (v : Int32) : z_rI (z_wI w 5 j v) 15 = z_rI w 15 := rfl
theorem zk_5_16 (w : z_St) (j : Nat) (v : Int32) : z_rI (z_wI w 5 j v) 16 = z_rI w 16 := rfl
theorem zk_5_17 (w : z_St) (j : Nat) (v : Int32) : z_rI (z_wI w 5 j v) 17 = z_rI w 17 := rfl
theorem zk_5_18 (w : z_St) (j : Nat) (v : Int32) : z_rI (z_wI w 5 j v) 18 = z_rI w 18 := rfl
theorem zk_5_19 (w : z_St) (j : Nat) (v : Int32) : z_rI (z_wI w 5 j v) 19 = z_rI w 19 := rfl
theorem zk_5_20 (w : z_St) (j : Nat) (v : Int32) : z_rI (z_wI w 5 j v) 20 = z_rI w 20 := rfl
theorem zk_6_5 (w : z_St) (j : Nat) (v : Int32) : z_rI (z_wI w 6 j v) 5 = z_rI w 5 := rfl
theorem zk_6_11 (w : z_St) (j : Nat) (v : Int32) : z_rI (z_wI w 6 j v) 11 = z_rI w 11 := rfl
theorem zk_6_12 (w : z_St) (j : Nat) (v : Int32) : z_rI (z_wI w 6 j v) 12 = z_rI w 12 := rfl
theorem zk_6_13 (w : z_St) (j : Nat) (v : Int32) : z_rI (z_wI w 6 j v) 13 = z_rI w 13 := rfl
theorem zk_6_14 (w : z_St) (j : Nat) (v : Int32) : z_rI (z_wI w 6 j v) 14 = z_rI w 14 := rfl
theorem zk_6_15 (w : z_St) (j : Nat) (v : Int32) : z_rI (z_wI w 6 j v) 15 = z_rI w 15 := rfl
theorem zk_6_16 (w : z_St) (j : Nat) (v : Int32) : z_rI (z_wI w 6 j v) 16 = z_rI w 16 := rfl
theorem zk_6_17 (w : z_St) (j : Nat) (v : Int32) : z_rI (z_wI w 6 j v) 17 = z_rI w 17 := rfl
theorem zk_6_18 (w : z_St) (j : Nat) (v : Int32) : z_rI (z_wI w 6 j v) 18 = z_rI w 18 := rfl
theorem zk_6_19 (w : z_St) (j : Nat) (v : Int32) : z_rI (z_wI w 6 j v) 19 = z_rI w 19 := rfl
theorem zk_6_20 (w : z_St) (j : Nat) (v : Int32) : z_rI (z_wI w 6 j v) 20 = z_rI w 20 := rfl
theorem zk_11_5 (w : z_St) (j : Nat) (v : Int32) : z_rI (z_wI w 11 j v) 5 = z_rI w 5 := rfl
theorem zk_11_6 (w : z_St) (j : Nat) (v : Int32) : z_rI (z_wI w 11 j v) 6 = z_rI w 6 := rfl
theorem zk_11_12 (w : z_St) (j : Nat) (v : Int32) : z_rI (z_wI w 11 j v) 12 = z_rI w 12 := rfl
theorem zk_11_13 (w : z_St) (j : Nat) (v : Int32) : z_rI (z_wI w 11 j v) 13 = z_rI w 13 := rfl
theorem zk_11_14 (w : z_St) (j : Nat) (v : Int32) : z_rI (z_wI w 11 j v) 14 = z_rI w 14 := rfl
theorem zk_11_15 (w : z_St) (j : Nat) (v : Int32) : z_rI (z_wI w 11 j v) 15 = z_rI w 15 := rfl
theorem zk_11_16 (w : z_St) (j : Nat) (v : Int32) : z_rI (z_wI w 11 j v) 16 = z_rI w 16 := rfl
theorem zk_11_17 (w : z_St) (j : Nat) (v : Int32) : z_rI (z_wI w 11 j v) 17 = z_rI w 17 := rfl
theorem zk_11_18 (w : z_St) (j : Nat) (v : Int32) : z_rI (z_wI w 11 j v) 18 = z_rI w 18 := rfl
theorem zk_11_19 (w : z_St) (j : Nat) (v : Int32) : z_rI (z_wI w 11 j v) 19 = z_rI w 19 := rfl
theorem zk_11_20 (w : z_St) (j : Nat) (v : Int32) : z_rI (z_wI w 11 j v) 20 = z_rI w 20 := rfl
theorem zk_12_5 (w : z_St) (j : Nat) (v : Int32) : z_rI (z_wI w 12 j v) 5 = z_rI w 5 := rfl
theorem zk_12_6 (w : z_St) (j : Nat) (v : Int32) : z_rI (z_wI w 12 j v) 6 = z_rI w 6 := rfl
theorem zk_12_11 (w : z_St) (j : Nat) (v : Int32) : z_rI (z_wI w 12 j v) 11 = z_rI w 11 := rfl
theorem zk_12_13 (w : z_St) (j : Nat) (v : Int32) : z_rI (z_wI w 12 j v) 13 = z_rI w 13 := rfl
theorem zk_12_14 (w : z_St) (j : Nat) (v : Int32) : z_rI (z_wI w 12 j v) 14 = z_rI w 14 := rfl
theorem zk_12_15 (w : z_St) (j : Nat) (v : Int32) : z_rI (z_wI w 12 j v) 15 = z_rI w 15 := rfl
theorem zk_12_16 (w : z_St) (j : Nat) (v : Int32) : z_rI (z_wI w 12 j v) 16 = z_rI w 16 := rfl
theorem zk_12_17 (w : z_St) (j : Nat) (v : Int32) : z_rI (z_wI w 12 j v) 17 = z_rI w 17 := rfl
theorem zk_12_18 (w : z_St) (j : Nat) (v : Int32) : z_rI (z_wI w 12 j v) 18 = z_rI w 18 := rfl
theorem zk_12_19 (w : z_St) (j : Nat) (v : Int32) : z_rI (z_wI w 12 j v) 19 = z_rI w 19 := rfl
theorem zk_12_20 (w : z_St) (j : Nat) (v : Int32) : z_rI (z_wI w 12 j v) 20 = z_rI w 20 := rfl
theorem zk_13_5 (w : z_St) (j : Nat) (v : Int32) : z_rI (z_wI w 13 j v) 5 = z_rI w 5 := rfl
theorem zk_13_6 (w : z_St) (j : Nat) (v : Int32) : z_rI (z_wI w 13 j v) 6 = z_rI w 6 := rfl
theorem zk_13_11 (w : z_St) (j : Nat) (v : Int32) : z_rI (z_wI w 13 j v) 11 = z_rI w 11 := rfl
theorem zk_13_12 (w : z_St) (j : Nat) (v : Int32) : z_rI (z_wI w 13 j v) 12 = z_rI w 12 := rfl
theorem zk_13_14 (w : z_St) (j : Nat) (v : Int32) : z_rI (z_wI w 13 j v) 14 = z_rI w 14 := rfl
theorem zk_13_15 (w : z_St) (j : Nat) (v : Int32) : z_rI (z_wI w 13 j v) 15 = z_rI w 15 := rfl
theorem zk_13_16 (w : z_St) (j : Nat) (v : Int32) : z_rI (z_wI w 13 j v) 16 = z_rI w 16 := rfl
theorem zk_13_17 (w : z_St) (j : Nat) (v : Int32) : z_rI (z_wI w 13 j v) 17 = z_rI w 17 := rfl
theorem zk_13_18 (w : z_St) (j : Nat) (v : Int32) : z_rI (z_wI w 13 j v) 18 = z_rI w 18 := rfl
theorem zk_13_19 (w : z_St) (j : Nat) (v : Int32) : z_rI (z_wI w 13 j v) 19 = z_rI w 19 := rfl
theorem zk_13_20 (w : z_St) (j : Nat) (v : Int32) : z_rI (z_wI w 13 j v) 20 = z_rI w 20 := rfl
theorem zk_14_5 (w : z_St) (j : Nat) (v : Int32) : z_rI (z_wI w 14 j v) 5 = z_rI w 5 := rfl
theorem zk_14_6 (w : z_St) (j : Nat) (v : Int32) : z_rI (z_wI w 14 j v) 6 = z_rI w 6 := rfl
theorem zk_14_11 (w : z_St) (j : Nat) (v : Int32) : z_rI (z_wI w 14 j v) 11 = z_rI w 11 := rfl
theorem zk_14_12 (w : z_St) (j : Nat) (v : Int32) : z_rI (z_wI w 14 j v) 12 = z_rI w 12 := rfl
theorem zk_14_13 (w : z_St) (j : Nat) (v : Int32) : z_rI (z_wI w 14 j v) 13 = z_rI w 13 := rfl
theorem zk_14_15 (w : z_St) (j : Nat) (v : Int32) : z_rI (z_wI w 14 j v) 15 = z_rI w 15 := rfl
theorem zk_14_16 (w : z_St) (j : Nat) (v : Int32) : z_rI (z_wI w 14 j v) 16 = z_rI w 16 := rfl
theorem zk_14_17 (w : z_St) (j : Nat) (v : Int32) : z_rI (z_wI w 14 j v) 17 = z_rI w 17 := rfl
theorem zk_14_18 (w : z_St) (j : Nat) (v : Int32) : z_rI (z_wI w 14 j v) 18 = z_rI w 18 := rfl
theorem zk_14_19 (w : z_St) (j : Nat) (v : Int32) : z_rI (z_wI w 14 j v) 19 = z_rI w 19 := rfl
theorem zk_14_20 (w : z_St) (j : Nat) (v : Int32) : z_rI (z_wI w 14 j v) 20 = z_rI w 20 := rfl
theorem zk_15_5 (w : z_St) (j : Nat) (v : Int32) : z_rI (z_wI w 15 j v) 5 = z_rI w 5 := rfl
theorem zk_15_6 (w : z_St) (j : Nat) (v : Int32) : z_rI (z_wI w 15 j v) 6 = z_rI w 6 := rfl
theorem zk_15_11 (w : z_St) (j : Nat) (v : Int32) : z_rI (z_wI w 15 j v) 11 = z_rI w 11 := rfl
theorem zk_15_12 (w : z_St) (j : Nat) (v : Int32) : z_rI (z_wI w 15 j v) 12 = z_rI w 12 := rfl
theorem zk_15_13 (w : z_St) (j : Nat) (v : Int32) : z_rI (z_wI w 15 j v) 13 = z_rI w 13 := rfl
theorem zk_15_14 (w : z_St) (j : Nat) (v : Int32) : z_rI (z_wI w 15 j v) 14 = z_rI w 14 := rfl
theorem zk_15_16 (w : z_St) (j : Nat) (v : Int32) : z_rI (z_wI w 15 j v) 16 = z_rI w 16 := rfl
theorem zk_15_17 (w : z_St) (j : Nat) (v : Int32) : z_rI (z_wI w 15 j v) 17 = z_rI w 17 := rfl
theorem zk_15_18 (w : z_St) (j : Nat) (v : Int32) : z_rI (z_wI w 15 j v) 18 = z_rI w 18 := rfl
theorem zk_15_19 (w : z_St) (j : Nat) (v : Int32) : z_rI (z_wI w 15 j v) 19 = z_rI w 19 := rfl
theorem zk_15_20 (w : z_St) (j : Nat) (v : Int32) : z_rI (z_wI w 15 j v) 20 = z_rI w 20 := rfl
theorem zk_16_5 (w : z_St) (j : Nat) (v : Int32) : z_rI (z_wI w 16 j v) 5 = z_rI w 5 := rfl
theorem zk_16_6 (w : z_St) (j : Nat) (v : Int32) : z_rI (z_wI w 16 j v) 6 = z_rI w 6 := rfl
theorem zk_16_11 (w : z_St) (j : Nat) (v : Int32) : z_rI (z_wI w 16 j v) 11 = z_rI w 11 := rfl
theorem zk_16_12 (w : z_St) (j : Nat) (v : Int32) : z_rI (z_wI w 16 j v) 12 = z_rI w 12 := rfl
theorem zk_16_13 (w : z_St) (j : Nat) (v : Int32) : z_rI (z_wI w 16 j v) 13 = z_rI w 13 := rfl
theorem zk_16_14 (w : z_St) (j : Nat) (v : Int32) : z_rI (z_wI w 16 j v) 14 = z_rI w 14 := rfl
theorem zk_16_15 (w : z_St) (j : Nat) (v : Int32) : z_rI (z_wI w 16 j v) 15 = z_rI w 15 := rfl
theorem zk_17_5 (w : z_St) (j : Nat) (v : Int32) : z_rI (z_wI w 17 j v) 5 = z_rI w 5 := rfl
theorem zk_17_6 (w : z_St) (j : Nat) (v : Int32) : z_rI (z_wI w 17 j v) 6 = z_rI w 6 := rfl
theorem zk_17_11 (w : z_St) (j : Nat) (v : Int32) : z_rI (z_wI w 17 j v) 11 = z_rI w 11 := rfl
theorem zk_17_12 (w : z_St) (j : Nat) (v : Int32) : z_rI (z_wI w 17 j v) 12 = z_rI w 12 := rfl
theorem zk_17_13 (w : z_St) (j : Nat) (v : Int32) : z_rI (z_wI w 17 j v) 13 = z_rI w 13 := rfl
theorem zk_17_14 (w : z_St) (j : Nat) (v : Int32) : z_rI (z_wI w 17 j v) 14 = z_rI w 14 := rfl
theorem zk_17_15 (w : z_St) (j : Nat) (v : Int32) : z_rI (z_wI w 17 j v) 15 = z_rI w 15 := rfl
theorem zk_18_5 (w : z_St) (j : Nat) (v : Int32) : z_rI (z_wI w 18 j v) 5 = z_rI w 5 := rfl
theorem zk_18_6 (w : z_St) (j : Nat) (v : Int32) : z_rI (z_wI w 18 j v) 6 = z_rI w 6 := rfl
theorem zk_18_11 (w : z_St) (j : Nat) (v : Int32) : z_rI (z_wI w 18 j v) 11 = z_rI w 11 := rfl
theorem zk_18_12 (w : z_St) (j : Nat) (v : Int32) : z_rI (z_wI w 18 j v) 12 = z_rI w 12 := rfl
theorem zk_18_13 (w : z_St) (j : Nat) (v : Int32) : z_rI (z_wI w 18 j v) 13 = z_rI w 13 := rfl
theorem zk_18_14 (w : z_St) (j : Nat) (v : Int32) : z_rI (z_wI w 18 j v) 14 = z_rI w 14 := rfl
theorem zk_18_15 (w : z_St) (j : Nat) (v : Int32) : z_rI (z_wI w 18 j v) 15 = z_rI w 15 := rfl
theorem zk_19_5 (w : z_St) (j : Nat) (v : Int32) : z_rI (z_wI w 19 j v) 5 = z_rI w 5 := rfl
theorem zk_19_6 (w : z_St) (j : Nat) (v : Int32) : z_rI (z_wI w 19 j v) 6 = z_rI w 6 := rfl
theorem zk_19_11 (w : z_St) (j : Nat) (v : Int32) : z_rI (z_wI w 19 j v) 11 = z_rI w 11 := rfl
theorem zk_19_12 (w : z_St) (j : Nat) (v : Int32) : z_rI (z_wI w 19 j v) 12 = z_rI w 12 := rfl
theorem zk_19_13 (w : z_St) (j : Nat) (v : Int32) : z_rI (z_wI w 19 j v) 13 = z_rI w 13 := rfl
theorem zk_19_14 (w : z_St) (j : Nat) (v : Int32) : z_rI (z_wI w 19 j v) 14 = z_rI w 14 := rfl
theorem zk_19_15 (w : z_St) (j : Nat) (v : Int32) : z_rI (z_wI w 19 j v) 15 = z_rI w 15 := rfl
theorem zk_20_5 (w : z_St) (j : Nat) (v : Int32) : z_rI (z_wI w 20 j v) 5 = z_rI w 5 := rfl
theorem zk_20_6 (w : z_St) (j : Nat) (v : Int32) : z_rI (z_wI w 20 j v) 6 = z_rI w 6 := rfl
theorem zk_20_11 (w : z_St) (j : Nat) (v : Int32) : z_rI (z_wI w 20 j v) 11 = z_rI w 11 := rfl
theorem zk_20_12 (w : z_St) (j : Nat) (v : Int32) : z_rI (z_wI w 20 j v) 12 = z_rI w 12 := rfl
theorem zk_20_13 (w : z_St) (j : Nat) (v : Int32) : z_rI (z_wI w 20 j v) 13 = z_rI w 13 := rfl
theorem zk_20_14 (w : z_St) (j : Nat) (v : Int32) : z_rI (z_wI w 20 j v) 14 = z_rI w 14 := rfl
theorem zk_20_15 (w : z_St) (j : Nat) (v : Int32) : z_rI (z_wI w 20 j v) 15 = z_rI w 15 := rfl
theorem z_us0 (f : Nat → Int32) (v : Int32) : upd f 0 v 0 = v := rfl
theorem z_soldA (um : z_St) (a : Int32) {S : Nat} (hS : z_rI um 12 0 = nI S) (h80 : S ≤ 80) : ∀ (k i n : Nat), i + k = S → k < n → zf_X6_wasSoldNow_4 a um n 1 (nI i) = some (1, nI S) := by
  intro k
  induction k with
  | zero =>
    intro i n hi h1
    have hi : i = S := by omega
    subst hi
    obtain ⟨m1, rfl⟩ : ∃ m, n = m + 1 := ⟨n - 1, by omega⟩
    rw [zf_X6_wasSoldNow_4.eq_2, hS, if_pos (z_hi i)]
  | succ k ih =>
    intro i n hi h1
    obtain ⟨m1, rfl⟩ : ∃ m, n = m + 1 := ⟨n - 1, by omega⟩
    have c := z_lo (show i < S by omega) (by omega)
    have z1 : ¬ (1 : Int32) = 0 := by decide
    rw [zf_X6_wasSoldNow_4.eq_2]
    simp only [hS, c, if_false, z1, z_nm, z_n1]
    exact ih (i + 1) m1 (by omega) (by omega)
theorem z_soldB (um : z_St) (a : Int32) {S : Nat} (hS : z_rI um 12 0 = nI S) (h80 : S ≤ 80) : ∀ (k i n : Nat), i + k = S → k < n → (∀ x, i ≤ x → x < S → ¬ (z_rI um 13 x = a ∧ z_rI um 17 x = z_rI um 11 0)) → zf_X6_wasSoldNow_4 a um n 0 (nI i) = some (0, nI S) := by
  intro k
  induction k with
  | zero =>
    intro i n hi h1 hn
    have hi : i = S := by omega
    subst hi
    obtain ⟨m1, rfl⟩ : ∃ m, n = m + 1 := ⟨n - 1, by omega⟩
    rw [zf_X6_wasSoldNow_4.eq_2, hS, if_pos (z_hi i)]
  | succ k ih =>
    intro i n hi h1 hn
    obtain ⟨m1, rfl⟩ : ∃ m, n = m + 1 := ⟨n - 1, by omega⟩
    have c := z_lo (show i < S by omega) (by omega)
    have i1 : z_inb (nI i) 80 = true := z_inb_t (by omega) (by decide)
    have i2 : (nI i).toNatClampNeg = i := z_cl (by omega)
    have hnext := ih (i + 1) m1 (by omega) (by omega) (fun x h1 h2 => hn x (by omega) h2)
    have hi' := hn i (Nat.le_refl i) (by omega)
    rw [zf_X6_wasSoldNow_4.eq_2]
    simp only [hS, c, if_false, if_true, z_nm, z_n1, i1, i2, z_gd, cond_true]
    by_cases c1 : z_rI um 13 i = a
    · have c2 : ¬ z_rI um 17 i = z_rI um 11 0 := fun q => hi' ⟨c1, q⟩
      simp only [c1, c2, if_true, if_false]
      exact hnext
    · simp only [c1, if_false]
      exact hnext
theorem z_soldC (um : z_St) (a : Int32) {S : Nat} (hS : z_rI um 12 0 = nI S) (h80 : S ≤ 80) : ∀ (k i n : Nat), i + k = S → k < n → (∃ x, i ≤ x ∧ x < S ∧ z_rI um 13 x = a ∧ z_rI um 17 x = z_rI um 11 0) → zf_X6_wasSoldNow_4 a um n 0 (nI i) = some (1, nI S) := by
  intro k
  induction k with
  | zero =>
    intro i n hi h1 hn
    obtain ⟨x, q1, q2, -⟩ := hn
    omega
  | succ k ih =>
    intro i n hi h1 hn
    obtain ⟨m1, rfl⟩ : ∃ m, n = m + 1 := ⟨n - 1, by omega⟩
    have c := z_lo (show i < S by omega) (by omega)
    have i1 : z_inb (nI i) 80 = true := z_inb_t (by omega) (by decide)
    have i2 : (nI i).toNatClampNeg = i := z_cl (by omega)
    rw [zf_X6_wasSoldNow_4.eq_2]
    simp only [hS, c, if_false, if_true, z_nm, z_n1, i1, i2, z_gd, cond_true]
    by_cases c1 : z_rI um 13 i = a
    · by_cases c2 : z_rI um 17 i = z_rI um 11 0
      · simp only [c1, c2, if_true]
        exact z_soldA um a hS h80 k (i + 1) m1 (by omega) (by omega)
      · simp only [c1, c2, if_true, if_false]
        obtain ⟨x, q1, q2, q3, q4⟩ := hn
        refine ih (i + 1) m1 (by omega) (by omega) ⟨x, ?_, q2, q3, q4⟩
        rcases Nat.lt_or_ge i x with q | q
        · omega
        · have e : x = i := by omega
          subst e
          exact absurd q4 c2
    · simp only [c1, if_false]
      obtain ⟨x, q1, q2, q3, q4⟩ := hn
      refine ih (i + 1) m1 (by omega) (by omega) ⟨x, ?_, q2, q3, q4⟩
      rcases Nat.lt_or_ge i x with q | q
      · omega
      · have e : x = i := by omega
        subst e
        exact absurd q3 c1
theorem z_was {T S h : Nat} {ux um : z_St} (hT : zR_T T S h ux um) (hh : h < 2 ^ 31) {t : Nat} (ht : t < T) (hT12 : T ≤ 12) : zf_X6_wasSoldNow um (nI t) = some (if z_rI ux 18 t = nI h then 1 else 0) := by
  obtain ⟨t1, t2, t3, t4, t5, t6, t7, t8, t9, t10, t11, t12⟩ := id hT
  unfold zf_X6_wasSoldNow
  by_cases c : z_rI ux 18 t = nI h
  · rw [if_pos c]
    refine z_bd2_e (z_soldC um (nI t) t2 t3 S 0 5000 (by omega) (by omega) ?_)
    rcases t11 t ht with q | ⟨x, q1, q2, q3⟩
    · rw [c] at q
      exact absurd q (z_nIne hh)
    · exact ⟨x, by omega, q1, q2, by rw [q3, c, t5]⟩
  · rw [if_neg c]
    refine z_bd2_e (z_soldB um (nI t) t2 t3 S 0 5000 (by omega) (by omega) ?_)
    rintro x - hx ⟨q1, q2⟩
    obtain ⟨g, g2, y1, y2, y3, y4⟩ := t12 x t hx ht q1
    rw [q2, t5, nI_eq hh (by omega)] at y1
    exact c (by rw [y2]; congr 1; omega)
theorem zq_sell {k : Nat} {ux um : z_St} (hk : k < 512) (hR : zR k ux um) (a1 a2 a3 a4 : Int32) : ∃ (r : Int32) (vx : z_St) (vm : z_St), zf_X5_sell ux a1 a2 a3 a4 = some (r, vx) ∧ zf_X6_sell um a1 a2 a3 a4 = some (r, vm) ∧ zR (k + 1) vx vm := by
  obtain ⟨T, S, L, E, h, hP, hT, hA, hS, hD, hh⟩ := id hR
  have n1 := zm_no a1 hP.2.1
  have x1 := zx_has a1 hP.1
  have z1 : ¬ (1 : Int32) = 0 := by decide
  have hT12 := hP.2.2.1
  by_cases c1 : zf_X5_within a1 0 (nI T - 1) = 0
  · rw [if_pos c1] at n1
    exact ⟨-2, ux, um, by simp only [zf_X5_sell, x1, c1, if_true], by simp only [zf_X6_sell, n1, z1, if_false], zR_k hR (Nat.le_succ k)⟩
  rw [if_neg c1] at n1
  have m3 : zf_X6_in a3.toInt64 0 100000 = zf_X5_within a3 0 100000 := zm_in a3 0 100000
  have m4 : zf_X6_in a4.toInt64 0 2000 = zf_X5_within a4 0 2000 := zm_in a4 0 2000
  by_cases c2 : zf_X5_within a2 0 7 = 0
  · exact ⟨-2, ux, um, by simp only [zf_X5_sell, x1, c1, zx_dl, c2, if_true, if_false], by simp only [zf_X6_sell, n1, zm_dl, c2, if_true], zR_k hR (Nat.le_succ k)⟩
  by_cases c3 : zf_X5_within a3 0 100000 = 0
  · exact ⟨-2, ux, um, by simp only [zf_X5_sell, x1, c1, zx_dl, c2, c3, if_true, if_false], by simp only [zf_X6_sell, n1, zm_dl, c2, m3, c3, if_true, if_false], zR_k hR (Nat.le_succ k)⟩
  by_cases c4 : zf_X5_within a4 0 2000 = 0
  · exact ⟨-2, ux, um, by simp only [zf_X5_sell, x1, c1, zx_dl, c2, c3, c4, if_true, if_false], by simp only [zf_X6_sell, n1, zm_dl, c2, m3, c3, m4, c4, if_true, if_false], zR_k hR (Nat.le_succ k)⟩
  obtain ⟨t, ht, rfl⟩ := zx_idx (by omega) c1
  obtain ⟨d, hd, rfl⟩ := zx_idc 7 c2 rfl
  have i1 : z_inb (nI t) 12 = true := z_inb_t (by omega) (by decide)
  have i2 : (nI t).toNatClampNeg = t := z_cl (by omega)
  obtain ⟨t1, t2, t3, t4, t5, t6, t7, t8, t9, t10, t11, t12⟩ := id hT
  obtain ⟨y1, y2, y3, y4⟩ := t7 t ht
  have hh31 : h < 2 ^ 31 := by omega
  have hw := z_was hT hh31 ht hT12
  by_cases b1 : z_rI um 5 t = -1
  · have b1' : z_rI um 5 t < 0 := by rw [b1]; decide
    exact ⟨-3, ux, um, by simp only [zf_X5_sell, x1, c1, zx_dl, c2, c3, c4, if_false, zf_X4_addSale, zf_X4_mayBeSold, i1, i2, z_gd, z_nm, cond_true, y1, b1, if_true, z_bd, z_bd2], by simp only [zf_X6_sell, n1, zm_dl, c2, m3, c3, m4, c4, if_true, if_false, i1, i2, z_gd, cond_true, b1'], zR_k hR (Nat.le_succ k)⟩
  obtain ⟨e, he, ye⟩ := y3.resolve_left b1
  have b1' : ¬ z_rI um 5 t < 0 := by rw [ye]; exact nI_pos (by omega)
  by_cases b2 : z_rI um 5 t = nI d
  · exact ⟨-3, ux, um, by simp only [zf_X5_sell, x1, c1, zx_dl, c2, c3, c4, if_false, zf_X4_addSale, zf_X4_mayBeSold, i1, i2, z_gd, z_nm, cond_true, y1, b1, b2, if_true, z_bd, z_bd2, z_nIne (show d < 2 ^ 31 by omega)], by simp only [zf_X6_sell, n1, zm_dl, c2, m3, c3, m4, c4, if_true, if_false, i1, i2, z_gd, cond_true, b1', b2, nI_pos (show d < 2 ^ 31 by omega)], zR_k hR (Nat.le_succ k)⟩
  by_cases b3 : ¬ a4 = 0 ∧ a4 ≤ nI h
  · exact ⟨-3, ux, um, by simp only [zf_X5_sell, x1, c1, zx_dl, c2, c3, c4, if_false, zf_X4_addSale, zf_X4_mayBeSold, i1, i2, z_gd, z_nm, cond_true, y1, b1, b2, t4, b3.1, b3.2, if_true, z_bd, z_bd2], by simp only [zf_X6_sell, n1, zm_dl, c2, m3, c3, m4, c4, if_true, if_false, i1, i2, z_gd, cond_true, b1', b2, t5, b3.1, b3.2], zR_k hR (Nat.le_succ k)⟩
  by_cases b4 : z_rI ux 18 t = nI h
  · rw [if_pos b4] at hw
    by_cases b5 : a4 = 0
    · subst b5
      exact ⟨-3, ux, um, by simp only [zf_X5_sell, x1, c1, zx_dl, c2, c3, c4, if_false, zf_X4_addSale, zf_X4_mayBeSold, i1, i2, z_gd, z_nm, cond_true, y1, b1, b2, t4, b4, if_true, z_bd, z_bd2], by simp only [zf_X6_sell, n1, zm_dl, c2, m3, c3, m4, c4, if_true, if_false, i1, i2, z_gd, cond_true, b1', b2, t5, hw, z_bd, z1], zR_k hR (Nat.le_succ k)⟩
    · have b6 : ¬ a4 ≤ nI h := fun q => b3 ⟨b5, q⟩
      exact ⟨-3, ux, um, by simp only [zf_X5_sell, x1, c1, zx_dl, c2, c3, c4, if_false, zf_X4_addSale, zf_X4_mayBeSold, i1, i2, z_gd, z_nm, cond_true, y1, b1, b2, t4, b4, b5, b6, if_true, z_bd, z_bd2], by simp only [zf_X6_sell, n1, zm_dl, c2, m3, c3, m4, c4, if_true, if_false, i1, i2, z_gd, cond_true, b1', b2, t5, b5, b6, hw, z_bd, z1], zR_k hR (Nat.le_succ k)⟩
  rw [if_neg b4] at hw
  have may : zf_X4_mayBeSold ux (nI t) (nI d) a4 = some 1 := by
    by_cases b5 : a4 = 0
    · simp only [zf_X4_mayBeSold, i1, i2, z_gd, z_nm, cond_true, y1, b1, b2, t4, b4, b5, if_true, if_false]
    · have b6 : ¬ a4 ≤ nI h := fun q => b3 ⟨b5, q⟩
      simp only [zf_X4_mayBeSold, i1, i2, z_gd, z_nm, cond_true, y1, b1, b2, t4, b4, b5, b6, if_false]
  by_cases b7 : S = 80
  · subst b7
    have c8 : ¬ nI 80 < (80 : Int32) := by decide
    have c9 : nI 80 = (80 : Int32) := rfl
    refine ⟨-4, ux, um, by simp only [zf_X5_sell, x1, c1, zx_dl, c2, c3, c4, if_false, zf_X4_addSale, may, z_bd, z1, t1, c8, z_bd2], ?_, zR_k hR (Nat.le_succ k)⟩
    by_cases b5 : a4 = 0
    · subst b5
      simp only [zf_X6_sell, n1, zm_dl, c2, m3, c3, m4, c4, if_true, if_false, i1, i2, z_gd, cond_true, b1', b2, t5, hw, z_bd, t2, c9]
    · have b6 : ¬ a4 ≤ nI h := fun q => b3 ⟨b5, q⟩
      simp only [zf_X6_sell, n1, zm_dl, c2, m3, c3, m4, c4, if_true, if_false, i1, i2, z_gd, cond_true, b1', b2, t5, b5, b6, hw, z_bd, t2, c9]
  have hS80 : S < 80 := by omega
  have c8 : nI S < (80 : Int32) := by rw [z_lit]; exact nI_lt hS80 (by decide)
  have c9 : ¬ nI S = (80 : Int32) := by
    rw [z_lit, nI_eq (by omega) (by decide)]
    exact b7
  have e0 : nI S * (7 : Int32) + 0 = nI (7 * S) := z_7 S 0
  have e1 : nI S * (7 : Int32) + 1 = nI (7 * S + 1) := z_7 S 1
  have e2 : nI S * (7 : Int32) + 2 = nI (7 * S + 2) := z_7 S 2
  have e3 : nI S * (7 : Int32) + 3 = nI (7 * S + 3) := z_7 S 3
  have e4 : nI S * (7 : Int32) + 4 = nI (7 * S + 4) := z_7 S 4
  have e5 : nI S * (7 : Int32) + 5 = nI (7 * S + 5) := z_7 S 5
  have e6 : nI S * (7 : Int32) + 6 = nI (7 * S + 6) := z_7 S 6
  have g0 : ∀ j, j < 7 → z_inb (nI (7 * S + j)) 560 = true := fun j hj => z_inb_t (by omega) (by decide)
  have g1 : ∀ j, j < 7 → (nI (7 * S + j)).toNatClampNeg = 7 * S + j := fun j hj => z_cl (by omega)
  have g00 : z_inb (nI (7 * S)) 560 = true := g0 0 (by decide)
  have g10 : (nI (7 * S)).toNatClampNeg = 7 * S := g1 0 (by decide)
  have j1 : z_inb (nI S) 80 = true := z_inb_t hS80 (by decide)
  have j2 : (nI S).toNatClampNeg = S := z_cl (by omega)
  refine ⟨nI S, z_wI (z_wI (z_wI (z_wI (z_wI (z_wI (z_wI (z_wI (z_wI (z_wI (z_wI (z_wI ux 19 (7 * S) (nI t)) 19 (7 * S + 1) (z_rI um 5 t)) 19 (7 * S + 2) (nI d)) 19 (7 * S + 3) a3) 19 (7 * S + 4) (nI h)) 19 (7 * S + 5) a4) 19 (7 * S + 6) 1) 20 S (z_rI um 6 t)) 17 t (nI S)) 18 t (nI h)) 16 t (nI d)) 21 0 (nI (S + 1)),
    z_wI (z_wI (z_wI (z_wI (z_wI (z_wI (z_wI (z_wI (z_wI (z_wI (z_wI um 13 S (nI t)) 14 S (z_rI um 5 t)) 15 S (nI d)) 16 S a3) 17 S (nI h)) 18 S a4) 19 S 1) 20 S (z_rI um 6 t)) 6 t (nI S)) 5 t (nI d)) 12 0 (nI (S + 1)), ?_, ?_, ?_⟩
  · simp only [zf_X5_sell, x1, c1, zx_dl, c2, c3, c4, if_false, zf_X4_addSale, may, z_bd, z1, t1, c8, if_true, z_nm, e0, e1, e2, e3, e4, e5, e6, g00, g10, g0 1 (by decide), g0 2 (by decide), g0 3 (by decide), g0 4 (by decide), g0 5 (by decide), g0 6 (by decide), g1 1 (by decide), g1 2 (by decide), g1 3 (by decide), g1 4 (by decide), g1 5 (by decide), g1 6 (by decide), i1, i2, z_gd, cond_true, zk_16_17, zk_16_21, zk_16_22, zk_17_16, zk_17_21, zk_17_22, zk_18_16, zk_18_17, zk_18_21, zk_18_22, zk_19_16, zk_19_17, zk_19_21, zk_19_22, zk_20_16, zk_20_17, zk_20_21, zk_20_22, zk_21_16, zk_21_17, zk_21_22, zk_22_16, zk_22_17, zk_22_21, y1, y2, t4, j1, j2, z_n1, z_rw_s, z_us0, z_sub1, z_bd2]
  · by_cases b5 : a4 = 0
    · subst b5
      simp only [zf_X6_sell, n1, zm_dl, c2, m3, c3, m4, c4, if_true, if_false, i1, i2, z_gd, cond_true, b1', b2, t5, hw, z_bd, t2, c9, j1, j2, z_nm, zk_5_6, zk_5_11, zk_5_12, zk_6_5, zk_6_11, zk_6_12, zk_12_5, zk_12_6, zk_12_11, zk_13_5, zk_13_6, zk_13_11, zk_13_12, zk_14_5, zk_14_6, zk_14_11, zk_14_12, zk_15_5, zk_15_6, zk_15_11, zk_15_12, zk_16_5, zk_16_6, zk_16_11, zk_16_12, zk_17_5, zk_17_6, zk_17_11, zk_17_12, zk_18_5, zk_18_6, zk_18_11, zk_18_12, zk_19_5, zk_19_6, zk_19_11, zk_19_12, zk_20_5, zk_20_6, zk_20_11, zk_20_12, z_n1, z_rw_s, z_us0, z_sub1]
    · have b6 : ¬ a4 ≤ nI h := fun q => b3 ⟨b5, q⟩
      simp only [zf_X6_sell, n1, zm_dl, c2, m3, c3, m4, c4, if_true, if_false, i1, i2, z_gd, cond_true, b1', b2, t5, b5, b6, hw, z_bd, t2, c9, j1, j2, z_nm, zk_5_6, zk_5_11, zk_5_12, zk_6_5, zk_6_11, zk_6_12, zk_12_5, zk_12_6, zk_12_11, zk_13_5, zk_13_6, zk_13_11, zk_13_12, zk_14_5, zk_14_6, zk_14_11, zk_14_12, zk_15_5, zk_15_6, zk_15_11, zk_15_12, zk_16_5, zk_16_6, zk_16_11, zk_16_12, zk_17_5, zk_17_6, zk_17_11, zk_17_12, zk_18_5, zk_18_6, zk_18_11, zk_18_12, zk_19_5, zk_19_6, zk_19_11, zk_19_12, zk_20_5, zk_20_6, zk_20_11, zk_20_12, z_n1, z_rw_s, z_us0, z_sub1]
  · refine ⟨T, S + 1, L, E, h, hP, ?_, hA, hS, hD, by omega⟩
    generalize hvx : z_wI (z_wI (z_wI (z_wI (z_wI (z_wI (z_wI (z_wI (z_wI (z_wI (z_wI (z_wI ux 19 (7 * S) (nI t)) 19 (7 * S + 1) (z_rI um 5 t)) 19 (7 * S + 2) (nI d)) 19 (7 * S + 3) a3) 19 (7 * S + 4) (nI h)) 19 (7 * S + 5) a4) 19 (7 * S + 6) 1) 20 S (z_rI um 6 t)) 17 t (nI S)) 18 t (nI h)) 16 t (nI d)) 21 0 (nI (S + 1)) = vx
    generalize hvm : z_wI (z_wI (z_wI (z_wI (z_wI (z_wI (z_wI (z_wI (z_wI (z_wI (z_wI um 13 S (nI t)) 14 S (z_rI um 5 t)) 15 S (nI d)) 16 S a3) 17 S (nI h)) 18 S a4) 19 S 1) 20 S (z_rI um 6 t)) 6 t (nI S)) 5 t (nI d)) 12 0 (nI (S + 1)) = vm
    have v21 : z_rI vx 21 0 = nI (S + 1) := by rw [← hvx]; rfl
    have v22 : z_rI vx 22 = z_rI ux 22 := by rw [← hvx]; rfl
    have v16 : z_rI vx 16 = upd (z_rI ux 16) t (nI d) := by rw [← hvx]; rfl
    have v17 : z_rI vx 17 = upd (z_rI ux 17) t (nI S) := by rw [← hvx]; rfl
    have v18 : z_rI vx 18 = upd (z_rI ux 18) t (nI h) := by rw [← hvx]; rfl
    have v20 : z_rI vx 20 = upd (z_rI ux 20) S (z_rI um 6 t) := by rw [← hvx]; rfl
    have v19 : z_rI vx 19 = upd (upd (upd (upd (upd (upd (upd (z_rI ux 19) (7 * S) (nI t)) (7 * S + 1) (z_rI um 5 t)) (7 * S + 2) (nI d)) (7 * S + 3) a3) (7 * S + 4) (nI h)) (7 * S + 5) a4) (7 * S + 6) 1 := by rw [← hvx]; rfl
    have w12 : z_rI vm 12 0 = nI (S + 1) := by rw [← hvm]; rfl
    have w11 : z_rI vm 11 = z_rI um 11 := by rw [← hvm]; rfl
    have w5 : z_rI vm 5 = upd (z_rI um 5) t (nI d) := by rw [← hvm]; rfl
    have w6 : z_rI vm 6 = upd (z_rI um 6) t (nI S) := by rw [← hvm]; rfl
    have w13 : z_rI vm 13 = upd (z_rI um 13) S (nI t) := by rw [← hvm]; rfl
    have w14 : z_rI vm 14 = upd (z_rI um 14) S (z_rI um 5 t) := by rw [← hvm]; rfl
    have w15 : z_rI vm 15 = upd (z_rI um 15) S (nI d) := by rw [← hvm]; rfl
    have w16 : z_rI vm 16 = upd (z_rI um 16) S a3 := by rw [← hvm]; rfl
    have w17 : z_rI vm 17 = upd (z_rI um 17) S (nI h) := by rw [← hvm]; rfl
    have w18 : z_rI vm 18 = upd (z_rI um 18) S a4 := by rw [← hvm]; rfl
    have w19 : z_rI vm 19 = upd (z_rI um 19) S 1 := by rw [← hvm]; rfl
    have w20 : z_rI vm 20 = upd (z_rI um 20) S (z_rI um 6 t) := by rw [← hvm]; rfl
    unfold zR_T
    rw [v21, v22, v16, v17, v18, v19, v20, w12, w11, w5, w6, w13, w14, w15, w16, w17, w18, w19, w20]
    refine ⟨rfl, rfl, by omega, t4, t5, t6, ?_, ?_, ?_, ?_, ?_, ?_⟩
    · intro t' ht'
      by_cases q : t' = t
      · subst q
        rw [pk_us, pk_us, pk_us, pk_us]
        exact ⟨rfl, rfl, Or.inr ⟨d, by omega, rfl⟩, Or.inr ⟨S, by omega, rfl⟩⟩
      · rw [pk_un q, pk_un q, pk_un q, pk_un q]
        obtain ⟨r1, r2, r3, r4⟩ := t7 t' ht'
        exact ⟨r1, r2, r3, r4.imp id (fun ⟨x, q1, q2⟩ => ⟨x, by omega, q2⟩)⟩
    · intro t' h1 h2
      rw [pk_un (by omega), pk_un (by omega), pk_un (by omega)]
      exact t8 t' h1 h2
    · intro x hx
      by_cases q : x = S
      · subst q
        refine ⟨?_, ?_, ?_, ?_, ?_, ?_, ?_, ?_⟩ <;> (unfold upd; (repeat' split) <;> first | rfl | (exfalso; omega))
      · have hx' : x < S := by omega
        have o19 : ∀ j, j < 7 → upd (upd (upd (upd (upd (upd (upd (z_rI ux 19) (7 * S) (nI t)) (7 * S + 1) (z_rI um 5 t)) (7 * S + 2) (nI d)) (7 * S + 3) a3) (7 * S + 4) (nI h)) (7 * S + 5) a4) (7 * S + 6) 1 (7 * x + j) = z_rI ux 19 (7 * x + j) := by
          intro j hj
          rw [pk_un (by omega), pk_un (by omega), pk_un (by omega), pk_un (by omega), pk_un (by omega), pk_un (by omega), pk_un (by omega)]
        have o0 := o19 0 (by decide)
        simp only [Nat.add_zero] at o0
        rw [o0, o19 1 (by decide), o19 2 (by decide), o19 3 (by decide), o19 4 (by decide), o19 5 (by decide), o19 6 (by decide), pk_un q, pk_un q, pk_un q, pk_un q, pk_un q, pk_un q, pk_un q, pk_un q, pk_un q]
        exact t9 x hx'
    · intro x hx
      by_cases q : x = S
      · subst q
        rw [pk_us, pk_us, pk_us, pk_us, pk_us]
        exact ⟨⟨t, ht, rfl⟩, ⟨e, he, ye⟩, ⟨d, by omega, rfl⟩, b2, Or.inr rfl, y4.imp id (fun ⟨x, q1, q2⟩ => ⟨x, by omega, q2⟩)⟩
      · rw [pk_un q, pk_un q, pk_un q, pk_un q, pk_un q]
        obtain ⟨r1, r2, r3, r4, r5, r6⟩ := t10 x (by omega)
        exact ⟨r1, r2, r3, r4, r5, r6.imp id (fun ⟨x, q1, q2⟩ => ⟨x, by omega, q2⟩)⟩
    · intro t' ht'
      by_cases q : t' = t
      · subst q
        refine Or.inr ⟨S, by omega, ?_, ?_⟩
        · rw [pk_us]
        · rw [pk_us, pk_us]
      · rw [pk_un q]
        refine (t11 t' ht').imp id (fun ⟨x, q1, q2, q3⟩ => ⟨x, by omega, ?_, ?_⟩)
        · rw [pk_un (by omega)]; exact q2
        · rw [pk_un (by omega)]; exact q3
    · intro x t' hx ht' he'
      by_cases q : x = S
      · subst q
        rw [pk_us, nI_eq (by omega) (by omega)] at he'
        subst he'
        exact ⟨h, h, by rw [pk_us], by rw [pk_us], Nat.le_refl h, Nat.le_refl h⟩
      · rw [pk_un q] at he'
        obtain ⟨g, g2, r1, r2, r3, r4⟩ := t12 x t' (by omega) ht' he'
        rw [pk_un q]
        by_cases q2 : t' = t
        · subst q2
          exact ⟨g, h, r1, by rw [pk_us], by omega, Nat.le_refl h⟩
        · exact ⟨g, g2, r1, by rw [pk_un q2]; exact r2, r3, r4⟩
