/-- one step of the reference's comparison -/
theorem zm_lessS {x y z w n : Nat} (hy : 0 < y) (hw : 0 < w) (bx : x < 2 ^ 62) (by' : y < 2 ^ 62) (bz : z < 2 ^ 62) (bw : w < 2 ^ 62) : zf_X6_isLess_14 (n + 1) (lN x) (lN y) (lN z) (lN w) = if x / y = z / w then (if x % y = 0 then (if z % w = 0 then some 0 else some 1) else if z % w = 0 then some 0 else zf_X6_isLess_14 n (lN w) (lN (z % w)) (lN y) (lN (x % y))) else (if z / w ≤ x / y then some 0 else some 1) := by
  have g1 := z_gnz hy (show y < 2 ^ 63 by omega)
  have g2 := z_gnz hw (show w < 2 ^ 63 by omega)
  have q1 : x / y ≤ x := Nat.div_le_self _ _
  have q2 : z / w ≤ z := Nat.div_le_self _ _
  have q3 : x % y ≤ x := Nat.mod_le _ _
  have q4 : z % w ≤ z := Nat.mod_le _ _
  have k1 : lg_cmp (lN (x / y)) (lN (z / w)) = 0 ↔ x / y = z / w := by
    rw [lg_cmp_eq, pk_lEQ (by omega) (by omega)]
  have k2 : (0 : Int32) ≤ lg_cmp (lN (x / y)) (lN (z / w)) ↔ z / w ≤ x / y := by
    rw [lg_cmp_ge, pk_lLE (by omega) (by omega)]
  have k3 := z_c0 (x % y) (by omega)
  have k4 := z_c0 (z % w) (by omega)
  have k5 : lg_cmp (lN (z % w)) 0 ≤ 0 ↔ z % w = 0 := by
    rw [lg_cmp_le]
    show lN (z % w) ≤ lN 0 ↔ _
    rw [pk_lLE (by omega) (by decide)]
    omega
  have d1 := pk_lDiv (show x < 2 ^ 63 by omega) hy (show y < 2 ^ 63 by omega)
  have d2 := pk_lDiv (show z < 2 ^ 63 by omega) hw (show w < 2 ^ 63 by omega)
  have r1 : lN x - lN (x / y) * lN y = lN (x % y) := by
    rw [← d1]; exact pk_lRem (by omega) hy (by omega)
  have r2 : lN z - lN (z / w) * lN w = lN (z % w) := by
    rw [← d2]; exact pk_lRem (by omega) hw (by omega)
  rw [zf_X6_isLess_14.eq_2]
  simp only [g1, g2, z_gd, cond_true, z_nm, d1, d2, r1, r2]
  by_cases c1 : x / y = z / w
  · rw [if_pos (k1.mpr c1), if_pos c1]
    by_cases c2 : x % y = 0
    · rw [if_pos (k3.mpr c2), if_pos (k3.mpr c2), if_pos c2]
      by_cases c3 : z % w = 0
      · rw [if_pos (k5.mpr c3), if_pos c3]
      · rw [if_neg (fun q => c3 (k5.mp q)), if_neg c3]
    · rw [if_neg (fun q => c2 (k3.mp q)), if_neg c2]
      by_cases c3 : z % w = 0
      · rw [if_pos (k4.mpr c3), if_neg (fun q => c2 (k3.mp q)), if_pos c3]
      · rw [if_neg (fun q => c3 (k4.mp q)), if_neg c3]
  · rw [if_neg (fun q => c1 (k1.mp q)), if_neg c1]
    by_cases c2 : z / w ≤ x / y
    · rw [if_pos (k2.mpr c2), if_pos c2]
    · rw [if_neg (fun q => c2 (k2.mp q)), if_neg c2]
theorem z_frE {x y z w : Nat} (h : x / y = z / w) : x * w < z * y ↔ x % y * w < z % w * y := by
  have h1 := Nat.div_add_mod x y
  have h2 := Nat.div_add_mod z w
  have e1 : x * w = y * (x / y) * w + x % y * w := by rw [← Nat.add_mul, h1]
  have e2 : z * y = y * (x / y) * w + z % w * y := by
    rw [h, show y * (z / w) * w = w * (z / w) * y by ac_rfl, ← Nat.add_mul, h2]
  omega
theorem z_frL {x y z w : Nat} (hy : 0 < y) (hw : 0 < w) (h : z / w < x / y) : ¬ x * w < z * y := by
  have h1 : z < w * (x / y) := by
    rw [Nat.mul_comm]; exact (Nat.div_lt_iff_lt_mul hw).mp h
  have h2 : y * (x / y) ≤ x := Nat.mul_div_le x y
  have h3 : z * y ≤ w * (x / y) * y := Nat.mul_le_mul_right y (Nat.le_of_lt h1)
  have h4 : y * (x / y) * w ≤ x * w := Nat.mul_le_mul_right w h2
  have h5 : w * (x / y) * y = y * (x / y) * w := by ac_rfl
  omega
theorem z_frG {x y z w : Nat} (hy : 0 < y) (hw : 0 < w) (h : x / y < z / w) : x * w < z * y := by
  have h1 : x < y * (z / w) := by
    rw [Nat.mul_comm]; exact (Nat.div_lt_iff_lt_mul hy).mp h
  have h2 : w * (z / w) ≤ z := Nat.mul_div_le z w
  have h3 : x * w < y * (z / w) * w := Nat.mul_lt_mul_of_pos_right h1 hw
  have h4 : w * (z / w) * y ≤ z * y := Nat.mul_le_mul_right y h2
  have h5 : w * (z / w) * y = y * (z / w) * w := by ac_rfl
  omega
theorem zm_lessR {x y z w n : Nat} (hy : 0 < y) (hw : 0 < w) (bx : x < 2 ^ 62) (by' : y < 2 ^ 62) (bz : z < 2 ^ 62) (bw : w < 2 ^ 62) (h : 0 < x % y → 0 < z % w → zf_X6_isLess_14 n (lN w) (lN (z % w)) (lN y) (lN (x % y)) = some (if w * (x % y) < y * (z % w) then 1 else 0)) : zf_X6_isLess_14 (n + 1) (lN x) (lN y) (lN z) (lN w) = some (if x * w < z * y then 1 else 0) := by
  rw [zm_lessS hy hw bx by' bz bw]
  by_cases c1 : x / y = z / w
  · rw [if_pos c1]
    have hE := z_frE c1
    by_cases c2 : x % y = 0
    · rw [if_pos c2]
      by_cases c3 : z % w = 0
      · rw [if_pos c3, if_neg (by rw [hE, c2, c3]; omega)]
      · rw [if_neg c3, if_pos (by rw [hE, c2, Nat.zero_mul]; exact Nat.mul_pos (by omega) hy)]
    · rw [if_neg c2]
      by_cases c3 : z % w = 0
      · rw [if_pos c3, if_neg (by rw [hE, c3, Nat.zero_mul]; omega)]
      · rw [if_neg c3, h (by omega) (by omega)]
        rw [Nat.mul_comm w, Nat.mul_comm y]
        by_cases c4 : x * w < z * y
        · rw [if_pos c4, if_pos (hE.mp c4)]
        · rw [if_neg c4, if_neg (fun q => c4 (hE.mpr q))]
  · rw [if_neg c1]
    by_cases c2 : z / w ≤ x / y
    · rw [if_pos c2, if_neg (z_frL hy hw (by omega))]
    · rw [if_neg c2, if_pos (z_frG hy hw (by omega))]
theorem zm_less14 : ∀ (c x y z w n : Nat), 0 < y → 0 < w → y ≤ x → w ≤ z → x < 2 ^ 62 → z < 2 ^ 62 → x * y < 2 ^ c → z * w < 2 ^ c → c + 1 ≤ n → zf_X6_isLess_14 n (lN x) (lN y) (lN z) (lN w) = some (if x * w < z * y then 1 else 0)
  | 0, x, y, z, w, n => by
    intro hy hw h1 h2 h3 h4 h5 h6 h7
    have : 0 < x * y := Nat.mul_pos (by omega) hy
    omega
  | c + 1, x, y, z, w, n => by
    intro hy hw h1 h2 h3 h4 h5 h6 h7
    obtain ⟨m, rfl⟩ : ∃ m, n = m + 1 := ⟨n - 1, by omega⟩
    refine zm_lessR hy hw (by omega) (by omega) (by omega) (by omega) (fun p1 p2 => ?_)
    have q1 := Nat.mod_lt x hy
    have q2 := Nat.mod_lt z hw
    exact zm_less14 c w (z % w) y (x % y) m p2 p1 (by omega) (by omega) (by omega) (by omega) (z_pr hw h2 h6) (z_pr hy h1 h5) (by omega)
theorem z_less {x y z w : Nat} (hy : 0 < y) (hw : 0 < w) (bx : x ≤ 1099511627776) (by' : y ≤ 1099511627776) (bz : z ≤ 1099511627776) (bw : w ≤ 1099511627776) : zf_X6_isLess (lN x) (lN y) (lN z) (lN w) = some (if x * w < z * y then 1 else 0) := by
  unfold zf_X6_isLess
  refine zm_lessR (n := 4999) hy hw (by omega) (by omega) (by omega) (by omega) (fun p1 p2 => ?_)
  have q1 := Nat.mod_lt x hy
  have q2 := Nat.mod_lt z hw
  exact zm_less14 81 w (z % w) y (x % y) 4999 p2 p1 (by omega) (by omega) (by omega) (by omega) (z_p80 bw (by omega)) (z_p80 by' (by omega)) (by omega)
/-- fractions, reduced or not, compare alike -/
theorem z_redL {a b c d : Nat} (hb : 0 < b) (hd : 0 < d) : a / Nat.gcd a b * (d / Nat.gcd c d) < c / Nat.gcd c d * (b / Nat.gcd a b) ↔ a * d < c * b := by
  have g1 : 0 < Nat.gcd a b := Nat.gcd_pos_of_pos_right _ hb
  have g2 : 0 < Nat.gcd c d := Nat.gcd_pos_of_pos_right _ hd
  have e1 := Nat.div_mul_cancel (Nat.gcd_dvd_left a b)
  have e2 := Nat.div_mul_cancel (Nat.gcd_dvd_right a b)
  have e3 := Nat.div_mul_cancel (Nat.gcd_dvd_left c d)
  have e4 := Nat.div_mul_cancel (Nat.gcd_dvd_right c d)
  generalize Nat.gcd a b = g at *
  generalize Nat.gcd c d = k at *
  have f1 : a * d = a / g * (d / k) * (g * k) := by
    conv => lhs; rw [← e1, ← e4]
    ac_rfl
  have f2 : c * b = c / k * (b / g) * (g * k) := by
    conv => lhs; rw [← e3, ← e2]
    ac_rfl
  rw [f1, f2]
  exact (Nat.mul_lt_mul_right (Nat.mul_pos g1 g2)).symm
