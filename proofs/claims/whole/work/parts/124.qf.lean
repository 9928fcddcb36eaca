theorem z_lI {a : Nat} (h : a < 2 ^ 63) : (lN a).toInt = (a : Int) := pk_lT h
theorem z_shrL {a : Nat} (h : a < 2 ^ 62) : lN a >>> ((20 : Int32).toInt64 &&& (63 : Int64)) = lN (a / 2 ^ 20) := by
  have hd : a / 2 ^ 20 ≤ a := Nat.div_le_self _ _
  have hD : (((20 : Int32).toInt64 &&& (63 : Int64)).toBitVec.smod 64).toNat = 20 := by decide
  apply Int64.toInt_inj.mp
  have e : (lN a >>> ((20 : Int32).toInt64 &&& (63 : Int64))).toInt = (lN a).toInt >>> 20 := by
    rw [← hD]
    exact BitVec.toInt_sshiftRight ..
  rw [e, Int.shiftRight_eq_div_pow, z_lI (by omega), z_lI (by omega)]
  rfl
theorem z_andL (a b : Nat) : lN a &&& lN b = lN (a &&& b) := by
  apply Int64.toBitVec_inj.1
  show BitVec.ofNat 64 a &&& BitVec.ofNat 64 b = BitVec.ofNat 64 (a &&& b)
  apply BitVec.eq_of_getLsbD_eq
  intro i hi
  simp [hi]
theorem z_maskL (n : Nat) : lN n &&& (1048575 : Int64) = lN (n % 2 ^ 20) := by
  show lN n &&& lN (2 ^ 20 - 1) = lN (n % 2 ^ 20)
  rw [z_andL, Nat.and_two_pow_sub_one_eq_mod]
theorem z_pbN (a b : Nat) : a * b = 2 ^ 20 * (a / 2 ^ 20 * b + a % 2 ^ 20 * b / 2 ^ 20) + a % 2 ^ 20 * b % 2 ^ 20 := by
  have h1 := Nat.div_add_mod a (2 ^ 20)
  have h2 := Nat.div_add_mod (a % 2 ^ 20 * b) (2 ^ 20)
  have h3 : a * b = 2 ^ 20 * (a / 2 ^ 20 * b) + a % 2 ^ 20 * b := by
    rw [← Nat.mul_assoc, ← Nat.add_mul, h1]
  rw [h3, Nat.mul_add]
  omega
theorem z_pb {a b c d : Nat} (ha : a ≤ 1099511627776) (hb : b ≤ 1099511627776) (hc : c ≤ 1099511627776) (hd : d ≤ 1099511627776) : zf_X0_productBelow (lN a) (lN b) (lN c) (lN d) = if a * b < c * d then 1 else 0 := by
  have bd : ∀ x y : Nat, x ≤ 1099511627776 → y ≤ 1099511627776 → x / 2 ^ 20 * y ≤ 1048576 * 1099511627776 ∧ x % 2 ^ 20 * y ≤ 1048576 * 1099511627776 := by
    intro x y hx hy
    exact ⟨Nat.mul_le_mul (by omega) hy, Nat.mul_le_mul (by omega) hy⟩
  obtain ⟨p1, p2⟩ := bd a b ha hb
  obtain ⟨p3, p4⟩ := bd c d hc hd
  have e1 := z_pbN a b
  have e2 := z_pbN c d
  unfold zf_X0_productBelow
  simp only [z_nm, z_shrL (show a < 2 ^ 62 by omega), z_shrL (show c < 2 ^ 62 by omega), z_maskL, lN_mul, z_shrL (show a % 2 ^ 20 * b < 2 ^ 62 by omega), z_shrL (show c % 2 ^ 20 * d < 2 ^ 62 by omega), lN_add]
  rw [e1, e2]
  generalize a / 2 ^ 20 * b = A at *
  generalize a % 2 ^ 20 * b = B at *
  generalize c / 2 ^ 20 * d = C at *
  generalize c % 2 ^ 20 * d = G at *
  by_cases h : A + B / 2 ^ 20 = C + G / 2 ^ 20
  · rw [if_pos ((lg_cmp_eq _ _).mpr (by rw [h]))]
    by_cases h2 : G % 2 ^ 20 ≤ B % 2 ^ 20
    · rw [if_pos ((lg_cmp_ge _ _).mpr ((pk_lLE (by omega) (by omega)).mpr h2)), if_neg (by omega)]
    · rw [if_neg (fun q => h2 ((pk_lLE (by omega) (by omega)).mp ((lg_cmp_ge _ _).mp q))), if_pos (by omega)]
  · rw [if_neg (fun q => h ((pk_lEQ (by omega) (by omega)).mp ((lg_cmp_eq _ _).mp q)))]
    by_cases h2 : C + G / 2 ^ 20 ≤ A + B / 2 ^ 20
    · rw [if_pos ((lg_cmp_ge _ _).mpr ((pk_lLE (by omega) (by omega)).mpr h2)), if_neg (by omega)]
    · rw [if_neg (fun q => h2 ((pk_lLE (by omega) (by omega)).mp ((lg_cmp_ge _ _).mp q))), if_pos (by omega)]
