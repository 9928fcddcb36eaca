def zp (w : Nat) : Nat → Nat
  | 0 => 0
  | n + 1 => zp w n + w / 2 ^ n % 2
theorem zm_bits {w : Nat} (hw : w < 4096) : zf_X6_bits (nI w) = some (nI (zp w 16)) := by
  have st : ∀ (k i n : Nat), i + k = 16 → k < n → zf_X6_bits_4 (nI w) n (nI (zp w i)) (nI i) = some (nI (zp w 16), nI 16) := by
    intro k
    induction k with
    | zero =>
      intro i n hi hn
      obtain ⟨m, rfl⟩ : ∃ m, n = m + 1 := ⟨n - 1, by omega⟩
      have hi : i = 16 := by omega
      subst hi
      rw [zf_X6_bits_4.eq_2, if_pos (by decide)]
    | succ k ih =>
      intro i n hi hn
      obtain ⟨m, rfl⟩ : ∃ m, n = m + 1 := ⟨n - 1, by omega⟩
      have c : ¬ (16 : Int32) ≤ nI i := by rw [z_lit]; exact nI_ge (show i < 16 by omega) (by decide)
      have e : (nI w >>> (nI i &&& 31)) &&& 1 = nI (w / 2 ^ i % 2) := z_bit (by omega) (by omega)
      rw [zf_X6_bits_4.eq_2]
      simp only [c, if_false, e, z_nm, z_n1, nI_add]
      exact ih (i + 1) m (by omega) (by omega)
  unfold zf_X6_bits
  exact z_bd2_e (st 16 0 5000 (by omega) (by omega))
theorem zx_bcF : ∀ h : Fin 64, ∀ l : Fin 64, zf_J6_bitCount_0f7a4 (nI (64 * h.val + l.val)) = nI (zp (64 * h.val + l.val) 16) := by decide +kernel
theorem zx_bc {w : Nat} (hw : w < 4096) : zf_J6_bitCount_0f7a4 (nI w) = nI (zp w 16) := by
  have h := zx_bcF ⟨w / 64, by omega⟩ ⟨w % 64, by omega⟩
  have e : 64 * (w / 64) + w % 64 = w := by omega
  simp only [e] at h
  exact h
theorem zp_le (w : Nat) : ∀ n, zp w n ≤ n
  | 0 => Nat.le_refl 0
  | n + 1 => by
    have := zp_le w n
    show zp w n + w / 2 ^ n % 2 ≤ n + 1
    omega
theorem zp_12 {w : Nat} (hw : w < 4096) : zp w 16 ≤ 12 := by
  have h := zp_le w 12
  have e12 : w / 2 ^ 12 = 0 := Nat.div_eq_of_lt hw
  have e13 : w / 2 ^ 13 = 0 := Nat.div_eq_of_lt (by omega)
  have e14 : w / 2 ^ 14 = 0 := Nat.div_eq_of_lt (by omega)
  have e15 : w / 2 ^ 15 = 0 := Nat.div_eq_of_lt (by omega)
  show zp w 12 + w / 2 ^ 12 % 2 + w / 2 ^ 13 % 2 + w / 2 ^ 14 % 2 + w / 2 ^ 15 % 2 ≤ 12
  rw [e12, e13, e14, e15]
  omega
theorem z_12 {a : Nat} (ha : a < 4096) (x : Int32) : ∃ w, w < 4096 ∧ nI a &&& x = nI w := by
  obtain ⟨j, hj, e⟩ := pk_andE x (m := 4095) 12 (by decide)
  refine ⟨a &&& j, Nat.lt_of_le_of_lt Nat.and_le_left ha, ?_⟩
  have e2 : nI a = nI a &&& 4095 := by
    have := pk_andN (n := a) (by omega) (m := 4095) 12 (by decide)
    rw [this, Nat.mod_eq_of_lt ha]
  rw [e2, Int32.and_assoc, Int32.and_comm 4095 x, e, z_and]
theorem z_12r {a : Nat} (ha : a < 4096) (x : Int32) : ∃ w, w < 4096 ∧ x &&& nI a = nI w := by
  rw [Int32.and_comm]
  exact z_12 ha x
theorem zq_inside {k : Nat} {ux um : z_St} (hk : k < 512) (hR : zR k ux um) (a1 a2 a3 a4 : Int32) : ∃ (r : Int32), zf_X5_inside a1 a2 a3 a4 = some r ∧ zf_X6_inside a1 a2 a3 a4 = some r ∧ zR (k + 1) ux um := by
  have m1 : zf_X6_in a1.toInt64 0 255 = zf_X5_within a1 0 255 := zm_in a1 0 255
  have m2 : zf_X6_in a2.toInt64 0 100000 = zf_X5_within a2 0 100000 := zm_in a2 0 100000
  have m3 : zf_X6_in a3.toInt64 a2.toInt64 100000 = zf_X5_within a3 a2 100000 := zm_in a3 a2 100000
  have m4 : zf_X6_in a4.toInt64 0 1 = zf_X5_within a4 0 1 := zm_in a4 0 1
  by_cases c1 : zf_X5_within a1 0 255 = 0
  · exact ⟨-2, by simp only [zf_X5_inside, c1, if_true], by simp only [zf_X6_inside, m1, c1, if_true], zR_k hR (Nat.le_succ k)⟩
  obtain ⟨w, hw, rfl⟩ := zx_idc 255 c1 rfl
  have b1 := zm_bits (show w < 4096 by omega)
  have b2 := zx_bc (show w < 4096 by omega)
  have hp := zp_le w 16
  by_cases cn : zp w 16 < 2
  · have n1 : ¬ (2 : Int32) ≤ nI (zp w 16) := by rw [z_lit]; exact nI_ge cn (by decide)
    have n2 : nI (zp w 16) < (2 : Int32) := by rw [z_lit]; exact nI_lt cn (by decide)
    refine ⟨-2, ?_, by simp only [zf_X6_inside, m1, c1, if_false, b1, z_bd, n2, if_true], zR_k hR (Nat.le_succ k)⟩
    by_cases c2 : zf_X5_within a2 0 100000 = 0
    · simp only [zf_X5_inside, c1, c2, if_true, if_false]
    by_cases c3 : zf_X5_within a3 a2 100000 = 0
    · simp only [zf_X5_inside, c1, c2, c3, if_true, if_false]
    by_cases c4 : zf_X5_within a4 0 1 = 0
    · simp only [zf_X5_inside, c1, c2, c3, c4, if_true, if_false]
    simp only [zf_X5_inside, c1, c2, c3, c4, if_false, z_nm, b2, n1]
  have n1 : (2 : Int32) ≤ nI (zp w 16) := by rw [z_lit]; exact nI_le (show 2 ≤ zp w 16 by omega) (by omega)
  have n2 : ¬ nI (zp w 16) < (2 : Int32) := by rw [z_lit]; exact nI_nlt (show 2 ≤ zp w 16 by omega) (by omega)
  by_cases c2 : zf_X5_within a2 0 100000 = 0
  · exact ⟨-2, by simp only [zf_X5_inside, c1, c2, if_true, if_false], by simp only [zf_X6_inside, m1, c1, if_false, b1, z_bd, n2, m2, c2, if_true], zR_k hR (Nat.le_succ k)⟩
  by_cases c3 : zf_X5_within a3 a2 100000 = 0
  · exact ⟨-2, by simp only [zf_X5_inside, c1, c2, c3, if_true, if_false], by simp only [zf_X6_inside, m1, c1, if_false, b1, z_bd, n2, m2, c2, m3, c3, if_true], zR_k hR (Nat.le_succ k)⟩
  by_cases c4 : zf_X5_within a4 0 1 = 0
  · exact ⟨-2, by simp only [zf_X5_inside, c1, c2, c3, c4, if_true, if_false], by simp only [zf_X6_inside, m1, c1, if_false, b1, z_bd, n2, m2, c2, m3, c3, m4, c4, if_true], zR_k hR (Nat.le_succ k)⟩
  have nz : z_nz (nI (zp w 16)) = true := decide_eq_true (nI_ne0 (by omega) (by omega))
  refine ⟨if a4 = 0 then (a3 - a2) / nI (zp w 16) else (a3 - a2) - ((a3 - a2) / nI (zp w 16)) * (nI (zp w 16) - 1), ?_, ?_, zR_k hR (Nat.le_succ k)⟩
  · simp only [zf_X5_inside, c1, c2, c3, c4, if_false, z_nm, b2, n1, if_true, nz, z_gd, cond_true]
    split <;> rfl
  · simp only [zf_X6_inside, m1, c1, if_false, b1, z_bd, n2, m2, c2, m3, c3, m4, c4, nz, z_gd, cond_true, z_nm]
    split <;> rfl
/-- THE SCORE, on both sides -/
theorem z_score {T E : Nat} {ux um : z_St} (hS : zR_S T E ux um) {i t : Nat} (hi : i < E) (ht : t < T) (hT : T ≤ 12) : ∃ p q r : Nat, p ≤ 12 ∧ q ≤ 12 ∧ r ≤ 12 ∧ zf_X3_scoreOf ux (nI i) (nI t) = some ((2 * nI p - 3 * nI q) - nI r) ∧ zf_X6_scoreOf um (nI i) (nI t) = some ((2 * nI p - 3 * nI q) - nI r) := by
  obtain ⟨s1, s2, s3, s4, s5, s6⟩ := hS
  obtain ⟨e1, a, ha, e2⟩ := s4 i hi
  obtain ⟨e3, e4, b, c, hb, hc, -, e5, e6⟩ := s5 t ht
  have i1 : z_inb (nI i) 10 = true := z_inb_t (by omega) (by decide)
  have i2 : (nI i).toNatClampNeg = i := z_cl (by omega)
  have j1 : z_inb (nI t) 12 = true := z_inb_t (by omega) (by decide)
  have j2 : (nI t).toNatClampNeg = t := z_cl (by omega)
  obtain ⟨w1, h1, q1⟩ := z_12 ha (nI b)
  obtain ⟨w2, h2, q2⟩ := z_12 ha (nI c)
  obtain ⟨w3, h3, q3⟩ := z_12 hb (nI a ^^^ (-1))
  refine ⟨zp w1 16, zp w2 16, zp w3 16, zp_12 h1, zp_12 h2, zp_12 h3, ?_, ?_⟩
  · simp only [zf_X3_scoreOf, i1, i2, j1, j2, z_gd, cond_true, z_nm, e1, e2, e3, e4, e5, e6, q1, q2, q3, zx_bc h1, zx_bc h2, zx_bc h3]
  · simp only [zf_X6_scoreOf, i1, i2, j1, j2, z_gd, cond_true, e2, e5, e6, q1, q2, q3, zm_bits h1, zm_bits h2, zm_bits h3, z_bd]
theorem zq_score {k : Nat} {ux um : z_St} (hk : k < 512) (hR : zR k ux um) (a1 a2 : Int32) : ∃ (r : Int32), zf_X5_score ux a1 a2 = some r ∧ zf_X6_score um a1 a2 = some r ∧ zR (k + 1) ux um := by
  obtain ⟨T, S, L, E, h, hP, hT, hA, hS, hD, hh⟩ := id hR
  have n1 := zm_no a2 hP.2.1
  have x1 := zx_has a2 hP.1
  have x0 : zf_X3_hasEntry ux a1 = zf_X5_within a1 0 (nI E - 1) := by
    unfold zf_X3_hasEntry
    rw [hS.1]
  have m0 : zf_X6_in a1.toInt64 0 (nI E - 1).toInt64 = zf_X5_within a1 0 (nI E - 1) := zm_in a1 0 (nI E - 1)
  have s2 := hS.2.1
  have z1 : ¬ (1 : Int32) = 0 := by decide
  by_cases c0 : zf_X5_within a1 0 (nI E - 1) = 0
  · exact ⟨-1000, by simp only [zf_X5_score, x0, c0, if_true], by simp only [zf_X6_score, s2, m0, c0, if_true], zR_k hR (Nat.le_succ k)⟩
  by_cases c1 : zf_X5_within a2 0 (nI T - 1) = 0
  · rw [if_pos c1] at n1
    exact ⟨-1000, by simp only [zf_X5_score, x0, c0, x1, c1, if_true, if_false], by simp only [zf_X6_score, s2, m0, c0, n1, z1, if_false], zR_k hR (Nat.le_succ k)⟩
  rw [if_neg c1] at n1
  obtain ⟨t, ht, rfl⟩ := zx_idx (by have := hP.2.2.1; omega) c1
  obtain ⟨i, hi, rfl⟩ := zx_idx (by have := hS.2.2.1; omega) c0
  obtain ⟨p, q, r, -, -, -, h1, h2⟩ := z_score hS hi ht hP.2.2.1
  exact ⟨(2 * nI p - 3 * nI q) - nI r, by simp only [zf_X5_score, x0, c0, x1, c1, if_false, h1, z_bd], by simp only [zf_X6_score, s2, m0, c0, n1, if_true, if_false, h2, z_bd], zR_k hR (Nat.le_succ k)⟩
/-! marks: a bit set, a bit cleared -/
theorem z_mk (m : Nat) (hm : m < 12) {a : Nat} (ha : a < 4096) : nI a &&& (nI (2 ^ m) ^^^ (-1)) = nI (a &&& (4095 ^^^ 2 ^ m)) := by
  have e2 : nI a = nI a &&& 4095 := by
    have := pk_andN (n := a) (by omega) (m := 4095) 12 (by decide)
    rw [this, Nat.mod_eq_of_lt ha]
  have e3 : ∀ m : Fin 12, (4095 : Int32) &&& (nI (2 ^ m.val) ^^^ (-1)) = nI (4095 ^^^ 2 ^ m.val) := by decide +kernel
  rw [e2, Int32.and_assoc, e3 ⟨m, hm⟩]
  exact z_and _ _
theorem z_tb (i : Nat) : Nat.testBit 4095 i = decide (i < 12) := Nat.testBit_two_pow_sub_one 12 i
theorem z_mk1 {a m : Nat} (ha : a < 4096) (hm : m < 12) : (a &&& (4095 ^^^ 2 ^ m)) ||| 2 ^ m = a ||| 2 ^ m := by
  apply Nat.eq_of_testBit_eq
  intro i
  simp only [Nat.testBit_or, Nat.testBit_and, Nat.testBit_xor, Nat.testBit_two_pow, z_tb]
  by_cases h : m = i
  · simp [h]
  · by_cases h2 : i < 12
    · simp [h, h2]
    · have : a.testBit i = false := Nat.testBit_lt_two_pow (Nat.lt_of_lt_of_le (show a < 2 ^ 12 from ha) (Nat.pow_le_pow_right (n := 2) (by decide) (show 12 ≤ i by omega)))
      simp [h, h2, this]
theorem z_mk2 {a b m : Nat} (hm : m < 12) (h : a &&& b = 0) : (a ||| 2 ^ m) &&& (b &&& (4095 ^^^ 2 ^ m)) = 0 := by
  apply Nat.eq_of_testBit_eq
  intro i
  have hi : (a.testBit i && b.testBit i) = false := by rw [← Nat.testBit_and, h]; exact Nat.zero_testBit i
  simp only [Nat.testBit_or, Nat.testBit_and, Nat.testBit_xor, Nat.testBit_two_pow, z_tb, Nat.zero_testBit]
  by_cases h1 : m = i
  · have h2 : i < 12 := by omega
    simp [h1, h2]
  · cases ha : a.testBit i <;> cases hb : b.testBit i <;> simp_all
theorem z_mk3 {a b m : Nat} (h : a &&& b = 0) : (a &&& (4095 ^^^ 2 ^ m)) &&& (b &&& (4095 ^^^ 2 ^ m)) = 0 := by
  apply Nat.eq_of_testBit_eq
  intro i
  have hi : (a.testBit i && b.testBit i) = false := by rw [← Nat.testBit_and, h]; exact Nat.zero_testBit i
  simp only [Nat.testBit_and, Nat.zero_testBit]
  cases ha : a.testBit i <;> cases hb : b.testBit i <;> simp_all
theorem z_mkbF : ∀ h : Fin 64, ∀ l : Fin 64, ∀ m : Fin 12, ((64 * h.val + l.val) &&& 2 ^ m.val = 0 ↔ (64 * h.val + l.val) / 2 ^ m.val % 2 = 0) := by decide +kernel
theorem z_mkb {a m : Nat} (ha : a < 4096) (hm : m < 12) : (a &&& 2 ^ m = 0 ↔ a / 2 ^ m % 2 = 0) := by
  have h := z_mkbF ⟨a / 64, by omega⟩ ⟨a % 64, by omega⟩ ⟨m, hm⟩
  have e : 64 * (a / 64) + a % 64 = a := by omega
  simp only [e] at h
  exact h
theorem z_mkx {a b m : Nat} (h : a &&& b = 0) (h1 : a / 2 ^ m % 2 = 1) : b / 2 ^ m % 2 = 0 := by
  have hi : (a.testBit m && b.testBit m) = false := by rw [← Nat.testBit_and, h]; exact Nat.zero_testBit m
  rw [Nat.testBit_eq_decide_div_mod_eq, Nat.testBit_eq_decide_div_mod_eq, h1] at hi
  simp at hi
  omega
theorem zq_mark {k : Nat} {ux um : z_St} (hk : k < 512) (hR : zR k ux um) (a1 a2 a3 : Int32) : ∃ (r : Int32) (vx : z_St) (vm : z_St), zf_X5_mark ux a1 a2 a3 = some (r, vx) ∧ zf_X6_mark um a1 a2 a3 = some (r, vm) ∧ zR (k + 1) vx vm := by
  obtain ⟨T, S, L, E, h, hP, hT, hA, hS, hD, hh⟩ := id hR
  have n1 := zm_no a1 hP.2.1
  have x1 := zx_has a1 hP.1
  have z1 : ¬ (1 : Int32) = 0 := by decide
  have m2 : zf_X6_in a2.toInt64 0 11 = zf_X5_within a2 0 11 := zm_in a2 0 11
  have m3 : zf_X6_in a3.toInt64 0 2 = zf_X5_within a3 0 2 := zm_in a3 0 2
  have hT12 := hP.2.2.1
  by_cases c1 : zf_X5_within a1 0 (nI T - 1) = 0
  · rw [if_pos c1] at n1
    exact ⟨-2, ux, um, by simp only [zf_X5_mark, x1, c1, if_true], by simp only [zf_X6_mark, n1, z1, if_false], zR_k hR (Nat.le_succ k)⟩
  rw [if_neg c1] at n1
  by_cases c2 : zf_X5_within a2 0 11 = 0
  · exact ⟨-2, ux, um, by simp only [zf_X5_mark, x1, c1, c2, if_true, if_false], by simp only [zf_X6_mark, n1, m2, c2, if_true], zR_k hR (Nat.le_succ k)⟩
  by_cases c3 : zf_X5_within a3 0 2 = 0
  · exact ⟨-2, ux, um, by simp only [zf_X5_mark, x1, c1, c2, c3, if_true, if_false], by simp only [zf_X6_mark, n1, m2, c2, m3, c3, if_true, if_false], zR_k hR (Nat.le_succ k)⟩
  obtain ⟨t, ht, rfl⟩ := zx_idx (by omega) c1
  obtain ⟨m, hm, rfl⟩ := zx_idc 11 c2 rfl
  obtain ⟨w, hw, rfl⟩ := zx_idc 2 c3 rfl
  obtain ⟨s1, s2, s3, s4, s5, s6⟩ := id hS
  obtain ⟨e1, e2, a, b, ha, hb, hab, e3, e4⟩ := s5 t ht
  have i1 : z_inb (nI t) 12 = true := z_inb_t (by omega) (by decide)
  have i2 : (nI t).toNatClampNeg = t := z_cl (by omega)
  have hm12 : m < 12 := by omega
  have o1 : (1 : Int32) <<< (nI m &&& 31) = nI (2 ^ m) := z_one (by omega)
  have ba : (nI a >>> (nI m &&& 31)) &&& 1 = nI (a / 2 ^ m % 2) := z_bit (by omega) (by omega)
  have bb : (nI b >>> (nI m &&& 31)) &&& 1 = nI (b / 2 ^ m % 2) := z_bit (by omega) (by omega)
  have y1 : z_rI ux 11 t = nI a := e1.trans e3
  have y2 : z_rI ux 12 t = nI b := e2.trans e4
  have q1 : ∀ (u : z_St) (j : Nat) (v : Int32), z_rI (z_wI u 11 j v) 12 = z_rI u 12 := fun _ _ _ => rfl
  have q2 : ∀ (u : z_St) (j : Nat) (v : Int32), z_rI (z_wI u 7 j v) 8 = z_rI u 8 := fun _ _ _ => rfl
  have or0 : ∀ z : Nat, nI z ||| (0 : Int32) = nI z := fun z => by
    show nI z ||| nI 0 = nI z
    rw [z_or, Nat.or_zero]
  have pw : 2 ^ m < 4096 := by
    have : 2 ^ m ≤ 2 ^ 11 := Nat.pow_le_pow_right (by decide) (by omega)
    omega
  have ca := z_mk m hm12 ha
  have cb := z_mk m hm12 hb
  have sa := z_mk1 ha hm12
  have sb := z_mk1 hb hm12
  have la : a &&& (4095 ^^^ 2 ^ m) < 4096 := Nat.lt_of_le_of_lt Nat.and_le_left ha
  have lb : b &&& (4095 ^^^ 2 ^ m) < 4096 := Nat.lt_of_le_of_lt Nat.and_le_left hb
  have ua : a ||| 2 ^ m < 4096 := Nat.or_lt_two_pow (n := 12) ha pw
  have ub : b ||| 2 ^ m < 4096 := Nat.or_lt_two_pow (n := 12) hb pw
  have ka := z_mkb ha hm12
  have kb := z_mkb hb hm12
  have fin : ∀ a' b' : Nat, a' < 4096 → b' < 4096 → a' &&& b' = 0 → zR (k + 1) (z_wI (z_wI ux 11 t (nI a')) 12 t (nI b')) (z_wI (z_wI um 7 t (nI a')) 8 t (nI b')) := by
    intro a' b' h1 h2 h3
    refine ⟨T, S, L, E, h, hP, hT, hA, ⟨s1, s2, s3, s4, ?_, ?_⟩, hD, by omega⟩
    · intro t' ht'
      show upd (z_rI ux 11) t (nI a') t' = upd (z_rI um 7) t (nI a') t' ∧ upd (z_rI ux 12) t (nI b') t' = upd (z_rI um 8) t (nI b') t' ∧ ∃ x y : Nat, x < 4096 ∧ y < 4096 ∧ x &&& y = 0 ∧ upd (z_rI um 7) t (nI a') t' = nI x ∧ upd (z_rI um 8) t (nI b') t' = nI y
      by_cases q : t' = t
      · subst q
        rw [pk_us, pk_us, pk_us, pk_us]
        exact ⟨rfl, rfl, a', b', h1, h2, h3, rfl, rfl⟩
      · rw [pk_un q, pk_un q, pk_un q, pk_un q]
        exact s5 t' ht'
    · intro t' h1 h2
      show upd (z_rI ux 11) t (nI a') t' = 0 ∧ upd (z_rI ux 12) t (nI b') t' = 0
      rw [pk_un (by omega), pk_un (by omega)]
      exact s6 t' h1 h2
  have hold : (a &&& 2 ^ m = 0 ∧ b &&& 2 ^ m = 0 ∧ a / 2 ^ m % 2 = 0 ∧ b / 2 ^ m % 2 = 0) ∨ (a &&& 2 ^ m ≠ 0 ∧ a / 2 ^ m % 2 = 1 ∧ b / 2 ^ m % 2 = 0) ∨ (a &&& 2 ^ m = 0 ∧ b &&& 2 ^ m ≠ 0 ∧ a / 2 ^ m % 2 = 0 ∧ b / 2 ^ m % 2 = 1) := by
    by_cases q1 : a / 2 ^ m % 2 = 0
    · by_cases q2 : b / 2 ^ m % 2 = 0
      · exact Or.inl ⟨ka.mpr q1, kb.mpr q2, q1, q2⟩
      · exact Or.inr (Or.inr ⟨ka.mpr q1, fun q => q2 (kb.mp q), q1, by omega⟩)
    · have q1' : a / 2 ^ m % 2 = 1 := by omega
      exact Or.inr (Or.inl ⟨fun q => q1 (ka.mp q), q1', z_mkx hab q1'⟩)
  have nz : ∀ z : Nat, z < 4096 → z ≠ 0 → ¬ nI z = (0 : Int32) := fun z h1 h2 => nI_ne0 (by omega) (by omega)
  have n0 : nI 0 = (0 : Int32) := rfl
  have lta : a &&& 2 ^ m < 4096 := Nat.lt_of_le_of_lt Nat.and_le_left ha
  have ltb : b &&& 2 ^ m < 4096 := Nat.lt_of_le_of_lt Nat.and_le_left hb
  rcases (show w = 0 ∨ w = 1 ∨ w = 2 by omega) with rfl | rfl | rfl
  · have w1 : ¬ nI 0 = (1 : Int32) := by decide
    have w2 : ¬ nI 0 = (2 : Int32) := by decide
    refine ⟨nI (a / 2 ^ m % 2) + 2 * nI (b / 2 ^ m % 2), _, _, ?_, ?_, fin _ _ la lb (z_mk3 hab)⟩
    · rcases hold with ⟨k1, k2, k3, k4⟩ | ⟨k1, k3, k4⟩ | ⟨k1, k2, k3, k4⟩
      · simp only [zf_X5_mark, x1, c1, c2, c3, if_false, zf_X3_changeMark, z_nm, o1, i1, i2, z_gd, cond_true, y1, y2, z_and, k1, k2, n0, if_true, w1, w2, q1, ca, cb, z_bd2, k3, k4]
        rfl
      · simp only [zf_X5_mark, x1, c1, c2, c3, if_false, zf_X3_changeMark, z_nm, o1, i1, i2, z_gd, cond_true, y1, y2, z_and, nz _ lta k1, w1, w2, q1, ca, cb, z_bd2, k3, k4]
        rfl
      · simp only [zf_X5_mark, x1, c1, c2, c3, if_false, zf_X3_changeMark, z_nm, o1, i1, i2, z_gd, cond_true, y1, y2, z_and, k1, n0, if_true, nz _ ltb k2, w1, w2, q1, ca, cb, z_bd2, k3, k4]
        rfl
    · simp only [zf_X6_mark, n1, m2, c2, m3, c3, if_true, if_false, i1, i2, z_gd, cond_true, z_nm, e3, e4, ba, bb, w1, w2, o1, q2, ca, cb, or0]
  · have w1 : nI 1 = (1 : Int32) := rfl
    have w2 : ¬ (1 : Int32) = (2 : Int32) := by decide
    refine ⟨nI (a / 2 ^ m % 2) + 2 * nI (b / 2 ^ m % 2), _, _, ?_, ?_, fin _ _ ua lb (z_mk2 hm12 hab)⟩
    · rcases hold with ⟨k1, k2, k3, k4⟩ | ⟨k1, k3, k4⟩ | ⟨k1, k2, k3, k4⟩
      · simp only [zf_X5_mark, x1, c1, c2, c3, if_false, zf_X3_changeMark, z_nm, o1, i1, i2, z_gd, cond_true, y1, y2, z_and, k1, k2, n0, if_true, w1, w2, q1, z_or, cb, z_bd2, k3, k4]
        rfl
      · simp only [zf_X5_mark, x1, c1, c2, c3, if_false, zf_X3_changeMark, z_nm, o1, i1, i2, z_gd, cond_true, y1, y2, z_and, nz _ lta k1, w1, w2, if_true, q1, z_or, cb, z_bd2, k3, k4]
        rfl
      · simp only [zf_X5_mark, x1, c1, c2, c3, if_false, zf_X3_changeMark, z_nm, o1, i1, i2, z_gd, cond_true, y1, y2, z_and, k1, n0, if_true, nz _ ltb k2, w1, w2, q1, z_or, cb, z_bd2, k3, k4]
        rfl
    · simp only [zf_X6_mark, n1, m2, c2, show zf_X6_in (Int32.toInt64 1) 0 2 = zf_X5_within 1 0 2 from m3, show ¬ zf_X5_within (1 : Int32) 0 2 = 0 from c3, if_true, if_false, i1, i2, z_gd, cond_true, z_nm, e3, e4, ba, bb, w1, w2, o1, q2, ca, cb, or0, z_or, sa]
  · have w1 : ¬ nI 2 = (1 : Int32) := by decide
    have w2 : nI 2 = (2 : Int32) := rfl
    have w3 : ¬ (2 : Int32) = (1 : Int32) := by decide
    refine ⟨nI (a / 2 ^ m % 2) + 2 * nI (b / 2 ^ m % 2), _, _, ?_, ?_, fin _ _ la ub (by rw [Nat.and_comm]; exact z_mk2 hm12 (by rw [Nat.and_comm]; exact hab))⟩
    · rcases hold with ⟨k1, k2, k3, k4⟩ | ⟨k1, k3, k4⟩ | ⟨k1, k2, k3, k4⟩
      · simp only [zf_X5_mark, x1, c1, c2, c3, if_false, zf_X3_changeMark, z_nm, o1, i1, i2, z_gd, cond_true, y1, y2, z_and, k1, k2, n0, if_true, w2, w3, q1, z_or, ca, z_bd2, k3, k4]
        rfl
      · simp only [zf_X5_mark, x1, c1, c2, c3, if_false, zf_X3_changeMark, z_nm, o1, i1, i2, z_gd, cond_true, y1, y2, z_and, nz _ lta k1, w2, w3, if_true, q1, z_or, ca, z_bd2, k3, k4]
        rfl
      · simp only [zf_X5_mark, x1, c1, c2, c3, if_false, zf_X3_changeMark, z_nm, o1, i1, i2, z_gd, cond_true, y1, y2, z_and, k1, n0, if_true, nz _ ltb k2, w2, w3, q1, z_or, ca, z_bd2, k3, k4]
        rfl
    · simp only [zf_X6_mark, n1, m2, c2, show zf_X6_in (Int32.toInt64 2) 0 2 = zf_X5_within 2 0 2 from m3, show ¬ zf_X5_within (2 : Int32) 0 2 = 0 from c3, if_true, if_false, i1, i2, z_gd, cond_true, z_nm, e3, e4, ba, bb, w2, w3, o1, q2, ca, cb, or0, z_or, sb]
