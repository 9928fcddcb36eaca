theorem z_m1T : (-1 : Int32).toInt = -1 := rfl
theorem z_neg {x : Int32} (h1 : (-1 : Int32).toInt ≤ x.toInt) (h2 : x.toInt ≤ (7 : Int32).toInt) : x = -1 ∨ ∃ d, d < 8 ∧ x = nI d := by
  have e7 : (7 : Int32).toInt = 7 := rfl
  have e1 := z_m1T
  by_cases h : 0 ≤ x.toInt
  · obtain ⟨j, a, b, c⟩ := z_nat h
    exact Or.inr ⟨j, by omega, a⟩
  · exact Or.inl (Int32.toInt_inj.mp (by omega))
theorem z_nIne {n : Nat} (h : n < 2 ^ 31) : ¬ nI n = -1 := by
  intro e
  have := congrArg Int32.toInt e
  rw [nI_toInt h, z_m1T] at this
  omega
theorem zq_hold {k : Nat} {ux um : z_St} (hk : k < 512) (hR : zR k ux um) (a1 a2 : Int32) : ∃ (r : Int32) (vx : z_St) (vm : z_St), zf_X5_hold ux a1 a2 = some (r, vx) ∧ zf_X6_hold um a1 a2 = some (r, vm) ∧ zR (k + 1) vx vm := by
  obtain ⟨T, S, L, E, h, hP, hT, hA, hS, hD, hh⟩ := id hR
  have n1 := zm_no a1 hP.2.1
  have x1 := zx_has a1 hP.1
  have z1 : ¬ (1 : Int32) = 0 := by decide
  by_cases c1 : zf_X5_within a1 0 (nI T - 1) = 0
  · rw [if_pos c1] at n1
    exact ⟨-2, ux, um, by simp only [zf_X5_hold, x1, c1, if_true], by simp only [zf_X6_hold, n1, z1, if_false], zR_k hR (Nat.le_succ k)⟩
  rw [if_neg c1] at n1
  have m2 : zf_X6_in a2.toInt64 (-1) 7 = zf_X5_within a2 (-1) 7 := zm_in a2 (-1) 7
  by_cases c2 : zf_X5_within a2 (-1) 7 = 0
  · exact ⟨-2, ux, um, by simp only [zf_X5_hold, x1, c1, c2, if_true, if_false], by simp only [zf_X6_hold, n1, m2, c2, if_true], zR_k hR (Nat.le_succ k)⟩
  obtain ⟨t, ht, rfl⟩ := zx_idx (by have := hP.2.2.1; omega) c1
  have hT12 := hP.2.2.1
  have i1 : z_inb (nI t) 12 = true := z_inb_t (by omega) (by decide)
  have i2 : (nI t).toNatClampNeg = t := z_cl (by omega)
  obtain ⟨t1, t2, t3, t4, t5, t6, t7, t8, t9⟩ := id hT
  refine ⟨z_rI um 5 t, z_wI (z_wI ux 16 t a2) 17 t (-1), z_wI (z_wI um 5 t a2) 6 t (-1), ?_, ?_, ?_⟩
  · simp only [zf_X5_hold, x1, c1, c2, if_false, zf_X4_handOver, i1, i2, z_gd, z_nm, cond_true, z_bd2, (t7 t ht).1]
  · simp only [zf_X6_hold, n1, if_true, m2, c2, if_false, i1, i2, z_gd, z_nm, cond_true]
  · refine ⟨T, S, L, E, h, hP, ⟨t1, t2, t3, t4, t5, t6, ?_, ?_, t9⟩, hA, hS, hD, by omega⟩
    · intro t' ht'
      show upd (z_rI ux 16) t a2 t' = upd (z_rI um 5) t a2 t' ∧ upd (z_rI ux 17) t (-1) t' = upd (z_rI um 6) t (-1) t' ∧ (upd (z_rI um 5) t a2 t' = -1 ∨ ∃ d, d < 8 ∧ upd (z_rI um 5) t a2 t' = nI d) ∧ (upd (z_rI um 6) t (-1) t' = -1 ∨ ∃ x, x < S ∧ upd (z_rI um 6) t (-1) t' = nI x)
      by_cases e : t' = t
      · subst e
        rw [pk_us, pk_us, pk_us, pk_us]
        have := zx_ok c2
        exact ⟨rfl, rfl, z_neg this.1 this.2, Or.inl rfl⟩
      · rw [pk_un e, pk_un e, pk_un e, pk_un e]
        exact t7 t' ht'
    · intro t' h1 h2
      show upd (z_rI ux 16) t a2 t' = -1 ∧ upd (z_rI ux 17) t (-1) t' = -1 ∧ z_rI ux 18 t' = -1
      rw [pk_un (by omega), pk_un (by omega)]
      exact t8 t' h1 h2
theorem zq_holder {k : Nat} {ux um : z_St} (hk : k < 512) (hR : zR k ux um) (a1 : Int32) : ∃ (r : Int32), zf_X5_holder ux a1 = some r ∧ zf_X6_holder um a1 = some r ∧ zR (k + 1) ux um := by
  obtain ⟨T, S, L, E, h, hP, hT, hA, hS, hD, hh⟩ := id hR
  have n1 := zm_no a1 hP.2.1
  have x1 := zx_has a1 hP.1
  have z1 : ¬ (1 : Int32) = 0 := by decide
  by_cases c1 : zf_X5_within a1 0 (nI T - 1) = 0
  · rw [if_pos c1] at n1
    exact ⟨-2, by simp only [zf_X5_holder, x1, c1, if_true], by simp only [zf_X6_holder, n1, z1, if_false], zR_k hR (Nat.le_succ k)⟩
  rw [if_neg c1] at n1
  obtain ⟨t, ht, rfl⟩ := zx_idx (by have := hP.2.2.1; omega) c1
  have hT12 := hP.2.2.1
  have i1 : z_inb (nI t) 12 = true := z_inb_t (by omega) (by decide)
  have i2 : (nI t).toNatClampNeg = t := z_cl (by omega)
  have e := (hT.2.2.2.2.2.2.1 t ht).1
  exact ⟨z_rI um 5 t, by simp only [zf_X5_holder, x1, c1, if_false, zf_X4_holderOf, i1, i2, z_gd, cond_true, z_bd, e], by simp only [zf_X6_holder, n1, if_true, i1, i2, z_gd, cond_true], zR_k hR (Nat.le_succ k)⟩
theorem zq_hours {k : Nat} {ux um : z_St} (hk : k < 512) (hR : zR k ux um) (a1 : Int32) : ∃ (r : Int32) (vx : z_St) (vm : z_St), zf_X5_hours ux a1 = some (r, vx) ∧ zf_X6_hours um a1 = some (r, vm) ∧ zR (k + 1) vx vm := by
  obtain ⟨T, S, L, E, h, hP, hT, hA, hS, hD, hh⟩ := id hR
  have m1 : zf_X6_in a1.toInt64 1 20 = zf_X5_within a1 1 20 := zm_in a1 1 20
  by_cases c1 : zf_X5_within a1 1 20 = 0
  · exact ⟨-2, ux, um, by simp only [zf_X5_hours, c1, if_true], by simp only [zf_X6_hours, m1, c1, if_true], zR_k hR (Nat.le_succ k)⟩
  have hv := zx_ok c1
  have ev : (1 : Int32).toInt = 1 ∧ (20 : Int32).toInt = 20 := ⟨rfl, rfl⟩
  obtain ⟨a, ha, ha2, ha3⟩ := z_nat (x := a1) (by omega)
  subst ha
  obtain ⟨t1, t2, t3, t4, t5, t6, t7, t8, t9, t10, t11, t12⟩ := id hT
  have q1 : ∀ v : Int32, z_rI (z_wI ux 22 0 v) 22 0 = v := fun v => rfl
  have q2 : ∀ v : Int32, z_rI (z_wI um 11 0 v) 11 0 = v := fun v => rfl
  refine ⟨nI (h + a), z_wI ux 22 0 (nI (h + a)), z_wI um 11 0 (nI (h + a)), ?_, ?_, ?_⟩
  · simp only [zf_X5_hours, c1, if_false, zf_X4_passHours, t4, nI_add, z_nm, q1, z_bd2]
  · simp only [zf_X6_hours, m1, c1, if_false, t5, nI_add, z_nm, q2]
  · refine ⟨T, S, L, E, h + a, hP, ⟨t1, t2, t3, rfl, rfl, by omega, t7, t8, t9, t10, t11, ?_⟩, hA, hS, hD, by omega⟩
    intro x t hx ht he
    obtain ⟨g, g2, y1, y2, y3, y4⟩ := t12 x t hx ht he
    exact ⟨g, g2, y1, y2, y3, by omega⟩
theorem z_7 (x j : Nat) : nI x * (7 : Int32) + nI j = nI (7 * x + j) := by
  rw [z_lit, z_mul, nI_add, Nat.mul_comm x 7]
theorem zx_field {ux : z_St} {x j : Nat} (hx : x < 80) (hj : j < 7) : zf_X4_field ux (nI x) (nI j) = some (z_rI ux 19 (7 * x + j)) := by
  have i1 : z_inb (nI (7 * x + j)) 560 = true := z_inb_t (by omega) (by decide)
  have i2 : (nI (7 * x + j)).toNatClampNeg = 7 * x + j := z_cl (by omega)
  simp only [zf_X4_field, z_7, i1, i2, z_gd, cond_true]
theorem zm_saleOf {um : z_St} {x : Nat} (hx : x < 80) (j : Nat) (hj : j < 7) : zf_X6_saleOf um (nI x) (nI j) = some (z_rI um (13 + j) x) := by
  have i1 : z_inb (nI x) 80 = true := z_inb_t hx (by decide)
  have i2 : (nI x).toNatClampNeg = x := z_cl (by omega)
  unfold zf_X6_saleOf
  rcases (show j = 0 ∨ j = 1 ∨ j = 2 ∨ j = 3 ∨ j = 4 ∨ j = 5 ∨ j = 6 by omega) with rfl | rfl | rfl | rfl | rfl | rfl | rfl
  · rw [if_pos (by decide)]
    simp only [i1, i2, z_gd, cond_true]
  · rw [if_neg (by decide), if_pos (by decide)]
    simp only [i1, i2, z_gd, cond_true]
  · rw [if_neg (by decide), if_neg (by decide), if_pos (by decide)]
    simp only [i1, i2, z_gd, cond_true]
  · rw [if_neg (by decide), if_neg (by decide), if_neg (by decide), if_pos (by decide)]
    simp only [i1, i2, z_gd, cond_true]
  · rw [if_neg (by decide), if_neg (by decide), if_neg (by decide), if_neg (by decide), if_pos (by decide)]
    simp only [i1, i2, z_gd, cond_true]
  · rw [if_neg (by decide), if_neg (by decide), if_neg (by decide), if_neg (by decide), if_neg (by decide), if_pos (by decide)]
    simp only [i1, i2, z_gd, cond_true]
  · rw [if_neg (by decide), if_neg (by decide), if_neg (by decide), if_neg (by decide), if_neg (by decide), if_neg (by decide)]
    simp only [i1, i2, z_gd, cond_true]
/-- a field of a SALE, on both sides -/
theorem z_row {T S h : Nat} {ux um : z_St} (hT : zR_T T S h ux um) {x : Nat} (hx : x < S) (j : Nat) (hj : j < 7) : z_rI ux 19 (7 * x + j) = z_rI um (13 + j) x := by
  obtain ⟨y0, y1, y2, y3, y4, y5, y6, -⟩ := hT.2.2.2.2.2.2.2.2.1 x hx
  rcases (show j = 0 ∨ j = 1 ∨ j = 2 ∨ j = 3 ∨ j = 4 ∨ j = 5 ∨ j = 6 by omega) with rfl | rfl | rfl | rfl | rfl | rfl | rfl
  · exact y0
  · exact y1
  · exact y2
  · exact y3
  · exact y4
  · exact y5
  · exact y6
theorem zq_sale {k : Nat} {ux um : z_St} (hk : k < 512) (hR : zR k ux um) (a1 a2 : Int32) : ∃ (r : Int32), zf_X5_sale ux a1 a2 = some r ∧ zf_X6_sale um a1 a2 = some r ∧ zR (k + 1) ux um := by
  obtain ⟨T, S, L, E, h, hP, hT, hA, hS, hD, hh⟩ := id hR
  obtain ⟨t1, t2, t3, -⟩ := id hT
  have m2 : zf_X6_in a2.toInt64 0 6 = zf_X5_within a2 0 6 := zm_in a2 0 6
  have x1 : zf_X4_saleCount ux = nI S := t1
  by_cases c0 : a1 < 0
  · exact ⟨-2, by simp only [zf_X5_sale, c0, if_true], by simp only [zf_X6_sale, c0, if_true], zR_k hR (Nat.le_succ k)⟩
  by_cases c2 : zf_X5_within a2 0 6 = 0
  · exact ⟨-2, by simp only [zf_X5_sale, c0, c2, if_true, if_false], by simp only [zf_X6_sale, c0, m2, c2, if_true, if_false], zR_k hR (Nat.le_succ k)⟩
  by_cases c3 : a1 < nI S
  · obtain ⟨i, hi, rfl⟩ := nI_of c0
    have hi2 : i < S := by
      rw [nI_ltI hi (by omega)] at c3
      exact c3
    obtain ⟨j, hj, rfl⟩ := zx_idc 6 c2 rfl
    refine ⟨z_rI um (13 + j) i, ?_, ?_, zR_k hR (Nat.le_succ k)⟩
    · simp only [zf_X5_sale, c0, c2, if_false, x1, c3, if_true, zx_field (ux := ux) (x := i) (j := j) (by omega) (by omega), z_bd, z_row hT hi2 j (by omega)]
    · simp only [zf_X6_sale, c0, if_false, m2, c2, t2, c3, if_true, zm_saleOf (um := um) (x := i) (by omega) j (by omega), z_bd]
  · exact ⟨-1, by simp only [zf_X5_sale, c0, c2, if_false, x1, c3], by simp only [zf_X6_sale, c0, if_false, m2, c2, t2, c3], zR_k hR (Nat.le_succ k)⟩
