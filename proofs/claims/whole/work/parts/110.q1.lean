theorem zx_w (x lo hi : Int32) : zf_X5_within x lo hi = if lo.toInt ≤ x.toInt ∧ x.toInt ≤ hi.toInt then 1 else 0 := by
  unfold zf_X5_within
  by_cases h1 : x < lo
  · rw [if_pos h1, if_neg]
    have := (z_ltI x lo).mp h1
    omega
  · rw [if_neg h1]
    have h1 : ¬ x.toInt < lo.toInt := fun h => h1 ((z_ltI x lo).mpr h)
    by_cases h2 : hi < x
    · rw [if_pos h2, if_neg]
      have := (z_ltI hi x).mp h2
      omega
    · rw [if_neg h2, if_pos]
      have h2 : ¬ hi.toInt < x.toInt := fun h => h2 ((z_ltI hi x).mpr h)
      omega
theorem z_x64 (x : Int32) : x.toInt64.toInt = x.toInt := Int32.toInt_toInt64 x
theorem zm_w (x lo hi : Int64) : zf_X6_in x lo hi = if lo.toInt ≤ x.toInt ∧ x.toInt ≤ hi.toInt then 1 else 0 := by
  unfold zf_X6_in
  have e1 : lg_cmp x lo < 0 ↔ x.toInt < lo.toInt := by
    unfold lg_cmp
    by_cases h : x > lo
    · rw [if_pos h]
      have := Int64.lt_iff_toInt_lt.mp h
      constructor
      · intro h; exact absurd h (by decide)
      · intro h; omega
    · rw [if_neg h]
      by_cases h2 : x = lo
      · rw [if_pos h2, h2]
        constructor
        · intro h; exact absurd h (by decide)
        · intro h; omega
      · rw [if_neg h2]
        constructor
        · intro _
          have h3 : ¬ lo.toInt < x.toInt := fun q => h (Int64.lt_iff_toInt_lt.mpr q)
          have h4 : ¬ x.toInt = lo.toInt := fun q => h2 (Int64.toInt_inj.mp q)
          omega
        · intro _; decide
  have e2 : 0 < lg_cmp x hi ↔ hi.toInt < x.toInt := by
    unfold lg_cmp
    by_cases h : x > hi
    · rw [if_pos h]
      have := Int64.lt_iff_toInt_lt.mp h
      constructor
      · intro _; omega
      · intro _; decide
    · rw [if_neg h]
      have h3 : ¬ hi.toInt < x.toInt := fun q => h (Int64.lt_iff_toInt_lt.mpr q)
      constructor
      · intro q
        split at q
        · exact absurd q (by decide)
        · exact absurd q (by decide)
      · intro q; omega
  by_cases h1 : lg_cmp x lo < 0
  · rw [if_pos h1, if_neg]
    have := e1.mp h1
    omega
  · rw [if_neg h1]
    have h1 : ¬ x.toInt < lo.toInt := fun h => h1 (e1.mpr h)
    by_cases h2 : 0 < lg_cmp x hi
    · rw [if_pos h2, if_neg]
      have := e2.mp h2
      omega
    · rw [if_neg h2, if_pos]
      have h2 : ¬ hi.toInt < x.toInt := fun h => h2 (e2.mpr h)
      omega
theorem zm_in (x lo hi : Int32) : zf_X6_in x.toInt64 lo.toInt64 hi.toInt64 = zf_X5_within x lo hi := by
  rw [zm_w, zx_w, z_x64, z_x64, z_x64]
theorem zx_ok {x lo hi : Int32} (h : ¬ zf_X5_within x lo hi = 0) : lo.toInt ≤ x.toInt ∧ x.toInt ≤ hi.toInt := by
  rw [zx_w] at h
  by_cases c : lo.toInt ≤ x.toInt ∧ x.toInt ≤ hi.toInt
  · exact c
  · rw [if_neg c] at h
    exact absurd rfl h
theorem zx_yes {x lo hi : Int32} (h : lo.toInt ≤ x.toInt ∧ x.toInt ≤ hi.toInt) : zf_X5_within x lo hi = 1 := by
  rw [zx_w, if_pos h]
theorem z_nat {x : Int32} (h : 0 ≤ x.toInt) : ∃ j : Nat, x = nI j ∧ (j : Int) = x.toInt ∧ j < 2 ^ 31 := by
  obtain ⟨j, h1, h2⟩ := nI_of (x := x) (fun q => by have := (z_ltI x 0).mp q; have e : (0 : Int32).toInt = 0 := rfl; omega)
  exact ⟨j, h2, by rw [h2, nI_toInt h1], h1⟩
theorem z_pred {N : Nat} (hN : N < 2 ^ 31) : (nI N - 1).toInt = (N : Int) - 1 := by
  rw [Int32.toInt_sub, nI_toInt hN]
  have e : (1 : Int32).toInt = 1 := rfl
  rw [e]
  exact Int.bmod_eq_of_le (by omega) (by omega)
theorem zx_idx {x : Int32} {N : Nat} (hN : N < 2 ^ 31) (h : ¬ zf_X5_within x 0 (nI N - 1) = 0) : ∃ j, j < N ∧ x = nI j := by
  have h := zx_ok h
  rw [z_pred hN] at h
  have e : (0 : Int32).toInt = 0 := rfl
  obtain ⟨j, h1, h2, h3⟩ := z_nat (x := x) (by omega)
  exact ⟨j, by omega, h1⟩
theorem zx_idc {x hi : Int32} (n : Nat) (h : ¬ zf_X5_within x 0 hi = 0) (hh : hi.toInt = n) : ∃ j, j ≤ n ∧ x = nI j := by
  have h := zx_ok h
  have e : (0 : Int32).toInt = 0 := rfl
  obtain ⟨j, h1, h2, h3⟩ := z_nat (x := x) (by omega)
  exact ⟨j, by omega, h1⟩
theorem z_updc {f g : Nat → Int32} {j i : Nat} {v : Int32} (h : f i = g i) : upd f j v i = upd g j v i := by
  unfold upd
  split
  · rfl
  · exact h
theorem zq_work {k : Nat} {ux um : z_St} (hk : k < 512) (hR : zR k ux um) (a1 a2 a3 : Int32) : ∃ (r : Int32) (vx : z_St) (vm : z_St), zf_X5_work ux a1 a2 a3 = some (r, vx) ∧ zf_X6_work um a1 a2 a3 = some (r, vm) ∧ zR (k + 1) vx vm := by
  have m1 : zf_X6_in a1.toInt64 0 9 = zf_X5_within a1 0 9 := zm_in a1 0 9
  have m2 : zf_X6_in a2.toInt64 1600 1950 = zf_X5_within a2 1600 1950 := zm_in a2 1600 1950
  have m3 : zf_X6_in a3.toInt64 a2.toInt64 1950 = zf_X5_within a3 a2 1950 := zm_in a3 a2 1950
  by_cases c1 : zf_X5_within a1 0 9 = 0
  · exact ⟨-2, ux, um, by simp only [zf_X5_work, c1, if_true], by simp only [zf_X6_work, m1, c1, if_true], zR_k hR (Nat.le_succ k)⟩
  by_cases c2 : zf_X5_within a2 1600 1950 = 0
  · exact ⟨-2, ux, um, by simp only [zf_X5_work, c1, c2, if_true, if_false], by simp only [zf_X6_work, m1, m2, c1, c2, if_true, if_false], zR_k hR (Nat.le_succ k)⟩
  by_cases c3 : zf_X5_within a3 a2 1950 = 0
  · exact ⟨-2, ux, um, by simp only [zf_X5_work, c1, c2, c3, if_true, if_false], by simp only [zf_X6_work, m1, m2, m3, c1, c2, c3, if_true, if_false], zR_k hR (Nat.le_succ k)⟩
  obtain ⟨j, hj, rfl⟩ := zx_idc 9 c1 rfl
  have i1 : z_inb (nI j) 10 = true := z_inb_t (by omega) (by decide)
  have i2 : (nI j).toNatClampNeg = j := z_cl (by omega)
  refine ⟨1, z_wI (z_wI ux 5 j a2) 6 j a3, z_wI (z_wI um 0 j a2) 1 j a3, ?_, ?_, ?_⟩
  · simp only [zf_X5_work, c1, c2, c3, if_false, zf_X2_setYears, i1, i2, z_gd, z_nm, cond_true, z_bd]
  · simp only [zf_X6_work, m1, m2, m3, c1, c2, c3, if_false, i1, i2, z_gd, z_nm, cond_true]
  · obtain ⟨T, S, L, E, h, hP, hT, hA, hS, hD, hh⟩ := hR
    refine ⟨T, S, L, E, h, ⟨hP.1, hP.2.1, hP.2.2.1, ?_, hP.2.2.2.2.1, hP.2.2.2.2.2.1, hP.2.2.2.2.2.2⟩, hT, hA, hS, hD, by omega⟩
    intro i hi
    obtain ⟨e1, e2⟩ := hP.2.2.2.1 i hi
    exact ⟨z_updc (f := z_rI ux 5) (g := z_rI um 0) e1, z_updc (f := z_rI ux 6) (g := z_rI um 1) e2⟩
