theorem z_a0 (x : Int32) : x + 0 = x := Int32.add_zero x
theorem z_sub0 (x y : Int32) : x + (0 - y) = x - y := by
  rw [Int32.sub_eq_add_neg, Int32.zero_add, ← Int32.sub_eq_add_neg]
theorem zx_dl (a : Int32) : zf_X5_isDealer a = zf_X5_within a 0 7 := rfl
theorem zm_dl (a : Int32) : zf_X6_isDealer a = zf_X5_within a 0 7 := zm_in a 0 7
/-- the head of a loop over the SALES -/
theorem z_lo {i S : Nat} (h : i < S) (hS : S ≤ 1000) : ¬ nI S ≤ nI i := nI_ge h (by omega)
theorem z_hi (S : Nat) : nI S ≤ nI S := Int32.le_refl _
theorem zl_standing {T S h : Nat} {ux um : z_St} (hT : zR_T T S h ux um) : ∀ (k i : Nat) (a : Int32) (n1 n2 : Nat), i + k = S → k < n1 → k < n2 → ∃ o, zf_X4_standingCount_4 ux n1 a (nI i) = some (o, nI S) ∧ zf_X6_standing_4 um n2 a (nI i) = some (o, nI S) := by
  obtain ⟨t1, t2, t3, -⟩ := id hT
  intro k
  induction k with
  | zero =>
    intro i a n1 n2 hi h1 h2
    have hi : i = S := by omega
    subst hi
    obtain ⟨m1, rfl⟩ : ∃ m, n1 = m + 1 := ⟨n1 - 1, by omega⟩
    obtain ⟨m2, rfl⟩ : ∃ m, n2 = m + 1 := ⟨n2 - 1, by omega⟩
    exact ⟨a, by rw [zf_X4_standingCount_4.eq_2, t1, if_pos (z_hi i)], by rw [zf_X6_standing_4.eq_2, t2, if_pos (z_hi i)]⟩
  | succ k ih =>
    intro i a n1 n2 hi h1 h2
    obtain ⟨m1, rfl⟩ : ∃ m, n1 = m + 1 := ⟨n1 - 1, by omega⟩
    obtain ⟨m2, rfl⟩ : ∃ m, n2 = m + 1 := ⟨n2 - 1, by omega⟩
    have hx : i < S := by omega
    have c := z_lo hx (by omega)
    have f6 : zf_X4_field ux (nI i) 6 = some (z_rI um 19 i) := (zx_field (ux := ux) (x := i) (j := 6) (by omega) (by decide)).trans (by rw [z_row hT hx 6 (by decide)])
    have i1 : z_inb (nI i) 80 = true := z_inb_t (by omega) (by decide)
    have i2 : (nI i).toNatClampNeg = i := z_cl (by omega)
    obtain ⟨o, h3, h4⟩ := ih (i + 1) (a + z_rI um 19 i) m1 m2 (by omega) (by omega) (by omega)
    refine ⟨o, ?_, ?_⟩
    · rw [zf_X4_standingCount_4.eq_2]
      simp only [t1, c, if_false, f6, z_bd, z_nm, z_n1]
      exact h3
    · rw [zf_X6_standing_4.eq_2]
      simp only [t2, c, if_false, i1, i2, z_gd, cond_true, z_nm, z_n1]
      exact h4
theorem zl_stands {T S h : Nat} {ux um : z_St} (hT : zR_T T S h ux um) {i : Nat} (hx : i < S) : zf_X4_stands ux (nI i) = some (z_rI um 19 i) := by
  have t3 := hT.2.2.1
  have f6 : zf_X4_field ux (nI i) 6 = some (z_rI um 19 i) := (zx_field (ux := ux) (x := i) (j := 6) (by omega) (by decide)).trans (by rw [z_row hT hx 6 (by decide)])
  unfold zf_X4_stands
  rw [f6]
  show (if z_rI um 19 i = 1 then some 1 else some 0) = some (z_rI um 19 i)
  obtain ⟨-, -, -, -, y, -⟩ := hT.2.2.2.2.2.2.2.2.2.1 i hx
  rcases y with y | y
  · rw [y]; rfl
  · rw [y]; rfl
theorem zl_gain {T S h : Nat} {ux um : z_St} (hT : zR_T T S h ux um) (d : Int32) : ∀ (k i : Nat) (a : Int32) (n1 n2 : Nat), i + k = S → k < n1 → k < n2 → ∃ o, zf_X4_gainOf_4 d ux n1 a (nI i) = some (o, nI S) ∧ zf_X6_gainOf_4 d um n2 a (nI i) = some (o, nI S) := by
  obtain ⟨t1, t2, t3, -⟩ := id hT
  intro k
  induction k with
  | zero =>
    intro i a n1 n2 hi h1 h2
    have hi : i = S := by omega
    subst hi
    obtain ⟨m1, rfl⟩ : ∃ m, n1 = m + 1 := ⟨n1 - 1, by omega⟩
    obtain ⟨m2, rfl⟩ : ∃ m, n2 = m + 1 := ⟨n2 - 1, by omega⟩
    exact ⟨a, by rw [zf_X4_gainOf_4.eq_2, t1, if_pos (z_hi i)], by rw [zf_X6_gainOf_4.eq_2, t2, if_pos (z_hi i)]⟩
  | succ k ih =>
    intro i a n1 n2 hi h1 h2
    obtain ⟨m1, rfl⟩ : ∃ m, n1 = m + 1 := ⟨n1 - 1, by omega⟩
    obtain ⟨m2, rfl⟩ : ∃ m, n2 = m + 1 := ⟨n2 - 1, by omega⟩
    have hx : i < S := by omega
    have c := z_lo hx (by omega)
    have f1 : zf_X4_field ux (nI i) 1 = some (z_rI um 14 i) := (zx_field (ux := ux) (x := i) (j := 1) (by omega) (by decide)).trans (by rw [z_row hT hx 1 (by decide)])
    have f2 : zf_X4_field ux (nI i) 2 = some (z_rI um 15 i) := (zx_field (ux := ux) (x := i) (j := 2) (by omega) (by decide)).trans (by rw [z_row hT hx 2 (by decide)])
    have f3 : zf_X4_field ux (nI i) 3 = some (z_rI um 16 i) := (zx_field (ux := ux) (x := i) (j := 3) (by omega) (by decide)).trans (by rw [z_row hT hx 3 (by decide)])
    have fs := zl_stands hT hx
    have i1 : z_inb (nI i) 80 = true := z_inb_t (by omega) (by decide)
    have i2 : (nI i).toNatClampNeg = i := z_cl (by omega)
    obtain ⟨-, -, -, y4, y5, -⟩ := hT.2.2.2.2.2.2.2.2.2.1 i hx
    have z1 : ¬ (1 : Int32) = 0 := by decide
    rw [zf_X4_gainOf_4.eq_2, zf_X6_gainOf_4.eq_2]
    simp only [t1, t2, c, if_false, fs, f1, f2, f3, z_bd, z_nm, z_n1, i1, i2, z_gd, cond_true, z_a0, z_sub0]
    rcases y5 with y5 | y5
    · simp only [y5, if_true]
      exact ih (i + 1) a m1 m2 (by omega) (by omega) (by omega)
    · simp only [y5, z1, if_false]
      by_cases c1 : z_rI um 14 i = d
      · have c2 : ¬ z_rI um 15 i = d := fun q => y4 (c1.trans q.symm)
        simp only [c1, c2, if_true, if_false]
        exact ih (i + 1) (a + z_rI um 16 i) m1 m2 (by omega) (by omega) (by omega)
      · by_cases c2 : z_rI um 15 i = d
        · simp only [c1, c2, if_true, if_false]
          exact ih (i + 1) (a - z_rI um 16 i) m1 m2 (by omega) (by omega) (by omega)
        · simp only [c1, c2, if_false]
          exact ih (i + 1) a m1 m2 (by omega) (by omega) (by omega)
/-- a DEALER's GAIN, on both sides -/
theorem z_gain {T S h : Nat} {ux um : z_St} (hT : zR_T T S h ux um) (d : Int32) : ∃ o, zf_X4_gainOf ux d = some o ∧ zf_X6_gainOf um d = some o := by
  have t3 := hT.2.2.1
  obtain ⟨o, h1, h2⟩ := zl_gain hT d S 0 0 5000 5000 (by omega) (by omega) (by omega)
  exact ⟨o, by unfold zf_X4_gainOf; exact z_bd2_e h1, by unfold zf_X6_gainOf; exact z_bd2_e h2⟩
theorem z_standing {T S h : Nat} {ux um : z_St} (hT : zR_T T S h ux um) : ∃ o, zf_X4_standingCount ux = some o ∧ zf_X6_standing um = some o := by
  have t3 := hT.2.2.1
  obtain ⟨o, h1, h2⟩ := zl_standing hT S 0 0 5000 5000 (by omega) (by omega) (by omega)
  exact ⟨o, by unfold zf_X4_standingCount; exact z_bd2_e h1, by unfold zf_X6_standing; exact z_bd2_e h2⟩
theorem zq_gain {k : Nat} {ux um : z_St} (hk : k < 512) (hR : zR k ux um) (a1 : Int32) : ∃ (r : Int32), zf_X5_gain ux a1 = some r ∧ zf_X6_gain um a1 = some r ∧ zR (k + 1) ux um := by
  obtain ⟨T, S, L, E, h, hP, hT, hA, hS, hD, hh⟩ := id hR
  by_cases c1 : zf_X5_within a1 0 7 = 0
  · exact ⟨-2000000000, by simp only [zf_X5_gain, zx_dl, c1, if_true], by simp only [zf_X6_gain, zm_dl, c1, if_true], zR_k hR (Nat.le_succ k)⟩
  obtain ⟨o, h1, h2⟩ := z_gain hT a1
  exact ⟨o, by simp only [zf_X5_gain, zx_dl, c1, if_false, h1, z_bd], by simp only [zf_X6_gain, zm_dl, c1, if_false, h2, z_bd], zR_k hR (Nat.le_succ k)⟩
theorem zl_rose {T S h : Nat} {ux um : z_St} (hT : zR_T T S h ux um) (d : Int32) : ∀ (k i : Nat) (a b : Int32) (n1 n2 : Nat), i + k = S → k < n1 → k < n2 → ((a = -1 ∧ b = -1) ∨ ∃ x y, x < S ∧ y < S ∧ a = nI x ∧ b = nI y) → ∃ o p, zf_X4_riseOf_7 d ux n1 a b (nI i) = some (o, p, nI S) ∧ zf_X6_rose_18 d um n2 a b (nI i) = some (o, p, nI S) ∧ ((o = -1 ∧ p = -1) ∨ ∃ x y, x < S ∧ y < S ∧ o = nI x ∧ p = nI y) := by
  obtain ⟨t1, t2, t3, -⟩ := id hT
  intro k
  induction k with
  | zero =>
    intro i a b n1 n2 hi h1 h2 hab
    have hi : i = S := by omega
    subst hi
    obtain ⟨m1, rfl⟩ : ∃ m, n1 = m + 1 := ⟨n1 - 1, by omega⟩
    obtain ⟨m2, rfl⟩ : ∃ m, n2 = m + 1 := ⟨n2 - 1, by omega⟩
    exact ⟨a, b, by rw [zf_X4_riseOf_7.eq_2, t1, if_pos (z_hi i)], by rw [zf_X6_rose_18.eq_2, t2, if_pos (z_hi i)], hab⟩
  | succ k ih =>
    intro i a b n1 n2 hi h1 h2 hab
    obtain ⟨m1, rfl⟩ : ∃ m, n1 = m + 1 := ⟨n1 - 1, by omega⟩
    obtain ⟨m2, rfl⟩ : ∃ m, n2 = m + 1 := ⟨n2 - 1, by omega⟩
    have hx : i < S := by omega
    have c := z_lo hx (by omega)
    have f0 : zf_X4_field ux (nI i) 0 = some (z_rI um 13 i) := (zx_field (ux := ux) (x := i) (j := 0) (by omega) (by decide)).trans (by rw [z_row hT hx 0 (by decide)])
    have fs := zl_stands hT hx
    have i1 : z_inb (nI i) 80 = true := z_inb_t (by omega) (by decide)
    have i2 : (nI i).toNatClampNeg = i := z_cl (by omega)
    obtain ⟨-, -, -, y4, y5, -⟩ := hT.2.2.2.2.2.2.2.2.2.1 i hx
    have z1 : ¬ (1 : Int32) = 0 := by decide
    have z0 : ¬ (0 : Int32) = 1 := by decide
    rw [zf_X4_riseOf_7.eq_2, zf_X6_rose_18.eq_2]
    simp only [t1, t2, c, if_false, fs, f0, z_bd, z_nm, z_n1, i1, i2, z_gd, cond_true]
    rcases y5 with y5 | y5
    · simp only [y5, if_true, z0, if_false]
      exact ih (i + 1) a b m1 m2 (by omega) (by omega) (by omega) hab
    · simp only [y5, z1, if_false, if_true]
      by_cases c1 : z_rI um 13 i = d
      · simp only [c1, if_true]
        rcases hab with ⟨ha, hb⟩ | ⟨x, y, q1, q2, ha, hb⟩
        · have w1 : ¬ (0 : Int32) ≤ a := by rw [ha]; decide
          simp only [ha, if_true, show ¬ (0 : Int32) ≤ -1 by decide, if_false]
          exact ih (i + 1) (nI i) (nI i) m1 m2 (by omega) (by omega) (by omega) (Or.inr ⟨i, i, hx, hx, rfl, rfl⟩)
        · have w1 : ¬ a = -1 := by rw [ha]; exact z_nIne (by omega)
          have w2 : (0 : Int32) ≤ a := by rw [ha]; exact nI_pos' (by omega)
          simp only [w1, w2, if_true, if_false]
          exact ih (i + 1) a (nI i) m1 m2 (by omega) (by omega) (by omega) (Or.inr ⟨x, i, q1, hx, ha, rfl⟩)
      · simp only [c1, if_false]
        exact ih (i + 1) a b m1 m2 (by omega) (by omega) (by omega) hab
theorem zq_rose {k : Nat} {ux um : z_St} (hk : k < 512) (hR : zR k ux um) (a1 : Int32) : ∃ (r : Int32), zf_X5_rose ux a1 = some r ∧ zf_X6_rose um a1 = some r ∧ zR (k + 1) ux um := by
  obtain ⟨T, S, L, E, h, hP, hT, hA, hS, hD, hh⟩ := id hR
  have n1 := zm_no a1 hP.2.1
  have x1 := zx_has a1 hP.1
  have t3 := hT.2.2.1
  have z1 : ¬ (1 : Int32) = 0 := by decide
  by_cases c1 : zf_X5_within a1 0 (nI T - 1) = 0
  · rw [if_pos c1] at n1
    exact ⟨-2000000000, by simp only [zf_X5_rose, x1, c1, if_true], by simp only [zf_X6_rose, n1, z1, if_false], zR_k hR (Nat.le_succ k)⟩
  rw [if_neg c1] at n1
  obtain ⟨o, p, h1, h2, h3⟩ := zl_rose hT a1 S 0 (-1) (-1) 5000 5000 (by omega) (by omega) (by omega) (Or.inl ⟨rfl, rfl⟩)
  have h1 : zf_X4_riseOf_7 a1 ux 5000 (-1) (-1) 0 = some (o, p, nI S) := h1
  have h2 : zf_X6_rose_18 a1 um 5000 (-1) (-1) 0 = some (o, p, nI S) := h2
  rcases h3 with ⟨ho, hp⟩ | ⟨x, y, q1, q2, ho, hp⟩
  · refine ⟨0, ?_, ?_, zR_k hR (Nat.le_succ k)⟩
    · simp only [zf_X5_rose, x1, c1, if_false, zf_X4_riseOf, h1, z_bd3, ho, if_true, z_bd]
    · simp only [zf_X6_rose, n1, if_true, h2, z_bd3, ho, show ¬ (0 : Int32) ≤ -1 by decide, if_false]
  · have w1 : ¬ o = -1 := by rw [ho]; exact z_nIne (by omega)
    have w2 : (0 : Int32) ≤ o := by rw [ho]; exact nI_pos' (by omega)
    have f3 : ∀ z, z < S → zf_X4_field ux (nI z) 3 = some (z_rI um 16 z) := fun z hz => (zx_field (ux := ux) (x := z) (j := 3) (by omega) (by decide)).trans (by rw [z_row hT hz 3 (by decide)])
    have i1 : ∀ z, z < S → z_inb (nI z) 80 = true := fun z hz => z_inb_t (by omega) (by decide)
    have i2 : ∀ z, z < S → (nI z).toNatClampNeg = z := fun z hz => z_cl (by omega)
    refine ⟨z_rI um 16 y - z_rI um 16 x, ?_, ?_, zR_k hR (Nat.le_succ k)⟩
    · simp only [zf_X5_rose, x1, c1, if_false, zf_X4_riseOf, h1, z_bd3, w1, hp, f3 y q2, z_bd]
      simp only [ho, f3 x q1]
    · simp only [zf_X6_rose, n1, if_true, h2, z_bd3, w2]
      simp only [ho, hp, i1 x q1, i1 y q2, i2 x q1, i2 y q2, z_gd, cond_true]
