theorem zm_no {um : z_St} {T : Nat} (a : Int32) (h : z_rI um 2 0 = nI T) : zf_X6_noThing um a = if zf_X5_within a 0 (nI T - 1) = 0 then 1 else 0 := by
  unfold zf_X6_noThing
  rw [h, show zf_X6_in a.toInt64 0 (nI T - 1).toInt64 = zf_X5_within a 0 (nI T - 1) from zm_in a 0 (nI T - 1)]
theorem zx_has {ux : z_St} {T : Nat} (a : Int32) (h : z_rI ux 9 0 = nI T) : zf_X2_hasThing ux a = zf_X5_within a 0 (nI T - 1) := by
  unfold zf_X2_hasThing
  rw [h]
theorem z_mul (a b : Nat) : nI a * nI b = nI (a * b) := pk_mul a b
theorem z_5 (t p : Nat) : (5 : Int32) * nI t + nI p = nI (5 * t + p) := by
  rw [z_lit, z_mul, nI_add]
theorem z_5r (t p : Nat) : nI t * (5 : Int32) + nI p = nI (5 * t + p) := by
  rw [z_lit, z_mul, nI_add, Nat.mul_comm t 5]
theorem z_n1 (n : Nat) : nI n + 1 = nI (n + 1) := nI_1 n
theorem z_sub1 (n : Nat) : nI (n + 1) - 1 = nI n := nI_pred n
/-- the places that a new THING's loop clears -/
theorem z_thing5 (T n : Nat) (hT : T < 12) (u : z_St) (h : z_rI u 2 0 = nI T) : zf_X6_thing_39 (n + 6) 0 u = some (5, z_wI (z_wI (z_wI (z_wI (z_wI u 4 (5 * T) 0) 4 (5 * T + 1) 0) 4 (5 * T + 2) 0) 4 (5 * T + 3) 0) 4 (5 * T + 4) 0) := by
  have st : ∀ (n p p2 j : Nat) (v : z_St), z_rI v 2 0 = nI T → p < 5 → p2 = p + 1 → j = 5 * T + p → zf_X6_thing_39 (n + 1) (nI p) v = zf_X6_thing_39 n (nI p2) (z_wI v 4 j 0) := by
    intro n p p2 j v hv hp e1 e2
    subst e1
    subst e2
    rw [zf_X6_thing_39.eq_2]
    have c1 : ¬ (5 : Int32) ≤ nI p := by
      rw [z_lit]
      exact nI_ge hp (by decide)
    have i1 : z_inb (nI (5 * T + p)) 60 = true := z_inb_t (by omega) (by decide)
    have i2 : (nI (5 * T + p)).toNatClampNeg = 5 * T + p := z_cl (by omega)
    simp only [c1, if_false, hv, z_5, i1, i2, z_gd, z_nm, cond_true, z_n1]
  have last : ∀ v : z_St, zf_X6_thing_39 (n + 1) (nI 5) v = some (5, v) := by
    intro v
    rw [zf_X6_thing_39.eq_2, if_pos (by decide)]
    rfl
  have a1 := st (n + 5) 0 1 (5 * T) u h (by omega) rfl rfl
  have a2 := st (n + 4) 1 2 (5 * T + 1) (z_wI u 4 (5 * T) 0) h (by omega) rfl rfl
  have a3 := st (n + 3) 2 3 (5 * T + 2) (z_wI (z_wI u 4 (5 * T) 0) 4 (5 * T + 1) 0) h (by omega) rfl rfl
  have a4 := st (n + 2) 3 4 (5 * T + 3) (z_wI (z_wI (z_wI u 4 (5 * T) 0) 4 (5 * T + 1) 0) 4 (5 * T + 2) 0) h (by omega) rfl rfl
  have a5 := st (n + 1) 4 5 (5 * T + 4) (z_wI (z_wI (z_wI (z_wI u 4 (5 * T) 0) 4 (5 * T + 1) 0) 4 (5 * T + 2) 0) 4 (5 * T + 3) 0) h (by omega) rfl rfl
  rw [last] at a5
  rw [a5] at a4
  rw [a4] at a3
  rw [a3] at a2
  rw [a2] at a1
  exact a1
theorem zq_thing {k : Nat} {ux um : z_St} (hk : k < 512) (hR : zR k ux um) (a1 : Int32) : ∃ (r : Int32) (vx : z_St) (vm : z_St), zf_X5_thing ux a1 = some (r, vx) ∧ zf_X6_thing um a1 = some (r, vm) ∧ zR (k + 1) vx vm := by
  have m1 : zf_X6_in a1.toInt64 1 5 = zf_X5_within a1 1 5 := zm_in a1 1 5
  by_cases c1 : zf_X5_within a1 1 5 = 0
  · exact ⟨-2, ux, um, by simp only [zf_X5_thing, c1, if_true], by simp only [zf_X6_thing, m1, c1, if_true], zR_k hR (Nat.le_succ k)⟩
  obtain ⟨T, S, L, E, h, hP, hT, hA, hS, hD, hh⟩ := id hR
  obtain ⟨p1, p2, p3, p4, p5, p6, p7⟩ := id hP
  by_cases c2 : T = 12
  · subst c2
    refine ⟨-4, ux, um, ?_, ?_, zR_k hR (Nat.le_succ k)⟩
    · have c3 : ¬ nI 12 < (12 : Int32) := by decide
      simp only [zf_X5_thing, c1, if_false, zf_X2_addThing, p1, c3, z_bd2]
    · have c3 : nI 12 = (12 : Int32) := rfl
      simp only [zf_X6_thing, m1, c1, if_false, p2, c3, if_true]
  have hT12 : T < 12 := by omega
  have c3 : nI T < (12 : Int32) := by rw [z_lit]; exact nI_lt hT12 (by decide)
  have c4 : ¬ nI T = (12 : Int32) := by
    rw [z_lit, nI_eq (by omega) (by decide)]
    exact c2
  have i1 : z_inb (nI T) 12 = true := z_inb_t hT12 (by decide)
  have i2 : (nI T).toNatClampNeg = T := z_cl (by omega)
  have hv := zx_ok c1
  have ev : (1 : Int32).toInt = 1 ∧ (5 : Int32).toInt = 5 := ⟨rfl, rfl⟩
  obtain ⟨a, ha, ha2, ha3⟩ := z_nat (x := a1) (by omega)
  have q9 : z_rI (z_wI ux 7 T a1) 9 0 = nI T := p1
  refine ⟨nI T, z_wI (z_wI ux 7 T a1) 9 0 (nI (T + 1)), z_wI (z_wI (z_wI (z_wI (z_wI (z_wI (z_wI (z_wI (z_wI (z_wI (z_wI um 3 T a1) 4 (5 * T) 0) 4 (5 * T + 1) 0) 4 (5 * T + 2) 0) 4 (5 * T + 3) 0) 4 (5 * T + 4) 0) 5 T (-1)) 6 T (-1)) 7 T 0) 8 T 0) 2 0 (nI (T + 1)), ?_, ?_, ?_⟩
  · have q1 : z_rI (z_wI (z_wI ux 7 T a1) 9 0 (nI (T + 1))) 9 0 = nI (T + 1) := rfl
    simp only [zf_X5_thing, c1, if_false, zf_X2_addThing, p1, c3, if_true, i1, i2, z_gd, z_nm, cond_true, q9, z_n1, q1, z_sub1, z_bd2]
  · have q3 : z_rI (z_wI um 3 T a1) 2 0 = nI T := p2
    have e5 : zf_X6_thing_39 5000 0 (z_wI um 3 T a1) = _ := z_thing5 T 4994 hT12 (z_wI um 3 T a1) q3
    simp only [zf_X6_thing, m1, c1, if_false, p2, c4, i1, i2, z_gd, z_nm, cond_true, e5, z_bd2]
    have q : ∀ w : z_St, z_rI w 2 0 = nI T → z_rI (z_wI w 5 T (-1)) 2 0 = nI T ∧ z_rI (z_wI (z_wI w 5 T (-1)) 6 T (-1)) 2 0 = nI T ∧ z_rI (z_wI (z_wI (z_wI w 5 T (-1)) 6 T (-1)) 7 T 0) 2 0 = nI T ∧ z_rI (z_wI (z_wI (z_wI (z_wI w 5 T (-1)) 6 T (-1)) 7 T 0) 8 T 0) 2 0 = nI T := fun w hw => ⟨hw, hw, hw, hw⟩
    have q4 : z_rI (z_wI (z_wI (z_wI (z_wI (z_wI (z_wI um 3 T a1) 4 (5 * T) 0) 4 (5 * T + 1) 0) 4 (5 * T + 2) 0) 4 (5 * T + 3) 0) 4 (5 * T + 4) 0) 2 0 = nI T := p2
    obtain ⟨q5, q6, q7, q8⟩ := q _ q4
    have q10 : ∀ w : z_St, z_rI (z_wI w 2 0 (nI (T + 1))) 2 0 = nI (T + 1) := fun w => rfl
    simp only [q4, i1, i2, cond_true, q5, q6, q7, q8, z_n1, q10, z_sub1]
  · refine ⟨T + 1, S, L, E, h, ⟨rfl, rfl, by omega, p4, ?_, ?_, ?_⟩, ?_, hA, ?_, hD, by omega⟩
    · intro t ht
      by_cases e : t = T
      · subst e
        refine ⟨?_, a, by omega, by omega, ?_⟩
        · show upd (z_rI ux 7) t a1 t = upd (z_rI um 3) t a1 t
          rw [pk_us, pk_us]
        · show upd (z_rI um 3) t a1 t = nI a
          rw [pk_us, ha]
      · obtain ⟨x1, p, x2, x3, x4⟩ := p5 t (by omega)
        refine ⟨?_, p, x2, x3, ?_⟩
        · show upd (z_rI ux 7) T a1 t = upd (z_rI um 3) T a1 t
          rw [pk_un e, pk_un e]; exact x1
        · show upd (z_rI um 3) T a1 t = nI p
          rw [pk_un e]; exact x4
    · intro t ht p hp
      show z_rI ux 8 (5 * t + p) = upd (upd (upd (upd (upd (z_rI um 4) (5 * T) 0) (5 * T + 1) 0) (5 * T + 2) 0) (5 * T + 3) 0) (5 * T + 4) 0 (5 * t + p)
      by_cases e : t = T
      · subst e
        rw [p7 _ (by omega) (by omega)]
        unfold upd
        (repeat' split) <;> first | rfl | omega
      · rw [pk_un (by omega), pk_un (by omega), pk_un (by omega), pk_un (by omega), pk_un (by omega)]
        exact p6 t (by omega) p hp
    · intro j h1 h2
      exact p7 j (by omega) h2
    · obtain ⟨t1, t2, t3, t4, t5, t6, t7, t8, t9, t10, t11, t12⟩ := hT
      refine ⟨t1, t2, t3, t4, t5, t6, ?_, ?_, t9, ?_, ?_, ?_⟩
      · intro t ht
        show z_rI ux 16 t = upd (z_rI um 5) T (-1) t ∧ z_rI ux 17 t = upd (z_rI um 6) T (-1) t ∧ (upd (z_rI um 5) T (-1) t = -1 ∨ ∃ d, d < 8 ∧ upd (z_rI um 5) T (-1) t = nI d) ∧ (upd (z_rI um 6) T (-1) t = -1 ∨ ∃ x, x < S ∧ upd (z_rI um 6) T (-1) t = nI x)
        by_cases e : t = T
        · subst e
          obtain ⟨y1, y2, y3⟩ := t8 t (Nat.le_refl t) hT12
          rw [pk_us, pk_us]
          exact ⟨y1, y2, Or.inl rfl, Or.inl rfl⟩
        · rw [pk_un e, pk_un e]
          exact t7 t (by omega)
      · intro t h1 h2
        exact t8 t (by omega) h2
      · intro x hx
        obtain ⟨⟨t, y1, y2⟩, y3⟩ := t10 x hx
        exact ⟨⟨t, by omega, y2⟩, y3⟩
      · intro t ht
        by_cases e : t = T
        · subst e
          exact Or.inl (t8 t (Nat.le_refl t) hT12).2.2
        · exact t11 t (by omega)
      · intro x t hx ht he
        by_cases e : t = T
        · subst e
          obtain ⟨⟨t', y1, y2⟩, -⟩ := t10 x hx
          have y2 : z_rI um 13 x = nI t' := y2
          have he : z_rI um 13 x = nI t := he
          rw [y2, nI_eq (by omega) (by omega)] at he
          omega
        · exact t12 x t hx (by omega) he
    · obtain ⟨s1, s2, s3, s4, s5, s6⟩ := hS
      refine ⟨s1, s2, s3, s4, ?_, ?_⟩
      · intro t ht
        show z_rI ux 11 t = upd (z_rI um 7) T 0 t ∧ z_rI ux 12 t = upd (z_rI um 8) T 0 t ∧ ∃ a b : Nat, a < 4096 ∧ b < 4096 ∧ a &&& b = 0 ∧ upd (z_rI um 7) T 0 t = nI a ∧ upd (z_rI um 8) T 0 t = nI b
        by_cases e : t = T
        · subst e
          obtain ⟨y1, y2⟩ := s6 t (Nat.le_refl t) hT12
          rw [pk_us, pk_us]
          exact ⟨y1, y2, 0, 0, by decide, by decide, rfl, rfl, rfl⟩
        · rw [pk_un e, pk_un e]
          exact s5 t (by omega)
      · intro t h1 h2
        exact s6 t (by omega) h2
theorem zq_part {k : Nat} {ux um : z_St} (hk : k < 512) (hR : zR k ux um) (a1 a2 a3 : Int32) : ∃ (r : Int32) (vx : z_St) (vm : z_St), zf_X5_part ux a1 a2 a3 = some (r, vx) ∧ zf_X6_part um a1 a2 a3 = some (r, vm) ∧ zR (k + 1) vx vm := by
  obtain ⟨T, S, L, E, h, hP, hT, hA, hS, hD, hh⟩ := id hR
  obtain ⟨p1, p2, p3, p4, p5, p6, p7⟩ := id hP
  have n1 := zm_no a1 p2
  have x1 := zx_has a1 p1
  by_cases c1 : zf_X5_within a1 0 (nI T - 1) = 0
  · rw [if_pos c1] at n1
    have n1' : ¬ (1 : Int32) = 0 := by decide
    exact ⟨-2, ux, um, by simp only [zf_X5_part, zf_X2_hasPart, x1, c1, if_true, z_bd], by simp only [zf_X6_part, n1, n1', if_false], zR_k hR (Nat.le_succ k)⟩
  rw [if_neg c1] at n1
  obtain ⟨t, ht, rfl⟩ := zx_idx (by omega) c1
  obtain ⟨y1, p, y2, y3, y4⟩ := p5 t ht
  have i1 : z_inb (nI t) 12 = true := z_inb_t (by omega) (by decide)
  have i2 : (nI t).toNatClampNeg = t := z_cl (by omega)
  have y5 : z_rI ux 7 t = nI p := y1.trans y4
  have m2 : zf_X6_in a2.toInt64 0 (nI p - 1).toInt64 = zf_X5_within a2 0 (nI p - 1) := zm_in a2 0 (nI p - 1)
  have m3 : zf_X6_in a3.toInt64 0 1023 = zf_X5_within a3 0 1023 := zm_in a3 0 1023
  have z1 : ¬ (1 : Int32) = 0 := by decide
  by_cases c2 : zf_X5_within a2 0 (nI p - 1) = 0
  · exact ⟨-2, ux, um, by simp only [zf_X5_part, zf_X2_hasPart, x1, c1, if_false, i1, i2, z_gd, cond_true, y5, c2, if_true, z_bd], by simp only [zf_X6_part, n1, if_true, i1, i2, z_gd, cond_true, y4, m2, c2], zR_k hR (Nat.le_succ k)⟩
  by_cases c3 : zf_X5_within a3 0 1023 = 0
  · exact ⟨-2, ux, um, by simp only [zf_X5_part, zf_X2_hasPart, x1, c1, if_false, i1, i2, z_gd, cond_true, y5, c2, z_bd, z1, c3, if_true], by simp only [zf_X6_part, n1, if_true, i1, i2, z_gd, cond_true, y4, m2, c2, if_false, m3, c3], zR_k hR (Nat.le_succ k)⟩
  obtain ⟨j, hj, rfl⟩ := zx_idx (by omega) c2
  have j1 : z_inb (nI (5 * t + j)) 60 = true := z_inb_t (by omega) (by decide)
  have j2 : (nI (5 * t + j)).toNatClampNeg = 5 * t + j := z_cl (by omega)
  refine ⟨z_rI um 4 (5 * t + j), z_wI ux 8 (5 * t + j) a3, z_wI um 4 (5 * t + j) a3, ?_, ?_, ?_⟩
  · simp only [zf_X5_part, zf_X2_hasPart, x1, c1, if_false, i1, i2, z_gd, cond_true, y5, c2, z_bd, z1, c3, zf_X2_changeWorks, zf_X2_worksOf, z_5r, j1, j2, z_nm, z_bd2, p6 t ht j (by omega)]
  · simp only [zf_X6_part, n1, if_true, i1, i2, z_gd, cond_true, y4, m2, c2, if_false, m3, c3, z_5, j1, j2, z_nm]
  · refine ⟨T, S, L, E, h, ⟨p1, p2, p3, p4, p5, ?_, ?_⟩, hT, hA, hS, hD, by omega⟩
    · intro t' ht' q hq
      exact z_updc (f := z_rI ux 8) (g := z_rI um 4) (p6 t' ht' q hq)
    · intro i h1 h2
      show upd (z_rI ux 8) (5 * t + j) a3 i = 0
      rw [pk_un (by omega)]
      exact p7 i h1 h2
