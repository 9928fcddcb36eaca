theorem zq_back {k : Nat} {ux um : z_St} (hk : k < 512) (hR : zR k ux um) (a1 : Int32) : ∃ (r : Int32) (vx : z_St) (vm : z_St), zf_X5_back ux a1 = some (r, vx) ∧ zf_X6_back um a1 = some (r, vm) ∧ zR (k + 1) vx vm := by
  obtain ⟨T, S, L, E, h, hP, hT, hA, hS, hD, hh⟩ := id hR
  have n1 := zm_no a1 hP.2.1
  have x1 := zx_has a1 hP.1
  have z1 : ¬ (1 : Int32) = 0 := by decide
  have hT12 := hP.2.2.1
  by_cases c1 : zf_X5_within a1 0 (nI T - 1) = 0
  · rw [if_pos c1] at n1
    exact ⟨-2, ux, um, by simp only [zf_X5_back, x1, c1, if_true], by simp only [zf_X6_back, n1, z1, if_false], zR_k hR (Nat.le_succ k)⟩
  rw [if_neg c1] at n1
  obtain ⟨t, ht, rfl⟩ := zx_idx (by omega) c1
  have i1 : z_inb (nI t) 12 = true := z_inb_t (by omega) (by decide)
  have i2 : (nI t).toNatClampNeg = t := z_cl (by omega)
  obtain ⟨t1, t2, t3, t4, t5, t6, t7, t8, t9, t10, t11, t12⟩ := id hT
  obtain ⟨y1, y2, y3, y4⟩ := t7 t ht
  by_cases b1 : z_rI um 6 t = -1
  · have b1' : z_rI um 6 t < 0 := by rw [b1]; decide
    exact ⟨-3, ux, um, by simp only [zf_X5_back, x1, c1, if_false, zf_X4_giveBack, i1, i2, z_gd, z_nm, cond_true, y2, b1, if_true, z_bd2], by simp only [zf_X6_back, n1, if_true, i1, i2, z_gd, z_nm, cond_true, b1'], zR_k hR (Nat.le_succ k)⟩
  obtain ⟨x, hx, yx⟩ := y4.resolve_left b1
  have b1x : ¬ nI x = -1 := z_nIne (by omega)
  have b1' : ¬ nI x < 0 := nI_pos (by omega)
  have f1 : zf_X4_field ux (nI x) 1 = some (z_rI um 14 x) := (zx_field (ux := ux) (x := x) (j := 1) (by omega) (by decide)).trans (by rw [z_row hT hx 1 (by decide)])
  have f2 : zf_X4_field ux (nI x) 2 = some (z_rI um 15 x) := (zx_field (ux := ux) (x := x) (j := 2) (by omega) (by decide)).trans (by rw [z_row hT hx 2 (by decide)])
  have f5 : zf_X4_field ux (nI x) 5 = some (z_rI um 18 x) := (zx_field (ux := ux) (x := x) (j := 5) (by omega) (by decide)).trans (by rw [z_row hT hx 5 (by decide)])
  have j1 : z_inb (nI x) 80 = true := z_inb_t (by omega) (by decide)
  have j2 : (nI x).toNatClampNeg = x := z_cl (by omega)
  by_cases b2 : z_rI um 5 t = z_rI um 15 x
  · by_cases b3 : nI h < z_rI um 18 x
    · have e6 : nI x * (7 : Int32) + 6 = nI (7 * x + 6) := z_7 x 6
      have g6 : z_inb (nI (7 * x + 6)) 560 = true := z_inb_t (by omega) (by decide)
      have g6' : (nI (7 * x + 6)).toNatClampNeg = 7 * x + 6 := z_cl (by omega)
      obtain ⟨r0, r1, r2, r3, r4, r5, r6, r7⟩ := t9 x hx
      obtain ⟨s1, s2, s3, s4, s5, s6⟩ := t10 x hx
      have fn : zf_X4_field (z_wI (z_wI ux 19 (7 * x + 6) 0) 17 t (z_rI um 20 x)) (nI x) 1 = some (z_rI um 14 x) := by
        refine (zx_field (x := x) (j := 1) (by omega) (by decide)).trans ?_
        have q : z_rI (z_wI (z_wI ux 19 (7 * x + 6) 0) 17 t (z_rI um 20 x)) 19 = upd (z_rI ux 19) (7 * x + 6) 0 := rfl
        rw [q, pk_un (by omega), r1]
      refine ⟨z_rI um 14 x, z_wI (z_wI (z_wI ux 19 (7 * x + 6) 0) 17 t (z_rI um 20 x)) 16 t (z_rI um 14 x), z_wI (z_wI (z_wI um 19 x 0) 5 t (z_rI um 14 x)) 6 t (z_rI um 20 x), ?_, ?_, ?_⟩
      · simp only [zf_X5_back, x1, c1, if_false, zf_X4_giveBack, i1, i2, z_gd, z_nm, cond_true, y2, yx, b1x, f2, z_bd, y1, b2, if_true, f5, t4, b3, e6, g6, g6', zk_19_20, r7, j1, j2, fn, z_rw_s, pk_us, z_bd2]
      · simp only [zf_X6_back, n1, if_true, i1, i2, z_gd, z_nm, cond_true, yx, b1', if_false, j1, j2, b2, t5, b3, zk_19_14, zk_5_20, zk_19_20, zk_6_5, z_rw_s, pk_us]
      · refine ⟨T, S, L, E, h, hP, ?_, hA, hS, hD, by omega⟩
        generalize hvx : z_wI (z_wI (z_wI ux 19 (7 * x + 6) 0) 17 t (z_rI um 20 x)) 16 t (z_rI um 14 x) = vx
        generalize hvm : z_wI (z_wI (z_wI um 19 x 0) 5 t (z_rI um 14 x)) 6 t (z_rI um 20 x) = vm
        have v21 : z_rI vx 21 = z_rI ux 21 := by rw [← hvx]; rfl
        have v22 : z_rI vx 22 = z_rI ux 22 := by rw [← hvx]; rfl
        have v16 : z_rI vx 16 = upd (z_rI ux 16) t (z_rI um 14 x) := by rw [← hvx]; rfl
        have v17 : z_rI vx 17 = upd (z_rI ux 17) t (z_rI um 20 x) := by rw [← hvx]; rfl
        have v18 : z_rI vx 18 = z_rI ux 18 := by rw [← hvx]; rfl
        have v20 : z_rI vx 20 = z_rI ux 20 := by rw [← hvx]; rfl
        have v19 : z_rI vx 19 = upd (z_rI ux 19) (7 * x + 6) 0 := by rw [← hvx]; rfl
        have w12 : z_rI vm 12 = z_rI um 12 := by rw [← hvm]; rfl
        have w11 : z_rI vm 11 = z_rI um 11 := by rw [← hvm]; rfl
        have w5 : z_rI vm 5 = upd (z_rI um 5) t (z_rI um 14 x) := by rw [← hvm]; rfl
        have w6 : z_rI vm 6 = upd (z_rI um 6) t (z_rI um 20 x) := by rw [← hvm]; rfl
        have w13 : z_rI vm 13 = z_rI um 13 := by rw [← hvm]; rfl
        have w14 : z_rI vm 14 = z_rI um 14 := by rw [← hvm]; rfl
        have w15 : z_rI vm 15 = z_rI um 15 := by rw [← hvm]; rfl
        have w16 : z_rI vm 16 = z_rI um 16 := by rw [← hvm]; rfl
        have w17 : z_rI vm 17 = z_rI um 17 := by rw [← hvm]; rfl
        have w18 : z_rI vm 18 = z_rI um 18 := by rw [← hvm]; rfl
        have w19 : z_rI vm 19 = upd (z_rI um 19) x 0 := by rw [← hvm]; rfl
        have w20 : z_rI vm 20 = z_rI um 20 := by rw [← hvm]; rfl
        unfold zR_T
        rw [v21, v22, v16, v17, v18, v19, v20, w12, w11, w5, w6, w13, w14, w15, w16, w17, w18, w19, w20]
        refine ⟨t1, t2, t3, t4, t5, t6, ?_, ?_, ?_, ?_, t11, t12⟩
        · intro t' ht'
          by_cases q : t' = t
          · subst q
            rw [pk_us, pk_us, pk_us, pk_us]
            exact ⟨rfl, rfl, Or.inr s2, s6⟩
          · rw [pk_un q, pk_un q, pk_un q, pk_un q]
            exact t7 t' ht'
        · intro t' h1 h2
          rw [pk_un (by omega), pk_un (by omega)]
          exact t8 t' h1 h2
        · intro z hz
          obtain ⟨o0, o1, o2, o3, o4, o5, o6, o7⟩ := t9 z hz
          rw [pk_un (by omega), pk_un (by omega), pk_un (by omega), pk_un (by omega), pk_un (by omega), pk_un (by omega)]
          refine ⟨o0, o1, o2, o3, o4, o5, ?_, o7⟩
          by_cases q : z = x
          · subst q
            rw [pk_us, pk_us]
          · rw [pk_un (by omega), pk_un q]
            exact o6
        · intro z hz
          obtain ⟨o1, o2, o3, o4, o5, o6⟩ := t10 z hz
          refine ⟨o1, o2, o3, o4, ?_, o6⟩
          by_cases q : z = x
          · subst q
            rw [pk_us]
            exact Or.inl rfl
          · rw [pk_un q]
            exact o5
    · exact ⟨-3, ux, um, by simp only [zf_X5_back, x1, c1, if_false, zf_X4_giveBack, i1, i2, z_gd, z_nm, cond_true, y2, yx, b1x, f2, z_bd, y1, b2, if_true, f5, t4, b3, z_bd2], by simp only [zf_X6_back, n1, if_true, i1, i2, z_gd, z_nm, cond_true, yx, b1', if_false, j1, j2, b2, t5, b3], zR_k hR (Nat.le_succ k)⟩
  · have b2' : ¬ z_rI um 15 x = z_rI um 5 t := fun q => b2 q.symm
    exact ⟨-3, ux, um, by simp only [zf_X5_back, x1, c1, if_false, zf_X4_giveBack, i1, i2, z_gd, z_nm, cond_true, y2, yx, b1x, f2, z_bd, y1, b2', z_bd2], by simp only [zf_X6_back, n1, if_true, i1, i2, z_gd, z_nm, cond_true, yx, b1', if_false, j1, j2, b2], zR_k hR (Nat.le_succ k)⟩
theorem zq_entry {k : Nat} {ux um : z_St} (hk : k < 512) (hR : zR k ux um) (a1 : Int32) : ∃ (r : Int32) (vx : z_St) (vm : z_St), zf_X5_entry ux a1 = some (r, vx) ∧ zf_X6_entry um a1 = some (r, vm) ∧ zR (k + 1) vx vm := by
  obtain ⟨T, S, L, E, h, hP, hT, hA, hS, hD, hh⟩ := id hR
  have m1 : zf_X6_in a1.toInt64 0 4095 = zf_X5_within a1 0 4095 := zm_in a1 0 4095
  by_cases c1 : zf_X5_within a1 0 4095 = 0
  · exact ⟨-2, ux, um, by simp only [zf_X5_entry, c1, if_true], by simp only [zf_X6_entry, m1, c1, if_true], zR_k hR (Nat.le_succ k)⟩
  obtain ⟨s1, s2, s3, s4, s5, s6⟩ := id hS
  obtain ⟨a, ha, rfl⟩ := zx_idc 4095 c1 rfl
  by_cases c2 : E = 10
  · subst c2
    have c3 : ¬ nI 10 < (10 : Int32) := by decide
    have c4 : nI 10 = (10 : Int32) := rfl
    exact ⟨-4, ux, um, by simp only [zf_X5_entry, c1, if_false, zf_X3_addEntry, s1, c3, z_bd2], by simp only [zf_X6_entry, m1, c1, if_false, s2, c4, if_true], zR_k hR (Nat.le_succ k)⟩
  have c3 : nI E < (10 : Int32) := by rw [z_lit]; exact nI_lt (show E < 10 by omega) (by decide)
  have c4 : ¬ nI E = (10 : Int32) := by
    rw [z_lit, nI_eq (by omega) (by decide)]
    exact c2
  have i1 : z_inb (nI E) 10 = true := z_inb_t (by omega) (by decide)
  have i2 : (nI E).toNatClampNeg = E := z_cl (by omega)
  have q1 : z_rI (z_wI ux 10 E (nI a)) 15 0 = nI E := s1
  have q2 : ∀ w : z_St, z_rI (z_wI w 15 0 (nI (E + 1))) 15 0 = nI (E + 1) := fun w => rfl
  have q3 : z_rI (z_wI um 33 E (nI a)) 32 0 = nI E := s2
  have q4 : ∀ w : z_St, z_rI (z_wI w 32 0 (nI (E + 1))) 32 0 = nI (E + 1) := fun w => rfl
  refine ⟨nI E, z_wI (z_wI ux 10 E (nI a)) 15 0 (nI (E + 1)), z_wI (z_wI um 33 E (nI a)) 32 0 (nI (E + 1)), ?_, ?_, ?_⟩
  · simp only [zf_X5_entry, c1, if_false, zf_X3_addEntry, s1, c3, if_true, i1, i2, z_gd, z_nm, cond_true, q1, z_n1, q2, z_sub1, z_bd2]
  · simp only [zf_X6_entry, m1, c1, if_false, s2, c4, i1, i2, z_gd, z_nm, cond_true, q3, z_n1, q4, z_sub1]
  · refine ⟨T, S, L, E + 1, h, hP, hT, hA, ⟨rfl, rfl, by omega, ?_, s5, s6⟩, hD, by omega⟩
    intro i hi
    show upd (z_rI ux 10) E (nI a) i = upd (z_rI um 33) E (nI a) i ∧ ∃ b, b < 4096 ∧ upd (z_rI um 33) E (nI a) i = nI b
    by_cases q : i = E
    · subst q
      rw [pk_us, pk_us]
      exact ⟨rfl, a, by omega, rfl⟩
    · rw [pk_un q, pk_un q]
      exact s4 i (by omega)
theorem z_8 (t p : Nat) : (8 : Int32) * nI t + nI p = nI (8 * t + p) := by
  rw [z_lit, z_mul, nI_add]
theorem z_8r (t p : Nat) : nI t * (8 : Int32) + nI p = nI (8 * t + p) := by
  rw [z_lit, z_mul, nI_add, Nat.mul_comm t 8]
theorem z_pair (a b : Int32) : zf_X6_isPair a b = zf_X5_areTwo a b := by
  unfold zf_X6_isPair zf_X5_areTwo
  rw [zm_dl, zm_dl, zx_dl, zx_dl]
theorem z_two {a b : Int32} (h : ¬ zf_X5_areTwo a b = 0) : ∃ i j, i < 8 ∧ j < 8 ∧ i ≠ j ∧ a = nI i ∧ b = nI j := by
  unfold zf_X5_areTwo at h
  rw [zx_dl, zx_dl] at h
  by_cases c1 : zf_X5_within a 0 7 = 0
  · rw [if_pos c1] at h; exact absurd rfl h
  rw [if_neg c1] at h
  by_cases c2 : zf_X5_within b 0 7 = 0
  · rw [if_pos c2] at h; exact absurd rfl h
  rw [if_neg c2] at h
  by_cases c3 : a = b
  · rw [if_pos c3] at h; exact absurd rfl h
  obtain ⟨i, hi, rfl⟩ := zx_idc 7 c1 rfl
  obtain ⟨j, hj, rfl⟩ := zx_idc 7 c2 rfl
  exact ⟨i, j, by omega, by omega, fun q => c3 (by rw [q]), rfl, rfl⟩
theorem zq_owe {k : Nat} {ux um : z_St} (hk : k < 512) (hR : zR k ux um) (a1 a2 a3 : Int32) : ∃ (r : Int32) (vx : z_St) (vm : z_St), zf_X5_owe ux a1 a2 a3 = some (r, vx) ∧ zf_X6_owe um a1 a2 a3 = some (r, vm) ∧ zR (k + 1) vx vm := by
  have m3 : zf_X6_in a3.toInt64 0 10000 = zf_X5_within a3 0 10000 := zm_in a3 0 10000
  by_cases c1 : zf_X5_areTwo a1 a2 = 0
  · exact ⟨-2, ux, um, by simp only [zf_X5_owe, c1, if_true], by simp only [zf_X6_owe, z_pair, c1, if_true], zR_k hR (Nat.le_succ k)⟩
  by_cases c2 : zf_X5_within a3 0 10000 = 0
  · exact ⟨-2, ux, um, by simp only [zf_X5_owe, c1, c2, if_true, if_false], by simp only [zf_X6_owe, z_pair, c1, m3, c2, if_true, if_false], zR_k hR (Nat.le_succ k)⟩
  obtain ⟨i, j, hi, hj, hij, rfl, rfl⟩ := z_two c1
  obtain ⟨T, S, L, E, h, hP, hT, hA, hS, hD, hh⟩ := id hR
  have i1 : z_inb (nI (8 * i + j)) 64 = true := z_inb_t (by omega) (by decide)
  have i2 : (nI (8 * i + j)).toNatClampNeg = 8 * i + j := z_cl (by omega)
  refine ⟨z_rI um 37 (8 * i + j), z_wI ux 4 (8 * i + j) a3, z_wI um 37 (8 * i + j) a3, ?_, ?_, ?_⟩
  · simp only [zf_X5_owe, c1, c2, if_false, zf_X1_change, z_8r, i1, i2, z_gd, z_nm, cond_true, hD (8 * i + j) (by omega), z_bd2]
  · simp only [zf_X6_owe, z_pair, c1, m3, c2, if_false, z_8, i1, i2, z_gd, z_nm, cond_true]
  · refine ⟨T, S, L, E, h, hP, hT, hA, hS, ?_, by omega⟩
    intro z hz
    exact z_updc (f := z_rI ux 4) (g := z_rI um 37) (hD z hz)
theorem z_b01 (x : Int32) : x &&& 1 = 0 ∨ x &&& 1 = 1 := by
  obtain ⟨j, hj, e⟩ := pk_andE x (m := 1) 1 (by decide)
  rcases (show j = 0 ∨ j = 1 by omega) with rfl | rfl
  · exact Or.inl e
  · exact Or.inr e
/-- may he have won: the same on both sides -/
theorem z_won (u : z_St) (b w : Int32) (Y : Option (Int32 × z_St)) : (if b = 0 then (if w = -1 then Y else some (-2, u)) else (if zf_X6_isDealer w = 0 then some (-2, u) else (if ((b >>> (w &&& 31)) &&& 1) = 0 then some (-2, u) else Y))) = (if zf_X5_mayHaveWon b w = 0 then some (-2, u) else Y) := by
  have z1 : ¬ (1 : Int32) = 0 := by decide
  unfold zf_X5_mayHaveWon
  rw [zm_dl, zx_dl]
  by_cases c1 : b = 0
  · rw [if_pos c1, if_pos c1]
    by_cases c2 : w = -1
    · rw [if_pos c2, if_pos c2, if_neg z1]
    · rw [if_neg c2, if_neg c2, if_pos rfl]
  · rw [if_neg c1, if_neg c1]
    by_cases c2 : zf_X5_within w 0 7 = 0
    · rw [if_pos c2, if_pos c2, if_pos rfl]
    · rw [if_neg c2, if_neg c2]
      rcases z_b01 (b >>> (w &&& 31)) with q | q
      · rw [if_pos q, q, if_neg (show ¬ (0 : Int32) = 1 by decide), if_pos rfl]
      · rw [q, if_neg z1, if_pos rfl, if_neg z1]
theorem zq_lot {k : Nat} {ux um : z_St} (hk : k < 512) (hR : zR k ux um) (a1 a2 a3 : Int32) : ∃ (r : Int32) (vx : z_St) (vm : z_St), zf_X5_lot ux a1 a2 a3 = some (r, vx) ∧ zf_X6_lot um a1 a2 a3 = some (r, vm) ∧ zR (k + 1) vx vm := by
  have m1 : zf_X6_in a1.toInt64 0 255 = zf_X5_within a1 0 255 := zm_in a1 0 255
  have m2 : zf_X6_in a2.toInt64 0 255 = zf_X5_within a2 0 255 := zm_in a2 0 255
  obtain ⟨T, S, L, E, h, hP, hT, hA, hS, hD, hh⟩ := id hR
  obtain ⟨l1, l2, l3, l4, l5⟩ := id hA
  have eM : zf_X6_lot um a1 a2 a3 = (if zf_X5_within a1 0 255 = 0 then some (-2, um) else if zf_X5_within a2 0 255 = 0 then some (-2, um) else if a2 &&& (a1 ^^^ (-1)) = 0 then (if zf_X5_mayHaveWon a2 a3 = 0 then some (-2, um) else (if nI L = 40 then some (-4, um) else z_gd (z_inb (nI L) 40) (some (nI L, z_wI (z_wI (z_wI (z_wI um 22 (nI L).toNatClampNeg a1) 23 (nI L).toNatClampNeg a2) 24 (nI L).toNatClampNeg a3) 21 0 (nI (L + 1)))))) else some (-2, um)) := by
    unfold zf_X6_lot
    rw [m1, m2]
    have q1 : ∀ (w : z_St) (j : Nat) (v : Int32), z_rI (z_wI w 22 j v) 21 = z_rI w 21 := fun _ _ _ => rfl
    have q2 : ∀ (w : z_St) (j : Nat) (v : Int32), z_rI (z_wI w 23 j v) 21 = z_rI w 21 := fun _ _ _ => rfl
    have q3 : ∀ (w : z_St) (j : Nat) (v : Int32), z_rI (z_wI w 24 j v) 21 = z_rI w 21 := fun _ _ _ => rfl
    have q4 : ∀ (w : z_St) (v : Int32), z_rI (z_wI w 21 0 v) 21 0 = v := fun _ _ => rfl
    simp only [z_nm, q1, q2, q3, q4, l2, z_n1, z_sub1]
    rw [← z_won]
    by_cases g : z_inb (nI L) 40 = true
    · simp only [g, z_gd, cond_true]
    · have g : z_inb (nI L) 40 = false := by
        cases hq : z_inb (nI L) 40 with
        | false => rfl
        | true => exact absurd hq g
      simp only [g, z_gd, cond_false]
  have hbad : ∀ (c : (if zf_X5_within a1 0 255 = 0 then True else if zf_X5_within a2 0 255 = 0 then True else if a2 &&& (a1 ^^^ (-1)) = 0 then zf_X5_mayHaveWon a2 a3 = 0 else True)), zf_X5_lot ux a1 a2 a3 = some (-2, ux) ∧ zf_X6_lot um a1 a2 a3 = some (-2, um) := by
    intro c
    rw [eM]
    unfold zf_X5_lot
    by_cases c1 : zf_X5_within a1 0 255 = 0
    · rw [if_pos c1, if_pos c1]; exact ⟨rfl, rfl⟩
    rw [if_neg c1, if_neg c1]
    rw [if_neg c1] at c
    by_cases c2 : zf_X5_within a2 0 255 = 0
    · rw [if_pos c2, if_pos c2]; exact ⟨rfl, rfl⟩
    rw [if_neg c2, if_neg c2]
    rw [if_neg c2] at c
    by_cases c3 : a2 &&& (a1 ^^^ (-1)) = 0
    · rw [if_pos c3, if_pos c3]
      rw [if_pos c3] at c
      rw [if_pos c, if_pos c]; exact ⟨rfl, rfl⟩
    · rw [if_neg c3, if_neg c3]; exact ⟨rfl, rfl⟩
  by_cases c1 : zf_X5_within a1 0 255 = 0
  · obtain ⟨e1, e2⟩ := hbad (by rw [if_pos c1]; trivial)
    exact ⟨-2, ux, um, e1, e2, zR_k hR (Nat.le_succ k)⟩
  by_cases c2 : zf_X5_within a2 0 255 = 0
  · obtain ⟨e1, e2⟩ := hbad (by rw [if_neg c1, if_pos c2]; trivial)
    exact ⟨-2, ux, um, e1, e2, zR_k hR (Nat.le_succ k)⟩
  by_cases c3 : a2 &&& (a1 ^^^ (-1)) = 0
  rotate_left
  · obtain ⟨e1, e2⟩ := hbad (by rw [if_neg c1, if_neg c2, if_neg c3]; trivial)
    exact ⟨-2, ux, um, e1, e2, zR_k hR (Nat.le_succ k)⟩
  by_cases c4 : zf_X5_mayHaveWon a2 a3 = 0
  · obtain ⟨e1, e2⟩ := hbad (by rw [if_neg c1, if_neg c2, if_pos c3]; exact c4)
    exact ⟨-2, ux, um, e1, e2, zR_k hR (Nat.le_succ k)⟩
  by_cases c5 : L = 40
  · subst c5
    have c6 : ¬ nI 40 < (40 : Int32) := by decide
    have c7 : nI 40 = (40 : Int32) := rfl
    exact ⟨-4, ux, um, by simp only [zf_X5_lot, c1, c2, c3, c4, if_false, if_true, zf_X0_addLot, l1, c6, z_bd2], by rw [eM]; simp only [c1, c2, c3, c4, if_false, if_true, c7], zR_k hR (Nat.le_succ k)⟩
  have c6 : nI L < (40 : Int32) := by rw [z_lit]; exact nI_lt (show L < 40 by omega) (by decide)
  have c7 : ¬ nI L = (40 : Int32) := by
    rw [z_lit, nI_eq (by omega) (by decide)]
    exact c5
  have i1 : z_inb (nI L) 40 = true := z_inb_t (by omega) (by decide)
  have i2 : (nI L).toNatClampNeg = L := z_cl (by omega)
  obtain ⟨a, ha, rfl⟩ := zx_idc 255 c1 rfl
  obtain ⟨b, hb, rfl⟩ := zx_idc 255 c2 rfl
  have q1 : ∀ (w : z_St) (j : Nat) (v : Int32), z_rI (z_wI w 0 j v) 3 = z_rI w 3 := fun _ _ _ => rfl
  have q2 : ∀ (w : z_St) (j : Nat) (v : Int32), z_rI (z_wI w 1 j v) 3 = z_rI w 3 := fun _ _ _ => rfl
  have q3 : ∀ (w : z_St) (j : Nat) (v : Int32), z_rI (z_wI w 2 j v) 3 = z_rI w 3 := fun _ _ _ => rfl
  have q4 : ∀ (w : z_St) (v : Int32), z_rI (z_wI w 3 0 v) 3 0 = v := fun _ _ => rfl
  refine ⟨nI L, z_wI (z_wI (z_wI (z_wI ux 0 L (nI a)) 1 L (nI b)) 2 L a3) 3 0 (nI (L + 1)), z_wI (z_wI (z_wI (z_wI um 22 L (nI a)) 23 L (nI b)) 24 L a3) 21 0 (nI (L + 1)), ?_, ?_, ?_⟩
  · simp only [zf_X5_lot, c1, c2, c3, c4, if_false, if_true, zf_X0_addLot, l1, c6, i1, i2, z_gd, z_nm, cond_true, q1, q2, q3, z_n1, q4, z_sub1, z_bd2]
  · rw [eM]
    simp only [c1, c2, c3, c4, if_false, if_true, c7, i1, i2, z_gd, cond_true]
  · refine ⟨T, S, L + 1, E, h, hP, hT, ⟨rfl, rfl, by omega, ?_, l5⟩, hS, hD, by omega⟩
    intro i hi
    show upd (z_rI ux 0) L (nI a) i = upd (z_rI um 22) L (nI a) i ∧ upd (z_rI ux 1) L (nI b) i = upd (z_rI um 23) L (nI b) i ∧ upd (z_rI ux 2) L a3 i = upd (z_rI um 24) L a3 i ∧ (∃ c, c < 256 ∧ upd (z_rI um 22) L (nI a) i = nI c) ∧ (∃ c, c < 256 ∧ upd (z_rI um 23) L (nI b) i = nI c)
    by_cases q : i = L
    · subst q
      rw [pk_us, pk_us, pk_us, pk_us, pk_us, pk_us]
      exact ⟨rfl, rfl, rfl, ⟨a, by omega, rfl⟩, ⟨b, by omega, rfl⟩⟩
    · rw [pk_un q, pk_un q, pk_un q, pk_un q, pk_un q, pk_un q]
      exact l4 i (by omega)
