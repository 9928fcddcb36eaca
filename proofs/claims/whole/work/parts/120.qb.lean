theorem zSM_25 {um u : z_St} (h : zSM um u) (hw : ∀ n k, n ≤ 40 → k ≤ n → z_rL um 25 (41 * n + k) = lN (zC n k)) : ∀ n k, n ≤ 40 → k ≤ n → z_rL u 25 (41 * n + k) = lN (zC n k) := by
  rw [h.2]
  exact hw
/-- THE CHANCE, as the reference finds it -/
theorem zm_chance {L : Nat} {ux um u0 : z_St} (hA : zR_A L ux um) (h0 : zSM um u0) {a b : Nat} (ha : a < 8) (hb : b < 8) : ∃ vm, zf_X6_findChance u0 (nI a) (nI b) = some vm ∧ zSM um vm ∧ z_rL vm 30 0 = lN (zUp um a b L / Nat.gcd (zUp um a b L) (zLo um a b L)) ∧ z_rL vm 31 0 = lN (zLo um a b L / Nat.gcd (zUp um a b L) (zLo um a b L)) := by
  obtain ⟨v, e1, e2, f0, f1, f2, f3⟩ := zm_findBoth hA h0 ha hb
  obtain ⟨h1, h2, h3, h4, h5⟩ := zN_f (um := um) (a := a) (b := b) hA.2.2.1
  obtain ⟨g1, g2, g3⟩ := z_ul (um := um) (a := a) (b := b) hA.2.2.1
  have hwt := hA.2.2.2.2
  have st : ∀ (r k m : Nat) (u : z_St), k + r = zN um a b 3 L + 1 → r < m → zSM um u → z_rI u 26 0 = nI (zN um a b 0 L) → z_rI u 27 0 = nI (zN um a b 1 L) → z_rI u 28 0 = nI (zN um a b 2 L) → z_rI u 29 0 = nI (zN um a b 3 L) → z_rL u 30 0 = lN (zS (zF (zN um a b 0 L) (zN um a b 1 L) (zN um a b 2 L)) k) →
      ∃ w t, zf_X6_findChance_13 m (nI k) u = some (t, w) ∧ zSM um w ∧ z_rI w 26 0 = nI (zN um a b 0 L) ∧ z_rI w 28 0 = nI (zN um a b 2 L) ∧ z_rL w 30 0 = lN (zUp um a b L) := by
    intro r
    induction r with
    | zero =>
      intro k m u hk hm hu i0 i1 i2 i3 i4
      obtain ⟨m', rfl⟩ : ∃ z, m = z + 1 := ⟨m - 1, by omega⟩
      have hk : k = zN um a b 3 L + 1 := by omega
      subst hk
      exact ⟨u, _, by rw [zf_X6_findChance_13.eq_2, i3, if_pos (nI_lt (show zN um a b 3 L < zN um a b 3 L + 1 by omega) (by omega))], hu, i0, i2, i4⟩
    | succ r ih =>
      intro k m u hk hm hu i0 i1 i2 i3 i4
      obtain ⟨m', rfl⟩ : ∃ z, m = z + 1 := ⟨m - 1, by omega⟩
      have c1 : ¬ nI (zN um a b 3 L) < nI k := nI_nlt (show k ≤ zN um a b 3 L by omega) (by omega)
      have hwu := zSM_25 hu hwt
      rw [zf_X6_findChance_13.eq_2]
      simp only [i0, i1, i2, i3, i4, c1, if_false, zm_choose hwu (show zN um a b 1 L ≤ 40 by omega) (show k ≤ 40 by omega), pk_sub h2, pk_sub (show k ≤ zN um a b 2 L by omega), zm_choose hwu (show zN um a b 0 L - zN um a b 1 L ≤ 40 by omega) (show zN um a b 2 L - k ≤ 40 by omega), z_bd, z_nm, z_n1, lN_mul, lN_add]
      exact ih (k + 1) m' _ (by omega) (by omega) (zSM_t hu (zSM_wL _ 30 0 _ (by decide))) i0 i1 i2 i3 rfl
  obtain ⟨w, t, k1, k2, k3, k4, k5⟩ := st (zN um a b 3 L + 1) 0 5000 (z_wL v 30 0 0) (by omega) (by omega) (zSM_t e2 (zSM_wL _ 30 0 _ (by decide))) f0 f1 f2 f3 rfl
  have k1 : zf_X6_findChance_13 5000 0 (z_wL v 30 0 0) = some (t, w) := k1
  have hch : zf_X6_choose w (nI (zN um a b 0 L)) (nI (zN um a b 2 L)) = some (lN (zLo um a b L)) := zm_choose (zSM_25 k2 hwt) h1 (by omega)
  have q1 : z_rL (z_wL w 31 0 (lN (zLo um a b L))) 30 0 = lN (zUp um a b L) := k5
  have q2 : z_rL (z_wL w 31 0 (lN (zLo um a b L))) 31 0 = lN (zLo um a b L) := rfl
  have hg := (z_gcd g1 g2 g3).2
  have gp : 0 < Nat.gcd (zUp um a b L) (zLo um a b L) := Nat.gcd_pos_of_pos_right _ g3
  have gl : Nat.gcd (zUp um a b L) (zLo um a b L) ≤ zLo um a b L := Nat.gcd_le_right _ g3
  have nz := z_gnz gp (show Nat.gcd (zUp um a b L) (zLo um a b L) < 2 ^ 63 by omega)
  refine ⟨z_wL (z_wL (z_wL w 31 0 (lN (zLo um a b L))) 30 0 (lN (zUp um a b L / Nat.gcd (zUp um a b L) (zLo um a b L)))) 31 0 (lN (zLo um a b L / Nat.gcd (zUp um a b L) (zLo um a b L))), ?_, zSM_t (zSM_t (zSM_t k2 (zSM_wL _ 31 0 _ (by decide))) (zSM_wL _ 30 0 _ (by decide))) (zSM_wL _ 31 0 _ (by decide)), rfl, rfl⟩
  have q3 : ∀ z : Int64, z_rL (z_wL (z_wL w 31 0 (lN (zLo um a b L))) 30 0 z) 31 0 = lN (zLo um a b L) := fun _ => rfl
  simp only [zf_X6_findChance, e1, z_bd, z_nm, k1, z_bd2, k3, k4, hch, q1, q2, hg, nz, z_gd, cond_true, q3, pk_lDiv (show zUp um a b L < 2 ^ 63 by omega) gp (by omega), pk_lDiv (show zLo um a b L < 2 ^ 63 by omega) gp (by omega)]
theorem zq_chance {k : Nat} {ux um : z_St} (hk : k < 512) (hR : zR k ux um) (a1 a2 a3 : Int32) : ∃ (r : Int64) (vm : z_St), zf_X5_chance ux a1 a2 a3 = some r ∧ zf_X6_chance um a1 a2 a3 = some (r, vm) ∧ zR (k + 1) ux vm := by
  have m3 : zf_X6_in a3.toInt64 0 1 = zf_X5_within a3 0 1 := zm_in a3 0 1
  by_cases c1 : zf_X5_areTwo a1 a2 = 0
  · exact ⟨-2, um, by simp only [zf_X5_chance, c1, if_true], by simp only [zf_X6_chance, z_pair, c1, if_true], zR_k hR (Nat.le_succ k)⟩
  by_cases c2 : zf_X5_within a3 0 1 = 0
  · exact ⟨-2, um, by simp only [zf_X5_chance, c1, c2, if_true, if_false], by simp only [zf_X6_chance, z_pair, c1, m3, c2, if_true, if_false], zR_k hR (Nat.le_succ k)⟩
  obtain ⟨a, b, ha, hb, hab, rfl, rfl⟩ := z_two c1
  obtain ⟨T, S, L, E, h, hP, hT, hA, hS, hD, hh⟩ := id hR
  obtain ⟨vm, v1, v2, v3, v4⟩ := zm_chance hA (zSM_r um) ha hb
  obtain ⟨g1, g2, g3⟩ := z_ul (um := um) (a := a) (b := b) hA.2.2.1
  have gp : 0 < Nat.gcd (zUp um a b L) (zLo um a b L) := Nat.gcd_pos_of_pos_right _ g3
  have gl : Nat.gcd (zUp um a b L) (zLo um a b L) ≤ zLo um a b L := Nat.gcd_le_right _ g3
  have nz := z_gnz gp (show Nat.gcd (zUp um a b L) (zLo um a b L) < 2 ^ 63 by omega)
  have n1 : ¬ lN (Nat.gcd (zUp um a b L) (zLo um a b L)) < 1 := by
    rw [z_l1, pk_lLT (by omega) (by decide)]
    omega
  have hx : zf_X5_chance ux (nI a) (nI b) a3 = if a3 = 0 then some (lN (zUp um a b L / Nat.gcd (zUp um a b L) (zLo um a b L))) else some (lN (zLo um a b L / Nat.gcd (zUp um a b L) (zLo um a b L))) := by
    simp only [zf_X5_chance, c1, c2, if_false, zx_shy hA ha hb, zx_all hA ha hb, (z_gcd g1 g2 g3).1, z_bd, z_nm, n1, nz, z_gd, cond_true, pk_lDiv (show zUp um a b L < 2 ^ 63 by omega) gp (by omega), pk_lDiv (show zLo um a b L < 2 ^ 63 by omega) gp (by omega)]
  have hm : zf_X6_chance um (nI a) (nI b) a3 = if a3 = 0 then some (lN (zUp um a b L / Nat.gcd (zUp um a b L) (zLo um a b L)), vm) else some (lN (zLo um a b L / Nat.gcd (zUp um a b L) (zLo um a b L)), vm) := by
    simp only [zf_X6_chance, z_pair, c1, m3, c2, if_false, v1, z_bd, v3, v4]
  rw [hx, hm]
  by_cases q : a3 = 0
  · rw [if_pos q, if_pos q]
    exact ⟨_, vm, rfl, rfl, zR_k (zR_sm hR v2) (Nat.le_succ k)⟩
  · rw [if_neg q, if_neg q]
    exact ⟨_, vm, rfl, rfl, zR_k (zR_sm hR v2) (Nat.le_succ k)⟩
