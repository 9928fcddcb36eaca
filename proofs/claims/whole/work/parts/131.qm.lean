/-! the digest: both sides in step -/
theorem zd_6 {k : Nat} {ux um : z_St} (hR : zR k ux um) : ∀ (r i n n' : Nat) (h : Int64), i + r = 7 → r < n → r < n' → ∃ o, zf_X5_digest_6 ux n h (nI i) = some (o, nI 7) ∧ zf_X6_digest_6 um n' h (nI i) = some (o, nI 7) := by
  intro r
  induction r with
  | zero =>
    intro i n n' h hi hn hn'
    obtain ⟨m, rfl⟩ : ∃ m, n = m + 1 := ⟨n - 1, by omega⟩
    obtain ⟨m', rfl⟩ : ∃ m, n' = m + 1 := ⟨n' - 1, by omega⟩
    have hi : i = 7 := by omega
    subst hi
    exact ⟨h, by rw [zf_X5_digest_6.eq_2, if_pos (by decide)], by rw [zf_X6_digest_6.eq_2, if_pos (by decide)]⟩
  | succ r ih =>
    intro i n n' h hi hn hn'
    obtain ⟨m, rfl⟩ : ∃ m, n = m + 1 := ⟨n - 1, by omega⟩
    obtain ⟨m', rfl⟩ : ∃ m, n' = m + 1 := ⟨n' - 1, by omega⟩
    have c : ¬ (7 : Int32) ≤ nI i := by rw [z_lit]; exact nI_ge (show i < 7 by omega) (by decide)
    obtain ⟨o, o1, o2⟩ := z_count hR (nI i)
    rw [zf_X5_digest_6.eq_2, zf_X6_digest_6.eq_2, if_neg c, if_neg c, z_bd_e o1, z_bd_e o2]
    simp only [z_nm, z_n1, zf_X5_mix]
    exact ih (i + 1) m m' _ (by omega) (by omega) (by omega)
theorem zd_33 {T : Nat} {ux um : z_St} (hP : zR_P T ux um) : ∀ (r i n n' : Nat) (h : Int64), i + r = 10 → r < n → r < n' → ∃ o, zf_X2_mixWorks_5 ux n h (nI i) = some (o, nI 10) ∧ zf_X6_digest_33 um n' h (nI i) = some (o, nI 10) := by
  intro r
  induction r with
  | zero =>
    intro i n n' h hi hn hn'
    obtain ⟨m, rfl⟩ : ∃ m, n = m + 1 := ⟨n - 1, by omega⟩
    obtain ⟨m', rfl⟩ : ∃ m, n' = m + 1 := ⟨n' - 1, by omega⟩
    have hi : i = 10 := by omega
    subst hi
    exact ⟨h, by rw [zf_X2_mixWorks_5.eq_2, if_pos (by decide)], by rw [zf_X6_digest_33.eq_2, if_pos (by decide)]⟩
  | succ r ih =>
    intro i n n' h hi hn hn'
    obtain ⟨m, rfl⟩ : ∃ m, n = m + 1 := ⟨n - 1, by omega⟩
    obtain ⟨m', rfl⟩ : ∃ m, n' = m + 1 := ⟨n' - 1, by omega⟩
    have c : ¬ (10 : Int32) ≤ nI i := by rw [z_lit]; exact nI_ge (show i < 10 by omega) (by decide)
    have i1 : z_inb (nI i) 10 = true := z_inb_t (by omega) (by decide)
    have i2 : (nI i).toNatClampNeg = i := z_cl (by omega)
    obtain ⟨o1, o2⟩ := hP.2.2.2.1 i (by omega)
    rw [zf_X2_mixWorks_5.eq_2, zf_X6_digest_33.eq_2, if_neg c, if_neg c]
    simp only [z_nm, z_n1, zf_X5_mix, i1, i2, z_gd, cond_true, o1, o2]
    exact ih (i + 1) m m' _ (by omega) (by omega) (by omega)
theorem zd_100 {T : Nat} {ux um : z_St} (hP : zR_P T ux um) {t p : Nat} (ht : t < T) (hp : z_rI um 3 t = nI p) (hp5 : p ≤ 5) : ∀ (r i n n' : Nat) (h : Int64), i + r = p → r < n → r < n' → ∃ o, zf_X2_mixParts_15 (nI t) ux n h (nI i) = some (o, nI p) ∧ zf_X6_digest_100 (nI t) um n' h (nI i) = some (o, nI p) := by
  have hT := hP.2.2.1
  have j1 : z_inb (nI t) 12 = true := z_inb_t (by omega) (by decide)
  have j2 : (nI t).toNatClampNeg = t := z_cl (by omega)
  have x7 : z_rI ux 7 t = nI p := ((hP.2.2.2.2.1 t ht).1).trans hp
  intro r
  induction r with
  | zero =>
    intro i n n' h hi hn hn'
    obtain ⟨m, rfl⟩ : ∃ m, n = m + 1 := ⟨n - 1, by omega⟩
    obtain ⟨m', rfl⟩ : ∃ m, n' = m + 1 := ⟨n' - 1, by omega⟩
    have hi : i = p := by omega
    subst hi
    have c : nI i ≤ nI i := nI_le (Nat.le_refl i) (by omega)
    exact ⟨h, by rw [zf_X2_mixParts_15.eq_2, z_gd_t _ j1, j2, x7, if_pos c], by rw [zf_X6_digest_100.eq_2, z_gd_t _ j1, j2, hp, if_pos c]⟩
  | succ r ih =>
    intro i n n' h hi hn hn'
    obtain ⟨m, rfl⟩ : ∃ m, n = m + 1 := ⟨n - 1, by omega⟩
    obtain ⟨m', rfl⟩ : ∃ m, n' = m + 1 := ⟨n' - 1, by omega⟩
    have c : ¬ nI p ≤ nI i := nI_ge (by omega) (by omega)
    have i1 : z_inb (nI (5 * t + i)) 60 = true := z_inb_t (by omega) (by decide)
    have i2 : (nI (5 * t + i)).toNatClampNeg = 5 * t + i := z_cl (by omega)
    have o1 := hP.2.2.2.2.2.1 t ht i (by omega)
    have w1 : zf_X2_worksOf ux (nI t) (nI i) = some (z_rI um 4 (5 * t + i)) := by
      unfold zf_X2_worksOf
      rw [z_5r, z_gd_t _ i1, i2, o1]
    rw [zf_X2_mixParts_15.eq_2, zf_X6_digest_100.eq_2, z_gd_t _ j1, z_gd_t _ j1, j2, x7, hp, if_neg c, if_neg c, z_bd_e w1, z_5, z_gd_t _ i1, i2]
    simp only [z_nm, z_n1, zf_X5_mix]
    exact ih (i + 1) m m' _ (by omega) (by omega) (by omega)
theorem zd_75 {T S hh E : Nat} {ux um : z_St} (hP : zR_P T ux um) (hT : zR_T T S hh ux um) (hS : zR_S T E ux um) : ∀ (r i n n' : Nat) (h : Int64), i + r = T → r < n → r < n' → ∃ o, zf_X5_digest_39 ux n h (nI i) = some (o, nI T) ∧ zf_X6_digest_75 um n' h (nI i) = some (o, nI T) := by
  have hT12 := hP.2.2.1
  have tc : zf_X2_thingCount ux = nI T := hP.1
  intro r
  induction r with
  | zero =>
    intro i n n' h hi hn hn'
    obtain ⟨m, rfl⟩ : ∃ m, n = m + 1 := ⟨n - 1, by omega⟩
    obtain ⟨m', rfl⟩ : ∃ m, n' = m + 1 := ⟨n' - 1, by omega⟩
    have hi : i = T := by omega
    subst hi
    have c : nI i ≤ nI i := nI_le (Nat.le_refl i) (by omega)
    exact ⟨h, by rw [zf_X5_digest_39.eq_2, tc, if_pos c], by rw [zf_X6_digest_75.eq_2, hP.2.1, if_pos c]⟩
  | succ r ih =>
    intro i n n' h hi hn hn'
    obtain ⟨m, rfl⟩ : ∃ m, n = m + 1 := ⟨n - 1, by omega⟩
    obtain ⟨m', rfl⟩ : ∃ m, n' = m + 1 := ⟨n' - 1, by omega⟩
    have ht : i < T := by omega
    have c : ¬ nI T ≤ nI i := nI_ge (by omega) (by omega)
    have j1 : z_inb (nI i) 12 = true := z_inb_t (by omega) (by decide)
    have j2 : (nI i).toNatClampNeg = i := z_cl (by omega)
    obtain ⟨e7, p, -, p5, hp⟩ := hP.2.2.2.2.1 i ht
    obtain ⟨e16, -, -⟩ := hT.2.2.2.2.2.2.1 i ht
    obtain ⟨e11, e12, -⟩ := hS.2.2.2.2.1 i ht
    obtain ⟨o, o1, o2⟩ := zd_100 hP ht hp p5 p 0 5000 5000 (31 * h + (z_rI um 3 i).toInt64) (by omega) (by omega) (by omega)
    have o1 : zf_X2_mixParts_15 (nI i) ux 5000 (31 * h + (z_rI um 3 i).toInt64) 0 = _ := o1
    have o2 : zf_X6_digest_100 (nI i) um 5000 (31 * h + (z_rI um 3 i).toInt64) 0 = _ := o2
    have w1 : zf_X2_mixParts ux h (nI i) = some o := by
      unfold zf_X2_mixParts zf_X5_mix
      rw [z_gd_t _ j1, j2, e7]
      simp only [z_nm]
      rw [z_bd2_e o1]
    have w2 : zf_X4_holderOf ux (nI i) = some (z_rI um 5 i) := by
      unfold zf_X4_holderOf
      rw [z_gd_t _ j1, j2, e16]
    have w3 : ∀ y : Int64, zf_X3_mixMarks ux y (nI i) = some (31 * (31 * y + (z_rI um 7 i).toInt64) + (z_rI um 8 i).toInt64) := by
      intro y
      unfold zf_X3_mixMarks zf_X5_mix
      rw [z_gd_t _ j1, z_gd_t _ j1, j2, e11, e12]
    rw [zf_X5_digest_39.eq_2, zf_X6_digest_75.eq_2, tc, hP.2.1, if_neg c, if_neg c, z_bd_e w1, z_bd_e w2, z_gd_t _ j1, j2]
    simp only [z_nm]
    rw [z_bd_e (w3 _), z_bd2_e o2, z_gd_t _ j1]
    simp only [j1, z_gd, cond_true, z_n1, zf_X5_mix]
    exact ih (i + 1) m m' _ (by omega) (by omega) (by omega)
theorem zd_197 {T S hh : Nat} {ux um : z_St} (hT : zR_T T S hh ux um) {x : Nat} (hx : x < S) : ∀ (r i n n' : Nat) (h : Int64), i + r = 7 → r < n' → ∃ o, zf_X4_mixSales_5 ux (n + r) h (nI (7 * x + i)) = zf_X4_mixSales_5 ux n o (nI (7 * (x + 1))) ∧ zf_X6_digest_197 (nI x) um n' h (nI i) = some (o, nI 7) := by
  have hS := hT.2.2.1
  intro r
  induction r with
  | zero =>
    intro i n n' h hi hn'
    obtain ⟨m', rfl⟩ : ∃ m, n' = m + 1 := ⟨n' - 1, by omega⟩
    have hi : i = 7 := by omega
    subst hi
    exact ⟨h, rfl, by rw [zf_X6_digest_197.eq_2, if_pos (by decide)]⟩
  | succ r ih =>
    intro i n n' h hi hn'
    obtain ⟨m', rfl⟩ : ∃ m, n' = m + 1 := ⟨n' - 1, by omega⟩
    have c : ¬ (7 : Int32) ≤ nI i := by rw [z_lit]; exact nI_ge (show i < 7 by omega) (by decide)
    have e7 : z_rI ux 21 0 * 7 = nI (S * 7) := by rw [hT.1, z_lit, z_mul]
    have c2 : ¬ nI (S * 7) ≤ nI (7 * x + i) := nI_ge (by omega) (by omega)
    have i1 : z_inb (nI (7 * x + i)) 560 = true := z_inb_t (by omega) (by decide)
    have i2 : (nI (7 * x + i)).toNatClampNeg = 7 * x + i := z_cl (by omega)
    rw [show n + (r + 1) = (n + r) + 1 by omega, zf_X4_mixSales_5.eq_2, zf_X6_digest_197.eq_2, e7, if_neg c2, if_neg c, z_gd_t _ i1, i2, z_row hT hx i (by omega), z_bd_e (zm_saleOf (show x < 80 by omega) i (by omega))]
    simp only [z_nm, z_n1, zf_X5_mix]
    exact ih (i + 1) n m' _ (by omega) (by omega)
theorem zd_186 {T S hh : Nat} {ux um : z_St} (hT : zR_T T S hh ux um) : ∀ (r x n n' : Nat) (h : Int64), x + r = S → 7 * r < n → r < n' → ∃ o, zf_X4_mixSales_5 ux n h (nI (7 * x)) = some (o, nI (7 * S)) ∧ zf_X6_digest_186 um n' h (nI x) = some (o, nI S) := by
  have hS := hT.2.2.1
  intro r
  induction r with
  | zero =>
    intro x n n' h hx hn hn'
    obtain ⟨m, rfl⟩ : ∃ m, n = m + 1 := ⟨n - 1, by omega⟩
    obtain ⟨m', rfl⟩ : ∃ m, n' = m + 1 := ⟨n' - 1, by omega⟩
    have hx : x = S := by omega
    subst hx
    have e7 : z_rI ux 21 0 * 7 = nI (x * 7) := by rw [hT.1, z_lit, z_mul]
    exact ⟨h, by rw [zf_X4_mixSales_5.eq_2, e7, if_pos (nI_le (by omega) (by omega))], by rw [zf_X6_digest_186.eq_2, hT.2.1, if_pos (nI_le (Nat.le_refl _) (by omega))]⟩
  | succ r ih =>
    intro x n n' h hx hn hn'
    obtain ⟨m, rfl⟩ : ∃ m, n = m + 7 := ⟨n - 7, by omega⟩
    obtain ⟨m', rfl⟩ : ∃ m, n' = m + 1 := ⟨n' - 1, by omega⟩
    have c : ¬ nI S ≤ nI x := nI_ge (by omega) (by omega)
    obtain ⟨o, o1, o2⟩ := zd_197 hT (show x < S by omega) 7 0 m 5000 h (by omega) (by omega)
    have o1 : zf_X4_mixSales_5 ux (m + 7) h (nI (7 * x)) = _ := o1
    have o2 : zf_X6_digest_197 (nI x) um 5000 h 0 = _ := o2
    rw [o1, zf_X6_digest_186.eq_2, hT.2.1, if_neg c, z_bd2_e o2]
    simp only [z_nm, z_n1]
    exact ih (x + 1) m m' o (by omega) (by omega) (by omega)
theorem zd_233 {L : Nat} {ux um : z_St} (hA : zR_A L ux um) : ∀ (r i n n' : Nat) (h : Int64), i + r = L → r < n → r < n' → ∃ o, zf_X0_mixLots_5 ux n h (nI i) = some (o, nI L) ∧ zf_X6_digest_233 um n' h (nI i) = some (o, nI L) := by
  have hL := hA.2.2.1
  intro r
  induction r with
  | zero =>
    intro i n n' h hi hn hn'
    obtain ⟨m, rfl⟩ : ∃ m, n = m + 1 := ⟨n - 1, by omega⟩
    obtain ⟨m', rfl⟩ : ∃ m, n' = m + 1 := ⟨n' - 1, by omega⟩
    have hi : i = L := by omega
    subst hi
    have c : nI i ≤ nI i := nI_le (Nat.le_refl i) (by omega)
    exact ⟨h, by rw [zf_X0_mixLots_5.eq_2, hA.1, if_pos c], by rw [zf_X6_digest_233.eq_2, hA.2.1, if_pos c]⟩
  | succ r ih =>
    intro i n n' h hi hn hn'
    obtain ⟨m, rfl⟩ : ∃ m, n = m + 1 := ⟨n - 1, by omega⟩
    obtain ⟨m', rfl⟩ : ∃ m, n' = m + 1 := ⟨n' - 1, by omega⟩
    have c : ¬ nI L ≤ nI i := nI_ge (by omega) (by omega)
    have j1 : z_inb (nI i) 40 = true := z_inb_t (by omega) (by decide)
    have j2 : (nI i).toNatClampNeg = i := z_cl (by omega)
    obtain ⟨e1, e2, e3, -⟩ := hA.2.2.2.1 i (by omega)
    rw [zf_X0_mixLots_5.eq_2, zf_X6_digest_233.eq_2, hA.1, hA.2.1, if_neg c, if_neg c]
    simp only [z_nm, z_n1, zf_X5_mix, j1, j2, z_gd, cond_true, e1, e2, e3]
    exact ih (i + 1) m m' _ (by omega) (by omega) (by omega)
theorem zd_291 {T E : Nat} {ux um : z_St} (hS : zR_S T E ux um) : ∀ (r i n n' : Nat) (h : Int64), i + r = E → r < n → r < n' → ∃ o, zf_X3_mixEntries_5 ux n h (nI i) = some (o, nI E) ∧ zf_X6_digest_291 um n' h (nI i) = some (o, nI E) := by
  have hE := hS.2.2.1
  intro r
  induction r with
  | zero =>
    intro i n n' h hi hn hn'
    obtain ⟨m, rfl⟩ : ∃ m, n = m + 1 := ⟨n - 1, by omega⟩
    obtain ⟨m', rfl⟩ : ∃ m, n' = m + 1 := ⟨n' - 1, by omega⟩
    have hi : i = E := by omega
    subst hi
    have c : nI i ≤ nI i := nI_le (Nat.le_refl i) (by omega)
    exact ⟨h, by rw [zf_X3_mixEntries_5.eq_2, hS.1, if_pos c], by rw [zf_X6_digest_291.eq_2, hS.2.1, if_pos c]⟩
  | succ r ih =>
    intro i n n' h hi hn hn'
    obtain ⟨m, rfl⟩ : ∃ m, n = m + 1 := ⟨n - 1, by omega⟩
    obtain ⟨m', rfl⟩ : ∃ m, n' = m + 1 := ⟨n' - 1, by omega⟩
    have c : ¬ nI E ≤ nI i := nI_ge (by omega) (by omega)
    have j1 : z_inb (nI i) 10 = true := z_inb_t (by omega) (by decide)
    have j2 : (nI i).toNatClampNeg = i := z_cl (by omega)
    obtain ⟨e1, -⟩ := hS.2.2.2.1 i (by omega)
    rw [zf_X3_mixEntries_5.eq_2, zf_X6_digest_291.eq_2, hS.1, hS.2.1, if_neg c, if_neg c]
    simp only [z_nm, z_n1, zf_X5_mix, j1, j2, z_gd, cond_true, e1]
    exact ih (i + 1) m m' _ (by omega) (by omega) (by omega)
theorem zd_321 {T S hh : Nat} {ux um : z_St} (hT : zR_T T S hh ux um) (hD : zR_D ux um) : ∀ (r i n n' : Nat) (h : Int64), i + r = 8 → r < n → r < n' → ∃ o, zf_X5_digest_118 ux n h (nI i) = some (o, nI 8) ∧ zf_X6_digest_321 um n' h (nI i) = some (o, nI 8) := by
  intro r
  induction r with
  | zero =>
    intro i n n' h hi hn hn'
    obtain ⟨m, rfl⟩ : ∃ m, n = m + 1 := ⟨n - 1, by omega⟩
    obtain ⟨m', rfl⟩ : ∃ m, n' = m + 1 := ⟨n' - 1, by omega⟩
    have hi : i = 8 := by omega
    subst hi
    exact ⟨h, by rw [zf_X5_digest_118.eq_2, if_pos z_8hi], by rw [zf_X6_digest_321.eq_2, if_pos z_8hi]⟩
  | succ r ih =>
    intro i n n' h hi hn hn'
    obtain ⟨m, rfl⟩ : ∃ m, n = m + 1 := ⟨n - 1, by omega⟩
    obtain ⟨m', rfl⟩ : ∃ m, n' = m + 1 := ⟨n' - 1, by omega⟩
    have c := z_8lo (show i < 8 by omega)
    obtain ⟨g, g1, g2⟩ := z_gain hT (nI i)
    obtain ⟨o, o1, o2⟩ := z_net hD (show i < 8 by omega)
    obtain ⟨a, a1, a2⟩ := z_bd_s o2
    obtain ⟨b, b1, b2⟩ := z_bd_s a2
    have b2 : a - b = o := Option.some.inj b2
    rw [zf_X5_digest_118.eq_2, zf_X6_digest_321.eq_2, if_neg c, if_neg c, z_bd_e g1, z_bd_e g2]
    simp only [z_nm]
    rw [z_bd_e o1, z_bd_e a1, z_bd_e b1, b2, z_n1]
    exact ih (i + 1) m m' _ (by omega) (by omega) (by omega)
theorem zq_digest {k : Nat} {ux um : z_St} (hk : k < 512) (hR : zR k ux um) : ∃ (r : Int64), zf_X5_digest ux = some r ∧ zf_X6_digest um = some r ∧ zR (k + 1) ux um := by
  obtain ⟨T, S, L, E, h, hP, hT, hA, hS, hD, hh⟩ := id hR
  have hS80 := hT.2.2.1
  have hL := hA.2.2.1
  have hE := hS.2.2.1
  have hT12 := hP.2.2.1
  obtain ⟨o1, x1, m1⟩ := zd_6 hR 7 0 5000 5000 239 (by omega) (by omega) (by omega)
  obtain ⟨o2, x2, m2⟩ := zd_33 hP 10 0 5000 5000 o1 (by omega) (by omega) (by omega)
  obtain ⟨o3, x3, m3⟩ := zd_75 hP hT hS T 0 5000 5000 o2 (by omega) (by omega) (by omega)
  obtain ⟨o4, x4, m4⟩ := zd_186 hT S 0 5000 5000 o3 (by omega) (by omega) (by omega)
  obtain ⟨o5, x5, m5⟩ := zd_233 hA L 0 5000 5000 o4 (by omega) (by omega) (by omega)
  obtain ⟨o6, x6, m6⟩ := zd_291 hS E 0 5000 5000 o5 (by omega) (by omega) (by omega)
  obtain ⟨o7, x7, m7⟩ := zd_321 hT hD 8 0 5000 5000 o6 (by omega) (by omega) (by omega)
  have y1 : zf_X5_digest_6 ux 5000 239 0 = _ := x1
  have y2 : zf_X2_mixWorks ux o1 = some o2 := by
    unfold zf_X2_mixWorks
    exact z_bd2_e x2
  have y3 : zf_X5_digest_39 ux 5000 o2 0 = _ := x3
  have y4 : zf_X4_mixSales ux o3 = some o4 := by
    unfold zf_X4_mixSales
    exact z_bd2_e x4
  have y5 : zf_X0_mixLots ux o4 = some o5 := by
    unfold zf_X0_mixLots
    exact z_bd2_e x5
  have y6 : zf_X3_mixEntries ux o5 = some o6 := by
    unfold zf_X3_mixEntries
    exact z_bd2_e x6
  have y7 : zf_X5_digest_118 ux 5000 o6 0 = _ := x7
  have n1 : zf_X6_digest_6 um 5000 239 0 = _ := m1
  have n2 : zf_X6_digest_33 um 5000 o1 0 = _ := m2
  have n3 : zf_X6_digest_75 um 5000 o2 0 = _ := m3
  have n4 : zf_X6_digest_186 um 5000 o3 0 = _ := m4
  have n5 : zf_X6_digest_233 um 5000 o4 0 = _ := m5
  have n6 : zf_X6_digest_291 um 5000 o5 0 = _ := m6
  have n7 : zf_X6_digest_321 um 5000 o6 0 = _ := m7
  refine ⟨o7, ?_, ?_, zR_k hR (Nat.le_succ k)⟩
  · unfold zf_X5_digest
    rw [z_bd2_e y1, z_bd_e y2, z_bd2_e y3, z_bd_e y4, z_bd_e y5, z_bd_e y6, z_bd2_e y7]
  · unfold zf_X6_digest
    rw [z_bd2_e n1, z_bd2_e n2, z_bd2_e n3, z_bd2_e n4, z_bd2_e n5, z_bd2_e n6, z_bd2_e n7]
