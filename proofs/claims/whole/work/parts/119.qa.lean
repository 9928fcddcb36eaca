/-! choosing -/
theorem zC_0 (n : Nat) : zC n 0 = 1 := by
  cases n <;> rfl
theorem zC_s (n k : Nat) : zC (n + 1) (k + 1) = zC n k + zC n (k + 1) := rfl
theorem zC_gt : ∀ (n k : Nat), n < k → zC n k = 0
  | 0, 0, h => absurd h (by omega)
  | 0, _ + 1, _ => rfl
  | _ + 1, 0, h => absurd h (by omega)
  | n + 1, k + 1, h => by
    rw [zC_s, zC_gt n k (by omega), zC_gt n (k + 1) (by omega)]
theorem zC_mul : ∀ (n k : Nat), (k + 1) * zC (n + 1) (k + 1) = (n + 1) * zC n k
  | 0, 0 => rfl
  | 0, k + 1 => by
    rw [zC_gt 1 (k + 2) (by omega), zC_gt 0 (k + 1) (by omega)]
    simp
  | n + 1, 0 => by
    have h := zC_mul n 0
    rw [zC_0] at h
    rw [zC_s (n + 1) 0, zC_0]
    omega
  | n + 1, k + 1 => by
    have h1 := zC_mul n (k + 1)
    have h2 := zC_mul n k
    rw [zC_s (n + 1) (k + 1)]
    have e : zC (n + 1) (k + 1) = zC n k + zC n (k + 1) := rfl
    have d1 : (k + 1 + 1) * (zC (n + 1) (k + 1) + zC (n + 1) (k + 1 + 1)) = (k + 1) * zC (n + 1) (k + 1) + zC (n + 1) (k + 1) + (k + 1 + 1) * zC (n + 1) (k + 1 + 1) := by
      rw [Nat.mul_add, Nat.add_mul (k + 1) 1, Nat.one_mul]
    rw [d1, h1, h2]
    have d2 : (n + 1) * zC n k + zC (n + 1) (k + 1) + (n + 1) * zC n (k + 1) = (n + 1) * (zC n k + zC n (k + 1)) + zC (n + 1) (k + 1) := by
      rw [Nat.mul_add]
      omega
    rw [d2, ← e, Nat.add_mul (n + 1) 1, Nat.one_mul]
theorem zC_le : ∀ (n k : Nat), zC n k ≤ 2 ^ n
  | 0, 0 => Nat.le_refl 1
  | 0, _ + 1 => Nat.zero_le _
  | n + 1, 0 => by
    rw [zC_0]
    exact Nat.one_le_two_pow
  | n + 1, k + 1 => by
    have h1 := zC_le n k
    have h2 := zC_le n (k + 1)
    rw [zC_s, Nat.pow_succ]
    omega
theorem zC_pos : ∀ (n k : Nat), k ≤ n → 0 < zC n k
  | n, 0, _ => by rw [zC_0]; decide
  | 0, _ + 1, h => absurd h (by omega)
  | n + 1, k + 1, h => by
    have := zC_pos n k (by omega)
    rw [zC_s]
    omega
def zS (f : Nat → Nat) : Nat → Nat
  | 0 => 0
  | n + 1 => zS f n + f n
theorem zS_z {f : Nat → Nat} : ∀ {n : Nat}, (∀ k, k < n → f k = 0) → zS f n = 0
  | 0, _ => rfl
  | n + 1, h => by
    show zS f n + f n = 0
    rw [zS_z (fun k hk => h k (by omega)), h n (by omega)]
theorem zS_row : ∀ (A j : Nat), zS (zC A) j ≤ 2 ^ A
  | 0, 0 => Nat.zero_le _
  | 0, j + 1 => by
    have : ∀ j, zS (zC 0) (j + 1) = 1 := by
      intro j
      induction j with
      | zero => rfl
      | succ j ih =>
        show zS (zC 0) (j + 1) + zC 0 (j + 1) = 1
        rw [ih]
        rfl
    rw [this j]
    decide
  | A + 1, 0 => Nat.zero_le _
  | A + 1, j + 1 => by
    have e : ∀ j, zS (zC (A + 1)) (j + 1) = zS (zC A) (j + 1) + zS (zC A) j := by
      intro j
      induction j with
      | zero =>
        show 0 + zC (A + 1) 0 = 0 + zC A 0 + 0
        rw [zC_0, zC_0]
      | succ j ih =>
        show zS (zC (A + 1)) (j + 1) + zC (A + 1) (j + 1) = zS (zC A) (j + 1) + zC A (j + 1) + (zS (zC A) j + zC A j)
        rw [ih, zC_s]
        omega
    have h1 := zS_row A (j + 1)
    have h2 := zS_row A j
    rw [e, Nat.pow_succ]
    omega
def zF (n A B : Nat) (k : Nat) : Nat := zC A k * zC (n - A) (B - k)
theorem zS_F (n A B : Nat) : ∀ j, zS (zF n A B) j ≤ 2 ^ (n - A) * zS (zC A) j
  | 0 => Nat.zero_le _
  | j + 1 => by
    have h1 := zS_F n A B j
    have h2 : zF n A B j ≤ 2 ^ (n - A) * zC A j := by
      unfold zF
      rw [Nat.mul_comm]
      exact Nat.mul_le_mul_right _ (zC_le _ _)
    show zS (zF n A B) j + zF n A B j ≤ 2 ^ (n - A) * (zS (zC A) j + zC A j)
    rw [Nat.mul_add]
    omega
theorem zS_b {n A : Nat} (B j : Nat) (h : A ≤ n) : zS (zF n A B) j ≤ 2 ^ n := by
  have h1 := zS_F n A B j
  have h2 := Nat.mul_le_mul_left (2 ^ (n - A)) (zS_row A j)
  rw [← Nat.pow_add, Nat.sub_add_cancel h] at h2
  omega
theorem z_p40 {n : Nat} (h : n ≤ 40) : 2 ^ n ≤ 1099511627776 := Nat.pow_le_pow_right (n := 2) (by decide) h
theorem z_l1 : (1 : Int64) = lN 1 := rfl
theorem z_lnz {b : Nat} (h0 : 0 < b) (h : b < 2 ^ 63) : ¬ lN b = 0 := by
  show ¬ lN b = lN 0
  rw [pk_lEQ h (by decide)]
  omega
theorem z_gnz {b : Nat} (h0 : 0 < b) (h : b < 2 ^ 63) : z_nzL (lN b) = true := decide_eq_true (z_lnz h0 h)
theorem zx_choose {n k : Nat} (hn : n ≤ 40) (hk : k ≤ 40) : zf_X0_choose (nI n) (nI k) = some (lN (zC n k)) := by
  unfold zf_X0_choose
  rw [if_neg (nI_pos (show k < 2 ^ 31 by omega))]
  by_cases c : k ≤ n
  · rw [if_pos (nI_le c (by omega))]
    have st : ∀ (r i m : Nat), i + r = k → r < m → zf_X0_choose_16 (nI n) (nI k) m (lN (zC (n - k + i) i)) (nI (i + 1)) = some (lN (zC n k), nI (k + 1)) := by
      intro r
      induction r with
      | zero =>
        intro i m hi hm
        obtain ⟨m', rfl⟩ : ∃ z, m = z + 1 := ⟨m - 1, by omega⟩
        have hi : i = k := by omega
        subst hi
        have e : n - i + i = n := by omega
        rw [zf_X0_choose_16.eq_2, if_pos (nI_lt (show i < i + 1 by omega) (by omega)), e]
      | succ r ih =>
        intro i m hi hm
        obtain ⟨m', rfl⟩ : ∃ z, m = z + 1 := ⟨m - 1, by omega⟩
        have c1 : ¬ nI k < nI (i + 1) := nI_nlt (show i + 1 ≤ k by omega) (by omega)
        have e1 : (nI (i + 1)).toInt64 = lN (i + 1) := nI_l (by omega)
        have e2 : ((nI n - nI k) + nI (i + 1)).toInt64 = lN (n - k + i + 1) := by
          rw [pk_sub c, nI_add, nI_l (by omega)]
          rfl
        have hb := zC_le (n - k + i) i
        have hp := z_p40 (show n - k + i ≤ 40 by omega)
        have hm1 : zC (n - k + i) i * (n - k + i + 1) ≤ 1099511627776 * 41 := Nat.mul_le_mul (by omega) (by omega)
        have e3 : lN (zC (n - k + i) i) * lN (n - k + i + 1) / lN (i + 1) = lN (zC (n - k + (i + 1)) (i + 1)) := by
          rw [lN_mul, pk_lDiv (by omega) (by omega) (by omega)]
          congr 1
          have h := zC_mul (n - k + i) i
          rw [Nat.mul_comm (zC (n - k + i) i), ← h]
          exact Nat.mul_div_cancel_left _ (by omega)
        rw [zf_X0_choose_16.eq_2]
        simp only [c1, if_false, e1, e2, e3, z_gnz (show 0 < i + 1 by omega) (by omega), z_gd, cond_true, z_nm, z_n1]
        exact ih (i + 1) m' (by omega) (by omega)
    have h0 := st k 0 5000 (by omega) (by omega)
    rw [zC_0] at h0
    exact z_bd2_e h0
  · rw [if_neg (nI_ge (show n < k by omega) (by omega)), zC_gt n k (by omega)]
    rfl
theorem zm_choose {u : z_St} (hw : ∀ n k, n ≤ 40 → k ≤ n → z_rL u 25 (41 * n + k) = lN (zC n k)) {n k : Nat} (hn : n ≤ 40) (hk : k ≤ 40) : zf_X6_choose u (nI n) (nI k) = some (lN (zC n k)) := by
  have m1 : zf_X6_in (nI k).toInt64 0 (nI n).toInt64 = zf_X5_within (nI k) 0 (nI n) := zm_in (nI k) 0 (nI n)
  unfold zf_X6_choose
  rw [m1, zx_w, nI_toInt (show k < 2 ^ 31 by omega), nI_toInt (show n < 2 ^ 31 by omega)]
  have e0 : (0 : Int32).toInt = 0 := rfl
  by_cases c : k ≤ n
  · rw [if_pos (show (0 : Int32).toInt ≤ (k : Int) ∧ (k : Int) ≤ (n : Int) by omega), if_neg (by decide)]
    have e : (41 : Int32) * nI n + nI k = nI (41 * n + k) := by rw [z_lit, z_mul, nI_add]
    have i1 : z_inb (nI (41 * n + k)) 1681 = true := z_inb_t (by omega) (by decide)
    have i2 : (nI (41 * n + k)).toNatClampNeg = 41 * n + k := z_cl (by omega)
    simp only [e, i1, i2, z_gd, cond_true, hw n k hn c]
  · rw [if_neg (show ¬ ((0 : Int32).toInt ≤ (k : Int) ∧ (k : Int) ≤ (n : Int)) by omega), if_pos rfl, zC_gt n k (by omega)]
    rfl
/-! the greatest common divisor, by Euclid's steps -/
theorem z_half {a b : Nat} (h0 : 0 < b) (h : b ≤ a) : 2 * (a % b) < a := by
  have h1 := Nat.mod_lt a h0
  have h2 := Nat.div_add_mod a b
  have h3 : 1 ≤ a / b := (Nat.le_div_iff_mul_le h0).mpr (by omega)
  have h4 : b * 1 ≤ b * (a / b) := Nat.mul_le_mul_left b h3
  omega
theorem z_c0 (b : Nat) (h : b < 2 ^ 63) : lg_cmp (lN b) 0 = 0 ↔ b = 0 := by
  rw [lg_cmp_eq]
  show lN b = lN 0 ↔ b = 0
  rw [pk_lEQ h (by decide)]
theorem z_pr {a b c : Nat} (h0 : 0 < b) (hba : b ≤ a) (h : a * b < 2 ^ (c + 1)) : b * (a % b) < 2 ^ c := by
  have h1 := z_half h0 hba
  have h2 : b * (2 * (a % b)) ≤ b * a := Nat.mul_le_mul_left b (by omega)
  have e1 : b * (2 * (a % b)) = 2 * (b * (a % b)) := by rw [← Nat.mul_assoc, Nat.mul_comm b 2, Nat.mul_assoc]
  rw [Nat.pow_succ] at h
  rw [Nat.mul_comm] at h
  omega
theorem z_ab {a b c : Nat} (h0 : 0 < b) (hba : b ≤ a) (h : a * b < 2 ^ c) : ∃ d, c = d + 1 := by
  cases c with
  | zero =>
    have : 1 * 1 ≤ a * b := Nat.mul_le_mul (by omega) h0
    omega
  | succ d => exact ⟨d, rfl⟩
theorem zm_gcd6 : ∀ (c a b n : Nat), b ≤ a → a < 2 ^ 62 → a * b < 2 ^ c → c + 1 ≤ n → zf_X6_gcd_6 n (lN a) (lN b) = some (lN (Nat.gcd a b), lN 0) := by
  intro c
  induction c with
  | zero =>
    intro a b n hba ha h hn
    obtain ⟨m, rfl⟩ : ∃ z, n = z + 1 := ⟨n - 1, by omega⟩
    have hb : b = 0 := by
      by_cases q : b = 0
      · exact q
      · obtain ⟨d, hd⟩ := z_ab (show 0 < b by omega) hba h
        omega
    subst hb
    rw [zf_X6_gcd_6.eq_2, if_pos ((z_c0 0 (by decide)).mpr rfl), Nat.gcd_zero_right]
  | succ c ih =>
    intro a b n hba ha h hn
    obtain ⟨m, rfl⟩ : ∃ z, n = z + 1 := ⟨n - 1, by omega⟩
    by_cases q : b = 0
    · subst q
      rw [zf_X6_gcd_6.eq_2, if_pos ((z_c0 0 (by decide)).mpr rfl), Nat.gcd_zero_right]
    · have hb : 0 < b := by omega
      have hlt := Nat.mod_lt a hb
      have c1 : ¬ lg_cmp (lN b) 0 = 0 := fun z => q ((z_c0 b (by omega)).mp z)
      rw [zf_X6_gcd_6.eq_2]
      simp only [c1, if_false, z_gnz hb (by omega), z_gd, cond_true, z_nm, pk_lRem (show a < 2 ^ 63 by omega) hb (by omega)]
      rw [ih b (a % b) m (by omega) (by omega) (z_pr hb hba h) (by omega)]
      rw [Nat.gcd_comm a b, Nat.gcd_rec b a, Nat.gcd_comm]
theorem zx_gcd9 : ∀ (c a b n s : Nat), b ≤ a → a < 2 ^ 62 → a * b < 2 ^ c → c + 1 ≤ n → s + c + 1 ≤ 100 → ∃ t, zf_X0_commonDivisor_9 n (lN a) (lN b) (nI s) = some (lN (Nat.gcd a b), lN 0, t) := by
  intro c
  induction c with
  | zero =>
    intro a b n s hba ha h hn hs
    obtain ⟨m, rfl⟩ : ∃ z, n = z + 1 := ⟨n - 1, by omega⟩
    have hb : b = 0 := by
      by_cases q : b = 0
      · exact q
      · obtain ⟨d, hd⟩ := z_ab (show 0 < b by omega) hba h
        omega
    subst hb
    have cs : ¬ (100 : Int32) ≤ nI s := by rw [z_lit]; exact nI_ge (show s < 100 by omega) (by decide)
    exact ⟨nI s, by rw [zf_X0_commonDivisor_9.eq_2, if_neg cs, if_pos ((z_c0 0 (by decide)).mpr rfl), Nat.gcd_zero_right]⟩
  | succ c ih =>
    intro a b n s hba ha h hn hs
    obtain ⟨m, rfl⟩ : ∃ z, n = z + 1 := ⟨n - 1, by omega⟩
    have cs : ¬ (100 : Int32) ≤ nI s := by rw [z_lit]; exact nI_ge (show s < 100 by omega) (by decide)
    by_cases q : b = 0
    · subst q
      exact ⟨nI s, by rw [zf_X0_commonDivisor_9.eq_2, if_neg cs, if_pos ((z_c0 0 (by decide)).mpr rfl), Nat.gcd_zero_right]⟩
    · have hb : 0 < b := by omega
      have hlt := Nat.mod_lt a hb
      have c1 : ¬ lg_cmp (lN b) 0 = 0 := fun z => q ((z_c0 b (by omega)).mp z)
      obtain ⟨t, ht⟩ := ih b (a % b) m (s + 1) (by omega) (by omega) (z_pr hb hba h) (by omega) (by omega)
      refine ⟨t, ?_⟩
      rw [zf_X0_commonDivisor_9.eq_2]
      simp only [cs, c1, if_false, z_gnz hb (by omega), z_gd, cond_true, z_nm, pk_lRem (show a < 2 ^ 63 by omega) hb (by omega), z_n1]
      rw [ht, Nat.gcd_comm a b, Nat.gcd_rec b a, Nat.gcd_comm]
theorem z_p80 {a b : Nat} (ha : a ≤ 1099511627776) (hb : b ≤ 1099511627776) : a * b < 2 ^ 81 := Nat.lt_of_le_of_lt (Nat.mul_le_mul ha hb) (by decide)
theorem z_gcd {a b : Nat} (ha : a ≤ 1099511627776) (hb : b ≤ 1099511627776) (h0 : 0 < b) : zf_X0_commonDivisor (lN a) (lN b) = some (lN (Nat.gcd a b)) ∧ zf_X6_gcd (lN a) (lN b) = some (lN (Nat.gcd a b)) := by
  have hlt := Nat.mod_lt a h0
  have hle := Nat.mod_le a b
  have c1 : ¬ lg_cmp (lN b) 0 = 0 := fun z => absurd ((z_c0 b (by omega)).mp z) (by omega)
  have cs : ¬ (100 : Int32) ≤ 0 := by decide
  have hp : b * (a % b) < 2 ^ 81 := z_p80 hb (by omega)
  obtain ⟨t, ht⟩ := zx_gcd9 81 b (a % b) 4999 1 (by omega) (by omega) hp (by omega) (by omega)
  have ht2 := zm_gcd6 81 b (a % b) 4999 (by omega) (by omega) hp (by omega)
  have eg : Nat.gcd b (a % b) = Nat.gcd a b := by rw [Nat.gcd_comm a b, Nat.gcd_rec b a, Nat.gcd_comm]
  rw [eg] at ht ht2
  constructor
  · unfold zf_X0_commonDivisor
    have e : zf_X0_commonDivisor_9 (4999 + 1) (lN a) (lN b) 0 = some (lN (Nat.gcd a b), lN 0, t) := by
      rw [zf_X0_commonDivisor_9.eq_2]
      simp only [cs, c1, if_false, z_gnz h0 (by omega), z_gd, cond_true, z_nm, pk_lRem (show a < 2 ^ 63 by omega) h0 (by omega)]
      exact ht
    exact z_bd3_e e
  · unfold zf_X6_gcd
    have e : zf_X6_gcd_6 (4999 + 1) (lN a) (lN b) = some (lN (Nat.gcd a b), lN 0) := by
      rw [zf_X6_gcd_6.eq_2]
      simp only [c1, if_false, z_gnz h0 (by omega), z_gd, cond_true, z_nm, pk_lRem (show a < 2 ^ 63 by omega) h0 (by omega)]
      exact ht2
    exact z_bd2_e e
/-! THE CHANCE -/
theorem zN_f {um : z_St} {a b L : Nat} (hL : L ≤ 40) : zN um a b 0 L ≤ 40 ∧ zN um a b 1 L ≤ zN um a b 0 L ∧ zN um a b 2 L ≤ zN um a b 0 L ∧ zN um a b 3 L ≤ zN um a b 1 L ∧ zN um a b 3 L ≤ zN um a b 2 L := by
  have h1 : ∀ w, (w = 1 ∨ w = 2 ∨ w = 3) → ∀ i, zP um a b w i = true → zP um a b 0 i = true := by
    intro w _ i h
    unfold zP at *
    simp only [Bool.and_eq_true, Bool.or_eq_true, decide_eq_true_eq] at *
    exact ⟨h.1, Or.inl trivial, Or.inl trivial⟩
  have h2 : ∀ i, zP um a b 3 i = true → zP um a b 1 i = true := by
    intro i h
    unfold zP at *
    simp only [Bool.and_eq_true, Bool.or_eq_true, decide_eq_true_eq] at *
    exact ⟨h.1, Or.inr (h.2.1.resolve_left (by decide)), Or.inl trivial⟩
  have h3 : ∀ i, zP um a b 3 i = true → zP um a b 2 i = true := by
    intro i h
    unfold zP at *
    simp only [Bool.and_eq_true, Bool.or_eq_true, decide_eq_true_eq] at *
    exact ⟨h.1, Or.inl trivial, Or.inr (h.2.2.resolve_left (by decide))⟩
  exact ⟨Nat.le_trans (zct_le _ L) hL, zct_mono (h1 1 (by decide)) L, zct_mono (h1 2 (by decide)) L, zct_mono h2 L, zct_mono h3 L⟩
def zUp (um : z_St) (a b L : Nat) : Nat := zS (zF (zN um a b 0 L) (zN um a b 1 L) (zN um a b 2 L)) (zN um a b 3 L + 1)
def zLo (um : z_St) (a b L : Nat) : Nat := zC (zN um a b 0 L) (zN um a b 2 L)
theorem z_ul {um : z_St} {a b L : Nat} (hL : L ≤ 40) : zUp um a b L ≤ 1099511627776 ∧ zLo um a b L ≤ 1099511627776 ∧ 0 < zLo um a b L := by
  obtain ⟨h1, h2, h3, h4, h5⟩ := zN_f (um := um) (a := a) (b := b) hL
  have hp := z_p40 h1
  exact ⟨Nat.le_trans (zS_b _ _ h2) hp, Nat.le_trans (zC_le _ _) hp, zC_pos _ _ h3⟩
theorem zx_all {L : Nat} {ux um : z_St} (hA : zR_A L ux um) {a b : Nat} (ha : a < 8) (hb : b < 8) : zf_X0_allWays ux (nI a) (nI b) = some (lN (zLo um a b L)) := by
  obtain ⟨h1, h2, h3, h4, h5⟩ := zN_f (um := um) (a := a) (b := b) hA.2.2.1
  have t0 : zf_X0_tally ux (nI a) (nI b) 0 = some (nI (zN um a b 0 L)) := zx_tally hA ha hb (w := 0) (by decide)
  have t2 : zf_X0_tally ux (nI a) (nI b) 2 = some (nI (zN um a b 2 L)) := zx_tally hA ha hb (w := 2) (by decide)
  simp only [zf_X0_allWays, t0, t2, z_bd, zx_choose h1 (show zN um a b 2 L ≤ 40 by omega)]
  rfl
theorem zx_shy {L : Nat} {ux um : z_St} (hA : zR_A L ux um) {a b : Nat} (ha : a < 8) (hb : b < 8) : zf_X0_waysAsShy ux (nI a) (nI b) = some (lN (zUp um a b L)) := by
  obtain ⟨h1, h2, h3, h4, h5⟩ := zN_f (um := um) (a := a) (b := b) hA.2.2.1
  have t0 : zf_X0_tally ux (nI a) (nI b) 0 = some (nI (zN um a b 0 L)) := zx_tally hA ha hb (w := 0) (by decide)
  have t1 : zf_X0_tally ux (nI a) (nI b) 1 = some (nI (zN um a b 1 L)) := zx_tally hA ha hb (w := 1) (by decide)
  have t2 : zf_X0_tally ux (nI a) (nI b) 2 = some (nI (zN um a b 2 L)) := zx_tally hA ha hb (w := 2) (by decide)
  have t3 : zf_X0_tally ux (nI a) (nI b) 3 = some (nI (zN um a b 3 L)) := zx_tally hA ha hb (w := 3) (by decide)
  unfold zf_X0_waysAsShy
  rw [z_bd_e t0, z_bd_e t1, z_bd_e t2, z_bd_e t3]
  unfold zUp
  generalize zN um a b 0 L = n at *
  generalize zN um a b 1 L = A at *
  generalize zN um a b 2 L = B at *
  generalize zN um a b 3 L = C at *
  have st : ∀ (r k m : Nat), k + r = C + 1 → r < m → zf_X0_waysAsShy_41 (nI n) (nI A) (nI B) (nI C) m (lN (zS (zF n A B) k)) (nI k) = some (lN (zS (zF n A B) (C + 1)), nI (C + 1)) := by
    intro r
    induction r with
    | zero =>
      intro k m hk hm
      obtain ⟨m', rfl⟩ : ∃ z, m = z + 1 := ⟨m - 1, by omega⟩
      have hk : k = C + 1 := by omega
      subst hk
      rw [zf_X0_waysAsShy_41.eq_2, if_pos (nI_lt (show C < C + 1 by omega) (by omega))]
    | succ r ih =>
      intro k m hk hm
      obtain ⟨m', rfl⟩ : ∃ z, m = z + 1 := ⟨m - 1, by omega⟩
      have c1 : ¬ nI C < nI k := nI_nlt (show k ≤ C by omega) (by omega)
      rw [zf_X0_waysAsShy_41.eq_2]
      simp only [c1, if_false, zx_choose (show A ≤ 40 by omega) (show k ≤ 40 by omega), pk_sub h2, pk_sub (show k ≤ B by omega), zx_choose (show n - A ≤ 40 by omega) (show B - k ≤ 40 by omega), z_bd, z_nm, z_n1, lN_mul, lN_add]
      exact ih (k + 1) m' (by omega) (by omega)
  exact z_bd2_e (st (C + 1) 0 5000 (by omega) (by omega))
