/-! the start: both constructors leave alike states -/
theorem zi_213 : ∀ (k i n : Nat) (u : z_St), i + k = 10 → k < n → (∀ j, j < i → z_rI u 0 j = 1600 ∧ z_rI u 1 j = 1950) →
    ∃ v, zf_X6_init_213 n (nI i) u = some (nI 10, v) ∧ (∀ j, j < 10 → z_rI v 0 j = 1600 ∧ z_rI v 1 j = 1950) ∧ (∀ a, a ≠ 0 → a ≠ 1 → z_rI v a = z_rI u a) := by
  intro k
  induction k with
  | zero =>
    intro i n u hi hn h
    obtain ⟨m, rfl⟩ : ∃ m, n = m + 1 := ⟨n - 1, by omega⟩
    have hi : i = 10 := by omega
    subst hi
    exact ⟨u, by rw [zf_X6_init_213.eq_2, if_pos (by decide)], h, fun _ _ _ => rfl⟩
  | succ k ih =>
    intro i n u hi hn h
    obtain ⟨m, rfl⟩ : ∃ m, n = m + 1 := ⟨n - 1, by omega⟩
    have c : ¬ (10 : Int32) ≤ nI i := by rw [z_lit]; exact nI_ge (show i < 10 by omega) (by decide)
    have i1 : z_inb (nI i) 10 = true := z_inb_t (by omega) (by decide)
    have i2 : (nI i).toNatClampNeg = i := z_cl (by omega)
    rw [zf_X6_init_213.eq_2, if_neg c]
    simp only [z_nm, z_n1, i1, i2, z_gd, cond_true]
    obtain ⟨v, v1, v2, v3⟩ := ih (i + 1) m (z_wI (z_wI u 0 i 1600) 1 i 1950) (by omega) (by omega) (by
      intro j hj
      rw [z_rw_n _ _ _ (show (0 : Nat) ≠ 1 by decide), z_rw_s, z_rw_s, z_rw_n _ _ _ (show (1 : Nat) ≠ 0 by decide)]
      unfold upd
      by_cases q : j = i
      · rw [if_pos q, if_pos q]
        exact ⟨rfl, rfl⟩
      · rw [if_neg q, if_neg q]
        exact h j (by omega))
    refine ⟨v, v1, v2, fun a h0 h1 => ?_⟩
    rw [v3 a h0 h1, z_rw_n _ _ _ h1, z_rw_n _ _ _ h0]
theorem zC_n : ∀ n, zC n n = 1
  | 0 => rfl
  | n + 1 => by
    rw [zC_s, zC_n n, zC_gt n (n + 1) (by omega)]
theorem z_41 (e t : Nat) : (41 : Int32) * nI e + nI t = nI (41 * e + t) := by rw [z_lit, z_mul, nI_add]
theorem zi_253 {a : Nat} (ha : a ≤ 40) : ∀ (r k n : Nat) (u : z_St), k + r = a + 1 → r < n → (∀ b j, b < a → j ≤ b → z_rL u 25 (41 * b + j) = lN (zC b j)) → (∀ j, j < k → z_rL u 25 (41 * a + j) = lN (zC a j)) →
    ∃ v, zf_X6_init_253 (nI a) n (nI k) u = some (nI (a + 1), v) ∧ (∀ b j, b ≤ a → j ≤ b → z_rL v 25 (41 * b + j) = lN (zC b j)) ∧ (∀ b, z_rI v b = z_rI u b) := by
  intro r
  induction r with
  | zero =>
    intro k n u hk hn h1 h2
    obtain ⟨m, rfl⟩ : ∃ m, n = m + 1 := ⟨n - 1, by omega⟩
    have hk : k = a + 1 := by omega
    subst hk
    refine ⟨u, by rw [zf_X6_init_253.eq_2, if_pos (nI_lt (Nat.lt_succ_self a) (by omega))], ?_, fun _ => rfl⟩
    intro b j hb hj
    by_cases q : b = a
    · subst q
      exact h2 j (by omega)
    · exact h1 b j (by omega) hj
  | succ r ih =>
    intro k n u hk hn h1 h2
    obtain ⟨m, rfl⟩ : ∃ m, n = m + 1 := ⟨n - 1, by omega⟩
    have c : ¬ nI a < nI k := nI_nlt (show k ≤ a by omega) (by omega)
    have i1 : z_inb (nI (41 * a + k)) 1681 = true := z_inb_t (by omega) (by decide)
    have i2 : (nI (41 * a + k)).toNatClampNeg = 41 * a + k := z_cl (by omega)
    have go : ∀ x : Int64, x = lN (zC a k) → ∃ v, zf_X6_init_253 (nI a) m (nI (k + 1)) (z_wL u 25 (41 * a + k) x) = some (nI (a + 1), v) ∧ (∀ b j, b ≤ a → j ≤ b → z_rL v 25 (41 * b + j) = lN (zC b j)) ∧ (∀ b, z_rI v b = z_rI u b) := by
      intro x hx
      obtain ⟨v, v1, v2, v3⟩ := ih (k + 1) m (z_wL u 25 (41 * a + k) x) (by omega) (by omega) (by
        intro b j hb hj
        rw [z_rLw_s]
        unfold vp_updL
        rw [if_neg (by omega)]
        exact h1 b j hb hj) (by
        intro j hj
        rw [z_rLw_s]
        unfold vp_updL
        by_cases q : j = k
        · rw [if_pos (by omega), hx, q]
        · rw [if_neg (by omega)]
          exact h2 j (by omega))
      exact ⟨v, v1, v2, v3⟩
    rw [zf_X6_init_253.eq_2, if_neg c, z_41, i2]
    by_cases q0 : k = 0
    · subst q0
      rw [if_pos (show nI 0 = (0 : Int32) from rfl), z_gd_t _ i1]
      simp only [z_nm, z_n1]
      exact go 1 (by rw [zC_0]; rfl)
    · rw [if_neg (nI_ne0 (by omega) (by omega))]
      by_cases q1 : k = a
      · subst q1
        rw [if_pos rfl, z_gd_t _ i1]
        simp only [z_nm, z_n1]
        exact go 1 (by rw [zC_n]; rfl)
      · have ne : ¬ nI k = nI a := fun z => q1 ((nI_eq (by omega) (by omega)).mp z)
        obtain ⟨b, rfl⟩ : ∃ b, a = b + 1 := ⟨a - 1, by omega⟩
        obtain ⟨j, rfl⟩ : ∃ j, k = j + 1 := ⟨k - 1, by omega⟩
        have e1 : nI (41 * b + (j + 1)) - 1 = nI (41 * b + j) := z_sub1 (41 * b + j)
        have j1 : z_inb (nI (41 * b + j)) 1681 = true := z_inb_t (by omega) (by decide)
        have j2 : (nI (41 * b + j)).toNatClampNeg = 41 * b + j := z_cl (by omega)
        have g1 : z_inb (nI (41 * b + (j + 1))) 1681 = true := z_inb_t (by omega) (by decide)
        have g2 : (nI (41 * b + (j + 1))).toNatClampNeg = 41 * b + (j + 1) := z_cl (by omega)
        rw [if_neg ne, z_sub1, z_41, e1, z_gd_t _ j1, z_gd_t _ g1, z_gd_t _ i1, j2, g2]
        simp only [z_nm, z_n1]
        refine go _ ?_
        rw [h1 b j (by omega) (by omega), h1 b (j + 1) (by omega) (by omega), lN_add, zC_s]
theorem zi_245 : ∀ (r a n : Nat) (u : z_St), a + r = 41 → r < n → (∀ b j, b < a → j ≤ b → z_rL u 25 (41 * b + j) = lN (zC b j)) →
    ∃ v, zf_X6_init_245 n (nI a) u = some (nI 41, v) ∧ (∀ b j, b < 41 → j ≤ b → z_rL v 25 (41 * b + j) = lN (zC b j)) ∧ (∀ b, z_rI v b = z_rI u b) := by
  intro r
  induction r with
  | zero =>
    intro a n u hk hn h1
    obtain ⟨m, rfl⟩ : ∃ m, n = m + 1 := ⟨n - 1, by omega⟩
    have hk : a = 41 := by omega
    subst hk
    exact ⟨u, by rw [zf_X6_init_245.eq_2, if_pos (by decide)], h1, fun _ => rfl⟩
  | succ r ih =>
    intro a n u hk hn h1
    obtain ⟨m, rfl⟩ : ∃ m, n = m + 1 := ⟨n - 1, by omega⟩
    have c : ¬ (41 : Int32) ≤ nI a := by rw [z_lit]; exact nI_ge (show a < 41 by omega) (by decide)
    obtain ⟨v, v1, v2, v3⟩ := zi_253 (show a ≤ 40 by omega) (a + 1) 0 5000 u (by omega) (by omega) h1 (fun j hj => by omega)
    have v1 : zf_X6_init_253 (nI a) 5000 0 u = _ := v1
    rw [zf_X6_init_245.eq_2, if_neg c, z_bd2_e v1]
    simp only [z_nm, z_n1]
    obtain ⟨w, w1, w2, w3⟩ := ih (a + 1) m v (by omega) (by omega) (fun b j hb hj => v2 b j (by omega) hj)
    exact ⟨w, w1, w2, fun b => (w3 b).trans (v3 b)⟩
theorem z_start0 : ∃ u2, zf_X6_init zm_u0 = some u2 ∧ zR 0 zx_u0 u2 := by
  obtain ⟨u1, a1, a2, a3⟩ := zi_213 10 0 5000 zm_u0 (by omega) (by omega) (fun j hj => by omega)
  obtain ⟨u2, b1, b2, b3⟩ := zi_245 41 0 5000 u1 (by omega) (by omega) (fun b j hb hj => by omega)
  have a1 : zf_X6_init_213 5000 0 zm_u0 = _ := a1
  have b1 : zf_X6_init_245 5000 0 u1 = _ := b1
  have g : ∀ a, a ≠ 0 → a ≠ 1 → z_rI u2 a = z_rI zm_u0 a := fun a h0 h1 => (b3 a).trans (a3 a h0 h1)
  refine ⟨u2, ?_, 0, 0, 0, 0, 4, ⟨rfl, ?_, by omega, ?_, fun t ht => by omega, fun t ht => by omega, fun j _ _ => rfl⟩, ⟨rfl, ?_, by omega, rfl, ?_, by omega, fun t ht => by omega, ?_, fun t ht => by omega, fun t ht => by omega, fun t ht => by omega, fun t _ ht => by omega⟩, ⟨rfl, ?_, by omega, fun t ht => by omega, ?_⟩, ⟨rfl, ?_, by omega, fun t ht => by omega, fun t ht => by omega, fun t _ _ => ⟨rfl, rfl⟩⟩, ?_, by omega⟩
  · unfold zf_X6_init
    rw [z_bd2_e a1, z_bd2_e b1]
  · rw [g 2 (by decide) (by decide)]
    rfl
  · intro j hj
    rw [b3 0, b3 1, (a2 j hj).1, (a2 j hj).2]
    refine ⟨?_, ?_⟩
    · show (if j < 10 then (1600 : Int32) else 0) = 1600
      rw [if_pos hj]
    · show (if j < 10 then (1950 : Int32) else 0) = 1950
      rw [if_pos hj]
  · rw [g 12 (by decide) (by decide)]
    rfl
  · rw [g 11 (by decide) (by decide)]
    rfl
  · intro t _ ht
    have e : (if t < 12 then (-1 : Int32) else 0) = -1 := if_pos ht
    exact ⟨e, e, e⟩
  · rw [g 21 (by decide) (by decide)]
    rfl
  · intro n k hn hk
    exact b2 n k (by omega) hk
  · rw [g 32 (by decide) (by decide)]
    rfl
  · intro j hj
    rw [g 37 (by decide) (by decide)]
    rfl
