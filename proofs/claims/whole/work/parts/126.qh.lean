/-! no chance is above 1: a row of choosing, cut off, is at most the whole -/
theorem zS_Vr (A N B : Nat) : ∀ m, zS (fun k => zC (A + 1) k * zC N (B + 1 - k)) (m + 1) = zS (fun k => zC A k * zC N (B + 1 - k)) (m + 1) + zS (fun k => zC A k * zC N (B - k)) m
  | 0 => by
    show 0 + zC (A + 1) 0 * zC N (B + 1 - 0) = 0 + zC A 0 * zC N (B + 1 - 0) + 0
    rw [zC_0, zC_0]
    omega
  | m + 1 => by
    have h := zS_Vr A N B m
    show zS (fun k => zC (A + 1) k * zC N (B + 1 - k)) (m + 1) + zC (A + 1) (m + 1) * zC N (B + 1 - (m + 1)) = zS (fun k => zC A k * zC N (B + 1 - k)) (m + 1) + zC A (m + 1) * zC N (B + 1 - (m + 1)) + (zS (fun k => zC A k * zC N (B - k)) m + zC A m * zC N (B - m))
    rw [h, zC_s, Nat.add_mul, Nat.add_sub_add_right]
    omega
theorem zS_V0 (N B : Nat) : ∀ m, zS (fun k => zC 0 k * zC N (B - k)) m ≤ zC N B
  | 0 => Nat.zero_le _
  | 1 => by
    show 0 + zC 0 0 * zC N (B - 0) ≤ zC N B
    rw [zC_0, Nat.sub_zero]
    omega
  | m + 2 => by
    have h := zS_V0 N B (m + 1)
    show zS (fun k => zC 0 k * zC N (B - k)) (m + 1) + zC 0 (m + 1) * zC N (B - (m + 1)) ≤ zC N B
    rw [zC_gt 0 (m + 1) (by omega), Nat.zero_mul]
    exact h
theorem zS_V : ∀ (A N B m : Nat), m ≤ B + 1 → zS (fun k => zC A k * zC N (B - k)) m ≤ zC (A + N) B
  | 0, N, B, m, _ => by
    rw [Nat.zero_add]
    exact zS_V0 N B m
  | _ + 1, _, _, 0, _ => Nat.zero_le _
  | A + 1, N, 0, m + 1, h => by
    have hm : m = 0 := by omega
    subst hm
    show 0 + zC (A + 1) 0 * zC N (0 - 0) ≤ zC (A + 1 + N) 0
    rw [zC_0, Nat.sub_zero, zC_0, zC_0]
    omega
  | A + 1, N, B + 1, m + 1, h => by
    have h1 := zS_V A N (B + 1) (m + 1) h
    have h2 := zS_V A N B m (by omega)
    rw [zS_Vr, show A + 1 + N = A + N + 1 by omega, zC_s]
    omega
theorem z_upLo {um : z_St} {a b L : Nat} (hL : L ≤ 40) : zUp um a b L ≤ zLo um a b L := by
  obtain ⟨h1, h2, h3, h4, h5⟩ := zN_f (um := um) (a := a) (b := b) hL
  have h := zS_V (zN um a b 1 L) (zN um a b 0 L - zN um a b 1 L) (zN um a b 2 L) (zN um a b 3 L + 1) (by omega)
  rw [Nat.add_sub_cancel' h2] at h
  exact h
/-- a fraction stands for another: they compare alike -/
theorem z_eqF {U M x y u l : Nat} (hy : 0 < y) (hl : 0 < l) (h : x * l = u * y) : U * y < x * M ↔ U * l < u * M := by
  have e1 : U * y * l = U * l * y := by ac_rfl
  have e2 : x * M * l = u * M * y := by
    have : x * M * l = x * l * M := by ac_rfl
    rw [this, h]
    ac_rfl
  rw [← Nat.mul_lt_mul_right hl, e1, e2, Nat.mul_lt_mul_right hy]
def zuR (um : z_St) (a b L : Nat) : Nat := zUp um a b L / Nat.gcd (zUp um a b L) (zLo um a b L)
def zlR (um : z_St) (a b L : Nat) : Nat := zLo um a b L / Nat.gcd (zUp um a b L) (zLo um a b L)
theorem z_ulR {um : z_St} {a b L : Nat} (hL : L ≤ 40) : zuR um a b L ≤ 1099511627776 ∧ zlR um a b L ≤ 1099511627776 ∧ 0 < zlR um a b L := by
  obtain ⟨g1, g2, g3⟩ := z_ul (um := um) (a := a) (b := b) hL
  have q1 : zuR um a b L ≤ zUp um a b L := Nat.div_le_self _ _
  have q2 : zlR um a b L ≤ zLo um a b L := Nat.div_le_self _ _
  refine ⟨by omega, by omega, ?_⟩
  exact Nat.div_pos (Nat.gcd_le_right _ g3) (Nat.gcd_pos_of_pos_right _ g3)
theorem z_shyI {L : Nat} {ux um : z_St} (hA : zR_A L ux um) : ∀ (r a b m m' p q x y : Nat) (y1 : Int32) (y2 y4 : Int64) (u : z_St), b + r = 8 → a < 8 → r < m → r < m' → p < 8 → q < 8 → zSM um u → x ≤ 1099511627776 → y ≤ 1099511627776 → 0 < y →
    ((y1 = nI (8 * p + q) ∧ y2 = lN (zuR um p q L) ∧ y4 = lN (zlR um p q L) ∧ x * zLo um p q L = zUp um p q L * y) ∨ (y1 = -1 ∧ a = 0 ∧ b = 1 ∧ p = 0 ∧ q = 1 ∧ x = 1 ∧ y = 1)) →
    ∃ (p' q' x' y' : Nat) (t t' : Int32) (v : z_St), p' < 8 ∧ q' < 8 ∧ zf_X0_shyestTwo_25 (nI a) ux m (nI p) (nI q) (lN x) (lN y) (nI b) = some (nI p', nI q', lN x', lN y', t) ∧
      zf_X6_shyest_23 (nI a) m' y1 y2 y4 (nI b) u = some (nI (8 * p' + q'), lN (zuR um p' q' L), lN (zlR um p' q' L), t', v) ∧ zSM um v ∧ x' ≤ 1099511627776 ∧ y' ≤ 1099511627776 ∧ 0 < y' ∧ x' * zLo um p' q' L = zUp um p' q' L * y' := by
  intro r
  induction r with
  | zero =>
    intro a b m m' p q x y y1 y2 y4 u hb ha hm hm' hp hq hu hx1 hy1 hy0 hy
    obtain ⟨n, rfl⟩ : ∃ z, m = z + 1 := ⟨m - 1, by omega⟩
    obtain ⟨n', rfl⟩ : ∃ z, m' = z + 1 := ⟨m' - 1, by omega⟩
    have hb : b = 8 := by omega
    subst hb
    rcases hy with ⟨rfl, rfl, rfl, he⟩ | hy
    · refine ⟨p, q, x, y, nI 8, nI 8, u, hp, hq, ?_, ?_, hu, hx1, hy1, hy0, he⟩
      · rw [zf_X0_shyestTwo_25.eq_2, if_pos z_8hi]
      · rw [zf_X6_shyest_23.eq_2, if_pos z_8hi]
    · omega
  | succ r ih =>
    intro a b m m' p q x y y1 y2 y4 u hb ha hm hm' hp hq hu hx1 hy1 hy0 hy
    obtain ⟨n, rfl⟩ : ∃ z, m = z + 1 := ⟨m - 1, by omega⟩
    obtain ⟨n', rfl⟩ : ∃ z, m' = z + 1 := ⟨m' - 1, by omega⟩
    have hb8 : b < 8 := by omega
    have c8 := z_8lo hb8
    obtain ⟨vm, v1, v2, v3, v4⟩ := zm_chance hA hu ha hb8
    have v3 : z_rL vm 30 0 = lN (zuR um a b L) := v3
    have v4 : z_rL vm 31 0 = lN (zlR um a b L) := v4
    obtain ⟨g1, g2, g3⟩ := z_ul (um := um) (a := a) (b := b) hA.2.2.1
    obtain ⟨k1, k2, k3⟩ := z_ul (um := um) (a := p) (b := q) hA.2.2.1
    obtain ⟨f1, f2, f3⟩ := z_ulR (um := um) (a := a) (b := b) hA.2.2.1
    obtain ⟨j1, j2, j3⟩ := z_ulR (um := um) (a := p) (b := q) hA.2.2.1
    have e8 : (8 : Int32) * nI a + nI b = nI (8 * a + b) := by
      exact z_8 a b
    rw [zf_X0_shyestTwo_25.eq_2, zf_X6_shyest_23.eq_2, if_neg c8, if_neg c8, z_bd_e (zx_shy hA ha hb8), z_bd_e (zx_all hA ha hb8), z_bd_e v1, z_pb g1 hy1 hx1 g2]
    rcases hy with ⟨rfl, rfl, rfl, he⟩ | ⟨rfl, rfl, rfl, rfl, rfl, rfl, rfl⟩
    · have n1 : ¬ nI (8 * p + q) < (0 : Int32) := by rw [z_lit]; exact nI_nlt (show 0 ≤ 8 * p + q by omega) (by omega)
      have hl := z_less f3 j3 f1 f2 j1 j2
      rw [if_neg n1, v3, v4, z_bd_e hl]
      have hr : zuR um a b L * zlR um p q L < zuR um p q L * zlR um a b L ↔ zUp um a b L * y < x * zLo um a b L := Iff.trans (z_redL g3 k3) (z_eqF hy0 k3 he).symm
      by_cases cc : zUp um a b L * y < x * zLo um a b L
      · rw [if_pos cc, if_neg (by decide), if_pos (hr.mpr cc), if_neg (by decide)]
        simp only [z_nm, z_n1, e8]
        exact ih a (b + 1) n n' a b _ _ _ _ _ vm (by omega) ha (by omega) (by omega) ha hb8 v2 g1 g2 g3 (Or.inl ⟨rfl, rfl, rfl, rfl⟩)
      · rw [if_neg cc, if_pos rfl, if_neg (fun z => cc (hr.mp z)), if_pos rfl]
        simp only [z_nm, z_n1]
        exact ih a (b + 1) n n' p q x y _ _ _ vm (by omega) ha (by omega) (by omega) hp hq v2 hx1 hy1 hy0 (Or.inl ⟨rfl, rfl, rfl, he⟩)
    · have ul := z_upLo (um := um) (a := 0) (b := 1) hA.2.2.1
      by_cases cc : zUp um 0 1 L * 1 < 1 * zLo um 0 1 L
      · rw [if_pos cc, if_neg (by decide), if_pos (by decide), v3, v4, e8]
        simp only [z_nm, z_n1]
        exact ih 0 2 n n' 0 1 _ _ _ _ _ vm (by omega) ha (by omega) (by omega) hp hq v2 g1 g2 g3 (Or.inl ⟨rfl, rfl, rfl, rfl⟩)
      · rw [if_neg cc, if_pos rfl, if_pos (by decide), v3, v4, e8]
        simp only [z_nm, z_n1]
        exact ih 0 2 n n' 0 1 1 1 _ _ _ vm (by omega) ha (by omega) (by omega) hp hq v2 hx1 hy1 hy0 (Or.inl ⟨rfl, rfl, rfl, by omega⟩)
theorem z_shyO {L : Nat} {ux um : z_St} (hA : zR_A L ux um) : ∀ (r a m m' p q x y : Nat) (y1 : Int32) (y2 y4 : Int64) (u : z_St), a + r = 8 → r < m → r < m' → p < 8 → q < 8 → zSM um u → x ≤ 1099511627776 → y ≤ 1099511627776 → 0 < y →
    ((y1 = nI (8 * p + q) ∧ y2 = lN (zuR um p q L) ∧ y4 = lN (zlR um p q L) ∧ x * zLo um p q L = zUp um p q L * y) ∨ (y1 = -1 ∧ a = 0 ∧ p = 0 ∧ q = 1 ∧ x = 1 ∧ y = 1)) →
    ∃ (p' q' x' y' : Nat) (t t' : Int32) (v : z_St), p' < 8 ∧ q' < 8 ∧ zf_X0_shyestTwo_12 ux m (nI p) (nI q) (lN x) (lN y) (nI a) = some (nI p', nI q', lN x', lN y', t) ∧
      zf_X6_shyest_10 m' y1 y2 y4 (nI a) u = some (nI (8 * p' + q'), lN (zuR um p' q' L), lN (zlR um p' q' L), t', v) ∧ zSM um v ∧ x' ≤ 1099511627776 ∧ y' ≤ 1099511627776 ∧ 0 < y' ∧ x' * zLo um p' q' L = zUp um p' q' L * y' := by
  intro r
  induction r with
  | zero =>
    intro a m m' p q x y y1 y2 y4 u hb hm hm' hp hq hu hx1 hy1 hy0 hy
    obtain ⟨n, rfl⟩ : ∃ z, m = z + 1 := ⟨m - 1, by omega⟩
    obtain ⟨n', rfl⟩ : ∃ z, m' = z + 1 := ⟨m' - 1, by omega⟩
    have hb : a = 8 := by omega
    subst hb
    rcases hy with ⟨rfl, rfl, rfl, he⟩ | hy
    · refine ⟨p, q, x, y, nI 8, nI 8, u, hp, hq, ?_, ?_, hu, hx1, hy1, hy0, he⟩
      · rw [zf_X0_shyestTwo_12.eq_2, if_pos z_8hi]
      · rw [zf_X6_shyest_10.eq_2, if_pos z_8hi]
    · omega
  | succ r ih =>
    intro a m m' p q x y y1 y2 y4 u hb hm hm' hp hq hu hx1 hy1 hy0 hy
    obtain ⟨n, rfl⟩ : ∃ z, m = z + 1 := ⟨m - 1, by omega⟩
    obtain ⟨n', rfl⟩ : ∃ z, m' = z + 1 := ⟨m' - 1, by omega⟩
    have ha : a < 8 := by omega
    obtain ⟨p', q', x', y', t, t', v, s1, s2, s3, s4, s5, s6, s7, s8, s9⟩ := z_shyI hA (7 - a) a (a + 1) 5000 5000 p q x y y1 y2 y4 u (by omega) ha (by omega) (by omega) hp hq hu hx1 hy1 hy0 (by
      rcases hy with h | ⟨h1, h2, h3, h4, h5, h6⟩
      · exact Or.inl h
      · exact Or.inr ⟨h1, h2, by omega, h3, h4, h5, h6⟩)
    rw [zf_X0_shyestTwo_12.eq_2, zf_X6_shyest_10.eq_2, if_neg (z_8lo ha), if_neg (z_8lo ha)]
    simp only [z_nm, z_n1]
    rw [s3, s4]
    exact ih (a + 1) n n' p' q' x' y' _ _ _ v (by omega) (by omega) (by omega) s1 s2 s5 s6 s7 s8 (Or.inl ⟨rfl, rfl, rfl, s9⟩)
theorem zq_shyest {k : Nat} {ux um : z_St} (hk : k < 512) (hR : zR k ux um) : ∃ (r : Int32) (vm : z_St), zf_X5_shyest ux = some r ∧ zf_X6_shyest um = some (r, vm) ∧ zR (k + 1) ux vm := by
  obtain ⟨T, S, L, E, h, hP, hT, hA, hS, hD, hh⟩ := id hR
  obtain ⟨p, q, x, y, t, t', v, s1, s2, s3, s4, s5, s6, s7, s8, s9⟩ := z_shyO hA 8 0 5000 5000 0 1 1 1 (-1) 0 1 um (by omega) (by omega) (by omega) (by omega) (by omega) (zSM_r um) (by omega) (by omega) (by omega) (Or.inr ⟨rfl, rfl, rfl, rfl, rfl, rfl⟩)
  have x1 : zf_X0_shyestTwo ux = some ((8 : Int32) * nI p + nI q) := by
    unfold zf_X0_shyestTwo
    show z_bd5 (zf_X0_shyestTwo_12 ux 5000 (nI 0) (nI 1) (lN 1) (lN 1) (nI 0)) _ = _
    rw [s3]
    rfl
  refine ⟨nI (8 * p + q), v, ?_, ?_, zR_k (zR_sm hR s5) (Nat.le_succ k)⟩
  · unfold zf_X5_shyest
    rw [z_bd_e x1, z_8 p q]
  · have s4 : zf_X6_shyest_10 5000 (-1) 0 1 0 um = _ := s4
    unfold zf_X6_shyest
    rw [s4]
    rfl
