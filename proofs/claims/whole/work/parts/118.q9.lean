/-! LOTS: how many at which both were, and bid -/
def zct (p : Nat → Bool) : Nat → Nat
  | 0 => 0
  | n + 1 => zct p n + (if p n then 1 else 0)
theorem zct_le (p : Nat → Bool) : ∀ n, zct p n ≤ n
  | 0 => Nat.le_refl 0
  | n + 1 => by
    have := zct_le p n
    show zct p n + (if p n then 1 else 0) ≤ n + 1
    split <;> omega
theorem zct_mono {p q : Nat → Bool} (h : ∀ i, p i = true → q i = true) : ∀ n, zct p n ≤ zct q n
  | 0 => Nat.le_refl 0
  | n + 1 => by
    have := zct_mono h n
    show zct p n + (if p n then 1 else 0) ≤ zct q n + (if q n then 1 else 0)
    by_cases c : p n = true
    · rw [if_pos c, if_pos (h n c)]; omega
    · rw [if_neg c]; omega
def zth (um : z_St) (i : Nat) : Nat := (z_rI um 22 i).toNatClampNeg
def zbd (um : z_St) (i : Nat) : Nat := (z_rI um 23 i).toNatClampNeg
def zP (um : z_St) (a b w i : Nat) : Bool := (decide (zth um i / 2 ^ a % 2 = 1) && decide (zth um i / 2 ^ b % 2 = 1)) && ((decide (w % 2 = 0) || decide (zbd um i / 2 ^ a % 2 = 1)) && (decide (w / 2 % 2 = 0) || decide (zbd um i / 2 ^ b % 2 = 1)))
def zN (um : z_St) (a b w n : Nat) : Nat := zct (zP um a b w) n
def zbw (w a b : Nat) : Nat := w % 2 * 2 ^ a ||| w / 2 % 2 * 2 ^ b
theorem z_msk : ∀ a b : Fin 8, ∀ x : Fin 256, (x.val &&& (2 ^ a.val ||| 2 ^ b.val) = 2 ^ a.val ||| 2 ^ b.val ↔ x.val / 2 ^ a.val % 2 = 1 ∧ x.val / 2 ^ b.val % 2 = 1) := by decide +kernel
theorem z_mskw : ∀ w : Fin 4, ∀ a b : Fin 8, ∀ x : Fin 256, (x.val &&& zbw w.val a.val b.val = zbw w.val a.val b.val ↔ (w.val % 2 = 0 ∨ x.val / 2 ^ a.val % 2 = 1) ∧ (w.val / 2 % 2 = 0 ∨ x.val / 2 ^ b.val % 2 = 1)) := by decide +kernel
theorem z_bw : ∀ w : Fin 4, ∀ a b : Fin 8, ((nI w.val &&& 1) <<< (nI a.val &&& 31)) ||| (((nI w.val >>> ((1 : Int32) &&& 31)) &&& 1) <<< (nI b.val &&& 31)) = nI (zbw w.val a.val b.val) := by decide +kernel
theorem z_bwl : ∀ w : Fin 4, ∀ a b : Fin 8, zbw w.val a.val b.val < 256 := by decide +kernel
theorem z_lots {L : Nat} {ux um : z_St} (hA : zR_A L ux um) {i : Nat} (hi : i < L) : z_rI um 22 i = nI (zth um i) ∧ zth um i < 256 ∧ z_rI um 23 i = nI (zbd um i) ∧ zbd um i < 256 ∧ z_rI ux 0 i = nI (zth um i) ∧ z_rI ux 1 i = nI (zbd um i) := by
  obtain ⟨e1, e2, -, ⟨x, hx, e4⟩, ⟨y, hy, e5⟩⟩ := hA.2.2.2.1 i hi
  have h1 : zth um i = x := by
    unfold zth
    rw [e4]
    exact z_cl (by omega)
  have h2 : zbd um i = y := by
    unfold zbd
    rw [e5]
    exact z_cl (by omega)
  rw [h1, h2]
  exact ⟨e4, hx, e5, hy, e1.trans e4, e2.trans e5⟩
theorem zx_tally {L : Nat} {ux um : z_St} (hA : zR_A L ux um) {a b w : Nat} (ha : a < 8) (hb : b < 8) (hw : w < 4) : zf_X0_tally ux (nI a) (nI b) (nI w) = some (nI (zN um a b w L)) := by
  have l1 := hA.1
  have l3 := hA.2.2.1
  have pa : 2 ^ a < 256 := by
    have : 2 ^ a ≤ 2 ^ 7 := Nat.pow_le_pow_right (by decide) (by omega)
    omega
  have pb : 2 ^ b < 256 := by
    have : 2 ^ b ≤ 2 ^ 7 := Nat.pow_le_pow_right (by decide) (by omega)
    omega
  have po : 2 ^ a ||| 2 ^ b < 256 := z_or256 pa pb
  have pw : zbw w a b < 256 := z_bwl ⟨w, hw⟩ ⟨a, ha⟩ ⟨b, hb⟩
  have st : ∀ (k i n : Nat), i + k = L → k < n → zf_X0_tally_30 (nI (2 ^ a ||| 2 ^ b)) (nI (zbw w a b)) ux n (nI (zN um a b w i)) (nI i) = some (nI (zN um a b w L), nI L) := by
    intro k
    induction k with
    | zero =>
      intro i n hi hn
      obtain ⟨m, rfl⟩ : ∃ m, n = m + 1 := ⟨n - 1, by omega⟩
      have hi : i = L := by omega
      subst hi
      rw [zf_X0_tally_30.eq_2, l1, if_pos (z_hi i)]
    | succ k ih =>
      intro i n hi hn
      obtain ⟨m, rfl⟩ : ∃ m, n = m + 1 := ⟨n - 1, by omega⟩
      have hiL : i < L := by omega
      obtain ⟨-, q2, -, q4, q5, q6⟩ := z_lots hA hiL
      have i1 : z_inb (nI i) 40 = true := z_inb_t (by omega) (by decide)
      have i2 : (nI i).toNatClampNeg = i := z_cl (by omega)
      have c := z_lo hiL (by omega)
      have k1 := z_msk ⟨a, ha⟩ ⟨b, hb⟩ ⟨zth um i, q2⟩
      have k2 := z_mskw ⟨w, hw⟩ ⟨a, ha⟩ ⟨b, hb⟩ ⟨zbd um i, q4⟩
      have g1 : (nI (zth um i &&& (2 ^ a ||| 2 ^ b)) = nI (2 ^ a ||| 2 ^ b)) ↔ zth um i / 2 ^ a % 2 = 1 ∧ zth um i / 2 ^ b % 2 = 1 := by
        rw [nI_eq (Nat.lt_of_le_of_lt Nat.and_le_left (by omega)) (by omega)]
        exact k1
      have g2 : (nI (zbd um i &&& zbw w a b) = nI (zbw w a b)) ↔ (w % 2 = 0 ∨ zbd um i / 2 ^ a % 2 = 1) ∧ (w / 2 % 2 = 0 ∨ zbd um i / 2 ^ b % 2 = 1) := by
        rw [nI_eq (Nat.lt_of_le_of_lt Nat.and_le_left (by omega)) (by omega)]
        exact k2
      have hnext := ih (i + 1) m (by omega) (by omega)
      have hs : zN um a b w (i + 1) = zN um a b w i + (if zP um a b w i then 1 else 0) := rfl
      rw [zf_X0_tally_30.eq_2]
      simp only [l1, c, if_false, i1, i2, z_gd, cond_true, q5, q6, z_and, z_nm, z_n1]
      by_cases c1 : zth um i / 2 ^ a % 2 = 1 ∧ zth um i / 2 ^ b % 2 = 1
      · have c1' := g1.mpr c1
        by_cases c2 : (w % 2 = 0 ∨ zbd um i / 2 ^ a % 2 = 1) ∧ (w / 2 % 2 = 0 ∨ zbd um i / 2 ^ b % 2 = 1)
        · have c2' := g2.mpr c2
          have hp : zP um a b w i = true := by
            unfold zP
            simp only [Bool.and_eq_true, Bool.or_eq_true, decide_eq_true_eq]
            exact ⟨c1, c2⟩
          rw [hs, hp, if_pos rfl] at hnext
          simp only [c1', c2', if_true]
          exact hnext
        · have c2' : ¬ nI (zbd um i &&& zbw w a b) = nI (zbw w a b) := fun q => c2 (g2.mp q)
          have hp : zP um a b w i = false := by
            cases hq : zP um a b w i with
            | false => rfl
            | true =>
              unfold zP at hq
              simp only [Bool.and_eq_true, Bool.or_eq_true, decide_eq_true_eq] at hq
              exact absurd hq.2 c2
          rw [hs, hp, if_neg (by decide)] at hnext
          simp only [c1', c2', if_true, if_false]
          exact hnext
      · have c1' : ¬ nI (zth um i &&& (2 ^ a ||| 2 ^ b)) = nI (2 ^ a ||| 2 ^ b) := fun q => c1 (g1.mp q)
        have hp : zP um a b w i = false := by
          cases hq : zP um a b w i with
          | false => rfl
          | true =>
            unfold zP at hq
            simp only [Bool.and_eq_true, Bool.or_eq_true, decide_eq_true_eq] at hq
            exact absurd hq.1 c1
        rw [hs, hp, if_neg (by decide)] at hnext
        simp only [c1', if_false]
        exact hnext
  unfold zf_X0_tally
  simp only [z_nm, z_one (show a < 31 by omega), z_one (show b < 31 by omega), z_or, z_bw ⟨w, hw⟩ ⟨a, ha⟩ ⟨b, hb⟩]
  exact z_bd2_e (st L 0 5000 (by omega) (by omega))
theorem z_prod : ∀ a b : Fin 8, ∀ x : Fin 256, (x.val / 2 ^ a.val &&& x.val / 2 ^ b.val) % 2 = x.val / 2 ^ a.val % 2 * (x.val / 2 ^ b.val % 2) := by decide +kernel
theorem zm_findBoth {L : Nat} {ux um u0 : z_St} (hA : zR_A L ux um) (h0 : zSM um u0) {a b : Nat} (ha : a < 8) (hb : b < 8) : ∃ vm, zf_X6_findBoth u0 (nI a) (nI b) = some vm ∧ zSM um vm ∧ z_rI vm 26 0 = nI (zN um a b 0 L) ∧ z_rI vm 27 0 = nI (zN um a b 1 L) ∧ z_rI vm 28 0 = nI (zN um a b 2 L) ∧ z_rI vm 29 0 = nI (zN um a b 3 L) := by
  have l3 := hA.2.2.1
  have st : ∀ (k i n : Nat) (u : z_St), i + k = L → k < n → zSM um u → z_rI u 26 0 = nI (zN um a b 0 i) → z_rI u 27 0 = nI (zN um a b 1 i) → z_rI u 28 0 = nI (zN um a b 2 i) → z_rI u 29 0 = nI (zN um a b 3 i) → ∃ vm, zf_X6_findBoth_22 (nI a) (nI b) n (nI i) u = some (nI L, vm) ∧ zSM um vm ∧ z_rI vm 26 0 = nI (zN um a b 0 L) ∧ z_rI vm 27 0 = nI (zN um a b 1 L) ∧ z_rI vm 28 0 = nI (zN um a b 2 L) ∧ z_rI vm 29 0 = nI (zN um a b 3 L) := by
    intro k
    induction k with
    | zero =>
      intro i n u hi hn hu e0 e1 e2 e3
      obtain ⟨m, rfl⟩ : ∃ m, n = m + 1 := ⟨n - 1, by omega⟩
      have hi : i = L := by omega
      subst hi
      have l2 : z_rI u 21 0 = nI i := by rw [hu.1 21 (by decide) (by decide) (by decide) (by decide) (by decide) (by decide) (by decide) (by decide) (by decide)]; exact hA.2.1
      exact ⟨u, by rw [zf_X6_findBoth_22.eq_2, l2, if_pos (z_hi i)], hu, e0, e1, e2, e3⟩
    | succ k ih =>
      intro i n u hi hn hu e0 e1 e2 e3
      obtain ⟨m, rfl⟩ : ∃ m, n = m + 1 := ⟨n - 1, by omega⟩
      have hiL : i < L := by omega
      obtain ⟨q1, q2, q3, q4, -, -⟩ := z_lots hA hiL
      have l2 : z_rI u 21 0 = nI L := by rw [hu.1 21 (by decide) (by decide) (by decide) (by decide) (by decide) (by decide) (by decide) (by decide) (by decide)]; exact hA.2.1
      have r22 : z_rI u 22 i = nI (zth um i) := by rw [hu.1 22 (by decide) (by decide) (by decide) (by decide) (by decide) (by decide) (by decide) (by decide) (by decide)]; exact q1
      have r23 : z_rI u 23 i = nI (zbd um i) := by rw [hu.1 23 (by decide) (by decide) (by decide) (by decide) (by decide) (by decide) (by decide) (by decide) (by decide)]; exact q3
      have i1 : z_inb (nI i) 40 = true := z_inb_t (by omega) (by decide)
      have i2 : (nI i).toNatClampNeg = i := z_cl (by omega)
      have c := z_lo hiL (by omega)
      have b1 : (nI (zth um i) >>> (nI a &&& 31)) &&& 1 = nI (zth um i / 2 ^ a % 2) := z_bit (by omega) (by omega)
      have b2 : (nI (zth um i) >>> (nI b &&& 31)) &&& 1 = nI (zth um i / 2 ^ b % 2) := z_bit (by omega) (by omega)
      have d1 : (nI (zbd um i) >>> (nI a &&& 31)) &&& 1 = nI (zbd um i / 2 ^ a % 2) := z_bit (by omega) (by omega)
      have d2 : (nI (zbd um i) >>> (nI b &&& 31)) &&& 1 = nI (zbd um i / 2 ^ b % 2) := z_bit (by omega) (by omega)
      have d3 : ((nI (zbd um i) >>> (nI a &&& 31)) &&& (nI (zbd um i) >>> (nI b &&& 31))) &&& 1 = nI (zbd um i / 2 ^ a % 2 * (zbd um i / 2 ^ b % 2)) := by
        rw [z_sh (by omega) (by omega), z_sh (by omega) (by omega), z_and]
        have e : (1 : Int32).toBitVec.toNat = 2 ^ 1 - 1 := by decide
        have hlt : zbd um i / 2 ^ a &&& zbd um i / 2 ^ b < 2 ^ 32 := Nat.lt_of_le_of_lt (Nat.le_trans Nat.and_le_left (Nat.div_le_self _ _)) (by omega)
        have := pk_andN hlt (m := 1) 1 e
        rw [this, ← z_prod ⟨a, ha⟩ ⟨b, hb⟩ ⟨zbd um i, q4⟩]
      have bl : ∀ x y : Nat, x / 2 ^ y % 2 < 2 := fun x y => Nat.mod_lt _ (by decide)
      have one : ∀ x : Nat, x < 2 → (nI x = (1 : Int32) ↔ x = 1) := fun x hx => by
        rw [z_lit, nI_eq (by omega) (by decide)]
      have hs : ∀ w, zN um a b w (i + 1) = zN um a b w i + (if zP um a b w i then 1 else 0) := fun w => rfl
      rw [zf_X6_findBoth_22.eq_2]
      by_cases c1 : zth um i / 2 ^ a % 2 = 1
      · by_cases c2 : zth um i / 2 ^ b % 2 = 1
        · have c1' := (one _ (bl _ _)).mpr c1
          have c2' := (one _ (bl _ _)).mpr c2
          have w27 : ∀ (u : z_St) (v : Int32), z_rI (z_wI u 26 0 v) 27 = z_rI u 27 := fun _ _ => rfl
          have w23 : ∀ (u : z_St) (v : Int32), z_rI (z_wI u 26 0 v) 23 = z_rI u 23 := fun _ _ => rfl
          have w28 : ∀ (u : z_St) (v : Int32), z_rI (z_wI u 26 0 v) 28 = z_rI u 28 := fun _ _ => rfl
          have w29 : ∀ (u : z_St) (v : Int32), z_rI (z_wI u 26 0 v) 29 = z_rI u 29 := fun _ _ => rfl
          have v23 : ∀ (u : z_St) (v : Int32), z_rI (z_wI u 27 0 v) 23 = z_rI u 23 := fun _ _ => rfl
          have v28 : ∀ (u : z_St) (v : Int32), z_rI (z_wI u 27 0 v) 28 = z_rI u 28 := fun _ _ => rfl
          have v29 : ∀ (u : z_St) (v : Int32), z_rI (z_wI u 27 0 v) 29 = z_rI u 29 := fun _ _ => rfl
          have y23 : ∀ (u : z_St) (v : Int32), z_rI (z_wI u 28 0 v) 23 = z_rI u 23 := fun _ _ => rfl
          have y29 : ∀ (u : z_St) (v : Int32), z_rI (z_wI u 28 0 v) 29 = z_rI u 29 := fun _ _ => rfl
          simp only [l2, c, if_false, i1, i2, z_gd, cond_true, r22, b1, b2, c1', c2', if_true, z_nm, w27, w23, w28, w29, v23, v28, v29, y23, y29, r23, d1, d2, d3, e0, e1, e2, e3, z_n1, nI_add]
          have p0 : zP um a b 0 i = true := by
            unfold zP
            simp [c1, c2]
          have p1 : (if zP um a b 1 i then 1 else 0) = zbd um i / 2 ^ a % 2 := by
            have := bl (zbd um i) a
            unfold zP
            by_cases q : zbd um i / 2 ^ a % 2 = 1
            · simp [c1, c2, q]
            · have q : zbd um i / 2 ^ a % 2 = 0 := by omega
              simp [c1, c2, q]
          have p2 : (if zP um a b 2 i then 1 else 0) = zbd um i / 2 ^ b % 2 := by
            have := bl (zbd um i) b
            unfold zP
            by_cases q : zbd um i / 2 ^ b % 2 = 1
            · simp [c1, c2, q]
            · have q : zbd um i / 2 ^ b % 2 = 0 := by omega
              simp [c1, c2, q]
          have p3 : (if zP um a b 3 i then 1 else 0) = zbd um i / 2 ^ a % 2 * (zbd um i / 2 ^ b % 2) := by
            have := bl (zbd um i) a
            have := bl (zbd um i) b
            unfold zP
            by_cases q : zbd um i / 2 ^ a % 2 = 1
            · by_cases r : zbd um i / 2 ^ b % 2 = 1
              · simp [c1, c2, q, r]
              · have r : zbd um i / 2 ^ b % 2 = 0 := by omega
                simp [c1, c2, q, r]
            · have q : zbd um i / 2 ^ a % 2 = 0 := by omega
              simp [c1, c2, q]
          refine ih (i + 1) m _ (by omega) (by omega) (zSM_t (zSM_t (zSM_t (zSM_t hu (zSM_w _ 26 0 _ (by decide))) (zSM_w _ 27 0 _ (by decide))) (zSM_w _ 28 0 _ (by decide))) (zSM_w _ 29 0 _ (by decide))) ?_ ?_ ?_ ?_
          · show nI (zN um a b 0 i + 1) = _
            rw [hs, p0, if_pos rfl]
          · show nI (zN um a b 1 i + zbd um i / 2 ^ a % 2) = _
            rw [hs, p1]
          · show nI (zN um a b 2 i + zbd um i / 2 ^ b % 2) = _
            rw [hs, p2]
          · show nI (zN um a b 3 i + zbd um i / 2 ^ a % 2 * (zbd um i / 2 ^ b % 2)) = _
            rw [hs, p3]
        · have c1' := (one _ (bl _ _)).mpr c1
          have c2' : ¬ nI (zth um i / 2 ^ b % 2) = (1 : Int32) := fun q => c2 ((one _ (bl _ _)).mp q)
          have pf : ∀ w, zP um a b w i = false := fun w => by
            unfold zP
            simp [c2]
          simp only [l2, c, if_false, i1, i2, z_gd, cond_true, r22, b1, b2, c1', c2', if_true, z_nm, z_n1]
          exact ih (i + 1) m u (by omega) (by omega) hu (by rw [hs, pf, if_neg (by decide)]; exact e0) (by rw [hs, pf, if_neg (by decide)]; exact e1) (by rw [hs, pf, if_neg (by decide)]; exact e2) (by rw [hs, pf, if_neg (by decide)]; exact e3)
      · have c1' : ¬ nI (zth um i / 2 ^ a % 2) = (1 : Int32) := fun q => c1 ((one _ (bl _ _)).mp q)
        have pf : ∀ w, zP um a b w i = false := fun w => by
          unfold zP
          simp [c1]
        simp only [l2, c, if_false, i1, i2, z_gd, cond_true, r22, b1, c1', z_nm, z_n1]
        exact ih (i + 1) m u (by omega) (by omega) hu (by rw [hs, pf, if_neg (by decide)]; exact e0) (by rw [hs, pf, if_neg (by decide)]; exact e1) (by rw [hs, pf, if_neg (by decide)]; exact e2) (by rw [hs, pf, if_neg (by decide)]; exact e3)
  obtain ⟨vm, h1, h2, h3⟩ := st L 0 5000 (z_wI (z_wI (z_wI (z_wI u0 26 0 0) 27 0 0) 28 0 0) 29 0 0) (by omega) (by omega) (zSM_t (zSM_t (zSM_t (zSM_t h0 (zSM_w _ 26 0 _ (by decide))) (zSM_w _ 27 0 _ (by decide))) (zSM_w _ 28 0 _ (by decide))) (zSM_w _ 29 0 _ (by decide))) rfl rfl rfl rfl
  refine ⟨vm, ?_, h2, h3⟩
  unfold zf_X6_findBoth
  simp only [z_nm]
  exact z_bd2_e h1
theorem zq_both {k : Nat} {ux um : z_St} (hk : k < 512) (hR : zR k ux um) (a1 a2 a3 : Int32) : ∃ (r : Int32) (vm : z_St), zf_X5_both ux a1 a2 a3 = some r ∧ zf_X6_both um a1 a2 a3 = some (r, vm) ∧ zR (k + 1) ux vm := by
  have m3 : zf_X6_in a3.toInt64 0 3 = zf_X5_within a3 0 3 := zm_in a3 0 3
  by_cases c1 : zf_X5_areTwo a1 a2 = 0
  · exact ⟨-2, um, by simp only [zf_X5_both, c1, if_true], by simp only [zf_X6_both, z_pair, c1, if_true], zR_k hR (Nat.le_succ k)⟩
  by_cases c2 : zf_X5_within a3 0 3 = 0
  · exact ⟨-2, um, by simp only [zf_X5_both, c1, c2, if_true, if_false], by simp only [zf_X6_both, z_pair, c1, m3, c2, if_true, if_false], zR_k hR (Nat.le_succ k)⟩
  obtain ⟨a, b, ha, hb, hab, rfl, rfl⟩ := z_two c1
  obtain ⟨w, hw, rfl⟩ := zx_idc 3 c2 rfl
  obtain ⟨T, S, L, E, h, hP, hT, hA, hS, hD, hh⟩ := id hR
  obtain ⟨vm, h1, h2, e0, e1, e2, e3⟩ := zm_findBoth hA (zSM_r um) ha hb
  refine ⟨nI (zN um a b w L), vm, by simp only [zf_X5_both, c1, c2, if_false, zx_tally hA ha hb (show w < 4 by omega), z_bd], ?_, zR_k (zR_sm hR h2) (Nat.le_succ k)⟩
  unfold zf_X6_both
  rw [z_pair, if_neg c1, m3, if_neg c2, z_bd_e h1]
  rcases (show w = 0 ∨ w = 1 ∨ w = 2 ∨ w = 3 by omega) with rfl | rfl | rfl | rfl
  · rw [if_pos (show nI 0 = (0 : Int32) from rfl), e0]
  · rw [if_neg (show ¬ nI 1 = (0 : Int32) by decide), if_pos (show nI 1 = (1 : Int32) from rfl), e1]
  · rw [if_neg (show ¬ nI 2 = (0 : Int32) by decide), if_neg (show ¬ nI 2 = (1 : Int32) by decide), if_pos (show nI 2 = (2 : Int32) from rfl), e2]
  · rw [if_neg (show ¬ nI 3 = (0 : Int32) by decide), if_neg (show ¬ nI 3 = (1 : Int32) by decide), if_neg (show ¬ nI 3 = (2 : Int32) by decide), e3]
