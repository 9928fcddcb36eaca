theorem z_and (a b : Nat) : nI a &&& nI b = nI (a &&& b) := by
  apply Int32.toBitVec_inj.1
  show BitVec.ofNat 32 a &&& BitVec.ofNat 32 b = BitVec.ofNat 32 (a &&& b)
  apply BitVec.eq_of_getLsbD_eq
  intro i hi
  simp [hi]
theorem z_or (a b : Nat) : nI a ||| nI b = nI (a ||| b) := by
  apply Int32.toBitVec_inj.1
  show BitVec.ofNat 32 a ||| BitVec.ofNat 32 b = BitVec.ofNat 32 (a ||| b)
  apply BitVec.eq_of_getLsbD_eq
  intro i hi
  simp [hi]
/-- a bit of a number, as both sides read it -/
theorem z_sh {n : Nat} (h : n < 2 ^ 31) {j : Nat} (hj : j < 32) : nI n >>> (nI j &&& 31) = nI (n / 2 ^ j) := by
  refine pk_shrN h (nI j &&& 31) j ?_
  have : ∀ j : Fin 32, ((nI j.val &&& 31).toBitVec.smod 32).toNat = j.val := by decide +kernel
  exact this ⟨j, hj⟩
theorem z_bit {n : Nat} (h : n < 2 ^ 31) {j : Nat} (hj : j < 32) : (nI n >>> (nI j &&& 31)) &&& 1 = nI (n / 2 ^ j % 2) := by
  rw [z_sh h hj]
  have e : (1 : Int32).toBitVec.toNat = 2 ^ 1 - 1 := by decide
  have := pk_andN (n := n / 2 ^ j) (Nat.lt_of_le_of_lt (Nat.div_le_self _ _) (by omega)) (m := 1) 1 e
  exact this
theorem z_one {j : Nat} (hj : j < 31) : (1 : Int32) <<< (nI j &&& 31) = nI (2 ^ j) := by
  have : ∀ j : Fin 31, (1 : Int32) <<< (nI j.val &&& 31) = nI (2 ^ j.val) := by decide +kernel
  exact this ⟨j, hj⟩
def zsum (g : Nat → Int32) : Nat → Int32
  | 0 => 0
  | n + 1 => zsum g n + g n
theorem zsum_c {g g2 : Nat → Int32} : ∀ (n : Nat), (∀ i, i < n → g i = g2 i) → zsum g n = zsum g2 n
  | 0, _ => rfl
  | n + 1, h => by
    show zsum g n + g n = zsum g2 n + g2 n
    rw [zsum_c n (fun i hi => h i (by omega)), h n (by omega)]
theorem zsum_a (g : Nat → Int32) (m : Nat) : ∀ n, zsum g (m + n) = zsum g m + zsum (fun i => g (m + i)) n
  | 0 => (Int32.add_zero _).symm
  | n + 1 => by
    show zsum g (m + n) + g (m + n) = zsum g m + (zsum (fun i => g (m + i)) n + g (m + n))
    rw [zsum_a g m n, Int32.add_assoc]
theorem z_8lo {i : Nat} (h : i < 8) : ¬ (8 : Int32) ≤ nI i := by
  rw [z_lit]
  exact nI_ge h (by decide)
theorem z_8hi : (8 : Int32) ≤ nI 8 := by decide
theorem zx_owedBy (ux : z_St) {d : Nat} (hd : d < 8) : zf_X1_owedBy ux (nI d) = some (zsum (fun b => z_rI ux 4 (8 * d + b)) 8) := by
  have st : ∀ (k i n : Nat), i + k = 8 → k < n → zf_X1_owedBy_4 (nI d) ux n (zsum (fun b => z_rI ux 4 (8 * d + b)) i) (nI i) = some (zsum (fun b => z_rI ux 4 (8 * d + b)) 8, nI 8) := by
    intro k
    induction k with
    | zero =>
      intro i n hi hn
      obtain ⟨m, rfl⟩ : ∃ m, n = m + 1 := ⟨n - 1, by omega⟩
      have hi : i = 8 := by omega
      subst hi
      rw [zf_X1_owedBy_4.eq_2, if_pos z_8hi]
    | succ k ih =>
      intro i n hi hn
      obtain ⟨m, rfl⟩ : ∃ m, n = m + 1 := ⟨n - 1, by omega⟩
      have i1 : z_inb (nI (8 * d + i)) 64 = true := z_inb_t (by omega) (by decide)
      have i2 : (nI (8 * d + i)).toNatClampNeg = 8 * d + i := z_cl (by omega)
      rw [zf_X1_owedBy_4.eq_2]
      simp only [z_8lo (show i < 8 by omega), if_false, z_8r, i1, i2, z_gd, z_nm, cond_true, z_n1]
      exact ih (i + 1) m (by omega) (by omega)
  unfold zf_X1_owedBy
  exact z_bd2_e (st 8 0 5000 (by omega) (by omega))
theorem zm_owing (um : z_St) {d : Nat} (hd : d < 8) : zf_X6_owing um (nI d) = some (zsum (fun b => z_rI um 37 (8 * d + b)) 8) := by
  have st : ∀ (k i n : Nat), i + k = 8 → k < n → zf_X6_owing_4 (nI d) um n (zsum (fun b => z_rI um 37 (8 * d + b)) i) (nI i) = some (zsum (fun b => z_rI um 37 (8 * d + b)) 8, nI 8) := by
    intro k
    induction k with
    | zero =>
      intro i n hi hn
      obtain ⟨m, rfl⟩ : ∃ m, n = m + 1 := ⟨n - 1, by omega⟩
      have hi : i = 8 := by omega
      subst hi
      rw [zf_X6_owing_4.eq_2, if_pos z_8hi]
    | succ k ih =>
      intro i n hi hn
      obtain ⟨m, rfl⟩ : ∃ m, n = m + 1 := ⟨n - 1, by omega⟩
      have i1 : z_inb (nI (8 * d + i)) 64 = true := z_inb_t (by omega) (by decide)
      have i2 : (nI (8 * d + i)).toNatClampNeg = 8 * d + i := z_cl (by omega)
      rw [zf_X6_owing_4.eq_2]
      simp only [z_8lo (show i < 8 by omega), if_false, z_8, i1, i2, z_gd, z_nm, cond_true, z_n1]
      exact ih (i + 1) m (by omega) (by omega)
  unfold zf_X6_owing
  exact z_bd2_e (st 8 0 5000 (by omega) (by omega))
theorem z_owes {ux um : z_St} (hD : zR_D ux um) {d : Nat} (hd : d < 8) : ∃ o, zf_X1_owedBy ux (nI d) = some o ∧ zf_X6_owing um (nI d) = some o := by
  refine ⟨_, zx_owedBy ux hd, ?_⟩
  rw [zm_owing um hd, zsum_c 8 (fun i hi => hD (8 * d + i) (by omega))]
theorem z_owed {ux um : z_St} (hD : zR_D ux um) {d : Nat} (hd : d < 8) (p f : Int32) (hb : ∀ j, j < 8 → ((p >>> (nI j &&& 31)) &&& 1 = 1 ↔ (f >>> (nI j &&& 31)) &&& 1 = 0)) : ∃ o, zf_X1_owedTo ux (nI d) p = some o ∧ zf_X6_owed um (nI d) f = some o := by
  have st : ∀ (k i n1 n2 : Nat) (a : Int32), i + k = 8 → k < n1 → k < n2 → ∃ o, zf_X1_owedTo_5 (nI d) p ux n1 a (nI i) = some (o, nI 8) ∧ zf_X6_owed_5 (nI d) f um n2 a (nI i) = some (o, nI 8) := by
    intro k
    induction k with
    | zero =>
      intro i n1 n2 a hi h1 h2
      obtain ⟨m1, rfl⟩ : ∃ m, n1 = m + 1 := ⟨n1 - 1, by omega⟩
      obtain ⟨m2, rfl⟩ : ∃ m, n2 = m + 1 := ⟨n2 - 1, by omega⟩
      have hi : i = 8 := by omega
      subst hi
      exact ⟨a, by rw [zf_X1_owedTo_5.eq_2, if_pos z_8hi], by rw [zf_X6_owed_5.eq_2, if_pos z_8hi]⟩
    | succ k ih =>
      intro i n1 n2 a hi h1 h2
      obtain ⟨m1, rfl⟩ : ∃ m, n1 = m + 1 := ⟨n1 - 1, by omega⟩
      obtain ⟨m2, rfl⟩ : ∃ m, n2 = m + 1 := ⟨n2 - 1, by omega⟩
      have i1 : z_inb (nI (8 * i + d)) 64 = true := z_inb_t (by omega) (by decide)
      have i2 : (nI (8 * i + d)).toNatClampNeg = 8 * i + d := z_cl (by omega)
      have hbi := hb i (by omega)
      rw [zf_X1_owedTo_5.eq_2, zf_X6_owed_5.eq_2]
      by_cases c : (f >>> (nI i &&& 31)) &&& 1 = 0
      · have c' := hbi.mpr c
        simp only [z_8lo (show i < 8 by omega), if_false, c, c', if_true, z_8r, z_8, i1, i2, z_gd, z_nm, cond_true, z_n1, hD (8 * i + d) (by omega)]
        exact ih (i + 1) m1 m2 _ (by omega) (by omega) (by omega)
      · have c' : ¬ (p >>> (nI i &&& 31)) &&& 1 = 1 := fun q => c (hbi.mp q)
        simp only [z_8lo (show i < 8 by omega), if_false, c, c', z_nm, z_n1, z_a0]
        exact ih (i + 1) m1 m2 _ (by omega) (by omega) (by omega)
  obtain ⟨o, h1, h2⟩ := st 8 0 5000 5000 0 (by omega) (by omega) (by omega)
  exact ⟨o, by unfold zf_X1_owedTo; exact z_bd2_e h1, by unfold zf_X6_owed; exact z_bd2_e h2⟩
theorem z_net {ux um : z_St} (hD : zR_D ux um) {d : Nat} (hd : d < 8) : ∃ o, zf_X1_netOf ux (nI d) = some o ∧ z_bd (zf_X6_owed um (nI d) 0) (fun r2 => z_bd (zf_X6_owing um (nI d)) (fun r3 => some (r2 - r3))) = some o := by
  have hb : ∀ j, j < 8 → ((255 : Int32) >>> (nI j &&& 31) &&& 1 = 1 ↔ (0 : Int32) >>> (nI j &&& 31) &&& 1 = 0) := by
    intro j hj
    have : ∀ j : Fin 8, ((255 : Int32) >>> (nI j.val &&& 31) &&& 1 = 1 ↔ (0 : Int32) >>> (nI j.val &&& 31) &&& 1 = 0) := by decide +kernel
    exact this ⟨j, hj⟩
  obtain ⟨o1, h1, h2⟩ := z_owed hD hd 255 0 hb
  obtain ⟨o2, h3, h4⟩ := z_owes hD hd
  exact ⟨o1 - o2, by simp only [zf_X1_netOf, h1, h3, z_bd], by simp only [h2, h4, z_bd]⟩
theorem zq_net {k : Nat} {ux um : z_St} (hk : k < 512) (hR : zR k ux um) (a1 : Int32) : ∃ (r : Int32), zf_X5_net ux a1 = some r ∧ zf_X6_net um a1 = some r ∧ zR (k + 1) ux um := by
  obtain ⟨T, S, L, E, h, hP, hT, hA, hS, hD, hh⟩ := id hR
  by_cases c1 : zf_X5_within a1 0 7 = 0
  · exact ⟨-2000000000, by simp only [zf_X5_net, zx_dl, c1, if_true], by simp only [zf_X6_net, zm_dl, c1, if_true], zR_k hR (Nat.le_succ k)⟩
  obtain ⟨d, hd, rfl⟩ := zx_idc 7 c1 rfl
  obtain ⟨o, h1, h2⟩ := z_net hD (show d < 8 by omega)
  refine ⟨o, by simp only [zf_X5_net, zx_dl, c1, if_false, h1, z_bd], ?_, zR_k hR (Nat.le_succ k)⟩
  unfold zf_X6_net
  rw [zm_dl, if_neg c1]
  exact h2
/-- all DEBTS together -/
theorem z_total {ux um : z_St} (hD : zR_D ux um) : ∃ o, zf_X1_total ux = some o ∧ zf_X6_allDebts um = some o := by
  have sx : ∀ (k i n : Nat), i + k = 64 → k < n → zf_X1_total_4 ux n (zsum (z_rI um 37) i) (nI i) = some (zsum (z_rI um 37) 64, nI 64) := by
    intro k
    induction k with
    | zero =>
      intro i n hi hn
      obtain ⟨m, rfl⟩ : ∃ m, n = m + 1 := ⟨n - 1, by omega⟩
      have hi : i = 64 := by omega
      subst hi
      rw [zf_X1_total_4.eq_2, if_pos (by decide)]
    | succ k ih =>
      intro i n hi hn
      obtain ⟨m, rfl⟩ : ∃ m, n = m + 1 := ⟨n - 1, by omega⟩
      have i1 : z_inb (nI i) 64 = true := z_inb_t (by omega) (by decide)
      have i2 : (nI i).toNatClampNeg = i := z_cl (by omega)
      have c : ¬ (64 : Int32) ≤ nI i := by rw [z_lit]; exact nI_ge (show i < 64 by omega) (by decide)
      rw [zf_X1_total_4.eq_2]
      simp only [c, if_false, i1, i2, z_gd, z_nm, cond_true, z_n1, hD i (by omega)]
      exact ih (i + 1) m (by omega) (by omega)
  have sm : ∀ (k i n : Nat), i + k = 8 → k < n → zf_X6_allDebts_4 um n (zsum (z_rI um 37) (8 * i)) (nI i) = some (zsum (z_rI um 37) 64, nI 8) := by
    intro k
    induction k with
    | zero =>
      intro i n hi hn
      obtain ⟨m, rfl⟩ : ∃ m, n = m + 1 := ⟨n - 1, by omega⟩
      have hi : i = 8 := by omega
      subst hi
      rw [zf_X6_allDebts_4.eq_2, if_pos z_8hi]
    | succ k ih =>
      intro i n hi hn
      obtain ⟨m, rfl⟩ : ∃ m, n = m + 1 := ⟨n - 1, by omega⟩
      have e := zsum_a (z_rI um 37) (8 * i) 8
      rw [zf_X6_allDebts_4.eq_2]
      simp only [z_8lo (show i < 8 by omega), if_false, zm_owing um (show i < 8 by omega), z_bd, z_nm, z_n1]
      rw [← e]
      exact ih (i + 1) m (by omega) (by omega)
  refine ⟨zsum (z_rI um 37) 64, ?_, ?_⟩
  · unfold zf_X1_total
    exact z_bd2_e (sx 64 0 5000 (by omega) (by omega))
  · unfold zf_X6_allDebts
    exact z_bd2_e (sm 8 0 5000 (by omega) (by omega))
/-- the counts, on both sides -/
theorem z_count {k : Nat} {ux um : z_St} (hR : zR k ux um) (a1 : Int32) : ∃ (r : Int32), zf_X5_count ux a1 = some r ∧ zf_X6_count um a1 = some r := by
  obtain ⟨T, S, L, E, h, hP, hT, hA, hS, hD, hh⟩ := id hR
  obtain ⟨o2, b1, b2⟩ := z_standing hT
  obtain ⟨o6, b3, b4⟩ := z_total hD
  unfold zf_X5_count zf_X6_count
  by_cases c0 : a1 = 0
  · rw [if_pos c0, if_pos c0]
    exact ⟨nI T, congrArg some hP.1, congrArg some hP.2.1⟩
  rw [if_neg c0, if_neg c0]
  by_cases c1 : a1 = 1
  · rw [if_pos c1, if_pos c1]
    exact ⟨nI S, congrArg some hT.1, congrArg some hT.2.1⟩
  rw [if_neg c1, if_neg c1]
  by_cases c2 : a1 = 2
  · rw [if_pos c2, if_pos c2]
    exact ⟨o2, z_bd_e b1, z_bd_e b2⟩
  rw [if_neg c2, if_neg c2]
  by_cases c3 : a1 = 3
  · rw [if_pos c3, if_pos c3]
    exact ⟨nI L, congrArg some hA.1, congrArg some hA.2.1⟩
  rw [if_neg c3, if_neg c3]
  by_cases c4 : a1 = 4
  · rw [if_pos c4, if_pos c4]
    exact ⟨nI E, congrArg some hS.1, congrArg some hS.2.1⟩
  rw [if_neg c4, if_neg c4]
  by_cases c5 : a1 = 5
  · rw [if_pos c5, if_pos c5]
    exact ⟨nI h, congrArg some hT.2.2.2.1, congrArg some hT.2.2.2.2.1⟩
  rw [if_neg c5, if_neg c5]
  by_cases c6 : a1 = 6
  · rw [if_pos c6, if_pos c6]
    exact ⟨o6, z_bd_e b3, z_bd_e b4⟩
  rw [if_neg c6, if_neg c6]
  exact ⟨-2, rfl, rfl⟩
theorem zq_count {k : Nat} {ux um : z_St} (hk : k < 512) (hR : zR k ux um) (a1 : Int32) : ∃ (r : Int32), zf_X5_count ux a1 = some r ∧ zf_X6_count um a1 = some r ∧ zR (k + 1) ux um := by
  obtain ⟨r, h1, h2⟩ := z_count hR a1
  exact ⟨r, h1, h2, zR_k hR (Nat.le_succ k)⟩
/-! who falls -/
theorem z_fset : ∀ w : Fin 256, ∀ i : Fin 8, w.val / 2 ^ i.val % 2 = 0 ∨ w.val ||| 2 ^ i.val = w.val := by decide +kernel
theorem z_fnot : ∀ w : Fin 256, ∀ j : Fin 8, ((nI w.val ^^^ (-1 : Int32)) >>> (nI j.val &&& 31)) &&& 1 = nI (1 - w.val / 2 ^ j.val % 2) := by decide +kernel
theorem z_or256 {a b : Nat} (ha : a < 256) (hb : b < 256) : a ||| b < 256 := Nat.or_lt_two_pow (n := 8) ha hb
theorem z_fallN {ux um : z_St} (hD : zR_D ux um) (m : Int32) {w : Nat} (hw : w < 256) : ∃ x, x < 256 ∧ zf_X1_fallingNext ux (nI w) m = some (nI x) ∧ ∀ n, 8 < n → zf_X6_fall_41 m (nI w) um n (nI w) 0 = some (nI (w ||| x), nI 8) := by
  have st : ∀ (k i : Nat) (a : Nat), i + k = 8 → a < 256 → ∃ x, x < 256 ∧ (∀ n, k < n → zf_X1_fallingNext_5 (nI w) m ux n (nI a) (nI i) = some (nI x, nI 8)) ∧ (∀ n, k < n → zf_X6_fall_41 m (nI w) um n (nI (w ||| a)) (nI i) = some (nI (w ||| x), nI 8)) := by
    intro k
    induction k with
    | zero =>
      intro i a hi ha
      have hi : i = 8 := by omega
      subst hi
      refine ⟨a, ha, fun n hn => ?_, fun n hn => ?_⟩
      · obtain ⟨m', rfl⟩ : ∃ m, n = m + 1 := ⟨n - 1, by omega⟩
        rw [zf_X1_fallingNext_5.eq_2, if_pos z_8hi]
      · obtain ⟨m', rfl⟩ : ∃ m, n = m + 1 := ⟨n - 1, by omega⟩
        rw [zf_X6_fall_41.eq_2, if_pos z_8hi]
    | succ k ih =>
      intro i a hi ha
      have hi8 : i < 8 := by omega
      have e1 : (nI w >>> (nI i &&& 31)) &&& 1 = nI (w / 2 ^ i % 2) := z_bit (by omega) (by omega)
      have hb : ∀ j, j < 8 → ((nI w ^^^ (-1 : Int32)) >>> (nI j &&& 31) &&& 1 = 1 ↔ nI w >>> (nI j &&& 31) &&& 1 = 0) := by
        intro j hj
        rw [z_fnot ⟨w, hw⟩ ⟨j, hj⟩, z_bit (by omega) (by omega)]
        have : w / 2 ^ j % 2 < 2 := Nat.mod_lt _ (by decide)
        show nI (1 - w / 2 ^ j % 2) = nI 1 ↔ nI (w / 2 ^ j % 2) = nI 0
        rw [nI_eq (by omega) (by decide), nI_eq (by omega) (by decide)]
        omega
      obtain ⟨o1, o2, o3⟩ := z_owed hD hi8 (nI w ^^^ (-1)) (nI w) hb
      obtain ⟨p1, p2, p3⟩ := z_owes hD hi8
      have e2 : (1 : Int32) <<< (nI i &&& 31) = nI (2 ^ i) := z_one (by omega)
      have hp : 2 ^ i < 256 := by
        have : 2 ^ i ≤ 2 ^ 7 := Nat.pow_le_pow_right (by decide) (by omega)
        omega
      have lo := z_8lo hi8
      have or0 : ∀ z : Nat, nI z ||| (0 : Int32) = nI z := fun z => by
        show nI z ||| nI 0 = nI z
        rw [z_or, Nat.or_zero]
      by_cases cu : w / 2 ^ i % 2 = 0
      · have c1 : nI (w / 2 ^ i % 2) = (0 : Int32) := by rw [cu]; rfl
        by_cases cf : p1 ≤ m + o1
        · obtain ⟨x, hx, hx1, hx2⟩ := ih (i + 1) a (by omega) ha
          refine ⟨x, hx, fun n hn => ?_, fun n hn => ?_⟩
          · obtain ⟨m', rfl⟩ : ∃ m, n = m + 1 := ⟨n - 1, by omega⟩
            rw [zf_X1_fallingNext_5.eq_2]
            simp only [lo, if_false, e1, c1, if_true, o2, p2, z_bd, cf, z_nm, z_n1]
            exact hx1 m' (by omega)
          · obtain ⟨m', rfl⟩ : ∃ m, n = m + 1 := ⟨n - 1, by omega⟩
            rw [zf_X6_fall_41.eq_2]
            simp only [lo, if_false, o3, p3, z_bd, cf, if_true, z_nm, z_n1, or0]
            exact hx2 m' (by omega)
        · obtain ⟨x, hx, hx1, hx2⟩ := ih (i + 1) (a ||| 2 ^ i) (by omega) (z_or256 ha hp)
          refine ⟨x, hx, fun n hn => ?_, fun n hn => ?_⟩
          · obtain ⟨m', rfl⟩ : ∃ m, n = m + 1 := ⟨n - 1, by omega⟩
            rw [zf_X1_fallingNext_5.eq_2]
            simp only [lo, if_false, e1, c1, if_true, o2, p2, z_bd, cf, z_nm, z_n1, e2, z_or]
            exact hx1 m' (by omega)
          · obtain ⟨m', rfl⟩ : ∃ m, n = m + 1 := ⟨n - 1, by omega⟩
            rw [zf_X6_fall_41.eq_2]
            simp only [lo, if_false, o3, p3, z_bd, cf, z_nm, z_n1, e2, z_or, Nat.or_assoc]
            exact hx2 m' (by omega)
      · have c1 : ¬ nI (w / 2 ^ i % 2) = (0 : Int32) := by
          have : w / 2 ^ i % 2 = 1 := by omega
          rw [this]; decide
        obtain ⟨x, hx, hx1, hx2⟩ := ih (i + 1) a (by omega) ha
        have hset : w ||| 2 ^ i = w := (z_fset ⟨w, hw⟩ ⟨i, hi8⟩).resolve_left cu
        have hset2 : w ||| a ||| 2 ^ i = w ||| a := by
          rw [Nat.or_assoc, Nat.or_comm a, ← Nat.or_assoc, hset]
        refine ⟨x, hx, fun n hn => ?_, fun n hn => ?_⟩
        · obtain ⟨m', rfl⟩ : ∃ m, n = m + 1 := ⟨n - 1, by omega⟩
          rw [zf_X1_fallingNext_5.eq_2]
          simp only [lo, if_false, e1, c1, z_nm, z_n1]
          exact hx1 m' (by omega)
        · obtain ⟨m', rfl⟩ : ∃ m, n = m + 1 := ⟨n - 1, by omega⟩
          rw [zf_X6_fall_41.eq_2]
          by_cases cf : p1 ≤ m + o1
          · simp only [lo, if_false, o3, p3, z_bd, cf, if_true, z_nm, z_n1, or0]
            exact hx2 m' (by omega)
          · simp only [lo, if_false, o3, p3, z_bd, cf, z_nm, z_n1, e2, z_or, hset2]
            exact hx2 m' (by omega)
  obtain ⟨x, hx, h1, h2⟩ := st 8 0 0 (by omega) (by decide)
  refine ⟨x, hx, ?_, fun n hn => ?_⟩
  · unfold zf_X1_fallingNext
    exact z_bd2_e (h1 5000 (by omega))
  · have := h2 n hn
    rw [Nat.or_zero] at this
    exact this
def zpc (w : Nat) : Nat := w % 2 + w / 2 % 2 + w / 4 % 2 + w / 8 % 2 + w / 16 % 2 + w / 32 % 2 + w / 64 % 2 + w / 128 % 2
def zit (F : Nat → Nat) : Nat → Nat → Nat
  | 0, w => w
  | n + 1, w => zit F n (F w)
theorem zit_c (F : Nat → Nat) : ∀ n w, zit F n (F w) = F (zit F n w)
  | 0, _ => rfl
  | n + 1, w => zit_c F n (F w)
theorem zit_f {F : Nat → Nat} {w : Nat} (h : F w = w) : ∀ n, zit F n w = w
  | 0 => rfl
  | n + 1 => by
    show zit F n (F w) = w
    rw [h]
    exact zit_f h n
theorem zpc_lt {w v : Nat} (hw : w < 256) (hv : v < 256) (h : w ||| v = v) (hne : w ≠ v) : zpc w < zpc v := by
  have : ∀ w : Fin 256, ∀ v : Fin 256, w.val ||| v.val = v.val → w.val ≠ v.val → zpc w.val < zpc v.val := by decide +kernel
  exact this ⟨w, hw⟩ ⟨v, hv⟩ h hne
theorem zpc_8 (w : Nat) : zpc w ≤ 8 := by
  unfold zpc
  omega
theorem z_fall {ux um : z_St} (hD : zR_D ux um) (m : Int32) {d : Nat} (hd : d < 8) : ∃ o, zf_X1_fallFrom ux (nI d) m = some o ∧ z_bd2 (zf_X6_fall_29 m um 5000 (nI (2 ^ d)) 0) (fun y4 _ => some y4) = some o := by
  obtain ⟨F, hF⟩ : ∃ F : Nat → Nat, ∀ w, w < 256 → F w < 256 ∧ w ||| F w = F w ∧ (∃ x, zf_X1_fallingNext ux (nI w) m = some (nI x) ∧ w ||| x = F w) ∧ ∀ n, 8 < n → zf_X6_fall_41 m (nI w) um n (nI w) 0 = some (nI (F w), nI 8) := by
    refine ⟨fun w => if h : w < 256 then w ||| Classical.choose (z_fallN hD m h) else 0, fun w hw => ?_⟩
    have hc := Classical.choose_spec (z_fallN hD m hw)
    simp only [dif_pos hw]
    refine ⟨z_or256 hw hc.1, ?_, ⟨_, hc.2.1, rfl⟩, hc.2.2⟩
    rw [← Nat.or_assoc, Nat.or_self]
  have hpw : 2 ^ d < 256 := by
    have : 2 ^ d ≤ 2 ^ 7 := Nat.pow_le_pow_right (by decide) (by omega)
    omega
  have hx : ∀ (k i w n : Nat), i + k = 8 → w < 256 → k < n → zf_X1_fallFrom_7 m ux n (nI w) (nI i) = some (nI (zit F k w), nI 8) := by
    intro k
    induction k with
    | zero =>
      intro i w n hi hw hn
      obtain ⟨m', rfl⟩ : ∃ m, n = m + 1 := ⟨n - 1, by omega⟩
      have hi : i = 8 := by omega
      subst hi
      rw [zf_X1_fallFrom_7.eq_2, if_pos z_8hi]
      rfl
    | succ k ih =>
      intro i w n hi hw hn
      obtain ⟨m', rfl⟩ : ∃ m, n = m + 1 := ⟨n - 1, by omega⟩
      obtain ⟨f1, f2, ⟨x, f3, f4⟩, f5⟩ := hF w hw
      rw [zf_X1_fallFrom_7.eq_2]
      simp only [z_8lo (show i < 8 by omega), if_false, f3, z_bd, z_nm, z_n1, z_or, f4]
      exact ih (i + 1) (F w) m' (by omega) f1 (by omega)
  have hm : ∀ (c w n : Nat), w < 256 → 8 ≤ zpc w + c → c + 2 ≤ n → zf_X6_fall_29 m um n (nI (F w)) (nI w) = some (nI (zit F c w), nI (zit F c w)) ∧ F (zit F c w) = zit F c w := by
    intro c
    induction c with
    | zero =>
      intro w n hw hc hn
      obtain ⟨m', rfl⟩ : ∃ m, n = m + 1 := ⟨n - 1, by omega⟩
      obtain ⟨f1, f2, -, -⟩ := hF w hw
      have hfix : F w = w := by
        by_cases q : w = F w
        · exact q.symm
        · have := zpc_lt hw f1 f2 q
          have := zpc_8 (F w)
          omega
      rw [zf_X6_fall_29.eq_2, hfix, if_pos rfl]
      exact ⟨rfl, hfix⟩
    | succ c ih =>
      intro w n hw hc hn
      obtain ⟨m', rfl⟩ : ∃ m, n = m + 1 := ⟨n - 1, by omega⟩
      obtain ⟨f1, f2, -, f5⟩ := hF w hw
      by_cases q : F w = w
      · have e : zit F (c + 1) w = w := zit_f q (c + 1)
        rw [zf_X6_fall_29.eq_2, e, q, if_pos rfl]
        exact ⟨rfl, rfl⟩
      · have hlt := zpc_lt hw f1 f2 (Ne.symm q)
        obtain ⟨g1, g2⟩ := ih (F w) m' f1 (by omega) (by omega)
        have ne : ¬ nI (F w) = nI w := by
          rw [nI_eq (by omega) (by omega)]
          exact q
        rw [zf_X6_fall_29.eq_2, if_neg ne]
        obtain ⟨-, -, -, f6⟩ := hF (F w) f1
        rw [z_bd2_e (f6 5000 (by omega))]
        exact ⟨g1, g2⟩
  have hp1 : zpc (2 ^ d) = 1 := by
    have : ∀ d : Fin 8, zpc (2 ^ d.val) = 1 := by decide +kernel
    exact this ⟨d, hd⟩
  obtain ⟨g1, g2⟩ := hm 7 (2 ^ d) 4999 hpw (by omega) (by omega)
  refine ⟨nI (zit F 7 (2 ^ d)), ?_, ?_⟩
  · unfold zf_X1_fallFrom
    rw [z_one (show d < 31 by omega)]
    show z_bd2 (zf_X1_fallFrom_7 m ux 5000 (nI (2 ^ d)) 0) (fun y2 _ => some y2) = _
    have hx8 : zf_X1_fallFrom_7 m ux 5000 (nI (2 ^ d)) 0 = some (nI (zit F 8 (2 ^ d)), nI 8) := hx 8 0 (2 ^ d) 5000 (by omega) hpw (by omega)
    rw [z_bd2_e hx8]
    show some (nI (zit F 7 (F (2 ^ d)))) = _
    rw [zit_c, g2]
  · obtain ⟨-, -, -, f6⟩ := hF (2 ^ d) hpw
    have ne : ¬ nI (2 ^ d) = 0 := by
      have h0 : 0 < 2 ^ d := Nat.two_pow_pos d
      exact nI_ne0 h0 (by omega)
    have e : zf_X6_fall_29 m um (4999 + 1) (nI (2 ^ d)) 0 = zf_X6_fall_29 m um 4999 (nI (F (2 ^ d))) (nI (2 ^ d)) := by
      rw [zf_X6_fall_29.eq_2, if_neg ne]
      rw [z_bd2_e (f6 5000 (by omega))]
    have e5 : zf_X6_fall_29 m um 5000 (nI (2 ^ d)) 0 = _ := e
    rw [e5, z_bd2_e g1]
theorem zq_fall {k : Nat} {ux um : z_St} (hk : k < 512) (hR : zR k ux um) (a1 a2 : Int32) : ∃ (r : Int32), zf_X5_fall ux a1 a2 = some r ∧ zf_X6_fall um a1 a2 = some r ∧ zR (k + 1) ux um := by
  obtain ⟨T, S, L, E, h, hP, hT, hA, hS, hD, hh⟩ := id hR
  have m2 : zf_X6_in a2.toInt64 0 100000 = zf_X5_within a2 0 100000 := zm_in a2 0 100000
  by_cases c1 : zf_X5_within a1 0 7 = 0
  · exact ⟨-2, by simp only [zf_X5_fall, zx_dl, c1, if_true], by simp only [zf_X6_fall, zm_dl, c1, if_true], zR_k hR (Nat.le_succ k)⟩
  by_cases c2 : zf_X5_within a2 0 100000 = 0
  · exact ⟨-2, by simp only [zf_X5_fall, zx_dl, c1, c2, if_true, if_false], by simp only [zf_X6_fall, zm_dl, c1, m2, c2, if_true, if_false], zR_k hR (Nat.le_succ k)⟩
  obtain ⟨d, hd, rfl⟩ := zx_idc 7 c1 rfl
  obtain ⟨o, h1, h2⟩ := z_fall hD a2 (show d < 8 by omega)
  refine ⟨o, by simp only [zf_X5_fall, zx_dl, c1, c2, if_false, h1, z_bd], ?_, zR_k hR (Nat.le_succ k)⟩
  unfold zf_X6_fall
  rw [zm_dl, if_neg c1, m2, if_neg c2, z_one (show d < 31 by omega)]
  exact h2
