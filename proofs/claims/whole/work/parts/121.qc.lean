/-! years: bits of WORKS, the latest first year and the earliest last one -/
def zB (x : Int32) (j : Nat) : Prop := (x >>> (nI j &&& 31)) &&& 1 = 1
theorem zB_or (x y : Int32) (j : Nat) : zB (x ||| y) j ↔ zB x j ∨ zB y j := by
  unfold zB
  have e : ((x ||| y) >>> (nI j &&& 31)) &&& 1 = ((x >>> (nI j &&& 31)) &&& 1) ||| ((y >>> (nI j &&& 31)) &&& 1) := by
    apply Int32.toBitVec_inj.1
    simp only [Int32.toBitVec_or, Int32.toBitVec_and, Int32.toBitVec_shiftRight, BitVec.sshiftRight', BitVec.sshiftRight_or_distrib]
    apply BitVec.eq_of_getLsbD_eq
    intro i hi
    simp only [BitVec.getLsbD_and, BitVec.getLsbD_or, Bool.and_or_distrib_right]
  rw [e]
  rcases z_b01 (x >>> (nI j &&& 31)) with h1 | h1 <;> rcases z_b01 (y >>> (nI j &&& 31)) with h2 | h2 <;> rw [h1, h2] <;> decide
theorem zB_0 (j : Nat) (hj : j < 32) : ¬ zB 0 j := by
  unfold zB
  have := z_bit (n := 0) (by decide) hj
  have e : (0 : Int32) >>> (nI j &&& 31) &&& 1 = nI (0 / 2 ^ j % 2) := this
  rw [e, Nat.zero_div]
  decide
theorem z_maxI (a b z : Int32) (h : z = if a < b then b else a) (y : Int) : z.toInt ≤ y ↔ a.toInt ≤ y ∧ b.toInt ≤ y := by
  subst h
  by_cases c : a < b
  · rw [if_pos c]
    have := (z_ltI a b).mp c
    omega
  · rw [if_neg c]
    have : ¬ a.toInt < b.toInt := fun q => c ((z_ltI a b).mpr q)
    omega
theorem z_minI (a b z : Int32) (h : z = if b < a then b else a) (y : Int) : y ≤ z.toInt ↔ y ≤ a.toInt ∧ y ≤ b.toInt := by
  subst h
  by_cases c : b < a
  · rw [if_pos c]
    have := (z_ltI b a).mp c
    omega
  · rw [if_neg c]
    have : ¬ b.toInt < a.toInt := fun q => c ((z_ltI b a).mpr q)
    omega
theorem z_10lo {i : Nat} (h : i < 10) : ¬ (10 : Int32) ≤ nI i := by
  rw [z_lit]
  exact nI_ge h (by decide)
theorem zx_years (ux : z_St) (x : Int32) : ∀ (k i : Nat) (f l : Int32) (n : Nat), i + k = 10 → k < n → ∃ f2 l2, zf_X2_yearOf_12 x ux n f l (nI i) = some (f2, l2, nI 10) ∧
    (∀ z : Int, f2.toInt ≤ z ↔ f.toInt ≤ z ∧ ∀ w, i ≤ w → w < 10 → zB x w → (z_rI ux 5 w).toInt ≤ z) ∧ (∀ z : Int, z ≤ l2.toInt ↔ z ≤ l.toInt ∧ ∀ w, i ≤ w → w < 10 → zB x w → z ≤ (z_rI ux 6 w).toInt) := by
  intro k
  induction k with
  | zero =>
    intro i f l n hi hn
    obtain ⟨m, rfl⟩ : ∃ z, n = z + 1 := ⟨n - 1, by omega⟩
    have hi : i = 10 := by omega
    subst hi
    refine ⟨f, l, by rw [zf_X2_yearOf_12.eq_2, if_pos (by decide)], fun z => ?_, fun z => ?_⟩
    · exact ⟨fun h => ⟨h, fun w h1 h2 => absurd h2 (by omega)⟩, fun h => h.1⟩
    · exact ⟨fun h => ⟨h, fun w h1 h2 => absurd h2 (by omega)⟩, fun h => h.1⟩
  | succ k ih =>
    intro i f l n hi hn
    obtain ⟨m, rfl⟩ : ∃ z, n = z + 1 := ⟨n - 1, by omega⟩
    have hi10 : i < 10 := by omega
    have i1 : z_inb (nI i) 10 = true := z_inb_t hi10 (by decide)
    have i2 : (nI i).toNatClampNeg = i := z_cl (by omega)
    rw [zf_X2_yearOf_12.eq_2]
    by_cases c : zB x i
    · have c' : (x >>> (nI i &&& 31)) &&& 1 = 1 := c
      obtain ⟨f2, l2, h1, h2, h3⟩ := ih (i + 1) (if f < z_rI ux 5 i then z_rI ux 5 i else f) (if z_rI ux 6 i < l then z_rI ux 6 i else l) m (by omega) (by omega)
      refine ⟨f2, l2, ?_, fun z => ?_, fun z => ?_⟩
      · simp only [z_10lo hi10, if_false, c', if_true, i1, i2, z_gd, cond_true, z_nm, z_n1]
        exact h1
      · rw [h2, z_maxI f (z_rI ux 5 i) _ rfl]
        constructor
        · rintro ⟨⟨a, b⟩, d⟩
          refine ⟨a, fun w h4 h5 h6 => ?_⟩
          by_cases q : w = i
          · subst q; exact b
          · exact d w (by omega) h5 h6
        · rintro ⟨a, d⟩
          exact ⟨⟨a, d i (Nat.le_refl i) hi10 c⟩, fun w h4 h5 h6 => d w (by omega) h5 h6⟩
      · rw [h3, z_minI l (z_rI ux 6 i) _ rfl]
        constructor
        · rintro ⟨⟨a, b⟩, d⟩
          refine ⟨a, fun w h4 h5 h6 => ?_⟩
          by_cases q : w = i
          · subst q; exact b
          · exact d w (by omega) h5 h6
        · rintro ⟨a, d⟩
          exact ⟨⟨a, d i (Nat.le_refl i) hi10 c⟩, fun w h4 h5 h6 => d w (by omega) h5 h6⟩
    · have c' : ¬ (x >>> (nI i &&& 31)) &&& 1 = 1 := c
      obtain ⟨f2, l2, h1, h2, h3⟩ := ih (i + 1) f l m (by omega) (by omega)
      refine ⟨f2, l2, ?_, fun z => ?_, fun z => ?_⟩
      · simp only [z_10lo hi10, if_false, c', z_nm, z_n1]
        exact h1
      · rw [h2]
        constructor
        · rintro ⟨a, d⟩
          refine ⟨a, fun w h4 h5 h6 => ?_⟩
          by_cases q : w = i
          · subst q; exact absurd h6 c
          · exact d w (by omega) h5 h6
        · rintro ⟨a, d⟩
          exact ⟨a, fun w h4 h5 h6 => d w (by omega) h5 h6⟩
      · rw [h3]
        constructor
        · rintro ⟨a, d⟩
          refine ⟨a, fun w h4 h5 h6 => ?_⟩
          by_cases q : w = i
          · subst q; exact absurd h6 c
          · exact d w (by omega) h5 h6
        · rintro ⟨a, d⟩
          exact ⟨a, fun w h4 h5 h6 => d w (by omega) h5 h6⟩
theorem zm_narrow2 {t p : Nat} (ht : t < 12) (hp : p < 5) : ∀ (k i : Nat) (u : z_St) (n : Nat), i + k = 10 → k < n → ∃ v, zf_X6_narrow_2 (nI t) (nI p) n (nI i) u = some (nI 10, v) ∧ zSM u v ∧
    (∀ z : Int, (z_rI v 9 0).toInt ≤ z ↔ (z_rI u 9 0).toInt ≤ z ∧ ∀ w, i ≤ w → w < 10 → zB (z_rI u 4 (5 * t + p)) w → (z_rI u 0 w).toInt ≤ z) ∧ (∀ z : Int, z ≤ (z_rI v 10 0).toInt ↔ z ≤ (z_rI u 10 0).toInt ∧ ∀ w, i ≤ w → w < 10 → zB (z_rI u 4 (5 * t + p)) w → z ≤ (z_rI u 1 w).toInt) := by
  intro k
  induction k with
  | zero =>
    intro i u n hi hn
    obtain ⟨m, rfl⟩ : ∃ z, n = z + 1 := ⟨n - 1, by omega⟩
    have hi : i = 10 := by omega
    subst hi
    refine ⟨u, by rw [zf_X6_narrow_2.eq_2, if_pos (by decide)], zSM_r u, fun z => ?_, fun z => ?_⟩
    · exact ⟨fun h => ⟨h, fun w h1 h2 => absurd h2 (by omega)⟩, fun h => h.1⟩
    · exact ⟨fun h => ⟨h, fun w h1 h2 => absurd h2 (by omega)⟩, fun h => h.1⟩
  | succ k ih =>
    intro i u n hi hn
    obtain ⟨m, rfl⟩ : ∃ z, n = z + 1 := ⟨n - 1, by omega⟩
    have hi10 : i < 10 := by omega
    have i1 : z_inb (nI i) 10 = true := z_inb_t hi10 (by decide)
    have i2 : (nI i).toNatClampNeg = i := z_cl (by omega)
    have j1 : z_inb (nI (5 * t + p)) 60 = true := z_inb_t (by omega) (by decide)
    have j2 : (nI (5 * t + p)).toNatClampNeg = 5 * t + p := z_cl (by omega)
    rw [zf_X6_narrow_2.eq_2]
    by_cases c : zB (z_rI u 4 (5 * t + p)) i
    · have c' : (z_rI u 4 (5 * t + p) >>> (nI i &&& 31)) &&& 1 = 1 := c
      have key : ∀ f l : Int32, f = (if z_rI u 9 0 < z_rI u 0 i then z_rI u 0 i else z_rI u 9 0) → l = (if z_rI u 1 i < z_rI u 10 0 then z_rI u 1 i else z_rI u 10 0) → ∃ v, zf_X6_narrow_2 (nI t) (nI p) m (nI (i + 1)) (z_wI (z_wI u 9 0 f) 10 0 l) = some (nI 10, v) ∧ zSM u v ∧
          (∀ z : Int, (z_rI v 9 0).toInt ≤ z ↔ (z_rI u 9 0).toInt ≤ z ∧ ∀ w, i ≤ w → w < 10 → zB (z_rI u 4 (5 * t + p)) w → (z_rI u 0 w).toInt ≤ z) ∧ (∀ z : Int, z ≤ (z_rI v 10 0).toInt ↔ z ≤ (z_rI u 10 0).toInt ∧ ∀ w, i ≤ w → w < 10 → zB (z_rI u 4 (5 * t + p)) w → z ≤ (z_rI u 1 w).toInt) := by
        intro f l hf hl
        obtain ⟨v, h1, h2, h3, h4⟩ := ih (i + 1) (z_wI (z_wI u 9 0 f) 10 0 l) m (by omega) (by omega)
        have r9 : z_rI (z_wI (z_wI u 9 0 f) 10 0 l) 9 0 = f := rfl
        have r10 : z_rI (z_wI (z_wI u 9 0 f) 10 0 l) 10 0 = l := rfl
        have r4 : z_rI (z_wI (z_wI u 9 0 f) 10 0 l) 4 = z_rI u 4 := rfl
        have r0 : z_rI (z_wI (z_wI u 9 0 f) 10 0 l) 0 = z_rI u 0 := rfl
        have r1 : z_rI (z_wI (z_wI u 9 0 f) 10 0 l) 1 = z_rI u 1 := rfl
        rw [r4, r9, r0] at h3
        rw [r4, r10, r1] at h4
        refine ⟨v, h1, zSM_t (zSM_t (zSM_w u 9 0 f (by decide)) (zSM_w _ 10 0 l (by decide))) h2, fun z => ?_, fun z => ?_⟩
        · rw [h3, z_maxI (z_rI u 9 0) (z_rI u 0 i) f hf]
          constructor
          · rintro ⟨⟨a, b⟩, d⟩
            refine ⟨a, fun w h4 h5 h6 => ?_⟩
            by_cases q : w = i
            · subst q; exact b
            · exact d w (by omega) h5 h6
          · rintro ⟨a, d⟩
            exact ⟨⟨a, d i (Nat.le_refl i) hi10 c⟩, fun w h4 h5 h6 => d w (by omega) h5 h6⟩
        · rw [h4, z_minI (z_rI u 10 0) (z_rI u 1 i) l hl]
          constructor
          · rintro ⟨⟨a, b⟩, d⟩
            refine ⟨a, fun w h4 h5 h6 => ?_⟩
            by_cases q : w = i
            · subst q; exact b
            · exact d w (by omega) h5 h6
          · rintro ⟨a, d⟩
            exact ⟨⟨a, d i (Nat.le_refl i) hi10 c⟩, fun w h4 h5 h6 => d w (by omega) h5 h6⟩
      have w10 : ∀ v : Int32, z_rI (z_wI u 9 0 v) 10 = z_rI u 10 := fun _ => rfl
      have w1 : ∀ v : Int32, z_rI (z_wI u 9 0 v) 1 = z_rI u 1 := fun _ => rfl
      simp only [z_10lo hi10, if_false, z_5, j1, j2, c', if_true, i1, i2, z_gd, cond_true, z_nm, z_n1, w10, w1]
      by_cases q1 : z_rI u 0 i ≤ z_rI u 9 0
      · have q1' : ¬ z_rI u 9 0 < z_rI u 0 i := fun q => by
          have a := (z_ltI _ _).mp q
          have b := (z_leI _ _).mp q1
          omega
        simp only [q1, if_true]
        by_cases q2 : z_rI u 10 0 ≤ z_rI u 1 i
        · have q2' : ¬ z_rI u 1 i < z_rI u 10 0 := fun q => by
            have a := (z_ltI _ _).mp q
            have b := (z_leI _ _).mp q2
            omega
          simp only [q2, if_true]
          exact key _ _ (by rw [if_neg q1']) (by rw [if_neg q2'])
        · have q2' : z_rI u 1 i < z_rI u 10 0 := by
            rw [z_ltI]
            have : ¬ (z_rI u 10 0).toInt ≤ (z_rI u 1 i).toInt := fun q => q2 ((z_leI _ _).mpr q)
            omega
          simp only [q2, if_false]
          exact key _ _ (by rw [if_neg q1']) (by rw [if_pos q2'])
      · have q1' : z_rI u 9 0 < z_rI u 0 i := by
          rw [z_ltI]
          have : ¬ (z_rI u 0 i).toInt ≤ (z_rI u 9 0).toInt := fun q => q1 ((z_leI _ _).mpr q)
          omega
        simp only [q1, if_false]
        by_cases q2 : z_rI u 10 0 ≤ z_rI u 1 i
        · have q2' : ¬ z_rI u 1 i < z_rI u 10 0 := fun q => by
            have a := (z_ltI _ _).mp q
            have b := (z_leI _ _).mp q2
            omega
          simp only [q2, if_true]
          exact key _ _ (by rw [if_pos q1']) (by rw [if_neg q2'])
        · have q2' : z_rI u 1 i < z_rI u 10 0 := by
            rw [z_ltI]
            have : ¬ (z_rI u 10 0).toInt ≤ (z_rI u 1 i).toInt := fun q => q2 ((z_leI _ _).mpr q)
            omega
          simp only [q2, if_false]
          exact key _ _ (by rw [if_pos q1']) (by rw [if_pos q2'])
    · have c' : ¬ (z_rI u 4 (5 * t + p) >>> (nI i &&& 31)) &&& 1 = 1 := c
      obtain ⟨v, h1, h2, h3, h4⟩ := ih (i + 1) u m (by omega) (by omega)
      refine ⟨v, ?_, h2, fun z => ?_, fun z => ?_⟩
      · simp only [z_10lo hi10, if_false, z_5, j1, j2, z_gd, cond_true, c', z_nm, z_n1]
        exact h1
      · rw [h3]
        constructor
        · rintro ⟨a, d⟩
          refine ⟨a, fun w h4 h5 h6 => ?_⟩
          by_cases q : w = i
          · subst q; exact absurd h6 c
          · exact d w (by omega) h5 h6
        · rintro ⟨a, d⟩
          exact ⟨a, fun w h4 h5 h6 => d w (by omega) h5 h6⟩
      · rw [h4]
        constructor
        · rintro ⟨a, d⟩
          refine ⟨a, fun w h4 h5 h6 => ?_⟩
          by_cases q : w = i
          · subst q; exact absurd h6 c
          · exact d w (by omega) h5 h6
        · rintro ⟨a, d⟩
          exact ⟨a, fun w h4 h5 h6 => d w (by omega) h5 h6⟩
