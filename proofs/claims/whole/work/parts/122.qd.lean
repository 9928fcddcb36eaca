theorem z_uniqL {f g : Int32} (h : ∀ z : Int, f.toInt ≤ z ↔ g.toInt ≤ z) : f = g :=
  Int32.toInt_inj.mp (by have := h f.toInt; have := h g.toInt; omega)
theorem z_uniqR {f g : Int32} (h : ∀ z : Int, z ≤ f.toInt ↔ z ≤ g.toInt) : f = g :=
  Int32.toInt_inj.mp (by have := h f.toInt; have := h g.toInt; omega)
theorem zm_narrow {t p : Nat} (ht : t < 12) (hp : p < 5) (u : z_St) : ∃ v, zf_X6_narrow u (nI t) (nI p) = some v ∧ zSM u v ∧
    (∀ z : Int, (z_rI v 9 0).toInt ≤ z ↔ (z_rI u 9 0).toInt ≤ z ∧ ∀ w, w < 10 → zB (z_rI u 4 (5 * t + p)) w → (z_rI u 0 w).toInt ≤ z) ∧ (∀ z : Int, z ≤ (z_rI v 10 0).toInt ↔ z ≤ (z_rI u 10 0).toInt ∧ ∀ w, w < 10 → zB (z_rI u 4 (5 * t + p)) w → z ≤ (z_rI u 1 w).toInt) := by
  obtain ⟨v, h1, h2, h3, h4⟩ := zm_narrow2 ht hp 10 0 u 5000 (by omega) (by omega)
  refine ⟨v, ?_, h2, fun z => ?_, fun z => ?_⟩
  · unfold zf_X6_narrow
    exact z_bd2_e h1
  · rw [h3]
    exact ⟨fun ⟨a, d⟩ => ⟨a, fun w h5 h6 => d w (by omega) h5 h6⟩, fun ⟨a, d⟩ => ⟨a, fun w _ h5 h6 => d w h5 h6⟩⟩
  · rw [h4]
    exact ⟨fun ⟨a, d⟩ => ⟨a, fun w h5 h6 => d w (by omega) h5 h6⟩, fun ⟨a, d⟩ => ⟨a, fun w _ h5 h6 => d w h5 h6⟩⟩
/-- the years of some WORKS, on the class's side -/
theorem zx_yearOf {T : Nat} {ux um : z_St} (hP : zR_P T ux um) (x : Int32) : ∃ f l : Int32, (∀ a : Int32, zf_X2_yearOf ux x a = if f ≤ l then (if a = 0 then some f else some l) else some (-1)) ∧
    (∀ z : Int, f.toInt ≤ z ↔ 1600 ≤ z ∧ ∀ w, w < 10 → zB x w → (z_rI um 0 w).toInt ≤ z) ∧ (∀ z : Int, z ≤ l.toInt ↔ z ≤ 1950 ∧ ∀ w, w < 10 → zB x w → z ≤ (z_rI um 1 w).toInt) := by
  obtain ⟨f, l, h1, h2, h3⟩ := zx_years ux x 10 0 1600 1950 5000 (by omega) (by omega)
  have h1 : zf_X2_yearOf_12 x ux 5000 1600 1950 0 = some (f, l, nI 10) := h1
  have e1 : (1600 : Int32).toInt = 1600 := rfl
  have e2 : (1950 : Int32).toInt = 1950 := rfl
  refine ⟨f, l, fun a => ?_, fun z => ?_, fun z => ?_⟩
  · unfold zf_X2_yearOf
    rw [z_bd3_e h1]
  · rw [h2, e1]
    exact ⟨fun ⟨a, d⟩ => ⟨a, fun w h5 h6 => by rw [← (hP.2.2.2.1 w h5).1]; exact d w (by omega) h5 h6⟩, fun ⟨a, d⟩ => ⟨a, fun w _ h5 h6 => by rw [(hP.2.2.2.1 w h5).1]; exact d w h5 h6⟩⟩
  · rw [h3, e2]
    exact ⟨fun ⟨a, d⟩ => ⟨a, fun w h5 h6 => by rw [← (hP.2.2.2.1 w h5).2]; exact d w (by omega) h5 h6⟩, fun ⟨a, d⟩ => ⟨a, fun w _ h5 h6 => by rw [(hP.2.2.2.1 w h5).2]; exact d w h5 h6⟩⟩
theorem zm_all (u : z_St) : zf_X6_allYears u = some (z_wI (z_wI u 9 0 1600) 10 0 1950) := rfl
theorem zSM_all (u : z_St) : zSM u (z_wI (z_wI u 9 0 1600) 10 0 1950) := zSM_t (zSM_w u 9 0 1600 (by decide)) (zSM_w _ 10 0 1950 (by decide))
theorem zq_span {k : Nat} {ux um : z_St} (hk : k < 512) (hR : zR k ux um) (a1 a2 a3 : Int32) : ∃ (r : Int32) (vm : z_St), zf_X5_span ux a1 a2 a3 = some r ∧ zf_X6_span um a1 a2 a3 = some (r, vm) ∧ zR (k + 1) ux vm := by
  obtain ⟨T, S, L, E, h, hP, hT, hA, hS, hD, hh⟩ := id hR
  obtain ⟨p1, p2, p3, p4, p5, p6, p7⟩ := id hP
  have n1 := zm_no a1 p2
  have x1 := zx_has a1 p1
  by_cases c1 : zf_X5_within a1 0 (nI T - 1) = 0
  · rw [if_pos c1] at n1
    have n1' : ¬ (1 : Int32) = 0 := by decide
    exact ⟨-2, um, by simp only [zf_X5_span, zf_X2_hasPart, x1, c1, if_true, z_bd], by simp only [zf_X6_span, n1, n1', if_false], zR_k hR (Nat.le_succ k)⟩
  rw [if_neg c1] at n1
  obtain ⟨t, ht, rfl⟩ := zx_idx (by omega) c1
  obtain ⟨y1, p, y2, y3, y4⟩ := p5 t ht
  have i1 : z_inb (nI t) 12 = true := z_inb_t (by omega) (by decide)
  have i2 : (nI t).toNatClampNeg = t := z_cl (by omega)
  have y5 : z_rI ux 7 t = nI p := y1.trans y4
  have m2 : zf_X6_in a2.toInt64 0 (nI p - 1).toInt64 = zf_X5_within a2 0 (nI p - 1) := zm_in a2 0 (nI p - 1)
  have m3 : zf_X6_in a3.toInt64 0 1 = zf_X5_within a3 0 1 := zm_in a3 0 1
  have z1 : ¬ (1 : Int32) = 0 := by decide
  by_cases c2 : zf_X5_within a2 0 (nI p - 1) = 0
  · exact ⟨-2, um, by simp only [zf_X5_span, zf_X2_hasPart, x1, c1, if_false, i1, i2, z_gd, cond_true, y5, c2, if_true, z_bd], by simp only [zf_X6_span, n1, if_true, i1, i2, z_gd, cond_true, y4, m2, c2], zR_k hR (Nat.le_succ k)⟩
  by_cases c3 : zf_X5_within a3 0 1 = 0
  · exact ⟨-2, um, by simp only [zf_X5_span, zf_X2_hasPart, x1, c1, if_false, i1, i2, z_gd, cond_true, y5, c2, z_bd, z1, c3, if_true], by simp only [zf_X6_span, n1, if_true, i1, i2, z_gd, cond_true, y4, m2, c2, if_false, m3, c3], zR_k hR (Nat.le_succ k)⟩
  obtain ⟨j, hj, rfl⟩ := zx_idx (by omega) c2
  have j1 : z_inb (nI (5 * t + j)) 60 = true := z_inb_t (by omega) (by decide)
  have j2 : (nI (5 * t + j)).toNatClampNeg = 5 * t + j := z_cl (by omega)
  obtain ⟨f, l, hx, hf, hl⟩ := zx_yearOf hP (z_rI um 4 (5 * t + j))
  obtain ⟨v, w1, w2, w3, w4⟩ := zm_narrow (show t < 12 by omega) (show j < 5 by omega) (z_wI (z_wI um 9 0 1600) 10 0 1950)
  have ef : z_rI v 9 0 = f := z_uniqL (fun z => by
    rw [w3, hf]
    exact Iff.rfl)
  have el : z_rI v 10 0 = l := z_uniqR (fun z => by
    rw [w4, hl]
    exact Iff.rfl)
  have eX : zf_X5_span ux (nI t) (nI j) a3 = if f ≤ l then (if a3 = 0 then some f else some l) else some (-1) := by
    simp only [zf_X5_span, zf_X2_hasPart, x1, c1, if_false, i1, i2, z_gd, cond_true, y5, c2, z_bd, z1, c3, zf_X2_worksOf, z_5r, j1, j2, p6 t ht j (by omega), hx]
    by_cases q : f ≤ l
    · rw [if_pos q]
      by_cases q2 : a3 = 0
      · rw [if_pos q2]
      · rw [if_neg q2]
    · rw [if_neg q]
  have eM : zf_X6_span um (nI t) (nI j) a3 = if f ≤ l then (if a3 = 0 then some (f, v) else some (l, v)) else some (-1, v) := by
    simp only [zf_X6_span, n1, if_true, i1, i2, z_gd, cond_true, y4, m2, c2, if_false, m3, c3, zm_all, z_bd, w1, ef, el]
  rw [eX, eM]
  have hv : zSM um v := zSM_t (zSM_all um) w2
  by_cases q : f ≤ l
  · rw [if_pos q, if_pos q]
    by_cases q2 : a3 = 0
    · rw [if_pos q2, if_pos q2]
      exact ⟨f, v, rfl, rfl, zR_k (zR_sm hR hv) (Nat.le_succ k)⟩
    · rw [if_neg q2, if_neg q2]
      exact ⟨l, v, rfl, rfl, zR_k (zR_sm hR hv) (Nat.le_succ k)⟩
  · rw [if_neg q, if_neg q]
    exact ⟨-1, v, rfl, rfl, zR_k (zR_sm hR hv) (Nat.le_succ k)⟩
/-- the WORKS of the PARTS that stay -/
theorem zx_without {T : Nat} {ux um : z_St} (hP : zR_P T ux um) {t p : Nat} (ht : t < T) (hp : z_rI um 3 t = nI p) (hp5 : p ≤ 5) (s : Int32) : ∃ x, zf_X2_worksWithout ux (nI t) s = some x ∧ ∀ w, w < 10 → (zB x w ↔ ∃ j, j < p ∧ (s >>> (nI j &&& 31)) &&& 1 = 0 ∧ zB (z_rI um 4 (5 * t + j)) w) := by
  obtain ⟨p1, p2, p3, p4, p5, p6, p7⟩ := id hP
  have i1 : z_inb (nI t) 12 = true := z_inb_t (by omega) (by decide)
  have i2 : (nI t).toNatClampNeg = t := z_cl (by omega)
  have y5 : z_rI ux 7 t = nI p := (p5 t ht).1.trans hp
  have st : ∀ (k i : Nat) (x : Int32) (n : Nat), i + k = p → k < n → ∃ x2, zf_X2_worksWithout_5 (nI t) s ux n x (nI i) = some (x2, nI p) ∧ ∀ w, w < 10 → (zB x2 w ↔ zB x w ∨ ∃ j, i ≤ j ∧ j < p ∧ (s >>> (nI j &&& 31)) &&& 1 = 0 ∧ zB (z_rI um 4 (5 * t + j)) w) := by
    intro k
    induction k with
    | zero =>
      intro i x n hi hn
      obtain ⟨m, rfl⟩ : ∃ z, n = z + 1 := ⟨n - 1, by omega⟩
      have hi : i = p := by omega
      subst hi
      refine ⟨x, ?_, fun w hw => ⟨fun h => Or.inl h, fun h => h.elim id (fun ⟨j, a, b, _⟩ => absurd b (by omega))⟩⟩
      rw [zf_X2_worksWithout_5.eq_2]
      simp only [i1, i2, z_gd, cond_true, y5, z_hi i, if_true]
    | succ k ih =>
      intro i x n hi hn
      obtain ⟨m, rfl⟩ : ∃ z, n = z + 1 := ⟨n - 1, by omega⟩
      have c := z_lo (show i < p by omega) (by omega)
      have j1 : z_inb (nI (5 * t + i)) 60 = true := z_inb_t (by omega) (by decide)
      have j2 : (nI (5 * t + i)).toNatClampNeg = 5 * t + i := z_cl (by omega)
      have hw : zf_X2_worksOf ux (nI t) (nI i) = some (z_rI um 4 (5 * t + i)) := by
        simp only [zf_X2_worksOf, z_5r, j1, j2, z_gd, cond_true, p6 t ht i (by omega)]
      rw [zf_X2_worksWithout_5.eq_2]
      by_cases b : (s >>> (nI i &&& 31)) &&& 1 = 0
      · obtain ⟨x2, h1, h2⟩ := ih (i + 1) (x ||| z_rI um 4 (5 * t + i)) m (by omega) (by omega)
        refine ⟨x2, ?_, fun w hw' => ?_⟩
        · simp only [i1, i2, z_gd, cond_true, y5, c, if_false, b, if_true, hw, z_bd, z_nm, z_n1]
          exact h1
        · rw [h2 w hw', zB_or]
          constructor
          · rintro ((a | a) | ⟨j, a1, a2, a3⟩)
            · exact Or.inl a
            · exact Or.inr ⟨i, Nat.le_refl i, by omega, b, a⟩
            · exact Or.inr ⟨j, by omega, a2, a3⟩
          · rintro (a | ⟨j, a1, a2, a3, a4⟩)
            · exact Or.inl (Or.inl a)
            · by_cases q : j = i
              · subst q
                exact Or.inl (Or.inr a4)
              · exact Or.inr ⟨j, by omega, a2, a3, a4⟩
      · obtain ⟨x2, h1, h2⟩ := ih (i + 1) x m (by omega) (by omega)
        refine ⟨x2, ?_, fun w hw' => ?_⟩
        · simp only [i1, i2, z_gd, cond_true, y5, c, if_false, b, z_nm, z_n1]
          exact h1
        · rw [h2 w hw']
          constructor
          · rintro (a | ⟨j, a1, a2, a3⟩)
            · exact Or.inl a
            · exact Or.inr ⟨j, by omega, a2, a3⟩
          · rintro (a | ⟨j, a1, a2, a3, a4⟩)
            · exact Or.inl a
            · by_cases q : j = i
              · subst q
                exact absurd a3 b
              · exact Or.inr ⟨j, by omega, a2, a3, a4⟩
  obtain ⟨x, h1, h2⟩ := st p 0 0 5000 (by omega) (by omega)
  refine ⟨x, ?_, fun w hw => ?_⟩
  · unfold zf_X2_worksWithout
    exact z_bd2_e h1
  · rw [h2 w hw]
    exact ⟨fun a => a.elim (fun a => absurd a (zB_0 w (by omega))) (fun ⟨j, _, b, c⟩ => ⟨j, b, c⟩), fun ⟨j, b, c⟩ => Or.inr ⟨j, by omega, b, c⟩⟩
