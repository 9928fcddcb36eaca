/-- the walk through the reference's sums -/
def zAns (v i : Nat) : Int32 := if v / 13 ^ (5 - i) % 13 = 0 then -1 else nI (12 - v / 13 ^ (5 - i) % 13)
def zTkd (ux : z_St) (T E e s t : Nat) : Prop := zTk (zSc ux E T) T (E - (e + 1)) e s t
theorem z_updi (f : Nat → Int32) (j i : Nat) : upd f j (f j) i = f i := by
  unfold upd
  split
  · rename_i h
    rw [h]
  · rfl
theorem zm_f254 {T E : Nat} {ux um : z_St} (hS : zR_S T E ux um) (hT : T ≤ 12) (hE : E ≤ 6) {e s : Nat} (he : e < E) (hs : s < 4096) {w0 : z_St} (h36 : zTab ux T E w0) (hr : ∀ i, i ≤ E → zRow (zWj (zSc ux E T)) T E i w0) : ∀ (k n : Nat) (w : z_St), k ≤ T → k < n → zSM um w → z_rI w 34 = z_rI w0 34 → z_rI w 36 = z_rI w0 36 → (∀ i, i ≠ e → z_rI w 35 i = z_rI w0 35 i) →
    ((∃ t, k ≤ t ∧ t < T ∧ zTkd ux T E e s t ∧ (∀ t2, k ≤ t2 → t2 < t → ¬ zTkd ux T E e s t2) ∧ z_rI w 35 e = nI t) ∨ ((∀ t2, k ≤ t2 → t2 < T → ¬ zTkd ux T E e s t2) ∧ z_rI w 35 e = -1)) →
    ∃ (y : Int32) (v : z_St), zf_X6_findJoined_254 (nI s) (nI e) n (nI k - 1) w = some (y, v) ∧ zSM um v ∧ z_rI v 34 = z_rI w0 34 ∧ z_rI v 36 = z_rI w0 36 ∧ (∀ i, i ≠ e → z_rI v 35 i = z_rI w0 35 i) ∧
      ((∃ t, t < T ∧ zTkd ux T E e s t ∧ (∀ t2, t2 < t → ¬ zTkd ux T E e s t2) ∧ z_rI v 35 e = nI t) ∨ ((∀ t2, t2 < T → ¬ zTkd ux T E e s t2) ∧ z_rI v 35 e = -1)) := by
  intro k
  induction k with
  | zero =>
    intro n w hk hn h1 h34 h6 h5 hz
    obtain ⟨m, rfl⟩ : ∃ m, n = m + 1 := ⟨n - 1, by omega⟩
    refine ⟨nI 0 - 1, w, ?_, h1, h34, h6, h5, ?_⟩
    · rw [zf_X6_findJoined_254.eq_2, if_pos (by decide)]
    · rcases hz with ⟨t, -, z1, z2, z3, z4⟩ | ⟨z1, z2⟩
      · exact Or.inl ⟨t, z1, z2, fun t2 ht => z3 t2 (Nat.zero_le _) ht, z4⟩
      · exact Or.inr ⟨fun t2 ht => z1 t2 (Nat.zero_le _) ht, z2⟩
  | succ k ih =>
    intro n w hk hn h1 h34 h6 h5 hz
    obtain ⟨m, rfl⟩ : ∃ m, n = m + 1 := ⟨n - 1, by omega⟩
    have c : ¬ nI k < (0 : Int32) := nI_pos (by omega)
    have hb := z_bt (n := s) (j := k) (by omega) (by omega)
    have d1 : z_inb (nI e) 10 = true := z_inb_t (by omega) (by decide)
    have d2 : (nI e).toNatClampNeg = e := z_cl (by omega)
    have i1 : z_inb (nI (12 * e + k)) 120 = true := z_inb_t (by omega) (by decide)
    have i2 : (nI (12 * e + k)).toNatClampNeg = 12 * e + k := z_cl (by omega)
    have em : nI k + (-1) = nI k - 1 := (Int32.sub_eq_add_neg _ _).symm
    obtain ⟨x, x1, -, x3, x4⟩ := z_sc hS he (show k < T by omega) hT
    have hx : z_rI w 36 (12 * e + k) = x := by
      rw [h6, h36 e k he (by omega)]
      unfold zXs
      rw [x1]
      rfl
    have keep : ¬ zTkd ux T E e s k → ∃ (y : Int32) (v : z_St), zf_X6_findJoined_254 (nI s) (nI e) m (nI k - 1) (z_wI w 35 e (z_rI w 35 e)) = some (y, v) ∧ zSM um v ∧ z_rI v 34 = z_rI w0 34 ∧ z_rI v 36 = z_rI w0 36 ∧ (∀ i, i ≠ e → z_rI v 35 i = z_rI w0 35 i) ∧
      ((∃ t, t < T ∧ zTkd ux T E e s t ∧ (∀ t2, t2 < t → ¬ zTkd ux T E e s t2) ∧ z_rI v 35 e = nI t) ∨ ((∀ t2, t2 < T → ¬ zTkd ux T E e s t2) ∧ z_rI v 35 e = -1)) := by
      intro hc
      refine ih m _ (by omega) (by omega) (zSM_t h1 (zSM_35 w _ _)) (by rw [z_rw_n w _ _ (by decide)]; exact h34) (by rw [z_rw_n w _ _ (by decide)]; exact h6) (fun i hi => by rw [z_rw_s, z_updi]; exact h5 i hi) ?_
      rw [z_rw_s, z_updi]
      rcases hz with ⟨t, z0, z1, z2, z3, z4⟩ | ⟨z1, z2⟩
      · refine Or.inl ⟨t, by omega, z1, z2, fun t2 h2 h3 => ?_, z4⟩
        by_cases q : t2 = k
        · rw [q]
          exact hc
        · exact z3 t2 (by omega) h3
      · refine Or.inr ⟨fun t2 h2 h3 => ?_, z2⟩
        by_cases q : t2 = k
        · rw [q]
          exact hc
        · exact z1 t2 (by omega) h3
    rw [z_sub1, zf_X6_findJoined_254.eq_2, if_neg c]
    by_cases cb : s.testBit k = true
    · rw [if_pos (hb.mpr cb), z_gd_t _ d1, z_gd_t _ d1, d2]
      simp only [z_nm]
      rw [em]
      exact keep (fun z => by have := z.1; rw [cb] at this; cases this)
    · rw [if_neg (fun z => cb (hb.mp z)), z_12m, z_gd_t _ i1, i2, hx]
      have cf : s.testBit k = false := by
        cases h : s.testBit k with
        | false => rfl
        | true => exact absurd h cb
      simp only [z_nm]
      rcases x3 with ⟨c2, c3⟩ | ⟨c2, c3, c4⟩
      · rw [if_pos c2, z_gd_t _ d1, z_gd_t _ d1, d2]
        rw [em]
        exact keep (fun z => by have := z.2.1; omega)
      · have co := z_orlt hs (show k < 12 by omega)
        have j1 : z_inb (nI (4096 * (e + 1) + (s ||| 2 ^ k))) 28672 = true := z_inb_t (by omega) (by decide)
        have j2 : (nI (4096 * (e + 1) + (s ||| 2 ^ k))).toNatClampNeg = 4096 * (e + 1) + (s ||| 2 ^ k) := z_cl (by omega)
        have g1 : z_inb (nI (4096 * e + s)) 28672 = true := z_inb_t (by omega) (by decide)
        have g2 : (nI (4096 * e + s)).toNatClampNeg = 4096 * e + s := z_cl (by omega)
        have b1 := z_vb hS hT (E - (e + 1)) (e + 1) (s ||| 2 ^ k) (by omega)
        have b2 := z_vb hS hT (E - e) e s (by omega)
        have hEe : E - e = (E - (e + 1)) + 1 := by omega
        rw [if_neg c2, z_one (by omega), z_or, z_n1, z_4096, z_4096, z_gd_t _ j1, z_gd_t _ g1, j2, g2, h34, hr (e + 1) (by omega) _ co, hr e (by omega) s hs, c3, nI_add, em, d2]
        have hl := nI_eq (a := zSc ux E T e k + zV (zWj (zSc ux E T)) T (E - (e + 1)) (e + 1) (s ||| 2 ^ k) / 4826809) (b := zV (zWj (zSc ux E T)) T (E - e) e s / 4826809) (by omega) (by omega)
        by_cases cl : zSc ux E T e k + zV (zWj (zSc ux E T)) T (E - (e + 1)) (e + 1) (s ||| 2 ^ k) / 4826809 = zV (zWj (zSc ux E T)) T (E - e) e s / 4826809
        · rw [if_pos (hl.mpr cl), z_gd_t _ d1]
          have tk : zTkd ux T E e s k := ⟨cf, c4, by rw [hEe] at cl; exact cl⟩
          refine ih m _ (by omega) (by omega) (zSM_t h1 (zSM_35 w _ _)) (by rw [z_rw_n w _ _ (by decide)]; exact h34) (by rw [z_rw_n w _ _ (by decide)]; exact h6) (fun i hi => by rw [z_rw_s]; unfold upd; rw [if_neg hi]; exact h5 i hi) ?_
          refine Or.inl ⟨k, Nat.le_refl k, by omega, tk, fun t2 h2 h3 => by omega, ?_⟩
          rw [z_rw_s]
          unfold upd
          rw [if_pos rfl]
        · rw [if_neg (fun z => cl (hl.mp z)), z_gd_t _ d1, z_gd_t _ d1]
          exact keep (fun z => cl (by have := z.2.2; rw [hEe]; exact this))
theorem zm_f232 {T E : Nat} {ux um : z_St} (hS : zR_S T E ux um) (h2 : z_rI um 2 0 = nI T) (hT : T ≤ 12) (hE : E ≤ 6) (v0 : Nat) : ∀ (k e n s : Nat) (w : z_St), e + k = E → k < n → s < 4096 → zSM um w → zTab ux T E w → (∀ i, i ≤ E → zRow (zWj (zSc ux E T)) T E i w) → v0 % 13 ^ (6 - e) = zV (zWj (zSc ux E T)) T (E - e) e s % 13 ^ (6 - e) → (∀ i, i < e → z_rI w 35 i = zAns v0 i) →
    ∃ (y : Int32) (v : z_St), zf_X6_findJoined_232 n (nI s) (nI e) w = some (y, nI E, v) ∧ zSM um v ∧ z_rI v 34 = z_rI w 34 ∧ ∀ i, i < E → z_rI v 35 i = zAns v0 i := by
  have h32 := hS.2.1
  intro k
  induction k with
  | zero =>
    intro e n s w he hn hs h1 h36 hr hv ha
    obtain ⟨m, rfl⟩ : ∃ m, n = m + 1 := ⟨n - 1, by omega⟩
    have he : e = E := by omega
    subst he
    refine ⟨nI s, w, ?_, h1, rfl, ha⟩
    rw [zf_X6_findJoined_232.eq_2, zm_32 h1, h32, if_pos (nI_le (Nat.le_refl _) (by omega))]
  | succ k ih =>
    intro e n s w he hn hs h1 h36 hr hv ha
    obtain ⟨m, rfl⟩ : ∃ m, n = m + 1 := ⟨n - 1, by omega⟩
    have c : ¬ nI E ≤ nI e := nI_ge (by omega) (by omega)
    have d1 : z_inb (nI e) 10 = true := z_inb_t (by omega) (by decide)
    have d2 : (nI e).toNatClampNeg = e := z_cl (by omega)
    have hEe : E - e = (E - (e + 1)) + 1 := by omega
    have w1 : zSM um (z_wI w 35 e (-1)) := zSM_t h1 (zSM_35 w _ _)
    have t36 : zTab ux T E (z_wI w 35 e (-1)) := by
      intro i t hi ht
      rw [z_rw_n w _ _ (by decide)]
      exact h36 i t hi ht
    have r34 : ∀ i, i ≤ E → zRow (zWj (zSc ux E T)) T E i (z_wI w 35 e (-1)) := by
      intro i hi s2 hs2
      rw [z_rw_n w _ _ (by decide)]
      exact hr i hi s2 hs2
    obtain ⟨y, v, v1, v2, v3, v4, v5, v6⟩ := zm_f254 hS hT hE (show e < E by omega) hs t36 r34 T 5000 (z_wI w 35 e (-1)) (Nat.le_refl T) (by omega) w1 rfl rfl (fun _ _ => rfl) (Or.inr ⟨fun t2 h2 h3 => by omega, by rw [z_rw_s]; unfold upd; rw [if_pos rfl]⟩)
    have v34 : z_rI v 34 = z_rI w 34 := by rw [v3, z_rw_n w _ _ (by decide)]
    have v36 : zTab ux T E v := by
      intro i t hi ht
      rw [v4]
      exact t36 i t hi ht
    have vr : ∀ i, i ≤ E → zRow (zWj (zSc ux E T)) T E i v := by
      intro i hi s2 hs2
      rw [v3]
      exact r34 i hi s2 hs2
    have v35 : ∀ i, i < e → z_rI v 35 i = zAns v0 i := by
      intro i hi
      rw [v5 i (by omega), z_rw_s]
      unfold upd
      rw [if_neg (by omega)]
      exact ha i hi
    obtain ⟨g1, g2⟩ := z_dig (show e < 6 by omega) hv
    have h65 : 6 - (e + 1) = 5 - e := by omega
    rw [hEe] at g1 g2
    rw [zf_X6_findJoined_232.eq_2, zm_32 h1, h32, if_neg c, z_gd_t _ d1, d2]
    simp only [z_nm]
    rw [z_rw_n w _ _ (by decide), zm_2 h1, h2, z_bd2_e v1, z_gd_t _ d1]
    rcases z_walk (zSc ux E T) hT (r := E - (e + 1)) (e := e) s (by omega) with ⟨t, k1, k2, k3, k4, k5⟩ | ⟨k1, k2, k3⟩
    · have et : z_rI v 35 e = nI t := by
        rcases v6 with ⟨t2, j1, j2, j3, j4⟩ | ⟨j1, j2⟩
        · have : t2 = t := by
            rcases Nat.lt_trichotomy t2 t with q | q | q
            · exact absurd j2 (k3 t2 q)
            · exact q
            · exact absurd k2 (j3 t q)
          rw [j4, this]
        · exact absurd k2 (j1 t k1)
      have co := z_orlt hs (show t < 12 by omega)
      have c0 : (0 : Int32) ≤ nI t := nI_pos' (by omega)
      rw [et, if_pos c0, z_gd_t _ d1, z_one (by omega), z_or, z_n1]
      obtain ⟨y2, v7, a1, a2, a3, a4⟩ := ih (e + 1) m (s ||| 2 ^ t) v (by omega) (by omega) co v2 v36 vr (by rw [h65, g2, k5]) (by
        intro i hi
        by_cases q : i = e
        · subst q
          rw [et]
          unfold zAns
          rw [g1, k4, if_neg (by omega)]
          congr 1
          omega
        · exact v35 i (by omega))
      exact ⟨y2, v7, a1, a2, a3.trans v34, a4⟩
    · have et : z_rI v 35 e = -1 := by
        rcases v6 with ⟨t2, j1, j2, j3, j4⟩ | ⟨j1, j2⟩
        · exact absurd j2 (k1 t2 j1)
        · exact j2
      have o0 : nI s ||| 0 = nI s := (z_or s 0).trans (by rw [Nat.or_zero])
      rw [et, if_neg (by decide), o0, z_n1]
      obtain ⟨y2, v7, a1, a2, a3, a4⟩ := ih (e + 1) m s v (by omega) (by omega) hs v2 v36 vr (by rw [h65, g2, k3]) (by
        intro i hi
        by_cases q : i = e
        · subst q
          rw [et]
          unfold zAns
          rw [g1, k2, if_pos rfl]
        · exact v35 i (by omega))
      exact ⟨y2, v7, a1, a2, a3.trans v34, a4⟩
theorem zm_find {T E : Nat} {ux um : z_St} (hS : zR_S T E ux um) (h2 : z_rI um 2 0 = nI T) (hT : T ≤ 12) (hE : E ≤ 6) : ∃ v, zf_X6_findJoined um = some v ∧ zSM um v ∧ z_rI v 34 0 = nI (zV (zWj (zSc ux E T)) T E 0 0 / 4826809) ∧ ∀ i, i < E → z_rI v 35 i = zAns (zV (zWj (zSc ux E T)) T E 0 0) i := by
  obtain ⟨u1, a1, a2, a3⟩ := zm_f2 hS h2 hT E 0 5000 um (by omega) (by omega) (zSM_r um) (fun i t hi _ => by omega)
  obtain ⟨u2, b1, b2, b3, b4⟩ := zm_f51 hS hE 4096 0 5000 u1 (by omega) (by omega) a2 (fun i hi => by omega)
  have t2 : zTab ux T E u2 := by
    intro i t hi ht
    rw [b3]
    exact a3 i t hi ht
  obtain ⟨y, u3, c1, c2, c3, c4⟩ := zm_f87 hS h2 hT hE E 5000 u2 (Nat.le_refl E) (by omega) b2 t2 (by
    intro i hi hiE
    have : i = E := by omega
    subst this
    intro s hs
    have z0 : zV (zWj (zSc ux i T)) T 0 i s = 0 := rfl
    rw [b4 s hs, Nat.sub_self, z0, Nat.zero_div])
  obtain ⟨y2, u4, d1, d2, d3, d4⟩ := zm_f232 hS h2 hT hE (zV (zWj (zSc ux E T)) T E 0 0) E 0 5000 0 u3 (by omega) (by omega) (by omega) c2 c3 c4 rfl (fun i hi => by omega)
  have a1 : zf_X6_findJoined_2 5000 0 um = _ := a1
  have b1 : zf_X6_findJoined_51 5000 0 u1 = _ := b1
  have d1 : zf_X6_findJoined_232 5000 0 0 u3 = _ := d1
  refine ⟨u4, ?_, d2, ?_, d4⟩
  · unfold zf_X6_findJoined
    rw [z_bd2_e a1, z_bd2_e b1, zm_32 b2, hS.2.1]
    simp only [z_nm]
    rw [z_bd2_e c1, z_bd3_e d1]
  · rw [d3]
    exact c4 0 (Nat.zero_le _) 0 (by decide)
theorem zx_thingIn {v : Nat} (hv : v < 2 ^ 31) : ∀ i, i < 6 → zf_X3_thingIn (nI v) (nI i) = some (zAns v i) := by
  intro i hi
  have e0 : (0 : Int32).toInt = 0 := rfl
  have e5 : (5 : Int32).toInt = 5 := rfl
  have hw : zf_X5_within (nI i) 0 5 = 1 := zx_yes (by rw [nI_toInt (by omega), e0, e5]; omega)
  have p1 := z_pv ⟨i, hi⟩
  simp only at p1
  have d1 : z_inb (nI i) 6 = true := z_inb_t hi (by decide)
  have d2 : (nI i).toNatClampNeg = i := z_cl (by omega)
  have hp : 0 < 13 ^ (5 - i) := Nat.pow_pos (by decide)
  have hp2 : 13 ^ (5 - i) ≤ 13 ^ 5 := Nat.pow_le_pow_right (by decide) (by omega)
  have hp2 : 13 ^ (5 - i) ≤ 371293 := hp2
  have nz : z_nz (nI (13 ^ (5 - i))) = true := decide_eq_true (nI_ne0 hp (by omega))
  have hd : v / 13 ^ (5 - i) < 2 ^ 31 := Nat.lt_of_le_of_lt (Nat.div_le_self _ _) hv
  have hm := Nat.mod_lt (v / 13 ^ (5 - i)) (show 0 < 13 by decide)
  unfold zf_X3_thingIn
  rw [hw, if_neg (by decide), z_gd_t _ d1, d2, p1, z_gd_t _ nz, pk_div hv hp (by omega)]
  have hr : nI (v / 13 ^ (5 - i)) - nI (v / 13 ^ (5 - i)) / 13 * 13 = nI (v / 13 ^ (5 - i) % 13) := pk_rem hd (by decide) (by decide)
  simp only [z_nm]
  rw [hr]
  unfold zAns
  by_cases c : v / 13 ^ (5 - i) % 13 = 0
  · rw [if_pos c, if_pos (by rw [c]; rfl)]
  · rw [if_neg c, if_neg (nI_ne0 (by omega) (by omega))]
    have p2 := z_12s ⟨v / 13 ^ (5 - i) % 13, by omega⟩
    simp only at p2
    rw [p2]
theorem z_vlt {T E : Nat} {ux um : z_St} (hS : zR_S T E ux um) (hT : T ≤ 12) (hE : E ≤ 6) : zV (zWj (zSc ux E T)) T E 0 0 < 2 ^ 31 := by
  have h := zV_le (zWj_le hS hT) T E 0 0
  have h2 : E * 120670225 ≤ 6 * 120670225 := Nat.mul_le_mul_right _ hE
  omega
theorem zx_ij {ux : z_St} {E : Nat} (h : z_rI ux 15 0 = nI E) (hE : E ≤ 10) : zf_X3_isJoinable ux = if E ≤ 6 then 1 else 0 := by
  unfold zf_X3_isJoinable
  rw [h]
  by_cases c : E ≤ 6
  · rw [if_pos c, if_neg (by rw [z_lit]; exact nI_nlt (show E ≤ 6 from c) (by decide))]
  · rw [if_neg c, if_pos (by rw [z_lit]; exact nI_lt (show 6 < E by omega) (by omega))]
theorem zq_joined {k : Nat} {ux um : z_St} (hk : k < 512) (hR : zR k ux um) : ∃ (r : Int32) (vx : z_St) (vm : z_St), zf_X5_joined ux = some (r, vx) ∧ zf_X6_joined um = some (r, vm) ∧ zR (k + 1) vx vm := by
  obtain ⟨T, S, L, E, h, hP, hT, hA, hS, hD, hh⟩ := id hR
  have ij := zx_ij hS.1 hS.2.2.1
  by_cases c : E ≤ 6
  · obtain ⟨vx, x1, x2⟩ := zx_bestJoin hS hP.2.2.1 c
    obtain ⟨vm, m1, m2, m3, m4⟩ := zm_find hS hP.2.1 hP.2.2.1 c
    have hv := z_vlt hS hP.2.2.1 c
    have cl : nI E ≤ (6 : Int32) := by rw [z_lit]; exact nI_le (show E ≤ 6 from c) (by decide)
    refine ⟨nI (zV (zWj (zSc ux E T)) T E 0 0 / 4826809), vx, vm, ?_, ?_, zR_k (zR_sm (zR_sx hR x2) m2) (Nat.le_succ k)⟩
    · have tc : zf_X2_thingCount ux = nI T := hP.1
      unfold zf_X5_joined
      rw [ij, if_pos c, if_neg (by decide), tc, z_bd2_e x1]
      unfold zf_X3_sumIn
      rw [z_lit, pk_div hv (by decide) (by decide)]
    · unfold zf_X6_joined
      rw [hS.2.1, if_pos cl, z_bd_e m1, z_gd_t _ (by decide)]
      exact congrArg (fun q => some (q, vm)) m3
  · have cl : ¬ nI E ≤ (6 : Int32) := by rw [z_lit]; exact nI_ge (show 6 < E by omega) (by have := hS.2.2.1; omega)
    refine ⟨-3, ux, um, ?_, ?_, zR_k hR (Nat.le_succ k)⟩
    · unfold zf_X5_joined
      rw [ij, if_neg c, if_pos rfl]
    · unfold zf_X6_joined
      rw [hS.2.1, if_neg cl]
theorem zq_joinedTo {k : Nat} {ux um : z_St} (hk : k < 512) (hR : zR k ux um) (a1 : Int32) : ∃ (r : Int32) (vx : z_St) (vm : z_St), zf_X5_joinedTo ux a1 = some (r, vx) ∧ zf_X6_joinedTo um a1 = some (r, vm) ∧ zR (k + 1) vx vm := by
  obtain ⟨T, S, L, E, h, hP, hT, hA, hS, hD, hh⟩ := id hR
  have ij := zx_ij hS.1 hS.2.2.1
  have x0 : zf_X3_hasEntry ux a1 = zf_X5_within a1 0 (nI E - 1) := by
    unfold zf_X3_hasEntry
    rw [hS.1]
  have m0 : zf_X6_in a1.toInt64 0 (nI E - 1).toInt64 = zf_X5_within a1 0 (nI E - 1) := zm_in a1 0 (nI E - 1)
  by_cases c0 : zf_X5_within a1 0 (nI E - 1) = 0
  · refine ⟨-2, ux, um, ?_, ?_, zR_k hR (Nat.le_succ k)⟩
    · unfold zf_X5_joinedTo
      rw [x0, if_pos c0]
    · unfold zf_X6_joinedTo
      rw [hS.2.1, m0, if_pos c0]
  obtain ⟨i, hi, rfl⟩ := zx_idx (by have := hS.2.2.1; omega) c0
  by_cases c : E ≤ 6
  · obtain ⟨vx, x1, x2⟩ := zx_bestJoin hS hP.2.2.1 c
    obtain ⟨vm, m1, m2, m3, m4⟩ := zm_find hS hP.2.1 hP.2.2.1 c
    have hv := z_vlt hS hP.2.2.1 c
    have cl : nI E ≤ (6 : Int32) := by rw [z_lit]; exact nI_le (show E ≤ 6 from c) (by decide)
    refine ⟨zAns (zV (zWj (zSc ux E T)) T E 0 0) i, vx, vm, ?_, ?_, zR_k (zR_sm (zR_sx hR x2) m2) (Nat.le_succ k)⟩
    · have tc : zf_X2_thingCount ux = nI T := hP.1
      unfold zf_X5_joinedTo
      rw [x0, if_neg c0, ij, if_pos c, if_neg (by decide), tc, z_bd2_e x1, z_bd_e (zx_thingIn hv i (by omega))]
    · unfold zf_X6_joinedTo
      rw [hS.2.1, m0, if_neg c0, if_pos cl, z_bd_e m1, z_gd_t _ (z_inb_t (by omega) (by decide)), z_cl (by omega), m4 i hi]
  · have cl : ¬ nI E ≤ (6 : Int32) := by rw [z_lit]; exact nI_ge (show 6 < E by omega) (by have := hS.2.2.1; omega)
    refine ⟨-3, ux, um, ?_, ?_, zR_k hR (Nat.le_succ k)⟩
    · unfold zf_X5_joinedTo
      rw [x0, if_neg c0, ij, if_neg c, if_pos rfl]
    · unfold zf_X6_joinedTo
      rw [hS.2.1, m0, if_neg c0, if_neg cl]
