/-- a set of PARTS left out: both sides narrow alike -/
theorem zm_keep {T : Nat} {ux um : z_St} (hP : zR_P T ux um) {t p : Nat} (ht : t < T) (hp : z_rI um 3 t = nI p) (hp5 : p ≤ 5) (s : Int32) : ∀ (k i : Nat) (u : z_St), i + k = p → zSM um u → ∃ v, (∀ n, k < n → zf_X6_findApart_25 (nI t) s n (nI i) u = some (nI p, v)) ∧ (¬ s < 0 → ∀ n, k < n → zf_X6_findApart_98 (nI t) s n (nI i) u = some (nI p, v)) ∧ zSM um v ∧
    (∀ z : Int, (z_rI v 9 0).toInt ≤ z ↔ (z_rI u 9 0).toInt ≤ z ∧ ∀ j, i ≤ j → j < p → (s >>> (nI j &&& 31)) &&& 1 = 0 → ∀ w, w < 10 → zB (z_rI um 4 (5 * t + j)) w → (z_rI um 0 w).toInt ≤ z) ∧
    (∀ z : Int, z ≤ (z_rI v 10 0).toInt ↔ z ≤ (z_rI u 10 0).toInt ∧ ∀ j, i ≤ j → j < p → (s >>> (nI j &&& 31)) &&& 1 = 0 → ∀ w, w < 10 → zB (z_rI um 4 (5 * t + j)) w → z ≤ (z_rI um 1 w).toInt) := by
  have i1 : z_inb (nI t) 12 = true := z_inb_t (by have := hP.2.2.1; omega) (by decide)
  have i2 : (nI t).toNatClampNeg = t := z_cl (by have := hP.2.2.1; omega)
  intro k
  induction k with
  | zero =>
    intro i u hi hu
    have hi : i = p := by omega
    subst hi
    have r3 : z_rI u 3 t = nI i := by rw [hu.1 3 (by decide) (by decide) (by decide) (by decide) (by decide) (by decide) (by decide) (by decide) (by decide)]; exact hp
    refine ⟨u, fun n hn => ?_, fun _ n hn => ?_, hu, fun z => ?_, fun z => ?_⟩
    · obtain ⟨m, rfl⟩ : ∃ z, n = z + 1 := ⟨n - 1, by omega⟩
      rw [zf_X6_findApart_25.eq_2]
      simp only [i1, i2, z_gd, cond_true, r3, z_hi i, if_true]
    · obtain ⟨m, rfl⟩ : ∃ z, n = z + 1 := ⟨n - 1, by omega⟩
      rw [zf_X6_findApart_98.eq_2]
      simp only [i1, i2, z_gd, cond_true, r3, z_hi i, if_true]
    · exact ⟨fun h => ⟨h, fun j a b => absurd b (by omega)⟩, fun h => h.1⟩
    · exact ⟨fun h => ⟨h, fun j a b => absurd b (by omega)⟩, fun h => h.1⟩
  | succ k ih =>
    intro i u hi hu
    have c := z_lo (show i < p by omega) (by omega)
    have r3 : z_rI u 3 t = nI p := by rw [hu.1 3 (by decide) (by decide) (by decide) (by decide) (by decide) (by decide) (by decide) (by decide) (by decide)]; exact hp
    have r4 : z_rI u 4 = z_rI um 4 := hu.1 4 (by decide) (by decide) (by decide) (by decide) (by decide) (by decide) (by decide) (by decide) (by decide)
    have r0 : z_rI u 0 = z_rI um 0 := hu.1 0 (by decide) (by decide) (by decide) (by decide) (by decide) (by decide) (by decide) (by decide) (by decide)
    have r1 : z_rI u 1 = z_rI um 1 := hu.1 1 (by decide) (by decide) (by decide) (by decide) (by decide) (by decide) (by decide) (by decide) (by decide)
    by_cases b : (s >>> (nI i &&& 31)) &&& 1 = 0
    · obtain ⟨v1, w1, w2, w3, w4⟩ := zm_narrow (show t < 12 by have := hP.2.2.1; omega) (show i < 5 by omega) u
      rw [r4, r0] at w3
      rw [r4, r1] at w4
      obtain ⟨v, h1, h2, h3, h4, h5⟩ := ih (i + 1) v1 (by omega) (zSM_t hu w2)
      refine ⟨v, fun n hn => ?_, fun hs n hn => ?_, h3, fun z => ?_, fun z => ?_⟩
      · obtain ⟨m, rfl⟩ : ∃ z, n = z + 1 := ⟨n - 1, by omega⟩
        rw [zf_X6_findApart_25.eq_2]
        simp only [i1, i2, z_gd, cond_true, r3, c, if_false, b, if_true, w1, z_bd, z_nm, z_n1]
        exact h1 m (by omega)
      · obtain ⟨m, rfl⟩ : ∃ z, n = z + 1 := ⟨n - 1, by omega⟩
        rw [zf_X6_findApart_98.eq_2]
        simp only [i1, i2, z_gd, cond_true, r3, c, if_false, hs, b, if_true, w1, z_bd, z_nm, z_n1]
        exact h2 hs m (by omega)
      · rw [h4, w3]
        constructor
        · rintro ⟨⟨a, d⟩, e⟩
          refine ⟨a, fun j a1 a2 a3 => ?_⟩
          by_cases q : j = i
          · subst q; exact d
          · exact e j (by omega) a2 a3
        · rintro ⟨a, e⟩
          exact ⟨⟨a, e i (Nat.le_refl i) (by omega) b⟩, fun j a1 a2 a3 => e j (by omega) a2 a3⟩
      · rw [h5, w4]
        constructor
        · rintro ⟨⟨a, d⟩, e⟩
          refine ⟨a, fun j a1 a2 a3 => ?_⟩
          by_cases q : j = i
          · subst q; exact d
          · exact e j (by omega) a2 a3
        · rintro ⟨a, e⟩
          exact ⟨⟨a, e i (Nat.le_refl i) (by omega) b⟩, fun j a1 a2 a3 => e j (by omega) a2 a3⟩
    · obtain ⟨v, h1, h2, h3, h4, h5⟩ := ih (i + 1) u (by omega) hu
      refine ⟨v, fun n hn => ?_, fun hs n hn => ?_, h3, fun z => ?_, fun z => ?_⟩
      · obtain ⟨m, rfl⟩ : ∃ z, n = z + 1 := ⟨n - 1, by omega⟩
        rw [zf_X6_findApart_25.eq_2]
        simp only [i1, i2, z_gd, cond_true, r3, c, if_false, b, z_nm, z_n1]
        exact h1 m (by omega)
      · obtain ⟨m, rfl⟩ : ∃ z, n = z + 1 := ⟨n - 1, by omega⟩
        rw [zf_X6_findApart_98.eq_2]
        simp only [i1, i2, z_gd, cond_true, r3, c, if_false, hs, b, z_nm, z_n1]
        exact h2 hs m (by omega)
      · rw [h4]
        constructor
        · rintro ⟨a, e⟩
          refine ⟨a, fun j a1 a2 a3 => ?_⟩
          by_cases q : j = i
          · subst q; exact absurd a3 b
          · exact e j (by omega) a2 a3
        · rintro ⟨a, e⟩
          exact ⟨a, fun j a1 a2 a3 => e j (by omega) a2 a3⟩
      · rw [h5]
        constructor
        · rintro ⟨a, e⟩
          refine ⟨a, fun j a1 a2 a3 => ?_⟩
          by_cases q : j = i
          · subst q; exact absurd a3 b
          · exact e j (by omega) a2 a3
        · rintro ⟨a, e⟩
          exact ⟨a, fun j a1 a2 a3 => e j (by omega) a2 a3⟩
/-- what leaving out a set gives, on both sides: the WORKS y.1, the first year y.2.1, the last y.2.2 -/
def zSet (ux um : z_St) (t p : Nat) (s : Int32) (y : Int32 × Int32 × Int32) : Prop :=
  zf_X2_worksWithout ux (nI t) s = some y.1 ∧ (∀ a : Int32, zf_X2_yearOf ux y.1 a = if y.2.1 ≤ y.2.2 then (if a = 0 then some y.2.1 else some y.2.2) else some (-1)) ∧ 1600 ≤ y.2.1.toInt ∧
  ∀ u, zSM um u → ∃ v, zf_X6_findApart_25 (nI t) s 5000 0 (z_wI (z_wI u 9 0 1600) 10 0 1950) = some (nI p, v) ∧ (¬ s < 0 → zf_X6_findApart_98 (nI t) s 5000 0 (z_wI (z_wI u 9 0 1600) 10 0 1950) = some (nI p, v)) ∧ zSM um v ∧ z_rI v 9 0 = y.2.1 ∧ z_rI v 10 0 = y.2.2
theorem z_set {T : Nat} {ux um : z_St} (hP : zR_P T ux um) {t p : Nat} (ht : t < T) (hp : z_rI um 3 t = nI p) (hp5 : p ≤ 5) (s : Int32) : ∃ y, zSet ux um t p s y := by
  obtain ⟨x, h1, h2⟩ := zx_without hP ht hp hp5 s
  obtain ⟨f, l, h3, h4, h5⟩ := zx_yearOf hP x
  refine ⟨(x, f, l), h1, h3, ((h4 f.toInt).mp (by omega)).1, fun u hu => ?_⟩
  obtain ⟨v, w1, w2, w3, w4, w5⟩ := zm_keep hP ht hp hp5 s p 0 (z_wI (z_wI u 9 0 1600) 10 0 1950) (by omega) (zSM_t hu (zSM_all u))
  refine ⟨v, w1 5000 (by omega), fun hs => w2 hs 5000 (by omega), w3, z_uniqL (fun z => ?_), z_uniqR (fun z => ?_)⟩
  · rw [w4]
    show (1600 : Int) ≤ z ∧ _ ↔ f.toInt ≤ z
    rw [h4]
    constructor
    · rintro ⟨a, e⟩
      refine ⟨a, fun w hw hb => ?_⟩
      obtain ⟨j, j1, j2, j3⟩ := (h2 w hw).mp hb
      exact e j (by omega) j1 j2 w hw j3
    · rintro ⟨a, e⟩
      exact ⟨a, fun j _ j1 j2 w hw hb => e w hw ((h2 w hw).mpr ⟨j, j1, j2, hb⟩)⟩
  · rw [w5]
    show z ≤ (1950 : Int) ∧ _ ↔ z ≤ l.toInt
    rw [h5]
    constructor
    · rintro ⟨a, e⟩
      refine ⟨a, fun w hw hb => ?_⟩
      obtain ⟨j, j1, j2, j3⟩ := (h2 w hw).mp hb
      exact e j (by omega) j1 j2 w hw j3
    · rintro ⟨a, e⟩
      exact ⟨a, fun j _ j1 j2 w hw hb => e w hw ((h2 w hw).mpr ⟨j, j1, j2, hb⟩)⟩
theorem z_pm1 {q : Nat} (hq : 0 < q) : nI q - 1 = nI (q - 1) := by
  obtain ⟨r, rfl⟩ : ∃ r, q = r + 1 := ⟨q - 1, by omega⟩
  rw [z_sub1, Nat.add_sub_cancel]
theorem z_apst {ux um : z_St} {T t p : Nat} (ht : t < T) (hT12 : T ≤ 12) (y4 : z_rI um 3 t = nI p) (y3 : p ≤ 5) {N : Nat} (eall : (1 : Int32) <<< (nI p &&& 31) - 1 = nI N) (hN : N ≤ 31) (Y : Int32 → Int32 × Int32 × Int32) (hY : ∀ s, zSet ux um t p s (Y s)) : ∀ (k i : Nat) (b : Int32) (u : z_St) (n1 n2 : Nat), i + k = N → k < n1 → k < n2 → zSM um u → (b = -1 ∨ ∃ j, j < 32 ∧ b = nI j ∧ (Y b).2.1 ≤ (Y b).2.2) → ∃ b2 v, zf_X2_strangers_16 (nI t) (nI N) ux n1 b (nI i) = some (b2, nI N) ∧ zf_X6_findApart_4 (nI t) n2 b (nI i) u = some (b2, nI N, v) ∧ zSM um v ∧ (b2 = -1 ∨ ∃ j, j < 32 ∧ b2 = nI j ∧ (Y b2).2.1 ≤ (Y b2).2.2) := by
  have i1 : z_inb (nI t) 12 = true := z_inb_t (by omega) (by decide)
  have i2 : (nI t).toNatClampNeg = t := z_cl (by omega)
  intro k
  induction k with
  | zero =>
    intro i b u n1 n2 hi h1 h2 hu hb
    obtain ⟨m1, rfl⟩ : ∃ z, n1 = z + 1 := ⟨n1 - 1, by omega⟩
    obtain ⟨m2, rfl⟩ : ∃ z, n2 = z + 1 := ⟨n2 - 1, by omega⟩
    have hi : i = N := by omega
    subst hi
    have r3 : z_rI u 3 t = nI p := by rw [hu.1 3 (by decide) (by decide) (by decide) (by decide) (by decide) (by decide) (by decide) (by decide) (by decide)]; exact y4
    refine ⟨b, u, by rw [zf_X2_strangers_16.eq_2, if_pos (z_hi _)], ?_, hu, hb⟩
    rw [zf_X6_findApart_4.eq_2]
    simp only [i1, i2, z_gd, cond_true, r3, eall, z_hi, if_true]
  | succ k ih =>
    intro i b u n1 n2 hi h1 h2 hu hb
    obtain ⟨m1, rfl⟩ : ∃ z, n1 = z + 1 := ⟨n1 - 1, by omega⟩
    obtain ⟨m2, rfl⟩ : ∃ z, n2 = z + 1 := ⟨n2 - 1, by omega⟩
    have r3 : z_rI u 3 t = nI p := by rw [hu.1 3 (by decide) (by decide) (by decide) (by decide) (by decide) (by decide) (by decide) (by decide) (by decide)]; exact y4
    have c := z_lo (show i < N by omega) (by omega)
    obtain ⟨s1, s2, s3, s4⟩ := hY (nI i)
    obtain ⟨v, v1, -, v2, v3, v4⟩ := s4 u hu
    have n1' : ¬ (Y (nI i)).2.1 = -1 := fun q => by
      rw [q] at s3
      have := z_m1T
      omega
    have b1 := zm_bits (show i < 4096 by omega)
    have b2 := zx_bc (show i < 4096 by omega)
    have eM : zf_X6_findApart_4 (nI t) (m2 + 1) b (nI i) u = if (Y (nI i)).2.2 < (Y (nI i)).2.1 then zf_X6_findApart_4 (nI t) m2 b (nI (i + 1)) v else if b < 0 then zf_X6_findApart_4 (nI t) m2 (nI i) (nI (i + 1)) v else z_bd (zf_X6_bits (nI i)) (fun r10 => z_bd (zf_X6_bits b) (fun r11 => if r11 ≤ r10 then zf_X6_findApart_4 (nI t) m2 b (nI (i + 1)) v else zf_X6_findApart_4 (nI t) m2 (nI i) (nI (i + 1)) v)) := by
      rw [zf_X6_findApart_4.eq_2, z_gd_t _ i1, i2, r3, eall, if_neg c, z_bd_e (zm_all u), z_bd2_e v1, v3, v4]
      simp only [z_nm, z_n1]
    have eX : ∀ R : Int32, zf_X2_yearOf ux (Y (nI i)).1 0 = some R → zf_X2_strangers_16 (nI t) (nI N) ux (m1 + 1) b (nI i) = if b = -1 then (if R = -1 then zf_X2_strangers_16 (nI t) (nI N) ux m1 b (nI (i + 1)) else zf_X2_strangers_16 (nI t) (nI N) ux m1 (nI i) (nI (i + 1))) else if zf_J6_bitCount_0f7a4 b ≤ zf_J6_bitCount_0f7a4 (nI i) then zf_X2_strangers_16 (nI t) (nI N) ux m1 b (nI (i + 1)) else (if R = -1 then zf_X2_strangers_16 (nI t) (nI N) ux m1 b (nI (i + 1)) else zf_X2_strangers_16 (nI t) (nI N) ux m1 (nI i) (nI (i + 1))) := by
      intro R hR
      rw [zf_X2_strangers_16.eq_2, if_neg c, z_bd_e s1, z_bd_e hR]
      simp only [z_nm, z_n1]
    rw [eM]
    by_cases ok : (Y (nI i)).2.1 ≤ (Y (nI i)).2.2
    · have ok' : ¬ (Y (nI i)).2.2 < (Y (nI i)).2.1 := fun q => by
        have a := (z_ltI _ _).mp q
        have d := (z_leI _ _).mp ok
        omega
      have ey : zf_X2_yearOf ux (Y (nI i)).1 0 = some (Y (nI i)).2.1 := by rw [s2, if_pos ok, if_pos rfl]
      rw [eX _ ey]
      rcases hb with hb | ⟨j, hj, hbj, hok⟩
      · have lt : (-1 : Int32) < 0 := by decide
        subst hb
        simp only [c, if_false, if_true, z_bd, n1', z_nm, z_n1, ok', lt]
        exact ih (i + 1) (nI i) v m1 m2 (by omega) (by omega) (by omega) v2 (Or.inr ⟨i, by omega, rfl, ok⟩)
      · subst hbj
        have nb : ¬ nI j = -1 := z_nIne (by omega)
        have nl : ¬ nI j < 0 := nI_pos (by omega)
        have d1 := zm_bits (show j < 4096 by omega)
        have d2 := zx_bc (show j < 4096 by omega)
        rw [z_bd_e b1, z_bd_e d1]
        by_cases f : nI (zp j 16) ≤ nI (zp i 16)
        · simp only [c, if_false, if_true, nb, b2, d2, f, z_nm, z_n1, z_bd, ok', nl]
          exact ih (i + 1) (nI j) v m1 m2 (by omega) (by omega) (by omega) v2 (Or.inr ⟨j, hj, rfl, hok⟩)
        · simp only [c, if_false, nb, b2, d2, f, n1', z_nm, z_n1, z_bd, ok', nl]
          exact ih (i + 1) (nI i) v m1 m2 (by omega) (by omega) (by omega) v2 (Or.inr ⟨i, by omega, rfl, ok⟩)
    · have ok' : (Y (nI i)).2.2 < (Y (nI i)).2.1 := by
        rw [z_ltI]
        have : ¬ (Y (nI i)).2.1.toInt ≤ (Y (nI i)).2.2.toInt := fun q => ok ((z_leI _ _).mpr q)
        omega
      have ey : zf_X2_yearOf ux (Y (nI i)).1 0 = some (-1) := by rw [s2, if_neg ok]
      rw [eX _ ey]
      rcases hb with hb | ⟨j, hj, hbj, hok⟩
      · subst hb
        simp only [c, if_false, if_true, z_bd, z_nm, z_n1, ok']
        exact ih (i + 1) (-1) v m1 m2 (by omega) (by omega) (by omega) v2 (Or.inl rfl)
      · subst hbj
        have nb : ¬ nI j = -1 := z_nIne (by omega)
        have d2 := zx_bc (show j < 4096 by omega)
        by_cases f : nI (zp j 16) ≤ nI (zp i 16)
        · simp only [c, if_false, if_true, nb, b2, d2, f, z_nm, z_n1, z_bd, ok']
          exact ih (i + 1) (nI j) v m1 m2 (by omega) (by omega) (by omega) v2 (Or.inr ⟨j, hj, rfl, hok⟩)
        · simp only [c, if_false, if_true, nb, b2, d2, f, z_nm, z_n1, z_bd, ok']
          exact ih (i + 1) (nI j) v m1 m2 (by omega) (by omega) (by omega) v2 (Or.inr ⟨j, hj, rfl, hok⟩)
/-- APART, on both sides; with it, what THE DATE needs -/
theorem z_apart {T : Nat} {ux um : z_St} (hP : zR_P T ux um) {t : Nat} (ht : t < T) : ∃ (b : Int32) (vm : z_St), zf_X2_strangers ux (nI t) = some b ∧ zf_X6_findApart um (nI t) = some (b, vm) ∧ zSM um vm ∧ (b = -1 ∨ (∃ j, j < 32 ∧ b = nI j) ∧ ∃ y : Int32 × Int32 × Int32, zf_X2_worksWithout ux (nI t) b = some y.1 ∧ (∀ a : Int32, zf_X2_yearOf ux y.1 a = if a = 0 then some y.2.1 else some y.2.2) ∧ z_rI vm 9 0 = y.2.1 ∧ z_rI vm 10 0 = y.2.2) := by
  obtain ⟨p1, p2, p3, p4, p5, p6, p7⟩ := id hP
  obtain ⟨y1, p, y2, y3, y4⟩ := p5 t ht
  have hT12 := p3
  obtain ⟨Y, hY⟩ : ∃ Y : Int32 → Int32 × Int32 × Int32, ∀ s, zSet ux um t p s (Y s) := Classical.skolem.mp (fun s => z_set hP ht y4 y3 s)
  have i1 : z_inb (nI t) 12 = true := z_inb_t (by omega) (by decide)
  have i2 : (nI t).toNatClampNeg = t := z_cl (by omega)
  have y5 : z_rI ux 7 t = nI p := y1.trans y4
  have hpw : 2 ^ p ≤ 32 := by
    have h : 2 ^ p ≤ 2 ^ 5 := Nat.pow_le_pow_right (by decide) y3
    omega
  have hp0 : 0 < 2 ^ p := Nat.two_pow_pos p
  have eall : (1 : Int32) <<< (nI p &&& 31) - 1 = nI (2 ^ p - 1) := by
    rw [z_one (show p < 31 by omega)]
    exact z_pm1 hp0
  have st := z_apst ht hT12 y4 y3 eall (show 2 ^ p - 1 ≤ 31 by omega) Y hY
  obtain ⟨b, u, h1, h2, h3, h4⟩ := st (2 ^ p - 1) 0 (-1) um 5000 5000 (by omega) (by omega) (by omega) (zSM_r um) (Or.inl rfl)
  have h1 : zf_X2_strangers_16 (nI t) (nI (2 ^ p - 1)) ux 5000 (-1) 0 = some (b, nI (2 ^ p - 1)) := h1
  have h2 : zf_X6_findApart_4 (nI t) 5000 (-1) 0 um = some (b, nI (2 ^ p - 1), u) := h2
  have hX : zf_X2_strangers ux (nI t) = some b := by
    simp only [zf_X2_strangers, i1, i2, z_gd, cond_true, y5, z_nm, eall, h1, z_bd2]
  rcases h4 with h4 | ⟨j, hj, hbj, hok⟩
  · subst h4
    refine ⟨-1, z_wI (z_wI u 9 0 1600) 10 0 1950, hX, ?_, zSM_t h3 (zSM_all u), Or.inl rfl⟩
    have r3 : z_rI (z_wI (z_wI u 9 0 1600) 10 0 1950) 3 t = nI p := by
      show z_rI u 3 t = nI p
      rw [h3.1 3 (by decide) (by decide) (by decide) (by decide) (by decide) (by decide) (by decide) (by decide) (by decide)]; exact y4
    have g98 : ∀ n, 0 < n → zf_X6_findApart_98 (nI t) (-1) n 0 (z_wI (z_wI u 9 0 1600) 10 0 1950) = some (0, z_wI (z_wI u 9 0 1600) 10 0 1950) := by
      intro n hn
      obtain ⟨m, rfl⟩ : ∃ z, n = z + 1 := ⟨n - 1, by omega⟩
      have np : ¬ nI p ≤ (0 : Int32) := nI_nle (by omega) (by omega)
      rw [zf_X6_findApart_98.eq_2]
      simp only [i1, i2, z_gd, cond_true, r3, np, if_false, show (-1 : Int32) < 0 by decide, if_true]
    have e98 := g98 5000 (by omega)
    simp only [zf_X6_findApart, h2, z_bd3, zm_all, z_bd, e98, z_bd2]
  · obtain ⟨s1, s2, s3, s4⟩ := hY b
    obtain ⟨v, -, v1, v2, v3, v4⟩ := s4 u h3
    have nl : ¬ b < 0 := by rw [hbj]; exact nI_pos (by omega)
    refine ⟨b, v, hX, ?_, v2, Or.inr ⟨⟨j, hj, hbj⟩, Y b, s1, fun a => by rw [s2, if_pos hok], v3, v4⟩⟩
    simp only [zf_X6_findApart, h2, z_bd3, zm_all, z_bd, v1 nl, z_bd2]
theorem zq_apart {k : Nat} {ux um : z_St} (hk : k < 512) (hR : zR k ux um) (a1 : Int32) : ∃ (r : Int32) (vm : z_St), zf_X5_apart ux a1 = some r ∧ zf_X6_apart um a1 = some (r, vm) ∧ zR (k + 1) ux vm := by
  obtain ⟨T, S, L, E, h, hP, hT, hA, hS, hD, hh⟩ := id hR
  have n1 := zm_no a1 hP.2.1
  have x1 := zx_has a1 hP.1
  have z1 : ¬ (1 : Int32) = 0 := by decide
  by_cases c1 : zf_X5_within a1 0 (nI T - 1) = 0
  · rw [if_pos c1] at n1
    exact ⟨-2, um, by simp only [zf_X5_apart, x1, c1, if_true], by simp only [zf_X6_apart, n1, z1, if_false], zR_k hR (Nat.le_succ k)⟩
  rw [if_neg c1] at n1
  obtain ⟨t, ht, rfl⟩ := zx_idx (by have := hP.2.2.1; omega) c1
  obtain ⟨b, vm, h1, h2, h3, -⟩ := z_apart hP ht
  exact ⟨b, vm, by simp only [zf_X5_apart, x1, c1, if_false, h1, z_bd], by simp only [zf_X6_apart, n1, if_true, h2, z_bd2], zR_k (zR_sm hR h3) (Nat.le_succ k)⟩
theorem zq_date {k : Nat} {ux um : z_St} (hk : k < 512) (hR : zR k ux um) (a1 a2 : Int32) : ∃ (r : Int32) (vm : z_St), zf_X5_date ux a1 a2 = some r ∧ zf_X6_date um a1 a2 = some (r, vm) ∧ zR (k + 1) ux vm := by
  obtain ⟨T, S, L, E, h, hP, hT, hA, hS, hD, hh⟩ := id hR
  have n1 := zm_no a1 hP.2.1
  have x1 := zx_has a1 hP.1
  have z1 : ¬ (1 : Int32) = 0 := by decide
  have m2 : zf_X6_in a2.toInt64 0 1 = zf_X5_within a2 0 1 := zm_in a2 0 1
  by_cases c1 : zf_X5_within a1 0 (nI T - 1) = 0
  · rw [if_pos c1] at n1
    exact ⟨-2, um, by simp only [zf_X5_date, x1, c1, if_true], by simp only [zf_X6_date, n1, z1, if_false], zR_k hR (Nat.le_succ k)⟩
  rw [if_neg c1] at n1
  by_cases c2 : zf_X5_within a2 0 1 = 0
  · exact ⟨-2, um, by simp only [zf_X5_date, x1, c1, c2, if_true, if_false], by simp only [zf_X6_date, n1, m2, c2, if_true], zR_k hR (Nat.le_succ k)⟩
  obtain ⟨t, ht, rfl⟩ := zx_idx (by have := hP.2.2.1; omega) c1
  obtain ⟨b, vm, h1, h2, h3, h4⟩ := z_apart hP ht
  rcases h4 with rfl | ⟨⟨j, hj, hbj⟩, y, w1, w2, w3, w4⟩
  · exact ⟨-1, vm, by simp only [zf_X5_date, x1, c1, c2, if_false, h1, z_bd, if_true], by simp only [zf_X6_date, n1, if_true, m2, c2, if_false, h2, z_bd2, show ¬ (0 : Int32) ≤ -1 by decide], zR_k (zR_sm hR h3) (Nat.le_succ k)⟩
  · have nb : ¬ b = -1 := by rw [hbj]; exact z_nIne (by omega)
    have nl : (0 : Int32) ≤ b := by rw [hbj]; exact nI_pos' (by omega)
    by_cases q : a2 = 0
    · subst q
      exact ⟨y.2.1, vm, by simp only [zf_X5_date, x1, c1, c2, if_false, h1, z_bd, nb, w1, w2, if_true], by simp only [zf_X6_date, n1, if_true, m2, c2, if_false, h2, z_bd2, nl, w3], zR_k (zR_sm hR h3) (Nat.le_succ k)⟩
    · exact ⟨y.2.2, vm, by simp only [zf_X5_date, x1, c1, c2, if_false, h1, z_bd, nb, w1, w2, q], by simp only [zf_X6_date, n1, if_true, m2, c2, if_false, h2, z_bd2, nl, q, w4], zR_k (zR_sm hR h3) (Nat.le_succ k)⟩
