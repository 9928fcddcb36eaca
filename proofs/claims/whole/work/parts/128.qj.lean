/-! joining, by the class -/
def zSc (ux : z_St) (E T e t : Nat) : Nat := if e < E ∧ t < T then ((zf_X3_scoreOf ux (nI e) (nI t)).getD 0).toInt.toNat else 0
theorem zS_sx {T E : Nat} {ux um u : z_St} (h : zR_S T E ux um) (hs : zSX ux u) : zR_S T E u um := by
  unfold zR_S at h ⊢
  rw [hs 10 (by decide) (by decide), hs 11 (by decide) (by decide), hs 12 (by decide) (by decide), hs 15 (by decide) (by decide)]
  exact h
theorem zS_sm {T E : Nat} {ux um v : z_St} (h4 : zR_S T E ux um) (hs : zSM um v) : zR_S T E ux v := by
  unfold zR_S at h4 ⊢
  rw [hs.1 32 (by decide) (by decide) (by decide) (by decide) (by decide) (by decide) (by decide) (by decide) (by decide), hs.1 33 (by decide) (by decide) (by decide) (by decide) (by decide) (by decide) (by decide) (by decide) (by decide), hs.1 7 (by decide) (by decide) (by decide) (by decide) (by decide) (by decide) (by decide) (by decide) (by decide), hs.1 8 (by decide) (by decide) (by decide) (by decide) (by decide) (by decide) (by decide) (by decide) (by decide)]
  exact h4
theorem z_sct {p q r : Nat} (hp : p ≤ 12) (hq : q ≤ 12) (hr : r ≤ 12) : ((2 * nI p - 3 * nI q) - nI r).toInt = 2 * (p : Int) - 3 * (q : Int) - (r : Int) := by
  have e2 : (2 : Int32) * nI p = nI (2 * p) := z_mul 2 p
  have e3 : (3 : Int32) * nI q = nI (3 * q) := z_mul 3 q
  rw [e2, e3, Int32.toInt_sub, Int32.toInt_sub, nI_toInt (by omega), nI_toInt (by omega), nI_toInt (by omega), Int.bmod_eq_of_le (n := ((2 * p : Nat) : Int) - ((3 * q : Nat) : Int)) (by omega) (by omega), Int.bmod_eq_of_le (by omega) (by omega)]
  omega
/-- the score of an entry and a thing, on both sides, at every later state -/
theorem z_sc {T E : Nat} {ux um : z_St} (hS : zR_S T E ux um) {i t : Nat} (hi : i < E) (ht : t < T) (hT : T ≤ 12) : ∃ x : Int32, zf_X3_scoreOf ux (nI i) (nI t) = some x ∧ zf_X6_scoreOf um (nI i) (nI t) = some x ∧
    ((x ≤ 0 ∧ zSc ux E T i t = 0) ∨ (¬ x ≤ 0 ∧ x = nI (zSc ux E T i t) ∧ 0 < zSc ux E T i t)) ∧ zSc ux E T i t ≤ 24 := by
  obtain ⟨p, q, r, hp, hq, hr, h1, h2⟩ := z_score hS hi ht hT
  have hx := z_sct hp hq hr
  have hz : zSc ux E T i t = ((2 * nI p - 3 * nI q) - nI r).toInt.toNat := by
    unfold zSc
    rw [if_pos ⟨hi, ht⟩, h1]
    rfl
  refine ⟨_, h1, h2, ?_, by rw [hz, hx]; omega⟩
  by_cases c : ((2 * nI p - 3 * nI q) - nI r) ≤ 0
  · refine Or.inl ⟨c, ?_⟩
    have := (z_leI _ _).mp c
    have e0 : (0 : Int32).toInt = 0 := rfl
    rw [hz]
    omega
  · refine Or.inr ⟨c, ?_, ?_⟩
    · have : ¬ _ := fun q => c ((z_leI _ _).mpr q)
      have e0 : (0 : Int32).toInt = 0 := rfl
      obtain ⟨j, j1, j2, j3⟩ := z_nat (x := (2 * nI p - 3 * nI q) - nI r) (by omega)
      rw [hz, ← j2, j1]
      rfl
    · have : ¬ _ := fun q => c ((z_leI _ _).mpr q)
      have e0 : (0 : Int32).toInt = 0 := rfl
      rw [hz]
      omega
theorem zx_sce {ux u : z_St} (hs : zSX ux u) (a b : Int32) : zf_X3_scoreOf u a b = zf_X3_scoreOf ux a b := by
  unfold zf_X3_scoreOf
  rw [hs 10 (by decide) (by decide), hs 11 (by decide) (by decide), hs 12 (by decide) (by decide)]
theorem zx_he {u : z_St} {E e : Nat} (hE : z_rI u 15 0 = nI E) (h10 : E ≤ 10) (he : e < 64) : zf_X3_hasEntry u (nI e) = if e < E then 1 else 0 := by
  unfold zf_X3_hasEntry
  have e0 : (0 : Int32).toInt = 0 := rfl
  rw [hE, zx_w, z_pred (by omega), nI_toInt (by omega)]
  by_cases c : e < E
  · rw [if_pos c, if_pos (by omega)]
  · rw [if_neg c, if_neg (by omega)]
theorem z_pv : ∀ e : Fin 6, zx_pv e.val = nI (13 ^ (5 - e.val)) := by decide +kernel
theorem z_12s : ∀ t : Fin 13, (12 : Int32) - nI t.val = nI (12 - t.val) := by decide +kernel
theorem z_xor (a b : Nat) : nI a ^^^ nI b = nI (a ^^^ b) := by
  apply Int32.toBitVec_inj.1
  show BitVec.ofNat 32 a ^^^ BitVec.ofNat 32 b = BitVec.ofNat 32 (a ^^^ b)
  apply BitVec.eq_of_getLsbD_eq
  intro i hi
  simp [hi]
theorem z_bt {n j : Nat} (h : n < 2 ^ 31) (hj : j < 32) : ((nI n >>> (nI j &&& 31)) &&& 1 = (1 : Int32)) ↔ n.testBit j = true := by
  rw [z_bit h hj, Nat.testBit_eq_decide_div_mod_eq]
  have e : (1 : Int32) = nI 1 := rfl
  rw [e, nI_eq (by omega) (by omega)]
  exact decide_eq_true_iff.symm
theorem zWj_le {ux um : z_St} {T E : Nat} (hS : zR_S T E ux um) (hT : T ≤ 12) (e t : Nat) : zWj (zSc ux E T) e t ≤ 120670225 := by
  unfold zWj
  have h24 : zSc ux E T e t ≤ 24 := by
    by_cases c : e < E ∧ t < T
    · obtain ⟨x, -, -, -, h⟩ := z_sc hS c.1 c.2 hT
      exact h
    · unfold zSc
      rw [if_neg c]
      omega
  have h13 : 13 ^ (5 - e) ≤ 13 ^ 5 := Nat.pow_le_pow_right (by decide) (by omega)
  have h13 : 13 ^ (5 - e) ≤ 371293 := h13
  have hm := Nat.mul_le_mul (show 12 - t ≤ 12 by omega) h13
  split <;> omega
theorem zx_weigh {T E : Nat} {ux um u : z_St} (hS : zR_S T E ux um) (hT : T ≤ 12) (hE : E ≤ 6) (hu : zSX ux u) {t : Nat} (ht : t < T) :
    ∃ v, zf_X3_weigh u (nI t) = some v ∧ zSX ux v ∧ z_rI v 13 = z_rI u 13 ∧ ∀ e, e < 6 → z_rI v 14 e = nI (zWj (zSc ux E T) e t) := by
  have st : ∀ (k e n : Nat) (w : z_St), e + k = 6 → k < n → zSX ux w → z_rI w 13 = z_rI u 13 → (∀ i, i < e → z_rI w 14 i = nI (zWj (zSc ux E T) i t)) → ∃ v, zf_X3_weigh_2 (nI t) n (nI e) w = some (nI 6, v) ∧ zSX ux v ∧ z_rI v 13 = z_rI u 13 ∧ ∀ e, e < 6 → z_rI v 14 e = nI (zWj (zSc ux E T) e t) := by
    intro k
    induction k with
    | zero =>
      intro e n w he hn h1 h2 h3
      obtain ⟨m, rfl⟩ : ∃ m, n = m + 1 := ⟨n - 1, by omega⟩
      have he : e = 6 := by omega
      subst he
      refine ⟨w, ?_, h1, h2, h3⟩
      rw [zf_X3_weigh_2.eq_2, if_pos (by decide)]
    | succ k ih =>
      intro e n w he hn h1 h2 h3
      obtain ⟨m, rfl⟩ : ∃ m, n = m + 1 := ⟨n - 1, by omega⟩
      have c : ¬ (6 : Int32) ≤ nI e := by rw [z_lit]; exact nI_ge (show e < 6 by omega) (by decide)
      have i1 : z_inb (nI e) 6 = true := z_inb_t (by omega) (by decide)
      have i2 : (nI e).toNatClampNeg = e := z_cl (by omega)
      have hw : z_rI w 15 0 = nI E := by rw [h1 15 (by decide) (by decide)]; exact hS.1
      have go : ∀ x, x = nI (zWj (zSc ux E T) e t) → ∃ v, zf_X3_weigh_2 (nI t) m (nI (e + 1)) (z_wI w 14 e x) = some (nI 6, v) ∧ zSX ux v ∧ z_rI v 13 = z_rI u 13 ∧ ∀ e, e < 6 → z_rI v 14 e = nI (zWj (zSc ux E T) e t) := by
        intro x hx
        refine ih (e + 1) m _ (by omega) (by omega) (zSX_t h1 (zSX_w w 14 e x (Or.inr rfl))) ?_ ?_
        · rw [z_rw_n w e x (by decide)]
          exact h2
        · intro i hi
          rw [z_rw_s]
          unfold upd
          by_cases c : i = e
          · rw [if_pos c, hx, c]
          · rw [if_neg c]
            exact h3 i (by omega)
      rw [zf_X3_weigh_2.eq_2, if_neg c, zx_he hw (by omega) (by omega)]
      by_cases ce : e < E
      · obtain ⟨x, x1, -, x3, x4⟩ := z_sc hS ce ht hT
        rw [if_pos ce, if_neg (by decide), z_bd_e ((zx_sce h1 _ _).trans x1)]
        rcases x3 with ⟨c2, c3⟩ | ⟨c2, c3, c4⟩
        · rw [if_pos c2, z_gd_t _ i1]
          simp only [z_nm, z_n1, i2]
          exact go 0 (by unfold zWj; rw [c3, if_neg (by omega)]; rfl)
        · rw [if_neg c2, z_gd_t _ i1, z_gd_t _ i1]
          simp only [z_nm, z_n1, i2]
          refine go _ ?_
          have c5 : zWj (zSc ux E T) e t = _ := if_pos c4
          have p1 := z_pv ⟨e, by omega⟩
          have p2 := z_12s ⟨t, by omega⟩
          simp only at p1 p2
          rw [c5, p1, p2, c3, z_lit, z_mul, z_mul, nI_add]
      · rw [if_neg ce, if_pos rfl, z_gd_t _ i1]
        simp only [z_nm, z_n1, i2]
        refine go 0 ?_
        unfold zWj zSc
        rw [if_neg (by rw [if_neg (by omega)]; omega)]
        rfl
  obtain ⟨v, v1, v2⟩ := st 6 0 5000 u (by omega) (by omega) hu rfl (fun i hi => by omega)
  exact ⟨v, by unfold zf_X3_weigh; exact z_bd2_e v1, v2⟩
theorem z_xlt : ∀ s : Fin 64, ∀ e : Fin 6, s.val.testBit e.val = true → s.val ^^^ 2 ^ e.val < s.val := by decide +kernel
theorem zx_bwt {W : Nat → Nat → Nat} (hW : ∀ e t, W e t ≤ 120670225) {u : z_St} {j s : Nat} (hs : s < 64) (h13 : ∀ i, i ≤ s → z_rI u 13 i = nI (zD W j i)) (h14 : ∀ e, e < 6 → z_rI u 14 e = nI (W e j)) : zf_X3_bestWithThing u (nI s) = some (nI (zD W (j + 1) s)) := by
  have st : ∀ (k e n : Nat), e + k = 6 → k < n → zf_X3_bestWithThing_9 (nI s) u n (nI (zFm (fun e => if s.testBit e = true then zD W j (s ^^^ 2 ^ e) + W e j else 0) (zD W j s) e)) (nI e) = some (nI (zD W (j + 1) s), nI 6) := by
    intro k
    induction k with
    | zero =>
      intro e n he hn
      obtain ⟨m, rfl⟩ : ∃ m, n = m + 1 := ⟨n - 1, by omega⟩
      have he : e = 6 := by omega
      subst he
      rw [zf_X3_bestWithThing_9.eq_2, if_pos (by decide)]
      rfl
    | succ k ih =>
      intro e n he hn
      obtain ⟨m, rfl⟩ : ∃ m, n = m + 1 := ⟨n - 1, by omega⟩
      have c : ¬ (6 : Int32) ≤ nI e := by rw [z_lit]; exact nI_ge (show e < 6 by omega) (by decide)
      have i1 : z_inb (nI e) 6 = true := z_inb_t (by omega) (by decide)
      have i2 : (nI e).toNatClampNeg = e := z_cl (by omega)
      have hb := z_bt (n := s) (j := e) (by omega) (by omega)
      have next := ih (e + 1) m (by omega) (by omega)
      rw [zf_X3_bestWithThing_9.eq_2, if_neg c]
      by_cases cb : s.testBit e = true
      · have hx := z_xlt ⟨s, hs⟩ ⟨e, by omega⟩ cb
        have hx : s ^^^ 2 ^ e < s := hx
        have j1 : z_inb (nI (s ^^^ 2 ^ e)) 64 = true := z_inb_t (by omega) (by decide)
        have j2 : (nI (s ^^^ 2 ^ e)).toNatClampNeg = s ^^^ 2 ^ e := z_cl (by omega)
        rw [if_pos (hb.mpr cb), z_one (by omega), z_xor, z_gd_t _ j1, z_gd_t _ i1, j2, i2, h13 _ (by omega), h14 e (by omega), nI_add]
        simp only [z_nm, z_n1]
        rw [← next]
        congr 1
        have b1 : zD W j (s ^^^ 2 ^ e) ≤ 6 * 120670225 := zD_le hW (by omega)
        have b2 := hW e j
        have b3 : zFm (fun e => if s.testBit e = true then zD W j (s ^^^ 2 ^ e) + W e j else 0) (zD W j s) e < 2 ^ 31 := by
          rcases zFm_at (fun e => if s.testBit e = true then zD W j (s ^^^ 2 ^ e) + W e j else 0) (zD W j s) e with h | ⟨i, hi, h⟩
          · rw [h]
            have : zD W j s ≤ 6 * 120670225 := zD_le hW (by omega)
            omega
          · rw [h]
            have hx2 : s ^^^ 2 ^ i < 64 := Nat.xor_lt_two_pow (n := 6) hs (Nat.pow_lt_pow_right (by decide) (by omega))
            have : zD W j (s ^^^ 2 ^ i) ≤ 6 * 120670225 := zD_le hW hx2
            have := hW i j
            split <;> omega
        have hl := nI_ltI (a := zFm (fun e => if s.testBit e = true then zD W j (s ^^^ 2 ^ e) + W e j else 0) (zD W j s) e) (b := zD W j (s ^^^ 2 ^ e) + W e j) b3 (by omega)
        have e1 : zFm (fun e => if s.testBit e = true then zD W j (s ^^^ 2 ^ e) + W e j else 0) (zD W j s) (e + 1) = if zFm (fun e => if s.testBit e = true then zD W j (s ^^^ 2 ^ e) + W e j else 0) (zD W j s) e < zD W j (s ^^^ 2 ^ e) + W e j then zD W j (s ^^^ 2 ^ e) + W e j else zFm (fun e => if s.testBit e = true then zD W j (s ^^^ 2 ^ e) + W e j else 0) (zD W j s) e := by
          show (if zFm _ _ e < (if s.testBit e = true then zD W j (s ^^^ 2 ^ e) + W e j else 0) then (if s.testBit e = true then zD W j (s ^^^ 2 ^ e) + W e j else 0) else zFm _ _ e) = _
          rw [if_pos cb]
        rw [e1]
        by_cases cl : zFm (fun e => if s.testBit e = true then zD W j (s ^^^ 2 ^ e) + W e j else 0) (zD W j s) e < zD W j (s ^^^ 2 ^ e) + W e j
        · rw [if_pos cl, if_pos (hl.mpr cl)]
        · rw [if_neg cl, if_neg (fun z => cl (hl.mp z))]
      · rw [if_neg (fun z => cb (hb.mp z))]
        simp only [z_nm, z_n1]
        rw [← next]
        congr 2
        show _ = (if zFm _ _ e < (if s.testBit e = true then zD W j (s ^^^ 2 ^ e) + W e j else 0) then (if s.testBit e = true then zD W j (s ^^^ 2 ^ e) + W e j else 0) else zFm _ _ e)
        rw [if_neg cb, if_neg (Nat.not_lt_zero _)]
  have i1 : z_inb (nI s) 64 = true := z_inb_t hs (by decide)
  have i2 : (nI s).toNatClampNeg = s := z_cl (by omega)
  unfold zf_X3_bestWithThing
  rw [z_gd_t _ i1, i2, h13 s (Nat.le_refl s)]
  simp only [z_nm]
  exact z_bd2_e (st 6 0 5000 (by omega) (by omega))
theorem zD_0 (W : Nat → Nat → Nat) : ∀ j, zD W j 0 = 0
  | 0 => rfl
  | j + 1 => by
    rcases zFm_at (fun e => if (0 : Nat).testBit e = true then zD W j (0 ^^^ 2 ^ e) + W e j else 0) (zD W j 0) 6 with h | ⟨e, he, h⟩
    · exact h.trans (zD_0 W j)
    · refine h.trans (if_neg ?_)
      rw [Nat.zero_testBit]
      decide
theorem zx_37 {W : Nat → Nat → Nat} (hW : ∀ e t, W e t ≤ 120670225) {ux : z_St} {j N : Nat} (hN : N ≤ 64) : ∀ (s n : Nat) (u : z_St), s < N → s < n → zSX ux u → (∀ e, e < 6 → z_rI u 14 e = nI (W e j)) → (∀ i, i ≤ s → z_rI u 13 i = nI (zD W j i)) → (∀ i, s < i → i < N → z_rI u 13 i = nI (zD W (j + 1) i)) →
    ∃ (t : Int32) (v : z_St), zf_X3_bestJoin_37 n (nI s) u = some (t, v) ∧ zSX ux v ∧ ∀ i, i < N → z_rI v 13 i = nI (zD W (j + 1) i) := by
  intro s
  induction s with
  | zero =>
    intro n u hs hn h1 h2 h3 h4
    obtain ⟨m, rfl⟩ : ∃ m, n = m + 1 := ⟨n - 1, by omega⟩
    refine ⟨nI 0, u, ?_, h1, ?_⟩
    · rw [zf_X3_bestJoin_37.eq_2, if_pos (by decide)]
    · intro i hi
      by_cases c : i = 0
      · rw [c, h3 0 (Nat.le_refl 0), zD_0, zD_0]
      · exact h4 i (by omega) hi
  | succ s ih =>
    intro n u hs hn h1 h2 h3 h4
    obtain ⟨m, rfl⟩ : ∃ m, n = m + 1 := ⟨n - 1, by omega⟩
    have c : ¬ nI (s + 1) ≤ (0 : Int32) := nI_nle (by omega) (by omega)
    have i1 : z_inb (nI (s + 1)) 64 = true := z_inb_t (by omega) (by decide)
    have i2 : (nI (s + 1)).toNatClampNeg = s + 1 := z_cl (by omega)
    rw [zf_X3_bestJoin_37.eq_2, if_neg c, z_bd_e (zx_bwt hW (by omega) h3 h2), z_gd_t _ i1]
    simp only [z_nm, pk_m1, i2]
    refine ih m _ (by omega) (by omega) (zSX_t h1 (zSX_w u 13 _ _ (Or.inl rfl))) ?_ ?_ ?_
    · intro e he
      rw [z_rw_n u _ _ (by decide)]
      exact h2 e he
    · intro i hi
      rw [z_rw_s]
      unfold upd
      rw [if_neg (by omega)]
      exact h3 i (by omega)
    · intro i hi hiN
      rw [z_rw_s]
      unfold upd
      by_cases c : i = s + 1
      · rw [if_pos c, c]
      · rw [if_neg c]
        exact h4 i (by omega) hiN
theorem zx_22 {T E : Nat} {ux um : z_St} (hS : zR_S T E ux um) (hT : T ≤ 12) (hE : E ≤ 6) : ∀ (k j n : Nat) (u : z_St), j + k = T → k < n → zSX ux u → (∀ i, i < 2 ^ E → z_rI u 13 i = nI (zD (zWj (zSc ux E T)) j i)) →
    ∃ (t : Int32) (v : z_St), zf_X3_bestJoin_22 (nI T) (nI (2 ^ E)) n (nI j) u = some (t, v) ∧ zSX ux v ∧ ∀ i, i < 2 ^ E → z_rI v 13 i = nI (zD (zWj (zSc ux E T)) T i) := by
  have h64 : 2 ^ E ≤ 64 := (show (2 : Nat) ^ E ≤ 2 ^ 6 from Nat.pow_le_pow_right (by decide) hE)
  have h0 : 0 < 2 ^ E := Nat.two_pow_pos E
  intro k
  induction k with
  | zero =>
    intro j n u hj hn h1 h2
    obtain ⟨m, rfl⟩ : ∃ m, n = m + 1 := ⟨n - 1, by omega⟩
    have hj : j = T := by omega
    subst hj
    refine ⟨nI j, u, ?_, h1, h2⟩
    rw [zf_X3_bestJoin_22.eq_2, if_pos (nI_le (Nat.le_refl _) (by omega))]
  | succ k ih =>
    intro j n u hj hn h1 h2
    obtain ⟨m, rfl⟩ : ∃ m, n = m + 1 := ⟨n - 1, by omega⟩
    have c : ¬ nI T ≤ nI j := nI_ge (by omega) (by omega)
    obtain ⟨v, v1, v2, v3, v4⟩ := zx_weigh hS hT hE h1 (t := j) (by omega)
    have e1 : nI (2 ^ E) - 1 = nI (2 ^ E - 1) := by
      obtain ⟨q, hq⟩ : ∃ q, 2 ^ E = q + 1 := ⟨2 ^ E - 1, by omega⟩
      rw [hq, z_sub1]
      rfl
    obtain ⟨t, w, w1, w2, w3⟩ := zx_37 (zWj_le hS hT) (ux := ux) (j := j) h64 (2 ^ E - 1) 5000 v (by omega) (by omega) v2 v4 (fun i hi => by rw [v3]; exact h2 i (by omega)) (fun i h1 h2 => by omega)
    rw [zf_X3_bestJoin_22.eq_2, if_neg c, z_bd_e v1, e1]
    simp only [z_nm]
    rw [z_bd2_e w1, z_n1]
    exact ih (j + 1) m w (by omega) (by omega) w2 w3
theorem zx_fill {ux : z_St} (u : z_St) (hu : zSX ux u) : ∃ v, zf_fill13 u 0 = some v ∧ zSX ux v ∧ ∀ i, i < 64 → z_rI v 13 i = nI 0 := by
  have st : ∀ (k i n : Nat) (w : z_St), i + k = 64 → k < n → zSX ux w → (∀ a, a < i → z_rI w 13 a = nI 0) → ∃ v, zf_J7_fill_53178_5 0 64 n (nI i) w = some (nI 64, v) ∧ zSX ux v ∧ ∀ a, a < 64 → z_rI v 13 a = nI 0 := by
    intro k
    induction k with
    | zero =>
      intro i n w hi hn h1 h2
      obtain ⟨m, rfl⟩ : ∃ m, n = m + 1 := ⟨n - 1, by omega⟩
      have hi : i = 64 := by omega
      subst hi
      refine ⟨w, ?_, h1, h2⟩
      rw [zf_J7_fill_53178_5.eq_2, if_pos (by decide)]
    | succ k ih =>
      intro i n w hi hn h1 h2
      obtain ⟨m, rfl⟩ : ∃ m, n = m + 1 := ⟨n - 1, by omega⟩
      have c : ¬ (64 : Int32) ≤ nI i := by rw [z_lit]; exact nI_ge (show i < 64 by omega) (by decide)
      have i1 : z_inb (nI i) 64 = true := z_inb_t (by omega) (by decide)
      have i2 : (nI i).toNatClampNeg = i := z_cl (by omega)
      rw [zf_J7_fill_53178_5.eq_2, if_neg c, z_gd_t _ i1]
      simp only [z_nm, z_n1, i2]
      refine ih (i + 1) m _ (by omega) (by omega) (zSX_t h1 (zSX_w w 13 i 0 (Or.inl rfl))) ?_
      intro a ha
      rw [z_rw_s]
      unfold upd
      by_cases c : a = i
      · rw [if_pos c]
        rfl
      · rw [if_neg c]
        exact h2 a (by omega)
  obtain ⟨v, v1, v2⟩ := st 64 0 5000 u (by omega) (by omega) hu (fun a ha => by omega)
  exact ⟨v, by unfold zf_fill13; exact z_bd2_e v1, v2⟩
theorem zx_bestJoin {T E : Nat} {ux um : z_St} (hS : zR_S T E ux um) (hT : T ≤ 12) (hE : E ≤ 6) : ∃ v, zf_X3_bestJoin ux (nI T) = some (nI (zV (zWj (zSc ux E T)) T E 0 0), v) ∧ zSX ux v := by
  have h64 : 2 ^ E ≤ 64 := (show (2 : Nat) ^ E ≤ 2 ^ 6 from Nat.pow_le_pow_right (by decide) hE)
  have h0 : 0 < 2 ^ E := Nat.two_pow_pos E
  obtain ⟨v, v1, v2, v3⟩ := zx_fill ux (zSX_r ux)
  obtain ⟨t, w, w1, w2, w3⟩ := zx_22 hS hT hE T 0 5000 v (by omega) (by omega) v2 (fun i hi => v3 i (by omega))
  have c : ¬ (6 : Int32) < nI E := by rw [z_lit]; exact nI_nlt (show E ≤ 6 from hE) (by decide)
  have e1 : nI (2 ^ E) - 1 = nI (2 ^ E - 1) := by
    obtain ⟨q, hq⟩ : ∃ q, 2 ^ E = q + 1 := ⟨2 ^ E - 1, by omega⟩
    rw [hq, z_sub1]
    rfl
  refine ⟨w, ?_, w2⟩
  unfold zf_X3_bestJoin
  rw [hS.1, if_neg c, z_one (by omega)]
  simp only [z_nm]
  have w1 : zf_X3_bestJoin_22 (nI T) (nI (2 ^ E)) 5000 0 v = some (t, w) := w1
  rw [z_bd_e v1, z_bd2_e w1, e1, z_gd_t _ (z_inb_t (by omega) (by decide)), z_cl (by omega), w3 _ (by omega), zD_V _ hE]
