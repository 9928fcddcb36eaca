/-! joining, by the reference -/
def zXs (ux : z_St) (e t : Nat) : Int32 := (zf_X3_scoreOf ux (nI e) (nI t)).getD 0
theorem z_12m (e t : Nat) : (12 : Int32) * nI e + nI t = nI (12 * e + t) := by rw [z_lit, z_mul, nI_add]
theorem z_4096 (e t : Nat) : (4096 : Int32) * nI e + nI t = nI (4096 * e + t) := by rw [z_lit, z_mul, nI_add]
theorem zm_2 {um w : z_St} (h : zSM um w) : z_rI w 2 = z_rI um 2 := h.1 2 (by decide) (by decide) (by decide) (by decide) (by decide) (by decide) (by decide) (by decide) (by decide)
theorem zm_32 {um w : z_St} (h : zSM um w) : z_rI w 32 = z_rI um 32 := h.1 32 (by decide) (by decide) (by decide) (by decide) (by decide) (by decide) (by decide) (by decide) (by decide)
theorem zSM_34 (u : z_St) (j : Nat) (v : Int32) : zSM u (z_wI u 34 j v) := zSM_w u 34 j v (by decide)
theorem zSM_35 (u : z_St) (j : Nat) (v : Int32) : zSM u (z_wI u 35 j v) := zSM_w u 35 j v (by decide)
theorem zSM_36 (u : z_St) (j : Nat) (v : Int32) : zSM u (z_wI u 36 j v) := zSM_w u 36 j v (by decide)
theorem zm_f12 {T E : Nat} {ux um : z_St} (hS : zR_S T E ux um) (h2 : z_rI um 2 0 = nI T) (hT : T ≤ 12) {e : Nat} (he : e < E) : ∀ (k t n : Nat) (w : z_St), t + k = T → k < n → zSM um w → (∀ i t', (i < e ∨ (i = e ∧ t' < t)) → t' < T → z_rI w 36 (12 * i + t') = zXs ux i t') →
    ∃ v, zf_X6_findJoined_12 (nI e) n (nI t) w = some (nI T, v) ∧ zSM um v ∧ ∀ i t', i < e + 1 → t' < T → z_rI v 36 (12 * i + t') = zXs ux i t' := by
  have hE := hS.2.2.1
  intro k
  induction k with
  | zero =>
    intro t n w ht hn h1 h3
    obtain ⟨m, rfl⟩ : ∃ m, n = m + 1 := ⟨n - 1, by omega⟩
    have ht : t = T := by omega
    subst ht
    refine ⟨w, ?_, h1, fun i t' hi ht => h3 i t' (by omega) ht⟩
    rw [zf_X6_findJoined_12.eq_2, zm_2 h1, h2, if_pos (nI_le (Nat.le_refl _) (by omega))]
  | succ k ih =>
    intro t n w ht hn h1 h3
    obtain ⟨m, rfl⟩ : ∃ m, n = m + 1 := ⟨n - 1, by omega⟩
    have c : ¬ nI T ≤ nI t := nI_ge (by omega) (by omega)
    obtain ⟨x, x1, x2, -⟩ := z_sc (zS_sm hS h1) he (show t < T by omega) hT
    have i1 : z_inb (nI (12 * e + t)) 120 = true := z_inb_t (by omega) (by decide)
    have i2 : (nI (12 * e + t)).toNatClampNeg = 12 * e + t := z_cl (by omega)
    rw [zf_X6_findJoined_12.eq_2, zm_2 h1, h2, if_neg c, z_bd_e x2, z_12m, z_gd_t _ i1]
    simp only [z_nm, z_n1, i2]
    refine ih (t + 1) m _ (by omega) (by omega) (zSM_t h1 (zSM_36 w _ _)) ?_
    intro i t' hi ht'
    rw [z_rw_s]
    unfold upd
    by_cases c : 12 * i + t' = 12 * e + t
    · have ei : i = e := by omega
      have et : t' = t := by omega
      rw [if_pos c, ei, et]
      unfold zXs
      rw [x1]
      rfl
    · rw [if_neg c]
      exact h3 i t' (by omega) ht'
theorem zm_f2 {T E : Nat} {ux um : z_St} (hS : zR_S T E ux um) (h2 : z_rI um 2 0 = nI T) (hT : T ≤ 12) : ∀ (k e n : Nat) (w : z_St), e + k = E → k < n → zSM um w → (∀ i t', i < e → t' < T → z_rI w 36 (12 * i + t') = zXs ux i t') →
    ∃ v, zf_X6_findJoined_2 n (nI e) w = some (nI E, v) ∧ zSM um v ∧ ∀ i t', i < E → t' < T → z_rI v 36 (12 * i + t') = zXs ux i t' := by
  have hE := hS.2.2.1
  have h32 := hS.2.1
  intro k
  induction k with
  | zero =>
    intro e n w he hn h1 h3
    obtain ⟨m, rfl⟩ : ∃ m, n = m + 1 := ⟨n - 1, by omega⟩
    have he : e = E := by omega
    subst he
    refine ⟨w, ?_, h1, h3⟩
    rw [zf_X6_findJoined_2.eq_2, zm_32 h1, h32, if_pos (nI_le (Nat.le_refl _) (by omega))]
  | succ k ih =>
    intro e n w he hn h1 h3
    obtain ⟨m, rfl⟩ : ∃ m, n = m + 1 := ⟨n - 1, by omega⟩
    have c : ¬ nI E ≤ nI e := nI_ge (by omega) (by omega)
    obtain ⟨v, v1, v2, v3⟩ := zm_f12 hS h2 hT (show e < E by omega) T 0 5000 w (by omega) (by omega) h1 (fun i t' hi ht => h3 i t' (by omega) ht)
    have v1 : zf_X6_findJoined_12 (nI e) 5000 0 w = _ := v1
    rw [zf_X6_findJoined_2.eq_2, zm_32 h1, h32, if_neg c, z_bd2_e v1]
    simp only [z_nm, z_n1]
    exact ih (e + 1) m v (by omega) (by omega) v2 v3
theorem zm_f51 {T E : Nat} {ux um : z_St} (hS : zR_S T E ux um) (hE : E ≤ 6) : ∀ (k s n : Nat) (w : z_St), s + k = 4096 → k < n → zSM um w → (∀ i, i < s → z_rI w 34 (4096 * E + i) = nI 0) →
    ∃ v, zf_X6_findJoined_51 n (nI s) w = some (nI 4096, v) ∧ zSM um v ∧ z_rI v 36 = z_rI w 36 ∧ ∀ i, i < 4096 → z_rI v 34 (4096 * E + i) = nI 0 := by
  have h32 := hS.2.1
  intro k
  induction k with
  | zero =>
    intro s n w hs hn h1 h3
    obtain ⟨m, rfl⟩ : ∃ m, n = m + 1 := ⟨n - 1, by omega⟩
    have hs : s = 4096 := by omega
    subst hs
    refine ⟨w, ?_, h1, rfl, h3⟩
    rw [zf_X6_findJoined_51.eq_2, if_pos (by decide)]
  | succ k ih =>
    intro s n w hs hn h1 h3
    obtain ⟨m, rfl⟩ : ∃ m, n = m + 1 := ⟨n - 1, by omega⟩
    have c : ¬ (4096 : Int32) ≤ nI s := by rw [z_lit]; exact nI_ge (show s < 4096 by omega) (by decide)
    have i1 : z_inb (nI (4096 * E + s)) 28672 = true := z_inb_t (by omega) (by decide)
    have i2 : (nI (4096 * E + s)).toNatClampNeg = 4096 * E + s := z_cl (by omega)
    rw [zf_X6_findJoined_51.eq_2, if_neg c, zm_32 h1, h32, z_4096, z_gd_t _ i1]
    simp only [z_nm, z_n1, i2]
    obtain ⟨v, v1, v2, v3, v4⟩ := ih (s + 1) m (z_wI w 34 (4096 * E + s) 0) (by omega) (by omega) (zSM_t h1 (zSM_34 w _ _)) (by
      intro i hi
      rw [z_rw_s]
      unfold upd
      by_cases c : 4096 * E + i = 4096 * E + s
      · rw [if_pos c]
        rfl
      · rw [if_neg c]
        exact h3 i (by omega))
    exact ⟨v, v1, v2, by rw [v3, z_rw_n w _ _ (by decide)], v4⟩
theorem z_orlt {s t : Nat} (hs : s < 4096) (ht : t < 12) : s ||| 2 ^ t < 4096 := Nat.or_lt_two_pow (n := 12) hs (Nat.pow_lt_pow_right (by decide) ht)
def zRow (W : Nat → Nat → Nat) (T E e : Nat) (w : z_St) : Prop := ∀ s, s < 4096 → z_rI w 34 (4096 * e + s) = nI (zV W T (E - e) e s / 4826809)
def zTab (ux : z_St) (T E : Nat) (w : z_St) : Prop := ∀ i t, i < E → t < T → z_rI w 36 (12 * i + t) = zXs ux i t
theorem z_vb {T E : Nat} {ux um : z_St} (hS : zR_S T E ux um) (hT : T ≤ 12) (r e s : Nat) (hr : r ≤ 6) : zV (zWj (zSc ux E T)) T r e s / 4826809 ≤ 150 := by
  have h := zV_le (zWj_le hS hT) T r e s
  have h2 : r * 120670225 ≤ 6 * 120670225 := Nat.mul_le_mul_right _ hr
  omega
theorem zm_f118 {T E : Nat} {ux um : z_St} (hS : zR_S T E ux um) (h2 : z_rI um 2 0 = nI T) (hT : T ≤ 12) (hE : E ≤ 6) {w : z_St} (h1 : zSM um w) (h36 : zTab ux T E w) {e s : Nat} (he : e < E) (hs : s < 4096) (hr : zRow (zWj (zSc ux E T)) T E (e + 1) w) :
    zf_X6_findJoined_118 (nI e) (nI s) w 5000 (nI (zV (zWj (zSc ux E T)) T (E - (e + 1)) (e + 1) s / 4826809)) 0 = some (nI (zV (zWj (zSc ux E T)) T (E - e) e s / 4826809), nI T) := by
  have hEe : E - e = (E - (e + 1)) + 1 := by omega
  rw [hEe, zV_s _ _ _ _ _ (by omega)]
  have st : ∀ (k t n : Nat), t + k = T → k < n → zf_X6_findJoined_118 (nI e) (nI s) w n (nI (zFm (fun t => if s.testBit t = false ∧ 0 < zSc ux E T e t then zSc ux E T e t + zV (zWj (zSc ux E T)) T (E - (e + 1)) (e + 1) (s ||| 2 ^ t) / 4826809 else 0) (zV (zWj (zSc ux E T)) T (E - (e + 1)) (e + 1) s / 4826809) t)) (nI t) = some (nI (zFm (fun t => if s.testBit t = false ∧ 0 < zSc ux E T e t then zSc ux E T e t + zV (zWj (zSc ux E T)) T (E - (e + 1)) (e + 1) (s ||| 2 ^ t) / 4826809 else 0) (zV (zWj (zSc ux E T)) T (E - (e + 1)) (e + 1) s / 4826809) T), nI T) := by
    intro k
    induction k with
    | zero =>
      intro t n ht hn
      obtain ⟨m, rfl⟩ : ∃ m, n = m + 1 := ⟨n - 1, by omega⟩
      have ht : t = T := by omega
      subst ht
      rw [zf_X6_findJoined_118.eq_2, zm_2 h1, h2, if_pos (nI_le (Nat.le_refl _) (by omega))]
    | succ k ih =>
      intro t n ht hn
      obtain ⟨m, rfl⟩ : ∃ m, n = m + 1 := ⟨n - 1, by omega⟩
      have c : ¬ nI T ≤ nI t := nI_ge (by omega) (by omega)
      have hb := z_bt (n := s) (j := t) (by omega) (by omega)
      have next := ih (t + 1) m (by omega) (by omega)
      have i1 : z_inb (nI (12 * e + t)) 120 = true := z_inb_t (by omega) (by decide)
      have i2 : (nI (12 * e + t)).toNatClampNeg = 12 * e + t := z_cl (by omega)
      obtain ⟨x, x1, -, x3, x4⟩ := z_sc hS he (show t < T by omega) hT
      have hx : z_rI w 36 (12 * e + t) = x := by
        rw [h36 e t he (by omega)]
        unfold zXs
        rw [x1]
        rfl
      have same : ¬ (s.testBit t = false ∧ 0 < zSc ux E T e t) → zf_X6_findJoined_118 (nI e) (nI s) w m (nI (zFm (fun t => if s.testBit t = false ∧ 0 < zSc ux E T e t then zSc ux E T e t + zV (zWj (zSc ux E T)) T (E - (e + 1)) (e + 1) (s ||| 2 ^ t) / 4826809 else 0) (zV (zWj (zSc ux E T)) T (E - (e + 1)) (e + 1) s / 4826809) t)) (nI (t + 1)) = some (nI (zFm (fun t => if s.testBit t = false ∧ 0 < zSc ux E T e t then zSc ux E T e t + zV (zWj (zSc ux E T)) T (E - (e + 1)) (e + 1) (s ||| 2 ^ t) / 4826809 else 0) (zV (zWj (zSc ux E T)) T (E - (e + 1)) (e + 1) s / 4826809) T), nI T) := by
        intro hc
        rw [← next]
        congr 2
        show _ = if zFm _ _ t < (if s.testBit t = false ∧ 0 < zSc ux E T e t then zSc ux E T e t + zV (zWj (zSc ux E T)) T (E - (e + 1)) (e + 1) (s ||| 2 ^ t) / 4826809 else 0) then _ else zFm _ _ t
        rw [if_neg hc, if_neg (Nat.not_lt_zero _)]
      rw [zf_X6_findJoined_118.eq_2, zm_2 h1, h2, if_neg c]
      by_cases cb : s.testBit t = true
      · rw [if_pos (hb.mpr cb)]
        simp only [z_nm, z_n1]
        exact same (fun z => by rw [cb] at z; cases z.1)
      · rw [if_neg (fun z => cb (hb.mp z)), z_12m, z_gd_t _ i1, i2, hx]
        simp only [z_nm]
        rcases x3 with ⟨c2, c3⟩ | ⟨c2, c3, c4⟩
        · rw [if_pos c2, z_n1]
          exact same (fun z => by omega)
        · have co := z_orlt hs (show t < 12 by omega)
          have cf : s.testBit t = false := by
            cases h : s.testBit t with
            | false => rfl
            | true => exact absurd h cb
          have j1 : z_inb (nI (4096 * (e + 1) + (s ||| 2 ^ t))) 28672 = true := z_inb_t (by omega) (by decide)
          have j2 : (nI (4096 * (e + 1) + (s ||| 2 ^ t))).toNatClampNeg = 4096 * (e + 1) + (s ||| 2 ^ t) := z_cl (by omega)
          rw [if_neg c2, z_one (by omega), z_or, z_n1, z_4096, z_gd_t _ j1, j2, hr _ co, c3, nI_add, z_n1]
          have b1 := z_vb hS hT (E - (e + 1)) (e + 1) (s ||| 2 ^ t) (by omega)
          have b3 : zFm (fun t => if s.testBit t = false ∧ 0 < zSc ux E T e t then zSc ux E T e t + zV (zWj (zSc ux E T)) T (E - (e + 1)) (e + 1) (s ||| 2 ^ t) / 4826809 else 0) (zV (zWj (zSc ux E T)) T (E - (e + 1)) (e + 1) s / 4826809) t < 2 ^ 31 := by
            rcases zFm_at (fun t => if s.testBit t = false ∧ 0 < zSc ux E T e t then zSc ux E T e t + zV (zWj (zSc ux E T)) T (E - (e + 1)) (e + 1) (s ||| 2 ^ t) / 4826809 else 0) (zV (zWj (zSc ux E T)) T (E - (e + 1)) (e + 1) s / 4826809) t with h | ⟨i, hi, h⟩
            · rw [h]
              have := z_vb hS hT (E - (e + 1)) (e + 1) s (by omega)
              omega
            · rw [h]
              have := z_vb hS hT (E - (e + 1)) (e + 1) (s ||| 2 ^ i) (by omega)
              obtain ⟨-, -, -, -, y4⟩ := z_sc hS he (show i < T by omega) hT
              split <;> omega
          have hl := nI_leI (a := zSc ux E T e t + zV (zWj (zSc ux E T)) T (E - (e + 1)) (e + 1) (s ||| 2 ^ t) / 4826809) (b := zFm (fun t => if s.testBit t = false ∧ 0 < zSc ux E T e t then zSc ux E T e t + zV (zWj (zSc ux E T)) T (E - (e + 1)) (e + 1) (s ||| 2 ^ t) / 4826809 else 0) (zV (zWj (zSc ux E T)) T (E - (e + 1)) (e + 1) s / 4826809) t) (by omega) b3
          have e1 : zFm (fun t => if s.testBit t = false ∧ 0 < zSc ux E T e t then zSc ux E T e t + zV (zWj (zSc ux E T)) T (E - (e + 1)) (e + 1) (s ||| 2 ^ t) / 4826809 else 0) (zV (zWj (zSc ux E T)) T (E - (e + 1)) (e + 1) s / 4826809) (t + 1) = if zFm (fun t => if s.testBit t = false ∧ 0 < zSc ux E T e t then zSc ux E T e t + zV (zWj (zSc ux E T)) T (E - (e + 1)) (e + 1) (s ||| 2 ^ t) / 4826809 else 0) (zV (zWj (zSc ux E T)) T (E - (e + 1)) (e + 1) s / 4826809) t < zSc ux E T e t + zV (zWj (zSc ux E T)) T (E - (e + 1)) (e + 1) (s ||| 2 ^ t) / 4826809 then zSc ux E T e t + zV (zWj (zSc ux E T)) T (E - (e + 1)) (e + 1) (s ||| 2 ^ t) / 4826809 else zFm (fun t => if s.testBit t = false ∧ 0 < zSc ux E T e t then zSc ux E T e t + zV (zWj (zSc ux E T)) T (E - (e + 1)) (e + 1) (s ||| 2 ^ t) / 4826809 else 0) (zV (zWj (zSc ux E T)) T (E - (e + 1)) (e + 1) s / 4826809) t := by
            show (if zFm _ _ t < (if s.testBit t = false ∧ 0 < zSc ux E T e t then zSc ux E T e t + zV (zWj (zSc ux E T)) T (E - (e + 1)) (e + 1) (s ||| 2 ^ t) / 4826809 else 0) then (if s.testBit t = false ∧ 0 < zSc ux E T e t then zSc ux E T e t + zV (zWj (zSc ux E T)) T (E - (e + 1)) (e + 1) (s ||| 2 ^ t) / 4826809 else 0) else zFm _ _ t) = _
            have ca : s.testBit t = false ∧ 0 < zSc ux E T e t := ⟨cf, c4⟩
            rw [if_pos ca]
          rw [e1] at next
          by_cases cl : zSc ux E T e t + zV (zWj (zSc ux E T)) T (E - (e + 1)) (e + 1) (s ||| 2 ^ t) / 4826809 ≤ zFm (fun t => if s.testBit t = false ∧ 0 < zSc ux E T e t then zSc ux E T e t + zV (zWj (zSc ux E T)) T (E - (e + 1)) (e + 1) (s ||| 2 ^ t) / 4826809 else 0) (zV (zWj (zSc ux E T)) T (E - (e + 1)) (e + 1) s / 4826809) t
          · rw [if_neg (by omega)] at next
            rw [if_pos (hl.mpr cl)]
            exact next
          · rw [if_pos (by omega)] at next
            rw [if_neg (fun z => cl (hl.mp z))]
            exact next
  exact st T 0 5000 (by omega) (by omega)
theorem zm_f93 {T E : Nat} {ux um : z_St} (hS : zR_S T E ux um) (h2 : z_rI um 2 0 = nI T) (hT : T ≤ 12) (hE : E ≤ 6) {e : Nat} (he : e < E) : ∀ (k s n : Nat) (w : z_St), s + k = 4096 → k < n → zSM um w → zTab ux T E w → (∀ i, e < i → i ≤ E → zRow (zWj (zSc ux E T)) T E i w) → (∀ i, i < s → z_rI w 34 (4096 * e + i) = nI (zV (zWj (zSc ux E T)) T (E - e) e i / 4826809)) →
    ∃ v, zf_X6_findJoined_93 (nI e) n (nI s) w = some (nI 4096, v) ∧ zSM um v ∧ zTab ux T E v ∧ ∀ i, e ≤ i → i ≤ E → zRow (zWj (zSc ux E T)) T E i v := by
  intro k
  induction k with
  | zero =>
    intro s n w hs hn h1 h36 hr hrs
    obtain ⟨m, rfl⟩ : ∃ m, n = m + 1 := ⟨n - 1, by omega⟩
    have hs : s = 4096 := by omega
    subst hs
    refine ⟨w, ?_, h1, h36, ?_⟩
    · rw [zf_X6_findJoined_93.eq_2, if_pos (by decide)]
    · intro i hi hiE
      by_cases c : i = e
      · subst c
        exact hrs
      · exact hr i (by omega) hiE
  | succ k ih =>
    intro s n w hs hn h1 h36 hr hrs
    obtain ⟨m, rfl⟩ : ∃ m, n = m + 1 := ⟨n - 1, by omega⟩
    have c : ¬ (4096 : Int32) ≤ nI s := by rw [z_lit]; exact nI_ge (show s < 4096 by omega) (by decide)
    have j1 : z_inb (nI (4096 * (e + 1) + s)) 28672 = true := z_inb_t (by omega) (by decide)
    have j2 : (nI (4096 * (e + 1) + s)).toNatClampNeg = 4096 * (e + 1) + s := z_cl (by omega)
    have i1 : z_inb (nI (4096 * e + s)) 28672 = true := z_inb_t (by omega) (by decide)
    have i2 : (nI (4096 * e + s)).toNatClampNeg = 4096 * e + s := z_cl (by omega)
    have hr1 := hr (e + 1) (by omega) (by omega)
    rw [zf_X6_findJoined_93.eq_2, if_neg c, z_n1, z_4096, z_gd_t _ j1, j2, hr1 s (by omega)]
    simp only [z_nm]
    rw [z_bd2_e (zm_f118 hS h2 hT hE h1 h36 he (show s < 4096 by omega) hr1), z_4096, z_gd_t _ i1, i2, z_n1]
    refine ih (s + 1) m _ (by omega) (by omega) (zSM_t h1 (zSM_34 w _ _)) ?_ ?_ ?_
    · intro i t hi ht
      rw [z_rw_n w _ _ (by decide)]
      exact h36 i t hi ht
    · intro i hi hiE s2 hs2
      rw [z_rw_s]
      unfold upd
      rw [if_neg (by omega)]
      exact hr i hi hiE s2 hs2
    · intro i hi
      rw [z_rw_s]
      unfold upd
      by_cases c : i = s
      · rw [if_pos (by omega), c]
      · rw [if_neg (by omega)]
        exact hrs i (by omega)
theorem zm_f87 {T E : Nat} {ux um : z_St} (hS : zR_S T E ux um) (h2 : z_rI um 2 0 = nI T) (hT : T ≤ 12) (hE : E ≤ 6) : ∀ (e n : Nat) (w : z_St), e ≤ E → e < n → zSM um w → zTab ux T E w → (∀ i, e ≤ i → i ≤ E → zRow (zWj (zSc ux E T)) T E i w) →
    ∃ (t : Int32) (v : z_St), zf_X6_findJoined_87 n (nI e - 1) w = some (t, v) ∧ zSM um v ∧ zTab ux T E v ∧ ∀ i, i ≤ E → zRow (zWj (zSc ux E T)) T E i v := by
  intro e
  induction e with
  | zero =>
    intro n w he hn h1 h36 hr
    obtain ⟨m, rfl⟩ : ∃ m, n = m + 1 := ⟨n - 1, by omega⟩
    refine ⟨nI 0 - 1, w, ?_, h1, h36, fun i hi => hr i (by omega) hi⟩
    rw [zf_X6_findJoined_87.eq_2, if_pos (by decide)]
  | succ e ih =>
    intro n w he hn h1 h36 hr
    obtain ⟨m, rfl⟩ : ∃ m, n = m + 1 := ⟨n - 1, by omega⟩
    have c : ¬ nI e < (0 : Int32) := nI_pos (by omega)
    obtain ⟨v, v1, v2, v3, v4⟩ := zm_f93 hS h2 hT hE (show e < E by omega) 4096 0 5000 w (by omega) (by omega) h1 h36 (fun i hi hiE => hr i (by omega) hiE) (fun i hi => by omega)
    have v1 : zf_X6_findJoined_93 (nI e) 5000 0 w = _ := v1
    rw [z_sub1, zf_X6_findJoined_87.eq_2, if_neg c, z_bd2_e v1]
    simp only [z_nm]
    have em : nI e + (-1) = nI e - 1 := (Int32.sub_eq_add_neg _ _).symm
    rw [em]
    exact ih m v (by omega) (by omega) v2 v3 v4
