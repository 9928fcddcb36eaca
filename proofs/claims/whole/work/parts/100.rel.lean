/-! numbers and guards -/
theorem z_inb_t {i n : Nat} (h : i < n) (hn : n < 2 ^ 31) : z_inb (nI i) n = true := decide_eq_true (vp_in_nI h hn)
theorem z_cl {n : Nat} (h : n < 2 ^ 31) : (nI n).toNatClampNeg = n := nI_clamp h
theorem z_gd_t {α : Type} {b : Bool} (x : Option α) (h : b = true) : z_gd b x = x := by
  rw [h]; rfl
theorem z_bd_e {α β : Type} {x : Option α} {k : α → Option β} {a : α} (h : x = some a) : z_bd x k = k a := by
  rw [h]; rfl
theorem z_bd2_e {α β ω : Type} {x : Option (α × β)} {k : α → β → Option ω} {a : α} {b : β} (h : x = some (a, b)) : z_bd2 x k = k a b := by
  rw [h]; rfl
theorem z_bd3_e {α β γ ω : Type} {x : Option (α × β × γ)} {k : α → β → γ → Option ω} {a : α} {b : β} {c : γ} (h : x = some (a, b, c)) : z_bd3 x k = k a b c := by
  rw [h]; rfl
theorem z_lit (n : Nat) : (OfNat.ofNat n : Int32) = nI n := rfl
theorem z_litL (n : Nat) : (OfNat.ofNat n : Int64) = lN n := rfl
theorem z_ltI (a b : Int32) : a < b ↔ a.toInt < b.toInt := Int32.lt_iff_toInt_lt
theorem z_leI (a b : Int32) : a ≤ b ↔ a.toInt ≤ b.toInt := Int32.le_iff_toInt_le
/-- reads behind writes -/
theorem z_rw_s (u : z_St) (k j : Nat) (v : Int32) : z_rI (z_wI u k j v) k = upd (z_rI u k) j v := by
  show cond (Nat.beq k k) (upd (u.1 k) j v) (u.1 k) = upd (u.1 k) j v
  rw [Nat.beq_refl]; rfl
theorem z_beqf {a b : Nat} (h : a ≠ b) : Nat.beq a b = false := by
  cases hq : Nat.beq a b with
  | false => rfl
  | true => exact absurd (Nat.eq_of_beq_eq_true hq) h
theorem z_rw_n (u : z_St) {k k2 : Nat} (j : Nat) (v : Int32) (h : k2 ≠ k) : z_rI (z_wI u k j v) k2 = z_rI u k2 := by
  show cond (Nat.beq k2 k) (upd (u.1 k2) j v) (u.1 k2) = u.1 k2
  rw [z_beqf h]; rfl
theorem z_rwL (u : z_St) (k j : Nat) (v : Int64) (k2 : Nat) : z_rI (z_wL u k j v) k2 = z_rI u k2 := rfl
theorem z_rLw (u : z_St) (k j : Nat) (v : Int32) (k2 : Nat) : z_rL (z_wI u k j v) k2 = z_rL u k2 := rfl
theorem z_rLw_s (u : z_St) (k j : Nat) (v : Int64) : z_rL (z_wL u k j v) k = vp_updL (z_rL u k) j v := by
  show cond (Nat.beq k k) (vp_updL (u.2 k) j v) (u.2 k) = vp_updL (u.2 k) j v
  rw [Nat.beq_refl]; rfl
theorem z_rLw_n (u : z_St) {k k2 : Nat} (j : Nat) (v : Int64) (h : k2 ≠ k) : z_rL (z_wL u k j v) k2 = z_rL u k2 := by
  show cond (Nat.beq k2 k) (vp_updL (u.2 k2) j v) (u.2 k2) = u.2 k2
  rw [z_beqf h]; rfl
/-- choosing, by Pascal's rows -/
def zC : Nat → Nat → Nat
  | _, 0 => 1
  | 0, _ + 1 => 0
  | n + 1, k + 1 => zC n k + zC n (k + 1)
/-! the relation of both states -/
def zR_P (T : Nat) (ux um : z_St) : Prop := z_rI ux 9 0 = nI T ∧ z_rI um 2 0 = nI T ∧ T ≤ 12 ∧ (∀ j, j < 10 → z_rI ux 5 j = z_rI um 0 j ∧ z_rI ux 6 j = z_rI um 1 j) ∧ (∀ t, t < T → z_rI ux 7 t = z_rI um 3 t ∧ ∃ p : Nat, 1 ≤ p ∧ p ≤ 5 ∧ z_rI um 3 t = nI p) ∧
  (∀ t, t < T → ∀ p, p < 5 → z_rI ux 8 (5 * t + p) = z_rI um 4 (5 * t + p)) ∧ (∀ j, 5 * T ≤ j → j < 60 → z_rI ux 8 j = 0)
def zR_T (T S h : Nat) (ux um : z_St) : Prop := z_rI ux 21 0 = nI S ∧ z_rI um 12 0 = nI S ∧ S ≤ 80 ∧ z_rI ux 22 0 = nI h ∧ z_rI um 11 0 = nI h ∧ 4 ≤ h ∧
  (∀ t, t < T → z_rI ux 16 t = z_rI um 5 t ∧ z_rI ux 17 t = z_rI um 6 t ∧ (z_rI um 5 t = -1 ∨ ∃ d, d < 8 ∧ z_rI um 5 t = nI d) ∧ (z_rI um 6 t = -1 ∨ ∃ x, x < S ∧ z_rI um 6 t = nI x)) ∧
  (∀ t, T ≤ t → t < 12 → z_rI ux 16 t = -1 ∧ z_rI ux 17 t = -1 ∧ z_rI ux 18 t = -1) ∧
  (∀ x, x < S → z_rI ux 19 (7 * x) = z_rI um 13 x ∧ z_rI ux 19 (7 * x + 1) = z_rI um 14 x ∧ z_rI ux 19 (7 * x + 2) = z_rI um 15 x ∧ z_rI ux 19 (7 * x + 3) = z_rI um 16 x ∧ z_rI ux 19 (7 * x + 4) = z_rI um 17 x ∧ z_rI ux 19 (7 * x + 5) = z_rI um 18 x ∧ z_rI ux 19 (7 * x + 6) = z_rI um 19 x ∧ z_rI ux 20 x = z_rI um 20 x) ∧
  (∀ x, x < S → (∃ t, t < T ∧ z_rI um 13 x = nI t) ∧ (∃ d, d < 8 ∧ z_rI um 14 x = nI d) ∧ (∃ d, d < 8 ∧ z_rI um 15 x = nI d) ∧ z_rI um 14 x ≠ z_rI um 15 x ∧ (z_rI um 19 x = 0 ∨ z_rI um 19 x = 1) ∧ (z_rI um 20 x = -1 ∨ ∃ y, y < S ∧ z_rI um 20 x = nI y)) ∧
  (∀ t, t < T → z_rI ux 18 t = -1 ∨ ∃ x, x < S ∧ z_rI um 13 x = nI t ∧ z_rI um 17 x = z_rI ux 18 t) ∧
  (∀ x t, x < S → t < T → z_rI um 13 x = nI t → ∃ g g2 : Nat, z_rI um 17 x = nI g ∧ z_rI ux 18 t = nI g2 ∧ g ≤ g2 ∧ g2 ≤ h)
def zR_A (L : Nat) (ux um : z_St) : Prop := z_rI ux 3 0 = nI L ∧ z_rI um 21 0 = nI L ∧ L ≤ 40 ∧ (∀ i, i < L → z_rI ux 0 i = z_rI um 22 i ∧ z_rI ux 1 i = z_rI um 23 i ∧ z_rI ux 2 i = z_rI um 24 i ∧ (∃ a, a < 256 ∧ z_rI um 22 i = nI a) ∧ (∃ a, a < 256 ∧ z_rI um 23 i = nI a)) ∧
  (∀ n k, n ≤ 40 → k ≤ n → z_rL um 25 (41 * n + k) = lN (zC n k))
def zR_S (T E : Nat) (ux um : z_St) : Prop := z_rI ux 15 0 = nI E ∧ z_rI um 32 0 = nI E ∧ E ≤ 10 ∧ (∀ i, i < E → z_rI ux 10 i = z_rI um 33 i ∧ ∃ a, a < 4096 ∧ z_rI um 33 i = nI a) ∧
  (∀ t, t < T → z_rI ux 11 t = z_rI um 7 t ∧ z_rI ux 12 t = z_rI um 8 t ∧ ∃ a b : Nat, a < 4096 ∧ b < 4096 ∧ a &&& b = 0 ∧ z_rI um 7 t = nI a ∧ z_rI um 8 t = nI b) ∧ (∀ t, T ≤ t → t < 12 → z_rI ux 11 t = 0 ∧ z_rI ux 12 t = 0)
def zR_D (ux um : z_St) : Prop := ∀ j, j < 64 → z_rI ux 4 j = z_rI um 37 j
def zR (k : Nat) (ux um : z_St) : Prop := ∃ T S L E h : Nat, zR_P T ux um ∧ zR_T T S h ux um ∧ zR_A L ux um ∧ zR_S T E ux um ∧ zR_D ux um ∧ h ≤ 4 + 20 * k
/-- what a call may write besides: the scratch fields of each side -/
def zSM (um vm : z_St) : Prop := (∀ k, k ≠ 9 → k ≠ 10 → k ≠ 26 → k ≠ 27 → k ≠ 28 → k ≠ 29 → k ≠ 34 → k ≠ 35 → k ≠ 36 → z_rI vm k = z_rI um k) ∧ z_rL vm 25 = z_rL um 25
def zSX (ux vx : z_St) : Prop := ∀ k, k ≠ 13 → k ≠ 14 → z_rI vx k = z_rI ux k
theorem zSM_r (u : z_St) : zSM u u := ⟨fun _ _ _ _ _ _ _ _ _ _ => rfl, rfl⟩
theorem zSX_r (u : z_St) : zSX u u := fun _ _ _ => rfl
theorem zSM_t {u v w : z_St} (h : zSM u v) (h2 : zSM v w) : zSM u w := ⟨fun k a b c d e f g i j => (h2.1 k a b c d e f g i j).trans (h.1 k a b c d e f g i j), h2.2.trans h.2⟩
theorem zSX_t {u v w : z_St} (h : zSX u v) (h2 : zSX v w) : zSX u w := fun k a b => (h2 k a b).trans (h k a b)
theorem zSM_w (u : z_St) (k j : Nat) (v : Int32) (h : k = 9 ∨ k = 10 ∨ k = 26 ∨ k = 27 ∨ k = 28 ∨ k = 29 ∨ k = 34 ∨ k = 35 ∨ k = 36) : zSM u (z_wI u k j v) :=
  ⟨fun k2 a b c d e f g i l => z_rw_n u j v (by omega), rfl⟩
theorem zSM_wL (u : z_St) (k j : Nat) (v : Int64) (h : k ≠ 25) : zSM u (z_wL u k j v) := ⟨fun _ _ _ _ _ _ _ _ _ _ => rfl, z_rLw_n u j v (Ne.symm h)⟩
theorem zSX_w (u : z_St) (k j : Nat) (v : Int32) (h : k = 13 ∨ k = 14) : zSX u (z_wI u k j v) := fun k2 a b => z_rw_n u j v (by omega)
theorem zR_sm {k : Nat} {ux um vm : z_St} (h : zR k ux um) (hs : zSM um vm) : zR k ux vm := by
  obtain ⟨T, S, L, E, hh, h1, h2, h3, h4, h5, h6⟩ := h
  refine ⟨T, S, L, E, hh, ?_, ?_, ?_, ?_, ?_, h6⟩
  · unfold zR_P at h1 ⊢
    rw [hs.1 2 (by decide) (by decide) (by decide) (by decide) (by decide) (by decide) (by decide) (by decide) (by decide), hs.1 0 (by decide) (by decide) (by decide) (by decide) (by decide) (by decide) (by decide) (by decide) (by decide), hs.1 1 (by decide) (by decide) (by decide) (by decide) (by decide) (by decide) (by decide) (by decide) (by decide), hs.1 3 (by decide) (by decide) (by decide) (by decide) (by decide) (by decide) (by decide) (by decide) (by decide), hs.1 4 (by decide) (by decide) (by decide) (by decide) (by decide) (by decide) (by decide) (by decide) (by decide)]
    exact h1
  · unfold zR_T at h2 ⊢
    rw [hs.1 12 (by decide) (by decide) (by decide) (by decide) (by decide) (by decide) (by decide) (by decide) (by decide), hs.1 11 (by decide) (by decide) (by decide) (by decide) (by decide) (by decide) (by decide) (by decide) (by decide), hs.1 5 (by decide) (by decide) (by decide) (by decide) (by decide) (by decide) (by decide) (by decide) (by decide), hs.1 6 (by decide) (by decide) (by decide) (by decide) (by decide) (by decide) (by decide) (by decide) (by decide), hs.1 13 (by decide) (by decide) (by decide) (by decide) (by decide) (by decide) (by decide) (by decide) (by decide), hs.1 14 (by decide) (by decide) (by decide) (by decide) (by decide) (by decide) (by decide) (by decide) (by decide), hs.1 15 (by decide) (by decide) (by decide) (by decide) (by decide) (by decide) (by decide) (by decide) (by decide), hs.1 16 (by decide) (by decide) (by decide) (by decide) (by decide) (by decide) (by decide) (by decide) (by decide), hs.1 17 (by decide) (by decide) (by decide) (by decide) (by decide) (by decide) (by decide) (by decide) (by decide), hs.1 18 (by decide) (by decide) (by decide) (by decide) (by decide) (by decide) (by decide) (by decide) (by decide), hs.1 19 (by decide) (by decide) (by decide) (by decide) (by decide) (by decide) (by decide) (by decide) (by decide), hs.1 20 (by decide) (by decide) (by decide) (by decide) (by decide) (by decide) (by decide) (by decide) (by decide)]
    exact h2
  · unfold zR_A at h3 ⊢
    rw [hs.2, hs.1 21 (by decide) (by decide) (by decide) (by decide) (by decide) (by decide) (by decide) (by decide) (by decide), hs.1 22 (by decide) (by decide) (by decide) (by decide) (by decide) (by decide) (by decide) (by decide) (by decide), hs.1 23 (by decide) (by decide) (by decide) (by decide) (by decide) (by decide) (by decide) (by decide) (by decide), hs.1 24 (by decide) (by decide) (by decide) (by decide) (by decide) (by decide) (by decide) (by decide) (by decide)]
    exact h3
  · unfold zR_S at h4 ⊢
    rw [hs.1 32 (by decide) (by decide) (by decide) (by decide) (by decide) (by decide) (by decide) (by decide) (by decide), hs.1 33 (by decide) (by decide) (by decide) (by decide) (by decide) (by decide) (by decide) (by decide) (by decide), hs.1 7 (by decide) (by decide) (by decide) (by decide) (by decide) (by decide) (by decide) (by decide) (by decide), hs.1 8 (by decide) (by decide) (by decide) (by decide) (by decide) (by decide) (by decide) (by decide) (by decide)]
    exact h4
  · unfold zR_D at h5 ⊢
    rw [hs.1 37 (by decide) (by decide) (by decide) (by decide) (by decide) (by decide) (by decide) (by decide) (by decide)]
    exact h5
theorem zR_sx {k : Nat} {ux um vx : z_St} (h : zR k ux um) (hs : zSX ux vx) : zR k vx um := by
  obtain ⟨T, S, L, E, hh, h1, h2, h3, h4, h5, h6⟩ := h
  refine ⟨T, S, L, E, hh, ?_, ?_, ?_, ?_, ?_, h6⟩
  · unfold zR_P at h1 ⊢
    rw [hs 5 (by decide) (by decide), hs 6 (by decide) (by decide), hs 7 (by decide) (by decide), hs 8 (by decide) (by decide), hs 9 (by decide) (by decide)]
    exact h1
  · unfold zR_T at h2 ⊢
    rw [hs 16 (by decide) (by decide), hs 17 (by decide) (by decide), hs 18 (by decide) (by decide), hs 19 (by decide) (by decide), hs 20 (by decide) (by decide), hs 21 (by decide) (by decide), hs 22 (by decide) (by decide)]
    exact h2
  · unfold zR_A at h3 ⊢
    rw [hs 0 (by decide) (by decide), hs 1 (by decide) (by decide), hs 2 (by decide) (by decide), hs 3 (by decide) (by decide)]
    exact h3
  · unfold zR_S at h4 ⊢
    rw [hs 10 (by decide) (by decide), hs 11 (by decide) (by decide), hs 12 (by decide) (by decide), hs 15 (by decide) (by decide)]
    exact h4
  · unfold zR_D at h5 ⊢
    rw [hs 4 (by decide) (by decide)]
    exact h5
theorem zR_k {k k2 : Nat} {ux um : z_St} (h : zR k ux um) (hk : k ≤ k2) : zR k2 ux um := by
  obtain ⟨T, S, L, E, hh, h1, h2, h3, h4, h5, h6⟩ := h
  exact ⟨T, S, L, E, hh, h1, h2, h3, h4, h5, by omega⟩
