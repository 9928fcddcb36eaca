/-! joining: matchings, and the greatest weight of one -/
def zFm (f : Nat → Nat) (a : Nat) : Nat → Nat
  | 0 => a
  | n + 1 => if zFm f a n < f n then f n else zFm f a n
theorem zFm_0 (f : Nat → Nat) (a n : Nat) : a ≤ zFm f a n := by
  induction n with
  | zero => exact Nat.le_refl a
  | succ n ih =>
    show a ≤ if zFm f a n < f n then f n else zFm f a n
    split <;> omega
theorem zFm_i (f : Nat → Nat) (a : Nat) {n i : Nat} (hi : i < n) : f i ≤ zFm f a n := by
  induction n with
  | zero => omega
  | succ n ih =>
    show f i ≤ if zFm f a n < f n then f n else zFm f a n
    by_cases h : i = n
    · subst h
      split <;> omega
    · have := ih (by omega)
      split <;> omega
theorem zFm_at (f : Nat → Nat) (a n : Nat) : zFm f a n = a ∨ ∃ i, i < n ∧ zFm f a n = f i := by
  induction n with
  | zero => exact Or.inl rfl
  | succ n ih =>
    by_cases h : zFm f a n < f n
    · exact Or.inr ⟨n, Nat.lt_succ_self n, if_pos h⟩
    · have e : zFm f a (n + 1) = zFm f a n := if_neg h
      rw [e]
      rcases ih with h1 | ⟨i, h1, h2⟩
      · exact Or.inl h1
      · exact Or.inr ⟨i, by omega, h2⟩
theorem zFm_c {f g : Nat → Nat} {a b : Nat} {n : Nat} (h : ∀ i, i < n → f i = g i) (hab : a = b) : zFm f a n = zFm g b n := by
  induction n with
  | zero => exact hab
  | succ n ih =>
    have e := ih (fun i hi => h i (by omega))
    show (if zFm f a n < f n then f n else zFm f a n) = if zFm g b n < g n then g n else zFm g b n
    rw [e, h n (by omega)]
theorem zFm_d (f : Nat → Nat) (a n m : Nat) : zFm f a n / m = zFm (fun i => f i / m) (a / m) n := by
  induction n with
  | zero => rfl
  | succ n ih =>
    show (if zFm f a n < f n then f n else zFm f a n) / m = if zFm (fun i => f i / m) (a / m) n < f n / m then f n / m else zFm (fun i => f i / m) (a / m) n
    rw [← ih]
    by_cases h : zFm f a n < f n
    · rw [if_pos h]
      have := Nat.div_le_div_right (c := m) (Nat.le_of_lt h)
      split <;> omega
    · rw [if_neg h]
      have := Nat.div_le_div_right (c := m) (Nat.le_of_not_lt h)
      rw [if_neg (by omega)]
def zMt (P Q : Nat → Prop) (L : List (Nat × Nat)) : Prop := (∀ x ∈ L, P x.1 ∧ Q x.2) ∧ L.Pairwise (fun a b => a.1 ≠ b.1 ∧ a.2 ≠ b.2)
def zWt (W : Nat → Nat → Nat) : List (Nat × Nat) → Nat
  | [] => 0
  | x :: L => W x.1 x.2 + zWt W L
theorem zMt_out (W : Nat → Nat → Nat) {x : Nat × Nat} : ∀ {L : List (Nat × Nat)}, L.Pairwise (fun a b => a.1 ≠ b.1 ∧ a.2 ≠ b.2) → x ∈ L → ∃ M, zWt W L = W x.1 x.2 + zWt W M ∧ M.Pairwise (fun a b => a.1 ≠ b.1 ∧ a.2 ≠ b.2) ∧ ∀ y ∈ M, y ∈ L ∧ y.1 ≠ x.1 ∧ y.2 ≠ x.2
  | [], _, h => absurd h (List.not_mem_nil)
  | z :: L, hp, h => by
    rw [List.pairwise_cons] at hp
    rcases List.mem_cons.mp h with h | h0
    · subst h
      exact ⟨L, rfl, hp.2, fun y hy => ⟨List.mem_cons_of_mem _ hy, Ne.symm (hp.1 y hy).1, Ne.symm (hp.1 y hy).2⟩⟩
    · obtain ⟨M, m1, m2, m3⟩ := zMt_out W hp.2 h0
      refine ⟨z :: M, ?_, List.pairwise_cons.mpr ⟨fun y hy => hp.1 y (m3 y hy).1, m2⟩, ?_⟩
      · show W z.1 z.2 + zWt W L = W x.1 x.2 + (W z.1 z.2 + zWt W M)
        omega
      · intro y hy
        rcases List.mem_cons.mp hy with hy | hy
        · subst hy
          exact ⟨List.mem_cons_self, hp.1 x h0⟩
        · obtain ⟨k1, k2⟩ := m3 y hy
          exact ⟨List.mem_cons_of_mem _ k1, k2⟩
def zBm (W : Nat → Nat → Nat) (P Q : Nat → Prop) (v : Nat) : Prop := (∃ L, zMt P Q L ∧ zWt W L = v) ∧ ∀ L, zMt P Q L → zWt W L ≤ v
theorem zMt_w {P Q P2 Q2 : Nat → Prop} {L : List (Nat × Nat)} (h : zMt P Q L) (hP : ∀ e, P e → P2 e) (hQ : ∀ t, Q t → Q2 t) : zMt P2 Q2 L :=
  ⟨fun x hx => ⟨hP _ (h.1 x hx).1, hQ _ (h.1 x hx).2⟩, h.2⟩
theorem zBm_le {W : Nat → Nat → Nat} {P Q P2 Q2 : Nat → Prop} {v v2 : Nat} (h : zBm W P Q v) (h2 : zBm W P2 Q2 v2) (hP : ∀ e, P e → P2 e) (hQ : ∀ t, Q t → Q2 t) : v ≤ v2 := by
  obtain ⟨⟨L, l1, l2⟩, -⟩ := h
  have := h2.2 L (zMt_w l1 hP hQ)
  omega
theorem zBm_nil {W : Nat → Nat → Nat} {P Q : Nat → Prop} (h : ∀ e t, P e → Q t → False) : zBm W P Q 0 := by
  refine ⟨⟨[], ⟨fun x hx => absurd hx (List.not_mem_nil), List.Pairwise.nil⟩, rfl⟩, ?_⟩
  intro L hL
  cases L with
  | nil => exact Nat.le_refl 0
  | cons x L => exact (h _ _ (hL.1 x List.mem_cons_self).1 (hL.1 x List.mem_cons_self).2).elim
theorem zMt_cons {P Q P2 Q2 : Nat → Prop} {L : List (Nat × Nat)} {e t : Nat} (h : zMt P Q L) (he : P2 e) (ht : Q2 t) (hP : ∀ x, P x → P2 x ∧ x ≠ e) (hQ : ∀ x, Q x → Q2 x ∧ x ≠ t) : zMt P2 Q2 ((e, t) :: L) := by
  refine ⟨?_, List.pairwise_cons.mpr ⟨?_, h.2⟩⟩
  · intro x hx
    rcases List.mem_cons.mp hx with hx | hx
    · subst hx
      exact ⟨he, ht⟩
    · exact ⟨(hP _ (h.1 x hx).1).1, (hQ _ (h.1 x hx).2).1⟩
  · intro x hx
    exact ⟨Ne.symm (hP _ (h.1 x hx).1).2, Ne.symm (hQ _ (h.1 x hx).2).2⟩
theorem z_tbo (s t i : Nat) : (s ||| 2 ^ t).testBit i = (s.testBit i || decide (t = i)) := by
  rw [Nat.testBit_or, Nat.testBit_two_pow]
theorem z_tbx (s t i : Nat) : (s ^^^ 2 ^ t).testBit i = (s.testBit i ^^ decide (t = i)) := by
  rw [Nat.testBit_xor, Nat.testBit_two_pow]
/-- by entries -/
def zV (W : Nat → Nat → Nat) (T : Nat) : Nat → Nat → Nat → Nat
  | 0, _, _ => 0
  | r + 1, e, s => zFm (fun t => if s.testBit t = false ∧ 0 < W e t then W e t + zV W T r (e + 1) (s ||| 2 ^ t) else 0) (zV W T r (e + 1) s) T
theorem zV_B (W : Nat → Nat → Nat) (T : Nat) : ∀ (r e s : Nat), zBm W (fun x => e ≤ x ∧ x < e + r) (fun t => t < T ∧ s.testBit t = false) (zV W T r e s) := by
  intro r
  induction r with
  | zero =>
    intro e s
    exact zBm_nil (fun x t hx _ => by omega)
  | succ r ih =>
    intro e s
    constructor
    · rcases zFm_at (fun t => if s.testBit t = false ∧ 0 < W e t then W e t + zV W T r (e + 1) (s ||| 2 ^ t) else 0) (zV W T r (e + 1) s) T with h | ⟨t, ht, h⟩
      · obtain ⟨L, l1, l2⟩ := (ih (e + 1) s).1
        exact ⟨L, zMt_w l1 (fun x hx => by omega) (fun t ht => ht), l2.trans h.symm⟩
      · by_cases c : s.testBit t = false ∧ 0 < W e t
        · obtain ⟨L, l1, l2⟩ := (ih (e + 1) (s ||| 2 ^ t)).1
          refine ⟨(e, t) :: L, zMt_cons l1 (by omega) ⟨ht, c.1⟩ (fun x hx => by omega) (fun x hx => ?_), ?_⟩
          · obtain ⟨h1, h2⟩ := hx
            rw [z_tbo] at h2
            simp only [Bool.or_eq_false_iff, decide_eq_false_iff_not] at h2
            exact ⟨⟨h1, h2.1⟩, fun z => h2.2 z.symm⟩
          · refine Eq.trans ?_ h.symm
            show W e t + zWt W L = if s.testBit t = false ∧ 0 < W e t then W e t + zV W T r (e + 1) (s ||| 2 ^ t) else 0
            rw [if_pos c, l2]
        · have h : zV W T (r + 1) e s = 0 := h.trans (if_neg c)
          rw [h]
          exact ⟨[], ⟨fun x hx => absurd hx (List.not_mem_nil), List.Pairwise.nil⟩, rfl⟩
    · intro L hL
      have g0 : zV W T r (e + 1) s ≤ zV W T (r + 1) e s := zFm_0 _ _ _
      by_cases c : ∃ t, (e, t) ∈ L
      · obtain ⟨t, ht⟩ := c
        obtain ⟨M, m1, m2, m3⟩ := zMt_out W hL.2 ht
        obtain ⟨-, tT, ts⟩ := hL.1 _ ht
        have m1 : zWt W L = W e t + zWt W M := m1
        by_cases c2 : 0 < W e t
        · have g1 := (ih (e + 1) (s ||| 2 ^ t)).2 M ⟨fun y hy => ?_, m2⟩
          · have g2 := zFm_i (fun t => if s.testBit t = false ∧ 0 < W e t then W e t + zV W T r (e + 1) (s ||| 2 ^ t) else 0) (zV W T r (e + 1) s) tT
            have g2 : (if s.testBit t = false ∧ 0 < W e t then W e t + zV W T r (e + 1) (s ||| 2 ^ t) else 0) ≤ zV W T (r + 1) e s := g2
            rw [if_pos ⟨ts, c2⟩] at g2
            omega
          · obtain ⟨k1, k2, k3⟩ := m3 y hy
            obtain ⟨j1, j2, j3⟩ := hL.1 y k1
            have k2 : y.1 ≠ e := k2
            have k3 : y.2 ≠ t := k3
            refine ⟨by omega, j2, ?_⟩
            rw [z_tbo, j3]
            simp only [Bool.false_or, decide_eq_false_iff_not]
            exact fun z => k3 z.symm
        · have g1 := (ih (e + 1) s).2 M ⟨fun y hy => ?_, m2⟩
          · omega
          · obtain ⟨k1, k2, k3⟩ := m3 y hy
            obtain ⟨j1, j2, j3⟩ := hL.1 y k1
            have k2 : y.1 ≠ e := k2
            exact ⟨by omega, j2, j3⟩
      · have g1 := (ih (e + 1) s).2 L ⟨fun y hy => ?_, hL.2⟩
        · omega
        · obtain ⟨j1, j2, j3⟩ := hL.1 y hy
          have k2 : y.1 ≠ e := fun z => c ⟨y.2, by rw [← z]; exact hy⟩
          exact ⟨by omega, j2, j3⟩
theorem zV_le {W : Nat → Nat → Nat} {K : Nat} (hW : ∀ e t, W e t ≤ K) (T : Nat) : ∀ (r e s : Nat), zV W T r e s ≤ r * K := by
  intro r
  induction r with
  | zero => intro e s; exact Nat.zero_le _
  | succ r ih =>
    intro e s
    have hm : (r + 1) * K = r * K + K := Nat.succ_mul r K
    rcases zFm_at (fun t => if s.testBit t = false ∧ 0 < W e t then W e t + zV W T r (e + 1) (s ||| 2 ^ t) else 0) (zV W T r (e + 1) s) T with h | ⟨t, ht, h⟩
    · have h : zV W T (r + 1) e s = _ := h
      have := ih (e + 1) s
      omega
    · have h : zV W T (r + 1) e s = if s.testBit t = false ∧ 0 < W e t then W e t + zV W T r (e + 1) (s ||| 2 ^ t) else 0 := h
      have g1 := ih (e + 1) (s ||| 2 ^ t)
      have g2 := hW e t
      split at h <;> omega
/-- by things -/
def zD (W : Nat → Nat → Nat) : Nat → Nat → Nat
  | 0, _ => 0
  | j + 1, s => zFm (fun e => if s.testBit e = true then zD W j (s ^^^ 2 ^ e) + W e j else 0) (zD W j s) 6
theorem zD_B (W : Nat → Nat → Nat) : ∀ (j s : Nat), s < 64 → zBm W (fun x => s.testBit x = true) (fun t => t < j) (zD W j s) := by
  intro j
  induction j with
  | zero =>
    intro s hs
    exact zBm_nil (fun x t _ ht => by omega)
  | succ j ih =>
    intro s hs
    have hb : ∀ e, s.testBit e = true → e < 6 := by
      intro e he
      apply Nat.lt_of_not_le
      intro c
      have : s.testBit e = false := Nat.testBit_lt_two_pow (Nat.lt_of_lt_of_le (show s < 2 ^ 6 from hs) (Nat.pow_le_pow_right (n := 2) (by decide) c))
      rw [this] at he
      cases he
    have hx : ∀ e, e < 6 → s ^^^ 2 ^ e < 64 := fun e he => Nat.xor_lt_two_pow (n := 6) hs (Nat.pow_lt_pow_right (by decide) he)
    constructor
    · rcases zFm_at (fun e => if s.testBit e = true then zD W j (s ^^^ 2 ^ e) + W e j else 0) (zD W j s) 6 with h | ⟨e, he, h⟩
      · obtain ⟨L, l1, l2⟩ := (ih s hs).1
        exact ⟨L, zMt_w l1 (fun x hx => hx) (fun t ht => by omega), l2.trans h.symm⟩
      · by_cases c : s.testBit e = true
        · obtain ⟨L, l1, l2⟩ := (ih (s ^^^ 2 ^ e) (hx e he)).1
          refine ⟨(e, j) :: L, zMt_cons l1 c (by omega) (fun x hx => ?_) (fun x hx => by omega), ?_⟩
          · rw [z_tbx] at hx
            by_cases k : e = x
            · subst k
              rw [c] at hx
              simp at hx
            · rw [decide_eq_false k, Bool.xor_false] at hx
              exact ⟨hx, fun z => k z.symm⟩
          · refine Eq.trans ?_ h.symm
            show W e j + zWt W L = if s.testBit e = true then zD W j (s ^^^ 2 ^ e) + W e j else 0
            rw [if_pos c, l2, Nat.add_comm]
        · have h : zD W (j + 1) s = 0 := h.trans (if_neg c)
          rw [h]
          exact ⟨[], ⟨fun x hx => absurd hx (List.not_mem_nil), List.Pairwise.nil⟩, rfl⟩
    · intro L hL
      have g0 : zD W j s ≤ zD W (j + 1) s := zFm_0 _ _ _
      by_cases c : ∃ e, (e, j) ∈ L
      · obtain ⟨e, he⟩ := c
        obtain ⟨M, m1, m2, m3⟩ := zMt_out W hL.2 he
        obtain ⟨es, -⟩ := hL.1 _ he
        have es : s.testBit e = true := es
        have m1 : zWt W L = W e j + zWt W M := m1
        have g1 := (ih (s ^^^ 2 ^ e) (hx e (hb e es))).2 M ⟨fun y hy => ?_, m2⟩
        · have g2 := zFm_i (fun e => if s.testBit e = true then zD W j (s ^^^ 2 ^ e) + W e j else 0) (zD W j s) (hb e es)
          have g2 : (if s.testBit e = true then zD W j (s ^^^ 2 ^ e) + W e j else 0) ≤ zD W (j + 1) s := g2
          rw [if_pos es] at g2
          omega
        · obtain ⟨k1, k2, k3⟩ := m3 y hy
          obtain ⟨j1, j2⟩ := hL.1 y k1
          have j1 : s.testBit y.1 = true := j1
          have k2 : y.1 ≠ e := k2
          have k3 : y.2 ≠ j := k3
          refine ⟨?_, by omega⟩
          show (s ^^^ 2 ^ e).testBit y.1 = true
          rw [z_tbx, j1, decide_eq_false (fun z => k2 z.symm)]
          rfl
      · have g1 := (ih s hs).2 L ⟨fun y hy => ?_, hL.2⟩
        · omega
        · obtain ⟨j1, j2⟩ := hL.1 y hy
          have k2 : y.2 ≠ j := fun z => c ⟨y.1, by rw [← z]; exact hy⟩
          exact ⟨j1, by omega⟩
theorem z_sub_bit {s e : Nat} (hs : s < 64) (h : s.testBit e = true) : e < 6 := by
  apply Nat.lt_of_not_le
  intro c
  have : s.testBit e = false := Nat.testBit_lt_two_pow (Nat.lt_of_lt_of_le (show s < 2 ^ 6 from hs) (Nat.pow_le_pow_right (n := 2) (by decide) c))
  rw [this] at h
  cases h
theorem zD_le {W : Nat → Nat → Nat} {K : Nat} (hW : ∀ e t, W e t ≤ K) {j s : Nat} (hs : s < 64) : zD W j s ≤ 6 * K := by
  have h := zBm_le (zD_B W j s hs) (zV_B W j 6 0 0) (fun e he => ⟨Nat.zero_le e, by have := z_sub_bit hs he; omega⟩) (fun t ht => ⟨ht, Nat.zero_testBit t⟩)
  exact Nat.le_trans h (zV_le hW j 6 0 0)
theorem zD_V (W : Nat → Nat → Nat) {T E : Nat} (hE : E ≤ 6) : zD W T (2 ^ E - 1) = zV W T E 0 0 := by
  have h64 : 2 ^ E - 1 < 64 := by
    have : 2 ^ E ≤ 2 ^ 6 := Nat.pow_le_pow_right (by decide) hE
    have h6 : (2 : Nat) ^ 6 = 64 := by decide
    have : 0 < 2 ^ E := Nat.two_pow_pos E
    omega
  have hb : ∀ e, (2 ^ E - 1).testBit e = decide (e < E) := fun e => Nat.testBit_two_pow_sub_one E e
  refine Nat.le_antisymm (zBm_le (zD_B W T _ h64) (zV_B W T E 0 0) (fun e he => ?_) (fun t ht => ⟨ht, Nat.zero_testBit t⟩)) (zBm_le (zV_B W T E 0 0) (zD_B W T _ h64) (fun e he => ?_) (fun t ht => ht.1))
  · rw [hb] at he
    have := of_decide_eq_true he
    omega
  · show (2 ^ E - 1).testBit e = true
    rw [hb]
    exact decide_eq_true (by omega)
/-! the encoded weight: sum first, then the digits -/
def zWj (sc : Nat → Nat → Nat) (e t : Nat) : Nat := if 0 < sc e t then sc e t * 4826809 + (12 - t) * 13 ^ (5 - e) else 0
theorem zWj_p {sc : Nat → Nat → Nat} {e t : Nat} : 0 < zWj sc e t ↔ 0 < sc e t := by
  unfold zWj
  split <;> omega
theorem z_e6 {e : Nat} (he : e < 6) : e = 0 ∨ e = 1 ∨ e = 2 ∨ e = 3 ∨ e = 4 ∨ e = 5 := by omega
theorem z_cand {e k g v : Nat} (he : e < 6) (hg : g ≤ 12) (hv : v % 4826809 < 13 ^ (5 - e)) : (k * 4826809 + g * 13 ^ (5 - e) + v) / 4826809 = k + v / 4826809 ∧ (k * 4826809 + g * 13 ^ (5 - e) + v) % 4826809 < 13 ^ (6 - e) ∧ (k * 4826809 + g * 13 ^ (5 - e) + v) / 13 ^ (5 - e) % 13 = g ∧ (k * 4826809 + g * 13 ^ (5 - e) + v) % 13 ^ (5 - e) = v % 13 ^ (5 - e) := by
  rcases z_e6 he with h | h | h | h | h | h <;> subst h <;> simp only [Nat.reduceSub, Nat.reducePow] at hv ⊢ <;> omega
theorem z_candlt {e k g v k2 g2 v2 : Nat} (he : e < 6) (hg : g < g2) (hg2 : g2 ≤ 12) (hv : v % 4826809 < 13 ^ (5 - e)) (hv2 : v2 % 4826809 < 13 ^ (5 - e)) (hk : k + v / 4826809 = k2 + v2 / 4826809) : k * 4826809 + g * 13 ^ (5 - e) + v < k2 * 4826809 + g2 * 13 ^ (5 - e) + v2 := by
  rcases z_e6 he with h | h | h | h | h | h <;> subst h <;> simp only [Nat.reduceSub, Nat.reducePow] at hv hv2 ⊢ <;> omega
theorem z_low {e v : Nat} (he : e < 6) (hv : v % 4826809 < 13 ^ (5 - e)) : v % 4826809 < 13 ^ (6 - e) ∧ v / 13 ^ (5 - e) % 13 = 0 := by
  rcases z_e6 he with h | h | h | h | h | h <;> subst h <;> simp only [Nat.reduceSub, Nat.reducePow] at hv ⊢ <;> omega
theorem z_dig {e v w : Nat} (he : e < 6) (h : v % 13 ^ (6 - e) = w % 13 ^ (6 - e)) : v / 13 ^ (5 - e) % 13 = w / 13 ^ (5 - e) % 13 ∧ v % 13 ^ (5 - e) = w % 13 ^ (5 - e) := by
  rcases z_e6 he with h | h | h | h | h | h <;> subst h <;> simp only [Nat.reduceSub, Nat.reducePow] at h ⊢ <;> omega
theorem zV_m (sc : Nat → Nat → Nat) (T : Nat) : ∀ (r e s : Nat), e + r ≤ 6 → zV (zWj sc) T r e s % 4826809 < 13 ^ (6 - e) := by
  intro r
  induction r with
  | zero => intro e s _; exact Nat.pow_pos (by decide)
  | succ r ih =>
    intro e s h
    have h6 : 6 - (e + 1) = 5 - e := by omega
    have g0 := ih (e + 1) s (by omega)
    rw [h6] at g0
    rcases zFm_at (fun t => if s.testBit t = false ∧ 0 < zWj sc e t then zWj sc e t + zV (zWj sc) T r (e + 1) (s ||| 2 ^ t) else 0) (zV (zWj sc) T r (e + 1) s) T with q | ⟨t, ht, q⟩
    · have q : zV (zWj sc) T (r + 1) e s = _ := q
      rw [q]
      exact (z_low (by omega) g0).1
    · have q : zV (zWj sc) T (r + 1) e s = if s.testBit t = false ∧ 0 < zWj sc e t then zWj sc e t + zV (zWj sc) T r (e + 1) (s ||| 2 ^ t) else 0 := q
      rw [q]
      by_cases c : s.testBit t = false ∧ 0 < zWj sc e t
      · have g1 := ih (e + 1) (s ||| 2 ^ t) (by omega)
        rw [h6] at g1
        rw [if_pos c]
        have c2 : zWj sc e t = _ := if_pos (zWj_p.mp c.2)
        rw [c2]
        exact (z_cand (by omega) (by omega) g1).2.1
      · rw [if_neg c]
        exact Nat.pow_pos (by decide)
def zTk (sc : Nat → Nat → Nat) (T r e s t : Nat) : Prop := s.testBit t = false ∧ 0 < sc e t ∧ sc e t + zV (zWj sc) T r (e + 1) (s ||| 2 ^ t) / 4826809 = zV (zWj sc) T (r + 1) e s / 4826809
theorem zV_s (sc : Nat → Nat → Nat) (T r e s : Nat) (h : e + (r + 1) ≤ 6) : zV (zWj sc) T (r + 1) e s / 4826809 = zFm (fun t => if s.testBit t = false ∧ 0 < sc e t then sc e t + zV (zWj sc) T r (e + 1) (s ||| 2 ^ t) / 4826809 else 0) (zV (zWj sc) T r (e + 1) s / 4826809) T := by
  refine (zFm_d _ _ T 4826809).trans (zFm_c (fun t ht => ?_) rfl)
  by_cases c : s.testBit t = false ∧ 0 < sc e t
  · have c1 : s.testBit t = false ∧ 0 < zWj sc e t := ⟨c.1, zWj_p.mpr c.2⟩
    have c2 : zWj sc e t = _ := if_pos c.2
    have g1 := zV_m sc T r (e + 1) (s ||| 2 ^ t) (by omega)
    rw [show 6 - (e + 1) = 5 - e by omega] at g1
    show (if s.testBit t = false ∧ 0 < zWj sc e t then zWj sc e t + zV (zWj sc) T r (e + 1) (s ||| 2 ^ t) else 0) / 4826809 = if s.testBit t = false ∧ 0 < sc e t then sc e t + zV (zWj sc) T r (e + 1) (s ||| 2 ^ t) / 4826809 else 0
    rw [if_pos c, if_pos c1, c2]
    exact (z_cand (by omega) (by omega) g1).1
  · have c1 : ¬ (s.testBit t = false ∧ 0 < zWj sc e t) := fun z => c ⟨z.1, zWj_p.mp z.2⟩
    show (if s.testBit t = false ∧ 0 < zWj sc e t then zWj sc e t + zV (zWj sc) T r (e + 1) (s ||| 2 ^ t) else 0) / 4826809 = if s.testBit t = false ∧ 0 < sc e t then sc e t + zV (zWj sc) T r (e + 1) (s ||| 2 ^ t) / 4826809 else 0
    rw [if_neg c, if_neg c1]
theorem z_walk (sc : Nat → Nat → Nat) {T : Nat} (hT : T ≤ 12) {r e : Nat} (s : Nat) (h : e + (r + 1) ≤ 6) :
    (∃ t, t < T ∧ zTk sc T r e s t ∧ (∀ t2, t2 < t → ¬ zTk sc T r e s t2) ∧ zV (zWj sc) T (r + 1) e s / 13 ^ (5 - e) % 13 = 12 - t ∧ zV (zWj sc) T (r + 1) e s % 13 ^ (5 - e) = zV (zWj sc) T r (e + 1) (s ||| 2 ^ t) % 13 ^ (5 - e)) ∨
    ((∀ t2, t2 < T → ¬ zTk sc T r e s t2) ∧ zV (zWj sc) T (r + 1) e s / 13 ^ (5 - e) % 13 = 0 ∧ zV (zWj sc) T (r + 1) e s % 13 ^ (5 - e) = zV (zWj sc) T r (e + 1) s % 13 ^ (5 - e)) := by
  have h6 : 6 - (e + 1) = 5 - e := by omega
  have he : e < 6 := by omega
  have gm : ∀ s, zV (zWj sc) T r (e + 1) s % 4826809 < 13 ^ (5 - e) := by
    intro s
    have := zV_m sc T r (e + 1) s (by omega)
    rwa [h6] at this
  have hi : ∀ t, t < T → s.testBit t = false → 0 < sc e t → sc e t * 4826809 + (12 - t) * 13 ^ (5 - e) + zV (zWj sc) T r (e + 1) (s ||| 2 ^ t) ≤ zV (zWj sc) T (r + 1) e s := by
    intro t ht h1 h2
    have g := zFm_i (fun t => if s.testBit t = false ∧ 0 < zWj sc e t then zWj sc e t + zV (zWj sc) T r (e + 1) (s ||| 2 ^ t) else 0) (zV (zWj sc) T r (e + 1) s) ht
    have g : (if s.testBit t = false ∧ 0 < zWj sc e t then zWj sc e t + zV (zWj sc) T r (e + 1) (s ||| 2 ^ t) else 0) ≤ zV (zWj sc) T (r + 1) e s := g
    rw [if_pos ⟨h1, zWj_p.mpr h2⟩] at g
    have c2 : zWj sc e t = _ := if_pos h2
    rw [c2] at g
    exact g
  have g0 : zV (zWj sc) T r (e + 1) s ≤ zV (zWj sc) T (r + 1) e s := zFm_0 _ _ _
  have none_case : zV (zWj sc) T (r + 1) e s = zV (zWj sc) T r (e + 1) s → ((∀ t2, t2 < T → ¬ zTk sc T r e s t2) ∧ zV (zWj sc) T (r + 1) e s / 13 ^ (5 - e) % 13 = 0 ∧ zV (zWj sc) T (r + 1) e s % 13 ^ (5 - e) = zV (zWj sc) T r (e + 1) s % 13 ^ (5 - e)) := by
    intro q
    refine ⟨?_, ?_, ?_⟩
    · intro t ht ⟨k1, k2, k3⟩
      have g1 := hi t ht k1 k2
      rw [q] at g1 k3
      have g2 := z_candlt (k := 0) (g := 0) (k2 := sc e t) (g2 := 12 - t) he (by omega) (by omega) (gm s) (gm (s ||| 2 ^ t)) (by omega)
      omega
    · rw [q]
      exact (z_low he (gm s)).2
    · rw [q]
  rcases zFm_at (fun t => if s.testBit t = false ∧ 0 < zWj sc e t then zWj sc e t + zV (zWj sc) T r (e + 1) (s ||| 2 ^ t) else 0) (zV (zWj sc) T r (e + 1) s) T with q | ⟨t, ht, q⟩
  · exact Or.inr (none_case q)
  · have q : zV (zWj sc) T (r + 1) e s = if s.testBit t = false ∧ 0 < zWj sc e t then zWj sc e t + zV (zWj sc) T r (e + 1) (s ||| 2 ^ t) else 0 := q
    by_cases c : s.testBit t = false ∧ 0 < zWj sc e t
    · left
      have c1 := zWj_p.mp c.2
      have c2 : zWj sc e t = sc e t * 4826809 + (12 - t) * 13 ^ (5 - e) := if_pos c1
      rw [if_pos c, c2] at q
      obtain ⟨k1, -, k3, k4⟩ := z_cand (k := sc e t) (g := 12 - t) he (by omega) (gm (s ||| 2 ^ t))
      rw [← q] at k1 k3 k4
      refine ⟨t, ht, ⟨c.1, c1, k1.symm⟩, ?_, k3, k4⟩
      intro t2 h2 ⟨j1, j2, j3⟩
      have g1 := hi t2 (by omega) j1 j2
      have g2 := z_candlt (k := sc e t) (g := 12 - t) (k2 := sc e t2) (g2 := 12 - t2) he (by omega) (by omega) (gm (s ||| 2 ^ t)) (gm (s ||| 2 ^ t2)) (by omega)
      omega
    · right
      rw [if_neg c] at q
      exact none_case (by omega)
