/-! the state of a system (ints and longs by field and place), partial answers, and the rows that are the same for both systems -/
abbrev z_St : Type := (Nat → Nat → Int32) × (Nat → Nat → Int64)
def z_rI (u : z_St) (k : Nat) : Nat → Int32 := u.1 k
def z_rL (u : z_St) (k : Nat) : Nat → Int64 := u.2 k
def z_wI (u : z_St) (k j : Nat) (v : Int32) : z_St := (fun a => cond (Nat.beq a k) (upd (u.1 a) j v) (u.1 a), u.2)
def z_wL (u : z_St) (k j : Nat) (v : Int64) : z_St := (u.1, fun a => cond (Nat.beq a k) (vp_updL (u.2 a) j v) (u.2 a))
def z_inb (i : Int32) (n : Nat) : Bool := decide (¬ (i < 0 ∨ n ≤ i.toNatClampNeg))
theorem z_in {i : Int32} {n : Nat} (h : z_inb i n = true) : vp_in i n := by
  unfold vp_in
  exact of_decide_eq_true h
def z_nz (i : Int32) : Bool := decide (¬ i = 0)
def z_nzL (i : Int64) : Bool := decide (¬ i = 0)
theorem z_nz_s {i : Int32} (h : z_nz i = true) : ¬ i = 0 := of_decide_eq_true h
theorem z_nzL_s {i : Int64} (h : z_nzL i = true) : ¬ i = 0 := of_decide_eq_true h
def z_gd {α : Type} (b : Bool) (x : Option α) : Option α := cond b x none
theorem z_gd_s {α : Type} {b : Bool} {x : Option α} {y : α} (h : z_gd b x = some y) : b = true ∧ x = some y := by
  cases b with
  | false => cases h
  | true => exact ⟨rfl, h⟩
def z_bd {α β : Type} (x : Option α) (k : α → Option β) : Option β := match x with
  | none => none
  | some a => k a
theorem z_bd_s {α β : Type} {x : Option α} {k : α → Option β} {y : β} (h : z_bd x k = some y) : ∃ a, x = some a ∧ k a = some y := by
  cases x with
  | none => cases h
  | some a => exact ⟨a, rfl, h⟩
def z_bd2 {α β ω : Type} (x : Option (α × β)) (k : α → β → Option ω) : Option ω := match x with
  | none => none
  | some p => k (p.1) (p.2)
theorem z_bd2_s {α β ω : Type} {x : Option (α × β)} {k : α → β → Option ω} {y : ω} (h : z_bd2 x k = some y) : ∃ a b, x = some (a, b) ∧ k a b = some y := by
  cases x with
  | none => cases h
  | some p => exact ⟨p.1, p.2, rfl, h⟩
def z_bd3 {α β γ ω : Type} (x : Option (α × β × γ)) (k : α → β → γ → Option ω) : Option ω := match x with
  | none => none
  | some p => k (p.1) (p.2.1) (p.2.2)
theorem z_bd3_s {α β γ ω : Type} {x : Option (α × β × γ)} {k : α → β → γ → Option ω} {y : ω} (h : z_bd3 x k = some y) : ∃ a b c, x = some (a, b, c) ∧ k a b c = some y := by
  cases x with
  | none => cases h
  | some p => exact ⟨p.1, p.2.1, p.2.2, rfl, h⟩
def z_bd4 {α β γ δ ω : Type} (x : Option (α × β × γ × δ)) (k : α → β → γ → δ → Option ω) : Option ω := match x with
  | none => none
  | some p => k (p.1) (p.2.1) (p.2.2.1) (p.2.2.2)
theorem z_bd4_s {α β γ δ ω : Type} {x : Option (α × β × γ × δ)} {k : α → β → γ → δ → Option ω} {y : ω} (h : z_bd4 x k = some y) : ∃ a b c d, x = some (a, b, c, d) ∧ k a b c d = some y := by
  cases x with
  | none => cases h
  | some p => exact ⟨p.1, p.2.1, p.2.2.1, p.2.2.2, rfl, h⟩
def z_bd5 {α β γ δ ε ω : Type} (x : Option (α × β × γ × δ × ε)) (k : α → β → γ → δ → ε → Option ω) : Option ω := match x with
  | none => none
  | some p => k (p.1) (p.2.1) (p.2.2.1) (p.2.2.2.1) (p.2.2.2.2)
theorem z_bd5_s {α β γ δ ε ω : Type} {x : Option (α × β × γ × δ × ε)} {k : α → β → γ → δ → ε → Option ω} {y : ω} (h : z_bd5 x k = some y) : ∃ a b c d e, x = some (a, b, c, d, e) ∧ k a b c d e = some y := by
  cases x with
  | none => cases h
  | some p => exact ⟨p.1, p.2.1, p.2.2.1, p.2.2.2.1, p.2.2.2.2, rfl, h⟩
def z_bd6 {α β γ δ ε ζ ω : Type} (x : Option (α × β × γ × δ × ε × ζ)) (k : α → β → γ → δ → ε → ζ → Option ω) : Option ω := match x with
  | none => none
  | some p => k (p.1) (p.2.1) (p.2.2.1) (p.2.2.2.1) (p.2.2.2.2.1) (p.2.2.2.2.2)
theorem z_bd6_s {α β γ δ ε ζ ω : Type} {x : Option (α × β × γ × δ × ε × ζ)} {k : α → β → γ → δ → ε → ζ → Option ω} {y : ω} (h : z_bd6 x k = some y) : ∃ a b c d e f, x = some (a, b, c, d, e, f) ∧ k a b c d e f = some y := by
  cases x with
  | none => cases h
  | some p => exact ⟨p.1, p.2.1, p.2.2.1, p.2.2.2.1, p.2.2.2.2.1, p.2.2.2.2.2, rfl, h⟩
def z_nm {α β : Type} (v : α) (k : α → β) : β := k v
theorem z_nm_s {α β : Type} {v x : α} {k : α → β} {y : β} (h : z_nm v k = y) (e : x = v) : k x = y := by
  subst e; exact h
theorem z_t {α : Type} {c : Prop} {d : Decidable c} {a b y : α} (h : @ite α c d a b = y) (hc : c) : a = y := by
  rw [if_pos hc] at h; exact h
theorem z_f {α : Type} {c : Prop} {d : Decidable c} {a b y : α} (h : @ite α c d a b = y) (hc : ¬ c) : b = y := by
  rw [if_neg hc] at h; exact h
/-- what a system has besides its cells: it lies outside A, and is true at every state that the machine may pass on -/
def z_Gok (G : (Nat → Prop) → State → Heap → Prop) : Prop :=
  (∀ (A B : Nat → Prop) (U : State) (H : Heap), G A U H → (∀ x, B x → A x) → G B U H) ∧ (∀ (A : Nat → Prop) (U : State) (H H1 : Heap), G A U H → (∀ a : Nat, a < H.size → ¬ A a → H1[a]? = H[a]?) → G A U H1) ∧
  (∀ (A : Nat → Prop) (s U : State) (H : Heap), s.WarmedH U.vm → G A s H → G A U H) ∧ (∀ (A : Nat → Prop) (s U : State) (H : Heap), s.vm = U.vm → G A s H → G A U H)
def z_C (Wd : z_St → va_W) (G : (Nat → Prop) → State → Heap → Prop) (D : va_G) (cI cJ : ClassId) (A : Nat → Prop) (s : State) (u : z_St) (H : Heap) (locs : List Loc) : Prop :=
  va_K D vwCl [(cI, .int), (cJ, .long)] s ∧ va_P D vwCl (Wd u) H ∧ va_D A (Wd u) ∧ va_S A s.heap H locs ∧ (∀ x, s.heap.size ≤ x → A x) ∧ G A s s.heap
def z_pre (Wd : z_St → va_W) (G : (Nat → Prop) → State → Heap → Prop) (D : va_G) (cI cJ : ClassId) (u : z_St) (sz : Nat) : State → Prop := fun U =>
  U.heap.size = sz ∧ va_P D vwCl (Wd u) U.heap ∧ va_K D vwCl [(cI, .int), (cJ, .long)] U ∧ va_D (fun _ => True) (Wd u) ∧ G (va_A (Wd u) sz) U U.heap
def z_at (Wd : z_St → va_W) (D : va_G) (A : Nat → Prop) (v : z_St) (t : State) : Prop := va_P D vwCl (Wd v) t.heap ∧ va_D A (Wd v)
/-- the contracts: y, called with as at the state u, answers r and leaves u2 -/
def z_Mi (l : Launch) (y : MethodName) (ws : List Cond) (rm : Room) (Wd : z_St → va_W) (G : (Nat → Prop) → State → Heap → Prop) (D : va_G) (cI cJ : ClassId) (as : List Value) (u : z_St) (r : Int32) (u2 : z_St) : Prop :=
  ∀ sz : Nat, Met l y ws rm (va_Pc as (z_pre Wd G D cI cJ u sz)) (va_Qi (fun (x : Int32) (v : z_St) => x = r ∧ v = u2) (z_at Wd D (va_A (Wd u) sz)) (va_A (Wd u) sz)) 0 0 (va_A (Wd u) sz)
def z_Ml (l : Launch) (y : MethodName) (ws : List Cond) (rm : Room) (Wd : z_St → va_W) (G : (Nat → Prop) → State → Heap → Prop) (D : va_G) (cI cJ : ClassId) (as : List Value) (u : z_St) (r : Int64) (u2 : z_St) : Prop :=
  ∀ sz : Nat, Met l y ws rm (va_Pc as (z_pre Wd G D cI cJ u sz)) (va_Ql (fun (x : Int64) (v : z_St) => x = r ∧ v = u2) (z_at Wd D (va_A (Wd u) sz)) (va_A (Wd u) sz)) 0 0 (va_A (Wd u) sz)
def z_Mv (l : Launch) (y : MethodName) (ws : List Cond) (rm : Room) (Wd : z_St → va_W) (G : (Nat → Prop) → State → Heap → Prop) (D : va_G) (cI cJ : ClassId) (as : List Value) (u : z_St) (u2 : z_St) : Prop :=
  ∀ sz : Nat, Met l y ws rm (va_Pc as (z_pre Wd G D cI cJ u sz)) (va_Qv (fun (v : z_St) => v = u2) (z_at Wd D (va_A (Wd u) sz)) (va_A (Wd u) sz)) 0 0 (va_A (Wd u) sz)
section
variable {p : Program} {l : Launch} {e : Env} {R : Room} {s : State} {m : MethodId} {args : Array Value} {below : List Frame} {meth : Method} {c : Code} {H : Heap} {locs : List Loc} {cells slots : Nat} {Q : State → Prop} {cc : ByteArray} {pc : Nat} {ls : Array Slot} {rest st : List Value}
variable {Wd : z_St → va_W} {G : (Nat → Prop) → State → Heap → Prop} {D : va_G} {cI cJ : ClassId} {A : Nat → Prop} {u u2 : z_St} {Ts ws ws' : List Cond} {own C host : String} {y : MethodName} {rm : Room} {nL n index maxL : Nat} {bytes : ByteArray} {ret : Option FieldType} {b : Addr} {As as : List Value}
theorem z_free (hC : z_C Wd G D cI cJ A s u H locs) : ∀ x, va_A (Wd u) H.size x → A x := by
  intro x h
  rcases h with ⟨k, e, hk⟩ | h
  · exact hC.2.2.1.2 k (x, e) hk
  · exact hC.2.2.2.2.1 x (Nat.le_trans hC.2.2.2.1.1 h)
theorem z_prep (hG : z_Gok G) (hC : z_C Wd G D cI cJ A s u H locs) : ∀ U : State, U.heap = H → s.WarmedH U.vm → z_pre Wd G D cI cJ u H.size U := by
  intro U hU hW
  refine ⟨by rw [hU], by rw [hU]; exact hC.2.1, va_K.moved hW.alike hC.1, hC.2.2.1.weaken (fun _ _ _ _ => trivial), ?_⟩
  rw [hU]
  exact hG.2.2.1 _ s U H hW (hG.1 A _ s H (hG.2.1 A s s.heap H hC.2.2.2.2.2 hC.2.2.2.1.2.1) (z_free hC))
theorem z_blind (hG : z_Gok G) {sz : Nat} : FrameBlind (va_Pc as (z_pre Wd G D cI cJ u sz)) := by
  intro a U g mk h
  obtain ⟨h0, h1, h2, h3, h4, h5⟩ := h
  exact ⟨h0, h1, h2, va_K.moved (u := U) (U := U.calling g mk a) (Vm.Alike.refl U.vm) h3, h4, hG.2.2.2 _ U (U.calling g mk a) _ rfl h5⟩
theorem z_runV {Qc : Array Value → State → Outcome → State → Prop} {free : Addr → Prop} (hG : z_Gok G) (hC : z_C Wd G D cI cJ A s u H locs) (S : CallFix p m c cc nL s args Ts own) (hM : Met l y ws rm (va_Pc (.ref b :: As) (z_pre Wd G D cI cJ u H.size)) Qc 0 0 free)
    (cw : CallW R s args own C index y bytes maxL ret ws rm 0 0 n) (hrc : ∃ cellB : Cell, H[b]? = some cellB ∧ cellB.vm.isStatics = false ∧ s.vm.findClass C = some cellB.cls) (hn : As.length = n) (hsize : ls.size = nL) (hst : st = As.reverse ++ .ref b :: rest)
    (hW : (rest.map fun v => v.category).sum ≤ 8) (hdg : decode cc pc = .ok (.invokevirtual index, 3)) (hf : cells ≤ R.cells ∧ slots ≤ R.slots) : va_Run p l e R s m args below meth c H locs cells slots 0 0 (F0 m pc ls st) rest (Qc (Value.ref b :: As).toArray) free :=
  va_runV (As := As) (rest := rest) S hM cw ⟨z_blind hG, hrc, fun U hU hW => ⟨rfl, z_prep hG hC U hU hW⟩⟩ rfl hn hsize hst (lv_room hW) hdg hf
theorem z_runS {Qc : Array Value → State → Outcome → State → Prop} {free : Addr → Prop} (hG : z_Gok G) (hC : z_C Wd G D cI cJ A s u H locs) (S : CallFix p m c cc nL s args Ts own) (hM : Met l y ws rm (va_Pc As (z_pre Wd G D cI cJ u H.size)) Qc 0 0 free)
    (cw : CallB R s args own index y bytes maxL ret ws rm 0 0 n ∧ (Cond.static y).before args s = true) (hn : As.length = n) (hsize : ls.size = nL) (hst : st = As.reverse ++ rest)
    (hW : (rest.map fun v => v.category).sum ≤ 8) (hdg : decode cc pc = .ok (.invokestatic index, 3)) (hf : cells ≤ R.cells ∧ slots ≤ R.slots) : va_Run p l e R s m args below meth c H locs cells slots 0 0 (F0 m pc ls st) rest (Qc As.toArray) free :=
  va_runS (As := As) (rest := rest) S hM cw ⟨z_blind hG, fun U hU hW => ⟨rfl, z_prep hG hC U hU hW⟩⟩ rfl hn hsize hst (lv_room hW) hdg hf
theorem z_runSN {Qc : Array Value → State → Outcome → State → Prop} {free : Addr → Prop} (hG : z_Gok G) (hC : z_C Wd G D cI cJ A s u H locs) (S : CallFix p m c cc nL s args Ts own) (hM : Met l y ws rm (va_Pc As (z_pre Wd G D cI cJ u H.size)) Qc 0 0 free)
    (cw : va_CN R s args own index y host bytes maxL ret ws rm 0 0 n ∧ (Cond.static y).before args s = true ∧ True) (hn : As.length = n) (hsize : ls.size = nL) (hst : st = As.reverse ++ rest)
    (hW : (rest.map fun v => v.category).sum ≤ 8) (hdg : decode cc pc = .ok (.invokestatic index, 3)) (hf : cells ≤ R.cells ∧ slots ≤ R.slots) : va_Run p l e R s m args below meth c H locs cells slots 0 0 (F0 m pc ls st) rest (Qc As.toArray) free :=
  va_runSN (As := As) (rest := rest) S hM cw ⟨z_blind hG, fun U hU hW => ⟨rfl, z_prep hG hC U hU hW⟩⟩ rfl hn hsize hst (lv_room hW) hdg hf
theorem z_calli {r : Int32} {a : Array Value} (hC : z_C Wd G D cI cJ A s u H locs)
    (hr : va_Run p l e R s m args below meth c H locs cells slots 0 0 (F0 m pc ls st) rest (va_Qi (fun (x : Int32) (v : z_St) => x = r ∧ v = u2) (z_at Wd D (va_A (Wd u) H.size)) (va_A (Wd u) H.size) a) (va_A (Wd u) H.size))
    (kk : ∀ (H1 : Heap) (locs1 : List Loc), z_C Wd G D cI cJ A s u2 H1 locs1 → W p l e R s m args below meth c H1 locs1 cells slots Q (F0 m (pc + 3) ls (.int r :: rest))) : W p l e R s m args below meth c H locs cells slots Q (F0 m pc ls st) := by
  refine va_calli hr hC.2.2.2.1 (fun x _ h => z_free hC x h) (z_free hC) (fun r1 v t H1 locs1 ht hvm hw hB hz hk hS1 => ?_)
  obtain ⟨rfl, rfl⟩ := hw
  obtain ⟨hP1, hD1⟩ := hB
  rw [ht] at hP1
  exact kk H1 locs1 ⟨hC.1, hP1, hD1.weaken (fun _ _ _ h => z_free hC _ h), hS1, hC.2.2.2.2.1, hC.2.2.2.2.2⟩
theorem z_calll {r : Int64} {a : Array Value} (hC : z_C Wd G D cI cJ A s u H locs)
    (hr : va_Run p l e R s m args below meth c H locs cells slots 0 0 (F0 m pc ls st) rest (va_Ql (fun (x : Int64) (v : z_St) => x = r ∧ v = u2) (z_at Wd D (va_A (Wd u) H.size)) (va_A (Wd u) H.size) a) (va_A (Wd u) H.size))
    (kk : ∀ (H1 : Heap) (locs1 : List Loc), z_C Wd G D cI cJ A s u2 H1 locs1 → W p l e R s m args below meth c H1 locs1 cells slots Q (F0 m (pc + 3) ls (.long r :: rest))) : W p l e R s m args below meth c H locs cells slots Q (F0 m pc ls st) := by
  refine va_calll hr hC.2.2.2.1 (fun x _ h => z_free hC x h) (z_free hC) (fun r1 v t H1 locs1 ht hvm hw hB hz hk hS1 => ?_)
  obtain ⟨rfl, rfl⟩ := hw
  obtain ⟨hP1, hD1⟩ := hB
  rw [ht] at hP1
  exact kk H1 locs1 ⟨hC.1, hP1, hD1.weaken (fun _ _ _ h => z_free hC _ h), hS1, hC.2.2.2.2.1, hC.2.2.2.2.2⟩
theorem z_callv {a : Array Value} (hC : z_C Wd G D cI cJ A s u H locs)
    (hr : va_Run p l e R s m args below meth c H locs cells slots 0 0 (F0 m pc ls st) rest (va_Qv (fun (v : z_St) => v = u2) (z_at Wd D (va_A (Wd u) H.size)) (va_A (Wd u) H.size) a) (va_A (Wd u) H.size))
    (kk : ∀ (H1 : Heap) (locs1 : List Loc), z_C Wd G D cI cJ A s u2 H1 locs1 → W p l e R s m args below meth c H1 locs1 cells slots Q (F0 m (pc + 3) ls rest)) : W p l e R s m args below meth c H locs cells slots Q (F0 m pc ls st) := by
  refine va_callv hr hC.2.2.2.1 (fun x _ h => z_free hC x h) (z_free hC) (fun v t H1 locs1 ht hvm hw hB hz hk hS1 => ?_)
  subst hw
  obtain ⟨hP1, hD1⟩ := hB
  rw [ht] at hP1
  exact kk H1 locs1 ⟨hC.1, hP1, hD1.weaken (fun _ _ _ h => z_free hC _ h), hS1, hC.2.2.2.2.1, hC.2.2.2.2.2⟩
theorem z_reti {v r : Int32} (hx : p.tables.exec = Jvm.exec) (hb : c.code = cc) (hr : meth.sig.returnType = some .int) (hlk : meth.locks = false) (hC : z_C Wd G D cI cJ A s u H locs) (h : v = r) (h2 : u = u2) (hdg : decode cc pc = .ok (.ireturn, 1)) :
    W p l e R s m args below meth c H locs cells slots (MQ below (va_Qi (fun (x : Int32) (v : z_St) => x = r ∧ v = u2) (z_at Wd D A) A) args s cells slots A) (F0 m pc ls [.int v]) :=
  W.iret (v := v) hx hb hr (fun t ht hW => ⟨⟨v, u, rfl, ⟨h, h2⟩, by rw [ht]; exact hC.2.1, hC.2.2.1⟩, hC.2.2.2.1.F ht⟩) hC.2.2.2.1.2.2 hdg hlk
theorem z_retz {v r : Int32} (hx : p.tables.exec = Jvm.exec) (hb : c.code = cc) (hr : meth.sig.returnType = some .boolean) (hlk : meth.locks = false) (hC : z_C Wd G D cI cJ A s u H locs) (hn : narrow .boolean (.int v) = .int v) (h : v = r) (h2 : u = u2) (hdg : decode cc pc = .ok (.ireturn, 1)) :
    W p l e R s m args below meth c H locs cells slots (MQ below (va_Qi (fun (x : Int32) (v : z_St) => x = r ∧ v = u2) (z_at Wd D A) A) args s cells slots A) (F0 m pc ls [.int v]) :=
  W.zret (v := v) hx hb hr hn (fun t ht hW => ⟨⟨v, u, rfl, ⟨h, h2⟩, by rw [ht]; exact hC.2.1, hC.2.2.1⟩, hC.2.2.2.1.F ht⟩) hC.2.2.2.1.2.2 hdg hlk
theorem z_retl {v r : Int64} (hx : p.tables.exec = Jvm.exec) (hb : c.code = cc) (hr : meth.sig.returnType = some .long) (hlk : meth.locks = false) (hC : z_C Wd G D cI cJ A s u H locs) (h : v = r) (h2 : u = u2) (hdg : decode cc pc = .ok (.lreturn, 1)) :
    W p l e R s m args below meth c H locs cells slots (MQ below (va_Ql (fun (x : Int64) (v : z_St) => x = r ∧ v = u2) (z_at Wd D A) A) args s cells slots A) (F0 m pc ls [.long v]) :=
  W.lret (v := v) hx hb hr (fun t ht hW => ⟨⟨v, u, rfl, ⟨h, h2⟩, by rw [ht]; exact hC.2.1, hC.2.2.1⟩, hC.2.2.2.1.F ht⟩) hC.2.2.2.1.2.2 hdg hlk
theorem z_retv (hx : p.tables.exec = Jvm.exec) (hb : c.code = cc) (hr : meth.sig.returnType = none) (hlk : meth.locks = false) (hC : z_C Wd G D cI cJ A s u H locs) (h2 : u = u2) (hdg : decode cc pc = .ok (.return_, 1)) :
    W p l e R s m args below meth c H locs cells slots (MQ below (va_Qv (fun (v : z_St) => v = u2) (z_at Wd D A) A) args s cells slots A) (F0 m pc ls []) :=
  W.vret hx hb hr (fun t ht hW => ⟨⟨u, rfl, h2, by rw [ht]; exact hC.2.1, hC.2.2.1⟩, hC.2.2.2.1.F ht⟩) hC.2.2.2.1.2.2 hdg hlk
theorem z_start {p : Program} {e : Env} {s : State} {m : MethodId} {args : Array Value} {below : List Frame} {meth : Method} {c : Code} {s₁ : State} {sz : Nat} (hG : z_Gok G) (B : BodyLoose p l y (headSpec ws rm) cc maxL ret e s m args below meth c s₁) (hml : c.maxLocals = maxL) (hv : va_Pc as (z_pre Wd G D cI cJ u sz) args s) (hlen : (lg_sl as).length ≤ maxL) :
    CallFix p m c cc maxL s args ws y.cls ∧ meth.sig.returnType = ret ∧ meth.locks = false ∧ z_C Wd G D cI cJ (va_A (Wd u) sz) s u s.heap [] ∧ ∃ ls, lv_has ls maxL (lv_args 0 as) ∧ entryFrame m args maxL = F0 m 0 ls [] := by
  obtain ⟨rfl, hsz, hP, hK, hD, hg⟩ := hv
  refine ⟨⟨B.exec, B.bytes, hml, findClass_of_methodNamed B.named, atoms_spec (ws := ws) B.pre⟩, B.returns, B.notSynchronized, ⟨hK, hP, hD.self, va_S.rf, ?_, hg⟩, ?_⟩
  · intro x hx
    exact Or.inr (by rw [← hsz]; exact hx)
  · exact ⟨_, lv_entry as hlen, lg_entry_eq m as maxL⟩
theorem z_ofi {r : Int32} (hG : z_Gok G) (hy : plainName y.cls = true) (hw : ws = Cond.code y cc maxL ret :: ws') (hlen : (lg_sl as).length ≤ maxL)
    (body : ∀ (A : Nat → Prop) (p : Program) (e : Env) (s : State) (m : MethodId) (args : Array Value) (below : List Frame) (meth : Method) (c : Code) (ls : Array Slot), CallFix p m c cc maxL s args ws y.cls → meth.sig.returnType = ret → meth.locks = false → z_C Wd G D cI cJ A s u s.heap [] → lv_has ls maxL (lv_args 0 as) →
      W p l e rm s m args below meth c s.heap [] 0 0 (MQ below (va_Qi (fun (x : Int32) (v : z_St) => x = r ∧ v = u2) (z_at Wd D A) A) args s 0 0 A) (F0 m 0 ls [])) : z_Mi l y ws rm Wd G D cI cJ as u r u2 := by
  intro sz
  refine Met.ofW (cc := cc) (maxL := maxL) (ret := ret) hy hw ?_
  intro p e s m args below meth c s₁ B hml hv
  obtain ⟨h1, h2, h3, h4, ls, h5, h6⟩ := z_start hG B hml hv hlen
  rw [h6]
  exact body _ p e s m args below meth c ls h1 h2 h3 h4 h5
theorem z_ofl {r : Int64} (hG : z_Gok G) (hy : plainName y.cls = true) (hw : ws = Cond.code y cc maxL ret :: ws') (hlen : (lg_sl as).length ≤ maxL)
    (body : ∀ (A : Nat → Prop) (p : Program) (e : Env) (s : State) (m : MethodId) (args : Array Value) (below : List Frame) (meth : Method) (c : Code) (ls : Array Slot), CallFix p m c cc maxL s args ws y.cls → meth.sig.returnType = ret → meth.locks = false → z_C Wd G D cI cJ A s u s.heap [] → lv_has ls maxL (lv_args 0 as) →
      W p l e rm s m args below meth c s.heap [] 0 0 (MQ below (va_Ql (fun (x : Int64) (v : z_St) => x = r ∧ v = u2) (z_at Wd D A) A) args s 0 0 A) (F0 m 0 ls [])) : z_Ml l y ws rm Wd G D cI cJ as u r u2 := by
  intro sz
  refine Met.ofW (cc := cc) (maxL := maxL) (ret := ret) hy hw ?_
  intro p e s m args below meth c s₁ B hml hv
  obtain ⟨h1, h2, h3, h4, ls, h5, h6⟩ := z_start hG B hml hv hlen
  rw [h6]
  exact body _ p e s m args below meth c ls h1 h2 h3 h4 h5
theorem z_ofv (hG : z_Gok G) (hy : plainName y.cls = true) (hw : ws = Cond.code y cc maxL ret :: ws') (hlen : (lg_sl as).length ≤ maxL)
    (body : ∀ (A : Nat → Prop) (p : Program) (e : Env) (s : State) (m : MethodId) (args : Array Value) (below : List Frame) (meth : Method) (c : Code) (ls : Array Slot), CallFix p m c cc maxL s args ws y.cls → meth.sig.returnType = ret → meth.locks = false → z_C Wd G D cI cJ A s u s.heap [] → lv_has ls maxL (lv_args 0 as) →
      W p l e rm s m args below meth c s.heap [] 0 0 (MQ below (va_Qv (fun (v : z_St) => v = u2) (z_at Wd D A) A) args s 0 0 A) (F0 m 0 ls [])) : z_Mv l y ws rm Wd G D cI cJ as u u2 := by
  intro sz
  refine Met.ofW (cc := cc) (maxL := maxL) (ret := ret) hy hw ?_
  intro p e s m args below meth c s₁ B hml hv
  obtain ⟨h1, h2, h3, h4, ls, h5, h6⟩ := z_start hG B hml hv hlen
  rw [h6]
  exact body _ p e s m args below meth c ls h1 h2 h3 h4 h5
end
theorem z_ne {x y : Int32} (h : ¬ x = y) : ¬ x.toInt = y.toInt := fun e => h (Int32.toInt_inj.mp e)
