/-- the law's world: both systems side by side -/
def zL_C (D : va_G) (cI cJ : ClassId) (tp : Nat) (q q2 : Nat → Nat) (A : Nat → Prop) (s : State) (ux um : z_St) (H : Heap) (locs : List Loc) : Prop :=
  va_K D vwCl [(cI, .int), (cJ, .long)] s ∧ va_P D vwCl (zx_W cI q ux ++ zm_W cI cJ q2 um) H ∧ va_D A (zx_W cI q ux ++ zm_W cI cJ q2 um) ∧ va_S A s.heap H locs ∧ (∀ x, s.heap.size ≤ x → A x) ∧ zx_G tp A s s.heap
theorem zL_cmp (r : Int64) : lg_cmp r r = 0 := by
  unfold lg_cmp
  rw [if_neg (Int64.lt_irrefl), if_pos rfl]
section
variable {p : Program} {l : Launch} {e : Env} {R : Room} {s : State} {m : MethodId} {args : Array Value} {below : List Frame} {meth : Method} {c : Code} {H : Heap} {locs : List Loc} {cells slots : Nat} {Q : State → Prop} {pc : Nat} {ls : Array Slot} {rest st : List Value}
variable {D : va_G} {cI cJ : ClassId} {tp : Nat} {q q2 : Nat → Nat} {A : Nat → Prop} {ux um u2 : z_St}
set_option maxRecDepth 100000 in
theorem zL_x (hC : zL_C D cI cJ tp q q2 A s ux um H locs) : z_C (zx_W cI q) (zx_G tp) D cI cJ A s ux H locs :=
  ⟨hC.1, hC.2.1.sub (ws' := zx_W cI q ux) [0, 1, 2, 3, 4, 5, 6, 7, 8, 9, 10, 11, 12, 13, 14, 15, 16, 17, 18, 19, 20, 21, 22, 23] rfl, hC.2.2.1.sub (ws' := zx_W cI q ux) [0, 1, 2, 3, 4, 5, 6, 7, 8, 9, 10, 11, 12, 13, 14, 15, 16, 17, 18, 19, 20, 21, 22, 23] (by decide) rfl, hC.2.2.2.1, hC.2.2.2.2.1, hC.2.2.2.2.2⟩
set_option maxRecDepth 100000 in
theorem zL_m (hC : zL_C D cI cJ tp q q2 A s ux um H locs) : z_C (zm_W cI cJ q2) (zm_G tp) D cI cJ A s um H locs :=
  ⟨hC.1, hC.2.1.sub (ws' := zm_W cI cJ q2 um) [24, 25, 26, 27, 28, 29, 30, 31, 32, 33, 34, 35, 36, 37, 38, 39, 40, 41, 42, 43, 44, 45, 46, 47, 48, 49] rfl, hC.2.2.1.sub (ws' := zm_W cI cJ q2 um) [24, 25, 26, 27, 28, 29, 30, 31, 32, 33, 34, 35, 36, 37, 38, 39, 40, 41, 42, 43, 44, 45, 46, 47, 48, 49] (by decide) rfl, hC.2.2.2.1, hC.2.2.2.2.1, trivial⟩
set_option maxRecDepth 100000 in
theorem zL_jx {H1 : Heap} {locs1 : List Loc} (hC : zL_C D cI cJ tp q q2 A s ux um H locs) (hk : ∀ z : Nat, z < H.size → ¬ va_A (zx_W cI q ux) H.size z → H1[z]? = H[z]?) (hP1 : va_P D vwCl (zx_W cI q u2) H1) (hD1 : va_D (va_A (zx_W cI q ux) H.size) (zx_W cI q u2)) (hS1 : va_S A s.heap H1 locs1) : zL_C D cI cJ tp q q2 A s u2 um H1 locs1 := by
  obtain ⟨hP, hD⟩ := va_join (wc := zx_W cI q ux) (wr := zm_W cI cJ q2 um) (w1 := zx_W cI q u2) hC.2.1 hC.2.2.1 [0, 1, 2, 3, 4, 5, 6, 7, 8, 9, 10, 11, 12, 13, 14, 15, 16, 17, 18, 19, 20, 21, 22, 23] [24, 25, 26, 27, 28, 29, 30, 31, 32, 33, 34, 35, 36, 37, 38, 39, 40, 41, 42, 43, 44, 45, 46, 47, 48, 49] rfl rfl (by decide) (by decide) hk (z_free (zL_x hC)) hP1 hD1
  exact ⟨hC.1, hP.sub (ws' := zx_W cI q u2 ++ zm_W cI cJ q2 um) [26, 27, 28, 29, 30, 31, 32, 33, 34, 35, 36, 37, 38, 39, 40, 41, 42, 43, 44, 45, 46, 47, 48, 49, 0, 1, 2, 3, 4, 5, 6, 7, 8, 9, 10, 11, 12, 13, 14, 15, 16, 17, 18, 19, 20, 21, 22, 23, 24, 25] rfl, hD.sub (ws' := zx_W cI q u2 ++ zm_W cI cJ q2 um) [26, 27, 28, 29, 30, 31, 32, 33, 34, 35, 36, 37, 38, 39, 40, 41, 42, 43, 44, 45, 46, 47, 48, 49, 0, 1, 2, 3, 4, 5, 6, 7, 8, 9, 10, 11, 12, 13, 14, 15, 16, 17, 18, 19, 20, 21, 22, 23, 24, 25] (by decide) rfl, hS1, hC.2.2.2.2.1, hC.2.2.2.2.2⟩
set_option maxRecDepth 100000 in
theorem zL_jm {H1 : Heap} {locs1 : List Loc} (hC : zL_C D cI cJ tp q q2 A s ux um H locs) (hk : ∀ z : Nat, z < H.size → ¬ va_A (zm_W cI cJ q2 um) H.size z → H1[z]? = H[z]?) (hP1 : va_P D vwCl (zm_W cI cJ q2 u2) H1) (hD1 : va_D (va_A (zm_W cI cJ q2 um) H.size) (zm_W cI cJ q2 u2)) (hS1 : va_S A s.heap H1 locs1) : zL_C D cI cJ tp q q2 A s ux u2 H1 locs1 := by
  obtain ⟨hP, hD⟩ := va_join (wc := zm_W cI cJ q2 um) (wr := zx_W cI q ux) (w1 := zm_W cI cJ q2 u2) hC.2.1 hC.2.2.1 [24, 25, 26, 27, 28, 29, 30, 31, 32, 33, 34, 35, 36, 37, 38, 39, 40, 41, 42, 43, 44, 45, 46, 47, 48, 49] [0, 1, 2, 3, 4, 5, 6, 7, 8, 9, 10, 11, 12, 13, 14, 15, 16, 17, 18, 19, 20, 21, 22, 23] rfl rfl (by decide) (by decide) hk (z_free (zL_m hC)) hP1 hD1
  exact ⟨hC.1, hP, hD, hS1, hC.2.2.2.2.1, hC.2.2.2.2.2⟩
theorem zL_callxi {r : Int32} {a : Array Value} (hC : zL_C D cI cJ tp q q2 A s ux um H locs)
    (hr : va_Run p l e R s m args below meth c H locs cells slots 0 0 (F0 m pc ls st) rest (va_Qi (fun (x : Int32) (v : z_St) => x = r ∧ v = u2) (z_at (zx_W cI q) D (va_A (zx_W cI q ux) H.size)) (va_A (zx_W cI q ux) H.size) a) (va_A (zx_W cI q ux) H.size))
    (kk : ∀ (H1 : Heap) (locs1 : List Loc), zL_C D cI cJ tp q q2 A s u2 um H1 locs1 → W p l e R s m args below meth c H1 locs1 cells slots Q (F0 m (pc + 3) ls (.int r :: rest))) : W p l e R s m args below meth c H locs cells slots Q (F0 m pc ls st) := by
  refine va_calli hr hC.2.2.2.1 (fun x _ h => z_free (zL_x hC) x h) (z_free (zL_x hC)) (fun r1 v t H1 locs1 ht hvm hw hB hz hk hS1 => ?_)
  obtain ⟨rfl, rfl⟩ := hw
  obtain ⟨hP1, hD1⟩ := hB
  rw [ht] at hP1
  exact kk H1 locs1 (zL_jx hC hk hP1 hD1 hS1)
theorem zL_callxl {r : Int64} {a : Array Value} (hC : zL_C D cI cJ tp q q2 A s ux um H locs)
    (hr : va_Run p l e R s m args below meth c H locs cells slots 0 0 (F0 m pc ls st) rest (va_Ql (fun (x : Int64) (v : z_St) => x = r ∧ v = u2) (z_at (zx_W cI q) D (va_A (zx_W cI q ux) H.size)) (va_A (zx_W cI q ux) H.size) a) (va_A (zx_W cI q ux) H.size))
    (kk : ∀ (H1 : Heap) (locs1 : List Loc), zL_C D cI cJ tp q q2 A s u2 um H1 locs1 → W p l e R s m args below meth c H1 locs1 cells slots Q (F0 m (pc + 3) ls (.long r :: rest))) : W p l e R s m args below meth c H locs cells slots Q (F0 m pc ls st) := by
  refine va_calll hr hC.2.2.2.1 (fun x _ h => z_free (zL_x hC) x h) (z_free (zL_x hC)) (fun r1 v t H1 locs1 ht hvm hw hB hz hk hS1 => ?_)
  obtain ⟨rfl, rfl⟩ := hw
  obtain ⟨hP1, hD1⟩ := hB
  rw [ht] at hP1
  exact kk H1 locs1 (zL_jx hC hk hP1 hD1 hS1)
theorem zL_callmi {r : Int32} {a : Array Value} (hC : zL_C D cI cJ tp q q2 A s ux um H locs)
    (hr : va_Run p l e R s m args below meth c H locs cells slots 0 0 (F0 m pc ls st) rest (va_Qi (fun (x : Int32) (v : z_St) => x = r ∧ v = u2) (z_at (zm_W cI cJ q2) D (va_A (zm_W cI cJ q2 um) H.size)) (va_A (zm_W cI cJ q2 um) H.size) a) (va_A (zm_W cI cJ q2 um) H.size))
    (kk : ∀ (H1 : Heap) (locs1 : List Loc), zL_C D cI cJ tp q q2 A s ux u2 H1 locs1 → W p l e R s m args below meth c H1 locs1 cells slots Q (F0 m (pc + 3) ls (.int r :: rest))) : W p l e R s m args below meth c H locs cells slots Q (F0 m pc ls st) := by
  refine va_calli hr hC.2.2.2.1 (fun x _ h => z_free (zL_m hC) x h) (z_free (zL_m hC)) (fun r1 v t H1 locs1 ht hvm hw hB hz hk hS1 => ?_)
  obtain ⟨rfl, rfl⟩ := hw
  obtain ⟨hP1, hD1⟩ := hB
  rw [ht] at hP1
  exact kk H1 locs1 (zL_jm hC hk hP1 hD1 hS1)
theorem zL_callml {r : Int64} {a : Array Value} (hC : zL_C D cI cJ tp q q2 A s ux um H locs)
    (hr : va_Run p l e R s m args below meth c H locs cells slots 0 0 (F0 m pc ls st) rest (va_Ql (fun (x : Int64) (v : z_St) => x = r ∧ v = u2) (z_at (zm_W cI cJ q2) D (va_A (zm_W cI cJ q2 um) H.size)) (va_A (zm_W cI cJ q2 um) H.size) a) (va_A (zm_W cI cJ q2 um) H.size))
    (kk : ∀ (H1 : Heap) (locs1 : List Loc), zL_C D cI cJ tp q q2 A s ux u2 H1 locs1 → W p l e R s m args below meth c H1 locs1 cells slots Q (F0 m (pc + 3) ls (.long r :: rest))) : W p l e R s m args below meth c H locs cells slots Q (F0 m pc ls st) := by
  refine va_calll hr hC.2.2.2.1 (fun x _ h => z_free (zL_m hC) x h) (z_free (zL_m hC)) (fun r1 v t H1 locs1 ht hvm hw hB hz hk hS1 => ?_)
  obtain ⟨rfl, rfl⟩ := hw
  obtain ⟨hP1, hD1⟩ := hB
  rw [ht] at hP1
  exact kk H1 locs1 (zL_jm hC hk hP1 hD1 hS1)
end
