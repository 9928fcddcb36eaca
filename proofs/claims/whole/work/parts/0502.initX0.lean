abbrev zr_X0_init : Room := { frames := 1, cells := 3, slots := 120, locals := 12 }
set_option maxHeartbeats 4000000 in
set_option maxRecDepth 100000 in
theorem zc_X0_init (l : Launch) (D : va_G) (h0 sz : Nat) : Met l yX0_init wsX0_init zr_X0_init (va_Pc [.ref h0] (fun U => U.heap.size = sz ∧ va_P D vwCl [(h0, .inr (0, [.null, .null, .null, .int 0]))] U.heap ∧ va_K D vwCl [] U ∧ va_D (fun _ => True) [(h0, .inr (0, [.null, .null, .null, .int 0]))])) (va_Qv (fun _ : Unit => True) (fun _ t => ∃ (q1 q2 q3 : Nat) (c1 : ClassId), va_P D vwCl [(h0, .inr (0, [.ref q1, .ref q2, .ref q3, .int (0 : Int32)])), (q1, .inl (c1, 40, .inl (fun _ => 0))), (q2, .inl (c1, 40, .inl (fun _ => 0))), (q3, .inl (c1, 40, .inl (fun _ => 0)))] t.heap ∧ va_K D vwCl [(c1, .int)] t ∧ va_D (va_A [(h0, .inr (0, [.null, .null, .null, .int 0]))] sz) [(h0, .inr (0, [.ref q1, .ref q2, .ref q3, .int (0 : Int32)])), (q1, .inl (c1, 40, .inl (fun _ => 0))), (q2, .inl (c1, 40, .inl (fun _ => 0))), (q3, .inl (c1, 40, .inl (fun _ => 0)))]) (va_A [(h0, .inr (0, [.null, .null, .null, .int 0]))] sz)) 3 120 (va_A [(h0, .inr (0, [.null, .null, .null, .int 0]))] sz) := by
  refine Met.ofW (cc := cX0_init) (maxL := 1) (ret := none) (by decide) rfl ?_
  intro p e s m args below meth c s₁ B hml hv
  obtain ⟨rfl, hsz, hP, hK, hD0⟩ := hv
  have hx := B.exec
  have hb := B.bytes
  have hr := B.returns
  have hts := atoms_spec (ws := wsX0_init) B.pre
  have hown : s.vm.findClass RX0 = some m.cls := findClass_of_methodNamed B.named
  have hlocks := B.notSynchronized
  have hin : meth.name = "<init>" := (name_of_methodNamed B.named B.method).1
  subst hsz
  have hD := hD0.self (sz := s.heap.size)
  generalize hAe : va_A [(h0, .inr (0, [.null, .null, .null, .int 0]))] s.heap.size = A at hD ⊢
  have hA : ∀ q : Nat, s.heap.size ≤ q → A q := fun q h => by rw [← hAe]; exact Or.inr h
  have hS : va_S A s.heap s.heap [] := va_S.rf
  have hl := lv_entry ([.ref h0]) (n := 1) (Nat.le_of_ble_eq_true rfl)
  rw [lg_entry_eq]
  generalize (lg_sl ([.ref h0]) ++ List.replicate (1 - (lg_sl ([.ref h0])).length) Slot.unset).toArray = ls at hl ⊢
  have hl : lv_has ls 1 [(0, .ref h0)] := hl
  show W p l e zr_X0_init s m _ below meth c s.heap [] 0 0 _ (F0 m 0 ls [])
  refine lv_aload_n hx hb dX0_init_0 rfl (lv_at hl 0 rfl) ?_
  refine W.objInit hx hb hown (hts (.methodLink RX0 5 objectInit) (by decide +kernel)) (hts (.instanceMethod objectInit) (by decide +kernel)) (hts _ (List.mem_of_getElem? (i := 3) rfl)) rfl (by rw [hml]; exact hl.1) rfl dX0_init_1 (Nat.le_of_ble_eq_true rfl) (Nat.le_of_ble_eq_true rfl) ?_
  refine W.eq (g2 := F0 m 4 ls []) rfl ?_
  refine lv_aload_n hx hb dX0_init_4 rfl (lv_at hl 0 rfl) ?_
  refine lv_bipush (v := (40 : Int32)) hx hb dX0_init_5 (by decide) ?_
  have a1 : ∀ cA : ClassId, vp_cell cA (40, .inl (fun _ => 0)) = arrV cA 40 (fun _ => defaultValue .int) := fun _ => rfl
  have a4 : 40 * componentBytes .int ≤ 536870912 := z_byI (by omega)
  have a5 := hts (.arrayClass .int) (by decide +kernel)
  refine va_newa (a0 := (40, .inl (fun _ => 0))) (N' := 40) (ty := .int) (atype := .int) hx hb a5 rfl hK hP hD hS hA a1 (by decide) (by decide) a4 (show 0 + 1 ≤ 3 from by omega) (show 0 + 40 ≤ 120 from by omega) dX0_init_7 (fun q1 c1 H hK hP hD hS => ?_)
  refine W.cs (cells' := 1) (slots' := 40) rfl rfl ?_
  have hK : va_K D vwCl [(c1, .int)] s := hK
  have hP : va_P D vwCl [(h0, .inr (0, [.null, .null, .null, .int 0])), (q1, .inl (c1, 40, .inl (fun _ => 0)))] H := hP
  have hD : va_D A [(h0, .inr (0, [.null, .null, .null, .int 0])), (q1, .inl (c1, 40, .inl (fun _ => 0)))] := hD
  refine va_putF (D := D) (ci := 0) (v := .ref q1) (ty := .array .int) (C := RX0) (T := TX0) (N := 4) hx hb hts zi_X0_init tyX0 tyX0_ok nmX0 hown hK hP hD hS 0 rfl rfl 0 (by decide) (hts (.fieldLink RX0 11 "DawnFair$Auctions" "there" "[I") (by decide +kernel)) (fun _ h9 => h9) rfl hin rfl (by decide +kernel) rfl rfl (Nat.le_of_ble_eq_true rfl) dX0_init_9 (fun H locs hP hD hS => ?_)
  have hP : va_P D vwCl [(h0, .inr (0, [.ref q1, .null, .null, .int 0])), (q1, .inl (c1, 40, .inl (fun _ => 0)))] H := hP
  have hD : va_D A [(h0, .inr (0, [.ref q1, .null, .null, .int 0])), (q1, .inl (c1, 40, .inl (fun _ => 0)))] := hD
  refine lv_aload_n hx hb dX0_init_12 rfl (lv_at hl 0 rfl) ?_
  refine lv_bipush (v := (40 : Int32)) hx hb dX0_init_13 (by decide) ?_
  have a1 : ∀ cA : ClassId, vp_cell cA (40, .inl (fun _ => 0)) = arrV cA 40 (fun _ => defaultValue .int) := fun _ => rfl
  have a4 : 40 * componentBytes .int ≤ 536870912 := z_byI (by omega)
  have a5 := hts (.arrayClass .int) (by decide +kernel)
  refine va_newa (a0 := (40, .inl (fun _ => 0))) (N' := 40) (ty := .int) (atype := .int) hx hb a5 rfl hK hP hD hS hA a1 (by decide) (by decide) a4 (show 1 + 1 ≤ 3 from by omega) (show 40 + 40 ≤ 120 from by omega) dX0_init_15 (fun q2 c2 H hK hP hD hS => ?_)
  refine W.cs (cells' := 2) (slots' := 80) rfl rfl ?_
  have hK : va_K D vwCl [(c1, .int), (c2, .int)] s := hK
  obtain rfl : c1 = c2 := z_ceq hK 0 1 rfl rfl
  have hK := hK.sub (tys' := [(c1, .int)]) [0] rfl
  have hP : va_P D vwCl [(h0, .inr (0, [.ref q1, .null, .null, .int 0])), (q1, .inl (c1, 40, .inl (fun _ => 0))), (q2, .inl (c1, 40, .inl (fun _ => 0)))] H := hP
  have hD : va_D A [(h0, .inr (0, [.ref q1, .null, .null, .int 0])), (q1, .inl (c1, 40, .inl (fun _ => 0))), (q2, .inl (c1, 40, .inl (fun _ => 0)))] := hD
  refine va_putF (D := D) (ci := 0) (v := .ref q2) (ty := .array .int) (C := RX0) (T := TX0) (N := 4) hx hb hts zi_X0_init tyX0 tyX0_ok nmX0 hown hK hP hD hS 0 rfl rfl 1 (by decide) (hts (.fieldLink RX0 15 "DawnFair$Auctions" "bid" "[I") (by decide +kernel)) (fun _ h9 => h9) rfl hin rfl (by decide +kernel) rfl rfl (Nat.le_of_ble_eq_true rfl) dX0_init_17 (fun H locs hP hD hS => ?_)
  have hP : va_P D vwCl [(h0, .inr (0, [.ref q1, .ref q2, .null, .int 0])), (q1, .inl (c1, 40, .inl (fun _ => 0))), (q2, .inl (c1, 40, .inl (fun _ => 0)))] H := hP
  have hD : va_D A [(h0, .inr (0, [.ref q1, .ref q2, .null, .int 0])), (q1, .inl (c1, 40, .inl (fun _ => 0))), (q2, .inl (c1, 40, .inl (fun _ => 0)))] := hD
  refine lv_aload_n hx hb dX0_init_20 rfl (lv_at hl 0 rfl) ?_
  refine lv_bipush (v := (40 : Int32)) hx hb dX0_init_21 (by decide) ?_
  have a1 : ∀ cA : ClassId, vp_cell cA (40, .inl (fun _ => 0)) = arrV cA 40 (fun _ => defaultValue .int) := fun _ => rfl
  have a4 : 40 * componentBytes .int ≤ 536870912 := z_byI (by omega)
  have a5 := hts (.arrayClass .int) (by decide +kernel)
  refine va_newa (a0 := (40, .inl (fun _ => 0))) (N' := 40) (ty := .int) (atype := .int) hx hb a5 rfl hK hP hD hS hA a1 (by decide) (by decide) a4 (show 2 + 1 ≤ 3 from by omega) (show 80 + 40 ≤ 120 from by omega) dX0_init_23 (fun q3 c3 H hK hP hD hS => ?_)
  refine W.cs (cells' := 3) (slots' := 120) rfl rfl ?_
  have hK : va_K D vwCl [(c1, .int), (c3, .int)] s := hK
  obtain rfl : c1 = c3 := z_ceq hK 0 1 rfl rfl
  have hK := hK.sub (tys' := [(c1, .int)]) [0] rfl
  have hP : va_P D vwCl [(h0, .inr (0, [.ref q1, .ref q2, .null, .int 0])), (q1, .inl (c1, 40, .inl (fun _ => 0))), (q2, .inl (c1, 40, .inl (fun _ => 0))), (q3, .inl (c1, 40, .inl (fun _ => 0)))] H := hP
  have hD : va_D A [(h0, .inr (0, [.ref q1, .ref q2, .null, .int 0])), (q1, .inl (c1, 40, .inl (fun _ => 0))), (q2, .inl (c1, 40, .inl (fun _ => 0))), (q3, .inl (c1, 40, .inl (fun _ => 0)))] := hD
  refine va_putF (D := D) (ci := 0) (v := .ref q3) (ty := .array .int) (C := RX0) (T := TX0) (N := 4) hx hb hts zi_X0_init tyX0 tyX0_ok nmX0 hown hK hP hD hS 0 rfl rfl 2 (by decide) (hts (.fieldLink RX0 18 "DawnFair$Auctions" "won" "[I") (by decide +kernel)) (fun _ h9 => h9) rfl hin rfl (by decide +kernel) rfl rfl (Nat.le_of_ble_eq_true rfl) dX0_init_25 (fun H locs hP hD hS => ?_)
  have hP : va_P D vwCl [(h0, .inr (0, [.ref q1, .ref q2, .ref q3, .int 0])), (q1, .inl (c1, 40, .inl (fun _ => 0))), (q2, .inl (c1, 40, .inl (fun _ => 0))), (q3, .inl (c1, 40, .inl (fun _ => 0)))] H := hP
  have hD : va_D A [(h0, .inr (0, [.ref q1, .ref q2, .ref q3, .int 0])), (q1, .inl (c1, 40, .inl (fun _ => 0))), (q2, .inl (c1, 40, .inl (fun _ => 0))), (q3, .inl (c1, 40, .inl (fun _ => 0)))] := hD
  refine lv_aload_n hx hb dX0_init_28 rfl (lv_at hl 0 rfl) ?_
  refine lv_iconst (v := (0 : Int32)) hx hb dX0_init_29 (by decide) ?_
  refine va_put (D := D) (ci := 0) (v := .int (0 : Int32)) (ty := .int) (C := RX0) (T := TX0) (N := 4) hx hb hts zi_X0_init tyX0 tyX0_ok nmX0 hown hK hP hD hS 0 rfl rfl 3 (by decide) (hts (.fieldLink RX0 21 "DawnFair$Auctions" "lots" "I") (by decide +kernel)) (fun _ h9 => h9) rfl (by decide +kernel) rfl rfl (Nat.le_of_ble_eq_true rfl) dX0_init_30 (fun H locs hP hD hS => ?_)
  have hP : va_P D vwCl [(h0, .inr (0, [.ref q1, .ref q2, .ref q3, .int (0 : Int32)])), (q1, .inl (c1, 40, .inl (fun _ => 0))), (q2, .inl (c1, 40, .inl (fun _ => 0))), (q3, .inl (c1, 40, .inl (fun _ => 0)))] H := hP
  have hD : va_D A [(h0, .inr (0, [.ref q1, .ref q2, .ref q3, .int (0 : Int32)])), (q1, .inl (c1, 40, .inl (fun _ => 0))), (q2, .inl (c1, 40, .inl (fun _ => 0))), (q3, .inl (c1, 40, .inl (fun _ => 0)))] := hD
  have hP9 := hP.sub (ws' := [(h0, .inr (0, [.ref q1, .ref q2, .ref q3, .int (0 : Int32)])), (q1, .inl (c1, 40, .inl (fun _ => 0))), (q2, .inl (c1, 40, .inl (fun _ => 0))), (q3, .inl (c1, 40, .inl (fun _ => 0)))]) [0, 1, 2, 3] rfl
  have hD9 := hD.sub (ws' := [(h0, .inr (0, [.ref q1, .ref q2, .ref q3, .int (0 : Int32)])), (q1, .inl (c1, 40, .inl (fun _ => 0))), (q2, .inl (c1, 40, .inl (fun _ => 0))), (q3, .inl (c1, 40, .inl (fun _ => 0)))]) [0, 1, 2, 3] (by decide) rfl
  exact W.vret hx hb hr (fun t ht hW => ⟨⟨(), rfl, trivial, q1, q2, q3, c1, by rw [ht]; exact hP9, va_K.moved hW.alike hK, hD9⟩, hS.F ht⟩) hS.2.2 dX0_init_33 hlocks
