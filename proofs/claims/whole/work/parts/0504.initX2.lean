abbrev zr_X2_init : Room := { frames := 1, cells := 4, slots := 92, locals := 23 }
set_option maxHeartbeats 4000000 in
set_option maxRecDepth 100000 in
theorem zc_X2_init (l : Launch) (D : va_G) (h0 sz : Nat) : Met l yX2_init wsX2_init zr_X2_init (va_Pc [.ref h0] (fun U => U.heap.size = sz ∧ va_P D vwCl [(h0, .inr (2, [.null, .null, .null, .null, .int 0]))] U.heap ∧ va_K D vwCl [] U ∧ va_D (fun _ => True) [(h0, .inr (2, [.null, .null, .null, .null, .int 0]))])) (va_Qv (fun _ : Unit => True) (fun _ t => ∃ (q1 q2 q3 q4 : Nat) (c1 : ClassId), va_P D vwCl [(h0, .inr (2, [.ref q1, .ref q2, .ref q3, .ref q4, .int (0 : Int32)])), (q1, .inl (c1, 10, .inl (z_ff 10 (1600 : Int32) (fun _ => 0)))), (q2, .inl (c1, 10, .inl (z_ff 10 (1950 : Int32) (fun _ => 0)))), (q3, .inl (c1, 12, .inl (fun _ => 0))), (q4, .inl (c1, 60, .inl (fun _ => 0)))] t.heap ∧ va_K D vwCl [(c1, .int)] t ∧ va_D (va_A [(h0, .inr (2, [.null, .null, .null, .null, .int 0]))] sz) [(h0, .inr (2, [.ref q1, .ref q2, .ref q3, .ref q4, .int (0 : Int32)])), (q1, .inl (c1, 10, .inl (z_ff 10 (1600 : Int32) (fun _ => 0)))), (q2, .inl (c1, 10, .inl (z_ff 10 (1950 : Int32) (fun _ => 0)))), (q3, .inl (c1, 12, .inl (fun _ => 0))), (q4, .inl (c1, 60, .inl (fun _ => 0)))]) (va_A [(h0, .inr (2, [.null, .null, .null, .null, .int 0]))] sz)) 4 92 (va_A [(h0, .inr (2, [.null, .null, .null, .null, .int 0]))] sz) := by
  refine Met.ofW (cc := cX2_init) (maxL := 1) (ret := none) (by decide) rfl ?_
  intro p e s m args below meth c s₁ B hml hv
  obtain ⟨rfl, hsz, hP, hK, hD0⟩ := hv
  have hx := B.exec
  have hb := B.bytes
  have hr := B.returns
  have hts := atoms_spec (ws := wsX2_init) B.pre
  have hown : s.vm.findClass RX2 = some m.cls := findClass_of_methodNamed B.named
  have hlocks := B.notSynchronized
  have hin : meth.name = "<init>" := (name_of_methodNamed B.named B.method).1
  subst hsz
  have hD := hD0.self (sz := s.heap.size)
  generalize hAe : va_A [(h0, .inr (2, [.null, .null, .null, .null, .int 0]))] s.heap.size = A at hD ⊢
  have hA : ∀ q : Nat, s.heap.size ≤ q → A q := fun q h => by rw [← hAe]; exact Or.inr h
  have hS : va_S A s.heap s.heap [] := va_S.rf
  have hl := lv_entry ([.ref h0]) (n := 1) (Nat.le_of_ble_eq_true rfl)
  rw [lg_entry_eq]
  generalize (lg_sl ([.ref h0]) ++ List.replicate (1 - (lg_sl ([.ref h0])).length) Slot.unset).toArray = ls at hl ⊢
  have hl : lv_has ls 1 [(0, .ref h0)] := hl
  show W p l e zr_X2_init s m _ below meth c s.heap [] 0 0 _ (F0 m 0 ls [])
  refine lv_aload_n hx hb dX2_init_0 rfl (lv_at hl 0 rfl) ?_
  refine W.objInit hx hb hown (hts (.methodLink RX2 3 objectInit) (by decide +kernel)) (hts (.instanceMethod objectInit) (by decide +kernel)) (hts _ (List.mem_of_getElem? (i := 3) rfl)) rfl (by rw [hml]; exact hl.1) rfl dX2_init_1 (Nat.le_of_ble_eq_true rfl) (Nat.le_of_ble_eq_true rfl) ?_
  refine W.eq (g2 := F0 m 4 ls []) rfl ?_
  refine lv_aload_n hx hb dX2_init_4 rfl (lv_at hl 0 rfl) ?_
  refine lv_bipush (v := (10 : Int32)) hx hb dX2_init_5 (by decide) ?_
  have a1 : ∀ cA : ClassId, vp_cell cA (10, .inl (fun _ => 0)) = arrV cA 10 (fun _ => defaultValue .int) := fun _ => rfl
  have a4 : 10 * componentBytes .int ≤ 536870912 := z_byI (by omega)
  have a5 := hts (.arrayClass .int) (by decide +kernel)
  refine va_newa (a0 := (10, .inl (fun _ => 0))) (N' := 10) (ty := .int) (atype := .int) hx hb a5 rfl hK hP hD hS hA a1 (by decide) (by decide) a4 (show 0 + 1 ≤ 4 from by omega) (show 0 + 10 ≤ 92 from by omega) dX2_init_7 (fun q1 c1 H hK hP hD hS => ?_)
  refine W.cs (cells' := 1) (slots' := 10) rfl rfl ?_
  have hK : va_K D vwCl [(c1, .int)] s := hK
  have hP : va_P D vwCl [(h0, .inr (2, [.null, .null, .null, .null, .int 0])), (q1, .inl (c1, 10, .inl (fun _ => 0)))] H := hP
  have hD : va_D A [(h0, .inr (2, [.null, .null, .null, .null, .int 0])), (q1, .inl (c1, 10, .inl (fun _ => 0)))] := hD
  refine va_putF (D := D) (ci := 2) (v := .ref q1) (ty := .array .int) (C := RX2) (T := TX2) (N := 5) hx hb hts zi_X2_init tyX2 tyX2_ok nmX2 hown hK hP hD hS 0 rfl rfl 0 (by decide) (hts (.fieldLink RX2 9 "DawnFair$Pieces" "from" "[I") (by decide +kernel)) (fun _ h9 => h9) rfl hin rfl (by decide +kernel) rfl rfl (Nat.le_of_ble_eq_true rfl) dX2_init_9 (fun H locs hP hD hS => ?_)
  have hP : va_P D vwCl [(h0, .inr (2, [.ref q1, .null, .null, .null, .int 0])), (q1, .inl (c1, 10, .inl (fun _ => 0)))] H := hP
  have hD : va_D A [(h0, .inr (2, [.ref q1, .null, .null, .null, .int 0])), (q1, .inl (c1, 10, .inl (fun _ => 0)))] := hD
  refine lv_aload_n hx hb dX2_init_12 rfl (lv_at hl 0 rfl) ?_
  refine lv_bipush (v := (10 : Int32)) hx hb dX2_init_13 (by decide) ?_
  have a1 : ∀ cA : ClassId, vp_cell cA (10, .inl (fun _ => 0)) = arrV cA 10 (fun _ => defaultValue .int) := fun _ => rfl
  have a4 : 10 * componentBytes .int ≤ 536870912 := z_byI (by omega)
  have a5 := hts (.arrayClass .int) (by decide +kernel)
  refine va_newa (a0 := (10, .inl (fun _ => 0))) (N' := 10) (ty := .int) (atype := .int) hx hb a5 rfl hK hP hD hS hA a1 (by decide) (by decide) a4 (show 1 + 1 ≤ 4 from by omega) (show 10 + 10 ≤ 92 from by omega) dX2_init_15 (fun q2 c2 H hK hP hD hS => ?_)
  refine W.cs (cells' := 2) (slots' := 20) rfl rfl ?_
  have hK : va_K D vwCl [(c1, .int), (c2, .int)] s := hK
  obtain rfl : c1 = c2 := z_ceq hK 0 1 rfl rfl
  have hK := hK.sub (tys' := [(c1, .int)]) [0] rfl
  have hP : va_P D vwCl [(h0, .inr (2, [.ref q1, .null, .null, .null, .int 0])), (q1, .inl (c1, 10, .inl (fun _ => 0))), (q2, .inl (c1, 10, .inl (fun _ => 0)))] H := hP
  have hD : va_D A [(h0, .inr (2, [.ref q1, .null, .null, .null, .int 0])), (q1, .inl (c1, 10, .inl (fun _ => 0))), (q2, .inl (c1, 10, .inl (fun _ => 0)))] := hD
  refine va_putF (D := D) (ci := 2) (v := .ref q2) (ty := .array .int) (C := RX2) (T := TX2) (N := 5) hx hb hts zi_X2_init tyX2 tyX2_ok nmX2 hown hK hP hD hS 0 rfl rfl 1 (by decide) (hts (.fieldLink RX2 15 "DawnFair$Pieces" "to" "[I") (by decide +kernel)) (fun _ h9 => h9) rfl hin rfl (by decide +kernel) rfl rfl (Nat.le_of_ble_eq_true rfl) dX2_init_17 (fun H locs hP hD hS => ?_)
  have hP : va_P D vwCl [(h0, .inr (2, [.ref q1, .ref q2, .null, .null, .int 0])), (q1, .inl (c1, 10, .inl (fun _ => 0))), (q2, .inl (c1, 10, .inl (fun _ => 0)))] H := hP
  have hD : va_D A [(h0, .inr (2, [.ref q1, .ref q2, .null, .null, .int 0])), (q1, .inl (c1, 10, .inl (fun _ => 0))), (q2, .inl (c1, 10, .inl (fun _ => 0)))] := hD
  refine lv_aload_n hx hb dX2_init_20 rfl (lv_at hl 0 rfl) ?_
  refine lv_bipush (v := (12 : Int32)) hx hb dX2_init_21 (by decide) ?_
  have a1 : ∀ cA : ClassId, vp_cell cA (12, .inl (fun _ => 0)) = arrV cA 12 (fun _ => defaultValue .int) := fun _ => rfl
  have a4 : 12 * componentBytes .int ≤ 536870912 := z_byI (by omega)
  have a5 := hts (.arrayClass .int) (by decide +kernel)
  refine va_newa (a0 := (12, .inl (fun _ => 0))) (N' := 12) (ty := .int) (atype := .int) hx hb a5 rfl hK hP hD hS hA a1 (by decide) (by decide) a4 (show 2 + 1 ≤ 4 from by omega) (show 20 + 12 ≤ 92 from by omega) dX2_init_23 (fun q3 c3 H hK hP hD hS => ?_)
  refine W.cs (cells' := 3) (slots' := 32) rfl rfl ?_
  have hK : va_K D vwCl [(c1, .int), (c3, .int)] s := hK
  obtain rfl : c1 = c3 := z_ceq hK 0 1 rfl rfl
  have hK := hK.sub (tys' := [(c1, .int)]) [0] rfl
  have hP : va_P D vwCl [(h0, .inr (2, [.ref q1, .ref q2, .null, .null, .int 0])), (q1, .inl (c1, 10, .inl (fun _ => 0))), (q2, .inl (c1, 10, .inl (fun _ => 0))), (q3, .inl (c1, 12, .inl (fun _ => 0)))] H := hP
  have hD : va_D A [(h0, .inr (2, [.ref q1, .ref q2, .null, .null, .int 0])), (q1, .inl (c1, 10, .inl (fun _ => 0))), (q2, .inl (c1, 10, .inl (fun _ => 0))), (q3, .inl (c1, 12, .inl (fun _ => 0)))] := hD
  refine va_putF (D := D) (ci := 2) (v := .ref q3) (ty := .array .int) (C := RX2) (T := TX2) (N := 5) hx hb hts zi_X2_init tyX2 tyX2_ok nmX2 hown hK hP hD hS 0 rfl rfl 2 (by decide) (hts (.fieldLink RX2 18 "DawnFair$Pieces" "parts" "[I") (by decide +kernel)) (fun _ h9 => h9) rfl hin rfl (by decide +kernel) rfl rfl (Nat.le_of_ble_eq_true rfl) dX2_init_25 (fun H locs hP hD hS => ?_)
  have hP : va_P D vwCl [(h0, .inr (2, [.ref q1, .ref q2, .ref q3, .null, .int 0])), (q1, .inl (c1, 10, .inl (fun _ => 0))), (q2, .inl (c1, 10, .inl (fun _ => 0))), (q3, .inl (c1, 12, .inl (fun _ => 0)))] H := hP
  have hD : va_D A [(h0, .inr (2, [.ref q1, .ref q2, .ref q3, .null, .int 0])), (q1, .inl (c1, 10, .inl (fun _ => 0))), (q2, .inl (c1, 10, .inl (fun _ => 0))), (q3, .inl (c1, 12, .inl (fun _ => 0)))] := hD
  refine lv_aload_n hx hb dX2_init_28 rfl (lv_at hl 0 rfl) ?_
  refine lv_bipush (v := (60 : Int32)) hx hb dX2_init_29 (by decide) ?_
  have a1 : ∀ cA : ClassId, vp_cell cA (60, .inl (fun _ => 0)) = arrV cA 60 (fun _ => defaultValue .int) := fun _ => rfl
  have a4 : 60 * componentBytes .int ≤ 536870912 := z_byI (by omega)
  have a5 := hts (.arrayClass .int) (by decide +kernel)
  refine va_newa (a0 := (60, .inl (fun _ => 0))) (N' := 60) (ty := .int) (atype := .int) hx hb a5 rfl hK hP hD hS hA a1 (by decide) (by decide) a4 (show 3 + 1 ≤ 4 from by omega) (show 32 + 60 ≤ 92 from by omega) dX2_init_31 (fun q4 c4 H hK hP hD hS => ?_)
  refine W.cs (cells' := 4) (slots' := 92) rfl rfl ?_
  have hK : va_K D vwCl [(c1, .int), (c4, .int)] s := hK
  obtain rfl : c1 = c4 := z_ceq hK 0 1 rfl rfl
  have hK := hK.sub (tys' := [(c1, .int)]) [0] rfl
  have hP : va_P D vwCl [(h0, .inr (2, [.ref q1, .ref q2, .ref q3, .null, .int 0])), (q1, .inl (c1, 10, .inl (fun _ => 0))), (q2, .inl (c1, 10, .inl (fun _ => 0))), (q3, .inl (c1, 12, .inl (fun _ => 0))), (q4, .inl (c1, 60, .inl (fun _ => 0)))] H := hP
  have hD : va_D A [(h0, .inr (2, [.ref q1, .ref q2, .ref q3, .null, .int 0])), (q1, .inl (c1, 10, .inl (fun _ => 0))), (q2, .inl (c1, 10, .inl (fun _ => 0))), (q3, .inl (c1, 12, .inl (fun _ => 0))), (q4, .inl (c1, 60, .inl (fun _ => 0)))] := hD
  refine va_putF (D := D) (ci := 2) (v := .ref q4) (ty := .array .int) (C := RX2) (T := TX2) (N := 5) hx hb hts zi_X2_init tyX2 tyX2_ok nmX2 hown hK hP hD hS 0 rfl rfl 3 (by decide) (hts (.fieldLink RX2 21 "DawnFair$Pieces" "works" "[I") (by decide +kernel)) (fun _ h9 => h9) rfl hin rfl (by decide +kernel) rfl rfl (Nat.le_of_ble_eq_true rfl) dX2_init_33 (fun H locs hP hD hS => ?_)
  have hP : va_P D vwCl [(h0, .inr (2, [.ref q1, .ref q2, .ref q3, .ref q4, .int 0])), (q1, .inl (c1, 10, .inl (fun _ => 0))), (q2, .inl (c1, 10, .inl (fun _ => 0))), (q3, .inl (c1, 12, .inl (fun _ => 0))), (q4, .inl (c1, 60, .inl (fun _ => 0)))] H := hP
  have hD : va_D A [(h0, .inr (2, [.ref q1, .ref q2, .ref q3, .ref q4, .int 0])), (q1, .inl (c1, 10, .inl (fun _ => 0))), (q2, .inl (c1, 10, .inl (fun _ => 0))), (q3, .inl (c1, 12, .inl (fun _ => 0))), (q4, .inl (c1, 60, .inl (fun _ => 0)))] := hD
  refine lv_aload_n hx hb dX2_init_36 rfl (lv_at hl 0 rfl) ?_
  refine lv_iconst (v := (0 : Int32)) hx hb dX2_init_37 (by decide) ?_
  refine va_put (D := D) (ci := 2) (v := .int (0 : Int32)) (ty := .int) (C := RX2) (T := TX2) (N := 5) hx hb hts zi_X2_init tyX2 tyX2_ok nmX2 hown hK hP hD hS 0 rfl rfl 4 (by decide) (hts (.fieldLink RX2 24 "DawnFair$Pieces" "things" "I") (by decide +kernel)) (fun _ h9 => h9) rfl (by decide +kernel) rfl rfl (Nat.le_of_ble_eq_true rfl) dX2_init_38 (fun H locs hP hD hS => ?_)
  have hP : va_P D vwCl [(h0, .inr (2, [.ref q1, .ref q2, .ref q3, .ref q4, .int (0 : Int32)])), (q1, .inl (c1, 10, .inl (fun _ => 0))), (q2, .inl (c1, 10, .inl (fun _ => 0))), (q3, .inl (c1, 12, .inl (fun _ => 0))), (q4, .inl (c1, 60, .inl (fun _ => 0)))] H := hP
  have hD : va_D A [(h0, .inr (2, [.ref q1, .ref q2, .ref q3, .ref q4, .int (0 : Int32)])), (q1, .inl (c1, 10, .inl (fun _ => 0))), (q2, .inl (c1, 10, .inl (fun _ => 0))), (q3, .inl (c1, 12, .inl (fun _ => 0))), (q4, .inl (c1, 60, .inl (fun _ => 0)))] := hD
  refine lv_aload_n hx hb dX2_init_41 rfl (lv_at hl 0 rfl) ?_
  refine va_get (D := D) (ci := 2) (v := .ref q1) (C := RX2) (T := TX2) (N := 5) hx hb hts zi_X2_init hown hK hP 0 rfl rfl 0 (by decide) (hts (.fieldLink RX2 9 "DawnFair$Pieces" "from" "[I") (by decide +kernel)) (fun _ h9 => h9) rfl dX2_init_42 ?_
  refine lv_sipush (v := (1600 : Int32)) hx hb dX2_init_45 (by decide) ?_
  have hPc := hP.sub (ws' := [(q1, .inl (c1, 10, .inl (fun _ => 0)))]) [1] rfl
  have hDc := hD.sub (ws' := [(q1, .inl (c1, 10, .inl (fun _ => 0)))]) [1] (by decide) rfl
  have hFc := va_free (wc := [(q1, .inl (c1, 10, .inl (fun _ => 0)))]) hD hS hA [1] rfl
  refine va_callv (va_runS (As := [.ref q1, .int (1600 : Int32)]) (rest := []) ⟨hx, hb, hml, hown, hts⟩ (zc_fill1 l D c1 q1 10 H.size (fun _ => 0) (1600 : Int32) (by decide)) (va_cwS 2 hts gX2_init_J7_fill_53178 rfl rfl rfl zd_fill1 ⟨Nat.le_of_ble_eq_true rfl, Nat.le_of_ble_eq_true rfl⟩) ⟨fun a U g mk q => by obtain ⟨q0, q1, qP, qK, qD⟩ := q; exact ⟨q0, q1, qP, va_K.moved (u := U) (U := U.calling g mk a) (Vm.Alike.refl U.vm) qK, qD⟩, fun U hU hW => ⟨rfl, by rw [hU], by rw [hU]; exact hPc, va_K.moved hW.alike hK, hDc.weaken (fun _ _ _ _ => trivial)⟩⟩ rfl rfl hl.1 rfl (lv_room (Nat.le_of_ble_eq_true rfl)) dX2_init_48 ⟨show 4 + 0 ≤ 4 from by omega, show 92 + 0 ≤ 92 from by omega⟩) hS (fun q _ h => hFc q h) hFc (fun u t H1 locs ht hvm hw hB hz1 hk1 hS => ?_)
  obtain ⟨hP1, hD1⟩ := hB
  rw [ht] at hP1
  obtain ⟨hP, hD⟩ := va_join (wr := [(h0, .inr (2, [.ref q1, .ref q2, .ref q3, .ref q4, .int (0 : Int32)])), (q2, .inl (c1, 10, .inl (fun _ => 0))), (q3, .inl (c1, 12, .inl (fun _ => 0))), (q4, .inl (c1, 60, .inl (fun _ => 0)))]) (w1 := [(q1, .inl (c1, 10, .inl (z_ff 10 (1600 : Int32) (fun _ => 0))))]) hP hD [1] [0, 2, 3, 4] rfl rfl (by decide) (by decide) hk1 hFc hP1 hD1
  generalize H1 = H at hP hS ⊢
  have hP : va_P D vwCl [(h0, .inr (2, [.ref q1, .ref q2, .ref q3, .ref q4, .int (0 : Int32)])), (q2, .inl (c1, 10, .inl (fun _ => 0))), (q3, .inl (c1, 12, .inl (fun _ => 0))), (q4, .inl (c1, 60, .inl (fun _ => 0))), (q1, .inl (c1, 10, .inl (z_ff 10 (1600 : Int32) (fun _ => 0))))] H := hP
  have hD : va_D A [(h0, .inr (2, [.ref q1, .ref q2, .ref q3, .ref q4, .int (0 : Int32)])), (q2, .inl (c1, 10, .inl (fun _ => 0))), (q3, .inl (c1, 12, .inl (fun _ => 0))), (q4, .inl (c1, 60, .inl (fun _ => 0))), (q1, .inl (c1, 10, .inl (z_ff 10 (1600 : Int32) (fun _ => 0))))] := hD
  refine W.cs (cells' := 4) (slots' := 92) rfl rfl ?_
  refine lv_aload_n hx hb dX2_init_51 rfl (lv_at hl 0 rfl) ?_
  refine va_get (D := D) (ci := 2) (v := .ref q2) (C := RX2) (T := TX2) (N := 5) hx hb hts zi_X2_init hown hK hP 0 rfl rfl 1 (by decide) (hts (.fieldLink RX2 15 "DawnFair$Pieces" "to" "[I") (by decide +kernel)) (fun _ h9 => h9) rfl dX2_init_52 ?_
  refine lv_sipush (v := (1950 : Int32)) hx hb dX2_init_55 (by decide) ?_
  have hPc := hP.sub (ws' := [(q2, .inl (c1, 10, .inl (fun _ => 0)))]) [1] rfl
  have hDc := hD.sub (ws' := [(q2, .inl (c1, 10, .inl (fun _ => 0)))]) [1] (by decide) rfl
  have hFc := va_free (wc := [(q2, .inl (c1, 10, .inl (fun _ => 0)))]) hD hS hA [1] rfl
  refine va_callv (va_runS (As := [.ref q2, .int (1950 : Int32)]) (rest := []) ⟨hx, hb, hml, hown, hts⟩ (zc_fill1 l D c1 q2 10 H.size (fun _ => 0) (1950 : Int32) (by decide)) (va_cwS 2 hts gX2_init_J7_fill_53178 rfl rfl rfl zd_fill1 ⟨Nat.le_of_ble_eq_true rfl, Nat.le_of_ble_eq_true rfl⟩) ⟨fun a U g mk q => by obtain ⟨q0, q1, qP, qK, qD⟩ := q; exact ⟨q0, q1, qP, va_K.moved (u := U) (U := U.calling g mk a) (Vm.Alike.refl U.vm) qK, qD⟩, fun U hU hW => ⟨rfl, by rw [hU], by rw [hU]; exact hPc, va_K.moved hW.alike hK, hDc.weaken (fun _ _ _ _ => trivial)⟩⟩ rfl rfl hl.1 rfl (lv_room (Nat.le_of_ble_eq_true rfl)) dX2_init_58 ⟨show 4 + 0 ≤ 4 from by omega, show 92 + 0 ≤ 92 from by omega⟩) hS (fun q _ h => hFc q h) hFc (fun u t H1 locs ht hvm hw hB hz1 hk1 hS => ?_)
  obtain ⟨hP1, hD1⟩ := hB
  rw [ht] at hP1
  obtain ⟨hP, hD⟩ := va_join (wr := [(h0, .inr (2, [.ref q1, .ref q2, .ref q3, .ref q4, .int (0 : Int32)])), (q3, .inl (c1, 12, .inl (fun _ => 0))), (q4, .inl (c1, 60, .inl (fun _ => 0))), (q1, .inl (c1, 10, .inl (z_ff 10 (1600 : Int32) (fun _ => 0))))]) (w1 := [(q2, .inl (c1, 10, .inl (z_ff 10 (1950 : Int32) (fun _ => 0))))]) hP hD [1] [0, 2, 3, 4] rfl rfl (by decide) (by decide) hk1 hFc hP1 hD1
  generalize H1 = H at hP hS ⊢
  have hP : va_P D vwCl [(h0, .inr (2, [.ref q1, .ref q2, .ref q3, .ref q4, .int (0 : Int32)])), (q3, .inl (c1, 12, .inl (fun _ => 0))), (q4, .inl (c1, 60, .inl (fun _ => 0))), (q1, .inl (c1, 10, .inl (z_ff 10 (1600 : Int32) (fun _ => 0)))), (q2, .inl (c1, 10, .inl (z_ff 10 (1950 : Int32) (fun _ => 0))))] H := hP
  have hD : va_D A [(h0, .inr (2, [.ref q1, .ref q2, .ref q3, .ref q4, .int (0 : Int32)])), (q3, .inl (c1, 12, .inl (fun _ => 0))), (q4, .inl (c1, 60, .inl (fun _ => 0))), (q1, .inl (c1, 10, .inl (z_ff 10 (1600 : Int32) (fun _ => 0)))), (q2, .inl (c1, 10, .inl (z_ff 10 (1950 : Int32) (fun _ => 0))))] := hD
  refine W.cs (cells' := 4) (slots' := 92) rfl rfl ?_
  have hP9 := hP.sub (ws' := [(h0, .inr (2, [.ref q1, .ref q2, .ref q3, .ref q4, .int (0 : Int32)])), (q1, .inl (c1, 10, .inl (z_ff 10 (1600 : Int32) (fun _ => 0)))), (q2, .inl (c1, 10, .inl (z_ff 10 (1950 : Int32) (fun _ => 0)))), (q3, .inl (c1, 12, .inl (fun _ => 0))), (q4, .inl (c1, 60, .inl (fun _ => 0)))]) [0, 3, 4, 1, 2] rfl
  have hD9 := hD.sub (ws' := [(h0, .inr (2, [.ref q1, .ref q2, .ref q3, .ref q4, .int (0 : Int32)])), (q1, .inl (c1, 10, .inl (z_ff 10 (1600 : Int32) (fun _ => 0)))), (q2, .inl (c1, 10, .inl (z_ff 10 (1950 : Int32) (fun _ => 0)))), (q3, .inl (c1, 12, .inl (fun _ => 0))), (q4, .inl (c1, 60, .inl (fun _ => 0)))]) [0, 3, 4, 1, 2] (by decide) rfl
  exact W.vret hx hb hr (fun t ht hW => ⟨⟨(), rfl, trivial, q1, q2, q3, q4, c1, by rw [ht]; exact hP9, va_K.moved hW.alike hK, hD9⟩, hS.F ht⟩) hS.2.2 dX2_init_61 hlocks
