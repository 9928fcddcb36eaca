section
variable {p : Program} {l : Launch} {e : Env} {R : Room} {s : State} {m : MethodId} {args : Array Value} {below : List Frame} {meth : Method} {c : Code} {H : Heap} {locs : List Loc} {cells slots : Nat} {Q : State → Prop} {cc : ByteArray} {pc : Nat} {ls : Array Slot} {rest : List Value}
variable {D : va_G} {cI cJ : ClassId} {tp : Nat} {q : Nat → Nat} {A : Nat → Prop} {u : z_St} {Ts : List Cond}
abbrev zr_X6_owe : Room := { frames := 3, cells := 0, slots := 0, locals := 66 }
theorem zd_X6_owe : yX6_owe.cls ≠ "java/lang/invoke/MethodHandle" ∧ yX6_owe.cls ≠ "java/lang/invoke/VarHandle" ∧ (parseMethodDescriptor yX6_owe.desc).map (fun d => d.parameters.length) = some 3 := by decide +kernel
theorem zi_X6_owe : ∀ w ∈ wsX60, w ∈ wsX6_owe := fun _ h => List.mem_cons_of_mem _ (List.mem_append_right _ h)
set_option maxHeartbeats 4000000 in
set_option maxRecDepth 100000 in
theorem zc_X6_owe (l : Launch) (D : va_G) (cI cJ : ClassId) (tp : Nat) (q : Nat → Nat) (u : z_St) (a_1 : Int32) (a_2 : Int32) (a_3 : Int32) {r : Int32} {u2 : z_St} (hf : zf_X6_owe u a_1 a_2 a_3 = some (r, u2)) : z_Mi l yX6_owe wsX6_owe zr_X6_owe (zm_W cI cJ q) (zm_G tp) D cI cJ [.ref (q 0), .int a_1, .int a_2, .int a_3] u r u2 := by
  refine z_ofi (cc := cX6_owe) (maxL := 5) (ret := (some .int)) zm_Gok (by decide) rfl (Nat.le_of_ble_eq_true rfl) ?_
  intro A p e s m args below meth c ls E hr hlk hC hl
  have E : CallFix p m c cX6_owe 5 s args wsX6_owe RX6 := E
  have hx := E.1
  have hb := E.2.1
  have hml := E.2.2.1
  have hown := E.2.2.2.1
  have hts := E.2.2.2.2
  have hl : lv_has ls 5 [(0, .ref (q 0)), (1, .int a_1), (2, .int a_2), (3, .int a_3)] := hl
  unfold zf_X6_owe at hf
  have kl225 := hts (.constantLong RX6 225 (10000)) (by decide +kernel)
  have kf87 := hts (.fieldLink RX6 87 "DawnFairModel" "owes" "[I") (by decide +kernel)
  refine lv_iload_n hx hb dX6_owe_0 rfl (lv_at hl 1 rfl) ?_
  refine lv_iload_n hx hb dX6_owe_1 rfl (lv_at hl 2 rfl) ?_
  refine z_calli hC (z_runS (rest := []) zm_Gok hC E (zc_X6_isPair l D cI cJ tp q u a_1 a_2 rfl _) (va_cwS 2 hts gX6_owe_X6_isPair rfl rfl rfl zd_X6_isPair ⟨Nat.le_of_ble_eq_true rfl, Nat.le_of_ble_eq_true rfl⟩) rfl hl.1 rfl (Nat.le_of_ble_eq_true rfl) dX6_owe_2 ⟨Nat.zero_le _, Nat.zero_le _⟩) (fun H locs hC => ?_)
  refine lv_if_eq (tgt := 20) hx hb dX6_owe_5 (by decide) (fun c1 => ?_) (fun c1 => ?_)
  · have hf := z_t hf c1
    refine lv_bipush (v := (-2 : Int32)) hx hb dX6_owe_20 (by decide) ?_
    exact z_reti hx hb hr hlk hC (Prod.mk.inj (Option.some.inj hf)).1 (Prod.mk.inj (Option.some.inj hf)).2 dX6_owe_22
  · have hf := z_f hf c1
    refine lv_iload_n hx hb dX6_owe_8 rfl (lv_at hl 3 rfl) ?_
    refine lv_i2l hx hb dX6_owe_9 rfl ?_
    refine lv_lconst (v := (0 : Int64)) hx hb dX6_owe_10 (by decide) ?_
    refine lv_ldc2 (own := RX6) (v := (10000 : Int64)) hx hb hown kl225 dX6_owe_11 ?_
    refine z_calli hC (z_runS (rest := []) zm_Gok hC E (zc_X6_in l D cI cJ tp q u a_3.toInt64 (0 : Int64) (10000 : Int64) rfl _) (va_cwS 3 hts gX6_owe_X6_in rfl rfl rfl zd_X6_in ⟨Nat.le_of_ble_eq_true rfl, Nat.le_of_ble_eq_true rfl⟩) rfl hl.1 rfl (Nat.le_of_ble_eq_true rfl) dX6_owe_14 ⟨Nat.zero_le _, Nat.zero_le _⟩) (fun H locs hC => ?_)
    refine lv_if_ne (tgt := 23) hx hb dX6_owe_17 (by decide) (fun c2 => ?_) (fun c2 => ?_)
    · have hf := z_f hf c2
      refine lv_aload_n hx hb dX6_owe_23 rfl (lv_at hl 0 rfl) ?_
      refine zm_gX6_owes hx hb hts zi_X6_owe hown hC kf87 dX6_owe_24 ?_
      refine lv_bipush (v := (8 : Int32)) hx hb dX6_owe_27 (by decide) ?_
      refine lv_iload_n hx hb dX6_owe_29 rfl (lv_at hl 1 rfl) ?_
      refine lv_imul hx hb dX6_owe_30 ?_
      refine lv_iload_n hx hb dX6_owe_31 rfl (lv_at hl 2 rfl) ?_
      refine lv_iadd hx hb dX6_owe_32 ?_
      obtain ⟨h3, hf⟩ := z_gd_s hf
      refine zm_aX6_owes hx hb hC (z_in h3) dX6_owe_33 ?_
      refine lv_topi (fun x4 ex4 => ?_)
      have hf := z_nm_s hf ex4
      refine lv_istore (lv' := [(4, _), (0, _), (1, _), (2, _), (3, _)]) hx hb dX6_owe_34 hl (by decide) rfl (fun ls hl => ?_)
      refine lv_aload_n hx hb dX6_owe_36 rfl (lv_at hl 1 rfl) ?_
      refine zm_gX6_owes hx hb hts zi_X6_owe hown hC kf87 dX6_owe_37 ?_
      refine lv_bipush (v := (8 : Int32)) hx hb dX6_owe_40 (by decide) ?_
      refine lv_iload_n hx hb dX6_owe_42 rfl (lv_at hl 2 rfl) ?_
      refine lv_imul hx hb dX6_owe_43 ?_
      refine lv_iload_n hx hb dX6_owe_44 rfl (lv_at hl 3 rfl) ?_
      refine lv_iadd hx hb dX6_owe_45 ?_
      refine lv_iload_n hx hb dX6_owe_46 rfl (lv_at hl 4 rfl) ?_
      obtain ⟨h5, hf⟩ := z_gd_s hf
      refine zm_sX6_owes hx hb hC (z_in h5) dX6_owe_47 (fun u6 eu6 H locs hC => ?_)
      have hf := z_nm_s hf eu6
      refine lv_iload hx hb dX6_owe_48 (lv_at hl 0 rfl) ?_
      exact z_reti hx hb hr hlk hC (Prod.mk.inj (Option.some.inj hf)).1 (Prod.mk.inj (Option.some.inj hf)).2 dX6_owe_50
    · have hf := z_t hf c2
      refine lv_bipush (v := (-2 : Int32)) hx hb dX6_owe_20 (by decide) ?_
      exact z_reti hx hb hr hlk hC (Prod.mk.inj (Option.some.inj hf)).1 (Prod.mk.inj (Option.some.inj hf)).2 dX6_owe_22
abbrev zr_X6_owed : Room := { frames := 0, cells := 0, slots := 0, locals := 0 }
theorem zd_X6_owed : yX6_owed.cls ≠ "java/lang/invoke/MethodHandle" ∧ yX6_owed.cls ≠ "java/lang/invoke/VarHandle" ∧ (parseMethodDescriptor yX6_owed.desc).map (fun d => d.parameters.length) = some 2 := by decide +kernel
theorem zi_X6_owed : ∀ w ∈ wsX60, w ∈ wsX6_owed := fun _ h => List.mem_cons_of_mem _ (List.mem_append_right _ h)
set_option maxHeartbeats 4000000 in
set_option maxRecDepth 100000 in
theorem zl_X6_owed_5 (E : CallFix p m c cX6_owed 5 s args wsX6_owed RX6) (a_1 : Int32) (a_2 : Int32) (u : z_St) : ∀ (n : Nat) (x_3 : Int32) (x_4 : Int32) (H : Heap) (locs : List Loc) (ls : Array Slot) (o_3 : Int32) (o_4 : Int32), zf_X6_owed_5 a_1 a_2 u n x_3 x_4 = some (o_3, o_4) → z_C (zm_W cI cJ q) (zm_G tp) D cI cJ A s u H locs → lv_has ls 5 [(0, .ref (q 0)), (1, .int a_1), (2, .int a_2), (3, .int x_3), (4, .int x_4)] → (∀ (H : Heap) (locs : List Loc) (ls : Array Slot), z_C (zm_W cI cJ q) (zm_G tp) D cI cJ A s u H locs → lv_has ls 5 [(0, .ref (q 0)), (1, .int a_1), (2, .int a_2), (3, .int o_3), (4, .int o_4)] → W p l e zr_X6_owed s m args below meth c H locs 0 0 Q (F0 m 46 ls [])) → W p l e zr_X6_owed s m args below meth c H locs 0 0 Q (F0 m 5 ls []) := by
  have hx := E.1
  have hb := E.2.1
  have hml := E.2.2.1
  have hown := E.2.2.2.1
  have hts := E.2.2.2.2
  intro n
  induction n with
  | zero =>
    intro x_3 x_4 H locs ls o_3 o_4 hf
    rw [zf_X6_owed_5.eq_1] at hf
    cases hf
  | succ n ih =>
    intro x_3 x_4 H locs ls o_3 o_4 hf hC hl kk
    rw [zf_X6_owed_5.eq_2] at hf
    have kf87 := hts (.fieldLink RX6 87 "DawnFairModel" "owes" "[I") (by decide +kernel)
    refine lv_iload hx hb dX6_owed_5 (lv_at hl 4 rfl) ?_
    refine lv_bipush (v := (8 : Int32)) hx hb dX6_owed_7 (by decide) ?_
    refine lv_icmp_ge (tgt := 46) hx hb dX6_owed_9 (by decide) (fun c1 => ?_) (fun c1 => ?_)
    · have hf := z_t hf c1
      cases hf
      exact kk _ _ _ hC (lv_sub hl [0, 1, 2, 3, 4] rfl)
    · have hf := z_f hf c1
      refine lv_iload_n hx hb dX6_owed_12 rfl (lv_at hl 3 rfl) ?_
      refine lv_iload_n hx hb dX6_owed_13 rfl (lv_at hl 2 rfl) ?_
      refine lv_iload hx hb dX6_owed_14 (lv_at hl 4 rfl) ?_
      refine lv_ishr hx hb dX6_owed_16 ?_
      refine lv_iconst (v := (1 : Int32)) hx hb dX6_owed_17 (by decide) ?_
      refine lv_iand hx hb dX6_owed_18 ?_
      refine lv_if_ne (tgt := 37) hx hb dX6_owed_19 (by decide) (fun c2 => ?_) (fun c2 => ?_)
      · have hf := z_f hf c2
        refine lv_iconst (v := (0 : Int32)) hx hb dX6_owed_37 (by decide) ?_
        refine lv_iadd hx hb dX6_owed_38 ?_
        refine lv_topi (fun x3 ex3 => ?_)
        have hf := z_nm_s hf ex3
        refine lv_istore_n (lv' := [(3, _), (0, _), (1, _), (2, _), (4, _)]) hx hb dX6_owed_39 rfl hl (by decide) rfl (fun ls hl => ?_)
        obtain ⟨x4, ex4⟩ : ∃ z : Int32, z = (x_4 + (1 : Int32)) := ⟨_, rfl⟩
        have hf := z_nm_s hf ex4
        refine lv_iinc (v := x4) (lv' := [(4, _), (3, _), (0, _), (1, _), (2, _)]) hx hb dX6_owed_40 hl (k := 4) rfl (by rw [ex4]; rfl) (by decide) rfl (fun ls hl => ?_)
        refine lv_goto (tgt := 5) hx hb dX6_owed_43 (by decide) ?_
        exact ih x3 x4 _ _ _ _ _ hf hC (lv_sub hl [2, 3, 4, 1, 0] rfl) kk
      · have hf := z_t hf c2
        refine lv_aload_n hx hb dX6_owed_22 rfl (lv_at hl 0 rfl) ?_
        refine zm_gX6_owes hx hb hts zi_X6_owed hown hC kf87 dX6_owed_23 ?_
        refine lv_bipush (v := (8 : Int32)) hx hb dX6_owed_26 (by decide) ?_
        refine lv_iload hx hb dX6_owed_28 (lv_at hl 4 rfl) ?_
        refine lv_imul hx hb dX6_owed_30 ?_
        refine lv_iload_n hx hb dX6_owed_31 rfl (lv_at hl 1 rfl) ?_
        refine lv_iadd hx hb dX6_owed_32 ?_
        obtain ⟨h5, hf⟩ := z_gd_s hf
        refine zm_aX6_owes hx hb hC (z_in h5) dX6_owed_33 ?_
        refine lv_goto (tgt := 38) hx hb dX6_owed_34 (by decide) ?_
        refine lv_iadd hx hb dX6_owed_38 ?_
        refine lv_topi (fun x6 ex6 => ?_)
        have hf := z_nm_s hf ex6
        refine lv_istore_n (lv' := [(3, _), (0, _), (1, _), (2, _), (4, _)]) hx hb dX6_owed_39 rfl hl (by decide) rfl (fun ls hl => ?_)
        obtain ⟨x7, ex7⟩ : ∃ z : Int32, z = (x_4 + (1 : Int32)) := ⟨_, rfl⟩
        have hf := z_nm_s hf ex7
        refine lv_iinc (v := x7) (lv' := [(4, _), (3, _), (0, _), (1, _), (2, _)]) hx hb dX6_owed_40 hl (k := 4) rfl (by rw [ex7]; rfl) (by decide) rfl (fun ls hl => ?_)
        refine lv_goto (tgt := 5) hx hb dX6_owed_43 (by decide) ?_
        exact ih x6 x7 _ _ _ _ _ hf hC (lv_sub hl [2, 3, 4, 1, 0] rfl) kk
set_option maxHeartbeats 4000000 in
set_option maxRecDepth 100000 in
theorem zc_X6_owed (l : Launch) (D : va_G) (cI cJ : ClassId) (tp : Nat) (q : Nat → Nat) (u : z_St) (a_1 : Int32) (a_2 : Int32) {r : Int32} (hf : zf_X6_owed u a_1 a_2 = some r) : z_Mi l yX6_owed wsX6_owed zr_X6_owed (zm_W cI cJ q) (zm_G tp) D cI cJ [.ref (q 0), .int a_1, .int a_2] u r u := by
  refine z_ofi (cc := cX6_owed) (maxL := 5) (ret := (some .int)) zm_Gok (by decide) rfl (Nat.le_of_ble_eq_true rfl) ?_
  intro A p e s m args below meth c ls E hr hlk hC hl
  have E : CallFix p m c cX6_owed 5 s args wsX6_owed RX6 := E
  have hx := E.1
  have hb := E.2.1
  have hml := E.2.2.1
  have hown := E.2.2.2.1
  have hts := E.2.2.2.2
  have hl : lv_has ls 5 [(0, .ref (q 0)), (1, .int a_1), (2, .int a_2)] := hl
  unfold zf_X6_owed at hf
  refine lv_iconst (v := (0 : Int32)) hx hb dX6_owed_0 (by decide) ?_
  refine lv_istore_n (lv' := [(3, _), (0, _), (1, _), (2, _)]) hx hb dX6_owed_1 rfl hl (by decide) rfl (fun ls hl => ?_)
  refine lv_iconst (v := (0 : Int32)) hx hb dX6_owed_2 (by decide) ?_
  refine lv_istore (lv' := [(4, _), (3, _), (0, _), (1, _), (2, _)]) hx hb dX6_owed_3 hl (by decide) rfl (fun ls hl => ?_)
  obtain ⟨y1, y2, py1, hf⟩ := z_bd2_s hf
  refine zl_X6_owed_5 E a_1 a_2 u 5000 (0 : Int32) (0 : Int32) _ _ _ _ _ py1 hC (lv_sub hl [2, 3, 4, 1, 0] rfl) (fun H locs ls hC hl => ?_)
  refine lv_iload_n hx hb dX6_owed_46 rfl (lv_at hl 3 rfl) ?_
  exact z_reti hx hb hr hlk hC (Option.some.inj hf) rfl dX6_owed_47
abbrev zr_X6_owing : Room := { frames := 0, cells := 0, slots := 0, locals := 0 }
theorem zd_X6_owing : yX6_owing.cls ≠ "java/lang/invoke/MethodHandle" ∧ yX6_owing.cls ≠ "java/lang/invoke/VarHandle" ∧ (parseMethodDescriptor yX6_owing.desc).map (fun d => d.parameters.length) = some 1 := by decide +kernel
theorem zi_X6_owing : ∀ w ∈ wsX60, w ∈ wsX6_owing := fun _ h => List.mem_cons_of_mem _ (List.mem_append_right _ h)
set_option maxHeartbeats 4000000 in
set_option maxRecDepth 100000 in
theorem zl_X6_owing_4 (E : CallFix p m c cX6_owing 4 s args wsX6_owing RX6) (a_1 : Int32) (u : z_St) : ∀ (n : Nat) (x_2 : Int32) (x_3 : Int32) (H : Heap) (locs : List Loc) (ls : Array Slot) (o_2 : Int32) (o_3 : Int32), zf_X6_owing_4 a_1 u n x_2 x_3 = some (o_2, o_3) → z_C (zm_W cI cJ q) (zm_G tp) D cI cJ A s u H locs → lv_has ls 4 [(0, .ref (q 0)), (1, .int a_1), (2, .int x_2), (3, .int x_3)] → (∀ (H : Heap) (locs : List Loc) (ls : Array Slot), z_C (zm_W cI cJ q) (zm_G tp) D cI cJ A s u H locs → lv_has ls 4 [(0, .ref (q 0)), (1, .int a_1), (2, .int o_2), (3, .int o_3)] → W p l e zr_X6_owing s m args below meth c H locs 0 0 Q (F0 m 30 ls [])) → W p l e zr_X6_owing s m args below meth c H locs 0 0 Q (F0 m 4 ls []) := by
  have hx := E.1
  have hb := E.2.1
  have hml := E.2.2.1
  have hown := E.2.2.2.1
  have hts := E.2.2.2.2
  intro n
  induction n with
  | zero =>
    intro x_2 x_3 H locs ls o_2 o_3 hf
    rw [zf_X6_owing_4.eq_1] at hf
    cases hf
  | succ n ih =>
    intro x_2 x_3 H locs ls o_2 o_3 hf hC hl kk
    rw [zf_X6_owing_4.eq_2] at hf
    have kf87 := hts (.fieldLink RX6 87 "DawnFairModel" "owes" "[I") (by decide +kernel)
    refine lv_iload_n hx hb dX6_owing_4 rfl (lv_at hl 3 rfl) ?_
    refine lv_bipush (v := (8 : Int32)) hx hb dX6_owing_5 (by decide) ?_
    refine lv_icmp_ge (tgt := 30) hx hb dX6_owing_7 (by decide) (fun c1 => ?_) (fun c1 => ?_)
    · have hf := z_t hf c1
      cases hf
      exact kk _ _ _ hC (lv_sub hl [0, 1, 2, 3] rfl)
    · have hf := z_f hf c1
      refine lv_iload_n hx hb dX6_owing_10 rfl (lv_at hl 2 rfl) ?_
      refine lv_aload_n hx hb dX6_owing_11 rfl (lv_at hl 0 rfl) ?_
      refine zm_gX6_owes hx hb hts zi_X6_owing hown hC kf87 dX6_owing_12 ?_
      refine lv_bipush (v := (8 : Int32)) hx hb dX6_owing_15 (by decide) ?_
      refine lv_iload_n hx hb dX6_owing_17 rfl (lv_at hl 1 rfl) ?_
      refine lv_imul hx hb dX6_owing_18 ?_
      refine lv_iload_n hx hb dX6_owing_19 rfl (lv_at hl 3 rfl) ?_
      refine lv_iadd hx hb dX6_owing_20 ?_
      obtain ⟨h2, hf⟩ := z_gd_s hf
      refine zm_aX6_owes hx hb hC (z_in h2) dX6_owing_21 ?_
      refine lv_iadd hx hb dX6_owing_22 ?_
      refine lv_topi (fun x3 ex3 => ?_)
      have hf := z_nm_s hf ex3
      refine lv_istore_n (lv' := [(2, _), (0, _), (1, _), (3, _)]) hx hb dX6_owing_23 rfl hl (by decide) rfl (fun ls hl => ?_)
      obtain ⟨x4, ex4⟩ : ∃ z : Int32, z = (x_3 + (1 : Int32)) := ⟨_, rfl⟩
      have hf := z_nm_s hf ex4
      refine lv_iinc (v := x4) (lv' := [(3, _), (2, _), (0, _), (1, _)]) hx hb dX6_owing_24 hl (k := 3) rfl (by rw [ex4]; rfl) (by decide) rfl (fun ls hl => ?_)
      refine lv_goto (tgt := 4) hx hb dX6_owing_27 (by decide) ?_
      exact ih x3 x4 _ _ _ _ _ hf hC (lv_sub hl [2, 3, 1, 0] rfl) kk
set_option maxHeartbeats 4000000 in
set_option maxRecDepth 100000 in
theorem zc_X6_owing (l : Launch) (D : va_G) (cI cJ : ClassId) (tp : Nat) (q : Nat → Nat) (u : z_St) (a_1 : Int32) {r : Int32} (hf : zf_X6_owing u a_1 = some r) : z_Mi l yX6_owing wsX6_owing zr_X6_owing (zm_W cI cJ q) (zm_G tp) D cI cJ [.ref (q 0), .int a_1] u r u := by
  refine z_ofi (cc := cX6_owing) (maxL := 4) (ret := (some .int)) zm_Gok (by decide) rfl (Nat.le_of_ble_eq_true rfl) ?_
  intro A p e s m args below meth c ls E hr hlk hC hl
  have E : CallFix p m c cX6_owing 4 s args wsX6_owing RX6 := E
  have hx := E.1
  have hb := E.2.1
  have hml := E.2.2.1
  have hown := E.2.2.2.1
  have hts := E.2.2.2.2
  have hl : lv_has ls 4 [(0, .ref (q 0)), (1, .int a_1)] := hl
  unfold zf_X6_owing at hf
  refine lv_iconst (v := (0 : Int32)) hx hb dX6_owing_0 (by decide) ?_
  refine lv_istore_n (lv' := [(2, _), (0, _), (1, _)]) hx hb dX6_owing_1 rfl hl (by decide) rfl (fun ls hl => ?_)
  refine lv_iconst (v := (0 : Int32)) hx hb dX6_owing_2 (by decide) ?_
  refine lv_istore_n (lv' := [(3, _), (2, _), (0, _), (1, _)]) hx hb dX6_owing_3 rfl hl (by decide) rfl (fun ls hl => ?_)
  obtain ⟨y1, y2, py1, hf⟩ := z_bd2_s hf
  refine zl_X6_owing_4 E a_1 u 5000 (0 : Int32) (0 : Int32) _ _ _ _ _ py1 hC (lv_sub hl [2, 3, 1, 0] rfl) (fun H locs ls hC hl => ?_)
  refine lv_iload_n hx hb dX6_owing_30 rfl (lv_at hl 2 rfl) ?_
  exact z_reti hx hb hr hlk hC (Option.some.inj hf) rfl dX6_owing_31
abbrev zr_X6_net : Room := { frames := 2, cells := 0, slots := 0, locals := 45 }
theorem zd_X6_net : yX6_net.cls ≠ "java/lang/invoke/MethodHandle" ∧ yX6_net.cls ≠ "java/lang/invoke/VarHandle" ∧ (parseMethodDescriptor yX6_net.desc).map (fun d => d.parameters.length) = some 1 := by decide +kernel
theorem zi_X6_net : ∀ w ∈ wsX60, w ∈ wsX6_net := fun _ h => List.mem_cons_of_mem _ (List.mem_append_right _ h)
set_option maxHeartbeats 4000000 in
set_option maxRecDepth 100000 in
theorem zc_X6_net (l : Launch) (D : va_G) (cI cJ : ClassId) (tp : Nat) (q : Nat → Nat) (u : z_St) (a_1 : Int32) {r : Int32} (hf : zf_X6_net u a_1 = some r) : z_Mi l yX6_net wsX6_net zr_X6_net (zm_W cI cJ q) (zm_G tp) D cI cJ [.ref (q 0), .int a_1] u r u := by
  refine z_ofi (cc := cX6_net) (maxL := 2) (ret := (some .int)) zm_Gok (by decide) rfl (Nat.le_of_ble_eq_true rfl) ?_
  intro A p e s m args below meth c ls E hr hlk hC hl
  have E : CallFix p m c cX6_net 2 s args wsX6_net RX6 := E
  have hx := E.1
  have hb := E.2.1
  have hml := E.2.2.1
  have hown := E.2.2.2.1
  have hts := E.2.2.2.2
  have hl : lv_has ls 2 [(0, .ref (q 0)), (1, .int a_1)] := hl
  unfold zf_X6_net at hf
  have kc159 := hts (.constant RX6 159 (-2000000000)) (by decide +kernel)
  refine lv_iload_n hx hb dX6_net_0 rfl (lv_at hl 1 rfl) ?_
  refine z_calli hC (z_runS (rest := []) zm_Gok hC E (zc_X6_isDealer l D cI cJ tp q u a_1 rfl _) (va_cwS 1 hts gX6_net_X6_isDealer rfl rfl rfl zd_X6_isDealer ⟨Nat.le_of_ble_eq_true rfl, Nat.le_of_ble_eq_true rfl⟩) rfl hl.1 rfl (Nat.le_of_ble_eq_true rfl) dX6_net_1 ⟨Nat.zero_le _, Nat.zero_le _⟩) (fun H locs hC => ?_)
  refine lv_if_eq (tgt := 22) hx hb dX6_net_4 (by decide) (fun c1 => ?_) (fun c1 => ?_)
  · have hf := z_t hf c1
    refine lv_ldc (own := RX6) (v := (-2000000000 : Int32)) hx hb hown kc159 dX6_net_22 ?_
    exact z_reti hx hb hr hlk hC (Option.some.inj hf) rfl dX6_net_24
  · have hf := z_f hf c1
    refine lv_aload_n hx hb dX6_net_7 rfl (lv_at hl 0 rfl) ?_
    refine lv_iload_n hx hb dX6_net_8 rfl (lv_at hl 1 rfl) ?_
    refine lv_iconst (v := (0 : Int32)) hx hb dX6_net_9 (by decide) ?_
    obtain ⟨r2, pr2, hf⟩ := z_bd_s hf
    refine z_calli hC (z_runV (rest := []) zm_Gok hC E (zc_X6_owed l D cI cJ tp q u a_1 (0 : Int32) pr2 _) (cwV 2 hts gX6_net_X6_owed rfl rfl rfl ⟨rfl, zd_X6_owed⟩ ⟨Nat.le_of_ble_eq_true rfl, Nat.le_of_ble_eq_true rfl⟩) (zm_rcX6 hC) rfl hl.1 rfl (Nat.le_of_ble_eq_true rfl) dX6_net_10 ⟨Nat.zero_le _, Nat.zero_le _⟩) (fun H locs hC => ?_)
    refine lv_aload_n hx hb dX6_net_13 rfl (lv_at hl 0 rfl) ?_
    refine lv_iload_n hx hb dX6_net_14 rfl (lv_at hl 1 rfl) ?_
    obtain ⟨r3, pr3, hf⟩ := z_bd_s hf
    refine z_calli hC (z_runV (rest := [_]) zm_Gok hC E (zc_X6_owing l D cI cJ tp q u a_1 pr3 _) (cwV 1 hts gX6_net_X6_owing rfl rfl rfl ⟨rfl, zd_X6_owing⟩ ⟨Nat.le_of_ble_eq_true rfl, Nat.le_of_ble_eq_true rfl⟩) (zm_rcX6 hC) rfl hl.1 rfl (Nat.le_of_ble_eq_true rfl) dX6_net_15 ⟨Nat.zero_le _, Nat.zero_le _⟩) (fun H locs hC => ?_)
    refine lv_isub hx hb dX6_net_18 ?_
    refine lv_goto (tgt := 24) hx hb dX6_net_19 (by decide) ?_
    exact z_reti hx hb hr hlk hC (Option.some.inj hf) rfl dX6_net_24
abbrev zr_X6_fall : Room := { frames := 2, cells := 0, slots := 0, locals := 45 }
theorem zd_X6_fall : yX6_fall.cls ≠ "java/lang/invoke/MethodHandle" ∧ yX6_fall.cls ≠ "java/lang/invoke/VarHandle" ∧ (parseMethodDescriptor yX6_fall.desc).map (fun d => d.parameters.length) = some 2 := by decide +kernel
theorem zi_X6_fall : ∀ w ∈ wsX60, w ∈ wsX6_fall := fun _ h => List.mem_cons_of_mem _ (List.mem_append_right _ h)
set_option maxHeartbeats 4000000 in
set_option maxRecDepth 100000 in
theorem zl_X6_fall_41 (E : CallFix p m c cX6_fall 6 s args wsX6_fall RX6) (a_2 : Int32) (a_4 : Int32) (u : z_St) : ∀ (n : Nat) (x_3 : Int32) (x_5 : Int32) (H : Heap) (locs : List Loc) (ls : Array Slot) (o_3 : Int32) (o_5 : Int32), zf_X6_fall_41 a_2 a_4 u n x_3 x_5 = some (o_3, o_5) → z_C (zm_W cI cJ q) (zm_G tp) D cI cJ A s u H locs → lv_has ls 6 [(0, .ref (q 0)), (2, .int a_2), (3, .int x_3), (4, .int a_4), (5, .int x_5)] → (∀ (H : Heap) (locs : List Loc) (ls : Array Slot), z_C (zm_W cI cJ q) (zm_G tp) D cI cJ A s u H locs → lv_has ls 6 [(0, .ref (q 0)), (2, .int a_2), (3, .int o_3), (4, .int a_4), (5, .int o_5)] → W p l e zr_X6_fall s m args below meth c H locs 0 0 Q (F0 m 84 ls [])) → W p l e zr_X6_fall s m args below meth c H locs 0 0 Q (F0 m 41 ls []) := by
  have hx := E.1
  have hb := E.2.1
  have hml := E.2.2.1
  have hown := E.2.2.2.1
  have hts := E.2.2.2.2
  intro n
  induction n with
  | zero =>
    intro x_3 x_5 H locs ls o_3 o_5 hf
    rw [zf_X6_fall_41.eq_1] at hf
    cases hf
  | succ n ih =>
    intro x_3 x_5 H locs ls o_3 o_5 hf hC hl kk
    rw [zf_X6_fall_41.eq_2] at hf
    refine lv_iload hx hb dX6_fall_41 (lv_at hl 4 rfl) ?_
    refine lv_bipush (v := (8 : Int32)) hx hb dX6_fall_43 (by decide) ?_
    refine lv_icmp_ge (tgt := 84) hx hb dX6_fall_45 (by decide) (fun c1 => ?_) (fun c1 => ?_)
    · have hf := z_t hf c1
      cases hf
      exact kk _ _ _ hC (lv_sub hl [0, 1, 2, 3, 4] rfl)
    · have hf := z_f hf c1
      refine lv_iload_n hx hb dX6_fall_48 rfl (lv_at hl 2 rfl) ?_
      refine lv_iload_n hx hb dX6_fall_49 rfl (lv_at hl 1 rfl) ?_
      refine lv_aload_n hx hb dX6_fall_50 rfl (lv_at hl 0 rfl) ?_
      refine lv_iload hx hb dX6_fall_51 (lv_at hl 4 rfl) ?_
      refine lv_iload hx hb dX6_fall_53 (lv_at hl 3 rfl) ?_
      obtain ⟨r2, pr2, hf⟩ := z_bd_s hf
      refine z_calli hC (z_runV (rest := [_, _]) zm_Gok hC E (zc_X6_owed l D cI cJ tp q u x_5 a_4 pr2 _) (cwV 2 hts gX6_fall_X6_owed rfl rfl rfl ⟨rfl, zd_X6_owed⟩ ⟨Nat.le_of_ble_eq_true rfl, Nat.le_of_ble_eq_true rfl⟩) (zm_rcX6 hC) rfl hl.1 rfl (Nat.le_of_ble_eq_true rfl) dX6_fall_55 ⟨Nat.zero_le _, Nat.zero_le _⟩) (fun H locs hC => ?_)
      refine lv_iadd hx hb dX6_fall_58 ?_
      refine lv_aload_n hx hb dX6_fall_59 rfl (lv_at hl 0 rfl) ?_
      refine lv_iload hx hb dX6_fall_60 (lv_at hl 4 rfl) ?_
      obtain ⟨r3, pr3, hf⟩ := z_bd_s hf
      refine z_calli hC (z_runV (rest := [_, _]) zm_Gok hC E (zc_X6_owing l D cI cJ tp q u x_5 pr3 _) (cwV 1 hts gX6_fall_X6_owing rfl rfl rfl ⟨rfl, zd_X6_owing⟩ ⟨Nat.le_of_ble_eq_true rfl, Nat.le_of_ble_eq_true rfl⟩) (zm_rcX6 hC) rfl hl.1 rfl (Nat.le_of_ble_eq_true rfl) dX6_fall_62 ⟨Nat.zero_le _, Nat.zero_le _⟩) (fun H locs hC => ?_)
      refine lv_icmp_ge (tgt := 75) hx hb dX6_fall_65 (by decide) (fun c4 => ?_) (fun c4 => ?_)
      · have hf := z_t hf c4
        refine lv_iconst (v := (0 : Int32)) hx hb dX6_fall_75 (by decide) ?_
        refine lv_ior hx hb dX6_fall_76 ?_
        refine lv_topi (fun x5 ex5 => ?_)
        have hf := z_nm_s hf ex5
        refine lv_istore_n (lv' := [(3, _), (0, _), (2, _), (4, _), (5, _)]) hx hb dX6_fall_77 rfl hl (by decide) rfl (fun ls hl => ?_)
        obtain ⟨x6, ex6⟩ : ∃ z : Int32, z = (x_5 + (1 : Int32)) := ⟨_, rfl⟩
        have hf := z_nm_s hf ex6
        refine lv_iinc (v := x6) (lv' := [(5, _), (3, _), (0, _), (2, _), (4, _)]) hx hb dX6_fall_78 hl (k := 4) rfl (by rw [ex6]; rfl) (by decide) rfl (fun ls hl => ?_)
        refine lv_goto (tgt := 41) hx hb dX6_fall_81 (by decide) ?_
        exact ih x5 x6 _ _ _ _ _ hf hC (lv_sub hl [2, 3, 1, 4, 0] rfl) kk
      · have hf := z_f hf c4
        refine lv_iconst (v := (1 : Int32)) hx hb dX6_fall_68 (by decide) ?_
        refine lv_iload hx hb dX6_fall_69 (lv_at hl 4 rfl) ?_
        refine lv_ishl hx hb dX6_fall_71 ?_
        refine lv_goto (tgt := 76) hx hb dX6_fall_72 (by decide) ?_
        refine lv_ior hx hb dX6_fall_76 ?_
        refine lv_topi (fun x7 ex7 => ?_)
        have hf := z_nm_s hf ex7
        refine lv_istore_n (lv' := [(3, _), (0, _), (2, _), (4, _), (5, _)]) hx hb dX6_fall_77 rfl hl (by decide) rfl (fun ls hl => ?_)
        obtain ⟨x8, ex8⟩ : ∃ z : Int32, z = (x_5 + (1 : Int32)) := ⟨_, rfl⟩
        have hf := z_nm_s hf ex8
        refine lv_iinc (v := x8) (lv' := [(5, _), (3, _), (0, _), (2, _), (4, _)]) hx hb dX6_fall_78 hl (k := 4) rfl (by rw [ex8]; rfl) (by decide) rfl (fun ls hl => ?_)
        refine lv_goto (tgt := 41) hx hb dX6_fall_81 (by decide) ?_
        exact ih x7 x8 _ _ _ _ _ hf hC (lv_sub hl [2, 3, 1, 4, 0] rfl) kk
set_option maxHeartbeats 4000000 in
set_option maxRecDepth 100000 in
theorem zl_X6_fall_29 (E : CallFix p m c cX6_fall 6 s args wsX6_fall RX6) (a_2 : Int32) (u : z_St) : ∀ (n : Nat) (x_3 : Int32) (x_4 : Int32) (H : Heap) (locs : List Loc) (ls : Array Slot) (o_3 : Int32) (o_4 : Int32), zf_X6_fall_29 a_2 u n x_3 x_4 = some (o_3, o_4) → z_C (zm_W cI cJ q) (zm_G tp) D cI cJ A s u H locs → lv_has ls 6 [(0, .ref (q 0)), (2, .int a_2), (3, .int x_3), (4, .int x_4)] → (∀ (H : Heap) (locs : List Loc) (ls : Array Slot), z_C (zm_W cI cJ q) (zm_G tp) D cI cJ A s u H locs → lv_has ls 6 [(0, .ref (q 0)), (2, .int a_2), (3, .int o_3), (4, .int o_4)] → W p l e zr_X6_fall s m args below meth c H locs 0 0 Q (F0 m 87 ls [])) → W p l e zr_X6_fall s m args below meth c H locs 0 0 Q (F0 m 29 ls []) := by
  have hx := E.1
  have hb := E.2.1
  have hml := E.2.2.1
  have hown := E.2.2.2.1
  have hts := E.2.2.2.2
  intro n
  induction n with
  | zero =>
    intro x_3 x_4 H locs ls o_3 o_4 hf
    rw [zf_X6_fall_29.eq_1] at hf
    cases hf
  | succ n ih =>
    intro x_3 x_4 H locs ls o_3 o_4 hf hC hl kk
    rw [zf_X6_fall_29.eq_2] at hf
    refine lv_iload_n hx hb dX6_fall_29 rfl (lv_at hl 2 rfl) ?_
    refine lv_iload hx hb dX6_fall_30 (lv_at hl 3 rfl) ?_
    refine lv_icmp_eq (tgt := 87) hx hb dX6_fall_32 (by decide) (fun c1 => ?_) (fun c1 => ?_)
    · have hf := z_t hf c1
      cases hf
      exact kk _ _ _ hC (lv_sub hl [0, 1, 2, 3] rfl)
    · have hf := z_f hf c1
      refine lv_iload_n hx hb dX6_fall_35 rfl (lv_at hl 2 rfl) ?_
      refine lv_istore (lv' := [(4, _), (0, _), (2, _), (3, _)]) hx hb dX6_fall_36 hl (by decide) rfl (fun ls hl => ?_)
      refine lv_iconst (v := (0 : Int32)) hx hb dX6_fall_38 (by decide) ?_
      refine lv_istore (lv' := [(5, _), (4, _), (0, _), (2, _), (3, _)]) hx hb dX6_fall_39 hl (by decide) rfl (fun ls hl => ?_)
      obtain ⟨y2, y3, py2, hf⟩ := z_bd2_s hf
      refine zl_X6_fall_41 E a_2 x_3 u 5000 x_3 (0 : Int32) _ _ _ _ _ py2 hC (lv_sub hl [2, 3, 4, 1, 0] rfl) (fun H locs ls hC hl => ?_)
      refine lv_goto (tgt := 29) hx hb dX6_fall_84 (by decide) ?_
      exact ih y2 x_3 _ _ _ _ _ hf hC (lv_sub hl [0, 1, 2, 3] rfl) kk
set_option maxHeartbeats 4000000 in
set_option maxRecDepth 100000 in
theorem zc_X6_fall (l : Launch) (D : va_G) (cI cJ : ClassId) (tp : Nat) (q : Nat → Nat) (u : z_St) (a_1 : Int32) (a_2 : Int32) {r : Int32} (hf : zf_X6_fall u a_1 a_2 = some r) : z_Mi l yX6_fall wsX6_fall zr_X6_fall (zm_W cI cJ q) (zm_G tp) D cI cJ [.ref (q 0), .int a_1, .int a_2] u r u := by
  refine z_ofi (cc := cX6_fall) (maxL := 6) (ret := (some .int)) zm_Gok (by decide) rfl (Nat.le_of_ble_eq_true rfl) ?_
  intro A p e s m args below meth c ls E hr hlk hC hl
  have E : CallFix p m c cX6_fall 6 s args wsX6_fall RX6 := E
  have hx := E.1
  have hb := E.2.1
  have hml := E.2.2.1
  have hown := E.2.2.2.1
  have hts := E.2.2.2.2
  have hl : lv_has ls 6 [(0, .ref (q 0)), (1, .int a_1), (2, .int a_2)] := hl
  unfold zf_X6_fall at hf
  have kl143 := hts (.constantLong RX6 143 (100000)) (by decide +kernel)
  refine lv_iload_n hx hb dX6_fall_0 rfl (lv_at hl 1 rfl) ?_
  refine z_calli hC (z_runS (rest := []) zm_Gok hC E (zc_X6_isDealer l D cI cJ tp q u a_1 rfl _) (va_cwS 1 hts gX6_fall_X6_isDealer rfl rfl rfl zd_X6_isDealer ⟨Nat.le_of_ble_eq_true rfl, Nat.le_of_ble_eq_true rfl⟩) rfl hl.1 rfl (Nat.le_of_ble_eq_true rfl) dX6_fall_1 ⟨Nat.zero_le _, Nat.zero_le _⟩) (fun H locs hC => ?_)
  refine lv_if_eq (tgt := 19) hx hb dX6_fall_4 (by decide) (fun c1 => ?_) (fun c1 => ?_)
  · have hf := z_t hf c1
    refine lv_bipush (v := (-2 : Int32)) hx hb dX6_fall_19 (by decide) ?_
    exact z_reti hx hb hr hlk hC (Option.some.inj hf) rfl dX6_fall_21
  · have hf := z_f hf c1
    refine lv_iload_n hx hb dX6_fall_7 rfl (lv_at hl 2 rfl) ?_
    refine lv_i2l hx hb dX6_fall_8 rfl ?_
    refine lv_lconst (v := (0 : Int64)) hx hb dX6_fall_9 (by decide) ?_
    refine lv_ldc2 (own := RX6) (v := (100000 : Int64)) hx hb hown kl143 dX6_fall_10 ?_
    refine z_calli hC (z_runS (rest := []) zm_Gok hC E (zc_X6_in l D cI cJ tp q u a_2.toInt64 (0 : Int64) (100000 : Int64) rfl _) (va_cwS 3 hts gX6_fall_X6_in rfl rfl rfl zd_X6_in ⟨Nat.le_of_ble_eq_true rfl, Nat.le_of_ble_eq_true rfl⟩) rfl hl.1 rfl (Nat.le_of_ble_eq_true rfl) dX6_fall_13 ⟨Nat.zero_le _, Nat.zero_le _⟩) (fun H locs hC => ?_)
    refine lv_if_ne (tgt := 22) hx hb dX6_fall_16 (by decide) (fun c2 => ?_) (fun c2 => ?_)
    · have hf := z_f hf c2
      refine lv_iconst (v := (1 : Int32)) hx hb dX6_fall_22 (by decide) ?_
      refine lv_iload_n hx hb dX6_fall_23 rfl (lv_at hl 1 rfl) ?_
      refine lv_ishl hx hb dX6_fall_24 ?_
      refine lv_topi (fun x3 ex3 => ?_)
      have hf := z_nm_s hf ex3
      refine lv_istore_n (lv' := [(3, _), (0, _), (1, _), (2, _)]) hx hb dX6_fall_25 rfl hl (by decide) rfl (fun ls hl => ?_)
      refine lv_iconst (v := (0 : Int32)) hx hb dX6_fall_26 (by decide) ?_
      refine lv_istore (lv' := [(4, _), (3, _), (0, _), (1, _), (2, _)]) hx hb dX6_fall_27 hl (by decide) rfl (fun ls hl => ?_)
      obtain ⟨y4, y5, py4, hf⟩ := z_bd2_s hf
      refine zl_X6_fall_29 E a_2 u 5000 x3 (0 : Int32) _ _ _ _ _ py4 hC (lv_sub hl [2, 4, 1, 0] rfl) (fun H locs ls hC hl => ?_)
      refine lv_iload_n hx hb dX6_fall_87 rfl (lv_at hl 2 rfl) ?_
      exact z_reti hx hb hr hlk hC (Option.some.inj hf) rfl dX6_fall_88
    · have hf := z_t hf c2
      refine lv_bipush (v := (-2 : Int32)) hx hb dX6_fall_19 (by decide) ?_
      exact z_reti hx hb hr hlk hC (Option.some.inj hf) rfl dX6_fall_21
abbrev zr_X6_standing : Room := { frames := 0, cells := 0, slots := 0, locals := 0 }
theorem zd_X6_standing : yX6_standing.cls ≠ "java/lang/invoke/MethodHandle" ∧ yX6_standing.cls ≠ "java/lang/invoke/VarHandle" ∧ (parseMethodDescriptor yX6_standing.desc).map (fun d => d.parameters.length) = some 0 := by decide +kernel
theorem zi_X6_standing : ∀ w ∈ wsX60, w ∈ wsX6_standing := fun _ h => List.mem_cons_of_mem _ (List.mem_append_right _ h)
set_option maxHeartbeats 4000000 in
set_option maxRecDepth 100000 in
theorem zl_X6_standing_4 (E : CallFix p m c cX6_standing 3 s args wsX6_standing RX6) (u : z_St) : ∀ (n : Nat) (x_1 : Int32) (x_2 : Int32) (H : Heap) (locs : List Loc) (ls : Array Slot) (o_1 : Int32) (o_2 : Int32), zf_X6_standing_4 u n x_1 x_2 = some (o_1, o_2) → z_C (zm_W cI cJ q) (zm_G tp) D cI cJ A s u H locs → lv_has ls 3 [(0, .ref (q 0)), (1, .int x_1), (2, .int x_2)] → (∀ (H : Heap) (locs : List Loc) (ls : Array Slot), z_C (zm_W cI cJ q) (zm_G tp) D cI cJ A s u H locs → lv_has ls 3 [(0, .ref (q 0)), (1, .int o_1), (2, .int o_2)] → W p l e zr_X6_standing s m args below meth c H locs 0 0 Q (F0 m 27 ls [])) → W p l e zr_X6_standing s m args below meth c H locs 0 0 Q (F0 m 4 ls []) := by
  have hx := E.1
  have hb := E.2.1
  have hml := E.2.2.1
  have hown := E.2.2.2.1
  have hts := E.2.2.2.2
  intro n
  induction n with
  | zero =>
    intro x_1 x_2 H locs ls o_1 o_2 hf
    rw [zf_X6_standing_4.eq_1] at hf
    cases hf
  | succ n ih =>
    intro x_1 x_2 H locs ls o_1 o_2 hf hC hl kk
    rw [zf_X6_standing_4.eq_2] at hf
    have kf137 := hts (.fieldLink RX6 137 "DawnFairModel" "sales" "I") (by decide +kernel)
    have kf56 := hts (.fieldLink RX6 56 "DawnFairModel" "stands" "[I") (by decide +kernel)
    refine lv_iload_n hx hb dX6_standing_4 rfl (lv_at hl 2 rfl) ?_
    refine lv_aload_n hx hb dX6_standing_5 rfl (lv_at hl 0 rfl) ?_
    refine zm_gX6_sales hx hb hts zi_X6_standing hown hC kf137 dX6_standing_6 ?_
    refine lv_icmp_ge (tgt := 27) hx hb dX6_standing_9 (by decide) (fun c1 => ?_) (fun c1 => ?_)
    · have hf := z_t hf c1
      cases hf
      exact kk _ _ _ hC (lv_sub hl [0, 1, 2] rfl)
    · have hf := z_f hf c1
      refine lv_iload_n hx hb dX6_standing_12 rfl (lv_at hl 1 rfl) ?_
      refine lv_aload_n hx hb dX6_standing_13 rfl (lv_at hl 0 rfl) ?_
      refine zm_gX6_stands hx hb hts zi_X6_standing hown hC kf56 dX6_standing_14 ?_
      refine lv_iload_n hx hb dX6_standing_17 rfl (lv_at hl 2 rfl) ?_
      obtain ⟨h2, hf⟩ := z_gd_s hf
      refine zm_aX6_stands hx hb hC (z_in h2) dX6_standing_18 ?_
      refine lv_iadd hx hb dX6_standing_19 ?_
      refine lv_topi (fun x3 ex3 => ?_)
      have hf := z_nm_s hf ex3
      refine lv_istore_n (lv' := [(1, _), (0, _), (2, _)]) hx hb dX6_standing_20 rfl hl (by decide) rfl (fun ls hl => ?_)
      obtain ⟨x4, ex4⟩ : ∃ z : Int32, z = (x_2 + (1 : Int32)) := ⟨_, rfl⟩
      have hf := z_nm_s hf ex4
      refine lv_iinc (v := x4) (lv' := [(2, _), (1, _), (0, _)]) hx hb dX6_standing_21 hl (k := 2) rfl (by rw [ex4]; rfl) (by decide) rfl (fun ls hl => ?_)
      refine lv_goto (tgt := 4) hx hb dX6_standing_24 (by decide) ?_
      exact ih x3 x4 _ _ _ _ _ hf hC (lv_sub hl [2, 1, 0] rfl) kk
set_option maxHeartbeats 4000000 in
set_option maxRecDepth 100000 in
theorem zc_X6_standing (l : Launch) (D : va_G) (cI cJ : ClassId) (tp : Nat) (q : Nat → Nat) (u : z_St) {r : Int32} (hf : zf_X6_standing u = some r) : z_Mi l yX6_standing wsX6_standing zr_X6_standing (zm_W cI cJ q) (zm_G tp) D cI cJ [.ref (q 0)] u r u := by
  refine z_ofi (cc := cX6_standing) (maxL := 3) (ret := (some .int)) zm_Gok (by decide) rfl (Nat.le_of_ble_eq_true rfl) ?_
  intro A p e s m args below meth c ls E hr hlk hC hl
  have E : CallFix p m c cX6_standing 3 s args wsX6_standing RX6 := E
  have hx := E.1
  have hb := E.2.1
  have hml := E.2.2.1
  have hown := E.2.2.2.1
  have hts := E.2.2.2.2
  have hl : lv_has ls 3 [(0, .ref (q 0))] := hl
  unfold zf_X6_standing at hf
  refine lv_iconst (v := (0 : Int32)) hx hb dX6_standing_0 (by decide) ?_
  refine lv_istore_n (lv' := [(1, _), (0, _)]) hx hb dX6_standing_1 rfl hl (by decide) rfl (fun ls hl => ?_)
  refine lv_iconst (v := (0 : Int32)) hx hb dX6_standing_2 (by decide) ?_
  refine lv_istore_n (lv' := [(2, _), (1, _), (0, _)]) hx hb dX6_standing_3 rfl hl (by decide) rfl (fun ls hl => ?_)
  obtain ⟨y1, y2, py1, hf⟩ := z_bd2_s hf
  refine zl_X6_standing_4 E u 5000 (0 : Int32) (0 : Int32) _ _ _ _ _ py1 hC (lv_sub hl [2, 1, 0] rfl) (fun H locs ls hC hl => ?_)
  refine lv_iload_n hx hb dX6_standing_27 rfl (lv_at hl 1 rfl) ?_
  exact z_reti hx hb hr hlk hC (Option.some.inj hf) rfl dX6_standing_28
abbrev zr_X6_allDebts : Room := { frames := 1, cells := 0, slots := 0, locals := 23 }
theorem zd_X6_allDebts : yX6_allDebts.cls ≠ "java/lang/invoke/MethodHandle" ∧ yX6_allDebts.cls ≠ "java/lang/invoke/VarHandle" ∧ (parseMethodDescriptor yX6_allDebts.desc).map (fun d => d.parameters.length) = some 0 := by decide +kernel
theorem zi_X6_allDebts : ∀ w ∈ wsX60, w ∈ wsX6_allDebts := fun _ h => List.mem_cons_of_mem _ (List.mem_append_right _ h)
set_option maxHeartbeats 4000000 in
set_option maxRecDepth 100000 in
theorem zl_X6_allDebts_4 (E : CallFix p m c cX6_allDebts 3 s args wsX6_allDebts RX6) (u : z_St) : ∀ (n : Nat) (x_1 : Int32) (x_2 : Int32) (H : Heap) (locs : List Loc) (ls : Array Slot) (o_1 : Int32) (o_2 : Int32), zf_X6_allDebts_4 u n x_1 x_2 = some (o_1, o_2) → z_C (zm_W cI cJ q) (zm_G tp) D cI cJ A s u H locs → lv_has ls 3 [(0, .ref (q 0)), (1, .int x_1), (2, .int x_2)] → (∀ (H : Heap) (locs : List Loc) (ls : Array Slot), z_C (zm_W cI cJ q) (zm_G tp) D cI cJ A s u H locs → lv_has ls 3 [(0, .ref (q 0)), (1, .int o_1), (2, .int o_2)] → W p l e zr_X6_allDebts s m args below meth c H locs 0 0 Q (F0 m 24 ls [])) → W p l e zr_X6_allDebts s m args below meth c H locs 0 0 Q (F0 m 4 ls []) := by
  have hx := E.1
  have hb := E.2.1
  have hml := E.2.2.1
  have hown := E.2.2.2.1
  have hts := E.2.2.2.2
  intro n
  induction n with
  | zero =>
    intro x_1 x_2 H locs ls o_1 o_2 hf
    rw [zf_X6_allDebts_4.eq_1] at hf
    cases hf
  | succ n ih =>
    intro x_1 x_2 H locs ls o_1 o_2 hf hC hl kk
    rw [zf_X6_allDebts_4.eq_2] at hf
    refine lv_iload_n hx hb dX6_allDebts_4 rfl (lv_at hl 2 rfl) ?_
    refine lv_bipush (v := (8 : Int32)) hx hb dX6_allDebts_5 (by decide) ?_
    refine lv_icmp_ge (tgt := 24) hx hb dX6_allDebts_7 (by decide) (fun c1 => ?_) (fun c1 => ?_)
    · have hf := z_t hf c1
      cases hf
      exact kk _ _ _ hC (lv_sub hl [0, 1, 2] rfl)
    · have hf := z_f hf c1
      refine lv_iload_n hx hb dX6_allDebts_10 rfl (lv_at hl 1 rfl) ?_
      refine lv_aload_n hx hb dX6_allDebts_11 rfl (lv_at hl 0 rfl) ?_
      refine lv_iload_n hx hb dX6_allDebts_12 rfl (lv_at hl 2 rfl) ?_
      obtain ⟨r2, pr2, hf⟩ := z_bd_s hf
      refine z_calli hC (z_runV (rest := [_]) zm_Gok hC E (zc_X6_owing l D cI cJ tp q u x_2 pr2 _) (cwV 1 hts gX6_allDebts_X6_owing rfl rfl rfl ⟨rfl, zd_X6_owing⟩ ⟨Nat.le_of_ble_eq_true rfl, Nat.le_of_ble_eq_true rfl⟩) (zm_rcX6 hC) rfl hl.1 rfl (Nat.le_of_ble_eq_true rfl) dX6_allDebts_13 ⟨Nat.zero_le _, Nat.zero_le _⟩) (fun H locs hC => ?_)
      refine lv_iadd hx hb dX6_allDebts_16 ?_
      refine lv_topi (fun x3 ex3 => ?_)
      have hf := z_nm_s hf ex3
      refine lv_istore_n (lv' := [(1, _), (0, _), (2, _)]) hx hb dX6_allDebts_17 rfl hl (by decide) rfl (fun ls hl => ?_)
      obtain ⟨x4, ex4⟩ : ∃ z : Int32, z = (x_2 + (1 : Int32)) := ⟨_, rfl⟩
      have hf := z_nm_s hf ex4
      refine lv_iinc (v := x4) (lv' := [(2, _), (1, _), (0, _)]) hx hb dX6_allDebts_18 hl (k := 2) rfl (by rw [ex4]; rfl) (by decide) rfl (fun ls hl => ?_)
      refine lv_goto (tgt := 4) hx hb dX6_allDebts_21 (by decide) ?_
      exact ih x3 x4 _ _ _ _ _ hf hC (lv_sub hl [2, 1, 0] rfl) kk
set_option maxHeartbeats 4000000 in
set_option maxRecDepth 100000 in
theorem zc_X6_allDebts (l : Launch) (D : va_G) (cI cJ : ClassId) (tp : Nat) (q : Nat → Nat) (u : z_St) {r : Int32} (hf : zf_X6_allDebts u = some r) : z_Mi l yX6_allDebts wsX6_allDebts zr_X6_allDebts (zm_W cI cJ q) (zm_G tp) D cI cJ [.ref (q 0)] u r u := by
  refine z_ofi (cc := cX6_allDebts) (maxL := 3) (ret := (some .int)) zm_Gok (by decide) rfl (Nat.le_of_ble_eq_true rfl) ?_
  intro A p e s m args below meth c ls E hr hlk hC hl
  have E : CallFix p m c cX6_allDebts 3 s args wsX6_allDebts RX6 := E
  have hx := E.1
  have hb := E.2.1
  have hml := E.2.2.1
  have hown := E.2.2.2.1
  have hts := E.2.2.2.2
  have hl : lv_has ls 3 [(0, .ref (q 0))] := hl
  unfold zf_X6_allDebts at hf
  refine lv_iconst (v := (0 : Int32)) hx hb dX6_allDebts_0 (by decide) ?_
  refine lv_istore_n (lv' := [(1, _), (0, _)]) hx hb dX6_allDebts_1 rfl hl (by decide) rfl (fun ls hl => ?_)
  refine lv_iconst (v := (0 : Int32)) hx hb dX6_allDebts_2 (by decide) ?_
  refine lv_istore_n (lv' := [(2, _), (1, _), (0, _)]) hx hb dX6_allDebts_3 rfl hl (by decide) rfl (fun ls hl => ?_)
  obtain ⟨y1, y2, py1, hf⟩ := z_bd2_s hf
  refine zl_X6_allDebts_4 E u 5000 (0 : Int32) (0 : Int32) _ _ _ _ _ py1 hC (lv_sub hl [2, 1, 0] rfl) (fun H locs ls hC hl => ?_)
  refine lv_iload_n hx hb dX6_allDebts_24 rfl (lv_at hl 1 rfl) ?_
  exact z_reti hx hb hr hlk hC (Option.some.inj hf) rfl dX6_allDebts_25
abbrev zr_X6_count : Room := { frames := 2, cells := 0, slots := 0, locals := 45 }
theorem zd_X6_count : yX6_count.cls ≠ "java/lang/invoke/MethodHandle" ∧ yX6_count.cls ≠ "java/lang/invoke/VarHandle" ∧ (parseMethodDescriptor yX6_count.desc).map (fun d => d.parameters.length) = some 1 := by decide +kernel
theorem zi_X6_count : ∀ w ∈ wsX60, w ∈ wsX6_count := fun _ h => List.mem_cons_of_mem _ (List.mem_append_right _ h)
set_option maxHeartbeats 4000000 in
set_option maxRecDepth 100000 in
theorem zc_X6_count (l : Launch) (D : va_G) (cI cJ : ClassId) (tp : Nat) (q : Nat → Nat) (u : z_St) (a_1 : Int32) {r : Int32} (hf : zf_X6_count u a_1 = some r) : z_Mi l yX6_count wsX6_count zr_X6_count (zm_W cI cJ q) (zm_G tp) D cI cJ [.ref (q 0), .int a_1] u r u := by
  refine z_ofi (cc := cX6_count) (maxL := 2) (ret := (some .int)) zm_Gok (by decide) rfl (Nat.le_of_ble_eq_true rfl) ?_
  intro A p e s m args below meth c ls E hr hlk hC hl
  have E : CallFix p m c cX6_count 2 s args wsX6_count RX6 := E
  have hx := E.1
  have hb := E.2.1
  have hml := E.2.2.1
  have hown := E.2.2.2.1
  have hts := E.2.2.2.2
  have hl : lv_has ls 2 [(0, .ref (q 0)), (1, .int a_1)] := hl
  unfold zf_X6_count at hf
  have kf104 := hts (.fieldLink RX6 104 "DawnFairModel" "things" "I") (by decide +kernel)
  have kf137 := hts (.fieldLink RX6 137 "DawnFairModel" "sales" "I") (by decide +kernel)
  have kf162 := hts (.fieldLink RX6 162 "DawnFairModel" "lots" "I") (by decide +kernel)
  have kf212 := hts (.fieldLink RX6 212 "DawnFairModel" "entries" "I") (by decide +kernel)
  have kf34 := hts (.fieldLink RX6 34 "DawnFairModel" "hour" "I") (by decide +kernel)
  refine lv_iload_n hx hb dX6_count_0 rfl (lv_at hl 1 rfl) ?_
  by_cases c1 : a_1 = (0 : Int32)
  · have hf := z_t hf c1
    rw [c1]
    refine lv_tableIn (off := 43) (tgt := 44) hx hb dX6_count_1 (by decide) (by decide) rfl (by decide) ?_
    refine lv_aload_n hx hb dX6_count_44 rfl (lv_at hl 0 rfl) ?_
    refine zm_gX6_things hx hb hts zi_X6_count hown hC kf104 dX6_count_45 ?_
    exact z_reti hx hb hr hlk hC (Option.some.inj hf) rfl dX6_count_48
  · have hf := z_f hf c1
    by_cases c2 : a_1 = (1 : Int32)
    · have hf := z_t hf c2
      rw [c2]
      refine lv_tableIn (off := 48) (tgt := 49) hx hb dX6_count_1 (by decide) (by decide) rfl (by decide) ?_
      refine lv_aload_n hx hb dX6_count_49 rfl (lv_at hl 0 rfl) ?_
      refine zm_gX6_sales hx hb hts zi_X6_count hown hC kf137 dX6_count_50 ?_
      exact z_reti hx hb hr hlk hC (Option.some.inj hf) rfl dX6_count_53
    · have hf := z_f hf c2
      by_cases c3 : a_1 = (2 : Int32)
      · have hf := z_t hf c3
        rw [c3]
        refine lv_tableIn (off := 53) (tgt := 54) hx hb dX6_count_1 (by decide) (by decide) rfl (by decide) ?_
        refine lv_aload_n hx hb dX6_count_54 rfl (lv_at hl 0 rfl) ?_
        obtain ⟨r4, pr4, hf⟩ := z_bd_s hf
        refine z_calli hC (z_runV (rest := []) zm_Gok hC E (zc_X6_standing l D cI cJ tp q u pr4 _) (cwV 0 hts gX6_count_X6_standing rfl rfl rfl ⟨rfl, zd_X6_standing⟩ ⟨Nat.le_of_ble_eq_true rfl, Nat.le_of_ble_eq_true rfl⟩) (zm_rcX6 hC) rfl hl.1 rfl (Nat.le_of_ble_eq_true rfl) dX6_count_55 ⟨Nat.zero_le _, Nat.zero_le _⟩) (fun H locs hC => ?_)
        exact z_reti hx hb hr hlk hC (Option.some.inj hf) rfl dX6_count_58
      · have hf := z_f hf c3
        by_cases c5 : a_1 = (3 : Int32)
        · have hf := z_t hf c5
          rw [c5]
          refine lv_tableIn (off := 58) (tgt := 59) hx hb dX6_count_1 (by decide) (by decide) rfl (by decide) ?_
          refine lv_aload_n hx hb dX6_count_59 rfl (lv_at hl 0 rfl) ?_
          refine zm_gX6_lots hx hb hts zi_X6_count hown hC kf162 dX6_count_60 ?_
          exact z_reti hx hb hr hlk hC (Option.some.inj hf) rfl dX6_count_63
        · have hf := z_f hf c5
          by_cases c6 : a_1 = (4 : Int32)
          · have hf := z_t hf c6
            rw [c6]
            refine lv_tableIn (off := 63) (tgt := 64) hx hb dX6_count_1 (by decide) (by decide) rfl (by decide) ?_
            refine lv_aload_n hx hb dX6_count_64 rfl (lv_at hl 0 rfl) ?_
            refine zm_gX6_entries hx hb hts zi_X6_count hown hC kf212 dX6_count_65 ?_
            exact z_reti hx hb hr hlk hC (Option.some.inj hf) rfl dX6_count_68
          · have hf := z_f hf c6
            by_cases c7 : a_1 = (5 : Int32)
            · have hf := z_t hf c7
              rw [c7]
              refine lv_tableIn (off := 68) (tgt := 69) hx hb dX6_count_1 (by decide) (by decide) rfl (by decide) ?_
              refine lv_aload_n hx hb dX6_count_69 rfl (lv_at hl 0 rfl) ?_
              refine zm_gX6_hour hx hb hts zi_X6_count hown hC kf34 dX6_count_70 ?_
              exact z_reti hx hb hr hlk hC (Option.some.inj hf) rfl dX6_count_73
            · have hf := z_f hf c7
              by_cases c8 : a_1 = (6 : Int32)
              · have hf := z_t hf c8
                rw [c8]
                refine lv_tableIn (off := 73) (tgt := 74) hx hb dX6_count_1 (by decide) (by decide) rfl (by decide) ?_
                refine lv_aload_n hx hb dX6_count_74 rfl (lv_at hl 0 rfl) ?_
                obtain ⟨r9, pr9, hf⟩ := z_bd_s hf
                refine z_calli hC (z_runV (rest := []) zm_Gok hC E (zc_X6_allDebts l D cI cJ tp q u pr9 _) (cwV 0 hts gX6_count_X6_allDebts rfl rfl rfl ⟨rfl, zd_X6_allDebts⟩ ⟨Nat.le_of_ble_eq_true rfl, Nat.le_of_ble_eq_true rfl⟩) (zm_rcX6 hC) rfl hl.1 rfl (Nat.le_of_ble_eq_true rfl) dX6_count_75 ⟨Nat.zero_le _, Nat.zero_le _⟩) (fun H locs hC => ?_)
                exact z_reti hx hb hr hlk hC (Option.some.inj hf) rfl dX6_count_78
              · have hf := z_f hf c8
                have n0 : ¬ a_1.toInt = 0 := z_ne c1
                have n1 : ¬ a_1.toInt = 1 := z_ne c2
                have n2 : ¬ a_1.toInt = 2 := z_ne c3
                have n3 : ¬ a_1.toInt = 3 := z_ne c5
                have n4 : ¬ a_1.toInt = 4 := z_ne c6
                have n5 : ¬ a_1.toInt = 5 := z_ne c7
                have n6 : ¬ a_1.toInt = 6 := z_ne c8
                refine lv_tableOut (tgt := 79) hx hb dX6_count_1 (by omega) (by decide) ?_
                refine lv_bipush (v := (-2 : Int32)) hx hb dX6_count_79 (by decide) ?_
                exact z_reti hx hb hr hlk hC (Option.some.inj hf) rfl dX6_count_81
end
