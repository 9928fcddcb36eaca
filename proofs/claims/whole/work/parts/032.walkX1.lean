section
variable {p : Program} {l : Launch} {e : Env} {R : Room} {s : State} {m : MethodId} {args : Array Value} {below : List Frame} {meth : Method} {c : Code} {H : Heap} {locs : List Loc} {cells slots : Nat} {Q : State → Prop} {cc : ByteArray} {pc : Nat} {ls : Array Slot} {rest : List Value}
variable {D : va_G} {cI cJ : ClassId} {tp : Nat} {q : Nat → Nat} {A : Nat → Prop} {u : z_St} {Ts : List Cond}
abbrev zr_X1_change : Room := { frames := 0, cells := 0, slots := 0, locals := 0 }
theorem zd_X1_change : yX1_change.cls ≠ "java/lang/invoke/MethodHandle" ∧ yX1_change.cls ≠ "java/lang/invoke/VarHandle" ∧ (parseMethodDescriptor yX1_change.desc).map (fun d => d.parameters.length) = some 3 := by decide +kernel
theorem zi_X1_change : ∀ w ∈ wsX10, w ∈ wsX1_change := fun _ h => List.mem_cons_of_mem _ (List.mem_append_right _ h)
set_option maxHeartbeats 4000000 in
set_option maxRecDepth 100000 in
theorem zc_X1_change (l : Launch) (D : va_G) (cI cJ : ClassId) (tp : Nat) (q : Nat → Nat) (u : z_St) (a_1 : Int32) (a_2 : Int32) (a_3 : Int32) {r : Int32} {u2 : z_St} (hf : zf_X1_change u a_1 a_2 a_3 = some (r, u2)) : z_Mi l yX1_change wsX1_change zr_X1_change (zx_W cI q) (zx_G tp) D cI cJ [.ref (q 1), .int a_1, .int a_2, .int a_3] u r u2 := by
  refine z_ofi (cc := cX1_change) (maxL := 5) (ret := (some .int)) zx_Gok (by decide) rfl (Nat.le_of_ble_eq_true rfl) ?_
  intro A p e s m args below meth c ls E hr hlk hC hl
  have E : CallFix p m c cX1_change 5 s args wsX1_change RX1 := E
  have hx := E.1
  have hb := E.2.1
  have hml := E.2.2.1
  have hown := E.2.2.2.1
  have hts := E.2.2.2.2
  have hl : lv_has ls 5 [(0, .ref (q 1)), (1, .int a_1), (2, .int a_2), (3, .int a_3)] := hl
  unfold zf_X1_change at hf
  have kf9 := hts (.fieldLink RX1 9 "DawnFair$Debts" "owed" "[I") (by decide +kernel)
  refine lv_aload_n hx hb dX1_change_0 rfl (lv_at hl 0 rfl) ?_
  refine zx_gX1_owed hx hb hts zi_X1_change hown hC kf9 dX1_change_1 ?_
  refine lv_iload_n hx hb dX1_change_4 rfl (lv_at hl 1 rfl) ?_
  refine lv_bipush (v := (8 : Int32)) hx hb dX1_change_5 (by decide) ?_
  refine lv_imul hx hb dX1_change_7 ?_
  refine lv_iload_n hx hb dX1_change_8 rfl (lv_at hl 2 rfl) ?_
  refine lv_iadd hx hb dX1_change_9 ?_
  obtain ⟨h1, hf⟩ := z_gd_s hf
  refine zx_aX1_owed hx hb hC (z_in h1) dX1_change_10 ?_
  refine lv_topi (fun x2 ex2 => ?_)
  have hf := z_nm_s hf ex2
  refine lv_istore (lv' := [(4, _), (0, _), (1, _), (2, _), (3, _)]) hx hb dX1_change_11 hl (by decide) rfl (fun ls hl => ?_)
  refine lv_aload_n hx hb dX1_change_13 rfl (lv_at hl 1 rfl) ?_
  refine zx_gX1_owed hx hb hts zi_X1_change hown hC kf9 dX1_change_14 ?_
  refine lv_iload_n hx hb dX1_change_17 rfl (lv_at hl 2 rfl) ?_
  refine lv_bipush (v := (8 : Int32)) hx hb dX1_change_18 (by decide) ?_
  refine lv_imul hx hb dX1_change_20 ?_
  refine lv_iload_n hx hb dX1_change_21 rfl (lv_at hl 3 rfl) ?_
  refine lv_iadd hx hb dX1_change_22 ?_
  refine lv_iload_n hx hb dX1_change_23 rfl (lv_at hl 4 rfl) ?_
  obtain ⟨h3, hf⟩ := z_gd_s hf
  refine zx_sX1_owed hx hb hC (z_in h3) dX1_change_24 (fun u4 eu4 H locs hC => ?_)
  have hf := z_nm_s hf eu4
  refine lv_iload hx hb dX1_change_25 (lv_at hl 0 rfl) ?_
  exact z_reti hx hb hr hlk hC (Prod.mk.inj (Option.some.inj hf)).1 (Prod.mk.inj (Option.some.inj hf)).2 dX1_change_27
abbrev zr_X1_total : Room := { frames := 0, cells := 0, slots := 0, locals := 0 }
theorem zd_X1_total : yX1_total.cls ≠ "java/lang/invoke/MethodHandle" ∧ yX1_total.cls ≠ "java/lang/invoke/VarHandle" ∧ (parseMethodDescriptor yX1_total.desc).map (fun d => d.parameters.length) = some 0 := by decide +kernel
theorem zi_X1_total : ∀ w ∈ wsX10, w ∈ wsX1_total := fun _ h => List.mem_cons_of_mem _ (List.mem_append_right _ h)
set_option maxHeartbeats 4000000 in
set_option maxRecDepth 100000 in
theorem zl_X1_total_4 (E : CallFix p m c cX1_total 3 s args wsX1_total RX1) (u : z_St) : ∀ (n : Nat) (x_1 : Int32) (x_2 : Int32) (H : Heap) (locs : List Loc) (ls : Array Slot) (o_1 : Int32) (o_2 : Int32), zf_X1_total_4 u n x_1 x_2 = some (o_1, o_2) → z_C (zx_W cI q) (zx_G tp) D cI cJ A s u H locs → lv_has ls 3 [(0, .ref (q 1)), (1, .int x_1), (2, .int x_2)] → (∀ (H : Heap) (locs : List Loc) (ls : Array Slot), z_C (zx_W cI q) (zx_G tp) D cI cJ A s u H locs → lv_has ls 3 [(0, .ref (q 1)), (1, .int o_1), (2, .int o_2)] → W p l e zr_X1_total s m args below meth c H locs 0 0 Q (F0 m 28 ls [])) → W p l e zr_X1_total s m args below meth c H locs 0 0 Q (F0 m 4 ls []) := by
  have hx := E.1
  have hb := E.2.1
  have hml := E.2.2.1
  have hown := E.2.2.2.1
  have hts := E.2.2.2.2
  intro n
  induction n with
  | zero =>
    intro x_1 x_2 H locs ls o_1 o_2 hf
    rw [zf_X1_total_4.eq_1] at hf
    cases hf
  | succ n ih =>
    intro x_1 x_2 H locs ls o_1 o_2 hf hC hl kk
    rw [zf_X1_total_4.eq_2] at hf
    have kf9 := hts (.fieldLink RX1 9 "DawnFair$Debts" "owed" "[I") (by decide +kernel)
    refine lv_iload_n hx hb dX1_total_4 rfl (lv_at hl 2 rfl) ?_
    refine lv_aload_n hx hb dX1_total_5 rfl (lv_at hl 0 rfl) ?_
    refine zx_gX1_owed hx hb hts zi_X1_total hown hC kf9 dX1_total_6 ?_
    refine zx_nX1_owed hx hb hC dX1_total_9 ?_
    refine lv_icmp_ge (tgt := 28) hx hb dX1_total_10 (by decide) (fun c1 => ?_) (fun c1 => ?_)
    · have hf := z_t hf c1
      cases hf
      exact kk _ _ _ hC (lv_sub hl [0, 1, 2] rfl)
    · have hf := z_f hf c1
      refine lv_iload_n hx hb dX1_total_13 rfl (lv_at hl 1 rfl) ?_
      refine lv_aload_n hx hb dX1_total_14 rfl (lv_at hl 0 rfl) ?_
      refine zx_gX1_owed hx hb hts zi_X1_total hown hC kf9 dX1_total_15 ?_
      refine lv_iload_n hx hb dX1_total_18 rfl (lv_at hl 2 rfl) ?_
      obtain ⟨h2, hf⟩ := z_gd_s hf
      refine zx_aX1_owed hx hb hC (z_in h2) dX1_total_19 ?_
      refine lv_iadd hx hb dX1_total_20 ?_
      refine lv_topi (fun x3 ex3 => ?_)
      have hf := z_nm_s hf ex3
      refine lv_istore_n (lv' := [(1, _), (0, _), (2, _)]) hx hb dX1_total_21 rfl hl (by decide) rfl (fun ls hl => ?_)
      obtain ⟨x4, ex4⟩ : ∃ z : Int32, z = (x_2 + (1 : Int32)) := ⟨_, rfl⟩
      have hf := z_nm_s hf ex4
      refine lv_iinc (v := x4) (lv' := [(2, _), (1, _), (0, _)]) hx hb dX1_total_22 hl (k := 2) rfl (by rw [ex4]; rfl) (by decide) rfl (fun ls hl => ?_)
      refine lv_goto (tgt := 4) hx hb dX1_total_25 (by decide) ?_
      exact ih x3 x4 _ _ _ _ _ hf hC (lv_sub hl [2, 1, 0] rfl) kk
set_option maxHeartbeats 4000000 in
set_option maxRecDepth 100000 in
theorem zc_X1_total (l : Launch) (D : va_G) (cI cJ : ClassId) (tp : Nat) (q : Nat → Nat) (u : z_St) {r : Int32} (hf : zf_X1_total u = some r) : z_Mi l yX1_total wsX1_total zr_X1_total (zx_W cI q) (zx_G tp) D cI cJ [.ref (q 1)] u r u := by
  refine z_ofi (cc := cX1_total) (maxL := 3) (ret := (some .int)) zx_Gok (by decide) rfl (Nat.le_of_ble_eq_true rfl) ?_
  intro A p e s m args below meth c ls E hr hlk hC hl
  have E : CallFix p m c cX1_total 3 s args wsX1_total RX1 := E
  have hx := E.1
  have hb := E.2.1
  have hml := E.2.2.1
  have hown := E.2.2.2.1
  have hts := E.2.2.2.2
  have hl : lv_has ls 3 [(0, .ref (q 1))] := hl
  unfold zf_X1_total at hf
  refine lv_iconst (v := (0 : Int32)) hx hb dX1_total_0 (by decide) ?_
  refine lv_istore_n (lv' := [(1, _), (0, _)]) hx hb dX1_total_1 rfl hl (by decide) rfl (fun ls hl => ?_)
  refine lv_iconst (v := (0 : Int32)) hx hb dX1_total_2 (by decide) ?_
  refine lv_istore_n (lv' := [(2, _), (1, _), (0, _)]) hx hb dX1_total_3 rfl hl (by decide) rfl (fun ls hl => ?_)
  obtain ⟨y1, y2, py1, hf⟩ := z_bd2_s hf
  refine zl_X1_total_4 E u 5000 (0 : Int32) (0 : Int32) _ _ _ _ _ py1 hC (lv_sub hl [2, 1, 0] rfl) (fun H locs ls hC hl => ?_)
  refine lv_iload_n hx hb dX1_total_28 rfl (lv_at hl 1 rfl) ?_
  exact z_reti hx hb hr hlk hC (Option.some.inj hf) rfl dX1_total_29
abbrev zr_X1_owedTo : Room := { frames := 0, cells := 0, slots := 0, locals := 0 }
theorem zd_X1_owedTo : yX1_owedTo.cls ≠ "java/lang/invoke/MethodHandle" ∧ yX1_owedTo.cls ≠ "java/lang/invoke/VarHandle" ∧ (parseMethodDescriptor yX1_owedTo.desc).map (fun d => d.parameters.length) = some 2 := by decide +kernel
theorem zi_X1_owedTo : ∀ w ∈ wsX10, w ∈ wsX1_owedTo := fun _ h => List.mem_cons_of_mem _ (List.mem_append_right _ h)
set_option maxHeartbeats 4000000 in
set_option maxRecDepth 100000 in
theorem zl_X1_owedTo_5 (E : CallFix p m c cX1_owedTo 5 s args wsX1_owedTo RX1) (a_1 : Int32) (a_2 : Int32) (u : z_St) : ∀ (n : Nat) (x_3 : Int32) (x_4 : Int32) (H : Heap) (locs : List Loc) (ls : Array Slot) (o_3 : Int32) (o_4 : Int32), zf_X1_owedTo_5 a_1 a_2 u n x_3 x_4 = some (o_3, o_4) → z_C (zx_W cI q) (zx_G tp) D cI cJ A s u H locs → lv_has ls 5 [(0, .ref (q 1)), (1, .int a_1), (2, .int a_2), (3, .int x_3), (4, .int x_4)] → (∀ (H : Heap) (locs : List Loc) (ls : Array Slot), z_C (zx_W cI q) (zx_G tp) D cI cJ A s u H locs → lv_has ls 5 [(0, .ref (q 1)), (1, .int a_1), (2, .int a_2), (3, .int o_3), (4, .int o_4)] → W p l e zr_X1_owedTo s m args below meth c H locs 0 0 Q (F0 m 43 ls [])) → W p l e zr_X1_owedTo s m args below meth c H locs 0 0 Q (F0 m 5 ls []) := by
  have hx := E.1
  have hb := E.2.1
  have hml := E.2.2.1
  have hown := E.2.2.2.1
  have hts := E.2.2.2.2
  intro n
  induction n with
  | zero =>
    intro x_3 x_4 H locs ls o_3 o_4 hf
    rw [zf_X1_owedTo_5.eq_1] at hf
    cases hf
  | succ n ih =>
    intro x_3 x_4 H locs ls o_3 o_4 hf hC hl kk
    rw [zf_X1_owedTo_5.eq_2] at hf
    have kf9 := hts (.fieldLink RX1 9 "DawnFair$Debts" "owed" "[I") (by decide +kernel)
    refine lv_iload hx hb dX1_owedTo_5 (lv_at hl 4 rfl) ?_
    refine lv_bipush (v := (8 : Int32)) hx hb dX1_owedTo_7 (by decide) ?_
    refine lv_icmp_ge (tgt := 43) hx hb dX1_owedTo_9 (by decide) (fun c1 => ?_) (fun c1 => ?_)
    · have hf := z_t hf c1
      cases hf
      exact kk _ _ _ hC (lv_sub hl [0, 1, 2, 3, 4] rfl)
    · have hf := z_f hf c1
      refine lv_iload_n hx hb dX1_owedTo_12 rfl (lv_at hl 2 rfl) ?_
      refine lv_iload hx hb dX1_owedTo_13 (lv_at hl 4 rfl) ?_
      refine lv_ishr hx hb dX1_owedTo_15 ?_
      refine lv_iconst (v := (1 : Int32)) hx hb dX1_owedTo_16 (by decide) ?_
      refine lv_iand hx hb dX1_owedTo_17 ?_
      refine lv_iconst (v := (1 : Int32)) hx hb dX1_owedTo_18 (by decide) ?_
      refine lv_icmp_ne (tgt := 37) hx hb dX1_owedTo_19 (by decide) (fun c2 => ?_) (fun c2 => ?_)
      · have hf := z_f hf c2
        obtain ⟨x3, ex3⟩ : ∃ z : Int32, z = (x_4 + (1 : Int32)) := ⟨_, rfl⟩
        have hf := z_nm_s hf ex3
        refine lv_iinc (v := x3) (lv' := [(4, _), (0, _), (1, _), (2, _), (3, _)]) hx hb dX1_owedTo_37 hl (k := 4) rfl (by rw [ex3]; rfl) (by decide) rfl (fun ls hl => ?_)
        refine lv_goto (tgt := 5) hx hb dX1_owedTo_40 (by decide) ?_
        exact ih x_3 x3 _ _ _ _ _ hf hC (lv_sub hl [1, 2, 3, 4, 0] rfl) kk
      · have hf := z_t hf c2
        refine lv_iload_n hx hb dX1_owedTo_22 rfl (lv_at hl 3 rfl) ?_
        refine lv_aload_n hx hb dX1_owedTo_23 rfl (lv_at hl 0 rfl) ?_
        refine zx_gX1_owed hx hb hts zi_X1_owedTo hown hC kf9 dX1_owedTo_24 ?_
        refine lv_iload hx hb dX1_owedTo_27 (lv_at hl 4 rfl) ?_
        refine lv_bipush (v := (8 : Int32)) hx hb dX1_owedTo_29 (by decide) ?_
        refine lv_imul hx hb dX1_owedTo_31 ?_
        refine lv_iload_n hx hb dX1_owedTo_32 rfl (lv_at hl 1 rfl) ?_
        refine lv_iadd hx hb dX1_owedTo_33 ?_
        obtain ⟨h4, hf⟩ := z_gd_s hf
        refine zx_aX1_owed hx hb hC (z_in h4) dX1_owedTo_34 ?_
        refine lv_iadd hx hb dX1_owedTo_35 ?_
        refine lv_topi (fun x5 ex5 => ?_)
        have hf := z_nm_s hf ex5
        refine lv_istore_n (lv' := [(3, _), (0, _), (1, _), (2, _), (4, _)]) hx hb dX1_owedTo_36 rfl hl (by decide) rfl (fun ls hl => ?_)
        obtain ⟨x6, ex6⟩ : ∃ z : Int32, z = (x_4 + (1 : Int32)) := ⟨_, rfl⟩
        have hf := z_nm_s hf ex6
        refine lv_iinc (v := x6) (lv' := [(4, _), (3, _), (0, _), (1, _), (2, _)]) hx hb dX1_owedTo_37 hl (k := 4) rfl (by rw [ex6]; rfl) (by decide) rfl (fun ls hl => ?_)
        refine lv_goto (tgt := 5) hx hb dX1_owedTo_40 (by decide) ?_
        exact ih x5 x6 _ _ _ _ _ hf hC (lv_sub hl [2, 3, 4, 1, 0] rfl) kk
set_option maxHeartbeats 4000000 in
set_option maxRecDepth 100000 in
theorem zc_X1_owedTo (l : Launch) (D : va_G) (cI cJ : ClassId) (tp : Nat) (q : Nat → Nat) (u : z_St) (a_1 : Int32) (a_2 : Int32) {r : Int32} (hf : zf_X1_owedTo u a_1 a_2 = some r) : z_Mi l yX1_owedTo wsX1_owedTo zr_X1_owedTo (zx_W cI q) (zx_G tp) D cI cJ [.ref (q 1), .int a_1, .int a_2] u r u := by
  refine z_ofi (cc := cX1_owedTo) (maxL := 5) (ret := (some .int)) zx_Gok (by decide) rfl (Nat.le_of_ble_eq_true rfl) ?_
  intro A p e s m args below meth c ls E hr hlk hC hl
  have E : CallFix p m c cX1_owedTo 5 s args wsX1_owedTo RX1 := E
  have hx := E.1
  have hb := E.2.1
  have hml := E.2.2.1
  have hown := E.2.2.2.1
  have hts := E.2.2.2.2
  have hl : lv_has ls 5 [(0, .ref (q 1)), (1, .int a_1), (2, .int a_2)] := hl
  unfold zf_X1_owedTo at hf
  refine lv_iconst (v := (0 : Int32)) hx hb dX1_owedTo_0 (by decide) ?_
  refine lv_istore_n (lv' := [(3, _), (0, _), (1, _), (2, _)]) hx hb dX1_owedTo_1 rfl hl (by decide) rfl (fun ls hl => ?_)
  refine lv_iconst (v := (0 : Int32)) hx hb dX1_owedTo_2 (by decide) ?_
  refine lv_istore (lv' := [(4, _), (3, _), (0, _), (1, _), (2, _)]) hx hb dX1_owedTo_3 hl (by decide) rfl (fun ls hl => ?_)
  obtain ⟨y1, y2, py1, hf⟩ := z_bd2_s hf
  refine zl_X1_owedTo_5 E a_1 a_2 u 5000 (0 : Int32) (0 : Int32) _ _ _ _ _ py1 hC (lv_sub hl [2, 3, 4, 1, 0] rfl) (fun H locs ls hC hl => ?_)
  refine lv_iload_n hx hb dX1_owedTo_43 rfl (lv_at hl 3 rfl) ?_
  exact z_reti hx hb hr hlk hC (Option.some.inj hf) rfl dX1_owedTo_44
abbrev zr_X1_owedBy : Room := { frames := 0, cells := 0, slots := 0, locals := 0 }
theorem zd_X1_owedBy : yX1_owedBy.cls ≠ "java/lang/invoke/MethodHandle" ∧ yX1_owedBy.cls ≠ "java/lang/invoke/VarHandle" ∧ (parseMethodDescriptor yX1_owedBy.desc).map (fun d => d.parameters.length) = some 1 := by decide +kernel
theorem zi_X1_owedBy : ∀ w ∈ wsX10, w ∈ wsX1_owedBy := fun _ h => List.mem_cons_of_mem _ (List.mem_append_right _ h)
set_option maxHeartbeats 4000000 in
set_option maxRecDepth 100000 in
theorem zl_X1_owedBy_4 (E : CallFix p m c cX1_owedBy 4 s args wsX1_owedBy RX1) (a_1 : Int32) (u : z_St) : ∀ (n : Nat) (x_2 : Int32) (x_3 : Int32) (H : Heap) (locs : List Loc) (ls : Array Slot) (o_2 : Int32) (o_3 : Int32), zf_X1_owedBy_4 a_1 u n x_2 x_3 = some (o_2, o_3) → z_C (zx_W cI q) (zx_G tp) D cI cJ A s u H locs → lv_has ls 4 [(0, .ref (q 1)), (1, .int a_1), (2, .int x_2), (3, .int x_3)] → (∀ (H : Heap) (locs : List Loc) (ls : Array Slot), z_C (zx_W cI q) (zx_G tp) D cI cJ A s u H locs → lv_has ls 4 [(0, .ref (q 1)), (1, .int a_1), (2, .int o_2), (3, .int o_3)] → W p l e zr_X1_owedBy s m args below meth c H locs 0 0 Q (F0 m 30 ls [])) → W p l e zr_X1_owedBy s m args below meth c H locs 0 0 Q (F0 m 4 ls []) := by
  have hx := E.1
  have hb := E.2.1
  have hml := E.2.2.1
  have hown := E.2.2.2.1
  have hts := E.2.2.2.2
  intro n
  induction n with
  | zero =>
    intro x_2 x_3 H locs ls o_2 o_3 hf
    rw [zf_X1_owedBy_4.eq_1] at hf
    cases hf
  | succ n ih =>
    intro x_2 x_3 H locs ls o_2 o_3 hf hC hl kk
    rw [zf_X1_owedBy_4.eq_2] at hf
    have kf9 := hts (.fieldLink RX1 9 "DawnFair$Debts" "owed" "[I") (by decide +kernel)
    refine lv_iload_n hx hb dX1_owedBy_4 rfl (lv_at hl 3 rfl) ?_
    refine lv_bipush (v := (8 : Int32)) hx hb dX1_owedBy_5 (by decide) ?_
    refine lv_icmp_ge (tgt := 30) hx hb dX1_owedBy_7 (by decide) (fun c1 => ?_) (fun c1 => ?_)
    · have hf := z_t hf c1
      cases hf
      exact kk _ _ _ hC (lv_sub hl [0, 1, 2, 3] rfl)
    · have hf := z_f hf c1
      refine lv_iload_n hx hb dX1_owedBy_10 rfl (lv_at hl 2 rfl) ?_
      refine lv_aload_n hx hb dX1_owedBy_11 rfl (lv_at hl 0 rfl) ?_
      refine zx_gX1_owed hx hb hts zi_X1_owedBy hown hC kf9 dX1_owedBy_12 ?_
      refine lv_iload_n hx hb dX1_owedBy_15 rfl (lv_at hl 1 rfl) ?_
      refine lv_bipush (v := (8 : Int32)) hx hb dX1_owedBy_16 (by decide) ?_
      refine lv_imul hx hb dX1_owedBy_18 ?_
      refine lv_iload_n hx hb dX1_owedBy_19 rfl (lv_at hl 3 rfl) ?_
      refine lv_iadd hx hb dX1_owedBy_20 ?_
      obtain ⟨h2, hf⟩ := z_gd_s hf
      refine zx_aX1_owed hx hb hC (z_in h2) dX1_owedBy_21 ?_
      refine lv_iadd hx hb dX1_owedBy_22 ?_
      refine lv_topi (fun x3 ex3 => ?_)
      have hf := z_nm_s hf ex3
      refine lv_istore_n (lv' := [(2, _), (0, _), (1, _), (3, _)]) hx hb dX1_owedBy_23 rfl hl (by decide) rfl (fun ls hl => ?_)
      obtain ⟨x4, ex4⟩ : ∃ z : Int32, z = (x_3 + (1 : Int32)) := ⟨_, rfl⟩
      have hf := z_nm_s hf ex4
      refine lv_iinc (v := x4) (lv' := [(3, _), (2, _), (0, _), (1, _)]) hx hb dX1_owedBy_24 hl (k := 3) rfl (by rw [ex4]; rfl) (by decide) rfl (fun ls hl => ?_)
      refine lv_goto (tgt := 4) hx hb dX1_owedBy_27 (by decide) ?_
      exact ih x3 x4 _ _ _ _ _ hf hC (lv_sub hl [2, 3, 1, 0] rfl) kk
set_option maxHeartbeats 4000000 in
set_option maxRecDepth 100000 in
theorem zc_X1_owedBy (l : Launch) (D : va_G) (cI cJ : ClassId) (tp : Nat) (q : Nat → Nat) (u : z_St) (a_1 : Int32) {r : Int32} (hf : zf_X1_owedBy u a_1 = some r) : z_Mi l yX1_owedBy wsX1_owedBy zr_X1_owedBy (zx_W cI q) (zx_G tp) D cI cJ [.ref (q 1), .int a_1] u r u := by
  refine z_ofi (cc := cX1_owedBy) (maxL := 4) (ret := (some .int)) zx_Gok (by decide) rfl (Nat.le_of_ble_eq_true rfl) ?_
  intro A p e s m args below meth c ls E hr hlk hC hl
  have E : CallFix p m c cX1_owedBy 4 s args wsX1_owedBy RX1 := E
  have hx := E.1
  have hb := E.2.1
  have hml := E.2.2.1
  have hown := E.2.2.2.1
  have hts := E.2.2.2.2
  have hl : lv_has ls 4 [(0, .ref (q 1)), (1, .int a_1)] := hl
  unfold zf_X1_owedBy at hf
  refine lv_iconst (v := (0 : Int32)) hx hb dX1_owedBy_0 (by decide) ?_
  refine lv_istore_n (lv' := [(2, _), (0, _), (1, _)]) hx hb dX1_owedBy_1 rfl hl (by decide) rfl (fun ls hl => ?_)
  refine lv_iconst (v := (0 : Int32)) hx hb dX1_owedBy_2 (by decide) ?_
  refine lv_istore_n (lv' := [(3, _), (2, _), (0, _), (1, _)]) hx hb dX1_owedBy_3 rfl hl (by decide) rfl (fun ls hl => ?_)
  obtain ⟨y1, y2, py1, hf⟩ := z_bd2_s hf
  refine zl_X1_owedBy_4 E a_1 u 5000 (0 : Int32) (0 : Int32) _ _ _ _ _ py1 hC (lv_sub hl [2, 3, 1, 0] rfl) (fun H locs ls hC hl => ?_)
  refine lv_iload_n hx hb dX1_owedBy_30 rfl (lv_at hl 2 rfl) ?_
  exact z_reti hx hb hr hlk hC (Option.some.inj hf) rfl dX1_owedBy_31
abbrev zr_X1_netOf : Room := { frames := 1, cells := 0, slots := 0, locals := 24 }
theorem zd_X1_netOf : yX1_netOf.cls ≠ "java/lang/invoke/MethodHandle" ∧ yX1_netOf.cls ≠ "java/lang/invoke/VarHandle" ∧ (parseMethodDescriptor yX1_netOf.desc).map (fun d => d.parameters.length) = some 1 := by decide +kernel
theorem zi_X1_netOf : ∀ w ∈ wsX10, w ∈ wsX1_netOf := fun _ h => List.mem_cons_of_mem _ (List.mem_append_right _ h)
set_option maxHeartbeats 4000000 in
set_option maxRecDepth 100000 in
theorem zc_X1_netOf (l : Launch) (D : va_G) (cI cJ : ClassId) (tp : Nat) (q : Nat → Nat) (u : z_St) (a_1 : Int32) {r : Int32} (hf : zf_X1_netOf u a_1 = some r) : z_Mi l yX1_netOf wsX1_netOf zr_X1_netOf (zx_W cI q) (zx_G tp) D cI cJ [.ref (q 1), .int a_1] u r u := by
  refine z_ofi (cc := cX1_netOf) (maxL := 2) (ret := (some .int)) zx_Gok (by decide) rfl (Nat.le_of_ble_eq_true rfl) ?_
  intro A p e s m args below meth c ls E hr hlk hC hl
  have E : CallFix p m c cX1_netOf 2 s args wsX1_netOf RX1 := E
  have hx := E.1
  have hb := E.2.1
  have hml := E.2.2.1
  have hown := E.2.2.2.1
  have hts := E.2.2.2.2
  have hl : lv_has ls 2 [(0, .ref (q 1)), (1, .int a_1)] := hl
  unfold zf_X1_netOf at hf
  refine lv_aload_n hx hb dX1_netOf_0 rfl (lv_at hl 0 rfl) ?_
  refine lv_iload_n hx hb dX1_netOf_1 rfl (lv_at hl 1 rfl) ?_
  refine lv_sipush (v := (255 : Int32)) hx hb dX1_netOf_2 (by decide) ?_
  obtain ⟨r1, pr1, hf⟩ := z_bd_s hf
  refine z_calli hC (z_runV (rest := []) zx_Gok hC E (zc_X1_owedTo l D cI cJ tp q u a_1 (255 : Int32) pr1 _) (cwV 2 hts gX1_netOf_X1_owedTo rfl rfl rfl ⟨rfl, zd_X1_owedTo⟩ ⟨Nat.le_of_ble_eq_true rfl, Nat.le_of_ble_eq_true rfl⟩) (zx_rcX1 hC) rfl hl.1 rfl (Nat.le_of_ble_eq_true rfl) dX1_netOf_5 ⟨Nat.zero_le _, Nat.zero_le _⟩) (fun H locs hC => ?_)
  refine lv_aload_n hx hb dX1_netOf_8 rfl (lv_at hl 0 rfl) ?_
  refine lv_iload_n hx hb dX1_netOf_9 rfl (lv_at hl 1 rfl) ?_
  obtain ⟨r2, pr2, hf⟩ := z_bd_s hf
  refine z_calli hC (z_runV (rest := [_]) zx_Gok hC E (zc_X1_owedBy l D cI cJ tp q u a_1 pr2 _) (cwV 1 hts gX1_netOf_X1_owedBy rfl rfl rfl ⟨rfl, zd_X1_owedBy⟩ ⟨Nat.le_of_ble_eq_true rfl, Nat.le_of_ble_eq_true rfl⟩) (zx_rcX1 hC) rfl hl.1 rfl (Nat.le_of_ble_eq_true rfl) dX1_netOf_10 ⟨Nat.zero_le _, Nat.zero_le _⟩) (fun H locs hC => ?_)
  refine lv_isub hx hb dX1_netOf_13 ?_
  exact z_reti hx hb hr hlk hC (Option.some.inj hf) rfl dX1_netOf_14
abbrev zr_X1_fallingNext : Room := { frames := 1, cells := 0, slots := 0, locals := 24 }
theorem zd_X1_fallingNext : yX1_fallingNext.cls ≠ "java/lang/invoke/MethodHandle" ∧ yX1_fallingNext.cls ≠ "java/lang/invoke/VarHandle" ∧ (parseMethodDescriptor yX1_fallingNext.desc).map (fun d => d.parameters.length) = some 2 := by decide +kernel
theorem zi_X1_fallingNext : ∀ w ∈ wsX10, w ∈ wsX1_fallingNext := fun _ h => List.mem_cons_of_mem _ (List.mem_append_right _ h)
set_option maxHeartbeats 4000000 in
set_option maxRecDepth 100000 in
theorem zl_X1_fallingNext_5 (E : CallFix p m c cX1_fallingNext 6 s args wsX1_fallingNext RX1) (a_1 : Int32) (a_2 : Int32) (u : z_St) : ∀ (n : Nat) (x_3 : Int32) (x_4 : Int32) (H : Heap) (locs : List Loc) (ls : Array Slot) (o_3 : Int32) (o_4 : Int32), zf_X1_fallingNext_5 a_1 a_2 u n x_3 x_4 = some (o_3, o_4) → z_C (zx_W cI q) (zx_G tp) D cI cJ A s u H locs → lv_has ls 6 [(0, .ref (q 1)), (1, .int a_1), (2, .int a_2), (3, .int x_3), (4, .int x_4)] → (∀ (H : Heap) (locs : List Loc) (ls : Array Slot), z_C (zx_W cI q) (zx_G tp) D cI cJ A s u H locs → lv_has ls 6 [(0, .ref (q 1)), (1, .int a_1), (2, .int a_2), (3, .int o_3), (4, .int o_4)] → W p l e zr_X1_fallingNext s m args below meth c H locs 0 0 Q (F0 m 66 ls [])) → W p l e zr_X1_fallingNext s m args below meth c H locs 0 0 Q (F0 m 5 ls []) := by
  have hx := E.1
  have hb := E.2.1
  have hml := E.2.2.1
  have hown := E.2.2.2.1
  have hts := E.2.2.2.2
  intro n
  induction n with
  | zero =>
    intro x_3 x_4 H locs ls o_3 o_4 hf
    rw [zf_X1_fallingNext_5.eq_1] at hf
    cases hf
  | succ n ih =>
    intro x_3 x_4 H locs ls o_3 o_4 hf hC hl kk
    rw [zf_X1_fallingNext_5.eq_2] at hf
    refine lv_iload hx hb dX1_fallingNext_5 (lv_at hl 4 rfl) ?_
    refine lv_bipush (v := (8 : Int32)) hx hb dX1_fallingNext_7 (by decide) ?_
    refine lv_icmp_ge (tgt := 66) hx hb dX1_fallingNext_9 (by decide) (fun c1 => ?_) (fun c1 => ?_)
    · have hf := z_t hf c1
      cases hf
      exact kk _ _ _ hC (lv_sub hl [0, 1, 2, 3, 4] rfl)
    · have hf := z_f hf c1
      refine lv_iload_n hx hb dX1_fallingNext_12 rfl (lv_at hl 1 rfl) ?_
      refine lv_iload hx hb dX1_fallingNext_13 (lv_at hl 4 rfl) ?_
      refine lv_ishr hx hb dX1_fallingNext_15 ?_
      refine lv_iconst (v := (1 : Int32)) hx hb dX1_fallingNext_16 (by decide) ?_
      refine lv_iand hx hb dX1_fallingNext_17 ?_
      refine lv_if_ne (tgt := 25) hx hb dX1_fallingNext_18 (by decide) (fun c2 => ?_) (fun c2 => ?_)
      · have hf := z_f hf c2
        refine lv_iconst (v := (0 : Int32)) hx hb dX1_fallingNext_25 (by decide) ?_
        refine lv_istore (lv' := [(5, _), (0, _), (1, _), (2, _), (3, _), (4, _)]) hx hb dX1_fallingNext_26 hl (by decide) rfl (fun ls hl => ?_)
        refine lv_iload hx hb dX1_fallingNext_28 (lv_at hl 0 rfl) ?_
        refine lv_if_eq (tgt := 60) hx hb dX1_fallingNext_30 (by decide) (fun _ => ?_) (fun c => absurd (by decide) c)
        obtain ⟨x3, ex3⟩ : ∃ z : Int32, z = (x_4 + (1 : Int32)) := ⟨_, rfl⟩
        have hf := z_nm_s hf ex3
        refine lv_iinc (v := x3) (lv' := [(4, _), (5, _), (0, _), (1, _), (2, _), (3, _)]) hx hb dX1_fallingNext_60 hl (k := 5) rfl (by rw [ex3]; rfl) (by decide) rfl (fun ls hl => ?_)
        refine lv_goto (tgt := 5) hx hb dX1_fallingNext_63 (by decide) ?_
        exact ih x_3 x3 _ _ _ _ _ hf hC (lv_sub hl [2, 3, 4, 5, 0] rfl) kk
      · have hf := z_t hf c2
        refine lv_iconst (v := (1 : Int32)) hx hb dX1_fallingNext_21 (by decide) ?_
        refine lv_goto (tgt := 26) hx hb dX1_fallingNext_22 (by decide) ?_
        refine lv_istore (lv' := [(5, _), (0, _), (1, _), (2, _), (3, _), (4, _)]) hx hb dX1_fallingNext_26 hl (by decide) rfl (fun ls hl => ?_)
        refine lv_iload hx hb dX1_fallingNext_28 (lv_at hl 0 rfl) ?_
        refine lv_if_eq (tgt := 60) hx hb dX1_fallingNext_30 (by decide) (fun c => absurd c (by decide)) (fun _ => ?_)
        refine lv_iload_n hx hb dX1_fallingNext_33 rfl (lv_at hl 3 rfl) ?_
        refine lv_aload_n hx hb dX1_fallingNext_34 rfl (lv_at hl 1 rfl) ?_
        refine lv_iload hx hb dX1_fallingNext_35 (lv_at hl 5 rfl) ?_
        refine lv_iload_n hx hb dX1_fallingNext_37 rfl (lv_at hl 2 rfl) ?_
        refine lv_iconst (v := (-1 : Int32)) hx hb dX1_fallingNext_38 (by decide) ?_
        refine lv_ixor hx hb dX1_fallingNext_39 ?_
        obtain ⟨r4, pr4, hf⟩ := z_bd_s hf
        refine z_calli hC (z_runV (rest := [_]) zx_Gok hC E (zc_X1_owedTo l D cI cJ tp q u x_4 (a_1 ^^^ (-1 : Int32)) pr4 _) (cwV 2 hts gX1_fallingNext_X1_owedTo rfl rfl rfl ⟨rfl, zd_X1_owedTo⟩ ⟨Nat.le_of_ble_eq_true rfl, Nat.le_of_ble_eq_true rfl⟩) (zx_rcX1 hC) rfl hl.1 rfl (Nat.le_of_ble_eq_true rfl) dX1_fallingNext_40 ⟨Nat.zero_le _, Nat.zero_le _⟩) (fun H locs hC => ?_)
        refine lv_iadd hx hb dX1_fallingNext_43 ?_
        refine lv_aload_n hx hb dX1_fallingNext_44 rfl (lv_at hl 1 rfl) ?_
        refine lv_iload hx hb dX1_fallingNext_45 (lv_at hl 5 rfl) ?_
        obtain ⟨r5, pr5, hf⟩ := z_bd_s hf
        refine z_calli hC (z_runV (rest := [_]) zx_Gok hC E (zc_X1_owedBy l D cI cJ tp q u x_4 pr5 _) (cwV 1 hts gX1_fallingNext_X1_owedBy rfl rfl rfl ⟨rfl, zd_X1_owedBy⟩ ⟨Nat.le_of_ble_eq_true rfl, Nat.le_of_ble_eq_true rfl⟩) (zx_rcX1 hC) rfl hl.1 rfl (Nat.le_of_ble_eq_true rfl) dX1_fallingNext_47 ⟨Nat.zero_le _, Nat.zero_le _⟩) (fun H locs hC => ?_)
        refine lv_icmp_ge (tgt := 60) hx hb dX1_fallingNext_50 (by decide) (fun c6 => ?_) (fun c6 => ?_)
        · have hf := z_t hf c6
          obtain ⟨x7, ex7⟩ : ∃ z : Int32, z = (x_4 + (1 : Int32)) := ⟨_, rfl⟩
          have hf := z_nm_s hf ex7
          refine lv_iinc (v := x7) (lv' := [(4, _), (5, _), (0, _), (1, _), (2, _), (3, _)]) hx hb dX1_fallingNext_60 hl (k := 5) rfl (by rw [ex7]; rfl) (by decide) rfl (fun ls hl => ?_)
          refine lv_goto (tgt := 5) hx hb dX1_fallingNext_63 (by decide) ?_
          exact ih x_3 x7 _ _ _ _ _ hf hC (lv_sub hl [2, 3, 4, 5, 0] rfl) kk
        · have hf := z_f hf c6
          refine lv_iload_n hx hb dX1_fallingNext_53 rfl (lv_at hl 4 rfl) ?_
          refine lv_iconst (v := (1 : Int32)) hx hb dX1_fallingNext_54 (by decide) ?_
          refine lv_iload hx hb dX1_fallingNext_55 (lv_at hl 5 rfl) ?_
          refine lv_ishl hx hb dX1_fallingNext_57 ?_
          refine lv_ior hx hb dX1_fallingNext_58 ?_
          refine lv_topi (fun x8 ex8 => ?_)
          have hf := z_nm_s hf ex8
          refine lv_istore_n (lv' := [(3, _), (5, _), (0, _), (1, _), (2, _), (4, _)]) hx hb dX1_fallingNext_59 rfl hl (by decide) rfl (fun ls hl => ?_)
          obtain ⟨x9, ex9⟩ : ∃ z : Int32, z = (x_4 + (1 : Int32)) := ⟨_, rfl⟩
          have hf := z_nm_s hf ex9
          refine lv_iinc (v := x9) (lv' := [(4, _), (3, _), (5, _), (0, _), (1, _), (2, _)]) hx hb dX1_fallingNext_60 hl (k := 5) rfl (by rw [ex9]; rfl) (by decide) rfl (fun ls hl => ?_)
          refine lv_goto (tgt := 5) hx hb dX1_fallingNext_63 (by decide) ?_
          exact ih x8 x9 _ _ _ _ _ hf hC (lv_sub hl [3, 4, 5, 1, 0] rfl) kk
set_option maxHeartbeats 4000000 in
set_option maxRecDepth 100000 in
theorem zc_X1_fallingNext (l : Launch) (D : va_G) (cI cJ : ClassId) (tp : Nat) (q : Nat → Nat) (u : z_St) (a_1 : Int32) (a_2 : Int32) {r : Int32} (hf : zf_X1_fallingNext u a_1 a_2 = some r) : z_Mi l yX1_fallingNext wsX1_fallingNext zr_X1_fallingNext (zx_W cI q) (zx_G tp) D cI cJ [.ref (q 1), .int a_1, .int a_2] u r u := by
  refine z_ofi (cc := cX1_fallingNext) (maxL := 6) (ret := (some .int)) zx_Gok (by decide) rfl (Nat.le_of_ble_eq_true rfl) ?_
  intro A p e s m args below meth c ls E hr hlk hC hl
  have E : CallFix p m c cX1_fallingNext 6 s args wsX1_fallingNext RX1 := E
  have hx := E.1
  have hb := E.2.1
  have hml := E.2.2.1
  have hown := E.2.2.2.1
  have hts := E.2.2.2.2
  have hl : lv_has ls 6 [(0, .ref (q 1)), (1, .int a_1), (2, .int a_2)] := hl
  unfold zf_X1_fallingNext at hf
  refine lv_iconst (v := (0 : Int32)) hx hb dX1_fallingNext_0 (by decide) ?_
  refine lv_istore_n (lv' := [(3, _), (0, _), (1, _), (2, _)]) hx hb dX1_fallingNext_1 rfl hl (by decide) rfl (fun ls hl => ?_)
  refine lv_iconst (v := (0 : Int32)) hx hb dX1_fallingNext_2 (by decide) ?_
  refine lv_istore (lv' := [(4, _), (3, _), (0, _), (1, _), (2, _)]) hx hb dX1_fallingNext_3 hl (by decide) rfl (fun ls hl => ?_)
  obtain ⟨y1, y2, py1, hf⟩ := z_bd2_s hf
  refine zl_X1_fallingNext_5 E a_1 a_2 u 5000 (0 : Int32) (0 : Int32) _ _ _ _ _ py1 hC (lv_sub hl [2, 3, 4, 1, 0] rfl) (fun H locs ls hC hl => ?_)
  refine lv_iload_n hx hb dX1_fallingNext_66 rfl (lv_at hl 3 rfl) ?_
  exact z_reti hx hb hr hlk hC (Option.some.inj hf) rfl dX1_fallingNext_67
abbrev zr_X1_fallFrom : Room := { frames := 2, cells := 0, slots := 0, locals := 49 }
theorem zd_X1_fallFrom : yX1_fallFrom.cls ≠ "java/lang/invoke/MethodHandle" ∧ yX1_fallFrom.cls ≠ "java/lang/invoke/VarHandle" ∧ (parseMethodDescriptor yX1_fallFrom.desc).map (fun d => d.parameters.length) = some 2 := by decide +kernel
theorem zi_X1_fallFrom : ∀ w ∈ wsX10, w ∈ wsX1_fallFrom := fun _ h => List.mem_cons_of_mem _ (List.mem_append_right _ h)
set_option maxHeartbeats 4000000 in
set_option maxRecDepth 100000 in
theorem zl_X1_fallFrom_7 (E : CallFix p m c cX1_fallFrom 5 s args wsX1_fallFrom RX1) (a_2 : Int32) (u : z_St) : ∀ (n : Nat) (x_3 : Int32) (x_4 : Int32) (H : Heap) (locs : List Loc) (ls : Array Slot) (o_3 : Int32) (o_4 : Int32), zf_X1_fallFrom_7 a_2 u n x_3 x_4 = some (o_3, o_4) → z_C (zx_W cI q) (zx_G tp) D cI cJ A s u H locs → lv_has ls 5 [(0, .ref (q 1)), (2, .int a_2), (3, .int x_3), (4, .int x_4)] → (∀ (H : Heap) (locs : List Loc) (ls : Array Slot), z_C (zx_W cI q) (zx_G tp) D cI cJ A s u H locs → lv_has ls 5 [(0, .ref (q 1)), (2, .int a_2), (3, .int o_3), (4, .int o_4)] → W p l e zr_X1_fallFrom s m args below meth c H locs 0 0 Q (F0 m 29 ls [])) → W p l e zr_X1_fallFrom s m args below meth c H locs 0 0 Q (F0 m 7 ls []) := by
  have hx := E.1
  have hb := E.2.1
  have hml := E.2.2.1
  have hown := E.2.2.2.1
  have hts := E.2.2.2.2
  intro n
  induction n with
  | zero =>
    intro x_3 x_4 H locs ls o_3 o_4 hf
    rw [zf_X1_fallFrom_7.eq_1] at hf
    cases hf
  | succ n ih =>
    intro x_3 x_4 H locs ls o_3 o_4 hf hC hl kk
    rw [zf_X1_fallFrom_7.eq_2] at hf
    refine lv_iload hx hb dX1_fallFrom_7 (lv_at hl 3 rfl) ?_
    refine lv_bipush (v := (8 : Int32)) hx hb dX1_fallFrom_9 (by decide) ?_
    refine lv_icmp_ge (tgt := 29) hx hb dX1_fallFrom_11 (by decide) (fun c1 => ?_) (fun c1 => ?_)
    · have hf := z_t hf c1
      cases hf
      exact kk _ _ _ hC (lv_sub hl [0, 1, 2, 3] rfl)
    · have hf := z_f hf c1
      refine lv_iload_n hx hb dX1_fallFrom_14 rfl (lv_at hl 2 rfl) ?_
      refine lv_aload_n hx hb dX1_fallFrom_15 rfl (lv_at hl 0 rfl) ?_
      refine lv_iload_n hx hb dX1_fallFrom_16 rfl (lv_at hl 2 rfl) ?_
      refine lv_iload_n hx hb dX1_fallFrom_17 rfl (lv_at hl 1 rfl) ?_
      obtain ⟨r2, pr2, hf⟩ := z_bd_s hf
      refine z_calli hC (z_runV (rest := [_]) zx_Gok hC E (zc_X1_fallingNext l D cI cJ tp q u x_3 a_2 pr2 _) (cwV 2 hts gX1_fallFrom_X1_fallingNext rfl rfl rfl ⟨rfl, zd_X1_fallingNext⟩ ⟨Nat.le_of_ble_eq_true rfl, Nat.le_of_ble_eq_true rfl⟩) (zx_rcX1 hC) rfl hl.1 rfl (Nat.le_of_ble_eq_true rfl) dX1_fallFrom_18 ⟨Nat.zero_le _, Nat.zero_le _⟩) (fun H locs hC => ?_)
      refine lv_ior hx hb dX1_fallFrom_21 ?_
      refine lv_topi (fun x3 ex3 => ?_)
      have hf := z_nm_s hf ex3
      refine lv_istore_n (lv' := [(3, _), (0, _), (2, _), (4, _)]) hx hb dX1_fallFrom_22 rfl hl (by decide) rfl (fun ls hl => ?_)
      obtain ⟨x4, ex4⟩ : ∃ z : Int32, z = (x_4 + (1 : Int32)) := ⟨_, rfl⟩
      have hf := z_nm_s hf ex4
      refine lv_iinc (v := x4) (lv' := [(4, _), (3, _), (0, _), (2, _)]) hx hb dX1_fallFrom_23 hl (k := 3) rfl (by rw [ex4]; rfl) (by decide) rfl (fun ls hl => ?_)
      refine lv_goto (tgt := 7) hx hb dX1_fallFrom_26 (by decide) ?_
      exact ih x3 x4 _ _ _ _ _ hf hC (lv_sub hl [2, 3, 1, 0] rfl) kk
set_option maxHeartbeats 4000000 in
set_option maxRecDepth 100000 in
theorem zc_X1_fallFrom (l : Launch) (D : va_G) (cI cJ : ClassId) (tp : Nat) (q : Nat → Nat) (u : z_St) (a_1 : Int32) (a_2 : Int32) {r : Int32} (hf : zf_X1_fallFrom u a_1 a_2 = some r) : z_Mi l yX1_fallFrom wsX1_fallFrom zr_X1_fallFrom (zx_W cI q) (zx_G tp) D cI cJ [.ref (q 1), .int a_1, .int a_2] u r u := by
  refine z_ofi (cc := cX1_fallFrom) (maxL := 5) (ret := (some .int)) zx_Gok (by decide) rfl (Nat.le_of_ble_eq_true rfl) ?_
  intro A p e s m args below meth c ls E hr hlk hC hl
  have E : CallFix p m c cX1_fallFrom 5 s args wsX1_fallFrom RX1 := E
  have hx := E.1
  have hb := E.2.1
  have hml := E.2.2.1
  have hown := E.2.2.2.1
  have hts := E.2.2.2.2
  have hl : lv_has ls 5 [(0, .ref (q 1)), (1, .int a_1), (2, .int a_2)] := hl
  unfold zf_X1_fallFrom at hf
  refine lv_iconst (v := (1 : Int32)) hx hb dX1_fallFrom_0 (by decide) ?_
  refine lv_iload_n hx hb dX1_fallFrom_1 rfl (lv_at hl 1 rfl) ?_
  refine lv_ishl hx hb dX1_fallFrom_2 ?_
  refine lv_topi (fun x1 ex1 => ?_)
  have hf := z_nm_s hf ex1
  refine lv_istore_n (lv' := [(3, _), (0, _), (1, _), (2, _)]) hx hb dX1_fallFrom_3 rfl hl (by decide) rfl (fun ls hl => ?_)
  refine lv_iconst (v := (0 : Int32)) hx hb dX1_fallFrom_4 (by decide) ?_
  refine lv_istore (lv' := [(4, _), (3, _), (0, _), (1, _), (2, _)]) hx hb dX1_fallFrom_5 hl (by decide) rfl (fun ls hl => ?_)
  obtain ⟨y2, y3, py2, hf⟩ := z_bd2_s hf
  refine zl_X1_fallFrom_7 E a_2 u 5000 x1 (0 : Int32) _ _ _ _ _ py2 hC (lv_sub hl [2, 4, 1, 0] rfl) (fun H locs ls hC hl => ?_)
  refine lv_iload_n hx hb dX1_fallFrom_29 rfl (lv_at hl 2 rfl) ?_
  exact z_reti hx hb hr hlk hC (Option.some.inj hf) rfl dX1_fallFrom_30
end
