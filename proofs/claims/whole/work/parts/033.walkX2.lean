section
variable {p : Program} {l : Launch} {e : Env} {R : Room} {s : State} {m : MethodId} {args : Array Value} {below : List Frame} {meth : Method} {c : Code} {H : Heap} {locs : List Loc} {cells slots : Nat} {Q : State → Prop} {cc : ByteArray} {pc : Nat} {ls : Array Slot} {rest : List Value}
variable {D : va_G} {cI cJ : ClassId} {tp : Nat} {q : Nat → Nat} {A : Nat → Prop} {u : z_St} {Ts : List Cond}
abbrev zr_X2_setYears : Room := { frames := 0, cells := 0, slots := 0, locals := 0 }
theorem zd_X2_setYears : yX2_setYears.cls ≠ "java/lang/invoke/MethodHandle" ∧ yX2_setYears.cls ≠ "java/lang/invoke/VarHandle" ∧ (parseMethodDescriptor yX2_setYears.desc).map (fun d => d.parameters.length) = some 3 := by decide +kernel
theorem zi_X2_setYears : ∀ w ∈ wsX20, w ∈ wsX2_setYears := fun _ h => List.mem_cons_of_mem _ (List.mem_append_right _ h)
set_option maxHeartbeats 4000000 in
set_option maxRecDepth 100000 in
theorem zc_X2_setYears (l : Launch) (D : va_G) (cI cJ : ClassId) (tp : Nat) (q : Nat → Nat) (u : z_St) (a_1 : Int32) (a_2 : Int32) (a_3 : Int32) {u2 : z_St} (hf : zf_X2_setYears u a_1 a_2 a_3 = some u2) : z_Mv l yX2_setYears wsX2_setYears zr_X2_setYears (zx_W cI q) (zx_G tp) D cI cJ [.ref (q 2), .int a_1, .int a_2, .int a_3] u u2 := by
  refine z_ofv (cc := cX2_setYears) (maxL := 4) (ret := none) zx_Gok (by decide) rfl (Nat.le_of_ble_eq_true rfl) ?_
  intro A p e s m args below meth c ls E hr hlk hC hl
  have E : CallFix p m c cX2_setYears 4 s args wsX2_setYears RX2 := E
  have hx := E.1
  have hb := E.2.1
  have hml := E.2.2.1
  have hown := E.2.2.2.1
  have hts := E.2.2.2.2
  have hl : lv_has ls 4 [(0, .ref (q 2)), (1, .int a_1), (2, .int a_2), (3, .int a_3)] := hl
  unfold zf_X2_setYears at hf
  have kf9 := hts (.fieldLink RX2 9 "DawnFair$Pieces" "from" "[I") (by decide +kernel)
  have kf15 := hts (.fieldLink RX2 15 "DawnFair$Pieces" "to" "[I") (by decide +kernel)
  refine lv_aload_n hx hb dX2_setYears_0 rfl (lv_at hl 0 rfl) ?_
  refine zx_gX2_from hx hb hts zi_X2_setYears hown hC kf9 dX2_setYears_1 ?_
  refine lv_iload_n hx hb dX2_setYears_4 rfl (lv_at hl 1 rfl) ?_
  refine lv_iload_n hx hb dX2_setYears_5 rfl (lv_at hl 2 rfl) ?_
  obtain ⟨h1, hf⟩ := z_gd_s hf
  refine zx_sX2_from hx hb hC (z_in h1) dX2_setYears_6 (fun u2 eu2 H locs hC => ?_)
  have hf := z_nm_s hf eu2
  refine lv_aload_n hx hb dX2_setYears_7 rfl (lv_at hl 0 rfl) ?_
  refine zx_gX2_to hx hb hts zi_X2_setYears hown hC kf15 dX2_setYears_8 ?_
  refine lv_iload_n hx hb dX2_setYears_11 rfl (lv_at hl 1 rfl) ?_
  refine lv_iload_n hx hb dX2_setYears_12 rfl (lv_at hl 3 rfl) ?_
  obtain ⟨h3, hf⟩ := z_gd_s hf
  refine zx_sX2_to hx hb hC (z_in h3) dX2_setYears_13 (fun u4 eu4 H locs hC => ?_)
  have hf := z_nm_s hf eu4
  exact z_retv hx hb hr hlk hC (Option.some.inj hf) dX2_setYears_14
abbrev zr_X2_addThing : Room := { frames := 0, cells := 0, slots := 0, locals := 0 }
theorem zd_X2_addThing : yX2_addThing.cls ≠ "java/lang/invoke/MethodHandle" ∧ yX2_addThing.cls ≠ "java/lang/invoke/VarHandle" ∧ (parseMethodDescriptor yX2_addThing.desc).map (fun d => d.parameters.length) = some 1 := by decide +kernel
theorem zi_X2_addThing : ∀ w ∈ wsX20, w ∈ wsX2_addThing := fun _ h => List.mem_cons_of_mem _ (List.mem_append_right _ h)
set_option maxHeartbeats 4000000 in
set_option maxRecDepth 100000 in
theorem zc_X2_addThing (l : Launch) (D : va_G) (cI cJ : ClassId) (tp : Nat) (q : Nat → Nat) (u : z_St) (a_1 : Int32) {r : Int32} {u2 : z_St} (hf : zf_X2_addThing u a_1 = some (r, u2)) : z_Mi l yX2_addThing wsX2_addThing zr_X2_addThing (zx_W cI q) (zx_G tp) D cI cJ [.ref (q 2), .int a_1] u r u2 := by
  refine z_ofi (cc := cX2_addThing) (maxL := 2) (ret := (some .int)) zx_Gok (by decide) rfl (Nat.le_of_ble_eq_true rfl) ?_
  intro A p e s m args below meth c ls E hr hlk hC hl
  have E : CallFix p m c cX2_addThing 2 s args wsX2_addThing RX2 := E
  have hx := E.1
  have hb := E.2.1
  have hml := E.2.2.1
  have hown := E.2.2.2.1
  have hts := E.2.2.2.2
  have hl : lv_has ls 2 [(0, .ref (q 2)), (1, .int a_1)] := hl
  unfold zf_X2_addThing at hf
  have kf24 := hts (.fieldLink RX2 24 "DawnFair$Pieces" "things" "I") (by decide +kernel)
  have kf18 := hts (.fieldLink RX2 18 "DawnFair$Pieces" "parts" "[I") (by decide +kernel)
  refine lv_aload_n hx hb dX2_addThing_0 rfl (lv_at hl 0 rfl) ?_
  refine zx_gX2_things hx hb hts zi_X2_addThing hown hC kf24 dX2_addThing_1 ?_
  refine lv_bipush (v := (12 : Int32)) hx hb dX2_addThing_4 (by decide) ?_
  refine lv_icmp_lt (tgt := 12) hx hb dX2_addThing_6 (by decide) (fun c1 => ?_) (fun c1 => ?_)
  · have hf := z_t hf c1
    refine lv_aload_n hx hb dX2_addThing_12 rfl (lv_at hl 0 rfl) ?_
    refine zx_gX2_parts hx hb hts zi_X2_addThing hown hC kf18 dX2_addThing_13 ?_
    refine lv_aload_n hx hb dX2_addThing_16 rfl (lv_at hl 0 rfl) ?_
    refine zx_gX2_things hx hb hts zi_X2_addThing hown hC kf24 dX2_addThing_17 ?_
    refine lv_iload_n hx hb dX2_addThing_20 rfl (lv_at hl 1 rfl) ?_
    obtain ⟨h2, hf⟩ := z_gd_s hf
    refine zx_sX2_parts hx hb hC (z_in h2) dX2_addThing_21 (fun u3 eu3 H locs hC => ?_)
    have hf := z_nm_s hf eu3
    refine lv_aload_n hx hb dX2_addThing_22 rfl (lv_at hl 0 rfl) ?_
    refine lv_dup hx hb dX2_addThing_23 rfl ?_
    refine zx_gX2_things hx hb hts zi_X2_addThing hown hC kf24 dX2_addThing_24 ?_
    refine lv_iconst (v := (1 : Int32)) hx hb dX2_addThing_27 (by decide) ?_
    refine lv_iadd hx hb dX2_addThing_28 ?_
    refine zx_pX2_things hx hb hts zi_X2_addThing hown hC kf24 dX2_addThing_29 (fun u4 eu4 H locs hC => ?_)
    have hf := z_nm_s hf eu4
    refine lv_aload_n hx hb dX2_addThing_32 rfl (lv_at hl 0 rfl) ?_
    refine zx_gX2_things hx hb hts zi_X2_addThing hown hC kf24 dX2_addThing_33 ?_
    refine lv_iconst (v := (1 : Int32)) hx hb dX2_addThing_36 (by decide) ?_
    refine lv_isub hx hb dX2_addThing_37 ?_
    exact z_reti hx hb hr hlk hC (Prod.mk.inj (Option.some.inj hf)).1 (Prod.mk.inj (Option.some.inj hf)).2 dX2_addThing_38
  · have hf := z_f hf c1
    refine lv_bipush (v := (-4 : Int32)) hx hb dX2_addThing_9 (by decide) ?_
    exact z_reti hx hb hr hlk hC (Prod.mk.inj (Option.some.inj hf)).1 (Prod.mk.inj (Option.some.inj hf)).2 dX2_addThing_11
abbrev zr_X2_thingCount : Room := { frames := 0, cells := 0, slots := 0, locals := 0 }
theorem zd_X2_thingCount : yX2_thingCount.cls ≠ "java/lang/invoke/MethodHandle" ∧ yX2_thingCount.cls ≠ "java/lang/invoke/VarHandle" ∧ (parseMethodDescriptor yX2_thingCount.desc).map (fun d => d.parameters.length) = some 0 := by decide +kernel
theorem zi_X2_thingCount : ∀ w ∈ wsX20, w ∈ wsX2_thingCount := fun _ h => List.mem_cons_of_mem _ (List.mem_append_right _ h)
set_option maxHeartbeats 4000000 in
set_option maxRecDepth 100000 in
theorem zc_X2_thingCount (l : Launch) (D : va_G) (cI cJ : ClassId) (tp : Nat) (q : Nat → Nat) (u : z_St) {r : Int32} (hf : zf_X2_thingCount u = r) : z_Mi l yX2_thingCount wsX2_thingCount zr_X2_thingCount (zx_W cI q) (zx_G tp) D cI cJ [.ref (q 2)] u r u := by
  refine z_ofi (cc := cX2_thingCount) (maxL := 1) (ret := (some .int)) zx_Gok (by decide) rfl (Nat.le_of_ble_eq_true rfl) ?_
  intro A p e s m args below meth c ls E hr hlk hC hl
  have E : CallFix p m c cX2_thingCount 1 s args wsX2_thingCount RX2 := E
  have hx := E.1
  have hb := E.2.1
  have hml := E.2.2.1
  have hown := E.2.2.2.1
  have hts := E.2.2.2.2
  have hl : lv_has ls 1 [(0, .ref (q 2))] := hl
  unfold zf_X2_thingCount at hf
  have kf24 := hts (.fieldLink RX2 24 "DawnFair$Pieces" "things" "I") (by decide +kernel)
  refine lv_aload_n hx hb dX2_thingCount_0 rfl (lv_at hl 0 rfl) ?_
  refine zx_gX2_things hx hb hts zi_X2_thingCount hown hC kf24 dX2_thingCount_1 ?_
  exact z_reti hx hb hr hlk hC hf rfl dX2_thingCount_4
abbrev zr_X2_hasThing : Room := { frames := 1, cells := 0, slots := 0, locals := 22 }
theorem zd_X2_hasThing : yX2_hasThing.cls ≠ "java/lang/invoke/MethodHandle" ∧ yX2_hasThing.cls ≠ "java/lang/invoke/VarHandle" ∧ (parseMethodDescriptor yX2_hasThing.desc).map (fun d => d.parameters.length) = some 1 := by decide +kernel
theorem zi_X2_hasThing : ∀ w ∈ wsX20, w ∈ wsX2_hasThing := fun _ h => List.mem_cons_of_mem _ (List.mem_append_right _ h)
set_option maxHeartbeats 4000000 in
set_option maxRecDepth 100000 in
theorem zc_X2_hasThing (l : Launch) (D : va_G) (cI cJ : ClassId) (tp : Nat) (q : Nat → Nat) (u : z_St) (a_1 : Int32) {r : Int32} (hf : zf_X2_hasThing u a_1 = r) : z_Mi l yX2_hasThing wsX2_hasThing zr_X2_hasThing (zx_W cI q) (zx_G tp) D cI cJ [.ref (q 2), .int a_1] u r u := by
  refine z_ofi (cc := cX2_hasThing) (maxL := 2) (ret := (some .boolean)) zx_Gok (by decide) rfl (Nat.le_of_ble_eq_true rfl) ?_
  intro A p e s m args below meth c ls E hr hlk hC hl
  have E : CallFix p m c cX2_hasThing 2 s args wsX2_hasThing RX2 := E
  have hx := E.1
  have hb := E.2.1
  have hml := E.2.2.1
  have hown := E.2.2.2.1
  have hts := E.2.2.2.2
  have hl : lv_has ls 2 [(0, .ref (q 2)), (1, .int a_1)] := hl
  unfold zf_X2_hasThing at hf
  have kf24 := hts (.fieldLink RX2 24 "DawnFair$Pieces" "things" "I") (by decide +kernel)
  have kiX5 := hts (.initialized RX5) (by decide +kernel)
  have ks34 := hts (.static yX5_within) (by decide +kernel)
  refine lv_iload_n hx hb dX2_hasThing_0 rfl (lv_at hl 1 rfl) ?_
  refine lv_iconst (v := (0 : Int32)) hx hb dX2_hasThing_1 (by decide) ?_
  refine lv_aload_n hx hb dX2_hasThing_2 rfl (lv_at hl 0 rfl) ?_
  refine zx_gX2_things hx hb hts zi_X2_hasThing hown hC kf24 dX2_hasThing_3 ?_
  refine lv_iconst (v := (1 : Int32)) hx hb dX2_hasThing_6 (by decide) ?_
  refine lv_isub hx hb dX2_hasThing_7 ?_
  refine z_calli hC (z_runSN (rest := []) zx_Gok hC E (zc_X5_within l D cI cJ tp q u a_1 (0 : Int32) ((z_rI u 9 0) - (1 : Int32)) rfl _) ⟨va_cnB 3 hts gX2_hasThing_X5_within_n34 rfl rfl rfl (zx_nst hC).2.1 kiX5 zd_X5_within ⟨Nat.le_of_ble_eq_true rfl, Nat.le_of_ble_eq_true rfl⟩, ks34, trivial⟩ rfl hl.1 rfl (Nat.le_of_ble_eq_true rfl) dX2_hasThing_8 ⟨Nat.zero_le _, Nat.zero_le _⟩) (fun H locs hC => ?_)
  exact z_retz hx hb hr hlk hC (zn_X5_within _ _ _) hf rfl dX2_hasThing_11
abbrev zr_X2_hasPart : Room := { frames := 2, cells := 0, slots := 0, locals := 43 }
theorem zd_X2_hasPart : yX2_hasPart.cls ≠ "java/lang/invoke/MethodHandle" ∧ yX2_hasPart.cls ≠ "java/lang/invoke/VarHandle" ∧ (parseMethodDescriptor yX2_hasPart.desc).map (fun d => d.parameters.length) = some 2 := by decide +kernel
theorem zi_X2_hasPart : ∀ w ∈ wsX20, w ∈ wsX2_hasPart := fun _ h => List.mem_cons_of_mem _ (List.mem_append_right _ h)
set_option maxHeartbeats 4000000 in
set_option maxRecDepth 100000 in
theorem zc_X2_hasPart (l : Launch) (D : va_G) (cI cJ : ClassId) (tp : Nat) (q : Nat → Nat) (u : z_St) (a_1 : Int32) (a_2 : Int32) {r : Int32} (hf : zf_X2_hasPart u a_1 a_2 = some r) : z_Mi l yX2_hasPart wsX2_hasPart zr_X2_hasPart (zx_W cI q) (zx_G tp) D cI cJ [.ref (q 2), .int a_1, .int a_2] u r u := by
  refine z_ofi (cc := cX2_hasPart) (maxL := 3) (ret := (some .boolean)) zx_Gok (by decide) rfl (Nat.le_of_ble_eq_true rfl) ?_
  intro A p e s m args below meth c ls E hr hlk hC hl
  have E : CallFix p m c cX2_hasPart 3 s args wsX2_hasPart RX2 := E
  have hx := E.1
  have hb := E.2.1
  have hml := E.2.2.1
  have hown := E.2.2.2.1
  have hts := E.2.2.2.2
  have hl : lv_has ls 3 [(0, .ref (q 2)), (1, .int a_1), (2, .int a_2)] := hl
  unfold zf_X2_hasPart at hf
  have kf18 := hts (.fieldLink RX2 18 "DawnFair$Pieces" "parts" "[I") (by decide +kernel)
  have kiX5 := hts (.initialized RX5) (by decide +kernel)
  have ks34 := hts (.static yX5_within) (by decide +kernel)
  refine lv_aload_n hx hb dX2_hasPart_0 rfl (lv_at hl 0 rfl) ?_
  refine lv_iload_n hx hb dX2_hasPart_1 rfl (lv_at hl 1 rfl) ?_
  refine z_calli hC (z_runV (rest := []) zx_Gok hC E (zc_X2_hasThing l D cI cJ tp q u a_1 rfl _) (cwV 1 hts gX2_hasPart_X2_hasThing rfl rfl rfl ⟨rfl, zd_X2_hasThing⟩ ⟨Nat.le_of_ble_eq_true rfl, Nat.le_of_ble_eq_true rfl⟩) (zx_rcX2 hC) rfl hl.1 rfl (Nat.le_of_ble_eq_true rfl) dX2_hasPart_2 ⟨Nat.zero_le _, Nat.zero_le _⟩) (fun H locs hC => ?_)
  refine lv_if_eq (tgt := 28) hx hb dX2_hasPart_5 (by decide) (fun c1 => ?_) (fun c1 => ?_)
  · have hf := z_t hf c1
    refine lv_iconst (v := (0 : Int32)) hx hb dX2_hasPart_28 (by decide) ?_
    exact z_retz hx hb hr hlk hC rfl (Option.some.inj hf) rfl dX2_hasPart_29
  · have hf := z_f hf c1
    refine lv_iload_n hx hb dX2_hasPart_8 rfl (lv_at hl 2 rfl) ?_
    refine lv_iconst (v := (0 : Int32)) hx hb dX2_hasPart_9 (by decide) ?_
    refine lv_aload_n hx hb dX2_hasPart_10 rfl (lv_at hl 0 rfl) ?_
    refine zx_gX2_parts hx hb hts zi_X2_hasPart hown hC kf18 dX2_hasPart_11 ?_
    refine lv_iload_n hx hb dX2_hasPart_14 rfl (lv_at hl 1 rfl) ?_
    obtain ⟨h2, hf⟩ := z_gd_s hf
    refine zx_aX2_parts hx hb hC (z_in h2) dX2_hasPart_15 ?_
    refine lv_iconst (v := (1 : Int32)) hx hb dX2_hasPart_16 (by decide) ?_
    refine lv_isub hx hb dX2_hasPart_17 ?_
    refine z_calli hC (z_runSN (rest := []) zx_Gok hC E (zc_X5_within l D cI cJ tp q u a_2 (0 : Int32) ((z_rI u 7 a_1.toNatClampNeg) - (1 : Int32)) rfl _) ⟨va_cnB 3 hts gX2_hasPart_X5_within_n34 rfl rfl rfl (zx_nst hC).2.1 kiX5 zd_X5_within ⟨Nat.le_of_ble_eq_true rfl, Nat.le_of_ble_eq_true rfl⟩, ks34, trivial⟩ rfl hl.1 rfl (Nat.le_of_ble_eq_true rfl) dX2_hasPart_18 ⟨Nat.zero_le _, Nat.zero_le _⟩) (fun H locs hC => ?_)
    refine lv_if_eq (tgt := 28) hx hb dX2_hasPart_21 (by decide) (fun c3 => ?_) (fun c3 => ?_)
    · have hf := z_t hf c3
      refine lv_iconst (v := (0 : Int32)) hx hb dX2_hasPart_28 (by decide) ?_
      exact z_retz hx hb hr hlk hC rfl (Option.some.inj hf) rfl dX2_hasPart_29
    · have hf := z_f hf c3
      refine lv_iconst (v := (1 : Int32)) hx hb dX2_hasPart_24 (by decide) ?_
      refine lv_goto (tgt := 29) hx hb dX2_hasPart_25 (by decide) ?_
      exact z_retz hx hb hr hlk hC rfl (Option.some.inj hf) rfl dX2_hasPart_29
abbrev zr_X2_worksOf : Room := { frames := 0, cells := 0, slots := 0, locals := 0 }
theorem zd_X2_worksOf : yX2_worksOf.cls ≠ "java/lang/invoke/MethodHandle" ∧ yX2_worksOf.cls ≠ "java/lang/invoke/VarHandle" ∧ (parseMethodDescriptor yX2_worksOf.desc).map (fun d => d.parameters.length) = some 2 := by decide +kernel
theorem zi_X2_worksOf : ∀ w ∈ wsX20, w ∈ wsX2_worksOf := fun _ h => List.mem_cons_of_mem _ (List.mem_append_right _ h)
set_option maxHeartbeats 4000000 in
set_option maxRecDepth 100000 in
theorem zc_X2_worksOf (l : Launch) (D : va_G) (cI cJ : ClassId) (tp : Nat) (q : Nat → Nat) (u : z_St) (a_1 : Int32) (a_2 : Int32) {r : Int32} (hf : zf_X2_worksOf u a_1 a_2 = some r) : z_Mi l yX2_worksOf wsX2_worksOf zr_X2_worksOf (zx_W cI q) (zx_G tp) D cI cJ [.ref (q 2), .int a_1, .int a_2] u r u := by
  refine z_ofi (cc := cX2_worksOf) (maxL := 3) (ret := (some .int)) zx_Gok (by decide) rfl (Nat.le_of_ble_eq_true rfl) ?_
  intro A p e s m args below meth c ls E hr hlk hC hl
  have E : CallFix p m c cX2_worksOf 3 s args wsX2_worksOf RX2 := E
  have hx := E.1
  have hb := E.2.1
  have hml := E.2.2.1
  have hown := E.2.2.2.1
  have hts := E.2.2.2.2
  have hl : lv_has ls 3 [(0, .ref (q 2)), (1, .int a_1), (2, .int a_2)] := hl
  unfold zf_X2_worksOf at hf
  have kf21 := hts (.fieldLink RX2 21 "DawnFair$Pieces" "works" "[I") (by decide +kernel)
  refine lv_aload_n hx hb dX2_worksOf_0 rfl (lv_at hl 0 rfl) ?_
  refine zx_gX2_works hx hb hts zi_X2_worksOf hown hC kf21 dX2_worksOf_1 ?_
  refine lv_iload_n hx hb dX2_worksOf_4 rfl (lv_at hl 1 rfl) ?_
  refine lv_iconst (v := (5 : Int32)) hx hb dX2_worksOf_5 (by decide) ?_
  refine lv_imul hx hb dX2_worksOf_6 ?_
  refine lv_iload_n hx hb dX2_worksOf_7 rfl (lv_at hl 2 rfl) ?_
  refine lv_iadd hx hb dX2_worksOf_8 ?_
  obtain ⟨h1, hf⟩ := z_gd_s hf
  refine zx_aX2_works hx hb hC (z_in h1) dX2_worksOf_9 ?_
  exact z_reti hx hb hr hlk hC (Option.some.inj hf) rfl dX2_worksOf_10
abbrev zr_X2_changeWorks : Room := { frames := 1, cells := 0, slots := 0, locals := 22 }
theorem zd_X2_changeWorks : yX2_changeWorks.cls ≠ "java/lang/invoke/MethodHandle" ∧ yX2_changeWorks.cls ≠ "java/lang/invoke/VarHandle" ∧ (parseMethodDescriptor yX2_changeWorks.desc).map (fun d => d.parameters.length) = some 3 := by decide +kernel
theorem zi_X2_changeWorks : ∀ w ∈ wsX20, w ∈ wsX2_changeWorks := fun _ h => List.mem_cons_of_mem _ (List.mem_append_right _ h)
set_option maxHeartbeats 4000000 in
set_option maxRecDepth 100000 in
theorem zc_X2_changeWorks (l : Launch) (D : va_G) (cI cJ : ClassId) (tp : Nat) (q : Nat → Nat) (u : z_St) (a_1 : Int32) (a_2 : Int32) (a_3 : Int32) {r : Int32} {u2 : z_St} (hf : zf_X2_changeWorks u a_1 a_2 a_3 = some (r, u2)) : z_Mi l yX2_changeWorks wsX2_changeWorks zr_X2_changeWorks (zx_W cI q) (zx_G tp) D cI cJ [.ref (q 2), .int a_1, .int a_2, .int a_3] u r u2 := by
  refine z_ofi (cc := cX2_changeWorks) (maxL := 5) (ret := (some .int)) zx_Gok (by decide) rfl (Nat.le_of_ble_eq_true rfl) ?_
  intro A p e s m args below meth c ls E hr hlk hC hl
  have E : CallFix p m c cX2_changeWorks 5 s args wsX2_changeWorks RX2 := E
  have hx := E.1
  have hb := E.2.1
  have hml := E.2.2.1
  have hown := E.2.2.2.1
  have hts := E.2.2.2.2
  have hl : lv_has ls 5 [(0, .ref (q 2)), (1, .int a_1), (2, .int a_2), (3, .int a_3)] := hl
  unfold zf_X2_changeWorks at hf
  have kf21 := hts (.fieldLink RX2 21 "DawnFair$Pieces" "works" "[I") (by decide +kernel)
  refine lv_aload_n hx hb dX2_changeWorks_0 rfl (lv_at hl 0 rfl) ?_
  refine lv_iload_n hx hb dX2_changeWorks_1 rfl (lv_at hl 1 rfl) ?_
  refine lv_iload_n hx hb dX2_changeWorks_2 rfl (lv_at hl 2 rfl) ?_
  obtain ⟨r1, pr1, hf⟩ := z_bd_s hf
  refine z_calli hC (z_runV (rest := []) zx_Gok hC E (zc_X2_worksOf l D cI cJ tp q u a_1 a_2 pr1 _) (cwV 2 hts gX2_changeWorks_X2_worksOf rfl rfl rfl ⟨rfl, zd_X2_worksOf⟩ ⟨Nat.le_of_ble_eq_true rfl, Nat.le_of_ble_eq_true rfl⟩) (zx_rcX2 hC) rfl hl.1 rfl (Nat.le_of_ble_eq_true rfl) dX2_changeWorks_3 ⟨Nat.zero_le _, Nat.zero_le _⟩) (fun H locs hC => ?_)
  refine lv_istore (lv' := [(4, _), (0, _), (1, _), (2, _), (3, _)]) hx hb dX2_changeWorks_6 hl (by decide) rfl (fun ls hl => ?_)
  refine lv_aload_n hx hb dX2_changeWorks_8 rfl (lv_at hl 1 rfl) ?_
  refine zx_gX2_works hx hb hts zi_X2_changeWorks hown hC kf21 dX2_changeWorks_9 ?_
  refine lv_iload_n hx hb dX2_changeWorks_12 rfl (lv_at hl 2 rfl) ?_
  refine lv_iconst (v := (5 : Int32)) hx hb dX2_changeWorks_13 (by decide) ?_
  refine lv_imul hx hb dX2_changeWorks_14 ?_
  refine lv_iload_n hx hb dX2_changeWorks_15 rfl (lv_at hl 3 rfl) ?_
  refine lv_iadd hx hb dX2_changeWorks_16 ?_
  refine lv_iload_n hx hb dX2_changeWorks_17 rfl (lv_at hl 4 rfl) ?_
  obtain ⟨h2, hf⟩ := z_gd_s hf
  refine zx_sX2_works hx hb hC (z_in h2) dX2_changeWorks_18 (fun u3 eu3 H locs hC => ?_)
  have hf := z_nm_s hf eu3
  refine lv_iload hx hb dX2_changeWorks_19 (lv_at hl 0 rfl) ?_
  exact z_reti hx hb hr hlk hC (Prod.mk.inj (Option.some.inj hf)).1 (Prod.mk.inj (Option.some.inj hf)).2 dX2_changeWorks_21
abbrev zr_X2_worksWithout : Room := { frames := 1, cells := 0, slots := 0, locals := 22 }
theorem zd_X2_worksWithout : yX2_worksWithout.cls ≠ "java/lang/invoke/MethodHandle" ∧ yX2_worksWithout.cls ≠ "java/lang/invoke/VarHandle" ∧ (parseMethodDescriptor yX2_worksWithout.desc).map (fun d => d.parameters.length) = some 2 := by decide +kernel
theorem zi_X2_worksWithout : ∀ w ∈ wsX20, w ∈ wsX2_worksWithout := fun _ h => List.mem_cons_of_mem _ (List.mem_append_right _ h)
set_option maxHeartbeats 4000000 in
set_option maxRecDepth 100000 in
theorem zl_X2_worksWithout_5 (E : CallFix p m c cX2_worksWithout 5 s args wsX2_worksWithout RX2) (a_1 : Int32) (a_2 : Int32) (u : z_St) : ∀ (n : Nat) (x_3 : Int32) (x_4 : Int32) (H : Heap) (locs : List Loc) (ls : Array Slot) (o_3 : Int32) (o_4 : Int32), zf_X2_worksWithout_5 a_1 a_2 u n x_3 x_4 = some (o_3, o_4) → z_C (zx_W cI q) (zx_G tp) D cI cJ A s u H locs → lv_has ls 5 [(0, .ref (q 2)), (1, .int a_1), (2, .int a_2), (3, .int x_3), (4, .int x_4)] → (∀ (H : Heap) (locs : List Loc) (ls : Array Slot), z_C (zx_W cI q) (zx_G tp) D cI cJ A s u H locs → lv_has ls 5 [(0, .ref (q 2)), (1, .int a_1), (2, .int a_2), (3, .int o_3), (4, .int o_4)] → W p l e zr_X2_worksWithout s m args below meth c H locs 0 0 Q (F0 m 41 ls [])) → W p l e zr_X2_worksWithout s m args below meth c H locs 0 0 Q (F0 m 5 ls []) := by
  have hx := E.1
  have hb := E.2.1
  have hml := E.2.2.1
  have hown := E.2.2.2.1
  have hts := E.2.2.2.2
  intro n
  induction n with
  | zero =>
    intro x_3 x_4 H locs ls o_3 o_4 hf
    rw [zf_X2_worksWithout_5.eq_1] at hf
    cases hf
  | succ n ih =>
    intro x_3 x_4 H locs ls o_3 o_4 hf hC hl kk
    rw [zf_X2_worksWithout_5.eq_2] at hf
    have kf18 := hts (.fieldLink RX2 18 "DawnFair$Pieces" "parts" "[I") (by decide +kernel)
    refine lv_iload hx hb dX2_worksWithout_5 (lv_at hl 4 rfl) ?_
    refine lv_aload_n hx hb dX2_worksWithout_7 rfl (lv_at hl 0 rfl) ?_
    refine zx_gX2_parts hx hb hts zi_X2_worksWithout hown hC kf18 dX2_worksWithout_8 ?_
    refine lv_iload_n hx hb dX2_worksWithout_11 rfl (lv_at hl 1 rfl) ?_
    obtain ⟨h1, hf⟩ := z_gd_s hf
    refine zx_aX2_parts hx hb hC (z_in h1) dX2_worksWithout_12 ?_
    refine lv_icmp_ge (tgt := 41) hx hb dX2_worksWithout_13 (by decide) (fun c2 => ?_) (fun c2 => ?_)
    · have hf := z_t hf c2
      cases hf
      exact kk _ _ _ hC (lv_sub hl [0, 1, 2, 3, 4] rfl)
    · have hf := z_f hf c2
      refine lv_iload_n hx hb dX2_worksWithout_16 rfl (lv_at hl 2 rfl) ?_
      refine lv_iload hx hb dX2_worksWithout_17 (lv_at hl 4 rfl) ?_
      refine lv_ishr hx hb dX2_worksWithout_19 ?_
      refine lv_iconst (v := (1 : Int32)) hx hb dX2_worksWithout_20 (by decide) ?_
      refine lv_iand hx hb dX2_worksWithout_21 ?_
      refine lv_if_ne (tgt := 35) hx hb dX2_worksWithout_22 (by decide) (fun c3 => ?_) (fun c3 => ?_)
      · have hf := z_f hf c3
        obtain ⟨x4, ex4⟩ : ∃ z : Int32, z = (x_4 + (1 : Int32)) := ⟨_, rfl⟩
        have hf := z_nm_s hf ex4
        refine lv_iinc (v := x4) (lv' := [(4, _), (0, _), (1, _), (2, _), (3, _)]) hx hb dX2_worksWithout_35 hl (k := 4) rfl (by rw [ex4]; rfl) (by decide) rfl (fun ls hl => ?_)
        refine lv_goto (tgt := 5) hx hb dX2_worksWithout_38 (by decide) ?_
        exact ih x_3 x4 _ _ _ _ _ hf hC (lv_sub hl [1, 2, 3, 4, 0] rfl) kk
      · have hf := z_t hf c3
        refine lv_iload_n hx hb dX2_worksWithout_25 rfl (lv_at hl 3 rfl) ?_
        refine lv_aload_n hx hb dX2_worksWithout_26 rfl (lv_at hl 0 rfl) ?_
        refine lv_iload_n hx hb dX2_worksWithout_27 rfl (lv_at hl 1 rfl) ?_
        refine lv_iload hx hb dX2_worksWithout_28 (lv_at hl 4 rfl) ?_
        obtain ⟨r5, pr5, hf⟩ := z_bd_s hf
        refine z_calli hC (z_runV (rest := [_]) zx_Gok hC E (zc_X2_worksOf l D cI cJ tp q u a_1 x_4 pr5 _) (cwV 2 hts gX2_worksWithout_X2_worksOf rfl rfl rfl ⟨rfl, zd_X2_worksOf⟩ ⟨Nat.le_of_ble_eq_true rfl, Nat.le_of_ble_eq_true rfl⟩) (zx_rcX2 hC) rfl hl.1 rfl (Nat.le_of_ble_eq_true rfl) dX2_worksWithout_30 ⟨Nat.zero_le _, Nat.zero_le _⟩) (fun H locs hC => ?_)
        refine lv_ior hx hb dX2_worksWithout_33 ?_
        refine lv_topi (fun x6 ex6 => ?_)
        have hf := z_nm_s hf ex6
        refine lv_istore_n (lv' := [(3, _), (0, _), (1, _), (2, _), (4, _)]) hx hb dX2_worksWithout_34 rfl hl (by decide) rfl (fun ls hl => ?_)
        obtain ⟨x7, ex7⟩ : ∃ z : Int32, z = (x_4 + (1 : Int32)) := ⟨_, rfl⟩
        have hf := z_nm_s hf ex7
        refine lv_iinc (v := x7) (lv' := [(4, _), (3, _), (0, _), (1, _), (2, _)]) hx hb dX2_worksWithout_35 hl (k := 4) rfl (by rw [ex7]; rfl) (by decide) rfl (fun ls hl => ?_)
        refine lv_goto (tgt := 5) hx hb dX2_worksWithout_38 (by decide) ?_
        exact ih x6 x7 _ _ _ _ _ hf hC (lv_sub hl [2, 3, 4, 1, 0] rfl) kk
set_option maxHeartbeats 4000000 in
set_option maxRecDepth 100000 in
theorem zc_X2_worksWithout (l : Launch) (D : va_G) (cI cJ : ClassId) (tp : Nat) (q : Nat → Nat) (u : z_St) (a_1 : Int32) (a_2 : Int32) {r : Int32} (hf : zf_X2_worksWithout u a_1 a_2 = some r) : z_Mi l yX2_worksWithout wsX2_worksWithout zr_X2_worksWithout (zx_W cI q) (zx_G tp) D cI cJ [.ref (q 2), .int a_1, .int a_2] u r u := by
  refine z_ofi (cc := cX2_worksWithout) (maxL := 5) (ret := (some .int)) zx_Gok (by decide) rfl (Nat.le_of_ble_eq_true rfl) ?_
  intro A p e s m args below meth c ls E hr hlk hC hl
  have E : CallFix p m c cX2_worksWithout 5 s args wsX2_worksWithout RX2 := E
  have hx := E.1
  have hb := E.2.1
  have hml := E.2.2.1
  have hown := E.2.2.2.1
  have hts := E.2.2.2.2
  have hl : lv_has ls 5 [(0, .ref (q 2)), (1, .int a_1), (2, .int a_2)] := hl
  unfold zf_X2_worksWithout at hf
  refine lv_iconst (v := (0 : Int32)) hx hb dX2_worksWithout_0 (by decide) ?_
  refine lv_istore_n (lv' := [(3, _), (0, _), (1, _), (2, _)]) hx hb dX2_worksWithout_1 rfl hl (by decide) rfl (fun ls hl => ?_)
  refine lv_iconst (v := (0 : Int32)) hx hb dX2_worksWithout_2 (by decide) ?_
  refine lv_istore (lv' := [(4, _), (3, _), (0, _), (1, _), (2, _)]) hx hb dX2_worksWithout_3 hl (by decide) rfl (fun ls hl => ?_)
  obtain ⟨y1, y2, py1, hf⟩ := z_bd2_s hf
  refine zl_X2_worksWithout_5 E a_1 a_2 u 5000 (0 : Int32) (0 : Int32) _ _ _ _ _ py1 hC (lv_sub hl [2, 3, 4, 1, 0] rfl) (fun H locs ls hC hl => ?_)
  refine lv_iload_n hx hb dX2_worksWithout_41 rfl (lv_at hl 3 rfl) ?_
  exact z_reti hx hb hr hlk hC (Option.some.inj hf) rfl dX2_worksWithout_42
abbrev zr_X2_yearOf : Room := { frames := 1, cells := 0, slots := 0, locals := 21 }
theorem zd_X2_yearOf : yX2_yearOf.cls ≠ "java/lang/invoke/MethodHandle" ∧ yX2_yearOf.cls ≠ "java/lang/invoke/VarHandle" ∧ (parseMethodDescriptor yX2_yearOf.desc).map (fun d => d.parameters.length) = some 2 := by decide +kernel
theorem zi_X2_yearOf : ∀ w ∈ wsX20, w ∈ wsX2_yearOf := fun _ h => List.mem_cons_of_mem _ (List.mem_append_right _ h)
set_option maxHeartbeats 4000000 in
set_option maxRecDepth 100000 in
theorem zl_X2_yearOf_12 (E : CallFix p m c cX2_yearOf 6 s args wsX2_yearOf RX2) (a_1 : Int32) (a_2 : Int32) (u : z_St) : ∀ (n : Nat) (x_3 : Int32) (x_4 : Int32) (x_5 : Int32) (H : Heap) (locs : List Loc) (ls : Array Slot) (o_3 : Int32) (o_4 : Int32) (o_5 : Int32), zf_X2_yearOf_12 a_1 u n x_3 x_4 x_5 = some (o_3, o_4, o_5) → z_C (zx_W cI q) (zx_G tp) D cI cJ A s u H locs → lv_has ls 6 [(0, .ref (q 2)), (1, .int a_1), (2, .int a_2), (3, .int x_3), (4, .int x_4), (5, .int x_5)] → (∀ (H : Heap) (locs : List Loc) (ls : Array Slot), z_C (zx_W cI q) (zx_G tp) D cI cJ A s u H locs → lv_has ls 6 [(0, .ref (q 2)), (1, .int a_1), (2, .int a_2), (3, .int o_3), (4, .int o_4), (5, .int o_5)] → W p l e zr_X2_yearOf s m args below meth c H locs 0 0 Q (F0 m 61 ls [])) → W p l e zr_X2_yearOf s m args below meth c H locs 0 0 Q (F0 m 12 ls []) := by
  have hx := E.1
  have hb := E.2.1
  have hml := E.2.2.1
  have hown := E.2.2.2.1
  have hts := E.2.2.2.2
  intro n
  induction n with
  | zero =>
    intro x_3 x_4 x_5 H locs ls o_3 o_4 o_5 hf
    rw [zf_X2_yearOf_12.eq_1] at hf
    cases hf
  | succ n ih =>
    intro x_3 x_4 x_5 H locs ls o_3 o_4 o_5 hf hC hl kk
    rw [zf_X2_yearOf_12.eq_2] at hf
    have kf9 := hts (.fieldLink RX2 9 "DawnFair$Pieces" "from" "[I") (by decide +kernel)
    have km46 := hts (.methodLink RX2 46 Lib.Math.max.name) (by decide +kernel)
    have ks46 := hts (.static Lib.Math.max.name) (by decide +kernel)
    have kiMath := hts (.initialized "java/lang/Math") (by decide +kernel)
    have ko46 := hts (.code Lib.Math.max.name Lib.Math.max.code 2 (some .int)) (by decide +kernel)
    have kf15 := hts (.fieldLink RX2 15 "DawnFair$Pieces" "to" "[I") (by decide +kernel)
    have km51 := hts (.methodLink RX2 51 Lib.Math.min.name) (by decide +kernel)
    have ks51 := hts (.static Lib.Math.min.name) (by decide +kernel)
    have ko51 := hts (.code Lib.Math.min.name Lib.Math.min.code 2 (some .int)) (by decide +kernel)
    refine lv_iload hx hb dX2_yearOf_12 (lv_at hl 5 rfl) ?_
    refine lv_bipush (v := (10 : Int32)) hx hb dX2_yearOf_14 (by decide) ?_
    refine lv_icmp_ge (tgt := 61) hx hb dX2_yearOf_16 (by decide) (fun c1 => ?_) (fun c1 => ?_)
    · have hf := z_t hf c1
      cases hf
      exact kk _ _ _ hC (lv_sub hl [0, 1, 2, 3, 4, 5] rfl)
    · have hf := z_f hf c1
      refine lv_iload_n hx hb dX2_yearOf_19 rfl (lv_at hl 1 rfl) ?_
      refine lv_iload hx hb dX2_yearOf_20 (lv_at hl 5 rfl) ?_
      refine lv_ishr hx hb dX2_yearOf_22 ?_
      refine lv_iconst (v := (1 : Int32)) hx hb dX2_yearOf_23 (by decide) ?_
      refine lv_iand hx hb dX2_yearOf_24 ?_
      refine lv_iconst (v := (1 : Int32)) hx hb dX2_yearOf_25 (by decide) ?_
      refine lv_icmp_ne (tgt := 55) hx hb dX2_yearOf_26 (by decide) (fun c2 => ?_) (fun c2 => ?_)
      · have hf := z_f hf c2
        obtain ⟨x3, ex3⟩ : ∃ z : Int32, z = (x_5 + (1 : Int32)) := ⟨_, rfl⟩
        have hf := z_nm_s hf ex3
        refine lv_iinc (v := x3) (lv' := [(5, _), (0, _), (1, _), (2, _), (3, _), (4, _)]) hx hb dX2_yearOf_55 hl (k := 5) rfl (by rw [ex3]; rfl) (by decide) rfl (fun ls hl => ?_)
        refine lv_goto (tgt := 12) hx hb dX2_yearOf_58 (by decide) ?_
        exact ih x_3 x_4 x3 _ _ _ _ _ _ hf hC (lv_sub hl [1, 2, 3, 4, 5, 0] rfl) kk
      · have hf := z_t hf c2
        refine lv_iload_n hx hb dX2_yearOf_29 rfl (lv_at hl 3 rfl) ?_
        refine lv_aload_n hx hb dX2_yearOf_30 rfl (lv_at hl 0 rfl) ?_
        refine zx_gX2_from hx hb hts zi_X2_yearOf hown hC kf9 dX2_yearOf_31 ?_
        refine lv_iload hx hb dX2_yearOf_34 (lv_at hl 5 rfl) ?_
        obtain ⟨h4, hf⟩ := z_gd_s hf
        refine zx_aX2_from hx hb hC (z_in h4) dX2_yearOf_36 ?_
        refine va_mmax hx hb (hml.trans hl.1.symm) hown km46 ks46 kiMath ko46 (Nat.le_of_ble_eq_true rfl) (Nat.le_of_ble_eq_true rfl) (Nat.zero_le _) (Nat.zero_le _) dX2_yearOf_37 ?_
        refine lv_topi (fun x5 ex5 => ?_)
        have hf := z_nm_s hf ex5
        refine lv_istore_n (lv' := [(3, _), (0, _), (1, _), (2, _), (4, _), (5, _)]) hx hb dX2_yearOf_40 rfl hl (by decide) rfl (fun ls hl => ?_)
        refine lv_iload hx hb dX2_yearOf_41 (lv_at hl 4 rfl) ?_
        refine lv_aload_n hx hb dX2_yearOf_43 rfl (lv_at hl 1 rfl) ?_
        refine zx_gX2_to hx hb hts zi_X2_yearOf hown hC kf15 dX2_yearOf_44 ?_
        refine lv_iload hx hb dX2_yearOf_47 (lv_at hl 5 rfl) ?_
        obtain ⟨h6, hf⟩ := z_gd_s hf
        refine zx_aX2_to hx hb hC (z_in h6) dX2_yearOf_49 ?_
        refine va_mmin hx hb (hml.trans hl.1.symm) hown km51 ks51 kiMath ko51 (Nat.le_of_ble_eq_true rfl) (Nat.le_of_ble_eq_true rfl) (Nat.zero_le _) (Nat.zero_le _) dX2_yearOf_50 ?_
        refine lv_topi (fun x7 ex7 => ?_)
        have hf := z_nm_s hf ex7
        refine lv_istore (lv' := [(4, _), (3, _), (0, _), (1, _), (2, _), (5, _)]) hx hb dX2_yearOf_53 hl (by decide) rfl (fun ls hl => ?_)
        obtain ⟨x8, ex8⟩ : ∃ z : Int32, z = (x_5 + (1 : Int32)) := ⟨_, rfl⟩
        have hf := z_nm_s hf ex8
        refine lv_iinc (v := x8) (lv' := [(5, _), (4, _), (3, _), (0, _), (1, _), (2, _)]) hx hb dX2_yearOf_55 hl (k := 5) rfl (by rw [ex8]; rfl) (by decide) rfl (fun ls hl => ?_)
        refine lv_goto (tgt := 12) hx hb dX2_yearOf_58 (by decide) ?_
        exact ih x5 x7 x8 _ _ _ _ _ _ hf hC (lv_sub hl [3, 4, 5, 2, 1, 0] rfl) kk
set_option maxHeartbeats 4000000 in
set_option maxRecDepth 100000 in
theorem zc_X2_yearOf (l : Launch) (D : va_G) (cI cJ : ClassId) (tp : Nat) (q : Nat → Nat) (u : z_St) (a_1 : Int32) (a_2 : Int32) {r : Int32} (hf : zf_X2_yearOf u a_1 a_2 = some r) : z_Mi l yX2_yearOf wsX2_yearOf zr_X2_yearOf (zx_W cI q) (zx_G tp) D cI cJ [.ref (q 2), .int a_1, .int a_2] u r u := by
  refine z_ofi (cc := cX2_yearOf) (maxL := 6) (ret := (some .int)) zx_Gok (by decide) rfl (Nat.le_of_ble_eq_true rfl) ?_
  intro A p e s m args below meth c ls E hr hlk hC hl
  have E : CallFix p m c cX2_yearOf 6 s args wsX2_yearOf RX2 := E
  have hx := E.1
  have hb := E.2.1
  have hml := E.2.2.1
  have hown := E.2.2.2.1
  have hts := E.2.2.2.2
  have hl : lv_has ls 6 [(0, .ref (q 2)), (1, .int a_1), (2, .int a_2)] := hl
  unfold zf_X2_yearOf at hf
  refine lv_sipush (v := (1600 : Int32)) hx hb dX2_yearOf_0 (by decide) ?_
  refine lv_istore_n (lv' := [(3, _), (0, _), (1, _), (2, _)]) hx hb dX2_yearOf_3 rfl hl (by decide) rfl (fun ls hl => ?_)
  refine lv_sipush (v := (1950 : Int32)) hx hb dX2_yearOf_4 (by decide) ?_
  refine lv_istore (lv' := [(4, _), (3, _), (0, _), (1, _), (2, _)]) hx hb dX2_yearOf_7 hl (by decide) rfl (fun ls hl => ?_)
  refine lv_iconst (v := (0 : Int32)) hx hb dX2_yearOf_9 (by decide) ?_
  refine lv_istore (lv' := [(5, _), (4, _), (3, _), (0, _), (1, _), (2, _)]) hx hb dX2_yearOf_10 hl (by decide) rfl (fun ls hl => ?_)
  obtain ⟨y1, y2, y3, py1, hf⟩ := z_bd3_s hf
  refine zl_X2_yearOf_12 E a_1 a_2 u 5000 (1600 : Int32) (1950 : Int32) (0 : Int32) _ _ _ _ _ _ py1 hC (lv_sub hl [3, 4, 5, 2, 1, 0] rfl) (fun H locs ls hC hl => ?_)
  refine lv_iload_n hx hb dX2_yearOf_61 rfl (lv_at hl 3 rfl) ?_
  refine lv_iload hx hb dX2_yearOf_62 (lv_at hl 4 rfl) ?_
  refine lv_icmp_le (tgt := 69) hx hb dX2_yearOf_64 (by decide) (fun c4 => ?_) (fun c4 => ?_)
  · have hf := z_t hf c4
    refine lv_iload_n hx hb dX2_yearOf_69 rfl (lv_at hl 2 rfl) ?_
    refine lv_if_ne (tgt := 77) hx hb dX2_yearOf_70 (by decide) (fun c5 => ?_) (fun c5 => ?_)
    · have hf := z_f hf c5
      refine lv_iload hx hb dX2_yearOf_77 (lv_at hl 4 rfl) ?_
      exact z_reti hx hb hr hlk hC (Option.some.inj hf) rfl dX2_yearOf_79
    · have hf := z_t hf c5
      refine lv_iload_n hx hb dX2_yearOf_73 rfl (lv_at hl 3 rfl) ?_
      refine lv_goto (tgt := 79) hx hb dX2_yearOf_74 (by decide) ?_
      exact z_reti hx hb hr hlk hC (Option.some.inj hf) rfl dX2_yearOf_79
  · have hf := z_f hf c4
    refine lv_iconst (v := (-1 : Int32)) hx hb dX2_yearOf_67 (by decide) ?_
    exact z_reti hx hb hr hlk hC (Option.some.inj hf) rfl dX2_yearOf_68
abbrev zr_X2_strangers : Room := { frames := 2, cells := 0, slots := 0, locals := 46 }
theorem zd_X2_strangers : yX2_strangers.cls ≠ "java/lang/invoke/MethodHandle" ∧ yX2_strangers.cls ≠ "java/lang/invoke/VarHandle" ∧ (parseMethodDescriptor yX2_strangers.desc).map (fun d => d.parameters.length) = some 1 := by decide +kernel
theorem zi_X2_strangers : ∀ w ∈ wsX20, w ∈ wsX2_strangers := fun _ h => List.mem_cons_of_mem _ (List.mem_append_right _ h)
set_option maxHeartbeats 4000000 in
set_option maxRecDepth 100000 in
theorem zl_X2_strangers_16 (E : CallFix p m c cX2_strangers 6 s args wsX2_strangers RX2) (a_1 : Int32) (a_2 : Int32) (u : z_St) : ∀ (n : Nat) (x_3 : Int32) (x_4 : Int32) (H : Heap) (locs : List Loc) (ls : Array Slot) (o_3 : Int32) (o_4 : Int32), zf_X2_strangers_16 a_1 a_2 u n x_3 x_4 = some (o_3, o_4) → z_C (zx_W cI q) (zx_G tp) D cI cJ A s u H locs → lv_has ls 6 [(0, .ref (q 2)), (1, .int a_1), (2, .int a_2), (3, .int x_3), (4, .int x_4)] → (∀ (H : Heap) (locs : List Loc) (ls : Array Slot), z_C (zx_W cI q) (zx_G tp) D cI cJ A s u H locs → lv_has ls 6 [(0, .ref (q 2)), (1, .int a_1), (2, .int a_2), (3, .int o_3), (4, .int o_4)] → W p l e zr_X2_strangers s m args below meth c H locs 0 0 Q (F0 m 76 ls [])) → W p l e zr_X2_strangers s m args below meth c H locs 0 0 Q (F0 m 16 ls []) := by
  have hx := E.1
  have hb := E.2.1
  have hml := E.2.2.1
  have hown := E.2.2.2.1
  have hts := E.2.2.2.2
  intro n
  induction n with
  | zero =>
    intro x_3 x_4 H locs ls o_3 o_4 hf
    rw [zf_X2_strangers_16.eq_1] at hf
    cases hf
  | succ n ih =>
    intro x_3 x_4 H locs ls o_3 o_4 hf hC hl kk
    rw [zf_X2_strangers_16.eq_2] at hf
    refine lv_iload hx hb dX2_strangers_16 (lv_at hl 4 rfl) ?_
    refine lv_iload_n hx hb dX2_strangers_18 rfl (lv_at hl 2 rfl) ?_
    refine lv_icmp_ge (tgt := 76) hx hb dX2_strangers_19 (by decide) (fun c1 => ?_) (fun c1 => ?_)
    · have hf := z_t hf c1
      cases hf
      exact kk _ _ _ hC (lv_sub hl [0, 1, 2, 3, 4] rfl)
    · have hf := z_f hf c1
      refine lv_iload_n hx hb dX2_strangers_22 rfl (lv_at hl 3 rfl) ?_
      refine lv_iconst (v := (-1 : Int32)) hx hb dX2_strangers_23 (by decide) ?_
      refine lv_icmp_eq (tgt := 39) hx hb dX2_strangers_24 (by decide) (fun c2 => ?_) (fun c2 => ?_)
      · have hf := z_t hf c2
        refine lv_iconst (v := (1 : Int32)) hx hb dX2_strangers_39 (by decide) ?_
        refine lv_goto (tgt := 44) hx hb dX2_strangers_40 (by decide) ?_
        refine lv_istore (lv' := [(5, _), (0, _), (1, _), (2, _), (3, _), (4, _)]) hx hb dX2_strangers_44 hl (by decide) rfl (fun ls hl => ?_)
        refine lv_iload hx hb dX2_strangers_46 (lv_at hl 0 rfl) ?_
        refine lv_if_eq (tgt := 70) hx hb dX2_strangers_48 (by decide) (fun c => absurd c (by decide)) (fun _ => ?_)
        refine lv_aload_n hx hb dX2_strangers_51 rfl (lv_at hl 1 rfl) ?_
        refine lv_aload_n hx hb dX2_strangers_52 rfl (lv_at hl 1 rfl) ?_
        refine lv_iload_n hx hb dX2_strangers_53 rfl (lv_at hl 2 rfl) ?_
        refine lv_iload hx hb dX2_strangers_54 (lv_at hl 5 rfl) ?_
        obtain ⟨r3, pr3, hf⟩ := z_bd_s hf
        refine z_calli hC (z_runV (rest := [_]) zx_Gok hC E (zc_X2_worksWithout l D cI cJ tp q u a_1 x_4 pr3 _) (cwV 2 hts gX2_strangers_X2_worksWithout rfl rfl rfl ⟨rfl, zd_X2_worksWithout⟩ ⟨Nat.le_of_ble_eq_true rfl, Nat.le_of_ble_eq_true rfl⟩) (zx_rcX2 hC) rfl hl.1 rfl (Nat.le_of_ble_eq_true rfl) dX2_strangers_56 ⟨Nat.zero_le _, Nat.zero_le _⟩) (fun H locs hC => ?_)
        refine lv_iconst (v := (0 : Int32)) hx hb dX2_strangers_59 (by decide) ?_
        obtain ⟨r4, pr4, hf⟩ := z_bd_s hf
        refine z_calli hC (z_runV (rest := []) zx_Gok hC E (zc_X2_yearOf l D cI cJ tp q u r3 (0 : Int32) pr4 _) (cwV 2 hts gX2_strangers_X2_yearOf rfl rfl rfl ⟨rfl, zd_X2_yearOf⟩ ⟨Nat.le_of_ble_eq_true rfl, Nat.le_of_ble_eq_true rfl⟩) (zx_rcX2 hC) rfl hl.1 rfl (Nat.le_of_ble_eq_true rfl) dX2_strangers_60 ⟨Nat.zero_le _, Nat.zero_le _⟩) (fun H locs hC => ?_)
        refine lv_iconst (v := (-1 : Int32)) hx hb dX2_strangers_63 (by decide) ?_
        refine lv_icmp_eq (tgt := 70) hx hb dX2_strangers_64 (by decide) (fun c5 => ?_) (fun c5 => ?_)
        · have hf := z_t hf c5
          obtain ⟨x6, ex6⟩ : ∃ z : Int32, z = (x_4 + (1 : Int32)) := ⟨_, rfl⟩
          have hf := z_nm_s hf ex6
          refine lv_iinc (v := x6) (lv' := [(4, _), (5, _), (0, _), (1, _), (2, _), (3, _)]) hx hb dX2_strangers_70 hl (k := 5) rfl (by rw [ex6]; rfl) (by decide) rfl (fun ls hl => ?_)
          refine lv_goto (tgt := 16) hx hb dX2_strangers_73 (by decide) ?_
          exact ih x_3 x6 _ _ _ _ _ hf hC (lv_sub hl [2, 3, 4, 5, 0] rfl) kk
        · have hf := z_f hf c5
          refine lv_iload hx hb dX2_strangers_67 (lv_at hl 5 rfl) ?_
          refine lv_istore_n (lv' := [(3, _), (5, _), (0, _), (1, _), (2, _), (4, _)]) hx hb dX2_strangers_69 rfl hl (by decide) rfl (fun ls hl => ?_)
          obtain ⟨x7, ex7⟩ : ∃ z : Int32, z = (x_4 + (1 : Int32)) := ⟨_, rfl⟩
          have hf := z_nm_s hf ex7
          refine lv_iinc (v := x7) (lv' := [(4, _), (3, _), (5, _), (0, _), (1, _), (2, _)]) hx hb dX2_strangers_70 hl (k := 5) rfl (by rw [ex7]; rfl) (by decide) rfl (fun ls hl => ?_)
          refine lv_goto (tgt := 16) hx hb dX2_strangers_73 (by decide) ?_
          exact ih x_4 x7 _ _ _ _ _ hf hC (lv_sub hl [3, 4, 5, 1, 0] rfl) kk
      · have hf := z_f hf c2
        refine lv_iload hx hb dX2_strangers_27 (lv_at hl 4 rfl) ?_
        refine z_calli hC (z_runS (rest := []) zx_Gok hC E (zc_J6_bitCount_0f7a4 l D cI cJ tp q u x_4 rfl _) (va_cwS 1 hts gX2_strangers_J6_bitCount_0f7a4 rfl rfl rfl zd_J6_bitCount_0f7a4 ⟨Nat.le_of_ble_eq_true rfl, Nat.le_of_ble_eq_true rfl⟩) rfl hl.1 rfl (Nat.le_of_ble_eq_true rfl) dX2_strangers_29 ⟨Nat.zero_le _, Nat.zero_le _⟩) (fun H locs hC => ?_)
        refine lv_iload_n hx hb dX2_strangers_32 rfl (lv_at hl 3 rfl) ?_
        refine z_calli hC (z_runS (rest := [_]) zx_Gok hC E (zc_J6_bitCount_0f7a4 l D cI cJ tp q u x_3 rfl _) (va_cwS 1 hts gX2_strangers_J6_bitCount_0f7a4 rfl rfl rfl zd_J6_bitCount_0f7a4 ⟨Nat.le_of_ble_eq_true rfl, Nat.le_of_ble_eq_true rfl⟩) rfl hl.1 rfl (Nat.le_of_ble_eq_true rfl) dX2_strangers_33 ⟨Nat.zero_le _, Nat.zero_le _⟩) (fun H locs hC => ?_)
        refine lv_icmp_ge (tgt := 43) hx hb dX2_strangers_36 (by decide) (fun c8 => ?_) (fun c8 => ?_)
        · have hf := z_t hf c8
          refine lv_iconst (v := (0 : Int32)) hx hb dX2_strangers_43 (by decide) ?_
          refine lv_istore (lv' := [(5, _), (0, _), (1, _), (2, _), (3, _), (4, _)]) hx hb dX2_strangers_44 hl (by decide) rfl (fun ls hl => ?_)
          refine lv_iload hx hb dX2_strangers_46 (lv_at hl 0 rfl) ?_
          refine lv_if_eq (tgt := 70) hx hb dX2_strangers_48 (by decide) (fun _ => ?_) (fun c => absurd (by decide) c)
          obtain ⟨x9, ex9⟩ : ∃ z : Int32, z = (x_4 + (1 : Int32)) := ⟨_, rfl⟩
          have hf := z_nm_s hf ex9
          refine lv_iinc (v := x9) (lv' := [(4, _), (5, _), (0, _), (1, _), (2, _), (3, _)]) hx hb dX2_strangers_70 hl (k := 5) rfl (by rw [ex9]; rfl) (by decide) rfl (fun ls hl => ?_)
          refine lv_goto (tgt := 16) hx hb dX2_strangers_73 (by decide) ?_
          exact ih x_3 x9 _ _ _ _ _ hf hC (lv_sub hl [2, 3, 4, 5, 0] rfl) kk
        · have hf := z_f hf c8
          refine lv_iconst (v := (1 : Int32)) hx hb dX2_strangers_39 (by decide) ?_
          refine lv_goto (tgt := 44) hx hb dX2_strangers_40 (by decide) ?_
          refine lv_istore (lv' := [(5, _), (0, _), (1, _), (2, _), (3, _), (4, _)]) hx hb dX2_strangers_44 hl (by decide) rfl (fun ls hl => ?_)
          refine lv_iload hx hb dX2_strangers_46 (lv_at hl 0 rfl) ?_
          refine lv_if_eq (tgt := 70) hx hb dX2_strangers_48 (by decide) (fun c => absurd c (by decide)) (fun _ => ?_)
          refine lv_aload_n hx hb dX2_strangers_51 rfl (lv_at hl 1 rfl) ?_
          refine lv_aload_n hx hb dX2_strangers_52 rfl (lv_at hl 1 rfl) ?_
          refine lv_iload_n hx hb dX2_strangers_53 rfl (lv_at hl 2 rfl) ?_
          refine lv_iload hx hb dX2_strangers_54 (lv_at hl 5 rfl) ?_
          obtain ⟨r10, pr10, hf⟩ := z_bd_s hf
          refine z_calli hC (z_runV (rest := [_]) zx_Gok hC E (zc_X2_worksWithout l D cI cJ tp q u a_1 x_4 pr10 _) (cwV 2 hts gX2_strangers_X2_worksWithout rfl rfl rfl ⟨rfl, zd_X2_worksWithout⟩ ⟨Nat.le_of_ble_eq_true rfl, Nat.le_of_ble_eq_true rfl⟩) (zx_rcX2 hC) rfl hl.1 rfl (Nat.le_of_ble_eq_true rfl) dX2_strangers_56 ⟨Nat.zero_le _, Nat.zero_le _⟩) (fun H locs hC => ?_)
          refine lv_iconst (v := (0 : Int32)) hx hb dX2_strangers_59 (by decide) ?_
          obtain ⟨r11, pr11, hf⟩ := z_bd_s hf
          refine z_calli hC (z_runV (rest := []) zx_Gok hC E (zc_X2_yearOf l D cI cJ tp q u r10 (0 : Int32) pr11 _) (cwV 2 hts gX2_strangers_X2_yearOf rfl rfl rfl ⟨rfl, zd_X2_yearOf⟩ ⟨Nat.le_of_ble_eq_true rfl, Nat.le_of_ble_eq_true rfl⟩) (zx_rcX2 hC) rfl hl.1 rfl (Nat.le_of_ble_eq_true rfl) dX2_strangers_60 ⟨Nat.zero_le _, Nat.zero_le _⟩) (fun H locs hC => ?_)
          refine lv_iconst (v := (-1 : Int32)) hx hb dX2_strangers_63 (by decide) ?_
          refine lv_icmp_eq (tgt := 70) hx hb dX2_strangers_64 (by decide) (fun c12 => ?_) (fun c12 => ?_)
          · have hf := z_t hf c12
            obtain ⟨x13, ex13⟩ : ∃ z : Int32, z = (x_4 + (1 : Int32)) := ⟨_, rfl⟩
            have hf := z_nm_s hf ex13
            refine lv_iinc (v := x13) (lv' := [(4, _), (5, _), (0, _), (1, _), (2, _), (3, _)]) hx hb dX2_strangers_70 hl (k := 5) rfl (by rw [ex13]; rfl) (by decide) rfl (fun ls hl => ?_)
            refine lv_goto (tgt := 16) hx hb dX2_strangers_73 (by decide) ?_
            exact ih x_3 x13 _ _ _ _ _ hf hC (lv_sub hl [2, 3, 4, 5, 0] rfl) kk
          · have hf := z_f hf c12
            refine lv_iload hx hb dX2_strangers_67 (lv_at hl 5 rfl) ?_
            refine lv_istore_n (lv' := [(3, _), (5, _), (0, _), (1, _), (2, _), (4, _)]) hx hb dX2_strangers_69 rfl hl (by decide) rfl (fun ls hl => ?_)
            obtain ⟨x14, ex14⟩ : ∃ z : Int32, z = (x_4 + (1 : Int32)) := ⟨_, rfl⟩
            have hf := z_nm_s hf ex14
            refine lv_iinc (v := x14) (lv' := [(4, _), (3, _), (5, _), (0, _), (1, _), (2, _)]) hx hb dX2_strangers_70 hl (k := 5) rfl (by rw [ex14]; rfl) (by decide) rfl (fun ls hl => ?_)
            refine lv_goto (tgt := 16) hx hb dX2_strangers_73 (by decide) ?_
            exact ih x_4 x14 _ _ _ _ _ hf hC (lv_sub hl [3, 4, 5, 1, 0] rfl) kk
set_option maxHeartbeats 4000000 in
set_option maxRecDepth 100000 in
theorem zc_X2_strangers (l : Launch) (D : va_G) (cI cJ : ClassId) (tp : Nat) (q : Nat → Nat) (u : z_St) (a_1 : Int32) {r : Int32} (hf : zf_X2_strangers u a_1 = some r) : z_Mi l yX2_strangers wsX2_strangers zr_X2_strangers (zx_W cI q) (zx_G tp) D cI cJ [.ref (q 2), .int a_1] u r u := by
  refine z_ofi (cc := cX2_strangers) (maxL := 6) (ret := (some .int)) zx_Gok (by decide) rfl (Nat.le_of_ble_eq_true rfl) ?_
  intro A p e s m args below meth c ls E hr hlk hC hl
  have E : CallFix p m c cX2_strangers 6 s args wsX2_strangers RX2 := E
  have hx := E.1
  have hb := E.2.1
  have hml := E.2.2.1
  have hown := E.2.2.2.1
  have hts := E.2.2.2.2
  have hl : lv_has ls 6 [(0, .ref (q 2)), (1, .int a_1)] := hl
  unfold zf_X2_strangers at hf
  have kf18 := hts (.fieldLink RX2 18 "DawnFair$Pieces" "parts" "[I") (by decide +kernel)
  refine lv_iconst (v := (1 : Int32)) hx hb dX2_strangers_0 (by decide) ?_
  refine lv_aload_n hx hb dX2_strangers_1 rfl (lv_at hl 0 rfl) ?_
  refine zx_gX2_parts hx hb hts zi_X2_strangers hown hC kf18 dX2_strangers_2 ?_
  refine lv_iload_n hx hb dX2_strangers_5 rfl (lv_at hl 1 rfl) ?_
  obtain ⟨h1, hf⟩ := z_gd_s hf
  refine zx_aX2_parts hx hb hC (z_in h1) dX2_strangers_6 ?_
  refine lv_ishl hx hb dX2_strangers_7 ?_
  refine lv_iconst (v := (1 : Int32)) hx hb dX2_strangers_8 (by decide) ?_
  refine lv_isub hx hb dX2_strangers_9 ?_
  refine lv_topi (fun x2 ex2 => ?_)
  have hf := z_nm_s hf ex2
  refine lv_istore_n (lv' := [(2, _), (0, _), (1, _)]) hx hb dX2_strangers_10 rfl hl (by decide) rfl (fun ls hl => ?_)
  refine lv_iconst (v := (-1 : Int32)) hx hb dX2_strangers_11 (by decide) ?_
  refine lv_istore_n (lv' := [(3, _), (2, _), (0, _), (1, _)]) hx hb dX2_strangers_12 rfl hl (by decide) rfl (fun ls hl => ?_)
  refine lv_iconst (v := (0 : Int32)) hx hb dX2_strangers_13 (by decide) ?_
  refine lv_istore (lv' := [(4, _), (3, _), (2, _), (0, _), (1, _)]) hx hb dX2_strangers_14 hl (by decide) rfl (fun ls hl => ?_)
  obtain ⟨y3, y4, py3, hf⟩ := z_bd2_s hf
  refine zl_X2_strangers_16 E a_1 x2 u 5000 (-1 : Int32) (0 : Int32) _ _ _ _ _ py3 hC (lv_sub hl [3, 4, 2, 1, 0] rfl) (fun H locs ls hC hl => ?_)
  refine lv_iload_n hx hb dX2_strangers_76 rfl (lv_at hl 3 rfl) ?_
  exact z_reti hx hb hr hlk hC (Option.some.inj hf) rfl dX2_strangers_77
abbrev zr_X2_mixWorks : Room := { frames := 1, cells := 0, slots := 0, locals := 22 }
theorem zd_X2_mixWorks : yX2_mixWorks.cls ≠ "java/lang/invoke/MethodHandle" ∧ yX2_mixWorks.cls ≠ "java/lang/invoke/VarHandle" ∧ (parseMethodDescriptor yX2_mixWorks.desc).map (fun d => d.parameters.length) = some 1 := by decide +kernel
theorem zi_X2_mixWorks : ∀ w ∈ wsX20, w ∈ wsX2_mixWorks := fun _ h => List.mem_cons_of_mem _ (List.mem_append_right _ h)
set_option maxHeartbeats 4000000 in
set_option maxRecDepth 100000 in
theorem zl_X2_mixWorks_5 (E : CallFix p m c cX2_mixWorks 6 s args wsX2_mixWorks RX2) (u : z_St) : ∀ (n : Nat) (x_3 : Int64) (x_5 : Int32) (H : Heap) (locs : List Loc) (ls : Array Slot) (o_3 : Int64) (o_5 : Int32), zf_X2_mixWorks_5 u n x_3 x_5 = some (o_3, o_5) → z_C (zx_W cI q) (zx_G tp) D cI cJ A s u H locs → lv_has ls 6 [(0, .ref (q 2)), (3, .long x_3), (5, .int x_5)] → (∀ (H : Heap) (locs : List Loc) (ls : Array Slot), z_C (zx_W cI q) (zx_G tp) D cI cJ A s u H locs → lv_has ls 6 [(0, .ref (q 2)), (3, .long o_3), (5, .int o_5)] → W p l e zr_X2_mixWorks s m args below meth c H locs 0 0 Q (F0 m 42 ls [])) → W p l e zr_X2_mixWorks s m args below meth c H locs 0 0 Q (F0 m 5 ls []) := by
  have hx := E.1
  have hb := E.2.1
  have hml := E.2.2.1
  have hown := E.2.2.2.1
  have hts := E.2.2.2.2
  intro n
  induction n with
  | zero =>
    intro x_3 x_5 H locs ls o_3 o_5 hf
    rw [zf_X2_mixWorks_5.eq_1] at hf
    cases hf
  | succ n ih =>
    intro x_3 x_5 H locs ls o_3 o_5 hf hC hl kk
    rw [zf_X2_mixWorks_5.eq_2] at hf
    have kf9 := hts (.fieldLink RX2 9 "DawnFair$Pieces" "from" "[I") (by decide +kernel)
    have kiX5 := hts (.initialized RX5) (by decide +kernel)
    have ks66 := hts (.static yX5_mix) (by decide +kernel)
    have kf15 := hts (.fieldLink RX2 15 "DawnFair$Pieces" "to" "[I") (by decide +kernel)
    refine lv_iload hx hb dX2_mixWorks_5 (lv_at hl 2 rfl) ?_
    refine lv_bipush (v := (10 : Int32)) hx hb dX2_mixWorks_7 (by decide) ?_
    refine lv_icmp_ge (tgt := 42) hx hb dX2_mixWorks_9 (by decide) (fun c1 => ?_) (fun c1 => ?_)
    · have hf := z_t hf c1
      cases hf
      exact kk _ _ _ hC (lv_sub hl [0, 1, 2] rfl)
    · have hf := z_f hf c1
      refine lv_lload_n hx hb dX2_mixWorks_12 rfl (lv_at hl 1 rfl) ?_
      refine lv_aload_n hx hb dX2_mixWorks_13 rfl (lv_at hl 0 rfl) ?_
      refine zx_gX2_from hx hb hts zi_X2_mixWorks hown hC kf9 dX2_mixWorks_14 ?_
      refine lv_iload hx hb dX2_mixWorks_17 (lv_at hl 2 rfl) ?_
      obtain ⟨h2, hf⟩ := z_gd_s hf
      refine zx_aX2_from hx hb hC (z_in h2) dX2_mixWorks_19 ?_
      refine z_calll hC (z_runSN (rest := []) zx_Gok hC E (zc_X5_mix l D cI cJ tp q u x_3 (z_rI u 5 x_5.toNatClampNeg) rfl _) ⟨va_cnB 2 hts gX2_mixWorks_X5_mix_n66 rfl rfl rfl (zx_nst hC).2.2.1 kiX5 zd_X5_mix ⟨Nat.le_of_ble_eq_true rfl, Nat.le_of_ble_eq_true rfl⟩, ks66, trivial⟩ rfl hl.1 rfl (Nat.le_of_ble_eq_true rfl) dX2_mixWorks_20 ⟨Nat.zero_le _, Nat.zero_le _⟩) (fun H locs hC => ?_)
      refine lv_topl (fun x3 ex3 => ?_)
      have hf := z_nm_s hf ex3
      refine lv_lstore_n (lv' := [(3, _), (0, _), (5, _)]) hx hb dX2_mixWorks_23 rfl hl (by decide) rfl (fun ls hl => ?_)
      refine lv_lload_n hx hb dX2_mixWorks_24 rfl (lv_at hl 0 rfl) ?_
      refine lv_aload_n hx hb dX2_mixWorks_25 rfl (lv_at hl 1 rfl) ?_
      refine zx_gX2_to hx hb hts zi_X2_mixWorks hown hC kf15 dX2_mixWorks_26 ?_
      refine lv_iload hx hb dX2_mixWorks_29 (lv_at hl 2 rfl) ?_
      obtain ⟨h4, hf⟩ := z_gd_s hf
      refine zx_aX2_to hx hb hC (z_in h4) dX2_mixWorks_31 ?_
      refine z_calll hC (z_runSN (rest := []) zx_Gok hC E (zc_X5_mix l D cI cJ tp q u x3 (z_rI u 6 x_5.toNatClampNeg) rfl _) ⟨va_cnB 2 hts gX2_mixWorks_X5_mix_n66 rfl rfl rfl (zx_nst hC).2.2.1 kiX5 zd_X5_mix ⟨Nat.le_of_ble_eq_true rfl, Nat.le_of_ble_eq_true rfl⟩, ks66, trivial⟩ rfl hl.1 rfl (Nat.le_of_ble_eq_true rfl) dX2_mixWorks_32 ⟨Nat.zero_le _, Nat.zero_le _⟩) (fun H locs hC => ?_)
      refine lv_topl (fun x5 ex5 => ?_)
      have hf := z_nm_s hf ex5
      refine lv_lstore_n (lv' := [(3, _), (0, _), (5, _)]) hx hb dX2_mixWorks_35 rfl hl (by decide) rfl (fun ls hl => ?_)
      obtain ⟨x6, ex6⟩ : ∃ z : Int32, z = (x_5 + (1 : Int32)) := ⟨_, rfl⟩
      have hf := z_nm_s hf ex6
      refine lv_iinc (v := x6) (lv' := [(5, _), (3, _), (0, _)]) hx hb dX2_mixWorks_36 hl (k := 2) rfl (by rw [ex6]; rfl) (by decide) rfl (fun ls hl => ?_)
      refine lv_goto (tgt := 5) hx hb dX2_mixWorks_39 (by decide) ?_
      exact ih x5 x6 _ _ _ _ _ hf hC (lv_sub hl [2, 1, 0] rfl) kk
set_option maxHeartbeats 4000000 in
set_option maxRecDepth 100000 in
theorem zc_X2_mixWorks (l : Launch) (D : va_G) (cI cJ : ClassId) (tp : Nat) (q : Nat → Nat) (u : z_St) (a_1 : Int64) {r : Int64} (hf : zf_X2_mixWorks u a_1 = some r) : z_Ml l yX2_mixWorks wsX2_mixWorks zr_X2_mixWorks (zx_W cI q) (zx_G tp) D cI cJ [.ref (q 2), .long a_1] u r u := by
  refine z_ofl (cc := cX2_mixWorks) (maxL := 6) (ret := (some .long)) zx_Gok (by decide) rfl (Nat.le_of_ble_eq_true rfl) ?_
  intro A p e s m args below meth c ls E hr hlk hC hl
  have E : CallFix p m c cX2_mixWorks 6 s args wsX2_mixWorks RX2 := E
  have hx := E.1
  have hb := E.2.1
  have hml := E.2.2.1
  have hown := E.2.2.2.1
  have hts := E.2.2.2.2
  have hl : lv_has ls 6 [(0, .ref (q 2)), (1, .long a_1)] := hl
  unfold zf_X2_mixWorks at hf
  refine lv_lload_n hx hb dX2_mixWorks_0 rfl (lv_at hl 1 rfl) ?_
  refine lv_lstore_n (lv' := [(3, _), (0, _), (1, _)]) hx hb dX2_mixWorks_1 rfl hl (by decide) rfl (fun ls hl => ?_)
  refine lv_iconst (v := (0 : Int32)) hx hb dX2_mixWorks_2 (by decide) ?_
  refine lv_istore (lv' := [(5, _), (3, _), (0, _), (1, _)]) hx hb dX2_mixWorks_3 hl (by decide) rfl (fun ls hl => ?_)
  obtain ⟨y1, y2, py1, hf⟩ := z_bd2_s hf
  refine zl_X2_mixWorks_5 E u 5000 a_1 (0 : Int32) _ _ _ _ _ py1 hC (lv_sub hl [2, 1, 0] rfl) (fun H locs ls hC hl => ?_)
  refine lv_lload_n hx hb dX2_mixWorks_42 rfl (lv_at hl 1 rfl) ?_
  exact z_retl hx hb hr hlk hC (Option.some.inj hf) rfl dX2_mixWorks_43
abbrev zr_X2_mixParts : Room := { frames := 1, cells := 0, slots := 0, locals := 22 }
theorem zd_X2_mixParts : yX2_mixParts.cls ≠ "java/lang/invoke/MethodHandle" ∧ yX2_mixParts.cls ≠ "java/lang/invoke/VarHandle" ∧ (parseMethodDescriptor yX2_mixParts.desc).map (fun d => d.parameters.length) = some 2 := by decide +kernel
theorem zi_X2_mixParts : ∀ w ∈ wsX20, w ∈ wsX2_mixParts := fun _ h => List.mem_cons_of_mem _ (List.mem_append_right _ h)
set_option maxHeartbeats 4000000 in
set_option maxRecDepth 100000 in
theorem zl_X2_mixParts_15 (E : CallFix p m c cX2_mixParts 7 s args wsX2_mixParts RX2) (a_3 : Int32) (u : z_St) : ∀ (n : Nat) (x_4 : Int64) (x_6 : Int32) (H : Heap) (locs : List Loc) (ls : Array Slot) (o_4 : Int64) (o_6 : Int32), zf_X2_mixParts_15 a_3 u n x_4 x_6 = some (o_4, o_6) → z_C (zx_W cI q) (zx_G tp) D cI cJ A s u H locs → lv_has ls 7 [(0, .ref (q 2)), (3, .int a_3), (4, .long x_4), (6, .int x_6)] → (∀ (H : Heap) (locs : List Loc) (ls : Array Slot), z_C (zx_W cI q) (zx_G tp) D cI cJ A s u H locs → lv_has ls 7 [(0, .ref (q 2)), (3, .int a_3), (4, .long o_4), (6, .int o_6)] → W p l e zr_X2_mixParts s m args below meth c H locs 0 0 Q (F0 m 46 ls [])) → W p l e zr_X2_mixParts s m args below meth c H locs 0 0 Q (F0 m 15 ls []) := by
  have hx := E.1
  have hb := E.2.1
  have hml := E.2.2.1
  have hown := E.2.2.2.1
  have hts := E.2.2.2.2
  intro n
  induction n with
  | zero =>
    intro x_4 x_6 H locs ls o_4 o_6 hf
    rw [zf_X2_mixParts_15.eq_1] at hf
    cases hf
  | succ n ih =>
    intro x_4 x_6 H locs ls o_4 o_6 hf hC hl kk
    rw [zf_X2_mixParts_15.eq_2] at hf
    have kf18 := hts (.fieldLink RX2 18 "DawnFair$Pieces" "parts" "[I") (by decide +kernel)
    have kiX5 := hts (.initialized RX5) (by decide +kernel)
    have ks66 := hts (.static yX5_mix) (by decide +kernel)
    refine lv_iload hx hb dX2_mixParts_15 (lv_at hl 3 rfl) ?_
    refine lv_aload_n hx hb dX2_mixParts_17 rfl (lv_at hl 0 rfl) ?_
    refine zx_gX2_parts hx hb hts zi_X2_mixParts hown hC kf18 dX2_mixParts_18 ?_
    refine lv_iload_n hx hb dX2_mixParts_21 rfl (lv_at hl 1 rfl) ?_
    obtain ⟨h1, hf⟩ := z_gd_s hf
    refine zx_aX2_parts hx hb hC (z_in h1) dX2_mixParts_22 ?_
    refine lv_icmp_ge (tgt := 46) hx hb dX2_mixParts_23 (by decide) (fun c2 => ?_) (fun c2 => ?_)
    · have hf := z_t hf c2
      cases hf
      exact kk _ _ _ hC (lv_sub hl [0, 1, 2, 3] rfl)
    · have hf := z_f hf c2
      refine lv_lload hx hb dX2_mixParts_26 (lv_at hl 2 rfl) ?_
      refine lv_aload_n hx hb dX2_mixParts_28 rfl (lv_at hl 0 rfl) ?_
      refine lv_iload_n hx hb dX2_mixParts_29 rfl (lv_at hl 1 rfl) ?_
      refine lv_iload hx hb dX2_mixParts_30 (lv_at hl 3 rfl) ?_
      obtain ⟨r3, pr3, hf⟩ := z_bd_s hf
      refine z_calli hC (z_runV (rest := [_]) zx_Gok hC E (zc_X2_worksOf l D cI cJ tp q u a_3 x_6 pr3 _) (cwV 2 hts gX2_mixParts_X2_worksOf rfl rfl rfl ⟨rfl, zd_X2_worksOf⟩ ⟨Nat.le_of_ble_eq_true rfl, Nat.le_of_ble_eq_true rfl⟩) (zx_rcX2 hC) rfl hl.1 rfl (Nat.le_of_ble_eq_true rfl) dX2_mixParts_32 ⟨Nat.zero_le _, Nat.zero_le _⟩) (fun H locs hC => ?_)
      refine z_calll hC (z_runSN (rest := []) zx_Gok hC E (zc_X5_mix l D cI cJ tp q u x_4 r3 rfl _) ⟨va_cnB 2 hts gX2_mixParts_X5_mix_n66 rfl rfl rfl (zx_nst hC).2.2.1 kiX5 zd_X5_mix ⟨Nat.le_of_ble_eq_true rfl, Nat.le_of_ble_eq_true rfl⟩, ks66, trivial⟩ rfl hl.1 rfl (Nat.le_of_ble_eq_true rfl) dX2_mixParts_35 ⟨Nat.zero_le _, Nat.zero_le _⟩) (fun H locs hC => ?_)
      refine lv_topl (fun x4 ex4 => ?_)
      have hf := z_nm_s hf ex4
      refine lv_lstore (lv' := [(4, _), (0, _), (3, _), (6, _)]) hx hb dX2_mixParts_38 hl (by decide) rfl (fun ls hl => ?_)
      obtain ⟨x5, ex5⟩ : ∃ z : Int32, z = (x_6 + (1 : Int32)) := ⟨_, rfl⟩
      have hf := z_nm_s hf ex5
      refine lv_iinc (v := x5) (lv' := [(6, _), (4, _), (0, _), (3, _)]) hx hb dX2_mixParts_40 hl (k := 3) rfl (by rw [ex5]; rfl) (by decide) rfl (fun ls hl => ?_)
      refine lv_goto (tgt := 15) hx hb dX2_mixParts_43 (by decide) ?_
      exact ih x4 x5 _ _ _ _ _ hf hC (lv_sub hl [2, 3, 1, 0] rfl) kk
set_option maxHeartbeats 4000000 in
set_option maxRecDepth 100000 in
theorem zc_X2_mixParts (l : Launch) (D : va_G) (cI cJ : ClassId) (tp : Nat) (q : Nat → Nat) (u : z_St) (a_1 : Int64) (a_3 : Int32) {r : Int64} (hf : zf_X2_mixParts u a_1 a_3 = some r) : z_Ml l yX2_mixParts wsX2_mixParts zr_X2_mixParts (zx_W cI q) (zx_G tp) D cI cJ [.ref (q 2), .long a_1, .int a_3] u r u := by
  refine z_ofl (cc := cX2_mixParts) (maxL := 7) (ret := (some .long)) zx_Gok (by decide) rfl (Nat.le_of_ble_eq_true rfl) ?_
  intro A p e s m args below meth c ls E hr hlk hC hl
  have E : CallFix p m c cX2_mixParts 7 s args wsX2_mixParts RX2 := E
  have hx := E.1
  have hb := E.2.1
  have hml := E.2.2.1
  have hown := E.2.2.2.1
  have hts := E.2.2.2.2
  have hl : lv_has ls 7 [(0, .ref (q 2)), (1, .long a_1), (3, .int a_3)] := hl
  unfold zf_X2_mixParts at hf
  have kf18 := hts (.fieldLink RX2 18 "DawnFair$Pieces" "parts" "[I") (by decide +kernel)
  have kiX5 := hts (.initialized RX5) (by decide +kernel)
  have ks66 := hts (.static yX5_mix) (by decide +kernel)
  refine lv_lload_n hx hb dX2_mixParts_0 rfl (lv_at hl 1 rfl) ?_
  refine lv_aload_n hx hb dX2_mixParts_1 rfl (lv_at hl 0 rfl) ?_
  refine zx_gX2_parts hx hb hts zi_X2_mixParts hown hC kf18 dX2_mixParts_2 ?_
  refine lv_iload_n hx hb dX2_mixParts_5 rfl (lv_at hl 2 rfl) ?_
  obtain ⟨h1, hf⟩ := z_gd_s hf
  refine zx_aX2_parts hx hb hC (z_in h1) dX2_mixParts_6 ?_
  refine z_calll hC (z_runSN (rest := []) zx_Gok hC E (zc_X5_mix l D cI cJ tp q u a_1 (z_rI u 7 a_3.toNatClampNeg) rfl _) ⟨va_cnB 2 hts gX2_mixParts_X5_mix_n66 rfl rfl rfl (zx_nst hC).2.2.1 kiX5 zd_X5_mix ⟨Nat.le_of_ble_eq_true rfl, Nat.le_of_ble_eq_true rfl⟩, ks66, trivial⟩ rfl hl.1 rfl (Nat.le_of_ble_eq_true rfl) dX2_mixParts_7 ⟨Nat.zero_le _, Nat.zero_le _⟩) (fun H locs hC => ?_)
  refine lv_topl (fun x2 ex2 => ?_)
  have hf := z_nm_s hf ex2
  refine lv_lstore (lv' := [(4, _), (0, _), (1, _), (3, _)]) hx hb dX2_mixParts_10 hl (by decide) rfl (fun ls hl => ?_)
  refine lv_iconst (v := (0 : Int32)) hx hb dX2_mixParts_12 (by decide) ?_
  refine lv_istore (lv' := [(6, _), (4, _), (0, _), (1, _), (3, _)]) hx hb dX2_mixParts_13 hl (by decide) rfl (fun ls hl => ?_)
  obtain ⟨y3, y4, py3, hf⟩ := z_bd2_s hf
  refine zl_X2_mixParts_15 E a_3 u 5000 x2 (0 : Int32) _ _ _ _ _ py3 hC (lv_sub hl [2, 4, 1, 0] rfl) (fun H locs ls hC hl => ?_)
  refine lv_lload hx hb dX2_mixParts_46 (lv_at hl 2 rfl) ?_
  exact z_retl hx hb hr hlk hC (Option.some.inj hf) rfl dX2_mixParts_48
end
