section
variable {p : Program} {l : Launch} {e : Env} {R : Room} {s : State} {m : MethodId} {args : Array Value} {below : List Frame} {meth : Method} {c : Code} {H : Heap} {locs : List Loc} {cells slots : Nat} {Q : State → Prop} {cc : ByteArray} {pc : Nat} {ls : Array Slot} {rest : List Value}
variable {D : va_G} {cI cJ : ClassId} {tp : Nat} {q : Nat → Nat} {A : Nat → Prop} {u : z_St} {Ts : List Cond}
abbrev zr_X5_work : Room := { frames := 1, cells := 0, slots := 0, locals := 23 }
theorem zd_X5_work : yX5_work.cls ≠ "java/lang/invoke/MethodHandle" ∧ yX5_work.cls ≠ "java/lang/invoke/VarHandle" ∧ (parseMethodDescriptor yX5_work.desc).map (fun d => d.parameters.length) = some 3 := by decide +kernel
theorem zi_X5_work : ∀ w ∈ wsX50, w ∈ wsX5_work := fun _ h => List.mem_cons_of_mem _ (List.mem_append_left _ (List.mem_append_right _ h))
set_option maxHeartbeats 4000000 in
set_option maxRecDepth 100000 in
theorem zc_X5_work (l : Launch) (D : va_G) (cI cJ : ClassId) (tp : Nat) (q : Nat → Nat) (u : z_St) (a_1 : Int32) (a_2 : Int32) (a_3 : Int32) {r : Int32} {u2 : z_St} (hf : zf_X5_work u a_1 a_2 a_3 = some (r, u2)) : z_Mi l yX5_work wsX5_work zr_X5_work (zx_W cI q) (zx_G tp) D cI cJ [.ref (q 5), .int a_1, .int a_2, .int a_3] u r u2 := by
  refine z_ofi (cc := cX5_work) (maxL := 4) (ret := (some .int)) zx_Gok (by decide) rfl (Nat.le_of_ble_eq_true rfl) ?_
  intro A p e s m args below meth c ls E hr hlk hC hl
  have E : CallFix p m c cX5_work 4 s args wsX5_work RX5 := E
  have hx := E.1
  have hb := E.2.1
  have hml := E.2.2.1
  have hown := E.2.2.2.1
  have hts := E.2.2.2.2
  have hl : lv_has ls 4 [(0, .ref (q 5)), (1, .int a_1), (2, .int a_2), (3, .int a_3)] := hl
  unfold zf_X5_work at hf
  have kf12 := hts (.fieldLink RX5 12 "DawnFair" "pieces" "LDawnFair$Pieces;") (by decide +kernel)
  refine lv_iload_n hx hb dX5_work_0 rfl (lv_at hl 1 rfl) ?_
  refine lv_iconst (v := (0 : Int32)) hx hb dX5_work_1 (by decide) ?_
  refine lv_bipush (v := (9 : Int32)) hx hb dX5_work_2 (by decide) ?_
  refine z_calli hC (z_runS (rest := []) zx_Gok hC E (zc_X5_within l D cI cJ tp q u a_1 (0 : Int32) (9 : Int32) rfl _) (va_cwS 3 hts gX5_work_X5_within rfl rfl rfl zd_X5_within ⟨Nat.le_of_ble_eq_true rfl, Nat.le_of_ble_eq_true rfl⟩) rfl hl.1 rfl (Nat.le_of_ble_eq_true rfl) dX5_work_4 ⟨Nat.zero_le _, Nat.zero_le _⟩) (fun H locs hC => ?_)
  refine lv_if_eq (tgt := 34) hx hb dX5_work_7 (by decide) (fun c1 => ?_) (fun c1 => ?_)
  · have hf := z_t hf c1
    refine lv_bipush (v := (-2 : Int32)) hx hb dX5_work_34 (by decide) ?_
    exact z_reti hx hb hr hlk hC (Prod.mk.inj (Option.some.inj hf)).1 (Prod.mk.inj (Option.some.inj hf)).2 dX5_work_36
  · have hf := z_f hf c1
    refine lv_iload_n hx hb dX5_work_10 rfl (lv_at hl 2 rfl) ?_
    refine lv_sipush (v := (1600 : Int32)) hx hb dX5_work_11 (by decide) ?_
    refine lv_sipush (v := (1950 : Int32)) hx hb dX5_work_14 (by decide) ?_
    refine z_calli hC (z_runS (rest := []) zx_Gok hC E (zc_X5_within l D cI cJ tp q u a_2 (1600 : Int32) (1950 : Int32) rfl _) (va_cwS 3 hts gX5_work_X5_within rfl rfl rfl zd_X5_within ⟨Nat.le_of_ble_eq_true rfl, Nat.le_of_ble_eq_true rfl⟩) rfl hl.1 rfl (Nat.le_of_ble_eq_true rfl) dX5_work_17 ⟨Nat.zero_le _, Nat.zero_le _⟩) (fun H locs hC => ?_)
    refine lv_if_eq (tgt := 34) hx hb dX5_work_20 (by decide) (fun c2 => ?_) (fun c2 => ?_)
    · have hf := z_t hf c2
      refine lv_bipush (v := (-2 : Int32)) hx hb dX5_work_34 (by decide) ?_
      exact z_reti hx hb hr hlk hC (Prod.mk.inj (Option.some.inj hf)).1 (Prod.mk.inj (Option.some.inj hf)).2 dX5_work_36
    · have hf := z_f hf c2
      refine lv_iload_n hx hb dX5_work_23 rfl (lv_at hl 3 rfl) ?_
      refine lv_iload_n hx hb dX5_work_24 rfl (lv_at hl 2 rfl) ?_
      refine lv_sipush (v := (1950 : Int32)) hx hb dX5_work_25 (by decide) ?_
      refine z_calli hC (z_runS (rest := []) zx_Gok hC E (zc_X5_within l D cI cJ tp q u a_3 a_2 (1950 : Int32) rfl _) (va_cwS 3 hts gX5_work_X5_within rfl rfl rfl zd_X5_within ⟨Nat.le_of_ble_eq_true rfl, Nat.le_of_ble_eq_true rfl⟩) rfl hl.1 rfl (Nat.le_of_ble_eq_true rfl) dX5_work_28 ⟨Nat.zero_le _, Nat.zero_le _⟩) (fun H locs hC => ?_)
      refine lv_if_ne (tgt := 37) hx hb dX5_work_31 (by decide) (fun c3 => ?_) (fun c3 => ?_)
      · have hf := z_f hf c3
        refine lv_aload_n hx hb dX5_work_37 rfl (lv_at hl 0 rfl) ?_
        refine zx_gX5_pieces hx hb hts zi_X5_work hown hC kf12 dX5_work_38 ?_
        refine lv_iload_n hx hb dX5_work_41 rfl (lv_at hl 1 rfl) ?_
        refine lv_iload_n hx hb dX5_work_42 rfl (lv_at hl 2 rfl) ?_
        refine lv_iload_n hx hb dX5_work_43 rfl (lv_at hl 3 rfl) ?_
        obtain ⟨u4, pu4, hf⟩ := z_bd_s hf
        refine z_callv hC (z_runV (rest := []) zx_Gok hC E (zc_X2_setYears l D cI cJ tp q u a_1 a_2 a_3 pu4 _) (cwV 3 hts gX5_work_X2_setYears rfl rfl rfl ⟨rfl, zd_X2_setYears⟩ ⟨Nat.le_of_ble_eq_true rfl, Nat.le_of_ble_eq_true rfl⟩) (zx_rcX2 hC) rfl hl.1 rfl (Nat.le_of_ble_eq_true rfl) dX5_work_44 ⟨Nat.zero_le _, Nat.zero_le _⟩) (fun H locs hC => ?_)
        refine lv_iconst (v := (1 : Int32)) hx hb dX5_work_47 (by decide) ?_
        exact z_reti hx hb hr hlk hC (Prod.mk.inj (Option.some.inj hf)).1 (Prod.mk.inj (Option.some.inj hf)).2 dX5_work_48
      · have hf := z_t hf c3
        refine lv_bipush (v := (-2 : Int32)) hx hb dX5_work_34 (by decide) ?_
        exact z_reti hx hb hr hlk hC (Prod.mk.inj (Option.some.inj hf)).1 (Prod.mk.inj (Option.some.inj hf)).2 dX5_work_36
abbrev zr_X5_thing : Room := { frames := 1, cells := 0, slots := 0, locals := 22 }
theorem zd_X5_thing : yX5_thing.cls ≠ "java/lang/invoke/MethodHandle" ∧ yX5_thing.cls ≠ "java/lang/invoke/VarHandle" ∧ (parseMethodDescriptor yX5_thing.desc).map (fun d => d.parameters.length) = some 1 := by decide +kernel
theorem zi_X5_thing : ∀ w ∈ wsX50, w ∈ wsX5_thing := fun _ h => List.mem_cons_of_mem _ (List.mem_append_left _ (List.mem_append_right _ h))
set_option maxHeartbeats 4000000 in
set_option maxRecDepth 100000 in
theorem zc_X5_thing (l : Launch) (D : va_G) (cI cJ : ClassId) (tp : Nat) (q : Nat → Nat) (u : z_St) (a_1 : Int32) {r : Int32} {u2 : z_St} (hf : zf_X5_thing u a_1 = some (r, u2)) : z_Mi l yX5_thing wsX5_thing zr_X5_thing (zx_W cI q) (zx_G tp) D cI cJ [.ref (q 5), .int a_1] u r u2 := by
  refine z_ofi (cc := cX5_thing) (maxL := 2) (ret := (some .int)) zx_Gok (by decide) rfl (Nat.le_of_ble_eq_true rfl) ?_
  intro A p e s m args below meth c ls E hr hlk hC hl
  have E : CallFix p m c cX5_thing 2 s args wsX5_thing RX5 := E
  have hx := E.1
  have hb := E.2.1
  have hml := E.2.2.1
  have hown := E.2.2.2.1
  have hts := E.2.2.2.2
  have hl : lv_has ls 2 [(0, .ref (q 5)), (1, .int a_1)] := hl
  unfold zf_X5_thing at hf
  have kf12 := hts (.fieldLink RX5 12 "DawnFair" "pieces" "LDawnFair$Pieces;") (by decide +kernel)
  refine lv_iload_n hx hb dX5_thing_0 rfl (lv_at hl 1 rfl) ?_
  refine lv_iconst (v := (1 : Int32)) hx hb dX5_thing_1 (by decide) ?_
  refine lv_iconst (v := (5 : Int32)) hx hb dX5_thing_2 (by decide) ?_
  refine z_calli hC (z_runS (rest := []) zx_Gok hC E (zc_X5_within l D cI cJ tp q u a_1 (1 : Int32) (5 : Int32) rfl _) (va_cwS 3 hts gX5_thing_X5_within rfl rfl rfl zd_X5_within ⟨Nat.le_of_ble_eq_true rfl, Nat.le_of_ble_eq_true rfl⟩) rfl hl.1 rfl (Nat.le_of_ble_eq_true rfl) dX5_thing_3 ⟨Nat.zero_le _, Nat.zero_le _⟩) (fun H locs hC => ?_)
  refine lv_if_ne (tgt := 12) hx hb dX5_thing_6 (by decide) (fun c1 => ?_) (fun c1 => ?_)
  · have hf := z_f hf c1
    refine lv_aload_n hx hb dX5_thing_12 rfl (lv_at hl 0 rfl) ?_
    refine zx_gX5_pieces hx hb hts zi_X5_thing hown hC kf12 dX5_thing_13 ?_
    refine lv_iload_n hx hb dX5_thing_16 rfl (lv_at hl 1 rfl) ?_
    obtain ⟨r2, u3, pr2, hf⟩ := z_bd2_s hf
    refine z_calli hC (z_runV (rest := []) zx_Gok hC E (zc_X2_addThing l D cI cJ tp q u a_1 pr2 _) (cwV 1 hts gX5_thing_X2_addThing rfl rfl rfl ⟨rfl, zd_X2_addThing⟩ ⟨Nat.le_of_ble_eq_true rfl, Nat.le_of_ble_eq_true rfl⟩) (zx_rcX2 hC) rfl hl.1 rfl (Nat.le_of_ble_eq_true rfl) dX5_thing_17 ⟨Nat.zero_le _, Nat.zero_le _⟩) (fun H locs hC => ?_)
    exact z_reti hx hb hr hlk hC (Prod.mk.inj (Option.some.inj hf)).1 (Prod.mk.inj (Option.some.inj hf)).2 dX5_thing_20
  · have hf := z_t hf c1
    refine lv_bipush (v := (-2 : Int32)) hx hb dX5_thing_9 (by decide) ?_
    exact z_reti hx hb hr hlk hC (Prod.mk.inj (Option.some.inj hf)).1 (Prod.mk.inj (Option.some.inj hf)).2 dX5_thing_11
abbrev zr_X5_part : Room := { frames := 3, cells := 0, slots := 0, locals := 65 }
theorem zd_X5_part : yX5_part.cls ≠ "java/lang/invoke/MethodHandle" ∧ yX5_part.cls ≠ "java/lang/invoke/VarHandle" ∧ (parseMethodDescriptor yX5_part.desc).map (fun d => d.parameters.length) = some 3 := by decide +kernel
theorem zi_X5_part : ∀ w ∈ wsX50, w ∈ wsX5_part := fun _ h => List.mem_cons_of_mem _ (List.mem_append_left _ (List.mem_append_right _ h))
set_option maxHeartbeats 4000000 in
set_option maxRecDepth 100000 in
theorem zc_X5_part (l : Launch) (D : va_G) (cI cJ : ClassId) (tp : Nat) (q : Nat → Nat) (u : z_St) (a_1 : Int32) (a_2 : Int32) (a_3 : Int32) {r : Int32} {u2 : z_St} (hf : zf_X5_part u a_1 a_2 a_3 = some (r, u2)) : z_Mi l yX5_part wsX5_part zr_X5_part (zx_W cI q) (zx_G tp) D cI cJ [.ref (q 5), .int a_1, .int a_2, .int a_3] u r u2 := by
  refine z_ofi (cc := cX5_part) (maxL := 4) (ret := (some .int)) zx_Gok (by decide) rfl (Nat.le_of_ble_eq_true rfl) ?_
  intro A p e s m args below meth c ls E hr hlk hC hl
  have E : CallFix p m c cX5_part 4 s args wsX5_part RX5 := E
  have hx := E.1
  have hb := E.2.1
  have hml := E.2.2.1
  have hown := E.2.2.2.1
  have hts := E.2.2.2.2
  have hl : lv_has ls 4 [(0, .ref (q 5)), (1, .int a_1), (2, .int a_2), (3, .int a_3)] := hl
  unfold zf_X5_part at hf
  have kf12 := hts (.fieldLink RX5 12 "DawnFair" "pieces" "LDawnFair$Pieces;") (by decide +kernel)
  refine lv_aload_n hx hb dX5_part_0 rfl (lv_at hl 0 rfl) ?_
  refine zx_gX5_pieces hx hb hts zi_X5_part hown hC kf12 dX5_part_1 ?_
  refine lv_iload_n hx hb dX5_part_4 rfl (lv_at hl 1 rfl) ?_
  refine lv_iload_n hx hb dX5_part_5 rfl (lv_at hl 2 rfl) ?_
  obtain ⟨r1, pr1, hf⟩ := z_bd_s hf
  refine z_calli hC (z_runV (rest := []) zx_Gok hC E (zc_X2_hasPart l D cI cJ tp q u a_1 a_2 pr1 _) (cwV 2 hts gX5_part_X2_hasPart rfl rfl rfl ⟨rfl, zd_X2_hasPart⟩ ⟨Nat.le_of_ble_eq_true rfl, Nat.le_of_ble_eq_true rfl⟩) (zx_rcX2 hC) rfl hl.1 rfl (Nat.le_of_ble_eq_true rfl) dX5_part_6 ⟨Nat.zero_le _, Nat.zero_le _⟩) (fun H locs hC => ?_)
  refine lv_if_eq (tgt := 23) hx hb dX5_part_9 (by decide) (fun c2 => ?_) (fun c2 => ?_)
  · have hf := z_t hf c2
    refine lv_bipush (v := (-2 : Int32)) hx hb dX5_part_23 (by decide) ?_
    exact z_reti hx hb hr hlk hC (Prod.mk.inj (Option.some.inj hf)).1 (Prod.mk.inj (Option.some.inj hf)).2 dX5_part_25
  · have hf := z_f hf c2
    refine lv_iload_n hx hb dX5_part_12 rfl (lv_at hl 3 rfl) ?_
    refine lv_iconst (v := (0 : Int32)) hx hb dX5_part_13 (by decide) ?_
    refine lv_sipush (v := (1023 : Int32)) hx hb dX5_part_14 (by decide) ?_
    refine z_calli hC (z_runS (rest := []) zx_Gok hC E (zc_X5_within l D cI cJ tp q u a_3 (0 : Int32) (1023 : Int32) rfl _) (va_cwS 3 hts gX5_part_X5_within rfl rfl rfl zd_X5_within ⟨Nat.le_of_ble_eq_true rfl, Nat.le_of_ble_eq_true rfl⟩) rfl hl.1 rfl (Nat.le_of_ble_eq_true rfl) dX5_part_17 ⟨Nat.zero_le _, Nat.zero_le _⟩) (fun H locs hC => ?_)
    refine lv_if_ne (tgt := 26) hx hb dX5_part_20 (by decide) (fun c3 => ?_) (fun c3 => ?_)
    · have hf := z_f hf c3
      refine lv_aload_n hx hb dX5_part_26 rfl (lv_at hl 0 rfl) ?_
      refine zx_gX5_pieces hx hb hts zi_X5_part hown hC kf12 dX5_part_27 ?_
      refine lv_iload_n hx hb dX5_part_30 rfl (lv_at hl 1 rfl) ?_
      refine lv_iload_n hx hb dX5_part_31 rfl (lv_at hl 2 rfl) ?_
      refine lv_iload_n hx hb dX5_part_32 rfl (lv_at hl 3 rfl) ?_
      obtain ⟨r4, u5, pr4, hf⟩ := z_bd2_s hf
      refine z_calli hC (z_runV (rest := []) zx_Gok hC E (zc_X2_changeWorks l D cI cJ tp q u a_1 a_2 a_3 pr4 _) (cwV 3 hts gX5_part_X2_changeWorks rfl rfl rfl ⟨rfl, zd_X2_changeWorks⟩ ⟨Nat.le_of_ble_eq_true rfl, Nat.le_of_ble_eq_true rfl⟩) (zx_rcX2 hC) rfl hl.1 rfl (Nat.le_of_ble_eq_true rfl) dX5_part_33 ⟨Nat.zero_le _, Nat.zero_le _⟩) (fun H locs hC => ?_)
      exact z_reti hx hb hr hlk hC (Prod.mk.inj (Option.some.inj hf)).1 (Prod.mk.inj (Option.some.inj hf)).2 dX5_part_36
    · have hf := z_t hf c3
      refine lv_bipush (v := (-2 : Int32)) hx hb dX5_part_23 (by decide) ?_
      exact z_reti hx hb hr hlk hC (Prod.mk.inj (Option.some.inj hf)).1 (Prod.mk.inj (Option.some.inj hf)).2 dX5_part_25
abbrev zr_X5_span : Room := { frames := 3, cells := 0, slots := 0, locals := 65 }
theorem zd_X5_span : yX5_span.cls ≠ "java/lang/invoke/MethodHandle" ∧ yX5_span.cls ≠ "java/lang/invoke/VarHandle" ∧ (parseMethodDescriptor yX5_span.desc).map (fun d => d.parameters.length) = some 3 := by decide +kernel
theorem zi_X5_span : ∀ w ∈ wsX50, w ∈ wsX5_span := fun _ h => List.mem_cons_of_mem _ (List.mem_append_left _ (List.mem_append_right _ h))
set_option maxHeartbeats 4000000 in
set_option maxRecDepth 100000 in
theorem zc_X5_span (l : Launch) (D : va_G) (cI cJ : ClassId) (tp : Nat) (q : Nat → Nat) (u : z_St) (a_1 : Int32) (a_2 : Int32) (a_3 : Int32) {r : Int32} (hf : zf_X5_span u a_1 a_2 a_3 = some r) : z_Mi l yX5_span wsX5_span zr_X5_span (zx_W cI q) (zx_G tp) D cI cJ [.ref (q 5), .int a_1, .int a_2, .int a_3] u r u := by
  refine z_ofi (cc := cX5_span) (maxL := 4) (ret := (some .int)) zx_Gok (by decide) rfl (Nat.le_of_ble_eq_true rfl) ?_
  intro A p e s m args below meth c ls E hr hlk hC hl
  have E : CallFix p m c cX5_span 4 s args wsX5_span RX5 := E
  have hx := E.1
  have hb := E.2.1
  have hml := E.2.2.1
  have hown := E.2.2.2.1
  have hts := E.2.2.2.2
  have hl : lv_has ls 4 [(0, .ref (q 5)), (1, .int a_1), (2, .int a_2), (3, .int a_3)] := hl
  unfold zf_X5_span at hf
  have kf12 := hts (.fieldLink RX5 12 "DawnFair" "pieces" "LDawnFair$Pieces;") (by decide +kernel)
  refine lv_aload_n hx hb dX5_span_0 rfl (lv_at hl 0 rfl) ?_
  refine zx_gX5_pieces hx hb hts zi_X5_span hown hC kf12 dX5_span_1 ?_
  refine lv_iload_n hx hb dX5_span_4 rfl (lv_at hl 1 rfl) ?_
  refine lv_iload_n hx hb dX5_span_5 rfl (lv_at hl 2 rfl) ?_
  obtain ⟨r1, pr1, hf⟩ := z_bd_s hf
  refine z_calli hC (z_runV (rest := []) zx_Gok hC E (zc_X2_hasPart l D cI cJ tp q u a_1 a_2 pr1 _) (cwV 2 hts gX5_span_X2_hasPart rfl rfl rfl ⟨rfl, zd_X2_hasPart⟩ ⟨Nat.le_of_ble_eq_true rfl, Nat.le_of_ble_eq_true rfl⟩) (zx_rcX2 hC) rfl hl.1 rfl (Nat.le_of_ble_eq_true rfl) dX5_span_6 ⟨Nat.zero_le _, Nat.zero_le _⟩) (fun H locs hC => ?_)
  refine lv_if_eq (tgt := 21) hx hb dX5_span_9 (by decide) (fun c2 => ?_) (fun c2 => ?_)
  · have hf := z_t hf c2
    refine lv_bipush (v := (-2 : Int32)) hx hb dX5_span_21 (by decide) ?_
    exact z_reti hx hb hr hlk hC (Option.some.inj hf) rfl dX5_span_23
  · have hf := z_f hf c2
    refine lv_iload_n hx hb dX5_span_12 rfl (lv_at hl 3 rfl) ?_
    refine lv_iconst (v := (0 : Int32)) hx hb dX5_span_13 (by decide) ?_
    refine lv_iconst (v := (1 : Int32)) hx hb dX5_span_14 (by decide) ?_
    refine z_calli hC (z_runS (rest := []) zx_Gok hC E (zc_X5_within l D cI cJ tp q u a_3 (0 : Int32) (1 : Int32) rfl _) (va_cwS 3 hts gX5_span_X5_within rfl rfl rfl zd_X5_within ⟨Nat.le_of_ble_eq_true rfl, Nat.le_of_ble_eq_true rfl⟩) rfl hl.1 rfl (Nat.le_of_ble_eq_true rfl) dX5_span_15 ⟨Nat.zero_le _, Nat.zero_le _⟩) (fun H locs hC => ?_)
    refine lv_if_ne (tgt := 24) hx hb dX5_span_18 (by decide) (fun c3 => ?_) (fun c3 => ?_)
    · have hf := z_f hf c3
      refine lv_aload_n hx hb dX5_span_24 rfl (lv_at hl 0 rfl) ?_
      refine zx_gX5_pieces hx hb hts zi_X5_span hown hC kf12 dX5_span_25 ?_
      refine lv_aload_n hx hb dX5_span_28 rfl (lv_at hl 0 rfl) ?_
      refine zx_gX5_pieces hx hb hts zi_X5_span hown hC kf12 dX5_span_29 ?_
      refine lv_iload_n hx hb dX5_span_32 rfl (lv_at hl 1 rfl) ?_
      refine lv_iload_n hx hb dX5_span_33 rfl (lv_at hl 2 rfl) ?_
      obtain ⟨r4, pr4, hf⟩ := z_bd_s hf
      refine z_calli hC (z_runV (rest := [_]) zx_Gok hC E (zc_X2_worksOf l D cI cJ tp q u a_1 a_2 pr4 _) (cwV 2 hts gX5_span_X2_worksOf rfl rfl rfl ⟨rfl, zd_X2_worksOf⟩ ⟨Nat.le_of_ble_eq_true rfl, Nat.le_of_ble_eq_true rfl⟩) (zx_rcX2 hC) rfl hl.1 rfl (Nat.le_of_ble_eq_true rfl) dX5_span_34 ⟨Nat.zero_le _, Nat.zero_le _⟩) (fun H locs hC => ?_)
      refine lv_iload_n hx hb dX5_span_37 rfl (lv_at hl 3 rfl) ?_
      obtain ⟨r5, pr5, hf⟩ := z_bd_s hf
      refine z_calli hC (z_runV (rest := []) zx_Gok hC E (zc_X2_yearOf l D cI cJ tp q u r4 a_3 pr5 _) (cwV 2 hts gX5_span_X2_yearOf rfl rfl rfl ⟨rfl, zd_X2_yearOf⟩ ⟨Nat.le_of_ble_eq_true rfl, Nat.le_of_ble_eq_true rfl⟩) (zx_rcX2 hC) rfl hl.1 rfl (Nat.le_of_ble_eq_true rfl) dX5_span_38 ⟨Nat.zero_le _, Nat.zero_le _⟩) (fun H locs hC => ?_)
      exact z_reti hx hb hr hlk hC (Option.some.inj hf) rfl dX5_span_41
    · have hf := z_t hf c3
      refine lv_bipush (v := (-2 : Int32)) hx hb dX5_span_21 (by decide) ?_
      exact z_reti hx hb hr hlk hC (Option.some.inj hf) rfl dX5_span_23
abbrev zr_X5_apart : Room := { frames := 3, cells := 0, slots := 0, locals := 71 }
theorem zd_X5_apart : yX5_apart.cls ≠ "java/lang/invoke/MethodHandle" ∧ yX5_apart.cls ≠ "java/lang/invoke/VarHandle" ∧ (parseMethodDescriptor yX5_apart.desc).map (fun d => d.parameters.length) = some 1 := by decide +kernel
theorem zi_X5_apart : ∀ w ∈ wsX50, w ∈ wsX5_apart := fun _ h => List.mem_cons_of_mem _ (List.mem_append_left _ (List.mem_append_right _ h))
set_option maxHeartbeats 4000000 in
set_option maxRecDepth 100000 in
theorem zc_X5_apart (l : Launch) (D : va_G) (cI cJ : ClassId) (tp : Nat) (q : Nat → Nat) (u : z_St) (a_1 : Int32) {r : Int32} (hf : zf_X5_apart u a_1 = some r) : z_Mi l yX5_apart wsX5_apart zr_X5_apart (zx_W cI q) (zx_G tp) D cI cJ [.ref (q 5), .int a_1] u r u := by
  refine z_ofi (cc := cX5_apart) (maxL := 2) (ret := (some .int)) zx_Gok (by decide) rfl (Nat.le_of_ble_eq_true rfl) ?_
  intro A p e s m args below meth c ls E hr hlk hC hl
  have E : CallFix p m c cX5_apart 2 s args wsX5_apart RX5 := E
  have hx := E.1
  have hb := E.2.1
  have hml := E.2.2.1
  have hown := E.2.2.2.1
  have hts := E.2.2.2.2
  have hl : lv_has ls 2 [(0, .ref (q 5)), (1, .int a_1)] := hl
  unfold zf_X5_apart at hf
  have kf12 := hts (.fieldLink RX5 12 "DawnFair" "pieces" "LDawnFair$Pieces;") (by decide +kernel)
  refine lv_aload_n hx hb dX5_apart_0 rfl (lv_at hl 0 rfl) ?_
  refine zx_gX5_pieces hx hb hts zi_X5_apart hown hC kf12 dX5_apart_1 ?_
  refine lv_iload_n hx hb dX5_apart_4 rfl (lv_at hl 1 rfl) ?_
  refine z_calli hC (z_runV (rest := []) zx_Gok hC E (zc_X2_hasThing l D cI cJ tp q u a_1 rfl _) (cwV 1 hts gX5_apart_X2_hasThing rfl rfl rfl ⟨rfl, zd_X2_hasThing⟩ ⟨Nat.le_of_ble_eq_true rfl, Nat.le_of_ble_eq_true rfl⟩) (zx_rcX2 hC) rfl hl.1 rfl (Nat.le_of_ble_eq_true rfl) dX5_apart_5 ⟨Nat.zero_le _, Nat.zero_le _⟩) (fun H locs hC => ?_)
  refine lv_if_ne (tgt := 14) hx hb dX5_apart_8 (by decide) (fun c1 => ?_) (fun c1 => ?_)
  · have hf := z_f hf c1
    refine lv_aload_n hx hb dX5_apart_14 rfl (lv_at hl 0 rfl) ?_
    refine zx_gX5_pieces hx hb hts zi_X5_apart hown hC kf12 dX5_apart_15 ?_
    refine lv_iload_n hx hb dX5_apart_18 rfl (lv_at hl 1 rfl) ?_
    obtain ⟨r2, pr2, hf⟩ := z_bd_s hf
    refine z_calli hC (z_runV (rest := []) zx_Gok hC E (zc_X2_strangers l D cI cJ tp q u a_1 pr2 _) (cwV 1 hts gX5_apart_X2_strangers rfl rfl rfl ⟨rfl, zd_X2_strangers⟩ ⟨Nat.le_of_ble_eq_true rfl, Nat.le_of_ble_eq_true rfl⟩) (zx_rcX2 hC) rfl hl.1 rfl (Nat.le_of_ble_eq_true rfl) dX5_apart_19 ⟨Nat.zero_le _, Nat.zero_le _⟩) (fun H locs hC => ?_)
    exact z_reti hx hb hr hlk hC (Option.some.inj hf) rfl dX5_apart_22
  · have hf := z_t hf c1
    refine lv_bipush (v := (-2 : Int32)) hx hb dX5_apart_11 (by decide) ?_
    exact z_reti hx hb hr hlk hC (Option.some.inj hf) rfl dX5_apart_13
abbrev zr_X5_date : Room := { frames := 3, cells := 0, slots := 0, locals := 71 }
theorem zd_X5_date : yX5_date.cls ≠ "java/lang/invoke/MethodHandle" ∧ yX5_date.cls ≠ "java/lang/invoke/VarHandle" ∧ (parseMethodDescriptor yX5_date.desc).map (fun d => d.parameters.length) = some 2 := by decide +kernel
theorem zi_X5_date : ∀ w ∈ wsX50, w ∈ wsX5_date := fun _ h => List.mem_cons_of_mem _ (List.mem_append_left _ (List.mem_append_right _ h))
set_option maxHeartbeats 4000000 in
set_option maxRecDepth 100000 in
theorem zc_X5_date (l : Launch) (D : va_G) (cI cJ : ClassId) (tp : Nat) (q : Nat → Nat) (u : z_St) (a_1 : Int32) (a_2 : Int32) {r : Int32} (hf : zf_X5_date u a_1 a_2 = some r) : z_Mi l yX5_date wsX5_date zr_X5_date (zx_W cI q) (zx_G tp) D cI cJ [.ref (q 5), .int a_1, .int a_2] u r u := by
  refine z_ofi (cc := cX5_date) (maxL := 4) (ret := (some .int)) zx_Gok (by decide) rfl (Nat.le_of_ble_eq_true rfl) ?_
  intro A p e s m args below meth c ls E hr hlk hC hl
  have E : CallFix p m c cX5_date 4 s args wsX5_date RX5 := E
  have hx := E.1
  have hb := E.2.1
  have hml := E.2.2.1
  have hown := E.2.2.2.1
  have hts := E.2.2.2.2
  have hl : lv_has ls 4 [(0, .ref (q 5)), (1, .int a_1), (2, .int a_2)] := hl
  unfold zf_X5_date at hf
  have kf12 := hts (.fieldLink RX5 12 "DawnFair" "pieces" "LDawnFair$Pieces;") (by decide +kernel)
  refine lv_aload_n hx hb dX5_date_0 rfl (lv_at hl 0 rfl) ?_
  refine zx_gX5_pieces hx hb hts zi_X5_date hown hC kf12 dX5_date_1 ?_
  refine lv_iload_n hx hb dX5_date_4 rfl (lv_at hl 1 rfl) ?_
  refine z_calli hC (z_runV (rest := []) zx_Gok hC E (zc_X2_hasThing l D cI cJ tp q u a_1 rfl _) (cwV 1 hts gX5_date_X2_hasThing rfl rfl rfl ⟨rfl, zd_X2_hasThing⟩ ⟨Nat.le_of_ble_eq_true rfl, Nat.le_of_ble_eq_true rfl⟩) (zx_rcX2 hC) rfl hl.1 rfl (Nat.le_of_ble_eq_true rfl) dX5_date_5 ⟨Nat.zero_le _, Nat.zero_le _⟩) (fun H locs hC => ?_)
  refine lv_if_eq (tgt := 20) hx hb dX5_date_8 (by decide) (fun c1 => ?_) (fun c1 => ?_)
  · have hf := z_t hf c1
    refine lv_bipush (v := (-2 : Int32)) hx hb dX5_date_20 (by decide) ?_
    exact z_reti hx hb hr hlk hC (Option.some.inj hf) rfl dX5_date_22
  · have hf := z_f hf c1
    refine lv_iload_n hx hb dX5_date_11 rfl (lv_at hl 2 rfl) ?_
    refine lv_iconst (v := (0 : Int32)) hx hb dX5_date_12 (by decide) ?_
    refine lv_iconst (v := (1 : Int32)) hx hb dX5_date_13 (by decide) ?_
    refine z_calli hC (z_runS (rest := []) zx_Gok hC E (zc_X5_within l D cI cJ tp q u a_2 (0 : Int32) (1 : Int32) rfl _) (va_cwS 3 hts gX5_date_X5_within rfl rfl rfl zd_X5_within ⟨Nat.le_of_ble_eq_true rfl, Nat.le_of_ble_eq_true rfl⟩) rfl hl.1 rfl (Nat.le_of_ble_eq_true rfl) dX5_date_14 ⟨Nat.zero_le _, Nat.zero_le _⟩) (fun H locs hC => ?_)
    refine lv_if_ne (tgt := 23) hx hb dX5_date_17 (by decide) (fun c2 => ?_) (fun c2 => ?_)
    · have hf := z_f hf c2
      refine lv_aload_n hx hb dX5_date_23 rfl (lv_at hl 0 rfl) ?_
      refine zx_gX5_pieces hx hb hts zi_X5_date hown hC kf12 dX5_date_24 ?_
      refine lv_iload_n hx hb dX5_date_27 rfl (lv_at hl 1 rfl) ?_
      obtain ⟨r3, pr3, hf⟩ := z_bd_s hf
      refine z_calli hC (z_runV (rest := []) zx_Gok hC E (zc_X2_strangers l D cI cJ tp q u a_1 pr3 _) (cwV 1 hts gX5_date_X2_strangers rfl rfl rfl ⟨rfl, zd_X2_strangers⟩ ⟨Nat.le_of_ble_eq_true rfl, Nat.le_of_ble_eq_true rfl⟩) (zx_rcX2 hC) rfl hl.1 rfl (Nat.le_of_ble_eq_true rfl) dX5_date_28 ⟨Nat.zero_le _, Nat.zero_le _⟩) (fun H locs hC => ?_)
      refine lv_istore_n (lv' := [(3, _), (0, _), (1, _), (2, _)]) hx hb dX5_date_31 rfl hl (by decide) rfl (fun ls hl => ?_)
      refine lv_iload_n hx hb dX5_date_32 rfl (lv_at hl 0 rfl) ?_
      refine lv_iconst (v := (-1 : Int32)) hx hb dX5_date_33 (by decide) ?_
      refine lv_icmp_ne (tgt := 39) hx hb dX5_date_34 (by decide) (fun c4 => ?_) (fun c4 => ?_)
      · have hf := z_f hf c4
        refine lv_aload_n hx hb dX5_date_39 rfl (lv_at hl 1 rfl) ?_
        refine zx_gX5_pieces hx hb hts zi_X5_date hown hC kf12 dX5_date_40 ?_
        refine lv_aload_n hx hb dX5_date_43 rfl (lv_at hl 1 rfl) ?_
        refine zx_gX5_pieces hx hb hts zi_X5_date hown hC kf12 dX5_date_44 ?_
        refine lv_iload_n hx hb dX5_date_47 rfl (lv_at hl 2 rfl) ?_
        refine lv_iload_n hx hb dX5_date_48 rfl (lv_at hl 0 rfl) ?_
        obtain ⟨r5, pr5, hf⟩ := z_bd_s hf
        refine z_calli hC (z_runV (rest := [_]) zx_Gok hC E (zc_X2_worksWithout l D cI cJ tp q u a_1 r3 pr5 _) (cwV 2 hts gX5_date_X2_worksWithout rfl rfl rfl ⟨rfl, zd_X2_worksWithout⟩ ⟨Nat.le_of_ble_eq_true rfl, Nat.le_of_ble_eq_true rfl⟩) (zx_rcX2 hC) rfl hl.1 rfl (Nat.le_of_ble_eq_true rfl) dX5_date_49 ⟨Nat.zero_le _, Nat.zero_le _⟩) (fun H locs hC => ?_)
        refine lv_iload_n hx hb dX5_date_52 rfl (lv_at hl 3 rfl) ?_
        obtain ⟨r6, pr6, hf⟩ := z_bd_s hf
        refine z_calli hC (z_runV (rest := []) zx_Gok hC E (zc_X2_yearOf l D cI cJ tp q u r5 a_2 pr6 _) (cwV 2 hts gX5_date_X2_yearOf rfl rfl rfl ⟨rfl, zd_X2_yearOf⟩ ⟨Nat.le_of_ble_eq_true rfl, Nat.le_of_ble_eq_true rfl⟩) (zx_rcX2 hC) rfl hl.1 rfl (Nat.le_of_ble_eq_true rfl) dX5_date_53 ⟨Nat.zero_le _, Nat.zero_le _⟩) (fun H locs hC => ?_)
        exact z_reti hx hb hr hlk hC (Option.some.inj hf) rfl dX5_date_56
      · have hf := z_t hf c4
        refine lv_iconst (v := (-1 : Int32)) hx hb dX5_date_37 (by decide) ?_
        exact z_reti hx hb hr hlk hC (Option.some.inj hf) rfl dX5_date_38
    · have hf := z_t hf c2
      refine lv_bipush (v := (-2 : Int32)) hx hb dX5_date_20 (by decide) ?_
      exact z_reti hx hb hr hlk hC (Option.some.inj hf) rfl dX5_date_22
abbrev zr_X5_hold : Room := { frames := 2, cells := 0, slots := 0, locals := 43 }
theorem zd_X5_hold : yX5_hold.cls ≠ "java/lang/invoke/MethodHandle" ∧ yX5_hold.cls ≠ "java/lang/invoke/VarHandle" ∧ (parseMethodDescriptor yX5_hold.desc).map (fun d => d.parameters.length) = some 2 := by decide +kernel
theorem zi_X5_hold : ∀ w ∈ wsX50, w ∈ wsX5_hold := fun _ h => List.mem_cons_of_mem _ (List.mem_append_left _ (List.mem_append_left _ (List.mem_append_right _ h)))
set_option maxHeartbeats 4000000 in
set_option maxRecDepth 100000 in
theorem zc_X5_hold (l : Launch) (D : va_G) (cI cJ : ClassId) (tp : Nat) (q : Nat → Nat) (u : z_St) (a_1 : Int32) (a_2 : Int32) {r : Int32} {u2 : z_St} (hf : zf_X5_hold u a_1 a_2 = some (r, u2)) : z_Mi l yX5_hold wsX5_hold zr_X5_hold (zx_W cI q) (zx_G tp) D cI cJ [.ref (q 5), .int a_1, .int a_2] u r u2 := by
  refine z_ofi (cc := cX5_hold) (maxL := 3) (ret := (some .int)) zx_Gok (by decide) rfl (Nat.le_of_ble_eq_true rfl) ?_
  intro A p e s m args below meth c ls E hr hlk hC hl
  have E : CallFix p m c cX5_hold 3 s args wsX5_hold RX5 := E
  have hx := E.1
  have hb := E.2.1
  have hml := E.2.2.1
  have hown := E.2.2.2.1
  have hts := E.2.2.2.2
  have hl : lv_has ls 3 [(0, .ref (q 5)), (1, .int a_1), (2, .int a_2)] := hl
  unfold zf_X5_hold at hf
  have kf12 := hts (.fieldLink RX5 12 "DawnFair" "pieces" "LDawnFair$Pieces;") (by decide +kernel)
  have kf19 := hts (.fieldLink RX5 19 "DawnFair" "trade" "LDawnFair$Trade;") (by decide +kernel)
  refine lv_aload_n hx hb dX5_hold_0 rfl (lv_at hl 0 rfl) ?_
  refine zx_gX5_pieces hx hb hts zi_X5_hold hown hC kf12 dX5_hold_1 ?_
  refine lv_iload_n hx hb dX5_hold_4 rfl (lv_at hl 1 rfl) ?_
  refine z_calli hC (z_runV (rest := []) zx_Gok hC E (zc_X2_hasThing l D cI cJ tp q u a_1 rfl _) (cwV 1 hts gX5_hold_X2_hasThing rfl rfl rfl ⟨rfl, zd_X2_hasThing⟩ ⟨Nat.le_of_ble_eq_true rfl, Nat.le_of_ble_eq_true rfl⟩) (zx_rcX2 hC) rfl hl.1 rfl (Nat.le_of_ble_eq_true rfl) dX5_hold_5 ⟨Nat.zero_le _, Nat.zero_le _⟩) (fun H locs hC => ?_)
  refine lv_if_eq (tgt := 21) hx hb dX5_hold_8 (by decide) (fun c1 => ?_) (fun c1 => ?_)
  · have hf := z_t hf c1
    refine lv_bipush (v := (-2 : Int32)) hx hb dX5_hold_21 (by decide) ?_
    exact z_reti hx hb hr hlk hC (Prod.mk.inj (Option.some.inj hf)).1 (Prod.mk.inj (Option.some.inj hf)).2 dX5_hold_23
  · have hf := z_f hf c1
    refine lv_iload_n hx hb dX5_hold_11 rfl (lv_at hl 2 rfl) ?_
    refine lv_iconst (v := (-1 : Int32)) hx hb dX5_hold_12 (by decide) ?_
    refine lv_bipush (v := (7 : Int32)) hx hb dX5_hold_13 (by decide) ?_
    refine z_calli hC (z_runS (rest := []) zx_Gok hC E (zc_X5_within l D cI cJ tp q u a_2 (-1 : Int32) (7 : Int32) rfl _) (va_cwS 3 hts gX5_hold_X5_within rfl rfl rfl zd_X5_within ⟨Nat.le_of_ble_eq_true rfl, Nat.le_of_ble_eq_true rfl⟩) rfl hl.1 rfl (Nat.le_of_ble_eq_true rfl) dX5_hold_15 ⟨Nat.zero_le _, Nat.zero_le _⟩) (fun H locs hC => ?_)
    refine lv_if_ne (tgt := 24) hx hb dX5_hold_18 (by decide) (fun c2 => ?_) (fun c2 => ?_)
    · have hf := z_f hf c2
      refine lv_aload_n hx hb dX5_hold_24 rfl (lv_at hl 0 rfl) ?_
      refine zx_gX5_trade hx hb hts zi_X5_hold hown hC kf19 dX5_hold_25 ?_
      refine lv_iload_n hx hb dX5_hold_28 rfl (lv_at hl 1 rfl) ?_
      refine lv_iload_n hx hb dX5_hold_29 rfl (lv_at hl 2 rfl) ?_
      obtain ⟨r3, u4, pr3, hf⟩ := z_bd2_s hf
      refine z_calli hC (z_runV (rest := []) zx_Gok hC E (zc_X4_handOver l D cI cJ tp q u a_1 a_2 pr3 _) (cwV 2 hts gX5_hold_X4_handOver rfl rfl rfl ⟨rfl, zd_X4_handOver⟩ ⟨Nat.le_of_ble_eq_true rfl, Nat.le_of_ble_eq_true rfl⟩) (zx_rcX4 hC) rfl hl.1 rfl (Nat.le_of_ble_eq_true rfl) dX5_hold_30 ⟨Nat.zero_le _, Nat.zero_le _⟩) (fun H locs hC => ?_)
      exact z_reti hx hb hr hlk hC (Prod.mk.inj (Option.some.inj hf)).1 (Prod.mk.inj (Option.some.inj hf)).2 dX5_hold_33
    · have hf := z_t hf c2
      refine lv_bipush (v := (-2 : Int32)) hx hb dX5_hold_21 (by decide) ?_
      exact z_reti hx hb hr hlk hC (Prod.mk.inj (Option.some.inj hf)).1 (Prod.mk.inj (Option.some.inj hf)).2 dX5_hold_23
abbrev zr_X5_holder : Room := { frames := 2, cells := 0, slots := 0, locals := 43 }
theorem zd_X5_holder : yX5_holder.cls ≠ "java/lang/invoke/MethodHandle" ∧ yX5_holder.cls ≠ "java/lang/invoke/VarHandle" ∧ (parseMethodDescriptor yX5_holder.desc).map (fun d => d.parameters.length) = some 1 := by decide +kernel
theorem zi_X5_holder : ∀ w ∈ wsX50, w ∈ wsX5_holder := fun _ h => List.mem_cons_of_mem _ (List.mem_append_left _ (List.mem_append_left _ (List.mem_append_right _ h)))
set_option maxHeartbeats 4000000 in
set_option maxRecDepth 100000 in
theorem zc_X5_holder (l : Launch) (D : va_G) (cI cJ : ClassId) (tp : Nat) (q : Nat → Nat) (u : z_St) (a_1 : Int32) {r : Int32} (hf : zf_X5_holder u a_1 = some r) : z_Mi l yX5_holder wsX5_holder zr_X5_holder (zx_W cI q) (zx_G tp) D cI cJ [.ref (q 5), .int a_1] u r u := by
  refine z_ofi (cc := cX5_holder) (maxL := 2) (ret := (some .int)) zx_Gok (by decide) rfl (Nat.le_of_ble_eq_true rfl) ?_
  intro A p e s m args below meth c ls E hr hlk hC hl
  have E : CallFix p m c cX5_holder 2 s args wsX5_holder RX5 := E
  have hx := E.1
  have hb := E.2.1
  have hml := E.2.2.1
  have hown := E.2.2.2.1
  have hts := E.2.2.2.2
  have hl : lv_has ls 2 [(0, .ref (q 5)), (1, .int a_1)] := hl
  unfold zf_X5_holder at hf
  have kf12 := hts (.fieldLink RX5 12 "DawnFair" "pieces" "LDawnFair$Pieces;") (by decide +kernel)
  have kf19 := hts (.fieldLink RX5 19 "DawnFair" "trade" "LDawnFair$Trade;") (by decide +kernel)
  refine lv_aload_n hx hb dX5_holder_0 rfl (lv_at hl 0 rfl) ?_
  refine zx_gX5_pieces hx hb hts zi_X5_holder hown hC kf12 dX5_holder_1 ?_
  refine lv_iload_n hx hb dX5_holder_4 rfl (lv_at hl 1 rfl) ?_
  refine z_calli hC (z_runV (rest := []) zx_Gok hC E (zc_X2_hasThing l D cI cJ tp q u a_1 rfl _) (cwV 1 hts gX5_holder_X2_hasThing rfl rfl rfl ⟨rfl, zd_X2_hasThing⟩ ⟨Nat.le_of_ble_eq_true rfl, Nat.le_of_ble_eq_true rfl⟩) (zx_rcX2 hC) rfl hl.1 rfl (Nat.le_of_ble_eq_true rfl) dX5_holder_5 ⟨Nat.zero_le _, Nat.zero_le _⟩) (fun H locs hC => ?_)
  refine lv_if_ne (tgt := 14) hx hb dX5_holder_8 (by decide) (fun c1 => ?_) (fun c1 => ?_)
  · have hf := z_f hf c1
    refine lv_aload_n hx hb dX5_holder_14 rfl (lv_at hl 0 rfl) ?_
    refine zx_gX5_trade hx hb hts zi_X5_holder hown hC kf19 dX5_holder_15 ?_
    refine lv_iload_n hx hb dX5_holder_18 rfl (lv_at hl 1 rfl) ?_
    obtain ⟨r2, pr2, hf⟩ := z_bd_s hf
    refine z_calli hC (z_runV (rest := []) zx_Gok hC E (zc_X4_holderOf l D cI cJ tp q u a_1 pr2 _) (cwV 1 hts gX5_holder_X4_holderOf rfl rfl rfl ⟨rfl, zd_X4_holderOf⟩ ⟨Nat.le_of_ble_eq_true rfl, Nat.le_of_ble_eq_true rfl⟩) (zx_rcX4 hC) rfl hl.1 rfl (Nat.le_of_ble_eq_true rfl) dX5_holder_19 ⟨Nat.zero_le _, Nat.zero_le _⟩) (fun H locs hC => ?_)
    exact z_reti hx hb hr hlk hC (Option.some.inj hf) rfl dX5_holder_22
  · have hf := z_t hf c1
    refine lv_bipush (v := (-2 : Int32)) hx hb dX5_holder_11 (by decide) ?_
    exact z_reti hx hb hr hlk hC (Option.some.inj hf) rfl dX5_holder_13
abbrev zr_X5_hours : Room := { frames := 1, cells := 0, slots := 0, locals := 22 }
theorem zd_X5_hours : yX5_hours.cls ≠ "java/lang/invoke/MethodHandle" ∧ yX5_hours.cls ≠ "java/lang/invoke/VarHandle" ∧ (parseMethodDescriptor yX5_hours.desc).map (fun d => d.parameters.length) = some 1 := by decide +kernel
theorem zi_X5_hours : ∀ w ∈ wsX50, w ∈ wsX5_hours := fun _ h => List.mem_cons_of_mem _ (List.mem_append_left _ (List.mem_append_right _ h))
set_option maxHeartbeats 4000000 in
set_option maxRecDepth 100000 in
theorem zc_X5_hours (l : Launch) (D : va_G) (cI cJ : ClassId) (tp : Nat) (q : Nat → Nat) (u : z_St) (a_1 : Int32) {r : Int32} {u2 : z_St} (hf : zf_X5_hours u a_1 = some (r, u2)) : z_Mi l yX5_hours wsX5_hours zr_X5_hours (zx_W cI q) (zx_G tp) D cI cJ [.ref (q 5), .int a_1] u r u2 := by
  refine z_ofi (cc := cX5_hours) (maxL := 2) (ret := (some .int)) zx_Gok (by decide) rfl (Nat.le_of_ble_eq_true rfl) ?_
  intro A p e s m args below meth c ls E hr hlk hC hl
  have E : CallFix p m c cX5_hours 2 s args wsX5_hours RX5 := E
  have hx := E.1
  have hb := E.2.1
  have hml := E.2.2.1
  have hown := E.2.2.2.1
  have hts := E.2.2.2.2
  have hl : lv_has ls 2 [(0, .ref (q 5)), (1, .int a_1)] := hl
  unfold zf_X5_hours at hf
  have kf19 := hts (.fieldLink RX5 19 "DawnFair" "trade" "LDawnFair$Trade;") (by decide +kernel)
  refine lv_iload_n hx hb dX5_hours_0 rfl (lv_at hl 1 rfl) ?_
  refine lv_iconst (v := (1 : Int32)) hx hb dX5_hours_1 (by decide) ?_
  refine lv_bipush (v := (20 : Int32)) hx hb dX5_hours_2 (by decide) ?_
  refine z_calli hC (z_runS (rest := []) zx_Gok hC E (zc_X5_within l D cI cJ tp q u a_1 (1 : Int32) (20 : Int32) rfl _) (va_cwS 3 hts gX5_hours_X5_within rfl rfl rfl zd_X5_within ⟨Nat.le_of_ble_eq_true rfl, Nat.le_of_ble_eq_true rfl⟩) rfl hl.1 rfl (Nat.le_of_ble_eq_true rfl) dX5_hours_4 ⟨Nat.zero_le _, Nat.zero_le _⟩) (fun H locs hC => ?_)
  refine lv_if_ne (tgt := 13) hx hb dX5_hours_7 (by decide) (fun c1 => ?_) (fun c1 => ?_)
  · have hf := z_f hf c1
    refine lv_aload_n hx hb dX5_hours_13 rfl (lv_at hl 0 rfl) ?_
    refine zx_gX5_trade hx hb hts zi_X5_hours hown hC kf19 dX5_hours_14 ?_
    refine lv_iload_n hx hb dX5_hours_17 rfl (lv_at hl 1 rfl) ?_
    obtain ⟨r2, u3, pr2, hf⟩ := z_bd2_s hf
    refine z_calli hC (z_runV (rest := []) zx_Gok hC E (zc_X4_passHours l D cI cJ tp q u a_1 pr2 _) (cwV 1 hts gX5_hours_X4_passHours rfl rfl rfl ⟨rfl, zd_X4_passHours⟩ ⟨Nat.le_of_ble_eq_true rfl, Nat.le_of_ble_eq_true rfl⟩) (zx_rcX4 hC) rfl hl.1 rfl (Nat.le_of_ble_eq_true rfl) dX5_hours_18 ⟨Nat.zero_le _, Nat.zero_le _⟩) (fun H locs hC => ?_)
    exact z_reti hx hb hr hlk hC (Prod.mk.inj (Option.some.inj hf)).1 (Prod.mk.inj (Option.some.inj hf)).2 dX5_hours_21
  · have hf := z_t hf c1
    refine lv_bipush (v := (-2 : Int32)) hx hb dX5_hours_10 (by decide) ?_
    exact z_reti hx hb hr hlk hC (Prod.mk.inj (Option.some.inj hf)).1 (Prod.mk.inj (Option.some.inj hf)).2 dX5_hours_12
abbrev zr_X5_sell : Room := { frames := 2, cells := 0, slots := 0, locals := 49 }
theorem zd_X5_sell : yX5_sell.cls ≠ "java/lang/invoke/MethodHandle" ∧ yX5_sell.cls ≠ "java/lang/invoke/VarHandle" ∧ (parseMethodDescriptor yX5_sell.desc).map (fun d => d.parameters.length) = some 4 := by decide +kernel
theorem zi_X5_sell : ∀ w ∈ wsX50, w ∈ wsX5_sell := fun _ h => List.mem_cons_of_mem _ (List.mem_append_left _ (List.mem_append_left _ (List.mem_append_right _ h)))
set_option maxHeartbeats 4000000 in
set_option maxRecDepth 100000 in
theorem zc_X5_sell (l : Launch) (D : va_G) (cI cJ : ClassId) (tp : Nat) (q : Nat → Nat) (u : z_St) (a_1 : Int32) (a_2 : Int32) (a_3 : Int32) (a_4 : Int32) {r : Int32} {u2 : z_St} (hf : zf_X5_sell u a_1 a_2 a_3 a_4 = some (r, u2)) : z_Mi l yX5_sell wsX5_sell zr_X5_sell (zx_W cI q) (zx_G tp) D cI cJ [.ref (q 5), .int a_1, .int a_2, .int a_3, .int a_4] u r u2 := by
  refine z_ofi (cc := cX5_sell) (maxL := 5) (ret := (some .int)) zx_Gok (by decide) rfl (Nat.le_of_ble_eq_true rfl) ?_
  intro A p e s m args below meth c ls E hr hlk hC hl
  have E : CallFix p m c cX5_sell 5 s args wsX5_sell RX5 := E
  have hx := E.1
  have hb := E.2.1
  have hml := E.2.2.1
  have hown := E.2.2.2.1
  have hts := E.2.2.2.2
  have hl : lv_has ls 5 [(0, .ref (q 5)), (1, .int a_1), (2, .int a_2), (3, .int a_3), (4, .int a_4)] := hl
  unfold zf_X5_sell at hf
  have kf12 := hts (.fieldLink RX5 12 "DawnFair" "pieces" "LDawnFair$Pieces;") (by decide +kernel)
  have kc93 := hts (.constant RX5 93 (100000)) (by decide +kernel)
  have kf19 := hts (.fieldLink RX5 19 "DawnFair" "trade" "LDawnFair$Trade;") (by decide +kernel)
  refine lv_aload_n hx hb dX5_sell_0 rfl (lv_at hl 0 rfl) ?_
  refine zx_gX5_pieces hx hb hts zi_X5_sell hown hC kf12 dX5_sell_1 ?_
  refine lv_iload_n hx hb dX5_sell_4 rfl (lv_at hl 1 rfl) ?_
  refine z_calli hC (z_runV (rest := []) zx_Gok hC E (zc_X2_hasThing l D cI cJ tp q u a_1 rfl _) (cwV 1 hts gX5_sell_X2_hasThing rfl rfl rfl ⟨rfl, zd_X2_hasThing⟩ ⟨Nat.le_of_ble_eq_true rfl, Nat.le_of_ble_eq_true rfl⟩) (zx_rcX2 hC) rfl hl.1 rfl (Nat.le_of_ble_eq_true rfl) dX5_sell_5 ⟨Nat.zero_le _, Nat.zero_le _⟩) (fun H locs hC => ?_)
  refine lv_if_eq (tgt := 40) hx hb dX5_sell_8 (by decide) (fun c1 => ?_) (fun c1 => ?_)
  · have hf := z_t hf c1
    refine lv_bipush (v := (-2 : Int32)) hx hb dX5_sell_40 (by decide) ?_
    exact z_reti hx hb hr hlk hC (Prod.mk.inj (Option.some.inj hf)).1 (Prod.mk.inj (Option.some.inj hf)).2 dX5_sell_42
  · have hf := z_f hf c1
    refine lv_iload_n hx hb dX5_sell_11 rfl (lv_at hl 2 rfl) ?_
    refine z_calli hC (z_runS (rest := []) zx_Gok hC E (zc_X5_isDealer l D cI cJ tp q u a_2 rfl _) (va_cwS 1 hts gX5_sell_X5_isDealer rfl rfl rfl zd_X5_isDealer ⟨Nat.le_of_ble_eq_true rfl, Nat.le_of_ble_eq_true rfl⟩) rfl hl.1 rfl (Nat.le_of_ble_eq_true rfl) dX5_sell_12 ⟨Nat.zero_le _, Nat.zero_le _⟩) (fun H locs hC => ?_)
    refine lv_if_eq (tgt := 40) hx hb dX5_sell_15 (by decide) (fun c2 => ?_) (fun c2 => ?_)
    · have hf := z_t hf c2
      refine lv_bipush (v := (-2 : Int32)) hx hb dX5_sell_40 (by decide) ?_
      exact z_reti hx hb hr hlk hC (Prod.mk.inj (Option.some.inj hf)).1 (Prod.mk.inj (Option.some.inj hf)).2 dX5_sell_42
    · have hf := z_f hf c2
      refine lv_iload_n hx hb dX5_sell_18 rfl (lv_at hl 3 rfl) ?_
      refine lv_iconst (v := (0 : Int32)) hx hb dX5_sell_19 (by decide) ?_
      refine lv_ldc (own := RX5) (v := (100000 : Int32)) hx hb hown kc93 dX5_sell_20 ?_
      refine z_calli hC (z_runS (rest := []) zx_Gok hC E (zc_X5_within l D cI cJ tp q u a_3 (0 : Int32) (100000 : Int32) rfl _) (va_cwS 3 hts gX5_sell_X5_within rfl rfl rfl zd_X5_within ⟨Nat.le_of_ble_eq_true rfl, Nat.le_of_ble_eq_true rfl⟩) rfl hl.1 rfl (Nat.le_of_ble_eq_true rfl) dX5_sell_22 ⟨Nat.zero_le _, Nat.zero_le _⟩) (fun H locs hC => ?_)
      refine lv_if_eq (tgt := 40) hx hb dX5_sell_25 (by decide) (fun c3 => ?_) (fun c3 => ?_)
      · have hf := z_t hf c3
        refine lv_bipush (v := (-2 : Int32)) hx hb dX5_sell_40 (by decide) ?_
        exact z_reti hx hb hr hlk hC (Prod.mk.inj (Option.some.inj hf)).1 (Prod.mk.inj (Option.some.inj hf)).2 dX5_sell_42
      · have hf := z_f hf c3
        refine lv_iload hx hb dX5_sell_28 (lv_at hl 4 rfl) ?_
        refine lv_iconst (v := (0 : Int32)) hx hb dX5_sell_30 (by decide) ?_
        refine lv_sipush (v := (2000 : Int32)) hx hb dX5_sell_31 (by decide) ?_
        refine z_calli hC (z_runS (rest := []) zx_Gok hC E (zc_X5_within l D cI cJ tp q u a_4 (0 : Int32) (2000 : Int32) rfl _) (va_cwS 3 hts gX5_sell_X5_within rfl rfl rfl zd_X5_within ⟨Nat.le_of_ble_eq_true rfl, Nat.le_of_ble_eq_true rfl⟩) rfl hl.1 rfl (Nat.le_of_ble_eq_true rfl) dX5_sell_34 ⟨Nat.zero_le _, Nat.zero_le _⟩) (fun H locs hC => ?_)
        refine lv_if_ne (tgt := 43) hx hb dX5_sell_37 (by decide) (fun c4 => ?_) (fun c4 => ?_)
        · have hf := z_f hf c4
          refine lv_aload_n hx hb dX5_sell_43 rfl (lv_at hl 0 rfl) ?_
          refine zx_gX5_trade hx hb hts zi_X5_sell hown hC kf19 dX5_sell_44 ?_
          refine lv_iload_n hx hb dX5_sell_47 rfl (lv_at hl 1 rfl) ?_
          refine lv_iload_n hx hb dX5_sell_48 rfl (lv_at hl 2 rfl) ?_
          refine lv_iload_n hx hb dX5_sell_49 rfl (lv_at hl 3 rfl) ?_
          refine lv_iload hx hb dX5_sell_50 (lv_at hl 4 rfl) ?_
          obtain ⟨r5, u6, pr5, hf⟩ := z_bd2_s hf
          refine z_calli hC (z_runV (rest := []) zx_Gok hC E (zc_X4_addSale l D cI cJ tp q u a_1 a_2 a_3 a_4 pr5 _) (cwV 4 hts gX5_sell_X4_addSale rfl rfl rfl ⟨rfl, zd_X4_addSale⟩ ⟨Nat.le_of_ble_eq_true rfl, Nat.le_of_ble_eq_true rfl⟩) (zx_rcX4 hC) rfl hl.1 rfl (Nat.le_of_ble_eq_true rfl) dX5_sell_52 ⟨Nat.zero_le _, Nat.zero_le _⟩) (fun H locs hC => ?_)
          exact z_reti hx hb hr hlk hC (Prod.mk.inj (Option.some.inj hf)).1 (Prod.mk.inj (Option.some.inj hf)).2 dX5_sell_55
        · have hf := z_t hf c4
          refine lv_bipush (v := (-2 : Int32)) hx hb dX5_sell_40 (by decide) ?_
          exact z_reti hx hb hr hlk hC (Prod.mk.inj (Option.some.inj hf)).1 (Prod.mk.inj (Option.some.inj hf)).2 dX5_sell_42
abbrev zr_X5_back : Room := { frames := 2, cells := 0, slots := 0, locals := 44 }
theorem zd_X5_back : yX5_back.cls ≠ "java/lang/invoke/MethodHandle" ∧ yX5_back.cls ≠ "java/lang/invoke/VarHandle" ∧ (parseMethodDescriptor yX5_back.desc).map (fun d => d.parameters.length) = some 1 := by decide +kernel
theorem zi_X5_back : ∀ w ∈ wsX50, w ∈ wsX5_back := fun _ h => List.mem_cons_of_mem _ (List.mem_append_left _ (List.mem_append_left _ (List.mem_append_right _ h)))
set_option maxHeartbeats 4000000 in
set_option maxRecDepth 100000 in
theorem zc_X5_back (l : Launch) (D : va_G) (cI cJ : ClassId) (tp : Nat) (q : Nat → Nat) (u : z_St) (a_1 : Int32) {r : Int32} {u2 : z_St} (hf : zf_X5_back u a_1 = some (r, u2)) : z_Mi l yX5_back wsX5_back zr_X5_back (zx_W cI q) (zx_G tp) D cI cJ [.ref (q 5), .int a_1] u r u2 := by
  refine z_ofi (cc := cX5_back) (maxL := 2) (ret := (some .int)) zx_Gok (by decide) rfl (Nat.le_of_ble_eq_true rfl) ?_
  intro A p e s m args below meth c ls E hr hlk hC hl
  have E : CallFix p m c cX5_back 2 s args wsX5_back RX5 := E
  have hx := E.1
  have hb := E.2.1
  have hml := E.2.2.1
  have hown := E.2.2.2.1
  have hts := E.2.2.2.2
  have hl : lv_has ls 2 [(0, .ref (q 5)), (1, .int a_1)] := hl
  unfold zf_X5_back at hf
  have kf12 := hts (.fieldLink RX5 12 "DawnFair" "pieces" "LDawnFair$Pieces;") (by decide +kernel)
  have kf19 := hts (.fieldLink RX5 19 "DawnFair" "trade" "LDawnFair$Trade;") (by decide +kernel)
  refine lv_aload_n hx hb dX5_back_0 rfl (lv_at hl 0 rfl) ?_
  refine zx_gX5_pieces hx hb hts zi_X5_back hown hC kf12 dX5_back_1 ?_
  refine lv_iload_n hx hb dX5_back_4 rfl (lv_at hl 1 rfl) ?_
  refine z_calli hC (z_runV (rest := []) zx_Gok hC E (zc_X2_hasThing l D cI cJ tp q u a_1 rfl _) (cwV 1 hts gX5_back_X2_hasThing rfl rfl rfl ⟨rfl, zd_X2_hasThing⟩ ⟨Nat.le_of_ble_eq_true rfl, Nat.le_of_ble_eq_true rfl⟩) (zx_rcX2 hC) rfl hl.1 rfl (Nat.le_of_ble_eq_true rfl) dX5_back_5 ⟨Nat.zero_le _, Nat.zero_le _⟩) (fun H locs hC => ?_)
  refine lv_if_ne (tgt := 14) hx hb dX5_back_8 (by decide) (fun c1 => ?_) (fun c1 => ?_)
  · have hf := z_f hf c1
    refine lv_aload_n hx hb dX5_back_14 rfl (lv_at hl 0 rfl) ?_
    refine zx_gX5_trade hx hb hts zi_X5_back hown hC kf19 dX5_back_15 ?_
    refine lv_iload_n hx hb dX5_back_18 rfl (lv_at hl 1 rfl) ?_
    obtain ⟨r2, u3, pr2, hf⟩ := z_bd2_s hf
    refine z_calli hC (z_runV (rest := []) zx_Gok hC E (zc_X4_giveBack l D cI cJ tp q u a_1 pr2 _) (cwV 1 hts gX5_back_X4_giveBack rfl rfl rfl ⟨rfl, zd_X4_giveBack⟩ ⟨Nat.le_of_ble_eq_true rfl, Nat.le_of_ble_eq_true rfl⟩) (zx_rcX4 hC) rfl hl.1 rfl (Nat.le_of_ble_eq_true rfl) dX5_back_19 ⟨Nat.zero_le _, Nat.zero_le _⟩) (fun H locs hC => ?_)
    exact z_reti hx hb hr hlk hC (Prod.mk.inj (Option.some.inj hf)).1 (Prod.mk.inj (Option.some.inj hf)).2 dX5_back_22
  · have hf := z_t hf c1
    refine lv_bipush (v := (-2 : Int32)) hx hb dX5_back_11 (by decide) ?_
    exact z_reti hx hb hr hlk hC (Prod.mk.inj (Option.some.inj hf)).1 (Prod.mk.inj (Option.some.inj hf)).2 dX5_back_13
abbrev zr_X5_sale : Room := { frames := 1, cells := 0, slots := 0, locals := 22 }
theorem zd_X5_sale : yX5_sale.cls ≠ "java/lang/invoke/MethodHandle" ∧ yX5_sale.cls ≠ "java/lang/invoke/VarHandle" ∧ (parseMethodDescriptor yX5_sale.desc).map (fun d => d.parameters.length) = some 2 := by decide +kernel
theorem zi_X5_sale : ∀ w ∈ wsX50, w ∈ wsX5_sale := fun _ h => List.mem_cons_of_mem _ (List.mem_append_left _ (List.mem_append_right _ h))
set_option maxHeartbeats 4000000 in
set_option maxRecDepth 100000 in
theorem zc_X5_sale (l : Launch) (D : va_G) (cI cJ : ClassId) (tp : Nat) (q : Nat → Nat) (u : z_St) (a_1 : Int32) (a_2 : Int32) {r : Int32} (hf : zf_X5_sale u a_1 a_2 = some r) : z_Mi l yX5_sale wsX5_sale zr_X5_sale (zx_W cI q) (zx_G tp) D cI cJ [.ref (q 5), .int a_1, .int a_2] u r u := by
  refine z_ofi (cc := cX5_sale) (maxL := 3) (ret := (some .int)) zx_Gok (by decide) rfl (Nat.le_of_ble_eq_true rfl) ?_
  intro A p e s m args below meth c ls E hr hlk hC hl
  have E : CallFix p m c cX5_sale 3 s args wsX5_sale RX5 := E
  have hx := E.1
  have hb := E.2.1
  have hml := E.2.2.1
  have hown := E.2.2.2.1
  have hts := E.2.2.2.2
  have hl : lv_has ls 3 [(0, .ref (q 5)), (1, .int a_1), (2, .int a_2)] := hl
  unfold zf_X5_sale at hf
  have kf19 := hts (.fieldLink RX5 19 "DawnFair" "trade" "LDawnFair$Trade;") (by decide +kernel)
  refine lv_iload_n hx hb dX5_sale_0 rfl (lv_at hl 1 rfl) ?_
  refine lv_if_lt (tgt := 14) hx hb dX5_sale_1 (by decide) (fun c1 => ?_) (fun c1 => ?_)
  · have hf := z_t hf c1
    refine lv_bipush (v := (-2 : Int32)) hx hb dX5_sale_14 (by decide) ?_
    exact z_reti hx hb hr hlk hC (Option.some.inj hf) rfl dX5_sale_16
  · have hf := z_f hf c1
    refine lv_iload_n hx hb dX5_sale_4 rfl (lv_at hl 2 rfl) ?_
    refine lv_iconst (v := (0 : Int32)) hx hb dX5_sale_5 (by decide) ?_
    refine lv_bipush (v := (6 : Int32)) hx hb dX5_sale_6 (by decide) ?_
    refine z_calli hC (z_runS (rest := []) zx_Gok hC E (zc_X5_within l D cI cJ tp q u a_2 (0 : Int32) (6 : Int32) rfl _) (va_cwS 3 hts gX5_sale_X5_within rfl rfl rfl zd_X5_within ⟨Nat.le_of_ble_eq_true rfl, Nat.le_of_ble_eq_true rfl⟩) rfl hl.1 rfl (Nat.le_of_ble_eq_true rfl) dX5_sale_8 ⟨Nat.zero_le _, Nat.zero_le _⟩) (fun H locs hC => ?_)
    refine lv_if_ne (tgt := 17) hx hb dX5_sale_11 (by decide) (fun c2 => ?_) (fun c2 => ?_)
    · have hf := z_f hf c2
      refine lv_iload_n hx hb dX5_sale_17 rfl (lv_at hl 1 rfl) ?_
      refine lv_aload_n hx hb dX5_sale_18 rfl (lv_at hl 0 rfl) ?_
      refine zx_gX5_trade hx hb hts zi_X5_sale hown hC kf19 dX5_sale_19 ?_
      refine z_calli hC (z_runV (rest := [_]) zx_Gok hC E (zc_X4_saleCount l D cI cJ tp q u rfl _) (cwV 0 hts gX5_sale_X4_saleCount rfl rfl rfl ⟨rfl, zd_X4_saleCount⟩ ⟨Nat.le_of_ble_eq_true rfl, Nat.le_of_ble_eq_true rfl⟩) (zx_rcX4 hC) rfl hl.1 rfl (Nat.le_of_ble_eq_true rfl) dX5_sale_22 ⟨Nat.zero_le _, Nat.zero_le _⟩) (fun H locs hC => ?_)
      refine lv_icmp_lt (tgt := 30) hx hb dX5_sale_25 (by decide) (fun c3 => ?_) (fun c3 => ?_)
      · have hf := z_t hf c3
        refine lv_aload_n hx hb dX5_sale_30 rfl (lv_at hl 0 rfl) ?_
        refine zx_gX5_trade hx hb hts zi_X5_sale hown hC kf19 dX5_sale_31 ?_
        refine lv_iload_n hx hb dX5_sale_34 rfl (lv_at hl 1 rfl) ?_
        refine lv_iload_n hx hb dX5_sale_35 rfl (lv_at hl 2 rfl) ?_
        obtain ⟨r4, pr4, hf⟩ := z_bd_s hf
        refine z_calli hC (z_runV (rest := []) zx_Gok hC E (zc_X4_field l D cI cJ tp q u a_1 a_2 pr4 _) (cwV 2 hts gX5_sale_X4_field rfl rfl rfl ⟨rfl, zd_X4_field⟩ ⟨Nat.le_of_ble_eq_true rfl, Nat.le_of_ble_eq_true rfl⟩) (zx_rcX4 hC) rfl hl.1 rfl (Nat.le_of_ble_eq_true rfl) dX5_sale_36 ⟨Nat.zero_le _, Nat.zero_le _⟩) (fun H locs hC => ?_)
        exact z_reti hx hb hr hlk hC (Option.some.inj hf) rfl dX5_sale_39
      · have hf := z_f hf c3
        refine lv_iconst (v := (-1 : Int32)) hx hb dX5_sale_28 (by decide) ?_
        exact z_reti hx hb hr hlk hC (Option.some.inj hf) rfl dX5_sale_29
    · have hf := z_t hf c2
      refine lv_bipush (v := (-2 : Int32)) hx hb dX5_sale_14 (by decide) ?_
      exact z_reti hx hb hr hlk hC (Option.some.inj hf) rfl dX5_sale_16
abbrev zr_X5_gain : Room := { frames := 3, cells := 0, slots := 0, locals := 66 }
theorem zd_X5_gain : yX5_gain.cls ≠ "java/lang/invoke/MethodHandle" ∧ yX5_gain.cls ≠ "java/lang/invoke/VarHandle" ∧ (parseMethodDescriptor yX5_gain.desc).map (fun d => d.parameters.length) = some 1 := by decide +kernel
theorem zi_X5_gain : ∀ w ∈ wsX50, w ∈ wsX5_gain := fun _ h => List.mem_cons_of_mem _ (List.mem_append_left _ (List.mem_append_right _ h))
set_option maxHeartbeats 4000000 in
set_option maxRecDepth 100000 in
theorem zc_X5_gain (l : Launch) (D : va_G) (cI cJ : ClassId) (tp : Nat) (q : Nat → Nat) (u : z_St) (a_1 : Int32) {r : Int32} (hf : zf_X5_gain u a_1 = some r) : z_Mi l yX5_gain wsX5_gain zr_X5_gain (zx_W cI q) (zx_G tp) D cI cJ [.ref (q 5), .int a_1] u r u := by
  refine z_ofi (cc := cX5_gain) (maxL := 2) (ret := (some .int)) zx_Gok (by decide) rfl (Nat.le_of_ble_eq_true rfl) ?_
  intro A p e s m args below meth c ls E hr hlk hC hl
  have E : CallFix p m c cX5_gain 2 s args wsX5_gain RX5 := E
  have hx := E.1
  have hb := E.2.1
  have hml := E.2.2.1
  have hown := E.2.2.2.1
  have hts := E.2.2.2.2
  have hl : lv_has ls 2 [(0, .ref (q 5)), (1, .int a_1)] := hl
  unfold zf_X5_gain at hf
  have kc111 := hts (.constant RX5 111 (-2000000000)) (by decide +kernel)
  have kf19 := hts (.fieldLink RX5 19 "DawnFair" "trade" "LDawnFair$Trade;") (by decide +kernel)
  refine lv_iload_n hx hb dX5_gain_0 rfl (lv_at hl 1 rfl) ?_
  refine z_calli hC (z_runS (rest := []) zx_Gok hC E (zc_X5_isDealer l D cI cJ tp q u a_1 rfl _) (va_cwS 1 hts gX5_gain_X5_isDealer rfl rfl rfl zd_X5_isDealer ⟨Nat.le_of_ble_eq_true rfl, Nat.le_of_ble_eq_true rfl⟩) rfl hl.1 rfl (Nat.le_of_ble_eq_true rfl) dX5_gain_1 ⟨Nat.zero_le _, Nat.zero_le _⟩) (fun H locs hC => ?_)
  refine lv_if_eq (tgt := 18) hx hb dX5_gain_4 (by decide) (fun c1 => ?_) (fun c1 => ?_)
  · have hf := z_t hf c1
    refine lv_ldc (own := RX5) (v := (-2000000000 : Int32)) hx hb hown kc111 dX5_gain_18 ?_
    exact z_reti hx hb hr hlk hC (Option.some.inj hf) rfl dX5_gain_20
  · have hf := z_f hf c1
    refine lv_aload_n hx hb dX5_gain_7 rfl (lv_at hl 0 rfl) ?_
    refine zx_gX5_trade hx hb hts zi_X5_gain hown hC kf19 dX5_gain_8 ?_
    refine lv_iload_n hx hb dX5_gain_11 rfl (lv_at hl 1 rfl) ?_
    obtain ⟨r2, pr2, hf⟩ := z_bd_s hf
    refine z_calli hC (z_runV (rest := []) zx_Gok hC E (zc_X4_gainOf l D cI cJ tp q u a_1 pr2 _) (cwV 1 hts gX5_gain_X4_gainOf rfl rfl rfl ⟨rfl, zd_X4_gainOf⟩ ⟨Nat.le_of_ble_eq_true rfl, Nat.le_of_ble_eq_true rfl⟩) (zx_rcX4 hC) rfl hl.1 rfl (Nat.le_of_ble_eq_true rfl) dX5_gain_12 ⟨Nat.zero_le _, Nat.zero_le _⟩) (fun H locs hC => ?_)
    refine lv_goto (tgt := 20) hx hb dX5_gain_15 (by decide) ?_
    exact z_reti hx hb hr hlk hC (Option.some.inj hf) rfl dX5_gain_20
abbrev zr_X5_rose : Room := { frames := 3, cells := 0, slots := 0, locals := 67 }
theorem zd_X5_rose : yX5_rose.cls ≠ "java/lang/invoke/MethodHandle" ∧ yX5_rose.cls ≠ "java/lang/invoke/VarHandle" ∧ (parseMethodDescriptor yX5_rose.desc).map (fun d => d.parameters.length) = some 1 := by decide +kernel
theorem zi_X5_rose : ∀ w ∈ wsX50, w ∈ wsX5_rose := fun _ h => List.mem_cons_of_mem _ (List.mem_append_left _ (List.mem_append_left _ (List.mem_append_right _ h)))
set_option maxHeartbeats 4000000 in
set_option maxRecDepth 100000 in
theorem zc_X5_rose (l : Launch) (D : va_G) (cI cJ : ClassId) (tp : Nat) (q : Nat → Nat) (u : z_St) (a_1 : Int32) {r : Int32} (hf : zf_X5_rose u a_1 = some r) : z_Mi l yX5_rose wsX5_rose zr_X5_rose (zx_W cI q) (zx_G tp) D cI cJ [.ref (q 5), .int a_1] u r u := by
  refine z_ofi (cc := cX5_rose) (maxL := 2) (ret := (some .int)) zx_Gok (by decide) rfl (Nat.le_of_ble_eq_true rfl) ?_
  intro A p e s m args below meth c ls E hr hlk hC hl
  have E : CallFix p m c cX5_rose 2 s args wsX5_rose RX5 := E
  have hx := E.1
  have hb := E.2.1
  have hml := E.2.2.1
  have hown := E.2.2.2.1
  have hts := E.2.2.2.2
  have hl : lv_has ls 2 [(0, .ref (q 5)), (1, .int a_1)] := hl
  unfold zf_X5_rose at hf
  have kf12 := hts (.fieldLink RX5 12 "DawnFair" "pieces" "LDawnFair$Pieces;") (by decide +kernel)
  have kc111 := hts (.constant RX5 111 (-2000000000)) (by decide +kernel)
  have kf19 := hts (.fieldLink RX5 19 "DawnFair" "trade" "LDawnFair$Trade;") (by decide +kernel)
  refine lv_aload_n hx hb dX5_rose_0 rfl (lv_at hl 0 rfl) ?_
  refine zx_gX5_pieces hx hb hts zi_X5_rose hown hC kf12 dX5_rose_1 ?_
  refine lv_iload_n hx hb dX5_rose_4 rfl (lv_at hl 1 rfl) ?_
  refine z_calli hC (z_runV (rest := []) zx_Gok hC E (zc_X2_hasThing l D cI cJ tp q u a_1 rfl _) (cwV 1 hts gX5_rose_X2_hasThing rfl rfl rfl ⟨rfl, zd_X2_hasThing⟩ ⟨Nat.le_of_ble_eq_true rfl, Nat.le_of_ble_eq_true rfl⟩) (zx_rcX2 hC) rfl hl.1 rfl (Nat.le_of_ble_eq_true rfl) dX5_rose_5 ⟨Nat.zero_le _, Nat.zero_le _⟩) (fun H locs hC => ?_)
  refine lv_if_eq (tgt := 22) hx hb dX5_rose_8 (by decide) (fun c1 => ?_) (fun c1 => ?_)
  · have hf := z_t hf c1
    refine lv_ldc (own := RX5) (v := (-2000000000 : Int32)) hx hb hown kc111 dX5_rose_22 ?_
    exact z_reti hx hb hr hlk hC (Option.some.inj hf) rfl dX5_rose_24
  · have hf := z_f hf c1
    refine lv_aload_n hx hb dX5_rose_11 rfl (lv_at hl 0 rfl) ?_
    refine zx_gX5_trade hx hb hts zi_X5_rose hown hC kf19 dX5_rose_12 ?_
    refine lv_iload_n hx hb dX5_rose_15 rfl (lv_at hl 1 rfl) ?_
    obtain ⟨r2, pr2, hf⟩ := z_bd_s hf
    refine z_calli hC (z_runV (rest := []) zx_Gok hC E (zc_X4_riseOf l D cI cJ tp q u a_1 pr2 _) (cwV 1 hts gX5_rose_X4_riseOf rfl rfl rfl ⟨rfl, zd_X4_riseOf⟩ ⟨Nat.le_of_ble_eq_true rfl, Nat.le_of_ble_eq_true rfl⟩) (zx_rcX4 hC) rfl hl.1 rfl (Nat.le_of_ble_eq_true rfl) dX5_rose_16 ⟨Nat.zero_le _, Nat.zero_le _⟩) (fun H locs hC => ?_)
    refine lv_goto (tgt := 24) hx hb dX5_rose_19 (by decide) ?_
    exact z_reti hx hb hr hlk hC (Option.some.inj hf) rfl dX5_rose_24
abbrev zr_X5_lot : Room := { frames := 3, cells := 0, slots := 0, locals := 63 }
theorem zd_X5_lot : yX5_lot.cls ≠ "java/lang/invoke/MethodHandle" ∧ yX5_lot.cls ≠ "java/lang/invoke/VarHandle" ∧ (parseMethodDescriptor yX5_lot.desc).map (fun d => d.parameters.length) = some 3 := by decide +kernel
theorem zi_X5_lot : ∀ w ∈ wsX50, w ∈ wsX5_lot := fun _ h => List.mem_cons_of_mem _ (List.mem_append_left _ (List.mem_append_right _ h))
set_option maxHeartbeats 4000000 in
set_option maxRecDepth 100000 in
theorem zc_X5_lot (l : Launch) (D : va_G) (cI cJ : ClassId) (tp : Nat) (q : Nat → Nat) (u : z_St) (a_1 : Int32) (a_2 : Int32) (a_3 : Int32) {r : Int32} {u2 : z_St} (hf : zf_X5_lot u a_1 a_2 a_3 = some (r, u2)) : z_Mi l yX5_lot wsX5_lot zr_X5_lot (zx_W cI q) (zx_G tp) D cI cJ [.ref (q 5), .int a_1, .int a_2, .int a_3] u r u2 := by
  refine z_ofi (cc := cX5_lot) (maxL := 4) (ret := (some .int)) zx_Gok (by decide) rfl (Nat.le_of_ble_eq_true rfl) ?_
  intro A p e s m args below meth c ls E hr hlk hC hl
  have E : CallFix p m c cX5_lot 4 s args wsX5_lot RX5 := E
  have hx := E.1
  have hb := E.2.1
  have hml := E.2.2.1
  have hown := E.2.2.2.1
  have hts := E.2.2.2.2
  have hl : lv_has ls 4 [(0, .ref (q 5)), (1, .int a_1), (2, .int a_2), (3, .int a_3)] := hl
  unfold zf_X5_lot at hf
  have kf26 := hts (.fieldLink RX5 26 "DawnFair" "auctions" "LDawnFair$Auctions;") (by decide +kernel)
  refine lv_iload_n hx hb dX5_lot_0 rfl (lv_at hl 1 rfl) ?_
  refine lv_iconst (v := (0 : Int32)) hx hb dX5_lot_1 (by decide) ?_
  refine lv_sipush (v := (255 : Int32)) hx hb dX5_lot_2 (by decide) ?_
  refine z_calli hC (z_runS (rest := []) zx_Gok hC E (zc_X5_within l D cI cJ tp q u a_1 (0 : Int32) (255 : Int32) rfl _) (va_cwS 3 hts gX5_lot_X5_within rfl rfl rfl zd_X5_within ⟨Nat.le_of_ble_eq_true rfl, Nat.le_of_ble_eq_true rfl⟩) rfl hl.1 rfl (Nat.le_of_ble_eq_true rfl) dX5_lot_5 ⟨Nat.zero_le _, Nat.zero_le _⟩) (fun H locs hC => ?_)
  refine lv_if_eq (tgt := 30) hx hb dX5_lot_8 (by decide) (fun c1 => ?_) (fun c1 => ?_)
  · have hf := z_t hf c1
    refine lv_bipush (v := (-2 : Int32)) hx hb dX5_lot_30 (by decide) ?_
    exact z_reti hx hb hr hlk hC (Prod.mk.inj (Option.some.inj hf)).1 (Prod.mk.inj (Option.some.inj hf)).2 dX5_lot_32
  · have hf := z_f hf c1
    refine lv_iload_n hx hb dX5_lot_11 rfl (lv_at hl 2 rfl) ?_
    refine lv_iconst (v := (0 : Int32)) hx hb dX5_lot_12 (by decide) ?_
    refine lv_sipush (v := (255 : Int32)) hx hb dX5_lot_13 (by decide) ?_
    refine z_calli hC (z_runS (rest := []) zx_Gok hC E (zc_X5_within l D cI cJ tp q u a_2 (0 : Int32) (255 : Int32) rfl _) (va_cwS 3 hts gX5_lot_X5_within rfl rfl rfl zd_X5_within ⟨Nat.le_of_ble_eq_true rfl, Nat.le_of_ble_eq_true rfl⟩) rfl hl.1 rfl (Nat.le_of_ble_eq_true rfl) dX5_lot_16 ⟨Nat.zero_le _, Nat.zero_le _⟩) (fun H locs hC => ?_)
    refine lv_if_eq (tgt := 30) hx hb dX5_lot_19 (by decide) (fun c2 => ?_) (fun c2 => ?_)
    · have hf := z_t hf c2
      refine lv_bipush (v := (-2 : Int32)) hx hb dX5_lot_30 (by decide) ?_
      exact z_reti hx hb hr hlk hC (Prod.mk.inj (Option.some.inj hf)).1 (Prod.mk.inj (Option.some.inj hf)).2 dX5_lot_32
    · have hf := z_f hf c2
      refine lv_iload_n hx hb dX5_lot_22 rfl (lv_at hl 2 rfl) ?_
      refine lv_iload_n hx hb dX5_lot_23 rfl (lv_at hl 1 rfl) ?_
      refine lv_iconst (v := (-1 : Int32)) hx hb dX5_lot_24 (by decide) ?_
      refine lv_ixor hx hb dX5_lot_25 ?_
      refine lv_iand hx hb dX5_lot_26 ?_
      refine lv_if_eq (tgt := 33) hx hb dX5_lot_27 (by decide) (fun c3 => ?_) (fun c3 => ?_)
      · have hf := z_t hf c3
        refine lv_iload_n hx hb dX5_lot_33 rfl (lv_at hl 2 rfl) ?_
        refine lv_iload_n hx hb dX5_lot_34 rfl (lv_at hl 3 rfl) ?_
        refine z_calli hC (z_runS (rest := []) zx_Gok hC E (zc_X5_mayHaveWon l D cI cJ tp q u a_2 a_3 rfl _) (va_cwS 2 hts gX5_lot_X5_mayHaveWon rfl rfl rfl zd_X5_mayHaveWon ⟨Nat.le_of_ble_eq_true rfl, Nat.le_of_ble_eq_true rfl⟩) rfl hl.1 rfl (Nat.le_of_ble_eq_true rfl) dX5_lot_35 ⟨Nat.zero_le _, Nat.zero_le _⟩) (fun H locs hC => ?_)
        refine lv_if_ne (tgt := 44) hx hb dX5_lot_38 (by decide) (fun c4 => ?_) (fun c4 => ?_)
        · have hf := z_f hf c4
          refine lv_aload_n hx hb dX5_lot_44 rfl (lv_at hl 0 rfl) ?_
          refine zx_gX5_auctions hx hb hts zi_X5_lot hown hC kf26 dX5_lot_45 ?_
          refine lv_iload_n hx hb dX5_lot_48 rfl (lv_at hl 1 rfl) ?_
          refine lv_iload_n hx hb dX5_lot_49 rfl (lv_at hl 2 rfl) ?_
          refine lv_iload_n hx hb dX5_lot_50 rfl (lv_at hl 3 rfl) ?_
          obtain ⟨r5, u6, pr5, hf⟩ := z_bd2_s hf
          refine z_calli hC (z_runV (rest := []) zx_Gok hC E (zc_X0_addLot l D cI cJ tp q u a_1 a_2 a_3 pr5 _) (cwV 3 hts gX5_lot_X0_addLot rfl rfl rfl ⟨rfl, zd_X0_addLot⟩ ⟨Nat.le_of_ble_eq_true rfl, Nat.le_of_ble_eq_true rfl⟩) (zx_rcX0 hC) rfl hl.1 rfl (Nat.le_of_ble_eq_true rfl) dX5_lot_51 ⟨Nat.zero_le _, Nat.zero_le _⟩) (fun H locs hC => ?_)
          exact z_reti hx hb hr hlk hC (Prod.mk.inj (Option.some.inj hf)).1 (Prod.mk.inj (Option.some.inj hf)).2 dX5_lot_54
        · have hf := z_t hf c4
          refine lv_bipush (v := (-2 : Int32)) hx hb dX5_lot_41 (by decide) ?_
          exact z_reti hx hb hr hlk hC (Prod.mk.inj (Option.some.inj hf)).1 (Prod.mk.inj (Option.some.inj hf)).2 dX5_lot_43
      · have hf := z_f hf c3
        refine lv_bipush (v := (-2 : Int32)) hx hb dX5_lot_30 (by decide) ?_
        exact z_reti hx hb hr hlk hC (Prod.mk.inj (Option.some.inj hf)).1 (Prod.mk.inj (Option.some.inj hf)).2 dX5_lot_32
abbrev zr_X5_both : Room := { frames := 3, cells := 0, slots := 0, locals := 63 }
theorem zd_X5_both : yX5_both.cls ≠ "java/lang/invoke/MethodHandle" ∧ yX5_both.cls ≠ "java/lang/invoke/VarHandle" ∧ (parseMethodDescriptor yX5_both.desc).map (fun d => d.parameters.length) = some 3 := by decide +kernel
theorem zi_X5_both : ∀ w ∈ wsX50, w ∈ wsX5_both := fun _ h => List.mem_cons_of_mem _ (List.mem_append_left _ (List.mem_append_right _ h))
set_option maxHeartbeats 4000000 in
set_option maxRecDepth 100000 in
theorem zc_X5_both (l : Launch) (D : va_G) (cI cJ : ClassId) (tp : Nat) (q : Nat → Nat) (u : z_St) (a_1 : Int32) (a_2 : Int32) (a_3 : Int32) {r : Int32} (hf : zf_X5_both u a_1 a_2 a_3 = some r) : z_Mi l yX5_both wsX5_both zr_X5_both (zx_W cI q) (zx_G tp) D cI cJ [.ref (q 5), .int a_1, .int a_2, .int a_3] u r u := by
  refine z_ofi (cc := cX5_both) (maxL := 4) (ret := (some .int)) zx_Gok (by decide) rfl (Nat.le_of_ble_eq_true rfl) ?_
  intro A p e s m args below meth c ls E hr hlk hC hl
  have E : CallFix p m c cX5_both 4 s args wsX5_both RX5 := E
  have hx := E.1
  have hb := E.2.1
  have hml := E.2.2.1
  have hown := E.2.2.2.1
  have hts := E.2.2.2.2
  have hl : lv_has ls 4 [(0, .ref (q 5)), (1, .int a_1), (2, .int a_2), (3, .int a_3)] := hl
  unfold zf_X5_both at hf
  have kf26 := hts (.fieldLink RX5 26 "DawnFair" "auctions" "LDawnFair$Auctions;") (by decide +kernel)
  refine lv_iload_n hx hb dX5_both_0 rfl (lv_at hl 1 rfl) ?_
  refine lv_iload_n hx hb dX5_both_1 rfl (lv_at hl 2 rfl) ?_
  refine z_calli hC (z_runS (rest := []) zx_Gok hC E (zc_X5_areTwo l D cI cJ tp q u a_1 a_2 rfl _) (va_cwS 2 hts gX5_both_X5_areTwo rfl rfl rfl zd_X5_areTwo ⟨Nat.le_of_ble_eq_true rfl, Nat.le_of_ble_eq_true rfl⟩) rfl hl.1 rfl (Nat.le_of_ble_eq_true rfl) dX5_both_2 ⟨Nat.zero_le _, Nat.zero_le _⟩) (fun H locs hC => ?_)
  refine lv_if_eq (tgt := 17) hx hb dX5_both_5 (by decide) (fun c1 => ?_) (fun c1 => ?_)
  · have hf := z_t hf c1
    refine lv_bipush (v := (-2 : Int32)) hx hb dX5_both_17 (by decide) ?_
    exact z_reti hx hb hr hlk hC (Option.some.inj hf) rfl dX5_both_19
  · have hf := z_f hf c1
    refine lv_iload_n hx hb dX5_both_8 rfl (lv_at hl 3 rfl) ?_
    refine lv_iconst (v := (0 : Int32)) hx hb dX5_both_9 (by decide) ?_
    refine lv_iconst (v := (3 : Int32)) hx hb dX5_both_10 (by decide) ?_
    refine z_calli hC (z_runS (rest := []) zx_Gok hC E (zc_X5_within l D cI cJ tp q u a_3 (0 : Int32) (3 : Int32) rfl _) (va_cwS 3 hts gX5_both_X5_within rfl rfl rfl zd_X5_within ⟨Nat.le_of_ble_eq_true rfl, Nat.le_of_ble_eq_true rfl⟩) rfl hl.1 rfl (Nat.le_of_ble_eq_true rfl) dX5_both_11 ⟨Nat.zero_le _, Nat.zero_le _⟩) (fun H locs hC => ?_)
    refine lv_if_ne (tgt := 20) hx hb dX5_both_14 (by decide) (fun c2 => ?_) (fun c2 => ?_)
    · have hf := z_f hf c2
      refine lv_aload_n hx hb dX5_both_20 rfl (lv_at hl 0 rfl) ?_
      refine zx_gX5_auctions hx hb hts zi_X5_both hown hC kf26 dX5_both_21 ?_
      refine lv_iload_n hx hb dX5_both_24 rfl (lv_at hl 1 rfl) ?_
      refine lv_iload_n hx hb dX5_both_25 rfl (lv_at hl 2 rfl) ?_
      refine lv_iload_n hx hb dX5_both_26 rfl (lv_at hl 3 rfl) ?_
      obtain ⟨r3, pr3, hf⟩ := z_bd_s hf
      refine z_calli hC (z_runV (rest := []) zx_Gok hC E (zc_X0_tally l D cI cJ tp q u a_1 a_2 a_3 pr3 _) (cwV 3 hts gX5_both_X0_tally rfl rfl rfl ⟨rfl, zd_X0_tally⟩ ⟨Nat.le_of_ble_eq_true rfl, Nat.le_of_ble_eq_true rfl⟩) (zx_rcX0 hC) rfl hl.1 rfl (Nat.le_of_ble_eq_true rfl) dX5_both_27 ⟨Nat.zero_le _, Nat.zero_le _⟩) (fun H locs hC => ?_)
      exact z_reti hx hb hr hlk hC (Option.some.inj hf) rfl dX5_both_30
    · have hf := z_t hf c2
      refine lv_bipush (v := (-2 : Int32)) hx hb dX5_both_17 (by decide) ?_
      exact z_reti hx hb hr hlk hC (Option.some.inj hf) rfl dX5_both_19
abbrev zr_X5_chance : Room := { frames := 3, cells := 0, slots := 0, locals := 63 }
theorem zd_X5_chance : yX5_chance.cls ≠ "java/lang/invoke/MethodHandle" ∧ yX5_chance.cls ≠ "java/lang/invoke/VarHandle" ∧ (parseMethodDescriptor yX5_chance.desc).map (fun d => d.parameters.length) = some 3 := by decide +kernel
theorem zi_X5_chance : ∀ w ∈ wsX50, w ∈ wsX5_chance := fun _ h => List.mem_cons_of_mem _ (List.mem_append_left _ (List.mem_append_right _ h))
set_option maxHeartbeats 4000000 in
set_option maxRecDepth 100000 in
theorem zc_X5_chance (l : Launch) (D : va_G) (cI cJ : ClassId) (tp : Nat) (q : Nat → Nat) (u : z_St) (a_1 : Int32) (a_2 : Int32) (a_3 : Int32) {r : Int64} (hf : zf_X5_chance u a_1 a_2 a_3 = some r) : z_Ml l yX5_chance wsX5_chance zr_X5_chance (zx_W cI q) (zx_G tp) D cI cJ [.ref (q 5), .int a_1, .int a_2, .int a_3] u r u := by
  refine z_ofl (cc := cX5_chance) (maxL := 10) (ret := (some .long)) zx_Gok (by decide) rfl (Nat.le_of_ble_eq_true rfl) ?_
  intro A p e s m args below meth c ls E hr hlk hC hl
  have E : CallFix p m c cX5_chance 10 s args wsX5_chance RX5 := E
  have hx := E.1
  have hb := E.2.1
  have hml := E.2.2.1
  have hown := E.2.2.2.1
  have hts := E.2.2.2.2
  have hl : lv_has ls 10 [(0, .ref (q 5)), (1, .int a_1), (2, .int a_2), (3, .int a_3)] := hl
  unfold zf_X5_chance at hf
  have kl127 := hts (.constantLong RX5 127 (-2)) (by decide +kernel)
  have kf26 := hts (.fieldLink RX5 26 "DawnFair" "auctions" "LDawnFair$Auctions;") (by decide +kernel)
  have km140 := hts (.methodLink RX5 140 Lib.MathLoose.max_long.x) (by decide +kernel)
  have ks140 := hts (.static Lib.MathLoose.max_long.x) (by decide +kernel)
  have kiMath := hts (.initialized "java/lang/Math") (by decide +kernel)
  have ko140 := hts (.code Lib.MathLoose.max_long.x Lib.MathLoose.max_long.code 4 (some .long)) (by decide +kernel)
  refine lv_iload_n hx hb dX5_chance_0 rfl (lv_at hl 1 rfl) ?_
  refine lv_iload_n hx hb dX5_chance_1 rfl (lv_at hl 2 rfl) ?_
  refine z_calli hC (z_runS (rest := []) zx_Gok hC E (zc_X5_areTwo l D cI cJ tp q u a_1 a_2 rfl _) (va_cwS 2 hts gX5_chance_X5_areTwo rfl rfl rfl zd_X5_areTwo ⟨Nat.le_of_ble_eq_true rfl, Nat.le_of_ble_eq_true rfl⟩) rfl hl.1 rfl (Nat.le_of_ble_eq_true rfl) dX5_chance_2 ⟨Nat.zero_le _, Nat.zero_le _⟩) (fun H locs hC => ?_)
  refine lv_if_eq (tgt := 17) hx hb dX5_chance_5 (by decide) (fun c1 => ?_) (fun c1 => ?_)
  · have hf := z_t hf c1
    refine lv_ldc2 (own := RX5) (v := (-2 : Int64)) hx hb hown kl127 dX5_chance_17 ?_
    exact z_retl hx hb hr hlk hC (Option.some.inj hf) rfl dX5_chance_20
  · have hf := z_f hf c1
    refine lv_iload_n hx hb dX5_chance_8 rfl (lv_at hl 3 rfl) ?_
    refine lv_iconst (v := (0 : Int32)) hx hb dX5_chance_9 (by decide) ?_
    refine lv_iconst (v := (1 : Int32)) hx hb dX5_chance_10 (by decide) ?_
    refine z_calli hC (z_runS (rest := []) zx_Gok hC E (zc_X5_within l D cI cJ tp q u a_3 (0 : Int32) (1 : Int32) rfl _) (va_cwS 3 hts gX5_chance_X5_within rfl rfl rfl zd_X5_within ⟨Nat.le_of_ble_eq_true rfl, Nat.le_of_ble_eq_true rfl⟩) rfl hl.1 rfl (Nat.le_of_ble_eq_true rfl) dX5_chance_11 ⟨Nat.zero_le _, Nat.zero_le _⟩) (fun H locs hC => ?_)
    refine lv_if_ne (tgt := 21) hx hb dX5_chance_14 (by decide) (fun c2 => ?_) (fun c2 => ?_)
    · have hf := z_f hf c2
      refine lv_aload_n hx hb dX5_chance_21 rfl (lv_at hl 0 rfl) ?_
      refine zx_gX5_auctions hx hb hts zi_X5_chance hown hC kf26 dX5_chance_22 ?_
      refine lv_iload_n hx hb dX5_chance_25 rfl (lv_at hl 1 rfl) ?_
      refine lv_iload_n hx hb dX5_chance_26 rfl (lv_at hl 2 rfl) ?_
      obtain ⟨r3, pr3, hf⟩ := z_bd_s hf
      refine z_calll hC (z_runV (rest := []) zx_Gok hC E (zc_X0_waysAsShy l D cI cJ tp q u a_1 a_2 pr3 _) (cwV 2 hts gX5_chance_X0_waysAsShy rfl rfl rfl ⟨rfl, zd_X0_waysAsShy⟩ ⟨Nat.le_of_ble_eq_true rfl, Nat.le_of_ble_eq_true rfl⟩) (zx_rcX0 hC) rfl hl.1 rfl (Nat.le_of_ble_eq_true rfl) dX5_chance_27 ⟨Nat.zero_le _, Nat.zero_le _⟩) (fun H locs hC => ?_)
      refine lv_lstore (lv' := [(4, _), (0, _), (1, _), (2, _), (3, _)]) hx hb dX5_chance_30 hl (by decide) rfl (fun ls hl => ?_)
      refine lv_aload_n hx hb dX5_chance_32 rfl (lv_at hl 1 rfl) ?_
      refine zx_gX5_auctions hx hb hts zi_X5_chance hown hC kf26 dX5_chance_33 ?_
      refine lv_iload_n hx hb dX5_chance_36 rfl (lv_at hl 2 rfl) ?_
      refine lv_iload_n hx hb dX5_chance_37 rfl (lv_at hl 3 rfl) ?_
      obtain ⟨r4, pr4, hf⟩ := z_bd_s hf
      refine z_calll hC (z_runV (rest := []) zx_Gok hC E (zc_X0_allWays l D cI cJ tp q u a_1 a_2 pr4 _) (cwV 2 hts gX5_chance_X0_allWays rfl rfl rfl ⟨rfl, zd_X0_allWays⟩ ⟨Nat.le_of_ble_eq_true rfl, Nat.le_of_ble_eq_true rfl⟩) (zx_rcX0 hC) rfl hl.1 rfl (Nat.le_of_ble_eq_true rfl) dX5_chance_38 ⟨Nat.zero_le _, Nat.zero_le _⟩) (fun H locs hC => ?_)
      refine lv_lstore (lv' := [(6, _), (4, _), (0, _), (1, _), (2, _), (3, _)]) hx hb dX5_chance_41 hl (by decide) rfl (fun ls hl => ?_)
      refine lv_lconst (v := (1 : Int64)) hx hb dX5_chance_43 (by decide) ?_
      refine lv_lload hx hb dX5_chance_44 (lv_at hl 1 rfl) ?_
      refine lv_lload hx hb dX5_chance_46 (lv_at hl 0 rfl) ?_
      obtain ⟨r5, pr5, hf⟩ := z_bd_s hf
      refine z_calll hC (z_runS (rest := [_]) zx_Gok hC E (zc_X0_commonDivisor l D cI cJ tp q u r3 r4 pr5 _) (va_cwS 2 hts gX5_chance_X0_commonDivisor rfl rfl rfl zd_X0_commonDivisor ⟨Nat.le_of_ble_eq_true rfl, Nat.le_of_ble_eq_true rfl⟩) rfl hl.1 rfl (Nat.le_of_ble_eq_true rfl) dX5_chance_48 ⟨Nat.zero_le _, Nat.zero_le _⟩) (fun H locs hC => ?_)
      refine va_mmax_long hx hb (hml.trans hl.1.symm) hown km140 ks140 kiMath ko140 (Nat.le_of_ble_eq_true rfl) (Nat.le_of_ble_eq_true rfl) (Nat.zero_le _) (Nat.zero_le _) dX5_chance_51 ?_
      refine lv_topl (fun x6 ex6 => ?_)
      have hf := z_nm_s hf ex6
      refine lv_lstore (lv' := [(8, _), (6, _), (4, _), (0, _), (1, _), (2, _), (3, _)]) hx hb dX5_chance_54 hl (by decide) rfl (fun ls hl => ?_)
      refine lv_iload_n hx hb dX5_chance_56 rfl (lv_at hl 6 rfl) ?_
      refine lv_if_ne (tgt := 65) hx hb dX5_chance_57 (by decide) (fun c7 => ?_) (fun c7 => ?_)
      · have hf := z_f hf c7
        refine lv_lload hx hb dX5_chance_65 (lv_at hl 1 rfl) ?_
        refine lv_lload hx hb dX5_chance_67 (lv_at hl 0 rfl) ?_
        obtain ⟨h8, hf⟩ := z_gd_s hf
        refine lv_ldiv hx hb dX5_chance_69 (z_nzL_s h8) ?_
        exact z_retl hx hb hr hlk hC (Option.some.inj hf) rfl dX5_chance_70
      · have hf := z_t hf c7
        refine lv_lload hx hb dX5_chance_60 (lv_at hl 2 rfl) ?_
        refine lv_goto (tgt := 67) hx hb dX5_chance_62 (by decide) ?_
        refine lv_lload hx hb dX5_chance_67 (lv_at hl 0 rfl) ?_
        obtain ⟨h9, hf⟩ := z_gd_s hf
        refine lv_ldiv hx hb dX5_chance_69 (z_nzL_s h9) ?_
        exact z_retl hx hb hr hlk hC (Option.some.inj hf) rfl dX5_chance_70
    · have hf := z_t hf c2
      refine lv_ldc2 (own := RX5) (v := (-2 : Int64)) hx hb hown kl127 dX5_chance_17 ?_
      exact z_retl hx hb hr hlk hC (Option.some.inj hf) rfl dX5_chance_20
abbrev zr_X5_shyest : Room := { frames := 3, cells := 0, slots := 0, locals := 88 }
theorem zd_X5_shyest : yX5_shyest.cls ≠ "java/lang/invoke/MethodHandle" ∧ yX5_shyest.cls ≠ "java/lang/invoke/VarHandle" ∧ (parseMethodDescriptor yX5_shyest.desc).map (fun d => d.parameters.length) = some 0 := by decide +kernel
theorem zi_X5_shyest : ∀ w ∈ wsX50, w ∈ wsX5_shyest := fun _ h => List.mem_cons_of_mem _ (List.mem_append_left _ (List.mem_append_right _ h))
set_option maxHeartbeats 4000000 in
set_option maxRecDepth 100000 in
theorem zc_X5_shyest (l : Launch) (D : va_G) (cI cJ : ClassId) (tp : Nat) (q : Nat → Nat) (u : z_St) {r : Int32} (hf : zf_X5_shyest u = some r) : z_Mi l yX5_shyest wsX5_shyest zr_X5_shyest (zx_W cI q) (zx_G tp) D cI cJ [.ref (q 5)] u r u := by
  refine z_ofi (cc := cX5_shyest) (maxL := 1) (ret := (some .int)) zx_Gok (by decide) rfl (Nat.le_of_ble_eq_true rfl) ?_
  intro A p e s m args below meth c ls E hr hlk hC hl
  have E : CallFix p m c cX5_shyest 1 s args wsX5_shyest RX5 := E
  have hx := E.1
  have hb := E.2.1
  have hml := E.2.2.1
  have hown := E.2.2.2.1
  have hts := E.2.2.2.2
  have hl : lv_has ls 1 [(0, .ref (q 5))] := hl
  unfold zf_X5_shyest at hf
  have kf26 := hts (.fieldLink RX5 26 "DawnFair" "auctions" "LDawnFair$Auctions;") (by decide +kernel)
  refine lv_aload_n hx hb dX5_shyest_0 rfl (lv_at hl 0 rfl) ?_
  refine zx_gX5_auctions hx hb hts zi_X5_shyest hown hC kf26 dX5_shyest_1 ?_
  obtain ⟨r1, pr1, hf⟩ := z_bd_s hf
  refine z_calli hC (z_runV (rest := []) zx_Gok hC E (zc_X0_shyestTwo l D cI cJ tp q u pr1 _) (cwV 0 hts gX5_shyest_X0_shyestTwo rfl rfl rfl ⟨rfl, zd_X0_shyestTwo⟩ ⟨Nat.le_of_ble_eq_true rfl, Nat.le_of_ble_eq_true rfl⟩) (zx_rcX0 hC) rfl hl.1 rfl (Nat.le_of_ble_eq_true rfl) dX5_shyest_4 ⟨Nat.zero_le _, Nat.zero_le _⟩) (fun H locs hC => ?_)
  exact z_reti hx hb hr hlk hC (Option.some.inj hf) rfl dX5_shyest_7
abbrev zr_X5_inside : Room := { frames := 1, cells := 0, slots := 0, locals := 22 }
theorem zd_X5_inside : yX5_inside.cls ≠ "java/lang/invoke/MethodHandle" ∧ yX5_inside.cls ≠ "java/lang/invoke/VarHandle" ∧ (parseMethodDescriptor yX5_inside.desc).map (fun d => d.parameters.length) = some 4 := by decide +kernel
set_option maxHeartbeats 4000000 in
set_option maxRecDepth 100000 in
theorem zc_X5_inside (l : Launch) (D : va_G) (cI cJ : ClassId) (tp : Nat) (q : Nat → Nat) (u : z_St) (a_1 : Int32) (a_2 : Int32) (a_3 : Int32) (a_4 : Int32) {r : Int32} (hf : zf_X5_inside a_1 a_2 a_3 a_4 = some r) : z_Mi l yX5_inside wsX5_inside zr_X5_inside (zx_W cI q) (zx_G tp) D cI cJ [.ref (q 5), .int a_1, .int a_2, .int a_3, .int a_4] u r u := by
  refine z_ofi (cc := cX5_inside) (maxL := 7) (ret := (some .int)) zx_Gok (by decide) rfl (Nat.le_of_ble_eq_true rfl) ?_
  intro A p e s m args below meth c ls E hr hlk hC hl
  have E : CallFix p m c cX5_inside 7 s args wsX5_inside RX5 := E
  have hx := E.1
  have hb := E.2.1
  have hml := E.2.2.1
  have hown := E.2.2.2.1
  have hts := E.2.2.2.2
  have hl : lv_has ls 7 [(0, .ref (q 5)), (1, .int a_1), (2, .int a_2), (3, .int a_3), (4, .int a_4)] := hl
  unfold zf_X5_inside at hf
  have kc93 := hts (.constant RX5 93 (100000)) (by decide +kernel)
  refine lv_iload_n hx hb dX5_inside_0 rfl (lv_at hl 1 rfl) ?_
  refine lv_iconst (v := (0 : Int32)) hx hb dX5_inside_1 (by decide) ?_
  refine lv_sipush (v := (255 : Int32)) hx hb dX5_inside_2 (by decide) ?_
  refine z_calli hC (z_runS (rest := []) zx_Gok hC E (zc_X5_within l D cI cJ tp q u a_1 (0 : Int32) (255 : Int32) rfl _) (va_cwS 3 hts gX5_inside_X5_within rfl rfl rfl zd_X5_within ⟨Nat.le_of_ble_eq_true rfl, Nat.le_of_ble_eq_true rfl⟩) rfl hl.1 rfl (Nat.le_of_ble_eq_true rfl) dX5_inside_5 ⟨Nat.zero_le _, Nat.zero_le _⟩) (fun H locs hC => ?_)
  refine lv_if_eq (tgt := 41) hx hb dX5_inside_8 (by decide) (fun c1 => ?_) (fun c1 => ?_)
  · have hf := z_t hf c1
    refine lv_bipush (v := (-2 : Int32)) hx hb dX5_inside_41 (by decide) ?_
    exact z_reti hx hb hr hlk hC (Option.some.inj hf) rfl dX5_inside_43
  · have hf := z_f hf c1
    refine lv_iload_n hx hb dX5_inside_11 rfl (lv_at hl 2 rfl) ?_
    refine lv_iconst (v := (0 : Int32)) hx hb dX5_inside_12 (by decide) ?_
    refine lv_ldc (own := RX5) (v := (100000 : Int32)) hx hb hown kc93 dX5_inside_13 ?_
    refine z_calli hC (z_runS (rest := []) zx_Gok hC E (zc_X5_within l D cI cJ tp q u a_2 (0 : Int32) (100000 : Int32) rfl _) (va_cwS 3 hts gX5_inside_X5_within rfl rfl rfl zd_X5_within ⟨Nat.le_of_ble_eq_true rfl, Nat.le_of_ble_eq_true rfl⟩) rfl hl.1 rfl (Nat.le_of_ble_eq_true rfl) dX5_inside_15 ⟨Nat.zero_le _, Nat.zero_le _⟩) (fun H locs hC => ?_)
    refine lv_if_eq (tgt := 41) hx hb dX5_inside_18 (by decide) (fun c2 => ?_) (fun c2 => ?_)
    · have hf := z_t hf c2
      refine lv_bipush (v := (-2 : Int32)) hx hb dX5_inside_41 (by decide) ?_
      exact z_reti hx hb hr hlk hC (Option.some.inj hf) rfl dX5_inside_43
    · have hf := z_f hf c2
      refine lv_iload_n hx hb dX5_inside_21 rfl (lv_at hl 3 rfl) ?_
      refine lv_iload_n hx hb dX5_inside_22 rfl (lv_at hl 2 rfl) ?_
      refine lv_ldc (own := RX5) (v := (100000 : Int32)) hx hb hown kc93 dX5_inside_23 ?_
      refine z_calli hC (z_runS (rest := []) zx_Gok hC E (zc_X5_within l D cI cJ tp q u a_3 a_2 (100000 : Int32) rfl _) (va_cwS 3 hts gX5_inside_X5_within rfl rfl rfl zd_X5_within ⟨Nat.le_of_ble_eq_true rfl, Nat.le_of_ble_eq_true rfl⟩) rfl hl.1 rfl (Nat.le_of_ble_eq_true rfl) dX5_inside_25 ⟨Nat.zero_le _, Nat.zero_le _⟩) (fun H locs hC => ?_)
      refine lv_if_eq (tgt := 41) hx hb dX5_inside_28 (by decide) (fun c3 => ?_) (fun c3 => ?_)
      · have hf := z_t hf c3
        refine lv_bipush (v := (-2 : Int32)) hx hb dX5_inside_41 (by decide) ?_
        exact z_reti hx hb hr hlk hC (Option.some.inj hf) rfl dX5_inside_43
      · have hf := z_f hf c3
        refine lv_iload hx hb dX5_inside_31 (lv_at hl 4 rfl) ?_
        refine lv_iconst (v := (0 : Int32)) hx hb dX5_inside_33 (by decide) ?_
        refine lv_iconst (v := (1 : Int32)) hx hb dX5_inside_34 (by decide) ?_
        refine z_calli hC (z_runS (rest := []) zx_Gok hC E (zc_X5_within l D cI cJ tp q u a_4 (0 : Int32) (1 : Int32) rfl _) (va_cwS 3 hts gX5_inside_X5_within rfl rfl rfl zd_X5_within ⟨Nat.le_of_ble_eq_true rfl, Nat.le_of_ble_eq_true rfl⟩) rfl hl.1 rfl (Nat.le_of_ble_eq_true rfl) dX5_inside_35 ⟨Nat.zero_le _, Nat.zero_le _⟩) (fun H locs hC => ?_)
        refine lv_if_ne (tgt := 44) hx hb dX5_inside_38 (by decide) (fun c4 => ?_) (fun c4 => ?_)
        · have hf := z_f hf c4
          refine lv_iload_n hx hb dX5_inside_44 rfl (lv_at hl 1 rfl) ?_
          refine z_calli hC (z_runS (rest := []) zx_Gok hC E (zc_J6_bitCount_0f7a4 l D cI cJ tp q u a_1 rfl _) (va_cwS 1 hts gX5_inside_J6_bitCount_0f7a4 rfl rfl rfl zd_J6_bitCount_0f7a4 ⟨Nat.le_of_ble_eq_true rfl, Nat.le_of_ble_eq_true rfl⟩) rfl hl.1 rfl (Nat.le_of_ble_eq_true rfl) dX5_inside_45 ⟨Nat.zero_le _, Nat.zero_le _⟩) (fun H locs hC => ?_)
          refine lv_topi (fun x5 ex5 => ?_)
          have hf := z_nm_s hf ex5
          refine lv_istore (lv' := [(5, _), (0, _), (1, _), (2, _), (3, _), (4, _)]) hx hb dX5_inside_48 hl (by decide) rfl (fun ls hl => ?_)
          refine lv_iload hx hb dX5_inside_50 (lv_at hl 0 rfl) ?_
          refine lv_iconst (v := (2 : Int32)) hx hb dX5_inside_52 (by decide) ?_
          refine lv_icmp_ge (tgt := 59) hx hb dX5_inside_53 (by decide) (fun c6 => ?_) (fun c6 => ?_)
          · have hf := z_t hf c6
            refine lv_iload_n hx hb dX5_inside_59 rfl (lv_at hl 4 rfl) ?_
            refine lv_iload_n hx hb dX5_inside_60 rfl (lv_at hl 3 rfl) ?_
            refine lv_isub hx hb dX5_inside_61 ?_
            refine lv_iload hx hb dX5_inside_62 (lv_at hl 0 rfl) ?_
            obtain ⟨h7, hf⟩ := z_gd_s hf
            refine lv_idiv hx hb dX5_inside_64 (z_nz_s h7) ?_
            refine lv_topi (fun x8 ex8 => ?_)
            have hf := z_nm_s hf ex8
            refine lv_istore (lv' := [(6, _), (5, _), (0, _), (1, _), (2, _), (3, _), (4, _)]) hx hb dX5_inside_65 hl (by decide) rfl (fun ls hl => ?_)
            refine lv_iload hx hb dX5_inside_67 (lv_at hl 6 rfl) ?_
            refine lv_if_ne (tgt := 77) hx hb dX5_inside_69 (by decide) (fun c9 => ?_) (fun c9 => ?_)
            · have hf := z_f hf c9
              refine lv_iload_n hx hb dX5_inside_77 rfl (lv_at hl 5 rfl) ?_
              refine lv_iload_n hx hb dX5_inside_78 rfl (lv_at hl 4 rfl) ?_
              refine lv_isub hx hb dX5_inside_79 ?_
              refine lv_iload hx hb dX5_inside_80 (lv_at hl 0 rfl) ?_
              refine lv_iload hx hb dX5_inside_82 (lv_at hl 1 rfl) ?_
              refine lv_iconst (v := (1 : Int32)) hx hb dX5_inside_84 (by decide) ?_
              refine lv_isub hx hb dX5_inside_85 ?_
              refine lv_imul hx hb dX5_inside_86 ?_
              refine lv_isub hx hb dX5_inside_87 ?_
              exact z_reti hx hb hr hlk hC (Option.some.inj hf) rfl dX5_inside_88
            · have hf := z_t hf c9
              refine lv_iload hx hb dX5_inside_72 (lv_at hl 0 rfl) ?_
              refine lv_goto (tgt := 88) hx hb dX5_inside_74 (by decide) ?_
              exact z_reti hx hb hr hlk hC (Option.some.inj hf) rfl dX5_inside_88
          · have hf := z_f hf c6
            refine lv_bipush (v := (-2 : Int32)) hx hb dX5_inside_56 (by decide) ?_
            exact z_reti hx hb hr hlk hC (Option.some.inj hf) rfl dX5_inside_58
        · have hf := z_t hf c4
          refine lv_bipush (v := (-2 : Int32)) hx hb dX5_inside_41 (by decide) ?_
          exact z_reti hx hb hr hlk hC (Option.some.inj hf) rfl dX5_inside_43
abbrev zr_X5_entry : Room := { frames := 1, cells := 0, slots := 0, locals := 22 }
theorem zd_X5_entry : yX5_entry.cls ≠ "java/lang/invoke/MethodHandle" ∧ yX5_entry.cls ≠ "java/lang/invoke/VarHandle" ∧ (parseMethodDescriptor yX5_entry.desc).map (fun d => d.parameters.length) = some 1 := by decide +kernel
theorem zi_X5_entry : ∀ w ∈ wsX50, w ∈ wsX5_entry := fun _ h => List.mem_cons_of_mem _ (List.mem_append_left _ (List.mem_append_right _ h))
set_option maxHeartbeats 4000000 in
set_option maxRecDepth 100000 in
theorem zc_X5_entry (l : Launch) (D : va_G) (cI cJ : ClassId) (tp : Nat) (q : Nat → Nat) (u : z_St) (a_1 : Int32) {r : Int32} {u2 : z_St} (hf : zf_X5_entry u a_1 = some (r, u2)) : z_Mi l yX5_entry wsX5_entry zr_X5_entry (zx_W cI q) (zx_G tp) D cI cJ [.ref (q 5), .int a_1] u r u2 := by
  refine z_ofi (cc := cX5_entry) (maxL := 2) (ret := (some .int)) zx_Gok (by decide) rfl (Nat.le_of_ble_eq_true rfl) ?_
  intro A p e s m args below meth c ls E hr hlk hC hl
  have E : CallFix p m c cX5_entry 2 s args wsX5_entry RX5 := E
  have hx := E.1
  have hb := E.2.1
  have hml := E.2.2.1
  have hown := E.2.2.2.1
  have hts := E.2.2.2.2
  have hl : lv_has ls 2 [(0, .ref (q 5)), (1, .int a_1)] := hl
  unfold zf_X5_entry at hf
  have kf33 := hts (.fieldLink RX5 33 "DawnFair" "stolen" "LDawnFair$Stolen;") (by decide +kernel)
  refine lv_iload_n hx hb dX5_entry_0 rfl (lv_at hl 1 rfl) ?_
  refine lv_iconst (v := (0 : Int32)) hx hb dX5_entry_1 (by decide) ?_
  refine lv_sipush (v := (4095 : Int32)) hx hb dX5_entry_2 (by decide) ?_
  refine z_calli hC (z_runS (rest := []) zx_Gok hC E (zc_X5_within l D cI cJ tp q u a_1 (0 : Int32) (4095 : Int32) rfl _) (va_cwS 3 hts gX5_entry_X5_within rfl rfl rfl zd_X5_within ⟨Nat.le_of_ble_eq_true rfl, Nat.le_of_ble_eq_true rfl⟩) rfl hl.1 rfl (Nat.le_of_ble_eq_true rfl) dX5_entry_5 ⟨Nat.zero_le _, Nat.zero_le _⟩) (fun H locs hC => ?_)
  refine lv_if_ne (tgt := 14) hx hb dX5_entry_8 (by decide) (fun c1 => ?_) (fun c1 => ?_)
  · have hf := z_f hf c1
    refine lv_aload_n hx hb dX5_entry_14 rfl (lv_at hl 0 rfl) ?_
    refine zx_gX5_stolen hx hb hts zi_X5_entry hown hC kf33 dX5_entry_15 ?_
    refine lv_iload_n hx hb dX5_entry_18 rfl (lv_at hl 1 rfl) ?_
    obtain ⟨r2, u3, pr2, hf⟩ := z_bd2_s hf
    refine z_calli hC (z_runV (rest := []) zx_Gok hC E (zc_X3_addEntry l D cI cJ tp q u a_1 pr2 _) (cwV 1 hts gX5_entry_X3_addEntry rfl rfl rfl ⟨rfl, zd_X3_addEntry⟩ ⟨Nat.le_of_ble_eq_true rfl, Nat.le_of_ble_eq_true rfl⟩) (zx_rcX3 hC) rfl hl.1 rfl (Nat.le_of_ble_eq_true rfl) dX5_entry_19 ⟨Nat.zero_le _, Nat.zero_le _⟩) (fun H locs hC => ?_)
    exact z_reti hx hb hr hlk hC (Prod.mk.inj (Option.some.inj hf)).1 (Prod.mk.inj (Option.some.inj hf)).2 dX5_entry_22
  · have hf := z_t hf c1
    refine lv_bipush (v := (-2 : Int32)) hx hb dX5_entry_11 (by decide) ?_
    exact z_reti hx hb hr hlk hC (Prod.mk.inj (Option.some.inj hf)).1 (Prod.mk.inj (Option.some.inj hf)).2 dX5_entry_13
abbrev zr_X5_mark : Room := { frames := 2, cells := 0, slots := 0, locals := 43 }
theorem zd_X5_mark : yX5_mark.cls ≠ "java/lang/invoke/MethodHandle" ∧ yX5_mark.cls ≠ "java/lang/invoke/VarHandle" ∧ (parseMethodDescriptor yX5_mark.desc).map (fun d => d.parameters.length) = some 3 := by decide +kernel
theorem zi_X5_mark : ∀ w ∈ wsX50, w ∈ wsX5_mark := fun _ h => List.mem_cons_of_mem _ (List.mem_append_left _ (List.mem_append_left _ (List.mem_append_right _ h)))
set_option maxHeartbeats 4000000 in
set_option maxRecDepth 100000 in
theorem zc_X5_mark (l : Launch) (D : va_G) (cI cJ : ClassId) (tp : Nat) (q : Nat → Nat) (u : z_St) (a_1 : Int32) (a_2 : Int32) (a_3 : Int32) {r : Int32} {u2 : z_St} (hf : zf_X5_mark u a_1 a_2 a_3 = some (r, u2)) : z_Mi l yX5_mark wsX5_mark zr_X5_mark (zx_W cI q) (zx_G tp) D cI cJ [.ref (q 5), .int a_1, .int a_2, .int a_3] u r u2 := by
  refine z_ofi (cc := cX5_mark) (maxL := 4) (ret := (some .int)) zx_Gok (by decide) rfl (Nat.le_of_ble_eq_true rfl) ?_
  intro A p e s m args below meth c ls E hr hlk hC hl
  have E : CallFix p m c cX5_mark 4 s args wsX5_mark RX5 := E
  have hx := E.1
  have hb := E.2.1
  have hml := E.2.2.1
  have hown := E.2.2.2.1
  have hts := E.2.2.2.2
  have hl : lv_has ls 4 [(0, .ref (q 5)), (1, .int a_1), (2, .int a_2), (3, .int a_3)] := hl
  unfold zf_X5_mark at hf
  have kf12 := hts (.fieldLink RX5 12 "DawnFair" "pieces" "LDawnFair$Pieces;") (by decide +kernel)
  have kf33 := hts (.fieldLink RX5 33 "DawnFair" "stolen" "LDawnFair$Stolen;") (by decide +kernel)
  refine lv_aload_n hx hb dX5_mark_0 rfl (lv_at hl 0 rfl) ?_
  refine zx_gX5_pieces hx hb hts zi_X5_mark hown hC kf12 dX5_mark_1 ?_
  refine lv_iload_n hx hb dX5_mark_4 rfl (lv_at hl 1 rfl) ?_
  refine z_calli hC (z_runV (rest := []) zx_Gok hC E (zc_X2_hasThing l D cI cJ tp q u a_1 rfl _) (cwV 1 hts gX5_mark_X2_hasThing rfl rfl rfl ⟨rfl, zd_X2_hasThing⟩ ⟨Nat.le_of_ble_eq_true rfl, Nat.le_of_ble_eq_true rfl⟩) (zx_rcX2 hC) rfl hl.1 rfl (Nat.le_of_ble_eq_true rfl) dX5_mark_5 ⟨Nat.zero_le _, Nat.zero_le _⟩) (fun H locs hC => ?_)
  refine lv_if_eq (tgt := 30) hx hb dX5_mark_8 (by decide) (fun c1 => ?_) (fun c1 => ?_)
  · have hf := z_t hf c1
    refine lv_bipush (v := (-2 : Int32)) hx hb dX5_mark_30 (by decide) ?_
    exact z_reti hx hb hr hlk hC (Prod.mk.inj (Option.some.inj hf)).1 (Prod.mk.inj (Option.some.inj hf)).2 dX5_mark_32
  · have hf := z_f hf c1
    refine lv_iload_n hx hb dX5_mark_11 rfl (lv_at hl 2 rfl) ?_
    refine lv_iconst (v := (0 : Int32)) hx hb dX5_mark_12 (by decide) ?_
    refine lv_bipush (v := (11 : Int32)) hx hb dX5_mark_13 (by decide) ?_
    refine z_calli hC (z_runS (rest := []) zx_Gok hC E (zc_X5_within l D cI cJ tp q u a_2 (0 : Int32) (11 : Int32) rfl _) (va_cwS 3 hts gX5_mark_X5_within rfl rfl rfl zd_X5_within ⟨Nat.le_of_ble_eq_true rfl, Nat.le_of_ble_eq_true rfl⟩) rfl hl.1 rfl (Nat.le_of_ble_eq_true rfl) dX5_mark_15 ⟨Nat.zero_le _, Nat.zero_le _⟩) (fun H locs hC => ?_)
    refine lv_if_eq (tgt := 30) hx hb dX5_mark_18 (by decide) (fun c2 => ?_) (fun c2 => ?_)
    · have hf := z_t hf c2
      refine lv_bipush (v := (-2 : Int32)) hx hb dX5_mark_30 (by decide) ?_
      exact z_reti hx hb hr hlk hC (Prod.mk.inj (Option.some.inj hf)).1 (Prod.mk.inj (Option.some.inj hf)).2 dX5_mark_32
    · have hf := z_f hf c2
      refine lv_iload_n hx hb dX5_mark_21 rfl (lv_at hl 3 rfl) ?_
      refine lv_iconst (v := (0 : Int32)) hx hb dX5_mark_22 (by decide) ?_
      refine lv_iconst (v := (2 : Int32)) hx hb dX5_mark_23 (by decide) ?_
      refine z_calli hC (z_runS (rest := []) zx_Gok hC E (zc_X5_within l D cI cJ tp q u a_3 (0 : Int32) (2 : Int32) rfl _) (va_cwS 3 hts gX5_mark_X5_within rfl rfl rfl zd_X5_within ⟨Nat.le_of_ble_eq_true rfl, Nat.le_of_ble_eq_true rfl⟩) rfl hl.1 rfl (Nat.le_of_ble_eq_true rfl) dX5_mark_24 ⟨Nat.zero_le _, Nat.zero_le _⟩) (fun H locs hC => ?_)
      refine lv_if_ne (tgt := 33) hx hb dX5_mark_27 (by decide) (fun c3 => ?_) (fun c3 => ?_)
      · have hf := z_f hf c3
        refine lv_aload_n hx hb dX5_mark_33 rfl (lv_at hl 0 rfl) ?_
        refine zx_gX5_stolen hx hb hts zi_X5_mark hown hC kf33 dX5_mark_34 ?_
        refine lv_iload_n hx hb dX5_mark_37 rfl (lv_at hl 1 rfl) ?_
        refine lv_iload_n hx hb dX5_mark_38 rfl (lv_at hl 2 rfl) ?_
        refine lv_iload_n hx hb dX5_mark_39 rfl (lv_at hl 3 rfl) ?_
        obtain ⟨r4, u5, pr4, hf⟩ := z_bd2_s hf
        refine z_calli hC (z_runV (rest := []) zx_Gok hC E (zc_X3_changeMark l D cI cJ tp q u a_1 a_2 a_3 pr4 _) (cwV 3 hts gX5_mark_X3_changeMark rfl rfl rfl ⟨rfl, zd_X3_changeMark⟩ ⟨Nat.le_of_ble_eq_true rfl, Nat.le_of_ble_eq_true rfl⟩) (zx_rcX3 hC) rfl hl.1 rfl (Nat.le_of_ble_eq_true rfl) dX5_mark_40 ⟨Nat.zero_le _, Nat.zero_le _⟩) (fun H locs hC => ?_)
        exact z_reti hx hb hr hlk hC (Prod.mk.inj (Option.some.inj hf)).1 (Prod.mk.inj (Option.some.inj hf)).2 dX5_mark_43
      · have hf := z_t hf c3
        refine lv_bipush (v := (-2 : Int32)) hx hb dX5_mark_30 (by decide) ?_
        exact z_reti hx hb hr hlk hC (Prod.mk.inj (Option.some.inj hf)).1 (Prod.mk.inj (Option.some.inj hf)).2 dX5_mark_32
abbrev zr_X5_score : Room := { frames := 2, cells := 0, slots := 0, locals := 43 }
theorem zd_X5_score : yX5_score.cls ≠ "java/lang/invoke/MethodHandle" ∧ yX5_score.cls ≠ "java/lang/invoke/VarHandle" ∧ (parseMethodDescriptor yX5_score.desc).map (fun d => d.parameters.length) = some 2 := by decide +kernel
theorem zi_X5_score : ∀ w ∈ wsX50, w ∈ wsX5_score := fun _ h => List.mem_cons_of_mem _ (List.mem_append_left _ (List.mem_append_left _ (List.mem_append_right _ h)))
set_option maxHeartbeats 4000000 in
set_option maxRecDepth 100000 in
theorem zc_X5_score (l : Launch) (D : va_G) (cI cJ : ClassId) (tp : Nat) (q : Nat → Nat) (u : z_St) (a_1 : Int32) (a_2 : Int32) {r : Int32} (hf : zf_X5_score u a_1 a_2 = some r) : z_Mi l yX5_score wsX5_score zr_X5_score (zx_W cI q) (zx_G tp) D cI cJ [.ref (q 5), .int a_1, .int a_2] u r u := by
  refine z_ofi (cc := cX5_score) (maxL := 3) (ret := (some .int)) zx_Gok (by decide) rfl (Nat.le_of_ble_eq_true rfl) ?_
  intro A p e s m args below meth c ls E hr hlk hC hl
  have E : CallFix p m c cX5_score 3 s args wsX5_score RX5 := E
  have hx := E.1
  have hb := E.2.1
  have hml := E.2.2.1
  have hown := E.2.2.2.1
  have hts := E.2.2.2.2
  have hl : lv_has ls 3 [(0, .ref (q 5)), (1, .int a_1), (2, .int a_2)] := hl
  unfold zf_X5_score at hf
  have kf33 := hts (.fieldLink RX5 33 "DawnFair" "stolen" "LDawnFair$Stolen;") (by decide +kernel)
  have kf12 := hts (.fieldLink RX5 12 "DawnFair" "pieces" "LDawnFair$Pieces;") (by decide +kernel)
  refine lv_aload_n hx hb dX5_score_0 rfl (lv_at hl 0 rfl) ?_
  refine zx_gX5_stolen hx hb hts zi_X5_score hown hC kf33 dX5_score_1 ?_
  refine lv_iload_n hx hb dX5_score_4 rfl (lv_at hl 1 rfl) ?_
  refine z_calli hC (z_runV (rest := []) zx_Gok hC E (zc_X3_hasEntry l D cI cJ tp q u a_1 rfl _) (cwV 1 hts gX5_score_X3_hasEntry rfl rfl rfl ⟨rfl, zd_X3_hasEntry⟩ ⟨Nat.le_of_ble_eq_true rfl, Nat.le_of_ble_eq_true rfl⟩) (zx_rcX3 hC) rfl hl.1 rfl (Nat.le_of_ble_eq_true rfl) dX5_score_5 ⟨Nat.zero_le _, Nat.zero_le _⟩) (fun H locs hC => ?_)
  refine lv_if_eq (tgt := 22) hx hb dX5_score_8 (by decide) (fun c1 => ?_) (fun c1 => ?_)
  · have hf := z_t hf c1
    refine lv_sipush (v := (-1000 : Int32)) hx hb dX5_score_22 (by decide) ?_
    exact z_reti hx hb hr hlk hC (Option.some.inj hf) rfl dX5_score_25
  · have hf := z_f hf c1
    refine lv_aload_n hx hb dX5_score_11 rfl (lv_at hl 0 rfl) ?_
    refine zx_gX5_pieces hx hb hts zi_X5_score hown hC kf12 dX5_score_12 ?_
    refine lv_iload_n hx hb dX5_score_15 rfl (lv_at hl 2 rfl) ?_
    refine z_calli hC (z_runV (rest := []) zx_Gok hC E (zc_X2_hasThing l D cI cJ tp q u a_2 rfl _) (cwV 1 hts gX5_score_X2_hasThing rfl rfl rfl ⟨rfl, zd_X2_hasThing⟩ ⟨Nat.le_of_ble_eq_true rfl, Nat.le_of_ble_eq_true rfl⟩) (zx_rcX2 hC) rfl hl.1 rfl (Nat.le_of_ble_eq_true rfl) dX5_score_16 ⟨Nat.zero_le _, Nat.zero_le _⟩) (fun H locs hC => ?_)
    refine lv_if_ne (tgt := 26) hx hb dX5_score_19 (by decide) (fun c2 => ?_) (fun c2 => ?_)
    · have hf := z_f hf c2
      refine lv_aload_n hx hb dX5_score_26 rfl (lv_at hl 0 rfl) ?_
      refine zx_gX5_stolen hx hb hts zi_X5_score hown hC kf33 dX5_score_27 ?_
      refine lv_iload_n hx hb dX5_score_30 rfl (lv_at hl 1 rfl) ?_
      refine lv_iload_n hx hb dX5_score_31 rfl (lv_at hl 2 rfl) ?_
      obtain ⟨r3, pr3, hf⟩ := z_bd_s hf
      refine z_calli hC (z_runV (rest := []) zx_Gok hC E (zc_X3_scoreOf l D cI cJ tp q u a_1 a_2 pr3 _) (cwV 2 hts gX5_score_X3_scoreOf rfl rfl rfl ⟨rfl, zd_X3_scoreOf⟩ ⟨Nat.le_of_ble_eq_true rfl, Nat.le_of_ble_eq_true rfl⟩) (zx_rcX3 hC) rfl hl.1 rfl (Nat.le_of_ble_eq_true rfl) dX5_score_32 ⟨Nat.zero_le _, Nat.zero_le _⟩) (fun H locs hC => ?_)
      exact z_reti hx hb hr hlk hC (Option.some.inj hf) rfl dX5_score_35
    · have hf := z_t hf c2
      refine lv_sipush (v := (-1000 : Int32)) hx hb dX5_score_22 (by decide) ?_
      exact z_reti hx hb hr hlk hC (Option.some.inj hf) rfl dX5_score_25
abbrev zr_X5_joined : Room := { frames := 4, cells := 0, slots := 0, locals := 90 }
theorem zd_X5_joined : yX5_joined.cls ≠ "java/lang/invoke/MethodHandle" ∧ yX5_joined.cls ≠ "java/lang/invoke/VarHandle" ∧ (parseMethodDescriptor yX5_joined.desc).map (fun d => d.parameters.length) = some 0 := by decide +kernel
theorem zi_X5_joined : ∀ w ∈ wsX50, w ∈ wsX5_joined := fun _ h => List.mem_cons_of_mem _ (List.mem_append_left _ (List.mem_append_left _ (List.mem_append_right _ h)))
set_option maxHeartbeats 4000000 in
set_option maxRecDepth 100000 in
theorem zc_X5_joined (l : Launch) (D : va_G) (cI cJ : ClassId) (tp : Nat) (q : Nat → Nat) (u : z_St) {r : Int32} {u2 : z_St} (hf : zf_X5_joined u = some (r, u2)) : z_Mi l yX5_joined wsX5_joined zr_X5_joined (zx_W cI q) (zx_G tp) D cI cJ [.ref (q 5)] u r u2 := by
  refine z_ofi (cc := cX5_joined) (maxL := 1) (ret := (some .int)) zx_Gok (by decide) rfl (Nat.le_of_ble_eq_true rfl) ?_
  intro A p e s m args below meth c ls E hr hlk hC hl
  have E : CallFix p m c cX5_joined 1 s args wsX5_joined RX5 := E
  have hx := E.1
  have hb := E.2.1
  have hml := E.2.2.1
  have hown := E.2.2.2.1
  have hts := E.2.2.2.2
  have hl : lv_has ls 1 [(0, .ref (q 5))] := hl
  unfold zf_X5_joined at hf
  have kf33 := hts (.fieldLink RX5 33 "DawnFair" "stolen" "LDawnFair$Stolen;") (by decide +kernel)
  have kf12 := hts (.fieldLink RX5 12 "DawnFair" "pieces" "LDawnFair$Pieces;") (by decide +kernel)
  refine lv_aload_n hx hb dX5_joined_0 rfl (lv_at hl 0 rfl) ?_
  refine zx_gX5_stolen hx hb hts zi_X5_joined hown hC kf33 dX5_joined_1 ?_
  refine z_calli hC (z_runV (rest := []) zx_Gok hC E (zc_X3_isJoinable l D cI cJ tp q u rfl _) (cwV 0 hts gX5_joined_X3_isJoinable rfl rfl rfl ⟨rfl, zd_X3_isJoinable⟩ ⟨Nat.le_of_ble_eq_true rfl, Nat.le_of_ble_eq_true rfl⟩) (zx_rcX3 hC) rfl hl.1 rfl (Nat.le_of_ble_eq_true rfl) dX5_joined_4 ⟨Nat.zero_le _, Nat.zero_le _⟩) (fun H locs hC => ?_)
  refine lv_if_ne (tgt := 13) hx hb dX5_joined_7 (by decide) (fun c1 => ?_) (fun c1 => ?_)
  · have hf := z_f hf c1
    refine lv_aload_n hx hb dX5_joined_13 rfl (lv_at hl 0 rfl) ?_
    refine zx_gX5_stolen hx hb hts zi_X5_joined hown hC kf33 dX5_joined_14 ?_
    refine lv_aload_n hx hb dX5_joined_17 rfl (lv_at hl 0 rfl) ?_
    refine zx_gX5_pieces hx hb hts zi_X5_joined hown hC kf12 dX5_joined_18 ?_
    refine z_calli hC (z_runV (rest := [_]) zx_Gok hC E (zc_X2_thingCount l D cI cJ tp q u rfl _) (cwV 0 hts gX5_joined_X2_thingCount rfl rfl rfl ⟨rfl, zd_X2_thingCount⟩ ⟨Nat.le_of_ble_eq_true rfl, Nat.le_of_ble_eq_true rfl⟩) (zx_rcX2 hC) rfl hl.1 rfl (Nat.le_of_ble_eq_true rfl) dX5_joined_21 ⟨Nat.zero_le _, Nat.zero_le _⟩) (fun H locs hC => ?_)
    obtain ⟨r2, u3, pr2, hf⟩ := z_bd2_s hf
    refine z_calli hC (z_runV (rest := []) zx_Gok hC E (zc_X3_bestJoin l D cI cJ tp q u (zf_X2_thingCount u) pr2 _) (cwV 1 hts gX5_joined_X3_bestJoin rfl rfl rfl ⟨rfl, zd_X3_bestJoin⟩ ⟨Nat.le_of_ble_eq_true rfl, Nat.le_of_ble_eq_true rfl⟩) (zx_rcX3 hC) rfl hl.1 rfl (Nat.le_of_ble_eq_true rfl) dX5_joined_24 ⟨Nat.zero_le _, Nat.zero_le _⟩) (fun H locs hC => ?_)
    refine z_calli hC (z_runS (rest := []) zx_Gok hC E (zc_X3_sumIn l D cI cJ tp q u3 r2 rfl _) (va_cwS 1 hts gX5_joined_X3_sumIn rfl rfl rfl zd_X3_sumIn ⟨Nat.le_of_ble_eq_true rfl, Nat.le_of_ble_eq_true rfl⟩) rfl hl.1 rfl (Nat.le_of_ble_eq_true rfl) dX5_joined_27 ⟨Nat.zero_le _, Nat.zero_le _⟩) (fun H locs hC => ?_)
    exact z_reti hx hb hr hlk hC (Prod.mk.inj (Option.some.inj hf)).1 (Prod.mk.inj (Option.some.inj hf)).2 dX5_joined_30
  · have hf := z_t hf c1
    refine lv_bipush (v := (-3 : Int32)) hx hb dX5_joined_10 (by decide) ?_
    exact z_reti hx hb hr hlk hC (Prod.mk.inj (Option.some.inj hf)).1 (Prod.mk.inj (Option.some.inj hf)).2 dX5_joined_12
abbrev zr_X5_joinedTo : Room := { frames := 4, cells := 0, slots := 0, locals := 90 }
theorem zd_X5_joinedTo : yX5_joinedTo.cls ≠ "java/lang/invoke/MethodHandle" ∧ yX5_joinedTo.cls ≠ "java/lang/invoke/VarHandle" ∧ (parseMethodDescriptor yX5_joinedTo.desc).map (fun d => d.parameters.length) = some 1 := by decide +kernel
theorem zi_X5_joinedTo : ∀ w ∈ wsX50, w ∈ wsX5_joinedTo := fun _ h => List.mem_cons_of_mem _ (List.mem_append_left _ (List.mem_append_left _ (List.mem_append_right _ h)))
set_option maxHeartbeats 4000000 in
set_option maxRecDepth 100000 in
theorem zc_X5_joinedTo (l : Launch) (D : va_G) (cI cJ : ClassId) (tp : Nat) (q : Nat → Nat) (u : z_St) (a_1 : Int32) {r : Int32} {u2 : z_St} (hf : zf_X5_joinedTo u a_1 = some (r, u2)) : z_Mi l yX5_joinedTo wsX5_joinedTo zr_X5_joinedTo (zx_W cI q) (zx_G tp) D cI cJ [.ref (q 5), .int a_1] u r u2 := by
  refine z_ofi (cc := cX5_joinedTo) (maxL := 2) (ret := (some .int)) zx_Gok (by decide) rfl (Nat.le_of_ble_eq_true rfl) ?_
  intro A p e s m args below meth c ls E hr hlk hC hl
  have E : CallFix p m c cX5_joinedTo 2 s args wsX5_joinedTo RX5 := E
  have hx := E.1
  have hb := E.2.1
  have hml := E.2.2.1
  have hown := E.2.2.2.1
  have hts := E.2.2.2.2
  have hl : lv_has ls 2 [(0, .ref (q 5)), (1, .int a_1)] := hl
  unfold zf_X5_joinedTo at hf
  have kf33 := hts (.fieldLink RX5 33 "DawnFair" "stolen" "LDawnFair$Stolen;") (by decide +kernel)
  have kf12 := hts (.fieldLink RX5 12 "DawnFair" "pieces" "LDawnFair$Pieces;") (by decide +kernel)
  refine lv_aload_n hx hb dX5_joinedTo_0 rfl (lv_at hl 0 rfl) ?_
  refine zx_gX5_stolen hx hb hts zi_X5_joinedTo hown hC kf33 dX5_joinedTo_1 ?_
  refine lv_iload_n hx hb dX5_joinedTo_4 rfl (lv_at hl 1 rfl) ?_
  refine z_calli hC (z_runV (rest := []) zx_Gok hC E (zc_X3_hasEntry l D cI cJ tp q u a_1 rfl _) (cwV 1 hts gX5_joinedTo_X3_hasEntry rfl rfl rfl ⟨rfl, zd_X3_hasEntry⟩ ⟨Nat.le_of_ble_eq_true rfl, Nat.le_of_ble_eq_true rfl⟩) (zx_rcX3 hC) rfl hl.1 rfl (Nat.le_of_ble_eq_true rfl) dX5_joinedTo_5 ⟨Nat.zero_le _, Nat.zero_le _⟩) (fun H locs hC => ?_)
  refine lv_if_ne (tgt := 14) hx hb dX5_joinedTo_8 (by decide) (fun c1 => ?_) (fun c1 => ?_)
  · have hf := z_f hf c1
    refine lv_aload_n hx hb dX5_joinedTo_14 rfl (lv_at hl 0 rfl) ?_
    refine zx_gX5_stolen hx hb hts zi_X5_joinedTo hown hC kf33 dX5_joinedTo_15 ?_
    refine z_calli hC (z_runV (rest := []) zx_Gok hC E (zc_X3_isJoinable l D cI cJ tp q u rfl _) (cwV 0 hts gX5_joinedTo_X3_isJoinable rfl rfl rfl ⟨rfl, zd_X3_isJoinable⟩ ⟨Nat.le_of_ble_eq_true rfl, Nat.le_of_ble_eq_true rfl⟩) (zx_rcX3 hC) rfl hl.1 rfl (Nat.le_of_ble_eq_true rfl) dX5_joinedTo_18 ⟨Nat.zero_le _, Nat.zero_le _⟩) (fun H locs hC => ?_)
    refine lv_if_ne (tgt := 27) hx hb dX5_joinedTo_21 (by decide) (fun c2 => ?_) (fun c2 => ?_)
    · have hf := z_f hf c2
      refine lv_aload_n hx hb dX5_joinedTo_27 rfl (lv_at hl 0 rfl) ?_
      refine zx_gX5_stolen hx hb hts zi_X5_joinedTo hown hC kf33 dX5_joinedTo_28 ?_
      refine lv_aload_n hx hb dX5_joinedTo_31 rfl (lv_at hl 0 rfl) ?_
      refine zx_gX5_pieces hx hb hts zi_X5_joinedTo hown hC kf12 dX5_joinedTo_32 ?_
      refine z_calli hC (z_runV (rest := [_]) zx_Gok hC E (zc_X2_thingCount l D cI cJ tp q u rfl _) (cwV 0 hts gX5_joinedTo_X2_thingCount rfl rfl rfl ⟨rfl, zd_X2_thingCount⟩ ⟨Nat.le_of_ble_eq_true rfl, Nat.le_of_ble_eq_true rfl⟩) (zx_rcX2 hC) rfl hl.1 rfl (Nat.le_of_ble_eq_true rfl) dX5_joinedTo_35 ⟨Nat.zero_le _, Nat.zero_le _⟩) (fun H locs hC => ?_)
      obtain ⟨r3, u4, pr3, hf⟩ := z_bd2_s hf
      refine z_calli hC (z_runV (rest := []) zx_Gok hC E (zc_X3_bestJoin l D cI cJ tp q u (zf_X2_thingCount u) pr3 _) (cwV 1 hts gX5_joinedTo_X3_bestJoin rfl rfl rfl ⟨rfl, zd_X3_bestJoin⟩ ⟨Nat.le_of_ble_eq_true rfl, Nat.le_of_ble_eq_true rfl⟩) (zx_rcX3 hC) rfl hl.1 rfl (Nat.le_of_ble_eq_true rfl) dX5_joinedTo_38 ⟨Nat.zero_le _, Nat.zero_le _⟩) (fun H locs hC => ?_)
      refine lv_iload_n hx hb dX5_joinedTo_41 rfl (lv_at hl 1 rfl) ?_
      obtain ⟨r5, pr5, hf⟩ := z_bd_s hf
      refine z_calli hC (z_runS (rest := []) zx_Gok hC E (zc_X3_thingIn l D cI cJ tp q u4 r3 a_1 pr5 _) (va_cwS 2 hts gX5_joinedTo_X3_thingIn rfl rfl rfl zd_X3_thingIn ⟨Nat.le_of_ble_eq_true rfl, Nat.le_of_ble_eq_true rfl⟩) rfl hl.1 rfl (Nat.le_of_ble_eq_true rfl) dX5_joinedTo_42 ⟨Nat.zero_le _, Nat.zero_le _⟩) (fun H locs hC => ?_)
      exact z_reti hx hb hr hlk hC (Prod.mk.inj (Option.some.inj hf)).1 (Prod.mk.inj (Option.some.inj hf)).2 dX5_joinedTo_45
    · have hf := z_t hf c2
      refine lv_bipush (v := (-3 : Int32)) hx hb dX5_joinedTo_24 (by decide) ?_
      exact z_reti hx hb hr hlk hC (Prod.mk.inj (Option.some.inj hf)).1 (Prod.mk.inj (Option.some.inj hf)).2 dX5_joinedTo_26
  · have hf := z_t hf c1
    refine lv_bipush (v := (-2 : Int32)) hx hb dX5_joinedTo_11 (by decide) ?_
    exact z_reti hx hb hr hlk hC (Prod.mk.inj (Option.some.inj hf)).1 (Prod.mk.inj (Option.some.inj hf)).2 dX5_joinedTo_13
abbrev zr_X5_owe : Room := { frames := 3, cells := 0, slots := 0, locals := 63 }
theorem zd_X5_owe : yX5_owe.cls ≠ "java/lang/invoke/MethodHandle" ∧ yX5_owe.cls ≠ "java/lang/invoke/VarHandle" ∧ (parseMethodDescriptor yX5_owe.desc).map (fun d => d.parameters.length) = some 3 := by decide +kernel
theorem zi_X5_owe : ∀ w ∈ wsX50, w ∈ wsX5_owe := fun _ h => List.mem_cons_of_mem _ (List.mem_append_left _ (List.mem_append_right _ h))
set_option maxHeartbeats 4000000 in
set_option maxRecDepth 100000 in
theorem zc_X5_owe (l : Launch) (D : va_G) (cI cJ : ClassId) (tp : Nat) (q : Nat → Nat) (u : z_St) (a_1 : Int32) (a_2 : Int32) (a_3 : Int32) {r : Int32} {u2 : z_St} (hf : zf_X5_owe u a_1 a_2 a_3 = some (r, u2)) : z_Mi l yX5_owe wsX5_owe zr_X5_owe (zx_W cI q) (zx_G tp) D cI cJ [.ref (q 5), .int a_1, .int a_2, .int a_3] u r u2 := by
  refine z_ofi (cc := cX5_owe) (maxL := 4) (ret := (some .int)) zx_Gok (by decide) rfl (Nat.le_of_ble_eq_true rfl) ?_
  intro A p e s m args below meth c ls E hr hlk hC hl
  have E : CallFix p m c cX5_owe 4 s args wsX5_owe RX5 := E
  have hx := E.1
  have hb := E.2.1
  have hml := E.2.2.1
  have hown := E.2.2.2.1
  have hts := E.2.2.2.2
  have hl : lv_has ls 4 [(0, .ref (q 5)), (1, .int a_1), (2, .int a_2), (3, .int a_3)] := hl
  unfold zf_X5_owe at hf
  have kf40 := hts (.fieldLink RX5 40 "DawnFair" "debts" "LDawnFair$Debts;") (by decide +kernel)
  refine lv_iload_n hx hb dX5_owe_0 rfl (lv_at hl 1 rfl) ?_
  refine lv_iload_n hx hb dX5_owe_1 rfl (lv_at hl 2 rfl) ?_
  refine z_calli hC (z_runS (rest := []) zx_Gok hC E (zc_X5_areTwo l D cI cJ tp q u a_1 a_2 rfl _) (va_cwS 2 hts gX5_owe_X5_areTwo rfl rfl rfl zd_X5_areTwo ⟨Nat.le_of_ble_eq_true rfl, Nat.le_of_ble_eq_true rfl⟩) rfl hl.1 rfl (Nat.le_of_ble_eq_true rfl) dX5_owe_2 ⟨Nat.zero_le _, Nat.zero_le _⟩) (fun H locs hC => ?_)
  refine lv_if_eq (tgt := 19) hx hb dX5_owe_5 (by decide) (fun c1 => ?_) (fun c1 => ?_)
  · have hf := z_t hf c1
    refine lv_bipush (v := (-2 : Int32)) hx hb dX5_owe_19 (by decide) ?_
    exact z_reti hx hb hr hlk hC (Prod.mk.inj (Option.some.inj hf)).1 (Prod.mk.inj (Option.some.inj hf)).2 dX5_owe_21
  · have hf := z_f hf c1
    refine lv_iload_n hx hb dX5_owe_8 rfl (lv_at hl 3 rfl) ?_
    refine lv_iconst (v := (0 : Int32)) hx hb dX5_owe_9 (by decide) ?_
    refine lv_sipush (v := (10000 : Int32)) hx hb dX5_owe_10 (by decide) ?_
    refine z_calli hC (z_runS (rest := []) zx_Gok hC E (zc_X5_within l D cI cJ tp q u a_3 (0 : Int32) (10000 : Int32) rfl _) (va_cwS 3 hts gX5_owe_X5_within rfl rfl rfl zd_X5_within ⟨Nat.le_of_ble_eq_true rfl, Nat.le_of_ble_eq_true rfl⟩) rfl hl.1 rfl (Nat.le_of_ble_eq_true rfl) dX5_owe_13 ⟨Nat.zero_le _, Nat.zero_le _⟩) (fun H locs hC => ?_)
    refine lv_if_ne (tgt := 22) hx hb dX5_owe_16 (by decide) (fun c2 => ?_) (fun c2 => ?_)
    · have hf := z_f hf c2
      refine lv_aload_n hx hb dX5_owe_22 rfl (lv_at hl 0 rfl) ?_
      refine zx_gX5_debts hx hb hts zi_X5_owe hown hC kf40 dX5_owe_23 ?_
      refine lv_iload_n hx hb dX5_owe_26 rfl (lv_at hl 1 rfl) ?_
      refine lv_iload_n hx hb dX5_owe_27 rfl (lv_at hl 2 rfl) ?_
      refine lv_iload_n hx hb dX5_owe_28 rfl (lv_at hl 3 rfl) ?_
      obtain ⟨r3, u4, pr3, hf⟩ := z_bd2_s hf
      refine z_calli hC (z_runV (rest := []) zx_Gok hC E (zc_X1_change l D cI cJ tp q u a_1 a_2 a_3 pr3 _) (cwV 3 hts gX5_owe_X1_change rfl rfl rfl ⟨rfl, zd_X1_change⟩ ⟨Nat.le_of_ble_eq_true rfl, Nat.le_of_ble_eq_true rfl⟩) (zx_rcX1 hC) rfl hl.1 rfl (Nat.le_of_ble_eq_true rfl) dX5_owe_29 ⟨Nat.zero_le _, Nat.zero_le _⟩) (fun H locs hC => ?_)
      exact z_reti hx hb hr hlk hC (Prod.mk.inj (Option.some.inj hf)).1 (Prod.mk.inj (Option.some.inj hf)).2 dX5_owe_32
    · have hf := z_t hf c2
      refine lv_bipush (v := (-2 : Int32)) hx hb dX5_owe_19 (by decide) ?_
      exact z_reti hx hb hr hlk hC (Prod.mk.inj (Option.some.inj hf)).1 (Prod.mk.inj (Option.some.inj hf)).2 dX5_owe_21
abbrev zr_X5_net : Room := { frames := 2, cells := 0, slots := 0, locals := 45 }
theorem zd_X5_net : yX5_net.cls ≠ "java/lang/invoke/MethodHandle" ∧ yX5_net.cls ≠ "java/lang/invoke/VarHandle" ∧ (parseMethodDescriptor yX5_net.desc).map (fun d => d.parameters.length) = some 1 := by decide +kernel
theorem zi_X5_net : ∀ w ∈ wsX50, w ∈ wsX5_net := fun _ h => List.mem_cons_of_mem _ (List.mem_append_left _ (List.mem_append_right _ h))
set_option maxHeartbeats 4000000 in
set_option maxRecDepth 100000 in
theorem zc_X5_net (l : Launch) (D : va_G) (cI cJ : ClassId) (tp : Nat) (q : Nat → Nat) (u : z_St) (a_1 : Int32) {r : Int32} (hf : zf_X5_net u a_1 = some r) : z_Mi l yX5_net wsX5_net zr_X5_net (zx_W cI q) (zx_G tp) D cI cJ [.ref (q 5), .int a_1] u r u := by
  refine z_ofi (cc := cX5_net) (maxL := 2) (ret := (some .int)) zx_Gok (by decide) rfl (Nat.le_of_ble_eq_true rfl) ?_
  intro A p e s m args below meth c ls E hr hlk hC hl
  have E : CallFix p m c cX5_net 2 s args wsX5_net RX5 := E
  have hx := E.1
  have hb := E.2.1
  have hml := E.2.2.1
  have hown := E.2.2.2.1
  have hts := E.2.2.2.2
  have hl : lv_has ls 2 [(0, .ref (q 5)), (1, .int a_1)] := hl
  unfold zf_X5_net at hf
  have kc111 := hts (.constant RX5 111 (-2000000000)) (by decide +kernel)
  have kf40 := hts (.fieldLink RX5 40 "DawnFair" "debts" "LDawnFair$Debts;") (by decide +kernel)
  refine lv_iload_n hx hb dX5_net_0 rfl (lv_at hl 1 rfl) ?_
  refine z_calli hC (z_runS (rest := []) zx_Gok hC E (zc_X5_isDealer l D cI cJ tp q u a_1 rfl _) (va_cwS 1 hts gX5_net_X5_isDealer rfl rfl rfl zd_X5_isDealer ⟨Nat.le_of_ble_eq_true rfl, Nat.le_of_ble_eq_true rfl⟩) rfl hl.1 rfl (Nat.le_of_ble_eq_true rfl) dX5_net_1 ⟨Nat.zero_le _, Nat.zero_le _⟩) (fun H locs hC => ?_)
  refine lv_if_eq (tgt := 18) hx hb dX5_net_4 (by decide) (fun c1 => ?_) (fun c1 => ?_)
  · have hf := z_t hf c1
    refine lv_ldc (own := RX5) (v := (-2000000000 : Int32)) hx hb hown kc111 dX5_net_18 ?_
    exact z_reti hx hb hr hlk hC (Option.some.inj hf) rfl dX5_net_20
  · have hf := z_f hf c1
    refine lv_aload_n hx hb dX5_net_7 rfl (lv_at hl 0 rfl) ?_
    refine zx_gX5_debts hx hb hts zi_X5_net hown hC kf40 dX5_net_8 ?_
    refine lv_iload_n hx hb dX5_net_11 rfl (lv_at hl 1 rfl) ?_
    obtain ⟨r2, pr2, hf⟩ := z_bd_s hf
    refine z_calli hC (z_runV (rest := []) zx_Gok hC E (zc_X1_netOf l D cI cJ tp q u a_1 pr2 _) (cwV 1 hts gX5_net_X1_netOf rfl rfl rfl ⟨rfl, zd_X1_netOf⟩ ⟨Nat.le_of_ble_eq_true rfl, Nat.le_of_ble_eq_true rfl⟩) (zx_rcX1 hC) rfl hl.1 rfl (Nat.le_of_ble_eq_true rfl) dX5_net_12 ⟨Nat.zero_le _, Nat.zero_le _⟩) (fun H locs hC => ?_)
    refine lv_goto (tgt := 20) hx hb dX5_net_15 (by decide) ?_
    exact z_reti hx hb hr hlk hC (Option.some.inj hf) rfl dX5_net_20
abbrev zr_X5_fall : Room := { frames := 3, cells := 0, slots := 0, locals := 73 }
theorem zd_X5_fall : yX5_fall.cls ≠ "java/lang/invoke/MethodHandle" ∧ yX5_fall.cls ≠ "java/lang/invoke/VarHandle" ∧ (parseMethodDescriptor yX5_fall.desc).map (fun d => d.parameters.length) = some 2 := by decide +kernel
theorem zi_X5_fall : ∀ w ∈ wsX50, w ∈ wsX5_fall := fun _ h => List.mem_cons_of_mem _ (List.mem_append_left _ (List.mem_append_right _ h))
set_option maxHeartbeats 4000000 in
set_option maxRecDepth 100000 in
theorem zc_X5_fall (l : Launch) (D : va_G) (cI cJ : ClassId) (tp : Nat) (q : Nat → Nat) (u : z_St) (a_1 : Int32) (a_2 : Int32) {r : Int32} (hf : zf_X5_fall u a_1 a_2 = some r) : z_Mi l yX5_fall wsX5_fall zr_X5_fall (zx_W cI q) (zx_G tp) D cI cJ [.ref (q 5), .int a_1, .int a_2] u r u := by
  refine z_ofi (cc := cX5_fall) (maxL := 3) (ret := (some .int)) zx_Gok (by decide) rfl (Nat.le_of_ble_eq_true rfl) ?_
  intro A p e s m args below meth c ls E hr hlk hC hl
  have E : CallFix p m c cX5_fall 3 s args wsX5_fall RX5 := E
  have hx := E.1
  have hb := E.2.1
  have hml := E.2.2.1
  have hown := E.2.2.2.1
  have hts := E.2.2.2.2
  have hl : lv_has ls 3 [(0, .ref (q 5)), (1, .int a_1), (2, .int a_2)] := hl
  unfold zf_X5_fall at hf
  have kc93 := hts (.constant RX5 93 (100000)) (by decide +kernel)
  have kf40 := hts (.fieldLink RX5 40 "DawnFair" "debts" "LDawnFair$Debts;") (by decide +kernel)
  refine lv_iload_n hx hb dX5_fall_0 rfl (lv_at hl 1 rfl) ?_
  refine z_calli hC (z_runS (rest := []) zx_Gok hC E (zc_X5_isDealer l D cI cJ tp q u a_1 rfl _) (va_cwS 1 hts gX5_fall_X5_isDealer rfl rfl rfl zd_X5_isDealer ⟨Nat.le_of_ble_eq_true rfl, Nat.le_of_ble_eq_true rfl⟩) rfl hl.1 rfl (Nat.le_of_ble_eq_true rfl) dX5_fall_1 ⟨Nat.zero_le _, Nat.zero_le _⟩) (fun H locs hC => ?_)
  refine lv_if_eq (tgt := 17) hx hb dX5_fall_4 (by decide) (fun c1 => ?_) (fun c1 => ?_)
  · have hf := z_t hf c1
    refine lv_bipush (v := (-2 : Int32)) hx hb dX5_fall_17 (by decide) ?_
    exact z_reti hx hb hr hlk hC (Option.some.inj hf) rfl dX5_fall_19
  · have hf := z_f hf c1
    refine lv_iload_n hx hb dX5_fall_7 rfl (lv_at hl 2 rfl) ?_
    refine lv_iconst (v := (0 : Int32)) hx hb dX5_fall_8 (by decide) ?_
    refine lv_ldc (own := RX5) (v := (100000 : Int32)) hx hb hown kc93 dX5_fall_9 ?_
    refine z_calli hC (z_runS (rest := []) zx_Gok hC E (zc_X5_within l D cI cJ tp q u a_2 (0 : Int32) (100000 : Int32) rfl _) (va_cwS 3 hts gX5_fall_X5_within rfl rfl rfl zd_X5_within ⟨Nat.le_of_ble_eq_true rfl, Nat.le_of_ble_eq_true rfl⟩) rfl hl.1 rfl (Nat.le_of_ble_eq_true rfl) dX5_fall_11 ⟨Nat.zero_le _, Nat.zero_le _⟩) (fun H locs hC => ?_)
    refine lv_if_ne (tgt := 20) hx hb dX5_fall_14 (by decide) (fun c2 => ?_) (fun c2 => ?_)
    · have hf := z_f hf c2
      refine lv_aload_n hx hb dX5_fall_20 rfl (lv_at hl 0 rfl) ?_
      refine zx_gX5_debts hx hb hts zi_X5_fall hown hC kf40 dX5_fall_21 ?_
      refine lv_iload_n hx hb dX5_fall_24 rfl (lv_at hl 1 rfl) ?_
      refine lv_iload_n hx hb dX5_fall_25 rfl (lv_at hl 2 rfl) ?_
      obtain ⟨r3, pr3, hf⟩ := z_bd_s hf
      refine z_calli hC (z_runV (rest := []) zx_Gok hC E (zc_X1_fallFrom l D cI cJ tp q u a_1 a_2 pr3 _) (cwV 2 hts gX5_fall_X1_fallFrom rfl rfl rfl ⟨rfl, zd_X1_fallFrom⟩ ⟨Nat.le_of_ble_eq_true rfl, Nat.le_of_ble_eq_true rfl⟩) (zx_rcX1 hC) rfl hl.1 rfl (Nat.le_of_ble_eq_true rfl) dX5_fall_26 ⟨Nat.zero_le _, Nat.zero_le _⟩) (fun H locs hC => ?_)
      exact z_reti hx hb hr hlk hC (Option.some.inj hf) rfl dX5_fall_29
    · have hf := z_t hf c2
      refine lv_bipush (v := (-2 : Int32)) hx hb dX5_fall_17 (by decide) ?_
      exact z_reti hx hb hr hlk hC (Option.some.inj hf) rfl dX5_fall_19
end
