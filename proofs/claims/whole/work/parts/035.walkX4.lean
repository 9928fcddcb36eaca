section
variable {p : Program} {l : Launch} {e : Env} {R : Room} {s : State} {m : MethodId} {args : Array Value} {below : List Frame} {meth : Method} {c : Code} {H : Heap} {locs : List Loc} {cells slots : Nat} {Q : State → Prop} {cc : ByteArray} {pc : Nat} {ls : Array Slot} {rest : List Value}
variable {D : va_G} {cI cJ : ClassId} {tp : Nat} {q : Nat → Nat} {A : Nat → Prop} {u : z_St} {Ts : List Cond}
abbrev zr_X4_holderOf : Room := { frames := 0, cells := 0, slots := 0, locals := 0 }
theorem zd_X4_holderOf : yX4_holderOf.cls ≠ "java/lang/invoke/MethodHandle" ∧ yX4_holderOf.cls ≠ "java/lang/invoke/VarHandle" ∧ (parseMethodDescriptor yX4_holderOf.desc).map (fun d => d.parameters.length) = some 1 := by decide +kernel
theorem zi_X4_holderOf : ∀ w ∈ wsX40, w ∈ wsX4_holderOf := fun _ h => List.mem_cons_of_mem _ (List.mem_append_right _ h)
set_option maxHeartbeats 4000000 in
set_option maxRecDepth 100000 in
theorem zc_X4_holderOf (l : Launch) (D : va_G) (cI cJ : ClassId) (tp : Nat) (q : Nat → Nat) (u : z_St) (a_1 : Int32) {r : Int32} (hf : zf_X4_holderOf u a_1 = some r) : z_Mi l yX4_holderOf wsX4_holderOf zr_X4_holderOf (zx_W cI q) (zx_G tp) D cI cJ [.ref (q 4), .int a_1] u r u := by
  refine z_ofi (cc := cX4_holderOf) (maxL := 2) (ret := (some .int)) zx_Gok (by decide) rfl (Nat.le_of_ble_eq_true rfl) ?_
  intro A p e s m args below meth c ls E hr hlk hC hl
  have E : CallFix p m c cX4_holderOf 2 s args wsX4_holderOf RX4 := E
  have hx := E.1
  have hb := E.2.1
  have hml := E.2.2.1
  have hown := E.2.2.2.1
  have hts := E.2.2.2.2
  have hl : lv_has ls 2 [(0, .ref (q 4)), (1, .int a_1)] := hl
  unfold zf_X4_holderOf at hf
  have kf9 := hts (.fieldLink RX4 9 "DawnFair$Trade" "holders" "[I") (by decide +kernel)
  refine lv_aload_n hx hb dX4_holderOf_0 rfl (lv_at hl 0 rfl) ?_
  refine zx_gX4_holders hx hb hts zi_X4_holderOf hown hC kf9 dX4_holderOf_1 ?_
  refine lv_iload_n hx hb dX4_holderOf_4 rfl (lv_at hl 1 rfl) ?_
  obtain ⟨h1, hf⟩ := z_gd_s hf
  refine zx_aX4_holders hx hb hC (z_in h1) dX4_holderOf_5 ?_
  exact z_reti hx hb hr hlk hC (Option.some.inj hf) rfl dX4_holderOf_6
abbrev zr_X4_handOver : Room := { frames := 0, cells := 0, slots := 0, locals := 0 }
theorem zd_X4_handOver : yX4_handOver.cls ≠ "java/lang/invoke/MethodHandle" ∧ yX4_handOver.cls ≠ "java/lang/invoke/VarHandle" ∧ (parseMethodDescriptor yX4_handOver.desc).map (fun d => d.parameters.length) = some 2 := by decide +kernel
theorem zi_X4_handOver : ∀ w ∈ wsX40, w ∈ wsX4_handOver := fun _ h => List.mem_cons_of_mem _ (List.mem_append_right _ h)
set_option maxHeartbeats 4000000 in
set_option maxRecDepth 100000 in
theorem zc_X4_handOver (l : Launch) (D : va_G) (cI cJ : ClassId) (tp : Nat) (q : Nat → Nat) (u : z_St) (a_1 : Int32) (a_2 : Int32) {r : Int32} {u2 : z_St} (hf : zf_X4_handOver u a_1 a_2 = some (r, u2)) : z_Mi l yX4_handOver wsX4_handOver zr_X4_handOver (zx_W cI q) (zx_G tp) D cI cJ [.ref (q 4), .int a_1, .int a_2] u r u2 := by
  refine z_ofi (cc := cX4_handOver) (maxL := 4) (ret := (some .int)) zx_Gok (by decide) rfl (Nat.le_of_ble_eq_true rfl) ?_
  intro A p e s m args below meth c ls E hr hlk hC hl
  have E : CallFix p m c cX4_handOver 4 s args wsX4_handOver RX4 := E
  have hx := E.1
  have hb := E.2.1
  have hml := E.2.2.1
  have hown := E.2.2.2.1
  have hts := E.2.2.2.2
  have hl : lv_has ls 4 [(0, .ref (q 4)), (1, .int a_1), (2, .int a_2)] := hl
  unfold zf_X4_handOver at hf
  have kf9 := hts (.fieldLink RX4 9 "DawnFair$Trade" "holders" "[I") (by decide +kernel)
  have kf15 := hts (.fieldLink RX4 15 "DawnFair$Trade" "latest" "[I") (by decide +kernel)
  refine lv_aload_n hx hb dX4_handOver_0 rfl (lv_at hl 0 rfl) ?_
  refine zx_gX4_holders hx hb hts zi_X4_handOver hown hC kf9 dX4_handOver_1 ?_
  refine lv_iload_n hx hb dX4_handOver_4 rfl (lv_at hl 1 rfl) ?_
  obtain ⟨h1, hf⟩ := z_gd_s hf
  refine zx_aX4_holders hx hb hC (z_in h1) dX4_handOver_5 ?_
  refine lv_topi (fun x2 ex2 => ?_)
  have hf := z_nm_s hf ex2
  refine lv_istore_n (lv' := [(3, _), (0, _), (1, _), (2, _)]) hx hb dX4_handOver_6 rfl hl (by decide) rfl (fun ls hl => ?_)
  refine lv_aload_n hx hb dX4_handOver_7 rfl (lv_at hl 1 rfl) ?_
  refine zx_gX4_holders hx hb hts zi_X4_handOver hown hC kf9 dX4_handOver_8 ?_
  refine lv_iload_n hx hb dX4_handOver_11 rfl (lv_at hl 2 rfl) ?_
  refine lv_iload_n hx hb dX4_handOver_12 rfl (lv_at hl 3 rfl) ?_
  obtain ⟨h3, hf⟩ := z_gd_s hf
  refine zx_sX4_holders hx hb hC (z_in h3) dX4_handOver_13 (fun u4 eu4 H locs hC => ?_)
  have hf := z_nm_s hf eu4
  refine lv_aload_n hx hb dX4_handOver_14 rfl (lv_at hl 1 rfl) ?_
  refine zx_gX4_latest hx hb hts zi_X4_handOver hown hC kf15 dX4_handOver_15 ?_
  refine lv_iload_n hx hb dX4_handOver_18 rfl (lv_at hl 2 rfl) ?_
  refine lv_iconst (v := (-1 : Int32)) hx hb dX4_handOver_19 (by decide) ?_
  obtain ⟨h5, hf⟩ := z_gd_s hf
  refine zx_sX4_latest hx hb hC (z_in h5) dX4_handOver_20 (fun u6 eu6 H locs hC => ?_)
  have hf := z_nm_s hf eu6
  refine lv_iload_n hx hb dX4_handOver_21 rfl (lv_at hl 0 rfl) ?_
  exact z_reti hx hb hr hlk hC (Prod.mk.inj (Option.some.inj hf)).1 (Prod.mk.inj (Option.some.inj hf)).2 dX4_handOver_22
abbrev zr_X4_currentHour : Room := { frames := 0, cells := 0, slots := 0, locals := 0 }
theorem zd_X4_currentHour : yX4_currentHour.cls ≠ "java/lang/invoke/MethodHandle" ∧ yX4_currentHour.cls ≠ "java/lang/invoke/VarHandle" ∧ (parseMethodDescriptor yX4_currentHour.desc).map (fun d => d.parameters.length) = some 0 := by decide +kernel
theorem zi_X4_currentHour : ∀ w ∈ wsX40, w ∈ wsX4_currentHour := fun _ h => List.mem_cons_of_mem _ (List.mem_append_right _ h)
set_option maxHeartbeats 4000000 in
set_option maxRecDepth 100000 in
theorem zc_X4_currentHour (l : Launch) (D : va_G) (cI cJ : ClassId) (tp : Nat) (q : Nat → Nat) (u : z_St) {r : Int32} (hf : zf_X4_currentHour u = r) : z_Mi l yX4_currentHour wsX4_currentHour zr_X4_currentHour (zx_W cI q) (zx_G tp) D cI cJ [.ref (q 4)] u r u := by
  refine z_ofi (cc := cX4_currentHour) (maxL := 1) (ret := (some .int)) zx_Gok (by decide) rfl (Nat.le_of_ble_eq_true rfl) ?_
  intro A p e s m args below meth c ls E hr hlk hC hl
  have E : CallFix p m c cX4_currentHour 1 s args wsX4_currentHour RX4 := E
  have hx := E.1
  have hb := E.2.1
  have hml := E.2.2.1
  have hown := E.2.2.2.1
  have hts := E.2.2.2.2
  have hl : lv_has ls 1 [(0, .ref (q 4))] := hl
  unfold zf_X4_currentHour at hf
  have kf31 := hts (.fieldLink RX4 31 "DawnFair$Trade" "hour" "I") (by decide +kernel)
  refine lv_aload_n hx hb dX4_currentHour_0 rfl (lv_at hl 0 rfl) ?_
  refine zx_gX4_hour hx hb hts zi_X4_currentHour hown hC kf31 dX4_currentHour_1 ?_
  exact z_reti hx hb hr hlk hC hf rfl dX4_currentHour_4
abbrev zr_X4_passHours : Room := { frames := 0, cells := 0, slots := 0, locals := 0 }
theorem zd_X4_passHours : yX4_passHours.cls ≠ "java/lang/invoke/MethodHandle" ∧ yX4_passHours.cls ≠ "java/lang/invoke/VarHandle" ∧ (parseMethodDescriptor yX4_passHours.desc).map (fun d => d.parameters.length) = some 1 := by decide +kernel
theorem zi_X4_passHours : ∀ w ∈ wsX40, w ∈ wsX4_passHours := fun _ h => List.mem_cons_of_mem _ (List.mem_append_right _ h)
set_option maxHeartbeats 4000000 in
set_option maxRecDepth 100000 in
theorem zc_X4_passHours (l : Launch) (D : va_G) (cI cJ : ClassId) (tp : Nat) (q : Nat → Nat) (u : z_St) (a_1 : Int32) {r : Int32} {u2 : z_St} (hf : zf_X4_passHours u a_1 = some (r, u2)) : z_Mi l yX4_passHours wsX4_passHours zr_X4_passHours (zx_W cI q) (zx_G tp) D cI cJ [.ref (q 4), .int a_1] u r u2 := by
  refine z_ofi (cc := cX4_passHours) (maxL := 2) (ret := (some .int)) zx_Gok (by decide) rfl (Nat.le_of_ble_eq_true rfl) ?_
  intro A p e s m args below meth c ls E hr hlk hC hl
  have E : CallFix p m c cX4_passHours 2 s args wsX4_passHours RX4 := E
  have hx := E.1
  have hb := E.2.1
  have hml := E.2.2.1
  have hown := E.2.2.2.1
  have hts := E.2.2.2.2
  have hl : lv_has ls 2 [(0, .ref (q 4)), (1, .int a_1)] := hl
  unfold zf_X4_passHours at hf
  have kf31 := hts (.fieldLink RX4 31 "DawnFair$Trade" "hour" "I") (by decide +kernel)
  refine lv_aload_n hx hb dX4_passHours_0 rfl (lv_at hl 0 rfl) ?_
  refine lv_dup hx hb dX4_passHours_1 rfl ?_
  refine zx_gX4_hour hx hb hts zi_X4_passHours hown hC kf31 dX4_passHours_2 ?_
  refine lv_iload_n hx hb dX4_passHours_5 rfl (lv_at hl 1 rfl) ?_
  refine lv_iadd hx hb dX4_passHours_6 ?_
  refine zx_pX4_hour hx hb hts zi_X4_passHours hown hC kf31 dX4_passHours_7 (fun u1 eu1 H locs hC => ?_)
  have hf := z_nm_s hf eu1
  refine lv_aload_n hx hb dX4_passHours_10 rfl (lv_at hl 0 rfl) ?_
  refine zx_gX4_hour hx hb hts zi_X4_passHours hown hC kf31 dX4_passHours_11 ?_
  exact z_reti hx hb hr hlk hC (Prod.mk.inj (Option.some.inj hf)).1 (Prod.mk.inj (Option.some.inj hf)).2 dX4_passHours_14
abbrev zr_X4_mayBeSold : Room := { frames := 0, cells := 0, slots := 0, locals := 0 }
theorem zd_X4_mayBeSold : yX4_mayBeSold.cls ≠ "java/lang/invoke/MethodHandle" ∧ yX4_mayBeSold.cls ≠ "java/lang/invoke/VarHandle" ∧ (parseMethodDescriptor yX4_mayBeSold.desc).map (fun d => d.parameters.length) = some 3 := by decide +kernel
theorem zi_X4_mayBeSold : ∀ w ∈ wsX40, w ∈ wsX4_mayBeSold := fun _ h => List.mem_cons_of_mem _ (List.mem_append_right _ h)
set_option maxHeartbeats 4000000 in
set_option maxRecDepth 100000 in
theorem zc_X4_mayBeSold (l : Launch) (D : va_G) (cI cJ : ClassId) (tp : Nat) (q : Nat → Nat) (u : z_St) (a_1 : Int32) (a_2 : Int32) (a_3 : Int32) {r : Int32} (hf : zf_X4_mayBeSold u a_1 a_2 a_3 = some r) : z_Mi l yX4_mayBeSold wsX4_mayBeSold zr_X4_mayBeSold (zx_W cI q) (zx_G tp) D cI cJ [.ref (q 4), .int a_1, .int a_2, .int a_3] u r u := by
  refine z_ofi (cc := cX4_mayBeSold) (maxL := 5) (ret := (some .boolean)) zx_Gok (by decide) rfl (Nat.le_of_ble_eq_true rfl) ?_
  intro A p e s m args below meth c ls E hr hlk hC hl
  have E : CallFix p m c cX4_mayBeSold 5 s args wsX4_mayBeSold RX4 := E
  have hx := E.1
  have hb := E.2.1
  have hml := E.2.2.1
  have hown := E.2.2.2.1
  have hts := E.2.2.2.2
  have hl : lv_has ls 5 [(0, .ref (q 4)), (1, .int a_1), (2, .int a_2), (3, .int a_3)] := hl
  unfold zf_X4_mayBeSold at hf
  have kf9 := hts (.fieldLink RX4 9 "DawnFair$Trade" "holders" "[I") (by decide +kernel)
  have kf18 := hts (.fieldLink RX4 18 "DawnFair$Trade" "soldAt" "[I") (by decide +kernel)
  have kf31 := hts (.fieldLink RX4 31 "DawnFair$Trade" "hour" "I") (by decide +kernel)
  refine lv_aload_n hx hb dX4_mayBeSold_0 rfl (lv_at hl 0 rfl) ?_
  refine zx_gX4_holders hx hb hts zi_X4_mayBeSold hown hC kf9 dX4_mayBeSold_1 ?_
  refine lv_iload_n hx hb dX4_mayBeSold_4 rfl (lv_at hl 1 rfl) ?_
  obtain ⟨h1, hf⟩ := z_gd_s hf
  refine zx_aX4_holders hx hb hC (z_in h1) dX4_mayBeSold_5 ?_
  refine lv_topi (fun x2 ex2 => ?_)
  have hf := z_nm_s hf ex2
  refine lv_istore (lv' := [(4, _), (0, _), (1, _), (2, _), (3, _)]) hx hb dX4_mayBeSold_6 hl (by decide) rfl (fun ls hl => ?_)
  refine lv_iload hx hb dX4_mayBeSold_8 (lv_at hl 0 rfl) ?_
  refine lv_iconst (v := (-1 : Int32)) hx hb dX4_mayBeSold_10 (by decide) ?_
  refine lv_icmp_eq (tgt := 49) hx hb dX4_mayBeSold_11 (by decide) (fun c3 => ?_) (fun c3 => ?_)
  · have hf := z_t hf c3
    refine lv_iconst (v := (0 : Int32)) hx hb dX4_mayBeSold_49 (by decide) ?_
    exact z_retz hx hb hr hlk hC rfl (Option.some.inj hf) rfl dX4_mayBeSold_50
  · have hf := z_f hf c3
    refine lv_iload hx hb dX4_mayBeSold_14 (lv_at hl 0 rfl) ?_
    refine lv_iload_n hx hb dX4_mayBeSold_16 rfl (lv_at hl 3 rfl) ?_
    refine lv_icmp_eq (tgt := 49) hx hb dX4_mayBeSold_17 (by decide) (fun c4 => ?_) (fun c4 => ?_)
    · have hf := z_t hf c4
      refine lv_iconst (v := (0 : Int32)) hx hb dX4_mayBeSold_49 (by decide) ?_
      exact z_retz hx hb hr hlk hC rfl (Option.some.inj hf) rfl dX4_mayBeSold_50
    · have hf := z_f hf c4
      refine lv_iload_n hx hb dX4_mayBeSold_20 rfl (lv_at hl 4 rfl) ?_
      refine lv_if_eq (tgt := 32) hx hb dX4_mayBeSold_21 (by decide) (fun c5 => ?_) (fun c5 => ?_)
      · have hf := z_t hf c5
        refine lv_aload_n hx hb dX4_mayBeSold_32 rfl (lv_at hl 1 rfl) ?_
        refine zx_gX4_soldAt hx hb hts zi_X4_mayBeSold hown hC kf18 dX4_mayBeSold_33 ?_
        refine lv_iload_n hx hb dX4_mayBeSold_36 rfl (lv_at hl 2 rfl) ?_
        obtain ⟨h6, hf⟩ := z_gd_s hf
        refine zx_aX4_soldAt hx hb hC (z_in h6) dX4_mayBeSold_37 ?_
        refine lv_aload_n hx hb dX4_mayBeSold_38 rfl (lv_at hl 1 rfl) ?_
        refine zx_gX4_hour hx hb hts zi_X4_mayBeSold hown hC kf31 dX4_mayBeSold_39 ?_
        refine lv_icmp_eq (tgt := 49) hx hb dX4_mayBeSold_42 (by decide) (fun c7 => ?_) (fun c7 => ?_)
        · have hf := z_t hf c7
          refine lv_iconst (v := (0 : Int32)) hx hb dX4_mayBeSold_49 (by decide) ?_
          exact z_retz hx hb hr hlk hC rfl (Option.some.inj hf) rfl dX4_mayBeSold_50
        · have hf := z_f hf c7
          refine lv_iconst (v := (1 : Int32)) hx hb dX4_mayBeSold_45 (by decide) ?_
          refine lv_goto (tgt := 50) hx hb dX4_mayBeSold_46 (by decide) ?_
          exact z_retz hx hb hr hlk hC rfl (Option.some.inj hf) rfl dX4_mayBeSold_50
      · have hf := z_f hf c5
        refine lv_iload_n hx hb dX4_mayBeSold_24 rfl (lv_at hl 4 rfl) ?_
        refine lv_aload_n hx hb dX4_mayBeSold_25 rfl (lv_at hl 1 rfl) ?_
        refine zx_gX4_hour hx hb hts zi_X4_mayBeSold hown hC kf31 dX4_mayBeSold_26 ?_
        refine lv_icmp_le (tgt := 49) hx hb dX4_mayBeSold_29 (by decide) (fun c8 => ?_) (fun c8 => ?_)
        · have hf := z_t hf c8
          refine lv_iconst (v := (0 : Int32)) hx hb dX4_mayBeSold_49 (by decide) ?_
          exact z_retz hx hb hr hlk hC rfl (Option.some.inj hf) rfl dX4_mayBeSold_50
        · have hf := z_f hf c8
          refine lv_aload_n hx hb dX4_mayBeSold_32 rfl (lv_at hl 1 rfl) ?_
          refine zx_gX4_soldAt hx hb hts zi_X4_mayBeSold hown hC kf18 dX4_mayBeSold_33 ?_
          refine lv_iload_n hx hb dX4_mayBeSold_36 rfl (lv_at hl 2 rfl) ?_
          obtain ⟨h9, hf⟩ := z_gd_s hf
          refine zx_aX4_soldAt hx hb hC (z_in h9) dX4_mayBeSold_37 ?_
          refine lv_aload_n hx hb dX4_mayBeSold_38 rfl (lv_at hl 1 rfl) ?_
          refine zx_gX4_hour hx hb hts zi_X4_mayBeSold hown hC kf31 dX4_mayBeSold_39 ?_
          refine lv_icmp_eq (tgt := 49) hx hb dX4_mayBeSold_42 (by decide) (fun c10 => ?_) (fun c10 => ?_)
          · have hf := z_t hf c10
            refine lv_iconst (v := (0 : Int32)) hx hb dX4_mayBeSold_49 (by decide) ?_
            exact z_retz hx hb hr hlk hC rfl (Option.some.inj hf) rfl dX4_mayBeSold_50
          · have hf := z_f hf c10
            refine lv_iconst (v := (1 : Int32)) hx hb dX4_mayBeSold_45 (by decide) ?_
            refine lv_goto (tgt := 50) hx hb dX4_mayBeSold_46 (by decide) ?_
            exact z_retz hx hb hr hlk hC rfl (Option.some.inj hf) rfl dX4_mayBeSold_50
abbrev zr_X4_addSale : Room := { frames := 1, cells := 0, slots := 0, locals := 24 }
theorem zd_X4_addSale : yX4_addSale.cls ≠ "java/lang/invoke/MethodHandle" ∧ yX4_addSale.cls ≠ "java/lang/invoke/VarHandle" ∧ (parseMethodDescriptor yX4_addSale.desc).map (fun d => d.parameters.length) = some 4 := by decide +kernel
theorem zi_X4_addSale : ∀ w ∈ wsX40, w ∈ wsX4_addSale := fun _ h => List.mem_cons_of_mem _ (List.mem_append_right _ h)
set_option maxHeartbeats 4000000 in
set_option maxRecDepth 100000 in
theorem zc_X4_addSale (l : Launch) (D : va_G) (cI cJ : ClassId) (tp : Nat) (q : Nat → Nat) (u : z_St) (a_1 : Int32) (a_2 : Int32) (a_3 : Int32) (a_4 : Int32) {r : Int32} {u2 : z_St} (hf : zf_X4_addSale u a_1 a_2 a_3 a_4 = some (r, u2)) : z_Mi l yX4_addSale wsX4_addSale zr_X4_addSale (zx_W cI q) (zx_G tp) D cI cJ [.ref (q 4), .int a_1, .int a_2, .int a_3, .int a_4] u r u2 := by
  refine z_ofi (cc := cX4_addSale) (maxL := 6) (ret := (some .int)) zx_Gok (by decide) rfl (Nat.le_of_ble_eq_true rfl) ?_
  intro A p e s m args below meth c ls E hr hlk hC hl
  have E : CallFix p m c cX4_addSale 6 s args wsX4_addSale RX4 := E
  have hx := E.1
  have hb := E.2.1
  have hml := E.2.2.1
  have hown := E.2.2.2.1
  have hts := E.2.2.2.2
  have hl : lv_has ls 6 [(0, .ref (q 4)), (1, .int a_1), (2, .int a_2), (3, .int a_3), (4, .int a_4)] := hl
  unfold zf_X4_addSale at hf
  have kf27 := hts (.fieldLink RX4 27 "DawnFair$Trade" "sales" "I") (by decide +kernel)
  have kf21 := hts (.fieldLink RX4 21 "DawnFair$Trade" "rows" "[I") (by decide +kernel)
  have kf9 := hts (.fieldLink RX4 9 "DawnFair$Trade" "holders" "[I") (by decide +kernel)
  have kf31 := hts (.fieldLink RX4 31 "DawnFair$Trade" "hour" "I") (by decide +kernel)
  have kf24 := hts (.fieldLink RX4 24 "DawnFair$Trade" "ahead" "[I") (by decide +kernel)
  have kf15 := hts (.fieldLink RX4 15 "DawnFair$Trade" "latest" "[I") (by decide +kernel)
  have kf18 := hts (.fieldLink RX4 18 "DawnFair$Trade" "soldAt" "[I") (by decide +kernel)
  refine lv_aload_n hx hb dX4_addSale_0 rfl (lv_at hl 0 rfl) ?_
  refine lv_iload_n hx hb dX4_addSale_1 rfl (lv_at hl 1 rfl) ?_
  refine lv_iload_n hx hb dX4_addSale_2 rfl (lv_at hl 2 rfl) ?_
  refine lv_iload hx hb dX4_addSale_3 (lv_at hl 4 rfl) ?_
  obtain ⟨r1, pr1, hf⟩ := z_bd_s hf
  refine z_calli hC (z_runV (rest := []) zx_Gok hC E (zc_X4_mayBeSold l D cI cJ tp q u a_1 a_2 a_4 pr1 _) (cwV 3 hts gX4_addSale_X4_mayBeSold rfl rfl rfl ⟨rfl, zd_X4_mayBeSold⟩ ⟨Nat.le_of_ble_eq_true rfl, Nat.le_of_ble_eq_true rfl⟩) (zx_rcX4 hC) rfl hl.1 rfl (Nat.le_of_ble_eq_true rfl) dX4_addSale_5 ⟨Nat.zero_le _, Nat.zero_le _⟩) (fun H locs hC => ?_)
  refine lv_if_ne (tgt := 14) hx hb dX4_addSale_8 (by decide) (fun c2 => ?_) (fun c2 => ?_)
  · have hf := z_f hf c2
    refine lv_aload_n hx hb dX4_addSale_14 rfl (lv_at hl 0 rfl) ?_
    refine zx_gX4_sales hx hb hts zi_X4_addSale hown hC kf27 dX4_addSale_15 ?_
    refine lv_bipush (v := (80 : Int32)) hx hb dX4_addSale_18 (by decide) ?_
    refine lv_icmp_lt (tgt := 26) hx hb dX4_addSale_20 (by decide) (fun c3 => ?_) (fun c3 => ?_)
    · have hf := z_t hf c3
      refine lv_aload_n hx hb dX4_addSale_26 rfl (lv_at hl 0 rfl) ?_
      refine zx_gX4_sales hx hb hts zi_X4_addSale hown hC kf27 dX4_addSale_27 ?_
      refine lv_bipush (v := (7 : Int32)) hx hb dX4_addSale_30 (by decide) ?_
      refine lv_imul hx hb dX4_addSale_32 ?_
      refine lv_topi (fun x4 ex4 => ?_)
      have hf := z_nm_s hf ex4
      refine lv_istore (lv' := [(5, _), (0, _), (1, _), (2, _), (3, _), (4, _)]) hx hb dX4_addSale_33 hl (by decide) rfl (fun ls hl => ?_)
      refine lv_aload_n hx hb dX4_addSale_35 rfl (lv_at hl 1 rfl) ?_
      refine zx_gX4_rows hx hb hts zi_X4_addSale hown hC kf21 dX4_addSale_36 ?_
      refine lv_iload hx hb dX4_addSale_39 (lv_at hl 0 rfl) ?_
      refine lv_iconst (v := (0 : Int32)) hx hb dX4_addSale_41 (by decide) ?_
      refine lv_iadd hx hb dX4_addSale_42 ?_
      refine lv_iload_n hx hb dX4_addSale_43 rfl (lv_at hl 2 rfl) ?_
      obtain ⟨h5, hf⟩ := z_gd_s hf
      refine zx_sX4_rows hx hb hC (z_in h5) dX4_addSale_44 (fun u6 eu6 H locs hC => ?_)
      have hf := z_nm_s hf eu6
      refine lv_aload_n hx hb dX4_addSale_45 rfl (lv_at hl 1 rfl) ?_
      refine zx_gX4_rows hx hb hts zi_X4_addSale hown hC kf21 dX4_addSale_46 ?_
      refine lv_iload hx hb dX4_addSale_49 (lv_at hl 0 rfl) ?_
      refine lv_iconst (v := (1 : Int32)) hx hb dX4_addSale_51 (by decide) ?_
      refine lv_iadd hx hb dX4_addSale_52 ?_
      refine lv_aload_n hx hb dX4_addSale_53 rfl (lv_at hl 1 rfl) ?_
      refine zx_gX4_holders hx hb hts zi_X4_addSale hown hC kf9 dX4_addSale_54 ?_
      refine lv_iload_n hx hb dX4_addSale_57 rfl (lv_at hl 2 rfl) ?_
      obtain ⟨h7, hf⟩ := z_gd_s hf
      refine zx_aX4_holders hx hb hC (z_in h7) dX4_addSale_58 ?_
      obtain ⟨h8, hf⟩ := z_gd_s hf
      refine zx_sX4_rows hx hb hC (z_in h8) dX4_addSale_59 (fun u9 eu9 H locs hC => ?_)
      have hf := z_nm_s hf eu9
      refine lv_aload_n hx hb dX4_addSale_60 rfl (lv_at hl 1 rfl) ?_
      refine zx_gX4_rows hx hb hts zi_X4_addSale hown hC kf21 dX4_addSale_61 ?_
      refine lv_iload hx hb dX4_addSale_64 (lv_at hl 0 rfl) ?_
      refine lv_iconst (v := (2 : Int32)) hx hb dX4_addSale_66 (by decide) ?_
      refine lv_iadd hx hb dX4_addSale_67 ?_
      refine lv_iload_n hx hb dX4_addSale_68 rfl (lv_at hl 3 rfl) ?_
      obtain ⟨h10, hf⟩ := z_gd_s hf
      refine zx_sX4_rows hx hb hC (z_in h10) dX4_addSale_69 (fun u11 eu11 H locs hC => ?_)
      have hf := z_nm_s hf eu11
      refine lv_aload_n hx hb dX4_addSale_70 rfl (lv_at hl 1 rfl) ?_
      refine zx_gX4_rows hx hb hts zi_X4_addSale hown hC kf21 dX4_addSale_71 ?_
      refine lv_iload hx hb dX4_addSale_74 (lv_at hl 0 rfl) ?_
      refine lv_iconst (v := (3 : Int32)) hx hb dX4_addSale_76 (by decide) ?_
      refine lv_iadd hx hb dX4_addSale_77 ?_
      refine lv_iload_n hx hb dX4_addSale_78 rfl (lv_at hl 4 rfl) ?_
      obtain ⟨h12, hf⟩ := z_gd_s hf
      refine zx_sX4_rows hx hb hC (z_in h12) dX4_addSale_79 (fun u13 eu13 H locs hC => ?_)
      have hf := z_nm_s hf eu13
      refine lv_aload_n hx hb dX4_addSale_80 rfl (lv_at hl 1 rfl) ?_
      refine zx_gX4_rows hx hb hts zi_X4_addSale hown hC kf21 dX4_addSale_81 ?_
      refine lv_iload hx hb dX4_addSale_84 (lv_at hl 0 rfl) ?_
      refine lv_iconst (v := (4 : Int32)) hx hb dX4_addSale_86 (by decide) ?_
      refine lv_iadd hx hb dX4_addSale_87 ?_
      refine lv_aload_n hx hb dX4_addSale_88 rfl (lv_at hl 1 rfl) ?_
      refine zx_gX4_hour hx hb hts zi_X4_addSale hown hC kf31 dX4_addSale_89 ?_
      obtain ⟨h14, hf⟩ := z_gd_s hf
      refine zx_sX4_rows hx hb hC (z_in h14) dX4_addSale_92 (fun u15 eu15 H locs hC => ?_)
      have hf := z_nm_s hf eu15
      refine lv_aload_n hx hb dX4_addSale_93 rfl (lv_at hl 1 rfl) ?_
      refine zx_gX4_rows hx hb hts zi_X4_addSale hown hC kf21 dX4_addSale_94 ?_
      refine lv_iload hx hb dX4_addSale_97 (lv_at hl 0 rfl) ?_
      refine lv_iconst (v := (5 : Int32)) hx hb dX4_addSale_99 (by decide) ?_
      refine lv_iadd hx hb dX4_addSale_100 ?_
      refine lv_iload hx hb dX4_addSale_101 (lv_at hl 5 rfl) ?_
      obtain ⟨h16, hf⟩ := z_gd_s hf
      refine zx_sX4_rows hx hb hC (z_in h16) dX4_addSale_103 (fun u17 eu17 H locs hC => ?_)
      have hf := z_nm_s hf eu17
      refine lv_aload_n hx hb dX4_addSale_104 rfl (lv_at hl 1 rfl) ?_
      refine zx_gX4_rows hx hb hts zi_X4_addSale hown hC kf21 dX4_addSale_105 ?_
      refine lv_iload hx hb dX4_addSale_108 (lv_at hl 0 rfl) ?_
      refine lv_bipush (v := (6 : Int32)) hx hb dX4_addSale_110 (by decide) ?_
      refine lv_iadd hx hb dX4_addSale_112 ?_
      refine lv_iconst (v := (1 : Int32)) hx hb dX4_addSale_113 (by decide) ?_
      obtain ⟨h18, hf⟩ := z_gd_s hf
      refine zx_sX4_rows hx hb hC (z_in h18) dX4_addSale_114 (fun u19 eu19 H locs hC => ?_)
      have hf := z_nm_s hf eu19
      refine lv_aload_n hx hb dX4_addSale_115 rfl (lv_at hl 1 rfl) ?_
      refine zx_gX4_ahead hx hb hts zi_X4_addSale hown hC kf24 dX4_addSale_116 ?_
      refine lv_aload_n hx hb dX4_addSale_119 rfl (lv_at hl 1 rfl) ?_
      refine zx_gX4_sales hx hb hts zi_X4_addSale hown hC kf27 dX4_addSale_120 ?_
      refine lv_aload_n hx hb dX4_addSale_123 rfl (lv_at hl 1 rfl) ?_
      refine zx_gX4_latest hx hb hts zi_X4_addSale hown hC kf15 dX4_addSale_124 ?_
      refine lv_iload_n hx hb dX4_addSale_127 rfl (lv_at hl 2 rfl) ?_
      obtain ⟨h20, hf⟩ := z_gd_s hf
      refine zx_aX4_latest hx hb hC (z_in h20) dX4_addSale_128 ?_
      obtain ⟨h21, hf⟩ := z_gd_s hf
      refine zx_sX4_ahead hx hb hC (z_in h21) dX4_addSale_129 (fun u22 eu22 H locs hC => ?_)
      have hf := z_nm_s hf eu22
      refine lv_aload_n hx hb dX4_addSale_130 rfl (lv_at hl 1 rfl) ?_
      refine zx_gX4_latest hx hb hts zi_X4_addSale hown hC kf15 dX4_addSale_131 ?_
      refine lv_iload_n hx hb dX4_addSale_134 rfl (lv_at hl 2 rfl) ?_
      refine lv_aload_n hx hb dX4_addSale_135 rfl (lv_at hl 1 rfl) ?_
      refine zx_gX4_sales hx hb hts zi_X4_addSale hown hC kf27 dX4_addSale_136 ?_
      obtain ⟨h23, hf⟩ := z_gd_s hf
      refine zx_sX4_latest hx hb hC (z_in h23) dX4_addSale_139 (fun u24 eu24 H locs hC => ?_)
      have hf := z_nm_s hf eu24
      refine lv_aload_n hx hb dX4_addSale_140 rfl (lv_at hl 1 rfl) ?_
      refine zx_gX4_soldAt hx hb hts zi_X4_addSale hown hC kf18 dX4_addSale_141 ?_
      refine lv_iload_n hx hb dX4_addSale_144 rfl (lv_at hl 2 rfl) ?_
      refine lv_aload_n hx hb dX4_addSale_145 rfl (lv_at hl 1 rfl) ?_
      refine zx_gX4_hour hx hb hts zi_X4_addSale hown hC kf31 dX4_addSale_146 ?_
      obtain ⟨h25, hf⟩ := z_gd_s hf
      refine zx_sX4_soldAt hx hb hC (z_in h25) dX4_addSale_149 (fun u26 eu26 H locs hC => ?_)
      have hf := z_nm_s hf eu26
      refine lv_aload_n hx hb dX4_addSale_150 rfl (lv_at hl 1 rfl) ?_
      refine zx_gX4_holders hx hb hts zi_X4_addSale hown hC kf9 dX4_addSale_151 ?_
      refine lv_iload_n hx hb dX4_addSale_154 rfl (lv_at hl 2 rfl) ?_
      refine lv_iload_n hx hb dX4_addSale_155 rfl (lv_at hl 3 rfl) ?_
      obtain ⟨h27, hf⟩ := z_gd_s hf
      refine zx_sX4_holders hx hb hC (z_in h27) dX4_addSale_156 (fun u28 eu28 H locs hC => ?_)
      have hf := z_nm_s hf eu28
      refine lv_aload_n hx hb dX4_addSale_157 rfl (lv_at hl 1 rfl) ?_
      refine lv_dup hx hb dX4_addSale_158 rfl ?_
      refine zx_gX4_sales hx hb hts zi_X4_addSale hown hC kf27 dX4_addSale_159 ?_
      refine lv_iconst (v := (1 : Int32)) hx hb dX4_addSale_162 (by decide) ?_
      refine lv_iadd hx hb dX4_addSale_163 ?_
      refine zx_pX4_sales hx hb hts zi_X4_addSale hown hC kf27 dX4_addSale_164 (fun u29 eu29 H locs hC => ?_)
      have hf := z_nm_s hf eu29
      refine lv_aload_n hx hb dX4_addSale_167 rfl (lv_at hl 1 rfl) ?_
      refine zx_gX4_sales hx hb hts zi_X4_addSale hown hC kf27 dX4_addSale_168 ?_
      refine lv_iconst (v := (1 : Int32)) hx hb dX4_addSale_171 (by decide) ?_
      refine lv_isub hx hb dX4_addSale_172 ?_
      exact z_reti hx hb hr hlk hC (Prod.mk.inj (Option.some.inj hf)).1 (Prod.mk.inj (Option.some.inj hf)).2 dX4_addSale_173
    · have hf := z_f hf c3
      refine lv_bipush (v := (-4 : Int32)) hx hb dX4_addSale_23 (by decide) ?_
      exact z_reti hx hb hr hlk hC (Prod.mk.inj (Option.some.inj hf)).1 (Prod.mk.inj (Option.some.inj hf)).2 dX4_addSale_25
  · have hf := z_t hf c2
    refine lv_bipush (v := (-3 : Int32)) hx hb dX4_addSale_11 (by decide) ?_
    exact z_reti hx hb hr hlk hC (Prod.mk.inj (Option.some.inj hf)).1 (Prod.mk.inj (Option.some.inj hf)).2 dX4_addSale_13
abbrev zr_X4_field : Room := { frames := 0, cells := 0, slots := 0, locals := 0 }
theorem zd_X4_field : yX4_field.cls ≠ "java/lang/invoke/MethodHandle" ∧ yX4_field.cls ≠ "java/lang/invoke/VarHandle" ∧ (parseMethodDescriptor yX4_field.desc).map (fun d => d.parameters.length) = some 2 := by decide +kernel
theorem zi_X4_field : ∀ w ∈ wsX40, w ∈ wsX4_field := fun _ h => List.mem_cons_of_mem _ (List.mem_append_right _ h)
set_option maxHeartbeats 4000000 in
set_option maxRecDepth 100000 in
theorem zc_X4_field (l : Launch) (D : va_G) (cI cJ : ClassId) (tp : Nat) (q : Nat → Nat) (u : z_St) (a_1 : Int32) (a_2 : Int32) {r : Int32} (hf : zf_X4_field u a_1 a_2 = some r) : z_Mi l yX4_field wsX4_field zr_X4_field (zx_W cI q) (zx_G tp) D cI cJ [.ref (q 4), .int a_1, .int a_2] u r u := by
  refine z_ofi (cc := cX4_field) (maxL := 3) (ret := (some .int)) zx_Gok (by decide) rfl (Nat.le_of_ble_eq_true rfl) ?_
  intro A p e s m args below meth c ls E hr hlk hC hl
  have E : CallFix p m c cX4_field 3 s args wsX4_field RX4 := E
  have hx := E.1
  have hb := E.2.1
  have hml := E.2.2.1
  have hown := E.2.2.2.1
  have hts := E.2.2.2.2
  have hl : lv_has ls 3 [(0, .ref (q 4)), (1, .int a_1), (2, .int a_2)] := hl
  unfold zf_X4_field at hf
  have kf21 := hts (.fieldLink RX4 21 "DawnFair$Trade" "rows" "[I") (by decide +kernel)
  refine lv_aload_n hx hb dX4_field_0 rfl (lv_at hl 0 rfl) ?_
  refine zx_gX4_rows hx hb hts zi_X4_field hown hC kf21 dX4_field_1 ?_
  refine lv_iload_n hx hb dX4_field_4 rfl (lv_at hl 1 rfl) ?_
  refine lv_bipush (v := (7 : Int32)) hx hb dX4_field_5 (by decide) ?_
  refine lv_imul hx hb dX4_field_7 ?_
  refine lv_iload_n hx hb dX4_field_8 rfl (lv_at hl 2 rfl) ?_
  refine lv_iadd hx hb dX4_field_9 ?_
  obtain ⟨h1, hf⟩ := z_gd_s hf
  refine zx_aX4_rows hx hb hC (z_in h1) dX4_field_10 ?_
  exact z_reti hx hb hr hlk hC (Option.some.inj hf) rfl dX4_field_11
abbrev zr_X4_giveBack : Room := { frames := 1, cells := 0, slots := 0, locals := 22 }
theorem zd_X4_giveBack : yX4_giveBack.cls ≠ "java/lang/invoke/MethodHandle" ∧ yX4_giveBack.cls ≠ "java/lang/invoke/VarHandle" ∧ (parseMethodDescriptor yX4_giveBack.desc).map (fun d => d.parameters.length) = some 1 := by decide +kernel
theorem zi_X4_giveBack : ∀ w ∈ wsX40, w ∈ wsX4_giveBack := fun _ h => List.mem_cons_of_mem _ (List.mem_append_right _ h)
set_option maxHeartbeats 4000000 in
set_option maxRecDepth 100000 in
theorem zc_X4_giveBack (l : Launch) (D : va_G) (cI cJ : ClassId) (tp : Nat) (q : Nat → Nat) (u : z_St) (a_1 : Int32) {r : Int32} {u2 : z_St} (hf : zf_X4_giveBack u a_1 = some (r, u2)) : z_Mi l yX4_giveBack wsX4_giveBack zr_X4_giveBack (zx_W cI q) (zx_G tp) D cI cJ [.ref (q 4), .int a_1] u r u2 := by
  refine z_ofi (cc := cX4_giveBack) (maxL := 3) (ret := (some .int)) zx_Gok (by decide) rfl (Nat.le_of_ble_eq_true rfl) ?_
  intro A p e s m args below meth c ls E hr hlk hC hl
  have E : CallFix p m c cX4_giveBack 3 s args wsX4_giveBack RX4 := E
  have hx := E.1
  have hb := E.2.1
  have hml := E.2.2.1
  have hown := E.2.2.2.1
  have hts := E.2.2.2.2
  have hl : lv_has ls 3 [(0, .ref (q 4)), (1, .int a_1)] := hl
  unfold zf_X4_giveBack at hf
  have kf15 := hts (.fieldLink RX4 15 "DawnFair$Trade" "latest" "[I") (by decide +kernel)
  have kf9 := hts (.fieldLink RX4 9 "DawnFair$Trade" "holders" "[I") (by decide +kernel)
  have kf31 := hts (.fieldLink RX4 31 "DawnFair$Trade" "hour" "I") (by decide +kernel)
  have kf21 := hts (.fieldLink RX4 21 "DawnFair$Trade" "rows" "[I") (by decide +kernel)
  have kf24 := hts (.fieldLink RX4 24 "DawnFair$Trade" "ahead" "[I") (by decide +kernel)
  refine lv_aload_n hx hb dX4_giveBack_0 rfl (lv_at hl 0 rfl) ?_
  refine zx_gX4_latest hx hb hts zi_X4_giveBack hown hC kf15 dX4_giveBack_1 ?_
  refine lv_iload_n hx hb dX4_giveBack_4 rfl (lv_at hl 1 rfl) ?_
  obtain ⟨h1, hf⟩ := z_gd_s hf
  refine zx_aX4_latest hx hb hC (z_in h1) dX4_giveBack_5 ?_
  refine lv_topi (fun x2 ex2 => ?_)
  have hf := z_nm_s hf ex2
  refine lv_istore_n (lv' := [(2, _), (0, _), (1, _)]) hx hb dX4_giveBack_6 rfl hl (by decide) rfl (fun ls hl => ?_)
  refine lv_iload_n hx hb dX4_giveBack_7 rfl (lv_at hl 0 rfl) ?_
  refine lv_iconst (v := (-1 : Int32)) hx hb dX4_giveBack_8 (by decide) ?_
  refine lv_icmp_eq (tgt := 40) hx hb dX4_giveBack_9 (by decide) (fun c3 => ?_) (fun c3 => ?_)
  · have hf := z_t hf c3
    refine lv_bipush (v := (-3 : Int32)) hx hb dX4_giveBack_40 (by decide) ?_
    exact z_reti hx hb hr hlk hC (Prod.mk.inj (Option.some.inj hf)).1 (Prod.mk.inj (Option.some.inj hf)).2 dX4_giveBack_42
  · have hf := z_f hf c3
    refine lv_aload_n hx hb dX4_giveBack_12 rfl (lv_at hl 1 rfl) ?_
    refine lv_iload_n hx hb dX4_giveBack_13 rfl (lv_at hl 0 rfl) ?_
    refine lv_iconst (v := (2 : Int32)) hx hb dX4_giveBack_14 (by decide) ?_
    obtain ⟨r4, pr4, hf⟩ := z_bd_s hf
    refine z_calli hC (z_runV (rest := []) zx_Gok hC E (zc_X4_field l D cI cJ tp q u x2 (2 : Int32) pr4 _) (cwV 2 hts gX4_giveBack_X4_field rfl rfl rfl ⟨rfl, zd_X4_field⟩ ⟨Nat.le_of_ble_eq_true rfl, Nat.le_of_ble_eq_true rfl⟩) (zx_rcX4 hC) rfl hl.1 rfl (Nat.le_of_ble_eq_true rfl) dX4_giveBack_15 ⟨Nat.zero_le _, Nat.zero_le _⟩) (fun H locs hC => ?_)
    refine lv_aload_n hx hb dX4_giveBack_18 rfl (lv_at hl 1 rfl) ?_
    refine zx_gX4_holders hx hb hts zi_X4_giveBack hown hC kf9 dX4_giveBack_19 ?_
    refine lv_iload_n hx hb dX4_giveBack_22 rfl (lv_at hl 2 rfl) ?_
    obtain ⟨h5, hf⟩ := z_gd_s hf
    refine zx_aX4_holders hx hb hC (z_in h5) dX4_giveBack_23 ?_
    refine lv_icmp_ne (tgt := 40) hx hb dX4_giveBack_24 (by decide) (fun c6 => ?_) (fun c6 => ?_)
    · have hf := z_f hf c6
      refine lv_bipush (v := (-3 : Int32)) hx hb dX4_giveBack_40 (by decide) ?_
      exact z_reti hx hb hr hlk hC (Prod.mk.inj (Option.some.inj hf)).1 (Prod.mk.inj (Option.some.inj hf)).2 dX4_giveBack_42
    · have hf := z_t hf c6
      refine lv_aload_n hx hb dX4_giveBack_27 rfl (lv_at hl 1 rfl) ?_
      refine lv_iload_n hx hb dX4_giveBack_28 rfl (lv_at hl 0 rfl) ?_
      refine lv_iconst (v := (5 : Int32)) hx hb dX4_giveBack_29 (by decide) ?_
      obtain ⟨r7, pr7, hf⟩ := z_bd_s hf
      refine z_calli hC (z_runV (rest := []) zx_Gok hC E (zc_X4_field l D cI cJ tp q u x2 (5 : Int32) pr7 _) (cwV 2 hts gX4_giveBack_X4_field rfl rfl rfl ⟨rfl, zd_X4_field⟩ ⟨Nat.le_of_ble_eq_true rfl, Nat.le_of_ble_eq_true rfl⟩) (zx_rcX4 hC) rfl hl.1 rfl (Nat.le_of_ble_eq_true rfl) dX4_giveBack_30 ⟨Nat.zero_le _, Nat.zero_le _⟩) (fun H locs hC => ?_)
      refine lv_aload_n hx hb dX4_giveBack_33 rfl (lv_at hl 1 rfl) ?_
      refine zx_gX4_hour hx hb hts zi_X4_giveBack hown hC kf31 dX4_giveBack_34 ?_
      refine lv_icmp_gt (tgt := 43) hx hb dX4_giveBack_37 (by decide) (fun c8 => ?_) (fun c8 => ?_)
      · have hf := z_t hf c8
        refine lv_aload_n hx hb dX4_giveBack_43 rfl (lv_at hl 1 rfl) ?_
        refine zx_gX4_rows hx hb hts zi_X4_giveBack hown hC kf21 dX4_giveBack_44 ?_
        refine lv_iload_n hx hb dX4_giveBack_47 rfl (lv_at hl 0 rfl) ?_
        refine lv_bipush (v := (7 : Int32)) hx hb dX4_giveBack_48 (by decide) ?_
        refine lv_imul hx hb dX4_giveBack_50 ?_
        refine lv_bipush (v := (6 : Int32)) hx hb dX4_giveBack_51 (by decide) ?_
        refine lv_iadd hx hb dX4_giveBack_53 ?_
        refine lv_iconst (v := (0 : Int32)) hx hb dX4_giveBack_54 (by decide) ?_
        obtain ⟨h9, hf⟩ := z_gd_s hf
        refine zx_sX4_rows hx hb hC (z_in h9) dX4_giveBack_55 (fun u10 eu10 H locs hC => ?_)
        have hf := z_nm_s hf eu10
        refine lv_aload_n hx hb dX4_giveBack_56 rfl (lv_at hl 1 rfl) ?_
        refine zx_gX4_latest hx hb hts zi_X4_giveBack hown hC kf15 dX4_giveBack_57 ?_
        refine lv_iload_n hx hb dX4_giveBack_60 rfl (lv_at hl 2 rfl) ?_
        refine lv_aload_n hx hb dX4_giveBack_61 rfl (lv_at hl 1 rfl) ?_
        refine zx_gX4_ahead hx hb hts zi_X4_giveBack hown hC kf24 dX4_giveBack_62 ?_
        refine lv_iload_n hx hb dX4_giveBack_65 rfl (lv_at hl 0 rfl) ?_
        obtain ⟨h11, hf⟩ := z_gd_s hf
        refine zx_aX4_ahead hx hb hC (z_in h11) dX4_giveBack_66 ?_
        obtain ⟨h12, hf⟩ := z_gd_s hf
        refine zx_sX4_latest hx hb hC (z_in h12) dX4_giveBack_67 (fun u13 eu13 H locs hC => ?_)
        have hf := z_nm_s hf eu13
        refine lv_aload_n hx hb dX4_giveBack_68 rfl (lv_at hl 1 rfl) ?_
        refine zx_gX4_holders hx hb hts zi_X4_giveBack hown hC kf9 dX4_giveBack_69 ?_
        refine lv_iload_n hx hb dX4_giveBack_72 rfl (lv_at hl 2 rfl) ?_
        refine lv_aload_n hx hb dX4_giveBack_73 rfl (lv_at hl 1 rfl) ?_
        refine lv_iload_n hx hb dX4_giveBack_74 rfl (lv_at hl 0 rfl) ?_
        refine lv_iconst (v := (1 : Int32)) hx hb dX4_giveBack_75 (by decide) ?_
        obtain ⟨r14, pr14, hf⟩ := z_bd_s hf
        refine z_calli hC (z_runV (rest := [_, _]) zx_Gok hC E (zc_X4_field l D cI cJ tp q u13 x2 (1 : Int32) pr14 _) (cwV 2 hts gX4_giveBack_X4_field rfl rfl rfl ⟨rfl, zd_X4_field⟩ ⟨Nat.le_of_ble_eq_true rfl, Nat.le_of_ble_eq_true rfl⟩) (zx_rcX4 hC) rfl hl.1 rfl (Nat.le_of_ble_eq_true rfl) dX4_giveBack_76 ⟨Nat.zero_le _, Nat.zero_le _⟩) (fun H locs hC => ?_)
        obtain ⟨h15, hf⟩ := z_gd_s hf
        refine zx_sX4_holders hx hb hC (z_in h15) dX4_giveBack_79 (fun u16 eu16 H locs hC => ?_)
        have hf := z_nm_s hf eu16
        refine lv_aload_n hx hb dX4_giveBack_80 rfl (lv_at hl 1 rfl) ?_
        refine zx_gX4_holders hx hb hts zi_X4_giveBack hown hC kf9 dX4_giveBack_81 ?_
        refine lv_iload_n hx hb dX4_giveBack_84 rfl (lv_at hl 2 rfl) ?_
        obtain ⟨h17, hf⟩ := z_gd_s hf
        refine zx_aX4_holders hx hb hC (z_in h17) dX4_giveBack_85 ?_
        exact z_reti hx hb hr hlk hC (Prod.mk.inj (Option.some.inj hf)).1 (Prod.mk.inj (Option.some.inj hf)).2 dX4_giveBack_86
      · have hf := z_f hf c8
        refine lv_bipush (v := (-3 : Int32)) hx hb dX4_giveBack_40 (by decide) ?_
        exact z_reti hx hb hr hlk hC (Prod.mk.inj (Option.some.inj hf)).1 (Prod.mk.inj (Option.some.inj hf)).2 dX4_giveBack_42
abbrev zr_X4_saleCount : Room := { frames := 0, cells := 0, slots := 0, locals := 0 }
theorem zd_X4_saleCount : yX4_saleCount.cls ≠ "java/lang/invoke/MethodHandle" ∧ yX4_saleCount.cls ≠ "java/lang/invoke/VarHandle" ∧ (parseMethodDescriptor yX4_saleCount.desc).map (fun d => d.parameters.length) = some 0 := by decide +kernel
theorem zi_X4_saleCount : ∀ w ∈ wsX40, w ∈ wsX4_saleCount := fun _ h => List.mem_cons_of_mem _ (List.mem_append_right _ h)
set_option maxHeartbeats 4000000 in
set_option maxRecDepth 100000 in
theorem zc_X4_saleCount (l : Launch) (D : va_G) (cI cJ : ClassId) (tp : Nat) (q : Nat → Nat) (u : z_St) {r : Int32} (hf : zf_X4_saleCount u = r) : z_Mi l yX4_saleCount wsX4_saleCount zr_X4_saleCount (zx_W cI q) (zx_G tp) D cI cJ [.ref (q 4)] u r u := by
  refine z_ofi (cc := cX4_saleCount) (maxL := 1) (ret := (some .int)) zx_Gok (by decide) rfl (Nat.le_of_ble_eq_true rfl) ?_
  intro A p e s m args below meth c ls E hr hlk hC hl
  have E : CallFix p m c cX4_saleCount 1 s args wsX4_saleCount RX4 := E
  have hx := E.1
  have hb := E.2.1
  have hml := E.2.2.1
  have hown := E.2.2.2.1
  have hts := E.2.2.2.2
  have hl : lv_has ls 1 [(0, .ref (q 4))] := hl
  unfold zf_X4_saleCount at hf
  have kf27 := hts (.fieldLink RX4 27 "DawnFair$Trade" "sales" "I") (by decide +kernel)
  refine lv_aload_n hx hb dX4_saleCount_0 rfl (lv_at hl 0 rfl) ?_
  refine zx_gX4_sales hx hb hts zi_X4_saleCount hown hC kf27 dX4_saleCount_1 ?_
  exact z_reti hx hb hr hlk hC hf rfl dX4_saleCount_4
abbrev zr_X4_stands : Room := { frames := 1, cells := 0, slots := 0, locals := 22 }
theorem zd_X4_stands : yX4_stands.cls ≠ "java/lang/invoke/MethodHandle" ∧ yX4_stands.cls ≠ "java/lang/invoke/VarHandle" ∧ (parseMethodDescriptor yX4_stands.desc).map (fun d => d.parameters.length) = some 1 := by decide +kernel
theorem zi_X4_stands : ∀ w ∈ wsX40, w ∈ wsX4_stands := fun _ h => List.mem_cons_of_mem _ (List.mem_append_right _ h)
set_option maxHeartbeats 4000000 in
set_option maxRecDepth 100000 in
theorem zc_X4_stands (l : Launch) (D : va_G) (cI cJ : ClassId) (tp : Nat) (q : Nat → Nat) (u : z_St) (a_1 : Int32) {r : Int32} (hf : zf_X4_stands u a_1 = some r) : z_Mi l yX4_stands wsX4_stands zr_X4_stands (zx_W cI q) (zx_G tp) D cI cJ [.ref (q 4), .int a_1] u r u := by
  refine z_ofi (cc := cX4_stands) (maxL := 2) (ret := (some .boolean)) zx_Gok (by decide) rfl (Nat.le_of_ble_eq_true rfl) ?_
  intro A p e s m args below meth c ls E hr hlk hC hl
  have E : CallFix p m c cX4_stands 2 s args wsX4_stands RX4 := E
  have hx := E.1
  have hb := E.2.1
  have hml := E.2.2.1
  have hown := E.2.2.2.1
  have hts := E.2.2.2.2
  have hl : lv_has ls 2 [(0, .ref (q 4)), (1, .int a_1)] := hl
  unfold zf_X4_stands at hf
  refine lv_aload_n hx hb dX4_stands_0 rfl (lv_at hl 0 rfl) ?_
  refine lv_iload_n hx hb dX4_stands_1 rfl (lv_at hl 1 rfl) ?_
  refine lv_bipush (v := (6 : Int32)) hx hb dX4_stands_2 (by decide) ?_
  obtain ⟨r1, pr1, hf⟩ := z_bd_s hf
  refine z_calli hC (z_runV (rest := []) zx_Gok hC E (zc_X4_field l D cI cJ tp q u a_1 (6 : Int32) pr1 _) (cwV 2 hts gX4_stands_X4_field rfl rfl rfl ⟨rfl, zd_X4_field⟩ ⟨Nat.le_of_ble_eq_true rfl, Nat.le_of_ble_eq_true rfl⟩) (zx_rcX4 hC) rfl hl.1 rfl (Nat.le_of_ble_eq_true rfl) dX4_stands_4 ⟨Nat.zero_le _, Nat.zero_le _⟩) (fun H locs hC => ?_)
  refine lv_iconst (v := (1 : Int32)) hx hb dX4_stands_7 (by decide) ?_
  refine lv_icmp_ne (tgt := 15) hx hb dX4_stands_8 (by decide) (fun c2 => ?_) (fun c2 => ?_)
  · have hf := z_f hf c2
    refine lv_iconst (v := (0 : Int32)) hx hb dX4_stands_15 (by decide) ?_
    exact z_retz hx hb hr hlk hC rfl (Option.some.inj hf) rfl dX4_stands_16
  · have hf := z_t hf c2
    refine lv_iconst (v := (1 : Int32)) hx hb dX4_stands_11 (by decide) ?_
    refine lv_goto (tgt := 16) hx hb dX4_stands_12 (by decide) ?_
    exact z_retz hx hb hr hlk hC rfl (Option.some.inj hf) rfl dX4_stands_16
abbrev zr_X4_standingCount : Room := { frames := 1, cells := 0, slots := 0, locals := 22 }
theorem zd_X4_standingCount : yX4_standingCount.cls ≠ "java/lang/invoke/MethodHandle" ∧ yX4_standingCount.cls ≠ "java/lang/invoke/VarHandle" ∧ (parseMethodDescriptor yX4_standingCount.desc).map (fun d => d.parameters.length) = some 0 := by decide +kernel
theorem zi_X4_standingCount : ∀ w ∈ wsX40, w ∈ wsX4_standingCount := fun _ h => List.mem_cons_of_mem _ (List.mem_append_right _ h)
set_option maxHeartbeats 4000000 in
set_option maxRecDepth 100000 in
theorem zl_X4_standingCount_4 (E : CallFix p m c cX4_standingCount 3 s args wsX4_standingCount RX4) (u : z_St) : ∀ (n : Nat) (x_1 : Int32) (x_2 : Int32) (H : Heap) (locs : List Loc) (ls : Array Slot) (o_1 : Int32) (o_2 : Int32), zf_X4_standingCount_4 u n x_1 x_2 = some (o_1, o_2) → z_C (zx_W cI q) (zx_G tp) D cI cJ A s u H locs → lv_has ls 3 [(0, .ref (q 4)), (1, .int x_1), (2, .int x_2)] → (∀ (H : Heap) (locs : List Loc) (ls : Array Slot), z_C (zx_W cI q) (zx_G tp) D cI cJ A s u H locs → lv_has ls 3 [(0, .ref (q 4)), (1, .int o_1), (2, .int o_2)] → W p l e zr_X4_standingCount s m args below meth c H locs 0 0 Q (F0 m 28 ls [])) → W p l e zr_X4_standingCount s m args below meth c H locs 0 0 Q (F0 m 4 ls []) := by
  have hx := E.1
  have hb := E.2.1
  have hml := E.2.2.1
  have hown := E.2.2.2.1
  have hts := E.2.2.2.2
  intro n
  induction n with
  | zero =>
    intro x_1 x_2 H locs ls o_1 o_2 hf
    rw [zf_X4_standingCount_4.eq_1] at hf
    cases hf
  | succ n ih =>
    intro x_1 x_2 H locs ls o_1 o_2 hf hC hl kk
    rw [zf_X4_standingCount_4.eq_2] at hf
    have kf27 := hts (.fieldLink RX4 27 "DawnFair$Trade" "sales" "I") (by decide +kernel)
    refine lv_iload_n hx hb dX4_standingCount_4 rfl (lv_at hl 2 rfl) ?_
    refine lv_aload_n hx hb dX4_standingCount_5 rfl (lv_at hl 0 rfl) ?_
    refine zx_gX4_sales hx hb hts zi_X4_standingCount hown hC kf27 dX4_standingCount_6 ?_
    refine lv_icmp_ge (tgt := 28) hx hb dX4_standingCount_9 (by decide) (fun c1 => ?_) (fun c1 => ?_)
    · have hf := z_t hf c1
      cases hf
      exact kk _ _ _ hC (lv_sub hl [0, 1, 2] rfl)
    · have hf := z_f hf c1
      refine lv_iload_n hx hb dX4_standingCount_12 rfl (lv_at hl 1 rfl) ?_
      refine lv_aload_n hx hb dX4_standingCount_13 rfl (lv_at hl 0 rfl) ?_
      refine lv_iload_n hx hb dX4_standingCount_14 rfl (lv_at hl 2 rfl) ?_
      refine lv_bipush (v := (6 : Int32)) hx hb dX4_standingCount_15 (by decide) ?_
      obtain ⟨r2, pr2, hf⟩ := z_bd_s hf
      refine z_calli hC (z_runV (rest := [_]) zx_Gok hC E (zc_X4_field l D cI cJ tp q u x_2 (6 : Int32) pr2 _) (cwV 2 hts gX4_standingCount_X4_field rfl rfl rfl ⟨rfl, zd_X4_field⟩ ⟨Nat.le_of_ble_eq_true rfl, Nat.le_of_ble_eq_true rfl⟩) (zx_rcX4 hC) rfl hl.1 rfl (Nat.le_of_ble_eq_true rfl) dX4_standingCount_17 ⟨Nat.zero_le _, Nat.zero_le _⟩) (fun H locs hC => ?_)
      refine lv_iadd hx hb dX4_standingCount_20 ?_
      refine lv_topi (fun x3 ex3 => ?_)
      have hf := z_nm_s hf ex3
      refine lv_istore_n (lv' := [(1, _), (0, _), (2, _)]) hx hb dX4_standingCount_21 rfl hl (by decide) rfl (fun ls hl => ?_)
      obtain ⟨x4, ex4⟩ : ∃ z : Int32, z = (x_2 + (1 : Int32)) := ⟨_, rfl⟩
      have hf := z_nm_s hf ex4
      refine lv_iinc (v := x4) (lv' := [(2, _), (1, _), (0, _)]) hx hb dX4_standingCount_22 hl (k := 2) rfl (by rw [ex4]; rfl) (by decide) rfl (fun ls hl => ?_)
      refine lv_goto (tgt := 4) hx hb dX4_standingCount_25 (by decide) ?_
      exact ih x3 x4 _ _ _ _ _ hf hC (lv_sub hl [2, 1, 0] rfl) kk
set_option maxHeartbeats 4000000 in
set_option maxRecDepth 100000 in
theorem zc_X4_standingCount (l : Launch) (D : va_G) (cI cJ : ClassId) (tp : Nat) (q : Nat → Nat) (u : z_St) {r : Int32} (hf : zf_X4_standingCount u = some r) : z_Mi l yX4_standingCount wsX4_standingCount zr_X4_standingCount (zx_W cI q) (zx_G tp) D cI cJ [.ref (q 4)] u r u := by
  refine z_ofi (cc := cX4_standingCount) (maxL := 3) (ret := (some .int)) zx_Gok (by decide) rfl (Nat.le_of_ble_eq_true rfl) ?_
  intro A p e s m args below meth c ls E hr hlk hC hl
  have E : CallFix p m c cX4_standingCount 3 s args wsX4_standingCount RX4 := E
  have hx := E.1
  have hb := E.2.1
  have hml := E.2.2.1
  have hown := E.2.2.2.1
  have hts := E.2.2.2.2
  have hl : lv_has ls 3 [(0, .ref (q 4))] := hl
  unfold zf_X4_standingCount at hf
  refine lv_iconst (v := (0 : Int32)) hx hb dX4_standingCount_0 (by decide) ?_
  refine lv_istore_n (lv' := [(1, _), (0, _)]) hx hb dX4_standingCount_1 rfl hl (by decide) rfl (fun ls hl => ?_)
  refine lv_iconst (v := (0 : Int32)) hx hb dX4_standingCount_2 (by decide) ?_
  refine lv_istore_n (lv' := [(2, _), (1, _), (0, _)]) hx hb dX4_standingCount_3 rfl hl (by decide) rfl (fun ls hl => ?_)
  obtain ⟨y1, y2, py1, hf⟩ := z_bd2_s hf
  refine zl_X4_standingCount_4 E u 5000 (0 : Int32) (0 : Int32) _ _ _ _ _ py1 hC (lv_sub hl [2, 1, 0] rfl) (fun H locs ls hC hl => ?_)
  refine lv_iload_n hx hb dX4_standingCount_28 rfl (lv_at hl 1 rfl) ?_
  exact z_reti hx hb hr hlk hC (Option.some.inj hf) rfl dX4_standingCount_29
abbrev zr_X4_gainOf : Room := { frames := 2, cells := 0, slots := 0, locals := 43 }
theorem zd_X4_gainOf : yX4_gainOf.cls ≠ "java/lang/invoke/MethodHandle" ∧ yX4_gainOf.cls ≠ "java/lang/invoke/VarHandle" ∧ (parseMethodDescriptor yX4_gainOf.desc).map (fun d => d.parameters.length) = some 1 := by decide +kernel
theorem zi_X4_gainOf : ∀ w ∈ wsX40, w ∈ wsX4_gainOf := fun _ h => List.mem_cons_of_mem _ (List.mem_append_right _ h)
set_option maxHeartbeats 4000000 in
set_option maxRecDepth 100000 in
theorem zl_X4_gainOf_4 (E : CallFix p m c cX4_gainOf 4 s args wsX4_gainOf RX4) (a_1 : Int32) (u : z_St) : ∀ (n : Nat) (x_2 : Int32) (x_3 : Int32) (H : Heap) (locs : List Loc) (ls : Array Slot) (o_2 : Int32) (o_3 : Int32), zf_X4_gainOf_4 a_1 u n x_2 x_3 = some (o_2, o_3) → z_C (zx_W cI q) (zx_G tp) D cI cJ A s u H locs → lv_has ls 4 [(0, .ref (q 4)), (1, .int a_1), (2, .int x_2), (3, .int x_3)] → (∀ (H : Heap) (locs : List Loc) (ls : Array Slot), z_C (zx_W cI q) (zx_G tp) D cI cJ A s u H locs → lv_has ls 4 [(0, .ref (q 4)), (1, .int a_1), (2, .int o_2), (3, .int o_3)] → W p l e zr_X4_gainOf s m args below meth c H locs 0 0 Q (F0 m 72 ls [])) → W p l e zr_X4_gainOf s m args below meth c H locs 0 0 Q (F0 m 4 ls []) := by
  have hx := E.1
  have hb := E.2.1
  have hml := E.2.2.1
  have hown := E.2.2.2.1
  have hts := E.2.2.2.2
  intro n
  induction n with
  | zero =>
    intro x_2 x_3 H locs ls o_2 o_3 hf
    rw [zf_X4_gainOf_4.eq_1] at hf
    cases hf
  | succ n ih =>
    intro x_2 x_3 H locs ls o_2 o_3 hf hC hl kk
    rw [zf_X4_gainOf_4.eq_2] at hf
    have kf27 := hts (.fieldLink RX4 27 "DawnFair$Trade" "sales" "I") (by decide +kernel)
    refine lv_iload_n hx hb dX4_gainOf_4 rfl (lv_at hl 3 rfl) ?_
    refine lv_aload_n hx hb dX4_gainOf_5 rfl (lv_at hl 0 rfl) ?_
    refine zx_gX4_sales hx hb hts zi_X4_gainOf hown hC kf27 dX4_gainOf_6 ?_
    refine lv_icmp_ge (tgt := 72) hx hb dX4_gainOf_9 (by decide) (fun c1 => ?_) (fun c1 => ?_)
    · have hf := z_t hf c1
      cases hf
      exact kk _ _ _ hC (lv_sub hl [0, 1, 2, 3] rfl)
    · have hf := z_f hf c1
      refine lv_aload_n hx hb dX4_gainOf_12 rfl (lv_at hl 0 rfl) ?_
      refine lv_iload_n hx hb dX4_gainOf_13 rfl (lv_at hl 3 rfl) ?_
      obtain ⟨r2, pr2, hf⟩ := z_bd_s hf
      refine z_calli hC (z_runV (rest := []) zx_Gok hC E (zc_X4_stands l D cI cJ tp q u x_3 pr2 _) (cwV 1 hts gX4_gainOf_X4_stands rfl rfl rfl ⟨rfl, zd_X4_stands⟩ ⟨Nat.le_of_ble_eq_true rfl, Nat.le_of_ble_eq_true rfl⟩) (zx_rcX4 hC) rfl hl.1 rfl (Nat.le_of_ble_eq_true rfl) dX4_gainOf_14 ⟨Nat.zero_le _, Nat.zero_le _⟩) (fun H locs hC => ?_)
      refine lv_if_eq (tgt := 39) hx hb dX4_gainOf_17 (by decide) (fun c3 => ?_) (fun c3 => ?_)
      · have hf := z_t hf c3
        refine lv_aload_n hx hb dX4_gainOf_39 rfl (lv_at hl 0 rfl) ?_
        refine lv_iload_n hx hb dX4_gainOf_40 rfl (lv_at hl 3 rfl) ?_
        obtain ⟨r4, pr4, hf⟩ := z_bd_s hf
        refine z_calli hC (z_runV (rest := []) zx_Gok hC E (zc_X4_stands l D cI cJ tp q u x_3 pr4 _) (cwV 1 hts gX4_gainOf_X4_stands rfl rfl rfl ⟨rfl, zd_X4_stands⟩ ⟨Nat.le_of_ble_eq_true rfl, Nat.le_of_ble_eq_true rfl⟩) (zx_rcX4 hC) rfl hl.1 rfl (Nat.le_of_ble_eq_true rfl) dX4_gainOf_41 ⟨Nat.zero_le _, Nat.zero_le _⟩) (fun H locs hC => ?_)
        refine lv_if_eq (tgt := 66) hx hb dX4_gainOf_44 (by decide) (fun c5 => ?_) (fun c5 => ?_)
        · have hf := z_t hf c5
          obtain ⟨x6, ex6⟩ : ∃ z : Int32, z = (x_3 + (1 : Int32)) := ⟨_, rfl⟩
          have hf := z_nm_s hf ex6
          refine lv_iinc (v := x6) (lv' := [(3, _), (0, _), (1, _), (2, _)]) hx hb dX4_gainOf_66 hl (k := 3) rfl (by rw [ex6]; rfl) (by decide) rfl (fun ls hl => ?_)
          refine lv_goto (tgt := 4) hx hb dX4_gainOf_69 (by decide) ?_
          exact ih x_2 x6 _ _ _ _ _ hf hC (lv_sub hl [1, 2, 3, 0] rfl) kk
        · have hf := z_f hf c5
          refine lv_aload_n hx hb dX4_gainOf_47 rfl (lv_at hl 0 rfl) ?_
          refine lv_iload_n hx hb dX4_gainOf_48 rfl (lv_at hl 3 rfl) ?_
          refine lv_iconst (v := (2 : Int32)) hx hb dX4_gainOf_49 (by decide) ?_
          obtain ⟨r7, pr7, hf⟩ := z_bd_s hf
          refine z_calli hC (z_runV (rest := []) zx_Gok hC E (zc_X4_field l D cI cJ tp q u x_3 (2 : Int32) pr7 _) (cwV 2 hts gX4_gainOf_X4_field rfl rfl rfl ⟨rfl, zd_X4_field⟩ ⟨Nat.le_of_ble_eq_true rfl, Nat.le_of_ble_eq_true rfl⟩) (zx_rcX4 hC) rfl hl.1 rfl (Nat.le_of_ble_eq_true rfl) dX4_gainOf_50 ⟨Nat.zero_le _, Nat.zero_le _⟩) (fun H locs hC => ?_)
          refine lv_iload_n hx hb dX4_gainOf_53 rfl (lv_at hl 1 rfl) ?_
          refine lv_icmp_ne (tgt := 66) hx hb dX4_gainOf_54 (by decide) (fun c8 => ?_) (fun c8 => ?_)
          · have hf := z_f hf c8
            obtain ⟨x9, ex9⟩ : ∃ z : Int32, z = (x_3 + (1 : Int32)) := ⟨_, rfl⟩
            have hf := z_nm_s hf ex9
            refine lv_iinc (v := x9) (lv' := [(3, _), (0, _), (1, _), (2, _)]) hx hb dX4_gainOf_66 hl (k := 3) rfl (by rw [ex9]; rfl) (by decide) rfl (fun ls hl => ?_)
            refine lv_goto (tgt := 4) hx hb dX4_gainOf_69 (by decide) ?_
            exact ih x_2 x9 _ _ _ _ _ hf hC (lv_sub hl [1, 2, 3, 0] rfl) kk
          · have hf := z_t hf c8
            refine lv_iload_n hx hb dX4_gainOf_57 rfl (lv_at hl 2 rfl) ?_
            refine lv_aload_n hx hb dX4_gainOf_58 rfl (lv_at hl 0 rfl) ?_
            refine lv_iload_n hx hb dX4_gainOf_59 rfl (lv_at hl 3 rfl) ?_
            refine lv_iconst (v := (3 : Int32)) hx hb dX4_gainOf_60 (by decide) ?_
            obtain ⟨r10, pr10, hf⟩ := z_bd_s hf
            refine z_calli hC (z_runV (rest := [_]) zx_Gok hC E (zc_X4_field l D cI cJ tp q u x_3 (3 : Int32) pr10 _) (cwV 2 hts gX4_gainOf_X4_field rfl rfl rfl ⟨rfl, zd_X4_field⟩ ⟨Nat.le_of_ble_eq_true rfl, Nat.le_of_ble_eq_true rfl⟩) (zx_rcX4 hC) rfl hl.1 rfl (Nat.le_of_ble_eq_true rfl) dX4_gainOf_61 ⟨Nat.zero_le _, Nat.zero_le _⟩) (fun H locs hC => ?_)
            refine lv_isub hx hb dX4_gainOf_64 ?_
            refine lv_topi (fun x11 ex11 => ?_)
            have hf := z_nm_s hf ex11
            refine lv_istore_n (lv' := [(2, _), (0, _), (1, _), (3, _)]) hx hb dX4_gainOf_65 rfl hl (by decide) rfl (fun ls hl => ?_)
            obtain ⟨x12, ex12⟩ : ∃ z : Int32, z = (x_3 + (1 : Int32)) := ⟨_, rfl⟩
            have hf := z_nm_s hf ex12
            refine lv_iinc (v := x12) (lv' := [(3, _), (2, _), (0, _), (1, _)]) hx hb dX4_gainOf_66 hl (k := 3) rfl (by rw [ex12]; rfl) (by decide) rfl (fun ls hl => ?_)
            refine lv_goto (tgt := 4) hx hb dX4_gainOf_69 (by decide) ?_
            exact ih x11 x12 _ _ _ _ _ hf hC (lv_sub hl [2, 3, 1, 0] rfl) kk
      · have hf := z_f hf c3
        refine lv_aload_n hx hb dX4_gainOf_20 rfl (lv_at hl 0 rfl) ?_
        refine lv_iload_n hx hb dX4_gainOf_21 rfl (lv_at hl 3 rfl) ?_
        refine lv_iconst (v := (1 : Int32)) hx hb dX4_gainOf_22 (by decide) ?_
        obtain ⟨r13, pr13, hf⟩ := z_bd_s hf
        refine z_calli hC (z_runV (rest := []) zx_Gok hC E (zc_X4_field l D cI cJ tp q u x_3 (1 : Int32) pr13 _) (cwV 2 hts gX4_gainOf_X4_field rfl rfl rfl ⟨rfl, zd_X4_field⟩ ⟨Nat.le_of_ble_eq_true rfl, Nat.le_of_ble_eq_true rfl⟩) (zx_rcX4 hC) rfl hl.1 rfl (Nat.le_of_ble_eq_true rfl) dX4_gainOf_23 ⟨Nat.zero_le _, Nat.zero_le _⟩) (fun H locs hC => ?_)
        refine lv_iload_n hx hb dX4_gainOf_26 rfl (lv_at hl 1 rfl) ?_
        refine lv_icmp_ne (tgt := 39) hx hb dX4_gainOf_27 (by decide) (fun c14 => ?_) (fun c14 => ?_)
        · have hf := z_f hf c14
          refine lv_aload_n hx hb dX4_gainOf_39 rfl (lv_at hl 0 rfl) ?_
          refine lv_iload_n hx hb dX4_gainOf_40 rfl (lv_at hl 3 rfl) ?_
          obtain ⟨r15, pr15, hf⟩ := z_bd_s hf
          refine z_calli hC (z_runV (rest := []) zx_Gok hC E (zc_X4_stands l D cI cJ tp q u x_3 pr15 _) (cwV 1 hts gX4_gainOf_X4_stands rfl rfl rfl ⟨rfl, zd_X4_stands⟩ ⟨Nat.le_of_ble_eq_true rfl, Nat.le_of_ble_eq_true rfl⟩) (zx_rcX4 hC) rfl hl.1 rfl (Nat.le_of_ble_eq_true rfl) dX4_gainOf_41 ⟨Nat.zero_le _, Nat.zero_le _⟩) (fun H locs hC => ?_)
          refine lv_if_eq (tgt := 66) hx hb dX4_gainOf_44 (by decide) (fun c16 => ?_) (fun c16 => ?_)
          · have hf := z_t hf c16
            obtain ⟨x17, ex17⟩ : ∃ z : Int32, z = (x_3 + (1 : Int32)) := ⟨_, rfl⟩
            have hf := z_nm_s hf ex17
            refine lv_iinc (v := x17) (lv' := [(3, _), (0, _), (1, _), (2, _)]) hx hb dX4_gainOf_66 hl (k := 3) rfl (by rw [ex17]; rfl) (by decide) rfl (fun ls hl => ?_)
            refine lv_goto (tgt := 4) hx hb dX4_gainOf_69 (by decide) ?_
            exact ih x_2 x17 _ _ _ _ _ hf hC (lv_sub hl [1, 2, 3, 0] rfl) kk
          · have hf := z_f hf c16
            refine lv_aload_n hx hb dX4_gainOf_47 rfl (lv_at hl 0 rfl) ?_
            refine lv_iload_n hx hb dX4_gainOf_48 rfl (lv_at hl 3 rfl) ?_
            refine lv_iconst (v := (2 : Int32)) hx hb dX4_gainOf_49 (by decide) ?_
            obtain ⟨r18, pr18, hf⟩ := z_bd_s hf
            refine z_calli hC (z_runV (rest := []) zx_Gok hC E (zc_X4_field l D cI cJ tp q u x_3 (2 : Int32) pr18 _) (cwV 2 hts gX4_gainOf_X4_field rfl rfl rfl ⟨rfl, zd_X4_field⟩ ⟨Nat.le_of_ble_eq_true rfl, Nat.le_of_ble_eq_true rfl⟩) (zx_rcX4 hC) rfl hl.1 rfl (Nat.le_of_ble_eq_true rfl) dX4_gainOf_50 ⟨Nat.zero_le _, Nat.zero_le _⟩) (fun H locs hC => ?_)
            refine lv_iload_n hx hb dX4_gainOf_53 rfl (lv_at hl 1 rfl) ?_
            refine lv_icmp_ne (tgt := 66) hx hb dX4_gainOf_54 (by decide) (fun c19 => ?_) (fun c19 => ?_)
            · have hf := z_f hf c19
              obtain ⟨x20, ex20⟩ : ∃ z : Int32, z = (x_3 + (1 : Int32)) := ⟨_, rfl⟩
              have hf := z_nm_s hf ex20
              refine lv_iinc (v := x20) (lv' := [(3, _), (0, _), (1, _), (2, _)]) hx hb dX4_gainOf_66 hl (k := 3) rfl (by rw [ex20]; rfl) (by decide) rfl (fun ls hl => ?_)
              refine lv_goto (tgt := 4) hx hb dX4_gainOf_69 (by decide) ?_
              exact ih x_2 x20 _ _ _ _ _ hf hC (lv_sub hl [1, 2, 3, 0] rfl) kk
            · have hf := z_t hf c19
              refine lv_iload_n hx hb dX4_gainOf_57 rfl (lv_at hl 2 rfl) ?_
              refine lv_aload_n hx hb dX4_gainOf_58 rfl (lv_at hl 0 rfl) ?_
              refine lv_iload_n hx hb dX4_gainOf_59 rfl (lv_at hl 3 rfl) ?_
              refine lv_iconst (v := (3 : Int32)) hx hb dX4_gainOf_60 (by decide) ?_
              obtain ⟨r21, pr21, hf⟩ := z_bd_s hf
              refine z_calli hC (z_runV (rest := [_]) zx_Gok hC E (zc_X4_field l D cI cJ tp q u x_3 (3 : Int32) pr21 _) (cwV 2 hts gX4_gainOf_X4_field rfl rfl rfl ⟨rfl, zd_X4_field⟩ ⟨Nat.le_of_ble_eq_true rfl, Nat.le_of_ble_eq_true rfl⟩) (zx_rcX4 hC) rfl hl.1 rfl (Nat.le_of_ble_eq_true rfl) dX4_gainOf_61 ⟨Nat.zero_le _, Nat.zero_le _⟩) (fun H locs hC => ?_)
              refine lv_isub hx hb dX4_gainOf_64 ?_
              refine lv_topi (fun x22 ex22 => ?_)
              have hf := z_nm_s hf ex22
              refine lv_istore_n (lv' := [(2, _), (0, _), (1, _), (3, _)]) hx hb dX4_gainOf_65 rfl hl (by decide) rfl (fun ls hl => ?_)
              obtain ⟨x23, ex23⟩ : ∃ z : Int32, z = (x_3 + (1 : Int32)) := ⟨_, rfl⟩
              have hf := z_nm_s hf ex23
              refine lv_iinc (v := x23) (lv' := [(3, _), (2, _), (0, _), (1, _)]) hx hb dX4_gainOf_66 hl (k := 3) rfl (by rw [ex23]; rfl) (by decide) rfl (fun ls hl => ?_)
              refine lv_goto (tgt := 4) hx hb dX4_gainOf_69 (by decide) ?_
              exact ih x22 x23 _ _ _ _ _ hf hC (lv_sub hl [2, 3, 1, 0] rfl) kk
        · have hf := z_t hf c14
          refine lv_iload_n hx hb dX4_gainOf_30 rfl (lv_at hl 2 rfl) ?_
          refine lv_aload_n hx hb dX4_gainOf_31 rfl (lv_at hl 0 rfl) ?_
          refine lv_iload_n hx hb dX4_gainOf_32 rfl (lv_at hl 3 rfl) ?_
          refine lv_iconst (v := (3 : Int32)) hx hb dX4_gainOf_33 (by decide) ?_
          obtain ⟨r24, pr24, hf⟩ := z_bd_s hf
          refine z_calli hC (z_runV (rest := [_]) zx_Gok hC E (zc_X4_field l D cI cJ tp q u x_3 (3 : Int32) pr24 _) (cwV 2 hts gX4_gainOf_X4_field rfl rfl rfl ⟨rfl, zd_X4_field⟩ ⟨Nat.le_of_ble_eq_true rfl, Nat.le_of_ble_eq_true rfl⟩) (zx_rcX4 hC) rfl hl.1 rfl (Nat.le_of_ble_eq_true rfl) dX4_gainOf_34 ⟨Nat.zero_le _, Nat.zero_le _⟩) (fun H locs hC => ?_)
          refine lv_iadd hx hb dX4_gainOf_37 ?_
          refine lv_topi (fun x25 ex25 => ?_)
          have hf := z_nm_s hf ex25
          refine lv_istore_n (lv' := [(2, _), (0, _), (1, _), (3, _)]) hx hb dX4_gainOf_38 rfl hl (by decide) rfl (fun ls hl => ?_)
          refine lv_aload_n hx hb dX4_gainOf_39 rfl (lv_at hl 1 rfl) ?_
          refine lv_iload_n hx hb dX4_gainOf_40 rfl (lv_at hl 3 rfl) ?_
          obtain ⟨r26, pr26, hf⟩ := z_bd_s hf
          refine z_calli hC (z_runV (rest := []) zx_Gok hC E (zc_X4_stands l D cI cJ tp q u x_3 pr26 _) (cwV 1 hts gX4_gainOf_X4_stands rfl rfl rfl ⟨rfl, zd_X4_stands⟩ ⟨Nat.le_of_ble_eq_true rfl, Nat.le_of_ble_eq_true rfl⟩) (zx_rcX4 hC) rfl hl.1 rfl (Nat.le_of_ble_eq_true rfl) dX4_gainOf_41 ⟨Nat.zero_le _, Nat.zero_le _⟩) (fun H locs hC => ?_)
          refine lv_if_eq (tgt := 66) hx hb dX4_gainOf_44 (by decide) (fun c27 => ?_) (fun c27 => ?_)
          · have hf := z_t hf c27
            obtain ⟨x28, ex28⟩ : ∃ z : Int32, z = (x_3 + (1 : Int32)) := ⟨_, rfl⟩
            have hf := z_nm_s hf ex28
            refine lv_iinc (v := x28) (lv' := [(3, _), (2, _), (0, _), (1, _)]) hx hb dX4_gainOf_66 hl (k := 3) rfl (by rw [ex28]; rfl) (by decide) rfl (fun ls hl => ?_)
            refine lv_goto (tgt := 4) hx hb dX4_gainOf_69 (by decide) ?_
            exact ih x25 x28 _ _ _ _ _ hf hC (lv_sub hl [2, 3, 1, 0] rfl) kk
          · have hf := z_f hf c27
            refine lv_aload_n hx hb dX4_gainOf_47 rfl (lv_at hl 1 rfl) ?_
            refine lv_iload_n hx hb dX4_gainOf_48 rfl (lv_at hl 3 rfl) ?_
            refine lv_iconst (v := (2 : Int32)) hx hb dX4_gainOf_49 (by decide) ?_
            obtain ⟨r29, pr29, hf⟩ := z_bd_s hf
            refine z_calli hC (z_runV (rest := []) zx_Gok hC E (zc_X4_field l D cI cJ tp q u x_3 (2 : Int32) pr29 _) (cwV 2 hts gX4_gainOf_X4_field rfl rfl rfl ⟨rfl, zd_X4_field⟩ ⟨Nat.le_of_ble_eq_true rfl, Nat.le_of_ble_eq_true rfl⟩) (zx_rcX4 hC) rfl hl.1 rfl (Nat.le_of_ble_eq_true rfl) dX4_gainOf_50 ⟨Nat.zero_le _, Nat.zero_le _⟩) (fun H locs hC => ?_)
            refine lv_iload_n hx hb dX4_gainOf_53 rfl (lv_at hl 2 rfl) ?_
            refine lv_icmp_ne (tgt := 66) hx hb dX4_gainOf_54 (by decide) (fun c30 => ?_) (fun c30 => ?_)
            · have hf := z_f hf c30
              obtain ⟨x31, ex31⟩ : ∃ z : Int32, z = (x_3 + (1 : Int32)) := ⟨_, rfl⟩
              have hf := z_nm_s hf ex31
              refine lv_iinc (v := x31) (lv' := [(3, _), (2, _), (0, _), (1, _)]) hx hb dX4_gainOf_66 hl (k := 3) rfl (by rw [ex31]; rfl) (by decide) rfl (fun ls hl => ?_)
              refine lv_goto (tgt := 4) hx hb dX4_gainOf_69 (by decide) ?_
              exact ih x25 x31 _ _ _ _ _ hf hC (lv_sub hl [2, 3, 1, 0] rfl) kk
            · have hf := z_t hf c30
              refine lv_iload_n hx hb dX4_gainOf_57 rfl (lv_at hl 0 rfl) ?_
              refine lv_aload_n hx hb dX4_gainOf_58 rfl (lv_at hl 1 rfl) ?_
              refine lv_iload_n hx hb dX4_gainOf_59 rfl (lv_at hl 3 rfl) ?_
              refine lv_iconst (v := (3 : Int32)) hx hb dX4_gainOf_60 (by decide) ?_
              obtain ⟨r32, pr32, hf⟩ := z_bd_s hf
              refine z_calli hC (z_runV (rest := [_]) zx_Gok hC E (zc_X4_field l D cI cJ tp q u x_3 (3 : Int32) pr32 _) (cwV 2 hts gX4_gainOf_X4_field rfl rfl rfl ⟨rfl, zd_X4_field⟩ ⟨Nat.le_of_ble_eq_true rfl, Nat.le_of_ble_eq_true rfl⟩) (zx_rcX4 hC) rfl hl.1 rfl (Nat.le_of_ble_eq_true rfl) dX4_gainOf_61 ⟨Nat.zero_le _, Nat.zero_le _⟩) (fun H locs hC => ?_)
              refine lv_isub hx hb dX4_gainOf_64 ?_
              refine lv_topi (fun x33 ex33 => ?_)
              have hf := z_nm_s hf ex33
              refine lv_istore_n (lv' := [(2, _), (0, _), (1, _), (3, _)]) hx hb dX4_gainOf_65 rfl hl (by decide) rfl (fun ls hl => ?_)
              obtain ⟨x34, ex34⟩ : ∃ z : Int32, z = (x_3 + (1 : Int32)) := ⟨_, rfl⟩
              have hf := z_nm_s hf ex34
              refine lv_iinc (v := x34) (lv' := [(3, _), (2, _), (0, _), (1, _)]) hx hb dX4_gainOf_66 hl (k := 3) rfl (by rw [ex34]; rfl) (by decide) rfl (fun ls hl => ?_)
              refine lv_goto (tgt := 4) hx hb dX4_gainOf_69 (by decide) ?_
              exact ih x33 x34 _ _ _ _ _ hf hC (lv_sub hl [2, 3, 1, 0] rfl) kk
set_option maxHeartbeats 4000000 in
set_option maxRecDepth 100000 in
theorem zc_X4_gainOf (l : Launch) (D : va_G) (cI cJ : ClassId) (tp : Nat) (q : Nat → Nat) (u : z_St) (a_1 : Int32) {r : Int32} (hf : zf_X4_gainOf u a_1 = some r) : z_Mi l yX4_gainOf wsX4_gainOf zr_X4_gainOf (zx_W cI q) (zx_G tp) D cI cJ [.ref (q 4), .int a_1] u r u := by
  refine z_ofi (cc := cX4_gainOf) (maxL := 4) (ret := (some .int)) zx_Gok (by decide) rfl (Nat.le_of_ble_eq_true rfl) ?_
  intro A p e s m args below meth c ls E hr hlk hC hl
  have E : CallFix p m c cX4_gainOf 4 s args wsX4_gainOf RX4 := E
  have hx := E.1
  have hb := E.2.1
  have hml := E.2.2.1
  have hown := E.2.2.2.1
  have hts := E.2.2.2.2
  have hl : lv_has ls 4 [(0, .ref (q 4)), (1, .int a_1)] := hl
  unfold zf_X4_gainOf at hf
  refine lv_iconst (v := (0 : Int32)) hx hb dX4_gainOf_0 (by decide) ?_
  refine lv_istore_n (lv' := [(2, _), (0, _), (1, _)]) hx hb dX4_gainOf_1 rfl hl (by decide) rfl (fun ls hl => ?_)
  refine lv_iconst (v := (0 : Int32)) hx hb dX4_gainOf_2 (by decide) ?_
  refine lv_istore_n (lv' := [(3, _), (2, _), (0, _), (1, _)]) hx hb dX4_gainOf_3 rfl hl (by decide) rfl (fun ls hl => ?_)
  obtain ⟨y1, y2, py1, hf⟩ := z_bd2_s hf
  refine zl_X4_gainOf_4 E a_1 u 5000 (0 : Int32) (0 : Int32) _ _ _ _ _ py1 hC (lv_sub hl [2, 3, 1, 0] rfl) (fun H locs ls hC hl => ?_)
  refine lv_iload_n hx hb dX4_gainOf_72 rfl (lv_at hl 2 rfl) ?_
  exact z_reti hx hb hr hlk hC (Option.some.inj hf) rfl dX4_gainOf_73
abbrev zr_X4_riseOf : Room := { frames := 2, cells := 0, slots := 0, locals := 43 }
theorem zd_X4_riseOf : yX4_riseOf.cls ≠ "java/lang/invoke/MethodHandle" ∧ yX4_riseOf.cls ≠ "java/lang/invoke/VarHandle" ∧ (parseMethodDescriptor yX4_riseOf.desc).map (fun d => d.parameters.length) = some 1 := by decide +kernel
theorem zi_X4_riseOf : ∀ w ∈ wsX40, w ∈ wsX4_riseOf := fun _ h => List.mem_cons_of_mem _ (List.mem_append_right _ h)
set_option maxHeartbeats 4000000 in
set_option maxRecDepth 100000 in
theorem zl_X4_riseOf_7 (E : CallFix p m c cX4_riseOf 5 s args wsX4_riseOf RX4) (a_1 : Int32) (u : z_St) : ∀ (n : Nat) (x_2 : Int32) (x_3 : Int32) (x_4 : Int32) (H : Heap) (locs : List Loc) (ls : Array Slot) (o_2 : Int32) (o_3 : Int32) (o_4 : Int32), zf_X4_riseOf_7 a_1 u n x_2 x_3 x_4 = some (o_2, o_3, o_4) → z_C (zx_W cI q) (zx_G tp) D cI cJ A s u H locs → lv_has ls 5 [(0, .ref (q 4)), (1, .int a_1), (2, .int x_2), (3, .int x_3), (4, .int x_4)] → (∀ (H : Heap) (locs : List Loc) (ls : Array Slot), z_C (zx_W cI q) (zx_G tp) D cI cJ A s u H locs → lv_has ls 5 [(0, .ref (q 4)), (1, .int a_1), (2, .int o_2), (3, .int o_3), (4, .int o_4)] → W p l e zr_X4_riseOf s m args below meth c H locs 0 0 Q (F0 m 57 ls [])) → W p l e zr_X4_riseOf s m args below meth c H locs 0 0 Q (F0 m 7 ls []) := by
  have hx := E.1
  have hb := E.2.1
  have hml := E.2.2.1
  have hown := E.2.2.2.1
  have hts := E.2.2.2.2
  intro n
  induction n with
  | zero =>
    intro x_2 x_3 x_4 H locs ls o_2 o_3 o_4 hf
    rw [zf_X4_riseOf_7.eq_1] at hf
    cases hf
  | succ n ih =>
    intro x_2 x_3 x_4 H locs ls o_2 o_3 o_4 hf hC hl kk
    rw [zf_X4_riseOf_7.eq_2] at hf
    have kf27 := hts (.fieldLink RX4 27 "DawnFair$Trade" "sales" "I") (by decide +kernel)
    refine lv_iload hx hb dX4_riseOf_7 (lv_at hl 4 rfl) ?_
    refine lv_aload_n hx hb dX4_riseOf_9 rfl (lv_at hl 0 rfl) ?_
    refine zx_gX4_sales hx hb hts zi_X4_riseOf hown hC kf27 dX4_riseOf_10 ?_
    refine lv_icmp_ge (tgt := 57) hx hb dX4_riseOf_13 (by decide) (fun c1 => ?_) (fun c1 => ?_)
    · have hf := z_t hf c1
      cases hf
      exact kk _ _ _ hC (lv_sub hl [0, 1, 2, 3, 4] rfl)
    · have hf := z_f hf c1
      refine lv_aload_n hx hb dX4_riseOf_16 rfl (lv_at hl 0 rfl) ?_
      refine lv_iload hx hb dX4_riseOf_17 (lv_at hl 4 rfl) ?_
      obtain ⟨r2, pr2, hf⟩ := z_bd_s hf
      refine z_calli hC (z_runV (rest := []) zx_Gok hC E (zc_X4_stands l D cI cJ tp q u x_4 pr2 _) (cwV 1 hts gX4_riseOf_X4_stands rfl rfl rfl ⟨rfl, zd_X4_stands⟩ ⟨Nat.le_of_ble_eq_true rfl, Nat.le_of_ble_eq_true rfl⟩) (zx_rcX4 hC) rfl hl.1 rfl (Nat.le_of_ble_eq_true rfl) dX4_riseOf_19 ⟨Nat.zero_le _, Nat.zero_le _⟩) (fun H locs hC => ?_)
      refine lv_if_eq (tgt := 51) hx hb dX4_riseOf_22 (by decide) (fun c3 => ?_) (fun c3 => ?_)
      · have hf := z_t hf c3
        obtain ⟨x4, ex4⟩ : ∃ z : Int32, z = (x_4 + (1 : Int32)) := ⟨_, rfl⟩
        have hf := z_nm_s hf ex4
        refine lv_iinc (v := x4) (lv' := [(4, _), (0, _), (1, _), (2, _), (3, _)]) hx hb dX4_riseOf_51 hl (k := 4) rfl (by rw [ex4]; rfl) (by decide) rfl (fun ls hl => ?_)
        refine lv_goto (tgt := 7) hx hb dX4_riseOf_54 (by decide) ?_
        exact ih x_2 x_3 x4 _ _ _ _ _ _ hf hC (lv_sub hl [1, 2, 3, 4, 0] rfl) kk
      · have hf := z_f hf c3
        refine lv_aload_n hx hb dX4_riseOf_25 rfl (lv_at hl 0 rfl) ?_
        refine lv_iload hx hb dX4_riseOf_26 (lv_at hl 4 rfl) ?_
        refine lv_iconst (v := (0 : Int32)) hx hb dX4_riseOf_28 (by decide) ?_
        obtain ⟨r5, pr5, hf⟩ := z_bd_s hf
        refine z_calli hC (z_runV (rest := []) zx_Gok hC E (zc_X4_field l D cI cJ tp q u x_4 (0 : Int32) pr5 _) (cwV 2 hts gX4_riseOf_X4_field rfl rfl rfl ⟨rfl, zd_X4_field⟩ ⟨Nat.le_of_ble_eq_true rfl, Nat.le_of_ble_eq_true rfl⟩) (zx_rcX4 hC) rfl hl.1 rfl (Nat.le_of_ble_eq_true rfl) dX4_riseOf_29 ⟨Nat.zero_le _, Nat.zero_le _⟩) (fun H locs hC => ?_)
        refine lv_iload_n hx hb dX4_riseOf_32 rfl (lv_at hl 1 rfl) ?_
        refine lv_icmp_ne (tgt := 51) hx hb dX4_riseOf_33 (by decide) (fun c6 => ?_) (fun c6 => ?_)
        · have hf := z_f hf c6
          obtain ⟨x7, ex7⟩ : ∃ z : Int32, z = (x_4 + (1 : Int32)) := ⟨_, rfl⟩
          have hf := z_nm_s hf ex7
          refine lv_iinc (v := x7) (lv' := [(4, _), (0, _), (1, _), (2, _), (3, _)]) hx hb dX4_riseOf_51 hl (k := 4) rfl (by rw [ex7]; rfl) (by decide) rfl (fun ls hl => ?_)
          refine lv_goto (tgt := 7) hx hb dX4_riseOf_54 (by decide) ?_
          exact ih x_2 x_3 x7 _ _ _ _ _ _ hf hC (lv_sub hl [1, 2, 3, 4, 0] rfl) kk
        · have hf := z_t hf c6
          refine lv_iload_n hx hb dX4_riseOf_36 rfl (lv_at hl 2 rfl) ?_
          refine lv_iconst (v := (-1 : Int32)) hx hb dX4_riseOf_37 (by decide) ?_
          refine lv_icmp_ne (tgt := 46) hx hb dX4_riseOf_38 (by decide) (fun c8 => ?_) (fun c8 => ?_)
          · have hf := z_f hf c8
            refine lv_iload_n hx hb dX4_riseOf_46 rfl (lv_at hl 2 rfl) ?_
            refine lv_istore_n (lv' := [(2, _), (0, _), (1, _), (3, _), (4, _)]) hx hb dX4_riseOf_47 rfl hl (by decide) rfl (fun ls hl => ?_)
            refine lv_iload hx hb dX4_riseOf_48 (lv_at hl 4 rfl) ?_
            refine lv_istore_n (lv' := [(3, _), (2, _), (0, _), (1, _), (4, _)]) hx hb dX4_riseOf_50 rfl hl (by decide) rfl (fun ls hl => ?_)
            obtain ⟨x9, ex9⟩ : ∃ z : Int32, z = (x_4 + (1 : Int32)) := ⟨_, rfl⟩
            have hf := z_nm_s hf ex9
            refine lv_iinc (v := x9) (lv' := [(4, _), (3, _), (2, _), (0, _), (1, _)]) hx hb dX4_riseOf_51 hl (k := 4) rfl (by rw [ex9]; rfl) (by decide) rfl (fun ls hl => ?_)
            refine lv_goto (tgt := 7) hx hb dX4_riseOf_54 (by decide) ?_
            exact ih x_2 x_4 x9 _ _ _ _ _ _ hf hC (lv_sub hl [3, 4, 2, 1, 0] rfl) kk
          · have hf := z_t hf c8
            refine lv_iload hx hb dX4_riseOf_41 (lv_at hl 4 rfl) ?_
            refine lv_goto (tgt := 47) hx hb dX4_riseOf_43 (by decide) ?_
            refine lv_istore_n (lv' := [(2, _), (0, _), (1, _), (3, _), (4, _)]) hx hb dX4_riseOf_47 rfl hl (by decide) rfl (fun ls hl => ?_)
            refine lv_iload hx hb dX4_riseOf_48 (lv_at hl 4 rfl) ?_
            refine lv_istore_n (lv' := [(3, _), (2, _), (0, _), (1, _), (4, _)]) hx hb dX4_riseOf_50 rfl hl (by decide) rfl (fun ls hl => ?_)
            obtain ⟨x10, ex10⟩ : ∃ z : Int32, z = (x_4 + (1 : Int32)) := ⟨_, rfl⟩
            have hf := z_nm_s hf ex10
            refine lv_iinc (v := x10) (lv' := [(4, _), (3, _), (2, _), (0, _), (1, _)]) hx hb dX4_riseOf_51 hl (k := 4) rfl (by rw [ex10]; rfl) (by decide) rfl (fun ls hl => ?_)
            refine lv_goto (tgt := 7) hx hb dX4_riseOf_54 (by decide) ?_
            exact ih x_4 x_4 x10 _ _ _ _ _ _ hf hC (lv_sub hl [3, 4, 2, 1, 0] rfl) kk
set_option maxHeartbeats 4000000 in
set_option maxRecDepth 100000 in
theorem zc_X4_riseOf (l : Launch) (D : va_G) (cI cJ : ClassId) (tp : Nat) (q : Nat → Nat) (u : z_St) (a_1 : Int32) {r : Int32} (hf : zf_X4_riseOf u a_1 = some r) : z_Mi l yX4_riseOf wsX4_riseOf zr_X4_riseOf (zx_W cI q) (zx_G tp) D cI cJ [.ref (q 4), .int a_1] u r u := by
  refine z_ofi (cc := cX4_riseOf) (maxL := 5) (ret := (some .int)) zx_Gok (by decide) rfl (Nat.le_of_ble_eq_true rfl) ?_
  intro A p e s m args below meth c ls E hr hlk hC hl
  have E : CallFix p m c cX4_riseOf 5 s args wsX4_riseOf RX4 := E
  have hx := E.1
  have hb := E.2.1
  have hml := E.2.2.1
  have hown := E.2.2.2.1
  have hts := E.2.2.2.2
  have hl : lv_has ls 5 [(0, .ref (q 4)), (1, .int a_1)] := hl
  unfold zf_X4_riseOf at hf
  refine lv_iconst (v := (-1 : Int32)) hx hb dX4_riseOf_0 (by decide) ?_
  refine lv_istore_n (lv' := [(2, _), (0, _), (1, _)]) hx hb dX4_riseOf_1 rfl hl (by decide) rfl (fun ls hl => ?_)
  refine lv_iconst (v := (-1 : Int32)) hx hb dX4_riseOf_2 (by decide) ?_
  refine lv_istore_n (lv' := [(3, _), (2, _), (0, _), (1, _)]) hx hb dX4_riseOf_3 rfl hl (by decide) rfl (fun ls hl => ?_)
  refine lv_iconst (v := (0 : Int32)) hx hb dX4_riseOf_4 (by decide) ?_
  refine lv_istore (lv' := [(4, _), (3, _), (2, _), (0, _), (1, _)]) hx hb dX4_riseOf_5 hl (by decide) rfl (fun ls hl => ?_)
  obtain ⟨y1, y2, y3, py1, hf⟩ := z_bd3_s hf
  refine zl_X4_riseOf_7 E a_1 u 5000 (-1 : Int32) (-1 : Int32) (0 : Int32) _ _ _ _ _ _ py1 hC (lv_sub hl [3, 4, 2, 1, 0] rfl) (fun H locs ls hC hl => ?_)
  refine lv_iload_n hx hb dX4_riseOf_57 rfl (lv_at hl 2 rfl) ?_
  refine lv_iconst (v := (-1 : Int32)) hx hb dX4_riseOf_58 (by decide) ?_
  refine lv_icmp_ne (tgt := 66) hx hb dX4_riseOf_59 (by decide) (fun c4 => ?_) (fun c4 => ?_)
  · have hf := z_f hf c4
    refine lv_aload_n hx hb dX4_riseOf_66 rfl (lv_at hl 0 rfl) ?_
    refine lv_iload_n hx hb dX4_riseOf_67 rfl (lv_at hl 3 rfl) ?_
    refine lv_iconst (v := (3 : Int32)) hx hb dX4_riseOf_68 (by decide) ?_
    obtain ⟨r5, pr5, hf⟩ := z_bd_s hf
    refine z_calli hC (z_runV (rest := []) zx_Gok hC E (zc_X4_field l D cI cJ tp q u y2 (3 : Int32) pr5 _) (cwV 2 hts gX4_riseOf_X4_field rfl rfl rfl ⟨rfl, zd_X4_field⟩ ⟨Nat.le_of_ble_eq_true rfl, Nat.le_of_ble_eq_true rfl⟩) (zx_rcX4 hC) rfl hl.1 rfl (Nat.le_of_ble_eq_true rfl) dX4_riseOf_69 ⟨Nat.zero_le _, Nat.zero_le _⟩) (fun H locs hC => ?_)
    refine lv_aload_n hx hb dX4_riseOf_72 rfl (lv_at hl 0 rfl) ?_
    refine lv_iload_n hx hb dX4_riseOf_73 rfl (lv_at hl 2 rfl) ?_
    refine lv_iconst (v := (3 : Int32)) hx hb dX4_riseOf_74 (by decide) ?_
    obtain ⟨r6, pr6, hf⟩ := z_bd_s hf
    refine z_calli hC (z_runV (rest := [_]) zx_Gok hC E (zc_X4_field l D cI cJ tp q u y1 (3 : Int32) pr6 _) (cwV 2 hts gX4_riseOf_X4_field rfl rfl rfl ⟨rfl, zd_X4_field⟩ ⟨Nat.le_of_ble_eq_true rfl, Nat.le_of_ble_eq_true rfl⟩) (zx_rcX4 hC) rfl hl.1 rfl (Nat.le_of_ble_eq_true rfl) dX4_riseOf_75 ⟨Nat.zero_le _, Nat.zero_le _⟩) (fun H locs hC => ?_)
    refine lv_isub hx hb dX4_riseOf_78 ?_
    exact z_reti hx hb hr hlk hC (Option.some.inj hf) rfl dX4_riseOf_79
  · have hf := z_t hf c4
    refine lv_iconst (v := (0 : Int32)) hx hb dX4_riseOf_62 (by decide) ?_
    refine lv_goto (tgt := 79) hx hb dX4_riseOf_63 (by decide) ?_
    exact z_reti hx hb hr hlk hC (Option.some.inj hf) rfl dX4_riseOf_79
abbrev zr_X4_mixSales : Room := { frames := 1, cells := 0, slots := 0, locals := 22 }
theorem zd_X4_mixSales : yX4_mixSales.cls ≠ "java/lang/invoke/MethodHandle" ∧ yX4_mixSales.cls ≠ "java/lang/invoke/VarHandle" ∧ (parseMethodDescriptor yX4_mixSales.desc).map (fun d => d.parameters.length) = some 1 := by decide +kernel
theorem zi_X4_mixSales : ∀ w ∈ wsX40, w ∈ wsX4_mixSales := fun _ h => List.mem_cons_of_mem _ (List.mem_append_right _ h)
set_option maxHeartbeats 4000000 in
set_option maxRecDepth 100000 in
theorem zl_X4_mixSales_5 (E : CallFix p m c cX4_mixSales 6 s args wsX4_mixSales RX4) (u : z_St) : ∀ (n : Nat) (x_3 : Int64) (x_5 : Int32) (H : Heap) (locs : List Loc) (ls : Array Slot) (o_3 : Int64) (o_5 : Int32), zf_X4_mixSales_5 u n x_3 x_5 = some (o_3, o_5) → z_C (zx_W cI q) (zx_G tp) D cI cJ A s u H locs → lv_has ls 6 [(0, .ref (q 4)), (3, .long x_3), (5, .int x_5)] → (∀ (H : Heap) (locs : List Loc) (ls : Array Slot), z_C (zx_W cI q) (zx_G tp) D cI cJ A s u H locs → lv_has ls 6 [(0, .ref (q 4)), (3, .long o_3), (5, .int o_5)] → W p l e zr_X4_mixSales s m args below meth c H locs 0 0 Q (F0 m 35 ls [])) → W p l e zr_X4_mixSales s m args below meth c H locs 0 0 Q (F0 m 5 ls []) := by
  have hx := E.1
  have hb := E.2.1
  have hml := E.2.2.1
  have hown := E.2.2.2.1
  have hts := E.2.2.2.2
  intro n
  induction n with
  | zero =>
    intro x_3 x_5 H locs ls o_3 o_5 hf
    rw [zf_X4_mixSales_5.eq_1] at hf
    cases hf
  | succ n ih =>
    intro x_3 x_5 H locs ls o_3 o_5 hf hC hl kk
    rw [zf_X4_mixSales_5.eq_2] at hf
    have kf27 := hts (.fieldLink RX4 27 "DawnFair$Trade" "sales" "I") (by decide +kernel)
    have kf21 := hts (.fieldLink RX4 21 "DawnFair$Trade" "rows" "[I") (by decide +kernel)
    have kiX5 := hts (.initialized RX5) (by decide +kernel)
    have ks52 := hts (.static yX5_mix) (by decide +kernel)
    refine lv_iload hx hb dX4_mixSales_5 (lv_at hl 2 rfl) ?_
    refine lv_aload_n hx hb dX4_mixSales_7 rfl (lv_at hl 0 rfl) ?_
    refine zx_gX4_sales hx hb hts zi_X4_mixSales hown hC kf27 dX4_mixSales_8 ?_
    refine lv_bipush (v := (7 : Int32)) hx hb dX4_mixSales_11 (by decide) ?_
    refine lv_imul hx hb dX4_mixSales_13 ?_
    refine lv_icmp_ge (tgt := 35) hx hb dX4_mixSales_14 (by decide) (fun c1 => ?_) (fun c1 => ?_)
    · have hf := z_t hf c1
      cases hf
      exact kk _ _ _ hC (lv_sub hl [0, 1, 2] rfl)
    · have hf := z_f hf c1
      refine lv_lload_n hx hb dX4_mixSales_17 rfl (lv_at hl 1 rfl) ?_
      refine lv_aload_n hx hb dX4_mixSales_18 rfl (lv_at hl 0 rfl) ?_
      refine zx_gX4_rows hx hb hts zi_X4_mixSales hown hC kf21 dX4_mixSales_19 ?_
      refine lv_iload hx hb dX4_mixSales_22 (lv_at hl 2 rfl) ?_
      obtain ⟨h2, hf⟩ := z_gd_s hf
      refine zx_aX4_rows hx hb hC (z_in h2) dX4_mixSales_24 ?_
      refine z_calll hC (z_runSN (rest := []) zx_Gok hC E (zc_X5_mix l D cI cJ tp q u x_3 (z_rI u 19 x_5.toNatClampNeg) rfl _) ⟨va_cnB 2 hts gX4_mixSales_X5_mix_n52 rfl rfl rfl (zx_nst hC).2.2.2.2.2 kiX5 zd_X5_mix ⟨Nat.le_of_ble_eq_true rfl, Nat.le_of_ble_eq_true rfl⟩, ks52, trivial⟩ rfl hl.1 rfl (Nat.le_of_ble_eq_true rfl) dX4_mixSales_25 ⟨Nat.zero_le _, Nat.zero_le _⟩) (fun H locs hC => ?_)
      refine lv_topl (fun x3 ex3 => ?_)
      have hf := z_nm_s hf ex3
      refine lv_lstore_n (lv' := [(3, _), (0, _), (5, _)]) hx hb dX4_mixSales_28 rfl hl (by decide) rfl (fun ls hl => ?_)
      obtain ⟨x4, ex4⟩ : ∃ z : Int32, z = (x_5 + (1 : Int32)) := ⟨_, rfl⟩
      have hf := z_nm_s hf ex4
      refine lv_iinc (v := x4) (lv' := [(5, _), (3, _), (0, _)]) hx hb dX4_mixSales_29 hl (k := 2) rfl (by rw [ex4]; rfl) (by decide) rfl (fun ls hl => ?_)
      refine lv_goto (tgt := 5) hx hb dX4_mixSales_32 (by decide) ?_
      exact ih x3 x4 _ _ _ _ _ hf hC (lv_sub hl [2, 1, 0] rfl) kk
set_option maxHeartbeats 4000000 in
set_option maxRecDepth 100000 in
theorem zc_X4_mixSales (l : Launch) (D : va_G) (cI cJ : ClassId) (tp : Nat) (q : Nat → Nat) (u : z_St) (a_1 : Int64) {r : Int64} (hf : zf_X4_mixSales u a_1 = some r) : z_Ml l yX4_mixSales wsX4_mixSales zr_X4_mixSales (zx_W cI q) (zx_G tp) D cI cJ [.ref (q 4), .long a_1] u r u := by
  refine z_ofl (cc := cX4_mixSales) (maxL := 6) (ret := (some .long)) zx_Gok (by decide) rfl (Nat.le_of_ble_eq_true rfl) ?_
  intro A p e s m args below meth c ls E hr hlk hC hl
  have E : CallFix p m c cX4_mixSales 6 s args wsX4_mixSales RX4 := E
  have hx := E.1
  have hb := E.2.1
  have hml := E.2.2.1
  have hown := E.2.2.2.1
  have hts := E.2.2.2.2
  have hl : lv_has ls 6 [(0, .ref (q 4)), (1, .long a_1)] := hl
  unfold zf_X4_mixSales at hf
  refine lv_lload_n hx hb dX4_mixSales_0 rfl (lv_at hl 1 rfl) ?_
  refine lv_lstore_n (lv' := [(3, _), (0, _), (1, _)]) hx hb dX4_mixSales_1 rfl hl (by decide) rfl (fun ls hl => ?_)
  refine lv_iconst (v := (0 : Int32)) hx hb dX4_mixSales_2 (by decide) ?_
  refine lv_istore (lv' := [(5, _), (3, _), (0, _), (1, _)]) hx hb dX4_mixSales_3 hl (by decide) rfl (fun ls hl => ?_)
  obtain ⟨y1, y2, py1, hf⟩ := z_bd2_s hf
  refine zl_X4_mixSales_5 E u 5000 a_1 (0 : Int32) _ _ _ _ _ py1 hC (lv_sub hl [2, 1, 0] rfl) (fun H locs ls hC hl => ?_)
  refine lv_lload_n hx hb dX4_mixSales_35 rfl (lv_at hl 1 rfl) ?_
  exact z_retl hx hb hr hlk hC (Option.some.inj hf) rfl dX4_mixSales_36
end
