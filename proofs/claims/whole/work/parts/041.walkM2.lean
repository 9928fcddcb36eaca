section
variable {p : Program} {l : Launch} {e : Env} {R : Room} {s : State} {m : MethodId} {args : Array Value} {below : List Frame} {meth : Method} {c : Code} {H : Heap} {locs : List Loc} {cells slots : Nat} {Q : State → Prop} {cc : ByteArray} {pc : Nat} {ls : Array Slot} {rest : List Value}
variable {D : va_G} {cI cJ : ClassId} {tp : Nat} {q : Nat → Nat} {A : Nat → Prop} {u : z_St} {Ts : List Cond}
abbrev zr_X6_hold : Room := { frames := 2, cells := 0, slots := 0, locals := 46 }
theorem zd_X6_hold : yX6_hold.cls ≠ "java/lang/invoke/MethodHandle" ∧ yX6_hold.cls ≠ "java/lang/invoke/VarHandle" ∧ (parseMethodDescriptor yX6_hold.desc).map (fun d => d.parameters.length) = some 2 := by decide +kernel
theorem zi_X6_hold : ∀ w ∈ wsX60, w ∈ wsX6_hold := fun _ h => List.mem_cons_of_mem _ (List.mem_append_right _ h)
set_option maxHeartbeats 4000000 in
set_option maxRecDepth 100000 in
theorem zc_X6_hold (l : Launch) (D : va_G) (cI cJ : ClassId) (tp : Nat) (q : Nat → Nat) (u : z_St) (a_1 : Int32) (a_2 : Int32) {r : Int32} {u2 : z_St} (hf : zf_X6_hold u a_1 a_2 = some (r, u2)) : z_Mi l yX6_hold wsX6_hold zr_X6_hold (zm_W cI cJ q) (zm_G tp) D cI cJ [.ref (q 0), .int a_1, .int a_2] u r u2 := by
  refine z_ofi (cc := cX6_hold) (maxL := 4) (ret := (some .int)) zm_Gok (by decide) rfl (Nat.le_of_ble_eq_true rfl) ?_
  intro A p e s m args below meth c ls E hr hlk hC hl
  have E : CallFix p m c cX6_hold 4 s args wsX6_hold RX6 := E
  have hx := E.1
  have hb := E.2.1
  have hml := E.2.2.1
  have hown := E.2.2.2.1
  have hts := E.2.2.2.2
  have hl : lv_has ls 4 [(0, .ref (q 0)), (1, .int a_1), (2, .int a_2)] := hl
  unfold zf_X6_hold at hf
  have kl133 := hts (.constantLong RX6 133 (-1)) (by decide +kernel)
  have kl90 := hts (.constantLong RX6 90 (7)) (by decide +kernel)
  have kf22 := hts (.fieldLink RX6 22 "DawnFairModel" "holder" "[I") (by decide +kernel)
  have kf25 := hts (.fieldLink RX6 25 "DawnFairModel" "latest" "[I") (by decide +kernel)
  refine lv_aload_n hx hb dX6_hold_0 rfl (lv_at hl 0 rfl) ?_
  refine lv_iload_n hx hb dX6_hold_1 rfl (lv_at hl 1 rfl) ?_
  refine z_calli hC (z_runV (rest := []) zm_Gok hC E (zc_X6_noThing l D cI cJ tp q u a_1 rfl _) (cwV 1 hts gX6_hold_X6_noThing rfl rfl rfl ⟨rfl, zd_X6_noThing⟩ ⟨Nat.le_of_ble_eq_true rfl, Nat.le_of_ble_eq_true rfl⟩) (zm_rcX6 hC) rfl hl.1 rfl (Nat.le_of_ble_eq_true rfl) dX6_hold_2 ⟨Nat.zero_le _, Nat.zero_le _⟩) (fun H locs hC => ?_)
  refine lv_if_ne (tgt := 22) hx hb dX6_hold_5 (by decide) (fun c1 => ?_) (fun c1 => ?_)
  · have hf := z_f hf c1
    refine lv_bipush (v := (-2 : Int32)) hx hb dX6_hold_22 (by decide) ?_
    exact z_reti hx hb hr hlk hC (Prod.mk.inj (Option.some.inj hf)).1 (Prod.mk.inj (Option.some.inj hf)).2 dX6_hold_24
  · have hf := z_t hf c1
    refine lv_iload_n hx hb dX6_hold_8 rfl (lv_at hl 2 rfl) ?_
    refine lv_i2l hx hb dX6_hold_9 rfl ?_
    refine lv_ldc2 (own := RX6) (v := (-1 : Int64)) hx hb hown kl133 dX6_hold_10 ?_
    refine lv_ldc2 (own := RX6) (v := (7 : Int64)) hx hb hown kl90 dX6_hold_13 ?_
    refine z_calli hC (z_runS (rest := []) zm_Gok hC E (zc_X6_in l D cI cJ tp q u a_2.toInt64 (-1 : Int64) (7 : Int64) rfl _) (va_cwS 3 hts gX6_hold_X6_in rfl rfl rfl zd_X6_in ⟨Nat.le_of_ble_eq_true rfl, Nat.le_of_ble_eq_true rfl⟩) rfl hl.1 rfl (Nat.le_of_ble_eq_true rfl) dX6_hold_16 ⟨Nat.zero_le _, Nat.zero_le _⟩) (fun H locs hC => ?_)
    refine lv_if_ne (tgt := 25) hx hb dX6_hold_19 (by decide) (fun c2 => ?_) (fun c2 => ?_)
    · have hf := z_f hf c2
      refine lv_aload_n hx hb dX6_hold_25 rfl (lv_at hl 0 rfl) ?_
      refine zm_gX6_holder hx hb hts zi_X6_hold hown hC kf22 dX6_hold_26 ?_
      refine lv_iload_n hx hb dX6_hold_29 rfl (lv_at hl 1 rfl) ?_
      obtain ⟨h3, hf⟩ := z_gd_s hf
      refine zm_aX6_holder hx hb hC (z_in h3) dX6_hold_30 ?_
      refine lv_topi (fun x4 ex4 => ?_)
      have hf := z_nm_s hf ex4
      refine lv_istore_n (lv' := [(3, _), (0, _), (1, _), (2, _)]) hx hb dX6_hold_31 rfl hl (by decide) rfl (fun ls hl => ?_)
      refine lv_aload_n hx hb dX6_hold_32 rfl (lv_at hl 1 rfl) ?_
      refine zm_gX6_holder hx hb hts zi_X6_hold hown hC kf22 dX6_hold_33 ?_
      refine lv_iload_n hx hb dX6_hold_36 rfl (lv_at hl 2 rfl) ?_
      refine lv_iload_n hx hb dX6_hold_37 rfl (lv_at hl 3 rfl) ?_
      obtain ⟨h5, hf⟩ := z_gd_s hf
      refine zm_sX6_holder hx hb hC (z_in h5) dX6_hold_38 (fun u6 eu6 H locs hC => ?_)
      have hf := z_nm_s hf eu6
      refine lv_aload_n hx hb dX6_hold_39 rfl (lv_at hl 1 rfl) ?_
      refine zm_gX6_latest hx hb hts zi_X6_hold hown hC kf25 dX6_hold_40 ?_
      refine lv_iload_n hx hb dX6_hold_43 rfl (lv_at hl 2 rfl) ?_
      refine lv_iconst (v := (-1 : Int32)) hx hb dX6_hold_44 (by decide) ?_
      obtain ⟨h7, hf⟩ := z_gd_s hf
      refine zm_sX6_latest hx hb hC (z_in h7) dX6_hold_45 (fun u8 eu8 H locs hC => ?_)
      have hf := z_nm_s hf eu8
      refine lv_iload_n hx hb dX6_hold_46 rfl (lv_at hl 0 rfl) ?_
      exact z_reti hx hb hr hlk hC (Prod.mk.inj (Option.some.inj hf)).1 (Prod.mk.inj (Option.some.inj hf)).2 dX6_hold_47
    · have hf := z_t hf c2
      refine lv_bipush (v := (-2 : Int32)) hx hb dX6_hold_22 (by decide) ?_
      exact z_reti hx hb hr hlk hC (Prod.mk.inj (Option.some.inj hf)).1 (Prod.mk.inj (Option.some.inj hf)).2 dX6_hold_24
abbrev zr_X6_holder : Room := { frames := 2, cells := 0, slots := 0, locals := 46 }
theorem zd_X6_holder : yX6_holder.cls ≠ "java/lang/invoke/MethodHandle" ∧ yX6_holder.cls ≠ "java/lang/invoke/VarHandle" ∧ (parseMethodDescriptor yX6_holder.desc).map (fun d => d.parameters.length) = some 1 := by decide +kernel
theorem zi_X6_holder : ∀ w ∈ wsX60, w ∈ wsX6_holder := fun _ h => List.mem_cons_of_mem _ (List.mem_append_right _ h)
set_option maxHeartbeats 4000000 in
set_option maxRecDepth 100000 in
theorem zc_X6_holder (l : Launch) (D : va_G) (cI cJ : ClassId) (tp : Nat) (q : Nat → Nat) (u : z_St) (a_1 : Int32) {r : Int32} (hf : zf_X6_holder u a_1 = some r) : z_Mi l yX6_holder wsX6_holder zr_X6_holder (zm_W cI cJ q) (zm_G tp) D cI cJ [.ref (q 0), .int a_1] u r u := by
  refine z_ofi (cc := cX6_holder) (maxL := 2) (ret := (some .int)) zm_Gok (by decide) rfl (Nat.le_of_ble_eq_true rfl) ?_
  intro A p e s m args below meth c ls E hr hlk hC hl
  have E : CallFix p m c cX6_holder 2 s args wsX6_holder RX6 := E
  have hx := E.1
  have hb := E.2.1
  have hml := E.2.2.1
  have hown := E.2.2.2.1
  have hts := E.2.2.2.2
  have hl : lv_has ls 2 [(0, .ref (q 0)), (1, .int a_1)] := hl
  unfold zf_X6_holder at hf
  have kf22 := hts (.fieldLink RX6 22 "DawnFairModel" "holder" "[I") (by decide +kernel)
  refine lv_aload_n hx hb dX6_holder_0 rfl (lv_at hl 0 rfl) ?_
  refine lv_iload_n hx hb dX6_holder_1 rfl (lv_at hl 1 rfl) ?_
  refine z_calli hC (z_runV (rest := []) zm_Gok hC E (zc_X6_noThing l D cI cJ tp q u a_1 rfl _) (cwV 1 hts gX6_holder_X6_noThing rfl rfl rfl ⟨rfl, zd_X6_noThing⟩ ⟨Nat.le_of_ble_eq_true rfl, Nat.le_of_ble_eq_true rfl⟩) (zm_rcX6 hC) rfl hl.1 rfl (Nat.le_of_ble_eq_true rfl) dX6_holder_2 ⟨Nat.zero_le _, Nat.zero_le _⟩) (fun H locs hC => ?_)
  refine lv_if_eq (tgt := 13) hx hb dX6_holder_5 (by decide) (fun c1 => ?_) (fun c1 => ?_)
  · have hf := z_t hf c1
    refine lv_aload_n hx hb dX6_holder_13 rfl (lv_at hl 0 rfl) ?_
    refine zm_gX6_holder hx hb hts zi_X6_holder hown hC kf22 dX6_holder_14 ?_
    refine lv_iload_n hx hb dX6_holder_17 rfl (lv_at hl 1 rfl) ?_
    obtain ⟨h2, hf⟩ := z_gd_s hf
    refine zm_aX6_holder hx hb hC (z_in h2) dX6_holder_18 ?_
    exact z_reti hx hb hr hlk hC (Option.some.inj hf) rfl dX6_holder_19
  · have hf := z_f hf c1
    refine lv_bipush (v := (-2 : Int32)) hx hb dX6_holder_8 (by decide) ?_
    refine lv_goto (tgt := 19) hx hb dX6_holder_10 (by decide) ?_
    exact z_reti hx hb hr hlk hC (Option.some.inj hf) rfl dX6_holder_19
abbrev zr_X6_hours : Room := { frames := 1, cells := 0, slots := 0, locals := 25 }
theorem zd_X6_hours : yX6_hours.cls ≠ "java/lang/invoke/MethodHandle" ∧ yX6_hours.cls ≠ "java/lang/invoke/VarHandle" ∧ (parseMethodDescriptor yX6_hours.desc).map (fun d => d.parameters.length) = some 1 := by decide +kernel
theorem zi_X6_hours : ∀ w ∈ wsX60, w ∈ wsX6_hours := fun _ h => List.mem_cons_of_mem _ (List.mem_append_right _ h)
set_option maxHeartbeats 4000000 in
set_option maxRecDepth 100000 in
theorem zc_X6_hours (l : Launch) (D : va_G) (cI cJ : ClassId) (tp : Nat) (q : Nat → Nat) (u : z_St) (a_1 : Int32) {r : Int32} {u2 : z_St} (hf : zf_X6_hours u a_1 = some (r, u2)) : z_Mi l yX6_hours wsX6_hours zr_X6_hours (zm_W cI cJ q) (zm_G tp) D cI cJ [.ref (q 0), .int a_1] u r u2 := by
  refine z_ofi (cc := cX6_hours) (maxL := 2) (ret := (some .int)) zm_Gok (by decide) rfl (Nat.le_of_ble_eq_true rfl) ?_
  intro A p e s m args below meth c ls E hr hlk hC hl
  have E : CallFix p m c cX6_hours 2 s args wsX6_hours RX6 := E
  have hx := E.1
  have hb := E.2.1
  have hml := E.2.2.1
  have hown := E.2.2.2.1
  have hts := E.2.2.2.2
  have hl : lv_has ls 2 [(0, .ref (q 0)), (1, .int a_1)] := hl
  unfold zf_X6_hours at hf
  have kl135 := hts (.constantLong RX6 135 (20)) (by decide +kernel)
  have kf34 := hts (.fieldLink RX6 34 "DawnFairModel" "hour" "I") (by decide +kernel)
  refine lv_iload_n hx hb dX6_hours_0 rfl (lv_at hl 1 rfl) ?_
  refine lv_i2l hx hb dX6_hours_1 rfl ?_
  refine lv_lconst (v := (1 : Int64)) hx hb dX6_hours_2 (by decide) ?_
  refine lv_ldc2 (own := RX6) (v := (20 : Int64)) hx hb hown kl135 dX6_hours_3 ?_
  refine z_calli hC (z_runS (rest := []) zm_Gok hC E (zc_X6_in l D cI cJ tp q u a_1.toInt64 (1 : Int64) (20 : Int64) rfl _) (va_cwS 3 hts gX6_hours_X6_in rfl rfl rfl zd_X6_in ⟨Nat.le_of_ble_eq_true rfl, Nat.le_of_ble_eq_true rfl⟩) rfl hl.1 rfl (Nat.le_of_ble_eq_true rfl) dX6_hours_6 ⟨Nat.zero_le _, Nat.zero_le _⟩) (fun H locs hC => ?_)
  refine lv_if_ne (tgt := 15) hx hb dX6_hours_9 (by decide) (fun c1 => ?_) (fun c1 => ?_)
  · have hf := z_f hf c1
    refine lv_aload_n hx hb dX6_hours_15 rfl (lv_at hl 0 rfl) ?_
    refine lv_dup hx hb dX6_hours_16 rfl ?_
    refine zm_gX6_hour hx hb hts zi_X6_hours hown hC kf34 dX6_hours_17 ?_
    refine lv_iload_n hx hb dX6_hours_20 rfl (lv_at hl 1 rfl) ?_
    refine lv_iadd hx hb dX6_hours_21 ?_
    refine zm_pX6_hour hx hb hts zi_X6_hours hown hC kf34 dX6_hours_22 (fun u2 eu2 H locs hC => ?_)
    have hf := z_nm_s hf eu2
    refine lv_aload_n hx hb dX6_hours_25 rfl (lv_at hl 0 rfl) ?_
    refine zm_gX6_hour hx hb hts zi_X6_hours hown hC kf34 dX6_hours_26 ?_
    exact z_reti hx hb hr hlk hC (Prod.mk.inj (Option.some.inj hf)).1 (Prod.mk.inj (Option.some.inj hf)).2 dX6_hours_29
  · have hf := z_t hf c1
    refine lv_bipush (v := (-2 : Int32)) hx hb dX6_hours_12 (by decide) ?_
    exact z_reti hx hb hr hlk hC (Prod.mk.inj (Option.some.inj hf)).1 (Prod.mk.inj (Option.some.inj hf)).2 dX6_hours_14
abbrev zr_X6_wasSoldNow : Room := { frames := 0, cells := 0, slots := 0, locals := 0 }
theorem zd_X6_wasSoldNow : yX6_wasSoldNow.cls ≠ "java/lang/invoke/MethodHandle" ∧ yX6_wasSoldNow.cls ≠ "java/lang/invoke/VarHandle" ∧ (parseMethodDescriptor yX6_wasSoldNow.desc).map (fun d => d.parameters.length) = some 1 := by decide +kernel
theorem zi_X6_wasSoldNow : ∀ w ∈ wsX60, w ∈ wsX6_wasSoldNow := fun _ h => List.mem_cons_of_mem _ (List.mem_append_right _ h)
set_option maxHeartbeats 4000000 in
set_option maxRecDepth 100000 in
theorem zl_X6_wasSoldNow_4 (E : CallFix p m c cX6_wasSoldNow 4 s args wsX6_wasSoldNow RX6) (a_1 : Int32) (u : z_St) : ∀ (n : Nat) (x_2 : Int32) (x_3 : Int32) (H : Heap) (locs : List Loc) (ls : Array Slot) (o_2 : Int32) (o_3 : Int32), zf_X6_wasSoldNow_4 a_1 u n x_2 x_3 = some (o_2, o_3) → z_C (zm_W cI cJ q) (zm_G tp) D cI cJ A s u H locs → lv_has ls 4 [(0, .ref (q 0)), (1, .int a_1), (2, .int x_2), (3, .int x_3)] → (∀ (H : Heap) (locs : List Loc) (ls : Array Slot), z_C (zm_W cI cJ q) (zm_G tp) D cI cJ A s u H locs → lv_has ls 4 [(0, .ref (q 0)), (1, .int a_1), (2, .int o_2), (3, .int o_3)] → W p l e zr_X6_wasSoldNow s m args below meth c H locs 0 0 Q (F0 m 51 ls [])) → W p l e zr_X6_wasSoldNow s m args below meth c H locs 0 0 Q (F0 m 4 ls []) := by
  have hx := E.1
  have hb := E.2.1
  have hml := E.2.2.1
  have hown := E.2.2.2.1
  have hts := E.2.2.2.2
  intro n
  induction n with
  | zero =>
    intro x_2 x_3 H locs ls o_2 o_3 hf
    rw [zf_X6_wasSoldNow_4.eq_1] at hf
    cases hf
  | succ n ih =>
    intro x_2 x_3 H locs ls o_2 o_3 hf hC hl kk
    rw [zf_X6_wasSoldNow_4.eq_2] at hf
    have kf137 := hts (.fieldLink RX6 137 "DawnFairModel" "sales" "I") (by decide +kernel)
    have kf38 := hts (.fieldLink RX6 38 "DawnFairModel" "saleThing" "[I") (by decide +kernel)
    have kf50 := hts (.fieldLink RX6 50 "DawnFairModel" "soldAt" "[I") (by decide +kernel)
    have kf34 := hts (.fieldLink RX6 34 "DawnFairModel" "hour" "I") (by decide +kernel)
    refine lv_iload_n hx hb dX6_wasSoldNow_4 rfl (lv_at hl 3 rfl) ?_
    refine lv_aload_n hx hb dX6_wasSoldNow_5 rfl (lv_at hl 0 rfl) ?_
    refine zm_gX6_sales hx hb hts zi_X6_wasSoldNow hown hC kf137 dX6_wasSoldNow_6 ?_
    refine lv_icmp_ge (tgt := 51) hx hb dX6_wasSoldNow_9 (by decide) (fun c1 => ?_) (fun c1 => ?_)
    · have hf := z_t hf c1
      cases hf
      exact kk _ _ _ hC (lv_sub hl [0, 1, 2, 3] rfl)
    · have hf := z_f hf c1
      refine lv_iload_n hx hb dX6_wasSoldNow_12 rfl (lv_at hl 2 rfl) ?_
      refine lv_if_ne (tgt := 39) hx hb dX6_wasSoldNow_13 (by decide) (fun c2 => ?_) (fun c2 => ?_)
      · have hf := z_f hf c2
        refine lv_iconst (v := (1 : Int32)) hx hb dX6_wasSoldNow_39 (by decide) ?_
        refine lv_goto (tgt := 44) hx hb dX6_wasSoldNow_40 (by decide) ?_
        refine lv_istore_n (lv' := [(2, _), (0, _), (1, _), (3, _)]) hx hb dX6_wasSoldNow_44 rfl hl (by decide) rfl (fun ls hl => ?_)
        obtain ⟨x3, ex3⟩ : ∃ z : Int32, z = (x_3 + (1 : Int32)) := ⟨_, rfl⟩
        have hf := z_nm_s hf ex3
        refine lv_iinc (v := x3) (lv' := [(3, _), (2, _), (0, _), (1, _)]) hx hb dX6_wasSoldNow_45 hl (k := 3) rfl (by rw [ex3]; rfl) (by decide) rfl (fun ls hl => ?_)
        refine lv_goto (tgt := 4) hx hb dX6_wasSoldNow_48 (by decide) ?_
        exact ih (1 : Int32) x3 _ _ _ _ _ hf hC (lv_sub hl [2, 3, 1, 0] rfl) kk
      · have hf := z_t hf c2
        refine lv_aload_n hx hb dX6_wasSoldNow_16 rfl (lv_at hl 0 rfl) ?_
        refine zm_gX6_saleThing hx hb hts zi_X6_wasSoldNow hown hC kf38 dX6_wasSoldNow_17 ?_
        refine lv_iload_n hx hb dX6_wasSoldNow_20 rfl (lv_at hl 3 rfl) ?_
        obtain ⟨h4, hf⟩ := z_gd_s hf
        refine zm_aX6_saleThing hx hb hC (z_in h4) dX6_wasSoldNow_21 ?_
        refine lv_iload_n hx hb dX6_wasSoldNow_22 rfl (lv_at hl 1 rfl) ?_
        refine lv_icmp_ne (tgt := 43) hx hb dX6_wasSoldNow_23 (by decide) (fun c5 => ?_) (fun c5 => ?_)
        · have hf := z_f hf c5
          refine lv_iconst (v := (0 : Int32)) hx hb dX6_wasSoldNow_43 (by decide) ?_
          refine lv_istore_n (lv' := [(2, _), (0, _), (1, _), (3, _)]) hx hb dX6_wasSoldNow_44 rfl hl (by decide) rfl (fun ls hl => ?_)
          obtain ⟨x6, ex6⟩ : ∃ z : Int32, z = (x_3 + (1 : Int32)) := ⟨_, rfl⟩
          have hf := z_nm_s hf ex6
          refine lv_iinc (v := x6) (lv' := [(3, _), (2, _), (0, _), (1, _)]) hx hb dX6_wasSoldNow_45 hl (k := 3) rfl (by rw [ex6]; rfl) (by decide) rfl (fun ls hl => ?_)
          refine lv_goto (tgt := 4) hx hb dX6_wasSoldNow_48 (by decide) ?_
          exact ih (0 : Int32) x6 _ _ _ _ _ hf hC (lv_sub hl [2, 3, 1, 0] rfl) kk
        · have hf := z_t hf c5
          refine lv_aload_n hx hb dX6_wasSoldNow_26 rfl (lv_at hl 0 rfl) ?_
          refine zm_gX6_soldAt hx hb hts zi_X6_wasSoldNow hown hC kf50 dX6_wasSoldNow_27 ?_
          refine lv_iload_n hx hb dX6_wasSoldNow_30 rfl (lv_at hl 3 rfl) ?_
          obtain ⟨h7, hf⟩ := z_gd_s hf
          refine zm_aX6_soldAt hx hb hC (z_in h7) dX6_wasSoldNow_31 ?_
          refine lv_aload_n hx hb dX6_wasSoldNow_32 rfl (lv_at hl 0 rfl) ?_
          refine zm_gX6_hour hx hb hts zi_X6_wasSoldNow hown hC kf34 dX6_wasSoldNow_33 ?_
          refine lv_icmp_ne (tgt := 43) hx hb dX6_wasSoldNow_36 (by decide) (fun c8 => ?_) (fun c8 => ?_)
          · have hf := z_f hf c8
            refine lv_iconst (v := (0 : Int32)) hx hb dX6_wasSoldNow_43 (by decide) ?_
            refine lv_istore_n (lv' := [(2, _), (0, _), (1, _), (3, _)]) hx hb dX6_wasSoldNow_44 rfl hl (by decide) rfl (fun ls hl => ?_)
            obtain ⟨x9, ex9⟩ : ∃ z : Int32, z = (x_3 + (1 : Int32)) := ⟨_, rfl⟩
            have hf := z_nm_s hf ex9
            refine lv_iinc (v := x9) (lv' := [(3, _), (2, _), (0, _), (1, _)]) hx hb dX6_wasSoldNow_45 hl (k := 3) rfl (by rw [ex9]; rfl) (by decide) rfl (fun ls hl => ?_)
            refine lv_goto (tgt := 4) hx hb dX6_wasSoldNow_48 (by decide) ?_
            exact ih (0 : Int32) x9 _ _ _ _ _ hf hC (lv_sub hl [2, 3, 1, 0] rfl) kk
          · have hf := z_t hf c8
            refine lv_iconst (v := (1 : Int32)) hx hb dX6_wasSoldNow_39 (by decide) ?_
            refine lv_goto (tgt := 44) hx hb dX6_wasSoldNow_40 (by decide) ?_
            refine lv_istore_n (lv' := [(2, _), (0, _), (1, _), (3, _)]) hx hb dX6_wasSoldNow_44 rfl hl (by decide) rfl (fun ls hl => ?_)
            obtain ⟨x10, ex10⟩ : ∃ z : Int32, z = (x_3 + (1 : Int32)) := ⟨_, rfl⟩
            have hf := z_nm_s hf ex10
            refine lv_iinc (v := x10) (lv' := [(3, _), (2, _), (0, _), (1, _)]) hx hb dX6_wasSoldNow_45 hl (k := 3) rfl (by rw [ex10]; rfl) (by decide) rfl (fun ls hl => ?_)
            refine lv_goto (tgt := 4) hx hb dX6_wasSoldNow_48 (by decide) ?_
            exact ih (1 : Int32) x10 _ _ _ _ _ hf hC (lv_sub hl [2, 3, 1, 0] rfl) kk
set_option maxHeartbeats 4000000 in
set_option maxRecDepth 100000 in
theorem zc_X6_wasSoldNow (l : Launch) (D : va_G) (cI cJ : ClassId) (tp : Nat) (q : Nat → Nat) (u : z_St) (a_1 : Int32) {r : Int32} (hf : zf_X6_wasSoldNow u a_1 = some r) : z_Mi l yX6_wasSoldNow wsX6_wasSoldNow zr_X6_wasSoldNow (zm_W cI cJ q) (zm_G tp) D cI cJ [.ref (q 0), .int a_1] u r u := by
  refine z_ofi (cc := cX6_wasSoldNow) (maxL := 4) (ret := (some .boolean)) zm_Gok (by decide) rfl (Nat.le_of_ble_eq_true rfl) ?_
  intro A p e s m args below meth c ls E hr hlk hC hl
  have E : CallFix p m c cX6_wasSoldNow 4 s args wsX6_wasSoldNow RX6 := E
  have hx := E.1
  have hb := E.2.1
  have hml := E.2.2.1
  have hown := E.2.2.2.1
  have hts := E.2.2.2.2
  have hl : lv_has ls 4 [(0, .ref (q 0)), (1, .int a_1)] := hl
  unfold zf_X6_wasSoldNow at hf
  refine lv_iconst (v := (0 : Int32)) hx hb dX6_wasSoldNow_0 (by decide) ?_
  refine lv_istore_n (lv' := [(2, _), (0, _), (1, _)]) hx hb dX6_wasSoldNow_1 rfl hl (by decide) rfl (fun ls hl => ?_)
  refine lv_iconst (v := (0 : Int32)) hx hb dX6_wasSoldNow_2 (by decide) ?_
  refine lv_istore_n (lv' := [(3, _), (2, _), (0, _), (1, _)]) hx hb dX6_wasSoldNow_3 rfl hl (by decide) rfl (fun ls hl => ?_)
  obtain ⟨y1, y2, py1, hf⟩ := z_bd2_s hf
  refine zl_X6_wasSoldNow_4 E a_1 u 5000 (0 : Int32) (0 : Int32) _ _ _ _ _ py1 hC (lv_sub hl [2, 3, 1, 0] rfl) (fun H locs ls hC hl => ?_)
  refine lv_iload_n hx hb dX6_wasSoldNow_51 rfl (lv_at hl 2 rfl) ?_
  exact z_retz hx hb hr hlk hC (zn_X6_wasSoldNow_4_2 py1) (Option.some.inj hf) rfl dX6_wasSoldNow_52
abbrev zr_X6_sell : Room := { frames := 2, cells := 0, slots := 0, locals := 46 }
theorem zd_X6_sell : yX6_sell.cls ≠ "java/lang/invoke/MethodHandle" ∧ yX6_sell.cls ≠ "java/lang/invoke/VarHandle" ∧ (parseMethodDescriptor yX6_sell.desc).map (fun d => d.parameters.length) = some 4 := by decide +kernel
theorem zi_X6_sell : ∀ w ∈ wsX60, w ∈ wsX6_sell := fun _ h => List.mem_cons_of_mem _ (List.mem_append_right _ h)
set_option maxHeartbeats 4000000 in
set_option maxRecDepth 100000 in
theorem zc_X6_sell (l : Launch) (D : va_G) (cI cJ : ClassId) (tp : Nat) (q : Nat → Nat) (u : z_St) (a_1 : Int32) (a_2 : Int32) (a_3 : Int32) (a_4 : Int32) {r : Int32} {u2 : z_St} (hf : zf_X6_sell u a_1 a_2 a_3 a_4 = some (r, u2)) : z_Mi l yX6_sell wsX6_sell zr_X6_sell (zm_W cI cJ q) (zm_G tp) D cI cJ [.ref (q 0), .int a_1, .int a_2, .int a_3, .int a_4] u r u2 := by
  refine z_ofi (cc := cX6_sell) (maxL := 5) (ret := (some .int)) zm_Gok (by decide) rfl (Nat.le_of_ble_eq_true rfl) ?_
  intro A p e s m args below meth c ls E hr hlk hC hl
  have E : CallFix p m c cX6_sell 5 s args wsX6_sell RX6 := E
  have hx := E.1
  have hb := E.2.1
  have hml := E.2.2.1
  have hown := E.2.2.2.1
  have hts := E.2.2.2.2
  have hl : lv_has ls 5 [(0, .ref (q 0)), (1, .int a_1), (2, .int a_2), (3, .int a_3), (4, .int a_4)] := hl
  unfold zf_X6_sell at hf
  have kl143 := hts (.constantLong RX6 143 (100000)) (by decide +kernel)
  have kl145 := hts (.constantLong RX6 145 (2000)) (by decide +kernel)
  have kf22 := hts (.fieldLink RX6 22 "DawnFairModel" "holder" "[I") (by decide +kernel)
  have kf137 := hts (.fieldLink RX6 137 "DawnFairModel" "sales" "I") (by decide +kernel)
  have kf38 := hts (.fieldLink RX6 38 "DawnFairModel" "saleThing" "[I") (by decide +kernel)
  have kf41 := hts (.fieldLink RX6 41 "DawnFairModel" "seller" "[I") (by decide +kernel)
  have kf44 := hts (.fieldLink RX6 44 "DawnFairModel" "buyer" "[I") (by decide +kernel)
  have kf47 := hts (.fieldLink RX6 47 "DawnFairModel" "price" "[I") (by decide +kernel)
  have kf50 := hts (.fieldLink RX6 50 "DawnFairModel" "soldAt" "[I") (by decide +kernel)
  have kf34 := hts (.fieldLink RX6 34 "DawnFairModel" "hour" "I") (by decide +kernel)
  have kf53 := hts (.fieldLink RX6 53 "DawnFairModel" "backBy" "[I") (by decide +kernel)
  have kf56 := hts (.fieldLink RX6 56 "DawnFairModel" "stands" "[I") (by decide +kernel)
  have kf59 := hts (.fieldLink RX6 59 "DawnFairModel" "ahead" "[I") (by decide +kernel)
  have kf25 := hts (.fieldLink RX6 25 "DawnFairModel" "latest" "[I") (by decide +kernel)
  refine lv_aload_n hx hb dX6_sell_0 rfl (lv_at hl 0 rfl) ?_
  refine lv_iload_n hx hb dX6_sell_1 rfl (lv_at hl 1 rfl) ?_
  refine z_calli hC (z_runV (rest := []) zm_Gok hC E (zc_X6_noThing l D cI cJ tp q u a_1 rfl _) (cwV 1 hts gX6_sell_X6_noThing rfl rfl rfl ⟨rfl, zd_X6_noThing⟩ ⟨Nat.le_of_ble_eq_true rfl, Nat.le_of_ble_eq_true rfl⟩) (zm_rcX6 hC) rfl hl.1 rfl (Nat.le_of_ble_eq_true rfl) dX6_sell_2 ⟨Nat.zero_le _, Nat.zero_le _⟩) (fun H locs hC => ?_)
  refine lv_if_ne (tgt := 40) hx hb dX6_sell_5 (by decide) (fun c1 => ?_) (fun c1 => ?_)
  · have hf := z_f hf c1
    refine lv_bipush (v := (-2 : Int32)) hx hb dX6_sell_40 (by decide) ?_
    exact z_reti hx hb hr hlk hC (Prod.mk.inj (Option.some.inj hf)).1 (Prod.mk.inj (Option.some.inj hf)).2 dX6_sell_42
  · have hf := z_t hf c1
    refine lv_iload_n hx hb dX6_sell_8 rfl (lv_at hl 2 rfl) ?_
    refine z_calli hC (z_runS (rest := []) zm_Gok hC E (zc_X6_isDealer l D cI cJ tp q u a_2 rfl _) (va_cwS 1 hts gX6_sell_X6_isDealer rfl rfl rfl zd_X6_isDealer ⟨Nat.le_of_ble_eq_true rfl, Nat.le_of_ble_eq_true rfl⟩) rfl hl.1 rfl (Nat.le_of_ble_eq_true rfl) dX6_sell_9 ⟨Nat.zero_le _, Nat.zero_le _⟩) (fun H locs hC => ?_)
    refine lv_if_eq (tgt := 40) hx hb dX6_sell_12 (by decide) (fun c2 => ?_) (fun c2 => ?_)
    · have hf := z_t hf c2
      refine lv_bipush (v := (-2 : Int32)) hx hb dX6_sell_40 (by decide) ?_
      exact z_reti hx hb hr hlk hC (Prod.mk.inj (Option.some.inj hf)).1 (Prod.mk.inj (Option.some.inj hf)).2 dX6_sell_42
    · have hf := z_f hf c2
      refine lv_iload_n hx hb dX6_sell_15 rfl (lv_at hl 3 rfl) ?_
      refine lv_i2l hx hb dX6_sell_16 rfl ?_
      refine lv_lconst (v := (0 : Int64)) hx hb dX6_sell_17 (by decide) ?_
      refine lv_ldc2 (own := RX6) (v := (100000 : Int64)) hx hb hown kl143 dX6_sell_18 ?_
      refine z_calli hC (z_runS (rest := []) zm_Gok hC E (zc_X6_in l D cI cJ tp q u a_3.toInt64 (0 : Int64) (100000 : Int64) rfl _) (va_cwS 3 hts gX6_sell_X6_in rfl rfl rfl zd_X6_in ⟨Nat.le_of_ble_eq_true rfl, Nat.le_of_ble_eq_true rfl⟩) rfl hl.1 rfl (Nat.le_of_ble_eq_true rfl) dX6_sell_21 ⟨Nat.zero_le _, Nat.zero_le _⟩) (fun H locs hC => ?_)
      refine lv_if_eq (tgt := 40) hx hb dX6_sell_24 (by decide) (fun c3 => ?_) (fun c3 => ?_)
      · have hf := z_t hf c3
        refine lv_bipush (v := (-2 : Int32)) hx hb dX6_sell_40 (by decide) ?_
        exact z_reti hx hb hr hlk hC (Prod.mk.inj (Option.some.inj hf)).1 (Prod.mk.inj (Option.some.inj hf)).2 dX6_sell_42
      · have hf := z_f hf c3
        refine lv_iload hx hb dX6_sell_27 (lv_at hl 4 rfl) ?_
        refine lv_i2l hx hb dX6_sell_29 rfl ?_
        refine lv_lconst (v := (0 : Int64)) hx hb dX6_sell_30 (by decide) ?_
        refine lv_ldc2 (own := RX6) (v := (2000 : Int64)) hx hb hown kl145 dX6_sell_31 ?_
        refine z_calli hC (z_runS (rest := []) zm_Gok hC E (zc_X6_in l D cI cJ tp q u a_4.toInt64 (0 : Int64) (2000 : Int64) rfl _) (va_cwS 3 hts gX6_sell_X6_in rfl rfl rfl zd_X6_in ⟨Nat.le_of_ble_eq_true rfl, Nat.le_of_ble_eq_true rfl⟩) rfl hl.1 rfl (Nat.le_of_ble_eq_true rfl) dX6_sell_34 ⟨Nat.zero_le _, Nat.zero_le _⟩) (fun H locs hC => ?_)
        refine lv_if_ne (tgt := 43) hx hb dX6_sell_37 (by decide) (fun c4 => ?_) (fun c4 => ?_)
        · have hf := z_f hf c4
          refine lv_aload_n hx hb dX6_sell_43 rfl (lv_at hl 0 rfl) ?_
          refine zm_gX6_holder hx hb hts zi_X6_sell hown hC kf22 dX6_sell_44 ?_
          refine lv_iload_n hx hb dX6_sell_47 rfl (lv_at hl 1 rfl) ?_
          obtain ⟨h5, hf⟩ := z_gd_s hf
          refine zm_aX6_holder hx hb hC (z_in h5) dX6_sell_48 ?_
          refine lv_if_lt (tgt := 84) hx hb dX6_sell_49 (by decide) (fun c6 => ?_) (fun c6 => ?_)
          · have hf := z_t hf c6
            refine lv_bipush (v := (-3 : Int32)) hx hb dX6_sell_84 (by decide) ?_
            exact z_reti hx hb hr hlk hC (Prod.mk.inj (Option.some.inj hf)).1 (Prod.mk.inj (Option.some.inj hf)).2 dX6_sell_86
          · have hf := z_f hf c6
            refine lv_aload_n hx hb dX6_sell_52 rfl (lv_at hl 0 rfl) ?_
            refine zm_gX6_holder hx hb hts zi_X6_sell hown hC kf22 dX6_sell_53 ?_
            refine lv_iload_n hx hb dX6_sell_56 rfl (lv_at hl 1 rfl) ?_
            obtain ⟨h7, hf⟩ := z_gd_s hf
            refine zm_aX6_holder hx hb hC (z_in h7) dX6_sell_57 ?_
            refine lv_iload_n hx hb dX6_sell_58 rfl (lv_at hl 2 rfl) ?_
            refine lv_icmp_eq (tgt := 84) hx hb dX6_sell_59 (by decide) (fun c8 => ?_) (fun c8 => ?_)
            · have hf := z_t hf c8
              refine lv_bipush (v := (-3 : Int32)) hx hb dX6_sell_84 (by decide) ?_
              exact z_reti hx hb hr hlk hC (Prod.mk.inj (Option.some.inj hf)).1 (Prod.mk.inj (Option.some.inj hf)).2 dX6_sell_86
            · have hf := z_f hf c8
              refine lv_iload hx hb dX6_sell_62 (lv_at hl 4 rfl) ?_
              refine lv_if_eq (tgt := 76) hx hb dX6_sell_64 (by decide) (fun c9 => ?_) (fun c9 => ?_)
              · have hf := z_t hf c9
                refine lv_aload_n hx hb dX6_sell_76 rfl (lv_at hl 0 rfl) ?_
                refine lv_iload_n hx hb dX6_sell_77 rfl (lv_at hl 1 rfl) ?_
                obtain ⟨r10, pr10, hf⟩ := z_bd_s hf
                refine z_calli hC (z_runV (rest := []) zm_Gok hC E (zc_X6_wasSoldNow l D cI cJ tp q u a_1 pr10 _) (cwV 1 hts gX6_sell_X6_wasSoldNow rfl rfl rfl ⟨rfl, zd_X6_wasSoldNow⟩ ⟨Nat.le_of_ble_eq_true rfl, Nat.le_of_ble_eq_true rfl⟩) (zm_rcX6 hC) rfl hl.1 rfl (Nat.le_of_ble_eq_true rfl) dX6_sell_78 ⟨Nat.zero_le _, Nat.zero_le _⟩) (fun H locs hC => ?_)
                refine lv_if_eq (tgt := 87) hx hb dX6_sell_81 (by decide) (fun c11 => ?_) (fun c11 => ?_)
                · have hf := z_t hf c11
                  refine lv_aload_n hx hb dX6_sell_87 rfl (lv_at hl 0 rfl) ?_
                  refine zm_gX6_sales hx hb hts zi_X6_sell hown hC kf137 dX6_sell_88 ?_
                  refine lv_bipush (v := (80 : Int32)) hx hb dX6_sell_91 (by decide) ?_
                  refine lv_icmp_ne (tgt := 99) hx hb dX6_sell_93 (by decide) (fun c12 => ?_) (fun c12 => ?_)
                  · have hf := z_f hf c12
                    refine lv_aload_n hx hb dX6_sell_99 rfl (lv_at hl 0 rfl) ?_
                    refine zm_gX6_saleThing hx hb hts zi_X6_sell hown hC kf38 dX6_sell_100 ?_
                    refine lv_aload_n hx hb dX6_sell_103 rfl (lv_at hl 0 rfl) ?_
                    refine zm_gX6_sales hx hb hts zi_X6_sell hown hC kf137 dX6_sell_104 ?_
                    refine lv_iload_n hx hb dX6_sell_107 rfl (lv_at hl 1 rfl) ?_
                    obtain ⟨h13, hf⟩ := z_gd_s hf
                    refine zm_sX6_saleThing hx hb hC (z_in h13) dX6_sell_108 (fun u14 eu14 H locs hC => ?_)
                    have hf := z_nm_s hf eu14
                    refine lv_aload_n hx hb dX6_sell_109 rfl (lv_at hl 0 rfl) ?_
                    refine zm_gX6_seller hx hb hts zi_X6_sell hown hC kf41 dX6_sell_110 ?_
                    refine lv_aload_n hx hb dX6_sell_113 rfl (lv_at hl 0 rfl) ?_
                    refine zm_gX6_sales hx hb hts zi_X6_sell hown hC kf137 dX6_sell_114 ?_
                    refine lv_aload_n hx hb dX6_sell_117 rfl (lv_at hl 0 rfl) ?_
                    refine zm_gX6_holder hx hb hts zi_X6_sell hown hC kf22 dX6_sell_118 ?_
                    refine lv_iload_n hx hb dX6_sell_121 rfl (lv_at hl 1 rfl) ?_
                    obtain ⟨h15, hf⟩ := z_gd_s hf
                    refine zm_aX6_holder hx hb hC (z_in h15) dX6_sell_122 ?_
                    obtain ⟨h16, hf⟩ := z_gd_s hf
                    refine zm_sX6_seller hx hb hC (z_in h16) dX6_sell_123 (fun u17 eu17 H locs hC => ?_)
                    have hf := z_nm_s hf eu17
                    refine lv_aload_n hx hb dX6_sell_124 rfl (lv_at hl 0 rfl) ?_
                    refine zm_gX6_buyer hx hb hts zi_X6_sell hown hC kf44 dX6_sell_125 ?_
                    refine lv_aload_n hx hb dX6_sell_128 rfl (lv_at hl 0 rfl) ?_
                    refine zm_gX6_sales hx hb hts zi_X6_sell hown hC kf137 dX6_sell_129 ?_
                    refine lv_iload_n hx hb dX6_sell_132 rfl (lv_at hl 2 rfl) ?_
                    obtain ⟨h18, hf⟩ := z_gd_s hf
                    refine zm_sX6_buyer hx hb hC (z_in h18) dX6_sell_133 (fun u19 eu19 H locs hC => ?_)
                    have hf := z_nm_s hf eu19
                    refine lv_aload_n hx hb dX6_sell_134 rfl (lv_at hl 0 rfl) ?_
                    refine zm_gX6_price hx hb hts zi_X6_sell hown hC kf47 dX6_sell_135 ?_
                    refine lv_aload_n hx hb dX6_sell_138 rfl (lv_at hl 0 rfl) ?_
                    refine zm_gX6_sales hx hb hts zi_X6_sell hown hC kf137 dX6_sell_139 ?_
                    refine lv_iload_n hx hb dX6_sell_142 rfl (lv_at hl 3 rfl) ?_
                    obtain ⟨h20, hf⟩ := z_gd_s hf
                    refine zm_sX6_price hx hb hC (z_in h20) dX6_sell_143 (fun u21 eu21 H locs hC => ?_)
                    have hf := z_nm_s hf eu21
                    refine lv_aload_n hx hb dX6_sell_144 rfl (lv_at hl 0 rfl) ?_
                    refine zm_gX6_soldAt hx hb hts zi_X6_sell hown hC kf50 dX6_sell_145 ?_
                    refine lv_aload_n hx hb dX6_sell_148 rfl (lv_at hl 0 rfl) ?_
                    refine zm_gX6_sales hx hb hts zi_X6_sell hown hC kf137 dX6_sell_149 ?_
                    refine lv_aload_n hx hb dX6_sell_152 rfl (lv_at hl 0 rfl) ?_
                    refine zm_gX6_hour hx hb hts zi_X6_sell hown hC kf34 dX6_sell_153 ?_
                    obtain ⟨h22, hf⟩ := z_gd_s hf
                    refine zm_sX6_soldAt hx hb hC (z_in h22) dX6_sell_156 (fun u23 eu23 H locs hC => ?_)
                    have hf := z_nm_s hf eu23
                    refine lv_aload_n hx hb dX6_sell_157 rfl (lv_at hl 0 rfl) ?_
                    refine zm_gX6_backBy hx hb hts zi_X6_sell hown hC kf53 dX6_sell_158 ?_
                    refine lv_aload_n hx hb dX6_sell_161 rfl (lv_at hl 0 rfl) ?_
                    refine zm_gX6_sales hx hb hts zi_X6_sell hown hC kf137 dX6_sell_162 ?_
                    refine lv_iload hx hb dX6_sell_165 (lv_at hl 4 rfl) ?_
                    obtain ⟨h24, hf⟩ := z_gd_s hf
                    refine zm_sX6_backBy hx hb hC (z_in h24) dX6_sell_167 (fun u25 eu25 H locs hC => ?_)
                    have hf := z_nm_s hf eu25
                    refine lv_aload_n hx hb dX6_sell_168 rfl (lv_at hl 0 rfl) ?_
                    refine zm_gX6_stands hx hb hts zi_X6_sell hown hC kf56 dX6_sell_169 ?_
                    refine lv_aload_n hx hb dX6_sell_172 rfl (lv_at hl 0 rfl) ?_
                    refine zm_gX6_sales hx hb hts zi_X6_sell hown hC kf137 dX6_sell_173 ?_
                    refine lv_iconst (v := (1 : Int32)) hx hb dX6_sell_176 (by decide) ?_
                    obtain ⟨h26, hf⟩ := z_gd_s hf
                    refine zm_sX6_stands hx hb hC (z_in h26) dX6_sell_177 (fun u27 eu27 H locs hC => ?_)
                    have hf := z_nm_s hf eu27
                    refine lv_aload_n hx hb dX6_sell_178 rfl (lv_at hl 0 rfl) ?_
                    refine zm_gX6_ahead hx hb hts zi_X6_sell hown hC kf59 dX6_sell_179 ?_
                    refine lv_aload_n hx hb dX6_sell_182 rfl (lv_at hl 0 rfl) ?_
                    refine zm_gX6_sales hx hb hts zi_X6_sell hown hC kf137 dX6_sell_183 ?_
                    refine lv_aload_n hx hb dX6_sell_186 rfl (lv_at hl 0 rfl) ?_
                    refine zm_gX6_latest hx hb hts zi_X6_sell hown hC kf25 dX6_sell_187 ?_
                    refine lv_iload_n hx hb dX6_sell_190 rfl (lv_at hl 1 rfl) ?_
                    obtain ⟨h28, hf⟩ := z_gd_s hf
                    refine zm_aX6_latest hx hb hC (z_in h28) dX6_sell_191 ?_
                    obtain ⟨h29, hf⟩ := z_gd_s hf
                    refine zm_sX6_ahead hx hb hC (z_in h29) dX6_sell_192 (fun u30 eu30 H locs hC => ?_)
                    have hf := z_nm_s hf eu30
                    refine lv_aload_n hx hb dX6_sell_193 rfl (lv_at hl 0 rfl) ?_
                    refine zm_gX6_latest hx hb hts zi_X6_sell hown hC kf25 dX6_sell_194 ?_
                    refine lv_iload_n hx hb dX6_sell_197 rfl (lv_at hl 1 rfl) ?_
                    refine lv_aload_n hx hb dX6_sell_198 rfl (lv_at hl 0 rfl) ?_
                    refine zm_gX6_sales hx hb hts zi_X6_sell hown hC kf137 dX6_sell_199 ?_
                    obtain ⟨h31, hf⟩ := z_gd_s hf
                    refine zm_sX6_latest hx hb hC (z_in h31) dX6_sell_202 (fun u32 eu32 H locs hC => ?_)
                    have hf := z_nm_s hf eu32
                    refine lv_aload_n hx hb dX6_sell_203 rfl (lv_at hl 0 rfl) ?_
                    refine zm_gX6_holder hx hb hts zi_X6_sell hown hC kf22 dX6_sell_204 ?_
                    refine lv_iload_n hx hb dX6_sell_207 rfl (lv_at hl 1 rfl) ?_
                    refine lv_iload_n hx hb dX6_sell_208 rfl (lv_at hl 2 rfl) ?_
                    obtain ⟨h33, hf⟩ := z_gd_s hf
                    refine zm_sX6_holder hx hb hC (z_in h33) dX6_sell_209 (fun u34 eu34 H locs hC => ?_)
                    have hf := z_nm_s hf eu34
                    refine lv_aload_n hx hb dX6_sell_210 rfl (lv_at hl 0 rfl) ?_
                    refine lv_dup hx hb dX6_sell_211 rfl ?_
                    refine zm_gX6_sales hx hb hts zi_X6_sell hown hC kf137 dX6_sell_212 ?_
                    refine lv_iconst (v := (1 : Int32)) hx hb dX6_sell_215 (by decide) ?_
                    refine lv_iadd hx hb dX6_sell_216 ?_
                    refine zm_pX6_sales hx hb hts zi_X6_sell hown hC kf137 dX6_sell_217 (fun u35 eu35 H locs hC => ?_)
                    have hf := z_nm_s hf eu35
                    refine lv_aload_n hx hb dX6_sell_220 rfl (lv_at hl 0 rfl) ?_
                    refine zm_gX6_sales hx hb hts zi_X6_sell hown hC kf137 dX6_sell_221 ?_
                    refine lv_iconst (v := (1 : Int32)) hx hb dX6_sell_224 (by decide) ?_
                    refine lv_isub hx hb dX6_sell_225 ?_
                    exact z_reti hx hb hr hlk hC (Prod.mk.inj (Option.some.inj hf)).1 (Prod.mk.inj (Option.some.inj hf)).2 dX6_sell_226
                  · have hf := z_t hf c12
                    refine lv_bipush (v := (-4 : Int32)) hx hb dX6_sell_96 (by decide) ?_
                    exact z_reti hx hb hr hlk hC (Prod.mk.inj (Option.some.inj hf)).1 (Prod.mk.inj (Option.some.inj hf)).2 dX6_sell_98
                · have hf := z_f hf c11
                  refine lv_bipush (v := (-3 : Int32)) hx hb dX6_sell_84 (by decide) ?_
                  exact z_reti hx hb hr hlk hC (Prod.mk.inj (Option.some.inj hf)).1 (Prod.mk.inj (Option.some.inj hf)).2 dX6_sell_86
              · have hf := z_f hf c9
                refine lv_iload hx hb dX6_sell_67 (lv_at hl 4 rfl) ?_
                refine lv_aload_n hx hb dX6_sell_69 rfl (lv_at hl 0 rfl) ?_
                refine zm_gX6_hour hx hb hts zi_X6_sell hown hC kf34 dX6_sell_70 ?_
                refine lv_icmp_le (tgt := 84) hx hb dX6_sell_73 (by decide) (fun c36 => ?_) (fun c36 => ?_)
                · have hf := z_t hf c36
                  refine lv_bipush (v := (-3 : Int32)) hx hb dX6_sell_84 (by decide) ?_
                  exact z_reti hx hb hr hlk hC (Prod.mk.inj (Option.some.inj hf)).1 (Prod.mk.inj (Option.some.inj hf)).2 dX6_sell_86
                · have hf := z_f hf c36
                  refine lv_aload_n hx hb dX6_sell_76 rfl (lv_at hl 0 rfl) ?_
                  refine lv_iload_n hx hb dX6_sell_77 rfl (lv_at hl 1 rfl) ?_
                  obtain ⟨r37, pr37, hf⟩ := z_bd_s hf
                  refine z_calli hC (z_runV (rest := []) zm_Gok hC E (zc_X6_wasSoldNow l D cI cJ tp q u a_1 pr37 _) (cwV 1 hts gX6_sell_X6_wasSoldNow rfl rfl rfl ⟨rfl, zd_X6_wasSoldNow⟩ ⟨Nat.le_of_ble_eq_true rfl, Nat.le_of_ble_eq_true rfl⟩) (zm_rcX6 hC) rfl hl.1 rfl (Nat.le_of_ble_eq_true rfl) dX6_sell_78 ⟨Nat.zero_le _, Nat.zero_le _⟩) (fun H locs hC => ?_)
                  refine lv_if_eq (tgt := 87) hx hb dX6_sell_81 (by decide) (fun c38 => ?_) (fun c38 => ?_)
                  · have hf := z_t hf c38
                    refine lv_aload_n hx hb dX6_sell_87 rfl (lv_at hl 0 rfl) ?_
                    refine zm_gX6_sales hx hb hts zi_X6_sell hown hC kf137 dX6_sell_88 ?_
                    refine lv_bipush (v := (80 : Int32)) hx hb dX6_sell_91 (by decide) ?_
                    refine lv_icmp_ne (tgt := 99) hx hb dX6_sell_93 (by decide) (fun c39 => ?_) (fun c39 => ?_)
                    · have hf := z_f hf c39
                      refine lv_aload_n hx hb dX6_sell_99 rfl (lv_at hl 0 rfl) ?_
                      refine zm_gX6_saleThing hx hb hts zi_X6_sell hown hC kf38 dX6_sell_100 ?_
                      refine lv_aload_n hx hb dX6_sell_103 rfl (lv_at hl 0 rfl) ?_
                      refine zm_gX6_sales hx hb hts zi_X6_sell hown hC kf137 dX6_sell_104 ?_
                      refine lv_iload_n hx hb dX6_sell_107 rfl (lv_at hl 1 rfl) ?_
                      obtain ⟨h40, hf⟩ := z_gd_s hf
                      refine zm_sX6_saleThing hx hb hC (z_in h40) dX6_sell_108 (fun u41 eu41 H locs hC => ?_)
                      have hf := z_nm_s hf eu41
                      refine lv_aload_n hx hb dX6_sell_109 rfl (lv_at hl 0 rfl) ?_
                      refine zm_gX6_seller hx hb hts zi_X6_sell hown hC kf41 dX6_sell_110 ?_
                      refine lv_aload_n hx hb dX6_sell_113 rfl (lv_at hl 0 rfl) ?_
                      refine zm_gX6_sales hx hb hts zi_X6_sell hown hC kf137 dX6_sell_114 ?_
                      refine lv_aload_n hx hb dX6_sell_117 rfl (lv_at hl 0 rfl) ?_
                      refine zm_gX6_holder hx hb hts zi_X6_sell hown hC kf22 dX6_sell_118 ?_
                      refine lv_iload_n hx hb dX6_sell_121 rfl (lv_at hl 1 rfl) ?_
                      obtain ⟨h42, hf⟩ := z_gd_s hf
                      refine zm_aX6_holder hx hb hC (z_in h42) dX6_sell_122 ?_
                      obtain ⟨h43, hf⟩ := z_gd_s hf
                      refine zm_sX6_seller hx hb hC (z_in h43) dX6_sell_123 (fun u44 eu44 H locs hC => ?_)
                      have hf := z_nm_s hf eu44
                      refine lv_aload_n hx hb dX6_sell_124 rfl (lv_at hl 0 rfl) ?_
                      refine zm_gX6_buyer hx hb hts zi_X6_sell hown hC kf44 dX6_sell_125 ?_
                      refine lv_aload_n hx hb dX6_sell_128 rfl (lv_at hl 0 rfl) ?_
                      refine zm_gX6_sales hx hb hts zi_X6_sell hown hC kf137 dX6_sell_129 ?_
                      refine lv_iload_n hx hb dX6_sell_132 rfl (lv_at hl 2 rfl) ?_
                      obtain ⟨h45, hf⟩ := z_gd_s hf
                      refine zm_sX6_buyer hx hb hC (z_in h45) dX6_sell_133 (fun u46 eu46 H locs hC => ?_)
                      have hf := z_nm_s hf eu46
                      refine lv_aload_n hx hb dX6_sell_134 rfl (lv_at hl 0 rfl) ?_
                      refine zm_gX6_price hx hb hts zi_X6_sell hown hC kf47 dX6_sell_135 ?_
                      refine lv_aload_n hx hb dX6_sell_138 rfl (lv_at hl 0 rfl) ?_
                      refine zm_gX6_sales hx hb hts zi_X6_sell hown hC kf137 dX6_sell_139 ?_
                      refine lv_iload_n hx hb dX6_sell_142 rfl (lv_at hl 3 rfl) ?_
                      obtain ⟨h47, hf⟩ := z_gd_s hf
                      refine zm_sX6_price hx hb hC (z_in h47) dX6_sell_143 (fun u48 eu48 H locs hC => ?_)
                      have hf := z_nm_s hf eu48
                      refine lv_aload_n hx hb dX6_sell_144 rfl (lv_at hl 0 rfl) ?_
                      refine zm_gX6_soldAt hx hb hts zi_X6_sell hown hC kf50 dX6_sell_145 ?_
                      refine lv_aload_n hx hb dX6_sell_148 rfl (lv_at hl 0 rfl) ?_
                      refine zm_gX6_sales hx hb hts zi_X6_sell hown hC kf137 dX6_sell_149 ?_
                      refine lv_aload_n hx hb dX6_sell_152 rfl (lv_at hl 0 rfl) ?_
                      refine zm_gX6_hour hx hb hts zi_X6_sell hown hC kf34 dX6_sell_153 ?_
                      obtain ⟨h49, hf⟩ := z_gd_s hf
                      refine zm_sX6_soldAt hx hb hC (z_in h49) dX6_sell_156 (fun u50 eu50 H locs hC => ?_)
                      have hf := z_nm_s hf eu50
                      refine lv_aload_n hx hb dX6_sell_157 rfl (lv_at hl 0 rfl) ?_
                      refine zm_gX6_backBy hx hb hts zi_X6_sell hown hC kf53 dX6_sell_158 ?_
                      refine lv_aload_n hx hb dX6_sell_161 rfl (lv_at hl 0 rfl) ?_
                      refine zm_gX6_sales hx hb hts zi_X6_sell hown hC kf137 dX6_sell_162 ?_
                      refine lv_iload hx hb dX6_sell_165 (lv_at hl 4 rfl) ?_
                      obtain ⟨h51, hf⟩ := z_gd_s hf
                      refine zm_sX6_backBy hx hb hC (z_in h51) dX6_sell_167 (fun u52 eu52 H locs hC => ?_)
                      have hf := z_nm_s hf eu52
                      refine lv_aload_n hx hb dX6_sell_168 rfl (lv_at hl 0 rfl) ?_
                      refine zm_gX6_stands hx hb hts zi_X6_sell hown hC kf56 dX6_sell_169 ?_
                      refine lv_aload_n hx hb dX6_sell_172 rfl (lv_at hl 0 rfl) ?_
                      refine zm_gX6_sales hx hb hts zi_X6_sell hown hC kf137 dX6_sell_173 ?_
                      refine lv_iconst (v := (1 : Int32)) hx hb dX6_sell_176 (by decide) ?_
                      obtain ⟨h53, hf⟩ := z_gd_s hf
                      refine zm_sX6_stands hx hb hC (z_in h53) dX6_sell_177 (fun u54 eu54 H locs hC => ?_)
                      have hf := z_nm_s hf eu54
                      refine lv_aload_n hx hb dX6_sell_178 rfl (lv_at hl 0 rfl) ?_
                      refine zm_gX6_ahead hx hb hts zi_X6_sell hown hC kf59 dX6_sell_179 ?_
                      refine lv_aload_n hx hb dX6_sell_182 rfl (lv_at hl 0 rfl) ?_
                      refine zm_gX6_sales hx hb hts zi_X6_sell hown hC kf137 dX6_sell_183 ?_
                      refine lv_aload_n hx hb dX6_sell_186 rfl (lv_at hl 0 rfl) ?_
                      refine zm_gX6_latest hx hb hts zi_X6_sell hown hC kf25 dX6_sell_187 ?_
                      refine lv_iload_n hx hb dX6_sell_190 rfl (lv_at hl 1 rfl) ?_
                      obtain ⟨h55, hf⟩ := z_gd_s hf
                      refine zm_aX6_latest hx hb hC (z_in h55) dX6_sell_191 ?_
                      obtain ⟨h56, hf⟩ := z_gd_s hf
                      refine zm_sX6_ahead hx hb hC (z_in h56) dX6_sell_192 (fun u57 eu57 H locs hC => ?_)
                      have hf := z_nm_s hf eu57
                      refine lv_aload_n hx hb dX6_sell_193 rfl (lv_at hl 0 rfl) ?_
                      refine zm_gX6_latest hx hb hts zi_X6_sell hown hC kf25 dX6_sell_194 ?_
                      refine lv_iload_n hx hb dX6_sell_197 rfl (lv_at hl 1 rfl) ?_
                      refine lv_aload_n hx hb dX6_sell_198 rfl (lv_at hl 0 rfl) ?_
                      refine zm_gX6_sales hx hb hts zi_X6_sell hown hC kf137 dX6_sell_199 ?_
                      obtain ⟨h58, hf⟩ := z_gd_s hf
                      refine zm_sX6_latest hx hb hC (z_in h58) dX6_sell_202 (fun u59 eu59 H locs hC => ?_)
                      have hf := z_nm_s hf eu59
                      refine lv_aload_n hx hb dX6_sell_203 rfl (lv_at hl 0 rfl) ?_
                      refine zm_gX6_holder hx hb hts zi_X6_sell hown hC kf22 dX6_sell_204 ?_
                      refine lv_iload_n hx hb dX6_sell_207 rfl (lv_at hl 1 rfl) ?_
                      refine lv_iload_n hx hb dX6_sell_208 rfl (lv_at hl 2 rfl) ?_
                      obtain ⟨h60, hf⟩ := z_gd_s hf
                      refine zm_sX6_holder hx hb hC (z_in h60) dX6_sell_209 (fun u61 eu61 H locs hC => ?_)
                      have hf := z_nm_s hf eu61
                      refine lv_aload_n hx hb dX6_sell_210 rfl (lv_at hl 0 rfl) ?_
                      refine lv_dup hx hb dX6_sell_211 rfl ?_
                      refine zm_gX6_sales hx hb hts zi_X6_sell hown hC kf137 dX6_sell_212 ?_
                      refine lv_iconst (v := (1 : Int32)) hx hb dX6_sell_215 (by decide) ?_
                      refine lv_iadd hx hb dX6_sell_216 ?_
                      refine zm_pX6_sales hx hb hts zi_X6_sell hown hC kf137 dX6_sell_217 (fun u62 eu62 H locs hC => ?_)
                      have hf := z_nm_s hf eu62
                      refine lv_aload_n hx hb dX6_sell_220 rfl (lv_at hl 0 rfl) ?_
                      refine zm_gX6_sales hx hb hts zi_X6_sell hown hC kf137 dX6_sell_221 ?_
                      refine lv_iconst (v := (1 : Int32)) hx hb dX6_sell_224 (by decide) ?_
                      refine lv_isub hx hb dX6_sell_225 ?_
                      exact z_reti hx hb hr hlk hC (Prod.mk.inj (Option.some.inj hf)).1 (Prod.mk.inj (Option.some.inj hf)).2 dX6_sell_226
                    · have hf := z_t hf c39
                      refine lv_bipush (v := (-4 : Int32)) hx hb dX6_sell_96 (by decide) ?_
                      exact z_reti hx hb hr hlk hC (Prod.mk.inj (Option.some.inj hf)).1 (Prod.mk.inj (Option.some.inj hf)).2 dX6_sell_98
                  · have hf := z_f hf c38
                    refine lv_bipush (v := (-3 : Int32)) hx hb dX6_sell_84 (by decide) ?_
                    exact z_reti hx hb hr hlk hC (Prod.mk.inj (Option.some.inj hf)).1 (Prod.mk.inj (Option.some.inj hf)).2 dX6_sell_86
        · have hf := z_t hf c4
          refine lv_bipush (v := (-2 : Int32)) hx hb dX6_sell_40 (by decide) ?_
          exact z_reti hx hb hr hlk hC (Prod.mk.inj (Option.some.inj hf)).1 (Prod.mk.inj (Option.some.inj hf)).2 dX6_sell_42
abbrev zr_X6_back : Room := { frames := 2, cells := 0, slots := 0, locals := 46 }
theorem zd_X6_back : yX6_back.cls ≠ "java/lang/invoke/MethodHandle" ∧ yX6_back.cls ≠ "java/lang/invoke/VarHandle" ∧ (parseMethodDescriptor yX6_back.desc).map (fun d => d.parameters.length) = some 1 := by decide +kernel
theorem zi_X6_back : ∀ w ∈ wsX60, w ∈ wsX6_back := fun _ h => List.mem_cons_of_mem _ (List.mem_append_right _ h)
set_option maxHeartbeats 4000000 in
set_option maxRecDepth 100000 in
theorem zc_X6_back (l : Launch) (D : va_G) (cI cJ : ClassId) (tp : Nat) (q : Nat → Nat) (u : z_St) (a_1 : Int32) {r : Int32} {u2 : z_St} (hf : zf_X6_back u a_1 = some (r, u2)) : z_Mi l yX6_back wsX6_back zr_X6_back (zm_W cI cJ q) (zm_G tp) D cI cJ [.ref (q 0), .int a_1] u r u2 := by
  refine z_ofi (cc := cX6_back) (maxL := 3) (ret := (some .int)) zm_Gok (by decide) rfl (Nat.le_of_ble_eq_true rfl) ?_
  intro A p e s m args below meth c ls E hr hlk hC hl
  have E : CallFix p m c cX6_back 3 s args wsX6_back RX6 := E
  have hx := E.1
  have hb := E.2.1
  have hml := E.2.2.1
  have hown := E.2.2.2.1
  have hts := E.2.2.2.2
  have hl : lv_has ls 3 [(0, .ref (q 0)), (1, .int a_1)] := hl
  unfold zf_X6_back at hf
  have kf25 := hts (.fieldLink RX6 25 "DawnFairModel" "latest" "[I") (by decide +kernel)
  have kf22 := hts (.fieldLink RX6 22 "DawnFairModel" "holder" "[I") (by decide +kernel)
  have kf44 := hts (.fieldLink RX6 44 "DawnFairModel" "buyer" "[I") (by decide +kernel)
  have kf53 := hts (.fieldLink RX6 53 "DawnFairModel" "backBy" "[I") (by decide +kernel)
  have kf34 := hts (.fieldLink RX6 34 "DawnFairModel" "hour" "I") (by decide +kernel)
  have kf56 := hts (.fieldLink RX6 56 "DawnFairModel" "stands" "[I") (by decide +kernel)
  have kf41 := hts (.fieldLink RX6 41 "DawnFairModel" "seller" "[I") (by decide +kernel)
  have kf59 := hts (.fieldLink RX6 59 "DawnFairModel" "ahead" "[I") (by decide +kernel)
  refine lv_aload_n hx hb dX6_back_0 rfl (lv_at hl 0 rfl) ?_
  refine lv_iload_n hx hb dX6_back_1 rfl (lv_at hl 1 rfl) ?_
  refine z_calli hC (z_runV (rest := []) zm_Gok hC E (zc_X6_noThing l D cI cJ tp q u a_1 rfl _) (cwV 1 hts gX6_back_X6_noThing rfl rfl rfl ⟨rfl, zd_X6_noThing⟩ ⟨Nat.le_of_ble_eq_true rfl, Nat.le_of_ble_eq_true rfl⟩) (zm_rcX6 hC) rfl hl.1 rfl (Nat.le_of_ble_eq_true rfl) dX6_back_2 ⟨Nat.zero_le _, Nat.zero_le _⟩) (fun H locs hC => ?_)
  refine lv_if_eq (tgt := 11) hx hb dX6_back_5 (by decide) (fun c1 => ?_) (fun c1 => ?_)
  · have hf := z_t hf c1
    refine lv_aload_n hx hb dX6_back_11 rfl (lv_at hl 0 rfl) ?_
    refine zm_gX6_latest hx hb hts zi_X6_back hown hC kf25 dX6_back_12 ?_
    refine lv_iload_n hx hb dX6_back_15 rfl (lv_at hl 1 rfl) ?_
    obtain ⟨h2, hf⟩ := z_gd_s hf
    refine zm_aX6_latest hx hb hC (z_in h2) dX6_back_16 ?_
    refine lv_topi (fun x3 ex3 => ?_)
    have hf := z_nm_s hf ex3
    refine lv_istore_n (lv' := [(2, _), (0, _), (1, _)]) hx hb dX6_back_17 rfl hl (by decide) rfl (fun ls hl => ?_)
    refine lv_iload_n hx hb dX6_back_18 rfl (lv_at hl 0 rfl) ?_
    refine lv_if_lt (tgt := 50) hx hb dX6_back_19 (by decide) (fun c4 => ?_) (fun c4 => ?_)
    · have hf := z_t hf c4
      refine lv_bipush (v := (-3 : Int32)) hx hb dX6_back_50 (by decide) ?_
      exact z_reti hx hb hr hlk hC (Prod.mk.inj (Option.some.inj hf)).1 (Prod.mk.inj (Option.some.inj hf)).2 dX6_back_52
    · have hf := z_f hf c4
      refine lv_aload_n hx hb dX6_back_22 rfl (lv_at hl 1 rfl) ?_
      refine zm_gX6_holder hx hb hts zi_X6_back hown hC kf22 dX6_back_23 ?_
      refine lv_iload_n hx hb dX6_back_26 rfl (lv_at hl 2 rfl) ?_
      obtain ⟨h5, hf⟩ := z_gd_s hf
      refine zm_aX6_holder hx hb hC (z_in h5) dX6_back_27 ?_
      refine lv_aload_n hx hb dX6_back_28 rfl (lv_at hl 1 rfl) ?_
      refine zm_gX6_buyer hx hb hts zi_X6_back hown hC kf44 dX6_back_29 ?_
      refine lv_iload_n hx hb dX6_back_32 rfl (lv_at hl 0 rfl) ?_
      obtain ⟨h6, hf⟩ := z_gd_s hf
      refine zm_aX6_buyer hx hb hC (z_in h6) dX6_back_33 ?_
      refine lv_icmp_ne (tgt := 50) hx hb dX6_back_34 (by decide) (fun c7 => ?_) (fun c7 => ?_)
      · have hf := z_f hf c7
        refine lv_bipush (v := (-3 : Int32)) hx hb dX6_back_50 (by decide) ?_
        exact z_reti hx hb hr hlk hC (Prod.mk.inj (Option.some.inj hf)).1 (Prod.mk.inj (Option.some.inj hf)).2 dX6_back_52
      · have hf := z_t hf c7
        refine lv_aload_n hx hb dX6_back_37 rfl (lv_at hl 1 rfl) ?_
        refine zm_gX6_backBy hx hb hts zi_X6_back hown hC kf53 dX6_back_38 ?_
        refine lv_iload_n hx hb dX6_back_41 rfl (lv_at hl 0 rfl) ?_
        obtain ⟨h8, hf⟩ := z_gd_s hf
        refine zm_aX6_backBy hx hb hC (z_in h8) dX6_back_42 ?_
        refine lv_aload_n hx hb dX6_back_43 rfl (lv_at hl 1 rfl) ?_
        refine zm_gX6_hour hx hb hts zi_X6_back hown hC kf34 dX6_back_44 ?_
        refine lv_icmp_gt (tgt := 53) hx hb dX6_back_47 (by decide) (fun c9 => ?_) (fun c9 => ?_)
        · have hf := z_t hf c9
          refine lv_aload_n hx hb dX6_back_53 rfl (lv_at hl 1 rfl) ?_
          refine zm_gX6_stands hx hb hts zi_X6_back hown hC kf56 dX6_back_54 ?_
          refine lv_iload_n hx hb dX6_back_57 rfl (lv_at hl 0 rfl) ?_
          refine lv_iconst (v := (0 : Int32)) hx hb dX6_back_58 (by decide) ?_
          obtain ⟨h10, hf⟩ := z_gd_s hf
          refine zm_sX6_stands hx hb hC (z_in h10) dX6_back_59 (fun u11 eu11 H locs hC => ?_)
          have hf := z_nm_s hf eu11
          refine lv_aload_n hx hb dX6_back_60 rfl (lv_at hl 1 rfl) ?_
          refine zm_gX6_holder hx hb hts zi_X6_back hown hC kf22 dX6_back_61 ?_
          refine lv_iload_n hx hb dX6_back_64 rfl (lv_at hl 2 rfl) ?_
          refine lv_aload_n hx hb dX6_back_65 rfl (lv_at hl 1 rfl) ?_
          refine zm_gX6_seller hx hb hts zi_X6_back hown hC kf41 dX6_back_66 ?_
          refine lv_iload_n hx hb dX6_back_69 rfl (lv_at hl 0 rfl) ?_
          obtain ⟨h12, hf⟩ := z_gd_s hf
          refine zm_aX6_seller hx hb hC (z_in h12) dX6_back_70 ?_
          obtain ⟨h13, hf⟩ := z_gd_s hf
          refine zm_sX6_holder hx hb hC (z_in h13) dX6_back_71 (fun u14 eu14 H locs hC => ?_)
          have hf := z_nm_s hf eu14
          refine lv_aload_n hx hb dX6_back_72 rfl (lv_at hl 1 rfl) ?_
          refine zm_gX6_latest hx hb hts zi_X6_back hown hC kf25 dX6_back_73 ?_
          refine lv_iload_n hx hb dX6_back_76 rfl (lv_at hl 2 rfl) ?_
          refine lv_aload_n hx hb dX6_back_77 rfl (lv_at hl 1 rfl) ?_
          refine zm_gX6_ahead hx hb hts zi_X6_back hown hC kf59 dX6_back_78 ?_
          refine lv_iload_n hx hb dX6_back_81 rfl (lv_at hl 0 rfl) ?_
          obtain ⟨h15, hf⟩ := z_gd_s hf
          refine zm_aX6_ahead hx hb hC (z_in h15) dX6_back_82 ?_
          obtain ⟨h16, hf⟩ := z_gd_s hf
          refine zm_sX6_latest hx hb hC (z_in h16) dX6_back_83 (fun u17 eu17 H locs hC => ?_)
          have hf := z_nm_s hf eu17
          refine lv_aload_n hx hb dX6_back_84 rfl (lv_at hl 1 rfl) ?_
          refine zm_gX6_holder hx hb hts zi_X6_back hown hC kf22 dX6_back_85 ?_
          refine lv_iload_n hx hb dX6_back_88 rfl (lv_at hl 2 rfl) ?_
          obtain ⟨h18, hf⟩ := z_gd_s hf
          refine zm_aX6_holder hx hb hC (z_in h18) dX6_back_89 ?_
          exact z_reti hx hb hr hlk hC (Prod.mk.inj (Option.some.inj hf)).1 (Prod.mk.inj (Option.some.inj hf)).2 dX6_back_90
        · have hf := z_f hf c9
          refine lv_bipush (v := (-3 : Int32)) hx hb dX6_back_50 (by decide) ?_
          exact z_reti hx hb hr hlk hC (Prod.mk.inj (Option.some.inj hf)).1 (Prod.mk.inj (Option.some.inj hf)).2 dX6_back_52
  · have hf := z_f hf c1
    refine lv_bipush (v := (-2 : Int32)) hx hb dX6_back_8 (by decide) ?_
    exact z_reti hx hb hr hlk hC (Prod.mk.inj (Option.some.inj hf)).1 (Prod.mk.inj (Option.some.inj hf)).2 dX6_back_10
end
