section
variable {p : Program} {l : Launch} {e : Env} {R : Room} {s : State} {m : MethodId} {args : Array Value} {below : List Frame} {meth : Method} {c : Code} {H : Heap} {locs : List Loc} {cells slots : Nat} {Q : State → Prop} {cc : ByteArray} {pc : Nat} {ls : Array Slot} {rest : List Value}
variable {D : va_G} {cI cJ : ClassId} {tp : Nat} {q : Nat → Nat} {A : Nat → Prop} {u : z_St} {Ts : List Cond}
abbrev zr_X5_mix : Room := { frames := 0, cells := 0, slots := 0, locals := 0 }
theorem zd_X5_mix : yX5_mix.cls ≠ "java/lang/invoke/MethodHandle" ∧ yX5_mix.cls ≠ "java/lang/invoke/VarHandle" ∧ (parseMethodDescriptor yX5_mix.desc).map (fun d => d.parameters.length) = some 2 := by decide +kernel
set_option maxHeartbeats 4000000 in
set_option maxRecDepth 100000 in
theorem zc_X5_mix (l : Launch) (D : va_G) (cI cJ : ClassId) (tp : Nat) (q : Nat → Nat) (u : z_St) (a_0 : Int64) (a_2 : Int32) {r : Int64} (hf : zf_X5_mix a_0 a_2 = r) : z_Ml l yX5_mix wsX5_mix zr_X5_mix (zx_W cI q) (zx_G tp) D cI cJ [.long a_0, .int a_2] u r u := by
  refine z_ofl (cc := cX5_mix) (maxL := 3) (ret := (some .long)) zx_Gok (by decide) rfl (Nat.le_of_ble_eq_true rfl) ?_
  intro A p e s m args below meth c ls E hr hlk hC hl
  have E : CallFix p m c cX5_mix 3 s args wsX5_mix RX5 := E
  have hx := E.1
  have hb := E.2.1
  have hml := E.2.2.1
  have hown := E.2.2.2.1
  have hts := E.2.2.2.2
  have hl : lv_has ls 3 [(0, .long a_0), (2, .int a_2)] := hl
  unfold zf_X5_mix at hf
  have kl233 := hts (.constantLong RX5 233 (31)) (by decide +kernel)
  refine lv_ldc2 (own := RX5) (v := (31 : Int64)) hx hb hown kl233 dX5_mix_0 ?_
  refine lv_lload_n hx hb dX5_mix_3 rfl (lv_at hl 0 rfl) ?_
  refine lv_lmul hx hb dX5_mix_4 ?_
  refine lv_iload_n hx hb dX5_mix_5 rfl (lv_at hl 1 rfl) ?_
  refine lv_i2l hx hb dX5_mix_6 rfl ?_
  refine lv_ladd hx hb dX5_mix_7 ?_
  exact z_retl hx hb hr hlk hC hf rfl dX5_mix_8
abbrev zr_X5_within : Room := { frames := 0, cells := 0, slots := 0, locals := 0 }
theorem zd_X5_within : yX5_within.cls ≠ "java/lang/invoke/MethodHandle" ∧ yX5_within.cls ≠ "java/lang/invoke/VarHandle" ∧ (parseMethodDescriptor yX5_within.desc).map (fun d => d.parameters.length) = some 3 := by decide +kernel
set_option maxHeartbeats 4000000 in
set_option maxRecDepth 100000 in
theorem zc_X5_within (l : Launch) (D : va_G) (cI cJ : ClassId) (tp : Nat) (q : Nat → Nat) (u : z_St) (a_0 : Int32) (a_1 : Int32) (a_2 : Int32) {r : Int32} (hf : zf_X5_within a_0 a_1 a_2 = r) : z_Mi l yX5_within wsX5_within zr_X5_within (zx_W cI q) (zx_G tp) D cI cJ [.int a_0, .int a_1, .int a_2] u r u := by
  refine z_ofi (cc := cX5_within) (maxL := 3) (ret := (some .boolean)) zx_Gok (by decide) rfl (Nat.le_of_ble_eq_true rfl) ?_
  intro A p e s m args below meth c ls E hr hlk hC hl
  have E : CallFix p m c cX5_within 3 s args wsX5_within RX5 := E
  have hx := E.1
  have hb := E.2.1
  have hml := E.2.2.1
  have hown := E.2.2.2.1
  have hts := E.2.2.2.2
  have hl : lv_has ls 3 [(0, .int a_0), (1, .int a_1), (2, .int a_2)] := hl
  unfold zf_X5_within at hf
  refine lv_iload_n hx hb dX5_within_0 rfl (lv_at hl 1 rfl) ?_
  refine lv_iload_n hx hb dX5_within_1 rfl (lv_at hl 0 rfl) ?_
  refine lv_icmp_gt (tgt := 14) hx hb dX5_within_2 (by decide) (fun c1 => ?_) (fun c1 => ?_)
  · have hf := z_t hf c1
    refine lv_iconst (v := (0 : Int32)) hx hb dX5_within_14 (by decide) ?_
    exact z_retz hx hb hr hlk hC rfl hf rfl dX5_within_15
  · have hf := z_f hf c1
    refine lv_iload_n hx hb dX5_within_5 rfl (lv_at hl 0 rfl) ?_
    refine lv_iload_n hx hb dX5_within_6 rfl (lv_at hl 2 rfl) ?_
    refine lv_icmp_gt (tgt := 14) hx hb dX5_within_7 (by decide) (fun c2 => ?_) (fun c2 => ?_)
    · have hf := z_t hf c2
      refine lv_iconst (v := (0 : Int32)) hx hb dX5_within_14 (by decide) ?_
      exact z_retz hx hb hr hlk hC rfl hf rfl dX5_within_15
    · have hf := z_f hf c2
      refine lv_iconst (v := (1 : Int32)) hx hb dX5_within_10 (by decide) ?_
      refine lv_goto (tgt := 15) hx hb dX5_within_11 (by decide) ?_
      exact z_retz hx hb hr hlk hC rfl hf rfl dX5_within_15
abbrev zr_J6_bitCount_0f7a4 : Room := { frames := 0, cells := 0, slots := 0, locals := 0 }
theorem zd_J6_bitCount_0f7a4 : yJ6_bitCount_0f7a4.cls ≠ "java/lang/invoke/MethodHandle" ∧ yJ6_bitCount_0f7a4.cls ≠ "java/lang/invoke/VarHandle" ∧ (parseMethodDescriptor yJ6_bitCount_0f7a4.desc).map (fun d => d.parameters.length) = some 1 := by decide +kernel
set_option maxHeartbeats 4000000 in
set_option maxRecDepth 100000 in
theorem zc_J6_bitCount_0f7a4 (l : Launch) (D : va_G) (cI cJ : ClassId) (tp : Nat) (q : Nat → Nat) (u : z_St) (a_0 : Int32) {r : Int32} (hf : zf_J6_bitCount_0f7a4 a_0 = r) : z_Mi l yJ6_bitCount_0f7a4 wsJ6_bitCount_0f7a4 zr_J6_bitCount_0f7a4 (zx_W cI q) (zx_G tp) D cI cJ [.int a_0] u r u := by
  refine z_ofi (cc := cJ6_bitCount_0f7a4) (maxL := 1) (ret := (some .int)) zx_Gok (by decide) rfl (Nat.le_of_ble_eq_true rfl) ?_
  intro A p e s m args below meth c ls E hr hlk hC hl
  have E : CallFix p m c cJ6_bitCount_0f7a4 1 s args wsJ6_bitCount_0f7a4 RJ6 := E
  have hx := E.1
  have hb := E.2.1
  have hml := E.2.2.1
  have hown := E.2.2.2.1
  have hts := E.2.2.2.2
  have hl : lv_has ls 1 [(0, .int a_0)] := hl
  unfold zf_J6_bitCount_0f7a4 at hf
  have kc265 := hts (.constant RJ6 265 (1431655765)) (by decide +kernel)
  have kc266 := hts (.constant RJ6 266 (858993459)) (by decide +kernel)
  have kc267 := hts (.constant RJ6 267 (252645135)) (by decide +kernel)
  refine lv_iload_n hx hb dJ6_bitCount_0f7a4_0 rfl (lv_at hl 0 rfl) ?_
  refine lv_iload_n hx hb dJ6_bitCount_0f7a4_1 rfl (lv_at hl 0 rfl) ?_
  refine lv_iconst (v := (1 : Int32)) hx hb dJ6_bitCount_0f7a4_2 (by decide) ?_
  refine lv_iushr hx hb dJ6_bitCount_0f7a4_3 rfl ?_
  refine lv_ldcw (own := RJ6) (v := (1431655765 : Int32)) hx hb hown kc265 dJ6_bitCount_0f7a4_4 ?_
  refine lv_iand hx hb dJ6_bitCount_0f7a4_7 ?_
  refine lv_isub hx hb dJ6_bitCount_0f7a4_8 ?_
  refine lv_topi (fun x1 ex1 => ?_)
  have hf := z_nm_s hf ex1
  refine lv_istore_n (lv' := [(0, _)]) hx hb dJ6_bitCount_0f7a4_9 rfl hl (by decide) rfl (fun ls hl => ?_)
  refine lv_iload_n hx hb dJ6_bitCount_0f7a4_10 rfl (lv_at hl 0 rfl) ?_
  refine lv_ldcw (own := RJ6) (v := (858993459 : Int32)) hx hb hown kc266 dJ6_bitCount_0f7a4_11 ?_
  refine lv_iand hx hb dJ6_bitCount_0f7a4_14 ?_
  refine lv_iload_n hx hb dJ6_bitCount_0f7a4_15 rfl (lv_at hl 0 rfl) ?_
  refine lv_iconst (v := (2 : Int32)) hx hb dJ6_bitCount_0f7a4_16 (by decide) ?_
  refine lv_iushr hx hb dJ6_bitCount_0f7a4_17 rfl ?_
  refine lv_ldcw (own := RJ6) (v := (858993459 : Int32)) hx hb hown kc266 dJ6_bitCount_0f7a4_18 ?_
  refine lv_iand hx hb dJ6_bitCount_0f7a4_21 ?_
  refine lv_iadd hx hb dJ6_bitCount_0f7a4_22 ?_
  refine lv_topi (fun x2 ex2 => ?_)
  have hf := z_nm_s hf ex2
  refine lv_istore_n (lv' := [(0, _)]) hx hb dJ6_bitCount_0f7a4_23 rfl hl (by decide) rfl (fun ls hl => ?_)
  refine lv_iload_n hx hb dJ6_bitCount_0f7a4_24 rfl (lv_at hl 0 rfl) ?_
  refine lv_iload_n hx hb dJ6_bitCount_0f7a4_25 rfl (lv_at hl 0 rfl) ?_
  refine lv_iconst (v := (4 : Int32)) hx hb dJ6_bitCount_0f7a4_26 (by decide) ?_
  refine lv_iushr hx hb dJ6_bitCount_0f7a4_27 rfl ?_
  refine lv_iadd hx hb dJ6_bitCount_0f7a4_28 ?_
  refine lv_ldcw (own := RJ6) (v := (252645135 : Int32)) hx hb hown kc267 dJ6_bitCount_0f7a4_29 ?_
  refine lv_iand hx hb dJ6_bitCount_0f7a4_32 ?_
  refine lv_topi (fun x3 ex3 => ?_)
  have hf := z_nm_s hf ex3
  refine lv_istore_n (lv' := [(0, _)]) hx hb dJ6_bitCount_0f7a4_33 rfl hl (by decide) rfl (fun ls hl => ?_)
  refine lv_iload_n hx hb dJ6_bitCount_0f7a4_34 rfl (lv_at hl 0 rfl) ?_
  refine lv_iload_n hx hb dJ6_bitCount_0f7a4_35 rfl (lv_at hl 0 rfl) ?_
  refine lv_bipush (v := (8 : Int32)) hx hb dJ6_bitCount_0f7a4_36 (by decide) ?_
  refine lv_iushr hx hb dJ6_bitCount_0f7a4_38 rfl ?_
  refine lv_iadd hx hb dJ6_bitCount_0f7a4_39 ?_
  refine lv_topi (fun x4 ex4 => ?_)
  have hf := z_nm_s hf ex4
  refine lv_istore_n (lv' := [(0, _)]) hx hb dJ6_bitCount_0f7a4_40 rfl hl (by decide) rfl (fun ls hl => ?_)
  refine lv_iload_n hx hb dJ6_bitCount_0f7a4_41 rfl (lv_at hl 0 rfl) ?_
  refine lv_iload_n hx hb dJ6_bitCount_0f7a4_42 rfl (lv_at hl 0 rfl) ?_
  refine lv_bipush (v := (16 : Int32)) hx hb dJ6_bitCount_0f7a4_43 (by decide) ?_
  refine lv_iushr hx hb dJ6_bitCount_0f7a4_45 rfl ?_
  refine lv_iadd hx hb dJ6_bitCount_0f7a4_46 ?_
  refine lv_topi (fun x5 ex5 => ?_)
  have hf := z_nm_s hf ex5
  refine lv_istore_n (lv' := [(0, _)]) hx hb dJ6_bitCount_0f7a4_47 rfl hl (by decide) rfl (fun ls hl => ?_)
  refine lv_iload_n hx hb dJ6_bitCount_0f7a4_48 rfl (lv_at hl 0 rfl) ?_
  refine lv_bipush (v := (63 : Int32)) hx hb dJ6_bitCount_0f7a4_49 (by decide) ?_
  refine lv_iand hx hb dJ6_bitCount_0f7a4_51 ?_
  exact z_reti hx hb hr hlk hC hf rfl dJ6_bitCount_0f7a4_52
abbrev zr_X5_isDealer : Room := { frames := 1, cells := 0, slots := 0, locals := 22 }
theorem zd_X5_isDealer : yX5_isDealer.cls ≠ "java/lang/invoke/MethodHandle" ∧ yX5_isDealer.cls ≠ "java/lang/invoke/VarHandle" ∧ (parseMethodDescriptor yX5_isDealer.desc).map (fun d => d.parameters.length) = some 1 := by decide +kernel
set_option maxHeartbeats 4000000 in
set_option maxRecDepth 100000 in
theorem zc_X5_isDealer (l : Launch) (D : va_G) (cI cJ : ClassId) (tp : Nat) (q : Nat → Nat) (u : z_St) (a_0 : Int32) {r : Int32} (hf : zf_X5_isDealer a_0 = r) : z_Mi l yX5_isDealer wsX5_isDealer zr_X5_isDealer (zx_W cI q) (zx_G tp) D cI cJ [.int a_0] u r u := by
  refine z_ofi (cc := cX5_isDealer) (maxL := 1) (ret := (some .boolean)) zx_Gok (by decide) rfl (Nat.le_of_ble_eq_true rfl) ?_
  intro A p e s m args below meth c ls E hr hlk hC hl
  have E : CallFix p m c cX5_isDealer 1 s args wsX5_isDealer RX5 := E
  have hx := E.1
  have hb := E.2.1
  have hml := E.2.2.1
  have hown := E.2.2.2.1
  have hts := E.2.2.2.2
  have hl : lv_has ls 1 [(0, .int a_0)] := hl
  unfold zf_X5_isDealer at hf
  refine lv_iload_n hx hb dX5_isDealer_0 rfl (lv_at hl 0 rfl) ?_
  refine lv_iconst (v := (0 : Int32)) hx hb dX5_isDealer_1 (by decide) ?_
  refine lv_bipush (v := (7 : Int32)) hx hb dX5_isDealer_2 (by decide) ?_
  refine z_calli hC (z_runS (rest := []) zx_Gok hC E (zc_X5_within l D cI cJ tp q u a_0 (0 : Int32) (7 : Int32) rfl _) (va_cwS 3 hts gX5_isDealer_X5_within rfl rfl rfl zd_X5_within ⟨Nat.le_of_ble_eq_true rfl, Nat.le_of_ble_eq_true rfl⟩) rfl hl.1 rfl (Nat.le_of_ble_eq_true rfl) dX5_isDealer_4 ⟨Nat.zero_le _, Nat.zero_le _⟩) (fun H locs hC => ?_)
  exact z_retz hx hb hr hlk hC (zn_X5_within _ _ _) hf rfl dX5_isDealer_7
abbrev zr_X5_mayHaveWon : Room := { frames := 2, cells := 0, slots := 0, locals := 42 }
theorem zd_X5_mayHaveWon : yX5_mayHaveWon.cls ≠ "java/lang/invoke/MethodHandle" ∧ yX5_mayHaveWon.cls ≠ "java/lang/invoke/VarHandle" ∧ (parseMethodDescriptor yX5_mayHaveWon.desc).map (fun d => d.parameters.length) = some 2 := by decide +kernel
set_option maxHeartbeats 4000000 in
set_option maxRecDepth 100000 in
theorem zc_X5_mayHaveWon (l : Launch) (D : va_G) (cI cJ : ClassId) (tp : Nat) (q : Nat → Nat) (u : z_St) (a_0 : Int32) (a_1 : Int32) {r : Int32} (hf : zf_X5_mayHaveWon a_0 a_1 = r) : z_Mi l yX5_mayHaveWon wsX5_mayHaveWon zr_X5_mayHaveWon (zx_W cI q) (zx_G tp) D cI cJ [.int a_0, .int a_1] u r u := by
  refine z_ofi (cc := cX5_mayHaveWon) (maxL := 2) (ret := (some .boolean)) zx_Gok (by decide) rfl (Nat.le_of_ble_eq_true rfl) ?_
  intro A p e s m args below meth c ls E hr hlk hC hl
  have E : CallFix p m c cX5_mayHaveWon 2 s args wsX5_mayHaveWon RX5 := E
  have hx := E.1
  have hb := E.2.1
  have hml := E.2.2.1
  have hown := E.2.2.2.1
  have hts := E.2.2.2.2
  have hl : lv_has ls 2 [(0, .int a_0), (1, .int a_1)] := hl
  unfold zf_X5_mayHaveWon at hf
  refine lv_iload_n hx hb dX5_mayHaveWon_0 rfl (lv_at hl 0 rfl) ?_
  refine lv_if_ne (tgt := 15) hx hb dX5_mayHaveWon_1 (by decide) (fun c1 => ?_) (fun c1 => ?_)
  · have hf := z_f hf c1
    refine lv_iload_n hx hb dX5_mayHaveWon_15 rfl (lv_at hl 1 rfl) ?_
    refine z_calli hC (z_runS (rest := []) zx_Gok hC E (zc_X5_isDealer l D cI cJ tp q u a_1 rfl _) (va_cwS 1 hts gX5_mayHaveWon_X5_isDealer rfl rfl rfl zd_X5_isDealer ⟨Nat.le_of_ble_eq_true rfl, Nat.le_of_ble_eq_true rfl⟩) rfl hl.1 rfl (Nat.le_of_ble_eq_true rfl) dX5_mayHaveWon_16 ⟨Nat.zero_le _, Nat.zero_le _⟩) (fun H locs hC => ?_)
    refine lv_if_eq (tgt := 35) hx hb dX5_mayHaveWon_19 (by decide) (fun c2 => ?_) (fun c2 => ?_)
    · have hf := z_t hf c2
      refine lv_iconst (v := (0 : Int32)) hx hb dX5_mayHaveWon_35 (by decide) ?_
      exact z_retz hx hb hr hlk hC rfl hf rfl dX5_mayHaveWon_36
    · have hf := z_f hf c2
      refine lv_iload_n hx hb dX5_mayHaveWon_22 rfl (lv_at hl 0 rfl) ?_
      refine lv_iload_n hx hb dX5_mayHaveWon_23 rfl (lv_at hl 1 rfl) ?_
      refine lv_ishr hx hb dX5_mayHaveWon_24 ?_
      refine lv_iconst (v := (1 : Int32)) hx hb dX5_mayHaveWon_25 (by decide) ?_
      refine lv_iand hx hb dX5_mayHaveWon_26 ?_
      refine lv_iconst (v := (1 : Int32)) hx hb dX5_mayHaveWon_27 (by decide) ?_
      refine lv_icmp_ne (tgt := 35) hx hb dX5_mayHaveWon_28 (by decide) (fun c3 => ?_) (fun c3 => ?_)
      · have hf := z_f hf c3
        refine lv_iconst (v := (0 : Int32)) hx hb dX5_mayHaveWon_35 (by decide) ?_
        exact z_retz hx hb hr hlk hC rfl hf rfl dX5_mayHaveWon_36
      · have hf := z_t hf c3
        refine lv_iconst (v := (1 : Int32)) hx hb dX5_mayHaveWon_31 (by decide) ?_
        refine lv_goto (tgt := 36) hx hb dX5_mayHaveWon_32 (by decide) ?_
        exact z_retz hx hb hr hlk hC rfl hf rfl dX5_mayHaveWon_36
  · have hf := z_t hf c1
    refine lv_iload_n hx hb dX5_mayHaveWon_4 rfl (lv_at hl 1 rfl) ?_
    refine lv_iconst (v := (-1 : Int32)) hx hb dX5_mayHaveWon_5 (by decide) ?_
    refine lv_icmp_ne (tgt := 13) hx hb dX5_mayHaveWon_6 (by decide) (fun c4 => ?_) (fun c4 => ?_)
    · have hf := z_f hf c4
      refine lv_iconst (v := (0 : Int32)) hx hb dX5_mayHaveWon_13 (by decide) ?_
      exact z_retz hx hb hr hlk hC rfl hf rfl dX5_mayHaveWon_14
    · have hf := z_t hf c4
      refine lv_iconst (v := (1 : Int32)) hx hb dX5_mayHaveWon_9 (by decide) ?_
      refine lv_goto (tgt := 14) hx hb dX5_mayHaveWon_10 (by decide) ?_
      exact z_retz hx hb hr hlk hC rfl hf rfl dX5_mayHaveWon_14
abbrev zr_X5_areTwo : Room := { frames := 2, cells := 0, slots := 0, locals := 42 }
theorem zd_X5_areTwo : yX5_areTwo.cls ≠ "java/lang/invoke/MethodHandle" ∧ yX5_areTwo.cls ≠ "java/lang/invoke/VarHandle" ∧ (parseMethodDescriptor yX5_areTwo.desc).map (fun d => d.parameters.length) = some 2 := by decide +kernel
set_option maxHeartbeats 4000000 in
set_option maxRecDepth 100000 in
theorem zc_X5_areTwo (l : Launch) (D : va_G) (cI cJ : ClassId) (tp : Nat) (q : Nat → Nat) (u : z_St) (a_0 : Int32) (a_1 : Int32) {r : Int32} (hf : zf_X5_areTwo a_0 a_1 = r) : z_Mi l yX5_areTwo wsX5_areTwo zr_X5_areTwo (zx_W cI q) (zx_G tp) D cI cJ [.int a_0, .int a_1] u r u := by
  refine z_ofi (cc := cX5_areTwo) (maxL := 2) (ret := (some .boolean)) zx_Gok (by decide) rfl (Nat.le_of_ble_eq_true rfl) ?_
  intro A p e s m args below meth c ls E hr hlk hC hl
  have E : CallFix p m c cX5_areTwo 2 s args wsX5_areTwo RX5 := E
  have hx := E.1
  have hb := E.2.1
  have hml := E.2.2.1
  have hown := E.2.2.2.1
  have hts := E.2.2.2.2
  have hl : lv_has ls 2 [(0, .int a_0), (1, .int a_1)] := hl
  unfold zf_X5_areTwo at hf
  refine lv_iload_n hx hb dX5_areTwo_0 rfl (lv_at hl 0 rfl) ?_
  refine z_calli hC (z_runS (rest := []) zx_Gok hC E (zc_X5_isDealer l D cI cJ tp q u a_0 rfl _) (va_cwS 1 hts gX5_areTwo_X5_isDealer rfl rfl rfl zd_X5_isDealer ⟨Nat.le_of_ble_eq_true rfl, Nat.le_of_ble_eq_true rfl⟩) rfl hl.1 rfl (Nat.le_of_ble_eq_true rfl) dX5_areTwo_1 ⟨Nat.zero_le _, Nat.zero_le _⟩) (fun H locs hC => ?_)
  refine lv_if_eq (tgt := 23) hx hb dX5_areTwo_4 (by decide) (fun c1 => ?_) (fun c1 => ?_)
  · have hf := z_t hf c1
    refine lv_iconst (v := (0 : Int32)) hx hb dX5_areTwo_23 (by decide) ?_
    exact z_retz hx hb hr hlk hC rfl hf rfl dX5_areTwo_24
  · have hf := z_f hf c1
    refine lv_iload_n hx hb dX5_areTwo_7 rfl (lv_at hl 1 rfl) ?_
    refine z_calli hC (z_runS (rest := []) zx_Gok hC E (zc_X5_isDealer l D cI cJ tp q u a_1 rfl _) (va_cwS 1 hts gX5_areTwo_X5_isDealer rfl rfl rfl zd_X5_isDealer ⟨Nat.le_of_ble_eq_true rfl, Nat.le_of_ble_eq_true rfl⟩) rfl hl.1 rfl (Nat.le_of_ble_eq_true rfl) dX5_areTwo_8 ⟨Nat.zero_le _, Nat.zero_le _⟩) (fun H locs hC => ?_)
    refine lv_if_eq (tgt := 23) hx hb dX5_areTwo_11 (by decide) (fun c2 => ?_) (fun c2 => ?_)
    · have hf := z_t hf c2
      refine lv_iconst (v := (0 : Int32)) hx hb dX5_areTwo_23 (by decide) ?_
      exact z_retz hx hb hr hlk hC rfl hf rfl dX5_areTwo_24
    · have hf := z_f hf c2
      refine lv_iload_n hx hb dX5_areTwo_14 rfl (lv_at hl 0 rfl) ?_
      refine lv_iload_n hx hb dX5_areTwo_15 rfl (lv_at hl 1 rfl) ?_
      refine lv_icmp_eq (tgt := 23) hx hb dX5_areTwo_16 (by decide) (fun c3 => ?_) (fun c3 => ?_)
      · have hf := z_t hf c3
        refine lv_iconst (v := (0 : Int32)) hx hb dX5_areTwo_23 (by decide) ?_
        exact z_retz hx hb hr hlk hC rfl hf rfl dX5_areTwo_24
      · have hf := z_f hf c3
        refine lv_iconst (v := (1 : Int32)) hx hb dX5_areTwo_19 (by decide) ?_
        refine lv_goto (tgt := 24) hx hb dX5_areTwo_20 (by decide) ?_
        exact z_retz hx hb hr hlk hC rfl hf rfl dX5_areTwo_24
end
