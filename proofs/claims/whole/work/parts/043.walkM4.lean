section
variable {p : Program} {l : Launch} {e : Env} {R : Room} {s : State} {m : MethodId} {args : Array Value} {below : List Frame} {meth : Method} {c : Code} {H : Heap} {locs : List Loc} {cells slots : Nat} {Q : State → Prop} {cc : ByteArray} {pc : Nat} {ls : Array Slot} {rest : List Value}
variable {D : va_G} {cI cJ : ClassId} {tp : Nat} {q : Nat → Nat} {A : Nat → Prop} {u : z_St} {Ts : List Cond}
abbrev zr_X6_choose : Room := { frames := 1, cells := 0, slots := 0, locals := 25 }
theorem zd_X6_choose : yX6_choose.cls ≠ "java/lang/invoke/MethodHandle" ∧ yX6_choose.cls ≠ "java/lang/invoke/VarHandle" ∧ (parseMethodDescriptor yX6_choose.desc).map (fun d => d.parameters.length) = some 2 := by decide +kernel
theorem zi_X6_choose : ∀ w ∈ wsX60, w ∈ wsX6_choose := fun _ h => List.mem_cons_of_mem _ (List.mem_append_right _ h)
set_option maxHeartbeats 4000000 in
set_option maxRecDepth 100000 in
theorem zc_X6_choose (l : Launch) (D : va_G) (cI cJ : ClassId) (tp : Nat) (q : Nat → Nat) (u : z_St) (a_1 : Int32) (a_2 : Int32) {r : Int64} (hf : zf_X6_choose u a_1 a_2 = some r) : z_Ml l yX6_choose wsX6_choose zr_X6_choose (zm_W cI cJ q) (zm_G tp) D cI cJ [.ref (q 0), .int a_1, .int a_2] u r u := by
  refine z_ofl (cc := cX6_choose) (maxL := 3) (ret := (some .long)) zm_Gok (by decide) rfl (Nat.le_of_ble_eq_true rfl) ?_
  intro A p e s m args below meth c ls E hr hlk hC hl
  have E : CallFix p m c cX6_choose 3 s args wsX6_choose RX6 := E
  have hx := E.1
  have hb := E.2.1
  have hml := E.2.2.1
  have hown := E.2.2.2.1
  have hts := E.2.2.2.2
  have hl : lv_has ls 3 [(0, .ref (q 0)), (1, .int a_1), (2, .int a_2)] := hl
  unfold zf_X6_choose at hf
  have kf71 := hts (.fieldLink RX6 71 "DawnFairModel" "ways" "[J") (by decide +kernel)
  refine lv_iload_n hx hb dX6_choose_0 rfl (lv_at hl 2 rfl) ?_
  refine lv_i2l hx hb dX6_choose_1 rfl ?_
  refine lv_lconst (v := (0 : Int64)) hx hb dX6_choose_2 (by decide) ?_
  refine lv_iload_n hx hb dX6_choose_3 rfl (lv_at hl 1 rfl) ?_
  refine lv_i2l hx hb dX6_choose_4 rfl ?_
  refine z_calli hC (z_runS (rest := []) zm_Gok hC E (zc_X6_in l D cI cJ tp q u a_2.toInt64 (0 : Int64) a_1.toInt64 rfl _) (va_cwS 3 hts gX6_choose_X6_in rfl rfl rfl zd_X6_in ⟨Nat.le_of_ble_eq_true rfl, Nat.le_of_ble_eq_true rfl⟩) rfl hl.1 rfl (Nat.le_of_ble_eq_true rfl) dX6_choose_5 ⟨Nat.zero_le _, Nat.zero_le _⟩) (fun H locs hC => ?_)
  refine lv_if_eq (tgt := 25) hx hb dX6_choose_8 (by decide) (fun c1 => ?_) (fun c1 => ?_)
  · have hf := z_t hf c1
    refine lv_lconst (v := (0 : Int64)) hx hb dX6_choose_25 (by decide) ?_
    exact z_retl hx hb hr hlk hC (Option.some.inj hf) rfl dX6_choose_26
  · have hf := z_f hf c1
    refine lv_aload_n hx hb dX6_choose_11 rfl (lv_at hl 0 rfl) ?_
    refine zm_gX6_ways hx hb hts zi_X6_choose hown hC kf71 dX6_choose_12 ?_
    refine lv_bipush (v := (41 : Int32)) hx hb dX6_choose_15 (by decide) ?_
    refine lv_iload_n hx hb dX6_choose_17 rfl (lv_at hl 1 rfl) ?_
    refine lv_imul hx hb dX6_choose_18 ?_
    refine lv_iload_n hx hb dX6_choose_19 rfl (lv_at hl 2 rfl) ?_
    refine lv_iadd hx hb dX6_choose_20 ?_
    obtain ⟨h2, hf⟩ := z_gd_s hf
    refine zm_aX6_ways hx hb hC (z_in h2) dX6_choose_21 ?_
    refine lv_goto (tgt := 26) hx hb dX6_choose_22 (by decide) ?_
    exact z_retl hx hb hr hlk hC (Option.some.inj hf) rfl dX6_choose_26
abbrev zr_X6_gcd : Room := { frames := 0, cells := 0, slots := 0, locals := 0 }
theorem zd_X6_gcd : yX6_gcd.cls ≠ "java/lang/invoke/MethodHandle" ∧ yX6_gcd.cls ≠ "java/lang/invoke/VarHandle" ∧ (parseMethodDescriptor yX6_gcd.desc).map (fun d => d.parameters.length) = some 2 := by decide +kernel
set_option maxHeartbeats 4000000 in
set_option maxRecDepth 100000 in
theorem zl_X6_gcd_6 (E : CallFix p m c cX6_gcd 10 s args wsX6_gcd RX6) (u : z_St) : ∀ (n : Nat) (x_4 : Int64) (x_6 : Int64) (H : Heap) (locs : List Loc) (ls : Array Slot) (o_4 : Int64) (o_6 : Int64), zf_X6_gcd_6 n x_4 x_6 = some (o_4, o_6) → z_C (zm_W cI cJ q) (zm_G tp) D cI cJ A s u H locs → lv_has ls 10 [(4, .long x_4), (6, .long x_6)] → (∀ (H : Heap) (locs : List Loc) (ls : Array Slot), z_C (zm_W cI cJ q) (zm_G tp) D cI cJ A s u H locs → lv_has ls 10 [(4, .long o_4), (6, .long o_6)] → W p l e zr_X6_gcd s m args below meth c H locs 0 0 Q (F0 m 31 ls [])) → W p l e zr_X6_gcd s m args below meth c H locs 0 0 Q (F0 m 6 ls []) := by
  have hx := E.1
  have hb := E.2.1
  have hml := E.2.2.1
  have hown := E.2.2.2.1
  have hts := E.2.2.2.2
  intro n
  induction n with
  | zero =>
    intro x_4 x_6 H locs ls o_4 o_6 hf
    rw [zf_X6_gcd_6.eq_1] at hf
    cases hf
  | succ n ih =>
    intro x_4 x_6 H locs ls o_4 o_6 hf hC hl kk
    rw [zf_X6_gcd_6.eq_2] at hf
    refine lv_lload hx hb dX6_gcd_6 (lv_at hl 1 rfl) ?_
    refine lv_lconst (v := (0 : Int64)) hx hb dX6_gcd_8 (by decide) ?_
    refine W.lcmp hx hb dX6_gcd_9 ?_
    refine lv_if_eq (tgt := 31) hx hb dX6_gcd_10 (by decide) (fun c1 => ?_) (fun c1 => ?_)
    · have hf := z_t hf c1
      cases hf
      exact kk _ _ _ hC (lv_sub hl [0, 1] rfl)
    · have hf := z_f hf c1
      refine lv_lload hx hb dX6_gcd_13 (lv_at hl 0 rfl) ?_
      refine lv_lload hx hb dX6_gcd_15 (lv_at hl 1 rfl) ?_
      obtain ⟨h2, hf⟩ := z_gd_s hf
      refine lv_lrem hx hb dX6_gcd_17 (z_nzL_s h2) ?_
      refine lv_topl (fun x3 ex3 => ?_)
      have hf := z_nm_s hf ex3
      refine lv_lstore (lv' := [(8, _), (4, _), (6, _)]) hx hb dX6_gcd_18 hl (by decide) rfl (fun ls hl => ?_)
      refine lv_lload hx hb dX6_gcd_20 (lv_at hl 2 rfl) ?_
      refine lv_lstore (lv' := [(4, _), (8, _), (6, _)]) hx hb dX6_gcd_22 hl (by decide) rfl (fun ls hl => ?_)
      refine lv_lload hx hb dX6_gcd_24 (lv_at hl 1 rfl) ?_
      refine lv_lstore (lv' := [(6, _), (4, _), (8, _)]) hx hb dX6_gcd_26 hl (by decide) rfl (fun ls hl => ?_)
      refine lv_goto (tgt := 6) hx hb dX6_gcd_28 (by decide) ?_
      exact ih x_6 x3 _ _ _ _ _ hf hC (lv_sub hl [1, 0] rfl) kk
set_option maxHeartbeats 4000000 in
set_option maxRecDepth 100000 in
theorem zc_X6_gcd (l : Launch) (D : va_G) (cI cJ : ClassId) (tp : Nat) (q : Nat → Nat) (u : z_St) (a_0 : Int64) (a_2 : Int64) {r : Int64} (hf : zf_X6_gcd a_0 a_2 = some r) : z_Ml l yX6_gcd wsX6_gcd zr_X6_gcd (zm_W cI cJ q) (zm_G tp) D cI cJ [.long a_0, .long a_2] u r u := by
  refine z_ofl (cc := cX6_gcd) (maxL := 10) (ret := (some .long)) zm_Gok (by decide) rfl (Nat.le_of_ble_eq_true rfl) ?_
  intro A p e s m args below meth c ls E hr hlk hC hl
  have E : CallFix p m c cX6_gcd 10 s args wsX6_gcd RX6 := E
  have hx := E.1
  have hb := E.2.1
  have hml := E.2.2.1
  have hown := E.2.2.2.1
  have hts := E.2.2.2.2
  have hl : lv_has ls 10 [(0, .long a_0), (2, .long a_2)] := hl
  unfold zf_X6_gcd at hf
  refine lv_lload_n hx hb dX6_gcd_0 rfl (lv_at hl 0 rfl) ?_
  refine lv_lstore (lv' := [(4, _), (0, _), (2, _)]) hx hb dX6_gcd_1 hl (by decide) rfl (fun ls hl => ?_)
  refine lv_lload_n hx hb dX6_gcd_3 rfl (lv_at hl 2 rfl) ?_
  refine lv_lstore (lv' := [(6, _), (4, _), (0, _), (2, _)]) hx hb dX6_gcd_4 hl (by decide) rfl (fun ls hl => ?_)
  obtain ⟨y1, y2, py1, hf⟩ := z_bd2_s hf
  refine zl_X6_gcd_6 E u 5000 a_0 a_2 _ _ _ _ _ py1 hC (lv_sub hl [1, 0] rfl) (fun H locs ls hC hl => ?_)
  refine lv_lload hx hb dX6_gcd_31 (lv_at hl 0 rfl) ?_
  exact z_retl hx hb hr hlk hC (Option.some.inj hf) rfl dX6_gcd_33
abbrev zr_X6_findChance : Room := { frames := 2, cells := 0, slots := 0, locals := 47 }
theorem zd_X6_findChance : yX6_findChance.cls ≠ "java/lang/invoke/MethodHandle" ∧ yX6_findChance.cls ≠ "java/lang/invoke/VarHandle" ∧ (parseMethodDescriptor yX6_findChance.desc).map (fun d => d.parameters.length) = some 2 := by decide +kernel
theorem zi_X6_findChance : ∀ w ∈ wsX60, w ∈ wsX6_findChance := fun _ h => List.mem_cons_of_mem _ (List.mem_append_right _ h)
set_option maxHeartbeats 4000000 in
set_option maxRecDepth 100000 in
theorem zl_X6_findChance_13 (E : CallFix p m c cX6_findChance 5 s args wsX6_findChance RX6) : ∀ (n : Nat) (x_3 : Int32) (u : z_St) (H : Heap) (locs : List Loc) (ls : Array Slot) (o_3 : Int32) (ou : z_St), zf_X6_findChance_13 n x_3 u = some (o_3, ou) → z_C (zm_W cI cJ q) (zm_G tp) D cI cJ A s u H locs → lv_has ls 5 [(0, .ref (q 0)), (3, .int x_3)] → (∀ (H : Heap) (locs : List Loc) (ls : Array Slot), z_C (zm_W cI cJ q) (zm_G tp) D cI cJ A s ou H locs → lv_has ls 5 [(0, .ref (q 0)), (3, .int o_3)] → W p l e zr_X6_findChance s m args below meth c H locs 0 0 Q (F0 m 65 ls [])) → W p l e zr_X6_findChance s m args below meth c H locs 0 0 Q (F0 m 13 ls []) := by
  have hx := E.1
  have hb := E.2.1
  have hml := E.2.2.1
  have hown := E.2.2.2.1
  have hts := E.2.2.2.2
  intro n
  induction n with
  | zero =>
    intro x_3 u H locs ls o_3 ou hf
    rw [zf_X6_findChance_13.eq_1] at hf
    cases hf
  | succ n ih =>
    intro x_3 u H locs ls o_3 ou hf hC hl kk
    rw [zf_X6_findChance_13.eq_2] at hf
    have kf174 := hts (.fieldLink RX6 174 "DawnFairModel" "bidBoth" "I") (by decide +kernel)
    have kf186 := hts (.fieldLink RX6 186 "DawnFairModel" "upper" "J") (by decide +kernel)
    have kf168 := hts (.fieldLink RX6 168 "DawnFairModel" "bidOne" "I") (by decide +kernel)
    have kf165 := hts (.fieldLink RX6 165 "DawnFairModel" "both" "I") (by decide +kernel)
    have kf171 := hts (.fieldLink RX6 171 "DawnFairModel" "bidOther" "I") (by decide +kernel)
    refine lv_iload_n hx hb dX6_findChance_13 rfl (lv_at hl 1 rfl) ?_
    refine lv_aload_n hx hb dX6_findChance_14 rfl (lv_at hl 0 rfl) ?_
    refine zm_gX6_bidBoth hx hb hts zi_X6_findChance hown hC kf174 dX6_findChance_15 ?_
    refine lv_icmp_gt (tgt := 65) hx hb dX6_findChance_18 (by decide) (fun c1 => ?_) (fun c1 => ?_)
    · have hf := z_t hf c1
      cases hf
      exact kk _ _ _ hC (lv_sub hl [0, 1] rfl)
    · have hf := z_f hf c1
      refine lv_aload_n hx hb dX6_findChance_21 rfl (lv_at hl 0 rfl) ?_
      refine lv_dup hx hb dX6_findChance_22 rfl ?_
      refine zm_gX6_upper hx hb hts zi_X6_findChance hown hC kf186 dX6_findChance_23 ?_
      refine lv_aload_n hx hb dX6_findChance_26 rfl (lv_at hl 0 rfl) ?_
      refine lv_aload_n hx hb dX6_findChance_27 rfl (lv_at hl 0 rfl) ?_
      refine zm_gX6_bidOne hx hb hts zi_X6_findChance hown hC kf168 dX6_findChance_28 ?_
      refine lv_iload_n hx hb dX6_findChance_31 rfl (lv_at hl 1 rfl) ?_
      obtain ⟨r2, pr2, hf⟩ := z_bd_s hf
      refine z_calll hC (z_runV (rest := [_, _]) zm_Gok hC E (zc_X6_choose l D cI cJ tp q u (z_rI u 27 0) x_3 pr2 _) (cwV 2 hts gX6_findChance_X6_choose rfl rfl rfl ⟨rfl, zd_X6_choose⟩ ⟨Nat.le_of_ble_eq_true rfl, Nat.le_of_ble_eq_true rfl⟩) (zm_rcX6 hC) rfl hl.1 rfl (Nat.le_of_ble_eq_true rfl) dX6_findChance_32 ⟨Nat.zero_le _, Nat.zero_le _⟩) (fun H locs hC => ?_)
      refine lv_aload_n hx hb dX6_findChance_35 rfl (lv_at hl 0 rfl) ?_
      refine lv_aload_n hx hb dX6_findChance_36 rfl (lv_at hl 0 rfl) ?_
      refine zm_gX6_both hx hb hts zi_X6_findChance hown hC kf165 dX6_findChance_37 ?_
      refine lv_aload_n hx hb dX6_findChance_40 rfl (lv_at hl 0 rfl) ?_
      refine zm_gX6_bidOne hx hb hts zi_X6_findChance hown hC kf168 dX6_findChance_41 ?_
      refine lv_isub hx hb dX6_findChance_44 ?_
      refine lv_aload_n hx hb dX6_findChance_45 rfl (lv_at hl 0 rfl) ?_
      refine zm_gX6_bidOther hx hb hts zi_X6_findChance hown hC kf171 dX6_findChance_46 ?_
      refine lv_iload_n hx hb dX6_findChance_49 rfl (lv_at hl 1 rfl) ?_
      refine lv_isub hx hb dX6_findChance_50 ?_
      obtain ⟨r3, pr3, hf⟩ := z_bd_s hf
      refine z_calll hC (z_runV (rest := [_, _, _]) zm_Gok hC E (zc_X6_choose l D cI cJ tp q u ((z_rI u 26 0) - (z_rI u 27 0)) ((z_rI u 28 0) - x_3) pr3 _) (cwV 2 hts gX6_findChance_X6_choose rfl rfl rfl ⟨rfl, zd_X6_choose⟩ ⟨Nat.le_of_ble_eq_true rfl, Nat.le_of_ble_eq_true rfl⟩) (zm_rcX6 hC) rfl hl.1 rfl (Nat.le_of_ble_eq_true rfl) dX6_findChance_51 ⟨Nat.zero_le _, Nat.zero_le _⟩) (fun H locs hC => ?_)
      refine lv_lmul hx hb dX6_findChance_54 ?_
      refine lv_ladd hx hb dX6_findChance_55 ?_
      refine zm_pX6_upper hx hb hts zi_X6_findChance hown hC kf186 dX6_findChance_56 (fun u4 eu4 H locs hC => ?_)
      have hf := z_nm_s hf eu4
      obtain ⟨x5, ex5⟩ : ∃ z : Int32, z = (x_3 + (1 : Int32)) := ⟨_, rfl⟩
      have hf := z_nm_s hf ex5
      refine lv_iinc (v := x5) (lv' := [(3, _), (0, _)]) hx hb dX6_findChance_59 hl (k := 1) rfl (by rw [ex5]; rfl) (by decide) rfl (fun ls hl => ?_)
      refine lv_goto (tgt := 13) hx hb dX6_findChance_62 (by decide) ?_
      exact ih x5 u4 _ _ _ _ _ hf hC (lv_sub hl [1, 0] rfl) kk
set_option maxHeartbeats 4000000 in
set_option maxRecDepth 100000 in
theorem zc_X6_findChance (l : Launch) (D : va_G) (cI cJ : ClassId) (tp : Nat) (q : Nat → Nat) (u : z_St) (a_1 : Int32) (a_2 : Int32) {u2 : z_St} (hf : zf_X6_findChance u a_1 a_2 = some u2) : z_Mv l yX6_findChance wsX6_findChance zr_X6_findChance (zm_W cI cJ q) (zm_G tp) D cI cJ [.ref (q 0), .int a_1, .int a_2] u u2 := by
  refine z_ofv (cc := cX6_findChance) (maxL := 5) (ret := none) zm_Gok (by decide) rfl (Nat.le_of_ble_eq_true rfl) ?_
  intro A p e s m args below meth c ls E hr hlk hC hl
  have E : CallFix p m c cX6_findChance 5 s args wsX6_findChance RX6 := E
  have hx := E.1
  have hb := E.2.1
  have hml := E.2.2.1
  have hown := E.2.2.2.1
  have hts := E.2.2.2.2
  have hl : lv_has ls 5 [(0, .ref (q 0)), (1, .int a_1), (2, .int a_2)] := hl
  unfold zf_X6_findChance at hf
  have kf186 := hts (.fieldLink RX6 186 "DawnFairModel" "upper" "J") (by decide +kernel)
  have kf165 := hts (.fieldLink RX6 165 "DawnFairModel" "both" "I") (by decide +kernel)
  have kf171 := hts (.fieldLink RX6 171 "DawnFairModel" "bidOther" "I") (by decide +kernel)
  have kf194 := hts (.fieldLink RX6 194 "DawnFairModel" "lower" "J") (by decide +kernel)
  refine lv_aload_n hx hb dX6_findChance_0 rfl (lv_at hl 0 rfl) ?_
  refine lv_iload_n hx hb dX6_findChance_1 rfl (lv_at hl 1 rfl) ?_
  refine lv_iload_n hx hb dX6_findChance_2 rfl (lv_at hl 2 rfl) ?_
  obtain ⟨u1, pu1, hf⟩ := z_bd_s hf
  refine z_callv hC (z_runV (rest := []) zm_Gok hC E (zc_X6_findBoth l D cI cJ tp q u a_1 a_2 pu1 _) (cwV 2 hts gX6_findChance_X6_findBoth rfl rfl rfl ⟨rfl, zd_X6_findBoth⟩ ⟨Nat.le_of_ble_eq_true rfl, Nat.le_of_ble_eq_true rfl⟩) (zm_rcX6 hC) rfl hl.1 rfl (Nat.le_of_ble_eq_true rfl) dX6_findChance_3 ⟨Nat.zero_le _, Nat.zero_le _⟩) (fun H locs hC => ?_)
  refine lv_aload_n hx hb dX6_findChance_6 rfl (lv_at hl 0 rfl) ?_
  refine lv_lconst (v := (0 : Int64)) hx hb dX6_findChance_7 (by decide) ?_
  refine zm_pX6_upper hx hb hts zi_X6_findChance hown hC kf186 dX6_findChance_8 (fun u2 eu2 H locs hC => ?_)
  have hf := z_nm_s hf eu2
  refine lv_iconst (v := (0 : Int32)) hx hb dX6_findChance_11 (by decide) ?_
  refine lv_istore_n (lv' := [(3, _), (0, _), (1, _), (2, _)]) hx hb dX6_findChance_12 rfl hl (by decide) rfl (fun ls hl => ?_)
  obtain ⟨y3, u4, py3, hf⟩ := z_bd2_s hf
  refine zl_X6_findChance_13 E 5000 (0 : Int32) u2 _ _ _ _ _ py3 hC (lv_sub hl [1, 0] rfl) (fun H locs ls hC hl => ?_)
  refine lv_aload_n hx hb dX6_findChance_65 rfl (lv_at hl 0 rfl) ?_
  refine lv_aload_n hx hb dX6_findChance_66 rfl (lv_at hl 0 rfl) ?_
  refine lv_aload_n hx hb dX6_findChance_67 rfl (lv_at hl 0 rfl) ?_
  refine zm_gX6_both hx hb hts zi_X6_findChance hown hC kf165 dX6_findChance_68 ?_
  refine lv_aload_n hx hb dX6_findChance_71 rfl (lv_at hl 0 rfl) ?_
  refine zm_gX6_bidOther hx hb hts zi_X6_findChance hown hC kf171 dX6_findChance_72 ?_
  obtain ⟨r5, pr5, hf⟩ := z_bd_s hf
  refine z_calll hC (z_runV (rest := [_]) zm_Gok hC E (zc_X6_choose l D cI cJ tp q u4 (z_rI u4 26 0) (z_rI u4 28 0) pr5 _) (cwV 2 hts gX6_findChance_X6_choose rfl rfl rfl ⟨rfl, zd_X6_choose⟩ ⟨Nat.le_of_ble_eq_true rfl, Nat.le_of_ble_eq_true rfl⟩) (zm_rcX6 hC) rfl hl.1 rfl (Nat.le_of_ble_eq_true rfl) dX6_findChance_75 ⟨Nat.zero_le _, Nat.zero_le _⟩) (fun H locs hC => ?_)
  refine zm_pX6_lower hx hb hts zi_X6_findChance hown hC kf194 dX6_findChance_78 (fun u6 eu6 H locs hC => ?_)
  have hf := z_nm_s hf eu6
  refine lv_aload_n hx hb dX6_findChance_81 rfl (lv_at hl 0 rfl) ?_
  refine zm_gX6_upper hx hb hts zi_X6_findChance hown hC kf186 dX6_findChance_82 ?_
  refine lv_aload_n hx hb dX6_findChance_85 rfl (lv_at hl 0 rfl) ?_
  refine zm_gX6_lower hx hb hts zi_X6_findChance hown hC kf194 dX6_findChance_86 ?_
  obtain ⟨r7, pr7, hf⟩ := z_bd_s hf
  refine z_calll hC (z_runS (rest := []) zm_Gok hC E (zc_X6_gcd l D cI cJ tp q u6 (z_rL u6 30 0) (z_rL u6 31 0) pr7 _) (va_cwS 2 hts gX6_findChance_X6_gcd rfl rfl rfl zd_X6_gcd ⟨Nat.le_of_ble_eq_true rfl, Nat.le_of_ble_eq_true rfl⟩) rfl hl.1 rfl (Nat.le_of_ble_eq_true rfl) dX6_findChance_89 ⟨Nat.zero_le _, Nat.zero_le _⟩) (fun H locs hC => ?_)
  refine lv_lstore_n (lv' := [(3, _), (0, _)]) hx hb dX6_findChance_92 rfl hl (by decide) rfl (fun ls hl => ?_)
  refine lv_aload_n hx hb dX6_findChance_93 rfl (lv_at hl 1 rfl) ?_
  refine lv_dup hx hb dX6_findChance_94 rfl ?_
  refine zm_gX6_upper hx hb hts zi_X6_findChance hown hC kf186 dX6_findChance_95 ?_
  refine lv_lload_n hx hb dX6_findChance_98 rfl (lv_at hl 0 rfl) ?_
  obtain ⟨h8, hf⟩ := z_gd_s hf
  refine lv_ldiv hx hb dX6_findChance_99 (z_nzL_s h8) ?_
  refine zm_pX6_upper hx hb hts zi_X6_findChance hown hC kf186 dX6_findChance_100 (fun u9 eu9 H locs hC => ?_)
  have hf := z_nm_s hf eu9
  refine lv_aload_n hx hb dX6_findChance_103 rfl (lv_at hl 1 rfl) ?_
  refine lv_dup hx hb dX6_findChance_104 rfl ?_
  refine zm_gX6_lower hx hb hts zi_X6_findChance hown hC kf194 dX6_findChance_105 ?_
  refine lv_lload_n hx hb dX6_findChance_108 rfl (lv_at hl 0 rfl) ?_
  obtain ⟨h10, hf⟩ := z_gd_s hf
  refine lv_ldiv hx hb dX6_findChance_109 (z_nzL_s h10) ?_
  refine zm_pX6_lower hx hb hts zi_X6_findChance hown hC kf194 dX6_findChance_110 (fun u11 eu11 H locs hC => ?_)
  have hf := z_nm_s hf eu11
  exact z_retv hx hb hr hlk hC (Option.some.inj hf) dX6_findChance_113
abbrev zr_X6_chance : Room := { frames := 3, cells := 0, slots := 0, locals := 71 }
theorem zd_X6_chance : yX6_chance.cls ≠ "java/lang/invoke/MethodHandle" ∧ yX6_chance.cls ≠ "java/lang/invoke/VarHandle" ∧ (parseMethodDescriptor yX6_chance.desc).map (fun d => d.parameters.length) = some 3 := by decide +kernel
theorem zi_X6_chance : ∀ w ∈ wsX60, w ∈ wsX6_chance := fun _ h => List.mem_cons_of_mem _ (List.mem_append_right _ h)
set_option maxHeartbeats 4000000 in
set_option maxRecDepth 100000 in
theorem zc_X6_chance (l : Launch) (D : va_G) (cI cJ : ClassId) (tp : Nat) (q : Nat → Nat) (u : z_St) (a_1 : Int32) (a_2 : Int32) (a_3 : Int32) {r : Int64} {u2 : z_St} (hf : zf_X6_chance u a_1 a_2 a_3 = some (r, u2)) : z_Ml l yX6_chance wsX6_chance zr_X6_chance (zm_W cI cJ q) (zm_G tp) D cI cJ [.ref (q 0), .int a_1, .int a_2, .int a_3] u r u2 := by
  refine z_ofl (cc := cX6_chance) (maxL := 4) (ret := (some .long)) zm_Gok (by decide) rfl (Nat.le_of_ble_eq_true rfl) ?_
  intro A p e s m args below meth c ls E hr hlk hC hl
  have E : CallFix p m c cX6_chance 4 s args wsX6_chance RX6 := E
  have hx := E.1
  have hb := E.2.1
  have hml := E.2.2.1
  have hown := E.2.2.2.1
  have hts := E.2.2.2.2
  have hl : lv_has ls 4 [(0, .ref (q 0)), (1, .int a_1), (2, .int a_2), (3, .int a_3)] := hl
  unfold zf_X6_chance at hf
  have kl201 := hts (.constantLong RX6 201 (-2)) (by decide +kernel)
  have kf194 := hts (.fieldLink RX6 194 "DawnFairModel" "lower" "J") (by decide +kernel)
  have kf186 := hts (.fieldLink RX6 186 "DawnFairModel" "upper" "J") (by decide +kernel)
  refine lv_iload_n hx hb dX6_chance_0 rfl (lv_at hl 1 rfl) ?_
  refine lv_iload_n hx hb dX6_chance_1 rfl (lv_at hl 2 rfl) ?_
  refine z_calli hC (z_runS (rest := []) zm_Gok hC E (zc_X6_isPair l D cI cJ tp q u a_1 a_2 rfl _) (va_cwS 2 hts gX6_chance_X6_isPair rfl rfl rfl zd_X6_isPair ⟨Nat.le_of_ble_eq_true rfl, Nat.le_of_ble_eq_true rfl⟩) rfl hl.1 rfl (Nat.le_of_ble_eq_true rfl) dX6_chance_2 ⟨Nat.zero_le _, Nat.zero_le _⟩) (fun H locs hC => ?_)
  refine lv_if_eq (tgt := 18) hx hb dX6_chance_5 (by decide) (fun c1 => ?_) (fun c1 => ?_)
  · have hf := z_t hf c1
    refine lv_ldc2 (own := RX6) (v := (-2 : Int64)) hx hb hown kl201 dX6_chance_18 ?_
    exact z_retl hx hb hr hlk hC (Prod.mk.inj (Option.some.inj hf)).1 (Prod.mk.inj (Option.some.inj hf)).2 dX6_chance_21
  · have hf := z_f hf c1
    refine lv_iload_n hx hb dX6_chance_8 rfl (lv_at hl 3 rfl) ?_
    refine lv_i2l hx hb dX6_chance_9 rfl ?_
    refine lv_lconst (v := (0 : Int64)) hx hb dX6_chance_10 (by decide) ?_
    refine lv_lconst (v := (1 : Int64)) hx hb dX6_chance_11 (by decide) ?_
    refine z_calli hC (z_runS (rest := []) zm_Gok hC E (zc_X6_in l D cI cJ tp q u a_3.toInt64 (0 : Int64) (1 : Int64) rfl _) (va_cwS 3 hts gX6_chance_X6_in rfl rfl rfl zd_X6_in ⟨Nat.le_of_ble_eq_true rfl, Nat.le_of_ble_eq_true rfl⟩) rfl hl.1 rfl (Nat.le_of_ble_eq_true rfl) dX6_chance_12 ⟨Nat.zero_le _, Nat.zero_le _⟩) (fun H locs hC => ?_)
    refine lv_if_ne (tgt := 22) hx hb dX6_chance_15 (by decide) (fun c2 => ?_) (fun c2 => ?_)
    · have hf := z_f hf c2
      refine lv_aload_n hx hb dX6_chance_22 rfl (lv_at hl 0 rfl) ?_
      refine lv_iload_n hx hb dX6_chance_23 rfl (lv_at hl 1 rfl) ?_
      refine lv_iload_n hx hb dX6_chance_24 rfl (lv_at hl 2 rfl) ?_
      obtain ⟨u3, pu3, hf⟩ := z_bd_s hf
      refine z_callv hC (z_runV (rest := []) zm_Gok hC E (zc_X6_findChance l D cI cJ tp q u a_1 a_2 pu3 _) (cwV 2 hts gX6_chance_X6_findChance rfl rfl rfl ⟨rfl, zd_X6_findChance⟩ ⟨Nat.le_of_ble_eq_true rfl, Nat.le_of_ble_eq_true rfl⟩) (zm_rcX6 hC) rfl hl.1 rfl (Nat.le_of_ble_eq_true rfl) dX6_chance_25 ⟨Nat.zero_le _, Nat.zero_le _⟩) (fun H locs hC => ?_)
      refine lv_iload_n hx hb dX6_chance_28 rfl (lv_at hl 3 rfl) ?_
      refine lv_if_ne (tgt := 39) hx hb dX6_chance_29 (by decide) (fun c4 => ?_) (fun c4 => ?_)
      · have hf := z_f hf c4
        refine lv_aload_n hx hb dX6_chance_39 rfl (lv_at hl 0 rfl) ?_
        refine zm_gX6_lower hx hb hts zi_X6_chance hown hC kf194 dX6_chance_40 ?_
        exact z_retl hx hb hr hlk hC (Prod.mk.inj (Option.some.inj hf)).1 (Prod.mk.inj (Option.some.inj hf)).2 dX6_chance_43
      · have hf := z_t hf c4
        refine lv_aload_n hx hb dX6_chance_32 rfl (lv_at hl 0 rfl) ?_
        refine zm_gX6_upper hx hb hts zi_X6_chance hown hC kf186 dX6_chance_33 ?_
        refine lv_goto (tgt := 43) hx hb dX6_chance_36 (by decide) ?_
        exact z_retl hx hb hr hlk hC (Prod.mk.inj (Option.some.inj hf)).1 (Prod.mk.inj (Option.some.inj hf)).2 dX6_chance_43
    · have hf := z_t hf c2
      refine lv_ldc2 (own := RX6) (v := (-2 : Int64)) hx hb hown kl201 dX6_chance_18 ?_
      exact z_retl hx hb hr hlk hC (Prod.mk.inj (Option.some.inj hf)).1 (Prod.mk.inj (Option.some.inj hf)).2 dX6_chance_21
abbrev zr_X6_isLess : Room := { frames := 0, cells := 0, slots := 0, locals := 0 }
theorem zd_X6_isLess : yX6_isLess.cls ≠ "java/lang/invoke/MethodHandle" ∧ yX6_isLess.cls ≠ "java/lang/invoke/VarHandle" ∧ (parseMethodDescriptor yX6_isLess.desc).map (fun d => d.parameters.length) = some 4 := by decide +kernel
set_option maxHeartbeats 4000000 in
set_option maxRecDepth 100000 in
theorem zl_X6_isLess_14 {r : Int32} (E : CallFix p m c cX6_isLess 22 s args wsX6_isLess RX6) (hr : meth.sig.returnType = some .boolean) (hlk : meth.locks = false) (u : z_St) : ∀ (n : Nat) (x_8 : Int64) (x_10 : Int64) (x_12 : Int64) (x_14 : Int64) (H : Heap) (locs : List Loc) (ls : Array Slot), zf_X6_isLess_14 n x_8 x_10 x_12 x_14 = some r → z_C (zm_W cI cJ q) (zm_G tp) D cI cJ A s u H locs → lv_has ls 22 [(8, .long x_8), (10, .long x_10), (12, .long x_12), (14, .long x_14)] → W p l e zr_X6_isLess s m args below meth c H locs 0 0 (MQ below (va_Qi (fun (x : Int32) (v : z_St) => x = r ∧ v = u) (z_at (zm_W cI cJ q) D A) A) args s 0 0 A) (F0 m 14 ls []) := by
  have hx := E.1
  have hb := E.2.1
  have hml := E.2.2.1
  have hown := E.2.2.2.1
  have hts := E.2.2.2.2
  intro n
  induction n with
  | zero =>
    intro x_8 x_10 x_12 x_14 H locs ls hf
    rw [zf_X6_isLess_14.eq_1] at hf
    cases hf
  | succ n ih =>
    intro x_8 x_10 x_12 x_14 H locs ls hf hC hl
    rw [zf_X6_isLess_14.eq_2] at hf
    refine lv_lload hx hb dX6_isLess_14 (lv_at hl 0 rfl) ?_
    refine lv_lload hx hb dX6_isLess_16 (lv_at hl 1 rfl) ?_
    obtain ⟨h1, hf⟩ := z_gd_s hf
    refine lv_ldiv hx hb dX6_isLess_18 (z_nzL_s h1) ?_
    refine lv_lload hx hb dX6_isLess_19 (lv_at hl 2 rfl) ?_
    refine lv_lload hx hb dX6_isLess_21 (lv_at hl 3 rfl) ?_
    obtain ⟨h2, hf⟩ := z_gd_s hf
    refine lv_ldiv hx hb dX6_isLess_23 (z_nzL_s h2) ?_
    refine W.lcmp hx hb dX6_isLess_24 ?_
    refine lv_if_ne (tgt := 99) hx hb dX6_isLess_25 (by decide) (fun c3 => ?_) (fun c3 => ?_)
    · have hf := z_f hf c3
      refine lv_lload hx hb dX6_isLess_99 (lv_at hl 0 rfl) ?_
      refine lv_lload hx hb dX6_isLess_101 (lv_at hl 1 rfl) ?_
      obtain ⟨h4, hf⟩ := z_gd_s hf
      refine lv_ldiv hx hb dX6_isLess_103 (z_nzL_s h4) ?_
      refine lv_lload hx hb dX6_isLess_104 (lv_at hl 2 rfl) ?_
      refine lv_lload hx hb dX6_isLess_106 (lv_at hl 3 rfl) ?_
      obtain ⟨h5, hf⟩ := z_gd_s hf
      refine lv_ldiv hx hb dX6_isLess_108 (z_nzL_s h5) ?_
      refine W.lcmp hx hb dX6_isLess_109 ?_
      refine lv_if_ge (tgt := 117) hx hb dX6_isLess_110 (by decide) (fun c6 => ?_) (fun c6 => ?_)
      · have hf := z_t hf c6
        refine lv_iconst (v := (0 : Int32)) hx hb dX6_isLess_117 (by decide) ?_
        exact z_retz hx hb hr hlk hC rfl (Option.some.inj hf) rfl dX6_isLess_118
      · have hf := z_f hf c6
        refine lv_iconst (v := (1 : Int32)) hx hb dX6_isLess_113 (by decide) ?_
        refine lv_goto (tgt := 118) hx hb dX6_isLess_114 (by decide) ?_
        exact z_retz hx hb hr hlk hC rfl (Option.some.inj hf) rfl dX6_isLess_118
    · have hf := z_t hf c3
      refine lv_lload hx hb dX6_isLess_28 (lv_at hl 0 rfl) ?_
      refine lv_lload hx hb dX6_isLess_30 (lv_at hl 1 rfl) ?_
      obtain ⟨h7, hf⟩ := z_gd_s hf
      refine lv_lrem hx hb dX6_isLess_32 (z_nzL_s h7) ?_
      refine lv_topl (fun x8 ex8 => ?_)
      have hf := z_nm_s hf ex8
      refine lv_lstore (lv' := [(16, _), (8, _), (10, _), (12, _), (14, _)]) hx hb dX6_isLess_33 hl (by decide) rfl (fun ls hl => ?_)
      refine lv_lload hx hb dX6_isLess_35 (lv_at hl 3 rfl) ?_
      refine lv_lload hx hb dX6_isLess_37 (lv_at hl 4 rfl) ?_
      obtain ⟨h9, hf⟩ := z_gd_s hf
      refine lv_lrem hx hb dX6_isLess_39 (z_nzL_s h9) ?_
      refine lv_topl (fun x10 ex10 => ?_)
      have hf := z_nm_s hf ex10
      refine lv_lstore (lv' := [(18, _), (16, _), (8, _), (10, _), (12, _), (14, _)]) hx hb dX6_isLess_40 hl (by decide) rfl (fun ls hl => ?_)
      refine lv_lload hx hb dX6_isLess_42 (lv_at hl 1 rfl) ?_
      refine lv_lconst (v := (0 : Int64)) hx hb dX6_isLess_44 (by decide) ?_
      refine W.lcmp hx hb dX6_isLess_45 ?_
      refine lv_if_eq (tgt := 56) hx hb dX6_isLess_46 (by decide) (fun c11 => ?_) (fun c11 => ?_)
      · have hf := z_t hf c11
        refine lv_lload hx hb dX6_isLess_56 (lv_at hl 1 rfl) ?_
        refine lv_lconst (v := (0 : Int64)) hx hb dX6_isLess_58 (by decide) ?_
        refine W.lcmp hx hb dX6_isLess_59 ?_
        refine lv_if_ne (tgt := 74) hx hb dX6_isLess_60 (by decide) (fun c12 => ?_) (fun c12 => ?_)
        · have hf := z_f hf c12
          refine lv_iconst (v := (0 : Int32)) hx hb dX6_isLess_74 (by decide) ?_
          exact z_retz hx hb hr hlk hC rfl (Option.some.inj hf) rfl dX6_isLess_75
        · have hf := z_t hf c12
          refine lv_lload hx hb dX6_isLess_63 (lv_at hl 0 rfl) ?_
          refine lv_lconst (v := (0 : Int64)) hx hb dX6_isLess_65 (by decide) ?_
          refine W.lcmp hx hb dX6_isLess_66 ?_
          refine lv_if_le (tgt := 74) hx hb dX6_isLess_67 (by decide) (fun c13 => ?_) (fun c13 => ?_)
          · have hf := z_t hf c13
            refine lv_iconst (v := (0 : Int32)) hx hb dX6_isLess_74 (by decide) ?_
            exact z_retz hx hb hr hlk hC rfl (Option.some.inj hf) rfl dX6_isLess_75
          · have hf := z_f hf c13
            refine lv_iconst (v := (1 : Int32)) hx hb dX6_isLess_70 (by decide) ?_
            refine lv_goto (tgt := 75) hx hb dX6_isLess_71 (by decide) ?_
            exact z_retz hx hb hr hlk hC rfl (Option.some.inj hf) rfl dX6_isLess_75
      · have hf := z_f hf c11
        refine lv_lload hx hb dX6_isLess_49 (lv_at hl 0 rfl) ?_
        refine lv_lconst (v := (0 : Int64)) hx hb dX6_isLess_51 (by decide) ?_
        refine W.lcmp hx hb dX6_isLess_52 ?_
        refine lv_if_ne (tgt := 76) hx hb dX6_isLess_53 (by decide) (fun c14 => ?_) (fun c14 => ?_)
        · have hf := z_f hf c14
          refine lv_lload hx hb dX6_isLess_76 (lv_at hl 5 rfl) ?_
          refine lv_lstore (lv' := [(8, _), (18, _), (16, _), (10, _), (12, _), (14, _)]) hx hb dX6_isLess_78 hl (by decide) rfl (fun ls hl => ?_)
          refine lv_lload hx hb dX6_isLess_80 (lv_at hl 2 rfl) ?_
          refine lv_lstore (lv' := [(14, _), (8, _), (18, _), (16, _), (10, _), (12, _)]) hx hb dX6_isLess_82 hl (by decide) rfl (fun ls hl => ?_)
          refine lv_lload hx hb dX6_isLess_84 (lv_at hl 4 rfl) ?_
          refine lv_lstore (lv' := [(20, _), (14, _), (8, _), (18, _), (16, _), (10, _), (12, _)]) hx hb dX6_isLess_86 hl (by decide) rfl (fun ls hl => ?_)
          refine lv_lload hx hb dX6_isLess_88 (lv_at hl 3 rfl) ?_
          refine lv_lstore (lv' := [(10, _), (20, _), (14, _), (8, _), (18, _), (16, _), (12, _)]) hx hb dX6_isLess_90 hl (by decide) rfl (fun ls hl => ?_)
          refine lv_lload hx hb dX6_isLess_92 (lv_at hl 1 rfl) ?_
          refine lv_lstore (lv' := [(12, _), (10, _), (20, _), (14, _), (8, _), (18, _), (16, _)]) hx hb dX6_isLess_94 hl (by decide) rfl (fun ls hl => ?_)
          refine lv_goto (tgt := 14) hx hb dX6_isLess_96 (by decide) ?_
          exact ih x_14 x10 x_10 x8 _ _ _ hf hC (lv_sub hl [4, 1, 0, 3] rfl)
        · have hf := z_t hf c14
          refine lv_lload hx hb dX6_isLess_56 (lv_at hl 1 rfl) ?_
          refine lv_lconst (v := (0 : Int64)) hx hb dX6_isLess_58 (by decide) ?_
          refine W.lcmp hx hb dX6_isLess_59 ?_
          refine lv_if_ne (tgt := 74) hx hb dX6_isLess_60 (by decide) (fun c15 => ?_) (fun c15 => ?_)
          · have hf := z_f hf c15
            refine lv_iconst (v := (0 : Int32)) hx hb dX6_isLess_74 (by decide) ?_
            exact z_retz hx hb hr hlk hC rfl (Option.some.inj hf) rfl dX6_isLess_75
          · have hf := z_t hf c15
            refine lv_lload hx hb dX6_isLess_63 (lv_at hl 0 rfl) ?_
            refine lv_lconst (v := (0 : Int64)) hx hb dX6_isLess_65 (by decide) ?_
            refine W.lcmp hx hb dX6_isLess_66 ?_
            refine lv_if_le (tgt := 74) hx hb dX6_isLess_67 (by decide) (fun c16 => ?_) (fun c16 => ?_)
            · have hf := z_t hf c16
              refine lv_iconst (v := (0 : Int32)) hx hb dX6_isLess_74 (by decide) ?_
              exact z_retz hx hb hr hlk hC rfl (Option.some.inj hf) rfl dX6_isLess_75
            · have hf := z_f hf c16
              refine lv_iconst (v := (1 : Int32)) hx hb dX6_isLess_70 (by decide) ?_
              refine lv_goto (tgt := 75) hx hb dX6_isLess_71 (by decide) ?_
              exact z_retz hx hb hr hlk hC rfl (Option.some.inj hf) rfl dX6_isLess_75
set_option maxHeartbeats 4000000 in
set_option maxRecDepth 100000 in
theorem zc_X6_isLess (l : Launch) (D : va_G) (cI cJ : ClassId) (tp : Nat) (q : Nat → Nat) (u : z_St) (a_0 : Int64) (a_2 : Int64) (a_4 : Int64) (a_6 : Int64) {r : Int32} (hf : zf_X6_isLess a_0 a_2 a_4 a_6 = some r) : z_Mi l yX6_isLess wsX6_isLess zr_X6_isLess (zm_W cI cJ q) (zm_G tp) D cI cJ [.long a_0, .long a_2, .long a_4, .long a_6] u r u := by
  refine z_ofi (cc := cX6_isLess) (maxL := 22) (ret := (some .boolean)) zm_Gok (by decide) rfl (Nat.le_of_ble_eq_true rfl) ?_
  intro A p e s m args below meth c ls E hr hlk hC hl
  have E : CallFix p m c cX6_isLess 22 s args wsX6_isLess RX6 := E
  have hx := E.1
  have hb := E.2.1
  have hml := E.2.2.1
  have hown := E.2.2.2.1
  have hts := E.2.2.2.2
  have hl : lv_has ls 22 [(0, .long a_0), (2, .long a_2), (4, .long a_4), (6, .long a_6)] := hl
  unfold zf_X6_isLess at hf
  refine lv_lload_n hx hb dX6_isLess_0 rfl (lv_at hl 0 rfl) ?_
  refine lv_lstore (lv' := [(8, _), (0, _), (2, _), (4, _), (6, _)]) hx hb dX6_isLess_1 hl (by decide) rfl (fun ls hl => ?_)
  refine lv_lload_n hx hb dX6_isLess_3 rfl (lv_at hl 2 rfl) ?_
  refine lv_lstore (lv' := [(10, _), (8, _), (0, _), (2, _), (4, _), (6, _)]) hx hb dX6_isLess_4 hl (by decide) rfl (fun ls hl => ?_)
  refine lv_lload hx hb dX6_isLess_6 (lv_at hl 4 rfl) ?_
  refine lv_lstore (lv' := [(12, _), (10, _), (8, _), (0, _), (2, _), (4, _), (6, _)]) hx hb dX6_isLess_8 hl (by decide) rfl (fun ls hl => ?_)
  refine lv_lload hx hb dX6_isLess_10 (lv_at hl 6 rfl) ?_
  refine lv_lstore (lv' := [(14, _), (12, _), (10, _), (8, _), (0, _), (2, _), (4, _), (6, _)]) hx hb dX6_isLess_12 hl (by decide) rfl (fun ls hl => ?_)
  exact zl_X6_isLess_14 E hr hlk u 5000 a_0 a_2 a_4 a_6 _ _ _ hf hC (lv_sub hl [3, 2, 1, 0] rfl)
abbrev zr_X6_shyest : Room := { frames := 3, cells := 0, slots := 0, locals := 71 }
theorem zd_X6_shyest : yX6_shyest.cls ≠ "java/lang/invoke/MethodHandle" ∧ yX6_shyest.cls ≠ "java/lang/invoke/VarHandle" ∧ (parseMethodDescriptor yX6_shyest.desc).map (fun d => d.parameters.length) = some 0 := by decide +kernel
theorem zi_X6_shyest : ∀ w ∈ wsX60, w ∈ wsX6_shyest := fun _ h => List.mem_cons_of_mem _ (List.mem_append_right _ h)
set_option maxHeartbeats 4000000 in
set_option maxRecDepth 100000 in
theorem zl_X6_shyest_23 (E : CallFix p m c cX6_shyest 8 s args wsX6_shyest RX6) (a_6 : Int32) : ∀ (n : Nat) (x_1 : Int32) (x_2 : Int64) (x_4 : Int64) (x_7 : Int32) (u : z_St) (H : Heap) (locs : List Loc) (ls : Array Slot) (o_1 : Int32) (o_2 : Int64) (o_4 : Int64) (o_7 : Int32) (ou : z_St), zf_X6_shyest_23 a_6 n x_1 x_2 x_4 x_7 u = some (o_1, o_2, o_4, o_7, ou) → z_C (zm_W cI cJ q) (zm_G tp) D cI cJ A s u H locs → lv_has ls 8 [(0, .ref (q 0)), (1, .int x_1), (2, .long x_2), (4, .long x_4), (6, .int a_6), (7, .int x_7)] → (∀ (H : Heap) (locs : List Loc) (ls : Array Slot), z_C (zm_W cI cJ q) (zm_G tp) D cI cJ A s ou H locs → lv_has ls 8 [(0, .ref (q 0)), (1, .int o_1), (2, .long o_2), (4, .long o_4), (6, .int a_6), (7, .int o_7)] → W p l e zr_X6_shyest s m args below meth c H locs 0 0 Q (F0 m 85 ls [])) → W p l e zr_X6_shyest s m args below meth c H locs 0 0 Q (F0 m 23 ls []) := by
  have hx := E.1
  have hb := E.2.1
  have hml := E.2.2.1
  have hown := E.2.2.2.1
  have hts := E.2.2.2.2
  intro n
  induction n with
  | zero =>
    intro x_1 x_2 x_4 x_7 u H locs ls o_1 o_2 o_4 o_7 ou hf
    rw [zf_X6_shyest_23.eq_1] at hf
    cases hf
  | succ n ih =>
    intro x_1 x_2 x_4 x_7 u H locs ls o_1 o_2 o_4 o_7 ou hf hC hl kk
    rw [zf_X6_shyest_23.eq_2] at hf
    have kf186 := hts (.fieldLink RX6 186 "DawnFairModel" "upper" "J") (by decide +kernel)
    have kf194 := hts (.fieldLink RX6 194 "DawnFairModel" "lower" "J") (by decide +kernel)
    refine lv_iload hx hb dX6_shyest_23 (lv_at hl 5 rfl) ?_
    refine lv_bipush (v := (8 : Int32)) hx hb dX6_shyest_25 (by decide) ?_
    refine lv_icmp_ge (tgt := 85) hx hb dX6_shyest_27 (by decide) (fun c1 => ?_) (fun c1 => ?_)
    · have hf := z_t hf c1
      cases hf
      exact kk _ _ _ hC (lv_sub hl [0, 1, 2, 3, 4, 5] rfl)
    · have hf := z_f hf c1
      refine lv_aload_n hx hb dX6_shyest_30 rfl (lv_at hl 0 rfl) ?_
      refine lv_iload hx hb dX6_shyest_31 (lv_at hl 4 rfl) ?_
      refine lv_iload hx hb dX6_shyest_33 (lv_at hl 5 rfl) ?_
      obtain ⟨u2, pu2, hf⟩ := z_bd_s hf
      refine z_callv hC (z_runV (rest := []) zm_Gok hC E (zc_X6_findChance l D cI cJ tp q u a_6 x_7 pu2 _) (cwV 2 hts gX6_shyest_X6_findChance rfl rfl rfl ⟨rfl, zd_X6_findChance⟩ ⟨Nat.le_of_ble_eq_true rfl, Nat.le_of_ble_eq_true rfl⟩) (zm_rcX6 hC) rfl hl.1 rfl (Nat.le_of_ble_eq_true rfl) dX6_shyest_35 ⟨Nat.zero_le _, Nat.zero_le _⟩) (fun H locs hC => ?_)
      refine lv_iload_n hx hb dX6_shyest_38 rfl (lv_at hl 1 rfl) ?_
      refine lv_if_lt (tgt := 59) hx hb dX6_shyest_39 (by decide) (fun c3 => ?_) (fun c3 => ?_)
      · have hf := z_t hf c3
        refine lv_bipush (v := (8 : Int32)) hx hb dX6_shyest_59 (by decide) ?_
        refine lv_iload hx hb dX6_shyest_61 (lv_at hl 4 rfl) ?_
        refine lv_imul hx hb dX6_shyest_63 ?_
        refine lv_iload hx hb dX6_shyest_64 (lv_at hl 5 rfl) ?_
        refine lv_iadd hx hb dX6_shyest_66 ?_
        refine lv_topi (fun x4 ex4 => ?_)
        have hf := z_nm_s hf ex4
        refine lv_istore_n (lv' := [(1, _), (0, _), (2, _), (4, _), (6, _), (7, _)]) hx hb dX6_shyest_67 rfl hl (by decide) rfl (fun ls hl => ?_)
        refine lv_aload_n hx hb dX6_shyest_68 rfl (lv_at hl 1 rfl) ?_
        refine zm_gX6_upper hx hb hts zi_X6_shyest hown hC kf186 dX6_shyest_69 ?_
        refine lv_topl (fun x5 ex5 => ?_)
        have hf := z_nm_s hf ex5
        refine lv_lstore_n (lv' := [(2, _), (1, _), (0, _), (4, _), (6, _), (7, _)]) hx hb dX6_shyest_72 rfl hl (by decide) rfl (fun ls hl => ?_)
        refine lv_aload_n hx hb dX6_shyest_73 rfl (lv_at hl 2 rfl) ?_
        refine zm_gX6_lower hx hb hts zi_X6_shyest hown hC kf194 dX6_shyest_74 ?_
        refine lv_topl (fun x6 ex6 => ?_)
        have hf := z_nm_s hf ex6
        refine lv_lstore (lv' := [(4, _), (2, _), (1, _), (0, _), (6, _), (7, _)]) hx hb dX6_shyest_77 hl (by decide) rfl (fun ls hl => ?_)
        obtain ⟨x7, ex7⟩ : ∃ z : Int32, z = (x_7 + (1 : Int32)) := ⟨_, rfl⟩
        have hf := z_nm_s hf ex7
        refine lv_iinc (v := x7) (lv' := [(7, _), (4, _), (2, _), (1, _), (0, _), (6, _)]) hx hb dX6_shyest_79 hl (k := 5) rfl (by rw [ex7]; rfl) (by decide) rfl (fun ls hl => ?_)
        refine lv_goto (tgt := 23) hx hb dX6_shyest_82 (by decide) ?_
        exact ih x4 x5 x6 x7 u2 _ _ _ _ _ _ _ _ hf hC (lv_sub hl [4, 3, 2, 1, 5, 0] rfl) kk
      · have hf := z_f hf c3
        refine lv_aload_n hx hb dX6_shyest_42 rfl (lv_at hl 0 rfl) ?_
        refine zm_gX6_upper hx hb hts zi_X6_shyest hown hC kf186 dX6_shyest_43 ?_
        refine lv_aload_n hx hb dX6_shyest_46 rfl (lv_at hl 0 rfl) ?_
        refine zm_gX6_lower hx hb hts zi_X6_shyest hown hC kf194 dX6_shyest_47 ?_
        refine lv_lload_n hx hb dX6_shyest_50 rfl (lv_at hl 2 rfl) ?_
        refine lv_lload hx hb dX6_shyest_51 (lv_at hl 3 rfl) ?_
        obtain ⟨r8, pr8, hf⟩ := z_bd_s hf
        refine z_calli hC (z_runS (rest := []) zm_Gok hC E (zc_X6_isLess l D cI cJ tp q u2 (z_rL u2 30 0) (z_rL u2 31 0) x_2 x_4 pr8 _) (va_cwS 4 hts gX6_shyest_X6_isLess rfl rfl rfl zd_X6_isLess ⟨Nat.le_of_ble_eq_true rfl, Nat.le_of_ble_eq_true rfl⟩) rfl hl.1 rfl (Nat.le_of_ble_eq_true rfl) dX6_shyest_53 ⟨Nat.zero_le _, Nat.zero_le _⟩) (fun H locs hC => ?_)
        refine lv_if_eq (tgt := 79) hx hb dX6_shyest_56 (by decide) (fun c9 => ?_) (fun c9 => ?_)
        · have hf := z_t hf c9
          obtain ⟨x10, ex10⟩ : ∃ z : Int32, z = (x_7 + (1 : Int32)) := ⟨_, rfl⟩
          have hf := z_nm_s hf ex10
          refine lv_iinc (v := x10) (lv' := [(7, _), (0, _), (1, _), (2, _), (4, _), (6, _)]) hx hb dX6_shyest_79 hl (k := 5) rfl (by rw [ex10]; rfl) (by decide) rfl (fun ls hl => ?_)
          refine lv_goto (tgt := 23) hx hb dX6_shyest_82 (by decide) ?_
          exact ih x_1 x_2 x_4 x10 u2 _ _ _ _ _ _ _ _ hf hC (lv_sub hl [1, 2, 3, 4, 5, 0] rfl) kk
        · have hf := z_f hf c9
          refine lv_bipush (v := (8 : Int32)) hx hb dX6_shyest_59 (by decide) ?_
          refine lv_iload hx hb dX6_shyest_61 (lv_at hl 4 rfl) ?_
          refine lv_imul hx hb dX6_shyest_63 ?_
          refine lv_iload hx hb dX6_shyest_64 (lv_at hl 5 rfl) ?_
          refine lv_iadd hx hb dX6_shyest_66 ?_
          refine lv_topi (fun x11 ex11 => ?_)
          have hf := z_nm_s hf ex11
          refine lv_istore_n (lv' := [(1, _), (0, _), (2, _), (4, _), (6, _), (7, _)]) hx hb dX6_shyest_67 rfl hl (by decide) rfl (fun ls hl => ?_)
          refine lv_aload_n hx hb dX6_shyest_68 rfl (lv_at hl 1 rfl) ?_
          refine zm_gX6_upper hx hb hts zi_X6_shyest hown hC kf186 dX6_shyest_69 ?_
          refine lv_topl (fun x12 ex12 => ?_)
          have hf := z_nm_s hf ex12
          refine lv_lstore_n (lv' := [(2, _), (1, _), (0, _), (4, _), (6, _), (7, _)]) hx hb dX6_shyest_72 rfl hl (by decide) rfl (fun ls hl => ?_)
          refine lv_aload_n hx hb dX6_shyest_73 rfl (lv_at hl 2 rfl) ?_
          refine zm_gX6_lower hx hb hts zi_X6_shyest hown hC kf194 dX6_shyest_74 ?_
          refine lv_topl (fun x13 ex13 => ?_)
          have hf := z_nm_s hf ex13
          refine lv_lstore (lv' := [(4, _), (2, _), (1, _), (0, _), (6, _), (7, _)]) hx hb dX6_shyest_77 hl (by decide) rfl (fun ls hl => ?_)
          obtain ⟨x14, ex14⟩ : ∃ z : Int32, z = (x_7 + (1 : Int32)) := ⟨_, rfl⟩
          have hf := z_nm_s hf ex14
          refine lv_iinc (v := x14) (lv' := [(7, _), (4, _), (2, _), (1, _), (0, _), (6, _)]) hx hb dX6_shyest_79 hl (k := 5) rfl (by rw [ex14]; rfl) (by decide) rfl (fun ls hl => ?_)
          refine lv_goto (tgt := 23) hx hb dX6_shyest_82 (by decide) ?_
          exact ih x11 x12 x13 x14 u2 _ _ _ _ _ _ _ _ hf hC (lv_sub hl [4, 3, 2, 1, 5, 0] rfl) kk
set_option maxHeartbeats 4000000 in
set_option maxRecDepth 100000 in
theorem zl_X6_shyest_10 (E : CallFix p m c cX6_shyest 8 s args wsX6_shyest RX6) : ∀ (n : Nat) (x_1 : Int32) (x_2 : Int64) (x_4 : Int64) (x_6 : Int32) (u : z_St) (H : Heap) (locs : List Loc) (ls : Array Slot) (o_1 : Int32) (o_2 : Int64) (o_4 : Int64) (o_6 : Int32) (ou : z_St), zf_X6_shyest_10 n x_1 x_2 x_4 x_6 u = some (o_1, o_2, o_4, o_6, ou) → z_C (zm_W cI cJ q) (zm_G tp) D cI cJ A s u H locs → lv_has ls 8 [(0, .ref (q 0)), (1, .int x_1), (2, .long x_2), (4, .long x_4), (6, .int x_6)] → (∀ (H : Heap) (locs : List Loc) (ls : Array Slot), z_C (zm_W cI cJ q) (zm_G tp) D cI cJ A s ou H locs → lv_has ls 8 [(0, .ref (q 0)), (1, .int o_1), (2, .long o_2), (4, .long o_4), (6, .int o_6)] → W p l e zr_X6_shyest s m args below meth c H locs 0 0 Q (F0 m 91 ls [])) → W p l e zr_X6_shyest s m args below meth c H locs 0 0 Q (F0 m 10 ls []) := by
  have hx := E.1
  have hb := E.2.1
  have hml := E.2.2.1
  have hown := E.2.2.2.1
  have hts := E.2.2.2.2
  intro n
  induction n with
  | zero =>
    intro x_1 x_2 x_4 x_6 u H locs ls o_1 o_2 o_4 o_6 ou hf
    rw [zf_X6_shyest_10.eq_1] at hf
    cases hf
  | succ n ih =>
    intro x_1 x_2 x_4 x_6 u H locs ls o_1 o_2 o_4 o_6 ou hf hC hl kk
    rw [zf_X6_shyest_10.eq_2] at hf
    refine lv_iload hx hb dX6_shyest_10 (lv_at hl 4 rfl) ?_
    refine lv_bipush (v := (8 : Int32)) hx hb dX6_shyest_12 (by decide) ?_
    refine lv_icmp_ge (tgt := 91) hx hb dX6_shyest_14 (by decide) (fun c1 => ?_) (fun c1 => ?_)
    · have hf := z_t hf c1
      cases hf
      exact kk _ _ _ hC (lv_sub hl [0, 1, 2, 3, 4] rfl)
    · have hf := z_f hf c1
      refine lv_iload hx hb dX6_shyest_17 (lv_at hl 4 rfl) ?_
      refine lv_iconst (v := (1 : Int32)) hx hb dX6_shyest_19 (by decide) ?_
      refine lv_iadd hx hb dX6_shyest_20 ?_
      refine lv_topi (fun x2 ex2 => ?_)
      have hf := z_nm_s hf ex2
      refine lv_istore (lv' := [(7, _), (0, _), (1, _), (2, _), (4, _), (6, _)]) hx hb dX6_shyest_21 hl (by decide) rfl (fun ls hl => ?_)
      obtain ⟨y3, y4, y5, y6, u7, py3, hf⟩ := z_bd5_s hf
      refine zl_X6_shyest_23 E x_6 5000 x_1 x_2 x_4 x2 u _ _ _ _ _ _ _ _ py3 hC (lv_sub hl [1, 2, 3, 4, 5, 0] rfl) (fun H locs ls hC hl => ?_)
      obtain ⟨x8, ex8⟩ : ∃ z : Int32, z = (x_6 + (1 : Int32)) := ⟨_, rfl⟩
      have hf := z_nm_s hf ex8
      refine lv_iinc (v := x8) (lv' := [(6, _), (0, _), (1, _), (2, _), (4, _), (7, _)]) hx hb dX6_shyest_85 hl (k := 4) rfl (by rw [ex8]; rfl) (by decide) rfl (fun ls hl => ?_)
      refine lv_goto (tgt := 10) hx hb dX6_shyest_88 (by decide) ?_
      exact ih y3 y4 y5 x8 u7 _ _ _ _ _ _ _ _ hf hC (lv_sub hl [1, 2, 3, 4, 0] rfl) kk
set_option maxHeartbeats 4000000 in
set_option maxRecDepth 100000 in
theorem zc_X6_shyest (l : Launch) (D : va_G) (cI cJ : ClassId) (tp : Nat) (q : Nat → Nat) (u : z_St) {r : Int32} {u2 : z_St} (hf : zf_X6_shyest u = some (r, u2)) : z_Mi l yX6_shyest wsX6_shyest zr_X6_shyest (zm_W cI cJ q) (zm_G tp) D cI cJ [.ref (q 0)] u r u2 := by
  refine z_ofi (cc := cX6_shyest) (maxL := 8) (ret := (some .int)) zm_Gok (by decide) rfl (Nat.le_of_ble_eq_true rfl) ?_
  intro A p e s m args below meth c ls E hr hlk hC hl
  have E : CallFix p m c cX6_shyest 8 s args wsX6_shyest RX6 := E
  have hx := E.1
  have hb := E.2.1
  have hml := E.2.2.1
  have hown := E.2.2.2.1
  have hts := E.2.2.2.2
  have hl : lv_has ls 8 [(0, .ref (q 0))] := hl
  unfold zf_X6_shyest at hf
  refine lv_iconst (v := (-1 : Int32)) hx hb dX6_shyest_0 (by decide) ?_
  refine lv_istore_n (lv' := [(1, _), (0, _)]) hx hb dX6_shyest_1 rfl hl (by decide) rfl (fun ls hl => ?_)
  refine lv_lconst (v := (0 : Int64)) hx hb dX6_shyest_2 (by decide) ?_
  refine lv_lstore_n (lv' := [(2, _), (1, _), (0, _)]) hx hb dX6_shyest_3 rfl hl (by decide) rfl (fun ls hl => ?_)
  refine lv_lconst (v := (1 : Int64)) hx hb dX6_shyest_4 (by decide) ?_
  refine lv_lstore (lv' := [(4, _), (2, _), (1, _), (0, _)]) hx hb dX6_shyest_5 hl (by decide) rfl (fun ls hl => ?_)
  refine lv_iconst (v := (0 : Int32)) hx hb dX6_shyest_7 (by decide) ?_
  refine lv_istore (lv' := [(6, _), (4, _), (2, _), (1, _), (0, _)]) hx hb dX6_shyest_8 hl (by decide) rfl (fun ls hl => ?_)
  obtain ⟨y1, y2, y3, y4, u5, py1, hf⟩ := z_bd5_s hf
  refine zl_X6_shyest_10 E 5000 (-1 : Int32) (0 : Int64) (1 : Int64) (0 : Int32) u _ _ _ _ _ _ _ _ py1 hC (lv_sub hl [4, 3, 2, 1, 0] rfl) (fun H locs ls hC hl => ?_)
  refine lv_iload_n hx hb dX6_shyest_91 rfl (lv_at hl 1 rfl) ?_
  exact z_reti hx hb hr hlk hC (Prod.mk.inj (Option.some.inj hf)).1 (Prod.mk.inj (Option.some.inj hf)).2 dX6_shyest_92
abbrev zr_X6_inside : Room := { frames := 1, cells := 0, slots := 0, locals := 25 }
theorem zd_X6_inside : yX6_inside.cls ≠ "java/lang/invoke/MethodHandle" ∧ yX6_inside.cls ≠ "java/lang/invoke/VarHandle" ∧ (parseMethodDescriptor yX6_inside.desc).map (fun d => d.parameters.length) = some 4 := by decide +kernel
set_option maxHeartbeats 4000000 in
set_option maxRecDepth 100000 in
theorem zc_X6_inside (l : Launch) (D : va_G) (cI cJ : ClassId) (tp : Nat) (q : Nat → Nat) (u : z_St) (a_1 : Int32) (a_2 : Int32) (a_3 : Int32) (a_4 : Int32) {r : Int32} (hf : zf_X6_inside a_1 a_2 a_3 a_4 = some r) : z_Mi l yX6_inside wsX6_inside zr_X6_inside (zm_W cI cJ q) (zm_G tp) D cI cJ [.ref (q 0), .int a_1, .int a_2, .int a_3, .int a_4] u r u := by
  refine z_ofi (cc := cX6_inside) (maxL := 6) (ret := (some .int)) zm_Gok (by decide) rfl (Nat.le_of_ble_eq_true rfl) ?_
  intro A p e s m args below meth c ls E hr hlk hC hl
  have E : CallFix p m c cX6_inside 6 s args wsX6_inside RX6 := E
  have hx := E.1
  have hb := E.2.1
  have hml := E.2.2.1
  have hown := E.2.2.2.1
  have hts := E.2.2.2.2
  have hl : lv_has ls 6 [(0, .ref (q 0)), (1, .int a_1), (2, .int a_2), (3, .int a_3), (4, .int a_4)] := hl
  unfold zf_X6_inside at hf
  have kl160 := hts (.constantLong RX6 160 (255)) (by decide +kernel)
  have kl143 := hts (.constantLong RX6 143 (100000)) (by decide +kernel)
  refine lv_iload_n hx hb dX6_inside_0 rfl (lv_at hl 1 rfl) ?_
  refine lv_i2l hx hb dX6_inside_1 rfl ?_
  refine lv_lconst (v := (0 : Int64)) hx hb dX6_inside_2 (by decide) ?_
  refine lv_ldc2 (own := RX6) (v := (255 : Int64)) hx hb hown kl160 dX6_inside_3 ?_
  refine z_calli hC (z_runS (rest := []) zm_Gok hC E (zc_X6_in l D cI cJ tp q u a_1.toInt64 (0 : Int64) (255 : Int64) rfl _) (va_cwS 3 hts gX6_inside_X6_in rfl rfl rfl zd_X6_in ⟨Nat.le_of_ble_eq_true rfl, Nat.le_of_ble_eq_true rfl⟩) rfl hl.1 rfl (Nat.le_of_ble_eq_true rfl) dX6_inside_6 ⟨Nat.zero_le _, Nat.zero_le _⟩) (fun H locs hC => ?_)
  refine lv_if_eq (tgt := 56) hx hb dX6_inside_9 (by decide) (fun c1 => ?_) (fun c1 => ?_)
  · have hf := z_t hf c1
    refine lv_bipush (v := (-2 : Int32)) hx hb dX6_inside_56 (by decide) ?_
    exact z_reti hx hb hr hlk hC (Option.some.inj hf) rfl dX6_inside_58
  · have hf := z_f hf c1
    refine lv_iload_n hx hb dX6_inside_12 rfl (lv_at hl 1 rfl) ?_
    obtain ⟨r2, pr2, hf⟩ := z_bd_s hf
    refine z_calli hC (z_runS (rest := []) zm_Gok hC E (zc_X6_bits l D cI cJ tp q u a_1 pr2 _) (va_cwS 1 hts gX6_inside_X6_bits rfl rfl rfl zd_X6_bits ⟨Nat.le_of_ble_eq_true rfl, Nat.le_of_ble_eq_true rfl⟩) rfl hl.1 rfl (Nat.le_of_ble_eq_true rfl) dX6_inside_13 ⟨Nat.zero_le _, Nat.zero_le _⟩) (fun H locs hC => ?_)
    refine lv_iconst (v := (2 : Int32)) hx hb dX6_inside_16 (by decide) ?_
    refine lv_icmp_lt (tgt := 56) hx hb dX6_inside_17 (by decide) (fun c3 => ?_) (fun c3 => ?_)
    · have hf := z_t hf c3
      refine lv_bipush (v := (-2 : Int32)) hx hb dX6_inside_56 (by decide) ?_
      exact z_reti hx hb hr hlk hC (Option.some.inj hf) rfl dX6_inside_58
    · have hf := z_f hf c3
      refine lv_iload_n hx hb dX6_inside_20 rfl (lv_at hl 2 rfl) ?_
      refine lv_i2l hx hb dX6_inside_21 rfl ?_
      refine lv_lconst (v := (0 : Int64)) hx hb dX6_inside_22 (by decide) ?_
      refine lv_ldc2 (own := RX6) (v := (100000 : Int64)) hx hb hown kl143 dX6_inside_23 ?_
      refine z_calli hC (z_runS (rest := []) zm_Gok hC E (zc_X6_in l D cI cJ tp q u a_2.toInt64 (0 : Int64) (100000 : Int64) rfl _) (va_cwS 3 hts gX6_inside_X6_in rfl rfl rfl zd_X6_in ⟨Nat.le_of_ble_eq_true rfl, Nat.le_of_ble_eq_true rfl⟩) rfl hl.1 rfl (Nat.le_of_ble_eq_true rfl) dX6_inside_26 ⟨Nat.zero_le _, Nat.zero_le _⟩) (fun H locs hC => ?_)
      refine lv_if_eq (tgt := 56) hx hb dX6_inside_29 (by decide) (fun c4 => ?_) (fun c4 => ?_)
      · have hf := z_t hf c4
        refine lv_bipush (v := (-2 : Int32)) hx hb dX6_inside_56 (by decide) ?_
        exact z_reti hx hb hr hlk hC (Option.some.inj hf) rfl dX6_inside_58
      · have hf := z_f hf c4
        refine lv_iload_n hx hb dX6_inside_32 rfl (lv_at hl 3 rfl) ?_
        refine lv_i2l hx hb dX6_inside_33 rfl ?_
        refine lv_iload_n hx hb dX6_inside_34 rfl (lv_at hl 2 rfl) ?_
        refine lv_i2l hx hb dX6_inside_35 rfl ?_
        refine lv_ldc2 (own := RX6) (v := (100000 : Int64)) hx hb hown kl143 dX6_inside_36 ?_
        refine z_calli hC (z_runS (rest := []) zm_Gok hC E (zc_X6_in l D cI cJ tp q u a_3.toInt64 a_2.toInt64 (100000 : Int64) rfl _) (va_cwS 3 hts gX6_inside_X6_in rfl rfl rfl zd_X6_in ⟨Nat.le_of_ble_eq_true rfl, Nat.le_of_ble_eq_true rfl⟩) rfl hl.1 rfl (Nat.le_of_ble_eq_true rfl) dX6_inside_39 ⟨Nat.zero_le _, Nat.zero_le _⟩) (fun H locs hC => ?_)
        refine lv_if_eq (tgt := 56) hx hb dX6_inside_42 (by decide) (fun c5 => ?_) (fun c5 => ?_)
        · have hf := z_t hf c5
          refine lv_bipush (v := (-2 : Int32)) hx hb dX6_inside_56 (by decide) ?_
          exact z_reti hx hb hr hlk hC (Option.some.inj hf) rfl dX6_inside_58
        · have hf := z_f hf c5
          refine lv_iload hx hb dX6_inside_45 (lv_at hl 4 rfl) ?_
          refine lv_i2l hx hb dX6_inside_47 rfl ?_
          refine lv_lconst (v := (0 : Int64)) hx hb dX6_inside_48 (by decide) ?_
          refine lv_lconst (v := (1 : Int64)) hx hb dX6_inside_49 (by decide) ?_
          refine z_calli hC (z_runS (rest := []) zm_Gok hC E (zc_X6_in l D cI cJ tp q u a_4.toInt64 (0 : Int64) (1 : Int64) rfl _) (va_cwS 3 hts gX6_inside_X6_in rfl rfl rfl zd_X6_in ⟨Nat.le_of_ble_eq_true rfl, Nat.le_of_ble_eq_true rfl⟩) rfl hl.1 rfl (Nat.le_of_ble_eq_true rfl) dX6_inside_50 ⟨Nat.zero_le _, Nat.zero_le _⟩) (fun H locs hC => ?_)
          refine lv_if_ne (tgt := 59) hx hb dX6_inside_53 (by decide) (fun c6 => ?_) (fun c6 => ?_)
          · have hf := z_f hf c6
            refine lv_iload_n hx hb dX6_inside_59 rfl (lv_at hl 3 rfl) ?_
            refine lv_iload_n hx hb dX6_inside_60 rfl (lv_at hl 2 rfl) ?_
            refine lv_isub hx hb dX6_inside_61 ?_
            refine lv_iload_n hx hb dX6_inside_62 rfl (lv_at hl 1 rfl) ?_
            obtain ⟨r7, pr7, hf⟩ := z_bd_s hf
            refine z_calli hC (z_runS (rest := [_]) zm_Gok hC E (zc_X6_bits l D cI cJ tp q u a_1 pr7 _) (va_cwS 1 hts gX6_inside_X6_bits rfl rfl rfl zd_X6_bits ⟨Nat.le_of_ble_eq_true rfl, Nat.le_of_ble_eq_true rfl⟩) rfl hl.1 rfl (Nat.le_of_ble_eq_true rfl) dX6_inside_63 ⟨Nat.zero_le _, Nat.zero_le _⟩) (fun H locs hC => ?_)
            obtain ⟨h8, hf⟩ := z_gd_s hf
            refine lv_idiv hx hb dX6_inside_66 (z_nz_s h8) ?_
            refine lv_topi (fun x9 ex9 => ?_)
            have hf := z_nm_s hf ex9
            refine lv_istore (lv' := [(5, _), (0, _), (1, _), (2, _), (3, _), (4, _)]) hx hb dX6_inside_67 hl (by decide) rfl (fun ls hl => ?_)
            refine lv_iload hx hb dX6_inside_69 (lv_at hl 5 rfl) ?_
            refine lv_if_ne (tgt := 79) hx hb dX6_inside_71 (by decide) (fun c10 => ?_) (fun c10 => ?_)
            · have hf := z_f hf c10
              refine lv_iload_n hx hb dX6_inside_79 rfl (lv_at hl 4 rfl) ?_
              refine lv_iload_n hx hb dX6_inside_80 rfl (lv_at hl 3 rfl) ?_
              refine lv_isub hx hb dX6_inside_81 ?_
              refine lv_iload hx hb dX6_inside_82 (lv_at hl 0 rfl) ?_
              refine lv_iload_n hx hb dX6_inside_84 rfl (lv_at hl 2 rfl) ?_
              obtain ⟨r11, pr11, hf⟩ := z_bd_s hf
              refine z_calli hC (z_runS (rest := [_, _]) zm_Gok hC E (zc_X6_bits l D cI cJ tp q u a_1 pr11 _) (va_cwS 1 hts gX6_inside_X6_bits rfl rfl rfl zd_X6_bits ⟨Nat.le_of_ble_eq_true rfl, Nat.le_of_ble_eq_true rfl⟩) rfl hl.1 rfl (Nat.le_of_ble_eq_true rfl) dX6_inside_85 ⟨Nat.zero_le _, Nat.zero_le _⟩) (fun H locs hC => ?_)
              refine lv_iconst (v := (1 : Int32)) hx hb dX6_inside_88 (by decide) ?_
              refine lv_isub hx hb dX6_inside_89 ?_
              refine lv_imul hx hb dX6_inside_90 ?_
              refine lv_isub hx hb dX6_inside_91 ?_
              exact z_reti hx hb hr hlk hC (Option.some.inj hf) rfl dX6_inside_92
            · have hf := z_t hf c10
              refine lv_iload hx hb dX6_inside_74 (lv_at hl 0 rfl) ?_
              refine lv_goto (tgt := 92) hx hb dX6_inside_76 (by decide) ?_
              exact z_reti hx hb hr hlk hC (Option.some.inj hf) rfl dX6_inside_92
          · have hf := z_t hf c6
            refine lv_bipush (v := (-2 : Int32)) hx hb dX6_inside_56 (by decide) ?_
            exact z_reti hx hb hr hlk hC (Option.some.inj hf) rfl dX6_inside_58
abbrev zr_X6_entry : Room := { frames := 1, cells := 0, slots := 0, locals := 25 }
theorem zd_X6_entry : yX6_entry.cls ≠ "java/lang/invoke/MethodHandle" ∧ yX6_entry.cls ≠ "java/lang/invoke/VarHandle" ∧ (parseMethodDescriptor yX6_entry.desc).map (fun d => d.parameters.length) = some 1 := by decide +kernel
theorem zi_X6_entry : ∀ w ∈ wsX60, w ∈ wsX6_entry := fun _ h => List.mem_cons_of_mem _ (List.mem_append_right _ h)
set_option maxHeartbeats 4000000 in
set_option maxRecDepth 100000 in
theorem zc_X6_entry (l : Launch) (D : va_G) (cI cJ : ClassId) (tp : Nat) (q : Nat → Nat) (u : z_St) (a_1 : Int32) {r : Int32} {u2 : z_St} (hf : zf_X6_entry u a_1 = some (r, u2)) : z_Mi l yX6_entry wsX6_entry zr_X6_entry (zm_W cI cJ q) (zm_G tp) D cI cJ [.ref (q 0), .int a_1] u r u2 := by
  refine z_ofi (cc := cX6_entry) (maxL := 2) (ret := (some .int)) zm_Gok (by decide) rfl (Nat.le_of_ble_eq_true rfl) ?_
  intro A p e s m args below meth c ls E hr hlk hC hl
  have E : CallFix p m c cX6_entry 2 s args wsX6_entry RX6 := E
  have hx := E.1
  have hb := E.2.1
  have hml := E.2.2.1
  have hown := E.2.2.2.1
  have hts := E.2.2.2.2
  have hl : lv_has ls 2 [(0, .ref (q 0)), (1, .int a_1)] := hl
  unfold zf_X6_entry at hf
  have kl210 := hts (.constantLong RX6 210 (4095)) (by decide +kernel)
  have kf212 := hts (.fieldLink RX6 212 "DawnFairModel" "entries" "I") (by decide +kernel)
  have kf75 := hts (.fieldLink RX6 75 "DawnFairModel" "marks" "[I") (by decide +kernel)
  refine lv_iload_n hx hb dX6_entry_0 rfl (lv_at hl 1 rfl) ?_
  refine lv_i2l hx hb dX6_entry_1 rfl ?_
  refine lv_lconst (v := (0 : Int64)) hx hb dX6_entry_2 (by decide) ?_
  refine lv_ldc2 (own := RX6) (v := (4095 : Int64)) hx hb hown kl210 dX6_entry_3 ?_
  refine z_calli hC (z_runS (rest := []) zm_Gok hC E (zc_X6_in l D cI cJ tp q u a_1.toInt64 (0 : Int64) (4095 : Int64) rfl _) (va_cwS 3 hts gX6_entry_X6_in rfl rfl rfl zd_X6_in ⟨Nat.le_of_ble_eq_true rfl, Nat.le_of_ble_eq_true rfl⟩) rfl hl.1 rfl (Nat.le_of_ble_eq_true rfl) dX6_entry_6 ⟨Nat.zero_le _, Nat.zero_le _⟩) (fun H locs hC => ?_)
  refine lv_if_ne (tgt := 15) hx hb dX6_entry_9 (by decide) (fun c1 => ?_) (fun c1 => ?_)
  · have hf := z_f hf c1
    refine lv_aload_n hx hb dX6_entry_15 rfl (lv_at hl 0 rfl) ?_
    refine zm_gX6_entries hx hb hts zi_X6_entry hown hC kf212 dX6_entry_16 ?_
    refine lv_bipush (v := (10 : Int32)) hx hb dX6_entry_19 (by decide) ?_
    refine lv_icmp_ne (tgt := 27) hx hb dX6_entry_21 (by decide) (fun c2 => ?_) (fun c2 => ?_)
    · have hf := z_f hf c2
      refine lv_aload_n hx hb dX6_entry_27 rfl (lv_at hl 0 rfl) ?_
      refine zm_gX6_marks hx hb hts zi_X6_entry hown hC kf75 dX6_entry_28 ?_
      refine lv_aload_n hx hb dX6_entry_31 rfl (lv_at hl 0 rfl) ?_
      refine zm_gX6_entries hx hb hts zi_X6_entry hown hC kf212 dX6_entry_32 ?_
      refine lv_iload_n hx hb dX6_entry_35 rfl (lv_at hl 1 rfl) ?_
      obtain ⟨h3, hf⟩ := z_gd_s hf
      refine zm_sX6_marks hx hb hC (z_in h3) dX6_entry_36 (fun u4 eu4 H locs hC => ?_)
      have hf := z_nm_s hf eu4
      refine lv_aload_n hx hb dX6_entry_37 rfl (lv_at hl 0 rfl) ?_
      refine lv_dup hx hb dX6_entry_38 rfl ?_
      refine zm_gX6_entries hx hb hts zi_X6_entry hown hC kf212 dX6_entry_39 ?_
      refine lv_iconst (v := (1 : Int32)) hx hb dX6_entry_42 (by decide) ?_
      refine lv_iadd hx hb dX6_entry_43 ?_
      refine zm_pX6_entries hx hb hts zi_X6_entry hown hC kf212 dX6_entry_44 (fun u5 eu5 H locs hC => ?_)
      have hf := z_nm_s hf eu5
      refine lv_aload_n hx hb dX6_entry_47 rfl (lv_at hl 0 rfl) ?_
      refine zm_gX6_entries hx hb hts zi_X6_entry hown hC kf212 dX6_entry_48 ?_
      refine lv_iconst (v := (1 : Int32)) hx hb dX6_entry_51 (by decide) ?_
      refine lv_isub hx hb dX6_entry_52 ?_
      exact z_reti hx hb hr hlk hC (Prod.mk.inj (Option.some.inj hf)).1 (Prod.mk.inj (Option.some.inj hf)).2 dX6_entry_53
    · have hf := z_t hf c2
      refine lv_bipush (v := (-4 : Int32)) hx hb dX6_entry_24 (by decide) ?_
      exact z_reti hx hb hr hlk hC (Prod.mk.inj (Option.some.inj hf)).1 (Prod.mk.inj (Option.some.inj hf)).2 dX6_entry_26
  · have hf := z_t hf c1
    refine lv_bipush (v := (-2 : Int32)) hx hb dX6_entry_12 (by decide) ?_
    exact z_reti hx hb hr hlk hC (Prod.mk.inj (Option.some.inj hf)).1 (Prod.mk.inj (Option.some.inj hf)).2 dX6_entry_14
abbrev zr_X6_mark : Room := { frames := 2, cells := 0, slots := 0, locals := 46 }
theorem zd_X6_mark : yX6_mark.cls ≠ "java/lang/invoke/MethodHandle" ∧ yX6_mark.cls ≠ "java/lang/invoke/VarHandle" ∧ (parseMethodDescriptor yX6_mark.desc).map (fun d => d.parameters.length) = some 3 := by decide +kernel
theorem zi_X6_mark : ∀ w ∈ wsX60, w ∈ wsX6_mark := fun _ h => List.mem_cons_of_mem _ (List.mem_append_right _ h)
set_option maxHeartbeats 4000000 in
set_option maxRecDepth 100000 in
theorem zc_X6_mark (l : Launch) (D : va_G) (cI cJ : ClassId) (tp : Nat) (q : Nat → Nat) (u : z_St) (a_1 : Int32) (a_2 : Int32) (a_3 : Int32) {r : Int32} {u2 : z_St} (hf : zf_X6_mark u a_1 a_2 a_3 = some (r, u2)) : z_Mi l yX6_mark wsX6_mark zr_X6_mark (zm_W cI cJ q) (zm_G tp) D cI cJ [.ref (q 0), .int a_1, .int a_2, .int a_3] u r u2 := by
  refine z_ofi (cc := cX6_mark) (maxL := 5) (ret := (some .int)) zm_Gok (by decide) rfl (Nat.le_of_ble_eq_true rfl) ?_
  intro A p e s m args below meth c ls E hr hlk hC hl
  have E : CallFix p m c cX6_mark 5 s args wsX6_mark RX6 := E
  have hx := E.1
  have hb := E.2.1
  have hml := E.2.2.1
  have hown := E.2.2.2.1
  have hts := E.2.2.2.2
  have hl : lv_has ls 5 [(0, .ref (q 0)), (1, .int a_1), (2, .int a_2), (3, .int a_3)] := hl
  unfold zf_X6_mark at hf
  have kl215 := hts (.constantLong RX6 215 (11)) (by decide +kernel)
  have kl217 := hts (.constantLong RX6 217 (2)) (by decide +kernel)
  have kf28 := hts (.fieldLink RX6 28 "DawnFairModel" "seen" "[I") (by decide +kernel)
  have kf31 := hts (.fieldLink RX6 31 "DawnFairModel" "lacked" "[I") (by decide +kernel)
  refine lv_aload_n hx hb dX6_mark_0 rfl (lv_at hl 0 rfl) ?_
  refine lv_iload_n hx hb dX6_mark_1 rfl (lv_at hl 1 rfl) ?_
  refine z_calli hC (z_runV (rest := []) zm_Gok hC E (zc_X6_noThing l D cI cJ tp q u a_1 rfl _) (cwV 1 hts gX6_mark_X6_noThing rfl rfl rfl ⟨rfl, zd_X6_noThing⟩ ⟨Nat.le_of_ble_eq_true rfl, Nat.le_of_ble_eq_true rfl⟩) (zm_rcX6 hC) rfl hl.1 rfl (Nat.le_of_ble_eq_true rfl) dX6_mark_2 ⟨Nat.zero_le _, Nat.zero_le _⟩) (fun H locs hC => ?_)
  refine lv_if_ne (tgt := 32) hx hb dX6_mark_5 (by decide) (fun c1 => ?_) (fun c1 => ?_)
  · have hf := z_f hf c1
    refine lv_bipush (v := (-2 : Int32)) hx hb dX6_mark_32 (by decide) ?_
    exact z_reti hx hb hr hlk hC (Prod.mk.inj (Option.some.inj hf)).1 (Prod.mk.inj (Option.some.inj hf)).2 dX6_mark_34
  · have hf := z_t hf c1
    refine lv_iload_n hx hb dX6_mark_8 rfl (lv_at hl 2 rfl) ?_
    refine lv_i2l hx hb dX6_mark_9 rfl ?_
    refine lv_lconst (v := (0 : Int64)) hx hb dX6_mark_10 (by decide) ?_
    refine lv_ldc2 (own := RX6) (v := (11 : Int64)) hx hb hown kl215 dX6_mark_11 ?_
    refine z_calli hC (z_runS (rest := []) zm_Gok hC E (zc_X6_in l D cI cJ tp q u a_2.toInt64 (0 : Int64) (11 : Int64) rfl _) (va_cwS 3 hts gX6_mark_X6_in rfl rfl rfl zd_X6_in ⟨Nat.le_of_ble_eq_true rfl, Nat.le_of_ble_eq_true rfl⟩) rfl hl.1 rfl (Nat.le_of_ble_eq_true rfl) dX6_mark_14 ⟨Nat.zero_le _, Nat.zero_le _⟩) (fun H locs hC => ?_)
    refine lv_if_eq (tgt := 32) hx hb dX6_mark_17 (by decide) (fun c2 => ?_) (fun c2 => ?_)
    · have hf := z_t hf c2
      refine lv_bipush (v := (-2 : Int32)) hx hb dX6_mark_32 (by decide) ?_
      exact z_reti hx hb hr hlk hC (Prod.mk.inj (Option.some.inj hf)).1 (Prod.mk.inj (Option.some.inj hf)).2 dX6_mark_34
    · have hf := z_f hf c2
      refine lv_iload_n hx hb dX6_mark_20 rfl (lv_at hl 3 rfl) ?_
      refine lv_i2l hx hb dX6_mark_21 rfl ?_
      refine lv_lconst (v := (0 : Int64)) hx hb dX6_mark_22 (by decide) ?_
      refine lv_ldc2 (own := RX6) (v := (2 : Int64)) hx hb hown kl217 dX6_mark_23 ?_
      refine z_calli hC (z_runS (rest := []) zm_Gok hC E (zc_X6_in l D cI cJ tp q u a_3.toInt64 (0 : Int64) (2 : Int64) rfl _) (va_cwS 3 hts gX6_mark_X6_in rfl rfl rfl zd_X6_in ⟨Nat.le_of_ble_eq_true rfl, Nat.le_of_ble_eq_true rfl⟩) rfl hl.1 rfl (Nat.le_of_ble_eq_true rfl) dX6_mark_26 ⟨Nat.zero_le _, Nat.zero_le _⟩) (fun H locs hC => ?_)
      refine lv_if_ne (tgt := 35) hx hb dX6_mark_29 (by decide) (fun c3 => ?_) (fun c3 => ?_)
      · have hf := z_f hf c3
        refine lv_aload_n hx hb dX6_mark_35 rfl (lv_at hl 0 rfl) ?_
        refine zm_gX6_seen hx hb hts zi_X6_mark hown hC kf28 dX6_mark_36 ?_
        refine lv_iload_n hx hb dX6_mark_39 rfl (lv_at hl 1 rfl) ?_
        obtain ⟨h4, hf⟩ := z_gd_s hf
        refine zm_aX6_seen hx hb hC (z_in h4) dX6_mark_40 ?_
        refine lv_iload_n hx hb dX6_mark_41 rfl (lv_at hl 2 rfl) ?_
        refine lv_ishr hx hb dX6_mark_42 ?_
        refine lv_iconst (v := (1 : Int32)) hx hb dX6_mark_43 (by decide) ?_
        refine lv_iand hx hb dX6_mark_44 ?_
        refine lv_iconst (v := (2 : Int32)) hx hb dX6_mark_45 (by decide) ?_
        refine lv_aload_n hx hb dX6_mark_46 rfl (lv_at hl 0 rfl) ?_
        refine zm_gX6_lacked hx hb hts zi_X6_mark hown hC kf31 dX6_mark_47 ?_
        refine lv_iload_n hx hb dX6_mark_50 rfl (lv_at hl 1 rfl) ?_
        obtain ⟨h5, hf⟩ := z_gd_s hf
        refine zm_aX6_lacked hx hb hC (z_in h5) dX6_mark_51 ?_
        refine lv_iload_n hx hb dX6_mark_52 rfl (lv_at hl 2 rfl) ?_
        refine lv_ishr hx hb dX6_mark_53 ?_
        refine lv_iconst (v := (1 : Int32)) hx hb dX6_mark_54 (by decide) ?_
        refine lv_iand hx hb dX6_mark_55 ?_
        refine lv_imul hx hb dX6_mark_56 ?_
        refine lv_iadd hx hb dX6_mark_57 ?_
        refine lv_topi (fun x6 ex6 => ?_)
        have hf := z_nm_s hf ex6
        refine lv_istore (lv' := [(4, _), (0, _), (1, _), (2, _), (3, _)]) hx hb dX6_mark_58 hl (by decide) rfl (fun ls hl => ?_)
        refine lv_aload_n hx hb dX6_mark_60 rfl (lv_at hl 1 rfl) ?_
        refine zm_gX6_seen hx hb hts zi_X6_mark hown hC kf28 dX6_mark_61 ?_
        refine lv_iload_n hx hb dX6_mark_64 rfl (lv_at hl 2 rfl) ?_
        refine lv_aload_n hx hb dX6_mark_65 rfl (lv_at hl 1 rfl) ?_
        refine zm_gX6_seen hx hb hts zi_X6_mark hown hC kf28 dX6_mark_66 ?_
        refine lv_iload_n hx hb dX6_mark_69 rfl (lv_at hl 2 rfl) ?_
        obtain ⟨h7, hf⟩ := z_gd_s hf
        refine zm_aX6_seen hx hb hC (z_in h7) dX6_mark_70 ?_
        refine lv_iconst (v := (1 : Int32)) hx hb dX6_mark_71 (by decide) ?_
        refine lv_iload_n hx hb dX6_mark_72 rfl (lv_at hl 3 rfl) ?_
        refine lv_ishl hx hb dX6_mark_73 ?_
        refine lv_iconst (v := (-1 : Int32)) hx hb dX6_mark_74 (by decide) ?_
        refine lv_ixor hx hb dX6_mark_75 ?_
        refine lv_iand hx hb dX6_mark_76 ?_
        refine lv_iload_n hx hb dX6_mark_77 rfl (lv_at hl 4 rfl) ?_
        refine lv_iconst (v := (1 : Int32)) hx hb dX6_mark_78 (by decide) ?_
        refine lv_icmp_ne (tgt := 88) hx hb dX6_mark_79 (by decide) (fun c8 => ?_) (fun c8 => ?_)
        · have hf := z_f hf c8
          refine lv_iconst (v := (0 : Int32)) hx hb dX6_mark_88 (by decide) ?_
          refine lv_ior hx hb dX6_mark_89 ?_
          obtain ⟨h9, hf⟩ := z_gd_s hf
          refine zm_sX6_seen hx hb hC (z_in h9) dX6_mark_90 (fun u10 eu10 H locs hC => ?_)
          have hf := z_nm_s hf eu10
          refine lv_aload_n hx hb dX6_mark_91 rfl (lv_at hl 1 rfl) ?_
          refine zm_gX6_lacked hx hb hts zi_X6_mark hown hC kf31 dX6_mark_92 ?_
          refine lv_iload_n hx hb dX6_mark_95 rfl (lv_at hl 2 rfl) ?_
          refine lv_aload_n hx hb dX6_mark_96 rfl (lv_at hl 1 rfl) ?_
          refine zm_gX6_lacked hx hb hts zi_X6_mark hown hC kf31 dX6_mark_97 ?_
          refine lv_iload_n hx hb dX6_mark_100 rfl (lv_at hl 2 rfl) ?_
          obtain ⟨h11, hf⟩ := z_gd_s hf
          refine zm_aX6_lacked hx hb hC (z_in h11) dX6_mark_101 ?_
          refine lv_iconst (v := (1 : Int32)) hx hb dX6_mark_102 (by decide) ?_
          refine lv_iload_n hx hb dX6_mark_103 rfl (lv_at hl 3 rfl) ?_
          refine lv_ishl hx hb dX6_mark_104 ?_
          refine lv_iconst (v := (-1 : Int32)) hx hb dX6_mark_105 (by decide) ?_
          refine lv_ixor hx hb dX6_mark_106 ?_
          refine lv_iand hx hb dX6_mark_107 ?_
          refine lv_iload_n hx hb dX6_mark_108 rfl (lv_at hl 4 rfl) ?_
          refine lv_iconst (v := (2 : Int32)) hx hb dX6_mark_109 (by decide) ?_
          refine lv_icmp_ne (tgt := 119) hx hb dX6_mark_110 (by decide) (fun c12 => ?_) (fun c12 => ?_)
          · have hf := z_f hf c12
            refine lv_iconst (v := (0 : Int32)) hx hb dX6_mark_119 (by decide) ?_
            refine lv_ior hx hb dX6_mark_120 ?_
            obtain ⟨h13, hf⟩ := z_gd_s hf
            refine zm_sX6_lacked hx hb hC (z_in h13) dX6_mark_121 (fun u14 eu14 H locs hC => ?_)
            have hf := z_nm_s hf eu14
            refine lv_iload hx hb dX6_mark_122 (lv_at hl 0 rfl) ?_
            exact z_reti hx hb hr hlk hC (Prod.mk.inj (Option.some.inj hf)).1 (Prod.mk.inj (Option.some.inj hf)).2 dX6_mark_124
          · have hf := z_t hf c12
            refine lv_iconst (v := (1 : Int32)) hx hb dX6_mark_113 (by decide) ?_
            refine lv_iload_n hx hb dX6_mark_114 rfl (lv_at hl 3 rfl) ?_
            refine lv_ishl hx hb dX6_mark_115 ?_
            refine lv_goto (tgt := 120) hx hb dX6_mark_116 (by decide) ?_
            refine lv_ior hx hb dX6_mark_120 ?_
            obtain ⟨h15, hf⟩ := z_gd_s hf
            refine zm_sX6_lacked hx hb hC (z_in h15) dX6_mark_121 (fun u16 eu16 H locs hC => ?_)
            have hf := z_nm_s hf eu16
            refine lv_iload hx hb dX6_mark_122 (lv_at hl 0 rfl) ?_
            exact z_reti hx hb hr hlk hC (Prod.mk.inj (Option.some.inj hf)).1 (Prod.mk.inj (Option.some.inj hf)).2 dX6_mark_124
        · have hf := z_t hf c8
          refine lv_iconst (v := (1 : Int32)) hx hb dX6_mark_82 (by decide) ?_
          refine lv_iload_n hx hb dX6_mark_83 rfl (lv_at hl 3 rfl) ?_
          refine lv_ishl hx hb dX6_mark_84 ?_
          refine lv_goto (tgt := 89) hx hb dX6_mark_85 (by decide) ?_
          refine lv_ior hx hb dX6_mark_89 ?_
          obtain ⟨h17, hf⟩ := z_gd_s hf
          refine zm_sX6_seen hx hb hC (z_in h17) dX6_mark_90 (fun u18 eu18 H locs hC => ?_)
          have hf := z_nm_s hf eu18
          refine lv_aload_n hx hb dX6_mark_91 rfl (lv_at hl 1 rfl) ?_
          refine zm_gX6_lacked hx hb hts zi_X6_mark hown hC kf31 dX6_mark_92 ?_
          refine lv_iload_n hx hb dX6_mark_95 rfl (lv_at hl 2 rfl) ?_
          refine lv_aload_n hx hb dX6_mark_96 rfl (lv_at hl 1 rfl) ?_
          refine zm_gX6_lacked hx hb hts zi_X6_mark hown hC kf31 dX6_mark_97 ?_
          refine lv_iload_n hx hb dX6_mark_100 rfl (lv_at hl 2 rfl) ?_
          obtain ⟨h19, hf⟩ := z_gd_s hf
          refine zm_aX6_lacked hx hb hC (z_in h19) dX6_mark_101 ?_
          refine lv_iconst (v := (1 : Int32)) hx hb dX6_mark_102 (by decide) ?_
          refine lv_iload_n hx hb dX6_mark_103 rfl (lv_at hl 3 rfl) ?_
          refine lv_ishl hx hb dX6_mark_104 ?_
          refine lv_iconst (v := (-1 : Int32)) hx hb dX6_mark_105 (by decide) ?_
          refine lv_ixor hx hb dX6_mark_106 ?_
          refine lv_iand hx hb dX6_mark_107 ?_
          refine lv_iload_n hx hb dX6_mark_108 rfl (lv_at hl 4 rfl) ?_
          refine lv_iconst (v := (2 : Int32)) hx hb dX6_mark_109 (by decide) ?_
          refine lv_icmp_ne (tgt := 119) hx hb dX6_mark_110 (by decide) (fun c20 => ?_) (fun c20 => ?_)
          · have hf := z_f hf c20
            refine lv_iconst (v := (0 : Int32)) hx hb dX6_mark_119 (by decide) ?_
            refine lv_ior hx hb dX6_mark_120 ?_
            obtain ⟨h21, hf⟩ := z_gd_s hf
            refine zm_sX6_lacked hx hb hC (z_in h21) dX6_mark_121 (fun u22 eu22 H locs hC => ?_)
            have hf := z_nm_s hf eu22
            refine lv_iload hx hb dX6_mark_122 (lv_at hl 0 rfl) ?_
            exact z_reti hx hb hr hlk hC (Prod.mk.inj (Option.some.inj hf)).1 (Prod.mk.inj (Option.some.inj hf)).2 dX6_mark_124
          · have hf := z_t hf c20
            refine lv_iconst (v := (1 : Int32)) hx hb dX6_mark_113 (by decide) ?_
            refine lv_iload_n hx hb dX6_mark_114 rfl (lv_at hl 3 rfl) ?_
            refine lv_ishl hx hb dX6_mark_115 ?_
            refine lv_goto (tgt := 120) hx hb dX6_mark_116 (by decide) ?_
            refine lv_ior hx hb dX6_mark_120 ?_
            obtain ⟨h23, hf⟩ := z_gd_s hf
            refine zm_sX6_lacked hx hb hC (z_in h23) dX6_mark_121 (fun u24 eu24 H locs hC => ?_)
            have hf := z_nm_s hf eu24
            refine lv_iload hx hb dX6_mark_122 (lv_at hl 0 rfl) ?_
            exact z_reti hx hb hr hlk hC (Prod.mk.inj (Option.some.inj hf)).1 (Prod.mk.inj (Option.some.inj hf)).2 dX6_mark_124
      · have hf := z_t hf c3
        refine lv_bipush (v := (-2 : Int32)) hx hb dX6_mark_32 (by decide) ?_
        exact z_reti hx hb hr hlk hC (Prod.mk.inj (Option.some.inj hf)).1 (Prod.mk.inj (Option.some.inj hf)).2 dX6_mark_34
abbrev zr_X6_scoreOf : Room := { frames := 1, cells := 0, slots := 0, locals := 22 }
theorem zd_X6_scoreOf : yX6_scoreOf.cls ≠ "java/lang/invoke/MethodHandle" ∧ yX6_scoreOf.cls ≠ "java/lang/invoke/VarHandle" ∧ (parseMethodDescriptor yX6_scoreOf.desc).map (fun d => d.parameters.length) = some 2 := by decide +kernel
theorem zi_X6_scoreOf : ∀ w ∈ wsX60, w ∈ wsX6_scoreOf := fun _ h => List.mem_cons_of_mem _ (List.mem_append_right _ h)
set_option maxHeartbeats 4000000 in
set_option maxRecDepth 100000 in
theorem zc_X6_scoreOf (l : Launch) (D : va_G) (cI cJ : ClassId) (tp : Nat) (q : Nat → Nat) (u : z_St) (a_1 : Int32) (a_2 : Int32) {r : Int32} (hf : zf_X6_scoreOf u a_1 a_2 = some r) : z_Mi l yX6_scoreOf wsX6_scoreOf zr_X6_scoreOf (zm_W cI cJ q) (zm_G tp) D cI cJ [.ref (q 0), .int a_1, .int a_2] u r u := by
  refine z_ofi (cc := cX6_scoreOf) (maxL := 3) (ret := (some .int)) zm_Gok (by decide) rfl (Nat.le_of_ble_eq_true rfl) ?_
  intro A p e s m args below meth c ls E hr hlk hC hl
  have E : CallFix p m c cX6_scoreOf 3 s args wsX6_scoreOf RX6 := E
  have hx := E.1
  have hb := E.2.1
  have hml := E.2.2.1
  have hown := E.2.2.2.1
  have hts := E.2.2.2.2
  have hl : lv_has ls 3 [(0, .ref (q 0)), (1, .int a_1), (2, .int a_2)] := hl
  unfold zf_X6_scoreOf at hf
  have kf75 := hts (.fieldLink RX6 75 "DawnFairModel" "marks" "[I") (by decide +kernel)
  have kf28 := hts (.fieldLink RX6 28 "DawnFairModel" "seen" "[I") (by decide +kernel)
  have kf31 := hts (.fieldLink RX6 31 "DawnFairModel" "lacked" "[I") (by decide +kernel)
  refine lv_iconst (v := (2 : Int32)) hx hb dX6_scoreOf_0 (by decide) ?_
  refine lv_aload_n hx hb dX6_scoreOf_1 rfl (lv_at hl 0 rfl) ?_
  refine zm_gX6_marks hx hb hts zi_X6_scoreOf hown hC kf75 dX6_scoreOf_2 ?_
  refine lv_iload_n hx hb dX6_scoreOf_5 rfl (lv_at hl 1 rfl) ?_
  obtain ⟨h1, hf⟩ := z_gd_s hf
  refine zm_aX6_marks hx hb hC (z_in h1) dX6_scoreOf_6 ?_
  refine lv_aload_n hx hb dX6_scoreOf_7 rfl (lv_at hl 0 rfl) ?_
  refine zm_gX6_seen hx hb hts zi_X6_scoreOf hown hC kf28 dX6_scoreOf_8 ?_
  refine lv_iload_n hx hb dX6_scoreOf_11 rfl (lv_at hl 2 rfl) ?_
  obtain ⟨h2, hf⟩ := z_gd_s hf
  refine zm_aX6_seen hx hb hC (z_in h2) dX6_scoreOf_12 ?_
  refine lv_iand hx hb dX6_scoreOf_13 ?_
  obtain ⟨r3, pr3, hf⟩ := z_bd_s hf
  refine z_calli hC (z_runS (rest := [_]) zm_Gok hC E (zc_X6_bits l D cI cJ tp q u ((z_rI u 33 a_1.toNatClampNeg) &&& (z_rI u 7 a_2.toNatClampNeg)) pr3 _) (va_cwS 1 hts gX6_scoreOf_X6_bits rfl rfl rfl zd_X6_bits ⟨Nat.le_of_ble_eq_true rfl, Nat.le_of_ble_eq_true rfl⟩) rfl hl.1 rfl (Nat.le_of_ble_eq_true rfl) dX6_scoreOf_14 ⟨Nat.zero_le _, Nat.zero_le _⟩) (fun H locs hC => ?_)
  refine lv_imul hx hb dX6_scoreOf_17 ?_
  refine lv_iconst (v := (3 : Int32)) hx hb dX6_scoreOf_18 (by decide) ?_
  refine lv_aload_n hx hb dX6_scoreOf_19 rfl (lv_at hl 0 rfl) ?_
  refine zm_gX6_marks hx hb hts zi_X6_scoreOf hown hC kf75 dX6_scoreOf_20 ?_
  refine lv_iload_n hx hb dX6_scoreOf_23 rfl (lv_at hl 1 rfl) ?_
  obtain ⟨h4, hf⟩ := z_gd_s hf
  refine zm_aX6_marks hx hb hC (z_in h4) dX6_scoreOf_24 ?_
  refine lv_aload_n hx hb dX6_scoreOf_25 rfl (lv_at hl 0 rfl) ?_
  refine zm_gX6_lacked hx hb hts zi_X6_scoreOf hown hC kf31 dX6_scoreOf_26 ?_
  refine lv_iload_n hx hb dX6_scoreOf_29 rfl (lv_at hl 2 rfl) ?_
  obtain ⟨h5, hf⟩ := z_gd_s hf
  refine zm_aX6_lacked hx hb hC (z_in h5) dX6_scoreOf_30 ?_
  refine lv_iand hx hb dX6_scoreOf_31 ?_
  obtain ⟨r6, pr6, hf⟩ := z_bd_s hf
  refine z_calli hC (z_runS (rest := [_, _]) zm_Gok hC E (zc_X6_bits l D cI cJ tp q u ((z_rI u 33 a_1.toNatClampNeg) &&& (z_rI u 8 a_2.toNatClampNeg)) pr6 _) (va_cwS 1 hts gX6_scoreOf_X6_bits rfl rfl rfl zd_X6_bits ⟨Nat.le_of_ble_eq_true rfl, Nat.le_of_ble_eq_true rfl⟩) rfl hl.1 rfl (Nat.le_of_ble_eq_true rfl) dX6_scoreOf_32 ⟨Nat.zero_le _, Nat.zero_le _⟩) (fun H locs hC => ?_)
  refine lv_imul hx hb dX6_scoreOf_35 ?_
  refine lv_isub hx hb dX6_scoreOf_36 ?_
  refine lv_aload_n hx hb dX6_scoreOf_37 rfl (lv_at hl 0 rfl) ?_
  refine zm_gX6_seen hx hb hts zi_X6_scoreOf hown hC kf28 dX6_scoreOf_38 ?_
  refine lv_iload_n hx hb dX6_scoreOf_41 rfl (lv_at hl 2 rfl) ?_
  obtain ⟨h7, hf⟩ := z_gd_s hf
  refine zm_aX6_seen hx hb hC (z_in h7) dX6_scoreOf_42 ?_
  refine lv_aload_n hx hb dX6_scoreOf_43 rfl (lv_at hl 0 rfl) ?_
  refine zm_gX6_marks hx hb hts zi_X6_scoreOf hown hC kf75 dX6_scoreOf_44 ?_
  refine lv_iload_n hx hb dX6_scoreOf_47 rfl (lv_at hl 1 rfl) ?_
  obtain ⟨h8, hf⟩ := z_gd_s hf
  refine zm_aX6_marks hx hb hC (z_in h8) dX6_scoreOf_48 ?_
  refine lv_iconst (v := (-1 : Int32)) hx hb dX6_scoreOf_49 (by decide) ?_
  refine lv_ixor hx hb dX6_scoreOf_50 ?_
  refine lv_iand hx hb dX6_scoreOf_51 ?_
  obtain ⟨r9, pr9, hf⟩ := z_bd_s hf
  refine z_calli hC (z_runS (rest := [_]) zm_Gok hC E (zc_X6_bits l D cI cJ tp q u ((z_rI u 7 a_2.toNatClampNeg) &&& ((z_rI u 33 a_1.toNatClampNeg) ^^^ (-1 : Int32))) pr9 _) (va_cwS 1 hts gX6_scoreOf_X6_bits rfl rfl rfl zd_X6_bits ⟨Nat.le_of_ble_eq_true rfl, Nat.le_of_ble_eq_true rfl⟩) rfl hl.1 rfl (Nat.le_of_ble_eq_true rfl) dX6_scoreOf_52 ⟨Nat.zero_le _, Nat.zero_le _⟩) (fun H locs hC => ?_)
  refine lv_isub hx hb dX6_scoreOf_55 ?_
  exact z_reti hx hb hr hlk hC (Option.some.inj hf) rfl dX6_scoreOf_56
abbrev zr_X6_score : Room := { frames := 2, cells := 0, slots := 0, locals := 46 }
theorem zd_X6_score : yX6_score.cls ≠ "java/lang/invoke/MethodHandle" ∧ yX6_score.cls ≠ "java/lang/invoke/VarHandle" ∧ (parseMethodDescriptor yX6_score.desc).map (fun d => d.parameters.length) = some 2 := by decide +kernel
theorem zi_X6_score : ∀ w ∈ wsX60, w ∈ wsX6_score := fun _ h => List.mem_cons_of_mem _ (List.mem_append_right _ h)
set_option maxHeartbeats 4000000 in
set_option maxRecDepth 100000 in
theorem zc_X6_score (l : Launch) (D : va_G) (cI cJ : ClassId) (tp : Nat) (q : Nat → Nat) (u : z_St) (a_1 : Int32) (a_2 : Int32) {r : Int32} (hf : zf_X6_score u a_1 a_2 = some r) : z_Mi l yX6_score wsX6_score zr_X6_score (zm_W cI cJ q) (zm_G tp) D cI cJ [.ref (q 0), .int a_1, .int a_2] u r u := by
  refine z_ofi (cc := cX6_score) (maxL := 3) (ret := (some .int)) zm_Gok (by decide) rfl (Nat.le_of_ble_eq_true rfl) ?_
  intro A p e s m args below meth c ls E hr hlk hC hl
  have E : CallFix p m c cX6_score 3 s args wsX6_score RX6 := E
  have hx := E.1
  have hb := E.2.1
  have hml := E.2.2.1
  have hown := E.2.2.2.1
  have hts := E.2.2.2.2
  have hl : lv_has ls 3 [(0, .ref (q 0)), (1, .int a_1), (2, .int a_2)] := hl
  unfold zf_X6_score at hf
  have kf212 := hts (.fieldLink RX6 212 "DawnFairModel" "entries" "I") (by decide +kernel)
  refine lv_iload_n hx hb dX6_score_0 rfl (lv_at hl 1 rfl) ?_
  refine lv_i2l hx hb dX6_score_1 rfl ?_
  refine lv_lconst (v := (0 : Int64)) hx hb dX6_score_2 (by decide) ?_
  refine lv_aload_n hx hb dX6_score_3 rfl (lv_at hl 0 rfl) ?_
  refine zm_gX6_entries hx hb hts zi_X6_score hown hC kf212 dX6_score_4 ?_
  refine lv_iconst (v := (1 : Int32)) hx hb dX6_score_7 (by decide) ?_
  refine lv_isub hx hb dX6_score_8 ?_
  refine lv_i2l hx hb dX6_score_9 rfl ?_
  refine z_calli hC (z_runS (rest := []) zm_Gok hC E (zc_X6_in l D cI cJ tp q u a_1.toInt64 (0 : Int64) ((z_rI u 32 0) - (1 : Int32)).toInt64 rfl _) (va_cwS 3 hts gX6_score_X6_in rfl rfl rfl zd_X6_in ⟨Nat.le_of_ble_eq_true rfl, Nat.le_of_ble_eq_true rfl⟩) rfl hl.1 rfl (Nat.le_of_ble_eq_true rfl) dX6_score_10 ⟨Nat.zero_le _, Nat.zero_le _⟩) (fun H locs hC => ?_)
  refine lv_if_eq (tgt := 24) hx hb dX6_score_13 (by decide) (fun c1 => ?_) (fun c1 => ?_)
  · have hf := z_t hf c1
    refine lv_sipush (v := (-1000 : Int32)) hx hb dX6_score_24 (by decide) ?_
    refine lv_goto (tgt := 36) hx hb dX6_score_27 (by decide) ?_
    exact z_reti hx hb hr hlk hC (Option.some.inj hf) rfl dX6_score_36
  · have hf := z_f hf c1
    refine lv_aload_n hx hb dX6_score_16 rfl (lv_at hl 0 rfl) ?_
    refine lv_iload_n hx hb dX6_score_17 rfl (lv_at hl 2 rfl) ?_
    refine z_calli hC (z_runV (rest := []) zm_Gok hC E (zc_X6_noThing l D cI cJ tp q u a_2 rfl _) (cwV 1 hts gX6_score_X6_noThing rfl rfl rfl ⟨rfl, zd_X6_noThing⟩ ⟨Nat.le_of_ble_eq_true rfl, Nat.le_of_ble_eq_true rfl⟩) (zm_rcX6 hC) rfl hl.1 rfl (Nat.le_of_ble_eq_true rfl) dX6_score_18 ⟨Nat.zero_le _, Nat.zero_le _⟩) (fun H locs hC => ?_)
    refine lv_if_eq (tgt := 30) hx hb dX6_score_21 (by decide) (fun c2 => ?_) (fun c2 => ?_)
    · have hf := z_t hf c2
      refine lv_aload_n hx hb dX6_score_30 rfl (lv_at hl 0 rfl) ?_
      refine lv_iload_n hx hb dX6_score_31 rfl (lv_at hl 1 rfl) ?_
      refine lv_iload_n hx hb dX6_score_32 rfl (lv_at hl 2 rfl) ?_
      obtain ⟨r3, pr3, hf⟩ := z_bd_s hf
      refine z_calli hC (z_runV (rest := []) zm_Gok hC E (zc_X6_scoreOf l D cI cJ tp q u a_1 a_2 pr3 _) (cwV 2 hts gX6_score_X6_scoreOf rfl rfl rfl ⟨rfl, zd_X6_scoreOf⟩ ⟨Nat.le_of_ble_eq_true rfl, Nat.le_of_ble_eq_true rfl⟩) (zm_rcX6 hC) rfl hl.1 rfl (Nat.le_of_ble_eq_true rfl) dX6_score_33 ⟨Nat.zero_le _, Nat.zero_le _⟩) (fun H locs hC => ?_)
      exact z_reti hx hb hr hlk hC (Option.some.inj hf) rfl dX6_score_36
    · have hf := z_f hf c2
      refine lv_sipush (v := (-1000 : Int32)) hx hb dX6_score_24 (by decide) ?_
      refine lv_goto (tgt := 36) hx hb dX6_score_27 (by decide) ?_
      exact z_reti hx hb hr hlk hC (Option.some.inj hf) rfl dX6_score_36
end
