section
variable {p : Program} {l : Launch} {e : Env} {R : Room} {s : State} {m : MethodId} {args : Array Value} {below : List Frame} {meth : Method} {c : Code} {H : Heap} {locs : List Loc} {cells slots : Nat} {Q : State → Prop} {cc : ByteArray} {pc : Nat} {ls : Array Slot} {rest : List Value}
variable {D : va_G} {cI cJ : ClassId} {tp : Nat} {q : Nat → Nat} {A : Nat → Prop} {u : z_St} {Ts : List Cond}
abbrev zr_X6_in : Room := { frames := 0, cells := 0, slots := 0, locals := 0 }
theorem zd_X6_in : yX6_in.cls ≠ "java/lang/invoke/MethodHandle" ∧ yX6_in.cls ≠ "java/lang/invoke/VarHandle" ∧ (parseMethodDescriptor yX6_in.desc).map (fun d => d.parameters.length) = some 3 := by decide +kernel
set_option maxHeartbeats 4000000 in
set_option maxRecDepth 100000 in
theorem zc_X6_in (l : Launch) (D : va_G) (cI cJ : ClassId) (tp : Nat) (q : Nat → Nat) (u : z_St) (a_0 : Int64) (a_2 : Int64) (a_4 : Int64) {r : Int32} (hf : zf_X6_in a_0 a_2 a_4 = r) : z_Mi l yX6_in wsX6_in zr_X6_in (zm_W cI cJ q) (zm_G tp) D cI cJ [.long a_0, .long a_2, .long a_4] u r u := by
  refine z_ofi (cc := cX6_in) (maxL := 6) (ret := (some .boolean)) zm_Gok (by decide) rfl (Nat.le_of_ble_eq_true rfl) ?_
  intro A p e s m args below meth c ls E hr hlk hC hl
  have E : CallFix p m c cX6_in 6 s args wsX6_in RX6 := E
  have hx := E.1
  have hb := E.2.1
  have hml := E.2.2.1
  have hown := E.2.2.2.1
  have hts := E.2.2.2.2
  have hl : lv_has ls 6 [(0, .long a_0), (2, .long a_2), (4, .long a_4)] := hl
  unfold zf_X6_in at hf
  refine lv_lload_n hx hb dX6_in_0 rfl (lv_at hl 0 rfl) ?_
  refine lv_lload_n hx hb dX6_in_1 rfl (lv_at hl 1 rfl) ?_
  refine W.lcmp hx hb dX6_in_2 ?_
  refine lv_if_lt (tgt := 17) hx hb dX6_in_3 (by decide) (fun c1 => ?_) (fun c1 => ?_)
  · have hf := z_t hf c1
    refine lv_iconst (v := (0 : Int32)) hx hb dX6_in_17 (by decide) ?_
    exact z_retz hx hb hr hlk hC rfl hf rfl dX6_in_18
  · have hf := z_f hf c1
    refine lv_lload_n hx hb dX6_in_6 rfl (lv_at hl 0 rfl) ?_
    refine lv_lload hx hb dX6_in_7 (lv_at hl 2 rfl) ?_
    refine W.lcmp hx hb dX6_in_9 ?_
    refine lv_if_gt (tgt := 17) hx hb dX6_in_10 (by decide) (fun c2 => ?_) (fun c2 => ?_)
    · have hf := z_t hf c2
      refine lv_iconst (v := (0 : Int32)) hx hb dX6_in_17 (by decide) ?_
      exact z_retz hx hb hr hlk hC rfl hf rfl dX6_in_18
    · have hf := z_f hf c2
      refine lv_iconst (v := (1 : Int32)) hx hb dX6_in_13 (by decide) ?_
      refine lv_goto (tgt := 18) hx hb dX6_in_14 (by decide) ?_
      exact z_retz hx hb hr hlk hC rfl hf rfl dX6_in_18
abbrev zr_X6_isDealer : Room := { frames := 1, cells := 0, slots := 0, locals := 25 }
theorem zd_X6_isDealer : yX6_isDealer.cls ≠ "java/lang/invoke/MethodHandle" ∧ yX6_isDealer.cls ≠ "java/lang/invoke/VarHandle" ∧ (parseMethodDescriptor yX6_isDealer.desc).map (fun d => d.parameters.length) = some 1 := by decide +kernel
set_option maxHeartbeats 4000000 in
set_option maxRecDepth 100000 in
theorem zc_X6_isDealer (l : Launch) (D : va_G) (cI cJ : ClassId) (tp : Nat) (q : Nat → Nat) (u : z_St) (a_0 : Int32) {r : Int32} (hf : zf_X6_isDealer a_0 = r) : z_Mi l yX6_isDealer wsX6_isDealer zr_X6_isDealer (zm_W cI cJ q) (zm_G tp) D cI cJ [.int a_0] u r u := by
  refine z_ofi (cc := cX6_isDealer) (maxL := 1) (ret := (some .boolean)) zm_Gok (by decide) rfl (Nat.le_of_ble_eq_true rfl) ?_
  intro A p e s m args below meth c ls E hr hlk hC hl
  have E : CallFix p m c cX6_isDealer 1 s args wsX6_isDealer RX6 := E
  have hx := E.1
  have hb := E.2.1
  have hml := E.2.2.1
  have hown := E.2.2.2.1
  have hts := E.2.2.2.2
  have hl : lv_has ls 1 [(0, .int a_0)] := hl
  unfold zf_X6_isDealer at hf
  have kl90 := hts (.constantLong RX6 90 (7)) (by decide +kernel)
  refine lv_iload_n hx hb dX6_isDealer_0 rfl (lv_at hl 0 rfl) ?_
  refine lv_i2l hx hb dX6_isDealer_1 rfl ?_
  refine lv_lconst (v := (0 : Int64)) hx hb dX6_isDealer_2 (by decide) ?_
  refine lv_ldc2 (own := RX6) (v := (7 : Int64)) hx hb hown kl90 dX6_isDealer_3 ?_
  refine z_calli hC (z_runS (rest := []) zm_Gok hC E (zc_X6_in l D cI cJ tp q u a_0.toInt64 (0 : Int64) (7 : Int64) rfl _) (va_cwS 3 hts gX6_isDealer_X6_in rfl rfl rfl zd_X6_in ⟨Nat.le_of_ble_eq_true rfl, Nat.le_of_ble_eq_true rfl⟩) rfl hl.1 rfl (Nat.le_of_ble_eq_true rfl) dX6_isDealer_6 ⟨Nat.zero_le _, Nat.zero_le _⟩) (fun H locs hC => ?_)
  exact z_retz hx hb hr hlk hC (zn_X6_in _ _ _) hf rfl dX6_isDealer_9
abbrev zr_X6_work : Room := { frames := 1, cells := 0, slots := 0, locals := 25 }
theorem zd_X6_work : yX6_work.cls ≠ "java/lang/invoke/MethodHandle" ∧ yX6_work.cls ≠ "java/lang/invoke/VarHandle" ∧ (parseMethodDescriptor yX6_work.desc).map (fun d => d.parameters.length) = some 3 := by decide +kernel
theorem zi_X6_work : ∀ w ∈ wsX60, w ∈ wsX6_work := fun _ h => List.mem_cons_of_mem _ (List.mem_append_right _ h)
set_option maxHeartbeats 4000000 in
set_option maxRecDepth 100000 in
theorem zc_X6_work (l : Launch) (D : va_G) (cI cJ : ClassId) (tp : Nat) (q : Nat → Nat) (u : z_St) (a_1 : Int32) (a_2 : Int32) (a_3 : Int32) {r : Int32} {u2 : z_St} (hf : zf_X6_work u a_1 a_2 a_3 = some (r, u2)) : z_Mi l yX6_work wsX6_work zr_X6_work (zm_W cI cJ q) (zm_G tp) D cI cJ [.ref (q 0), .int a_1, .int a_2, .int a_3] u r u2 := by
  refine z_ofi (cc := cX6_work) (maxL := 4) (ret := (some .int)) zm_Gok (by decide) rfl (Nat.le_of_ble_eq_true rfl) ?_
  intro A p e s m args below meth c ls E hr hlk hC hl
  have E : CallFix p m c cX6_work 4 s args wsX6_work RX6 := E
  have hx := E.1
  have hb := E.2.1
  have hml := E.2.2.1
  have hown := E.2.2.2.1
  have hts := E.2.2.2.2
  have hl : lv_has ls 4 [(0, .ref (q 0)), (1, .int a_1), (2, .int a_2), (3, .int a_3)] := hl
  unfold zf_X6_work at hf
  have kl96 := hts (.constantLong RX6 96 (9)) (by decide +kernel)
  have kl98 := hts (.constantLong RX6 98 (1600)) (by decide +kernel)
  have kl100 := hts (.constantLong RX6 100 (1950)) (by decide +kernel)
  have kf7 := hts (.fieldLink RX6 7 "DawnFairModel" "since" "[I") (by decide +kernel)
  have kf13 := hts (.fieldLink RX6 13 "DawnFairModel" "until" "[I") (by decide +kernel)
  refine lv_iload_n hx hb dX6_work_0 rfl (lv_at hl 1 rfl) ?_
  refine lv_i2l hx hb dX6_work_1 rfl ?_
  refine lv_lconst (v := (0 : Int64)) hx hb dX6_work_2 (by decide) ?_
  refine lv_ldc2 (own := RX6) (v := (9 : Int64)) hx hb hown kl96 dX6_work_3 ?_
  refine z_calli hC (z_runS (rest := []) zm_Gok hC E (zc_X6_in l D cI cJ tp q u a_1.toInt64 (0 : Int64) (9 : Int64) rfl _) (va_cwS 3 hts gX6_work_X6_in rfl rfl rfl zd_X6_in ⟨Nat.le_of_ble_eq_true rfl, Nat.le_of_ble_eq_true rfl⟩) rfl hl.1 rfl (Nat.le_of_ble_eq_true rfl) dX6_work_6 ⟨Nat.zero_le _, Nat.zero_le _⟩) (fun H locs hC => ?_)
  refine lv_if_eq (tgt := 39) hx hb dX6_work_9 (by decide) (fun c1 => ?_) (fun c1 => ?_)
  · have hf := z_t hf c1
    refine lv_bipush (v := (-2 : Int32)) hx hb dX6_work_39 (by decide) ?_
    exact z_reti hx hb hr hlk hC (Prod.mk.inj (Option.some.inj hf)).1 (Prod.mk.inj (Option.some.inj hf)).2 dX6_work_41
  · have hf := z_f hf c1
    refine lv_iload_n hx hb dX6_work_12 rfl (lv_at hl 2 rfl) ?_
    refine lv_i2l hx hb dX6_work_13 rfl ?_
    refine lv_ldc2 (own := RX6) (v := (1600 : Int64)) hx hb hown kl98 dX6_work_14 ?_
    refine lv_ldc2 (own := RX6) (v := (1950 : Int64)) hx hb hown kl100 dX6_work_17 ?_
    refine z_calli hC (z_runS (rest := []) zm_Gok hC E (zc_X6_in l D cI cJ tp q u a_2.toInt64 (1600 : Int64) (1950 : Int64) rfl _) (va_cwS 3 hts gX6_work_X6_in rfl rfl rfl zd_X6_in ⟨Nat.le_of_ble_eq_true rfl, Nat.le_of_ble_eq_true rfl⟩) rfl hl.1 rfl (Nat.le_of_ble_eq_true rfl) dX6_work_20 ⟨Nat.zero_le _, Nat.zero_le _⟩) (fun H locs hC => ?_)
    refine lv_if_eq (tgt := 39) hx hb dX6_work_23 (by decide) (fun c2 => ?_) (fun c2 => ?_)
    · have hf := z_t hf c2
      refine lv_bipush (v := (-2 : Int32)) hx hb dX6_work_39 (by decide) ?_
      exact z_reti hx hb hr hlk hC (Prod.mk.inj (Option.some.inj hf)).1 (Prod.mk.inj (Option.some.inj hf)).2 dX6_work_41
    · have hf := z_f hf c2
      refine lv_iload_n hx hb dX6_work_26 rfl (lv_at hl 3 rfl) ?_
      refine lv_i2l hx hb dX6_work_27 rfl ?_
      refine lv_iload_n hx hb dX6_work_28 rfl (lv_at hl 2 rfl) ?_
      refine lv_i2l hx hb dX6_work_29 rfl ?_
      refine lv_ldc2 (own := RX6) (v := (1950 : Int64)) hx hb hown kl100 dX6_work_30 ?_
      refine z_calli hC (z_runS (rest := []) zm_Gok hC E (zc_X6_in l D cI cJ tp q u a_3.toInt64 a_2.toInt64 (1950 : Int64) rfl _) (va_cwS 3 hts gX6_work_X6_in rfl rfl rfl zd_X6_in ⟨Nat.le_of_ble_eq_true rfl, Nat.le_of_ble_eq_true rfl⟩) rfl hl.1 rfl (Nat.le_of_ble_eq_true rfl) dX6_work_33 ⟨Nat.zero_le _, Nat.zero_le _⟩) (fun H locs hC => ?_)
      refine lv_if_ne (tgt := 42) hx hb dX6_work_36 (by decide) (fun c3 => ?_) (fun c3 => ?_)
      · have hf := z_f hf c3
        refine lv_aload_n hx hb dX6_work_42 rfl (lv_at hl 0 rfl) ?_
        refine zm_gX6_since hx hb hts zi_X6_work hown hC kf7 dX6_work_43 ?_
        refine lv_iload_n hx hb dX6_work_46 rfl (lv_at hl 1 rfl) ?_
        refine lv_iload_n hx hb dX6_work_47 rfl (lv_at hl 2 rfl) ?_
        obtain ⟨h4, hf⟩ := z_gd_s hf
        refine zm_sX6_since hx hb hC (z_in h4) dX6_work_48 (fun u5 eu5 H locs hC => ?_)
        have hf := z_nm_s hf eu5
        refine lv_aload_n hx hb dX6_work_49 rfl (lv_at hl 0 rfl) ?_
        refine zm_gX6_until hx hb hts zi_X6_work hown hC kf13 dX6_work_50 ?_
        refine lv_iload_n hx hb dX6_work_53 rfl (lv_at hl 1 rfl) ?_
        refine lv_iload_n hx hb dX6_work_54 rfl (lv_at hl 3 rfl) ?_
        obtain ⟨h6, hf⟩ := z_gd_s hf
        refine zm_sX6_until hx hb hC (z_in h6) dX6_work_55 (fun u7 eu7 H locs hC => ?_)
        have hf := z_nm_s hf eu7
        refine lv_iconst (v := (1 : Int32)) hx hb dX6_work_56 (by decide) ?_
        exact z_reti hx hb hr hlk hC (Prod.mk.inj (Option.some.inj hf)).1 (Prod.mk.inj (Option.some.inj hf)).2 dX6_work_57
      · have hf := z_t hf c3
        refine lv_bipush (v := (-2 : Int32)) hx hb dX6_work_39 (by decide) ?_
        exact z_reti hx hb hr hlk hC (Prod.mk.inj (Option.some.inj hf)).1 (Prod.mk.inj (Option.some.inj hf)).2 dX6_work_41
abbrev zr_X6_thing : Room := { frames := 1, cells := 0, slots := 0, locals := 25 }
theorem zd_X6_thing : yX6_thing.cls ≠ "java/lang/invoke/MethodHandle" ∧ yX6_thing.cls ≠ "java/lang/invoke/VarHandle" ∧ (parseMethodDescriptor yX6_thing.desc).map (fun d => d.parameters.length) = some 1 := by decide +kernel
theorem zi_X6_thing : ∀ w ∈ wsX60, w ∈ wsX6_thing := fun _ h => List.mem_cons_of_mem _ (List.mem_append_right _ h)
set_option maxHeartbeats 4000000 in
set_option maxRecDepth 100000 in
theorem zl_X6_thing_39 (E : CallFix p m c cX6_thing 3 s args wsX6_thing RX6) : ∀ (n : Nat) (x_2 : Int32) (u : z_St) (H : Heap) (locs : List Loc) (ls : Array Slot) (o_2 : Int32) (ou : z_St), zf_X6_thing_39 n x_2 u = some (o_2, ou) → z_C (zm_W cI cJ q) (zm_G tp) D cI cJ A s u H locs → lv_has ls 3 [(0, .ref (q 0)), (2, .int x_2)] → (∀ (H : Heap) (locs : List Loc) (ls : Array Slot), z_C (zm_W cI cJ q) (zm_G tp) D cI cJ A s ou H locs → lv_has ls 3 [(0, .ref (q 0)), (2, .int o_2)] → W p l e zr_X6_thing s m args below meth c H locs 0 0 Q (F0 m 64 ls [])) → W p l e zr_X6_thing s m args below meth c H locs 0 0 Q (F0 m 39 ls []) := by
  have hx := E.1
  have hb := E.2.1
  have hml := E.2.2.1
  have hown := E.2.2.2.1
  have hts := E.2.2.2.2
  intro n
  induction n with
  | zero =>
    intro x_2 u H locs ls o_2 ou hf
    rw [zf_X6_thing_39.eq_1] at hf
    cases hf
  | succ n ih =>
    intro x_2 u H locs ls o_2 ou hf hC hl kk
    rw [zf_X6_thing_39.eq_2] at hf
    have kf19 := hts (.fieldLink RX6 19 "DawnFairModel" "worksOf" "[I") (by decide +kernel)
    have kf104 := hts (.fieldLink RX6 104 "DawnFairModel" "things" "I") (by decide +kernel)
    refine lv_iload_n hx hb dX6_thing_39 rfl (lv_at hl 1 rfl) ?_
    refine lv_iconst (v := (5 : Int32)) hx hb dX6_thing_40 (by decide) ?_
    refine lv_icmp_ge (tgt := 64) hx hb dX6_thing_41 (by decide) (fun c1 => ?_) (fun c1 => ?_)
    · have hf := z_t hf c1
      cases hf
      exact kk _ _ _ hC (lv_sub hl [0, 1] rfl)
    · have hf := z_f hf c1
      refine lv_aload_n hx hb dX6_thing_44 rfl (lv_at hl 0 rfl) ?_
      refine zm_gX6_worksOf hx hb hts zi_X6_thing hown hC kf19 dX6_thing_45 ?_
      refine lv_iconst (v := (5 : Int32)) hx hb dX6_thing_48 (by decide) ?_
      refine lv_aload_n hx hb dX6_thing_49 rfl (lv_at hl 0 rfl) ?_
      refine zm_gX6_things hx hb hts zi_X6_thing hown hC kf104 dX6_thing_50 ?_
      refine lv_imul hx hb dX6_thing_53 ?_
      refine lv_iload_n hx hb dX6_thing_54 rfl (lv_at hl 1 rfl) ?_
      refine lv_iadd hx hb dX6_thing_55 ?_
      refine lv_iconst (v := (0 : Int32)) hx hb dX6_thing_56 (by decide) ?_
      obtain ⟨h2, hf⟩ := z_gd_s hf
      refine zm_sX6_worksOf hx hb hC (z_in h2) dX6_thing_57 (fun u3 eu3 H locs hC => ?_)
      have hf := z_nm_s hf eu3
      obtain ⟨x4, ex4⟩ : ∃ z : Int32, z = (x_2 + (1 : Int32)) := ⟨_, rfl⟩
      have hf := z_nm_s hf ex4
      refine lv_iinc (v := x4) (lv' := [(2, _), (0, _)]) hx hb dX6_thing_58 hl (k := 1) rfl (by rw [ex4]; rfl) (by decide) rfl (fun ls hl => ?_)
      refine lv_goto (tgt := 39) hx hb dX6_thing_61 (by decide) ?_
      exact ih x4 u3 _ _ _ _ _ hf hC (lv_sub hl [1, 0] rfl) kk
set_option maxHeartbeats 4000000 in
set_option maxRecDepth 100000 in
theorem zc_X6_thing (l : Launch) (D : va_G) (cI cJ : ClassId) (tp : Nat) (q : Nat → Nat) (u : z_St) (a_1 : Int32) {r : Int32} {u2 : z_St} (hf : zf_X6_thing u a_1 = some (r, u2)) : z_Mi l yX6_thing wsX6_thing zr_X6_thing (zm_W cI cJ q) (zm_G tp) D cI cJ [.ref (q 0), .int a_1] u r u2 := by
  refine z_ofi (cc := cX6_thing) (maxL := 3) (ret := (some .int)) zm_Gok (by decide) rfl (Nat.le_of_ble_eq_true rfl) ?_
  intro A p e s m args below meth c ls E hr hlk hC hl
  have E : CallFix p m c cX6_thing 3 s args wsX6_thing RX6 := E
  have hx := E.1
  have hb := E.2.1
  have hml := E.2.2.1
  have hown := E.2.2.2.1
  have hts := E.2.2.2.2
  have hl : lv_has ls 3 [(0, .ref (q 0)), (1, .int a_1)] := hl
  unfold zf_X6_thing at hf
  have kl102 := hts (.constantLong RX6 102 (5)) (by decide +kernel)
  have kf104 := hts (.fieldLink RX6 104 "DawnFairModel" "things" "I") (by decide +kernel)
  have kf16 := hts (.fieldLink RX6 16 "DawnFairModel" "parts" "[I") (by decide +kernel)
  have kf22 := hts (.fieldLink RX6 22 "DawnFairModel" "holder" "[I") (by decide +kernel)
  have kf25 := hts (.fieldLink RX6 25 "DawnFairModel" "latest" "[I") (by decide +kernel)
  have kf28 := hts (.fieldLink RX6 28 "DawnFairModel" "seen" "[I") (by decide +kernel)
  have kf31 := hts (.fieldLink RX6 31 "DawnFairModel" "lacked" "[I") (by decide +kernel)
  refine lv_iload_n hx hb dX6_thing_0 rfl (lv_at hl 1 rfl) ?_
  refine lv_i2l hx hb dX6_thing_1 rfl ?_
  refine lv_lconst (v := (1 : Int64)) hx hb dX6_thing_2 (by decide) ?_
  refine lv_ldc2 (own := RX6) (v := (5 : Int64)) hx hb hown kl102 dX6_thing_3 ?_
  refine z_calli hC (z_runS (rest := []) zm_Gok hC E (zc_X6_in l D cI cJ tp q u a_1.toInt64 (1 : Int64) (5 : Int64) rfl _) (va_cwS 3 hts gX6_thing_X6_in rfl rfl rfl zd_X6_in ⟨Nat.le_of_ble_eq_true rfl, Nat.le_of_ble_eq_true rfl⟩) rfl hl.1 rfl (Nat.le_of_ble_eq_true rfl) dX6_thing_6 ⟨Nat.zero_le _, Nat.zero_le _⟩) (fun H locs hC => ?_)
  refine lv_if_ne (tgt := 15) hx hb dX6_thing_9 (by decide) (fun c1 => ?_) (fun c1 => ?_)
  · have hf := z_f hf c1
    refine lv_aload_n hx hb dX6_thing_15 rfl (lv_at hl 0 rfl) ?_
    refine zm_gX6_things hx hb hts zi_X6_thing hown hC kf104 dX6_thing_16 ?_
    refine lv_bipush (v := (12 : Int32)) hx hb dX6_thing_19 (by decide) ?_
    refine lv_icmp_ne (tgt := 27) hx hb dX6_thing_21 (by decide) (fun c2 => ?_) (fun c2 => ?_)
    · have hf := z_f hf c2
      refine lv_aload_n hx hb dX6_thing_27 rfl (lv_at hl 0 rfl) ?_
      refine zm_gX6_parts hx hb hts zi_X6_thing hown hC kf16 dX6_thing_28 ?_
      refine lv_aload_n hx hb dX6_thing_31 rfl (lv_at hl 0 rfl) ?_
      refine zm_gX6_things hx hb hts zi_X6_thing hown hC kf104 dX6_thing_32 ?_
      refine lv_iload_n hx hb dX6_thing_35 rfl (lv_at hl 1 rfl) ?_
      obtain ⟨h3, hf⟩ := z_gd_s hf
      refine zm_sX6_parts hx hb hC (z_in h3) dX6_thing_36 (fun u4 eu4 H locs hC => ?_)
      have hf := z_nm_s hf eu4
      refine lv_iconst (v := (0 : Int32)) hx hb dX6_thing_37 (by decide) ?_
      refine lv_istore_n (lv' := [(2, _), (0, _), (1, _)]) hx hb dX6_thing_38 rfl hl (by decide) rfl (fun ls hl => ?_)
      obtain ⟨y5, u6, py5, hf⟩ := z_bd2_s hf
      refine zl_X6_thing_39 E 5000 (0 : Int32) u4 _ _ _ _ _ py5 hC (lv_sub hl [1, 0] rfl) (fun H locs ls hC hl => ?_)
      refine lv_aload_n hx hb dX6_thing_64 rfl (lv_at hl 0 rfl) ?_
      refine zm_gX6_holder hx hb hts zi_X6_thing hown hC kf22 dX6_thing_65 ?_
      refine lv_aload_n hx hb dX6_thing_68 rfl (lv_at hl 0 rfl) ?_
      refine zm_gX6_things hx hb hts zi_X6_thing hown hC kf104 dX6_thing_69 ?_
      refine lv_iconst (v := (-1 : Int32)) hx hb dX6_thing_72 (by decide) ?_
      obtain ⟨h7, hf⟩ := z_gd_s hf
      refine zm_sX6_holder hx hb hC (z_in h7) dX6_thing_73 (fun u8 eu8 H locs hC => ?_)
      have hf := z_nm_s hf eu8
      refine lv_aload_n hx hb dX6_thing_74 rfl (lv_at hl 0 rfl) ?_
      refine zm_gX6_latest hx hb hts zi_X6_thing hown hC kf25 dX6_thing_75 ?_
      refine lv_aload_n hx hb dX6_thing_78 rfl (lv_at hl 0 rfl) ?_
      refine zm_gX6_things hx hb hts zi_X6_thing hown hC kf104 dX6_thing_79 ?_
      refine lv_iconst (v := (-1 : Int32)) hx hb dX6_thing_82 (by decide) ?_
      obtain ⟨h9, hf⟩ := z_gd_s hf
      refine zm_sX6_latest hx hb hC (z_in h9) dX6_thing_83 (fun u10 eu10 H locs hC => ?_)
      have hf := z_nm_s hf eu10
      refine lv_aload_n hx hb dX6_thing_84 rfl (lv_at hl 0 rfl) ?_
      refine zm_gX6_seen hx hb hts zi_X6_thing hown hC kf28 dX6_thing_85 ?_
      refine lv_aload_n hx hb dX6_thing_88 rfl (lv_at hl 0 rfl) ?_
      refine zm_gX6_things hx hb hts zi_X6_thing hown hC kf104 dX6_thing_89 ?_
      refine lv_iconst (v := (0 : Int32)) hx hb dX6_thing_92 (by decide) ?_
      obtain ⟨h11, hf⟩ := z_gd_s hf
      refine zm_sX6_seen hx hb hC (z_in h11) dX6_thing_93 (fun u12 eu12 H locs hC => ?_)
      have hf := z_nm_s hf eu12
      refine lv_aload_n hx hb dX6_thing_94 rfl (lv_at hl 0 rfl) ?_
      refine zm_gX6_lacked hx hb hts zi_X6_thing hown hC kf31 dX6_thing_95 ?_
      refine lv_aload_n hx hb dX6_thing_98 rfl (lv_at hl 0 rfl) ?_
      refine zm_gX6_things hx hb hts zi_X6_thing hown hC kf104 dX6_thing_99 ?_
      refine lv_iconst (v := (0 : Int32)) hx hb dX6_thing_102 (by decide) ?_
      obtain ⟨h13, hf⟩ := z_gd_s hf
      refine zm_sX6_lacked hx hb hC (z_in h13) dX6_thing_103 (fun u14 eu14 H locs hC => ?_)
      have hf := z_nm_s hf eu14
      refine lv_aload_n hx hb dX6_thing_104 rfl (lv_at hl 0 rfl) ?_
      refine lv_dup hx hb dX6_thing_105 rfl ?_
      refine zm_gX6_things hx hb hts zi_X6_thing hown hC kf104 dX6_thing_106 ?_
      refine lv_iconst (v := (1 : Int32)) hx hb dX6_thing_109 (by decide) ?_
      refine lv_iadd hx hb dX6_thing_110 ?_
      refine zm_pX6_things hx hb hts zi_X6_thing hown hC kf104 dX6_thing_111 (fun u15 eu15 H locs hC => ?_)
      have hf := z_nm_s hf eu15
      refine lv_aload_n hx hb dX6_thing_114 rfl (lv_at hl 0 rfl) ?_
      refine zm_gX6_things hx hb hts zi_X6_thing hown hC kf104 dX6_thing_115 ?_
      refine lv_iconst (v := (1 : Int32)) hx hb dX6_thing_118 (by decide) ?_
      refine lv_isub hx hb dX6_thing_119 ?_
      exact z_reti hx hb hr hlk hC (Prod.mk.inj (Option.some.inj hf)).1 (Prod.mk.inj (Option.some.inj hf)).2 dX6_thing_120
    · have hf := z_t hf c2
      refine lv_bipush (v := (-4 : Int32)) hx hb dX6_thing_24 (by decide) ?_
      exact z_reti hx hb hr hlk hC (Prod.mk.inj (Option.some.inj hf)).1 (Prod.mk.inj (Option.some.inj hf)).2 dX6_thing_26
  · have hf := z_t hf c1
    refine lv_bipush (v := (-2 : Int32)) hx hb dX6_thing_12 (by decide) ?_
    exact z_reti hx hb hr hlk hC (Prod.mk.inj (Option.some.inj hf)).1 (Prod.mk.inj (Option.some.inj hf)).2 dX6_thing_14
abbrev zr_X6_noThing : Room := { frames := 1, cells := 0, slots := 0, locals := 25 }
theorem zd_X6_noThing : yX6_noThing.cls ≠ "java/lang/invoke/MethodHandle" ∧ yX6_noThing.cls ≠ "java/lang/invoke/VarHandle" ∧ (parseMethodDescriptor yX6_noThing.desc).map (fun d => d.parameters.length) = some 1 := by decide +kernel
theorem zi_X6_noThing : ∀ w ∈ wsX60, w ∈ wsX6_noThing := fun _ h => List.mem_cons_of_mem _ (List.mem_append_right _ h)
set_option maxHeartbeats 4000000 in
set_option maxRecDepth 100000 in
theorem zc_X6_noThing (l : Launch) (D : va_G) (cI cJ : ClassId) (tp : Nat) (q : Nat → Nat) (u : z_St) (a_1 : Int32) {r : Int32} (hf : zf_X6_noThing u a_1 = r) : z_Mi l yX6_noThing wsX6_noThing zr_X6_noThing (zm_W cI cJ q) (zm_G tp) D cI cJ [.ref (q 0), .int a_1] u r u := by
  refine z_ofi (cc := cX6_noThing) (maxL := 2) (ret := (some .boolean)) zm_Gok (by decide) rfl (Nat.le_of_ble_eq_true rfl) ?_
  intro A p e s m args below meth c ls E hr hlk hC hl
  have E : CallFix p m c cX6_noThing 2 s args wsX6_noThing RX6 := E
  have hx := E.1
  have hb := E.2.1
  have hml := E.2.2.1
  have hown := E.2.2.2.1
  have hts := E.2.2.2.2
  have hl : lv_has ls 2 [(0, .ref (q 0)), (1, .int a_1)] := hl
  unfold zf_X6_noThing at hf
  have kf104 := hts (.fieldLink RX6 104 "DawnFairModel" "things" "I") (by decide +kernel)
  refine lv_iload_n hx hb dX6_noThing_0 rfl (lv_at hl 1 rfl) ?_
  refine lv_i2l hx hb dX6_noThing_1 rfl ?_
  refine lv_lconst (v := (0 : Int64)) hx hb dX6_noThing_2 (by decide) ?_
  refine lv_aload_n hx hb dX6_noThing_3 rfl (lv_at hl 0 rfl) ?_
  refine zm_gX6_things hx hb hts zi_X6_noThing hown hC kf104 dX6_noThing_4 ?_
  refine lv_iconst (v := (1 : Int32)) hx hb dX6_noThing_7 (by decide) ?_
  refine lv_isub hx hb dX6_noThing_8 ?_
  refine lv_i2l hx hb dX6_noThing_9 rfl ?_
  refine z_calli hC (z_runS (rest := []) zm_Gok hC E (zc_X6_in l D cI cJ tp q u a_1.toInt64 (0 : Int64) ((z_rI u 2 0) - (1 : Int32)).toInt64 rfl _) (va_cwS 3 hts gX6_noThing_X6_in rfl rfl rfl zd_X6_in ⟨Nat.le_of_ble_eq_true rfl, Nat.le_of_ble_eq_true rfl⟩) rfl hl.1 rfl (Nat.le_of_ble_eq_true rfl) dX6_noThing_10 ⟨Nat.zero_le _, Nat.zero_le _⟩) (fun H locs hC => ?_)
  refine lv_if_ne (tgt := 20) hx hb dX6_noThing_13 (by decide) (fun c1 => ?_) (fun c1 => ?_)
  · have hf := z_f hf c1
    refine lv_iconst (v := (0 : Int32)) hx hb dX6_noThing_20 (by decide) ?_
    exact z_retz hx hb hr hlk hC rfl hf rfl dX6_noThing_21
  · have hf := z_t hf c1
    refine lv_iconst (v := (1 : Int32)) hx hb dX6_noThing_16 (by decide) ?_
    refine lv_goto (tgt := 21) hx hb dX6_noThing_17 (by decide) ?_
    exact z_retz hx hb hr hlk hC rfl hf rfl dX6_noThing_21
abbrev zr_X6_part : Room := { frames := 2, cells := 0, slots := 0, locals := 46 }
theorem zd_X6_part : yX6_part.cls ≠ "java/lang/invoke/MethodHandle" ∧ yX6_part.cls ≠ "java/lang/invoke/VarHandle" ∧ (parseMethodDescriptor yX6_part.desc).map (fun d => d.parameters.length) = some 3 := by decide +kernel
theorem zi_X6_part : ∀ w ∈ wsX60, w ∈ wsX6_part := fun _ h => List.mem_cons_of_mem _ (List.mem_append_right _ h)
set_option maxHeartbeats 4000000 in
set_option maxRecDepth 100000 in
theorem zc_X6_part (l : Launch) (D : va_G) (cI cJ : ClassId) (tp : Nat) (q : Nat → Nat) (u : z_St) (a_1 : Int32) (a_2 : Int32) (a_3 : Int32) {r : Int32} {u2 : z_St} (hf : zf_X6_part u a_1 a_2 a_3 = some (r, u2)) : z_Mi l yX6_part wsX6_part zr_X6_part (zm_W cI cJ q) (zm_G tp) D cI cJ [.ref (q 0), .int a_1, .int a_2, .int a_3] u r u2 := by
  refine z_ofi (cc := cX6_part) (maxL := 5) (ret := (some .int)) zm_Gok (by decide) rfl (Nat.le_of_ble_eq_true rfl) ?_
  intro A p e s m args below meth c ls E hr hlk hC hl
  have E : CallFix p m c cX6_part 5 s args wsX6_part RX6 := E
  have hx := E.1
  have hb := E.2.1
  have hml := E.2.2.1
  have hown := E.2.2.2.1
  have hts := E.2.2.2.2
  have hl : lv_has ls 5 [(0, .ref (q 0)), (1, .int a_1), (2, .int a_2), (3, .int a_3)] := hl
  unfold zf_X6_part at hf
  have kf16 := hts (.fieldLink RX6 16 "DawnFairModel" "parts" "[I") (by decide +kernel)
  have kl111 := hts (.constantLong RX6 111 (1023)) (by decide +kernel)
  have kf19 := hts (.fieldLink RX6 19 "DawnFairModel" "worksOf" "[I") (by decide +kernel)
  refine lv_aload_n hx hb dX6_part_0 rfl (lv_at hl 0 rfl) ?_
  refine lv_iload_n hx hb dX6_part_1 rfl (lv_at hl 1 rfl) ?_
  refine z_calli hC (z_runV (rest := []) zm_Gok hC E (zc_X6_noThing l D cI cJ tp q u a_1 rfl _) (cwV 1 hts gX6_part_X6_noThing rfl rfl rfl ⟨rfl, zd_X6_noThing⟩ ⟨Nat.le_of_ble_eq_true rfl, Nat.le_of_ble_eq_true rfl⟩) (zm_rcX6 hC) rfl hl.1 rfl (Nat.le_of_ble_eq_true rfl) dX6_part_2 ⟨Nat.zero_le _, Nat.zero_le _⟩) (fun H locs hC => ?_)
  refine lv_if_ne (tgt := 38) hx hb dX6_part_5 (by decide) (fun c1 => ?_) (fun c1 => ?_)
  · have hf := z_f hf c1
    refine lv_bipush (v := (-2 : Int32)) hx hb dX6_part_38 (by decide) ?_
    exact z_reti hx hb hr hlk hC (Prod.mk.inj (Option.some.inj hf)).1 (Prod.mk.inj (Option.some.inj hf)).2 dX6_part_40
  · have hf := z_t hf c1
    refine lv_iload_n hx hb dX6_part_8 rfl (lv_at hl 2 rfl) ?_
    refine lv_i2l hx hb dX6_part_9 rfl ?_
    refine lv_lconst (v := (0 : Int64)) hx hb dX6_part_10 (by decide) ?_
    refine lv_aload_n hx hb dX6_part_11 rfl (lv_at hl 0 rfl) ?_
    refine zm_gX6_parts hx hb hts zi_X6_part hown hC kf16 dX6_part_12 ?_
    refine lv_iload_n hx hb dX6_part_15 rfl (lv_at hl 1 rfl) ?_
    obtain ⟨h2, hf⟩ := z_gd_s hf
    refine zm_aX6_parts hx hb hC (z_in h2) dX6_part_16 ?_
    refine lv_iconst (v := (1 : Int32)) hx hb dX6_part_17 (by decide) ?_
    refine lv_isub hx hb dX6_part_18 ?_
    refine lv_i2l hx hb dX6_part_19 rfl ?_
    refine z_calli hC (z_runS (rest := []) zm_Gok hC E (zc_X6_in l D cI cJ tp q u a_2.toInt64 (0 : Int64) ((z_rI u 3 a_1.toNatClampNeg) - (1 : Int32)).toInt64 rfl _) (va_cwS 3 hts gX6_part_X6_in rfl rfl rfl zd_X6_in ⟨Nat.le_of_ble_eq_true rfl, Nat.le_of_ble_eq_true rfl⟩) rfl hl.1 rfl (Nat.le_of_ble_eq_true rfl) dX6_part_20 ⟨Nat.zero_le _, Nat.zero_le _⟩) (fun H locs hC => ?_)
    refine lv_if_eq (tgt := 38) hx hb dX6_part_23 (by decide) (fun c3 => ?_) (fun c3 => ?_)
    · have hf := z_t hf c3
      refine lv_bipush (v := (-2 : Int32)) hx hb dX6_part_38 (by decide) ?_
      exact z_reti hx hb hr hlk hC (Prod.mk.inj (Option.some.inj hf)).1 (Prod.mk.inj (Option.some.inj hf)).2 dX6_part_40
    · have hf := z_f hf c3
      refine lv_iload_n hx hb dX6_part_26 rfl (lv_at hl 3 rfl) ?_
      refine lv_i2l hx hb dX6_part_27 rfl ?_
      refine lv_lconst (v := (0 : Int64)) hx hb dX6_part_28 (by decide) ?_
      refine lv_ldc2 (own := RX6) (v := (1023 : Int64)) hx hb hown kl111 dX6_part_29 ?_
      refine z_calli hC (z_runS (rest := []) zm_Gok hC E (zc_X6_in l D cI cJ tp q u a_3.toInt64 (0 : Int64) (1023 : Int64) rfl _) (va_cwS 3 hts gX6_part_X6_in rfl rfl rfl zd_X6_in ⟨Nat.le_of_ble_eq_true rfl, Nat.le_of_ble_eq_true rfl⟩) rfl hl.1 rfl (Nat.le_of_ble_eq_true rfl) dX6_part_32 ⟨Nat.zero_le _, Nat.zero_le _⟩) (fun H locs hC => ?_)
      refine lv_if_ne (tgt := 41) hx hb dX6_part_35 (by decide) (fun c4 => ?_) (fun c4 => ?_)
      · have hf := z_f hf c4
        refine lv_aload_n hx hb dX6_part_41 rfl (lv_at hl 0 rfl) ?_
        refine zm_gX6_worksOf hx hb hts zi_X6_part hown hC kf19 dX6_part_42 ?_
        refine lv_iconst (v := (5 : Int32)) hx hb dX6_part_45 (by decide) ?_
        refine lv_iload_n hx hb dX6_part_46 rfl (lv_at hl 1 rfl) ?_
        refine lv_imul hx hb dX6_part_47 ?_
        refine lv_iload_n hx hb dX6_part_48 rfl (lv_at hl 2 rfl) ?_
        refine lv_iadd hx hb dX6_part_49 ?_
        obtain ⟨h5, hf⟩ := z_gd_s hf
        refine zm_aX6_worksOf hx hb hC (z_in h5) dX6_part_50 ?_
        refine lv_topi (fun x6 ex6 => ?_)
        have hf := z_nm_s hf ex6
        refine lv_istore (lv' := [(4, _), (0, _), (1, _), (2, _), (3, _)]) hx hb dX6_part_51 hl (by decide) rfl (fun ls hl => ?_)
        refine lv_aload_n hx hb dX6_part_53 rfl (lv_at hl 1 rfl) ?_
        refine zm_gX6_worksOf hx hb hts zi_X6_part hown hC kf19 dX6_part_54 ?_
        refine lv_iconst (v := (5 : Int32)) hx hb dX6_part_57 (by decide) ?_
        refine lv_iload_n hx hb dX6_part_58 rfl (lv_at hl 2 rfl) ?_
        refine lv_imul hx hb dX6_part_59 ?_
        refine lv_iload_n hx hb dX6_part_60 rfl (lv_at hl 3 rfl) ?_
        refine lv_iadd hx hb dX6_part_61 ?_
        refine lv_iload_n hx hb dX6_part_62 rfl (lv_at hl 4 rfl) ?_
        obtain ⟨h7, hf⟩ := z_gd_s hf
        refine zm_sX6_worksOf hx hb hC (z_in h7) dX6_part_63 (fun u8 eu8 H locs hC => ?_)
        have hf := z_nm_s hf eu8
        refine lv_iload hx hb dX6_part_64 (lv_at hl 0 rfl) ?_
        exact z_reti hx hb hr hlk hC (Prod.mk.inj (Option.some.inj hf)).1 (Prod.mk.inj (Option.some.inj hf)).2 dX6_part_66
      · have hf := z_t hf c4
        refine lv_bipush (v := (-2 : Int32)) hx hb dX6_part_38 (by decide) ?_
        exact z_reti hx hb hr hlk hC (Prod.mk.inj (Option.some.inj hf)).1 (Prod.mk.inj (Option.some.inj hf)).2 dX6_part_40
abbrev zr_X6_narrow : Room := { frames := 0, cells := 0, slots := 0, locals := 0 }
theorem zd_X6_narrow : yX6_narrow.cls ≠ "java/lang/invoke/MethodHandle" ∧ yX6_narrow.cls ≠ "java/lang/invoke/VarHandle" ∧ (parseMethodDescriptor yX6_narrow.desc).map (fun d => d.parameters.length) = some 2 := by decide +kernel
theorem zi_X6_narrow : ∀ w ∈ wsX60, w ∈ wsX6_narrow := fun _ h => List.mem_cons_of_mem _ (List.mem_append_right _ h)
set_option maxHeartbeats 4000000 in
set_option maxRecDepth 100000 in
theorem zl_X6_narrow_2 (E : CallFix p m c cX6_narrow 4 s args wsX6_narrow RX6) (a_1 : Int32) (a_2 : Int32) : ∀ (n : Nat) (x_3 : Int32) (u : z_St) (H : Heap) (locs : List Loc) (ls : Array Slot) (o_3 : Int32) (ou : z_St), zf_X6_narrow_2 a_1 a_2 n x_3 u = some (o_3, ou) → z_C (zm_W cI cJ q) (zm_G tp) D cI cJ A s u H locs → lv_has ls 4 [(0, .ref (q 0)), (1, .int a_1), (2, .int a_2), (3, .int x_3)] → (∀ (H : Heap) (locs : List Loc) (ls : Array Slot), z_C (zm_W cI cJ q) (zm_G tp) D cI cJ A s ou H locs → lv_has ls 4 [(0, .ref (q 0)), (1, .int a_1), (2, .int a_2), (3, .int o_3)] → W p l e zr_X6_narrow s m args below meth c H locs 0 0 Q (F0 m 92 ls [])) → W p l e zr_X6_narrow s m args below meth c H locs 0 0 Q (F0 m 2 ls []) := by
  have hx := E.1
  have hb := E.2.1
  have hml := E.2.2.1
  have hown := E.2.2.2.1
  have hts := E.2.2.2.2
  intro n
  induction n with
  | zero =>
    intro x_3 u H locs ls o_3 ou hf
    rw [zf_X6_narrow_2.eq_1] at hf
    cases hf
  | succ n ih =>
    intro x_3 u H locs ls o_3 ou hf hC hl kk
    rw [zf_X6_narrow_2.eq_2] at hf
    have kf19 := hts (.fieldLink RX6 19 "DawnFairModel" "worksOf" "[I") (by decide +kernel)
    have kf7 := hts (.fieldLink RX6 7 "DawnFairModel" "since" "[I") (by decide +kernel)
    have kf113 := hts (.fieldLink RX6 113 "DawnFairModel" "from" "I") (by decide +kernel)
    have kf13 := hts (.fieldLink RX6 13 "DawnFairModel" "until" "[I") (by decide +kernel)
    have kf116 := hts (.fieldLink RX6 116 "DawnFairModel" "to" "I") (by decide +kernel)
    refine lv_iload_n hx hb dX6_narrow_2 rfl (lv_at hl 3 rfl) ?_
    refine lv_bipush (v := (10 : Int32)) hx hb dX6_narrow_3 (by decide) ?_
    refine lv_icmp_ge (tgt := 92) hx hb dX6_narrow_5 (by decide) (fun c1 => ?_) (fun c1 => ?_)
    · have hf := z_t hf c1
      cases hf
      exact kk _ _ _ hC (lv_sub hl [0, 1, 2, 3] rfl)
    · have hf := z_f hf c1
      refine lv_aload_n hx hb dX6_narrow_8 rfl (lv_at hl 0 rfl) ?_
      refine zm_gX6_worksOf hx hb hts zi_X6_narrow hown hC kf19 dX6_narrow_9 ?_
      refine lv_iconst (v := (5 : Int32)) hx hb dX6_narrow_12 (by decide) ?_
      refine lv_iload_n hx hb dX6_narrow_13 rfl (lv_at hl 1 rfl) ?_
      refine lv_imul hx hb dX6_narrow_14 ?_
      refine lv_iload_n hx hb dX6_narrow_15 rfl (lv_at hl 2 rfl) ?_
      refine lv_iadd hx hb dX6_narrow_16 ?_
      obtain ⟨h2, hf⟩ := z_gd_s hf
      refine zm_aX6_worksOf hx hb hC (z_in h2) dX6_narrow_17 ?_
      refine lv_iload_n hx hb dX6_narrow_18 rfl (lv_at hl 3 rfl) ?_
      refine lv_ishr hx hb dX6_narrow_19 ?_
      refine lv_iconst (v := (1 : Int32)) hx hb dX6_narrow_20 (by decide) ?_
      refine lv_iand hx hb dX6_narrow_21 ?_
      refine lv_iconst (v := (1 : Int32)) hx hb dX6_narrow_22 (by decide) ?_
      refine lv_icmp_ne (tgt := 86) hx hb dX6_narrow_23 (by decide) (fun c3 => ?_) (fun c3 => ?_)
      · have hf := z_f hf c3
        obtain ⟨x4, ex4⟩ : ∃ z : Int32, z = (x_3 + (1 : Int32)) := ⟨_, rfl⟩
        have hf := z_nm_s hf ex4
        refine lv_iinc (v := x4) (lv' := [(3, _), (0, _), (1, _), (2, _)]) hx hb dX6_narrow_86 hl (k := 3) rfl (by rw [ex4]; rfl) (by decide) rfl (fun ls hl => ?_)
        refine lv_goto (tgt := 2) hx hb dX6_narrow_89 (by decide) ?_
        exact ih x4 u _ _ _ _ _ hf hC (lv_sub hl [1, 2, 3, 0] rfl) kk
      · have hf := z_t hf c3
        refine lv_aload_n hx hb dX6_narrow_26 rfl (lv_at hl 0 rfl) ?_
        refine lv_aload_n hx hb dX6_narrow_27 rfl (lv_at hl 0 rfl) ?_
        refine zm_gX6_since hx hb hts zi_X6_narrow hown hC kf7 dX6_narrow_28 ?_
        refine lv_iload_n hx hb dX6_narrow_31 rfl (lv_at hl 3 rfl) ?_
        obtain ⟨h5, hf⟩ := z_gd_s hf
        refine zm_aX6_since hx hb hC (z_in h5) dX6_narrow_32 ?_
        refine lv_aload_n hx hb dX6_narrow_33 rfl (lv_at hl 0 rfl) ?_
        refine zm_gX6_from hx hb hts zi_X6_narrow hown hC kf113 dX6_narrow_34 ?_
        refine lv_icmp_le (tgt := 49) hx hb dX6_narrow_37 (by decide) (fun c6 => ?_) (fun c6 => ?_)
        · have hf := z_t hf c6
          refine lv_aload_n hx hb dX6_narrow_49 rfl (lv_at hl 0 rfl) ?_
          refine zm_gX6_from hx hb hts zi_X6_narrow hown hC kf113 dX6_narrow_50 ?_
          refine zm_pX6_from hx hb hts zi_X6_narrow hown hC kf113 dX6_narrow_53 (fun u7 eu7 H locs hC => ?_)
          have hf := z_nm_s hf eu7
          refine lv_aload_n hx hb dX6_narrow_56 rfl (lv_at hl 0 rfl) ?_
          refine lv_aload_n hx hb dX6_narrow_57 rfl (lv_at hl 0 rfl) ?_
          refine zm_gX6_until hx hb hts zi_X6_narrow hown hC kf13 dX6_narrow_58 ?_
          refine lv_iload_n hx hb dX6_narrow_61 rfl (lv_at hl 3 rfl) ?_
          obtain ⟨h8, hf⟩ := z_gd_s hf
          refine zm_aX6_until hx hb hC (z_in h8) dX6_narrow_62 ?_
          refine lv_aload_n hx hb dX6_narrow_63 rfl (lv_at hl 0 rfl) ?_
          refine zm_gX6_to hx hb hts zi_X6_narrow hown hC kf116 dX6_narrow_64 ?_
          refine lv_icmp_ge (tgt := 79) hx hb dX6_narrow_67 (by decide) (fun c9 => ?_) (fun c9 => ?_)
          · have hf := z_t hf c9
            refine lv_aload_n hx hb dX6_narrow_79 rfl (lv_at hl 0 rfl) ?_
            refine zm_gX6_to hx hb hts zi_X6_narrow hown hC kf116 dX6_narrow_80 ?_
            refine zm_pX6_to hx hb hts zi_X6_narrow hown hC kf116 dX6_narrow_83 (fun u10 eu10 H locs hC => ?_)
            have hf := z_nm_s hf eu10
            obtain ⟨x11, ex11⟩ : ∃ z : Int32, z = (x_3 + (1 : Int32)) := ⟨_, rfl⟩
            have hf := z_nm_s hf ex11
            refine lv_iinc (v := x11) (lv' := [(3, _), (0, _), (1, _), (2, _)]) hx hb dX6_narrow_86 hl (k := 3) rfl (by rw [ex11]; rfl) (by decide) rfl (fun ls hl => ?_)
            refine lv_goto (tgt := 2) hx hb dX6_narrow_89 (by decide) ?_
            exact ih x11 u10 _ _ _ _ _ hf hC (lv_sub hl [1, 2, 3, 0] rfl) kk
          · have hf := z_f hf c9
            refine lv_aload_n hx hb dX6_narrow_70 rfl (lv_at hl 0 rfl) ?_
            refine zm_gX6_until hx hb hts zi_X6_narrow hown hC kf13 dX6_narrow_71 ?_
            refine lv_iload_n hx hb dX6_narrow_74 rfl (lv_at hl 3 rfl) ?_
            obtain ⟨h12, hf⟩ := z_gd_s hf
            refine zm_aX6_until hx hb hC (z_in h12) dX6_narrow_75 ?_
            refine lv_goto (tgt := 83) hx hb dX6_narrow_76 (by decide) ?_
            refine zm_pX6_to hx hb hts zi_X6_narrow hown hC kf116 dX6_narrow_83 (fun u13 eu13 H locs hC => ?_)
            have hf := z_nm_s hf eu13
            obtain ⟨x14, ex14⟩ : ∃ z : Int32, z = (x_3 + (1 : Int32)) := ⟨_, rfl⟩
            have hf := z_nm_s hf ex14
            refine lv_iinc (v := x14) (lv' := [(3, _), (0, _), (1, _), (2, _)]) hx hb dX6_narrow_86 hl (k := 3) rfl (by rw [ex14]; rfl) (by decide) rfl (fun ls hl => ?_)
            refine lv_goto (tgt := 2) hx hb dX6_narrow_89 (by decide) ?_
            exact ih x14 u13 _ _ _ _ _ hf hC (lv_sub hl [1, 2, 3, 0] rfl) kk
        · have hf := z_f hf c6
          refine lv_aload_n hx hb dX6_narrow_40 rfl (lv_at hl 0 rfl) ?_
          refine zm_gX6_since hx hb hts zi_X6_narrow hown hC kf7 dX6_narrow_41 ?_
          refine lv_iload_n hx hb dX6_narrow_44 rfl (lv_at hl 3 rfl) ?_
          obtain ⟨h15, hf⟩ := z_gd_s hf
          refine zm_aX6_since hx hb hC (z_in h15) dX6_narrow_45 ?_
          refine lv_goto (tgt := 53) hx hb dX6_narrow_46 (by decide) ?_
          refine zm_pX6_from hx hb hts zi_X6_narrow hown hC kf113 dX6_narrow_53 (fun u16 eu16 H locs hC => ?_)
          have hf := z_nm_s hf eu16
          refine lv_aload_n hx hb dX6_narrow_56 rfl (lv_at hl 0 rfl) ?_
          refine lv_aload_n hx hb dX6_narrow_57 rfl (lv_at hl 0 rfl) ?_
          refine zm_gX6_until hx hb hts zi_X6_narrow hown hC kf13 dX6_narrow_58 ?_
          refine lv_iload_n hx hb dX6_narrow_61 rfl (lv_at hl 3 rfl) ?_
          obtain ⟨h17, hf⟩ := z_gd_s hf
          refine zm_aX6_until hx hb hC (z_in h17) dX6_narrow_62 ?_
          refine lv_aload_n hx hb dX6_narrow_63 rfl (lv_at hl 0 rfl) ?_
          refine zm_gX6_to hx hb hts zi_X6_narrow hown hC kf116 dX6_narrow_64 ?_
          refine lv_icmp_ge (tgt := 79) hx hb dX6_narrow_67 (by decide) (fun c18 => ?_) (fun c18 => ?_)
          · have hf := z_t hf c18
            refine lv_aload_n hx hb dX6_narrow_79 rfl (lv_at hl 0 rfl) ?_
            refine zm_gX6_to hx hb hts zi_X6_narrow hown hC kf116 dX6_narrow_80 ?_
            refine zm_pX6_to hx hb hts zi_X6_narrow hown hC kf116 dX6_narrow_83 (fun u19 eu19 H locs hC => ?_)
            have hf := z_nm_s hf eu19
            obtain ⟨x20, ex20⟩ : ∃ z : Int32, z = (x_3 + (1 : Int32)) := ⟨_, rfl⟩
            have hf := z_nm_s hf ex20
            refine lv_iinc (v := x20) (lv' := [(3, _), (0, _), (1, _), (2, _)]) hx hb dX6_narrow_86 hl (k := 3) rfl (by rw [ex20]; rfl) (by decide) rfl (fun ls hl => ?_)
            refine lv_goto (tgt := 2) hx hb dX6_narrow_89 (by decide) ?_
            exact ih x20 u19 _ _ _ _ _ hf hC (lv_sub hl [1, 2, 3, 0] rfl) kk
          · have hf := z_f hf c18
            refine lv_aload_n hx hb dX6_narrow_70 rfl (lv_at hl 0 rfl) ?_
            refine zm_gX6_until hx hb hts zi_X6_narrow hown hC kf13 dX6_narrow_71 ?_
            refine lv_iload_n hx hb dX6_narrow_74 rfl (lv_at hl 3 rfl) ?_
            obtain ⟨h21, hf⟩ := z_gd_s hf
            refine zm_aX6_until hx hb hC (z_in h21) dX6_narrow_75 ?_
            refine lv_goto (tgt := 83) hx hb dX6_narrow_76 (by decide) ?_
            refine zm_pX6_to hx hb hts zi_X6_narrow hown hC kf116 dX6_narrow_83 (fun u22 eu22 H locs hC => ?_)
            have hf := z_nm_s hf eu22
            obtain ⟨x23, ex23⟩ : ∃ z : Int32, z = (x_3 + (1 : Int32)) := ⟨_, rfl⟩
            have hf := z_nm_s hf ex23
            refine lv_iinc (v := x23) (lv' := [(3, _), (0, _), (1, _), (2, _)]) hx hb dX6_narrow_86 hl (k := 3) rfl (by rw [ex23]; rfl) (by decide) rfl (fun ls hl => ?_)
            refine lv_goto (tgt := 2) hx hb dX6_narrow_89 (by decide) ?_
            exact ih x23 u22 _ _ _ _ _ hf hC (lv_sub hl [1, 2, 3, 0] rfl) kk
set_option maxHeartbeats 4000000 in
set_option maxRecDepth 100000 in
theorem zc_X6_narrow (l : Launch) (D : va_G) (cI cJ : ClassId) (tp : Nat) (q : Nat → Nat) (u : z_St) (a_1 : Int32) (a_2 : Int32) {u2 : z_St} (hf : zf_X6_narrow u a_1 a_2 = some u2) : z_Mv l yX6_narrow wsX6_narrow zr_X6_narrow (zm_W cI cJ q) (zm_G tp) D cI cJ [.ref (q 0), .int a_1, .int a_2] u u2 := by
  refine z_ofv (cc := cX6_narrow) (maxL := 4) (ret := none) zm_Gok (by decide) rfl (Nat.le_of_ble_eq_true rfl) ?_
  intro A p e s m args below meth c ls E hr hlk hC hl
  have E : CallFix p m c cX6_narrow 4 s args wsX6_narrow RX6 := E
  have hx := E.1
  have hb := E.2.1
  have hml := E.2.2.1
  have hown := E.2.2.2.1
  have hts := E.2.2.2.2
  have hl : lv_has ls 4 [(0, .ref (q 0)), (1, .int a_1), (2, .int a_2)] := hl
  unfold zf_X6_narrow at hf
  refine lv_iconst (v := (0 : Int32)) hx hb dX6_narrow_0 (by decide) ?_
  refine lv_istore_n (lv' := [(3, _), (0, _), (1, _), (2, _)]) hx hb dX6_narrow_1 rfl hl (by decide) rfl (fun ls hl => ?_)
  obtain ⟨y1, u2, py1, hf⟩ := z_bd2_s hf
  refine zl_X6_narrow_2 E a_1 a_2 5000 (0 : Int32) u _ _ _ _ _ py1 hC (lv_sub hl [1, 2, 3, 0] rfl) (fun H locs ls hC hl => ?_)
  exact z_retv hx hb hr hlk hC (Option.some.inj hf) dX6_narrow_92
abbrev zr_X6_allYears : Room := { frames := 0, cells := 0, slots := 0, locals := 0 }
theorem zd_X6_allYears : yX6_allYears.cls ≠ "java/lang/invoke/MethodHandle" ∧ yX6_allYears.cls ≠ "java/lang/invoke/VarHandle" ∧ (parseMethodDescriptor yX6_allYears.desc).map (fun d => d.parameters.length) = some 0 := by decide +kernel
theorem zi_X6_allYears : ∀ w ∈ wsX60, w ∈ wsX6_allYears := fun _ h => List.mem_cons_of_mem _ (List.mem_append_right _ h)
set_option maxHeartbeats 4000000 in
set_option maxRecDepth 100000 in
theorem zc_X6_allYears (l : Launch) (D : va_G) (cI cJ : ClassId) (tp : Nat) (q : Nat → Nat) (u : z_St) {u2 : z_St} (hf : zf_X6_allYears u = some u2) : z_Mv l yX6_allYears wsX6_allYears zr_X6_allYears (zm_W cI cJ q) (zm_G tp) D cI cJ [.ref (q 0)] u u2 := by
  refine z_ofv (cc := cX6_allYears) (maxL := 1) (ret := none) zm_Gok (by decide) rfl (Nat.le_of_ble_eq_true rfl) ?_
  intro A p e s m args below meth c ls E hr hlk hC hl
  have E : CallFix p m c cX6_allYears 1 s args wsX6_allYears RX6 := E
  have hx := E.1
  have hb := E.2.1
  have hml := E.2.2.1
  have hown := E.2.2.2.1
  have hts := E.2.2.2.2
  have hl : lv_has ls 1 [(0, .ref (q 0))] := hl
  unfold zf_X6_allYears at hf
  have kf113 := hts (.fieldLink RX6 113 "DawnFairModel" "from" "I") (by decide +kernel)
  have kf116 := hts (.fieldLink RX6 116 "DawnFairModel" "to" "I") (by decide +kernel)
  refine lv_aload_n hx hb dX6_allYears_0 rfl (lv_at hl 0 rfl) ?_
  refine lv_sipush (v := (1600 : Int32)) hx hb dX6_allYears_1 (by decide) ?_
  refine zm_pX6_from hx hb hts zi_X6_allYears hown hC kf113 dX6_allYears_4 (fun u1 eu1 H locs hC => ?_)
  have hf := z_nm_s hf eu1
  refine lv_aload_n hx hb dX6_allYears_7 rfl (lv_at hl 0 rfl) ?_
  refine lv_sipush (v := (1950 : Int32)) hx hb dX6_allYears_8 (by decide) ?_
  refine zm_pX6_to hx hb hts zi_X6_allYears hown hC kf116 dX6_allYears_11 (fun u2 eu2 H locs hC => ?_)
  have hf := z_nm_s hf eu2
  exact z_retv hx hb hr hlk hC (Option.some.inj hf) dX6_allYears_14
abbrev zr_X6_span : Room := { frames := 2, cells := 0, slots := 0, locals := 46 }
theorem zd_X6_span : yX6_span.cls ≠ "java/lang/invoke/MethodHandle" ∧ yX6_span.cls ≠ "java/lang/invoke/VarHandle" ∧ (parseMethodDescriptor yX6_span.desc).map (fun d => d.parameters.length) = some 3 := by decide +kernel
theorem zi_X6_span : ∀ w ∈ wsX60, w ∈ wsX6_span := fun _ h => List.mem_cons_of_mem _ (List.mem_append_right _ h)
set_option maxHeartbeats 4000000 in
set_option maxRecDepth 100000 in
theorem zc_X6_span (l : Launch) (D : va_G) (cI cJ : ClassId) (tp : Nat) (q : Nat → Nat) (u : z_St) (a_1 : Int32) (a_2 : Int32) (a_3 : Int32) {r : Int32} {u2 : z_St} (hf : zf_X6_span u a_1 a_2 a_3 = some (r, u2)) : z_Mi l yX6_span wsX6_span zr_X6_span (zm_W cI cJ q) (zm_G tp) D cI cJ [.ref (q 0), .int a_1, .int a_2, .int a_3] u r u2 := by
  refine z_ofi (cc := cX6_span) (maxL := 4) (ret := (some .int)) zm_Gok (by decide) rfl (Nat.le_of_ble_eq_true rfl) ?_
  intro A p e s m args below meth c ls E hr hlk hC hl
  have E : CallFix p m c cX6_span 4 s args wsX6_span RX6 := E
  have hx := E.1
  have hb := E.2.1
  have hml := E.2.2.1
  have hown := E.2.2.2.1
  have hts := E.2.2.2.2
  have hl : lv_has ls 4 [(0, .ref (q 0)), (1, .int a_1), (2, .int a_2), (3, .int a_3)] := hl
  unfold zf_X6_span at hf
  have kf16 := hts (.fieldLink RX6 16 "DawnFairModel" "parts" "[I") (by decide +kernel)
  have kf113 := hts (.fieldLink RX6 113 "DawnFairModel" "from" "I") (by decide +kernel)
  have kf116 := hts (.fieldLink RX6 116 "DawnFairModel" "to" "I") (by decide +kernel)
  refine lv_aload_n hx hb dX6_span_0 rfl (lv_at hl 0 rfl) ?_
  refine lv_iload_n hx hb dX6_span_1 rfl (lv_at hl 1 rfl) ?_
  refine z_calli hC (z_runV (rest := []) zm_Gok hC E (zc_X6_noThing l D cI cJ tp q u a_1 rfl _) (cwV 1 hts gX6_span_X6_noThing rfl rfl rfl ⟨rfl, zd_X6_noThing⟩ ⟨Nat.le_of_ble_eq_true rfl, Nat.le_of_ble_eq_true rfl⟩) (zm_rcX6 hC) rfl hl.1 rfl (Nat.le_of_ble_eq_true rfl) dX6_span_2 ⟨Nat.zero_le _, Nat.zero_le _⟩) (fun H locs hC => ?_)
  refine lv_if_ne (tgt := 36) hx hb dX6_span_5 (by decide) (fun c1 => ?_) (fun c1 => ?_)
  · have hf := z_f hf c1
    refine lv_bipush (v := (-2 : Int32)) hx hb dX6_span_36 (by decide) ?_
    exact z_reti hx hb hr hlk hC (Prod.mk.inj (Option.some.inj hf)).1 (Prod.mk.inj (Option.some.inj hf)).2 dX6_span_38
  · have hf := z_t hf c1
    refine lv_iload_n hx hb dX6_span_8 rfl (lv_at hl 2 rfl) ?_
    refine lv_i2l hx hb dX6_span_9 rfl ?_
    refine lv_lconst (v := (0 : Int64)) hx hb dX6_span_10 (by decide) ?_
    refine lv_aload_n hx hb dX6_span_11 rfl (lv_at hl 0 rfl) ?_
    refine zm_gX6_parts hx hb hts zi_X6_span hown hC kf16 dX6_span_12 ?_
    refine lv_iload_n hx hb dX6_span_15 rfl (lv_at hl 1 rfl) ?_
    obtain ⟨h2, hf⟩ := z_gd_s hf
    refine zm_aX6_parts hx hb hC (z_in h2) dX6_span_16 ?_
    refine lv_iconst (v := (1 : Int32)) hx hb dX6_span_17 (by decide) ?_
    refine lv_isub hx hb dX6_span_18 ?_
    refine lv_i2l hx hb dX6_span_19 rfl ?_
    refine z_calli hC (z_runS (rest := []) zm_Gok hC E (zc_X6_in l D cI cJ tp q u a_2.toInt64 (0 : Int64) ((z_rI u 3 a_1.toNatClampNeg) - (1 : Int32)).toInt64 rfl _) (va_cwS 3 hts gX6_span_X6_in rfl rfl rfl zd_X6_in ⟨Nat.le_of_ble_eq_true rfl, Nat.le_of_ble_eq_true rfl⟩) rfl hl.1 rfl (Nat.le_of_ble_eq_true rfl) dX6_span_20 ⟨Nat.zero_le _, Nat.zero_le _⟩) (fun H locs hC => ?_)
    refine lv_if_eq (tgt := 36) hx hb dX6_span_23 (by decide) (fun c3 => ?_) (fun c3 => ?_)
    · have hf := z_t hf c3
      refine lv_bipush (v := (-2 : Int32)) hx hb dX6_span_36 (by decide) ?_
      exact z_reti hx hb hr hlk hC (Prod.mk.inj (Option.some.inj hf)).1 (Prod.mk.inj (Option.some.inj hf)).2 dX6_span_38
    · have hf := z_f hf c3
      refine lv_iload_n hx hb dX6_span_26 rfl (lv_at hl 3 rfl) ?_
      refine lv_i2l hx hb dX6_span_27 rfl ?_
      refine lv_lconst (v := (0 : Int64)) hx hb dX6_span_28 (by decide) ?_
      refine lv_lconst (v := (1 : Int64)) hx hb dX6_span_29 (by decide) ?_
      refine z_calli hC (z_runS (rest := []) zm_Gok hC E (zc_X6_in l D cI cJ tp q u a_3.toInt64 (0 : Int64) (1 : Int64) rfl _) (va_cwS 3 hts gX6_span_X6_in rfl rfl rfl zd_X6_in ⟨Nat.le_of_ble_eq_true rfl, Nat.le_of_ble_eq_true rfl⟩) rfl hl.1 rfl (Nat.le_of_ble_eq_true rfl) dX6_span_30 ⟨Nat.zero_le _, Nat.zero_le _⟩) (fun H locs hC => ?_)
      refine lv_if_ne (tgt := 39) hx hb dX6_span_33 (by decide) (fun c4 => ?_) (fun c4 => ?_)
      · have hf := z_f hf c4
        refine lv_aload_n hx hb dX6_span_39 rfl (lv_at hl 0 rfl) ?_
        obtain ⟨u5, pu5, hf⟩ := z_bd_s hf
        refine z_callv hC (z_runV (rest := []) zm_Gok hC E (zc_X6_allYears l D cI cJ tp q u pu5 _) (cwV 0 hts gX6_span_X6_allYears rfl rfl rfl ⟨rfl, zd_X6_allYears⟩ ⟨Nat.le_of_ble_eq_true rfl, Nat.le_of_ble_eq_true rfl⟩) (zm_rcX6 hC) rfl hl.1 rfl (Nat.le_of_ble_eq_true rfl) dX6_span_40 ⟨Nat.zero_le _, Nat.zero_le _⟩) (fun H locs hC => ?_)
        refine lv_aload_n hx hb dX6_span_43 rfl (lv_at hl 0 rfl) ?_
        refine lv_iload_n hx hb dX6_span_44 rfl (lv_at hl 1 rfl) ?_
        refine lv_iload_n hx hb dX6_span_45 rfl (lv_at hl 2 rfl) ?_
        obtain ⟨u6, pu6, hf⟩ := z_bd_s hf
        refine z_callv hC (z_runV (rest := []) zm_Gok hC E (zc_X6_narrow l D cI cJ tp q u5 a_1 a_2 pu6 _) (cwV 2 hts gX6_span_X6_narrow rfl rfl rfl ⟨rfl, zd_X6_narrow⟩ ⟨Nat.le_of_ble_eq_true rfl, Nat.le_of_ble_eq_true rfl⟩) (zm_rcX6 hC) rfl hl.1 rfl (Nat.le_of_ble_eq_true rfl) dX6_span_46 ⟨Nat.zero_le _, Nat.zero_le _⟩) (fun H locs hC => ?_)
        refine lv_aload_n hx hb dX6_span_49 rfl (lv_at hl 0 rfl) ?_
        refine zm_gX6_from hx hb hts zi_X6_span hown hC kf113 dX6_span_50 ?_
        refine lv_aload_n hx hb dX6_span_53 rfl (lv_at hl 0 rfl) ?_
        refine zm_gX6_to hx hb hts zi_X6_span hown hC kf116 dX6_span_54 ?_
        refine lv_icmp_le (tgt := 64) hx hb dX6_span_57 (by decide) (fun c7 => ?_) (fun c7 => ?_)
        · have hf := z_t hf c7
          refine lv_iload_n hx hb dX6_span_64 rfl (lv_at hl 3 rfl) ?_
          refine lv_if_ne (tgt := 75) hx hb dX6_span_65 (by decide) (fun c8 => ?_) (fun c8 => ?_)
          · have hf := z_f hf c8
            refine lv_aload_n hx hb dX6_span_75 rfl (lv_at hl 0 rfl) ?_
            refine zm_gX6_to hx hb hts zi_X6_span hown hC kf116 dX6_span_76 ?_
            exact z_reti hx hb hr hlk hC (Prod.mk.inj (Option.some.inj hf)).1 (Prod.mk.inj (Option.some.inj hf)).2 dX6_span_79
          · have hf := z_t hf c8
            refine lv_aload_n hx hb dX6_span_68 rfl (lv_at hl 0 rfl) ?_
            refine zm_gX6_from hx hb hts zi_X6_span hown hC kf113 dX6_span_69 ?_
            refine lv_goto (tgt := 79) hx hb dX6_span_72 (by decide) ?_
            exact z_reti hx hb hr hlk hC (Prod.mk.inj (Option.some.inj hf)).1 (Prod.mk.inj (Option.some.inj hf)).2 dX6_span_79
        · have hf := z_f hf c7
          refine lv_iconst (v := (-1 : Int32)) hx hb dX6_span_60 (by decide) ?_
          refine lv_goto (tgt := 79) hx hb dX6_span_61 (by decide) ?_
          exact z_reti hx hb hr hlk hC (Prod.mk.inj (Option.some.inj hf)).1 (Prod.mk.inj (Option.some.inj hf)).2 dX6_span_79
      · have hf := z_t hf c4
        refine lv_bipush (v := (-2 : Int32)) hx hb dX6_span_36 (by decide) ?_
        exact z_reti hx hb hr hlk hC (Prod.mk.inj (Option.some.inj hf)).1 (Prod.mk.inj (Option.some.inj hf)).2 dX6_span_38
abbrev zr_X6_bits : Room := { frames := 0, cells := 0, slots := 0, locals := 0 }
theorem zd_X6_bits : yX6_bits.cls ≠ "java/lang/invoke/MethodHandle" ∧ yX6_bits.cls ≠ "java/lang/invoke/VarHandle" ∧ (parseMethodDescriptor yX6_bits.desc).map (fun d => d.parameters.length) = some 1 := by decide +kernel
set_option maxHeartbeats 4000000 in
set_option maxRecDepth 100000 in
theorem zl_X6_bits_4 (E : CallFix p m c cX6_bits 3 s args wsX6_bits RX6) (a_0 : Int32) (u : z_St) : ∀ (n : Nat) (x_1 : Int32) (x_2 : Int32) (H : Heap) (locs : List Loc) (ls : Array Slot) (o_1 : Int32) (o_2 : Int32), zf_X6_bits_4 a_0 n x_1 x_2 = some (o_1, o_2) → z_C (zm_W cI cJ q) (zm_G tp) D cI cJ A s u H locs → lv_has ls 3 [(0, .int a_0), (1, .int x_1), (2, .int x_2)] → (∀ (H : Heap) (locs : List Loc) (ls : Array Slot), z_C (zm_W cI cJ q) (zm_G tp) D cI cJ A s u H locs → lv_has ls 3 [(0, .int a_0), (1, .int o_1), (2, .int o_2)] → W p l e zr_X6_bits s m args below meth c H locs 0 0 Q (F0 m 24 ls [])) → W p l e zr_X6_bits s m args below meth c H locs 0 0 Q (F0 m 4 ls []) := by
  have hx := E.1
  have hb := E.2.1
  have hml := E.2.2.1
  have hown := E.2.2.2.1
  have hts := E.2.2.2.2
  intro n
  induction n with
  | zero =>
    intro x_1 x_2 H locs ls o_1 o_2 hf
    rw [zf_X6_bits_4.eq_1] at hf
    cases hf
  | succ n ih =>
    intro x_1 x_2 H locs ls o_1 o_2 hf hC hl kk
    rw [zf_X6_bits_4.eq_2] at hf
    refine lv_iload_n hx hb dX6_bits_4 rfl (lv_at hl 2 rfl) ?_
    refine lv_bipush (v := (16 : Int32)) hx hb dX6_bits_5 (by decide) ?_
    refine lv_icmp_ge (tgt := 24) hx hb dX6_bits_7 (by decide) (fun c1 => ?_) (fun c1 => ?_)
    · have hf := z_t hf c1
      cases hf
      exact kk _ _ _ hC (lv_sub hl [0, 1, 2] rfl)
    · have hf := z_f hf c1
      refine lv_iload_n hx hb dX6_bits_10 rfl (lv_at hl 1 rfl) ?_
      refine lv_iload_n hx hb dX6_bits_11 rfl (lv_at hl 0 rfl) ?_
      refine lv_iload_n hx hb dX6_bits_12 rfl (lv_at hl 2 rfl) ?_
      refine lv_ishr hx hb dX6_bits_13 ?_
      refine lv_iconst (v := (1 : Int32)) hx hb dX6_bits_14 (by decide) ?_
      refine lv_iand hx hb dX6_bits_15 ?_
      refine lv_iadd hx hb dX6_bits_16 ?_
      refine lv_topi (fun x2 ex2 => ?_)
      have hf := z_nm_s hf ex2
      refine lv_istore_n (lv' := [(1, _), (0, _), (2, _)]) hx hb dX6_bits_17 rfl hl (by decide) rfl (fun ls hl => ?_)
      obtain ⟨x3, ex3⟩ : ∃ z : Int32, z = (x_2 + (1 : Int32)) := ⟨_, rfl⟩
      have hf := z_nm_s hf ex3
      refine lv_iinc (v := x3) (lv' := [(2, _), (1, _), (0, _)]) hx hb dX6_bits_18 hl (k := 2) rfl (by rw [ex3]; rfl) (by decide) rfl (fun ls hl => ?_)
      refine lv_goto (tgt := 4) hx hb dX6_bits_21 (by decide) ?_
      exact ih x2 x3 _ _ _ _ _ hf hC (lv_sub hl [2, 1, 0] rfl) kk
set_option maxHeartbeats 4000000 in
set_option maxRecDepth 100000 in
theorem zc_X6_bits (l : Launch) (D : va_G) (cI cJ : ClassId) (tp : Nat) (q : Nat → Nat) (u : z_St) (a_0 : Int32) {r : Int32} (hf : zf_X6_bits a_0 = some r) : z_Mi l yX6_bits wsX6_bits zr_X6_bits (zm_W cI cJ q) (zm_G tp) D cI cJ [.int a_0] u r u := by
  refine z_ofi (cc := cX6_bits) (maxL := 3) (ret := (some .int)) zm_Gok (by decide) rfl (Nat.le_of_ble_eq_true rfl) ?_
  intro A p e s m args below meth c ls E hr hlk hC hl
  have E : CallFix p m c cX6_bits 3 s args wsX6_bits RX6 := E
  have hx := E.1
  have hb := E.2.1
  have hml := E.2.2.1
  have hown := E.2.2.2.1
  have hts := E.2.2.2.2
  have hl : lv_has ls 3 [(0, .int a_0)] := hl
  unfold zf_X6_bits at hf
  refine lv_iconst (v := (0 : Int32)) hx hb dX6_bits_0 (by decide) ?_
  refine lv_istore_n (lv' := [(1, _), (0, _)]) hx hb dX6_bits_1 rfl hl (by decide) rfl (fun ls hl => ?_)
  refine lv_iconst (v := (0 : Int32)) hx hb dX6_bits_2 (by decide) ?_
  refine lv_istore_n (lv' := [(2, _), (1, _), (0, _)]) hx hb dX6_bits_3 rfl hl (by decide) rfl (fun ls hl => ?_)
  obtain ⟨y1, y2, py1, hf⟩ := z_bd2_s hf
  refine zl_X6_bits_4 E a_0 u 5000 (0 : Int32) (0 : Int32) _ _ _ _ _ py1 hC (lv_sub hl [2, 1, 0] rfl) (fun H locs ls hC hl => ?_)
  refine lv_iload_n hx hb dX6_bits_24 rfl (lv_at hl 1 rfl) ?_
  exact z_reti hx hb hr hlk hC (Option.some.inj hf) rfl dX6_bits_25
abbrev zr_X6_findApart : Room := { frames := 1, cells := 0, slots := 0, locals := 23 }
theorem zd_X6_findApart : yX6_findApart.cls ≠ "java/lang/invoke/MethodHandle" ∧ yX6_findApart.cls ≠ "java/lang/invoke/VarHandle" ∧ (parseMethodDescriptor yX6_findApart.desc).map (fun d => d.parameters.length) = some 1 := by decide +kernel
theorem zi_X6_findApart : ∀ w ∈ wsX60, w ∈ wsX6_findApart := fun _ h => List.mem_cons_of_mem _ (List.mem_append_right _ h)
set_option maxHeartbeats 4000000 in
set_option maxRecDepth 100000 in
theorem zl_X6_findApart_25 (E : CallFix p m c cX6_findApart 5 s args wsX6_findApart RX6) (a_1 : Int32) (a_2 : Int32) (a_3 : Int32) : ∀ (n : Nat) (x_4 : Int32) (u : z_St) (H : Heap) (locs : List Loc) (ls : Array Slot) (o_4 : Int32) (ou : z_St), zf_X6_findApart_25 a_1 a_3 n x_4 u = some (o_4, ou) → z_C (zm_W cI cJ q) (zm_G tp) D cI cJ A s u H locs → lv_has ls 5 [(0, .ref (q 0)), (1, .int a_1), (2, .int a_2), (3, .int a_3), (4, .int x_4)] → (∀ (H : Heap) (locs : List Loc) (ls : Array Slot), z_C (zm_W cI cJ q) (zm_G tp) D cI cJ A s ou H locs → lv_has ls 5 [(0, .ref (q 0)), (1, .int a_1), (2, .int a_2), (3, .int a_3), (4, .int o_4)] → W p l e zr_X6_findApart s m args below meth c H locs 0 0 Q (F0 m 58 ls [])) → W p l e zr_X6_findApart s m args below meth c H locs 0 0 Q (F0 m 25 ls []) := by
  have hx := E.1
  have hb := E.2.1
  have hml := E.2.2.1
  have hown := E.2.2.2.1
  have hts := E.2.2.2.2
  intro n
  induction n with
  | zero =>
    intro x_4 u H locs ls o_4 ou hf
    rw [zf_X6_findApart_25.eq_1] at hf
    cases hf
  | succ n ih =>
    intro x_4 u H locs ls o_4 ou hf hC hl kk
    rw [zf_X6_findApart_25.eq_2] at hf
    have kf16 := hts (.fieldLink RX6 16 "DawnFairModel" "parts" "[I") (by decide +kernel)
    refine lv_iload hx hb dX6_findApart_25 (lv_at hl 4 rfl) ?_
    refine lv_aload_n hx hb dX6_findApart_27 rfl (lv_at hl 0 rfl) ?_
    refine zm_gX6_parts hx hb hts zi_X6_findApart hown hC kf16 dX6_findApart_28 ?_
    refine lv_iload_n hx hb dX6_findApart_31 rfl (lv_at hl 1 rfl) ?_
    obtain ⟨h1, hf⟩ := z_gd_s hf
    refine zm_aX6_parts hx hb hC (z_in h1) dX6_findApart_32 ?_
    refine lv_icmp_ge (tgt := 58) hx hb dX6_findApart_33 (by decide) (fun c2 => ?_) (fun c2 => ?_)
    · have hf := z_t hf c2
      cases hf
      exact kk _ _ _ hC (lv_sub hl [0, 1, 2, 3, 4] rfl)
    · have hf := z_f hf c2
      refine lv_iload_n hx hb dX6_findApart_36 rfl (lv_at hl 3 rfl) ?_
      refine lv_iload hx hb dX6_findApart_37 (lv_at hl 4 rfl) ?_
      refine lv_ishr hx hb dX6_findApart_39 ?_
      refine lv_iconst (v := (1 : Int32)) hx hb dX6_findApart_40 (by decide) ?_
      refine lv_iand hx hb dX6_findApart_41 ?_
      refine lv_if_ne (tgt := 52) hx hb dX6_findApart_42 (by decide) (fun c3 => ?_) (fun c3 => ?_)
      · have hf := z_f hf c3
        obtain ⟨x4, ex4⟩ : ∃ z : Int32, z = (x_4 + (1 : Int32)) := ⟨_, rfl⟩
        have hf := z_nm_s hf ex4
        refine lv_iinc (v := x4) (lv' := [(4, _), (0, _), (1, _), (2, _), (3, _)]) hx hb dX6_findApart_52 hl (k := 4) rfl (by rw [ex4]; rfl) (by decide) rfl (fun ls hl => ?_)
        refine lv_goto (tgt := 25) hx hb dX6_findApart_55 (by decide) ?_
        exact ih x4 u _ _ _ _ _ hf hC (lv_sub hl [1, 2, 3, 4, 0] rfl) kk
      · have hf := z_t hf c3
        refine lv_aload_n hx hb dX6_findApart_45 rfl (lv_at hl 0 rfl) ?_
        refine lv_iload_n hx hb dX6_findApart_46 rfl (lv_at hl 1 rfl) ?_
        refine lv_iload hx hb dX6_findApart_47 (lv_at hl 4 rfl) ?_
        obtain ⟨u5, pu5, hf⟩ := z_bd_s hf
        refine z_callv hC (z_runV (rest := []) zm_Gok hC E (zc_X6_narrow l D cI cJ tp q u a_1 x_4 pu5 _) (cwV 2 hts gX6_findApart_X6_narrow rfl rfl rfl ⟨rfl, zd_X6_narrow⟩ ⟨Nat.le_of_ble_eq_true rfl, Nat.le_of_ble_eq_true rfl⟩) (zm_rcX6 hC) rfl hl.1 rfl (Nat.le_of_ble_eq_true rfl) dX6_findApart_49 ⟨Nat.zero_le _, Nat.zero_le _⟩) (fun H locs hC => ?_)
        obtain ⟨x6, ex6⟩ : ∃ z : Int32, z = (x_4 + (1 : Int32)) := ⟨_, rfl⟩
        have hf := z_nm_s hf ex6
        refine lv_iinc (v := x6) (lv' := [(4, _), (0, _), (1, _), (2, _), (3, _)]) hx hb dX6_findApart_52 hl (k := 4) rfl (by rw [ex6]; rfl) (by decide) rfl (fun ls hl => ?_)
        refine lv_goto (tgt := 25) hx hb dX6_findApart_55 (by decide) ?_
        exact ih x6 u5 _ _ _ _ _ hf hC (lv_sub hl [1, 2, 3, 4, 0] rfl) kk
set_option maxHeartbeats 4000000 in
set_option maxRecDepth 100000 in
theorem zl_X6_findApart_4 (E : CallFix p m c cX6_findApart 5 s args wsX6_findApart RX6) (a_1 : Int32) : ∀ (n : Nat) (x_2 : Int32) (x_3 : Int32) (u : z_St) (H : Heap) (locs : List Loc) (ls : Array Slot) (o_2 : Int32) (o_3 : Int32) (ou : z_St), zf_X6_findApart_4 a_1 n x_2 x_3 u = some (o_2, o_3, ou) → z_C (zm_W cI cJ q) (zm_G tp) D cI cJ A s u H locs → lv_has ls 5 [(0, .ref (q 0)), (1, .int a_1), (2, .int x_2), (3, .int x_3)] → (∀ (H : Heap) (locs : List Loc) (ls : Array Slot), z_C (zm_W cI cJ q) (zm_G tp) D cI cJ A s ou H locs → lv_has ls 5 [(0, .ref (q 0)), (1, .int a_1), (2, .int o_2), (3, .int o_3)] → W p l e zr_X6_findApart s m args below meth c H locs 0 0 Q (F0 m 92 ls [])) → W p l e zr_X6_findApart s m args below meth c H locs 0 0 Q (F0 m 4 ls []) := by
  have hx := E.1
  have hb := E.2.1
  have hml := E.2.2.1
  have hown := E.2.2.2.1
  have hts := E.2.2.2.2
  intro n
  induction n with
  | zero =>
    intro x_2 x_3 u H locs ls o_2 o_3 ou hf
    rw [zf_X6_findApart_4.eq_1] at hf
    cases hf
  | succ n ih =>
    intro x_2 x_3 u H locs ls o_2 o_3 ou hf hC hl kk
    rw [zf_X6_findApart_4.eq_2] at hf
    have kf16 := hts (.fieldLink RX6 16 "DawnFairModel" "parts" "[I") (by decide +kernel)
    have kf113 := hts (.fieldLink RX6 113 "DawnFairModel" "from" "I") (by decide +kernel)
    have kf116 := hts (.fieldLink RX6 116 "DawnFairModel" "to" "I") (by decide +kernel)
    refine lv_iload_n hx hb dX6_findApart_4 rfl (lv_at hl 3 rfl) ?_
    refine lv_iconst (v := (1 : Int32)) hx hb dX6_findApart_5 (by decide) ?_
    refine lv_aload_n hx hb dX6_findApart_6 rfl (lv_at hl 0 rfl) ?_
    refine zm_gX6_parts hx hb hts zi_X6_findApart hown hC kf16 dX6_findApart_7 ?_
    refine lv_iload_n hx hb dX6_findApart_10 rfl (lv_at hl 1 rfl) ?_
    obtain ⟨h1, hf⟩ := z_gd_s hf
    refine zm_aX6_parts hx hb hC (z_in h1) dX6_findApart_11 ?_
    refine lv_ishl hx hb dX6_findApart_12 ?_
    refine lv_iconst (v := (1 : Int32)) hx hb dX6_findApart_13 (by decide) ?_
    refine lv_isub hx hb dX6_findApart_14 ?_
    refine lv_icmp_ge (tgt := 92) hx hb dX6_findApart_15 (by decide) (fun c2 => ?_) (fun c2 => ?_)
    · have hf := z_t hf c2
      cases hf
      exact kk _ _ _ hC (lv_sub hl [0, 1, 2, 3] rfl)
    · have hf := z_f hf c2
      refine lv_aload_n hx hb dX6_findApart_18 rfl (lv_at hl 0 rfl) ?_
      obtain ⟨u3, pu3, hf⟩ := z_bd_s hf
      refine z_callv hC (z_runV (rest := []) zm_Gok hC E (zc_X6_allYears l D cI cJ tp q u pu3 _) (cwV 0 hts gX6_findApart_X6_allYears rfl rfl rfl ⟨rfl, zd_X6_allYears⟩ ⟨Nat.le_of_ble_eq_true rfl, Nat.le_of_ble_eq_true rfl⟩) (zm_rcX6 hC) rfl hl.1 rfl (Nat.le_of_ble_eq_true rfl) dX6_findApart_19 ⟨Nat.zero_le _, Nat.zero_le _⟩) (fun H locs hC => ?_)
      refine lv_iconst (v := (0 : Int32)) hx hb dX6_findApart_22 (by decide) ?_
      refine lv_istore (lv' := [(4, _), (0, _), (1, _), (2, _), (3, _)]) hx hb dX6_findApart_23 hl (by decide) rfl (fun ls hl => ?_)
      obtain ⟨y4, u5, py4, hf⟩ := z_bd2_s hf
      refine zl_X6_findApart_25 E a_1 x_2 x_3 5000 (0 : Int32) u3 _ _ _ _ _ py4 hC (lv_sub hl [1, 2, 3, 4, 0] rfl) (fun H locs ls hC hl => ?_)
      refine lv_aload_n hx hb dX6_findApart_58 rfl (lv_at hl 0 rfl) ?_
      refine zm_gX6_from hx hb hts zi_X6_findApart hown hC kf113 dX6_findApart_59 ?_
      refine lv_aload_n hx hb dX6_findApart_62 rfl (lv_at hl 0 rfl) ?_
      refine zm_gX6_to hx hb hts zi_X6_findApart hown hC kf116 dX6_findApart_63 ?_
      refine lv_icmp_gt (tgt := 86) hx hb dX6_findApart_66 (by decide) (fun c6 => ?_) (fun c6 => ?_)
      · have hf := z_t hf c6
        obtain ⟨x7, ex7⟩ : ∃ z : Int32, z = (x_3 + (1 : Int32)) := ⟨_, rfl⟩
        have hf := z_nm_s hf ex7
        refine lv_iinc (v := x7) (lv' := [(3, _), (0, _), (1, _), (2, _), (4, _)]) hx hb dX6_findApart_86 hl (k := 3) rfl (by rw [ex7]; rfl) (by decide) rfl (fun ls hl => ?_)
        refine lv_goto (tgt := 4) hx hb dX6_findApart_89 (by decide) ?_
        exact ih x_2 x7 u5 _ _ _ _ _ _ hf hC (lv_sub hl [1, 2, 3, 0] rfl) kk
      · have hf := z_f hf c6
        refine lv_iload_n hx hb dX6_findApart_69 rfl (lv_at hl 2 rfl) ?_
        refine lv_if_lt (tgt := 84) hx hb dX6_findApart_70 (by decide) (fun c8 => ?_) (fun c8 => ?_)
        · have hf := z_t hf c8
          refine lv_iload_n hx hb dX6_findApart_84 rfl (lv_at hl 3 rfl) ?_
          refine lv_istore_n (lv' := [(2, _), (0, _), (1, _), (3, _), (4, _)]) hx hb dX6_findApart_85 rfl hl (by decide) rfl (fun ls hl => ?_)
          obtain ⟨x9, ex9⟩ : ∃ z : Int32, z = (x_3 + (1 : Int32)) := ⟨_, rfl⟩
          have hf := z_nm_s hf ex9
          refine lv_iinc (v := x9) (lv' := [(3, _), (2, _), (0, _), (1, _), (4, _)]) hx hb dX6_findApart_86 hl (k := 3) rfl (by rw [ex9]; rfl) (by decide) rfl (fun ls hl => ?_)
          refine lv_goto (tgt := 4) hx hb dX6_findApart_89 (by decide) ?_
          exact ih x_3 x9 u5 _ _ _ _ _ _ hf hC (lv_sub hl [2, 3, 1, 0] rfl) kk
        · have hf := z_f hf c8
          refine lv_iload_n hx hb dX6_findApart_73 rfl (lv_at hl 3 rfl) ?_
          obtain ⟨r10, pr10, hf⟩ := z_bd_s hf
          refine z_calli hC (z_runS (rest := []) zm_Gok hC E (zc_X6_bits l D cI cJ tp q u5 x_3 pr10 _) (va_cwS 1 hts gX6_findApart_X6_bits rfl rfl rfl zd_X6_bits ⟨Nat.le_of_ble_eq_true rfl, Nat.le_of_ble_eq_true rfl⟩) rfl hl.1 rfl (Nat.le_of_ble_eq_true rfl) dX6_findApart_74 ⟨Nat.zero_le _, Nat.zero_le _⟩) (fun H locs hC => ?_)
          refine lv_iload_n hx hb dX6_findApart_77 rfl (lv_at hl 2 rfl) ?_
          obtain ⟨r11, pr11, hf⟩ := z_bd_s hf
          refine z_calli hC (z_runS (rest := [_]) zm_Gok hC E (zc_X6_bits l D cI cJ tp q u5 x_2 pr11 _) (va_cwS 1 hts gX6_findApart_X6_bits rfl rfl rfl zd_X6_bits ⟨Nat.le_of_ble_eq_true rfl, Nat.le_of_ble_eq_true rfl⟩) rfl hl.1 rfl (Nat.le_of_ble_eq_true rfl) dX6_findApart_78 ⟨Nat.zero_le _, Nat.zero_le _⟩) (fun H locs hC => ?_)
          refine lv_icmp_ge (tgt := 86) hx hb dX6_findApart_81 (by decide) (fun c12 => ?_) (fun c12 => ?_)
          · have hf := z_t hf c12
            obtain ⟨x13, ex13⟩ : ∃ z : Int32, z = (x_3 + (1 : Int32)) := ⟨_, rfl⟩
            have hf := z_nm_s hf ex13
            refine lv_iinc (v := x13) (lv' := [(3, _), (0, _), (1, _), (2, _), (4, _)]) hx hb dX6_findApart_86 hl (k := 3) rfl (by rw [ex13]; rfl) (by decide) rfl (fun ls hl => ?_)
            refine lv_goto (tgt := 4) hx hb dX6_findApart_89 (by decide) ?_
            exact ih x_2 x13 u5 _ _ _ _ _ _ hf hC (lv_sub hl [1, 2, 3, 0] rfl) kk
          · have hf := z_f hf c12
            refine lv_iload_n hx hb dX6_findApart_84 rfl (lv_at hl 3 rfl) ?_
            refine lv_istore_n (lv' := [(2, _), (0, _), (1, _), (3, _), (4, _)]) hx hb dX6_findApart_85 rfl hl (by decide) rfl (fun ls hl => ?_)
            obtain ⟨x14, ex14⟩ : ∃ z : Int32, z = (x_3 + (1 : Int32)) := ⟨_, rfl⟩
            have hf := z_nm_s hf ex14
            refine lv_iinc (v := x14) (lv' := [(3, _), (2, _), (0, _), (1, _), (4, _)]) hx hb dX6_findApart_86 hl (k := 3) rfl (by rw [ex14]; rfl) (by decide) rfl (fun ls hl => ?_)
            refine lv_goto (tgt := 4) hx hb dX6_findApart_89 (by decide) ?_
            exact ih x_3 x14 u5 _ _ _ _ _ _ hf hC (lv_sub hl [2, 3, 1, 0] rfl) kk
set_option maxHeartbeats 4000000 in
set_option maxRecDepth 100000 in
theorem zl_X6_findApart_98 (E : CallFix p m c cX6_findApart 5 s args wsX6_findApart RX6) (a_1 : Int32) (a_2 : Int32) : ∀ (n : Nat) (x_3 : Int32) (u : z_St) (H : Heap) (locs : List Loc) (ls : Array Slot) (o_3 : Int32) (ou : z_St), zf_X6_findApart_98 a_1 a_2 n x_3 u = some (o_3, ou) → z_C (zm_W cI cJ q) (zm_G tp) D cI cJ A s u H locs → lv_has ls 5 [(0, .ref (q 0)), (1, .int a_1), (2, .int a_2), (3, .int x_3)] → (∀ (H : Heap) (locs : List Loc) (ls : Array Slot), z_C (zm_W cI cJ q) (zm_G tp) D cI cJ A s ou H locs → lv_has ls 5 [(0, .ref (q 0)), (1, .int a_1), (2, .int a_2), (3, .int o_3)] → W p l e zr_X6_findApart s m args below meth c H locs 0 0 Q (F0 m 132 ls [])) → W p l e zr_X6_findApart s m args below meth c H locs 0 0 Q (F0 m 98 ls []) := by
  have hx := E.1
  have hb := E.2.1
  have hml := E.2.2.1
  have hown := E.2.2.2.1
  have hts := E.2.2.2.2
  intro n
  induction n with
  | zero =>
    intro x_3 u H locs ls o_3 ou hf
    rw [zf_X6_findApart_98.eq_1] at hf
    cases hf
  | succ n ih =>
    intro x_3 u H locs ls o_3 ou hf hC hl kk
    rw [zf_X6_findApart_98.eq_2] at hf
    have kf16 := hts (.fieldLink RX6 16 "DawnFairModel" "parts" "[I") (by decide +kernel)
    refine lv_iload_n hx hb dX6_findApart_98 rfl (lv_at hl 3 rfl) ?_
    refine lv_aload_n hx hb dX6_findApart_99 rfl (lv_at hl 0 rfl) ?_
    refine zm_gX6_parts hx hb hts zi_X6_findApart hown hC kf16 dX6_findApart_100 ?_
    refine lv_iload_n hx hb dX6_findApart_103 rfl (lv_at hl 1 rfl) ?_
    obtain ⟨h1, hf⟩ := z_gd_s hf
    refine zm_aX6_parts hx hb hC (z_in h1) dX6_findApart_104 ?_
    refine lv_icmp_ge (tgt := 132) hx hb dX6_findApart_105 (by decide) (fun c2 => ?_) (fun c2 => ?_)
    · have hf := z_t hf c2
      cases hf
      exact kk _ _ _ hC (lv_sub hl [0, 1, 2, 3] rfl)
    · have hf := z_f hf c2
      refine lv_iload_n hx hb dX6_findApart_108 rfl (lv_at hl 2 rfl) ?_
      refine lv_if_lt (tgt := 132) hx hb dX6_findApart_109 (by decide) (fun c3 => ?_) (fun c3 => ?_)
      · have hf := z_t hf c3
        cases hf
        exact kk _ _ _ hC (lv_sub hl [0, 1, 2, 3] rfl)
      · have hf := z_f hf c3
        refine lv_iload_n hx hb dX6_findApart_112 rfl (lv_at hl 2 rfl) ?_
        refine lv_iload_n hx hb dX6_findApart_113 rfl (lv_at hl 3 rfl) ?_
        refine lv_ishr hx hb dX6_findApart_114 ?_
        refine lv_iconst (v := (1 : Int32)) hx hb dX6_findApart_115 (by decide) ?_
        refine lv_iand hx hb dX6_findApart_116 ?_
        refine lv_if_ne (tgt := 126) hx hb dX6_findApart_117 (by decide) (fun c4 => ?_) (fun c4 => ?_)
        · have hf := z_f hf c4
          obtain ⟨x5, ex5⟩ : ∃ z : Int32, z = (x_3 + (1 : Int32)) := ⟨_, rfl⟩
          have hf := z_nm_s hf ex5
          refine lv_iinc (v := x5) (lv' := [(3, _), (0, _), (1, _), (2, _)]) hx hb dX6_findApart_126 hl (k := 3) rfl (by rw [ex5]; rfl) (by decide) rfl (fun ls hl => ?_)
          refine lv_goto (tgt := 98) hx hb dX6_findApart_129 (by decide) ?_
          exact ih x5 u _ _ _ _ _ hf hC (lv_sub hl [1, 2, 3, 0] rfl) kk
        · have hf := z_t hf c4
          refine lv_aload_n hx hb dX6_findApart_120 rfl (lv_at hl 0 rfl) ?_
          refine lv_iload_n hx hb dX6_findApart_121 rfl (lv_at hl 1 rfl) ?_
          refine lv_iload_n hx hb dX6_findApart_122 rfl (lv_at hl 3 rfl) ?_
          obtain ⟨u6, pu6, hf⟩ := z_bd_s hf
          refine z_callv hC (z_runV (rest := []) zm_Gok hC E (zc_X6_narrow l D cI cJ tp q u a_1 x_3 pu6 _) (cwV 2 hts gX6_findApart_X6_narrow rfl rfl rfl ⟨rfl, zd_X6_narrow⟩ ⟨Nat.le_of_ble_eq_true rfl, Nat.le_of_ble_eq_true rfl⟩) (zm_rcX6 hC) rfl hl.1 rfl (Nat.le_of_ble_eq_true rfl) dX6_findApart_123 ⟨Nat.zero_le _, Nat.zero_le _⟩) (fun H locs hC => ?_)
          obtain ⟨x7, ex7⟩ : ∃ z : Int32, z = (x_3 + (1 : Int32)) := ⟨_, rfl⟩
          have hf := z_nm_s hf ex7
          refine lv_iinc (v := x7) (lv' := [(3, _), (0, _), (1, _), (2, _)]) hx hb dX6_findApart_126 hl (k := 3) rfl (by rw [ex7]; rfl) (by decide) rfl (fun ls hl => ?_)
          refine lv_goto (tgt := 98) hx hb dX6_findApart_129 (by decide) ?_
          exact ih x7 u6 _ _ _ _ _ hf hC (lv_sub hl [1, 2, 3, 0] rfl) kk
set_option maxHeartbeats 4000000 in
set_option maxRecDepth 100000 in
theorem zc_X6_findApart (l : Launch) (D : va_G) (cI cJ : ClassId) (tp : Nat) (q : Nat → Nat) (u : z_St) (a_1 : Int32) {r : Int32} {u2 : z_St} (hf : zf_X6_findApart u a_1 = some (r, u2)) : z_Mi l yX6_findApart wsX6_findApart zr_X6_findApart (zm_W cI cJ q) (zm_G tp) D cI cJ [.ref (q 0), .int a_1] u r u2 := by
  refine z_ofi (cc := cX6_findApart) (maxL := 5) (ret := (some .int)) zm_Gok (by decide) rfl (Nat.le_of_ble_eq_true rfl) ?_
  intro A p e s m args below meth c ls E hr hlk hC hl
  have E : CallFix p m c cX6_findApart 5 s args wsX6_findApart RX6 := E
  have hx := E.1
  have hb := E.2.1
  have hml := E.2.2.1
  have hown := E.2.2.2.1
  have hts := E.2.2.2.2
  have hl : lv_has ls 5 [(0, .ref (q 0)), (1, .int a_1)] := hl
  unfold zf_X6_findApart at hf
  refine lv_iconst (v := (-1 : Int32)) hx hb dX6_findApart_0 (by decide) ?_
  refine lv_istore_n (lv' := [(2, _), (0, _), (1, _)]) hx hb dX6_findApart_1 rfl hl (by decide) rfl (fun ls hl => ?_)
  refine lv_iconst (v := (0 : Int32)) hx hb dX6_findApart_2 (by decide) ?_
  refine lv_istore_n (lv' := [(3, _), (2, _), (0, _), (1, _)]) hx hb dX6_findApart_3 rfl hl (by decide) rfl (fun ls hl => ?_)
  obtain ⟨y1, y2, u3, py1, hf⟩ := z_bd3_s hf
  refine zl_X6_findApart_4 E a_1 5000 (-1 : Int32) (0 : Int32) u _ _ _ _ _ _ py1 hC (lv_sub hl [2, 3, 1, 0] rfl) (fun H locs ls hC hl => ?_)
  refine lv_aload_n hx hb dX6_findApart_92 rfl (lv_at hl 0 rfl) ?_
  obtain ⟨u4, pu4, hf⟩ := z_bd_s hf
  refine z_callv hC (z_runV (rest := []) zm_Gok hC E (zc_X6_allYears l D cI cJ tp q u3 pu4 _) (cwV 0 hts gX6_findApart_X6_allYears rfl rfl rfl ⟨rfl, zd_X6_allYears⟩ ⟨Nat.le_of_ble_eq_true rfl, Nat.le_of_ble_eq_true rfl⟩) (zm_rcX6 hC) rfl hl.1 rfl (Nat.le_of_ble_eq_true rfl) dX6_findApart_93 ⟨Nat.zero_le _, Nat.zero_le _⟩) (fun H locs hC => ?_)
  refine lv_iconst (v := (0 : Int32)) hx hb dX6_findApart_96 (by decide) ?_
  refine lv_istore_n (lv' := [(3, _), (0, _), (1, _), (2, _)]) hx hb dX6_findApart_97 rfl hl (by decide) rfl (fun ls hl => ?_)
  obtain ⟨y5, u6, py5, hf⟩ := z_bd2_s hf
  refine zl_X6_findApart_98 E a_1 y1 5000 (0 : Int32) u4 _ _ _ _ _ py5 hC (lv_sub hl [1, 2, 3, 0] rfl) (fun H locs ls hC hl => ?_)
  refine lv_iload_n hx hb dX6_findApart_132 rfl (lv_at hl 2 rfl) ?_
  exact z_reti hx hb hr hlk hC (Prod.mk.inj (Option.some.inj hf)).1 (Prod.mk.inj (Option.some.inj hf)).2 dX6_findApart_133
abbrev zr_X6_apart : Room := { frames := 2, cells := 0, slots := 0, locals := 47 }
theorem zd_X6_apart : yX6_apart.cls ≠ "java/lang/invoke/MethodHandle" ∧ yX6_apart.cls ≠ "java/lang/invoke/VarHandle" ∧ (parseMethodDescriptor yX6_apart.desc).map (fun d => d.parameters.length) = some 1 := by decide +kernel
theorem zi_X6_apart : ∀ w ∈ wsX60, w ∈ wsX6_apart := fun _ h => List.mem_cons_of_mem _ (List.mem_append_right _ h)
set_option maxHeartbeats 4000000 in
set_option maxRecDepth 100000 in
theorem zc_X6_apart (l : Launch) (D : va_G) (cI cJ : ClassId) (tp : Nat) (q : Nat → Nat) (u : z_St) (a_1 : Int32) {r : Int32} {u2 : z_St} (hf : zf_X6_apart u a_1 = some (r, u2)) : z_Mi l yX6_apart wsX6_apart zr_X6_apart (zm_W cI cJ q) (zm_G tp) D cI cJ [.ref (q 0), .int a_1] u r u2 := by
  refine z_ofi (cc := cX6_apart) (maxL := 2) (ret := (some .int)) zm_Gok (by decide) rfl (Nat.le_of_ble_eq_true rfl) ?_
  intro A p e s m args below meth c ls E hr hlk hC hl
  have E : CallFix p m c cX6_apart 2 s args wsX6_apart RX6 := E
  have hx := E.1
  have hb := E.2.1
  have hml := E.2.2.1
  have hown := E.2.2.2.1
  have hts := E.2.2.2.2
  have hl : lv_has ls 2 [(0, .ref (q 0)), (1, .int a_1)] := hl
  unfold zf_X6_apart at hf
  refine lv_aload_n hx hb dX6_apart_0 rfl (lv_at hl 0 rfl) ?_
  refine lv_iload_n hx hb dX6_apart_1 rfl (lv_at hl 1 rfl) ?_
  refine z_calli hC (z_runV (rest := []) zm_Gok hC E (zc_X6_noThing l D cI cJ tp q u a_1 rfl _) (cwV 1 hts gX6_apart_X6_noThing rfl rfl rfl ⟨rfl, zd_X6_noThing⟩ ⟨Nat.le_of_ble_eq_true rfl, Nat.le_of_ble_eq_true rfl⟩) (zm_rcX6 hC) rfl hl.1 rfl (Nat.le_of_ble_eq_true rfl) dX6_apart_2 ⟨Nat.zero_le _, Nat.zero_le _⟩) (fun H locs hC => ?_)
  refine lv_if_eq (tgt := 13) hx hb dX6_apart_5 (by decide) (fun c1 => ?_) (fun c1 => ?_)
  · have hf := z_t hf c1
    refine lv_aload_n hx hb dX6_apart_13 rfl (lv_at hl 0 rfl) ?_
    refine lv_iload_n hx hb dX6_apart_14 rfl (lv_at hl 1 rfl) ?_
    obtain ⟨r2, u3, pr2, hf⟩ := z_bd2_s hf
    refine z_calli hC (z_runV (rest := []) zm_Gok hC E (zc_X6_findApart l D cI cJ tp q u a_1 pr2 _) (cwV 1 hts gX6_apart_X6_findApart rfl rfl rfl ⟨rfl, zd_X6_findApart⟩ ⟨Nat.le_of_ble_eq_true rfl, Nat.le_of_ble_eq_true rfl⟩) (zm_rcX6 hC) rfl hl.1 rfl (Nat.le_of_ble_eq_true rfl) dX6_apart_15 ⟨Nat.zero_le _, Nat.zero_le _⟩) (fun H locs hC => ?_)
    exact z_reti hx hb hr hlk hC (Prod.mk.inj (Option.some.inj hf)).1 (Prod.mk.inj (Option.some.inj hf)).2 dX6_apart_18
  · have hf := z_f hf c1
    refine lv_bipush (v := (-2 : Int32)) hx hb dX6_apart_8 (by decide) ?_
    refine lv_goto (tgt := 18) hx hb dX6_apart_10 (by decide) ?_
    exact z_reti hx hb hr hlk hC (Prod.mk.inj (Option.some.inj hf)).1 (Prod.mk.inj (Option.some.inj hf)).2 dX6_apart_18
abbrev zr_X6_date : Room := { frames := 2, cells := 0, slots := 0, locals := 47 }
theorem zd_X6_date : yX6_date.cls ≠ "java/lang/invoke/MethodHandle" ∧ yX6_date.cls ≠ "java/lang/invoke/VarHandle" ∧ (parseMethodDescriptor yX6_date.desc).map (fun d => d.parameters.length) = some 2 := by decide +kernel
theorem zi_X6_date : ∀ w ∈ wsX60, w ∈ wsX6_date := fun _ h => List.mem_cons_of_mem _ (List.mem_append_right _ h)
set_option maxHeartbeats 4000000 in
set_option maxRecDepth 100000 in
theorem zc_X6_date (l : Launch) (D : va_G) (cI cJ : ClassId) (tp : Nat) (q : Nat → Nat) (u : z_St) (a_1 : Int32) (a_2 : Int32) {r : Int32} {u2 : z_St} (hf : zf_X6_date u a_1 a_2 = some (r, u2)) : z_Mi l yX6_date wsX6_date zr_X6_date (zm_W cI cJ q) (zm_G tp) D cI cJ [.ref (q 0), .int a_1, .int a_2] u r u2 := by
  refine z_ofi (cc := cX6_date) (maxL := 4) (ret := (some .int)) zm_Gok (by decide) rfl (Nat.le_of_ble_eq_true rfl) ?_
  intro A p e s m args below meth c ls E hr hlk hC hl
  have E : CallFix p m c cX6_date 4 s args wsX6_date RX6 := E
  have hx := E.1
  have hb := E.2.1
  have hml := E.2.2.1
  have hown := E.2.2.2.1
  have hts := E.2.2.2.2
  have hl : lv_has ls 4 [(0, .ref (q 0)), (1, .int a_1), (2, .int a_2)] := hl
  unfold zf_X6_date at hf
  have kf116 := hts (.fieldLink RX6 116 "DawnFairModel" "to" "I") (by decide +kernel)
  have kf113 := hts (.fieldLink RX6 113 "DawnFairModel" "from" "I") (by decide +kernel)
  refine lv_aload_n hx hb dX6_date_0 rfl (lv_at hl 0 rfl) ?_
  refine lv_iload_n hx hb dX6_date_1 rfl (lv_at hl 1 rfl) ?_
  refine z_calli hC (z_runV (rest := []) zm_Gok hC E (zc_X6_noThing l D cI cJ tp q u a_1 rfl _) (cwV 1 hts gX6_date_X6_noThing rfl rfl rfl ⟨rfl, zd_X6_noThing⟩ ⟨Nat.le_of_ble_eq_true rfl, Nat.le_of_ble_eq_true rfl⟩) (zm_rcX6 hC) rfl hl.1 rfl (Nat.le_of_ble_eq_true rfl) dX6_date_2 ⟨Nat.zero_le _, Nat.zero_le _⟩) (fun H locs hC => ?_)
  refine lv_if_ne (tgt := 18) hx hb dX6_date_5 (by decide) (fun c1 => ?_) (fun c1 => ?_)
  · have hf := z_f hf c1
    refine lv_bipush (v := (-2 : Int32)) hx hb dX6_date_18 (by decide) ?_
    exact z_reti hx hb hr hlk hC (Prod.mk.inj (Option.some.inj hf)).1 (Prod.mk.inj (Option.some.inj hf)).2 dX6_date_20
  · have hf := z_t hf c1
    refine lv_iload_n hx hb dX6_date_8 rfl (lv_at hl 2 rfl) ?_
    refine lv_i2l hx hb dX6_date_9 rfl ?_
    refine lv_lconst (v := (0 : Int64)) hx hb dX6_date_10 (by decide) ?_
    refine lv_lconst (v := (1 : Int64)) hx hb dX6_date_11 (by decide) ?_
    refine z_calli hC (z_runS (rest := []) zm_Gok hC E (zc_X6_in l D cI cJ tp q u a_2.toInt64 (0 : Int64) (1 : Int64) rfl _) (va_cwS 3 hts gX6_date_X6_in rfl rfl rfl zd_X6_in ⟨Nat.le_of_ble_eq_true rfl, Nat.le_of_ble_eq_true rfl⟩) rfl hl.1 rfl (Nat.le_of_ble_eq_true rfl) dX6_date_12 ⟨Nat.zero_le _, Nat.zero_le _⟩) (fun H locs hC => ?_)
    refine lv_if_ne (tgt := 21) hx hb dX6_date_15 (by decide) (fun c2 => ?_) (fun c2 => ?_)
    · have hf := z_f hf c2
      refine lv_aload_n hx hb dX6_date_21 rfl (lv_at hl 0 rfl) ?_
      refine lv_iload_n hx hb dX6_date_22 rfl (lv_at hl 1 rfl) ?_
      obtain ⟨r3, u4, pr3, hf⟩ := z_bd2_s hf
      refine z_calli hC (z_runV (rest := []) zm_Gok hC E (zc_X6_findApart l D cI cJ tp q u a_1 pr3 _) (cwV 1 hts gX6_date_X6_findApart rfl rfl rfl ⟨rfl, zd_X6_findApart⟩ ⟨Nat.le_of_ble_eq_true rfl, Nat.le_of_ble_eq_true rfl⟩) (zm_rcX6 hC) rfl hl.1 rfl (Nat.le_of_ble_eq_true rfl) dX6_date_23 ⟨Nat.zero_le _, Nat.zero_le _⟩) (fun H locs hC => ?_)
      refine lv_istore_n (lv' := [(3, _), (0, _), (1, _), (2, _)]) hx hb dX6_date_26 rfl hl (by decide) rfl (fun ls hl => ?_)
      refine lv_iload_n hx hb dX6_date_27 rfl (lv_at hl 0 rfl) ?_
      refine lv_if_ge (tgt := 35) hx hb dX6_date_28 (by decide) (fun c5 => ?_) (fun c5 => ?_)
      · have hf := z_t hf c5
        refine lv_iload_n hx hb dX6_date_35 rfl (lv_at hl 3 rfl) ?_
        refine lv_if_ne (tgt := 46) hx hb dX6_date_36 (by decide) (fun c6 => ?_) (fun c6 => ?_)
        · have hf := z_f hf c6
          refine lv_aload_n hx hb dX6_date_46 rfl (lv_at hl 1 rfl) ?_
          refine zm_gX6_to hx hb hts zi_X6_date hown hC kf116 dX6_date_47 ?_
          exact z_reti hx hb hr hlk hC (Prod.mk.inj (Option.some.inj hf)).1 (Prod.mk.inj (Option.some.inj hf)).2 dX6_date_50
        · have hf := z_t hf c6
          refine lv_aload_n hx hb dX6_date_39 rfl (lv_at hl 1 rfl) ?_
          refine zm_gX6_from hx hb hts zi_X6_date hown hC kf113 dX6_date_40 ?_
          refine lv_goto (tgt := 50) hx hb dX6_date_43 (by decide) ?_
          exact z_reti hx hb hr hlk hC (Prod.mk.inj (Option.some.inj hf)).1 (Prod.mk.inj (Option.some.inj hf)).2 dX6_date_50
      · have hf := z_f hf c5
        refine lv_iconst (v := (-1 : Int32)) hx hb dX6_date_31 (by decide) ?_
        refine lv_goto (tgt := 50) hx hb dX6_date_32 (by decide) ?_
        exact z_reti hx hb hr hlk hC (Prod.mk.inj (Option.some.inj hf)).1 (Prod.mk.inj (Option.some.inj hf)).2 dX6_date_50
    · have hf := z_t hf c2
      refine lv_bipush (v := (-2 : Int32)) hx hb dX6_date_18 (by decide) ?_
      exact z_reti hx hb hr hlk hC (Prod.mk.inj (Option.some.inj hf)).1 (Prod.mk.inj (Option.some.inj hf)).2 dX6_date_20
end
