section
variable {p : Program} {l : Launch} {e : Env} {R : Room} {s : State} {m : MethodId} {args : Array Value} {below : List Frame} {meth : Method} {c : Code} {H : Heap} {locs : List Loc} {cells slots : Nat} {Q : State → Prop} {cc : ByteArray} {pc : Nat} {ls : Array Slot} {rest : List Value}
variable {D : va_G} {cI cJ : ClassId} {tp : Nat} {q : Nat → Nat} {A : Nat → Prop} {u : z_St} {Ts : List Cond}
abbrev zr_X0_addLot : Room := { frames := 0, cells := 0, slots := 0, locals := 0 }
theorem zd_X0_addLot : yX0_addLot.cls ≠ "java/lang/invoke/MethodHandle" ∧ yX0_addLot.cls ≠ "java/lang/invoke/VarHandle" ∧ (parseMethodDescriptor yX0_addLot.desc).map (fun d => d.parameters.length) = some 3 := by decide +kernel
theorem zi_X0_addLot : ∀ w ∈ wsX00, w ∈ wsX0_addLot := fun _ h => List.mem_cons_of_mem _ (List.mem_append_right _ h)
set_option maxHeartbeats 4000000 in
set_option maxRecDepth 100000 in
theorem zc_X0_addLot (l : Launch) (D : va_G) (cI cJ : ClassId) (tp : Nat) (q : Nat → Nat) (u : z_St) (a_1 : Int32) (a_2 : Int32) (a_3 : Int32) {r : Int32} {u2 : z_St} (hf : zf_X0_addLot u a_1 a_2 a_3 = some (r, u2)) : z_Mi l yX0_addLot wsX0_addLot zr_X0_addLot (zx_W cI q) (zx_G tp) D cI cJ [.ref (q 0), .int a_1, .int a_2, .int a_3] u r u2 := by
  refine z_ofi (cc := cX0_addLot) (maxL := 4) (ret := (some .int)) zx_Gok (by decide) rfl (Nat.le_of_ble_eq_true rfl) ?_
  intro A p e s m args below meth c ls E hr hlk hC hl
  have E : CallFix p m c cX0_addLot 4 s args wsX0_addLot RX0 := E
  have hx := E.1
  have hb := E.2.1
  have hml := E.2.2.1
  have hown := E.2.2.2.1
  have hts := E.2.2.2.2
  have hl : lv_has ls 4 [(0, .ref (q 0)), (1, .int a_1), (2, .int a_2), (3, .int a_3)] := hl
  unfold zf_X0_addLot at hf
  have kf21 := hts (.fieldLink RX0 21 "DawnFair$Auctions" "lots" "I") (by decide +kernel)
  have kf11 := hts (.fieldLink RX0 11 "DawnFair$Auctions" "there" "[I") (by decide +kernel)
  have kf15 := hts (.fieldLink RX0 15 "DawnFair$Auctions" "bid" "[I") (by decide +kernel)
  have kf18 := hts (.fieldLink RX0 18 "DawnFair$Auctions" "won" "[I") (by decide +kernel)
  refine lv_aload_n hx hb dX0_addLot_0 rfl (lv_at hl 0 rfl) ?_
  refine zx_gX0_lots hx hb hts zi_X0_addLot hown hC kf21 dX0_addLot_1 ?_
  refine lv_bipush (v := (40 : Int32)) hx hb dX0_addLot_4 (by decide) ?_
  refine lv_icmp_lt (tgt := 12) hx hb dX0_addLot_6 (by decide) (fun c1 => ?_) (fun c1 => ?_)
  · have hf := z_t hf c1
    refine lv_aload_n hx hb dX0_addLot_12 rfl (lv_at hl 0 rfl) ?_
    refine zx_gX0_there hx hb hts zi_X0_addLot hown hC kf11 dX0_addLot_13 ?_
    refine lv_aload_n hx hb dX0_addLot_16 rfl (lv_at hl 0 rfl) ?_
    refine zx_gX0_lots hx hb hts zi_X0_addLot hown hC kf21 dX0_addLot_17 ?_
    refine lv_iload_n hx hb dX0_addLot_20 rfl (lv_at hl 1 rfl) ?_
    obtain ⟨h2, hf⟩ := z_gd_s hf
    refine zx_sX0_there hx hb hC (z_in h2) dX0_addLot_21 (fun u3 eu3 H locs hC => ?_)
    have hf := z_nm_s hf eu3
    refine lv_aload_n hx hb dX0_addLot_22 rfl (lv_at hl 0 rfl) ?_
    refine zx_gX0_bid hx hb hts zi_X0_addLot hown hC kf15 dX0_addLot_23 ?_
    refine lv_aload_n hx hb dX0_addLot_26 rfl (lv_at hl 0 rfl) ?_
    refine zx_gX0_lots hx hb hts zi_X0_addLot hown hC kf21 dX0_addLot_27 ?_
    refine lv_iload_n hx hb dX0_addLot_30 rfl (lv_at hl 2 rfl) ?_
    obtain ⟨h4, hf⟩ := z_gd_s hf
    refine zx_sX0_bid hx hb hC (z_in h4) dX0_addLot_31 (fun u5 eu5 H locs hC => ?_)
    have hf := z_nm_s hf eu5
    refine lv_aload_n hx hb dX0_addLot_32 rfl (lv_at hl 0 rfl) ?_
    refine zx_gX0_won hx hb hts zi_X0_addLot hown hC kf18 dX0_addLot_33 ?_
    refine lv_aload_n hx hb dX0_addLot_36 rfl (lv_at hl 0 rfl) ?_
    refine zx_gX0_lots hx hb hts zi_X0_addLot hown hC kf21 dX0_addLot_37 ?_
    refine lv_iload_n hx hb dX0_addLot_40 rfl (lv_at hl 3 rfl) ?_
    obtain ⟨h6, hf⟩ := z_gd_s hf
    refine zx_sX0_won hx hb hC (z_in h6) dX0_addLot_41 (fun u7 eu7 H locs hC => ?_)
    have hf := z_nm_s hf eu7
    refine lv_aload_n hx hb dX0_addLot_42 rfl (lv_at hl 0 rfl) ?_
    refine lv_dup hx hb dX0_addLot_43 rfl ?_
    refine zx_gX0_lots hx hb hts zi_X0_addLot hown hC kf21 dX0_addLot_44 ?_
    refine lv_iconst (v := (1 : Int32)) hx hb dX0_addLot_47 (by decide) ?_
    refine lv_iadd hx hb dX0_addLot_48 ?_
    refine zx_pX0_lots hx hb hts zi_X0_addLot hown hC kf21 dX0_addLot_49 (fun u8 eu8 H locs hC => ?_)
    have hf := z_nm_s hf eu8
    refine lv_aload_n hx hb dX0_addLot_52 rfl (lv_at hl 0 rfl) ?_
    refine zx_gX0_lots hx hb hts zi_X0_addLot hown hC kf21 dX0_addLot_53 ?_
    refine lv_iconst (v := (1 : Int32)) hx hb dX0_addLot_56 (by decide) ?_
    refine lv_isub hx hb dX0_addLot_57 ?_
    exact z_reti hx hb hr hlk hC (Prod.mk.inj (Option.some.inj hf)).1 (Prod.mk.inj (Option.some.inj hf)).2 dX0_addLot_58
  · have hf := z_f hf c1
    refine lv_bipush (v := (-4 : Int32)) hx hb dX0_addLot_9 (by decide) ?_
    exact z_reti hx hb hr hlk hC (Prod.mk.inj (Option.some.inj hf)).1 (Prod.mk.inj (Option.some.inj hf)).2 dX0_addLot_11
abbrev zr_X0_lotCount : Room := { frames := 0, cells := 0, slots := 0, locals := 0 }
theorem zd_X0_lotCount : yX0_lotCount.cls ≠ "java/lang/invoke/MethodHandle" ∧ yX0_lotCount.cls ≠ "java/lang/invoke/VarHandle" ∧ (parseMethodDescriptor yX0_lotCount.desc).map (fun d => d.parameters.length) = some 0 := by decide +kernel
theorem zi_X0_lotCount : ∀ w ∈ wsX00, w ∈ wsX0_lotCount := fun _ h => List.mem_cons_of_mem _ (List.mem_append_right _ h)
set_option maxHeartbeats 4000000 in
set_option maxRecDepth 100000 in
theorem zc_X0_lotCount (l : Launch) (D : va_G) (cI cJ : ClassId) (tp : Nat) (q : Nat → Nat) (u : z_St) {r : Int32} (hf : zf_X0_lotCount u = r) : z_Mi l yX0_lotCount wsX0_lotCount zr_X0_lotCount (zx_W cI q) (zx_G tp) D cI cJ [.ref (q 0)] u r u := by
  refine z_ofi (cc := cX0_lotCount) (maxL := 1) (ret := (some .int)) zx_Gok (by decide) rfl (Nat.le_of_ble_eq_true rfl) ?_
  intro A p e s m args below meth c ls E hr hlk hC hl
  have E : CallFix p m c cX0_lotCount 1 s args wsX0_lotCount RX0 := E
  have hx := E.1
  have hb := E.2.1
  have hml := E.2.2.1
  have hown := E.2.2.2.1
  have hts := E.2.2.2.2
  have hl : lv_has ls 1 [(0, .ref (q 0))] := hl
  unfold zf_X0_lotCount at hf
  have kf21 := hts (.fieldLink RX0 21 "DawnFair$Auctions" "lots" "I") (by decide +kernel)
  refine lv_aload_n hx hb dX0_lotCount_0 rfl (lv_at hl 0 rfl) ?_
  refine zx_gX0_lots hx hb hts zi_X0_lotCount hown hC kf21 dX0_lotCount_1 ?_
  exact z_reti hx hb hr hlk hC hf rfl dX0_lotCount_4
abbrev zr_X0_tally : Room := { frames := 0, cells := 0, slots := 0, locals := 0 }
theorem zd_X0_tally : yX0_tally.cls ≠ "java/lang/invoke/MethodHandle" ∧ yX0_tally.cls ≠ "java/lang/invoke/VarHandle" ∧ (parseMethodDescriptor yX0_tally.desc).map (fun d => d.parameters.length) = some 3 := by decide +kernel
theorem zi_X0_tally : ∀ w ∈ wsX00, w ∈ wsX0_tally := fun _ h => List.mem_cons_of_mem _ (List.mem_append_right _ h)
set_option maxHeartbeats 4000000 in
set_option maxRecDepth 100000 in
theorem zl_X0_tally_30 (E : CallFix p m c cX0_tally 8 s args wsX0_tally RX0) (a_4 : Int32) (a_5 : Int32) (u : z_St) : ∀ (n : Nat) (x_6 : Int32) (x_7 : Int32) (H : Heap) (locs : List Loc) (ls : Array Slot) (o_6 : Int32) (o_7 : Int32), zf_X0_tally_30 a_4 a_5 u n x_6 x_7 = some (o_6, o_7) → z_C (zx_W cI q) (zx_G tp) D cI cJ A s u H locs → lv_has ls 8 [(0, .ref (q 0)), (4, .int a_4), (5, .int a_5), (6, .int x_6), (7, .int x_7)] → (∀ (H : Heap) (locs : List Loc) (ls : Array Slot), z_C (zx_W cI q) (zx_G tp) D cI cJ A s u H locs → lv_has ls 8 [(0, .ref (q 0)), (4, .int a_4), (5, .int a_5), (6, .int o_6), (7, .int o_7)] → W p l e zr_X0_tally s m args below meth c H locs 0 0 Q (F0 m 78 ls [])) → W p l e zr_X0_tally s m args below meth c H locs 0 0 Q (F0 m 30 ls []) := by
  have hx := E.1
  have hb := E.2.1
  have hml := E.2.2.1
  have hown := E.2.2.2.1
  have hts := E.2.2.2.2
  intro n
  induction n with
  | zero =>
    intro x_6 x_7 H locs ls o_6 o_7 hf
    rw [zf_X0_tally_30.eq_1] at hf
    cases hf
  | succ n ih =>
    intro x_6 x_7 H locs ls o_6 o_7 hf hC hl kk
    rw [zf_X0_tally_30.eq_2] at hf
    have kf21 := hts (.fieldLink RX0 21 "DawnFair$Auctions" "lots" "I") (by decide +kernel)
    have kf11 := hts (.fieldLink RX0 11 "DawnFair$Auctions" "there" "[I") (by decide +kernel)
    have kf15 := hts (.fieldLink RX0 15 "DawnFair$Auctions" "bid" "[I") (by decide +kernel)
    refine lv_iload hx hb dX0_tally_30 (lv_at hl 4 rfl) ?_
    refine lv_aload_n hx hb dX0_tally_32 rfl (lv_at hl 0 rfl) ?_
    refine zx_gX0_lots hx hb hts zi_X0_tally hown hC kf21 dX0_tally_33 ?_
    refine lv_icmp_ge (tgt := 78) hx hb dX0_tally_36 (by decide) (fun c1 => ?_) (fun c1 => ?_)
    · have hf := z_t hf c1
      cases hf
      exact kk _ _ _ hC (lv_sub hl [0, 1, 2, 3, 4] rfl)
    · have hf := z_f hf c1
      refine lv_aload_n hx hb dX0_tally_39 rfl (lv_at hl 0 rfl) ?_
      refine zx_gX0_there hx hb hts zi_X0_tally hown hC kf11 dX0_tally_40 ?_
      refine lv_iload hx hb dX0_tally_43 (lv_at hl 4 rfl) ?_
      obtain ⟨h2, hf⟩ := z_gd_s hf
      refine zx_aX0_there hx hb hC (z_in h2) dX0_tally_45 ?_
      refine lv_iload hx hb dX0_tally_46 (lv_at hl 1 rfl) ?_
      refine lv_iand hx hb dX0_tally_48 ?_
      refine lv_iload hx hb dX0_tally_49 (lv_at hl 1 rfl) ?_
      refine lv_icmp_ne (tgt := 72) hx hb dX0_tally_51 (by decide) (fun c3 => ?_) (fun c3 => ?_)
      · have hf := z_f hf c3
        obtain ⟨x4, ex4⟩ : ∃ z : Int32, z = (x_7 + (1 : Int32)) := ⟨_, rfl⟩
        have hf := z_nm_s hf ex4
        refine lv_iinc (v := x4) (lv' := [(7, _), (0, _), (4, _), (5, _), (6, _)]) hx hb dX0_tally_72 hl (k := 4) rfl (by rw [ex4]; rfl) (by decide) rfl (fun ls hl => ?_)
        refine lv_goto (tgt := 30) hx hb dX0_tally_75 (by decide) ?_
        exact ih x_6 x4 _ _ _ _ _ hf hC (lv_sub hl [1, 2, 3, 4, 0] rfl) kk
      · have hf := z_t hf c3
        refine lv_aload_n hx hb dX0_tally_54 rfl (lv_at hl 0 rfl) ?_
        refine zx_gX0_bid hx hb hts zi_X0_tally hown hC kf15 dX0_tally_55 ?_
        refine lv_iload hx hb dX0_tally_58 (lv_at hl 4 rfl) ?_
        obtain ⟨h5, hf⟩ := z_gd_s hf
        refine zx_aX0_bid hx hb hC (z_in h5) dX0_tally_60 ?_
        refine lv_iload hx hb dX0_tally_61 (lv_at hl 2 rfl) ?_
        refine lv_iand hx hb dX0_tally_63 ?_
        refine lv_iload hx hb dX0_tally_64 (lv_at hl 2 rfl) ?_
        refine lv_icmp_ne (tgt := 72) hx hb dX0_tally_66 (by decide) (fun c6 => ?_) (fun c6 => ?_)
        · have hf := z_f hf c6
          obtain ⟨x7, ex7⟩ : ∃ z : Int32, z = (x_7 + (1 : Int32)) := ⟨_, rfl⟩
          have hf := z_nm_s hf ex7
          refine lv_iinc (v := x7) (lv' := [(7, _), (0, _), (4, _), (5, _), (6, _)]) hx hb dX0_tally_72 hl (k := 4) rfl (by rw [ex7]; rfl) (by decide) rfl (fun ls hl => ?_)
          refine lv_goto (tgt := 30) hx hb dX0_tally_75 (by decide) ?_
          exact ih x_6 x7 _ _ _ _ _ hf hC (lv_sub hl [1, 2, 3, 4, 0] rfl) kk
        · have hf := z_t hf c6
          obtain ⟨x8, ex8⟩ : ∃ z : Int32, z = (x_6 + (1 : Int32)) := ⟨_, rfl⟩
          have hf := z_nm_s hf ex8
          refine lv_iinc (v := x8) (lv' := [(6, _), (0, _), (4, _), (5, _), (7, _)]) hx hb dX0_tally_69 hl (k := 3) rfl (by rw [ex8]; rfl) (by decide) rfl (fun ls hl => ?_)
          obtain ⟨x9, ex9⟩ : ∃ z : Int32, z = (x_7 + (1 : Int32)) := ⟨_, rfl⟩
          have hf := z_nm_s hf ex9
          refine lv_iinc (v := x9) (lv' := [(7, _), (6, _), (0, _), (4, _), (5, _)]) hx hb dX0_tally_72 hl (k := 4) rfl (by rw [ex9]; rfl) (by decide) rfl (fun ls hl => ?_)
          refine lv_goto (tgt := 30) hx hb dX0_tally_75 (by decide) ?_
          exact ih x8 x9 _ _ _ _ _ hf hC (lv_sub hl [2, 3, 4, 1, 0] rfl) kk
set_option maxHeartbeats 4000000 in
set_option maxRecDepth 100000 in
theorem zc_X0_tally (l : Launch) (D : va_G) (cI cJ : ClassId) (tp : Nat) (q : Nat → Nat) (u : z_St) (a_1 : Int32) (a_2 : Int32) (a_3 : Int32) {r : Int32} (hf : zf_X0_tally u a_1 a_2 a_3 = some r) : z_Mi l yX0_tally wsX0_tally zr_X0_tally (zx_W cI q) (zx_G tp) D cI cJ [.ref (q 0), .int a_1, .int a_2, .int a_3] u r u := by
  refine z_ofi (cc := cX0_tally) (maxL := 8) (ret := (some .int)) zx_Gok (by decide) rfl (Nat.le_of_ble_eq_true rfl) ?_
  intro A p e s m args below meth c ls E hr hlk hC hl
  have E : CallFix p m c cX0_tally 8 s args wsX0_tally RX0 := E
  have hx := E.1
  have hb := E.2.1
  have hml := E.2.2.1
  have hown := E.2.2.2.1
  have hts := E.2.2.2.2
  have hl : lv_has ls 8 [(0, .ref (q 0)), (1, .int a_1), (2, .int a_2), (3, .int a_3)] := hl
  unfold zf_X0_tally at hf
  refine lv_iconst (v := (1 : Int32)) hx hb dX0_tally_0 (by decide) ?_
  refine lv_iload_n hx hb dX0_tally_1 rfl (lv_at hl 1 rfl) ?_
  refine lv_ishl hx hb dX0_tally_2 ?_
  refine lv_iconst (v := (1 : Int32)) hx hb dX0_tally_3 (by decide) ?_
  refine lv_iload_n hx hb dX0_tally_4 rfl (lv_at hl 2 rfl) ?_
  refine lv_ishl hx hb dX0_tally_5 ?_
  refine lv_ior hx hb dX0_tally_6 ?_
  refine lv_topi (fun x1 ex1 => ?_)
  have hf := z_nm_s hf ex1
  refine lv_istore (lv' := [(4, _), (0, _), (1, _), (2, _), (3, _)]) hx hb dX0_tally_7 hl (by decide) rfl (fun ls hl => ?_)
  refine lv_iload_n hx hb dX0_tally_9 rfl (lv_at hl 4 rfl) ?_
  refine lv_iconst (v := (1 : Int32)) hx hb dX0_tally_10 (by decide) ?_
  refine lv_iand hx hb dX0_tally_11 ?_
  refine lv_iload_n hx hb dX0_tally_12 rfl (lv_at hl 2 rfl) ?_
  refine lv_ishl hx hb dX0_tally_13 ?_
  refine lv_iload_n hx hb dX0_tally_14 rfl (lv_at hl 4 rfl) ?_
  refine lv_iconst (v := (1 : Int32)) hx hb dX0_tally_15 (by decide) ?_
  refine lv_ishr hx hb dX0_tally_16 ?_
  refine lv_iconst (v := (1 : Int32)) hx hb dX0_tally_17 (by decide) ?_
  refine lv_iand hx hb dX0_tally_18 ?_
  refine lv_iload_n hx hb dX0_tally_19 rfl (lv_at hl 3 rfl) ?_
  refine lv_ishl hx hb dX0_tally_20 ?_
  refine lv_ior hx hb dX0_tally_21 ?_
  refine lv_topi (fun x2 ex2 => ?_)
  have hf := z_nm_s hf ex2
  refine lv_istore (lv' := [(5, _), (4, _), (0, _), (1, _), (2, _), (3, _)]) hx hb dX0_tally_22 hl (by decide) rfl (fun ls hl => ?_)
  refine lv_iconst (v := (0 : Int32)) hx hb dX0_tally_24 (by decide) ?_
  refine lv_istore (lv' := [(6, _), (5, _), (4, _), (0, _), (1, _), (2, _), (3, _)]) hx hb dX0_tally_25 hl (by decide) rfl (fun ls hl => ?_)
  refine lv_iconst (v := (0 : Int32)) hx hb dX0_tally_27 (by decide) ?_
  refine lv_istore (lv' := [(7, _), (6, _), (5, _), (4, _), (0, _), (1, _), (2, _), (3, _)]) hx hb dX0_tally_28 hl (by decide) rfl (fun ls hl => ?_)
  obtain ⟨y3, y4, py3, hf⟩ := z_bd2_s hf
  refine zl_X0_tally_30 E x1 x2 u 5000 (0 : Int32) (0 : Int32) _ _ _ _ _ py3 hC (lv_sub hl [4, 3, 2, 1, 0] rfl) (fun H locs ls hC hl => ?_)
  refine lv_iload hx hb dX0_tally_78 (lv_at hl 3 rfl) ?_
  exact z_reti hx hb hr hlk hC (Option.some.inj hf) rfl dX0_tally_80
abbrev zr_X0_choose : Room := { frames := 0, cells := 0, slots := 0, locals := 0 }
theorem zd_X0_choose : yX0_choose.cls ≠ "java/lang/invoke/MethodHandle" ∧ yX0_choose.cls ≠ "java/lang/invoke/VarHandle" ∧ (parseMethodDescriptor yX0_choose.desc).map (fun d => d.parameters.length) = some 2 := by decide +kernel
set_option maxHeartbeats 4000000 in
set_option maxRecDepth 100000 in
theorem zl_X0_choose_16 (E : CallFix p m c cX0_choose 5 s args wsX0_choose RX0) (a_0 : Int32) (a_1 : Int32) (u : z_St) : ∀ (n : Nat) (x_2 : Int64) (x_4 : Int32) (H : Heap) (locs : List Loc) (ls : Array Slot) (o_2 : Int64) (o_4 : Int32), zf_X0_choose_16 a_0 a_1 n x_2 x_4 = some (o_2, o_4) → z_C (zx_W cI q) (zx_G tp) D cI cJ A s u H locs → lv_has ls 5 [(0, .int a_0), (1, .int a_1), (2, .long x_2), (4, .int x_4)] → (∀ (H : Heap) (locs : List Loc) (ls : Array Slot), z_C (zx_W cI q) (zx_G tp) D cI cJ A s u H locs → lv_has ls 5 [(0, .int a_0), (1, .int a_1), (2, .long o_2), (4, .int o_4)] → W p l e zr_X0_choose s m args below meth c H locs 0 0 Q (F0 m 42 ls [])) → W p l e zr_X0_choose s m args below meth c H locs 0 0 Q (F0 m 16 ls []) := by
  have hx := E.1
  have hb := E.2.1
  have hml := E.2.2.1
  have hown := E.2.2.2.1
  have hts := E.2.2.2.2
  intro n
  induction n with
  | zero =>
    intro x_2 x_4 H locs ls o_2 o_4 hf
    rw [zf_X0_choose_16.eq_1] at hf
    cases hf
  | succ n ih =>
    intro x_2 x_4 H locs ls o_2 o_4 hf hC hl kk
    rw [zf_X0_choose_16.eq_2] at hf
    refine lv_iload hx hb dX0_choose_16 (lv_at hl 3 rfl) ?_
    refine lv_iload_n hx hb dX0_choose_18 rfl (lv_at hl 1 rfl) ?_
    refine lv_icmp_gt (tgt := 42) hx hb dX0_choose_19 (by decide) (fun c1 => ?_) (fun c1 => ?_)
    · have hf := z_t hf c1
      cases hf
      exact kk _ _ _ hC (lv_sub hl [0, 1, 2, 3] rfl)
    · have hf := z_f hf c1
      refine lv_lload_n hx hb dX0_choose_22 rfl (lv_at hl 2 rfl) ?_
      refine lv_iload_n hx hb dX0_choose_23 rfl (lv_at hl 0 rfl) ?_
      refine lv_iload_n hx hb dX0_choose_24 rfl (lv_at hl 1 rfl) ?_
      refine lv_isub hx hb dX0_choose_25 ?_
      refine lv_iload hx hb dX0_choose_26 (lv_at hl 3 rfl) ?_
      refine lv_iadd hx hb dX0_choose_28 ?_
      refine lv_i2l hx hb dX0_choose_29 rfl ?_
      refine lv_lmul hx hb dX0_choose_30 ?_
      refine lv_iload hx hb dX0_choose_31 (lv_at hl 3 rfl) ?_
      refine lv_i2l hx hb dX0_choose_33 rfl ?_
      obtain ⟨h2, hf⟩ := z_gd_s hf
      refine lv_ldiv hx hb dX0_choose_34 (z_nzL_s h2) ?_
      refine lv_topl (fun x3 ex3 => ?_)
      have hf := z_nm_s hf ex3
      refine lv_lstore_n (lv' := [(2, _), (0, _), (1, _), (4, _)]) hx hb dX0_choose_35 rfl hl (by decide) rfl (fun ls hl => ?_)
      obtain ⟨x4, ex4⟩ : ∃ z : Int32, z = (x_4 + (1 : Int32)) := ⟨_, rfl⟩
      have hf := z_nm_s hf ex4
      refine lv_iinc (v := x4) (lv' := [(4, _), (2, _), (0, _), (1, _)]) hx hb dX0_choose_36 hl (k := 3) rfl (by rw [ex4]; rfl) (by decide) rfl (fun ls hl => ?_)
      refine lv_goto (tgt := 16) hx hb dX0_choose_39 (by decide) ?_
      exact ih x3 x4 _ _ _ _ _ hf hC (lv_sub hl [2, 3, 1, 0] rfl) kk
set_option maxHeartbeats 4000000 in
set_option maxRecDepth 100000 in
theorem zc_X0_choose (l : Launch) (D : va_G) (cI cJ : ClassId) (tp : Nat) (q : Nat → Nat) (u : z_St) (a_0 : Int32) (a_1 : Int32) {r : Int64} (hf : zf_X0_choose a_0 a_1 = some r) : z_Ml l yX0_choose wsX0_choose zr_X0_choose (zx_W cI q) (zx_G tp) D cI cJ [.int a_0, .int a_1] u r u := by
  refine z_ofl (cc := cX0_choose) (maxL := 5) (ret := (some .long)) zx_Gok (by decide) rfl (Nat.le_of_ble_eq_true rfl) ?_
  intro A p e s m args below meth c ls E hr hlk hC hl
  have E : CallFix p m c cX0_choose 5 s args wsX0_choose RX0 := E
  have hx := E.1
  have hb := E.2.1
  have hml := E.2.2.1
  have hown := E.2.2.2.1
  have hts := E.2.2.2.2
  have hl : lv_has ls 5 [(0, .int a_0), (1, .int a_1)] := hl
  unfold zf_X0_choose at hf
  refine lv_iload_n hx hb dX0_choose_0 rfl (lv_at hl 1 rfl) ?_
  refine lv_if_lt (tgt := 9) hx hb dX0_choose_1 (by decide) (fun c1 => ?_) (fun c1 => ?_)
  · have hf := z_t hf c1
    refine lv_lconst (v := (0 : Int64)) hx hb dX0_choose_9 (by decide) ?_
    exact z_retl hx hb hr hlk hC (Option.some.inj hf) rfl dX0_choose_10
  · have hf := z_f hf c1
    refine lv_iload_n hx hb dX0_choose_4 rfl (lv_at hl 1 rfl) ?_
    refine lv_iload_n hx hb dX0_choose_5 rfl (lv_at hl 0 rfl) ?_
    refine lv_icmp_le (tgt := 11) hx hb dX0_choose_6 (by decide) (fun c2 => ?_) (fun c2 => ?_)
    · have hf := z_t hf c2
      refine lv_lconst (v := (1 : Int64)) hx hb dX0_choose_11 (by decide) ?_
      refine lv_lstore_n (lv' := [(2, _), (0, _), (1, _)]) hx hb dX0_choose_12 rfl hl (by decide) rfl (fun ls hl => ?_)
      refine lv_iconst (v := (1 : Int32)) hx hb dX0_choose_13 (by decide) ?_
      refine lv_istore (lv' := [(4, _), (2, _), (0, _), (1, _)]) hx hb dX0_choose_14 hl (by decide) rfl (fun ls hl => ?_)
      obtain ⟨y3, y4, py3, hf⟩ := z_bd2_s hf
      refine zl_X0_choose_16 E a_0 a_1 u 5000 (1 : Int64) (1 : Int32) _ _ _ _ _ py3 hC (lv_sub hl [2, 3, 1, 0] rfl) (fun H locs ls hC hl => ?_)
      refine lv_lload_n hx hb dX0_choose_42 rfl (lv_at hl 2 rfl) ?_
      exact z_retl hx hb hr hlk hC (Option.some.inj hf) rfl dX0_choose_43
    · have hf := z_f hf c2
      refine lv_lconst (v := (0 : Int64)) hx hb dX0_choose_9 (by decide) ?_
      exact z_retl hx hb hr hlk hC (Option.some.inj hf) rfl dX0_choose_10
abbrev zr_X0_allWays : Room := { frames := 1, cells := 0, slots := 0, locals := 27 }
theorem zd_X0_allWays : yX0_allWays.cls ≠ "java/lang/invoke/MethodHandle" ∧ yX0_allWays.cls ≠ "java/lang/invoke/VarHandle" ∧ (parseMethodDescriptor yX0_allWays.desc).map (fun d => d.parameters.length) = some 2 := by decide +kernel
theorem zi_X0_allWays : ∀ w ∈ wsX00, w ∈ wsX0_allWays := fun _ h => List.mem_cons_of_mem _ (List.mem_append_right _ h)
set_option maxHeartbeats 4000000 in
set_option maxRecDepth 100000 in
theorem zc_X0_allWays (l : Launch) (D : va_G) (cI cJ : ClassId) (tp : Nat) (q : Nat → Nat) (u : z_St) (a_1 : Int32) (a_2 : Int32) {r : Int64} (hf : zf_X0_allWays u a_1 a_2 = some r) : z_Ml l yX0_allWays wsX0_allWays zr_X0_allWays (zx_W cI q) (zx_G tp) D cI cJ [.ref (q 0), .int a_1, .int a_2] u r u := by
  refine z_ofl (cc := cX0_allWays) (maxL := 3) (ret := (some .long)) zx_Gok (by decide) rfl (Nat.le_of_ble_eq_true rfl) ?_
  intro A p e s m args below meth c ls E hr hlk hC hl
  have E : CallFix p m c cX0_allWays 3 s args wsX0_allWays RX0 := E
  have hx := E.1
  have hb := E.2.1
  have hml := E.2.2.1
  have hown := E.2.2.2.1
  have hts := E.2.2.2.2
  have hl : lv_has ls 3 [(0, .ref (q 0)), (1, .int a_1), (2, .int a_2)] := hl
  unfold zf_X0_allWays at hf
  refine lv_aload_n hx hb dX0_allWays_0 rfl (lv_at hl 0 rfl) ?_
  refine lv_iload_n hx hb dX0_allWays_1 rfl (lv_at hl 1 rfl) ?_
  refine lv_iload_n hx hb dX0_allWays_2 rfl (lv_at hl 2 rfl) ?_
  refine lv_iconst (v := (0 : Int32)) hx hb dX0_allWays_3 (by decide) ?_
  obtain ⟨r1, pr1, hf⟩ := z_bd_s hf
  refine z_calli hC (z_runV (rest := []) zx_Gok hC E (zc_X0_tally l D cI cJ tp q u a_1 a_2 (0 : Int32) pr1 _) (cwV 3 hts gX0_allWays_X0_tally rfl rfl rfl ⟨rfl, zd_X0_tally⟩ ⟨Nat.le_of_ble_eq_true rfl, Nat.le_of_ble_eq_true rfl⟩) (zx_rcX0 hC) rfl hl.1 rfl (Nat.le_of_ble_eq_true rfl) dX0_allWays_4 ⟨Nat.zero_le _, Nat.zero_le _⟩) (fun H locs hC => ?_)
  refine lv_aload_n hx hb dX0_allWays_7 rfl (lv_at hl 0 rfl) ?_
  refine lv_iload_n hx hb dX0_allWays_8 rfl (lv_at hl 1 rfl) ?_
  refine lv_iload_n hx hb dX0_allWays_9 rfl (lv_at hl 2 rfl) ?_
  refine lv_iconst (v := (2 : Int32)) hx hb dX0_allWays_10 (by decide) ?_
  obtain ⟨r2, pr2, hf⟩ := z_bd_s hf
  refine z_calli hC (z_runV (rest := [_]) zx_Gok hC E (zc_X0_tally l D cI cJ tp q u a_1 a_2 (2 : Int32) pr2 _) (cwV 3 hts gX0_allWays_X0_tally rfl rfl rfl ⟨rfl, zd_X0_tally⟩ ⟨Nat.le_of_ble_eq_true rfl, Nat.le_of_ble_eq_true rfl⟩) (zx_rcX0 hC) rfl hl.1 rfl (Nat.le_of_ble_eq_true rfl) dX0_allWays_11 ⟨Nat.zero_le _, Nat.zero_le _⟩) (fun H locs hC => ?_)
  obtain ⟨r3, pr3, hf⟩ := z_bd_s hf
  refine z_calll hC (z_runS (rest := []) zx_Gok hC E (zc_X0_choose l D cI cJ tp q u r1 r2 pr3 _) (va_cwS 2 hts gX0_allWays_X0_choose rfl rfl rfl zd_X0_choose ⟨Nat.le_of_ble_eq_true rfl, Nat.le_of_ble_eq_true rfl⟩) rfl hl.1 rfl (Nat.le_of_ble_eq_true rfl) dX0_allWays_14 ⟨Nat.zero_le _, Nat.zero_le _⟩) (fun H locs hC => ?_)
  exact z_retl hx hb hr hlk hC (Option.some.inj hf) rfl dX0_allWays_17
abbrev zr_X0_waysAsShy : Room := { frames := 1, cells := 0, slots := 0, locals := 27 }
theorem zd_X0_waysAsShy : yX0_waysAsShy.cls ≠ "java/lang/invoke/MethodHandle" ∧ yX0_waysAsShy.cls ≠ "java/lang/invoke/VarHandle" ∧ (parseMethodDescriptor yX0_waysAsShy.desc).map (fun d => d.parameters.length) = some 2 := by decide +kernel
theorem zi_X0_waysAsShy : ∀ w ∈ wsX00, w ∈ wsX0_waysAsShy := fun _ h => List.mem_cons_of_mem _ (List.mem_append_right _ h)
set_option maxHeartbeats 4000000 in
set_option maxRecDepth 100000 in
theorem zl_X0_waysAsShy_41 (E : CallFix p m c cX0_waysAsShy 10 s args wsX0_waysAsShy RX0) (a_3 : Int32) (a_4 : Int32) (a_5 : Int32) (a_6 : Int32) (u : z_St) : ∀ (n : Nat) (x_7 : Int64) (x_9 : Int32) (H : Heap) (locs : List Loc) (ls : Array Slot) (o_7 : Int64) (o_9 : Int32), zf_X0_waysAsShy_41 a_3 a_4 a_5 a_6 n x_7 x_9 = some (o_7, o_9) → z_C (zx_W cI q) (zx_G tp) D cI cJ A s u H locs → lv_has ls 10 [(3, .int a_3), (4, .int a_4), (5, .int a_5), (6, .int a_6), (7, .long x_7), (9, .int x_9)] → (∀ (H : Heap) (locs : List Loc) (ls : Array Slot), z_C (zx_W cI q) (zx_G tp) D cI cJ A s u H locs → lv_has ls 10 [(3, .int a_3), (4, .int a_4), (5, .int a_5), (6, .int a_6), (7, .long o_7), (9, .int o_9)] → W p l e zr_X0_waysAsShy s m args below meth c H locs 0 0 Q (F0 m 79 ls [])) → W p l e zr_X0_waysAsShy s m args below meth c H locs 0 0 Q (F0 m 41 ls []) := by
  have hx := E.1
  have hb := E.2.1
  have hml := E.2.2.1
  have hown := E.2.2.2.1
  have hts := E.2.2.2.2
  intro n
  induction n with
  | zero =>
    intro x_7 x_9 H locs ls o_7 o_9 hf
    rw [zf_X0_waysAsShy_41.eq_1] at hf
    cases hf
  | succ n ih =>
    intro x_7 x_9 H locs ls o_7 o_9 hf hC hl kk
    rw [zf_X0_waysAsShy_41.eq_2] at hf
    refine lv_iload hx hb dX0_waysAsShy_41 (lv_at hl 5 rfl) ?_
    refine lv_iload hx hb dX0_waysAsShy_43 (lv_at hl 3 rfl) ?_
    refine lv_icmp_gt (tgt := 79) hx hb dX0_waysAsShy_45 (by decide) (fun c1 => ?_) (fun c1 => ?_)
    · have hf := z_t hf c1
      cases hf
      exact kk _ _ _ hC (lv_sub hl [0, 1, 2, 3, 4, 5] rfl)
    · have hf := z_f hf c1
      refine lv_lload hx hb dX0_waysAsShy_48 (lv_at hl 4 rfl) ?_
      refine lv_iload hx hb dX0_waysAsShy_50 (lv_at hl 1 rfl) ?_
      refine lv_iload hx hb dX0_waysAsShy_52 (lv_at hl 5 rfl) ?_
      obtain ⟨r2, pr2, hf⟩ := z_bd_s hf
      refine z_calll hC (z_runS (rest := [_]) zx_Gok hC E (zc_X0_choose l D cI cJ tp q u a_4 x_9 pr2 _) (va_cwS 2 hts gX0_waysAsShy_X0_choose rfl rfl rfl zd_X0_choose ⟨Nat.le_of_ble_eq_true rfl, Nat.le_of_ble_eq_true rfl⟩) rfl hl.1 rfl (Nat.le_of_ble_eq_true rfl) dX0_waysAsShy_54 ⟨Nat.zero_le _, Nat.zero_le _⟩) (fun H locs hC => ?_)
      refine lv_iload_n hx hb dX0_waysAsShy_57 rfl (lv_at hl 0 rfl) ?_
      refine lv_iload hx hb dX0_waysAsShy_58 (lv_at hl 1 rfl) ?_
      refine lv_isub hx hb dX0_waysAsShy_60 ?_
      refine lv_iload hx hb dX0_waysAsShy_61 (lv_at hl 2 rfl) ?_
      refine lv_iload hx hb dX0_waysAsShy_63 (lv_at hl 5 rfl) ?_
      refine lv_isub hx hb dX0_waysAsShy_65 ?_
      obtain ⟨r3, pr3, hf⟩ := z_bd_s hf
      refine z_calll hC (z_runS (rest := [_, _]) zx_Gok hC E (zc_X0_choose l D cI cJ tp q u (a_3 - a_4) (a_5 - x_9) pr3 _) (va_cwS 2 hts gX0_waysAsShy_X0_choose rfl rfl rfl zd_X0_choose ⟨Nat.le_of_ble_eq_true rfl, Nat.le_of_ble_eq_true rfl⟩) rfl hl.1 rfl (Nat.le_of_ble_eq_true rfl) dX0_waysAsShy_66 ⟨Nat.zero_le _, Nat.zero_le _⟩) (fun H locs hC => ?_)
      refine lv_lmul hx hb dX0_waysAsShy_69 ?_
      refine lv_ladd hx hb dX0_waysAsShy_70 ?_
      refine lv_topl (fun x4 ex4 => ?_)
      have hf := z_nm_s hf ex4
      refine lv_lstore (lv' := [(7, _), (3, _), (4, _), (5, _), (6, _), (9, _)]) hx hb dX0_waysAsShy_71 hl (by decide) rfl (fun ls hl => ?_)
      obtain ⟨x5, ex5⟩ : ∃ z : Int32, z = (x_9 + (1 : Int32)) := ⟨_, rfl⟩
      have hf := z_nm_s hf ex5
      refine lv_iinc (v := x5) (lv' := [(9, _), (7, _), (3, _), (4, _), (5, _), (6, _)]) hx hb dX0_waysAsShy_73 hl (k := 5) rfl (by rw [ex5]; rfl) (by decide) rfl (fun ls hl => ?_)
      refine lv_goto (tgt := 41) hx hb dX0_waysAsShy_76 (by decide) ?_
      exact ih x4 x5 _ _ _ _ _ hf hC (lv_sub hl [2, 3, 4, 5, 1, 0] rfl) kk
set_option maxHeartbeats 4000000 in
set_option maxRecDepth 100000 in
theorem zc_X0_waysAsShy (l : Launch) (D : va_G) (cI cJ : ClassId) (tp : Nat) (q : Nat → Nat) (u : z_St) (a_1 : Int32) (a_2 : Int32) {r : Int64} (hf : zf_X0_waysAsShy u a_1 a_2 = some r) : z_Ml l yX0_waysAsShy wsX0_waysAsShy zr_X0_waysAsShy (zx_W cI q) (zx_G tp) D cI cJ [.ref (q 0), .int a_1, .int a_2] u r u := by
  refine z_ofl (cc := cX0_waysAsShy) (maxL := 10) (ret := (some .long)) zx_Gok (by decide) rfl (Nat.le_of_ble_eq_true rfl) ?_
  intro A p e s m args below meth c ls E hr hlk hC hl
  have E : CallFix p m c cX0_waysAsShy 10 s args wsX0_waysAsShy RX0 := E
  have hx := E.1
  have hb := E.2.1
  have hml := E.2.2.1
  have hown := E.2.2.2.1
  have hts := E.2.2.2.2
  have hl : lv_has ls 10 [(0, .ref (q 0)), (1, .int a_1), (2, .int a_2)] := hl
  unfold zf_X0_waysAsShy at hf
  refine lv_aload_n hx hb dX0_waysAsShy_0 rfl (lv_at hl 0 rfl) ?_
  refine lv_iload_n hx hb dX0_waysAsShy_1 rfl (lv_at hl 1 rfl) ?_
  refine lv_iload_n hx hb dX0_waysAsShy_2 rfl (lv_at hl 2 rfl) ?_
  refine lv_iconst (v := (0 : Int32)) hx hb dX0_waysAsShy_3 (by decide) ?_
  obtain ⟨r1, pr1, hf⟩ := z_bd_s hf
  refine z_calli hC (z_runV (rest := []) zx_Gok hC E (zc_X0_tally l D cI cJ tp q u a_1 a_2 (0 : Int32) pr1 _) (cwV 3 hts gX0_waysAsShy_X0_tally rfl rfl rfl ⟨rfl, zd_X0_tally⟩ ⟨Nat.le_of_ble_eq_true rfl, Nat.le_of_ble_eq_true rfl⟩) (zx_rcX0 hC) rfl hl.1 rfl (Nat.le_of_ble_eq_true rfl) dX0_waysAsShy_4 ⟨Nat.zero_le _, Nat.zero_le _⟩) (fun H locs hC => ?_)
  refine lv_istore_n (lv' := [(3, _), (0, _), (1, _), (2, _)]) hx hb dX0_waysAsShy_7 rfl hl (by decide) rfl (fun ls hl => ?_)
  refine lv_aload_n hx hb dX0_waysAsShy_8 rfl (lv_at hl 1 rfl) ?_
  refine lv_iload_n hx hb dX0_waysAsShy_9 rfl (lv_at hl 2 rfl) ?_
  refine lv_iload_n hx hb dX0_waysAsShy_10 rfl (lv_at hl 3 rfl) ?_
  refine lv_iconst (v := (1 : Int32)) hx hb dX0_waysAsShy_11 (by decide) ?_
  obtain ⟨r2, pr2, hf⟩ := z_bd_s hf
  refine z_calli hC (z_runV (rest := []) zx_Gok hC E (zc_X0_tally l D cI cJ tp q u a_1 a_2 (1 : Int32) pr2 _) (cwV 3 hts gX0_waysAsShy_X0_tally rfl rfl rfl ⟨rfl, zd_X0_tally⟩ ⟨Nat.le_of_ble_eq_true rfl, Nat.le_of_ble_eq_true rfl⟩) (zx_rcX0 hC) rfl hl.1 rfl (Nat.le_of_ble_eq_true rfl) dX0_waysAsShy_12 ⟨Nat.zero_le _, Nat.zero_le _⟩) (fun H locs hC => ?_)
  refine lv_istore (lv' := [(4, _), (3, _), (0, _), (1, _), (2, _)]) hx hb dX0_waysAsShy_15 hl (by decide) rfl (fun ls hl => ?_)
  refine lv_aload_n hx hb dX0_waysAsShy_17 rfl (lv_at hl 2 rfl) ?_
  refine lv_iload_n hx hb dX0_waysAsShy_18 rfl (lv_at hl 3 rfl) ?_
  refine lv_iload_n hx hb dX0_waysAsShy_19 rfl (lv_at hl 4 rfl) ?_
  refine lv_iconst (v := (2 : Int32)) hx hb dX0_waysAsShy_20 (by decide) ?_
  obtain ⟨r3, pr3, hf⟩ := z_bd_s hf
  refine z_calli hC (z_runV (rest := []) zx_Gok hC E (zc_X0_tally l D cI cJ tp q u a_1 a_2 (2 : Int32) pr3 _) (cwV 3 hts gX0_waysAsShy_X0_tally rfl rfl rfl ⟨rfl, zd_X0_tally⟩ ⟨Nat.le_of_ble_eq_true rfl, Nat.le_of_ble_eq_true rfl⟩) (zx_rcX0 hC) rfl hl.1 rfl (Nat.le_of_ble_eq_true rfl) dX0_waysAsShy_21 ⟨Nat.zero_le _, Nat.zero_le _⟩) (fun H locs hC => ?_)
  refine lv_istore (lv' := [(5, _), (4, _), (3, _), (0, _), (1, _), (2, _)]) hx hb dX0_waysAsShy_24 hl (by decide) rfl (fun ls hl => ?_)
  refine lv_aload_n hx hb dX0_waysAsShy_26 rfl (lv_at hl 3 rfl) ?_
  refine lv_iload_n hx hb dX0_waysAsShy_27 rfl (lv_at hl 4 rfl) ?_
  refine lv_iload_n hx hb dX0_waysAsShy_28 rfl (lv_at hl 5 rfl) ?_
  refine lv_iconst (v := (3 : Int32)) hx hb dX0_waysAsShy_29 (by decide) ?_
  obtain ⟨r4, pr4, hf⟩ := z_bd_s hf
  refine z_calli hC (z_runV (rest := []) zx_Gok hC E (zc_X0_tally l D cI cJ tp q u a_1 a_2 (3 : Int32) pr4 _) (cwV 3 hts gX0_waysAsShy_X0_tally rfl rfl rfl ⟨rfl, zd_X0_tally⟩ ⟨Nat.le_of_ble_eq_true rfl, Nat.le_of_ble_eq_true rfl⟩) (zx_rcX0 hC) rfl hl.1 rfl (Nat.le_of_ble_eq_true rfl) dX0_waysAsShy_30 ⟨Nat.zero_le _, Nat.zero_le _⟩) (fun H locs hC => ?_)
  refine lv_istore (lv' := [(6, _), (5, _), (4, _), (3, _), (0, _), (1, _), (2, _)]) hx hb dX0_waysAsShy_33 hl (by decide) rfl (fun ls hl => ?_)
  refine lv_lconst (v := (0 : Int64)) hx hb dX0_waysAsShy_35 (by decide) ?_
  refine lv_lstore (lv' := [(7, _), (6, _), (5, _), (4, _), (3, _), (0, _), (1, _), (2, _)]) hx hb dX0_waysAsShy_36 hl (by decide) rfl (fun ls hl => ?_)
  refine lv_iconst (v := (0 : Int32)) hx hb dX0_waysAsShy_38 (by decide) ?_
  refine lv_istore (lv' := [(9, _), (7, _), (6, _), (5, _), (4, _), (3, _), (0, _), (1, _), (2, _)]) hx hb dX0_waysAsShy_39 hl (by decide) rfl (fun ls hl => ?_)
  obtain ⟨y5, y6, py5, hf⟩ := z_bd2_s hf
  refine zl_X0_waysAsShy_41 E r1 r2 r3 r4 u 5000 (0 : Int64) (0 : Int32) _ _ _ _ _ py5 hC (lv_sub hl [5, 4, 3, 2, 1, 0] rfl) (fun H locs ls hC hl => ?_)
  refine lv_lload hx hb dX0_waysAsShy_79 (lv_at hl 4 rfl) ?_
  exact z_retl hx hb hr hlk hC (Option.some.inj hf) rfl dX0_waysAsShy_81
abbrev zr_X0_productBelow : Room := { frames := 0, cells := 0, slots := 0, locals := 0 }
theorem zd_X0_productBelow : yX0_productBelow.cls ≠ "java/lang/invoke/MethodHandle" ∧ yX0_productBelow.cls ≠ "java/lang/invoke/VarHandle" ∧ (parseMethodDescriptor yX0_productBelow.desc).map (fun d => d.parameters.length) = some 4 := by decide +kernel
set_option maxHeartbeats 4000000 in
set_option maxRecDepth 100000 in
theorem zc_X0_productBelow (l : Launch) (D : va_G) (cI cJ : ClassId) (tp : Nat) (q : Nat → Nat) (u : z_St) (a_0 : Int64) (a_2 : Int64) (a_4 : Int64) (a_6 : Int64) {r : Int32} (hf : zf_X0_productBelow a_0 a_2 a_4 a_6 = r) : z_Mi l yX0_productBelow wsX0_productBelow zr_X0_productBelow (zx_W cI q) (zx_G tp) D cI cJ [.long a_0, .long a_2, .long a_4, .long a_6] u r u := by
  refine z_ofi (cc := cX0_productBelow) (maxL := 12) (ret := (some .boolean)) zx_Gok (by decide) rfl (Nat.le_of_ble_eq_true rfl) ?_
  intro A p e s m args below meth c ls E hr hlk hC hl
  have E : CallFix p m c cX0_productBelow 12 s args wsX0_productBelow RX0 := E
  have hx := E.1
  have hb := E.2.1
  have hml := E.2.2.1
  have hown := E.2.2.2.1
  have hts := E.2.2.2.2
  have hl : lv_has ls 12 [(0, .long a_0), (2, .long a_2), (4, .long a_4), (6, .long a_6)] := hl
  unfold zf_X0_productBelow at hf
  have kl43 := hts (.constantLong RX0 43 (1048575)) (by decide +kernel)
  refine lv_lload_n hx hb dX0_productBelow_0 rfl (lv_at hl 0 rfl) ?_
  refine lv_bipush (v := (20 : Int32)) hx hb dX0_productBelow_1 (by decide) ?_
  refine lv_lshr hx hb dX0_productBelow_3 rfl ?_
  refine lv_lload_n hx hb dX0_productBelow_4 rfl (lv_at hl 1 rfl) ?_
  refine lv_lmul hx hb dX0_productBelow_5 ?_
  refine lv_lload_n hx hb dX0_productBelow_6 rfl (lv_at hl 0 rfl) ?_
  refine lv_ldc2 (own := RX0) (v := (1048575 : Int64)) hx hb hown kl43 dX0_productBelow_7 ?_
  refine lv_land hx hb dX0_productBelow_10 ?_
  refine lv_lload_n hx hb dX0_productBelow_11 rfl (lv_at hl 1 rfl) ?_
  refine lv_lmul hx hb dX0_productBelow_12 ?_
  refine lv_bipush (v := (20 : Int32)) hx hb dX0_productBelow_13 (by decide) ?_
  refine lv_lshr hx hb dX0_productBelow_15 rfl ?_
  refine lv_ladd hx hb dX0_productBelow_16 ?_
  refine lv_topl (fun x1 ex1 => ?_)
  have hf := z_nm_s hf ex1
  refine lv_lstore (lv' := [(8, _), (0, _), (2, _), (4, _), (6, _)]) hx hb dX0_productBelow_17 hl (by decide) rfl (fun ls hl => ?_)
  refine lv_lload hx hb dX0_productBelow_19 (lv_at hl 3 rfl) ?_
  refine lv_bipush (v := (20 : Int32)) hx hb dX0_productBelow_21 (by decide) ?_
  refine lv_lshr hx hb dX0_productBelow_23 rfl ?_
  refine lv_lload hx hb dX0_productBelow_24 (lv_at hl 4 rfl) ?_
  refine lv_lmul hx hb dX0_productBelow_26 ?_
  refine lv_lload hx hb dX0_productBelow_27 (lv_at hl 3 rfl) ?_
  refine lv_ldc2 (own := RX0) (v := (1048575 : Int64)) hx hb hown kl43 dX0_productBelow_29 ?_
  refine lv_land hx hb dX0_productBelow_32 ?_
  refine lv_lload hx hb dX0_productBelow_33 (lv_at hl 4 rfl) ?_
  refine lv_lmul hx hb dX0_productBelow_35 ?_
  refine lv_bipush (v := (20 : Int32)) hx hb dX0_productBelow_36 (by decide) ?_
  refine lv_lshr hx hb dX0_productBelow_38 rfl ?_
  refine lv_ladd hx hb dX0_productBelow_39 ?_
  refine lv_topl (fun x2 ex2 => ?_)
  have hf := z_nm_s hf ex2
  refine lv_lstore (lv' := [(10, _), (8, _), (0, _), (2, _), (4, _), (6, _)]) hx hb dX0_productBelow_40 hl (by decide) rfl (fun ls hl => ?_)
  refine lv_lload hx hb dX0_productBelow_42 (lv_at hl 1 rfl) ?_
  refine lv_lload hx hb dX0_productBelow_44 (lv_at hl 0 rfl) ?_
  refine W.lcmp hx hb dX0_productBelow_46 ?_
  refine lv_if_eq (tgt := 64) hx hb dX0_productBelow_47 (by decide) (fun c3 => ?_) (fun c3 => ?_)
  · have hf := z_t hf c3
    refine lv_lload_n hx hb dX0_productBelow_64 rfl (lv_at hl 2 rfl) ?_
    refine lv_ldc2 (own := RX0) (v := (1048575 : Int64)) hx hb hown kl43 dX0_productBelow_65 ?_
    refine lv_land hx hb dX0_productBelow_68 ?_
    refine lv_lload_n hx hb dX0_productBelow_69 rfl (lv_at hl 3 rfl) ?_
    refine lv_lmul hx hb dX0_productBelow_70 ?_
    refine lv_ldc2 (own := RX0) (v := (1048575 : Int64)) hx hb hown kl43 dX0_productBelow_71 ?_
    refine lv_land hx hb dX0_productBelow_74 ?_
    refine lv_lload hx hb dX0_productBelow_75 (lv_at hl 4 rfl) ?_
    refine lv_ldc2 (own := RX0) (v := (1048575 : Int64)) hx hb hown kl43 dX0_productBelow_77 ?_
    refine lv_land hx hb dX0_productBelow_80 ?_
    refine lv_lload hx hb dX0_productBelow_81 (lv_at hl 5 rfl) ?_
    refine lv_lmul hx hb dX0_productBelow_83 ?_
    refine lv_ldc2 (own := RX0) (v := (1048575 : Int64)) hx hb hown kl43 dX0_productBelow_84 ?_
    refine lv_land hx hb dX0_productBelow_87 ?_
    refine W.lcmp hx hb dX0_productBelow_88 ?_
    refine lv_if_ge (tgt := 96) hx hb dX0_productBelow_89 (by decide) (fun c4 => ?_) (fun c4 => ?_)
    · have hf := z_t hf c4
      refine lv_iconst (v := (0 : Int32)) hx hb dX0_productBelow_96 (by decide) ?_
      exact z_retz hx hb hr hlk hC rfl hf rfl dX0_productBelow_97
    · have hf := z_f hf c4
      refine lv_iconst (v := (1 : Int32)) hx hb dX0_productBelow_92 (by decide) ?_
      refine lv_goto (tgt := 97) hx hb dX0_productBelow_93 (by decide) ?_
      exact z_retz hx hb hr hlk hC rfl hf rfl dX0_productBelow_97
  · have hf := z_f hf c3
    refine lv_lload hx hb dX0_productBelow_50 (lv_at hl 1 rfl) ?_
    refine lv_lload hx hb dX0_productBelow_52 (lv_at hl 0 rfl) ?_
    refine W.lcmp hx hb dX0_productBelow_54 ?_
    refine lv_if_ge (tgt := 62) hx hb dX0_productBelow_55 (by decide) (fun c5 => ?_) (fun c5 => ?_)
    · have hf := z_t hf c5
      refine lv_iconst (v := (0 : Int32)) hx hb dX0_productBelow_62 (by decide) ?_
      exact z_retz hx hb hr hlk hC rfl hf rfl dX0_productBelow_63
    · have hf := z_f hf c5
      refine lv_iconst (v := (1 : Int32)) hx hb dX0_productBelow_58 (by decide) ?_
      refine lv_goto (tgt := 63) hx hb dX0_productBelow_59 (by decide) ?_
      exact z_retz hx hb hr hlk hC rfl hf rfl dX0_productBelow_63
abbrev zr_X0_shyestTwo : Room := { frames := 2, cells := 0, slots := 0, locals := 56 }
theorem zd_X0_shyestTwo : yX0_shyestTwo.cls ≠ "java/lang/invoke/MethodHandle" ∧ yX0_shyestTwo.cls ≠ "java/lang/invoke/VarHandle" ∧ (parseMethodDescriptor yX0_shyestTwo.desc).map (fun d => d.parameters.length) = some 0 := by decide +kernel
theorem zi_X0_shyestTwo : ∀ w ∈ wsX00, w ∈ wsX0_shyestTwo := fun _ h => List.mem_cons_of_mem _ (List.mem_append_right _ h)
set_option maxHeartbeats 4000000 in
set_option maxRecDepth 100000 in
theorem zl_X0_shyestTwo_25 (E : CallFix p m c cX0_shyestTwo 13 s args wsX0_shyestTwo RX0) (a_7 : Int32) (u : z_St) : ∀ (n : Nat) (x_1 : Int32) (x_2 : Int32) (x_3 : Int64) (x_5 : Int64) (x_8 : Int32) (H : Heap) (locs : List Loc) (ls : Array Slot) (o_1 : Int32) (o_2 : Int32) (o_3 : Int64) (o_5 : Int64) (o_8 : Int32), zf_X0_shyestTwo_25 a_7 u n x_1 x_2 x_3 x_5 x_8 = some (o_1, o_2, o_3, o_5, o_8) → z_C (zx_W cI q) (zx_G tp) D cI cJ A s u H locs → lv_has ls 13 [(0, .ref (q 0)), (1, .int x_1), (2, .int x_2), (3, .long x_3), (5, .long x_5), (7, .int a_7), (8, .int x_8)] → (∀ (H : Heap) (locs : List Loc) (ls : Array Slot), z_C (zx_W cI q) (zx_G tp) D cI cJ A s u H locs → lv_has ls 13 [(0, .ref (q 0)), (1, .int o_1), (2, .int o_2), (3, .long o_3), (5, .long o_5), (7, .int a_7), (8, .int o_8)] → W p l e zr_X0_shyestTwo s m args below meth c H locs 0 0 Q (F0 m 84 ls [])) → W p l e zr_X0_shyestTwo s m args below meth c H locs 0 0 Q (F0 m 25 ls []) := by
  have hx := E.1
  have hb := E.2.1
  have hml := E.2.2.1
  have hown := E.2.2.2.1
  have hts := E.2.2.2.2
  intro n
  induction n with
  | zero =>
    intro x_1 x_2 x_3 x_5 x_8 H locs ls o_1 o_2 o_3 o_5 o_8 hf
    rw [zf_X0_shyestTwo_25.eq_1] at hf
    cases hf
  | succ n ih =>
    intro x_1 x_2 x_3 x_5 x_8 H locs ls o_1 o_2 o_3 o_5 o_8 hf hC hl kk
    rw [zf_X0_shyestTwo_25.eq_2] at hf
    refine lv_iload hx hb dX0_shyestTwo_25 (lv_at hl 6 rfl) ?_
    refine lv_bipush (v := (8 : Int32)) hx hb dX0_shyestTwo_27 (by decide) ?_
    refine lv_icmp_ge (tgt := 84) hx hb dX0_shyestTwo_29 (by decide) (fun c1 => ?_) (fun c1 => ?_)
    · have hf := z_t hf c1
      cases hf
      exact kk _ _ _ hC (lv_sub hl [0, 1, 2, 3, 4, 5, 6] rfl)
    · have hf := z_f hf c1
      refine lv_aload_n hx hb dX0_shyestTwo_32 rfl (lv_at hl 0 rfl) ?_
      refine lv_iload hx hb dX0_shyestTwo_33 (lv_at hl 5 rfl) ?_
      refine lv_iload hx hb dX0_shyestTwo_35 (lv_at hl 6 rfl) ?_
      obtain ⟨r2, pr2, hf⟩ := z_bd_s hf
      refine z_calll hC (z_runV (rest := []) zx_Gok hC E (zc_X0_waysAsShy l D cI cJ tp q u a_7 x_8 pr2 _) (cwV 2 hts gX0_shyestTwo_X0_waysAsShy rfl rfl rfl ⟨rfl, zd_X0_waysAsShy⟩ ⟨Nat.le_of_ble_eq_true rfl, Nat.le_of_ble_eq_true rfl⟩) (zx_rcX0 hC) rfl hl.1 rfl (Nat.le_of_ble_eq_true rfl) dX0_shyestTwo_37 ⟨Nat.zero_le _, Nat.zero_le _⟩) (fun H locs hC => ?_)
      refine lv_lstore (lv' := [(9, _), (0, _), (1, _), (2, _), (3, _), (5, _), (7, _), (8, _)]) hx hb dX0_shyestTwo_40 hl (by decide) rfl (fun ls hl => ?_)
      refine lv_aload_n hx hb dX0_shyestTwo_42 rfl (lv_at hl 1 rfl) ?_
      refine lv_iload hx hb dX0_shyestTwo_43 (lv_at hl 6 rfl) ?_
      refine lv_iload hx hb dX0_shyestTwo_45 (lv_at hl 7 rfl) ?_
      obtain ⟨r3, pr3, hf⟩ := z_bd_s hf
      refine z_calll hC (z_runV (rest := []) zx_Gok hC E (zc_X0_allWays l D cI cJ tp q u a_7 x_8 pr3 _) (cwV 2 hts gX0_shyestTwo_X0_allWays rfl rfl rfl ⟨rfl, zd_X0_allWays⟩ ⟨Nat.le_of_ble_eq_true rfl, Nat.le_of_ble_eq_true rfl⟩) (zx_rcX0 hC) rfl hl.1 rfl (Nat.le_of_ble_eq_true rfl) dX0_shyestTwo_47 ⟨Nat.zero_le _, Nat.zero_le _⟩) (fun H locs hC => ?_)
      refine lv_lstore (lv' := [(11, _), (9, _), (0, _), (1, _), (2, _), (3, _), (5, _), (7, _), (8, _)]) hx hb dX0_shyestTwo_50 hl (by decide) rfl (fun ls hl => ?_)
      refine lv_lload hx hb dX0_shyestTwo_52 (lv_at hl 1 rfl) ?_
      refine lv_lload hx hb dX0_shyestTwo_54 (lv_at hl 6 rfl) ?_
      refine lv_lload_n hx hb dX0_shyestTwo_56 rfl (lv_at hl 5 rfl) ?_
      refine lv_lload hx hb dX0_shyestTwo_57 (lv_at hl 0 rfl) ?_
      refine z_calli hC (z_runS (rest := []) zx_Gok hC E (zc_X0_productBelow l D cI cJ tp q u r2 x_5 x_3 r3 rfl _) (va_cwS 4 hts gX0_shyestTwo_X0_productBelow rfl rfl rfl zd_X0_productBelow ⟨Nat.le_of_ble_eq_true rfl, Nat.le_of_ble_eq_true rfl⟩) rfl hl.1 rfl (Nat.le_of_ble_eq_true rfl) dX0_shyestTwo_59 ⟨Nat.zero_le _, Nat.zero_le _⟩) (fun H locs hC => ?_)
      refine lv_if_eq (tgt := 78) hx hb dX0_shyestTwo_62 (by decide) (fun c4 => ?_) (fun c4 => ?_)
      · have hf := z_t hf c4
        obtain ⟨x5, ex5⟩ : ∃ z : Int32, z = (x_8 + (1 : Int32)) := ⟨_, rfl⟩
        have hf := z_nm_s hf ex5
        refine lv_iinc (v := x5) (lv' := [(8, _), (11, _), (9, _), (0, _), (1, _), (2, _), (3, _), (5, _), (7, _)]) hx hb dX0_shyestTwo_78 hl (k := 8) rfl (by rw [ex5]; rfl) (by decide) rfl (fun ls hl => ?_)
        refine lv_goto (tgt := 25) hx hb dX0_shyestTwo_81 (by decide) ?_
        exact ih x_1 x_2 x_3 x_5 x5 _ _ _ _ _ _ _ _ hf hC (lv_sub hl [3, 4, 5, 6, 7, 8, 0] rfl) kk
      · have hf := z_f hf c4
        refine lv_iload hx hb dX0_shyestTwo_65 (lv_at hl 7 rfl) ?_
        refine lv_istore_n (lv' := [(1, _), (11, _), (9, _), (0, _), (2, _), (3, _), (5, _), (7, _), (8, _)]) hx hb dX0_shyestTwo_67 rfl hl (by decide) rfl (fun ls hl => ?_)
        refine lv_iload hx hb dX0_shyestTwo_68 (lv_at hl 8 rfl) ?_
        refine lv_istore_n (lv' := [(2, _), (1, _), (11, _), (9, _), (0, _), (3, _), (5, _), (7, _), (8, _)]) hx hb dX0_shyestTwo_70 rfl hl (by decide) rfl (fun ls hl => ?_)
        refine lv_lload hx hb dX0_shyestTwo_71 (lv_at hl 3 rfl) ?_
        refine lv_lstore_n (lv' := [(3, _), (2, _), (1, _), (11, _), (9, _), (0, _), (5, _), (7, _), (8, _)]) hx hb dX0_shyestTwo_73 rfl hl (by decide) rfl (fun ls hl => ?_)
        refine lv_lload hx hb dX0_shyestTwo_74 (lv_at hl 3 rfl) ?_
        refine lv_lstore (lv' := [(5, _), (3, _), (2, _), (1, _), (11, _), (9, _), (0, _), (7, _), (8, _)]) hx hb dX0_shyestTwo_76 hl (by decide) rfl (fun ls hl => ?_)
        obtain ⟨x6, ex6⟩ : ∃ z : Int32, z = (x_8 + (1 : Int32)) := ⟨_, rfl⟩
        have hf := z_nm_s hf ex6
        refine lv_iinc (v := x6) (lv' := [(8, _), (5, _), (3, _), (2, _), (1, _), (11, _), (9, _), (0, _), (7, _)]) hx hb dX0_shyestTwo_78 hl (k := 8) rfl (by rw [ex6]; rfl) (by decide) rfl (fun ls hl => ?_)
        refine lv_goto (tgt := 25) hx hb dX0_shyestTwo_81 (by decide) ?_
        exact ih a_7 x_8 r2 r3 x6 _ _ _ _ _ _ _ _ hf hC (lv_sub hl [7, 4, 3, 2, 1, 8, 0] rfl) kk
set_option maxHeartbeats 4000000 in
set_option maxRecDepth 100000 in
theorem zl_X0_shyestTwo_12 (E : CallFix p m c cX0_shyestTwo 13 s args wsX0_shyestTwo RX0) (u : z_St) : ∀ (n : Nat) (x_1 : Int32) (x_2 : Int32) (x_3 : Int64) (x_5 : Int64) (x_7 : Int32) (H : Heap) (locs : List Loc) (ls : Array Slot) (o_1 : Int32) (o_2 : Int32) (o_3 : Int64) (o_5 : Int64) (o_7 : Int32), zf_X0_shyestTwo_12 u n x_1 x_2 x_3 x_5 x_7 = some (o_1, o_2, o_3, o_5, o_7) → z_C (zx_W cI q) (zx_G tp) D cI cJ A s u H locs → lv_has ls 13 [(0, .ref (q 0)), (1, .int x_1), (2, .int x_2), (3, .long x_3), (5, .long x_5), (7, .int x_7)] → (∀ (H : Heap) (locs : List Loc) (ls : Array Slot), z_C (zx_W cI q) (zx_G tp) D cI cJ A s u H locs → lv_has ls 13 [(0, .ref (q 0)), (1, .int o_1), (2, .int o_2), (3, .long o_3), (5, .long o_5), (7, .int o_7)] → W p l e zr_X0_shyestTwo s m args below meth c H locs 0 0 Q (F0 m 90 ls [])) → W p l e zr_X0_shyestTwo s m args below meth c H locs 0 0 Q (F0 m 12 ls []) := by
  have hx := E.1
  have hb := E.2.1
  have hml := E.2.2.1
  have hown := E.2.2.2.1
  have hts := E.2.2.2.2
  intro n
  induction n with
  | zero =>
    intro x_1 x_2 x_3 x_5 x_7 H locs ls o_1 o_2 o_3 o_5 o_7 hf
    rw [zf_X0_shyestTwo_12.eq_1] at hf
    cases hf
  | succ n ih =>
    intro x_1 x_2 x_3 x_5 x_7 H locs ls o_1 o_2 o_3 o_5 o_7 hf hC hl kk
    rw [zf_X0_shyestTwo_12.eq_2] at hf
    refine lv_iload hx hb dX0_shyestTwo_12 (lv_at hl 5 rfl) ?_
    refine lv_bipush (v := (8 : Int32)) hx hb dX0_shyestTwo_14 (by decide) ?_
    refine lv_icmp_ge (tgt := 90) hx hb dX0_shyestTwo_16 (by decide) (fun c1 => ?_) (fun c1 => ?_)
    · have hf := z_t hf c1
      cases hf
      exact kk _ _ _ hC (lv_sub hl [0, 1, 2, 3, 4, 5] rfl)
    · have hf := z_f hf c1
      refine lv_iload hx hb dX0_shyestTwo_19 (lv_at hl 5 rfl) ?_
      refine lv_iconst (v := (1 : Int32)) hx hb dX0_shyestTwo_21 (by decide) ?_
      refine lv_iadd hx hb dX0_shyestTwo_22 ?_
      refine lv_topi (fun x2 ex2 => ?_)
      have hf := z_nm_s hf ex2
      refine lv_istore (lv' := [(8, _), (0, _), (1, _), (2, _), (3, _), (5, _), (7, _)]) hx hb dX0_shyestTwo_23 hl (by decide) rfl (fun ls hl => ?_)
      obtain ⟨y3, y4, y5, y6, y7, py3, hf⟩ := z_bd5_s hf
      refine zl_X0_shyestTwo_25 E x_7 u 5000 x_1 x_2 x_3 x_5 x2 _ _ _ _ _ _ _ _ py3 hC (lv_sub hl [1, 2, 3, 4, 5, 6, 0] rfl) (fun H locs ls hC hl => ?_)
      obtain ⟨x8, ex8⟩ : ∃ z : Int32, z = (x_7 + (1 : Int32)) := ⟨_, rfl⟩
      have hf := z_nm_s hf ex8
      refine lv_iinc (v := x8) (lv' := [(7, _), (0, _), (1, _), (2, _), (3, _), (5, _), (8, _)]) hx hb dX0_shyestTwo_84 hl (k := 5) rfl (by rw [ex8]; rfl) (by decide) rfl (fun ls hl => ?_)
      refine lv_goto (tgt := 12) hx hb dX0_shyestTwo_87 (by decide) ?_
      exact ih y3 y4 y5 y6 x8 _ _ _ _ _ _ _ _ hf hC (lv_sub hl [1, 2, 3, 4, 5, 0] rfl) kk
set_option maxHeartbeats 4000000 in
set_option maxRecDepth 100000 in
theorem zc_X0_shyestTwo (l : Launch) (D : va_G) (cI cJ : ClassId) (tp : Nat) (q : Nat → Nat) (u : z_St) {r : Int32} (hf : zf_X0_shyestTwo u = some r) : z_Mi l yX0_shyestTwo wsX0_shyestTwo zr_X0_shyestTwo (zx_W cI q) (zx_G tp) D cI cJ [.ref (q 0)] u r u := by
  refine z_ofi (cc := cX0_shyestTwo) (maxL := 13) (ret := (some .int)) zx_Gok (by decide) rfl (Nat.le_of_ble_eq_true rfl) ?_
  intro A p e s m args below meth c ls E hr hlk hC hl
  have E : CallFix p m c cX0_shyestTwo 13 s args wsX0_shyestTwo RX0 := E
  have hx := E.1
  have hb := E.2.1
  have hml := E.2.2.1
  have hown := E.2.2.2.1
  have hts := E.2.2.2.2
  have hl : lv_has ls 13 [(0, .ref (q 0))] := hl
  unfold zf_X0_shyestTwo at hf
  refine lv_iconst (v := (0 : Int32)) hx hb dX0_shyestTwo_0 (by decide) ?_
  refine lv_istore_n (lv' := [(1, _), (0, _)]) hx hb dX0_shyestTwo_1 rfl hl (by decide) rfl (fun ls hl => ?_)
  refine lv_iconst (v := (1 : Int32)) hx hb dX0_shyestTwo_2 (by decide) ?_
  refine lv_istore_n (lv' := [(2, _), (1, _), (0, _)]) hx hb dX0_shyestTwo_3 rfl hl (by decide) rfl (fun ls hl => ?_)
  refine lv_lconst (v := (1 : Int64)) hx hb dX0_shyestTwo_4 (by decide) ?_
  refine lv_lstore_n (lv' := [(3, _), (2, _), (1, _), (0, _)]) hx hb dX0_shyestTwo_5 rfl hl (by decide) rfl (fun ls hl => ?_)
  refine lv_lconst (v := (1 : Int64)) hx hb dX0_shyestTwo_6 (by decide) ?_
  refine lv_lstore (lv' := [(5, _), (3, _), (2, _), (1, _), (0, _)]) hx hb dX0_shyestTwo_7 hl (by decide) rfl (fun ls hl => ?_)
  refine lv_iconst (v := (0 : Int32)) hx hb dX0_shyestTwo_9 (by decide) ?_
  refine lv_istore (lv' := [(7, _), (5, _), (3, _), (2, _), (1, _), (0, _)]) hx hb dX0_shyestTwo_10 hl (by decide) rfl (fun ls hl => ?_)
  obtain ⟨y1, y2, y3, y4, y5, py1, hf⟩ := z_bd5_s hf
  refine zl_X0_shyestTwo_12 E u 5000 (0 : Int32) (1 : Int32) (1 : Int64) (1 : Int64) (0 : Int32) _ _ _ _ _ _ _ _ py1 hC (lv_sub hl [5, 4, 3, 2, 1, 0] rfl) (fun H locs ls hC hl => ?_)
  refine lv_bipush (v := (8 : Int32)) hx hb dX0_shyestTwo_90 (by decide) ?_
  refine lv_iload_n hx hb dX0_shyestTwo_92 rfl (lv_at hl 1 rfl) ?_
  refine lv_imul hx hb dX0_shyestTwo_93 ?_
  refine lv_iload_n hx hb dX0_shyestTwo_94 rfl (lv_at hl 2 rfl) ?_
  refine lv_iadd hx hb dX0_shyestTwo_95 ?_
  exact z_reti hx hb hr hlk hC (Option.some.inj hf) rfl dX0_shyestTwo_96
abbrev zr_X0_commonDivisor : Room := { frames := 0, cells := 0, slots := 0, locals := 0 }
theorem zd_X0_commonDivisor : yX0_commonDivisor.cls ≠ "java/lang/invoke/MethodHandle" ∧ yX0_commonDivisor.cls ≠ "java/lang/invoke/VarHandle" ∧ (parseMethodDescriptor yX0_commonDivisor.desc).map (fun d => d.parameters.length) = some 2 := by decide +kernel
set_option maxHeartbeats 4000000 in
set_option maxRecDepth 100000 in
theorem zl_X0_commonDivisor_9 (E : CallFix p m c cX0_commonDivisor 11 s args wsX0_commonDivisor RX0) (u : z_St) : ∀ (n : Nat) (x_4 : Int64) (x_6 : Int64) (x_8 : Int32) (H : Heap) (locs : List Loc) (ls : Array Slot) (o_4 : Int64) (o_6 : Int64) (o_8 : Int32), zf_X0_commonDivisor_9 n x_4 x_6 x_8 = some (o_4, o_6, o_8) → z_C (zx_W cI q) (zx_G tp) D cI cJ A s u H locs → lv_has ls 11 [(4, .long x_4), (6, .long x_6), (8, .int x_8)] → (∀ (H : Heap) (locs : List Loc) (ls : Array Slot), z_C (zx_W cI q) (zx_G tp) D cI cJ A s u H locs → lv_has ls 11 [(4, .long o_4), (6, .long o_6), (8, .int o_8)] → W p l e zr_X0_commonDivisor s m args below meth c H locs 0 0 Q (F0 m 44 ls [])) → W p l e zr_X0_commonDivisor s m args below meth c H locs 0 0 Q (F0 m 9 ls []) := by
  have hx := E.1
  have hb := E.2.1
  have hml := E.2.2.1
  have hown := E.2.2.2.1
  have hts := E.2.2.2.2
  intro n
  induction n with
  | zero =>
    intro x_4 x_6 x_8 H locs ls o_4 o_6 o_8 hf
    rw [zf_X0_commonDivisor_9.eq_1] at hf
    cases hf
  | succ n ih =>
    intro x_4 x_6 x_8 H locs ls o_4 o_6 o_8 hf hC hl kk
    rw [zf_X0_commonDivisor_9.eq_2] at hf
    refine lv_iload hx hb dX0_commonDivisor_9 (lv_at hl 2 rfl) ?_
    refine lv_bipush (v := (100 : Int32)) hx hb dX0_commonDivisor_11 (by decide) ?_
    refine lv_icmp_ge (tgt := 44) hx hb dX0_commonDivisor_13 (by decide) (fun c1 => ?_) (fun c1 => ?_)
    · have hf := z_t hf c1
      cases hf
      exact kk _ _ _ hC (lv_sub hl [0, 1, 2] rfl)
    · have hf := z_f hf c1
      refine lv_lload hx hb dX0_commonDivisor_16 (lv_at hl 1 rfl) ?_
      refine lv_lconst (v := (0 : Int64)) hx hb dX0_commonDivisor_18 (by decide) ?_
      refine W.lcmp hx hb dX0_commonDivisor_19 ?_
      refine lv_if_eq (tgt := 44) hx hb dX0_commonDivisor_20 (by decide) (fun c2 => ?_) (fun c2 => ?_)
      · have hf := z_t hf c2
        cases hf
        exact kk _ _ _ hC (lv_sub hl [0, 1, 2] rfl)
      · have hf := z_f hf c2
        refine lv_lload hx hb dX0_commonDivisor_23 (lv_at hl 0 rfl) ?_
        refine lv_lload hx hb dX0_commonDivisor_25 (lv_at hl 1 rfl) ?_
        obtain ⟨h3, hf⟩ := z_gd_s hf
        refine lv_lrem hx hb dX0_commonDivisor_27 (z_nzL_s h3) ?_
        refine lv_topl (fun x4 ex4 => ?_)
        have hf := z_nm_s hf ex4
        refine lv_lstore (lv' := [(9, _), (4, _), (6, _), (8, _)]) hx hb dX0_commonDivisor_28 hl (by decide) rfl (fun ls hl => ?_)
        refine lv_lload hx hb dX0_commonDivisor_30 (lv_at hl 2 rfl) ?_
        refine lv_lstore (lv' := [(4, _), (9, _), (6, _), (8, _)]) hx hb dX0_commonDivisor_32 hl (by decide) rfl (fun ls hl => ?_)
        refine lv_lload hx hb dX0_commonDivisor_34 (lv_at hl 1 rfl) ?_
        refine lv_lstore (lv' := [(6, _), (4, _), (9, _), (8, _)]) hx hb dX0_commonDivisor_36 hl (by decide) rfl (fun ls hl => ?_)
        obtain ⟨x5, ex5⟩ : ∃ z : Int32, z = (x_8 + (1 : Int32)) := ⟨_, rfl⟩
        have hf := z_nm_s hf ex5
        refine lv_iinc (v := x5) (lv' := [(8, _), (6, _), (4, _), (9, _)]) hx hb dX0_commonDivisor_38 hl (k := 3) rfl (by rw [ex5]; rfl) (by decide) rfl (fun ls hl => ?_)
        refine lv_goto (tgt := 9) hx hb dX0_commonDivisor_41 (by decide) ?_
        exact ih x_6 x4 x5 _ _ _ _ _ _ hf hC (lv_sub hl [2, 1, 0] rfl) kk
set_option maxHeartbeats 4000000 in
set_option maxRecDepth 100000 in
theorem zc_X0_commonDivisor (l : Launch) (D : va_G) (cI cJ : ClassId) (tp : Nat) (q : Nat → Nat) (u : z_St) (a_0 : Int64) (a_2 : Int64) {r : Int64} (hf : zf_X0_commonDivisor a_0 a_2 = some r) : z_Ml l yX0_commonDivisor wsX0_commonDivisor zr_X0_commonDivisor (zx_W cI q) (zx_G tp) D cI cJ [.long a_0, .long a_2] u r u := by
  refine z_ofl (cc := cX0_commonDivisor) (maxL := 11) (ret := (some .long)) zx_Gok (by decide) rfl (Nat.le_of_ble_eq_true rfl) ?_
  intro A p e s m args below meth c ls E hr hlk hC hl
  have E : CallFix p m c cX0_commonDivisor 11 s args wsX0_commonDivisor RX0 := E
  have hx := E.1
  have hb := E.2.1
  have hml := E.2.2.1
  have hown := E.2.2.2.1
  have hts := E.2.2.2.2
  have hl : lv_has ls 11 [(0, .long a_0), (2, .long a_2)] := hl
  unfold zf_X0_commonDivisor at hf
  refine lv_lload_n hx hb dX0_commonDivisor_0 rfl (lv_at hl 0 rfl) ?_
  refine lv_lstore (lv' := [(4, _), (0, _), (2, _)]) hx hb dX0_commonDivisor_1 hl (by decide) rfl (fun ls hl => ?_)
  refine lv_lload_n hx hb dX0_commonDivisor_3 rfl (lv_at hl 2 rfl) ?_
  refine lv_lstore (lv' := [(6, _), (4, _), (0, _), (2, _)]) hx hb dX0_commonDivisor_4 hl (by decide) rfl (fun ls hl => ?_)
  refine lv_iconst (v := (0 : Int32)) hx hb dX0_commonDivisor_6 (by decide) ?_
  refine lv_istore (lv' := [(8, _), (6, _), (4, _), (0, _), (2, _)]) hx hb dX0_commonDivisor_7 hl (by decide) rfl (fun ls hl => ?_)
  obtain ⟨y1, y2, y3, py1, hf⟩ := z_bd3_s hf
  refine zl_X0_commonDivisor_9 E u 5000 a_0 a_2 (0 : Int32) _ _ _ _ _ _ py1 hC (lv_sub hl [2, 1, 0] rfl) (fun H locs ls hC hl => ?_)
  refine lv_lload hx hb dX0_commonDivisor_44 (lv_at hl 0 rfl) ?_
  exact z_retl hx hb hr hlk hC (Option.some.inj hf) rfl dX0_commonDivisor_46
abbrev zr_X0_mixLots : Room := { frames := 1, cells := 0, slots := 0, locals := 22 }
theorem zd_X0_mixLots : yX0_mixLots.cls ≠ "java/lang/invoke/MethodHandle" ∧ yX0_mixLots.cls ≠ "java/lang/invoke/VarHandle" ∧ (parseMethodDescriptor yX0_mixLots.desc).map (fun d => d.parameters.length) = some 1 := by decide +kernel
theorem zi_X0_mixLots : ∀ w ∈ wsX00, w ∈ wsX0_mixLots := fun _ h => List.mem_cons_of_mem _ (List.mem_append_right _ h)
set_option maxHeartbeats 4000000 in
set_option maxRecDepth 100000 in
theorem zl_X0_mixLots_5 (E : CallFix p m c cX0_mixLots 6 s args wsX0_mixLots RX0) (u : z_St) : ∀ (n : Nat) (x_3 : Int64) (x_5 : Int32) (H : Heap) (locs : List Loc) (ls : Array Slot) (o_3 : Int64) (o_5 : Int32), zf_X0_mixLots_5 u n x_3 x_5 = some (o_3, o_5) → z_C (zx_W cI q) (zx_G tp) D cI cJ A s u H locs → lv_has ls 6 [(0, .ref (q 0)), (3, .long x_3), (5, .int x_5)] → (∀ (H : Heap) (locs : List Loc) (ls : Array Slot), z_C (zx_W cI q) (zx_G tp) D cI cJ A s u H locs → lv_has ls 6 [(0, .ref (q 0)), (3, .long o_3), (5, .int o_5)] → W p l e zr_X0_mixLots s m args below meth c H locs 0 0 Q (F0 m 56 ls [])) → W p l e zr_X0_mixLots s m args below meth c H locs 0 0 Q (F0 m 5 ls []) := by
  have hx := E.1
  have hb := E.2.1
  have hml := E.2.2.1
  have hown := E.2.2.2.1
  have hts := E.2.2.2.2
  intro n
  induction n with
  | zero =>
    intro x_3 x_5 H locs ls o_3 o_5 hf
    rw [zf_X0_mixLots_5.eq_1] at hf
    cases hf
  | succ n ih =>
    intro x_3 x_5 H locs ls o_3 o_5 hf hC hl kk
    rw [zf_X0_mixLots_5.eq_2] at hf
    have kf21 := hts (.fieldLink RX0 21 "DawnFair$Auctions" "lots" "I") (by decide +kernel)
    have kf11 := hts (.fieldLink RX0 11 "DawnFair$Auctions" "there" "[I") (by decide +kernel)
    have kiX5 := hts (.initialized RX5) (by decide +kernel)
    have ks45 := hts (.static yX5_mix) (by decide +kernel)
    have kf15 := hts (.fieldLink RX0 15 "DawnFair$Auctions" "bid" "[I") (by decide +kernel)
    have kf18 := hts (.fieldLink RX0 18 "DawnFair$Auctions" "won" "[I") (by decide +kernel)
    refine lv_iload hx hb dX0_mixLots_5 (lv_at hl 2 rfl) ?_
    refine lv_aload_n hx hb dX0_mixLots_7 rfl (lv_at hl 0 rfl) ?_
    refine zx_gX0_lots hx hb hts zi_X0_mixLots hown hC kf21 dX0_mixLots_8 ?_
    refine lv_icmp_ge (tgt := 56) hx hb dX0_mixLots_11 (by decide) (fun c1 => ?_) (fun c1 => ?_)
    · have hf := z_t hf c1
      cases hf
      exact kk _ _ _ hC (lv_sub hl [0, 1, 2] rfl)
    · have hf := z_f hf c1
      refine lv_lload_n hx hb dX0_mixLots_14 rfl (lv_at hl 1 rfl) ?_
      refine lv_aload_n hx hb dX0_mixLots_15 rfl (lv_at hl 0 rfl) ?_
      refine zx_gX0_there hx hb hts zi_X0_mixLots hown hC kf11 dX0_mixLots_16 ?_
      refine lv_iload hx hb dX0_mixLots_19 (lv_at hl 2 rfl) ?_
      obtain ⟨h2, hf⟩ := z_gd_s hf
      refine zx_aX0_there hx hb hC (z_in h2) dX0_mixLots_21 ?_
      refine z_calll hC (z_runSN (rest := []) zx_Gok hC E (zc_X5_mix l D cI cJ tp q u x_3 (z_rI u 0 x_5.toNatClampNeg) rfl _) ⟨va_cnB 2 hts gX0_mixLots_X5_mix_n45 rfl rfl rfl (zx_nst hC).1 kiX5 zd_X5_mix ⟨Nat.le_of_ble_eq_true rfl, Nat.le_of_ble_eq_true rfl⟩, ks45, trivial⟩ rfl hl.1 rfl (Nat.le_of_ble_eq_true rfl) dX0_mixLots_22 ⟨Nat.zero_le _, Nat.zero_le _⟩) (fun H locs hC => ?_)
      refine lv_topl (fun x3 ex3 => ?_)
      have hf := z_nm_s hf ex3
      refine lv_lstore_n (lv' := [(3, _), (0, _), (5, _)]) hx hb dX0_mixLots_25 rfl hl (by decide) rfl (fun ls hl => ?_)
      refine lv_lload_n hx hb dX0_mixLots_26 rfl (lv_at hl 0 rfl) ?_
      refine lv_aload_n hx hb dX0_mixLots_27 rfl (lv_at hl 1 rfl) ?_
      refine zx_gX0_bid hx hb hts zi_X0_mixLots hown hC kf15 dX0_mixLots_28 ?_
      refine lv_iload hx hb dX0_mixLots_31 (lv_at hl 2 rfl) ?_
      obtain ⟨h4, hf⟩ := z_gd_s hf
      refine zx_aX0_bid hx hb hC (z_in h4) dX0_mixLots_33 ?_
      refine z_calll hC (z_runSN (rest := []) zx_Gok hC E (zc_X5_mix l D cI cJ tp q u x3 (z_rI u 1 x_5.toNatClampNeg) rfl _) ⟨va_cnB 2 hts gX0_mixLots_X5_mix_n45 rfl rfl rfl (zx_nst hC).1 kiX5 zd_X5_mix ⟨Nat.le_of_ble_eq_true rfl, Nat.le_of_ble_eq_true rfl⟩, ks45, trivial⟩ rfl hl.1 rfl (Nat.le_of_ble_eq_true rfl) dX0_mixLots_34 ⟨Nat.zero_le _, Nat.zero_le _⟩) (fun H locs hC => ?_)
      refine lv_topl (fun x5 ex5 => ?_)
      have hf := z_nm_s hf ex5
      refine lv_lstore_n (lv' := [(3, _), (0, _), (5, _)]) hx hb dX0_mixLots_37 rfl hl (by decide) rfl (fun ls hl => ?_)
      refine lv_lload_n hx hb dX0_mixLots_38 rfl (lv_at hl 0 rfl) ?_
      refine lv_aload_n hx hb dX0_mixLots_39 rfl (lv_at hl 1 rfl) ?_
      refine zx_gX0_won hx hb hts zi_X0_mixLots hown hC kf18 dX0_mixLots_40 ?_
      refine lv_iload hx hb dX0_mixLots_43 (lv_at hl 2 rfl) ?_
      obtain ⟨h6, hf⟩ := z_gd_s hf
      refine zx_aX0_won hx hb hC (z_in h6) dX0_mixLots_45 ?_
      refine z_calll hC (z_runSN (rest := []) zx_Gok hC E (zc_X5_mix l D cI cJ tp q u x5 (z_rI u 2 x_5.toNatClampNeg) rfl _) ⟨va_cnB 2 hts gX0_mixLots_X5_mix_n45 rfl rfl rfl (zx_nst hC).1 kiX5 zd_X5_mix ⟨Nat.le_of_ble_eq_true rfl, Nat.le_of_ble_eq_true rfl⟩, ks45, trivial⟩ rfl hl.1 rfl (Nat.le_of_ble_eq_true rfl) dX0_mixLots_46 ⟨Nat.zero_le _, Nat.zero_le _⟩) (fun H locs hC => ?_)
      refine lv_topl (fun x7 ex7 => ?_)
      have hf := z_nm_s hf ex7
      refine lv_lstore_n (lv' := [(3, _), (0, _), (5, _)]) hx hb dX0_mixLots_49 rfl hl (by decide) rfl (fun ls hl => ?_)
      obtain ⟨x8, ex8⟩ : ∃ z : Int32, z = (x_5 + (1 : Int32)) := ⟨_, rfl⟩
      have hf := z_nm_s hf ex8
      refine lv_iinc (v := x8) (lv' := [(5, _), (3, _), (0, _)]) hx hb dX0_mixLots_50 hl (k := 2) rfl (by rw [ex8]; rfl) (by decide) rfl (fun ls hl => ?_)
      refine lv_goto (tgt := 5) hx hb dX0_mixLots_53 (by decide) ?_
      exact ih x7 x8 _ _ _ _ _ hf hC (lv_sub hl [2, 1, 0] rfl) kk
set_option maxHeartbeats 4000000 in
set_option maxRecDepth 100000 in
theorem zc_X0_mixLots (l : Launch) (D : va_G) (cI cJ : ClassId) (tp : Nat) (q : Nat → Nat) (u : z_St) (a_1 : Int64) {r : Int64} (hf : zf_X0_mixLots u a_1 = some r) : z_Ml l yX0_mixLots wsX0_mixLots zr_X0_mixLots (zx_W cI q) (zx_G tp) D cI cJ [.ref (q 0), .long a_1] u r u := by
  refine z_ofl (cc := cX0_mixLots) (maxL := 6) (ret := (some .long)) zx_Gok (by decide) rfl (Nat.le_of_ble_eq_true rfl) ?_
  intro A p e s m args below meth c ls E hr hlk hC hl
  have E : CallFix p m c cX0_mixLots 6 s args wsX0_mixLots RX0 := E
  have hx := E.1
  have hb := E.2.1
  have hml := E.2.2.1
  have hown := E.2.2.2.1
  have hts := E.2.2.2.2
  have hl : lv_has ls 6 [(0, .ref (q 0)), (1, .long a_1)] := hl
  unfold zf_X0_mixLots at hf
  refine lv_lload_n hx hb dX0_mixLots_0 rfl (lv_at hl 1 rfl) ?_
  refine lv_lstore_n (lv' := [(3, _), (0, _), (1, _)]) hx hb dX0_mixLots_1 rfl hl (by decide) rfl (fun ls hl => ?_)
  refine lv_iconst (v := (0 : Int32)) hx hb dX0_mixLots_2 (by decide) ?_
  refine lv_istore (lv' := [(5, _), (3, _), (0, _), (1, _)]) hx hb dX0_mixLots_3 hl (by decide) rfl (fun ls hl => ?_)
  obtain ⟨y1, y2, py1, hf⟩ := z_bd2_s hf
  refine zl_X0_mixLots_5 E u 5000 a_1 (0 : Int32) _ _ _ _ _ py1 hC (lv_sub hl [2, 1, 0] rfl) (fun H locs ls hC hl => ?_)
  refine lv_lload_n hx hb dX0_mixLots_56 rfl (lv_at hl 1 rfl) ?_
  exact z_retl hx hb hr hlk hC (Option.some.inj hf) rfl dX0_mixLots_57
end
