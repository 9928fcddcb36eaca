section
variable {p : Program} {l : Launch} {e : Env} {R : Room} {s : State} {m : MethodId} {args : Array Value} {below : List Frame} {meth : Method} {c : Code} {H : Heap} {locs : List Loc} {cells slots : Nat} {Q : State → Prop} {cc : ByteArray} {pc : Nat} {ls : Array Slot} {rest : List Value}
variable {D : va_G} {cI cJ : ClassId} {tp : Nat} {q : Nat → Nat} {A : Nat → Prop} {u : z_St} {Ts : List Cond}
abbrev zr_X5_count : Room := { frames := 2, cells := 0, slots := 0, locals := 44 }
theorem zd_X5_count : yX5_count.cls ≠ "java/lang/invoke/MethodHandle" ∧ yX5_count.cls ≠ "java/lang/invoke/VarHandle" ∧ (parseMethodDescriptor yX5_count.desc).map (fun d => d.parameters.length) = some 1 := by decide +kernel
theorem zi_X5_count : ∀ w ∈ wsX50, w ∈ wsX5_count := fun _ h => List.mem_cons_of_mem _ (List.mem_append_left _ (List.mem_append_left _ (List.mem_append_left _ (List.mem_append_left _ (List.mem_append_left _ (List.mem_append_right _ h))))))
set_option maxHeartbeats 4000000 in
set_option maxRecDepth 100000 in
theorem zc_X5_count (l : Launch) (D : va_G) (cI cJ : ClassId) (tp : Nat) (q : Nat → Nat) (u : z_St) (a_1 : Int32) {r : Int32} (hf : zf_X5_count u a_1 = some r) : z_Mi l yX5_count wsX5_count zr_X5_count (zx_W cI q) (zx_G tp) D cI cJ [.ref (q 5), .int a_1] u r u := by
  refine z_ofi (cc := cX5_count) (maxL := 2) (ret := (some .int)) zx_Gok (by decide) rfl (Nat.le_of_ble_eq_true rfl) ?_
  intro A p e s m args below meth c ls E hr hlk hC hl
  have E : CallFix p m c cX5_count 2 s args wsX5_count RX5 := E
  have hx := E.1
  have hb := E.2.1
  have hml := E.2.2.1
  have hown := E.2.2.2.1
  have hts := E.2.2.2.2
  have hl : lv_has ls 2 [(0, .ref (q 5)), (1, .int a_1)] := hl
  unfold zf_X5_count at hf
  have kf12 := hts (.fieldLink RX5 12 "DawnFair" "pieces" "LDawnFair$Pieces;") (by decide +kernel)
  have kf19 := hts (.fieldLink RX5 19 "DawnFair" "trade" "LDawnFair$Trade;") (by decide +kernel)
  have kf26 := hts (.fieldLink RX5 26 "DawnFair" "auctions" "LDawnFair$Auctions;") (by decide +kernel)
  have kf33 := hts (.fieldLink RX5 33 "DawnFair" "stolen" "LDawnFair$Stolen;") (by decide +kernel)
  have kf40 := hts (.fieldLink RX5 40 "DawnFair" "debts" "LDawnFair$Debts;") (by decide +kernel)
  refine lv_iload_n hx hb dX5_count_0 rfl (lv_at hl 1 rfl) ?_
  by_cases c1 : a_1 = (0 : Int32)
  · have hf := z_t hf c1
    rw [c1]
    refine lv_tableIn (off := 43) (tgt := 44) hx hb dX5_count_1 (by decide) (by decide) rfl (by decide) ?_
    refine lv_aload_n hx hb dX5_count_44 rfl (lv_at hl 0 rfl) ?_
    refine zx_gX5_pieces hx hb hts zi_X5_count hown hC kf12 dX5_count_45 ?_
    refine z_calli hC (z_runV (rest := []) zx_Gok hC E (zc_X2_thingCount l D cI cJ tp q u rfl _) (cwV 0 hts gX5_count_X2_thingCount rfl rfl rfl ⟨rfl, zd_X2_thingCount⟩ ⟨Nat.le_of_ble_eq_true rfl, Nat.le_of_ble_eq_true rfl⟩) (zx_rcX2 hC) rfl hl.1 rfl (Nat.le_of_ble_eq_true rfl) dX5_count_48 ⟨Nat.zero_le _, Nat.zero_le _⟩) (fun H locs hC => ?_)
    exact z_reti hx hb hr hlk hC (Option.some.inj hf) rfl dX5_count_51
  · have hf := z_f hf c1
    by_cases c2 : a_1 = (1 : Int32)
    · have hf := z_t hf c2
      rw [c2]
      refine lv_tableIn (off := 51) (tgt := 52) hx hb dX5_count_1 (by decide) (by decide) rfl (by decide) ?_
      refine lv_aload_n hx hb dX5_count_52 rfl (lv_at hl 0 rfl) ?_
      refine zx_gX5_trade hx hb hts zi_X5_count hown hC kf19 dX5_count_53 ?_
      refine z_calli hC (z_runV (rest := []) zx_Gok hC E (zc_X4_saleCount l D cI cJ tp q u rfl _) (cwV 0 hts gX5_count_X4_saleCount rfl rfl rfl ⟨rfl, zd_X4_saleCount⟩ ⟨Nat.le_of_ble_eq_true rfl, Nat.le_of_ble_eq_true rfl⟩) (zx_rcX4 hC) rfl hl.1 rfl (Nat.le_of_ble_eq_true rfl) dX5_count_56 ⟨Nat.zero_le _, Nat.zero_le _⟩) (fun H locs hC => ?_)
      exact z_reti hx hb hr hlk hC (Option.some.inj hf) rfl dX5_count_59
    · have hf := z_f hf c2
      by_cases c3 : a_1 = (2 : Int32)
      · have hf := z_t hf c3
        rw [c3]
        refine lv_tableIn (off := 59) (tgt := 60) hx hb dX5_count_1 (by decide) (by decide) rfl (by decide) ?_
        refine lv_aload_n hx hb dX5_count_60 rfl (lv_at hl 0 rfl) ?_
        refine zx_gX5_trade hx hb hts zi_X5_count hown hC kf19 dX5_count_61 ?_
        obtain ⟨r4, pr4, hf⟩ := z_bd_s hf
        refine z_calli hC (z_runV (rest := []) zx_Gok hC E (zc_X4_standingCount l D cI cJ tp q u pr4 _) (cwV 0 hts gX5_count_X4_standingCount rfl rfl rfl ⟨rfl, zd_X4_standingCount⟩ ⟨Nat.le_of_ble_eq_true rfl, Nat.le_of_ble_eq_true rfl⟩) (zx_rcX4 hC) rfl hl.1 rfl (Nat.le_of_ble_eq_true rfl) dX5_count_64 ⟨Nat.zero_le _, Nat.zero_le _⟩) (fun H locs hC => ?_)
        exact z_reti hx hb hr hlk hC (Option.some.inj hf) rfl dX5_count_67
      · have hf := z_f hf c3
        by_cases c5 : a_1 = (3 : Int32)
        · have hf := z_t hf c5
          rw [c5]
          refine lv_tableIn (off := 67) (tgt := 68) hx hb dX5_count_1 (by decide) (by decide) rfl (by decide) ?_
          refine lv_aload_n hx hb dX5_count_68 rfl (lv_at hl 0 rfl) ?_
          refine zx_gX5_auctions hx hb hts zi_X5_count hown hC kf26 dX5_count_69 ?_
          refine z_calli hC (z_runV (rest := []) zx_Gok hC E (zc_X0_lotCount l D cI cJ tp q u rfl _) (cwV 0 hts gX5_count_X0_lotCount rfl rfl rfl ⟨rfl, zd_X0_lotCount⟩ ⟨Nat.le_of_ble_eq_true rfl, Nat.le_of_ble_eq_true rfl⟩) (zx_rcX0 hC) rfl hl.1 rfl (Nat.le_of_ble_eq_true rfl) dX5_count_72 ⟨Nat.zero_le _, Nat.zero_le _⟩) (fun H locs hC => ?_)
          exact z_reti hx hb hr hlk hC (Option.some.inj hf) rfl dX5_count_75
        · have hf := z_f hf c5
          by_cases c6 : a_1 = (4 : Int32)
          · have hf := z_t hf c6
            rw [c6]
            refine lv_tableIn (off := 75) (tgt := 76) hx hb dX5_count_1 (by decide) (by decide) rfl (by decide) ?_
            refine lv_aload_n hx hb dX5_count_76 rfl (lv_at hl 0 rfl) ?_
            refine zx_gX5_stolen hx hb hts zi_X5_count hown hC kf33 dX5_count_77 ?_
            refine z_calli hC (z_runV (rest := []) zx_Gok hC E (zc_X3_entryCount l D cI cJ tp q u rfl _) (cwV 0 hts gX5_count_X3_entryCount rfl rfl rfl ⟨rfl, zd_X3_entryCount⟩ ⟨Nat.le_of_ble_eq_true rfl, Nat.le_of_ble_eq_true rfl⟩) (zx_rcX3 hC) rfl hl.1 rfl (Nat.le_of_ble_eq_true rfl) dX5_count_80 ⟨Nat.zero_le _, Nat.zero_le _⟩) (fun H locs hC => ?_)
            exact z_reti hx hb hr hlk hC (Option.some.inj hf) rfl dX5_count_83
          · have hf := z_f hf c6
            by_cases c7 : a_1 = (5 : Int32)
            · have hf := z_t hf c7
              rw [c7]
              refine lv_tableIn (off := 83) (tgt := 84) hx hb dX5_count_1 (by decide) (by decide) rfl (by decide) ?_
              refine lv_aload_n hx hb dX5_count_84 rfl (lv_at hl 0 rfl) ?_
              refine zx_gX5_trade hx hb hts zi_X5_count hown hC kf19 dX5_count_85 ?_
              refine z_calli hC (z_runV (rest := []) zx_Gok hC E (zc_X4_currentHour l D cI cJ tp q u rfl _) (cwV 0 hts gX5_count_X4_currentHour rfl rfl rfl ⟨rfl, zd_X4_currentHour⟩ ⟨Nat.le_of_ble_eq_true rfl, Nat.le_of_ble_eq_true rfl⟩) (zx_rcX4 hC) rfl hl.1 rfl (Nat.le_of_ble_eq_true rfl) dX5_count_88 ⟨Nat.zero_le _, Nat.zero_le _⟩) (fun H locs hC => ?_)
              exact z_reti hx hb hr hlk hC (Option.some.inj hf) rfl dX5_count_91
            · have hf := z_f hf c7
              by_cases c8 : a_1 = (6 : Int32)
              · have hf := z_t hf c8
                rw [c8]
                refine lv_tableIn (off := 91) (tgt := 92) hx hb dX5_count_1 (by decide) (by decide) rfl (by decide) ?_
                refine lv_aload_n hx hb dX5_count_92 rfl (lv_at hl 0 rfl) ?_
                refine zx_gX5_debts hx hb hts zi_X5_count hown hC kf40 dX5_count_93 ?_
                obtain ⟨r9, pr9, hf⟩ := z_bd_s hf
                refine z_calli hC (z_runV (rest := []) zx_Gok hC E (zc_X1_total l D cI cJ tp q u pr9 _) (cwV 0 hts gX5_count_X1_total rfl rfl rfl ⟨rfl, zd_X1_total⟩ ⟨Nat.le_of_ble_eq_true rfl, Nat.le_of_ble_eq_true rfl⟩) (zx_rcX1 hC) rfl hl.1 rfl (Nat.le_of_ble_eq_true rfl) dX5_count_96 ⟨Nat.zero_le _, Nat.zero_le _⟩) (fun H locs hC => ?_)
                exact z_reti hx hb hr hlk hC (Option.some.inj hf) rfl dX5_count_99
              · have hf := z_f hf c8
                have n0 : ¬ a_1.toInt = 0 := z_ne c1
                have n1 : ¬ a_1.toInt = 1 := z_ne c2
                have n2 : ¬ a_1.toInt = 2 := z_ne c3
                have n3 : ¬ a_1.toInt = 3 := z_ne c5
                have n4 : ¬ a_1.toInt = 4 := z_ne c6
                have n5 : ¬ a_1.toInt = 5 := z_ne c7
                have n6 : ¬ a_1.toInt = 6 := z_ne c8
                refine lv_tableOut (tgt := 100) hx hb dX5_count_1 (by omega) (by decide) ?_
                refine lv_bipush (v := (-2 : Int32)) hx hb dX5_count_100 (by decide) ?_
                exact z_reti hx hb hr hlk hC (Option.some.inj hf) rfl dX5_count_102
abbrev zr_X5_digest : Room := { frames := 3, cells := 0, slots := 0, locals := 66 }
theorem zd_X5_digest : yX5_digest.cls ≠ "java/lang/invoke/MethodHandle" ∧ yX5_digest.cls ≠ "java/lang/invoke/VarHandle" ∧ (parseMethodDescriptor yX5_digest.desc).map (fun d => d.parameters.length) = some 0 := by decide +kernel
theorem zi_X5_digest : ∀ w ∈ wsX50, w ∈ wsX5_digest := fun _ h => List.mem_cons_of_mem _ (List.mem_append_left _ (List.mem_append_left _ (List.mem_append_left _ (List.mem_append_left _ (List.mem_append_left _ (List.mem_append_right _ h))))))
set_option maxHeartbeats 4000000 in
set_option maxRecDepth 100000 in
theorem zl_X5_digest_6 (E : CallFix p m c cX5_digest 4 s args wsX5_digest RX5) (u : z_St) : ∀ (n : Nat) (x_1 : Int64) (x_3 : Int32) (H : Heap) (locs : List Loc) (ls : Array Slot) (o_1 : Int64) (o_3 : Int32), zf_X5_digest_6 u n x_1 x_3 = some (o_1, o_3) → z_C (zx_W cI q) (zx_G tp) D cI cJ A s u H locs → lv_has ls 4 [(0, .ref (q 5)), (1, .long x_1), (3, .int x_3)] → (∀ (H : Heap) (locs : List Loc) (ls : Array Slot), z_C (zx_W cI q) (zx_G tp) D cI cJ A s u H locs → lv_has ls 4 [(0, .ref (q 5)), (1, .long o_1), (3, .int o_3)] → W p l e zr_X5_digest s m args below meth c H locs 0 0 Q (F0 m 28 ls [])) → W p l e zr_X5_digest s m args below meth c H locs 0 0 Q (F0 m 6 ls []) := by
  have hx := E.1
  have hb := E.2.1
  have hml := E.2.2.1
  have hown := E.2.2.2.1
  have hts := E.2.2.2.2
  intro n
  induction n with
  | zero =>
    intro x_1 x_3 H locs ls o_1 o_3 hf
    rw [zf_X5_digest_6.eq_1] at hf
    cases hf
  | succ n ih =>
    intro x_1 x_3 H locs ls o_1 o_3 hf hC hl kk
    rw [zf_X5_digest_6.eq_2] at hf
    refine lv_iload_n hx hb dX5_digest_6 rfl (lv_at hl 2 rfl) ?_
    refine lv_bipush (v := (7 : Int32)) hx hb dX5_digest_7 (by decide) ?_
    refine lv_icmp_ge (tgt := 28) hx hb dX5_digest_9 (by decide) (fun c1 => ?_) (fun c1 => ?_)
    · have hf := z_t hf c1
      cases hf
      exact kk _ _ _ hC (lv_sub hl [0, 1, 2] rfl)
    · have hf := z_f hf c1
      refine lv_lload_n hx hb dX5_digest_12 rfl (lv_at hl 1 rfl) ?_
      refine lv_aload_n hx hb dX5_digest_13 rfl (lv_at hl 0 rfl) ?_
      refine lv_iload_n hx hb dX5_digest_14 rfl (lv_at hl 2 rfl) ?_
      obtain ⟨r2, pr2, hf⟩ := z_bd_s hf
      refine z_calli hC (z_runV (rest := [_]) zx_Gok hC E (zc_X5_count l D cI cJ tp q u x_3 pr2 _) (cwV 1 hts gX5_digest_X5_count rfl rfl rfl ⟨rfl, zd_X5_count⟩ ⟨Nat.le_of_ble_eq_true rfl, Nat.le_of_ble_eq_true rfl⟩) (zx_rcX5 hC) rfl hl.1 rfl (Nat.le_of_ble_eq_true rfl) dX5_digest_15 ⟨Nat.zero_le _, Nat.zero_le _⟩) (fun H locs hC => ?_)
      refine z_calll hC (z_runS (rest := []) zx_Gok hC E (zc_X5_mix l D cI cJ tp q u x_1 r2 rfl _) (va_cwS 2 hts gX5_digest_X5_mix rfl rfl rfl zd_X5_mix ⟨Nat.le_of_ble_eq_true rfl, Nat.le_of_ble_eq_true rfl⟩) rfl hl.1 rfl (Nat.le_of_ble_eq_true rfl) dX5_digest_18 ⟨Nat.zero_le _, Nat.zero_le _⟩) (fun H locs hC => ?_)
      refine lv_topl (fun x3 ex3 => ?_)
      have hf := z_nm_s hf ex3
      refine lv_lstore_n (lv' := [(1, _), (0, _), (3, _)]) hx hb dX5_digest_21 rfl hl (by decide) rfl (fun ls hl => ?_)
      obtain ⟨x4, ex4⟩ : ∃ z : Int32, z = (x_3 + (1 : Int32)) := ⟨_, rfl⟩
      have hf := z_nm_s hf ex4
      refine lv_iinc (v := x4) (lv' := [(3, _), (1, _), (0, _)]) hx hb dX5_digest_22 hl (k := 2) rfl (by rw [ex4]; rfl) (by decide) rfl (fun ls hl => ?_)
      refine lv_goto (tgt := 6) hx hb dX5_digest_25 (by decide) ?_
      exact ih x3 x4 _ _ _ _ _ hf hC (lv_sub hl [2, 1, 0] rfl) kk
set_option maxHeartbeats 4000000 in
set_option maxRecDepth 100000 in
theorem zl_X5_digest_39 (E : CallFix p m c cX5_digest 4 s args wsX5_digest RX5) (u : z_St) : ∀ (n : Nat) (x_1 : Int64) (x_3 : Int32) (H : Heap) (locs : List Loc) (ls : Array Slot) (o_1 : Int64) (o_3 : Int32), zf_X5_digest_39 u n x_1 x_3 = some (o_1, o_3) → z_C (zx_W cI q) (zx_G tp) D cI cJ A s u H locs → lv_has ls 4 [(0, .ref (q 5)), (1, .long x_1), (3, .int x_3)] → (∀ (H : Heap) (locs : List Loc) (ls : Array Slot), z_C (zx_W cI q) (zx_G tp) D cI cJ A s u H locs → lv_has ls 4 [(0, .ref (q 5)), (1, .long o_1), (3, .int o_3)] → W p l e zr_X5_digest s m args below meth c H locs 0 0 Q (F0 m 89 ls [])) → W p l e zr_X5_digest s m args below meth c H locs 0 0 Q (F0 m 39 ls []) := by
  have hx := E.1
  have hb := E.2.1
  have hml := E.2.2.1
  have hown := E.2.2.2.1
  have hts := E.2.2.2.2
  intro n
  induction n with
  | zero =>
    intro x_1 x_3 H locs ls o_1 o_3 hf
    rw [zf_X5_digest_39.eq_1] at hf
    cases hf
  | succ n ih =>
    intro x_1 x_3 H locs ls o_1 o_3 hf hC hl kk
    rw [zf_X5_digest_39.eq_2] at hf
    have kf12 := hts (.fieldLink RX5 12 "DawnFair" "pieces" "LDawnFair$Pieces;") (by decide +kernel)
    have kf19 := hts (.fieldLink RX5 19 "DawnFair" "trade" "LDawnFair$Trade;") (by decide +kernel)
    have kf33 := hts (.fieldLink RX5 33 "DawnFair" "stolen" "LDawnFair$Stolen;") (by decide +kernel)
    refine lv_iload_n hx hb dX5_digest_39 rfl (lv_at hl 2 rfl) ?_
    refine lv_aload_n hx hb dX5_digest_40 rfl (lv_at hl 0 rfl) ?_
    refine zx_gX5_pieces hx hb hts zi_X5_digest hown hC kf12 dX5_digest_41 ?_
    refine z_calli hC (z_runV (rest := [_]) zx_Gok hC E (zc_X2_thingCount l D cI cJ tp q u rfl _) (cwV 0 hts gX5_digest_X2_thingCount rfl rfl rfl ⟨rfl, zd_X2_thingCount⟩ ⟨Nat.le_of_ble_eq_true rfl, Nat.le_of_ble_eq_true rfl⟩) (zx_rcX2 hC) rfl hl.1 rfl (Nat.le_of_ble_eq_true rfl) dX5_digest_44 ⟨Nat.zero_le _, Nat.zero_le _⟩) (fun H locs hC => ?_)
    refine lv_icmp_ge (tgt := 89) hx hb dX5_digest_47 (by decide) (fun c1 => ?_) (fun c1 => ?_)
    · have hf := z_t hf c1
      cases hf
      exact kk _ _ _ hC (lv_sub hl [0, 1, 2] rfl)
    · have hf := z_f hf c1
      refine lv_aload_n hx hb dX5_digest_50 rfl (lv_at hl 0 rfl) ?_
      refine zx_gX5_pieces hx hb hts zi_X5_digest hown hC kf12 dX5_digest_51 ?_
      refine lv_lload_n hx hb dX5_digest_54 rfl (lv_at hl 1 rfl) ?_
      refine lv_iload_n hx hb dX5_digest_55 rfl (lv_at hl 2 rfl) ?_
      obtain ⟨r2, pr2, hf⟩ := z_bd_s hf
      refine z_calll hC (z_runV (rest := []) zx_Gok hC E (zc_X2_mixParts l D cI cJ tp q u x_1 x_3 pr2 _) (cwV 2 hts gX5_digest_X2_mixParts rfl rfl rfl ⟨rfl, zd_X2_mixParts⟩ ⟨Nat.le_of_ble_eq_true rfl, Nat.le_of_ble_eq_true rfl⟩) (zx_rcX2 hC) rfl hl.1 rfl (Nat.le_of_ble_eq_true rfl) dX5_digest_56 ⟨Nat.zero_le _, Nat.zero_le _⟩) (fun H locs hC => ?_)
      refine lv_lstore_n (lv' := [(1, _), (0, _), (3, _)]) hx hb dX5_digest_59 rfl hl (by decide) rfl (fun ls hl => ?_)
      refine lv_lload_n hx hb dX5_digest_60 rfl (lv_at hl 0 rfl) ?_
      refine lv_aload_n hx hb dX5_digest_61 rfl (lv_at hl 1 rfl) ?_
      refine zx_gX5_trade hx hb hts zi_X5_digest hown hC kf19 dX5_digest_62 ?_
      refine lv_iload_n hx hb dX5_digest_65 rfl (lv_at hl 2 rfl) ?_
      obtain ⟨r3, pr3, hf⟩ := z_bd_s hf
      refine z_calli hC (z_runV (rest := [_]) zx_Gok hC E (zc_X4_holderOf l D cI cJ tp q u x_3 pr3 _) (cwV 1 hts gX5_digest_X4_holderOf rfl rfl rfl ⟨rfl, zd_X4_holderOf⟩ ⟨Nat.le_of_ble_eq_true rfl, Nat.le_of_ble_eq_true rfl⟩) (zx_rcX4 hC) rfl hl.1 rfl (Nat.le_of_ble_eq_true rfl) dX5_digest_66 ⟨Nat.zero_le _, Nat.zero_le _⟩) (fun H locs hC => ?_)
      refine z_calll hC (z_runS (rest := []) zx_Gok hC E (zc_X5_mix l D cI cJ tp q u r2 r3 rfl _) (va_cwS 2 hts gX5_digest_X5_mix rfl rfl rfl zd_X5_mix ⟨Nat.le_of_ble_eq_true rfl, Nat.le_of_ble_eq_true rfl⟩) rfl hl.1 rfl (Nat.le_of_ble_eq_true rfl) dX5_digest_69 ⟨Nat.zero_le _, Nat.zero_le _⟩) (fun H locs hC => ?_)
      refine lv_topl (fun x4 ex4 => ?_)
      have hf := z_nm_s hf ex4
      refine lv_lstore_n (lv' := [(1, _), (0, _), (3, _)]) hx hb dX5_digest_72 rfl hl (by decide) rfl (fun ls hl => ?_)
      refine lv_aload_n hx hb dX5_digest_73 rfl (lv_at hl 1 rfl) ?_
      refine zx_gX5_stolen hx hb hts zi_X5_digest hown hC kf33 dX5_digest_74 ?_
      refine lv_lload_n hx hb dX5_digest_77 rfl (lv_at hl 0 rfl) ?_
      refine lv_iload_n hx hb dX5_digest_78 rfl (lv_at hl 2 rfl) ?_
      obtain ⟨r5, pr5, hf⟩ := z_bd_s hf
      refine z_calll hC (z_runV (rest := []) zx_Gok hC E (zc_X3_mixMarks l D cI cJ tp q u x4 x_3 pr5 _) (cwV 2 hts gX5_digest_X3_mixMarks rfl rfl rfl ⟨rfl, zd_X3_mixMarks⟩ ⟨Nat.le_of_ble_eq_true rfl, Nat.le_of_ble_eq_true rfl⟩) (zx_rcX3 hC) rfl hl.1 rfl (Nat.le_of_ble_eq_true rfl) dX5_digest_79 ⟨Nat.zero_le _, Nat.zero_le _⟩) (fun H locs hC => ?_)
      refine lv_lstore_n (lv' := [(1, _), (0, _), (3, _)]) hx hb dX5_digest_82 rfl hl (by decide) rfl (fun ls hl => ?_)
      obtain ⟨x6, ex6⟩ : ∃ z : Int32, z = (x_3 + (1 : Int32)) := ⟨_, rfl⟩
      have hf := z_nm_s hf ex6
      refine lv_iinc (v := x6) (lv' := [(3, _), (1, _), (0, _)]) hx hb dX5_digest_83 hl (k := 2) rfl (by rw [ex6]; rfl) (by decide) rfl (fun ls hl => ?_)
      refine lv_goto (tgt := 39) hx hb dX5_digest_86 (by decide) ?_
      exact ih r5 x6 _ _ _ _ _ hf hC (lv_sub hl [2, 1, 0] rfl) kk
set_option maxHeartbeats 4000000 in
set_option maxRecDepth 100000 in
theorem zl_X5_digest_118 (E : CallFix p m c cX5_digest 4 s args wsX5_digest RX5) (u : z_St) : ∀ (n : Nat) (x_1 : Int64) (x_3 : Int32) (H : Heap) (locs : List Loc) (ls : Array Slot) (o_1 : Int64) (o_3 : Int32), zf_X5_digest_118 u n x_1 x_3 = some (o_1, o_3) → z_C (zx_W cI q) (zx_G tp) D cI cJ A s u H locs → lv_has ls 4 [(0, .ref (q 5)), (1, .long x_1), (3, .int x_3)] → (∀ (H : Heap) (locs : List Loc) (ls : Array Slot), z_C (zx_W cI q) (zx_G tp) D cI cJ A s u H locs → lv_has ls 4 [(0, .ref (q 5)), (1, .long o_1), (3, .int o_3)] → W p l e zr_X5_digest s m args below meth c H locs 0 0 Q (F0 m 156 ls [])) → W p l e zr_X5_digest s m args below meth c H locs 0 0 Q (F0 m 118 ls []) := by
  have hx := E.1
  have hb := E.2.1
  have hml := E.2.2.1
  have hown := E.2.2.2.1
  have hts := E.2.2.2.2
  intro n
  induction n with
  | zero =>
    intro x_1 x_3 H locs ls o_1 o_3 hf
    rw [zf_X5_digest_118.eq_1] at hf
    cases hf
  | succ n ih =>
    intro x_1 x_3 H locs ls o_1 o_3 hf hC hl kk
    rw [zf_X5_digest_118.eq_2] at hf
    have kf19 := hts (.fieldLink RX5 19 "DawnFair" "trade" "LDawnFair$Trade;") (by decide +kernel)
    have kf40 := hts (.fieldLink RX5 40 "DawnFair" "debts" "LDawnFair$Debts;") (by decide +kernel)
    refine lv_iload_n hx hb dX5_digest_118 rfl (lv_at hl 2 rfl) ?_
    refine lv_bipush (v := (8 : Int32)) hx hb dX5_digest_119 (by decide) ?_
    refine lv_icmp_ge (tgt := 156) hx hb dX5_digest_121 (by decide) (fun c1 => ?_) (fun c1 => ?_)
    · have hf := z_t hf c1
      cases hf
      exact kk _ _ _ hC (lv_sub hl [0, 1, 2] rfl)
    · have hf := z_f hf c1
      refine lv_lload_n hx hb dX5_digest_124 rfl (lv_at hl 1 rfl) ?_
      refine lv_aload_n hx hb dX5_digest_125 rfl (lv_at hl 0 rfl) ?_
      refine zx_gX5_trade hx hb hts zi_X5_digest hown hC kf19 dX5_digest_126 ?_
      refine lv_iload_n hx hb dX5_digest_129 rfl (lv_at hl 2 rfl) ?_
      obtain ⟨r2, pr2, hf⟩ := z_bd_s hf
      refine z_calli hC (z_runV (rest := [_]) zx_Gok hC E (zc_X4_gainOf l D cI cJ tp q u x_3 pr2 _) (cwV 1 hts gX5_digest_X4_gainOf rfl rfl rfl ⟨rfl, zd_X4_gainOf⟩ ⟨Nat.le_of_ble_eq_true rfl, Nat.le_of_ble_eq_true rfl⟩) (zx_rcX4 hC) rfl hl.1 rfl (Nat.le_of_ble_eq_true rfl) dX5_digest_130 ⟨Nat.zero_le _, Nat.zero_le _⟩) (fun H locs hC => ?_)
      refine z_calll hC (z_runS (rest := []) zx_Gok hC E (zc_X5_mix l D cI cJ tp q u x_1 r2 rfl _) (va_cwS 2 hts gX5_digest_X5_mix rfl rfl rfl zd_X5_mix ⟨Nat.le_of_ble_eq_true rfl, Nat.le_of_ble_eq_true rfl⟩) rfl hl.1 rfl (Nat.le_of_ble_eq_true rfl) dX5_digest_133 ⟨Nat.zero_le _, Nat.zero_le _⟩) (fun H locs hC => ?_)
      refine lv_topl (fun x3 ex3 => ?_)
      have hf := z_nm_s hf ex3
      refine lv_lstore_n (lv' := [(1, _), (0, _), (3, _)]) hx hb dX5_digest_136 rfl hl (by decide) rfl (fun ls hl => ?_)
      refine lv_lload_n hx hb dX5_digest_137 rfl (lv_at hl 0 rfl) ?_
      refine lv_aload_n hx hb dX5_digest_138 rfl (lv_at hl 1 rfl) ?_
      refine zx_gX5_debts hx hb hts zi_X5_digest hown hC kf40 dX5_digest_139 ?_
      refine lv_iload_n hx hb dX5_digest_142 rfl (lv_at hl 2 rfl) ?_
      obtain ⟨r4, pr4, hf⟩ := z_bd_s hf
      refine z_calli hC (z_runV (rest := [_]) zx_Gok hC E (zc_X1_netOf l D cI cJ tp q u x_3 pr4 _) (cwV 1 hts gX5_digest_X1_netOf rfl rfl rfl ⟨rfl, zd_X1_netOf⟩ ⟨Nat.le_of_ble_eq_true rfl, Nat.le_of_ble_eq_true rfl⟩) (zx_rcX1 hC) rfl hl.1 rfl (Nat.le_of_ble_eq_true rfl) dX5_digest_143 ⟨Nat.zero_le _, Nat.zero_le _⟩) (fun H locs hC => ?_)
      refine z_calll hC (z_runS (rest := []) zx_Gok hC E (zc_X5_mix l D cI cJ tp q u x3 r4 rfl _) (va_cwS 2 hts gX5_digest_X5_mix rfl rfl rfl zd_X5_mix ⟨Nat.le_of_ble_eq_true rfl, Nat.le_of_ble_eq_true rfl⟩) rfl hl.1 rfl (Nat.le_of_ble_eq_true rfl) dX5_digest_146 ⟨Nat.zero_le _, Nat.zero_le _⟩) (fun H locs hC => ?_)
      refine lv_topl (fun x5 ex5 => ?_)
      have hf := z_nm_s hf ex5
      refine lv_lstore_n (lv' := [(1, _), (0, _), (3, _)]) hx hb dX5_digest_149 rfl hl (by decide) rfl (fun ls hl => ?_)
      obtain ⟨x6, ex6⟩ : ∃ z : Int32, z = (x_3 + (1 : Int32)) := ⟨_, rfl⟩
      have hf := z_nm_s hf ex6
      refine lv_iinc (v := x6) (lv' := [(3, _), (1, _), (0, _)]) hx hb dX5_digest_150 hl (k := 2) rfl (by rw [ex6]; rfl) (by decide) rfl (fun ls hl => ?_)
      refine lv_goto (tgt := 118) hx hb dX5_digest_153 (by decide) ?_
      exact ih x5 x6 _ _ _ _ _ hf hC (lv_sub hl [2, 1, 0] rfl) kk
set_option maxHeartbeats 4000000 in
set_option maxRecDepth 100000 in
theorem zc_X5_digest (l : Launch) (D : va_G) (cI cJ : ClassId) (tp : Nat) (q : Nat → Nat) (u : z_St) {r : Int64} (hf : zf_X5_digest u = some r) : z_Ml l yX5_digest wsX5_digest zr_X5_digest (zx_W cI q) (zx_G tp) D cI cJ [.ref (q 5)] u r u := by
  refine z_ofl (cc := cX5_digest) (maxL := 4) (ret := (some .long)) zx_Gok (by decide) rfl (Nat.le_of_ble_eq_true rfl) ?_
  intro A p e s m args below meth c ls E hr hlk hC hl
  have E : CallFix p m c cX5_digest 4 s args wsX5_digest RX5 := E
  have hx := E.1
  have hb := E.2.1
  have hml := E.2.2.1
  have hown := E.2.2.2.1
  have hts := E.2.2.2.2
  have hl : lv_has ls 4 [(0, .ref (q 5))] := hl
  unfold zf_X5_digest at hf
  have kl205 := hts (.constantLong RX5 205 (239)) (by decide +kernel)
  have kf12 := hts (.fieldLink RX5 12 "DawnFair" "pieces" "LDawnFair$Pieces;") (by decide +kernel)
  have kf19 := hts (.fieldLink RX5 19 "DawnFair" "trade" "LDawnFair$Trade;") (by decide +kernel)
  have kf26 := hts (.fieldLink RX5 26 "DawnFair" "auctions" "LDawnFair$Auctions;") (by decide +kernel)
  have kf33 := hts (.fieldLink RX5 33 "DawnFair" "stolen" "LDawnFair$Stolen;") (by decide +kernel)
  refine lv_ldc2 (own := RX5) (v := (239 : Int64)) hx hb hown kl205 dX5_digest_0 ?_
  refine lv_lstore_n (lv' := [(1, _), (0, _)]) hx hb dX5_digest_3 rfl hl (by decide) rfl (fun ls hl => ?_)
  refine lv_iconst (v := (0 : Int32)) hx hb dX5_digest_4 (by decide) ?_
  refine lv_istore_n (lv' := [(3, _), (1, _), (0, _)]) hx hb dX5_digest_5 rfl hl (by decide) rfl (fun ls hl => ?_)
  obtain ⟨y1, y2, py1, hf⟩ := z_bd2_s hf
  refine zl_X5_digest_6 E u 5000 (239 : Int64) (0 : Int32) _ _ _ _ _ py1 hC (lv_sub hl [2, 1, 0] rfl) (fun H locs ls hC hl => ?_)
  refine lv_aload_n hx hb dX5_digest_28 rfl (lv_at hl 0 rfl) ?_
  refine zx_gX5_pieces hx hb hts zi_X5_digest hown hC kf12 dX5_digest_29 ?_
  refine lv_lload_n hx hb dX5_digest_32 rfl (lv_at hl 1 rfl) ?_
  obtain ⟨r3, pr3, hf⟩ := z_bd_s hf
  refine z_calll hC (z_runV (rest := []) zx_Gok hC E (zc_X2_mixWorks l D cI cJ tp q u y1 pr3 _) (cwV 1 hts gX5_digest_X2_mixWorks rfl rfl rfl ⟨rfl, zd_X2_mixWorks⟩ ⟨Nat.le_of_ble_eq_true rfl, Nat.le_of_ble_eq_true rfl⟩) (zx_rcX2 hC) rfl hl.1 rfl (Nat.le_of_ble_eq_true rfl) dX5_digest_33 ⟨Nat.zero_le _, Nat.zero_le _⟩) (fun H locs hC => ?_)
  refine lv_lstore_n (lv' := [(1, _), (0, _), (3, _)]) hx hb dX5_digest_36 rfl hl (by decide) rfl (fun ls hl => ?_)
  refine lv_iconst (v := (0 : Int32)) hx hb dX5_digest_37 (by decide) ?_
  refine lv_istore_n (lv' := [(3, _), (1, _), (0, _)]) hx hb dX5_digest_38 rfl hl (by decide) rfl (fun ls hl => ?_)
  obtain ⟨y4, y5, py4, hf⟩ := z_bd2_s hf
  refine zl_X5_digest_39 E u 5000 r3 (0 : Int32) _ _ _ _ _ py4 hC (lv_sub hl [2, 1, 0] rfl) (fun H locs ls hC hl => ?_)
  refine lv_aload_n hx hb dX5_digest_89 rfl (lv_at hl 0 rfl) ?_
  refine zx_gX5_trade hx hb hts zi_X5_digest hown hC kf19 dX5_digest_90 ?_
  refine lv_lload_n hx hb dX5_digest_93 rfl (lv_at hl 1 rfl) ?_
  obtain ⟨r6, pr6, hf⟩ := z_bd_s hf
  refine z_calll hC (z_runV (rest := []) zx_Gok hC E (zc_X4_mixSales l D cI cJ tp q u y4 pr6 _) (cwV 1 hts gX5_digest_X4_mixSales rfl rfl rfl ⟨rfl, zd_X4_mixSales⟩ ⟨Nat.le_of_ble_eq_true rfl, Nat.le_of_ble_eq_true rfl⟩) (zx_rcX4 hC) rfl hl.1 rfl (Nat.le_of_ble_eq_true rfl) dX5_digest_94 ⟨Nat.zero_le _, Nat.zero_le _⟩) (fun H locs hC => ?_)
  refine lv_lstore_n (lv' := [(1, _), (0, _), (3, _)]) hx hb dX5_digest_97 rfl hl (by decide) rfl (fun ls hl => ?_)
  refine lv_aload_n hx hb dX5_digest_98 rfl (lv_at hl 1 rfl) ?_
  refine zx_gX5_auctions hx hb hts zi_X5_digest hown hC kf26 dX5_digest_99 ?_
  refine lv_lload_n hx hb dX5_digest_102 rfl (lv_at hl 0 rfl) ?_
  obtain ⟨r7, pr7, hf⟩ := z_bd_s hf
  refine z_calll hC (z_runV (rest := []) zx_Gok hC E (zc_X0_mixLots l D cI cJ tp q u r6 pr7 _) (cwV 1 hts gX5_digest_X0_mixLots rfl rfl rfl ⟨rfl, zd_X0_mixLots⟩ ⟨Nat.le_of_ble_eq_true rfl, Nat.le_of_ble_eq_true rfl⟩) (zx_rcX0 hC) rfl hl.1 rfl (Nat.le_of_ble_eq_true rfl) dX5_digest_103 ⟨Nat.zero_le _, Nat.zero_le _⟩) (fun H locs hC => ?_)
  refine lv_lstore_n (lv' := [(1, _), (0, _), (3, _)]) hx hb dX5_digest_106 rfl hl (by decide) rfl (fun ls hl => ?_)
  refine lv_aload_n hx hb dX5_digest_107 rfl (lv_at hl 1 rfl) ?_
  refine zx_gX5_stolen hx hb hts zi_X5_digest hown hC kf33 dX5_digest_108 ?_
  refine lv_lload_n hx hb dX5_digest_111 rfl (lv_at hl 0 rfl) ?_
  obtain ⟨r8, pr8, hf⟩ := z_bd_s hf
  refine z_calll hC (z_runV (rest := []) zx_Gok hC E (zc_X3_mixEntries l D cI cJ tp q u r7 pr8 _) (cwV 1 hts gX5_digest_X3_mixEntries rfl rfl rfl ⟨rfl, zd_X3_mixEntries⟩ ⟨Nat.le_of_ble_eq_true rfl, Nat.le_of_ble_eq_true rfl⟩) (zx_rcX3 hC) rfl hl.1 rfl (Nat.le_of_ble_eq_true rfl) dX5_digest_112 ⟨Nat.zero_le _, Nat.zero_le _⟩) (fun H locs hC => ?_)
  refine lv_lstore_n (lv' := [(1, _), (0, _), (3, _)]) hx hb dX5_digest_115 rfl hl (by decide) rfl (fun ls hl => ?_)
  refine lv_iconst (v := (0 : Int32)) hx hb dX5_digest_116 (by decide) ?_
  refine lv_istore_n (lv' := [(3, _), (1, _), (0, _)]) hx hb dX5_digest_117 rfl hl (by decide) rfl (fun ls hl => ?_)
  obtain ⟨y9, y10, py9, hf⟩ := z_bd2_s hf
  refine zl_X5_digest_118 E u 5000 r8 (0 : Int32) _ _ _ _ _ py9 hC (lv_sub hl [2, 1, 0] rfl) (fun H locs ls hC hl => ?_)
  refine lv_lload_n hx hb dX5_digest_156 rfl (lv_at hl 1 rfl) ?_
  exact z_retl hx hb hr hlk hC (Option.some.inj hf) rfl dX5_digest_157
end
