section
variable {p : Program} {l : Launch} {e : Env} {R : Room} {s : State} {m : MethodId} {args : Array Value} {below : List Frame} {meth : Method} {c : Code} {H : Heap} {locs : List Loc} {cells slots : Nat} {Q : State → Prop} {cc : ByteArray} {pc : Nat} {ls : Array Slot} {rest : List Value}
variable {D : va_G} {cI cJ : ClassId} {tp : Nat} {q : Nat → Nat} {A : Nat → Prop} {u : z_St} {Ts : List Cond}
abbrev zr_X6_saleOf : Room := { frames := 0, cells := 0, slots := 0, locals := 0 }
theorem zd_X6_saleOf : yX6_saleOf.cls ≠ "java/lang/invoke/MethodHandle" ∧ yX6_saleOf.cls ≠ "java/lang/invoke/VarHandle" ∧ (parseMethodDescriptor yX6_saleOf.desc).map (fun d => d.parameters.length) = some 2 := by decide +kernel
theorem zi_X6_saleOf : ∀ w ∈ wsX60, w ∈ wsX6_saleOf := fun _ h => List.mem_cons_of_mem _ (List.mem_append_right _ h)
set_option maxHeartbeats 4000000 in
set_option maxRecDepth 100000 in
theorem zc_X6_saleOf (l : Launch) (D : va_G) (cI cJ : ClassId) (tp : Nat) (q : Nat → Nat) (u : z_St) (a_1 : Int32) (a_2 : Int32) {r : Int32} (hf : zf_X6_saleOf u a_1 a_2 = some r) : z_Mi l yX6_saleOf wsX6_saleOf zr_X6_saleOf (zm_W cI cJ q) (zm_G tp) D cI cJ [.ref (q 0), .int a_1, .int a_2] u r u := by
  refine z_ofi (cc := cX6_saleOf) (maxL := 3) (ret := (some .int)) zm_Gok (by decide) rfl (Nat.le_of_ble_eq_true rfl) ?_
  intro A p e s m args below meth c ls E hr hlk hC hl
  have E : CallFix p m c cX6_saleOf 3 s args wsX6_saleOf RX6 := E
  have hx := E.1
  have hb := E.2.1
  have hml := E.2.2.1
  have hown := E.2.2.2.1
  have hts := E.2.2.2.2
  have hl : lv_has ls 3 [(0, .ref (q 0)), (1, .int a_1), (2, .int a_2)] := hl
  unfold zf_X6_saleOf at hf
  have kf38 := hts (.fieldLink RX6 38 "DawnFairModel" "saleThing" "[I") (by decide +kernel)
  have kf41 := hts (.fieldLink RX6 41 "DawnFairModel" "seller" "[I") (by decide +kernel)
  have kf44 := hts (.fieldLink RX6 44 "DawnFairModel" "buyer" "[I") (by decide +kernel)
  have kf47 := hts (.fieldLink RX6 47 "DawnFairModel" "price" "[I") (by decide +kernel)
  have kf50 := hts (.fieldLink RX6 50 "DawnFairModel" "soldAt" "[I") (by decide +kernel)
  have kf53 := hts (.fieldLink RX6 53 "DawnFairModel" "backBy" "[I") (by decide +kernel)
  have kf56 := hts (.fieldLink RX6 56 "DawnFairModel" "stands" "[I") (by decide +kernel)
  refine lv_iload_n hx hb dX6_saleOf_0 rfl (lv_at hl 2 rfl) ?_
  by_cases c1 : a_2 = (0 : Int32)
  · have hf := z_t hf c1
    rw [c1]
    refine lv_tableIn (off := 39) (tgt := 40) hx hb dX6_saleOf_1 (by decide) (by decide) rfl (by decide) ?_
    refine lv_aload_n hx hb dX6_saleOf_40 rfl (lv_at hl 0 rfl) ?_
    refine zm_gX6_saleThing hx hb hts zi_X6_saleOf hown hC kf38 dX6_saleOf_41 ?_
    refine lv_iload_n hx hb dX6_saleOf_44 rfl (lv_at hl 1 rfl) ?_
    obtain ⟨h2, hf⟩ := z_gd_s hf
    refine zm_aX6_saleThing hx hb hC (z_in h2) dX6_saleOf_45 ?_
    exact z_reti hx hb hr hlk hC (Option.some.inj hf) rfl dX6_saleOf_46
  · have hf := z_f hf c1
    by_cases c3 : a_2 = (1 : Int32)
    · have hf := z_t hf c3
      rw [c3]
      refine lv_tableIn (off := 46) (tgt := 47) hx hb dX6_saleOf_1 (by decide) (by decide) rfl (by decide) ?_
      refine lv_aload_n hx hb dX6_saleOf_47 rfl (lv_at hl 0 rfl) ?_
      refine zm_gX6_seller hx hb hts zi_X6_saleOf hown hC kf41 dX6_saleOf_48 ?_
      refine lv_iload_n hx hb dX6_saleOf_51 rfl (lv_at hl 1 rfl) ?_
      obtain ⟨h4, hf⟩ := z_gd_s hf
      refine zm_aX6_seller hx hb hC (z_in h4) dX6_saleOf_52 ?_
      exact z_reti hx hb hr hlk hC (Option.some.inj hf) rfl dX6_saleOf_53
    · have hf := z_f hf c3
      by_cases c5 : a_2 = (2 : Int32)
      · have hf := z_t hf c5
        rw [c5]
        refine lv_tableIn (off := 53) (tgt := 54) hx hb dX6_saleOf_1 (by decide) (by decide) rfl (by decide) ?_
        refine lv_aload_n hx hb dX6_saleOf_54 rfl (lv_at hl 0 rfl) ?_
        refine zm_gX6_buyer hx hb hts zi_X6_saleOf hown hC kf44 dX6_saleOf_55 ?_
        refine lv_iload_n hx hb dX6_saleOf_58 rfl (lv_at hl 1 rfl) ?_
        obtain ⟨h6, hf⟩ := z_gd_s hf
        refine zm_aX6_buyer hx hb hC (z_in h6) dX6_saleOf_59 ?_
        exact z_reti hx hb hr hlk hC (Option.some.inj hf) rfl dX6_saleOf_60
      · have hf := z_f hf c5
        by_cases c7 : a_2 = (3 : Int32)
        · have hf := z_t hf c7
          rw [c7]
          refine lv_tableIn (off := 60) (tgt := 61) hx hb dX6_saleOf_1 (by decide) (by decide) rfl (by decide) ?_
          refine lv_aload_n hx hb dX6_saleOf_61 rfl (lv_at hl 0 rfl) ?_
          refine zm_gX6_price hx hb hts zi_X6_saleOf hown hC kf47 dX6_saleOf_62 ?_
          refine lv_iload_n hx hb dX6_saleOf_65 rfl (lv_at hl 1 rfl) ?_
          obtain ⟨h8, hf⟩ := z_gd_s hf
          refine zm_aX6_price hx hb hC (z_in h8) dX6_saleOf_66 ?_
          exact z_reti hx hb hr hlk hC (Option.some.inj hf) rfl dX6_saleOf_67
        · have hf := z_f hf c7
          by_cases c9 : a_2 = (4 : Int32)
          · have hf := z_t hf c9
            rw [c9]
            refine lv_tableIn (off := 67) (tgt := 68) hx hb dX6_saleOf_1 (by decide) (by decide) rfl (by decide) ?_
            refine lv_aload_n hx hb dX6_saleOf_68 rfl (lv_at hl 0 rfl) ?_
            refine zm_gX6_soldAt hx hb hts zi_X6_saleOf hown hC kf50 dX6_saleOf_69 ?_
            refine lv_iload_n hx hb dX6_saleOf_72 rfl (lv_at hl 1 rfl) ?_
            obtain ⟨h10, hf⟩ := z_gd_s hf
            refine zm_aX6_soldAt hx hb hC (z_in h10) dX6_saleOf_73 ?_
            exact z_reti hx hb hr hlk hC (Option.some.inj hf) rfl dX6_saleOf_74
          · have hf := z_f hf c9
            by_cases c11 : a_2 = (5 : Int32)
            · have hf := z_t hf c11
              rw [c11]
              refine lv_tableIn (off := 74) (tgt := 75) hx hb dX6_saleOf_1 (by decide) (by decide) rfl (by decide) ?_
              refine lv_aload_n hx hb dX6_saleOf_75 rfl (lv_at hl 0 rfl) ?_
              refine zm_gX6_backBy hx hb hts zi_X6_saleOf hown hC kf53 dX6_saleOf_76 ?_
              refine lv_iload_n hx hb dX6_saleOf_79 rfl (lv_at hl 1 rfl) ?_
              obtain ⟨h12, hf⟩ := z_gd_s hf
              refine zm_aX6_backBy hx hb hC (z_in h12) dX6_saleOf_80 ?_
              exact z_reti hx hb hr hlk hC (Option.some.inj hf) rfl dX6_saleOf_81
            · have hf := z_f hf c11
              have n0 : ¬ a_2.toInt = 0 := z_ne c1
              have n1 : ¬ a_2.toInt = 1 := z_ne c3
              have n2 : ¬ a_2.toInt = 2 := z_ne c5
              have n3 : ¬ a_2.toInt = 3 := z_ne c7
              have n4 : ¬ a_2.toInt = 4 := z_ne c9
              have n5 : ¬ a_2.toInt = 5 := z_ne c11
              refine lv_tableOut (tgt := 82) hx hb dX6_saleOf_1 (by omega) (by decide) ?_
              refine lv_aload_n hx hb dX6_saleOf_82 rfl (lv_at hl 0 rfl) ?_
              refine zm_gX6_stands hx hb hts zi_X6_saleOf hown hC kf56 dX6_saleOf_83 ?_
              refine lv_iload_n hx hb dX6_saleOf_86 rfl (lv_at hl 1 rfl) ?_
              obtain ⟨h13, hf⟩ := z_gd_s hf
              refine zm_aX6_stands hx hb hC (z_in h13) dX6_saleOf_87 ?_
              exact z_reti hx hb hr hlk hC (Option.some.inj hf) rfl dX6_saleOf_88
abbrev zr_X6_sale : Room := { frames := 1, cells := 0, slots := 0, locals := 25 }
theorem zd_X6_sale : yX6_sale.cls ≠ "java/lang/invoke/MethodHandle" ∧ yX6_sale.cls ≠ "java/lang/invoke/VarHandle" ∧ (parseMethodDescriptor yX6_sale.desc).map (fun d => d.parameters.length) = some 2 := by decide +kernel
theorem zi_X6_sale : ∀ w ∈ wsX60, w ∈ wsX6_sale := fun _ h => List.mem_cons_of_mem _ (List.mem_append_right _ h)
set_option maxHeartbeats 4000000 in
set_option maxRecDepth 100000 in
theorem zc_X6_sale (l : Launch) (D : va_G) (cI cJ : ClassId) (tp : Nat) (q : Nat → Nat) (u : z_St) (a_1 : Int32) (a_2 : Int32) {r : Int32} (hf : zf_X6_sale u a_1 a_2 = some r) : z_Mi l yX6_sale wsX6_sale zr_X6_sale (zm_W cI cJ q) (zm_G tp) D cI cJ [.ref (q 0), .int a_1, .int a_2] u r u := by
  refine z_ofi (cc := cX6_sale) (maxL := 3) (ret := (some .int)) zm_Gok (by decide) rfl (Nat.le_of_ble_eq_true rfl) ?_
  intro A p e s m args below meth c ls E hr hlk hC hl
  have E : CallFix p m c cX6_sale 3 s args wsX6_sale RX6 := E
  have hx := E.1
  have hb := E.2.1
  have hml := E.2.2.1
  have hown := E.2.2.2.1
  have hts := E.2.2.2.2
  have hl : lv_has ls 3 [(0, .ref (q 0)), (1, .int a_1), (2, .int a_2)] := hl
  unfold zf_X6_sale at hf
  have kl150 := hts (.constantLong RX6 150 (6)) (by decide +kernel)
  have kf137 := hts (.fieldLink RX6 137 "DawnFairModel" "sales" "I") (by decide +kernel)
  refine lv_iload_n hx hb dX6_sale_0 rfl (lv_at hl 1 rfl) ?_
  refine lv_if_lt (tgt := 16) hx hb dX6_sale_1 (by decide) (fun c1 => ?_) (fun c1 => ?_)
  · have hf := z_t hf c1
    refine lv_bipush (v := (-2 : Int32)) hx hb dX6_sale_16 (by decide) ?_
    refine lv_goto (tgt := 39) hx hb dX6_sale_18 (by decide) ?_
    exact z_reti hx hb hr hlk hC (Option.some.inj hf) rfl dX6_sale_39
  · have hf := z_f hf c1
    refine lv_iload_n hx hb dX6_sale_4 rfl (lv_at hl 2 rfl) ?_
    refine lv_i2l hx hb dX6_sale_5 rfl ?_
    refine lv_lconst (v := (0 : Int64)) hx hb dX6_sale_6 (by decide) ?_
    refine lv_ldc2 (own := RX6) (v := (6 : Int64)) hx hb hown kl150 dX6_sale_7 ?_
    refine z_calli hC (z_runS (rest := []) zm_Gok hC E (zc_X6_in l D cI cJ tp q u a_2.toInt64 (0 : Int64) (6 : Int64) rfl _) (va_cwS 3 hts gX6_sale_X6_in rfl rfl rfl zd_X6_in ⟨Nat.le_of_ble_eq_true rfl, Nat.le_of_ble_eq_true rfl⟩) rfl hl.1 rfl (Nat.le_of_ble_eq_true rfl) dX6_sale_10 ⟨Nat.zero_le _, Nat.zero_le _⟩) (fun H locs hC => ?_)
    refine lv_if_ne (tgt := 21) hx hb dX6_sale_13 (by decide) (fun c2 => ?_) (fun c2 => ?_)
    · have hf := z_f hf c2
      refine lv_iload_n hx hb dX6_sale_21 rfl (lv_at hl 1 rfl) ?_
      refine lv_aload_n hx hb dX6_sale_22 rfl (lv_at hl 0 rfl) ?_
      refine zm_gX6_sales hx hb hts zi_X6_sale hown hC kf137 dX6_sale_23 ?_
      refine lv_icmp_lt (tgt := 33) hx hb dX6_sale_26 (by decide) (fun c3 => ?_) (fun c3 => ?_)
      · have hf := z_t hf c3
        refine lv_aload_n hx hb dX6_sale_33 rfl (lv_at hl 0 rfl) ?_
        refine lv_iload_n hx hb dX6_sale_34 rfl (lv_at hl 1 rfl) ?_
        refine lv_iload_n hx hb dX6_sale_35 rfl (lv_at hl 2 rfl) ?_
        obtain ⟨r4, pr4, hf⟩ := z_bd_s hf
        refine z_calli hC (z_runV (rest := []) zm_Gok hC E (zc_X6_saleOf l D cI cJ tp q u a_1 a_2 pr4 _) (cwV 2 hts gX6_sale_X6_saleOf rfl rfl rfl ⟨rfl, zd_X6_saleOf⟩ ⟨Nat.le_of_ble_eq_true rfl, Nat.le_of_ble_eq_true rfl⟩) (zm_rcX6 hC) rfl hl.1 rfl (Nat.le_of_ble_eq_true rfl) dX6_sale_36 ⟨Nat.zero_le _, Nat.zero_le _⟩) (fun H locs hC => ?_)
        exact z_reti hx hb hr hlk hC (Option.some.inj hf) rfl dX6_sale_39
      · have hf := z_f hf c3
        refine lv_iconst (v := (-1 : Int32)) hx hb dX6_sale_29 (by decide) ?_
        refine lv_goto (tgt := 39) hx hb dX6_sale_30 (by decide) ?_
        exact z_reti hx hb hr hlk hC (Option.some.inj hf) rfl dX6_sale_39
    · have hf := z_t hf c2
      refine lv_bipush (v := (-2 : Int32)) hx hb dX6_sale_16 (by decide) ?_
      refine lv_goto (tgt := 39) hx hb dX6_sale_18 (by decide) ?_
      exact z_reti hx hb hr hlk hC (Option.some.inj hf) rfl dX6_sale_39
abbrev zr_X6_gainOf : Room := { frames := 0, cells := 0, slots := 0, locals := 0 }
theorem zd_X6_gainOf : yX6_gainOf.cls ≠ "java/lang/invoke/MethodHandle" ∧ yX6_gainOf.cls ≠ "java/lang/invoke/VarHandle" ∧ (parseMethodDescriptor yX6_gainOf.desc).map (fun d => d.parameters.length) = some 1 := by decide +kernel
theorem zi_X6_gainOf : ∀ w ∈ wsX60, w ∈ wsX6_gainOf := fun _ h => List.mem_cons_of_mem _ (List.mem_append_right _ h)
set_option maxHeartbeats 4000000 in
set_option maxRecDepth 100000 in
theorem zl_X6_gainOf_4 (E : CallFix p m c cX6_gainOf 4 s args wsX6_gainOf RX6) (a_1 : Int32) (u : z_St) : ∀ (n : Nat) (x_2 : Int32) (x_3 : Int32) (H : Heap) (locs : List Loc) (ls : Array Slot) (o_2 : Int32) (o_3 : Int32), zf_X6_gainOf_4 a_1 u n x_2 x_3 = some (o_2, o_3) → z_C (zm_W cI cJ q) (zm_G tp) D cI cJ A s u H locs → lv_has ls 4 [(0, .ref (q 0)), (1, .int a_1), (2, .int x_2), (3, .int x_3)] → (∀ (H : Heap) (locs : List Loc) (ls : Array Slot), z_C (zm_W cI cJ q) (zm_G tp) D cI cJ A s u H locs → lv_has ls 4 [(0, .ref (q 0)), (1, .int a_1), (2, .int o_2), (3, .int o_3)] → W p l e zr_X6_gainOf s m args below meth c H locs 0 0 Q (F0 m 75 ls [])) → W p l e zr_X6_gainOf s m args below meth c H locs 0 0 Q (F0 m 4 ls []) := by
  have hx := E.1
  have hb := E.2.1
  have hml := E.2.2.1
  have hown := E.2.2.2.1
  have hts := E.2.2.2.2
  intro n
  induction n with
  | zero =>
    intro x_2 x_3 H locs ls o_2 o_3 hf
    rw [zf_X6_gainOf_4.eq_1] at hf
    cases hf
  | succ n ih =>
    intro x_2 x_3 H locs ls o_2 o_3 hf hC hl kk
    rw [zf_X6_gainOf_4.eq_2] at hf
    have kf137 := hts (.fieldLink RX6 137 "DawnFairModel" "sales" "I") (by decide +kernel)
    have kf56 := hts (.fieldLink RX6 56 "DawnFairModel" "stands" "[I") (by decide +kernel)
    have kf41 := hts (.fieldLink RX6 41 "DawnFairModel" "seller" "[I") (by decide +kernel)
    have kf44 := hts (.fieldLink RX6 44 "DawnFairModel" "buyer" "[I") (by decide +kernel)
    have kf47 := hts (.fieldLink RX6 47 "DawnFairModel" "price" "[I") (by decide +kernel)
    refine lv_iload_n hx hb dX6_gainOf_4 rfl (lv_at hl 3 rfl) ?_
    refine lv_aload_n hx hb dX6_gainOf_5 rfl (lv_at hl 0 rfl) ?_
    refine zm_gX6_sales hx hb hts zi_X6_gainOf hown hC kf137 dX6_gainOf_6 ?_
    refine lv_icmp_ge (tgt := 75) hx hb dX6_gainOf_9 (by decide) (fun c1 => ?_) (fun c1 => ?_)
    · have hf := z_t hf c1
      cases hf
      exact kk _ _ _ hC (lv_sub hl [0, 1, 2, 3] rfl)
    · have hf := z_f hf c1
      refine lv_iload_n hx hb dX6_gainOf_12 rfl (lv_at hl 2 rfl) ?_
      refine lv_aload_n hx hb dX6_gainOf_13 rfl (lv_at hl 0 rfl) ?_
      refine zm_gX6_stands hx hb hts zi_X6_gainOf hown hC kf56 dX6_gainOf_14 ?_
      refine lv_iload_n hx hb dX6_gainOf_17 rfl (lv_at hl 3 rfl) ?_
      obtain ⟨h2, hf⟩ := z_gd_s hf
      refine zm_aX6_stands hx hb hC (z_in h2) dX6_gainOf_18 ?_
      refine lv_if_ne (tgt := 26) hx hb dX6_gainOf_19 (by decide) (fun c3 => ?_) (fun c3 => ?_)
      · have hf := z_f hf c3
        refine lv_aload_n hx hb dX6_gainOf_26 rfl (lv_at hl 0 rfl) ?_
        refine zm_gX6_seller hx hb hts zi_X6_gainOf hown hC kf41 dX6_gainOf_27 ?_
        refine lv_iload_n hx hb dX6_gainOf_30 rfl (lv_at hl 3 rfl) ?_
        obtain ⟨h4, hf⟩ := z_gd_s hf
        refine zm_aX6_seller hx hb hC (z_in h4) dX6_gainOf_31 ?_
        refine lv_iload_n hx hb dX6_gainOf_32 rfl (lv_at hl 1 rfl) ?_
        refine lv_icmp_ne (tgt := 45) hx hb dX6_gainOf_33 (by decide) (fun c5 => ?_) (fun c5 => ?_)
        · have hf := z_f hf c5
          refine lv_aload_n hx hb dX6_gainOf_45 rfl (lv_at hl 0 rfl) ?_
          refine zm_gX6_buyer hx hb hts zi_X6_gainOf hown hC kf44 dX6_gainOf_46 ?_
          refine lv_iload_n hx hb dX6_gainOf_49 rfl (lv_at hl 3 rfl) ?_
          obtain ⟨h6, hf⟩ := z_gd_s hf
          refine zm_aX6_buyer hx hb hC (z_in h6) dX6_gainOf_50 ?_
          refine lv_iload_n hx hb dX6_gainOf_51 rfl (lv_at hl 1 rfl) ?_
          refine lv_icmp_ne (tgt := 66) hx hb dX6_gainOf_52 (by decide) (fun c7 => ?_) (fun c7 => ?_)
          · have hf := z_f hf c7
            refine lv_iconst (v := (0 : Int32)) hx hb dX6_gainOf_66 (by decide) ?_
            refine lv_iadd hx hb dX6_gainOf_67 ?_
            refine lv_topi (fun x8 ex8 => ?_)
            have hf := z_nm_s hf ex8
            refine lv_istore_n (lv' := [(2, _), (0, _), (1, _), (3, _)]) hx hb dX6_gainOf_68 rfl hl (by decide) rfl (fun ls hl => ?_)
            obtain ⟨x9, ex9⟩ : ∃ z : Int32, z = (x_3 + (1 : Int32)) := ⟨_, rfl⟩
            have hf := z_nm_s hf ex9
            refine lv_iinc (v := x9) (lv' := [(3, _), (2, _), (0, _), (1, _)]) hx hb dX6_gainOf_69 hl (k := 3) rfl (by rw [ex9]; rfl) (by decide) rfl (fun ls hl => ?_)
            refine lv_goto (tgt := 4) hx hb dX6_gainOf_72 (by decide) ?_
            exact ih x8 x9 _ _ _ _ _ hf hC (lv_sub hl [2, 3, 1, 0] rfl) kk
          · have hf := z_t hf c7
            refine lv_iconst (v := (0 : Int32)) hx hb dX6_gainOf_55 (by decide) ?_
            refine lv_aload_n hx hb dX6_gainOf_56 rfl (lv_at hl 0 rfl) ?_
            refine zm_gX6_price hx hb hts zi_X6_gainOf hown hC kf47 dX6_gainOf_57 ?_
            refine lv_iload_n hx hb dX6_gainOf_60 rfl (lv_at hl 3 rfl) ?_
            obtain ⟨h10, hf⟩ := z_gd_s hf
            refine zm_aX6_price hx hb hC (z_in h10) dX6_gainOf_61 ?_
            refine lv_isub hx hb dX6_gainOf_62 ?_
            refine lv_goto (tgt := 67) hx hb dX6_gainOf_63 (by decide) ?_
            refine lv_iadd hx hb dX6_gainOf_67 ?_
            refine lv_topi (fun x11 ex11 => ?_)
            have hf := z_nm_s hf ex11
            refine lv_istore_n (lv' := [(2, _), (0, _), (1, _), (3, _)]) hx hb dX6_gainOf_68 rfl hl (by decide) rfl (fun ls hl => ?_)
            obtain ⟨x12, ex12⟩ : ∃ z : Int32, z = (x_3 + (1 : Int32)) := ⟨_, rfl⟩
            have hf := z_nm_s hf ex12
            refine lv_iinc (v := x12) (lv' := [(3, _), (2, _), (0, _), (1, _)]) hx hb dX6_gainOf_69 hl (k := 3) rfl (by rw [ex12]; rfl) (by decide) rfl (fun ls hl => ?_)
            refine lv_goto (tgt := 4) hx hb dX6_gainOf_72 (by decide) ?_
            exact ih x11 x12 _ _ _ _ _ hf hC (lv_sub hl [2, 3, 1, 0] rfl) kk
        · have hf := z_t hf c5
          refine lv_aload_n hx hb dX6_gainOf_36 rfl (lv_at hl 0 rfl) ?_
          refine zm_gX6_price hx hb hts zi_X6_gainOf hown hC kf47 dX6_gainOf_37 ?_
          refine lv_iload_n hx hb dX6_gainOf_40 rfl (lv_at hl 3 rfl) ?_
          obtain ⟨h13, hf⟩ := z_gd_s hf
          refine zm_aX6_price hx hb hC (z_in h13) dX6_gainOf_41 ?_
          refine lv_goto (tgt := 67) hx hb dX6_gainOf_42 (by decide) ?_
          refine lv_iadd hx hb dX6_gainOf_67 ?_
          refine lv_topi (fun x14 ex14 => ?_)
          have hf := z_nm_s hf ex14
          refine lv_istore_n (lv' := [(2, _), (0, _), (1, _), (3, _)]) hx hb dX6_gainOf_68 rfl hl (by decide) rfl (fun ls hl => ?_)
          obtain ⟨x15, ex15⟩ : ∃ z : Int32, z = (x_3 + (1 : Int32)) := ⟨_, rfl⟩
          have hf := z_nm_s hf ex15
          refine lv_iinc (v := x15) (lv' := [(3, _), (2, _), (0, _), (1, _)]) hx hb dX6_gainOf_69 hl (k := 3) rfl (by rw [ex15]; rfl) (by decide) rfl (fun ls hl => ?_)
          refine lv_goto (tgt := 4) hx hb dX6_gainOf_72 (by decide) ?_
          exact ih x14 x15 _ _ _ _ _ hf hC (lv_sub hl [2, 3, 1, 0] rfl) kk
      · have hf := z_t hf c3
        refine lv_iconst (v := (0 : Int32)) hx hb dX6_gainOf_22 (by decide) ?_
        refine lv_goto (tgt := 67) hx hb dX6_gainOf_23 (by decide) ?_
        refine lv_iadd hx hb dX6_gainOf_67 ?_
        refine lv_topi (fun x16 ex16 => ?_)
        have hf := z_nm_s hf ex16
        refine lv_istore_n (lv' := [(2, _), (0, _), (1, _), (3, _)]) hx hb dX6_gainOf_68 rfl hl (by decide) rfl (fun ls hl => ?_)
        obtain ⟨x17, ex17⟩ : ∃ z : Int32, z = (x_3 + (1 : Int32)) := ⟨_, rfl⟩
        have hf := z_nm_s hf ex17
        refine lv_iinc (v := x17) (lv' := [(3, _), (2, _), (0, _), (1, _)]) hx hb dX6_gainOf_69 hl (k := 3) rfl (by rw [ex17]; rfl) (by decide) rfl (fun ls hl => ?_)
        refine lv_goto (tgt := 4) hx hb dX6_gainOf_72 (by decide) ?_
        exact ih x16 x17 _ _ _ _ _ hf hC (lv_sub hl [2, 3, 1, 0] rfl) kk
set_option maxHeartbeats 4000000 in
set_option maxRecDepth 100000 in
theorem zc_X6_gainOf (l : Launch) (D : va_G) (cI cJ : ClassId) (tp : Nat) (q : Nat → Nat) (u : z_St) (a_1 : Int32) {r : Int32} (hf : zf_X6_gainOf u a_1 = some r) : z_Mi l yX6_gainOf wsX6_gainOf zr_X6_gainOf (zm_W cI cJ q) (zm_G tp) D cI cJ [.ref (q 0), .int a_1] u r u := by
  refine z_ofi (cc := cX6_gainOf) (maxL := 4) (ret := (some .int)) zm_Gok (by decide) rfl (Nat.le_of_ble_eq_true rfl) ?_
  intro A p e s m args below meth c ls E hr hlk hC hl
  have E : CallFix p m c cX6_gainOf 4 s args wsX6_gainOf RX6 := E
  have hx := E.1
  have hb := E.2.1
  have hml := E.2.2.1
  have hown := E.2.2.2.1
  have hts := E.2.2.2.2
  have hl : lv_has ls 4 [(0, .ref (q 0)), (1, .int a_1)] := hl
  unfold zf_X6_gainOf at hf
  refine lv_iconst (v := (0 : Int32)) hx hb dX6_gainOf_0 (by decide) ?_
  refine lv_istore_n (lv' := [(2, _), (0, _), (1, _)]) hx hb dX6_gainOf_1 rfl hl (by decide) rfl (fun ls hl => ?_)
  refine lv_iconst (v := (0 : Int32)) hx hb dX6_gainOf_2 (by decide) ?_
  refine lv_istore_n (lv' := [(3, _), (2, _), (0, _), (1, _)]) hx hb dX6_gainOf_3 rfl hl (by decide) rfl (fun ls hl => ?_)
  obtain ⟨y1, y2, py1, hf⟩ := z_bd2_s hf
  refine zl_X6_gainOf_4 E a_1 u 5000 (0 : Int32) (0 : Int32) _ _ _ _ _ py1 hC (lv_sub hl [2, 3, 1, 0] rfl) (fun H locs ls hC hl => ?_)
  refine lv_iload_n hx hb dX6_gainOf_75 rfl (lv_at hl 2 rfl) ?_
  exact z_reti hx hb hr hlk hC (Option.some.inj hf) rfl dX6_gainOf_76
abbrev zr_X6_gain : Room := { frames := 2, cells := 0, slots := 0, locals := 45 }
theorem zd_X6_gain : yX6_gain.cls ≠ "java/lang/invoke/MethodHandle" ∧ yX6_gain.cls ≠ "java/lang/invoke/VarHandle" ∧ (parseMethodDescriptor yX6_gain.desc).map (fun d => d.parameters.length) = some 1 := by decide +kernel
theorem zi_X6_gain : ∀ w ∈ wsX60, w ∈ wsX6_gain := fun _ h => List.mem_cons_of_mem _ (List.mem_append_right _ h)
set_option maxHeartbeats 4000000 in
set_option maxRecDepth 100000 in
theorem zc_X6_gain (l : Launch) (D : va_G) (cI cJ : ClassId) (tp : Nat) (q : Nat → Nat) (u : z_St) (a_1 : Int32) {r : Int32} (hf : zf_X6_gain u a_1 = some r) : z_Mi l yX6_gain wsX6_gain zr_X6_gain (zm_W cI cJ q) (zm_G tp) D cI cJ [.ref (q 0), .int a_1] u r u := by
  refine z_ofi (cc := cX6_gain) (maxL := 2) (ret := (some .int)) zm_Gok (by decide) rfl (Nat.le_of_ble_eq_true rfl) ?_
  intro A p e s m args below meth c ls E hr hlk hC hl
  have E : CallFix p m c cX6_gain 2 s args wsX6_gain RX6 := E
  have hx := E.1
  have hb := E.2.1
  have hml := E.2.2.1
  have hown := E.2.2.2.1
  have hts := E.2.2.2.2
  have hl : lv_has ls 2 [(0, .ref (q 0)), (1, .int a_1)] := hl
  unfold zf_X6_gain at hf
  have kc159 := hts (.constant RX6 159 (-2000000000)) (by decide +kernel)
  refine lv_iload_n hx hb dX6_gain_0 rfl (lv_at hl 1 rfl) ?_
  refine z_calli hC (z_runS (rest := []) zm_Gok hC E (zc_X6_isDealer l D cI cJ tp q u a_1 rfl _) (va_cwS 1 hts gX6_gain_X6_isDealer rfl rfl rfl zd_X6_isDealer ⟨Nat.le_of_ble_eq_true rfl, Nat.le_of_ble_eq_true rfl⟩) rfl hl.1 rfl (Nat.le_of_ble_eq_true rfl) dX6_gain_1 ⟨Nat.zero_le _, Nat.zero_le _⟩) (fun H locs hC => ?_)
  refine lv_if_eq (tgt := 15) hx hb dX6_gain_4 (by decide) (fun c1 => ?_) (fun c1 => ?_)
  · have hf := z_t hf c1
    refine lv_ldc (own := RX6) (v := (-2000000000 : Int32)) hx hb hown kc159 dX6_gain_15 ?_
    exact z_reti hx hb hr hlk hC (Option.some.inj hf) rfl dX6_gain_17
  · have hf := z_f hf c1
    refine lv_aload_n hx hb dX6_gain_7 rfl (lv_at hl 0 rfl) ?_
    refine lv_iload_n hx hb dX6_gain_8 rfl (lv_at hl 1 rfl) ?_
    obtain ⟨r2, pr2, hf⟩ := z_bd_s hf
    refine z_calli hC (z_runV (rest := []) zm_Gok hC E (zc_X6_gainOf l D cI cJ tp q u a_1 pr2 _) (cwV 1 hts gX6_gain_X6_gainOf rfl rfl rfl ⟨rfl, zd_X6_gainOf⟩ ⟨Nat.le_of_ble_eq_true rfl, Nat.le_of_ble_eq_true rfl⟩) (zm_rcX6 hC) rfl hl.1 rfl (Nat.le_of_ble_eq_true rfl) dX6_gain_9 ⟨Nat.zero_le _, Nat.zero_le _⟩) (fun H locs hC => ?_)
    refine lv_goto (tgt := 17) hx hb dX6_gain_12 (by decide) ?_
    exact z_reti hx hb hr hlk hC (Option.some.inj hf) rfl dX6_gain_17
abbrev zr_X6_rose : Room := { frames := 2, cells := 0, slots := 0, locals := 46 }
theorem zd_X6_rose : yX6_rose.cls ≠ "java/lang/invoke/MethodHandle" ∧ yX6_rose.cls ≠ "java/lang/invoke/VarHandle" ∧ (parseMethodDescriptor yX6_rose.desc).map (fun d => d.parameters.length) = some 1 := by decide +kernel
theorem zi_X6_rose : ∀ w ∈ wsX60, w ∈ wsX6_rose := fun _ h => List.mem_cons_of_mem _ (List.mem_append_right _ h)
set_option maxHeartbeats 4000000 in
set_option maxRecDepth 100000 in
theorem zl_X6_rose_18 (E : CallFix p m c cX6_rose 5 s args wsX6_rose RX6) (a_1 : Int32) (u : z_St) : ∀ (n : Nat) (x_2 : Int32) (x_3 : Int32) (x_4 : Int32) (H : Heap) (locs : List Loc) (ls : Array Slot) (o_2 : Int32) (o_3 : Int32) (o_4 : Int32), zf_X6_rose_18 a_1 u n x_2 x_3 x_4 = some (o_2, o_3, o_4) → z_C (zm_W cI cJ q) (zm_G tp) D cI cJ A s u H locs → lv_has ls 5 [(0, .ref (q 0)), (1, .int a_1), (2, .int x_2), (3, .int x_3), (4, .int x_4)] → (∀ (H : Heap) (locs : List Loc) (ls : Array Slot), z_C (zm_W cI cJ q) (zm_G tp) D cI cJ A s u H locs → lv_has ls 5 [(0, .ref (q 0)), (1, .int a_1), (2, .int o_2), (3, .int o_3), (4, .int o_4)] → W p l e zr_X6_rose s m args below meth c H locs 0 0 Q (F0 m 69 ls [])) → W p l e zr_X6_rose s m args below meth c H locs 0 0 Q (F0 m 18 ls []) := by
  have hx := E.1
  have hb := E.2.1
  have hml := E.2.2.1
  have hown := E.2.2.2.1
  have hts := E.2.2.2.2
  intro n
  induction n with
  | zero =>
    intro x_2 x_3 x_4 H locs ls o_2 o_3 o_4 hf
    rw [zf_X6_rose_18.eq_1] at hf
    cases hf
  | succ n ih =>
    intro x_2 x_3 x_4 H locs ls o_2 o_3 o_4 hf hC hl kk
    rw [zf_X6_rose_18.eq_2] at hf
    have kf137 := hts (.fieldLink RX6 137 "DawnFairModel" "sales" "I") (by decide +kernel)
    have kf56 := hts (.fieldLink RX6 56 "DawnFairModel" "stands" "[I") (by decide +kernel)
    have kf38 := hts (.fieldLink RX6 38 "DawnFairModel" "saleThing" "[I") (by decide +kernel)
    refine lv_iload hx hb dX6_rose_18 (lv_at hl 4 rfl) ?_
    refine lv_aload_n hx hb dX6_rose_20 rfl (lv_at hl 0 rfl) ?_
    refine zm_gX6_sales hx hb hts zi_X6_rose hown hC kf137 dX6_rose_21 ?_
    refine lv_icmp_ge (tgt := 69) hx hb dX6_rose_24 (by decide) (fun c1 => ?_) (fun c1 => ?_)
    · have hf := z_t hf c1
      cases hf
      exact kk _ _ _ hC (lv_sub hl [0, 1, 2, 3, 4] rfl)
    · have hf := z_f hf c1
      refine lv_aload_n hx hb dX6_rose_27 rfl (lv_at hl 0 rfl) ?_
      refine zm_gX6_stands hx hb hts zi_X6_rose hown hC kf56 dX6_rose_28 ?_
      refine lv_iload hx hb dX6_rose_31 (lv_at hl 4 rfl) ?_
      obtain ⟨h2, hf⟩ := z_gd_s hf
      refine zm_aX6_stands hx hb hC (z_in h2) dX6_rose_33 ?_
      refine lv_iconst (v := (1 : Int32)) hx hb dX6_rose_34 (by decide) ?_
      refine lv_icmp_ne (tgt := 63) hx hb dX6_rose_35 (by decide) (fun c3 => ?_) (fun c3 => ?_)
      · have hf := z_f hf c3
        obtain ⟨x4, ex4⟩ : ∃ z : Int32, z = (x_4 + (1 : Int32)) := ⟨_, rfl⟩
        have hf := z_nm_s hf ex4
        refine lv_iinc (v := x4) (lv' := [(4, _), (0, _), (1, _), (2, _), (3, _)]) hx hb dX6_rose_63 hl (k := 4) rfl (by rw [ex4]; rfl) (by decide) rfl (fun ls hl => ?_)
        refine lv_goto (tgt := 18) hx hb dX6_rose_66 (by decide) ?_
        exact ih x_2 x_3 x4 _ _ _ _ _ _ hf hC (lv_sub hl [1, 2, 3, 4, 0] rfl) kk
      · have hf := z_t hf c3
        refine lv_aload_n hx hb dX6_rose_38 rfl (lv_at hl 0 rfl) ?_
        refine zm_gX6_saleThing hx hb hts zi_X6_rose hown hC kf38 dX6_rose_39 ?_
        refine lv_iload hx hb dX6_rose_42 (lv_at hl 4 rfl) ?_
        obtain ⟨h5, hf⟩ := z_gd_s hf
        refine zm_aX6_saleThing hx hb hC (z_in h5) dX6_rose_44 ?_
        refine lv_iload_n hx hb dX6_rose_45 rfl (lv_at hl 1 rfl) ?_
        refine lv_icmp_ne (tgt := 63) hx hb dX6_rose_46 (by decide) (fun c6 => ?_) (fun c6 => ?_)
        · have hf := z_f hf c6
          obtain ⟨x7, ex7⟩ : ∃ z : Int32, z = (x_4 + (1 : Int32)) := ⟨_, rfl⟩
          have hf := z_nm_s hf ex7
          refine lv_iinc (v := x7) (lv' := [(4, _), (0, _), (1, _), (2, _), (3, _)]) hx hb dX6_rose_63 hl (k := 4) rfl (by rw [ex7]; rfl) (by decide) rfl (fun ls hl => ?_)
          refine lv_goto (tgt := 18) hx hb dX6_rose_66 (by decide) ?_
          exact ih x_2 x_3 x7 _ _ _ _ _ _ hf hC (lv_sub hl [1, 2, 3, 4, 0] rfl) kk
        · have hf := z_t hf c6
          refine lv_iload_n hx hb dX6_rose_49 rfl (lv_at hl 2 rfl) ?_
          refine lv_if_ge (tgt := 58) hx hb dX6_rose_50 (by decide) (fun c8 => ?_) (fun c8 => ?_)
          · have hf := z_t hf c8
            refine lv_iload_n hx hb dX6_rose_58 rfl (lv_at hl 2 rfl) ?_
            refine lv_istore_n (lv' := [(2, _), (0, _), (1, _), (3, _), (4, _)]) hx hb dX6_rose_59 rfl hl (by decide) rfl (fun ls hl => ?_)
            refine lv_iload hx hb dX6_rose_60 (lv_at hl 4 rfl) ?_
            refine lv_istore_n (lv' := [(3, _), (2, _), (0, _), (1, _), (4, _)]) hx hb dX6_rose_62 rfl hl (by decide) rfl (fun ls hl => ?_)
            obtain ⟨x9, ex9⟩ : ∃ z : Int32, z = (x_4 + (1 : Int32)) := ⟨_, rfl⟩
            have hf := z_nm_s hf ex9
            refine lv_iinc (v := x9) (lv' := [(4, _), (3, _), (2, _), (0, _), (1, _)]) hx hb dX6_rose_63 hl (k := 4) rfl (by rw [ex9]; rfl) (by decide) rfl (fun ls hl => ?_)
            refine lv_goto (tgt := 18) hx hb dX6_rose_66 (by decide) ?_
            exact ih x_2 x_4 x9 _ _ _ _ _ _ hf hC (lv_sub hl [3, 4, 2, 1, 0] rfl) kk
          · have hf := z_f hf c8
            refine lv_iload hx hb dX6_rose_53 (lv_at hl 4 rfl) ?_
            refine lv_goto (tgt := 59) hx hb dX6_rose_55 (by decide) ?_
            refine lv_istore_n (lv' := [(2, _), (0, _), (1, _), (3, _), (4, _)]) hx hb dX6_rose_59 rfl hl (by decide) rfl (fun ls hl => ?_)
            refine lv_iload hx hb dX6_rose_60 (lv_at hl 4 rfl) ?_
            refine lv_istore_n (lv' := [(3, _), (2, _), (0, _), (1, _), (4, _)]) hx hb dX6_rose_62 rfl hl (by decide) rfl (fun ls hl => ?_)
            obtain ⟨x10, ex10⟩ : ∃ z : Int32, z = (x_4 + (1 : Int32)) := ⟨_, rfl⟩
            have hf := z_nm_s hf ex10
            refine lv_iinc (v := x10) (lv' := [(4, _), (3, _), (2, _), (0, _), (1, _)]) hx hb dX6_rose_63 hl (k := 4) rfl (by rw [ex10]; rfl) (by decide) rfl (fun ls hl => ?_)
            refine lv_goto (tgt := 18) hx hb dX6_rose_66 (by decide) ?_
            exact ih x_4 x_4 x10 _ _ _ _ _ _ hf hC (lv_sub hl [3, 4, 2, 1, 0] rfl) kk
set_option maxHeartbeats 4000000 in
set_option maxRecDepth 100000 in
theorem zc_X6_rose (l : Launch) (D : va_G) (cI cJ : ClassId) (tp : Nat) (q : Nat → Nat) (u : z_St) (a_1 : Int32) {r : Int32} (hf : zf_X6_rose u a_1 = some r) : z_Mi l yX6_rose wsX6_rose zr_X6_rose (zm_W cI cJ q) (zm_G tp) D cI cJ [.ref (q 0), .int a_1] u r u := by
  refine z_ofi (cc := cX6_rose) (maxL := 5) (ret := (some .int)) zm_Gok (by decide) rfl (Nat.le_of_ble_eq_true rfl) ?_
  intro A p e s m args below meth c ls E hr hlk hC hl
  have E : CallFix p m c cX6_rose 5 s args wsX6_rose RX6 := E
  have hx := E.1
  have hb := E.2.1
  have hml := E.2.2.1
  have hown := E.2.2.2.1
  have hts := E.2.2.2.2
  have hl : lv_has ls 5 [(0, .ref (q 0)), (1, .int a_1)] := hl
  unfold zf_X6_rose at hf
  have kf47 := hts (.fieldLink RX6 47 "DawnFairModel" "price" "[I") (by decide +kernel)
  have kc159 := hts (.constant RX6 159 (-2000000000)) (by decide +kernel)
  refine lv_aload_n hx hb dX6_rose_0 rfl (lv_at hl 0 rfl) ?_
  refine lv_iload_n hx hb dX6_rose_1 rfl (lv_at hl 1 rfl) ?_
  refine z_calli hC (z_runV (rest := []) zm_Gok hC E (zc_X6_noThing l D cI cJ tp q u a_1 rfl _) (cwV 1 hts gX6_rose_X6_noThing rfl rfl rfl ⟨rfl, zd_X6_noThing⟩ ⟨Nat.le_of_ble_eq_true rfl, Nat.le_of_ble_eq_true rfl⟩) (zm_rcX6 hC) rfl hl.1 rfl (Nat.le_of_ble_eq_true rfl) dX6_rose_2 ⟨Nat.zero_le _, Nat.zero_le _⟩) (fun H locs hC => ?_)
  refine lv_if_eq (tgt := 11) hx hb dX6_rose_5 (by decide) (fun c1 => ?_) (fun c1 => ?_)
  · have hf := z_t hf c1
    refine lv_iconst (v := (-1 : Int32)) hx hb dX6_rose_11 (by decide) ?_
    refine lv_istore_n (lv' := [(2, _), (0, _), (1, _)]) hx hb dX6_rose_12 rfl hl (by decide) rfl (fun ls hl => ?_)
    refine lv_iconst (v := (-1 : Int32)) hx hb dX6_rose_13 (by decide) ?_
    refine lv_istore_n (lv' := [(3, _), (2, _), (0, _), (1, _)]) hx hb dX6_rose_14 rfl hl (by decide) rfl (fun ls hl => ?_)
    refine lv_iconst (v := (0 : Int32)) hx hb dX6_rose_15 (by decide) ?_
    refine lv_istore (lv' := [(4, _), (3, _), (2, _), (0, _), (1, _)]) hx hb dX6_rose_16 hl (by decide) rfl (fun ls hl => ?_)
    obtain ⟨y2, y3, y4, py2, hf⟩ := z_bd3_s hf
    refine zl_X6_rose_18 E a_1 u 5000 (-1 : Int32) (-1 : Int32) (0 : Int32) _ _ _ _ _ _ py2 hC (lv_sub hl [3, 4, 2, 1, 0] rfl) (fun H locs ls hC hl => ?_)
    refine lv_iload_n hx hb dX6_rose_69 rfl (lv_at hl 2 rfl) ?_
    refine lv_if_ge (tgt := 77) hx hb dX6_rose_70 (by decide) (fun c5 => ?_) (fun c5 => ?_)
    · have hf := z_t hf c5
      refine lv_aload_n hx hb dX6_rose_77 rfl (lv_at hl 0 rfl) ?_
      refine zm_gX6_price hx hb hts zi_X6_rose hown hC kf47 dX6_rose_78 ?_
      refine lv_iload_n hx hb dX6_rose_81 rfl (lv_at hl 3 rfl) ?_
      obtain ⟨h6, hf⟩ := z_gd_s hf
      refine zm_aX6_price hx hb hC (z_in h6) dX6_rose_82 ?_
      refine lv_aload_n hx hb dX6_rose_83 rfl (lv_at hl 0 rfl) ?_
      refine zm_gX6_price hx hb hts zi_X6_rose hown hC kf47 dX6_rose_84 ?_
      refine lv_iload_n hx hb dX6_rose_87 rfl (lv_at hl 2 rfl) ?_
      obtain ⟨h7, hf⟩ := z_gd_s hf
      refine zm_aX6_price hx hb hC (z_in h7) dX6_rose_88 ?_
      refine lv_isub hx hb dX6_rose_89 ?_
      exact z_reti hx hb hr hlk hC (Option.some.inj hf) rfl dX6_rose_90
    · have hf := z_f hf c5
      refine lv_iconst (v := (0 : Int32)) hx hb dX6_rose_73 (by decide) ?_
      refine lv_goto (tgt := 90) hx hb dX6_rose_74 (by decide) ?_
      exact z_reti hx hb hr hlk hC (Option.some.inj hf) rfl dX6_rose_90
  · have hf := z_f hf c1
    refine lv_ldc (own := RX6) (v := (-2000000000 : Int32)) hx hb hown kc159 dX6_rose_8 ?_
    exact z_reti hx hb hr hlk hC (Option.some.inj hf) rfl dX6_rose_10
abbrev zr_X6_lot : Room := { frames := 2, cells := 0, slots := 0, locals := 45 }
theorem zd_X6_lot : yX6_lot.cls ≠ "java/lang/invoke/MethodHandle" ∧ yX6_lot.cls ≠ "java/lang/invoke/VarHandle" ∧ (parseMethodDescriptor yX6_lot.desc).map (fun d => d.parameters.length) = some 3 := by decide +kernel
theorem zi_X6_lot : ∀ w ∈ wsX60, w ∈ wsX6_lot := fun _ h => List.mem_cons_of_mem _ (List.mem_append_right _ h)
set_option maxHeartbeats 4000000 in
set_option maxRecDepth 100000 in
theorem zc_X6_lot (l : Launch) (D : va_G) (cI cJ : ClassId) (tp : Nat) (q : Nat → Nat) (u : z_St) (a_1 : Int32) (a_2 : Int32) (a_3 : Int32) {r : Int32} {u2 : z_St} (hf : zf_X6_lot u a_1 a_2 a_3 = some (r, u2)) : z_Mi l yX6_lot wsX6_lot zr_X6_lot (zm_W cI cJ q) (zm_G tp) D cI cJ [.ref (q 0), .int a_1, .int a_2, .int a_3] u r u2 := by
  refine z_ofi (cc := cX6_lot) (maxL := 4) (ret := (some .int)) zm_Gok (by decide) rfl (Nat.le_of_ble_eq_true rfl) ?_
  intro A p e s m args below meth c ls E hr hlk hC hl
  have E : CallFix p m c cX6_lot 4 s args wsX6_lot RX6 := E
  have hx := E.1
  have hb := E.2.1
  have hml := E.2.2.1
  have hown := E.2.2.2.1
  have hts := E.2.2.2.2
  have hl : lv_has ls 4 [(0, .ref (q 0)), (1, .int a_1), (2, .int a_2), (3, .int a_3)] := hl
  unfold zf_X6_lot at hf
  have kl160 := hts (.constantLong RX6 160 (255)) (by decide +kernel)
  have kf162 := hts (.fieldLink RX6 162 "DawnFairModel" "lots" "I") (by decide +kernel)
  have kf62 := hts (.fieldLink RX6 62 "DawnFairModel" "there" "[I") (by decide +kernel)
  have kf65 := hts (.fieldLink RX6 65 "DawnFairModel" "bid" "[I") (by decide +kernel)
  have kf68 := hts (.fieldLink RX6 68 "DawnFairModel" "won" "[I") (by decide +kernel)
  refine lv_iload_n hx hb dX6_lot_0 rfl (lv_at hl 1 rfl) ?_
  refine lv_i2l hx hb dX6_lot_1 rfl ?_
  refine lv_lconst (v := (0 : Int64)) hx hb dX6_lot_2 (by decide) ?_
  refine lv_ldc2 (own := RX6) (v := (255 : Int64)) hx hb hown kl160 dX6_lot_3 ?_
  refine z_calli hC (z_runS (rest := []) zm_Gok hC E (zc_X6_in l D cI cJ tp q u a_1.toInt64 (0 : Int64) (255 : Int64) rfl _) (va_cwS 3 hts gX6_lot_X6_in rfl rfl rfl zd_X6_in ⟨Nat.le_of_ble_eq_true rfl, Nat.le_of_ble_eq_true rfl⟩) rfl hl.1 rfl (Nat.le_of_ble_eq_true rfl) dX6_lot_6 ⟨Nat.zero_le _, Nat.zero_le _⟩) (fun H locs hC => ?_)
  refine lv_if_eq (tgt := 32) hx hb dX6_lot_9 (by decide) (fun c1 => ?_) (fun c1 => ?_)
  · have hf := z_t hf c1
    refine lv_bipush (v := (-2 : Int32)) hx hb dX6_lot_32 (by decide) ?_
    exact z_reti hx hb hr hlk hC (Prod.mk.inj (Option.some.inj hf)).1 (Prod.mk.inj (Option.some.inj hf)).2 dX6_lot_34
  · have hf := z_f hf c1
    refine lv_iload_n hx hb dX6_lot_12 rfl (lv_at hl 2 rfl) ?_
    refine lv_i2l hx hb dX6_lot_13 rfl ?_
    refine lv_lconst (v := (0 : Int64)) hx hb dX6_lot_14 (by decide) ?_
    refine lv_ldc2 (own := RX6) (v := (255 : Int64)) hx hb hown kl160 dX6_lot_15 ?_
    refine z_calli hC (z_runS (rest := []) zm_Gok hC E (zc_X6_in l D cI cJ tp q u a_2.toInt64 (0 : Int64) (255 : Int64) rfl _) (va_cwS 3 hts gX6_lot_X6_in rfl rfl rfl zd_X6_in ⟨Nat.le_of_ble_eq_true rfl, Nat.le_of_ble_eq_true rfl⟩) rfl hl.1 rfl (Nat.le_of_ble_eq_true rfl) dX6_lot_18 ⟨Nat.zero_le _, Nat.zero_le _⟩) (fun H locs hC => ?_)
    refine lv_if_eq (tgt := 32) hx hb dX6_lot_21 (by decide) (fun c2 => ?_) (fun c2 => ?_)
    · have hf := z_t hf c2
      refine lv_bipush (v := (-2 : Int32)) hx hb dX6_lot_32 (by decide) ?_
      exact z_reti hx hb hr hlk hC (Prod.mk.inj (Option.some.inj hf)).1 (Prod.mk.inj (Option.some.inj hf)).2 dX6_lot_34
    · have hf := z_f hf c2
      refine lv_iload_n hx hb dX6_lot_24 rfl (lv_at hl 2 rfl) ?_
      refine lv_iload_n hx hb dX6_lot_25 rfl (lv_at hl 1 rfl) ?_
      refine lv_iconst (v := (-1 : Int32)) hx hb dX6_lot_26 (by decide) ?_
      refine lv_ixor hx hb dX6_lot_27 ?_
      refine lv_iand hx hb dX6_lot_28 ?_
      refine lv_if_eq (tgt := 35) hx hb dX6_lot_29 (by decide) (fun c3 => ?_) (fun c3 => ?_)
      · have hf := z_t hf c3
        refine lv_iload_n hx hb dX6_lot_35 rfl (lv_at hl 2 rfl) ?_
        refine lv_if_ne (tgt := 47) hx hb dX6_lot_36 (by decide) (fun c4 => ?_) (fun c4 => ?_)
        · have hf := z_f hf c4
          refine lv_iload_n hx hb dX6_lot_47 rfl (lv_at hl 3 rfl) ?_
          refine z_calli hC (z_runS (rest := []) zm_Gok hC E (zc_X6_isDealer l D cI cJ tp q u a_3 rfl _) (va_cwS 1 hts gX6_lot_X6_isDealer rfl rfl rfl zd_X6_isDealer ⟨Nat.le_of_ble_eq_true rfl, Nat.le_of_ble_eq_true rfl⟩) rfl hl.1 rfl (Nat.le_of_ble_eq_true rfl) dX6_lot_48 ⟨Nat.zero_le _, Nat.zero_le _⟩) (fun H locs hC => ?_)
          refine lv_if_eq (tgt := 62) hx hb dX6_lot_51 (by decide) (fun c5 => ?_) (fun c5 => ?_)
          · have hf := z_t hf c5
            refine lv_bipush (v := (-2 : Int32)) hx hb dX6_lot_62 (by decide) ?_
            exact z_reti hx hb hr hlk hC (Prod.mk.inj (Option.some.inj hf)).1 (Prod.mk.inj (Option.some.inj hf)).2 dX6_lot_64
          · have hf := z_f hf c5
            refine lv_iload_n hx hb dX6_lot_54 rfl (lv_at hl 2 rfl) ?_
            refine lv_iload_n hx hb dX6_lot_55 rfl (lv_at hl 3 rfl) ?_
            refine lv_ishr hx hb dX6_lot_56 ?_
            refine lv_iconst (v := (1 : Int32)) hx hb dX6_lot_57 (by decide) ?_
            refine lv_iand hx hb dX6_lot_58 ?_
            refine lv_if_ne (tgt := 65) hx hb dX6_lot_59 (by decide) (fun c6 => ?_) (fun c6 => ?_)
            · have hf := z_f hf c6
              refine lv_aload_n hx hb dX6_lot_65 rfl (lv_at hl 0 rfl) ?_
              refine zm_gX6_lots hx hb hts zi_X6_lot hown hC kf162 dX6_lot_66 ?_
              refine lv_bipush (v := (40 : Int32)) hx hb dX6_lot_69 (by decide) ?_
              refine lv_icmp_ne (tgt := 77) hx hb dX6_lot_71 (by decide) (fun c7 => ?_) (fun c7 => ?_)
              · have hf := z_f hf c7
                refine lv_aload_n hx hb dX6_lot_77 rfl (lv_at hl 0 rfl) ?_
                refine zm_gX6_there hx hb hts zi_X6_lot hown hC kf62 dX6_lot_78 ?_
                refine lv_aload_n hx hb dX6_lot_81 rfl (lv_at hl 0 rfl) ?_
                refine zm_gX6_lots hx hb hts zi_X6_lot hown hC kf162 dX6_lot_82 ?_
                refine lv_iload_n hx hb dX6_lot_85 rfl (lv_at hl 1 rfl) ?_
                obtain ⟨h8, hf⟩ := z_gd_s hf
                refine zm_sX6_there hx hb hC (z_in h8) dX6_lot_86 (fun u9 eu9 H locs hC => ?_)
                have hf := z_nm_s hf eu9
                refine lv_aload_n hx hb dX6_lot_87 rfl (lv_at hl 0 rfl) ?_
                refine zm_gX6_bid hx hb hts zi_X6_lot hown hC kf65 dX6_lot_88 ?_
                refine lv_aload_n hx hb dX6_lot_91 rfl (lv_at hl 0 rfl) ?_
                refine zm_gX6_lots hx hb hts zi_X6_lot hown hC kf162 dX6_lot_92 ?_
                refine lv_iload_n hx hb dX6_lot_95 rfl (lv_at hl 2 rfl) ?_
                obtain ⟨h10, hf⟩ := z_gd_s hf
                refine zm_sX6_bid hx hb hC (z_in h10) dX6_lot_96 (fun u11 eu11 H locs hC => ?_)
                have hf := z_nm_s hf eu11
                refine lv_aload_n hx hb dX6_lot_97 rfl (lv_at hl 0 rfl) ?_
                refine zm_gX6_won hx hb hts zi_X6_lot hown hC kf68 dX6_lot_98 ?_
                refine lv_aload_n hx hb dX6_lot_101 rfl (lv_at hl 0 rfl) ?_
                refine zm_gX6_lots hx hb hts zi_X6_lot hown hC kf162 dX6_lot_102 ?_
                refine lv_iload_n hx hb dX6_lot_105 rfl (lv_at hl 3 rfl) ?_
                obtain ⟨h12, hf⟩ := z_gd_s hf
                refine zm_sX6_won hx hb hC (z_in h12) dX6_lot_106 (fun u13 eu13 H locs hC => ?_)
                have hf := z_nm_s hf eu13
                refine lv_aload_n hx hb dX6_lot_107 rfl (lv_at hl 0 rfl) ?_
                refine lv_dup hx hb dX6_lot_108 rfl ?_
                refine zm_gX6_lots hx hb hts zi_X6_lot hown hC kf162 dX6_lot_109 ?_
                refine lv_iconst (v := (1 : Int32)) hx hb dX6_lot_112 (by decide) ?_
                refine lv_iadd hx hb dX6_lot_113 ?_
                refine zm_pX6_lots hx hb hts zi_X6_lot hown hC kf162 dX6_lot_114 (fun u14 eu14 H locs hC => ?_)
                have hf := z_nm_s hf eu14
                refine lv_aload_n hx hb dX6_lot_117 rfl (lv_at hl 0 rfl) ?_
                refine zm_gX6_lots hx hb hts zi_X6_lot hown hC kf162 dX6_lot_118 ?_
                refine lv_iconst (v := (1 : Int32)) hx hb dX6_lot_121 (by decide) ?_
                refine lv_isub hx hb dX6_lot_122 ?_
                exact z_reti hx hb hr hlk hC (Prod.mk.inj (Option.some.inj hf)).1 (Prod.mk.inj (Option.some.inj hf)).2 dX6_lot_123
              · have hf := z_t hf c7
                refine lv_bipush (v := (-4 : Int32)) hx hb dX6_lot_74 (by decide) ?_
                exact z_reti hx hb hr hlk hC (Prod.mk.inj (Option.some.inj hf)).1 (Prod.mk.inj (Option.some.inj hf)).2 dX6_lot_76
            · have hf := z_t hf c6
              refine lv_bipush (v := (-2 : Int32)) hx hb dX6_lot_62 (by decide) ?_
              exact z_reti hx hb hr hlk hC (Prod.mk.inj (Option.some.inj hf)).1 (Prod.mk.inj (Option.some.inj hf)).2 dX6_lot_64
        · have hf := z_t hf c4
          refine lv_iload_n hx hb dX6_lot_39 rfl (lv_at hl 3 rfl) ?_
          refine lv_iconst (v := (-1 : Int32)) hx hb dX6_lot_40 (by decide) ?_
          refine lv_icmp_eq (tgt := 65) hx hb dX6_lot_41 (by decide) (fun c15 => ?_) (fun c15 => ?_)
          · have hf := z_t hf c15
            refine lv_aload_n hx hb dX6_lot_65 rfl (lv_at hl 0 rfl) ?_
            refine zm_gX6_lots hx hb hts zi_X6_lot hown hC kf162 dX6_lot_66 ?_
            refine lv_bipush (v := (40 : Int32)) hx hb dX6_lot_69 (by decide) ?_
            refine lv_icmp_ne (tgt := 77) hx hb dX6_lot_71 (by decide) (fun c16 => ?_) (fun c16 => ?_)
            · have hf := z_f hf c16
              refine lv_aload_n hx hb dX6_lot_77 rfl (lv_at hl 0 rfl) ?_
              refine zm_gX6_there hx hb hts zi_X6_lot hown hC kf62 dX6_lot_78 ?_
              refine lv_aload_n hx hb dX6_lot_81 rfl (lv_at hl 0 rfl) ?_
              refine zm_gX6_lots hx hb hts zi_X6_lot hown hC kf162 dX6_lot_82 ?_
              refine lv_iload_n hx hb dX6_lot_85 rfl (lv_at hl 1 rfl) ?_
              obtain ⟨h17, hf⟩ := z_gd_s hf
              refine zm_sX6_there hx hb hC (z_in h17) dX6_lot_86 (fun u18 eu18 H locs hC => ?_)
              have hf := z_nm_s hf eu18
              refine lv_aload_n hx hb dX6_lot_87 rfl (lv_at hl 0 rfl) ?_
              refine zm_gX6_bid hx hb hts zi_X6_lot hown hC kf65 dX6_lot_88 ?_
              refine lv_aload_n hx hb dX6_lot_91 rfl (lv_at hl 0 rfl) ?_
              refine zm_gX6_lots hx hb hts zi_X6_lot hown hC kf162 dX6_lot_92 ?_
              refine lv_iload_n hx hb dX6_lot_95 rfl (lv_at hl 2 rfl) ?_
              obtain ⟨h19, hf⟩ := z_gd_s hf
              refine zm_sX6_bid hx hb hC (z_in h19) dX6_lot_96 (fun u20 eu20 H locs hC => ?_)
              have hf := z_nm_s hf eu20
              refine lv_aload_n hx hb dX6_lot_97 rfl (lv_at hl 0 rfl) ?_
              refine zm_gX6_won hx hb hts zi_X6_lot hown hC kf68 dX6_lot_98 ?_
              refine lv_aload_n hx hb dX6_lot_101 rfl (lv_at hl 0 rfl) ?_
              refine zm_gX6_lots hx hb hts zi_X6_lot hown hC kf162 dX6_lot_102 ?_
              refine lv_iload_n hx hb dX6_lot_105 rfl (lv_at hl 3 rfl) ?_
              obtain ⟨h21, hf⟩ := z_gd_s hf
              refine zm_sX6_won hx hb hC (z_in h21) dX6_lot_106 (fun u22 eu22 H locs hC => ?_)
              have hf := z_nm_s hf eu22
              refine lv_aload_n hx hb dX6_lot_107 rfl (lv_at hl 0 rfl) ?_
              refine lv_dup hx hb dX6_lot_108 rfl ?_
              refine zm_gX6_lots hx hb hts zi_X6_lot hown hC kf162 dX6_lot_109 ?_
              refine lv_iconst (v := (1 : Int32)) hx hb dX6_lot_112 (by decide) ?_
              refine lv_iadd hx hb dX6_lot_113 ?_
              refine zm_pX6_lots hx hb hts zi_X6_lot hown hC kf162 dX6_lot_114 (fun u23 eu23 H locs hC => ?_)
              have hf := z_nm_s hf eu23
              refine lv_aload_n hx hb dX6_lot_117 rfl (lv_at hl 0 rfl) ?_
              refine zm_gX6_lots hx hb hts zi_X6_lot hown hC kf162 dX6_lot_118 ?_
              refine lv_iconst (v := (1 : Int32)) hx hb dX6_lot_121 (by decide) ?_
              refine lv_isub hx hb dX6_lot_122 ?_
              exact z_reti hx hb hr hlk hC (Prod.mk.inj (Option.some.inj hf)).1 (Prod.mk.inj (Option.some.inj hf)).2 dX6_lot_123
            · have hf := z_t hf c16
              refine lv_bipush (v := (-4 : Int32)) hx hb dX6_lot_74 (by decide) ?_
              exact z_reti hx hb hr hlk hC (Prod.mk.inj (Option.some.inj hf)).1 (Prod.mk.inj (Option.some.inj hf)).2 dX6_lot_76
          · have hf := z_f hf c15
            refine lv_goto (tgt := 62) hx hb dX6_lot_44 (by decide) ?_
            refine lv_bipush (v := (-2 : Int32)) hx hb dX6_lot_62 (by decide) ?_
            exact z_reti hx hb hr hlk hC (Prod.mk.inj (Option.some.inj hf)).1 (Prod.mk.inj (Option.some.inj hf)).2 dX6_lot_64
      · have hf := z_f hf c3
        refine lv_bipush (v := (-2 : Int32)) hx hb dX6_lot_32 (by decide) ?_
        exact z_reti hx hb hr hlk hC (Prod.mk.inj (Option.some.inj hf)).1 (Prod.mk.inj (Option.some.inj hf)).2 dX6_lot_34
abbrev zr_X6_findBoth : Room := { frames := 0, cells := 0, slots := 0, locals := 0 }
theorem zd_X6_findBoth : yX6_findBoth.cls ≠ "java/lang/invoke/MethodHandle" ∧ yX6_findBoth.cls ≠ "java/lang/invoke/VarHandle" ∧ (parseMethodDescriptor yX6_findBoth.desc).map (fun d => d.parameters.length) = some 2 := by decide +kernel
theorem zi_X6_findBoth : ∀ w ∈ wsX60, w ∈ wsX6_findBoth := fun _ h => List.mem_cons_of_mem _ (List.mem_append_right _ h)
set_option maxHeartbeats 4000000 in
set_option maxRecDepth 100000 in
theorem zl_X6_findBoth_22 (E : CallFix p m c cX6_findBoth 4 s args wsX6_findBoth RX6) (a_1 : Int32) (a_2 : Int32) : ∀ (n : Nat) (x_3 : Int32) (u : z_St) (H : Heap) (locs : List Loc) (ls : Array Slot) (o_3 : Int32) (ou : z_St), zf_X6_findBoth_22 a_1 a_2 n x_3 u = some (o_3, ou) → z_C (zm_W cI cJ q) (zm_G tp) D cI cJ A s u H locs → lv_has ls 4 [(0, .ref (q 0)), (1, .int a_1), (2, .int a_2), (3, .int x_3)] → (∀ (H : Heap) (locs : List Loc) (ls : Array Slot), z_C (zm_W cI cJ q) (zm_G tp) D cI cJ A s ou H locs → lv_has ls 4 [(0, .ref (q 0)), (1, .int a_1), (2, .int a_2), (3, .int o_3)] → W p l e zr_X6_findBoth s m args below meth c H locs 0 0 Q (F0 m 140 ls [])) → W p l e zr_X6_findBoth s m args below meth c H locs 0 0 Q (F0 m 22 ls []) := by
  have hx := E.1
  have hb := E.2.1
  have hml := E.2.2.1
  have hown := E.2.2.2.1
  have hts := E.2.2.2.2
  intro n
  induction n with
  | zero =>
    intro x_3 u H locs ls o_3 ou hf
    rw [zf_X6_findBoth_22.eq_1] at hf
    cases hf
  | succ n ih =>
    intro x_3 u H locs ls o_3 ou hf hC hl kk
    rw [zf_X6_findBoth_22.eq_2] at hf
    have kf162 := hts (.fieldLink RX6 162 "DawnFairModel" "lots" "I") (by decide +kernel)
    have kf62 := hts (.fieldLink RX6 62 "DawnFairModel" "there" "[I") (by decide +kernel)
    have kf165 := hts (.fieldLink RX6 165 "DawnFairModel" "both" "I") (by decide +kernel)
    have kf168 := hts (.fieldLink RX6 168 "DawnFairModel" "bidOne" "I") (by decide +kernel)
    have kf65 := hts (.fieldLink RX6 65 "DawnFairModel" "bid" "[I") (by decide +kernel)
    have kf171 := hts (.fieldLink RX6 171 "DawnFairModel" "bidOther" "I") (by decide +kernel)
    have kf174 := hts (.fieldLink RX6 174 "DawnFairModel" "bidBoth" "I") (by decide +kernel)
    refine lv_iload_n hx hb dX6_findBoth_22 rfl (lv_at hl 3 rfl) ?_
    refine lv_aload_n hx hb dX6_findBoth_23 rfl (lv_at hl 0 rfl) ?_
    refine zm_gX6_lots hx hb hts zi_X6_findBoth hown hC kf162 dX6_findBoth_24 ?_
    refine lv_icmp_ge (tgt := 140) hx hb dX6_findBoth_27 (by decide) (fun c1 => ?_) (fun c1 => ?_)
    · have hf := z_t hf c1
      cases hf
      exact kk _ _ _ hC (lv_sub hl [0, 1, 2, 3] rfl)
    · have hf := z_f hf c1
      refine lv_aload_n hx hb dX6_findBoth_30 rfl (lv_at hl 0 rfl) ?_
      refine zm_gX6_there hx hb hts zi_X6_findBoth hown hC kf62 dX6_findBoth_31 ?_
      refine lv_iload_n hx hb dX6_findBoth_34 rfl (lv_at hl 3 rfl) ?_
      obtain ⟨h2, hf⟩ := z_gd_s hf
      refine zm_aX6_there hx hb hC (z_in h2) dX6_findBoth_35 ?_
      refine lv_iload_n hx hb dX6_findBoth_36 rfl (lv_at hl 1 rfl) ?_
      refine lv_ishr hx hb dX6_findBoth_37 ?_
      refine lv_iconst (v := (1 : Int32)) hx hb dX6_findBoth_38 (by decide) ?_
      refine lv_iand hx hb dX6_findBoth_39 ?_
      refine lv_iconst (v := (1 : Int32)) hx hb dX6_findBoth_40 (by decide) ?_
      refine lv_icmp_ne (tgt := 134) hx hb dX6_findBoth_41 (by decide) (fun c3 => ?_) (fun c3 => ?_)
      · have hf := z_f hf c3
        obtain ⟨x4, ex4⟩ : ∃ z : Int32, z = (x_3 + (1 : Int32)) := ⟨_, rfl⟩
        have hf := z_nm_s hf ex4
        refine lv_iinc (v := x4) (lv' := [(3, _), (0, _), (1, _), (2, _)]) hx hb dX6_findBoth_134 hl (k := 3) rfl (by rw [ex4]; rfl) (by decide) rfl (fun ls hl => ?_)
        refine lv_goto (tgt := 22) hx hb dX6_findBoth_137 (by decide) ?_
        exact ih x4 u _ _ _ _ _ hf hC (lv_sub hl [1, 2, 3, 0] rfl) kk
      · have hf := z_t hf c3
        refine lv_aload_n hx hb dX6_findBoth_44 rfl (lv_at hl 0 rfl) ?_
        refine zm_gX6_there hx hb hts zi_X6_findBoth hown hC kf62 dX6_findBoth_45 ?_
        refine lv_iload_n hx hb dX6_findBoth_48 rfl (lv_at hl 3 rfl) ?_
        obtain ⟨h5, hf⟩ := z_gd_s hf
        refine zm_aX6_there hx hb hC (z_in h5) dX6_findBoth_49 ?_
        refine lv_iload_n hx hb dX6_findBoth_50 rfl (lv_at hl 2 rfl) ?_
        refine lv_ishr hx hb dX6_findBoth_51 ?_
        refine lv_iconst (v := (1 : Int32)) hx hb dX6_findBoth_52 (by decide) ?_
        refine lv_iand hx hb dX6_findBoth_53 ?_
        refine lv_iconst (v := (1 : Int32)) hx hb dX6_findBoth_54 (by decide) ?_
        refine lv_icmp_ne (tgt := 134) hx hb dX6_findBoth_55 (by decide) (fun c6 => ?_) (fun c6 => ?_)
        · have hf := z_f hf c6
          obtain ⟨x7, ex7⟩ : ∃ z : Int32, z = (x_3 + (1 : Int32)) := ⟨_, rfl⟩
          have hf := z_nm_s hf ex7
          refine lv_iinc (v := x7) (lv' := [(3, _), (0, _), (1, _), (2, _)]) hx hb dX6_findBoth_134 hl (k := 3) rfl (by rw [ex7]; rfl) (by decide) rfl (fun ls hl => ?_)
          refine lv_goto (tgt := 22) hx hb dX6_findBoth_137 (by decide) ?_
          exact ih x7 u _ _ _ _ _ hf hC (lv_sub hl [1, 2, 3, 0] rfl) kk
        · have hf := z_t hf c6
          refine lv_aload_n hx hb dX6_findBoth_58 rfl (lv_at hl 0 rfl) ?_
          refine lv_dup hx hb dX6_findBoth_59 rfl ?_
          refine zm_gX6_both hx hb hts zi_X6_findBoth hown hC kf165 dX6_findBoth_60 ?_
          refine lv_iconst (v := (1 : Int32)) hx hb dX6_findBoth_63 (by decide) ?_
          refine lv_iadd hx hb dX6_findBoth_64 ?_
          refine zm_pX6_both hx hb hts zi_X6_findBoth hown hC kf165 dX6_findBoth_65 (fun u8 eu8 H locs hC => ?_)
          have hf := z_nm_s hf eu8
          refine lv_aload_n hx hb dX6_findBoth_68 rfl (lv_at hl 0 rfl) ?_
          refine lv_dup hx hb dX6_findBoth_69 rfl ?_
          refine zm_gX6_bidOne hx hb hts zi_X6_findBoth hown hC kf168 dX6_findBoth_70 ?_
          refine lv_aload_n hx hb dX6_findBoth_73 rfl (lv_at hl 0 rfl) ?_
          refine zm_gX6_bid hx hb hts zi_X6_findBoth hown hC kf65 dX6_findBoth_74 ?_
          refine lv_iload_n hx hb dX6_findBoth_77 rfl (lv_at hl 3 rfl) ?_
          obtain ⟨h9, hf⟩ := z_gd_s hf
          refine zm_aX6_bid hx hb hC (z_in h9) dX6_findBoth_78 ?_
          refine lv_iload_n hx hb dX6_findBoth_79 rfl (lv_at hl 1 rfl) ?_
          refine lv_ishr hx hb dX6_findBoth_80 ?_
          refine lv_iconst (v := (1 : Int32)) hx hb dX6_findBoth_81 (by decide) ?_
          refine lv_iand hx hb dX6_findBoth_82 ?_
          refine lv_iadd hx hb dX6_findBoth_83 ?_
          refine zm_pX6_bidOne hx hb hts zi_X6_findBoth hown hC kf168 dX6_findBoth_84 (fun u10 eu10 H locs hC => ?_)
          have hf := z_nm_s hf eu10
          refine lv_aload_n hx hb dX6_findBoth_87 rfl (lv_at hl 0 rfl) ?_
          refine lv_dup hx hb dX6_findBoth_88 rfl ?_
          refine zm_gX6_bidOther hx hb hts zi_X6_findBoth hown hC kf171 dX6_findBoth_89 ?_
          refine lv_aload_n hx hb dX6_findBoth_92 rfl (lv_at hl 0 rfl) ?_
          refine zm_gX6_bid hx hb hts zi_X6_findBoth hown hC kf65 dX6_findBoth_93 ?_
          refine lv_iload_n hx hb dX6_findBoth_96 rfl (lv_at hl 3 rfl) ?_
          obtain ⟨h11, hf⟩ := z_gd_s hf
          refine zm_aX6_bid hx hb hC (z_in h11) dX6_findBoth_97 ?_
          refine lv_iload_n hx hb dX6_findBoth_98 rfl (lv_at hl 2 rfl) ?_
          refine lv_ishr hx hb dX6_findBoth_99 ?_
          refine lv_iconst (v := (1 : Int32)) hx hb dX6_findBoth_100 (by decide) ?_
          refine lv_iand hx hb dX6_findBoth_101 ?_
          refine lv_iadd hx hb dX6_findBoth_102 ?_
          refine zm_pX6_bidOther hx hb hts zi_X6_findBoth hown hC kf171 dX6_findBoth_103 (fun u12 eu12 H locs hC => ?_)
          have hf := z_nm_s hf eu12
          refine lv_aload_n hx hb dX6_findBoth_106 rfl (lv_at hl 0 rfl) ?_
          refine lv_dup hx hb dX6_findBoth_107 rfl ?_
          refine zm_gX6_bidBoth hx hb hts zi_X6_findBoth hown hC kf174 dX6_findBoth_108 ?_
          refine lv_aload_n hx hb dX6_findBoth_111 rfl (lv_at hl 0 rfl) ?_
          refine zm_gX6_bid hx hb hts zi_X6_findBoth hown hC kf65 dX6_findBoth_112 ?_
          refine lv_iload_n hx hb dX6_findBoth_115 rfl (lv_at hl 3 rfl) ?_
          obtain ⟨h13, hf⟩ := z_gd_s hf
          refine zm_aX6_bid hx hb hC (z_in h13) dX6_findBoth_116 ?_
          refine lv_iload_n hx hb dX6_findBoth_117 rfl (lv_at hl 1 rfl) ?_
          refine lv_ishr hx hb dX6_findBoth_118 ?_
          refine lv_aload_n hx hb dX6_findBoth_119 rfl (lv_at hl 0 rfl) ?_
          refine zm_gX6_bid hx hb hts zi_X6_findBoth hown hC kf65 dX6_findBoth_120 ?_
          refine lv_iload_n hx hb dX6_findBoth_123 rfl (lv_at hl 3 rfl) ?_
          obtain ⟨h14, hf⟩ := z_gd_s hf
          refine zm_aX6_bid hx hb hC (z_in h14) dX6_findBoth_124 ?_
          refine lv_iload_n hx hb dX6_findBoth_125 rfl (lv_at hl 2 rfl) ?_
          refine lv_ishr hx hb dX6_findBoth_126 ?_
          refine lv_iand hx hb dX6_findBoth_127 ?_
          refine lv_iconst (v := (1 : Int32)) hx hb dX6_findBoth_128 (by decide) ?_
          refine lv_iand hx hb dX6_findBoth_129 ?_
          refine lv_iadd hx hb dX6_findBoth_130 ?_
          refine zm_pX6_bidBoth hx hb hts zi_X6_findBoth hown hC kf174 dX6_findBoth_131 (fun u15 eu15 H locs hC => ?_)
          have hf := z_nm_s hf eu15
          obtain ⟨x16, ex16⟩ : ∃ z : Int32, z = (x_3 + (1 : Int32)) := ⟨_, rfl⟩
          have hf := z_nm_s hf ex16
          refine lv_iinc (v := x16) (lv' := [(3, _), (0, _), (1, _), (2, _)]) hx hb dX6_findBoth_134 hl (k := 3) rfl (by rw [ex16]; rfl) (by decide) rfl (fun ls hl => ?_)
          refine lv_goto (tgt := 22) hx hb dX6_findBoth_137 (by decide) ?_
          exact ih x16 u15 _ _ _ _ _ hf hC (lv_sub hl [1, 2, 3, 0] rfl) kk
set_option maxHeartbeats 4000000 in
set_option maxRecDepth 100000 in
theorem zc_X6_findBoth (l : Launch) (D : va_G) (cI cJ : ClassId) (tp : Nat) (q : Nat → Nat) (u : z_St) (a_1 : Int32) (a_2 : Int32) {u2 : z_St} (hf : zf_X6_findBoth u a_1 a_2 = some u2) : z_Mv l yX6_findBoth wsX6_findBoth zr_X6_findBoth (zm_W cI cJ q) (zm_G tp) D cI cJ [.ref (q 0), .int a_1, .int a_2] u u2 := by
  refine z_ofv (cc := cX6_findBoth) (maxL := 4) (ret := none) zm_Gok (by decide) rfl (Nat.le_of_ble_eq_true rfl) ?_
  intro A p e s m args below meth c ls E hr hlk hC hl
  have E : CallFix p m c cX6_findBoth 4 s args wsX6_findBoth RX6 := E
  have hx := E.1
  have hb := E.2.1
  have hml := E.2.2.1
  have hown := E.2.2.2.1
  have hts := E.2.2.2.2
  have hl : lv_has ls 4 [(0, .ref (q 0)), (1, .int a_1), (2, .int a_2)] := hl
  unfold zf_X6_findBoth at hf
  have kf165 := hts (.fieldLink RX6 165 "DawnFairModel" "both" "I") (by decide +kernel)
  have kf168 := hts (.fieldLink RX6 168 "DawnFairModel" "bidOne" "I") (by decide +kernel)
  have kf171 := hts (.fieldLink RX6 171 "DawnFairModel" "bidOther" "I") (by decide +kernel)
  have kf174 := hts (.fieldLink RX6 174 "DawnFairModel" "bidBoth" "I") (by decide +kernel)
  refine lv_aload_n hx hb dX6_findBoth_0 rfl (lv_at hl 0 rfl) ?_
  refine lv_iconst (v := (0 : Int32)) hx hb dX6_findBoth_1 (by decide) ?_
  refine zm_pX6_both hx hb hts zi_X6_findBoth hown hC kf165 dX6_findBoth_2 (fun u1 eu1 H locs hC => ?_)
  have hf := z_nm_s hf eu1
  refine lv_aload_n hx hb dX6_findBoth_5 rfl (lv_at hl 0 rfl) ?_
  refine lv_iconst (v := (0 : Int32)) hx hb dX6_findBoth_6 (by decide) ?_
  refine zm_pX6_bidOne hx hb hts zi_X6_findBoth hown hC kf168 dX6_findBoth_7 (fun u2 eu2 H locs hC => ?_)
  have hf := z_nm_s hf eu2
  refine lv_aload_n hx hb dX6_findBoth_10 rfl (lv_at hl 0 rfl) ?_
  refine lv_iconst (v := (0 : Int32)) hx hb dX6_findBoth_11 (by decide) ?_
  refine zm_pX6_bidOther hx hb hts zi_X6_findBoth hown hC kf171 dX6_findBoth_12 (fun u3 eu3 H locs hC => ?_)
  have hf := z_nm_s hf eu3
  refine lv_aload_n hx hb dX6_findBoth_15 rfl (lv_at hl 0 rfl) ?_
  refine lv_iconst (v := (0 : Int32)) hx hb dX6_findBoth_16 (by decide) ?_
  refine zm_pX6_bidBoth hx hb hts zi_X6_findBoth hown hC kf174 dX6_findBoth_17 (fun u4 eu4 H locs hC => ?_)
  have hf := z_nm_s hf eu4
  refine lv_iconst (v := (0 : Int32)) hx hb dX6_findBoth_20 (by decide) ?_
  refine lv_istore_n (lv' := [(3, _), (0, _), (1, _), (2, _)]) hx hb dX6_findBoth_21 rfl hl (by decide) rfl (fun ls hl => ?_)
  obtain ⟨y5, u6, py5, hf⟩ := z_bd2_s hf
  refine zl_X6_findBoth_22 E a_1 a_2 5000 (0 : Int32) u4 _ _ _ _ _ py5 hC (lv_sub hl [1, 2, 3, 0] rfl) (fun H locs ls hC hl => ?_)
  exact z_retv hx hb hr hlk hC (Option.some.inj hf) dX6_findBoth_140
abbrev zr_X6_isPair : Room := { frames := 2, cells := 0, slots := 0, locals := 45 }
theorem zd_X6_isPair : yX6_isPair.cls ≠ "java/lang/invoke/MethodHandle" ∧ yX6_isPair.cls ≠ "java/lang/invoke/VarHandle" ∧ (parseMethodDescriptor yX6_isPair.desc).map (fun d => d.parameters.length) = some 2 := by decide +kernel
set_option maxHeartbeats 4000000 in
set_option maxRecDepth 100000 in
theorem zc_X6_isPair (l : Launch) (D : va_G) (cI cJ : ClassId) (tp : Nat) (q : Nat → Nat) (u : z_St) (a_0 : Int32) (a_1 : Int32) {r : Int32} (hf : zf_X6_isPair a_0 a_1 = r) : z_Mi l yX6_isPair wsX6_isPair zr_X6_isPair (zm_W cI cJ q) (zm_G tp) D cI cJ [.int a_0, .int a_1] u r u := by
  refine z_ofi (cc := cX6_isPair) (maxL := 2) (ret := (some .boolean)) zm_Gok (by decide) rfl (Nat.le_of_ble_eq_true rfl) ?_
  intro A p e s m args below meth c ls E hr hlk hC hl
  have E : CallFix p m c cX6_isPair 2 s args wsX6_isPair RX6 := E
  have hx := E.1
  have hb := E.2.1
  have hml := E.2.2.1
  have hown := E.2.2.2.1
  have hts := E.2.2.2.2
  have hl : lv_has ls 2 [(0, .int a_0), (1, .int a_1)] := hl
  unfold zf_X6_isPair at hf
  refine lv_iload_n hx hb dX6_isPair_0 rfl (lv_at hl 0 rfl) ?_
  refine z_calli hC (z_runS (rest := []) zm_Gok hC E (zc_X6_isDealer l D cI cJ tp q u a_0 rfl _) (va_cwS 1 hts gX6_isPair_X6_isDealer rfl rfl rfl zd_X6_isDealer ⟨Nat.le_of_ble_eq_true rfl, Nat.le_of_ble_eq_true rfl⟩) rfl hl.1 rfl (Nat.le_of_ble_eq_true rfl) dX6_isPair_1 ⟨Nat.zero_le _, Nat.zero_le _⟩) (fun H locs hC => ?_)
  refine lv_if_eq (tgt := 23) hx hb dX6_isPair_4 (by decide) (fun c1 => ?_) (fun c1 => ?_)
  · have hf := z_t hf c1
    refine lv_iconst (v := (0 : Int32)) hx hb dX6_isPair_23 (by decide) ?_
    exact z_retz hx hb hr hlk hC rfl hf rfl dX6_isPair_24
  · have hf := z_f hf c1
    refine lv_iload_n hx hb dX6_isPair_7 rfl (lv_at hl 1 rfl) ?_
    refine z_calli hC (z_runS (rest := []) zm_Gok hC E (zc_X6_isDealer l D cI cJ tp q u a_1 rfl _) (va_cwS 1 hts gX6_isPair_X6_isDealer rfl rfl rfl zd_X6_isDealer ⟨Nat.le_of_ble_eq_true rfl, Nat.le_of_ble_eq_true rfl⟩) rfl hl.1 rfl (Nat.le_of_ble_eq_true rfl) dX6_isPair_8 ⟨Nat.zero_le _, Nat.zero_le _⟩) (fun H locs hC => ?_)
    refine lv_if_eq (tgt := 23) hx hb dX6_isPair_11 (by decide) (fun c2 => ?_) (fun c2 => ?_)
    · have hf := z_t hf c2
      refine lv_iconst (v := (0 : Int32)) hx hb dX6_isPair_23 (by decide) ?_
      exact z_retz hx hb hr hlk hC rfl hf rfl dX6_isPair_24
    · have hf := z_f hf c2
      refine lv_iload_n hx hb dX6_isPair_14 rfl (lv_at hl 0 rfl) ?_
      refine lv_iload_n hx hb dX6_isPair_15 rfl (lv_at hl 1 rfl) ?_
      refine lv_icmp_eq (tgt := 23) hx hb dX6_isPair_16 (by decide) (fun c3 => ?_) (fun c3 => ?_)
      · have hf := z_t hf c3
        refine lv_iconst (v := (0 : Int32)) hx hb dX6_isPair_23 (by decide) ?_
        exact z_retz hx hb hr hlk hC rfl hf rfl dX6_isPair_24
      · have hf := z_f hf c3
        refine lv_iconst (v := (1 : Int32)) hx hb dX6_isPair_19 (by decide) ?_
        refine lv_goto (tgt := 24) hx hb dX6_isPair_20 (by decide) ?_
        exact z_retz hx hb hr hlk hC rfl hf rfl dX6_isPair_24
abbrev zr_X6_both : Room := { frames := 3, cells := 0, slots := 0, locals := 66 }
theorem zd_X6_both : yX6_both.cls ≠ "java/lang/invoke/MethodHandle" ∧ yX6_both.cls ≠ "java/lang/invoke/VarHandle" ∧ (parseMethodDescriptor yX6_both.desc).map (fun d => d.parameters.length) = some 3 := by decide +kernel
theorem zi_X6_both : ∀ w ∈ wsX60, w ∈ wsX6_both := fun _ h => List.mem_cons_of_mem _ (List.mem_append_right _ h)
set_option maxHeartbeats 4000000 in
set_option maxRecDepth 100000 in
theorem zc_X6_both (l : Launch) (D : va_G) (cI cJ : ClassId) (tp : Nat) (q : Nat → Nat) (u : z_St) (a_1 : Int32) (a_2 : Int32) (a_3 : Int32) {r : Int32} {u2 : z_St} (hf : zf_X6_both u a_1 a_2 a_3 = some (r, u2)) : z_Mi l yX6_both wsX6_both zr_X6_both (zm_W cI cJ q) (zm_G tp) D cI cJ [.ref (q 0), .int a_1, .int a_2, .int a_3] u r u2 := by
  refine z_ofi (cc := cX6_both) (maxL := 4) (ret := (some .int)) zm_Gok (by decide) rfl (Nat.le_of_ble_eq_true rfl) ?_
  intro A p e s m args below meth c ls E hr hlk hC hl
  have E : CallFix p m c cX6_both 4 s args wsX6_both RX6 := E
  have hx := E.1
  have hb := E.2.1
  have hml := E.2.2.1
  have hown := E.2.2.2.1
  have hts := E.2.2.2.2
  have hl : lv_has ls 4 [(0, .ref (q 0)), (1, .int a_1), (2, .int a_2), (3, .int a_3)] := hl
  unfold zf_X6_both at hf
  have kl181 := hts (.constantLong RX6 181 (3)) (by decide +kernel)
  have kf174 := hts (.fieldLink RX6 174 "DawnFairModel" "bidBoth" "I") (by decide +kernel)
  have kf171 := hts (.fieldLink RX6 171 "DawnFairModel" "bidOther" "I") (by decide +kernel)
  have kf168 := hts (.fieldLink RX6 168 "DawnFairModel" "bidOne" "I") (by decide +kernel)
  have kf165 := hts (.fieldLink RX6 165 "DawnFairModel" "both" "I") (by decide +kernel)
  refine lv_iload_n hx hb dX6_both_0 rfl (lv_at hl 1 rfl) ?_
  refine lv_iload_n hx hb dX6_both_1 rfl (lv_at hl 2 rfl) ?_
  refine z_calli hC (z_runS (rest := []) zm_Gok hC E (zc_X6_isPair l D cI cJ tp q u a_1 a_2 rfl _) (va_cwS 2 hts gX6_both_X6_isPair rfl rfl rfl zd_X6_isPair ⟨Nat.le_of_ble_eq_true rfl, Nat.le_of_ble_eq_true rfl⟩) rfl hl.1 rfl (Nat.le_of_ble_eq_true rfl) dX6_both_2 ⟨Nat.zero_le _, Nat.zero_le _⟩) (fun H locs hC => ?_)
  refine lv_if_eq (tgt := 20) hx hb dX6_both_5 (by decide) (fun c1 => ?_) (fun c1 => ?_)
  · have hf := z_t hf c1
    refine lv_bipush (v := (-2 : Int32)) hx hb dX6_both_20 (by decide) ?_
    exact z_reti hx hb hr hlk hC (Prod.mk.inj (Option.some.inj hf)).1 (Prod.mk.inj (Option.some.inj hf)).2 dX6_both_22
  · have hf := z_f hf c1
    refine lv_iload_n hx hb dX6_both_8 rfl (lv_at hl 3 rfl) ?_
    refine lv_i2l hx hb dX6_both_9 rfl ?_
    refine lv_lconst (v := (0 : Int64)) hx hb dX6_both_10 (by decide) ?_
    refine lv_ldc2 (own := RX6) (v := (3 : Int64)) hx hb hown kl181 dX6_both_11 ?_
    refine z_calli hC (z_runS (rest := []) zm_Gok hC E (zc_X6_in l D cI cJ tp q u a_3.toInt64 (0 : Int64) (3 : Int64) rfl _) (va_cwS 3 hts gX6_both_X6_in rfl rfl rfl zd_X6_in ⟨Nat.le_of_ble_eq_true rfl, Nat.le_of_ble_eq_true rfl⟩) rfl hl.1 rfl (Nat.le_of_ble_eq_true rfl) dX6_both_14 ⟨Nat.zero_le _, Nat.zero_le _⟩) (fun H locs hC => ?_)
    refine lv_if_ne (tgt := 23) hx hb dX6_both_17 (by decide) (fun c2 => ?_) (fun c2 => ?_)
    · have hf := z_f hf c2
      refine lv_aload_n hx hb dX6_both_23 rfl (lv_at hl 0 rfl) ?_
      refine lv_iload_n hx hb dX6_both_24 rfl (lv_at hl 1 rfl) ?_
      refine lv_iload_n hx hb dX6_both_25 rfl (lv_at hl 2 rfl) ?_
      obtain ⟨u3, pu3, hf⟩ := z_bd_s hf
      refine z_callv hC (z_runV (rest := []) zm_Gok hC E (zc_X6_findBoth l D cI cJ tp q u a_1 a_2 pu3 _) (cwV 2 hts gX6_both_X6_findBoth rfl rfl rfl ⟨rfl, zd_X6_findBoth⟩ ⟨Nat.le_of_ble_eq_true rfl, Nat.le_of_ble_eq_true rfl⟩) (zm_rcX6 hC) rfl hl.1 rfl (Nat.le_of_ble_eq_true rfl) dX6_both_26 ⟨Nat.zero_le _, Nat.zero_le _⟩) (fun H locs hC => ?_)
      refine lv_iload_n hx hb dX6_both_29 rfl (lv_at hl 3 rfl) ?_
      refine lv_if_ne (tgt := 40) hx hb dX6_both_30 (by decide) (fun c4 => ?_) (fun c4 => ?_)
      · have hf := z_f hf c4
        refine lv_iload_n hx hb dX6_both_40 rfl (lv_at hl 3 rfl) ?_
        refine lv_iconst (v := (1 : Int32)) hx hb dX6_both_41 (by decide) ?_
        refine lv_icmp_ne (tgt := 52) hx hb dX6_both_42 (by decide) (fun c5 => ?_) (fun c5 => ?_)
        · have hf := z_f hf c5
          refine lv_iload_n hx hb dX6_both_52 rfl (lv_at hl 3 rfl) ?_
          refine lv_iconst (v := (2 : Int32)) hx hb dX6_both_53 (by decide) ?_
          refine lv_icmp_ne (tgt := 64) hx hb dX6_both_54 (by decide) (fun c6 => ?_) (fun c6 => ?_)
          · have hf := z_f hf c6
            refine lv_aload_n hx hb dX6_both_64 rfl (lv_at hl 0 rfl) ?_
            refine zm_gX6_bidBoth hx hb hts zi_X6_both hown hC kf174 dX6_both_65 ?_
            exact z_reti hx hb hr hlk hC (Prod.mk.inj (Option.some.inj hf)).1 (Prod.mk.inj (Option.some.inj hf)).2 dX6_both_68
          · have hf := z_t hf c6
            refine lv_aload_n hx hb dX6_both_57 rfl (lv_at hl 0 rfl) ?_
            refine zm_gX6_bidOther hx hb hts zi_X6_both hown hC kf171 dX6_both_58 ?_
            refine lv_goto (tgt := 68) hx hb dX6_both_61 (by decide) ?_
            exact z_reti hx hb hr hlk hC (Prod.mk.inj (Option.some.inj hf)).1 (Prod.mk.inj (Option.some.inj hf)).2 dX6_both_68
        · have hf := z_t hf c5
          refine lv_aload_n hx hb dX6_both_45 rfl (lv_at hl 0 rfl) ?_
          refine zm_gX6_bidOne hx hb hts zi_X6_both hown hC kf168 dX6_both_46 ?_
          refine lv_goto (tgt := 68) hx hb dX6_both_49 (by decide) ?_
          exact z_reti hx hb hr hlk hC (Prod.mk.inj (Option.some.inj hf)).1 (Prod.mk.inj (Option.some.inj hf)).2 dX6_both_68
      · have hf := z_t hf c4
        refine lv_aload_n hx hb dX6_both_33 rfl (lv_at hl 0 rfl) ?_
        refine zm_gX6_both hx hb hts zi_X6_both hown hC kf165 dX6_both_34 ?_
        refine lv_goto (tgt := 68) hx hb dX6_both_37 (by decide) ?_
        exact z_reti hx hb hr hlk hC (Prod.mk.inj (Option.some.inj hf)).1 (Prod.mk.inj (Option.some.inj hf)).2 dX6_both_68
    · have hf := z_t hf c2
      refine lv_bipush (v := (-2 : Int32)) hx hb dX6_both_20 (by decide) ?_
      exact z_reti hx hb hr hlk hC (Prod.mk.inj (Option.some.inj hf)).1 (Prod.mk.inj (Option.some.inj hf)).2 dX6_both_22
end
