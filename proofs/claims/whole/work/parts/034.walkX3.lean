section
variable {p : Program} {l : Launch} {e : Env} {R : Room} {s : State} {m : MethodId} {args : Array Value} {below : List Frame} {meth : Method} {c : Code} {H : Heap} {locs : List Loc} {cells slots : Nat} {Q : State → Prop} {cc : ByteArray} {pc : Nat} {ls : Array Slot} {rest : List Value}
variable {D : va_G} {cI cJ : ClassId} {tp : Nat} {q : Nat → Nat} {A : Nat → Prop} {u : z_St} {Ts : List Cond}
abbrev zr_X3_addEntry : Room := { frames := 0, cells := 0, slots := 0, locals := 0 }
theorem zd_X3_addEntry : yX3_addEntry.cls ≠ "java/lang/invoke/MethodHandle" ∧ yX3_addEntry.cls ≠ "java/lang/invoke/VarHandle" ∧ (parseMethodDescriptor yX3_addEntry.desc).map (fun d => d.parameters.length) = some 1 := by decide +kernel
theorem zi_X3_addEntry : ∀ w ∈ wsX30, w ∈ wsX3_addEntry := fun _ h => List.mem_cons_of_mem _ (List.mem_append_right _ h)
set_option maxHeartbeats 4000000 in
set_option maxRecDepth 100000 in
theorem zc_X3_addEntry (l : Launch) (D : va_G) (cI cJ : ClassId) (tp : Nat) (q : Nat → Nat) (u : z_St) (a_1 : Int32) {r : Int32} {u2 : z_St} (hf : zf_X3_addEntry u a_1 = some (r, u2)) : z_Mi l yX3_addEntry wsX3_addEntry zr_X3_addEntry (zx_W cI q) (zx_G tp) D cI cJ [.ref (q 3), .int a_1] u r u2 := by
  refine z_ofi (cc := cX3_addEntry) (maxL := 2) (ret := (some .int)) zx_Gok (by decide) rfl (Nat.le_of_ble_eq_true rfl) ?_
  intro A p e s m args below meth c ls E hr hlk hC hl
  have E : CallFix p m c cX3_addEntry 2 s args wsX3_addEntry RX3 := E
  have hx := E.1
  have hb := E.2.1
  have hml := E.2.2.1
  have hown := E.2.2.2.1
  have hts := E.2.2.2.2
  have hl : lv_has ls 2 [(0, .ref (q 3)), (1, .int a_1)] := hl
  unfold zf_X3_addEntry at hf
  have kf27 := hts (.fieldLink RX3 27 "DawnFair$Stolen" "entries" "I") (by decide +kernel)
  have kf9 := hts (.fieldLink RX3 9 "DawnFair$Stolen" "entryMarks" "[I") (by decide +kernel)
  refine lv_aload_n hx hb dX3_addEntry_0 rfl (lv_at hl 0 rfl) ?_
  refine zx_gX3_entries hx hb hts zi_X3_addEntry hown hC kf27 dX3_addEntry_1 ?_
  refine lv_bipush (v := (10 : Int32)) hx hb dX3_addEntry_4 (by decide) ?_
  refine lv_icmp_lt (tgt := 12) hx hb dX3_addEntry_6 (by decide) (fun c1 => ?_) (fun c1 => ?_)
  · have hf := z_t hf c1
    refine lv_aload_n hx hb dX3_addEntry_12 rfl (lv_at hl 0 rfl) ?_
    refine zx_gX3_entryMarks hx hb hts zi_X3_addEntry hown hC kf9 dX3_addEntry_13 ?_
    refine lv_aload_n hx hb dX3_addEntry_16 rfl (lv_at hl 0 rfl) ?_
    refine zx_gX3_entries hx hb hts zi_X3_addEntry hown hC kf27 dX3_addEntry_17 ?_
    refine lv_iload_n hx hb dX3_addEntry_20 rfl (lv_at hl 1 rfl) ?_
    obtain ⟨h2, hf⟩ := z_gd_s hf
    refine zx_sX3_entryMarks hx hb hC (z_in h2) dX3_addEntry_21 (fun u3 eu3 H locs hC => ?_)
    have hf := z_nm_s hf eu3
    refine lv_aload_n hx hb dX3_addEntry_22 rfl (lv_at hl 0 rfl) ?_
    refine lv_dup hx hb dX3_addEntry_23 rfl ?_
    refine zx_gX3_entries hx hb hts zi_X3_addEntry hown hC kf27 dX3_addEntry_24 ?_
    refine lv_iconst (v := (1 : Int32)) hx hb dX3_addEntry_27 (by decide) ?_
    refine lv_iadd hx hb dX3_addEntry_28 ?_
    refine zx_pX3_entries hx hb hts zi_X3_addEntry hown hC kf27 dX3_addEntry_29 (fun u4 eu4 H locs hC => ?_)
    have hf := z_nm_s hf eu4
    refine lv_aload_n hx hb dX3_addEntry_32 rfl (lv_at hl 0 rfl) ?_
    refine zx_gX3_entries hx hb hts zi_X3_addEntry hown hC kf27 dX3_addEntry_33 ?_
    refine lv_iconst (v := (1 : Int32)) hx hb dX3_addEntry_36 (by decide) ?_
    refine lv_isub hx hb dX3_addEntry_37 ?_
    exact z_reti hx hb hr hlk hC (Prod.mk.inj (Option.some.inj hf)).1 (Prod.mk.inj (Option.some.inj hf)).2 dX3_addEntry_38
  · have hf := z_f hf c1
    refine lv_bipush (v := (-4 : Int32)) hx hb dX3_addEntry_9 (by decide) ?_
    exact z_reti hx hb hr hlk hC (Prod.mk.inj (Option.some.inj hf)).1 (Prod.mk.inj (Option.some.inj hf)).2 dX3_addEntry_11
abbrev zr_X3_entryCount : Room := { frames := 0, cells := 0, slots := 0, locals := 0 }
theorem zd_X3_entryCount : yX3_entryCount.cls ≠ "java/lang/invoke/MethodHandle" ∧ yX3_entryCount.cls ≠ "java/lang/invoke/VarHandle" ∧ (parseMethodDescriptor yX3_entryCount.desc).map (fun d => d.parameters.length) = some 0 := by decide +kernel
theorem zi_X3_entryCount : ∀ w ∈ wsX30, w ∈ wsX3_entryCount := fun _ h => List.mem_cons_of_mem _ (List.mem_append_right _ h)
set_option maxHeartbeats 4000000 in
set_option maxRecDepth 100000 in
theorem zc_X3_entryCount (l : Launch) (D : va_G) (cI cJ : ClassId) (tp : Nat) (q : Nat → Nat) (u : z_St) {r : Int32} (hf : zf_X3_entryCount u = r) : z_Mi l yX3_entryCount wsX3_entryCount zr_X3_entryCount (zx_W cI q) (zx_G tp) D cI cJ [.ref (q 3)] u r u := by
  refine z_ofi (cc := cX3_entryCount) (maxL := 1) (ret := (some .int)) zx_Gok (by decide) rfl (Nat.le_of_ble_eq_true rfl) ?_
  intro A p e s m args below meth c ls E hr hlk hC hl
  have E : CallFix p m c cX3_entryCount 1 s args wsX3_entryCount RX3 := E
  have hx := E.1
  have hb := E.2.1
  have hml := E.2.2.1
  have hown := E.2.2.2.1
  have hts := E.2.2.2.2
  have hl : lv_has ls 1 [(0, .ref (q 3))] := hl
  unfold zf_X3_entryCount at hf
  have kf27 := hts (.fieldLink RX3 27 "DawnFair$Stolen" "entries" "I") (by decide +kernel)
  refine lv_aload_n hx hb dX3_entryCount_0 rfl (lv_at hl 0 rfl) ?_
  refine zx_gX3_entries hx hb hts zi_X3_entryCount hown hC kf27 dX3_entryCount_1 ?_
  exact z_reti hx hb hr hlk hC hf rfl dX3_entryCount_4
abbrev zr_X3_hasEntry : Room := { frames := 1, cells := 0, slots := 0, locals := 22 }
theorem zd_X3_hasEntry : yX3_hasEntry.cls ≠ "java/lang/invoke/MethodHandle" ∧ yX3_hasEntry.cls ≠ "java/lang/invoke/VarHandle" ∧ (parseMethodDescriptor yX3_hasEntry.desc).map (fun d => d.parameters.length) = some 1 := by decide +kernel
theorem zi_X3_hasEntry : ∀ w ∈ wsX30, w ∈ wsX3_hasEntry := fun _ h => List.mem_cons_of_mem _ (List.mem_append_right _ h)
set_option maxHeartbeats 4000000 in
set_option maxRecDepth 100000 in
theorem zc_X3_hasEntry (l : Launch) (D : va_G) (cI cJ : ClassId) (tp : Nat) (q : Nat → Nat) (u : z_St) (a_1 : Int32) {r : Int32} (hf : zf_X3_hasEntry u a_1 = r) : z_Mi l yX3_hasEntry wsX3_hasEntry zr_X3_hasEntry (zx_W cI q) (zx_G tp) D cI cJ [.ref (q 3), .int a_1] u r u := by
  refine z_ofi (cc := cX3_hasEntry) (maxL := 2) (ret := (some .boolean)) zx_Gok (by decide) rfl (Nat.le_of_ble_eq_true rfl) ?_
  intro A p e s m args below meth c ls E hr hlk hC hl
  have E : CallFix p m c cX3_hasEntry 2 s args wsX3_hasEntry RX3 := E
  have hx := E.1
  have hb := E.2.1
  have hml := E.2.2.1
  have hown := E.2.2.2.1
  have hts := E.2.2.2.2
  have hl : lv_has ls 2 [(0, .ref (q 3)), (1, .int a_1)] := hl
  unfold zf_X3_hasEntry at hf
  have kf27 := hts (.fieldLink RX3 27 "DawnFair$Stolen" "entries" "I") (by decide +kernel)
  have kiX5 := hts (.initialized RX5) (by decide +kernel)
  have ks31 := hts (.static yX5_within) (by decide +kernel)
  refine lv_iload_n hx hb dX3_hasEntry_0 rfl (lv_at hl 1 rfl) ?_
  refine lv_iconst (v := (0 : Int32)) hx hb dX3_hasEntry_1 (by decide) ?_
  refine lv_aload_n hx hb dX3_hasEntry_2 rfl (lv_at hl 0 rfl) ?_
  refine zx_gX3_entries hx hb hts zi_X3_hasEntry hown hC kf27 dX3_hasEntry_3 ?_
  refine lv_iconst (v := (1 : Int32)) hx hb dX3_hasEntry_6 (by decide) ?_
  refine lv_isub hx hb dX3_hasEntry_7 ?_
  refine z_calli hC (z_runSN (rest := []) zx_Gok hC E (zc_X5_within l D cI cJ tp q u a_1 (0 : Int32) ((z_rI u 15 0) - (1 : Int32)) rfl _) ⟨va_cnB 3 hts gX3_hasEntry_X5_within_n31 rfl rfl rfl (zx_nst hC).2.2.2.1 kiX5 zd_X5_within ⟨Nat.le_of_ble_eq_true rfl, Nat.le_of_ble_eq_true rfl⟩, ks31, trivial⟩ rfl hl.1 rfl (Nat.le_of_ble_eq_true rfl) dX3_hasEntry_8 ⟨Nat.zero_le _, Nat.zero_le _⟩) (fun H locs hC => ?_)
  exact z_retz hx hb hr hlk hC (zn_X5_within _ _ _) hf rfl dX3_hasEntry_11
abbrev zr_X3_changeMark : Room := { frames := 0, cells := 0, slots := 0, locals := 0 }
theorem zd_X3_changeMark : yX3_changeMark.cls ≠ "java/lang/invoke/MethodHandle" ∧ yX3_changeMark.cls ≠ "java/lang/invoke/VarHandle" ∧ (parseMethodDescriptor yX3_changeMark.desc).map (fun d => d.parameters.length) = some 3 := by decide +kernel
theorem zi_X3_changeMark : ∀ w ∈ wsX30, w ∈ wsX3_changeMark := fun _ h => List.mem_cons_of_mem _ (List.mem_append_right _ h)
set_option maxHeartbeats 4000000 in
set_option maxRecDepth 100000 in
theorem zc_X3_changeMark (l : Launch) (D : va_G) (cI cJ : ClassId) (tp : Nat) (q : Nat → Nat) (u : z_St) (a_1 : Int32) (a_2 : Int32) (a_3 : Int32) {r : Int32} {u2 : z_St} (hf : zf_X3_changeMark u a_1 a_2 a_3 = some (r, u2)) : z_Mi l yX3_changeMark wsX3_changeMark zr_X3_changeMark (zx_W cI q) (zx_G tp) D cI cJ [.ref (q 3), .int a_1, .int a_2, .int a_3] u r u2 := by
  refine z_ofi (cc := cX3_changeMark) (maxL := 6) (ret := (some .int)) zx_Gok (by decide) rfl (Nat.le_of_ble_eq_true rfl) ?_
  intro A p e s m args below meth c ls E hr hlk hC hl
  have E : CallFix p m c cX3_changeMark 6 s args wsX3_changeMark RX3 := E
  have hx := E.1
  have hb := E.2.1
  have hml := E.2.2.1
  have hown := E.2.2.2.1
  have hts := E.2.2.2.2
  have hl : lv_has ls 6 [(0, .ref (q 3)), (1, .int a_1), (2, .int a_2), (3, .int a_3)] := hl
  unfold zf_X3_changeMark at hf
  have kf15 := hts (.fieldLink RX3 15 "DawnFair$Stolen" "seen" "[I") (by decide +kernel)
  have kf18 := hts (.fieldLink RX3 18 "DawnFair$Stolen" "lacked" "[I") (by decide +kernel)
  refine lv_iconst (v := (1 : Int32)) hx hb dX3_changeMark_0 (by decide) ?_
  refine lv_iload_n hx hb dX3_changeMark_1 rfl (lv_at hl 2 rfl) ?_
  refine lv_ishl hx hb dX3_changeMark_2 ?_
  refine lv_topi (fun x1 ex1 => ?_)
  have hf := z_nm_s hf ex1
  refine lv_istore (lv' := [(4, _), (0, _), (1, _), (2, _), (3, _)]) hx hb dX3_changeMark_3 hl (by decide) rfl (fun ls hl => ?_)
  refine lv_aload_n hx hb dX3_changeMark_5 rfl (lv_at hl 1 rfl) ?_
  refine zx_gX3_seen hx hb hts zi_X3_changeMark hown hC kf15 dX3_changeMark_6 ?_
  refine lv_iload_n hx hb dX3_changeMark_9 rfl (lv_at hl 2 rfl) ?_
  obtain ⟨h2, hf⟩ := z_gd_s hf
  refine zx_aX3_seen hx hb hC (z_in h2) dX3_changeMark_10 ?_
  refine lv_iload hx hb dX3_changeMark_11 (lv_at hl 0 rfl) ?_
  refine lv_iand hx hb dX3_changeMark_13 ?_
  refine lv_if_eq (tgt := 21) hx hb dX3_changeMark_14 (by decide) (fun c3 => ?_) (fun c3 => ?_)
  · have hf := z_t hf c3
    refine lv_aload_n hx hb dX3_changeMark_21 rfl (lv_at hl 1 rfl) ?_
    refine zx_gX3_lacked hx hb hts zi_X3_changeMark hown hC kf18 dX3_changeMark_22 ?_
    refine lv_iload_n hx hb dX3_changeMark_25 rfl (lv_at hl 2 rfl) ?_
    obtain ⟨h4, hf⟩ := z_gd_s hf
    refine zx_aX3_lacked hx hb hC (z_in h4) dX3_changeMark_26 ?_
    refine lv_iload hx hb dX3_changeMark_27 (lv_at hl 0 rfl) ?_
    refine lv_iand hx hb dX3_changeMark_29 ?_
    refine lv_if_eq (tgt := 37) hx hb dX3_changeMark_30 (by decide) (fun c5 => ?_) (fun c5 => ?_)
    · have hf := z_t hf c5
      refine lv_iconst (v := (0 : Int32)) hx hb dX3_changeMark_37 (by decide) ?_
      refine lv_istore (lv' := [(5, _), (4, _), (0, _), (1, _), (2, _), (3, _)]) hx hb dX3_changeMark_38 hl (by decide) rfl (fun ls hl => ?_)
      refine lv_aload_n hx hb dX3_changeMark_40 rfl (lv_at hl 2 rfl) ?_
      refine zx_gX3_seen hx hb hts zi_X3_changeMark hown hC kf15 dX3_changeMark_41 ?_
      refine lv_iload_n hx hb dX3_changeMark_44 rfl (lv_at hl 3 rfl) ?_
      refine lv_iload_n hx hb dX3_changeMark_45 rfl (lv_at hl 5 rfl) ?_
      refine lv_iconst (v := (1 : Int32)) hx hb dX3_changeMark_46 (by decide) ?_
      refine lv_icmp_ne (tgt := 62) hx hb dX3_changeMark_47 (by decide) (fun c6 => ?_) (fun c6 => ?_)
      · have hf := z_f hf c6
        refine lv_aload_n hx hb dX3_changeMark_62 rfl (lv_at hl 2 rfl) ?_
        refine zx_gX3_seen hx hb hts zi_X3_changeMark hown hC kf15 dX3_changeMark_63 ?_
        refine lv_iload_n hx hb dX3_changeMark_66 rfl (lv_at hl 3 rfl) ?_
        obtain ⟨h7, hf⟩ := z_gd_s hf
        refine zx_aX3_seen hx hb hC (z_in h7) dX3_changeMark_67 ?_
        refine lv_iload hx hb dX3_changeMark_68 (lv_at hl 1 rfl) ?_
        refine lv_iconst (v := (-1 : Int32)) hx hb dX3_changeMark_70 (by decide) ?_
        refine lv_ixor hx hb dX3_changeMark_71 ?_
        refine lv_iand hx hb dX3_changeMark_72 ?_
        obtain ⟨h8, hf⟩ := z_gd_s hf
        refine zx_sX3_seen hx hb hC (z_in h8) dX3_changeMark_73 (fun u9 eu9 H locs hC => ?_)
        have hf := z_nm_s hf eu9
        refine lv_aload_n hx hb dX3_changeMark_74 rfl (lv_at hl 2 rfl) ?_
        refine zx_gX3_lacked hx hb hts zi_X3_changeMark hown hC kf18 dX3_changeMark_75 ?_
        refine lv_iload_n hx hb dX3_changeMark_78 rfl (lv_at hl 3 rfl) ?_
        refine lv_iload_n hx hb dX3_changeMark_79 rfl (lv_at hl 5 rfl) ?_
        refine lv_iconst (v := (2 : Int32)) hx hb dX3_changeMark_80 (by decide) ?_
        refine lv_icmp_ne (tgt := 96) hx hb dX3_changeMark_81 (by decide) (fun c10 => ?_) (fun c10 => ?_)
        · have hf := z_f hf c10
          refine lv_aload_n hx hb dX3_changeMark_96 rfl (lv_at hl 2 rfl) ?_
          refine zx_gX3_lacked hx hb hts zi_X3_changeMark hown hC kf18 dX3_changeMark_97 ?_
          refine lv_iload_n hx hb dX3_changeMark_100 rfl (lv_at hl 3 rfl) ?_
          obtain ⟨h11, hf⟩ := z_gd_s hf
          refine zx_aX3_lacked hx hb hC (z_in h11) dX3_changeMark_101 ?_
          refine lv_iload hx hb dX3_changeMark_102 (lv_at hl 1 rfl) ?_
          refine lv_iconst (v := (-1 : Int32)) hx hb dX3_changeMark_104 (by decide) ?_
          refine lv_ixor hx hb dX3_changeMark_105 ?_
          refine lv_iand hx hb dX3_changeMark_106 ?_
          obtain ⟨h12, hf⟩ := z_gd_s hf
          refine zx_sX3_lacked hx hb hC (z_in h12) dX3_changeMark_107 (fun u13 eu13 H locs hC => ?_)
          have hf := z_nm_s hf eu13
          refine lv_iload hx hb dX3_changeMark_108 (lv_at hl 0 rfl) ?_
          exact z_reti hx hb hr hlk hC (Prod.mk.inj (Option.some.inj hf)).1 (Prod.mk.inj (Option.some.inj hf)).2 dX3_changeMark_110
        · have hf := z_t hf c10
          refine lv_aload_n hx hb dX3_changeMark_84 rfl (lv_at hl 2 rfl) ?_
          refine zx_gX3_lacked hx hb hts zi_X3_changeMark hown hC kf18 dX3_changeMark_85 ?_
          refine lv_iload_n hx hb dX3_changeMark_88 rfl (lv_at hl 3 rfl) ?_
          obtain ⟨h14, hf⟩ := z_gd_s hf
          refine zx_aX3_lacked hx hb hC (z_in h14) dX3_changeMark_89 ?_
          refine lv_iload hx hb dX3_changeMark_90 (lv_at hl 1 rfl) ?_
          refine lv_ior hx hb dX3_changeMark_92 ?_
          refine lv_goto (tgt := 107) hx hb dX3_changeMark_93 (by decide) ?_
          obtain ⟨h15, hf⟩ := z_gd_s hf
          refine zx_sX3_lacked hx hb hC (z_in h15) dX3_changeMark_107 (fun u16 eu16 H locs hC => ?_)
          have hf := z_nm_s hf eu16
          refine lv_iload hx hb dX3_changeMark_108 (lv_at hl 0 rfl) ?_
          exact z_reti hx hb hr hlk hC (Prod.mk.inj (Option.some.inj hf)).1 (Prod.mk.inj (Option.some.inj hf)).2 dX3_changeMark_110
      · have hf := z_t hf c6
        refine lv_aload_n hx hb dX3_changeMark_50 rfl (lv_at hl 2 rfl) ?_
        refine zx_gX3_seen hx hb hts zi_X3_changeMark hown hC kf15 dX3_changeMark_51 ?_
        refine lv_iload_n hx hb dX3_changeMark_54 rfl (lv_at hl 3 rfl) ?_
        obtain ⟨h17, hf⟩ := z_gd_s hf
        refine zx_aX3_seen hx hb hC (z_in h17) dX3_changeMark_55 ?_
        refine lv_iload hx hb dX3_changeMark_56 (lv_at hl 1 rfl) ?_
        refine lv_ior hx hb dX3_changeMark_58 ?_
        refine lv_goto (tgt := 73) hx hb dX3_changeMark_59 (by decide) ?_
        obtain ⟨h18, hf⟩ := z_gd_s hf
        refine zx_sX3_seen hx hb hC (z_in h18) dX3_changeMark_73 (fun u19 eu19 H locs hC => ?_)
        have hf := z_nm_s hf eu19
        refine lv_aload_n hx hb dX3_changeMark_74 rfl (lv_at hl 2 rfl) ?_
        refine zx_gX3_lacked hx hb hts zi_X3_changeMark hown hC kf18 dX3_changeMark_75 ?_
        refine lv_iload_n hx hb dX3_changeMark_78 rfl (lv_at hl 3 rfl) ?_
        refine lv_iload_n hx hb dX3_changeMark_79 rfl (lv_at hl 5 rfl) ?_
        refine lv_iconst (v := (2 : Int32)) hx hb dX3_changeMark_80 (by decide) ?_
        refine lv_icmp_ne (tgt := 96) hx hb dX3_changeMark_81 (by decide) (fun c20 => ?_) (fun c20 => ?_)
        · have hf := z_f hf c20
          refine lv_aload_n hx hb dX3_changeMark_96 rfl (lv_at hl 2 rfl) ?_
          refine zx_gX3_lacked hx hb hts zi_X3_changeMark hown hC kf18 dX3_changeMark_97 ?_
          refine lv_iload_n hx hb dX3_changeMark_100 rfl (lv_at hl 3 rfl) ?_
          obtain ⟨h21, hf⟩ := z_gd_s hf
          refine zx_aX3_lacked hx hb hC (z_in h21) dX3_changeMark_101 ?_
          refine lv_iload hx hb dX3_changeMark_102 (lv_at hl 1 rfl) ?_
          refine lv_iconst (v := (-1 : Int32)) hx hb dX3_changeMark_104 (by decide) ?_
          refine lv_ixor hx hb dX3_changeMark_105 ?_
          refine lv_iand hx hb dX3_changeMark_106 ?_
          obtain ⟨h22, hf⟩ := z_gd_s hf
          refine zx_sX3_lacked hx hb hC (z_in h22) dX3_changeMark_107 (fun u23 eu23 H locs hC => ?_)
          have hf := z_nm_s hf eu23
          refine lv_iload hx hb dX3_changeMark_108 (lv_at hl 0 rfl) ?_
          exact z_reti hx hb hr hlk hC (Prod.mk.inj (Option.some.inj hf)).1 (Prod.mk.inj (Option.some.inj hf)).2 dX3_changeMark_110
        · have hf := z_t hf c20
          refine lv_aload_n hx hb dX3_changeMark_84 rfl (lv_at hl 2 rfl) ?_
          refine zx_gX3_lacked hx hb hts zi_X3_changeMark hown hC kf18 dX3_changeMark_85 ?_
          refine lv_iload_n hx hb dX3_changeMark_88 rfl (lv_at hl 3 rfl) ?_
          obtain ⟨h24, hf⟩ := z_gd_s hf
          refine zx_aX3_lacked hx hb hC (z_in h24) dX3_changeMark_89 ?_
          refine lv_iload hx hb dX3_changeMark_90 (lv_at hl 1 rfl) ?_
          refine lv_ior hx hb dX3_changeMark_92 ?_
          refine lv_goto (tgt := 107) hx hb dX3_changeMark_93 (by decide) ?_
          obtain ⟨h25, hf⟩ := z_gd_s hf
          refine zx_sX3_lacked hx hb hC (z_in h25) dX3_changeMark_107 (fun u26 eu26 H locs hC => ?_)
          have hf := z_nm_s hf eu26
          refine lv_iload hx hb dX3_changeMark_108 (lv_at hl 0 rfl) ?_
          exact z_reti hx hb hr hlk hC (Prod.mk.inj (Option.some.inj hf)).1 (Prod.mk.inj (Option.some.inj hf)).2 dX3_changeMark_110
    · have hf := z_f hf c5
      refine lv_iconst (v := (2 : Int32)) hx hb dX3_changeMark_33 (by decide) ?_
      refine lv_goto (tgt := 38) hx hb dX3_changeMark_34 (by decide) ?_
      refine lv_istore (lv' := [(5, _), (4, _), (0, _), (1, _), (2, _), (3, _)]) hx hb dX3_changeMark_38 hl (by decide) rfl (fun ls hl => ?_)
      refine lv_aload_n hx hb dX3_changeMark_40 rfl (lv_at hl 2 rfl) ?_
      refine zx_gX3_seen hx hb hts zi_X3_changeMark hown hC kf15 dX3_changeMark_41 ?_
      refine lv_iload_n hx hb dX3_changeMark_44 rfl (lv_at hl 3 rfl) ?_
      refine lv_iload_n hx hb dX3_changeMark_45 rfl (lv_at hl 5 rfl) ?_
      refine lv_iconst (v := (1 : Int32)) hx hb dX3_changeMark_46 (by decide) ?_
      refine lv_icmp_ne (tgt := 62) hx hb dX3_changeMark_47 (by decide) (fun c27 => ?_) (fun c27 => ?_)
      · have hf := z_f hf c27
        refine lv_aload_n hx hb dX3_changeMark_62 rfl (lv_at hl 2 rfl) ?_
        refine zx_gX3_seen hx hb hts zi_X3_changeMark hown hC kf15 dX3_changeMark_63 ?_
        refine lv_iload_n hx hb dX3_changeMark_66 rfl (lv_at hl 3 rfl) ?_
        obtain ⟨h28, hf⟩ := z_gd_s hf
        refine zx_aX3_seen hx hb hC (z_in h28) dX3_changeMark_67 ?_
        refine lv_iload hx hb dX3_changeMark_68 (lv_at hl 1 rfl) ?_
        refine lv_iconst (v := (-1 : Int32)) hx hb dX3_changeMark_70 (by decide) ?_
        refine lv_ixor hx hb dX3_changeMark_71 ?_
        refine lv_iand hx hb dX3_changeMark_72 ?_
        obtain ⟨h29, hf⟩ := z_gd_s hf
        refine zx_sX3_seen hx hb hC (z_in h29) dX3_changeMark_73 (fun u30 eu30 H locs hC => ?_)
        have hf := z_nm_s hf eu30
        refine lv_aload_n hx hb dX3_changeMark_74 rfl (lv_at hl 2 rfl) ?_
        refine zx_gX3_lacked hx hb hts zi_X3_changeMark hown hC kf18 dX3_changeMark_75 ?_
        refine lv_iload_n hx hb dX3_changeMark_78 rfl (lv_at hl 3 rfl) ?_
        refine lv_iload_n hx hb dX3_changeMark_79 rfl (lv_at hl 5 rfl) ?_
        refine lv_iconst (v := (2 : Int32)) hx hb dX3_changeMark_80 (by decide) ?_
        refine lv_icmp_ne (tgt := 96) hx hb dX3_changeMark_81 (by decide) (fun c31 => ?_) (fun c31 => ?_)
        · have hf := z_f hf c31
          refine lv_aload_n hx hb dX3_changeMark_96 rfl (lv_at hl 2 rfl) ?_
          refine zx_gX3_lacked hx hb hts zi_X3_changeMark hown hC kf18 dX3_changeMark_97 ?_
          refine lv_iload_n hx hb dX3_changeMark_100 rfl (lv_at hl 3 rfl) ?_
          obtain ⟨h32, hf⟩ := z_gd_s hf
          refine zx_aX3_lacked hx hb hC (z_in h32) dX3_changeMark_101 ?_
          refine lv_iload hx hb dX3_changeMark_102 (lv_at hl 1 rfl) ?_
          refine lv_iconst (v := (-1 : Int32)) hx hb dX3_changeMark_104 (by decide) ?_
          refine lv_ixor hx hb dX3_changeMark_105 ?_
          refine lv_iand hx hb dX3_changeMark_106 ?_
          obtain ⟨h33, hf⟩ := z_gd_s hf
          refine zx_sX3_lacked hx hb hC (z_in h33) dX3_changeMark_107 (fun u34 eu34 H locs hC => ?_)
          have hf := z_nm_s hf eu34
          refine lv_iload hx hb dX3_changeMark_108 (lv_at hl 0 rfl) ?_
          exact z_reti hx hb hr hlk hC (Prod.mk.inj (Option.some.inj hf)).1 (Prod.mk.inj (Option.some.inj hf)).2 dX3_changeMark_110
        · have hf := z_t hf c31
          refine lv_aload_n hx hb dX3_changeMark_84 rfl (lv_at hl 2 rfl) ?_
          refine zx_gX3_lacked hx hb hts zi_X3_changeMark hown hC kf18 dX3_changeMark_85 ?_
          refine lv_iload_n hx hb dX3_changeMark_88 rfl (lv_at hl 3 rfl) ?_
          obtain ⟨h35, hf⟩ := z_gd_s hf
          refine zx_aX3_lacked hx hb hC (z_in h35) dX3_changeMark_89 ?_
          refine lv_iload hx hb dX3_changeMark_90 (lv_at hl 1 rfl) ?_
          refine lv_ior hx hb dX3_changeMark_92 ?_
          refine lv_goto (tgt := 107) hx hb dX3_changeMark_93 (by decide) ?_
          obtain ⟨h36, hf⟩ := z_gd_s hf
          refine zx_sX3_lacked hx hb hC (z_in h36) dX3_changeMark_107 (fun u37 eu37 H locs hC => ?_)
          have hf := z_nm_s hf eu37
          refine lv_iload hx hb dX3_changeMark_108 (lv_at hl 0 rfl) ?_
          exact z_reti hx hb hr hlk hC (Prod.mk.inj (Option.some.inj hf)).1 (Prod.mk.inj (Option.some.inj hf)).2 dX3_changeMark_110
      · have hf := z_t hf c27
        refine lv_aload_n hx hb dX3_changeMark_50 rfl (lv_at hl 2 rfl) ?_
        refine zx_gX3_seen hx hb hts zi_X3_changeMark hown hC kf15 dX3_changeMark_51 ?_
        refine lv_iload_n hx hb dX3_changeMark_54 rfl (lv_at hl 3 rfl) ?_
        obtain ⟨h38, hf⟩ := z_gd_s hf
        refine zx_aX3_seen hx hb hC (z_in h38) dX3_changeMark_55 ?_
        refine lv_iload hx hb dX3_changeMark_56 (lv_at hl 1 rfl) ?_
        refine lv_ior hx hb dX3_changeMark_58 ?_
        refine lv_goto (tgt := 73) hx hb dX3_changeMark_59 (by decide) ?_
        obtain ⟨h39, hf⟩ := z_gd_s hf
        refine zx_sX3_seen hx hb hC (z_in h39) dX3_changeMark_73 (fun u40 eu40 H locs hC => ?_)
        have hf := z_nm_s hf eu40
        refine lv_aload_n hx hb dX3_changeMark_74 rfl (lv_at hl 2 rfl) ?_
        refine zx_gX3_lacked hx hb hts zi_X3_changeMark hown hC kf18 dX3_changeMark_75 ?_
        refine lv_iload_n hx hb dX3_changeMark_78 rfl (lv_at hl 3 rfl) ?_
        refine lv_iload_n hx hb dX3_changeMark_79 rfl (lv_at hl 5 rfl) ?_
        refine lv_iconst (v := (2 : Int32)) hx hb dX3_changeMark_80 (by decide) ?_
        refine lv_icmp_ne (tgt := 96) hx hb dX3_changeMark_81 (by decide) (fun c41 => ?_) (fun c41 => ?_)
        · have hf := z_f hf c41
          refine lv_aload_n hx hb dX3_changeMark_96 rfl (lv_at hl 2 rfl) ?_
          refine zx_gX3_lacked hx hb hts zi_X3_changeMark hown hC kf18 dX3_changeMark_97 ?_
          refine lv_iload_n hx hb dX3_changeMark_100 rfl (lv_at hl 3 rfl) ?_
          obtain ⟨h42, hf⟩ := z_gd_s hf
          refine zx_aX3_lacked hx hb hC (z_in h42) dX3_changeMark_101 ?_
          refine lv_iload hx hb dX3_changeMark_102 (lv_at hl 1 rfl) ?_
          refine lv_iconst (v := (-1 : Int32)) hx hb dX3_changeMark_104 (by decide) ?_
          refine lv_ixor hx hb dX3_changeMark_105 ?_
          refine lv_iand hx hb dX3_changeMark_106 ?_
          obtain ⟨h43, hf⟩ := z_gd_s hf
          refine zx_sX3_lacked hx hb hC (z_in h43) dX3_changeMark_107 (fun u44 eu44 H locs hC => ?_)
          have hf := z_nm_s hf eu44
          refine lv_iload hx hb dX3_changeMark_108 (lv_at hl 0 rfl) ?_
          exact z_reti hx hb hr hlk hC (Prod.mk.inj (Option.some.inj hf)).1 (Prod.mk.inj (Option.some.inj hf)).2 dX3_changeMark_110
        · have hf := z_t hf c41
          refine lv_aload_n hx hb dX3_changeMark_84 rfl (lv_at hl 2 rfl) ?_
          refine zx_gX3_lacked hx hb hts zi_X3_changeMark hown hC kf18 dX3_changeMark_85 ?_
          refine lv_iload_n hx hb dX3_changeMark_88 rfl (lv_at hl 3 rfl) ?_
          obtain ⟨h45, hf⟩ := z_gd_s hf
          refine zx_aX3_lacked hx hb hC (z_in h45) dX3_changeMark_89 ?_
          refine lv_iload hx hb dX3_changeMark_90 (lv_at hl 1 rfl) ?_
          refine lv_ior hx hb dX3_changeMark_92 ?_
          refine lv_goto (tgt := 107) hx hb dX3_changeMark_93 (by decide) ?_
          obtain ⟨h46, hf⟩ := z_gd_s hf
          refine zx_sX3_lacked hx hb hC (z_in h46) dX3_changeMark_107 (fun u47 eu47 H locs hC => ?_)
          have hf := z_nm_s hf eu47
          refine lv_iload hx hb dX3_changeMark_108 (lv_at hl 0 rfl) ?_
          exact z_reti hx hb hr hlk hC (Prod.mk.inj (Option.some.inj hf)).1 (Prod.mk.inj (Option.some.inj hf)).2 dX3_changeMark_110
  · have hf := z_f hf c3
    refine lv_iconst (v := (1 : Int32)) hx hb dX3_changeMark_17 (by decide) ?_
    refine lv_goto (tgt := 38) hx hb dX3_changeMark_18 (by decide) ?_
    refine lv_istore (lv' := [(5, _), (4, _), (0, _), (1, _), (2, _), (3, _)]) hx hb dX3_changeMark_38 hl (by decide) rfl (fun ls hl => ?_)
    refine lv_aload_n hx hb dX3_changeMark_40 rfl (lv_at hl 2 rfl) ?_
    refine zx_gX3_seen hx hb hts zi_X3_changeMark hown hC kf15 dX3_changeMark_41 ?_
    refine lv_iload_n hx hb dX3_changeMark_44 rfl (lv_at hl 3 rfl) ?_
    refine lv_iload_n hx hb dX3_changeMark_45 rfl (lv_at hl 5 rfl) ?_
    refine lv_iconst (v := (1 : Int32)) hx hb dX3_changeMark_46 (by decide) ?_
    refine lv_icmp_ne (tgt := 62) hx hb dX3_changeMark_47 (by decide) (fun c48 => ?_) (fun c48 => ?_)
    · have hf := z_f hf c48
      refine lv_aload_n hx hb dX3_changeMark_62 rfl (lv_at hl 2 rfl) ?_
      refine zx_gX3_seen hx hb hts zi_X3_changeMark hown hC kf15 dX3_changeMark_63 ?_
      refine lv_iload_n hx hb dX3_changeMark_66 rfl (lv_at hl 3 rfl) ?_
      obtain ⟨h49, hf⟩ := z_gd_s hf
      refine zx_aX3_seen hx hb hC (z_in h49) dX3_changeMark_67 ?_
      refine lv_iload hx hb dX3_changeMark_68 (lv_at hl 1 rfl) ?_
      refine lv_iconst (v := (-1 : Int32)) hx hb dX3_changeMark_70 (by decide) ?_
      refine lv_ixor hx hb dX3_changeMark_71 ?_
      refine lv_iand hx hb dX3_changeMark_72 ?_
      obtain ⟨h50, hf⟩ := z_gd_s hf
      refine zx_sX3_seen hx hb hC (z_in h50) dX3_changeMark_73 (fun u51 eu51 H locs hC => ?_)
      have hf := z_nm_s hf eu51
      refine lv_aload_n hx hb dX3_changeMark_74 rfl (lv_at hl 2 rfl) ?_
      refine zx_gX3_lacked hx hb hts zi_X3_changeMark hown hC kf18 dX3_changeMark_75 ?_
      refine lv_iload_n hx hb dX3_changeMark_78 rfl (lv_at hl 3 rfl) ?_
      refine lv_iload_n hx hb dX3_changeMark_79 rfl (lv_at hl 5 rfl) ?_
      refine lv_iconst (v := (2 : Int32)) hx hb dX3_changeMark_80 (by decide) ?_
      refine lv_icmp_ne (tgt := 96) hx hb dX3_changeMark_81 (by decide) (fun c52 => ?_) (fun c52 => ?_)
      · have hf := z_f hf c52
        refine lv_aload_n hx hb dX3_changeMark_96 rfl (lv_at hl 2 rfl) ?_
        refine zx_gX3_lacked hx hb hts zi_X3_changeMark hown hC kf18 dX3_changeMark_97 ?_
        refine lv_iload_n hx hb dX3_changeMark_100 rfl (lv_at hl 3 rfl) ?_
        obtain ⟨h53, hf⟩ := z_gd_s hf
        refine zx_aX3_lacked hx hb hC (z_in h53) dX3_changeMark_101 ?_
        refine lv_iload hx hb dX3_changeMark_102 (lv_at hl 1 rfl) ?_
        refine lv_iconst (v := (-1 : Int32)) hx hb dX3_changeMark_104 (by decide) ?_
        refine lv_ixor hx hb dX3_changeMark_105 ?_
        refine lv_iand hx hb dX3_changeMark_106 ?_
        obtain ⟨h54, hf⟩ := z_gd_s hf
        refine zx_sX3_lacked hx hb hC (z_in h54) dX3_changeMark_107 (fun u55 eu55 H locs hC => ?_)
        have hf := z_nm_s hf eu55
        refine lv_iload hx hb dX3_changeMark_108 (lv_at hl 0 rfl) ?_
        exact z_reti hx hb hr hlk hC (Prod.mk.inj (Option.some.inj hf)).1 (Prod.mk.inj (Option.some.inj hf)).2 dX3_changeMark_110
      · have hf := z_t hf c52
        refine lv_aload_n hx hb dX3_changeMark_84 rfl (lv_at hl 2 rfl) ?_
        refine zx_gX3_lacked hx hb hts zi_X3_changeMark hown hC kf18 dX3_changeMark_85 ?_
        refine lv_iload_n hx hb dX3_changeMark_88 rfl (lv_at hl 3 rfl) ?_
        obtain ⟨h56, hf⟩ := z_gd_s hf
        refine zx_aX3_lacked hx hb hC (z_in h56) dX3_changeMark_89 ?_
        refine lv_iload hx hb dX3_changeMark_90 (lv_at hl 1 rfl) ?_
        refine lv_ior hx hb dX3_changeMark_92 ?_
        refine lv_goto (tgt := 107) hx hb dX3_changeMark_93 (by decide) ?_
        obtain ⟨h57, hf⟩ := z_gd_s hf
        refine zx_sX3_lacked hx hb hC (z_in h57) dX3_changeMark_107 (fun u58 eu58 H locs hC => ?_)
        have hf := z_nm_s hf eu58
        refine lv_iload hx hb dX3_changeMark_108 (lv_at hl 0 rfl) ?_
        exact z_reti hx hb hr hlk hC (Prod.mk.inj (Option.some.inj hf)).1 (Prod.mk.inj (Option.some.inj hf)).2 dX3_changeMark_110
    · have hf := z_t hf c48
      refine lv_aload_n hx hb dX3_changeMark_50 rfl (lv_at hl 2 rfl) ?_
      refine zx_gX3_seen hx hb hts zi_X3_changeMark hown hC kf15 dX3_changeMark_51 ?_
      refine lv_iload_n hx hb dX3_changeMark_54 rfl (lv_at hl 3 rfl) ?_
      obtain ⟨h59, hf⟩ := z_gd_s hf
      refine zx_aX3_seen hx hb hC (z_in h59) dX3_changeMark_55 ?_
      refine lv_iload hx hb dX3_changeMark_56 (lv_at hl 1 rfl) ?_
      refine lv_ior hx hb dX3_changeMark_58 ?_
      refine lv_goto (tgt := 73) hx hb dX3_changeMark_59 (by decide) ?_
      obtain ⟨h60, hf⟩ := z_gd_s hf
      refine zx_sX3_seen hx hb hC (z_in h60) dX3_changeMark_73 (fun u61 eu61 H locs hC => ?_)
      have hf := z_nm_s hf eu61
      refine lv_aload_n hx hb dX3_changeMark_74 rfl (lv_at hl 2 rfl) ?_
      refine zx_gX3_lacked hx hb hts zi_X3_changeMark hown hC kf18 dX3_changeMark_75 ?_
      refine lv_iload_n hx hb dX3_changeMark_78 rfl (lv_at hl 3 rfl) ?_
      refine lv_iload_n hx hb dX3_changeMark_79 rfl (lv_at hl 5 rfl) ?_
      refine lv_iconst (v := (2 : Int32)) hx hb dX3_changeMark_80 (by decide) ?_
      refine lv_icmp_ne (tgt := 96) hx hb dX3_changeMark_81 (by decide) (fun c62 => ?_) (fun c62 => ?_)
      · have hf := z_f hf c62
        refine lv_aload_n hx hb dX3_changeMark_96 rfl (lv_at hl 2 rfl) ?_
        refine zx_gX3_lacked hx hb hts zi_X3_changeMark hown hC kf18 dX3_changeMark_97 ?_
        refine lv_iload_n hx hb dX3_changeMark_100 rfl (lv_at hl 3 rfl) ?_
        obtain ⟨h63, hf⟩ := z_gd_s hf
        refine zx_aX3_lacked hx hb hC (z_in h63) dX3_changeMark_101 ?_
        refine lv_iload hx hb dX3_changeMark_102 (lv_at hl 1 rfl) ?_
        refine lv_iconst (v := (-1 : Int32)) hx hb dX3_changeMark_104 (by decide) ?_
        refine lv_ixor hx hb dX3_changeMark_105 ?_
        refine lv_iand hx hb dX3_changeMark_106 ?_
        obtain ⟨h64, hf⟩ := z_gd_s hf
        refine zx_sX3_lacked hx hb hC (z_in h64) dX3_changeMark_107 (fun u65 eu65 H locs hC => ?_)
        have hf := z_nm_s hf eu65
        refine lv_iload hx hb dX3_changeMark_108 (lv_at hl 0 rfl) ?_
        exact z_reti hx hb hr hlk hC (Prod.mk.inj (Option.some.inj hf)).1 (Prod.mk.inj (Option.some.inj hf)).2 dX3_changeMark_110
      · have hf := z_t hf c62
        refine lv_aload_n hx hb dX3_changeMark_84 rfl (lv_at hl 2 rfl) ?_
        refine zx_gX3_lacked hx hb hts zi_X3_changeMark hown hC kf18 dX3_changeMark_85 ?_
        refine lv_iload_n hx hb dX3_changeMark_88 rfl (lv_at hl 3 rfl) ?_
        obtain ⟨h66, hf⟩ := z_gd_s hf
        refine zx_aX3_lacked hx hb hC (z_in h66) dX3_changeMark_89 ?_
        refine lv_iload hx hb dX3_changeMark_90 (lv_at hl 1 rfl) ?_
        refine lv_ior hx hb dX3_changeMark_92 ?_
        refine lv_goto (tgt := 107) hx hb dX3_changeMark_93 (by decide) ?_
        obtain ⟨h67, hf⟩ := z_gd_s hf
        refine zx_sX3_lacked hx hb hC (z_in h67) dX3_changeMark_107 (fun u68 eu68 H locs hC => ?_)
        have hf := z_nm_s hf eu68
        refine lv_iload hx hb dX3_changeMark_108 (lv_at hl 0 rfl) ?_
        exact z_reti hx hb hr hlk hC (Prod.mk.inj (Option.some.inj hf)).1 (Prod.mk.inj (Option.some.inj hf)).2 dX3_changeMark_110
abbrev zr_X3_scoreOf : Room := { frames := 1, cells := 0, slots := 0, locals := 20 }
theorem zd_X3_scoreOf : yX3_scoreOf.cls ≠ "java/lang/invoke/MethodHandle" ∧ yX3_scoreOf.cls ≠ "java/lang/invoke/VarHandle" ∧ (parseMethodDescriptor yX3_scoreOf.desc).map (fun d => d.parameters.length) = some 2 := by decide +kernel
theorem zi_X3_scoreOf : ∀ w ∈ wsX30, w ∈ wsX3_scoreOf := fun _ h => List.mem_cons_of_mem _ (List.mem_append_right _ h)
set_option maxHeartbeats 4000000 in
set_option maxRecDepth 100000 in
theorem zc_X3_scoreOf (l : Launch) (D : va_G) (cI cJ : ClassId) (tp : Nat) (q : Nat → Nat) (u : z_St) (a_1 : Int32) (a_2 : Int32) {r : Int32} (hf : zf_X3_scoreOf u a_1 a_2 = some r) : z_Mi l yX3_scoreOf wsX3_scoreOf zr_X3_scoreOf (zx_W cI q) (zx_G tp) D cI cJ [.ref (q 3), .int a_1, .int a_2] u r u := by
  refine z_ofi (cc := cX3_scoreOf) (maxL := 4) (ret := (some .int)) zx_Gok (by decide) rfl (Nat.le_of_ble_eq_true rfl) ?_
  intro A p e s m args below meth c ls E hr hlk hC hl
  have E : CallFix p m c cX3_scoreOf 4 s args wsX3_scoreOf RX3 := E
  have hx := E.1
  have hb := E.2.1
  have hml := E.2.2.1
  have hown := E.2.2.2.1
  have hts := E.2.2.2.2
  have hl : lv_has ls 4 [(0, .ref (q 3)), (1, .int a_1), (2, .int a_2)] := hl
  unfold zf_X3_scoreOf at hf
  have kf9 := hts (.fieldLink RX3 9 "DawnFair$Stolen" "entryMarks" "[I") (by decide +kernel)
  have kf15 := hts (.fieldLink RX3 15 "DawnFair$Stolen" "seen" "[I") (by decide +kernel)
  have kf18 := hts (.fieldLink RX3 18 "DawnFair$Stolen" "lacked" "[I") (by decide +kernel)
  refine lv_aload_n hx hb dX3_scoreOf_0 rfl (lv_at hl 0 rfl) ?_
  refine zx_gX3_entryMarks hx hb hts zi_X3_scoreOf hown hC kf9 dX3_scoreOf_1 ?_
  refine lv_iload_n hx hb dX3_scoreOf_4 rfl (lv_at hl 1 rfl) ?_
  obtain ⟨h1, hf⟩ := z_gd_s hf
  refine zx_aX3_entryMarks hx hb hC (z_in h1) dX3_scoreOf_5 ?_
  refine lv_topi (fun x2 ex2 => ?_)
  have hf := z_nm_s hf ex2
  refine lv_istore_n (lv' := [(3, _), (0, _), (1, _), (2, _)]) hx hb dX3_scoreOf_6 rfl hl (by decide) rfl (fun ls hl => ?_)
  refine lv_iconst (v := (2 : Int32)) hx hb dX3_scoreOf_7 (by decide) ?_
  refine lv_iload_n hx hb dX3_scoreOf_8 rfl (lv_at hl 0 rfl) ?_
  refine lv_aload_n hx hb dX3_scoreOf_9 rfl (lv_at hl 1 rfl) ?_
  refine zx_gX3_seen hx hb hts zi_X3_scoreOf hown hC kf15 dX3_scoreOf_10 ?_
  refine lv_iload_n hx hb dX3_scoreOf_13 rfl (lv_at hl 3 rfl) ?_
  obtain ⟨h3, hf⟩ := z_gd_s hf
  refine zx_aX3_seen hx hb hC (z_in h3) dX3_scoreOf_14 ?_
  refine lv_iand hx hb dX3_scoreOf_15 ?_
  refine z_calli hC (z_runS (rest := [_]) zx_Gok hC E (zc_J6_bitCount_0f7a4 l D cI cJ tp q u (x2 &&& (z_rI u 11 a_2.toNatClampNeg)) rfl _) (va_cwS 1 hts gX3_scoreOf_J6_bitCount_0f7a4 rfl rfl rfl zd_J6_bitCount_0f7a4 ⟨Nat.le_of_ble_eq_true rfl, Nat.le_of_ble_eq_true rfl⟩) rfl hl.1 rfl (Nat.le_of_ble_eq_true rfl) dX3_scoreOf_16 ⟨Nat.zero_le _, Nat.zero_le _⟩) (fun H locs hC => ?_)
  refine lv_imul hx hb dX3_scoreOf_19 ?_
  refine lv_iconst (v := (3 : Int32)) hx hb dX3_scoreOf_20 (by decide) ?_
  refine lv_iload_n hx hb dX3_scoreOf_21 rfl (lv_at hl 0 rfl) ?_
  refine lv_aload_n hx hb dX3_scoreOf_22 rfl (lv_at hl 1 rfl) ?_
  refine zx_gX3_lacked hx hb hts zi_X3_scoreOf hown hC kf18 dX3_scoreOf_23 ?_
  refine lv_iload_n hx hb dX3_scoreOf_26 rfl (lv_at hl 3 rfl) ?_
  obtain ⟨h4, hf⟩ := z_gd_s hf
  refine zx_aX3_lacked hx hb hC (z_in h4) dX3_scoreOf_27 ?_
  refine lv_iand hx hb dX3_scoreOf_28 ?_
  refine z_calli hC (z_runS (rest := [_, _]) zx_Gok hC E (zc_J6_bitCount_0f7a4 l D cI cJ tp q u (x2 &&& (z_rI u 12 a_2.toNatClampNeg)) rfl _) (va_cwS 1 hts gX3_scoreOf_J6_bitCount_0f7a4 rfl rfl rfl zd_J6_bitCount_0f7a4 ⟨Nat.le_of_ble_eq_true rfl, Nat.le_of_ble_eq_true rfl⟩) rfl hl.1 rfl (Nat.le_of_ble_eq_true rfl) dX3_scoreOf_29 ⟨Nat.zero_le _, Nat.zero_le _⟩) (fun H locs hC => ?_)
  refine lv_imul hx hb dX3_scoreOf_32 ?_
  refine lv_isub hx hb dX3_scoreOf_33 ?_
  refine lv_aload_n hx hb dX3_scoreOf_34 rfl (lv_at hl 1 rfl) ?_
  refine zx_gX3_seen hx hb hts zi_X3_scoreOf hown hC kf15 dX3_scoreOf_35 ?_
  refine lv_iload_n hx hb dX3_scoreOf_38 rfl (lv_at hl 3 rfl) ?_
  obtain ⟨h5, hf⟩ := z_gd_s hf
  refine zx_aX3_seen hx hb hC (z_in h5) dX3_scoreOf_39 ?_
  refine lv_iload_n hx hb dX3_scoreOf_40 rfl (lv_at hl 0 rfl) ?_
  refine lv_iconst (v := (-1 : Int32)) hx hb dX3_scoreOf_41 (by decide) ?_
  refine lv_ixor hx hb dX3_scoreOf_42 ?_
  refine lv_iand hx hb dX3_scoreOf_43 ?_
  refine z_calli hC (z_runS (rest := [_]) zx_Gok hC E (zc_J6_bitCount_0f7a4 l D cI cJ tp q u ((z_rI u 11 a_2.toNatClampNeg) &&& (x2 ^^^ (-1 : Int32))) rfl _) (va_cwS 1 hts gX3_scoreOf_J6_bitCount_0f7a4 rfl rfl rfl zd_J6_bitCount_0f7a4 ⟨Nat.le_of_ble_eq_true rfl, Nat.le_of_ble_eq_true rfl⟩) rfl hl.1 rfl (Nat.le_of_ble_eq_true rfl) dX3_scoreOf_44 ⟨Nat.zero_le _, Nat.zero_le _⟩) (fun H locs hC => ?_)
  refine lv_isub hx hb dX3_scoreOf_47 ?_
  exact z_reti hx hb hr hlk hC (Option.some.inj hf) rfl dX3_scoreOf_48
abbrev zr_X3_isJoinable : Room := { frames := 0, cells := 0, slots := 0, locals := 0 }
theorem zd_X3_isJoinable : yX3_isJoinable.cls ≠ "java/lang/invoke/MethodHandle" ∧ yX3_isJoinable.cls ≠ "java/lang/invoke/VarHandle" ∧ (parseMethodDescriptor yX3_isJoinable.desc).map (fun d => d.parameters.length) = some 0 := by decide +kernel
theorem zi_X3_isJoinable : ∀ w ∈ wsX30, w ∈ wsX3_isJoinable := fun _ h => List.mem_cons_of_mem _ (List.mem_append_right _ h)
set_option maxHeartbeats 4000000 in
set_option maxRecDepth 100000 in
theorem zc_X3_isJoinable (l : Launch) (D : va_G) (cI cJ : ClassId) (tp : Nat) (q : Nat → Nat) (u : z_St) {r : Int32} (hf : zf_X3_isJoinable u = r) : z_Mi l yX3_isJoinable wsX3_isJoinable zr_X3_isJoinable (zx_W cI q) (zx_G tp) D cI cJ [.ref (q 3)] u r u := by
  refine z_ofi (cc := cX3_isJoinable) (maxL := 1) (ret := (some .boolean)) zx_Gok (by decide) rfl (Nat.le_of_ble_eq_true rfl) ?_
  intro A p e s m args below meth c ls E hr hlk hC hl
  have E : CallFix p m c cX3_isJoinable 1 s args wsX3_isJoinable RX3 := E
  have hx := E.1
  have hb := E.2.1
  have hml := E.2.2.1
  have hown := E.2.2.2.1
  have hts := E.2.2.2.2
  have hl : lv_has ls 1 [(0, .ref (q 3))] := hl
  unfold zf_X3_isJoinable at hf
  have kf27 := hts (.fieldLink RX3 27 "DawnFair$Stolen" "entries" "I") (by decide +kernel)
  refine lv_aload_n hx hb dX3_isJoinable_0 rfl (lv_at hl 0 rfl) ?_
  refine zx_gX3_entries hx hb hts zi_X3_isJoinable hown hC kf27 dX3_isJoinable_1 ?_
  refine lv_bipush (v := (6 : Int32)) hx hb dX3_isJoinable_4 (by decide) ?_
  refine lv_icmp_gt (tgt := 13) hx hb dX3_isJoinable_6 (by decide) (fun c1 => ?_) (fun c1 => ?_)
  · have hf := z_t hf c1
    refine lv_iconst (v := (0 : Int32)) hx hb dX3_isJoinable_13 (by decide) ?_
    exact z_retz hx hb hr hlk hC rfl hf rfl dX3_isJoinable_14
  · have hf := z_f hf c1
    refine lv_iconst (v := (1 : Int32)) hx hb dX3_isJoinable_9 (by decide) ?_
    refine lv_goto (tgt := 14) hx hb dX3_isJoinable_10 (by decide) ?_
    exact z_retz hx hb hr hlk hC rfl hf rfl dX3_isJoinable_14
abbrev zr_X3_weigh : Room := { frames := 2, cells := 0, slots := 0, locals := 43 }
theorem zd_X3_weigh : yX3_weigh.cls ≠ "java/lang/invoke/MethodHandle" ∧ yX3_weigh.cls ≠ "java/lang/invoke/VarHandle" ∧ (parseMethodDescriptor yX3_weigh.desc).map (fun d => d.parameters.length) = some 1 := by decide +kernel
theorem zi_X3_weigh : ∀ w ∈ wsX30, w ∈ wsX3_weigh := fun _ h => List.mem_cons_of_mem _ (List.mem_append_right _ h)
set_option maxHeartbeats 4000000 in
set_option maxRecDepth 100000 in
theorem zl_X3_weigh_2 (E : CallFix p m c cX3_weigh 4 s args wsX3_weigh RX3) (a_1 : Int32) : ∀ (n : Nat) (x_2 : Int32) (u : z_St) (H : Heap) (locs : List Loc) (ls : Array Slot) (o_2 : Int32) (ou : z_St), zf_X3_weigh_2 a_1 n x_2 u = some (o_2, ou) → z_C (zx_W cI q) (zx_G tp) D cI cJ A s u H locs → lv_has ls 4 [(0, .ref (q 3)), (1, .int a_1), (2, .int x_2)] → (∀ (H : Heap) (locs : List Loc) (ls : Array Slot), z_C (zx_W cI q) (zx_G tp) D cI cJ A s ou H locs → lv_has ls 4 [(0, .ref (q 3)), (1, .int a_1), (2, .int o_2)] → W p l e zr_X3_weigh s m args below meth c H locs 0 0 Q (F0 m 62 ls [])) → W p l e zr_X3_weigh s m args below meth c H locs 0 0 Q (F0 m 2 ls []) := by
  have hx := E.1
  have hb := E.2.1
  have hml := E.2.2.1
  have hown := E.2.2.2.1
  have hts := E.2.2.2.2
  intro n
  induction n with
  | zero =>
    intro x_2 u H locs ls o_2 ou hf
    rw [zf_X3_weigh_2.eq_1] at hf
    cases hf
  | succ n ih =>
    intro x_2 u H locs ls o_2 ou hf hC hl kk
    rw [zf_X3_weigh_2.eq_2] at hf
    have kf24 := hts (.fieldLink RX3 24 "DawnFair$Stolen" "worth" "[I") (by decide +kernel)
    have kc67 := hts (.constant RX3 67 (4826809)) (by decide +kernel)
    have kf68 := hts (.fieldLink RX3 68 "DawnFair$Stolen" "PLACES" "[I") (by decide +kernel)
    refine lv_iload_n hx hb dX3_weigh_2 rfl (lv_at hl 2 rfl) ?_
    refine lv_bipush (v := (6 : Int32)) hx hb dX3_weigh_3 (by decide) ?_
    refine lv_icmp_ge (tgt := 62) hx hb dX3_weigh_5 (by decide) (fun c1 => ?_) (fun c1 => ?_)
    · have hf := z_t hf c1
      cases hf
      exact kk _ _ _ hC (lv_sub hl [0, 1, 2] rfl)
    · have hf := z_f hf c1
      refine lv_aload_n hx hb dX3_weigh_8 rfl (lv_at hl 0 rfl) ?_
      refine lv_iload_n hx hb dX3_weigh_9 rfl (lv_at hl 2 rfl) ?_
      refine z_calli hC (z_runV (rest := []) zx_Gok hC E (zc_X3_hasEntry l D cI cJ tp q u x_2 rfl _) (cwV 1 hts gX3_weigh_X3_hasEntry rfl rfl rfl ⟨rfl, zd_X3_hasEntry⟩ ⟨Nat.le_of_ble_eq_true rfl, Nat.le_of_ble_eq_true rfl⟩) (zx_rcX3 hC) rfl hl.1 rfl (Nat.le_of_ble_eq_true rfl) dX3_weigh_10 ⟨Nat.zero_le _, Nat.zero_le _⟩) (fun H locs hC => ?_)
      refine lv_if_eq (tgt := 25) hx hb dX3_weigh_13 (by decide) (fun c2 => ?_) (fun c2 => ?_)
      · have hf := z_t hf c2
        refine lv_iconst (v := (0 : Int32)) hx hb dX3_weigh_25 (by decide) ?_
        refine lv_istore_n (lv' := [(3, _), (0, _), (1, _), (2, _)]) hx hb dX3_weigh_26 rfl hl (by decide) rfl (fun ls hl => ?_)
        refine lv_aload_n hx hb dX3_weigh_27 rfl (lv_at hl 1 rfl) ?_
        refine zx_gX3_worth hx hb hts zi_X3_weigh hown hC kf24 dX3_weigh_28 ?_
        refine lv_iload_n hx hb dX3_weigh_31 rfl (lv_at hl 3 rfl) ?_
        refine lv_iload_n hx hb dX3_weigh_32 rfl (lv_at hl 0 rfl) ?_
        refine lv_if_le (tgt := 54) hx hb dX3_weigh_33 (by decide) (fun _ => ?_) (fun c => absurd (by decide) c)
        refine lv_iconst (v := (0 : Int32)) hx hb dX3_weigh_54 (by decide) ?_
        obtain ⟨h3, hf⟩ := z_gd_s hf
        refine zx_sX3_worth hx hb hC (z_in h3) dX3_weigh_55 (fun u4 eu4 H locs hC => ?_)
        have hf := z_nm_s hf eu4
        obtain ⟨x5, ex5⟩ : ∃ z : Int32, z = (x_2 + (1 : Int32)) := ⟨_, rfl⟩
        have hf := z_nm_s hf ex5
        refine lv_iinc (v := x5) (lv' := [(2, _), (3, _), (0, _), (1, _)]) hx hb dX3_weigh_56 hl (k := 3) rfl (by rw [ex5]; rfl) (by decide) rfl (fun ls hl => ?_)
        refine lv_goto (tgt := 2) hx hb dX3_weigh_59 (by decide) ?_
        exact ih x5 u4 _ _ _ _ _ hf hC (lv_sub hl [2, 3, 0] rfl) kk
      · have hf := z_f hf c2
        refine lv_aload_n hx hb dX3_weigh_16 rfl (lv_at hl 0 rfl) ?_
        refine lv_iload_n hx hb dX3_weigh_17 rfl (lv_at hl 2 rfl) ?_
        refine lv_iload_n hx hb dX3_weigh_18 rfl (lv_at hl 1 rfl) ?_
        obtain ⟨r6, pr6, hf⟩ := z_bd_s hf
        refine z_calli hC (z_runV (rest := []) zx_Gok hC E (zc_X3_scoreOf l D cI cJ tp q u x_2 a_1 pr6 _) (cwV 2 hts gX3_weigh_X3_scoreOf rfl rfl rfl ⟨rfl, zd_X3_scoreOf⟩ ⟨Nat.le_of_ble_eq_true rfl, Nat.le_of_ble_eq_true rfl⟩) (zx_rcX3 hC) rfl hl.1 rfl (Nat.le_of_ble_eq_true rfl) dX3_weigh_19 ⟨Nat.zero_le _, Nat.zero_le _⟩) (fun H locs hC => ?_)
        refine lv_goto (tgt := 26) hx hb dX3_weigh_22 (by decide) ?_
        refine lv_istore_n (lv' := [(3, _), (0, _), (1, _), (2, _)]) hx hb dX3_weigh_26 rfl hl (by decide) rfl (fun ls hl => ?_)
        refine lv_aload_n hx hb dX3_weigh_27 rfl (lv_at hl 1 rfl) ?_
        refine zx_gX3_worth hx hb hts zi_X3_weigh hown hC kf24 dX3_weigh_28 ?_
        refine lv_iload_n hx hb dX3_weigh_31 rfl (lv_at hl 3 rfl) ?_
        refine lv_iload_n hx hb dX3_weigh_32 rfl (lv_at hl 0 rfl) ?_
        refine lv_if_le (tgt := 54) hx hb dX3_weigh_33 (by decide) (fun c7 => ?_) (fun c7 => ?_)
        · have hf := z_t hf c7
          refine lv_iconst (v := (0 : Int32)) hx hb dX3_weigh_54 (by decide) ?_
          obtain ⟨h8, hf⟩ := z_gd_s hf
          refine zx_sX3_worth hx hb hC (z_in h8) dX3_weigh_55 (fun u9 eu9 H locs hC => ?_)
          have hf := z_nm_s hf eu9
          obtain ⟨x10, ex10⟩ : ∃ z : Int32, z = (x_2 + (1 : Int32)) := ⟨_, rfl⟩
          have hf := z_nm_s hf ex10
          refine lv_iinc (v := x10) (lv' := [(2, _), (3, _), (0, _), (1, _)]) hx hb dX3_weigh_56 hl (k := 3) rfl (by rw [ex10]; rfl) (by decide) rfl (fun ls hl => ?_)
          refine lv_goto (tgt := 2) hx hb dX3_weigh_59 (by decide) ?_
          exact ih x10 u9 _ _ _ _ _ hf hC (lv_sub hl [2, 3, 0] rfl) kk
        · have hf := z_f hf c7
          refine lv_iload_n hx hb dX3_weigh_36 rfl (lv_at hl 0 rfl) ?_
          refine lv_ldc (own := RX3) (v := (4826809 : Int32)) hx hb hown kc67 dX3_weigh_37 ?_
          refine lv_imul hx hb dX3_weigh_39 ?_
          refine lv_bipush (v := (12 : Int32)) hx hb dX3_weigh_40 (by decide) ?_
          refine lv_iload_n hx hb dX3_weigh_42 rfl (lv_at hl 2 rfl) ?_
          refine lv_isub hx hb dX3_weigh_43 ?_
          refine zx_tp hx hb hown hC kf68 dX3_weigh_44 ?_
          refine lv_iload_n hx hb dX3_weigh_47 rfl (lv_at hl 3 rfl) ?_
          obtain ⟨h11, hf⟩ := z_gd_s hf
          refine zx_ta hx hb hC (z_in h11) dX3_weigh_48 ?_
          refine lv_imul hx hb dX3_weigh_49 ?_
          refine lv_iadd hx hb dX3_weigh_50 ?_
          refine lv_goto (tgt := 55) hx hb dX3_weigh_51 (by decide) ?_
          obtain ⟨h12, hf⟩ := z_gd_s hf
          refine zx_sX3_worth hx hb hC (z_in h12) dX3_weigh_55 (fun u13 eu13 H locs hC => ?_)
          have hf := z_nm_s hf eu13
          obtain ⟨x14, ex14⟩ : ∃ z : Int32, z = (x_2 + (1 : Int32)) := ⟨_, rfl⟩
          have hf := z_nm_s hf ex14
          refine lv_iinc (v := x14) (lv' := [(2, _), (3, _), (0, _), (1, _)]) hx hb dX3_weigh_56 hl (k := 3) rfl (by rw [ex14]; rfl) (by decide) rfl (fun ls hl => ?_)
          refine lv_goto (tgt := 2) hx hb dX3_weigh_59 (by decide) ?_
          exact ih x14 u13 _ _ _ _ _ hf hC (lv_sub hl [2, 3, 0] rfl) kk
set_option maxHeartbeats 4000000 in
set_option maxRecDepth 100000 in
theorem zc_X3_weigh (l : Launch) (D : va_G) (cI cJ : ClassId) (tp : Nat) (q : Nat → Nat) (u : z_St) (a_1 : Int32) {u2 : z_St} (hf : zf_X3_weigh u a_1 = some u2) : z_Mv l yX3_weigh wsX3_weigh zr_X3_weigh (zx_W cI q) (zx_G tp) D cI cJ [.ref (q 3), .int a_1] u u2 := by
  refine z_ofv (cc := cX3_weigh) (maxL := 4) (ret := none) zx_Gok (by decide) rfl (Nat.le_of_ble_eq_true rfl) ?_
  intro A p e s m args below meth c ls E hr hlk hC hl
  have E : CallFix p m c cX3_weigh 4 s args wsX3_weigh RX3 := E
  have hx := E.1
  have hb := E.2.1
  have hml := E.2.2.1
  have hown := E.2.2.2.1
  have hts := E.2.2.2.2
  have hl : lv_has ls 4 [(0, .ref (q 3)), (1, .int a_1)] := hl
  unfold zf_X3_weigh at hf
  refine lv_iconst (v := (0 : Int32)) hx hb dX3_weigh_0 (by decide) ?_
  refine lv_istore_n (lv' := [(2, _), (0, _), (1, _)]) hx hb dX3_weigh_1 rfl hl (by decide) rfl (fun ls hl => ?_)
  obtain ⟨y1, u2, py1, hf⟩ := z_bd2_s hf
  refine zl_X3_weigh_2 E a_1 5000 (0 : Int32) u _ _ _ _ _ py1 hC (lv_sub hl [1, 2, 0] rfl) (fun H locs ls hC hl => ?_)
  exact z_retv hx hb hr hlk hC (Option.some.inj hf) dX3_weigh_62
abbrev zr_X3_bestWithThing : Room := { frames := 1, cells := 0, slots := 0, locals := 21 }
theorem zd_X3_bestWithThing : yX3_bestWithThing.cls ≠ "java/lang/invoke/MethodHandle" ∧ yX3_bestWithThing.cls ≠ "java/lang/invoke/VarHandle" ∧ (parseMethodDescriptor yX3_bestWithThing.desc).map (fun d => d.parameters.length) = some 1 := by decide +kernel
theorem zi_X3_bestWithThing : ∀ w ∈ wsX30, w ∈ wsX3_bestWithThing := fun _ h => List.mem_cons_of_mem _ (List.mem_append_right _ h)
set_option maxHeartbeats 4000000 in
set_option maxRecDepth 100000 in
theorem zl_X3_bestWithThing_9 (E : CallFix p m c cX3_bestWithThing 4 s args wsX3_bestWithThing RX3) (a_1 : Int32) (u : z_St) : ∀ (n : Nat) (x_2 : Int32) (x_3 : Int32) (H : Heap) (locs : List Loc) (ls : Array Slot) (o_2 : Int32) (o_3 : Int32), zf_X3_bestWithThing_9 a_1 u n x_2 x_3 = some (o_2, o_3) → z_C (zx_W cI q) (zx_G tp) D cI cJ A s u H locs → lv_has ls 4 [(0, .ref (q 3)), (1, .int a_1), (2, .int x_2), (3, .int x_3)] → (∀ (H : Heap) (locs : List Loc) (ls : Array Slot), z_C (zx_W cI q) (zx_G tp) D cI cJ A s u H locs → lv_has ls 4 [(0, .ref (q 3)), (1, .int a_1), (2, .int o_2), (3, .int o_3)] → W p l e zr_X3_bestWithThing s m args below meth c H locs 0 0 Q (F0 m 52 ls [])) → W p l e zr_X3_bestWithThing s m args below meth c H locs 0 0 Q (F0 m 9 ls []) := by
  have hx := E.1
  have hb := E.2.1
  have hml := E.2.2.1
  have hown := E.2.2.2.1
  have hts := E.2.2.2.2
  intro n
  induction n with
  | zero =>
    intro x_2 x_3 H locs ls o_2 o_3 hf
    rw [zf_X3_bestWithThing_9.eq_1] at hf
    cases hf
  | succ n ih =>
    intro x_2 x_3 H locs ls o_2 o_3 hf hC hl kk
    rw [zf_X3_bestWithThing_9.eq_2] at hf
    have kf21 := hts (.fieldLink RX3 21 "DawnFair$Stolen" "best" "[I") (by decide +kernel)
    have kf24 := hts (.fieldLink RX3 24 "DawnFair$Stolen" "worth" "[I") (by decide +kernel)
    have km71 := hts (.methodLink RX3 71 Lib.Math.max.name) (by decide +kernel)
    have ks71 := hts (.static Lib.Math.max.name) (by decide +kernel)
    have kiMath := hts (.initialized "java/lang/Math") (by decide +kernel)
    have ko71 := hts (.code Lib.Math.max.name Lib.Math.max.code 2 (some .int)) (by decide +kernel)
    refine lv_iload_n hx hb dX3_bestWithThing_9 rfl (lv_at hl 3 rfl) ?_
    refine lv_bipush (v := (6 : Int32)) hx hb dX3_bestWithThing_10 (by decide) ?_
    refine lv_icmp_ge (tgt := 52) hx hb dX3_bestWithThing_12 (by decide) (fun c1 => ?_) (fun c1 => ?_)
    · have hf := z_t hf c1
      cases hf
      exact kk _ _ _ hC (lv_sub hl [0, 1, 2, 3] rfl)
    · have hf := z_f hf c1
      refine lv_iload_n hx hb dX3_bestWithThing_15 rfl (lv_at hl 1 rfl) ?_
      refine lv_iload_n hx hb dX3_bestWithThing_16 rfl (lv_at hl 3 rfl) ?_
      refine lv_ishr hx hb dX3_bestWithThing_17 ?_
      refine lv_iconst (v := (1 : Int32)) hx hb dX3_bestWithThing_18 (by decide) ?_
      refine lv_iand hx hb dX3_bestWithThing_19 ?_
      refine lv_iconst (v := (1 : Int32)) hx hb dX3_bestWithThing_20 (by decide) ?_
      refine lv_icmp_ne (tgt := 46) hx hb dX3_bestWithThing_21 (by decide) (fun c2 => ?_) (fun c2 => ?_)
      · have hf := z_f hf c2
        obtain ⟨x3, ex3⟩ : ∃ z : Int32, z = (x_3 + (1 : Int32)) := ⟨_, rfl⟩
        have hf := z_nm_s hf ex3
        refine lv_iinc (v := x3) (lv' := [(3, _), (0, _), (1, _), (2, _)]) hx hb dX3_bestWithThing_46 hl (k := 3) rfl (by rw [ex3]; rfl) (by decide) rfl (fun ls hl => ?_)
        refine lv_goto (tgt := 9) hx hb dX3_bestWithThing_49 (by decide) ?_
        exact ih x_2 x3 _ _ _ _ _ hf hC (lv_sub hl [1, 2, 3, 0] rfl) kk
      · have hf := z_t hf c2
        refine lv_iload_n hx hb dX3_bestWithThing_24 rfl (lv_at hl 2 rfl) ?_
        refine lv_aload_n hx hb dX3_bestWithThing_25 rfl (lv_at hl 0 rfl) ?_
        refine zx_gX3_best hx hb hts zi_X3_bestWithThing hown hC kf21 dX3_bestWithThing_26 ?_
        refine lv_iload_n hx hb dX3_bestWithThing_29 rfl (lv_at hl 1 rfl) ?_
        refine lv_iconst (v := (1 : Int32)) hx hb dX3_bestWithThing_30 (by decide) ?_
        refine lv_iload_n hx hb dX3_bestWithThing_31 rfl (lv_at hl 3 rfl) ?_
        refine lv_ishl hx hb dX3_bestWithThing_32 ?_
        refine lv_ixor hx hb dX3_bestWithThing_33 ?_
        obtain ⟨h4, hf⟩ := z_gd_s hf
        refine zx_aX3_best hx hb hC (z_in h4) dX3_bestWithThing_34 ?_
        refine lv_aload_n hx hb dX3_bestWithThing_35 rfl (lv_at hl 0 rfl) ?_
        refine zx_gX3_worth hx hb hts zi_X3_bestWithThing hown hC kf24 dX3_bestWithThing_36 ?_
        refine lv_iload_n hx hb dX3_bestWithThing_39 rfl (lv_at hl 3 rfl) ?_
        obtain ⟨h5, hf⟩ := z_gd_s hf
        refine zx_aX3_worth hx hb hC (z_in h5) dX3_bestWithThing_40 ?_
        refine lv_iadd hx hb dX3_bestWithThing_41 ?_
        refine va_mmax hx hb (hml.trans hl.1.symm) hown km71 ks71 kiMath ko71 (Nat.le_of_ble_eq_true rfl) (Nat.le_of_ble_eq_true rfl) (Nat.zero_le _) (Nat.zero_le _) dX3_bestWithThing_42 ?_
        refine lv_topi (fun x6 ex6 => ?_)
        have hf := z_nm_s hf ex6
        refine lv_istore_n (lv' := [(2, _), (0, _), (1, _), (3, _)]) hx hb dX3_bestWithThing_45 rfl hl (by decide) rfl (fun ls hl => ?_)
        obtain ⟨x7, ex7⟩ : ∃ z : Int32, z = (x_3 + (1 : Int32)) := ⟨_, rfl⟩
        have hf := z_nm_s hf ex7
        refine lv_iinc (v := x7) (lv' := [(3, _), (2, _), (0, _), (1, _)]) hx hb dX3_bestWithThing_46 hl (k := 3) rfl (by rw [ex7]; rfl) (by decide) rfl (fun ls hl => ?_)
        refine lv_goto (tgt := 9) hx hb dX3_bestWithThing_49 (by decide) ?_
        exact ih x6 x7 _ _ _ _ _ hf hC (lv_sub hl [2, 3, 1, 0] rfl) kk
set_option maxHeartbeats 4000000 in
set_option maxRecDepth 100000 in
theorem zc_X3_bestWithThing (l : Launch) (D : va_G) (cI cJ : ClassId) (tp : Nat) (q : Nat → Nat) (u : z_St) (a_1 : Int32) {r : Int32} (hf : zf_X3_bestWithThing u a_1 = some r) : z_Mi l yX3_bestWithThing wsX3_bestWithThing zr_X3_bestWithThing (zx_W cI q) (zx_G tp) D cI cJ [.ref (q 3), .int a_1] u r u := by
  refine z_ofi (cc := cX3_bestWithThing) (maxL := 4) (ret := (some .int)) zx_Gok (by decide) rfl (Nat.le_of_ble_eq_true rfl) ?_
  intro A p e s m args below meth c ls E hr hlk hC hl
  have E : CallFix p m c cX3_bestWithThing 4 s args wsX3_bestWithThing RX3 := E
  have hx := E.1
  have hb := E.2.1
  have hml := E.2.2.1
  have hown := E.2.2.2.1
  have hts := E.2.2.2.2
  have hl : lv_has ls 4 [(0, .ref (q 3)), (1, .int a_1)] := hl
  unfold zf_X3_bestWithThing at hf
  have kf21 := hts (.fieldLink RX3 21 "DawnFair$Stolen" "best" "[I") (by decide +kernel)
  refine lv_aload_n hx hb dX3_bestWithThing_0 rfl (lv_at hl 0 rfl) ?_
  refine zx_gX3_best hx hb hts zi_X3_bestWithThing hown hC kf21 dX3_bestWithThing_1 ?_
  refine lv_iload_n hx hb dX3_bestWithThing_4 rfl (lv_at hl 1 rfl) ?_
  obtain ⟨h1, hf⟩ := z_gd_s hf
  refine zx_aX3_best hx hb hC (z_in h1) dX3_bestWithThing_5 ?_
  refine lv_topi (fun x2 ex2 => ?_)
  have hf := z_nm_s hf ex2
  refine lv_istore_n (lv' := [(2, _), (0, _), (1, _)]) hx hb dX3_bestWithThing_6 rfl hl (by decide) rfl (fun ls hl => ?_)
  refine lv_iconst (v := (0 : Int32)) hx hb dX3_bestWithThing_7 (by decide) ?_
  refine lv_istore_n (lv' := [(3, _), (2, _), (0, _), (1, _)]) hx hb dX3_bestWithThing_8 rfl hl (by decide) rfl (fun ls hl => ?_)
  obtain ⟨y3, y4, py3, hf⟩ := z_bd2_s hf
  refine zl_X3_bestWithThing_9 E a_1 u 5000 x2 (0 : Int32) _ _ _ _ _ py3 hC (lv_sub hl [2, 3, 1, 0] rfl) (fun H locs ls hC hl => ?_)
  refine lv_iload_n hx hb dX3_bestWithThing_52 rfl (lv_at hl 2 rfl) ?_
  exact z_reti hx hb hr hlk hC (Option.some.inj hf) rfl dX3_bestWithThing_53
abbrev zr_J7_fill_53178 : Room := { frames := 0, cells := 0, slots := 0, locals := 0 }
theorem zd_J7_fill_53178 : yJ7_fill_53178.cls ≠ "java/lang/invoke/MethodHandle" ∧ yJ7_fill_53178.cls ≠ "java/lang/invoke/VarHandle" ∧ (parseMethodDescriptor yJ7_fill_53178.desc).map (fun d => d.parameters.length) = some 2 := by decide +kernel
set_option maxHeartbeats 4000000 in
set_option maxRecDepth 100000 in
theorem zl_J7_fill_53178_5 (E : CallFix p m c cJ7_fill_53178 4 s args wsJ7_fill_53178 RJ7) (a_1 : Int32) (a_3 : Int32) : ∀ (n : Nat) (x_2 : Int32) (u : z_St) (H : Heap) (locs : List Loc) (ls : Array Slot) (o_2 : Int32) (ou : z_St), zf_J7_fill_53178_5 a_1 a_3 n x_2 u = some (o_2, ou) → z_C (zx_W cI q) (zx_G tp) D cI cJ A s u H locs → lv_has ls 4 [(0, .ref (q 23)), (1, .int a_1), (2, .int x_2), (3, .int a_3)] → (∀ (H : Heap) (locs : List Loc) (ls : Array Slot), z_C (zx_W cI q) (zx_G tp) D cI cJ A s ou H locs → lv_has ls 4 [(0, .ref (q 23)), (1, .int a_1), (2, .int o_2), (3, .int a_3)] → W p l e zr_J7_fill_53178 s m args below meth c H locs 0 0 Q (F0 m 20 ls [])) → W p l e zr_J7_fill_53178 s m args below meth c H locs 0 0 Q (F0 m 5 ls []) := by
  have hx := E.1
  have hb := E.2.1
  have hml := E.2.2.1
  have hown := E.2.2.2.1
  have hts := E.2.2.2.2
  intro n
  induction n with
  | zero =>
    intro x_2 u H locs ls o_2 ou hf
    rw [zf_J7_fill_53178_5.eq_1] at hf
    cases hf
  | succ n ih =>
    intro x_2 u H locs ls o_2 ou hf hC hl kk
    rw [zf_J7_fill_53178_5.eq_2] at hf
    refine lv_iload_n hx hb dJ7_fill_53178_5 rfl (lv_at hl 2 rfl) ?_
    refine lv_iload_n hx hb dJ7_fill_53178_6 rfl (lv_at hl 3 rfl) ?_
    refine lv_icmp_ge (tgt := 20) hx hb dJ7_fill_53178_7 (by decide) (fun c1 => ?_) (fun c1 => ?_)
    · have hf := z_t hf c1
      cases hf
      exact kk _ _ _ hC (lv_sub hl [0, 1, 2, 3] rfl)
    · have hf := z_f hf c1
      refine lv_aload_n hx hb dJ7_fill_53178_10 rfl (lv_at hl 0 rfl) ?_
      refine lv_iload_n hx hb dJ7_fill_53178_11 rfl (lv_at hl 2 rfl) ?_
      refine lv_iload_n hx hb dJ7_fill_53178_12 rfl (lv_at hl 1 rfl) ?_
      obtain ⟨h2, hf⟩ := z_gd_s hf
      refine zx_sX3_best hx hb hC (z_in h2) dJ7_fill_53178_13 (fun u3 eu3 H locs hC => ?_)
      have hf := z_nm_s hf eu3
      obtain ⟨x4, ex4⟩ : ∃ z : Int32, z = (x_2 + (1 : Int32)) := ⟨_, rfl⟩
      have hf := z_nm_s hf ex4
      refine lv_iinc (v := x4) (lv' := [(2, _), (0, _), (1, _), (3, _)]) hx hb dJ7_fill_53178_14 hl (k := 2) rfl (by rw [ex4]; rfl) (by decide) rfl (fun ls hl => ?_)
      refine lv_goto (tgt := 5) hx hb dJ7_fill_53178_17 (by decide) ?_
      exact ih x4 u3 _ _ _ _ _ hf hC (lv_sub hl [1, 2, 0, 3] rfl) kk
set_option maxHeartbeats 4000000 in
set_option maxRecDepth 100000 in
theorem zc_fill13 (l : Launch) (D : va_G) (cI cJ : ClassId) (tp : Nat) (q : Nat → Nat) (u : z_St) (a_1 : Int32) {u2 : z_St} (hf : zf_fill13 u a_1 = some u2) : z_Mv l yJ7_fill_53178 wsJ7_fill_53178 zr_J7_fill_53178 (zx_W cI q) (zx_G tp) D cI cJ [.ref (q 23), .int a_1] u u2 := by
  refine z_ofv (cc := cJ7_fill_53178) (maxL := 4) (ret := none) zx_Gok (by decide) rfl (Nat.le_of_ble_eq_true rfl) ?_
  intro A p e s m args below meth c ls E hr hlk hC hl
  have E : CallFix p m c cJ7_fill_53178 4 s args wsJ7_fill_53178 RJ7 := E
  have hx := E.1
  have hb := E.2.1
  have hml := E.2.2.1
  have hown := E.2.2.2.1
  have hts := E.2.2.2.2
  have hl : lv_has ls 4 [(0, .ref (q 23)), (1, .int a_1)] := hl
  unfold zf_fill13 at hf
  refine lv_iconst (v := (0 : Int32)) hx hb dJ7_fill_53178_0 (by decide) ?_
  refine lv_istore_n (lv' := [(2, _), (0, _), (1, _)]) hx hb dJ7_fill_53178_1 rfl hl (by decide) rfl (fun ls hl => ?_)
  refine lv_aload_n hx hb dJ7_fill_53178_2 rfl (lv_at hl 1 rfl) ?_
  refine zx_nX3_best hx hb hC dJ7_fill_53178_3 ?_
  refine lv_istore_n (lv' := [(3, _), (2, _), (0, _), (1, _)]) hx hb dJ7_fill_53178_4 rfl hl (by decide) rfl (fun ls hl => ?_)
  obtain ⟨y1, u2, py1, hf⟩ := z_bd2_s hf
  refine zl_J7_fill_53178_5 E a_1 (64 : Int32) 5000 (0 : Int32) u _ _ _ _ _ py1 hC (lv_sub hl [2, 3, 1, 0] rfl) (fun H locs ls hC hl => ?_)
  exact z_retv hx hb hr hlk hC (Option.some.inj hf) dJ7_fill_53178_20
abbrev zr_X3_bestJoin : Room := { frames := 3, cells := 0, slots := 0, locals := 66 }
theorem zd_X3_bestJoin : yX3_bestJoin.cls ≠ "java/lang/invoke/MethodHandle" ∧ yX3_bestJoin.cls ≠ "java/lang/invoke/VarHandle" ∧ (parseMethodDescriptor yX3_bestJoin.desc).map (fun d => d.parameters.length) = some 1 := by decide +kernel
theorem zi_X3_bestJoin : ∀ w ∈ wsX30, w ∈ wsX3_bestJoin := fun _ h => List.mem_cons_of_mem _ (List.mem_append_right _ h)
set_option maxHeartbeats 4000000 in
set_option maxRecDepth 100000 in
theorem zl_X3_bestJoin_37 (E : CallFix p m c cX3_bestJoin 5 s args wsX3_bestJoin RX3) (a_1 : Int32) (a_2 : Int32) (a_3 : Int32) : ∀ (n : Nat) (x_4 : Int32) (u : z_St) (H : Heap) (locs : List Loc) (ls : Array Slot) (o_4 : Int32) (ou : z_St), zf_X3_bestJoin_37 n x_4 u = some (o_4, ou) → z_C (zx_W cI q) (zx_G tp) D cI cJ A s u H locs → lv_has ls 5 [(0, .ref (q 3)), (1, .int a_1), (2, .int a_2), (3, .int a_3), (4, .int x_4)] → (∀ (H : Heap) (locs : List Loc) (ls : Array Slot), z_C (zx_W cI q) (zx_G tp) D cI cJ A s ou H locs → lv_has ls 5 [(0, .ref (q 3)), (1, .int a_1), (2, .int a_2), (3, .int a_3), (4, .int o_4)] → W p l e zr_X3_bestJoin s m args below meth c H locs 0 0 Q (F0 m 61 ls [])) → W p l e zr_X3_bestJoin s m args below meth c H locs 0 0 Q (F0 m 37 ls []) := by
  have hx := E.1
  have hb := E.2.1
  have hml := E.2.2.1
  have hown := E.2.2.2.1
  have hts := E.2.2.2.2
  intro n
  induction n with
  | zero =>
    intro x_4 u H locs ls o_4 ou hf
    rw [zf_X3_bestJoin_37.eq_1] at hf
    cases hf
  | succ n ih =>
    intro x_4 u H locs ls o_4 ou hf hC hl kk
    rw [zf_X3_bestJoin_37.eq_2] at hf
    have kf21 := hts (.fieldLink RX3 21 "DawnFair$Stolen" "best" "[I") (by decide +kernel)
    refine lv_iload hx hb dX3_bestJoin_37 (lv_at hl 4 rfl) ?_
    refine lv_if_le (tgt := 61) hx hb dX3_bestJoin_39 (by decide) (fun c1 => ?_) (fun c1 => ?_)
    · have hf := z_t hf c1
      cases hf
      exact kk _ _ _ hC (lv_sub hl [0, 1, 2, 3, 4] rfl)
    · have hf := z_f hf c1
      refine lv_aload_n hx hb dX3_bestJoin_42 rfl (lv_at hl 0 rfl) ?_
      refine zx_gX3_best hx hb hts zi_X3_bestJoin hown hC kf21 dX3_bestJoin_43 ?_
      refine lv_iload hx hb dX3_bestJoin_46 (lv_at hl 4 rfl) ?_
      refine lv_aload_n hx hb dX3_bestJoin_48 rfl (lv_at hl 0 rfl) ?_
      refine lv_iload hx hb dX3_bestJoin_49 (lv_at hl 4 rfl) ?_
      obtain ⟨r2, pr2, hf⟩ := z_bd_s hf
      refine z_calli hC (z_runV (rest := [_, _]) zx_Gok hC E (zc_X3_bestWithThing l D cI cJ tp q u x_4 pr2 _) (cwV 1 hts gX3_bestJoin_X3_bestWithThing rfl rfl rfl ⟨rfl, zd_X3_bestWithThing⟩ ⟨Nat.le_of_ble_eq_true rfl, Nat.le_of_ble_eq_true rfl⟩) (zx_rcX3 hC) rfl hl.1 rfl (Nat.le_of_ble_eq_true rfl) dX3_bestJoin_51 ⟨Nat.zero_le _, Nat.zero_le _⟩) (fun H locs hC => ?_)
      obtain ⟨h3, hf⟩ := z_gd_s hf
      refine zx_sX3_best hx hb hC (z_in h3) dX3_bestJoin_54 (fun u4 eu4 H locs hC => ?_)
      have hf := z_nm_s hf eu4
      obtain ⟨x5, ex5⟩ : ∃ z : Int32, z = (x_4 + (-1 : Int32)) := ⟨_, rfl⟩
      have hf := z_nm_s hf ex5
      refine lv_iinc (v := x5) (lv' := [(4, _), (0, _), (1, _), (2, _), (3, _)]) hx hb dX3_bestJoin_55 hl (k := 4) rfl (by rw [ex5]; rfl) (by decide) rfl (fun ls hl => ?_)
      refine lv_goto (tgt := 37) hx hb dX3_bestJoin_58 (by decide) ?_
      exact ih x5 u4 _ _ _ _ _ hf hC (lv_sub hl [1, 2, 3, 4, 0] rfl) kk
set_option maxHeartbeats 4000000 in
set_option maxRecDepth 100000 in
theorem zl_X3_bestJoin_22 (E : CallFix p m c cX3_bestJoin 5 s args wsX3_bestJoin RX3) (a_1 : Int32) (a_2 : Int32) : ∀ (n : Nat) (x_3 : Int32) (u : z_St) (H : Heap) (locs : List Loc) (ls : Array Slot) (o_3 : Int32) (ou : z_St), zf_X3_bestJoin_22 a_1 a_2 n x_3 u = some (o_3, ou) → z_C (zx_W cI q) (zx_G tp) D cI cJ A s u H locs → lv_has ls 5 [(0, .ref (q 3)), (1, .int a_1), (2, .int a_2), (3, .int x_3)] → (∀ (H : Heap) (locs : List Loc) (ls : Array Slot), z_C (zx_W cI q) (zx_G tp) D cI cJ A s ou H locs → lv_has ls 5 [(0, .ref (q 3)), (1, .int a_1), (2, .int a_2), (3, .int o_3)] → W p l e zr_X3_bestJoin s m args below meth c H locs 0 0 Q (F0 m 67 ls [])) → W p l e zr_X3_bestJoin s m args below meth c H locs 0 0 Q (F0 m 22 ls []) := by
  have hx := E.1
  have hb := E.2.1
  have hml := E.2.2.1
  have hown := E.2.2.2.1
  have hts := E.2.2.2.2
  intro n
  induction n with
  | zero =>
    intro x_3 u H locs ls o_3 ou hf
    rw [zf_X3_bestJoin_22.eq_1] at hf
    cases hf
  | succ n ih =>
    intro x_3 u H locs ls o_3 ou hf hC hl kk
    rw [zf_X3_bestJoin_22.eq_2] at hf
    refine lv_iload_n hx hb dX3_bestJoin_22 rfl (lv_at hl 3 rfl) ?_
    refine lv_iload_n hx hb dX3_bestJoin_23 rfl (lv_at hl 1 rfl) ?_
    refine lv_icmp_ge (tgt := 67) hx hb dX3_bestJoin_24 (by decide) (fun c1 => ?_) (fun c1 => ?_)
    · have hf := z_t hf c1
      cases hf
      exact kk _ _ _ hC (lv_sub hl [0, 1, 2, 3] rfl)
    · have hf := z_f hf c1
      refine lv_aload_n hx hb dX3_bestJoin_27 rfl (lv_at hl 0 rfl) ?_
      refine lv_iload_n hx hb dX3_bestJoin_28 rfl (lv_at hl 3 rfl) ?_
      obtain ⟨u2, pu2, hf⟩ := z_bd_s hf
      refine z_callv hC (z_runV (rest := []) zx_Gok hC E (zc_X3_weigh l D cI cJ tp q u x_3 pu2 _) (cwV 1 hts gX3_bestJoin_X3_weigh rfl rfl rfl ⟨rfl, zd_X3_weigh⟩ ⟨Nat.le_of_ble_eq_true rfl, Nat.le_of_ble_eq_true rfl⟩) (zx_rcX3 hC) rfl hl.1 rfl (Nat.le_of_ble_eq_true rfl) dX3_bestJoin_29 ⟨Nat.zero_le _, Nat.zero_le _⟩) (fun H locs hC => ?_)
      refine lv_iload_n hx hb dX3_bestJoin_32 rfl (lv_at hl 2 rfl) ?_
      refine lv_iconst (v := (1 : Int32)) hx hb dX3_bestJoin_33 (by decide) ?_
      refine lv_isub hx hb dX3_bestJoin_34 ?_
      refine lv_topi (fun x3 ex3 => ?_)
      have hf := z_nm_s hf ex3
      refine lv_istore (lv' := [(4, _), (0, _), (1, _), (2, _), (3, _)]) hx hb dX3_bestJoin_35 hl (by decide) rfl (fun ls hl => ?_)
      obtain ⟨y4, u5, py4, hf⟩ := z_bd2_s hf
      refine zl_X3_bestJoin_37 E a_1 a_2 x_3 5000 x3 u2 _ _ _ _ _ py4 hC (lv_sub hl [1, 2, 3, 4, 0] rfl) (fun H locs ls hC hl => ?_)
      obtain ⟨x6, ex6⟩ : ∃ z : Int32, z = (x_3 + (1 : Int32)) := ⟨_, rfl⟩
      have hf := z_nm_s hf ex6
      refine lv_iinc (v := x6) (lv' := [(3, _), (0, _), (1, _), (2, _), (4, _)]) hx hb dX3_bestJoin_61 hl (k := 3) rfl (by rw [ex6]; rfl) (by decide) rfl (fun ls hl => ?_)
      refine lv_goto (tgt := 22) hx hb dX3_bestJoin_64 (by decide) ?_
      exact ih x6 u5 _ _ _ _ _ hf hC (lv_sub hl [1, 2, 3, 0] rfl) kk
set_option maxHeartbeats 4000000 in
set_option maxRecDepth 100000 in
theorem zc_X3_bestJoin (l : Launch) (D : va_G) (cI cJ : ClassId) (tp : Nat) (q : Nat → Nat) (u : z_St) (a_1 : Int32) {r : Int32} {u2 : z_St} (hf : zf_X3_bestJoin u a_1 = some (r, u2)) : z_Mi l yX3_bestJoin wsX3_bestJoin zr_X3_bestJoin (zx_W cI q) (zx_G tp) D cI cJ [.ref (q 3), .int a_1] u r u2 := by
  refine z_ofi (cc := cX3_bestJoin) (maxL := 5) (ret := (some .int)) zx_Gok (by decide) rfl (Nat.le_of_ble_eq_true rfl) ?_
  intro A p e s m args below meth c ls E hr hlk hC hl
  have E : CallFix p m c cX3_bestJoin 5 s args wsX3_bestJoin RX3 := E
  have hx := E.1
  have hb := E.2.1
  have hml := E.2.2.1
  have hown := E.2.2.2.1
  have hts := E.2.2.2.2
  have hl : lv_has ls 5 [(0, .ref (q 3)), (1, .int a_1)] := hl
  unfold zf_X3_bestJoin at hf
  have kf27 := hts (.fieldLink RX3 27 "DawnFair$Stolen" "entries" "I") (by decide +kernel)
  have km41 := hts (.methodLink RX3 41 Lib.Math.min.name) (by decide +kernel)
  have ks41 := hts (.static Lib.Math.min.name) (by decide +kernel)
  have kiMath := hts (.initialized "java/lang/Math") (by decide +kernel)
  have ko41 := hts (.code Lib.Math.min.name Lib.Math.min.code 2 (some .int)) (by decide +kernel)
  have kf21 := hts (.fieldLink RX3 21 "DawnFair$Stolen" "best" "[I") (by decide +kernel)
  refine lv_iconst (v := (1 : Int32)) hx hb dX3_bestJoin_0 (by decide) ?_
  refine lv_aload_n hx hb dX3_bestJoin_1 rfl (lv_at hl 0 rfl) ?_
  refine zx_gX3_entries hx hb hts zi_X3_bestJoin hown hC kf27 dX3_bestJoin_2 ?_
  refine lv_bipush (v := (6 : Int32)) hx hb dX3_bestJoin_5 (by decide) ?_
  refine va_mmin hx hb (hml.trans hl.1.symm) hown km41 ks41 kiMath ko41 (Nat.le_of_ble_eq_true rfl) (Nat.le_of_ble_eq_true rfl) (Nat.zero_le _) (Nat.zero_le _) dX3_bestJoin_7 ?_
  refine lv_ishl hx hb dX3_bestJoin_10 ?_
  refine lv_topi (fun x1 ex1 => ?_)
  have hf := z_nm_s hf ex1
  refine lv_istore_n (lv' := [(2, _), (0, _), (1, _)]) hx hb dX3_bestJoin_11 rfl hl (by decide) rfl (fun ls hl => ?_)
  refine lv_aload_n hx hb dX3_bestJoin_12 rfl (lv_at hl 1 rfl) ?_
  refine zx_gX3_best hx hb hts zi_X3_bestJoin hown hC kf21 dX3_bestJoin_13 ?_
  refine lv_iconst (v := (0 : Int32)) hx hb dX3_bestJoin_16 (by decide) ?_
  obtain ⟨u2, pu2, hf⟩ := z_bd_s hf
  refine z_callv hC (z_runS (rest := []) zx_Gok hC E (zc_fill13 l D cI cJ tp q u (0 : Int32) pu2 _) (va_cwS 2 hts gX3_bestJoin_J7_fill_53178 rfl rfl rfl zd_J7_fill_53178 ⟨Nat.le_of_ble_eq_true rfl, Nat.le_of_ble_eq_true rfl⟩) rfl hl.1 rfl (Nat.le_of_ble_eq_true rfl) dX3_bestJoin_17 ⟨Nat.zero_le _, Nat.zero_le _⟩) (fun H locs hC => ?_)
  refine lv_iconst (v := (0 : Int32)) hx hb dX3_bestJoin_20 (by decide) ?_
  refine lv_istore_n (lv' := [(3, _), (2, _), (0, _), (1, _)]) hx hb dX3_bestJoin_21 rfl hl (by decide) rfl (fun ls hl => ?_)
  obtain ⟨y3, u4, py3, hf⟩ := z_bd2_s hf
  refine zl_X3_bestJoin_22 E a_1 x1 5000 (0 : Int32) u2 _ _ _ _ _ py3 hC (lv_sub hl [2, 3, 1, 0] rfl) (fun H locs ls hC hl => ?_)
  refine lv_aload_n hx hb dX3_bestJoin_67 rfl (lv_at hl 0 rfl) ?_
  refine zx_gX3_best hx hb hts zi_X3_bestJoin hown hC kf21 dX3_bestJoin_68 ?_
  refine lv_iload_n hx hb dX3_bestJoin_71 rfl (lv_at hl 2 rfl) ?_
  refine lv_iconst (v := (1 : Int32)) hx hb dX3_bestJoin_72 (by decide) ?_
  refine lv_isub hx hb dX3_bestJoin_73 ?_
  obtain ⟨h5, hf⟩ := z_gd_s hf
  refine zx_aX3_best hx hb hC (z_in h5) dX3_bestJoin_74 ?_
  exact z_reti hx hb hr hlk hC (Prod.mk.inj (Option.some.inj hf)).1 (Prod.mk.inj (Option.some.inj hf)).2 dX3_bestJoin_75
abbrev zr_X3_sumIn : Room := { frames := 0, cells := 0, slots := 0, locals := 0 }
theorem zd_X3_sumIn : yX3_sumIn.cls ≠ "java/lang/invoke/MethodHandle" ∧ yX3_sumIn.cls ≠ "java/lang/invoke/VarHandle" ∧ (parseMethodDescriptor yX3_sumIn.desc).map (fun d => d.parameters.length) = some 1 := by decide +kernel
set_option maxHeartbeats 4000000 in
set_option maxRecDepth 100000 in
theorem zc_X3_sumIn (l : Launch) (D : va_G) (cI cJ : ClassId) (tp : Nat) (q : Nat → Nat) (u : z_St) (a_0 : Int32) {r : Int32} (hf : zf_X3_sumIn a_0 = r) : z_Mi l yX3_sumIn wsX3_sumIn zr_X3_sumIn (zx_W cI q) (zx_G tp) D cI cJ [.int a_0] u r u := by
  refine z_ofi (cc := cX3_sumIn) (maxL := 1) (ret := (some .int)) zx_Gok (by decide) rfl (Nat.le_of_ble_eq_true rfl) ?_
  intro A p e s m args below meth c ls E hr hlk hC hl
  have E : CallFix p m c cX3_sumIn 1 s args wsX3_sumIn RX3 := E
  have hx := E.1
  have hb := E.2.1
  have hml := E.2.2.1
  have hown := E.2.2.2.1
  have hts := E.2.2.2.2
  have hl : lv_has ls 1 [(0, .int a_0)] := hl
  unfold zf_X3_sumIn at hf
  have kc67 := hts (.constant RX3 67 (4826809)) (by decide +kernel)
  refine lv_iload_n hx hb dX3_sumIn_0 rfl (lv_at hl 0 rfl) ?_
  refine lv_ldc (own := RX3) (v := (4826809 : Int32)) hx hb hown kc67 dX3_sumIn_1 ?_
  refine lv_idiv hx hb dX3_sumIn_3 (by decide) ?_
  exact z_reti hx hb hr hlk hC hf rfl dX3_sumIn_4
abbrev zr_X3_thingIn : Room := { frames := 1, cells := 0, slots := 0, locals := 22 }
theorem zd_X3_thingIn : yX3_thingIn.cls ≠ "java/lang/invoke/MethodHandle" ∧ yX3_thingIn.cls ≠ "java/lang/invoke/VarHandle" ∧ (parseMethodDescriptor yX3_thingIn.desc).map (fun d => d.parameters.length) = some 2 := by decide +kernel
set_option maxHeartbeats 4000000 in
set_option maxRecDepth 100000 in
theorem zc_X3_thingIn (l : Launch) (D : va_G) (cI cJ : ClassId) (tp : Nat) (q : Nat → Nat) (u : z_St) (a_0 : Int32) (a_1 : Int32) {r : Int32} (hf : zf_X3_thingIn a_0 a_1 = some r) : z_Mi l yX3_thingIn wsX3_thingIn zr_X3_thingIn (zx_W cI q) (zx_G tp) D cI cJ [.int a_0, .int a_1] u r u := by
  refine z_ofi (cc := cX3_thingIn) (maxL := 3) (ret := (some .int)) zx_Gok (by decide) rfl (Nat.le_of_ble_eq_true rfl) ?_
  intro A p e s m args below meth c ls E hr hlk hC hl
  have E : CallFix p m c cX3_thingIn 3 s args wsX3_thingIn RX3 := E
  have hx := E.1
  have hb := E.2.1
  have hml := E.2.2.1
  have hown := E.2.2.2.1
  have hts := E.2.2.2.2
  have hl : lv_has ls 3 [(0, .int a_0), (1, .int a_1)] := hl
  unfold zf_X3_thingIn at hf
  have kiX5 := hts (.initialized RX5) (by decide +kernel)
  have ks31 := hts (.static yX5_within) (by decide +kernel)
  have kf68 := hts (.fieldLink RX3 68 "DawnFair$Stolen" "PLACES" "[I") (by decide +kernel)
  refine lv_iload_n hx hb dX3_thingIn_0 rfl (lv_at hl 1 rfl) ?_
  refine lv_iconst (v := (0 : Int32)) hx hb dX3_thingIn_1 (by decide) ?_
  refine lv_iconst (v := (5 : Int32)) hx hb dX3_thingIn_2 (by decide) ?_
  refine z_calli hC (z_runSN (rest := []) zx_Gok hC E (zc_X5_within l D cI cJ tp q u a_1 (0 : Int32) (5 : Int32) rfl _) ⟨va_cnB 3 hts gX3_thingIn_X5_within_n31 rfl rfl rfl (zx_nst hC).2.2.2.1 kiX5 zd_X5_within ⟨Nat.le_of_ble_eq_true rfl, Nat.le_of_ble_eq_true rfl⟩, ks31, trivial⟩ rfl hl.1 rfl (Nat.le_of_ble_eq_true rfl) dX3_thingIn_3 ⟨Nat.zero_le _, Nat.zero_le _⟩) (fun H locs hC => ?_)
  refine lv_if_ne (tgt := 11) hx hb dX3_thingIn_6 (by decide) (fun c1 => ?_) (fun c1 => ?_)
  · have hf := z_f hf c1
    refine lv_iload_n hx hb dX3_thingIn_11 rfl (lv_at hl 0 rfl) ?_
    refine zx_tp hx hb hown hC kf68 dX3_thingIn_12 ?_
    refine lv_iload_n hx hb dX3_thingIn_15 rfl (lv_at hl 1 rfl) ?_
    obtain ⟨h2, hf⟩ := z_gd_s hf
    refine zx_ta hx hb hC (z_in h2) dX3_thingIn_16 ?_
    obtain ⟨h3, hf⟩ := z_gd_s hf
    refine lv_idiv hx hb dX3_thingIn_17 (z_nz_s h3) ?_
    refine lv_bipush (v := (13 : Int32)) hx hb dX3_thingIn_18 (by decide) ?_
    refine lv_irem hx hb dX3_thingIn_20 (by decide) ?_
    refine lv_topi (fun x4 ex4 => ?_)
    have hf := z_nm_s hf ex4
    refine lv_istore_n (lv' := [(2, _), (0, _), (1, _)]) hx hb dX3_thingIn_21 rfl hl (by decide) rfl (fun ls hl => ?_)
    refine lv_iload_n hx hb dX3_thingIn_22 rfl (lv_at hl 0 rfl) ?_
    refine lv_if_ne (tgt := 30) hx hb dX3_thingIn_23 (by decide) (fun c5 => ?_) (fun c5 => ?_)
    · have hf := z_f hf c5
      refine lv_bipush (v := (12 : Int32)) hx hb dX3_thingIn_30 (by decide) ?_
      refine lv_iload_n hx hb dX3_thingIn_32 rfl (lv_at hl 0 rfl) ?_
      refine lv_isub hx hb dX3_thingIn_33 ?_
      exact z_reti hx hb hr hlk hC (Option.some.inj hf) rfl dX3_thingIn_34
    · have hf := z_t hf c5
      refine lv_iconst (v := (-1 : Int32)) hx hb dX3_thingIn_26 (by decide) ?_
      refine lv_goto (tgt := 34) hx hb dX3_thingIn_27 (by decide) ?_
      exact z_reti hx hb hr hlk hC (Option.some.inj hf) rfl dX3_thingIn_34
  · have hf := z_t hf c1
    refine lv_iconst (v := (-1 : Int32)) hx hb dX3_thingIn_9 (by decide) ?_
    exact z_reti hx hb hr hlk hC (Option.some.inj hf) rfl dX3_thingIn_10
abbrev zr_X3_mixMarks : Room := { frames := 1, cells := 0, slots := 0, locals := 22 }
theorem zd_X3_mixMarks : yX3_mixMarks.cls ≠ "java/lang/invoke/MethodHandle" ∧ yX3_mixMarks.cls ≠ "java/lang/invoke/VarHandle" ∧ (parseMethodDescriptor yX3_mixMarks.desc).map (fun d => d.parameters.length) = some 2 := by decide +kernel
theorem zi_X3_mixMarks : ∀ w ∈ wsX30, w ∈ wsX3_mixMarks := fun _ h => List.mem_cons_of_mem _ (List.mem_append_right _ h)
set_option maxHeartbeats 4000000 in
set_option maxRecDepth 100000 in
theorem zc_X3_mixMarks (l : Launch) (D : va_G) (cI cJ : ClassId) (tp : Nat) (q : Nat → Nat) (u : z_St) (a_1 : Int64) (a_3 : Int32) {r : Int64} (hf : zf_X3_mixMarks u a_1 a_3 = some r) : z_Ml l yX3_mixMarks wsX3_mixMarks zr_X3_mixMarks (zx_W cI q) (zx_G tp) D cI cJ [.ref (q 3), .long a_1, .int a_3] u r u := by
  refine z_ofl (cc := cX3_mixMarks) (maxL := 4) (ret := (some .long)) zx_Gok (by decide) rfl (Nat.le_of_ble_eq_true rfl) ?_
  intro A p e s m args below meth c ls E hr hlk hC hl
  have E : CallFix p m c cX3_mixMarks 4 s args wsX3_mixMarks RX3 := E
  have hx := E.1
  have hb := E.2.1
  have hml := E.2.2.1
  have hown := E.2.2.2.1
  have hts := E.2.2.2.2
  have hl : lv_has ls 4 [(0, .ref (q 3)), (1, .long a_1), (3, .int a_3)] := hl
  unfold zf_X3_mixMarks at hf
  have kf15 := hts (.fieldLink RX3 15 "DawnFair$Stolen" "seen" "[I") (by decide +kernel)
  have kiX5 := hts (.initialized RX5) (by decide +kernel)
  have ks74 := hts (.static yX5_mix) (by decide +kernel)
  have kf18 := hts (.fieldLink RX3 18 "DawnFair$Stolen" "lacked" "[I") (by decide +kernel)
  refine lv_lload_n hx hb dX3_mixMarks_0 rfl (lv_at hl 1 rfl) ?_
  refine lv_aload_n hx hb dX3_mixMarks_1 rfl (lv_at hl 0 rfl) ?_
  refine zx_gX3_seen hx hb hts zi_X3_mixMarks hown hC kf15 dX3_mixMarks_2 ?_
  refine lv_iload_n hx hb dX3_mixMarks_5 rfl (lv_at hl 2 rfl) ?_
  obtain ⟨h1, hf⟩ := z_gd_s hf
  refine zx_aX3_seen hx hb hC (z_in h1) dX3_mixMarks_6 ?_
  refine z_calll hC (z_runSN (rest := []) zx_Gok hC E (zc_X5_mix l D cI cJ tp q u a_1 (z_rI u 11 a_3.toNatClampNeg) rfl _) ⟨va_cnB 2 hts gX3_mixMarks_X5_mix_n74 rfl rfl rfl (zx_nst hC).2.2.2.2.1 kiX5 zd_X5_mix ⟨Nat.le_of_ble_eq_true rfl, Nat.le_of_ble_eq_true rfl⟩, ks74, trivial⟩ rfl hl.1 rfl (Nat.le_of_ble_eq_true rfl) dX3_mixMarks_7 ⟨Nat.zero_le _, Nat.zero_le _⟩) (fun H locs hC => ?_)
  refine lv_aload_n hx hb dX3_mixMarks_10 rfl (lv_at hl 0 rfl) ?_
  refine zx_gX3_lacked hx hb hts zi_X3_mixMarks hown hC kf18 dX3_mixMarks_11 ?_
  refine lv_iload_n hx hb dX3_mixMarks_14 rfl (lv_at hl 2 rfl) ?_
  obtain ⟨h2, hf⟩ := z_gd_s hf
  refine zx_aX3_lacked hx hb hC (z_in h2) dX3_mixMarks_15 ?_
  refine z_calll hC (z_runSN (rest := []) zx_Gok hC E (zc_X5_mix l D cI cJ tp q u (zf_X5_mix a_1 (z_rI u 11 a_3.toNatClampNeg)) (z_rI u 12 a_3.toNatClampNeg) rfl _) ⟨va_cnB 2 hts gX3_mixMarks_X5_mix_n74 rfl rfl rfl (zx_nst hC).2.2.2.2.1 kiX5 zd_X5_mix ⟨Nat.le_of_ble_eq_true rfl, Nat.le_of_ble_eq_true rfl⟩, ks74, trivial⟩ rfl hl.1 rfl (Nat.le_of_ble_eq_true rfl) dX3_mixMarks_16 ⟨Nat.zero_le _, Nat.zero_le _⟩) (fun H locs hC => ?_)
  exact z_retl hx hb hr hlk hC (Option.some.inj hf) rfl dX3_mixMarks_19
abbrev zr_X3_mixEntries : Room := { frames := 1, cells := 0, slots := 0, locals := 22 }
theorem zd_X3_mixEntries : yX3_mixEntries.cls ≠ "java/lang/invoke/MethodHandle" ∧ yX3_mixEntries.cls ≠ "java/lang/invoke/VarHandle" ∧ (parseMethodDescriptor yX3_mixEntries.desc).map (fun d => d.parameters.length) = some 1 := by decide +kernel
theorem zi_X3_mixEntries : ∀ w ∈ wsX30, w ∈ wsX3_mixEntries := fun _ h => List.mem_cons_of_mem _ (List.mem_append_right _ h)
set_option maxHeartbeats 4000000 in
set_option maxRecDepth 100000 in
theorem zl_X3_mixEntries_5 (E : CallFix p m c cX3_mixEntries 6 s args wsX3_mixEntries RX3) (u : z_St) : ∀ (n : Nat) (x_3 : Int64) (x_5 : Int32) (H : Heap) (locs : List Loc) (ls : Array Slot) (o_3 : Int64) (o_5 : Int32), zf_X3_mixEntries_5 u n x_3 x_5 = some (o_3, o_5) → z_C (zx_W cI q) (zx_G tp) D cI cJ A s u H locs → lv_has ls 6 [(0, .ref (q 3)), (3, .long x_3), (5, .int x_5)] → (∀ (H : Heap) (locs : List Loc) (ls : Array Slot), z_C (zx_W cI q) (zx_G tp) D cI cJ A s u H locs → lv_has ls 6 [(0, .ref (q 3)), (3, .long o_3), (5, .int o_5)] → W p l e zr_X3_mixEntries s m args below meth c H locs 0 0 Q (F0 m 32 ls [])) → W p l e zr_X3_mixEntries s m args below meth c H locs 0 0 Q (F0 m 5 ls []) := by
  have hx := E.1
  have hb := E.2.1
  have hml := E.2.2.1
  have hown := E.2.2.2.1
  have hts := E.2.2.2.2
  intro n
  induction n with
  | zero =>
    intro x_3 x_5 H locs ls o_3 o_5 hf
    rw [zf_X3_mixEntries_5.eq_1] at hf
    cases hf
  | succ n ih =>
    intro x_3 x_5 H locs ls o_3 o_5 hf hC hl kk
    rw [zf_X3_mixEntries_5.eq_2] at hf
    have kf27 := hts (.fieldLink RX3 27 "DawnFair$Stolen" "entries" "I") (by decide +kernel)
    have kf9 := hts (.fieldLink RX3 9 "DawnFair$Stolen" "entryMarks" "[I") (by decide +kernel)
    have kiX5 := hts (.initialized RX5) (by decide +kernel)
    have ks74 := hts (.static yX5_mix) (by decide +kernel)
    refine lv_iload hx hb dX3_mixEntries_5 (lv_at hl 2 rfl) ?_
    refine lv_aload_n hx hb dX3_mixEntries_7 rfl (lv_at hl 0 rfl) ?_
    refine zx_gX3_entries hx hb hts zi_X3_mixEntries hown hC kf27 dX3_mixEntries_8 ?_
    refine lv_icmp_ge (tgt := 32) hx hb dX3_mixEntries_11 (by decide) (fun c1 => ?_) (fun c1 => ?_)
    · have hf := z_t hf c1
      cases hf
      exact kk _ _ _ hC (lv_sub hl [0, 1, 2] rfl)
    · have hf := z_f hf c1
      refine lv_lload_n hx hb dX3_mixEntries_14 rfl (lv_at hl 1 rfl) ?_
      refine lv_aload_n hx hb dX3_mixEntries_15 rfl (lv_at hl 0 rfl) ?_
      refine zx_gX3_entryMarks hx hb hts zi_X3_mixEntries hown hC kf9 dX3_mixEntries_16 ?_
      refine lv_iload hx hb dX3_mixEntries_19 (lv_at hl 2 rfl) ?_
      obtain ⟨h2, hf⟩ := z_gd_s hf
      refine zx_aX3_entryMarks hx hb hC (z_in h2) dX3_mixEntries_21 ?_
      refine z_calll hC (z_runSN (rest := []) zx_Gok hC E (zc_X5_mix l D cI cJ tp q u x_3 (z_rI u 10 x_5.toNatClampNeg) rfl _) ⟨va_cnB 2 hts gX3_mixEntries_X5_mix_n74 rfl rfl rfl (zx_nst hC).2.2.2.2.1 kiX5 zd_X5_mix ⟨Nat.le_of_ble_eq_true rfl, Nat.le_of_ble_eq_true rfl⟩, ks74, trivial⟩ rfl hl.1 rfl (Nat.le_of_ble_eq_true rfl) dX3_mixEntries_22 ⟨Nat.zero_le _, Nat.zero_le _⟩) (fun H locs hC => ?_)
      refine lv_topl (fun x3 ex3 => ?_)
      have hf := z_nm_s hf ex3
      refine lv_lstore_n (lv' := [(3, _), (0, _), (5, _)]) hx hb dX3_mixEntries_25 rfl hl (by decide) rfl (fun ls hl => ?_)
      obtain ⟨x4, ex4⟩ : ∃ z : Int32, z = (x_5 + (1 : Int32)) := ⟨_, rfl⟩
      have hf := z_nm_s hf ex4
      refine lv_iinc (v := x4) (lv' := [(5, _), (3, _), (0, _)]) hx hb dX3_mixEntries_26 hl (k := 2) rfl (by rw [ex4]; rfl) (by decide) rfl (fun ls hl => ?_)
      refine lv_goto (tgt := 5) hx hb dX3_mixEntries_29 (by decide) ?_
      exact ih x3 x4 _ _ _ _ _ hf hC (lv_sub hl [2, 1, 0] rfl) kk
set_option maxHeartbeats 4000000 in
set_option maxRecDepth 100000 in
theorem zc_X3_mixEntries (l : Launch) (D : va_G) (cI cJ : ClassId) (tp : Nat) (q : Nat → Nat) (u : z_St) (a_1 : Int64) {r : Int64} (hf : zf_X3_mixEntries u a_1 = some r) : z_Ml l yX3_mixEntries wsX3_mixEntries zr_X3_mixEntries (zx_W cI q) (zx_G tp) D cI cJ [.ref (q 3), .long a_1] u r u := by
  refine z_ofl (cc := cX3_mixEntries) (maxL := 6) (ret := (some .long)) zx_Gok (by decide) rfl (Nat.le_of_ble_eq_true rfl) ?_
  intro A p e s m args below meth c ls E hr hlk hC hl
  have E : CallFix p m c cX3_mixEntries 6 s args wsX3_mixEntries RX3 := E
  have hx := E.1
  have hb := E.2.1
  have hml := E.2.2.1
  have hown := E.2.2.2.1
  have hts := E.2.2.2.2
  have hl : lv_has ls 6 [(0, .ref (q 3)), (1, .long a_1)] := hl
  unfold zf_X3_mixEntries at hf
  refine lv_lload_n hx hb dX3_mixEntries_0 rfl (lv_at hl 1 rfl) ?_
  refine lv_lstore_n (lv' := [(3, _), (0, _), (1, _)]) hx hb dX3_mixEntries_1 rfl hl (by decide) rfl (fun ls hl => ?_)
  refine lv_iconst (v := (0 : Int32)) hx hb dX3_mixEntries_2 (by decide) ?_
  refine lv_istore (lv' := [(5, _), (3, _), (0, _), (1, _)]) hx hb dX3_mixEntries_3 hl (by decide) rfl (fun ls hl => ?_)
  obtain ⟨y1, y2, py1, hf⟩ := z_bd2_s hf
  refine zl_X3_mixEntries_5 E u 5000 a_1 (0 : Int32) _ _ _ _ _ py1 hC (lv_sub hl [2, 1, 0] rfl) (fun H locs ls hC hl => ?_)
  refine lv_lload_n hx hb dX3_mixEntries_32 rfl (lv_at hl 1 rfl) ?_
  exact z_retl hx hb hr hlk hC (Option.some.inj hf) rfl dX3_mixEntries_33
end
