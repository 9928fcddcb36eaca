section
variable {p : Program} {l : Launch} {e : Env} {R : Room} {s : State} {m : MethodId} {args : Array Value} {below : List Frame} {meth : Method} {c : Code} {H : Heap} {locs : List Loc} {cells slots : Nat} {Q : State → Prop} {cc : ByteArray} {pc : Nat} {ls : Array Slot} {rest : List Value}
variable {D : va_G} {cI cJ : ClassId} {tp : Nat} {q : Nat → Nat} {A : Nat → Prop} {u : z_St} {Ts : List Cond}
abbrev zr_X6_findJoined : Room := { frames := 2, cells := 0, slots := 0, locals := 44 }
theorem zd_X6_findJoined : yX6_findJoined.cls ≠ "java/lang/invoke/MethodHandle" ∧ yX6_findJoined.cls ≠ "java/lang/invoke/VarHandle" ∧ (parseMethodDescriptor yX6_findJoined.desc).map (fun d => d.parameters.length) = some 0 := by decide +kernel
theorem zi_X6_findJoined : ∀ w ∈ wsX60, w ∈ wsX6_findJoined := fun _ h => List.mem_cons_of_mem _ (List.mem_append_right _ h)
set_option maxHeartbeats 4000000 in
set_option maxRecDepth 100000 in
theorem zl_X6_findJoined_12 (E : CallFix p m c cX6_findJoined 7 s args wsX6_findJoined RX6) (a_1 : Int32) : ∀ (n : Nat) (x_2 : Int32) (u : z_St) (H : Heap) (locs : List Loc) (ls : Array Slot) (o_2 : Int32) (ou : z_St), zf_X6_findJoined_12 a_1 n x_2 u = some (o_2, ou) → z_C (zm_W cI cJ q) (zm_G tp) D cI cJ A s u H locs → lv_has ls 7 [(0, .ref (q 0)), (1, .int a_1), (2, .int x_2)] → (∀ (H : Heap) (locs : List Loc) (ls : Array Slot), z_C (zm_W cI cJ q) (zm_G tp) D cI cJ A s ou H locs → lv_has ls 7 [(0, .ref (q 0)), (1, .int a_1), (2, .int o_2)] → W p l e zr_X6_findJoined s m args below meth c H locs 0 0 Q (F0 m 43 ls [])) → W p l e zr_X6_findJoined s m args below meth c H locs 0 0 Q (F0 m 12 ls []) := by
  have hx := E.1
  have hb := E.2.1
  have hml := E.2.2.1
  have hown := E.2.2.2.1
  have hts := E.2.2.2.2
  intro n
  induction n with
  | zero =>
    intro x_2 u H locs ls o_2 ou hf
    rw [zf_X6_findJoined_12.eq_1] at hf
    cases hf
  | succ n ih =>
    intro x_2 u H locs ls o_2 ou hf hC hl kk
    rw [zf_X6_findJoined_12.eq_2] at hf
    have kf104 := hts (.fieldLink RX6 104 "DawnFairModel" "things" "I") (by decide +kernel)
    have kf84 := hts (.fieldLink RX6 84 "DawnFairModel" "scores" "[I") (by decide +kernel)
    refine lv_iload_n hx hb dX6_findJoined_12 rfl (lv_at hl 2 rfl) ?_
    refine lv_aload_n hx hb dX6_findJoined_13 rfl (lv_at hl 0 rfl) ?_
    refine zm_gX6_things hx hb hts zi_X6_findJoined hown hC kf104 dX6_findJoined_14 ?_
    refine lv_icmp_ge (tgt := 43) hx hb dX6_findJoined_17 (by decide) (fun c1 => ?_) (fun c1 => ?_)
    · have hf := z_t hf c1
      cases hf
      exact kk _ _ _ hC (lv_sub hl [0, 1, 2] rfl)
    · have hf := z_f hf c1
      refine lv_aload_n hx hb dX6_findJoined_20 rfl (lv_at hl 0 rfl) ?_
      refine zm_gX6_scores hx hb hts zi_X6_findJoined hown hC kf84 dX6_findJoined_21 ?_
      refine lv_bipush (v := (12 : Int32)) hx hb dX6_findJoined_24 (by decide) ?_
      refine lv_iload_n hx hb dX6_findJoined_26 rfl (lv_at hl 1 rfl) ?_
      refine lv_imul hx hb dX6_findJoined_27 ?_
      refine lv_iload_n hx hb dX6_findJoined_28 rfl (lv_at hl 2 rfl) ?_
      refine lv_iadd hx hb dX6_findJoined_29 ?_
      refine lv_aload_n hx hb dX6_findJoined_30 rfl (lv_at hl 0 rfl) ?_
      refine lv_iload_n hx hb dX6_findJoined_31 rfl (lv_at hl 1 rfl) ?_
      refine lv_iload_n hx hb dX6_findJoined_32 rfl (lv_at hl 2 rfl) ?_
      obtain ⟨r2, pr2, hf⟩ := z_bd_s hf
      refine z_calli hC (z_runV (rest := [_, _]) zm_Gok hC E (zc_X6_scoreOf l D cI cJ tp q u a_1 x_2 pr2 _) (cwV 2 hts gX6_findJoined_X6_scoreOf rfl rfl rfl ⟨rfl, zd_X6_scoreOf⟩ ⟨Nat.le_of_ble_eq_true rfl, Nat.le_of_ble_eq_true rfl⟩) (zm_rcX6 hC) rfl hl.1 rfl (Nat.le_of_ble_eq_true rfl) dX6_findJoined_33 ⟨Nat.zero_le _, Nat.zero_le _⟩) (fun H locs hC => ?_)
      obtain ⟨h3, hf⟩ := z_gd_s hf
      refine zm_sX6_scores hx hb hC (z_in h3) dX6_findJoined_36 (fun u4 eu4 H locs hC => ?_)
      have hf := z_nm_s hf eu4
      obtain ⟨x5, ex5⟩ : ∃ z : Int32, z = (x_2 + (1 : Int32)) := ⟨_, rfl⟩
      have hf := z_nm_s hf ex5
      refine lv_iinc (v := x5) (lv' := [(2, _), (0, _), (1, _)]) hx hb dX6_findJoined_37 hl (k := 2) rfl (by rw [ex5]; rfl) (by decide) rfl (fun ls hl => ?_)
      refine lv_goto (tgt := 12) hx hb dX6_findJoined_40 (by decide) ?_
      exact ih x5 u4 _ _ _ _ _ hf hC (lv_sub hl [1, 2, 0] rfl) kk
set_option maxHeartbeats 4000000 in
set_option maxRecDepth 100000 in
theorem zl_X6_findJoined_2 (E : CallFix p m c cX6_findJoined 7 s args wsX6_findJoined RX6) : ∀ (n : Nat) (x_1 : Int32) (u : z_St) (H : Heap) (locs : List Loc) (ls : Array Slot) (o_1 : Int32) (ou : z_St), zf_X6_findJoined_2 n x_1 u = some (o_1, ou) → z_C (zm_W cI cJ q) (zm_G tp) D cI cJ A s u H locs → lv_has ls 7 [(0, .ref (q 0)), (1, .int x_1)] → (∀ (H : Heap) (locs : List Loc) (ls : Array Slot), z_C (zm_W cI cJ q) (zm_G tp) D cI cJ A s ou H locs → lv_has ls 7 [(0, .ref (q 0)), (1, .int o_1)] → W p l e zr_X6_findJoined s m args below meth c H locs 0 0 Q (F0 m 49 ls [])) → W p l e zr_X6_findJoined s m args below meth c H locs 0 0 Q (F0 m 2 ls []) := by
  have hx := E.1
  have hb := E.2.1
  have hml := E.2.2.1
  have hown := E.2.2.2.1
  have hts := E.2.2.2.2
  intro n
  induction n with
  | zero =>
    intro x_1 u H locs ls o_1 ou hf
    rw [zf_X6_findJoined_2.eq_1] at hf
    cases hf
  | succ n ih =>
    intro x_1 u H locs ls o_1 ou hf hC hl kk
    rw [zf_X6_findJoined_2.eq_2] at hf
    have kf212 := hts (.fieldLink RX6 212 "DawnFairModel" "entries" "I") (by decide +kernel)
    refine lv_iload_n hx hb dX6_findJoined_2 rfl (lv_at hl 1 rfl) ?_
    refine lv_aload_n hx hb dX6_findJoined_3 rfl (lv_at hl 0 rfl) ?_
    refine zm_gX6_entries hx hb hts zi_X6_findJoined hown hC kf212 dX6_findJoined_4 ?_
    refine lv_icmp_ge (tgt := 49) hx hb dX6_findJoined_7 (by decide) (fun c1 => ?_) (fun c1 => ?_)
    · have hf := z_t hf c1
      cases hf
      exact kk _ _ _ hC (lv_sub hl [0, 1] rfl)
    · have hf := z_f hf c1
      refine lv_iconst (v := (0 : Int32)) hx hb dX6_findJoined_10 (by decide) ?_
      refine lv_istore_n (lv' := [(2, _), (0, _), (1, _)]) hx hb dX6_findJoined_11 rfl hl (by decide) rfl (fun ls hl => ?_)
      obtain ⟨y2, u3, py2, hf⟩ := z_bd2_s hf
      refine zl_X6_findJoined_12 E x_1 5000 (0 : Int32) u _ _ _ _ _ py2 hC (lv_sub hl [1, 2, 0] rfl) (fun H locs ls hC hl => ?_)
      obtain ⟨x4, ex4⟩ : ∃ z : Int32, z = (x_1 + (1 : Int32)) := ⟨_, rfl⟩
      have hf := z_nm_s hf ex4
      refine lv_iinc (v := x4) (lv' := [(1, _), (0, _), (2, _)]) hx hb dX6_findJoined_43 hl (k := 1) rfl (by rw [ex4]; rfl) (by decide) rfl (fun ls hl => ?_)
      refine lv_goto (tgt := 2) hx hb dX6_findJoined_46 (by decide) ?_
      exact ih x4 u3 _ _ _ _ _ hf hC (lv_sub hl [1, 0] rfl) kk
set_option maxHeartbeats 4000000 in
set_option maxRecDepth 100000 in
theorem zl_X6_findJoined_51 (E : CallFix p m c cX6_findJoined 7 s args wsX6_findJoined RX6) : ∀ (n : Nat) (x_1 : Int32) (u : z_St) (H : Heap) (locs : List Loc) (ls : Array Slot) (o_1 : Int32) (ou : z_St), zf_X6_findJoined_51 n x_1 u = some (o_1, ou) → z_C (zm_W cI cJ q) (zm_G tp) D cI cJ A s u H locs → lv_has ls 7 [(0, .ref (q 0)), (1, .int x_1)] → (∀ (H : Heap) (locs : List Loc) (ls : Array Slot), z_C (zm_W cI cJ q) (zm_G tp) D cI cJ A s ou H locs → lv_has ls 7 [(0, .ref (q 0)), (1, .int o_1)] → W p l e zr_X6_findJoined s m args below meth c H locs 0 0 Q (F0 m 80 ls [])) → W p l e zr_X6_findJoined s m args below meth c H locs 0 0 Q (F0 m 51 ls []) := by
  have hx := E.1
  have hb := E.2.1
  have hml := E.2.2.1
  have hown := E.2.2.2.1
  have hts := E.2.2.2.2
  intro n
  induction n with
  | zero =>
    intro x_1 u H locs ls o_1 ou hf
    rw [zf_X6_findJoined_51.eq_1] at hf
    cases hf
  | succ n ih =>
    intro x_1 u H locs ls o_1 ou hf hC hl kk
    rw [zf_X6_findJoined_51.eq_2] at hf
    have kf78 := hts (.fieldLink RX6 78 "DawnFairModel" "sums" "[I") (by decide +kernel)
    have kf212 := hts (.fieldLink RX6 212 "DawnFairModel" "entries" "I") (by decide +kernel)
    refine lv_iload_n hx hb dX6_findJoined_51 rfl (lv_at hl 1 rfl) ?_
    refine lv_sipush (v := (4096 : Int32)) hx hb dX6_findJoined_52 (by decide) ?_
    refine lv_icmp_ge (tgt := 80) hx hb dX6_findJoined_55 (by decide) (fun c1 => ?_) (fun c1 => ?_)
    · have hf := z_t hf c1
      cases hf
      exact kk _ _ _ hC (lv_sub hl [0, 1] rfl)
    · have hf := z_f hf c1
      refine lv_aload_n hx hb dX6_findJoined_58 rfl (lv_at hl 0 rfl) ?_
      refine zm_gX6_sums hx hb hts zi_X6_findJoined hown hC kf78 dX6_findJoined_59 ?_
      refine lv_sipush (v := (4096 : Int32)) hx hb dX6_findJoined_62 (by decide) ?_
      refine lv_aload_n hx hb dX6_findJoined_65 rfl (lv_at hl 0 rfl) ?_
      refine zm_gX6_entries hx hb hts zi_X6_findJoined hown hC kf212 dX6_findJoined_66 ?_
      refine lv_imul hx hb dX6_findJoined_69 ?_
      refine lv_iload_n hx hb dX6_findJoined_70 rfl (lv_at hl 1 rfl) ?_
      refine lv_iadd hx hb dX6_findJoined_71 ?_
      refine lv_iconst (v := (0 : Int32)) hx hb dX6_findJoined_72 (by decide) ?_
      obtain ⟨h2, hf⟩ := z_gd_s hf
      refine zm_sX6_sums hx hb hC (z_in h2) dX6_findJoined_73 (fun u3 eu3 H locs hC => ?_)
      have hf := z_nm_s hf eu3
      obtain ⟨x4, ex4⟩ : ∃ z : Int32, z = (x_1 + (1 : Int32)) := ⟨_, rfl⟩
      have hf := z_nm_s hf ex4
      refine lv_iinc (v := x4) (lv' := [(1, _), (0, _)]) hx hb dX6_findJoined_74 hl (k := 1) rfl (by rw [ex4]; rfl) (by decide) rfl (fun ls hl => ?_)
      refine lv_goto (tgt := 51) hx hb dX6_findJoined_77 (by decide) ?_
      exact ih x4 u3 _ _ _ _ _ hf hC (lv_sub hl [1, 0] rfl) kk
set_option maxHeartbeats 4000000 in
set_option maxRecDepth 100000 in
theorem zl_X6_findJoined_118 (E : CallFix p m c cX6_findJoined 7 s args wsX6_findJoined RX6) (a_1 : Int32) (a_2 : Int32) (u : z_St) : ∀ (n : Nat) (x_3 : Int32) (x_4 : Int32) (H : Heap) (locs : List Loc) (ls : Array Slot) (o_3 : Int32) (o_4 : Int32), zf_X6_findJoined_118 a_1 a_2 u n x_3 x_4 = some (o_3, o_4) → z_C (zm_W cI cJ q) (zm_G tp) D cI cJ A s u H locs → lv_has ls 7 [(0, .ref (q 0)), (1, .int a_1), (2, .int a_2), (3, .int x_3), (4, .int x_4)] → (∀ (H : Heap) (locs : List Loc) (ls : Array Slot), z_C (zm_W cI cJ q) (zm_G tp) D cI cJ A s u H locs → lv_has ls 7 [(0, .ref (q 0)), (1, .int a_1), (2, .int a_2), (3, .int o_3), (4, .int o_4)] → W p l e zr_X6_findJoined s m args below meth c H locs 0 0 Q (F0 m 203 ls [])) → W p l e zr_X6_findJoined s m args below meth c H locs 0 0 Q (F0 m 118 ls []) := by
  have hx := E.1
  have hb := E.2.1
  have hml := E.2.2.1
  have hown := E.2.2.2.1
  have hts := E.2.2.2.2
  intro n
  induction n with
  | zero =>
    intro x_3 x_4 H locs ls o_3 o_4 hf
    rw [zf_X6_findJoined_118.eq_1] at hf
    cases hf
  | succ n ih =>
    intro x_3 x_4 H locs ls o_3 o_4 hf hC hl kk
    rw [zf_X6_findJoined_118.eq_2] at hf
    have kf104 := hts (.fieldLink RX6 104 "DawnFairModel" "things" "I") (by decide +kernel)
    have kf84 := hts (.fieldLink RX6 84 "DawnFairModel" "scores" "[I") (by decide +kernel)
    have kf78 := hts (.fieldLink RX6 78 "DawnFairModel" "sums" "[I") (by decide +kernel)
    refine lv_iload hx hb dX6_findJoined_118 (lv_at hl 4 rfl) ?_
    refine lv_aload_n hx hb dX6_findJoined_120 rfl (lv_at hl 0 rfl) ?_
    refine zm_gX6_things hx hb hts zi_X6_findJoined hown hC kf104 dX6_findJoined_121 ?_
    refine lv_icmp_ge (tgt := 203) hx hb dX6_findJoined_124 (by decide) (fun c1 => ?_) (fun c1 => ?_)
    · have hf := z_t hf c1
      cases hf
      exact kk _ _ _ hC (lv_sub hl [0, 1, 2, 3, 4] rfl)
    · have hf := z_f hf c1
      refine lv_iload_n hx hb dX6_findJoined_127 rfl (lv_at hl 2 rfl) ?_
      refine lv_iload hx hb dX6_findJoined_128 (lv_at hl 4 rfl) ?_
      refine lv_ishr hx hb dX6_findJoined_130 ?_
      refine lv_iconst (v := (1 : Int32)) hx hb dX6_findJoined_131 (by decide) ?_
      refine lv_iand hx hb dX6_findJoined_132 ?_
      refine lv_iconst (v := (1 : Int32)) hx hb dX6_findJoined_133 (by decide) ?_
      refine lv_icmp_ne (tgt := 141) hx hb dX6_findJoined_134 (by decide) (fun c2 => ?_) (fun c2 => ?_)
      · have hf := z_f hf c2
        refine lv_aload_n hx hb dX6_findJoined_141 rfl (lv_at hl 0 rfl) ?_
        refine zm_gX6_scores hx hb hts zi_X6_findJoined hown hC kf84 dX6_findJoined_142 ?_
        refine lv_bipush (v := (12 : Int32)) hx hb dX6_findJoined_145 (by decide) ?_
        refine lv_iload_n hx hb dX6_findJoined_147 rfl (lv_at hl 1 rfl) ?_
        refine lv_imul hx hb dX6_findJoined_148 ?_
        refine lv_iload hx hb dX6_findJoined_149 (lv_at hl 4 rfl) ?_
        refine lv_iadd hx hb dX6_findJoined_151 ?_
        obtain ⟨h3, hf⟩ := z_gd_s hf
        refine zm_aX6_scores hx hb hC (z_in h3) dX6_findJoined_152 ?_
        refine lv_topi (fun x4 ex4 => ?_)
        have hf := z_nm_s hf ex4
        refine lv_istore (lv' := [(5, _), (0, _), (1, _), (2, _), (3, _), (4, _)]) hx hb dX6_findJoined_153 hl (by decide) rfl (fun ls hl => ?_)
        refine lv_iload hx hb dX6_findJoined_155 (lv_at hl 0 rfl) ?_
        refine lv_if_le (tgt := 197) hx hb dX6_findJoined_157 (by decide) (fun c5 => ?_) (fun c5 => ?_)
        · have hf := z_t hf c5
          obtain ⟨x6, ex6⟩ : ∃ z : Int32, z = (x_4 + (1 : Int32)) := ⟨_, rfl⟩
          have hf := z_nm_s hf ex6
          refine lv_iinc (v := x6) (lv' := [(4, _), (5, _), (0, _), (1, _), (2, _), (3, _)]) hx hb dX6_findJoined_197 hl (k := 5) rfl (by rw [ex6]; rfl) (by decide) rfl (fun ls hl => ?_)
          refine lv_goto (tgt := 118) hx hb dX6_findJoined_200 (by decide) ?_
          exact ih x_3 x6 _ _ _ _ _ hf hC (lv_sub hl [2, 3, 4, 5, 0] rfl) kk
        · have hf := z_f hf c5
          refine lv_iload hx hb dX6_findJoined_160 (lv_at hl 0 rfl) ?_
          refine lv_aload_n hx hb dX6_findJoined_162 rfl (lv_at hl 1 rfl) ?_
          refine zm_gX6_sums hx hb hts zi_X6_findJoined hown hC kf78 dX6_findJoined_163 ?_
          refine lv_sipush (v := (4096 : Int32)) hx hb dX6_findJoined_166 (by decide) ?_
          refine lv_iload_n hx hb dX6_findJoined_169 rfl (lv_at hl 2 rfl) ?_
          refine lv_iconst (v := (1 : Int32)) hx hb dX6_findJoined_170 (by decide) ?_
          refine lv_iadd hx hb dX6_findJoined_171 ?_
          refine lv_imul hx hb dX6_findJoined_172 ?_
          refine lv_iload_n hx hb dX6_findJoined_173 rfl (lv_at hl 3 rfl) ?_
          refine lv_iconst (v := (1 : Int32)) hx hb dX6_findJoined_174 (by decide) ?_
          refine lv_iload hx hb dX6_findJoined_175 (lv_at hl 5 rfl) ?_
          refine lv_ishl hx hb dX6_findJoined_177 ?_
          refine lv_ior hx hb dX6_findJoined_178 ?_
          refine lv_iadd hx hb dX6_findJoined_179 ?_
          obtain ⟨h7, hf⟩ := z_gd_s hf
          refine zm_aX6_sums hx hb hC (z_in h7) dX6_findJoined_180 ?_
          refine lv_iadd hx hb dX6_findJoined_181 ?_
          refine lv_topi (fun x8 ex8 => ?_)
          have hf := z_nm_s hf ex8
          refine lv_istore (lv' := [(6, _), (5, _), (0, _), (1, _), (2, _), (3, _), (4, _)]) hx hb dX6_findJoined_182 hl (by decide) rfl (fun ls hl => ?_)
          refine lv_iload hx hb dX6_findJoined_184 (lv_at hl 0 rfl) ?_
          refine lv_iload_n hx hb dX6_findJoined_186 rfl (lv_at hl 5 rfl) ?_
          refine lv_icmp_le (tgt := 195) hx hb dX6_findJoined_187 (by decide) (fun c9 => ?_) (fun c9 => ?_)
          · have hf := z_t hf c9
            refine lv_iload_n hx hb dX6_findJoined_195 rfl (lv_at hl 5 rfl) ?_
            refine lv_istore_n (lv' := [(3, _), (6, _), (5, _), (0, _), (1, _), (2, _), (4, _)]) hx hb dX6_findJoined_196 rfl hl (by decide) rfl (fun ls hl => ?_)
            obtain ⟨x10, ex10⟩ : ∃ z : Int32, z = (x_4 + (1 : Int32)) := ⟨_, rfl⟩
            have hf := z_nm_s hf ex10
            refine lv_iinc (v := x10) (lv' := [(4, _), (3, _), (6, _), (5, _), (0, _), (1, _), (2, _)]) hx hb dX6_findJoined_197 hl (k := 6) rfl (by rw [ex10]; rfl) (by decide) rfl (fun ls hl => ?_)
            refine lv_goto (tgt := 118) hx hb dX6_findJoined_200 (by decide) ?_
            exact ih x_3 x10 _ _ _ _ _ hf hC (lv_sub hl [4, 5, 6, 1, 0] rfl) kk
          · have hf := z_f hf c9
            refine lv_iload hx hb dX6_findJoined_190 (lv_at hl 0 rfl) ?_
            refine lv_goto (tgt := 196) hx hb dX6_findJoined_192 (by decide) ?_
            refine lv_istore_n (lv' := [(3, _), (6, _), (5, _), (0, _), (1, _), (2, _), (4, _)]) hx hb dX6_findJoined_196 rfl hl (by decide) rfl (fun ls hl => ?_)
            obtain ⟨x11, ex11⟩ : ∃ z : Int32, z = (x_4 + (1 : Int32)) := ⟨_, rfl⟩
            have hf := z_nm_s hf ex11
            refine lv_iinc (v := x11) (lv' := [(4, _), (3, _), (6, _), (5, _), (0, _), (1, _), (2, _)]) hx hb dX6_findJoined_197 hl (k := 6) rfl (by rw [ex11]; rfl) (by decide) rfl (fun ls hl => ?_)
            refine lv_goto (tgt := 118) hx hb dX6_findJoined_200 (by decide) ?_
            exact ih x8 x11 _ _ _ _ _ hf hC (lv_sub hl [4, 5, 6, 1, 0] rfl) kk
      · have hf := z_t hf c2
        refine lv_iconst (v := (0 : Int32)) hx hb dX6_findJoined_137 (by decide) ?_
        refine lv_goto (tgt := 153) hx hb dX6_findJoined_138 (by decide) ?_
        refine lv_istore (lv' := [(5, _), (0, _), (1, _), (2, _), (3, _), (4, _)]) hx hb dX6_findJoined_153 hl (by decide) rfl (fun ls hl => ?_)
        refine lv_iload hx hb dX6_findJoined_155 (lv_at hl 0 rfl) ?_
        refine lv_if_le (tgt := 197) hx hb dX6_findJoined_157 (by decide) (fun _ => ?_) (fun c => absurd (by decide) c)
        obtain ⟨x12, ex12⟩ : ∃ z : Int32, z = (x_4 + (1 : Int32)) := ⟨_, rfl⟩
        have hf := z_nm_s hf ex12
        refine lv_iinc (v := x12) (lv' := [(4, _), (5, _), (0, _), (1, _), (2, _), (3, _)]) hx hb dX6_findJoined_197 hl (k := 5) rfl (by rw [ex12]; rfl) (by decide) rfl (fun ls hl => ?_)
        refine lv_goto (tgt := 118) hx hb dX6_findJoined_200 (by decide) ?_
        exact ih x_3 x12 _ _ _ _ _ hf hC (lv_sub hl [2, 3, 4, 5, 0] rfl) kk
set_option maxHeartbeats 4000000 in
set_option maxRecDepth 100000 in
theorem zl_X6_findJoined_93 (E : CallFix p m c cX6_findJoined 7 s args wsX6_findJoined RX6) (a_1 : Int32) : ∀ (n : Nat) (x_2 : Int32) (u : z_St) (H : Heap) (locs : List Loc) (ls : Array Slot) (o_2 : Int32) (ou : z_St), zf_X6_findJoined_93 a_1 n x_2 u = some (o_2, ou) → z_C (zm_W cI cJ q) (zm_G tp) D cI cJ A s u H locs → lv_has ls 7 [(0, .ref (q 0)), (1, .int a_1), (2, .int x_2)] → (∀ (H : Heap) (locs : List Loc) (ls : Array Slot), z_C (zm_W cI cJ q) (zm_G tp) D cI cJ A s ou H locs → lv_has ls 7 [(0, .ref (q 0)), (1, .int a_1), (2, .int o_2)] → W p l e zr_X6_findJoined s m args below meth c H locs 0 0 Q (F0 m 222 ls [])) → W p l e zr_X6_findJoined s m args below meth c H locs 0 0 Q (F0 m 93 ls []) := by
  have hx := E.1
  have hb := E.2.1
  have hml := E.2.2.1
  have hown := E.2.2.2.1
  have hts := E.2.2.2.2
  intro n
  induction n with
  | zero =>
    intro x_2 u H locs ls o_2 ou hf
    rw [zf_X6_findJoined_93.eq_1] at hf
    cases hf
  | succ n ih =>
    intro x_2 u H locs ls o_2 ou hf hC hl kk
    rw [zf_X6_findJoined_93.eq_2] at hf
    have kf78 := hts (.fieldLink RX6 78 "DawnFairModel" "sums" "[I") (by decide +kernel)
    refine lv_iload_n hx hb dX6_findJoined_93 rfl (lv_at hl 2 rfl) ?_
    refine lv_sipush (v := (4096 : Int32)) hx hb dX6_findJoined_94 (by decide) ?_
    refine lv_icmp_ge (tgt := 222) hx hb dX6_findJoined_97 (by decide) (fun c1 => ?_) (fun c1 => ?_)
    · have hf := z_t hf c1
      cases hf
      exact kk _ _ _ hC (lv_sub hl [0, 1, 2] rfl)
    · have hf := z_f hf c1
      refine lv_aload_n hx hb dX6_findJoined_100 rfl (lv_at hl 0 rfl) ?_
      refine zm_gX6_sums hx hb hts zi_X6_findJoined hown hC kf78 dX6_findJoined_101 ?_
      refine lv_sipush (v := (4096 : Int32)) hx hb dX6_findJoined_104 (by decide) ?_
      refine lv_iload_n hx hb dX6_findJoined_107 rfl (lv_at hl 1 rfl) ?_
      refine lv_iconst (v := (1 : Int32)) hx hb dX6_findJoined_108 (by decide) ?_
      refine lv_iadd hx hb dX6_findJoined_109 ?_
      refine lv_imul hx hb dX6_findJoined_110 ?_
      refine lv_iload_n hx hb dX6_findJoined_111 rfl (lv_at hl 2 rfl) ?_
      refine lv_iadd hx hb dX6_findJoined_112 ?_
      obtain ⟨h2, hf⟩ := z_gd_s hf
      refine zm_aX6_sums hx hb hC (z_in h2) dX6_findJoined_113 ?_
      refine lv_topi (fun x3 ex3 => ?_)
      have hf := z_nm_s hf ex3
      refine lv_istore_n (lv' := [(3, _), (0, _), (1, _), (2, _)]) hx hb dX6_findJoined_114 rfl hl (by decide) rfl (fun ls hl => ?_)
      refine lv_iconst (v := (0 : Int32)) hx hb dX6_findJoined_115 (by decide) ?_
      refine lv_istore (lv' := [(4, _), (3, _), (0, _), (1, _), (2, _)]) hx hb dX6_findJoined_116 hl (by decide) rfl (fun ls hl => ?_)
      obtain ⟨y4, y5, py4, hf⟩ := z_bd2_s hf
      refine zl_X6_findJoined_118 E a_1 x_2 u 5000 x3 (0 : Int32) _ _ _ _ _ py4 hC (lv_sub hl [2, 3, 4, 1, 0] rfl) (fun H locs ls hC hl => ?_)
      refine lv_aload_n hx hb dX6_findJoined_203 rfl (lv_at hl 0 rfl) ?_
      refine zm_gX6_sums hx hb hts zi_X6_findJoined hown hC kf78 dX6_findJoined_204 ?_
      refine lv_sipush (v := (4096 : Int32)) hx hb dX6_findJoined_207 (by decide) ?_
      refine lv_iload_n hx hb dX6_findJoined_210 rfl (lv_at hl 1 rfl) ?_
      refine lv_imul hx hb dX6_findJoined_211 ?_
      refine lv_iload_n hx hb dX6_findJoined_212 rfl (lv_at hl 2 rfl) ?_
      refine lv_iadd hx hb dX6_findJoined_213 ?_
      refine lv_iload_n hx hb dX6_findJoined_214 rfl (lv_at hl 3 rfl) ?_
      obtain ⟨h6, hf⟩ := z_gd_s hf
      refine zm_sX6_sums hx hb hC (z_in h6) dX6_findJoined_215 (fun u7 eu7 H locs hC => ?_)
      have hf := z_nm_s hf eu7
      obtain ⟨x8, ex8⟩ : ∃ z : Int32, z = (x_2 + (1 : Int32)) := ⟨_, rfl⟩
      have hf := z_nm_s hf ex8
      refine lv_iinc (v := x8) (lv' := [(2, _), (0, _), (1, _), (3, _), (4, _)]) hx hb dX6_findJoined_216 hl (k := 2) rfl (by rw [ex8]; rfl) (by decide) rfl (fun ls hl => ?_)
      refine lv_goto (tgt := 93) hx hb dX6_findJoined_219 (by decide) ?_
      exact ih x8 u7 _ _ _ _ _ hf hC (lv_sub hl [1, 2, 0] rfl) kk
set_option maxHeartbeats 4000000 in
set_option maxRecDepth 100000 in
theorem zl_X6_findJoined_87 (E : CallFix p m c cX6_findJoined 7 s args wsX6_findJoined RX6) : ∀ (n : Nat) (x_1 : Int32) (u : z_St) (H : Heap) (locs : List Loc) (ls : Array Slot) (o_1 : Int32) (ou : z_St), zf_X6_findJoined_87 n x_1 u = some (o_1, ou) → z_C (zm_W cI cJ q) (zm_G tp) D cI cJ A s u H locs → lv_has ls 7 [(0, .ref (q 0)), (1, .int x_1)] → (∀ (H : Heap) (locs : List Loc) (ls : Array Slot), z_C (zm_W cI cJ q) (zm_G tp) D cI cJ A s ou H locs → lv_has ls 7 [(0, .ref (q 0)), (1, .int o_1)] → W p l e zr_X6_findJoined s m args below meth c H locs 0 0 Q (F0 m 228 ls [])) → W p l e zr_X6_findJoined s m args below meth c H locs 0 0 Q (F0 m 87 ls []) := by
  have hx := E.1
  have hb := E.2.1
  have hml := E.2.2.1
  have hown := E.2.2.2.1
  have hts := E.2.2.2.2
  intro n
  induction n with
  | zero =>
    intro x_1 u H locs ls o_1 ou hf
    rw [zf_X6_findJoined_87.eq_1] at hf
    cases hf
  | succ n ih =>
    intro x_1 u H locs ls o_1 ou hf hC hl kk
    rw [zf_X6_findJoined_87.eq_2] at hf
    refine lv_iload_n hx hb dX6_findJoined_87 rfl (lv_at hl 1 rfl) ?_
    refine lv_if_lt (tgt := 228) hx hb dX6_findJoined_88 (by decide) (fun c1 => ?_) (fun c1 => ?_)
    · have hf := z_t hf c1
      cases hf
      exact kk _ _ _ hC (lv_sub hl [0, 1] rfl)
    · have hf := z_f hf c1
      refine lv_iconst (v := (0 : Int32)) hx hb dX6_findJoined_91 (by decide) ?_
      refine lv_istore_n (lv' := [(2, _), (0, _), (1, _)]) hx hb dX6_findJoined_92 rfl hl (by decide) rfl (fun ls hl => ?_)
      obtain ⟨y2, u3, py2, hf⟩ := z_bd2_s hf
      refine zl_X6_findJoined_93 E x_1 5000 (0 : Int32) u _ _ _ _ _ py2 hC (lv_sub hl [1, 2, 0] rfl) (fun H locs ls hC hl => ?_)
      obtain ⟨x4, ex4⟩ : ∃ z : Int32, z = (x_1 + (-1 : Int32)) := ⟨_, rfl⟩
      have hf := z_nm_s hf ex4
      refine lv_iinc (v := x4) (lv' := [(1, _), (0, _), (2, _)]) hx hb dX6_findJoined_222 hl (k := 1) rfl (by rw [ex4]; rfl) (by decide) rfl (fun ls hl => ?_)
      refine lv_goto (tgt := 87) hx hb dX6_findJoined_225 (by decide) ?_
      exact ih x4 u3 _ _ _ _ _ hf hC (lv_sub hl [1, 0] rfl) kk
set_option maxHeartbeats 4000000 in
set_option maxRecDepth 100000 in
theorem zl_X6_findJoined_254 (E : CallFix p m c cX6_findJoined 7 s args wsX6_findJoined RX6) (a_1 : Int32) (a_2 : Int32) : ∀ (n : Nat) (x_3 : Int32) (u : z_St) (H : Heap) (locs : List Loc) (ls : Array Slot) (o_3 : Int32) (ou : z_St), zf_X6_findJoined_254 a_1 a_2 n x_3 u = some (o_3, ou) → z_C (zm_W cI cJ q) (zm_G tp) D cI cJ A s u H locs → lv_has ls 7 [(0, .ref (q 0)), (1, .int a_1), (2, .int a_2), (3, .int x_3)] → (∀ (H : Heap) (locs : List Loc) (ls : Array Slot), z_C (zm_W cI cJ q) (zm_G tp) D cI cJ A s ou H locs → lv_has ls 7 [(0, .ref (q 0)), (1, .int a_1), (2, .int a_2), (3, .int o_3)] → W p l e zr_X6_findJoined s m args below meth c H locs 0 0 Q (F0 m 359 ls [])) → W p l e zr_X6_findJoined s m args below meth c H locs 0 0 Q (F0 m 254 ls []) := by
  have hx := E.1
  have hb := E.2.1
  have hml := E.2.2.1
  have hown := E.2.2.2.1
  have hts := E.2.2.2.2
  intro n
  induction n with
  | zero =>
    intro x_3 u H locs ls o_3 ou hf
    rw [zf_X6_findJoined_254.eq_1] at hf
    cases hf
  | succ n ih =>
    intro x_3 u H locs ls o_3 ou hf hC hl kk
    rw [zf_X6_findJoined_254.eq_2] at hf
    have kf84 := hts (.fieldLink RX6 84 "DawnFairModel" "scores" "[I") (by decide +kernel)
    have kf81 := hts (.fieldLink RX6 81 "DawnFairModel" "joins" "[I") (by decide +kernel)
    have kf78 := hts (.fieldLink RX6 78 "DawnFairModel" "sums" "[I") (by decide +kernel)
    refine lv_iload_n hx hb dX6_findJoined_254 rfl (lv_at hl 3 rfl) ?_
    refine lv_if_lt (tgt := 359) hx hb dX6_findJoined_255 (by decide) (fun c1 => ?_) (fun c1 => ?_)
    · have hf := z_t hf c1
      cases hf
      exact kk _ _ _ hC (lv_sub hl [0, 1, 2, 3] rfl)
    · have hf := z_f hf c1
      refine lv_iload_n hx hb dX6_findJoined_258 rfl (lv_at hl 1 rfl) ?_
      refine lv_iload_n hx hb dX6_findJoined_259 rfl (lv_at hl 3 rfl) ?_
      refine lv_ishr hx hb dX6_findJoined_260 ?_
      refine lv_iconst (v := (1 : Int32)) hx hb dX6_findJoined_261 (by decide) ?_
      refine lv_iand hx hb dX6_findJoined_262 ?_
      refine lv_iconst (v := (1 : Int32)) hx hb dX6_findJoined_263 (by decide) ?_
      refine lv_icmp_ne (tgt := 271) hx hb dX6_findJoined_264 (by decide) (fun c2 => ?_) (fun c2 => ?_)
      · have hf := z_f hf c2
        refine lv_aload_n hx hb dX6_findJoined_271 rfl (lv_at hl 0 rfl) ?_
        refine zm_gX6_scores hx hb hts zi_X6_findJoined hown hC kf84 dX6_findJoined_272 ?_
        refine lv_bipush (v := (12 : Int32)) hx hb dX6_findJoined_275 (by decide) ?_
        refine lv_iload_n hx hb dX6_findJoined_277 rfl (lv_at hl 2 rfl) ?_
        refine lv_imul hx hb dX6_findJoined_278 ?_
        refine lv_iload_n hx hb dX6_findJoined_279 rfl (lv_at hl 3 rfl) ?_
        refine lv_iadd hx hb dX6_findJoined_280 ?_
        obtain ⟨h3, hf⟩ := z_gd_s hf
        refine zm_aX6_scores hx hb hC (z_in h3) dX6_findJoined_281 ?_
        refine lv_topi (fun x4 ex4 => ?_)
        have hf := z_nm_s hf ex4
        refine lv_istore (lv' := [(4, _), (0, _), (1, _), (2, _), (3, _)]) hx hb dX6_findJoined_282 hl (by decide) rfl (fun ls hl => ?_)
        refine lv_iload hx hb dX6_findJoined_284 (lv_at hl 0 rfl) ?_
        refine lv_if_le (tgt := 329) hx hb dX6_findJoined_286 (by decide) (fun c5 => ?_) (fun c5 => ?_)
        · have hf := z_t hf c5
          refine lv_iconst (v := (0 : Int32)) hx hb dX6_findJoined_329 (by decide) ?_
          refine lv_istore (lv' := [(5, _), (4, _), (0, _), (1, _), (2, _), (3, _)]) hx hb dX6_findJoined_330 hl (by decide) rfl (fun ls hl => ?_)
          refine lv_aload_n hx hb dX6_findJoined_332 rfl (lv_at hl 2 rfl) ?_
          refine zm_gX6_joins hx hb hts zi_X6_findJoined hown hC kf81 dX6_findJoined_333 ?_
          refine lv_iload_n hx hb dX6_findJoined_336 rfl (lv_at hl 4 rfl) ?_
          refine lv_iload hx hb dX6_findJoined_337 (lv_at hl 0 rfl) ?_
          refine lv_if_eq (tgt := 346) hx hb dX6_findJoined_339 (by decide) (fun _ => ?_) (fun c => absurd (by decide) c)
          refine lv_aload_n hx hb dX6_findJoined_346 rfl (lv_at hl 2 rfl) ?_
          refine zm_gX6_joins hx hb hts zi_X6_findJoined hown hC kf81 dX6_findJoined_347 ?_
          refine lv_iload_n hx hb dX6_findJoined_350 rfl (lv_at hl 4 rfl) ?_
          obtain ⟨h6, hf⟩ := z_gd_s hf
          refine zm_aX6_joins hx hb hC (z_in h6) dX6_findJoined_351 ?_
          obtain ⟨h7, hf⟩ := z_gd_s hf
          refine zm_sX6_joins hx hb hC (z_in h7) dX6_findJoined_352 (fun u8 eu8 H locs hC => ?_)
          have hf := z_nm_s hf eu8
          obtain ⟨x9, ex9⟩ : ∃ z : Int32, z = (x_3 + (-1 : Int32)) := ⟨_, rfl⟩
          have hf := z_nm_s hf ex9
          refine lv_iinc (v := x9) (lv' := [(3, _), (5, _), (4, _), (0, _), (1, _), (2, _)]) hx hb dX6_findJoined_353 hl (k := 5) rfl (by rw [ex9]; rfl) (by decide) rfl (fun ls hl => ?_)
          refine lv_goto (tgt := 254) hx hb dX6_findJoined_356 (by decide) ?_
          exact ih x9 u8 _ _ _ _ _ hf hC (lv_sub hl [3, 4, 5, 0] rfl) kk
        · have hf := z_f hf c5
          refine lv_iload hx hb dX6_findJoined_289 (lv_at hl 0 rfl) ?_
          refine lv_aload_n hx hb dX6_findJoined_291 rfl (lv_at hl 1 rfl) ?_
          refine zm_gX6_sums hx hb hts zi_X6_findJoined hown hC kf78 dX6_findJoined_292 ?_
          refine lv_sipush (v := (4096 : Int32)) hx hb dX6_findJoined_295 (by decide) ?_
          refine lv_iload_n hx hb dX6_findJoined_298 rfl (lv_at hl 3 rfl) ?_
          refine lv_iconst (v := (1 : Int32)) hx hb dX6_findJoined_299 (by decide) ?_
          refine lv_iadd hx hb dX6_findJoined_300 ?_
          refine lv_imul hx hb dX6_findJoined_301 ?_
          refine lv_iload_n hx hb dX6_findJoined_302 rfl (lv_at hl 2 rfl) ?_
          refine lv_iconst (v := (1 : Int32)) hx hb dX6_findJoined_303 (by decide) ?_
          refine lv_iload_n hx hb dX6_findJoined_304 rfl (lv_at hl 4 rfl) ?_
          refine lv_ishl hx hb dX6_findJoined_305 ?_
          refine lv_ior hx hb dX6_findJoined_306 ?_
          refine lv_iadd hx hb dX6_findJoined_307 ?_
          obtain ⟨h10, hf⟩ := z_gd_s hf
          refine zm_aX6_sums hx hb hC (z_in h10) dX6_findJoined_308 ?_
          refine lv_iadd hx hb dX6_findJoined_309 ?_
          refine lv_aload_n hx hb dX6_findJoined_310 rfl (lv_at hl 1 rfl) ?_
          refine zm_gX6_sums hx hb hts zi_X6_findJoined hown hC kf78 dX6_findJoined_311 ?_
          refine lv_sipush (v := (4096 : Int32)) hx hb dX6_findJoined_314 (by decide) ?_
          refine lv_iload_n hx hb dX6_findJoined_317 rfl (lv_at hl 3 rfl) ?_
          refine lv_imul hx hb dX6_findJoined_318 ?_
          refine lv_iload_n hx hb dX6_findJoined_319 rfl (lv_at hl 2 rfl) ?_
          refine lv_iadd hx hb dX6_findJoined_320 ?_
          obtain ⟨h11, hf⟩ := z_gd_s hf
          refine zm_aX6_sums hx hb hC (z_in h11) dX6_findJoined_321 ?_
          refine lv_icmp_ne (tgt := 329) hx hb dX6_findJoined_322 (by decide) (fun c12 => ?_) (fun c12 => ?_)
          · have hf := z_f hf c12
            refine lv_iconst (v := (0 : Int32)) hx hb dX6_findJoined_329 (by decide) ?_
            refine lv_istore (lv' := [(5, _), (4, _), (0, _), (1, _), (2, _), (3, _)]) hx hb dX6_findJoined_330 hl (by decide) rfl (fun ls hl => ?_)
            refine lv_aload_n hx hb dX6_findJoined_332 rfl (lv_at hl 2 rfl) ?_
            refine zm_gX6_joins hx hb hts zi_X6_findJoined hown hC kf81 dX6_findJoined_333 ?_
            refine lv_iload_n hx hb dX6_findJoined_336 rfl (lv_at hl 4 rfl) ?_
            refine lv_iload hx hb dX6_findJoined_337 (lv_at hl 0 rfl) ?_
            refine lv_if_eq (tgt := 346) hx hb dX6_findJoined_339 (by decide) (fun _ => ?_) (fun c => absurd (by decide) c)
            refine lv_aload_n hx hb dX6_findJoined_346 rfl (lv_at hl 2 rfl) ?_
            refine zm_gX6_joins hx hb hts zi_X6_findJoined hown hC kf81 dX6_findJoined_347 ?_
            refine lv_iload_n hx hb dX6_findJoined_350 rfl (lv_at hl 4 rfl) ?_
            obtain ⟨h13, hf⟩ := z_gd_s hf
            refine zm_aX6_joins hx hb hC (z_in h13) dX6_findJoined_351 ?_
            obtain ⟨h14, hf⟩ := z_gd_s hf
            refine zm_sX6_joins hx hb hC (z_in h14) dX6_findJoined_352 (fun u15 eu15 H locs hC => ?_)
            have hf := z_nm_s hf eu15
            obtain ⟨x16, ex16⟩ : ∃ z : Int32, z = (x_3 + (-1 : Int32)) := ⟨_, rfl⟩
            have hf := z_nm_s hf ex16
            refine lv_iinc (v := x16) (lv' := [(3, _), (5, _), (4, _), (0, _), (1, _), (2, _)]) hx hb dX6_findJoined_353 hl (k := 5) rfl (by rw [ex16]; rfl) (by decide) rfl (fun ls hl => ?_)
            refine lv_goto (tgt := 254) hx hb dX6_findJoined_356 (by decide) ?_
            exact ih x16 u15 _ _ _ _ _ hf hC (lv_sub hl [3, 4, 5, 0] rfl) kk
          · have hf := z_t hf c12
            refine lv_iconst (v := (1 : Int32)) hx hb dX6_findJoined_325 (by decide) ?_
            refine lv_goto (tgt := 330) hx hb dX6_findJoined_326 (by decide) ?_
            refine lv_istore (lv' := [(5, _), (4, _), (0, _), (1, _), (2, _), (3, _)]) hx hb dX6_findJoined_330 hl (by decide) rfl (fun ls hl => ?_)
            refine lv_aload_n hx hb dX6_findJoined_332 rfl (lv_at hl 2 rfl) ?_
            refine zm_gX6_joins hx hb hts zi_X6_findJoined hown hC kf81 dX6_findJoined_333 ?_
            refine lv_iload_n hx hb dX6_findJoined_336 rfl (lv_at hl 4 rfl) ?_
            refine lv_iload hx hb dX6_findJoined_337 (lv_at hl 0 rfl) ?_
            refine lv_if_eq (tgt := 346) hx hb dX6_findJoined_339 (by decide) (fun c => absurd c (by decide)) (fun _ => ?_)
            refine lv_iload_n hx hb dX6_findJoined_342 rfl (lv_at hl 5 rfl) ?_
            refine lv_goto (tgt := 352) hx hb dX6_findJoined_343 (by decide) ?_
            obtain ⟨h17, hf⟩ := z_gd_s hf
            refine zm_sX6_joins hx hb hC (z_in h17) dX6_findJoined_352 (fun u18 eu18 H locs hC => ?_)
            have hf := z_nm_s hf eu18
            obtain ⟨x19, ex19⟩ : ∃ z : Int32, z = (x_3 + (-1 : Int32)) := ⟨_, rfl⟩
            have hf := z_nm_s hf ex19
            refine lv_iinc (v := x19) (lv' := [(3, _), (5, _), (4, _), (0, _), (1, _), (2, _)]) hx hb dX6_findJoined_353 hl (k := 5) rfl (by rw [ex19]; rfl) (by decide) rfl (fun ls hl => ?_)
            refine lv_goto (tgt := 254) hx hb dX6_findJoined_356 (by decide) ?_
            exact ih x19 u18 _ _ _ _ _ hf hC (lv_sub hl [3, 4, 5, 0] rfl) kk
      · have hf := z_t hf c2
        refine lv_iconst (v := (0 : Int32)) hx hb dX6_findJoined_267 (by decide) ?_
        refine lv_goto (tgt := 282) hx hb dX6_findJoined_268 (by decide) ?_
        refine lv_istore (lv' := [(4, _), (0, _), (1, _), (2, _), (3, _)]) hx hb dX6_findJoined_282 hl (by decide) rfl (fun ls hl => ?_)
        refine lv_iload hx hb dX6_findJoined_284 (lv_at hl 0 rfl) ?_
        refine lv_if_le (tgt := 329) hx hb dX6_findJoined_286 (by decide) (fun _ => ?_) (fun c => absurd (by decide) c)
        refine lv_iconst (v := (0 : Int32)) hx hb dX6_findJoined_329 (by decide) ?_
        refine lv_istore (lv' := [(5, _), (4, _), (0, _), (1, _), (2, _), (3, _)]) hx hb dX6_findJoined_330 hl (by decide) rfl (fun ls hl => ?_)
        refine lv_aload_n hx hb dX6_findJoined_332 rfl (lv_at hl 2 rfl) ?_
        refine zm_gX6_joins hx hb hts zi_X6_findJoined hown hC kf81 dX6_findJoined_333 ?_
        refine lv_iload_n hx hb dX6_findJoined_336 rfl (lv_at hl 4 rfl) ?_
        refine lv_iload hx hb dX6_findJoined_337 (lv_at hl 0 rfl) ?_
        refine lv_if_eq (tgt := 346) hx hb dX6_findJoined_339 (by decide) (fun _ => ?_) (fun c => absurd (by decide) c)
        refine lv_aload_n hx hb dX6_findJoined_346 rfl (lv_at hl 2 rfl) ?_
        refine zm_gX6_joins hx hb hts zi_X6_findJoined hown hC kf81 dX6_findJoined_347 ?_
        refine lv_iload_n hx hb dX6_findJoined_350 rfl (lv_at hl 4 rfl) ?_
        obtain ⟨h20, hf⟩ := z_gd_s hf
        refine zm_aX6_joins hx hb hC (z_in h20) dX6_findJoined_351 ?_
        obtain ⟨h21, hf⟩ := z_gd_s hf
        refine zm_sX6_joins hx hb hC (z_in h21) dX6_findJoined_352 (fun u22 eu22 H locs hC => ?_)
        have hf := z_nm_s hf eu22
        obtain ⟨x23, ex23⟩ : ∃ z : Int32, z = (x_3 + (-1 : Int32)) := ⟨_, rfl⟩
        have hf := z_nm_s hf ex23
        refine lv_iinc (v := x23) (lv' := [(3, _), (5, _), (4, _), (0, _), (1, _), (2, _)]) hx hb dX6_findJoined_353 hl (k := 5) rfl (by rw [ex23]; rfl) (by decide) rfl (fun ls hl => ?_)
        refine lv_goto (tgt := 254) hx hb dX6_findJoined_356 (by decide) ?_
        exact ih x23 u22 _ _ _ _ _ hf hC (lv_sub hl [3, 4, 5, 0] rfl) kk
set_option maxHeartbeats 4000000 in
set_option maxRecDepth 100000 in
theorem zl_X6_findJoined_232 (E : CallFix p m c cX6_findJoined 7 s args wsX6_findJoined RX6) : ∀ (n : Nat) (x_1 : Int32) (x_2 : Int32) (u : z_St) (H : Heap) (locs : List Loc) (ls : Array Slot) (o_1 : Int32) (o_2 : Int32) (ou : z_St), zf_X6_findJoined_232 n x_1 x_2 u = some (o_1, o_2, ou) → z_C (zm_W cI cJ q) (zm_G tp) D cI cJ A s u H locs → lv_has ls 7 [(0, .ref (q 0)), (1, .int x_1), (2, .int x_2)] → (∀ (H : Heap) (locs : List Loc) (ls : Array Slot), z_C (zm_W cI cJ q) (zm_G tp) D cI cJ A s ou H locs → lv_has ls 7 [(0, .ref (q 0)), (1, .int o_1), (2, .int o_2)] → W p l e zr_X6_findJoined s m args below meth c H locs 0 0 Q (F0 m 389 ls [])) → W p l e zr_X6_findJoined s m args below meth c H locs 0 0 Q (F0 m 232 ls []) := by
  have hx := E.1
  have hb := E.2.1
  have hml := E.2.2.1
  have hown := E.2.2.2.1
  have hts := E.2.2.2.2
  intro n
  induction n with
  | zero =>
    intro x_1 x_2 u H locs ls o_1 o_2 ou hf
    rw [zf_X6_findJoined_232.eq_1] at hf
    cases hf
  | succ n ih =>
    intro x_1 x_2 u H locs ls o_1 o_2 ou hf hC hl kk
    rw [zf_X6_findJoined_232.eq_2] at hf
    have kf212 := hts (.fieldLink RX6 212 "DawnFairModel" "entries" "I") (by decide +kernel)
    have kf81 := hts (.fieldLink RX6 81 "DawnFairModel" "joins" "[I") (by decide +kernel)
    have kf104 := hts (.fieldLink RX6 104 "DawnFairModel" "things" "I") (by decide +kernel)
    refine lv_iload_n hx hb dX6_findJoined_232 rfl (lv_at hl 2 rfl) ?_
    refine lv_aload_n hx hb dX6_findJoined_233 rfl (lv_at hl 0 rfl) ?_
    refine zm_gX6_entries hx hb hts zi_X6_findJoined hown hC kf212 dX6_findJoined_234 ?_
    refine lv_icmp_ge (tgt := 389) hx hb dX6_findJoined_237 (by decide) (fun c1 => ?_) (fun c1 => ?_)
    · have hf := z_t hf c1
      cases hf
      exact kk _ _ _ hC (lv_sub hl [0, 1, 2] rfl)
    · have hf := z_f hf c1
      refine lv_aload_n hx hb dX6_findJoined_240 rfl (lv_at hl 0 rfl) ?_
      refine zm_gX6_joins hx hb hts zi_X6_findJoined hown hC kf81 dX6_findJoined_241 ?_
      refine lv_iload_n hx hb dX6_findJoined_244 rfl (lv_at hl 2 rfl) ?_
      refine lv_iconst (v := (-1 : Int32)) hx hb dX6_findJoined_245 (by decide) ?_
      obtain ⟨h2, hf⟩ := z_gd_s hf
      refine zm_sX6_joins hx hb hC (z_in h2) dX6_findJoined_246 (fun u3 eu3 H locs hC => ?_)
      have hf := z_nm_s hf eu3
      refine lv_aload_n hx hb dX6_findJoined_247 rfl (lv_at hl 0 rfl) ?_
      refine zm_gX6_things hx hb hts zi_X6_findJoined hown hC kf104 dX6_findJoined_248 ?_
      refine lv_iconst (v := (1 : Int32)) hx hb dX6_findJoined_251 (by decide) ?_
      refine lv_isub hx hb dX6_findJoined_252 ?_
      refine lv_topi (fun x4 ex4 => ?_)
      have hf := z_nm_s hf ex4
      refine lv_istore_n (lv' := [(3, _), (0, _), (1, _), (2, _)]) hx hb dX6_findJoined_253 rfl hl (by decide) rfl (fun ls hl => ?_)
      obtain ⟨y5, u6, py5, hf⟩ := z_bd2_s hf
      refine zl_X6_findJoined_254 E x_1 x_2 5000 x4 u3 _ _ _ _ _ py5 hC (lv_sub hl [1, 2, 3, 0] rfl) (fun H locs ls hC hl => ?_)
      refine lv_iload_n hx hb dX6_findJoined_359 rfl (lv_at hl 1 rfl) ?_
      refine lv_aload_n hx hb dX6_findJoined_360 rfl (lv_at hl 0 rfl) ?_
      refine zm_gX6_joins hx hb hts zi_X6_findJoined hown hC kf81 dX6_findJoined_361 ?_
      refine lv_iload_n hx hb dX6_findJoined_364 rfl (lv_at hl 2 rfl) ?_
      obtain ⟨h7, hf⟩ := z_gd_s hf
      refine zm_aX6_joins hx hb hC (z_in h7) dX6_findJoined_365 ?_
      refine lv_if_ge (tgt := 373) hx hb dX6_findJoined_366 (by decide) (fun c8 => ?_) (fun c8 => ?_)
      · have hf := z_t hf c8
        refine lv_iconst (v := (1 : Int32)) hx hb dX6_findJoined_373 (by decide) ?_
        refine lv_aload_n hx hb dX6_findJoined_374 rfl (lv_at hl 0 rfl) ?_
        refine zm_gX6_joins hx hb hts zi_X6_findJoined hown hC kf81 dX6_findJoined_375 ?_
        refine lv_iload_n hx hb dX6_findJoined_378 rfl (lv_at hl 2 rfl) ?_
        obtain ⟨h9, hf⟩ := z_gd_s hf
        refine zm_aX6_joins hx hb hC (z_in h9) dX6_findJoined_379 ?_
        refine lv_ishl hx hb dX6_findJoined_380 ?_
        refine lv_ior hx hb dX6_findJoined_381 ?_
        refine lv_topi (fun x10 ex10 => ?_)
        have hf := z_nm_s hf ex10
        refine lv_istore_n (lv' := [(1, _), (0, _), (2, _), (3, _)]) hx hb dX6_findJoined_382 rfl hl (by decide) rfl (fun ls hl => ?_)
        obtain ⟨x11, ex11⟩ : ∃ z : Int32, z = (x_2 + (1 : Int32)) := ⟨_, rfl⟩
        have hf := z_nm_s hf ex11
        refine lv_iinc (v := x11) (lv' := [(2, _), (1, _), (0, _), (3, _)]) hx hb dX6_findJoined_383 hl (k := 2) rfl (by rw [ex11]; rfl) (by decide) rfl (fun ls hl => ?_)
        refine lv_goto (tgt := 232) hx hb dX6_findJoined_386 (by decide) ?_
        exact ih x10 x11 u6 _ _ _ _ _ _ hf hC (lv_sub hl [2, 1, 0] rfl) kk
      · have hf := z_f hf c8
        refine lv_iconst (v := (0 : Int32)) hx hb dX6_findJoined_369 (by decide) ?_
        refine lv_goto (tgt := 381) hx hb dX6_findJoined_370 (by decide) ?_
        refine lv_ior hx hb dX6_findJoined_381 ?_
        refine lv_topi (fun x12 ex12 => ?_)
        have hf := z_nm_s hf ex12
        refine lv_istore_n (lv' := [(1, _), (0, _), (2, _), (3, _)]) hx hb dX6_findJoined_382 rfl hl (by decide) rfl (fun ls hl => ?_)
        obtain ⟨x13, ex13⟩ : ∃ z : Int32, z = (x_2 + (1 : Int32)) := ⟨_, rfl⟩
        have hf := z_nm_s hf ex13
        refine lv_iinc (v := x13) (lv' := [(2, _), (1, _), (0, _), (3, _)]) hx hb dX6_findJoined_383 hl (k := 2) rfl (by rw [ex13]; rfl) (by decide) rfl (fun ls hl => ?_)
        refine lv_goto (tgt := 232) hx hb dX6_findJoined_386 (by decide) ?_
        exact ih x12 x13 u6 _ _ _ _ _ _ hf hC (lv_sub hl [2, 1, 0] rfl) kk
set_option maxHeartbeats 4000000 in
set_option maxRecDepth 100000 in
theorem zc_X6_findJoined (l : Launch) (D : va_G) (cI cJ : ClassId) (tp : Nat) (q : Nat → Nat) (u : z_St) {u2 : z_St} (hf : zf_X6_findJoined u = some u2) : z_Mv l yX6_findJoined wsX6_findJoined zr_X6_findJoined (zm_W cI cJ q) (zm_G tp) D cI cJ [.ref (q 0)] u u2 := by
  refine z_ofv (cc := cX6_findJoined) (maxL := 7) (ret := none) zm_Gok (by decide) rfl (Nat.le_of_ble_eq_true rfl) ?_
  intro A p e s m args below meth c ls E hr hlk hC hl
  have E : CallFix p m c cX6_findJoined 7 s args wsX6_findJoined RX6 := E
  have hx := E.1
  have hb := E.2.1
  have hml := E.2.2.1
  have hown := E.2.2.2.1
  have hts := E.2.2.2.2
  have hl : lv_has ls 7 [(0, .ref (q 0))] := hl
  unfold zf_X6_findJoined at hf
  have kf212 := hts (.fieldLink RX6 212 "DawnFairModel" "entries" "I") (by decide +kernel)
  refine lv_iconst (v := (0 : Int32)) hx hb dX6_findJoined_0 (by decide) ?_
  refine lv_istore_n (lv' := [(1, _), (0, _)]) hx hb dX6_findJoined_1 rfl hl (by decide) rfl (fun ls hl => ?_)
  obtain ⟨y1, u2, py1, hf⟩ := z_bd2_s hf
  refine zl_X6_findJoined_2 E 5000 (0 : Int32) u _ _ _ _ _ py1 hC (lv_sub hl [1, 0] rfl) (fun H locs ls hC hl => ?_)
  refine lv_iconst (v := (0 : Int32)) hx hb dX6_findJoined_49 (by decide) ?_
  refine lv_istore_n (lv' := [(1, _), (0, _)]) hx hb dX6_findJoined_50 rfl hl (by decide) rfl (fun ls hl => ?_)
  obtain ⟨y3, u4, py3, hf⟩ := z_bd2_s hf
  refine zl_X6_findJoined_51 E 5000 (0 : Int32) u2 _ _ _ _ _ py3 hC (lv_sub hl [1, 0] rfl) (fun H locs ls hC hl => ?_)
  refine lv_aload_n hx hb dX6_findJoined_80 rfl (lv_at hl 0 rfl) ?_
  refine zm_gX6_entries hx hb hts zi_X6_findJoined hown hC kf212 dX6_findJoined_81 ?_
  refine lv_iconst (v := (1 : Int32)) hx hb dX6_findJoined_84 (by decide) ?_
  refine lv_isub hx hb dX6_findJoined_85 ?_
  refine lv_topi (fun x5 ex5 => ?_)
  have hf := z_nm_s hf ex5
  refine lv_istore_n (lv' := [(1, _), (0, _)]) hx hb dX6_findJoined_86 rfl hl (by decide) rfl (fun ls hl => ?_)
  obtain ⟨y6, u7, py6, hf⟩ := z_bd2_s hf
  refine zl_X6_findJoined_87 E 5000 x5 u4 _ _ _ _ _ py6 hC (lv_sub hl [1, 0] rfl) (fun H locs ls hC hl => ?_)
  refine lv_iconst (v := (0 : Int32)) hx hb dX6_findJoined_228 (by decide) ?_
  refine lv_istore_n (lv' := [(1, _), (0, _)]) hx hb dX6_findJoined_229 rfl hl (by decide) rfl (fun ls hl => ?_)
  refine lv_iconst (v := (0 : Int32)) hx hb dX6_findJoined_230 (by decide) ?_
  refine lv_istore_n (lv' := [(2, _), (1, _), (0, _)]) hx hb dX6_findJoined_231 rfl hl (by decide) rfl (fun ls hl => ?_)
  obtain ⟨y8, y9, u10, py8, hf⟩ := z_bd3_s hf
  refine zl_X6_findJoined_232 E 5000 (0 : Int32) (0 : Int32) u7 _ _ _ _ _ _ py8 hC (lv_sub hl [2, 1, 0] rfl) (fun H locs ls hC hl => ?_)
  exact z_retv hx hb hr hlk hC (Option.some.inj hf) dX6_findJoined_389
abbrev zr_X6_joined : Room := { frames := 3, cells := 0, slots := 0, locals := 70 }
theorem zd_X6_joined : yX6_joined.cls ≠ "java/lang/invoke/MethodHandle" ∧ yX6_joined.cls ≠ "java/lang/invoke/VarHandle" ∧ (parseMethodDescriptor yX6_joined.desc).map (fun d => d.parameters.length) = some 0 := by decide +kernel
theorem zi_X6_joined : ∀ w ∈ wsX60, w ∈ wsX6_joined := fun _ h => List.mem_cons_of_mem _ (List.mem_append_right _ h)
set_option maxHeartbeats 4000000 in
set_option maxRecDepth 100000 in
theorem zc_X6_joined (l : Launch) (D : va_G) (cI cJ : ClassId) (tp : Nat) (q : Nat → Nat) (u : z_St) {r : Int32} {u2 : z_St} (hf : zf_X6_joined u = some (r, u2)) : z_Mi l yX6_joined wsX6_joined zr_X6_joined (zm_W cI cJ q) (zm_G tp) D cI cJ [.ref (q 0)] u r u2 := by
  refine z_ofi (cc := cX6_joined) (maxL := 1) (ret := (some .int)) zm_Gok (by decide) rfl (Nat.le_of_ble_eq_true rfl) ?_
  intro A p e s m args below meth c ls E hr hlk hC hl
  have E : CallFix p m c cX6_joined 1 s args wsX6_joined RX6 := E
  have hx := E.1
  have hb := E.2.1
  have hml := E.2.2.1
  have hown := E.2.2.2.1
  have hts := E.2.2.2.2
  have hl : lv_has ls 1 [(0, .ref (q 0))] := hl
  unfold zf_X6_joined at hf
  have kf212 := hts (.fieldLink RX6 212 "DawnFairModel" "entries" "I") (by decide +kernel)
  have kf78 := hts (.fieldLink RX6 78 "DawnFairModel" "sums" "[I") (by decide +kernel)
  refine lv_aload_n hx hb dX6_joined_0 rfl (lv_at hl 0 rfl) ?_
  refine zm_gX6_entries hx hb hts zi_X6_joined hown hC kf212 dX6_joined_1 ?_
  refine lv_bipush (v := (6 : Int32)) hx hb dX6_joined_4 (by decide) ?_
  refine lv_icmp_le (tgt := 12) hx hb dX6_joined_6 (by decide) (fun c1 => ?_) (fun c1 => ?_)
  · have hf := z_t hf c1
    refine lv_aload_n hx hb dX6_joined_12 rfl (lv_at hl 0 rfl) ?_
    obtain ⟨u2, pu2, hf⟩ := z_bd_s hf
    refine z_callv hC (z_runV (rest := []) zm_Gok hC E (zc_X6_findJoined l D cI cJ tp q u pu2 _) (cwV 0 hts gX6_joined_X6_findJoined rfl rfl rfl ⟨rfl, zd_X6_findJoined⟩ ⟨Nat.le_of_ble_eq_true rfl, Nat.le_of_ble_eq_true rfl⟩) (zm_rcX6 hC) rfl hl.1 rfl (Nat.le_of_ble_eq_true rfl) dX6_joined_13 ⟨Nat.zero_le _, Nat.zero_le _⟩) (fun H locs hC => ?_)
    refine lv_aload_n hx hb dX6_joined_16 rfl (lv_at hl 0 rfl) ?_
    refine zm_gX6_sums hx hb hts zi_X6_joined hown hC kf78 dX6_joined_17 ?_
    refine lv_iconst (v := (0 : Int32)) hx hb dX6_joined_20 (by decide) ?_
    obtain ⟨h3, hf⟩ := z_gd_s hf
    refine zm_aX6_sums hx hb hC (z_in h3) dX6_joined_21 ?_
    exact z_reti hx hb hr hlk hC (Prod.mk.inj (Option.some.inj hf)).1 (Prod.mk.inj (Option.some.inj hf)).2 dX6_joined_22
  · have hf := z_f hf c1
    refine lv_bipush (v := (-3 : Int32)) hx hb dX6_joined_9 (by decide) ?_
    exact z_reti hx hb hr hlk hC (Prod.mk.inj (Option.some.inj hf)).1 (Prod.mk.inj (Option.some.inj hf)).2 dX6_joined_11
abbrev zr_X6_joinedTo : Room := { frames := 3, cells := 0, slots := 0, locals := 70 }
theorem zd_X6_joinedTo : yX6_joinedTo.cls ≠ "java/lang/invoke/MethodHandle" ∧ yX6_joinedTo.cls ≠ "java/lang/invoke/VarHandle" ∧ (parseMethodDescriptor yX6_joinedTo.desc).map (fun d => d.parameters.length) = some 1 := by decide +kernel
theorem zi_X6_joinedTo : ∀ w ∈ wsX60, w ∈ wsX6_joinedTo := fun _ h => List.mem_cons_of_mem _ (List.mem_append_right _ h)
set_option maxHeartbeats 4000000 in
set_option maxRecDepth 100000 in
theorem zc_X6_joinedTo (l : Launch) (D : va_G) (cI cJ : ClassId) (tp : Nat) (q : Nat → Nat) (u : z_St) (a_1 : Int32) {r : Int32} {u2 : z_St} (hf : zf_X6_joinedTo u a_1 = some (r, u2)) : z_Mi l yX6_joinedTo wsX6_joinedTo zr_X6_joinedTo (zm_W cI cJ q) (zm_G tp) D cI cJ [.ref (q 0), .int a_1] u r u2 := by
  refine z_ofi (cc := cX6_joinedTo) (maxL := 2) (ret := (some .int)) zm_Gok (by decide) rfl (Nat.le_of_ble_eq_true rfl) ?_
  intro A p e s m args below meth c ls E hr hlk hC hl
  have E : CallFix p m c cX6_joinedTo 2 s args wsX6_joinedTo RX6 := E
  have hx := E.1
  have hb := E.2.1
  have hml := E.2.2.1
  have hown := E.2.2.2.1
  have hts := E.2.2.2.2
  have hl : lv_has ls 2 [(0, .ref (q 0)), (1, .int a_1)] := hl
  unfold zf_X6_joinedTo at hf
  have kf212 := hts (.fieldLink RX6 212 "DawnFairModel" "entries" "I") (by decide +kernel)
  have kf81 := hts (.fieldLink RX6 81 "DawnFairModel" "joins" "[I") (by decide +kernel)
  refine lv_iload_n hx hb dX6_joinedTo_0 rfl (lv_at hl 1 rfl) ?_
  refine lv_i2l hx hb dX6_joinedTo_1 rfl ?_
  refine lv_lconst (v := (0 : Int64)) hx hb dX6_joinedTo_2 (by decide) ?_
  refine lv_aload_n hx hb dX6_joinedTo_3 rfl (lv_at hl 0 rfl) ?_
  refine zm_gX6_entries hx hb hts zi_X6_joinedTo hown hC kf212 dX6_joinedTo_4 ?_
  refine lv_iconst (v := (1 : Int32)) hx hb dX6_joinedTo_7 (by decide) ?_
  refine lv_isub hx hb dX6_joinedTo_8 ?_
  refine lv_i2l hx hb dX6_joinedTo_9 rfl ?_
  refine z_calli hC (z_runS (rest := []) zm_Gok hC E (zc_X6_in l D cI cJ tp q u a_1.toInt64 (0 : Int64) ((z_rI u 32 0) - (1 : Int32)).toInt64 rfl _) (va_cwS 3 hts gX6_joinedTo_X6_in rfl rfl rfl zd_X6_in ⟨Nat.le_of_ble_eq_true rfl, Nat.le_of_ble_eq_true rfl⟩) rfl hl.1 rfl (Nat.le_of_ble_eq_true rfl) dX6_joinedTo_10 ⟨Nat.zero_le _, Nat.zero_le _⟩) (fun H locs hC => ?_)
  refine lv_if_ne (tgt := 19) hx hb dX6_joinedTo_13 (by decide) (fun c1 => ?_) (fun c1 => ?_)
  · have hf := z_f hf c1
    refine lv_aload_n hx hb dX6_joinedTo_19 rfl (lv_at hl 0 rfl) ?_
    refine zm_gX6_entries hx hb hts zi_X6_joinedTo hown hC kf212 dX6_joinedTo_20 ?_
    refine lv_bipush (v := (6 : Int32)) hx hb dX6_joinedTo_23 (by decide) ?_
    refine lv_icmp_le (tgt := 31) hx hb dX6_joinedTo_25 (by decide) (fun c2 => ?_) (fun c2 => ?_)
    · have hf := z_t hf c2
      refine lv_aload_n hx hb dX6_joinedTo_31 rfl (lv_at hl 0 rfl) ?_
      obtain ⟨u3, pu3, hf⟩ := z_bd_s hf
      refine z_callv hC (z_runV (rest := []) zm_Gok hC E (zc_X6_findJoined l D cI cJ tp q u pu3 _) (cwV 0 hts gX6_joinedTo_X6_findJoined rfl rfl rfl ⟨rfl, zd_X6_findJoined⟩ ⟨Nat.le_of_ble_eq_true rfl, Nat.le_of_ble_eq_true rfl⟩) (zm_rcX6 hC) rfl hl.1 rfl (Nat.le_of_ble_eq_true rfl) dX6_joinedTo_32 ⟨Nat.zero_le _, Nat.zero_le _⟩) (fun H locs hC => ?_)
      refine lv_aload_n hx hb dX6_joinedTo_35 rfl (lv_at hl 0 rfl) ?_
      refine zm_gX6_joins hx hb hts zi_X6_joinedTo hown hC kf81 dX6_joinedTo_36 ?_
      refine lv_iload_n hx hb dX6_joinedTo_39 rfl (lv_at hl 1 rfl) ?_
      obtain ⟨h4, hf⟩ := z_gd_s hf
      refine zm_aX6_joins hx hb hC (z_in h4) dX6_joinedTo_40 ?_
      exact z_reti hx hb hr hlk hC (Prod.mk.inj (Option.some.inj hf)).1 (Prod.mk.inj (Option.some.inj hf)).2 dX6_joinedTo_41
    · have hf := z_f hf c2
      refine lv_bipush (v := (-3 : Int32)) hx hb dX6_joinedTo_28 (by decide) ?_
      exact z_reti hx hb hr hlk hC (Prod.mk.inj (Option.some.inj hf)).1 (Prod.mk.inj (Option.some.inj hf)).2 dX6_joinedTo_30
  · have hf := z_t hf c1
    refine lv_bipush (v := (-2 : Int32)) hx hb dX6_joinedTo_16 (by decide) ?_
    exact z_reti hx hb hr hlk hC (Prod.mk.inj (Option.some.inj hf)).1 (Prod.mk.inj (Option.some.inj hf)).2 dX6_joinedTo_18
end
