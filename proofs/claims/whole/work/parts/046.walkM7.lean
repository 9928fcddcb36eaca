section
variable {p : Program} {l : Launch} {e : Env} {R : Room} {s : State} {m : MethodId} {args : Array Value} {below : List Frame} {meth : Method} {c : Code} {H : Heap} {locs : List Loc} {cells slots : Nat} {Q : State → Prop} {cc : ByteArray} {pc : Nat} {ls : Array Slot} {rest : List Value}
variable {D : va_G} {cI cJ : ClassId} {tp : Nat} {q : Nat → Nat} {A : Nat → Prop} {u : z_St} {Ts : List Cond}
abbrev zr_X6_digest : Room := { frames := 3, cells := 0, slots := 0, locals := 66 }
theorem zd_X6_digest : yX6_digest.cls ≠ "java/lang/invoke/MethodHandle" ∧ yX6_digest.cls ≠ "java/lang/invoke/VarHandle" ∧ (parseMethodDescriptor yX6_digest.desc).map (fun d => d.parameters.length) = some 0 := by decide +kernel
theorem zi_X6_digest : ∀ w ∈ wsX60, w ∈ wsX6_digest := fun _ h => List.mem_cons_of_mem _ (List.mem_append_right _ h)
set_option maxHeartbeats 4000000 in
set_option maxRecDepth 100000 in
theorem zl_X6_digest_6 (E : CallFix p m c cX6_digest 5 s args wsX6_digest RX6) (u : z_St) : ∀ (n : Nat) (x_1 : Int64) (x_3 : Int32) (H : Heap) (locs : List Loc) (ls : Array Slot) (o_1 : Int64) (o_3 : Int32), zf_X6_digest_6 u n x_1 x_3 = some (o_1, o_3) → z_C (zm_W cI cJ q) (zm_G tp) D cI cJ A s u H locs → lv_has ls 5 [(0, .ref (q 0)), (1, .long x_1), (3, .int x_3)] → (∀ (H : Heap) (locs : List Loc) (ls : Array Slot), z_C (zm_W cI cJ q) (zm_G tp) D cI cJ A s u H locs → lv_has ls 5 [(0, .ref (q 0)), (1, .long o_1), (3, .int o_3)] → W p l e zr_X6_digest s m args below meth c H locs 0 0 Q (F0 m 31 ls [])) → W p l e zr_X6_digest s m args below meth c H locs 0 0 Q (F0 m 6 ls []) := by
  have hx := E.1
  have hb := E.2.1
  have hml := E.2.2.1
  have hown := E.2.2.2.1
  have hts := E.2.2.2.2
  intro n
  induction n with
  | zero =>
    intro x_1 x_3 H locs ls o_1 o_3 hf
    rw [zf_X6_digest_6.eq_1] at hf
    cases hf
  | succ n ih =>
    intro x_1 x_3 H locs ls o_1 o_3 hf hC hl kk
    rw [zf_X6_digest_6.eq_2] at hf
    have kl242 := hts (.constantLong RX6 242 (31)) (by decide +kernel)
    refine lv_iload_n hx hb dX6_digest_6 rfl (lv_at hl 2 rfl) ?_
    refine lv_bipush (v := (7 : Int32)) hx hb dX6_digest_7 (by decide) ?_
    refine lv_icmp_ge (tgt := 31) hx hb dX6_digest_9 (by decide) (fun c1 => ?_) (fun c1 => ?_)
    · have hf := z_t hf c1
      cases hf
      exact kk _ _ _ hC (lv_sub hl [0, 1, 2] rfl)
    · have hf := z_f hf c1
      refine lv_ldc2 (own := RX6) (v := (31 : Int64)) hx hb hown kl242 dX6_digest_12 ?_
      refine lv_lload_n hx hb dX6_digest_15 rfl (lv_at hl 1 rfl) ?_
      refine lv_lmul hx hb dX6_digest_16 ?_
      refine lv_aload_n hx hb dX6_digest_17 rfl (lv_at hl 0 rfl) ?_
      refine lv_iload_n hx hb dX6_digest_18 rfl (lv_at hl 2 rfl) ?_
      obtain ⟨r2, pr2, hf⟩ := z_bd_s hf
      refine z_calli hC (z_runV (rest := [_]) zm_Gok hC E (zc_X6_count l D cI cJ tp q u x_3 pr2 _) (cwV 1 hts gX6_digest_X6_count rfl rfl rfl ⟨rfl, zd_X6_count⟩ ⟨Nat.le_of_ble_eq_true rfl, Nat.le_of_ble_eq_true rfl⟩) (zm_rcX6 hC) rfl hl.1 rfl (Nat.le_of_ble_eq_true rfl) dX6_digest_19 ⟨Nat.zero_le _, Nat.zero_le _⟩) (fun H locs hC => ?_)
      refine lv_i2l hx hb dX6_digest_22 rfl ?_
      refine lv_ladd hx hb dX6_digest_23 ?_
      refine lv_topl (fun x3 ex3 => ?_)
      have hf := z_nm_s hf ex3
      refine lv_lstore_n (lv' := [(1, _), (0, _), (3, _)]) hx hb dX6_digest_24 rfl hl (by decide) rfl (fun ls hl => ?_)
      obtain ⟨x4, ex4⟩ : ∃ z : Int32, z = (x_3 + (1 : Int32)) := ⟨_, rfl⟩
      have hf := z_nm_s hf ex4
      refine lv_iinc (v := x4) (lv' := [(3, _), (1, _), (0, _)]) hx hb dX6_digest_25 hl (k := 2) rfl (by rw [ex4]; rfl) (by decide) rfl (fun ls hl => ?_)
      refine lv_goto (tgt := 6) hx hb dX6_digest_28 (by decide) ?_
      exact ih x3 x4 _ _ _ _ _ hf hC (lv_sub hl [2, 1, 0] rfl) kk
set_option maxHeartbeats 4000000 in
set_option maxRecDepth 100000 in
theorem zl_X6_digest_33 (E : CallFix p m c cX6_digest 5 s args wsX6_digest RX6) (u : z_St) : ∀ (n : Nat) (x_1 : Int64) (x_3 : Int32) (H : Heap) (locs : List Loc) (ls : Array Slot) (o_1 : Int64) (o_3 : Int32), zf_X6_digest_33 u n x_1 x_3 = some (o_1, o_3) → z_C (zm_W cI cJ q) (zm_G tp) D cI cJ A s u H locs → lv_has ls 5 [(0, .ref (q 0)), (1, .long x_1), (3, .int x_3)] → (∀ (H : Heap) (locs : List Loc) (ls : Array Slot), z_C (zm_W cI cJ q) (zm_G tp) D cI cJ A s u H locs → lv_has ls 5 [(0, .ref (q 0)), (1, .long o_1), (3, .int o_3)] → W p l e zr_X6_digest s m args below meth c H locs 0 0 Q (F0 m 73 ls [])) → W p l e zr_X6_digest s m args below meth c H locs 0 0 Q (F0 m 33 ls []) := by
  have hx := E.1
  have hb := E.2.1
  have hml := E.2.2.1
  have hown := E.2.2.2.1
  have hts := E.2.2.2.2
  intro n
  induction n with
  | zero =>
    intro x_1 x_3 H locs ls o_1 o_3 hf
    rw [zf_X6_digest_33.eq_1] at hf
    cases hf
  | succ n ih =>
    intro x_1 x_3 H locs ls o_1 o_3 hf hC hl kk
    rw [zf_X6_digest_33.eq_2] at hf
    have kl242 := hts (.constantLong RX6 242 (31)) (by decide +kernel)
    have kf7 := hts (.fieldLink RX6 7 "DawnFairModel" "since" "[I") (by decide +kernel)
    have kf13 := hts (.fieldLink RX6 13 "DawnFairModel" "until" "[I") (by decide +kernel)
    refine lv_iload_n hx hb dX6_digest_33 rfl (lv_at hl 2 rfl) ?_
    refine lv_bipush (v := (10 : Int32)) hx hb dX6_digest_34 (by decide) ?_
    refine lv_icmp_ge (tgt := 73) hx hb dX6_digest_36 (by decide) (fun c1 => ?_) (fun c1 => ?_)
    · have hf := z_t hf c1
      cases hf
      exact kk _ _ _ hC (lv_sub hl [0, 1, 2] rfl)
    · have hf := z_f hf c1
      refine lv_ldc2 (own := RX6) (v := (31 : Int64)) hx hb hown kl242 dX6_digest_39 ?_
      refine lv_lload_n hx hb dX6_digest_42 rfl (lv_at hl 1 rfl) ?_
      refine lv_lmul hx hb dX6_digest_43 ?_
      refine lv_aload_n hx hb dX6_digest_44 rfl (lv_at hl 0 rfl) ?_
      refine zm_gX6_since hx hb hts zi_X6_digest hown hC kf7 dX6_digest_45 ?_
      refine lv_iload_n hx hb dX6_digest_48 rfl (lv_at hl 2 rfl) ?_
      obtain ⟨h2, hf⟩ := z_gd_s hf
      refine zm_aX6_since hx hb hC (z_in h2) dX6_digest_49 ?_
      refine lv_i2l hx hb dX6_digest_50 rfl ?_
      refine lv_ladd hx hb dX6_digest_51 ?_
      refine lv_topl (fun x3 ex3 => ?_)
      have hf := z_nm_s hf ex3
      refine lv_lstore_n (lv' := [(1, _), (0, _), (3, _)]) hx hb dX6_digest_52 rfl hl (by decide) rfl (fun ls hl => ?_)
      refine lv_ldc2 (own := RX6) (v := (31 : Int64)) hx hb hown kl242 dX6_digest_53 ?_
      refine lv_lload_n hx hb dX6_digest_56 rfl (lv_at hl 0 rfl) ?_
      refine lv_lmul hx hb dX6_digest_57 ?_
      refine lv_aload_n hx hb dX6_digest_58 rfl (lv_at hl 1 rfl) ?_
      refine zm_gX6_until hx hb hts zi_X6_digest hown hC kf13 dX6_digest_59 ?_
      refine lv_iload_n hx hb dX6_digest_62 rfl (lv_at hl 2 rfl) ?_
      obtain ⟨h4, hf⟩ := z_gd_s hf
      refine zm_aX6_until hx hb hC (z_in h4) dX6_digest_63 ?_
      refine lv_i2l hx hb dX6_digest_64 rfl ?_
      refine lv_ladd hx hb dX6_digest_65 ?_
      refine lv_topl (fun x5 ex5 => ?_)
      have hf := z_nm_s hf ex5
      refine lv_lstore_n (lv' := [(1, _), (0, _), (3, _)]) hx hb dX6_digest_66 rfl hl (by decide) rfl (fun ls hl => ?_)
      obtain ⟨x6, ex6⟩ : ∃ z : Int32, z = (x_3 + (1 : Int32)) := ⟨_, rfl⟩
      have hf := z_nm_s hf ex6
      refine lv_iinc (v := x6) (lv' := [(3, _), (1, _), (0, _)]) hx hb dX6_digest_67 hl (k := 2) rfl (by rw [ex6]; rfl) (by decide) rfl (fun ls hl => ?_)
      refine lv_goto (tgt := 33) hx hb dX6_digest_70 (by decide) ?_
      exact ih x5 x6 _ _ _ _ _ hf hC (lv_sub hl [2, 1, 0] rfl) kk
set_option maxHeartbeats 4000000 in
set_option maxRecDepth 100000 in
theorem zl_X6_digest_100 (E : CallFix p m c cX6_digest 5 s args wsX6_digest RX6) (a_3 : Int32) (u : z_St) : ∀ (n : Nat) (x_1 : Int64) (x_4 : Int32) (H : Heap) (locs : List Loc) (ls : Array Slot) (o_1 : Int64) (o_4 : Int32), zf_X6_digest_100 a_3 u n x_1 x_4 = some (o_1, o_4) → z_C (zm_W cI cJ q) (zm_G tp) D cI cJ A s u H locs → lv_has ls 5 [(0, .ref (q 0)), (1, .long x_1), (3, .int a_3), (4, .int x_4)] → (∀ (H : Heap) (locs : List Loc) (ls : Array Slot), z_C (zm_W cI cJ q) (zm_G tp) D cI cJ A s u H locs → lv_has ls 5 [(0, .ref (q 0)), (1, .long o_1), (3, .int a_3), (4, .int o_4)] → W p l e zr_X6_digest s m args below meth c H locs 0 0 Q (F0 m 136 ls [])) → W p l e zr_X6_digest s m args below meth c H locs 0 0 Q (F0 m 100 ls []) := by
  have hx := E.1
  have hb := E.2.1
  have hml := E.2.2.1
  have hown := E.2.2.2.1
  have hts := E.2.2.2.2
  intro n
  induction n with
  | zero =>
    intro x_1 x_4 H locs ls o_1 o_4 hf
    rw [zf_X6_digest_100.eq_1] at hf
    cases hf
  | succ n ih =>
    intro x_1 x_4 H locs ls o_1 o_4 hf hC hl kk
    rw [zf_X6_digest_100.eq_2] at hf
    have kf16 := hts (.fieldLink RX6 16 "DawnFairModel" "parts" "[I") (by decide +kernel)
    have kl242 := hts (.constantLong RX6 242 (31)) (by decide +kernel)
    have kf19 := hts (.fieldLink RX6 19 "DawnFairModel" "worksOf" "[I") (by decide +kernel)
    refine lv_iload hx hb dX6_digest_100 (lv_at hl 3 rfl) ?_
    refine lv_aload_n hx hb dX6_digest_102 rfl (lv_at hl 0 rfl) ?_
    refine zm_gX6_parts hx hb hts zi_X6_digest hown hC kf16 dX6_digest_103 ?_
    refine lv_iload_n hx hb dX6_digest_106 rfl (lv_at hl 2 rfl) ?_
    obtain ⟨h1, hf⟩ := z_gd_s hf
    refine zm_aX6_parts hx hb hC (z_in h1) dX6_digest_107 ?_
    refine lv_icmp_ge (tgt := 136) hx hb dX6_digest_108 (by decide) (fun c2 => ?_) (fun c2 => ?_)
    · have hf := z_t hf c2
      cases hf
      exact kk _ _ _ hC (lv_sub hl [0, 1, 2, 3] rfl)
    · have hf := z_f hf c2
      refine lv_ldc2 (own := RX6) (v := (31 : Int64)) hx hb hown kl242 dX6_digest_111 ?_
      refine lv_lload_n hx hb dX6_digest_114 rfl (lv_at hl 1 rfl) ?_
      refine lv_lmul hx hb dX6_digest_115 ?_
      refine lv_aload_n hx hb dX6_digest_116 rfl (lv_at hl 0 rfl) ?_
      refine zm_gX6_worksOf hx hb hts zi_X6_digest hown hC kf19 dX6_digest_117 ?_
      refine lv_iconst (v := (5 : Int32)) hx hb dX6_digest_120 (by decide) ?_
      refine lv_iload_n hx hb dX6_digest_121 rfl (lv_at hl 2 rfl) ?_
      refine lv_imul hx hb dX6_digest_122 ?_
      refine lv_iload hx hb dX6_digest_123 (lv_at hl 3 rfl) ?_
      refine lv_iadd hx hb dX6_digest_125 ?_
      obtain ⟨h3, hf⟩ := z_gd_s hf
      refine zm_aX6_worksOf hx hb hC (z_in h3) dX6_digest_126 ?_
      refine lv_i2l hx hb dX6_digest_127 rfl ?_
      refine lv_ladd hx hb dX6_digest_128 ?_
      refine lv_topl (fun x4 ex4 => ?_)
      have hf := z_nm_s hf ex4
      refine lv_lstore_n (lv' := [(1, _), (0, _), (3, _), (4, _)]) hx hb dX6_digest_129 rfl hl (by decide) rfl (fun ls hl => ?_)
      obtain ⟨x5, ex5⟩ : ∃ z : Int32, z = (x_4 + (1 : Int32)) := ⟨_, rfl⟩
      have hf := z_nm_s hf ex5
      refine lv_iinc (v := x5) (lv' := [(4, _), (1, _), (0, _), (3, _)]) hx hb dX6_digest_130 hl (k := 3) rfl (by rw [ex5]; rfl) (by decide) rfl (fun ls hl => ?_)
      refine lv_goto (tgt := 100) hx hb dX6_digest_133 (by decide) ?_
      exact ih x4 x5 _ _ _ _ _ hf hC (lv_sub hl [2, 1, 3, 0] rfl) kk
set_option maxHeartbeats 4000000 in
set_option maxRecDepth 100000 in
theorem zl_X6_digest_75 (E : CallFix p m c cX6_digest 5 s args wsX6_digest RX6) (u : z_St) : ∀ (n : Nat) (x_1 : Int64) (x_3 : Int32) (H : Heap) (locs : List Loc) (ls : Array Slot) (o_1 : Int64) (o_3 : Int32), zf_X6_digest_75 u n x_1 x_3 = some (o_1, o_3) → z_C (zm_W cI cJ q) (zm_G tp) D cI cJ A s u H locs → lv_has ls 5 [(0, .ref (q 0)), (1, .long x_1), (3, .int x_3)] → (∀ (H : Heap) (locs : List Loc) (ls : Array Slot), z_C (zm_W cI cJ q) (zm_G tp) D cI cJ A s u H locs → lv_has ls 5 [(0, .ref (q 0)), (1, .long o_1), (3, .int o_3)] → W p l e zr_X6_digest s m args below meth c H locs 0 0 Q (F0 m 184 ls [])) → W p l e zr_X6_digest s m args below meth c H locs 0 0 Q (F0 m 75 ls []) := by
  have hx := E.1
  have hb := E.2.1
  have hml := E.2.2.1
  have hown := E.2.2.2.1
  have hts := E.2.2.2.2
  intro n
  induction n with
  | zero =>
    intro x_1 x_3 H locs ls o_1 o_3 hf
    rw [zf_X6_digest_75.eq_1] at hf
    cases hf
  | succ n ih =>
    intro x_1 x_3 H locs ls o_1 o_3 hf hC hl kk
    rw [zf_X6_digest_75.eq_2] at hf
    have kf104 := hts (.fieldLink RX6 104 "DawnFairModel" "things" "I") (by decide +kernel)
    have kl242 := hts (.constantLong RX6 242 (31)) (by decide +kernel)
    have kf16 := hts (.fieldLink RX6 16 "DawnFairModel" "parts" "[I") (by decide +kernel)
    have kf22 := hts (.fieldLink RX6 22 "DawnFairModel" "holder" "[I") (by decide +kernel)
    have kf28 := hts (.fieldLink RX6 28 "DawnFairModel" "seen" "[I") (by decide +kernel)
    have kf31 := hts (.fieldLink RX6 31 "DawnFairModel" "lacked" "[I") (by decide +kernel)
    refine lv_iload_n hx hb dX6_digest_75 rfl (lv_at hl 2 rfl) ?_
    refine lv_aload_n hx hb dX6_digest_76 rfl (lv_at hl 0 rfl) ?_
    refine zm_gX6_things hx hb hts zi_X6_digest hown hC kf104 dX6_digest_77 ?_
    refine lv_icmp_ge (tgt := 184) hx hb dX6_digest_80 (by decide) (fun c1 => ?_) (fun c1 => ?_)
    · have hf := z_t hf c1
      cases hf
      exact kk _ _ _ hC (lv_sub hl [0, 1, 2] rfl)
    · have hf := z_f hf c1
      refine lv_ldc2 (own := RX6) (v := (31 : Int64)) hx hb hown kl242 dX6_digest_83 ?_
      refine lv_lload_n hx hb dX6_digest_86 rfl (lv_at hl 1 rfl) ?_
      refine lv_lmul hx hb dX6_digest_87 ?_
      refine lv_aload_n hx hb dX6_digest_88 rfl (lv_at hl 0 rfl) ?_
      refine zm_gX6_parts hx hb hts zi_X6_digest hown hC kf16 dX6_digest_89 ?_
      refine lv_iload_n hx hb dX6_digest_92 rfl (lv_at hl 2 rfl) ?_
      obtain ⟨h2, hf⟩ := z_gd_s hf
      refine zm_aX6_parts hx hb hC (z_in h2) dX6_digest_93 ?_
      refine lv_i2l hx hb dX6_digest_94 rfl ?_
      refine lv_ladd hx hb dX6_digest_95 ?_
      refine lv_topl (fun x3 ex3 => ?_)
      have hf := z_nm_s hf ex3
      refine lv_lstore_n (lv' := [(1, _), (0, _), (3, _)]) hx hb dX6_digest_96 rfl hl (by decide) rfl (fun ls hl => ?_)
      refine lv_iconst (v := (0 : Int32)) hx hb dX6_digest_97 (by decide) ?_
      refine lv_istore (lv' := [(4, _), (1, _), (0, _), (3, _)]) hx hb dX6_digest_98 hl (by decide) rfl (fun ls hl => ?_)
      obtain ⟨y4, y5, py4, hf⟩ := z_bd2_s hf
      refine zl_X6_digest_100 E x_3 u 5000 x3 (0 : Int32) _ _ _ _ _ py4 hC (lv_sub hl [2, 1, 3, 0] rfl) (fun H locs ls hC hl => ?_)
      refine lv_ldc2 (own := RX6) (v := (31 : Int64)) hx hb hown kl242 dX6_digest_136 ?_
      refine lv_lload_n hx hb dX6_digest_139 rfl (lv_at hl 1 rfl) ?_
      refine lv_lmul hx hb dX6_digest_140 ?_
      refine lv_aload_n hx hb dX6_digest_141 rfl (lv_at hl 0 rfl) ?_
      refine zm_gX6_holder hx hb hts zi_X6_digest hown hC kf22 dX6_digest_142 ?_
      refine lv_iload_n hx hb dX6_digest_145 rfl (lv_at hl 2 rfl) ?_
      obtain ⟨h6, hf⟩ := z_gd_s hf
      refine zm_aX6_holder hx hb hC (z_in h6) dX6_digest_146 ?_
      refine lv_i2l hx hb dX6_digest_147 rfl ?_
      refine lv_ladd hx hb dX6_digest_148 ?_
      refine lv_topl (fun x7 ex7 => ?_)
      have hf := z_nm_s hf ex7
      refine lv_lstore_n (lv' := [(1, _), (0, _), (3, _), (4, _)]) hx hb dX6_digest_149 rfl hl (by decide) rfl (fun ls hl => ?_)
      refine lv_ldc2 (own := RX6) (v := (31 : Int64)) hx hb hown kl242 dX6_digest_150 ?_
      refine lv_lload_n hx hb dX6_digest_153 rfl (lv_at hl 0 rfl) ?_
      refine lv_lmul hx hb dX6_digest_154 ?_
      refine lv_aload_n hx hb dX6_digest_155 rfl (lv_at hl 1 rfl) ?_
      refine zm_gX6_seen hx hb hts zi_X6_digest hown hC kf28 dX6_digest_156 ?_
      refine lv_iload_n hx hb dX6_digest_159 rfl (lv_at hl 2 rfl) ?_
      obtain ⟨h8, hf⟩ := z_gd_s hf
      refine zm_aX6_seen hx hb hC (z_in h8) dX6_digest_160 ?_
      refine lv_i2l hx hb dX6_digest_161 rfl ?_
      refine lv_ladd hx hb dX6_digest_162 ?_
      refine lv_topl (fun x9 ex9 => ?_)
      have hf := z_nm_s hf ex9
      refine lv_lstore_n (lv' := [(1, _), (0, _), (3, _), (4, _)]) hx hb dX6_digest_163 rfl hl (by decide) rfl (fun ls hl => ?_)
      refine lv_ldc2 (own := RX6) (v := (31 : Int64)) hx hb hown kl242 dX6_digest_164 ?_
      refine lv_lload_n hx hb dX6_digest_167 rfl (lv_at hl 0 rfl) ?_
      refine lv_lmul hx hb dX6_digest_168 ?_
      refine lv_aload_n hx hb dX6_digest_169 rfl (lv_at hl 1 rfl) ?_
      refine zm_gX6_lacked hx hb hts zi_X6_digest hown hC kf31 dX6_digest_170 ?_
      refine lv_iload_n hx hb dX6_digest_173 rfl (lv_at hl 2 rfl) ?_
      obtain ⟨h10, hf⟩ := z_gd_s hf
      refine zm_aX6_lacked hx hb hC (z_in h10) dX6_digest_174 ?_
      refine lv_i2l hx hb dX6_digest_175 rfl ?_
      refine lv_ladd hx hb dX6_digest_176 ?_
      refine lv_topl (fun x11 ex11 => ?_)
      have hf := z_nm_s hf ex11
      refine lv_lstore_n (lv' := [(1, _), (0, _), (3, _), (4, _)]) hx hb dX6_digest_177 rfl hl (by decide) rfl (fun ls hl => ?_)
      obtain ⟨x12, ex12⟩ : ∃ z : Int32, z = (x_3 + (1 : Int32)) := ⟨_, rfl⟩
      have hf := z_nm_s hf ex12
      refine lv_iinc (v := x12) (lv' := [(3, _), (1, _), (0, _), (4, _)]) hx hb dX6_digest_178 hl (k := 2) rfl (by rw [ex12]; rfl) (by decide) rfl (fun ls hl => ?_)
      refine lv_goto (tgt := 75) hx hb dX6_digest_181 (by decide) ?_
      exact ih x11 x12 _ _ _ _ _ hf hC (lv_sub hl [2, 1, 0] rfl) kk
set_option maxHeartbeats 4000000 in
set_option maxRecDepth 100000 in
theorem zl_X6_digest_197 (E : CallFix p m c cX6_digest 5 s args wsX6_digest RX6) (a_3 : Int32) (u : z_St) : ∀ (n : Nat) (x_1 : Int64) (x_4 : Int32) (H : Heap) (locs : List Loc) (ls : Array Slot) (o_1 : Int64) (o_4 : Int32), zf_X6_digest_197 a_3 u n x_1 x_4 = some (o_1, o_4) → z_C (zm_W cI cJ q) (zm_G tp) D cI cJ A s u H locs → lv_has ls 5 [(0, .ref (q 0)), (1, .long x_1), (3, .int a_3), (4, .int x_4)] → (∀ (H : Heap) (locs : List Loc) (ls : Array Slot), z_C (zm_W cI cJ q) (zm_G tp) D cI cJ A s u H locs → lv_has ls 5 [(0, .ref (q 0)), (1, .long o_1), (3, .int a_3), (4, .int o_4)] → W p l e zr_X6_digest s m args below meth c H locs 0 0 Q (F0 m 225 ls [])) → W p l e zr_X6_digest s m args below meth c H locs 0 0 Q (F0 m 197 ls []) := by
  have hx := E.1
  have hb := E.2.1
  have hml := E.2.2.1
  have hown := E.2.2.2.1
  have hts := E.2.2.2.2
  intro n
  induction n with
  | zero =>
    intro x_1 x_4 H locs ls o_1 o_4 hf
    rw [zf_X6_digest_197.eq_1] at hf
    cases hf
  | succ n ih =>
    intro x_1 x_4 H locs ls o_1 o_4 hf hC hl kk
    rw [zf_X6_digest_197.eq_2] at hf
    have kl242 := hts (.constantLong RX6 242 (31)) (by decide +kernel)
    refine lv_iload hx hb dX6_digest_197 (lv_at hl 3 rfl) ?_
    refine lv_bipush (v := (7 : Int32)) hx hb dX6_digest_199 (by decide) ?_
    refine lv_icmp_ge (tgt := 225) hx hb dX6_digest_201 (by decide) (fun c1 => ?_) (fun c1 => ?_)
    · have hf := z_t hf c1
      cases hf
      exact kk _ _ _ hC (lv_sub hl [0, 1, 2, 3] rfl)
    · have hf := z_f hf c1
      refine lv_ldc2 (own := RX6) (v := (31 : Int64)) hx hb hown kl242 dX6_digest_204 ?_
      refine lv_lload_n hx hb dX6_digest_207 rfl (lv_at hl 1 rfl) ?_
      refine lv_lmul hx hb dX6_digest_208 ?_
      refine lv_aload_n hx hb dX6_digest_209 rfl (lv_at hl 0 rfl) ?_
      refine lv_iload_n hx hb dX6_digest_210 rfl (lv_at hl 2 rfl) ?_
      refine lv_iload hx hb dX6_digest_211 (lv_at hl 3 rfl) ?_
      obtain ⟨r2, pr2, hf⟩ := z_bd_s hf
      refine z_calli hC (z_runV (rest := [_]) zm_Gok hC E (zc_X6_saleOf l D cI cJ tp q u a_3 x_4 pr2 _) (cwV 2 hts gX6_digest_X6_saleOf rfl rfl rfl ⟨rfl, zd_X6_saleOf⟩ ⟨Nat.le_of_ble_eq_true rfl, Nat.le_of_ble_eq_true rfl⟩) (zm_rcX6 hC) rfl hl.1 rfl (Nat.le_of_ble_eq_true rfl) dX6_digest_213 ⟨Nat.zero_le _, Nat.zero_le _⟩) (fun H locs hC => ?_)
      refine lv_i2l hx hb dX6_digest_216 rfl ?_
      refine lv_ladd hx hb dX6_digest_217 ?_
      refine lv_topl (fun x3 ex3 => ?_)
      have hf := z_nm_s hf ex3
      refine lv_lstore_n (lv' := [(1, _), (0, _), (3, _), (4, _)]) hx hb dX6_digest_218 rfl hl (by decide) rfl (fun ls hl => ?_)
      obtain ⟨x4, ex4⟩ : ∃ z : Int32, z = (x_4 + (1 : Int32)) := ⟨_, rfl⟩
      have hf := z_nm_s hf ex4
      refine lv_iinc (v := x4) (lv' := [(4, _), (1, _), (0, _), (3, _)]) hx hb dX6_digest_219 hl (k := 3) rfl (by rw [ex4]; rfl) (by decide) rfl (fun ls hl => ?_)
      refine lv_goto (tgt := 197) hx hb dX6_digest_222 (by decide) ?_
      exact ih x3 x4 _ _ _ _ _ hf hC (lv_sub hl [2, 1, 3, 0] rfl) kk
set_option maxHeartbeats 4000000 in
set_option maxRecDepth 100000 in
theorem zl_X6_digest_186 (E : CallFix p m c cX6_digest 5 s args wsX6_digest RX6) (u : z_St) : ∀ (n : Nat) (x_1 : Int64) (x_3 : Int32) (H : Heap) (locs : List Loc) (ls : Array Slot) (o_1 : Int64) (o_3 : Int32), zf_X6_digest_186 u n x_1 x_3 = some (o_1, o_3) → z_C (zm_W cI cJ q) (zm_G tp) D cI cJ A s u H locs → lv_has ls 5 [(0, .ref (q 0)), (1, .long x_1), (3, .int x_3)] → (∀ (H : Heap) (locs : List Loc) (ls : Array Slot), z_C (zm_W cI cJ q) (zm_G tp) D cI cJ A s u H locs → lv_has ls 5 [(0, .ref (q 0)), (1, .long o_1), (3, .int o_3)] → W p l e zr_X6_digest s m args below meth c H locs 0 0 Q (F0 m 231 ls [])) → W p l e zr_X6_digest s m args below meth c H locs 0 0 Q (F0 m 186 ls []) := by
  have hx := E.1
  have hb := E.2.1
  have hml := E.2.2.1
  have hown := E.2.2.2.1
  have hts := E.2.2.2.2
  intro n
  induction n with
  | zero =>
    intro x_1 x_3 H locs ls o_1 o_3 hf
    rw [zf_X6_digest_186.eq_1] at hf
    cases hf
  | succ n ih =>
    intro x_1 x_3 H locs ls o_1 o_3 hf hC hl kk
    rw [zf_X6_digest_186.eq_2] at hf
    have kf137 := hts (.fieldLink RX6 137 "DawnFairModel" "sales" "I") (by decide +kernel)
    refine lv_iload_n hx hb dX6_digest_186 rfl (lv_at hl 2 rfl) ?_
    refine lv_aload_n hx hb dX6_digest_187 rfl (lv_at hl 0 rfl) ?_
    refine zm_gX6_sales hx hb hts zi_X6_digest hown hC kf137 dX6_digest_188 ?_
    refine lv_icmp_ge (tgt := 231) hx hb dX6_digest_191 (by decide) (fun c1 => ?_) (fun c1 => ?_)
    · have hf := z_t hf c1
      cases hf
      exact kk _ _ _ hC (lv_sub hl [0, 1, 2] rfl)
    · have hf := z_f hf c1
      refine lv_iconst (v := (0 : Int32)) hx hb dX6_digest_194 (by decide) ?_
      refine lv_istore (lv' := [(4, _), (0, _), (1, _), (3, _)]) hx hb dX6_digest_195 hl (by decide) rfl (fun ls hl => ?_)
      obtain ⟨y2, y3, py2, hf⟩ := z_bd2_s hf
      refine zl_X6_digest_197 E x_3 u 5000 x_1 (0 : Int32) _ _ _ _ _ py2 hC (lv_sub hl [1, 2, 3, 0] rfl) (fun H locs ls hC hl => ?_)
      obtain ⟨x4, ex4⟩ : ∃ z : Int32, z = (x_3 + (1 : Int32)) := ⟨_, rfl⟩
      have hf := z_nm_s hf ex4
      refine lv_iinc (v := x4) (lv' := [(3, _), (0, _), (1, _), (4, _)]) hx hb dX6_digest_225 hl (k := 2) rfl (by rw [ex4]; rfl) (by decide) rfl (fun ls hl => ?_)
      refine lv_goto (tgt := 186) hx hb dX6_digest_228 (by decide) ?_
      exact ih y2 x4 _ _ _ _ _ hf hC (lv_sub hl [1, 2, 0] rfl) kk
set_option maxHeartbeats 4000000 in
set_option maxRecDepth 100000 in
theorem zl_X6_digest_233 (E : CallFix p m c cX6_digest 5 s args wsX6_digest RX6) (u : z_St) : ∀ (n : Nat) (x_1 : Int64) (x_3 : Int32) (H : Heap) (locs : List Loc) (ls : Array Slot) (o_1 : Int64) (o_3 : Int32), zf_X6_digest_233 u n x_1 x_3 = some (o_1, o_3) → z_C (zm_W cI cJ q) (zm_G tp) D cI cJ A s u H locs → lv_has ls 5 [(0, .ref (q 0)), (1, .long x_1), (3, .int x_3)] → (∀ (H : Heap) (locs : List Loc) (ls : Array Slot), z_C (zm_W cI cJ q) (zm_G tp) D cI cJ A s u H locs → lv_has ls 5 [(0, .ref (q 0)), (1, .long o_1), (3, .int o_3)] → W p l e zr_X6_digest s m args below meth c H locs 0 0 Q (F0 m 289 ls [])) → W p l e zr_X6_digest s m args below meth c H locs 0 0 Q (F0 m 233 ls []) := by
  have hx := E.1
  have hb := E.2.1
  have hml := E.2.2.1
  have hown := E.2.2.2.1
  have hts := E.2.2.2.2
  intro n
  induction n with
  | zero =>
    intro x_1 x_3 H locs ls o_1 o_3 hf
    rw [zf_X6_digest_233.eq_1] at hf
    cases hf
  | succ n ih =>
    intro x_1 x_3 H locs ls o_1 o_3 hf hC hl kk
    rw [zf_X6_digest_233.eq_2] at hf
    have kf162 := hts (.fieldLink RX6 162 "DawnFairModel" "lots" "I") (by decide +kernel)
    have kl242 := hts (.constantLong RX6 242 (31)) (by decide +kernel)
    have kf62 := hts (.fieldLink RX6 62 "DawnFairModel" "there" "[I") (by decide +kernel)
    have kf65 := hts (.fieldLink RX6 65 "DawnFairModel" "bid" "[I") (by decide +kernel)
    have kf68 := hts (.fieldLink RX6 68 "DawnFairModel" "won" "[I") (by decide +kernel)
    refine lv_iload_n hx hb dX6_digest_233 rfl (lv_at hl 2 rfl) ?_
    refine lv_aload_n hx hb dX6_digest_234 rfl (lv_at hl 0 rfl) ?_
    refine zm_gX6_lots hx hb hts zi_X6_digest hown hC kf162 dX6_digest_235 ?_
    refine lv_icmp_ge (tgt := 289) hx hb dX6_digest_238 (by decide) (fun c1 => ?_) (fun c1 => ?_)
    · have hf := z_t hf c1
      cases hf
      exact kk _ _ _ hC (lv_sub hl [0, 1, 2] rfl)
    · have hf := z_f hf c1
      refine lv_ldc2 (own := RX6) (v := (31 : Int64)) hx hb hown kl242 dX6_digest_241 ?_
      refine lv_lload_n hx hb dX6_digest_244 rfl (lv_at hl 1 rfl) ?_
      refine lv_lmul hx hb dX6_digest_245 ?_
      refine lv_aload_n hx hb dX6_digest_246 rfl (lv_at hl 0 rfl) ?_
      refine zm_gX6_there hx hb hts zi_X6_digest hown hC kf62 dX6_digest_247 ?_
      refine lv_iload_n hx hb dX6_digest_250 rfl (lv_at hl 2 rfl) ?_
      obtain ⟨h2, hf⟩ := z_gd_s hf
      refine zm_aX6_there hx hb hC (z_in h2) dX6_digest_251 ?_
      refine lv_i2l hx hb dX6_digest_252 rfl ?_
      refine lv_ladd hx hb dX6_digest_253 ?_
      refine lv_topl (fun x3 ex3 => ?_)
      have hf := z_nm_s hf ex3
      refine lv_lstore_n (lv' := [(1, _), (0, _), (3, _)]) hx hb dX6_digest_254 rfl hl (by decide) rfl (fun ls hl => ?_)
      refine lv_ldc2 (own := RX6) (v := (31 : Int64)) hx hb hown kl242 dX6_digest_255 ?_
      refine lv_lload_n hx hb dX6_digest_258 rfl (lv_at hl 0 rfl) ?_
      refine lv_lmul hx hb dX6_digest_259 ?_
      refine lv_aload_n hx hb dX6_digest_260 rfl (lv_at hl 1 rfl) ?_
      refine zm_gX6_bid hx hb hts zi_X6_digest hown hC kf65 dX6_digest_261 ?_
      refine lv_iload_n hx hb dX6_digest_264 rfl (lv_at hl 2 rfl) ?_
      obtain ⟨h4, hf⟩ := z_gd_s hf
      refine zm_aX6_bid hx hb hC (z_in h4) dX6_digest_265 ?_
      refine lv_i2l hx hb dX6_digest_266 rfl ?_
      refine lv_ladd hx hb dX6_digest_267 ?_
      refine lv_topl (fun x5 ex5 => ?_)
      have hf := z_nm_s hf ex5
      refine lv_lstore_n (lv' := [(1, _), (0, _), (3, _)]) hx hb dX6_digest_268 rfl hl (by decide) rfl (fun ls hl => ?_)
      refine lv_ldc2 (own := RX6) (v := (31 : Int64)) hx hb hown kl242 dX6_digest_269 ?_
      refine lv_lload_n hx hb dX6_digest_272 rfl (lv_at hl 0 rfl) ?_
      refine lv_lmul hx hb dX6_digest_273 ?_
      refine lv_aload_n hx hb dX6_digest_274 rfl (lv_at hl 1 rfl) ?_
      refine zm_gX6_won hx hb hts zi_X6_digest hown hC kf68 dX6_digest_275 ?_
      refine lv_iload_n hx hb dX6_digest_278 rfl (lv_at hl 2 rfl) ?_
      obtain ⟨h6, hf⟩ := z_gd_s hf
      refine zm_aX6_won hx hb hC (z_in h6) dX6_digest_279 ?_
      refine lv_i2l hx hb dX6_digest_280 rfl ?_
      refine lv_ladd hx hb dX6_digest_281 ?_
      refine lv_topl (fun x7 ex7 => ?_)
      have hf := z_nm_s hf ex7
      refine lv_lstore_n (lv' := [(1, _), (0, _), (3, _)]) hx hb dX6_digest_282 rfl hl (by decide) rfl (fun ls hl => ?_)
      obtain ⟨x8, ex8⟩ : ∃ z : Int32, z = (x_3 + (1 : Int32)) := ⟨_, rfl⟩
      have hf := z_nm_s hf ex8
      refine lv_iinc (v := x8) (lv' := [(3, _), (1, _), (0, _)]) hx hb dX6_digest_283 hl (k := 2) rfl (by rw [ex8]; rfl) (by decide) rfl (fun ls hl => ?_)
      refine lv_goto (tgt := 233) hx hb dX6_digest_286 (by decide) ?_
      exact ih x7 x8 _ _ _ _ _ hf hC (lv_sub hl [2, 1, 0] rfl) kk
set_option maxHeartbeats 4000000 in
set_option maxRecDepth 100000 in
theorem zl_X6_digest_291 (E : CallFix p m c cX6_digest 5 s args wsX6_digest RX6) (u : z_St) : ∀ (n : Nat) (x_1 : Int64) (x_3 : Int32) (H : Heap) (locs : List Loc) (ls : Array Slot) (o_1 : Int64) (o_3 : Int32), zf_X6_digest_291 u n x_1 x_3 = some (o_1, o_3) → z_C (zm_W cI cJ q) (zm_G tp) D cI cJ A s u H locs → lv_has ls 5 [(0, .ref (q 0)), (1, .long x_1), (3, .int x_3)] → (∀ (H : Heap) (locs : List Loc) (ls : Array Slot), z_C (zm_W cI cJ q) (zm_G tp) D cI cJ A s u H locs → lv_has ls 5 [(0, .ref (q 0)), (1, .long o_1), (3, .int o_3)] → W p l e zr_X6_digest s m args below meth c H locs 0 0 Q (F0 m 319 ls [])) → W p l e zr_X6_digest s m args below meth c H locs 0 0 Q (F0 m 291 ls []) := by
  have hx := E.1
  have hb := E.2.1
  have hml := E.2.2.1
  have hown := E.2.2.2.1
  have hts := E.2.2.2.2
  intro n
  induction n with
  | zero =>
    intro x_1 x_3 H locs ls o_1 o_3 hf
    rw [zf_X6_digest_291.eq_1] at hf
    cases hf
  | succ n ih =>
    intro x_1 x_3 H locs ls o_1 o_3 hf hC hl kk
    rw [zf_X6_digest_291.eq_2] at hf
    have kf212 := hts (.fieldLink RX6 212 "DawnFairModel" "entries" "I") (by decide +kernel)
    have kl242 := hts (.constantLong RX6 242 (31)) (by decide +kernel)
    have kf75 := hts (.fieldLink RX6 75 "DawnFairModel" "marks" "[I") (by decide +kernel)
    refine lv_iload_n hx hb dX6_digest_291 rfl (lv_at hl 2 rfl) ?_
    refine lv_aload_n hx hb dX6_digest_292 rfl (lv_at hl 0 rfl) ?_
    refine zm_gX6_entries hx hb hts zi_X6_digest hown hC kf212 dX6_digest_293 ?_
    refine lv_icmp_ge (tgt := 319) hx hb dX6_digest_296 (by decide) (fun c1 => ?_) (fun c1 => ?_)
    · have hf := z_t hf c1
      cases hf
      exact kk _ _ _ hC (lv_sub hl [0, 1, 2] rfl)
    · have hf := z_f hf c1
      refine lv_ldc2 (own := RX6) (v := (31 : Int64)) hx hb hown kl242 dX6_digest_299 ?_
      refine lv_lload_n hx hb dX6_digest_302 rfl (lv_at hl 1 rfl) ?_
      refine lv_lmul hx hb dX6_digest_303 ?_
      refine lv_aload_n hx hb dX6_digest_304 rfl (lv_at hl 0 rfl) ?_
      refine zm_gX6_marks hx hb hts zi_X6_digest hown hC kf75 dX6_digest_305 ?_
      refine lv_iload_n hx hb dX6_digest_308 rfl (lv_at hl 2 rfl) ?_
      obtain ⟨h2, hf⟩ := z_gd_s hf
      refine zm_aX6_marks hx hb hC (z_in h2) dX6_digest_309 ?_
      refine lv_i2l hx hb dX6_digest_310 rfl ?_
      refine lv_ladd hx hb dX6_digest_311 ?_
      refine lv_topl (fun x3 ex3 => ?_)
      have hf := z_nm_s hf ex3
      refine lv_lstore_n (lv' := [(1, _), (0, _), (3, _)]) hx hb dX6_digest_312 rfl hl (by decide) rfl (fun ls hl => ?_)
      obtain ⟨x4, ex4⟩ : ∃ z : Int32, z = (x_3 + (1 : Int32)) := ⟨_, rfl⟩
      have hf := z_nm_s hf ex4
      refine lv_iinc (v := x4) (lv' := [(3, _), (1, _), (0, _)]) hx hb dX6_digest_313 hl (k := 2) rfl (by rw [ex4]; rfl) (by decide) rfl (fun ls hl => ?_)
      refine lv_goto (tgt := 291) hx hb dX6_digest_316 (by decide) ?_
      exact ih x3 x4 _ _ _ _ _ hf hC (lv_sub hl [2, 1, 0] rfl) kk
set_option maxHeartbeats 4000000 in
set_option maxRecDepth 100000 in
theorem zl_X6_digest_321 (E : CallFix p m c cX6_digest 5 s args wsX6_digest RX6) (u : z_St) : ∀ (n : Nat) (x_1 : Int64) (x_3 : Int32) (H : Heap) (locs : List Loc) (ls : Array Slot) (o_1 : Int64) (o_3 : Int32), zf_X6_digest_321 u n x_1 x_3 = some (o_1, o_3) → z_C (zm_W cI cJ q) (zm_G tp) D cI cJ A s u H locs → lv_has ls 5 [(0, .ref (q 0)), (1, .long x_1), (3, .int x_3)] → (∀ (H : Heap) (locs : List Loc) (ls : Array Slot), z_C (zm_W cI cJ q) (zm_G tp) D cI cJ A s u H locs → lv_has ls 5 [(0, .ref (q 0)), (1, .long o_1), (3, .int o_3)] → W p l e zr_X6_digest s m args below meth c H locs 0 0 Q (F0 m 366 ls [])) → W p l e zr_X6_digest s m args below meth c H locs 0 0 Q (F0 m 321 ls []) := by
  have hx := E.1
  have hb := E.2.1
  have hml := E.2.2.1
  have hown := E.2.2.2.1
  have hts := E.2.2.2.2
  intro n
  induction n with
  | zero =>
    intro x_1 x_3 H locs ls o_1 o_3 hf
    rw [zf_X6_digest_321.eq_1] at hf
    cases hf
  | succ n ih =>
    intro x_1 x_3 H locs ls o_1 o_3 hf hC hl kk
    rw [zf_X6_digest_321.eq_2] at hf
    have kl242 := hts (.constantLong RX6 242 (31)) (by decide +kernel)
    refine lv_iload_n hx hb dX6_digest_321 rfl (lv_at hl 2 rfl) ?_
    refine lv_bipush (v := (8 : Int32)) hx hb dX6_digest_322 (by decide) ?_
    refine lv_icmp_ge (tgt := 366) hx hb dX6_digest_324 (by decide) (fun c1 => ?_) (fun c1 => ?_)
    · have hf := z_t hf c1
      cases hf
      exact kk _ _ _ hC (lv_sub hl [0, 1, 2] rfl)
    · have hf := z_f hf c1
      refine lv_ldc2 (own := RX6) (v := (31 : Int64)) hx hb hown kl242 dX6_digest_327 ?_
      refine lv_lload_n hx hb dX6_digest_330 rfl (lv_at hl 1 rfl) ?_
      refine lv_lmul hx hb dX6_digest_331 ?_
      refine lv_aload_n hx hb dX6_digest_332 rfl (lv_at hl 0 rfl) ?_
      refine lv_iload_n hx hb dX6_digest_333 rfl (lv_at hl 2 rfl) ?_
      obtain ⟨r2, pr2, hf⟩ := z_bd_s hf
      refine z_calli hC (z_runV (rest := [_]) zm_Gok hC E (zc_X6_gainOf l D cI cJ tp q u x_3 pr2 _) (cwV 1 hts gX6_digest_X6_gainOf rfl rfl rfl ⟨rfl, zd_X6_gainOf⟩ ⟨Nat.le_of_ble_eq_true rfl, Nat.le_of_ble_eq_true rfl⟩) (zm_rcX6 hC) rfl hl.1 rfl (Nat.le_of_ble_eq_true rfl) dX6_digest_334 ⟨Nat.zero_le _, Nat.zero_le _⟩) (fun H locs hC => ?_)
      refine lv_i2l hx hb dX6_digest_337 rfl ?_
      refine lv_ladd hx hb dX6_digest_338 ?_
      refine lv_topl (fun x3 ex3 => ?_)
      have hf := z_nm_s hf ex3
      refine lv_lstore_n (lv' := [(1, _), (0, _), (3, _)]) hx hb dX6_digest_339 rfl hl (by decide) rfl (fun ls hl => ?_)
      refine lv_ldc2 (own := RX6) (v := (31 : Int64)) hx hb hown kl242 dX6_digest_340 ?_
      refine lv_lload_n hx hb dX6_digest_343 rfl (lv_at hl 0 rfl) ?_
      refine lv_lmul hx hb dX6_digest_344 ?_
      refine lv_aload_n hx hb dX6_digest_345 rfl (lv_at hl 1 rfl) ?_
      refine lv_iload_n hx hb dX6_digest_346 rfl (lv_at hl 2 rfl) ?_
      refine lv_iconst (v := (0 : Int32)) hx hb dX6_digest_347 (by decide) ?_
      obtain ⟨r4, pr4, hf⟩ := z_bd_s hf
      refine z_calli hC (z_runV (rest := [_]) zm_Gok hC E (zc_X6_owed l D cI cJ tp q u x_3 (0 : Int32) pr4 _) (cwV 2 hts gX6_digest_X6_owed rfl rfl rfl ⟨rfl, zd_X6_owed⟩ ⟨Nat.le_of_ble_eq_true rfl, Nat.le_of_ble_eq_true rfl⟩) (zm_rcX6 hC) rfl hl.1 rfl (Nat.le_of_ble_eq_true rfl) dX6_digest_348 ⟨Nat.zero_le _, Nat.zero_le _⟩) (fun H locs hC => ?_)
      refine lv_aload_n hx hb dX6_digest_351 rfl (lv_at hl 1 rfl) ?_
      refine lv_iload_n hx hb dX6_digest_352 rfl (lv_at hl 2 rfl) ?_
      obtain ⟨r5, pr5, hf⟩ := z_bd_s hf
      refine z_calli hC (z_runV (rest := [_, _]) zm_Gok hC E (zc_X6_owing l D cI cJ tp q u x_3 pr5 _) (cwV 1 hts gX6_digest_X6_owing rfl rfl rfl ⟨rfl, zd_X6_owing⟩ ⟨Nat.le_of_ble_eq_true rfl, Nat.le_of_ble_eq_true rfl⟩) (zm_rcX6 hC) rfl hl.1 rfl (Nat.le_of_ble_eq_true rfl) dX6_digest_353 ⟨Nat.zero_le _, Nat.zero_le _⟩) (fun H locs hC => ?_)
      refine lv_isub hx hb dX6_digest_356 ?_
      refine lv_i2l hx hb dX6_digest_357 rfl ?_
      refine lv_ladd hx hb dX6_digest_358 ?_
      refine lv_topl (fun x6 ex6 => ?_)
      have hf := z_nm_s hf ex6
      refine lv_lstore_n (lv' := [(1, _), (0, _), (3, _)]) hx hb dX6_digest_359 rfl hl (by decide) rfl (fun ls hl => ?_)
      obtain ⟨x7, ex7⟩ : ∃ z : Int32, z = (x_3 + (1 : Int32)) := ⟨_, rfl⟩
      have hf := z_nm_s hf ex7
      refine lv_iinc (v := x7) (lv' := [(3, _), (1, _), (0, _)]) hx hb dX6_digest_360 hl (k := 2) rfl (by rw [ex7]; rfl) (by decide) rfl (fun ls hl => ?_)
      refine lv_goto (tgt := 321) hx hb dX6_digest_363 (by decide) ?_
      exact ih x6 x7 _ _ _ _ _ hf hC (lv_sub hl [2, 1, 0] rfl) kk
set_option maxHeartbeats 4000000 in
set_option maxRecDepth 100000 in
theorem zc_X6_digest (l : Launch) (D : va_G) (cI cJ : ClassId) (tp : Nat) (q : Nat → Nat) (u : z_St) {r : Int64} (hf : zf_X6_digest u = some r) : z_Ml l yX6_digest wsX6_digest zr_X6_digest (zm_W cI cJ q) (zm_G tp) D cI cJ [.ref (q 0)] u r u := by
  refine z_ofl (cc := cX6_digest) (maxL := 5) (ret := (some .long)) zm_Gok (by decide) rfl (Nat.le_of_ble_eq_true rfl) ?_
  intro A p e s m args below meth c ls E hr hlk hC hl
  have E : CallFix p m c cX6_digest 5 s args wsX6_digest RX6 := E
  have hx := E.1
  have hb := E.2.1
  have hml := E.2.2.1
  have hown := E.2.2.2.1
  have hts := E.2.2.2.2
  have hl : lv_has ls 5 [(0, .ref (q 0))] := hl
  unfold zf_X6_digest at hf
  have kl240 := hts (.constantLong RX6 240 (239)) (by decide +kernel)
  refine lv_ldc2 (own := RX6) (v := (239 : Int64)) hx hb hown kl240 dX6_digest_0 ?_
  refine lv_lstore_n (lv' := [(1, _), (0, _)]) hx hb dX6_digest_3 rfl hl (by decide) rfl (fun ls hl => ?_)
  refine lv_iconst (v := (0 : Int32)) hx hb dX6_digest_4 (by decide) ?_
  refine lv_istore_n (lv' := [(3, _), (1, _), (0, _)]) hx hb dX6_digest_5 rfl hl (by decide) rfl (fun ls hl => ?_)
  obtain ⟨y1, y2, py1, hf⟩ := z_bd2_s hf
  refine zl_X6_digest_6 E u 5000 (239 : Int64) (0 : Int32) _ _ _ _ _ py1 hC (lv_sub hl [2, 1, 0] rfl) (fun H locs ls hC hl => ?_)
  refine lv_iconst (v := (0 : Int32)) hx hb dX6_digest_31 (by decide) ?_
  refine lv_istore_n (lv' := [(3, _), (0, _), (1, _)]) hx hb dX6_digest_32 rfl hl (by decide) rfl (fun ls hl => ?_)
  obtain ⟨y3, y4, py3, hf⟩ := z_bd2_s hf
  refine zl_X6_digest_33 E u 5000 y1 (0 : Int32) _ _ _ _ _ py3 hC (lv_sub hl [1, 2, 0] rfl) (fun H locs ls hC hl => ?_)
  refine lv_iconst (v := (0 : Int32)) hx hb dX6_digest_73 (by decide) ?_
  refine lv_istore_n (lv' := [(3, _), (0, _), (1, _)]) hx hb dX6_digest_74 rfl hl (by decide) rfl (fun ls hl => ?_)
  obtain ⟨y5, y6, py5, hf⟩ := z_bd2_s hf
  refine zl_X6_digest_75 E u 5000 y3 (0 : Int32) _ _ _ _ _ py5 hC (lv_sub hl [1, 2, 0] rfl) (fun H locs ls hC hl => ?_)
  refine lv_iconst (v := (0 : Int32)) hx hb dX6_digest_184 (by decide) ?_
  refine lv_istore_n (lv' := [(3, _), (0, _), (1, _)]) hx hb dX6_digest_185 rfl hl (by decide) rfl (fun ls hl => ?_)
  obtain ⟨y7, y8, py7, hf⟩ := z_bd2_s hf
  refine zl_X6_digest_186 E u 5000 y5 (0 : Int32) _ _ _ _ _ py7 hC (lv_sub hl [1, 2, 0] rfl) (fun H locs ls hC hl => ?_)
  refine lv_iconst (v := (0 : Int32)) hx hb dX6_digest_231 (by decide) ?_
  refine lv_istore_n (lv' := [(3, _), (0, _), (1, _)]) hx hb dX6_digest_232 rfl hl (by decide) rfl (fun ls hl => ?_)
  obtain ⟨y9, y10, py9, hf⟩ := z_bd2_s hf
  refine zl_X6_digest_233 E u 5000 y7 (0 : Int32) _ _ _ _ _ py9 hC (lv_sub hl [1, 2, 0] rfl) (fun H locs ls hC hl => ?_)
  refine lv_iconst (v := (0 : Int32)) hx hb dX6_digest_289 (by decide) ?_
  refine lv_istore_n (lv' := [(3, _), (0, _), (1, _)]) hx hb dX6_digest_290 rfl hl (by decide) rfl (fun ls hl => ?_)
  obtain ⟨y11, y12, py11, hf⟩ := z_bd2_s hf
  refine zl_X6_digest_291 E u 5000 y9 (0 : Int32) _ _ _ _ _ py11 hC (lv_sub hl [1, 2, 0] rfl) (fun H locs ls hC hl => ?_)
  refine lv_iconst (v := (0 : Int32)) hx hb dX6_digest_319 (by decide) ?_
  refine lv_istore_n (lv' := [(3, _), (0, _), (1, _)]) hx hb dX6_digest_320 rfl hl (by decide) rfl (fun ls hl => ?_)
  obtain ⟨y13, y14, py13, hf⟩ := z_bd2_s hf
  refine zl_X6_digest_321 E u 5000 y11 (0 : Int32) _ _ _ _ _ py13 hC (lv_sub hl [1, 2, 0] rfl) (fun H locs ls hC hl => ?_)
  refine lv_lload_n hx hb dX6_digest_366 rfl (lv_at hl 1 rfl) ?_
  exact z_retl hx hb hr hlk hC (Option.some.inj hf) rfl dX6_digest_367
end
