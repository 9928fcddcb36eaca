section
variable {p : Program} {l : Launch} {e : Env} {s : State} {m : MethodId} {below : List Frame} {meth : Method} {c : Code} {H : Heap} {locs : List Loc} {Q : State → Prop} {ls : Array Slot} {D : va_G} {cI cJ : ClassId} {tp : Nat} {q q2 : Nat → Nat} {ux um : z_St} {b L k : Nat} {xs : Nat → Int32} {x3 : Int32}
set_option maxHeartbeats 4000000 in
set_option maxRecDepth 100000 in
theorem zL_c0 (E : CallFix p m c cL_law 4 s #[Value.ref b] wsL_law RL) (hX : va_X b L xs s s.heap) (hbl : b < s.heap.size) (hbA : ¬ (fun z : Nat => s.heap.size ≤ z) b) (h1 : vp_in (x3 + (1 : Int32)) L) (h2 : vp_in (x3 + (2 : Int32)) L) (h3 : vp_in (x3 + (3 : Int32)) L) (h4 : vp_in (x3 + (4 : Int32)) L) (hk : k < 512) (hR : zR k ux um) (hC : zL_C D cI cJ tp q q2 (fun z : Nat => s.heap.size ≤ z) s ux um H locs) (hl : lv_has ls 4 [(0, .ref b), (1, .ref (q 5)), (2, .ref (q2 0)), (3, .int x3)]) (kk : ∀ (ux um : z_St) (H : Heap) (locs : List Loc) (ls : Array Slot), zR (k + 1) ux um → zL_C D cI cJ tp q q2 (fun z : Nat => s.heap.size ≤ z) s ux um H locs → lv_has ls 4 [(0, .ref b), (1, .ref (q 5)), (2, .ref (q2 0)), (3, .int x3)] → W p l e room_1 s m #[Value.ref b] below meth c H locs 50 32579 Q (F0 m 1073 ls [])) : W p l e room_1 s m #[Value.ref b] below meth c H locs 50 32579 Q (F0 m 164 ls []) := by
  have hx := E.1
  have hb := E.2.1
  have hts := E.2.2.2.2
  obtain ⟨r, vx, vm, hfx, hfm, hR⟩ := zq_work hk hR (xs (x3 + (1 : Int32)).toNatClampNeg) (xs (x3 + (2 : Int32)).toNatClampNeg) (xs (x3 + (3 : Int32)).toNatClampNeg)
  refine lv_aload_n hx hb dL_law_164 rfl (lv_at hl 1 rfl) ?_
  refine lv_aload_n hx hb dL_law_165 rfl (lv_at hl 0 rfl) ?_
  refine lv_iload_n hx hb dL_law_166 rfl (lv_at hl 3 rfl) ?_
  refine lv_iconst (v := (1 : Int32)) hx hb dL_law_167 (by decide) ?_
  refine lv_iadd hx hb dL_law_168 ?_
  refine va_sld hx hb hX hbl hbA hC.2.2.2.1 h1 dL_law_169 ?_
  refine lv_aload_n hx hb dL_law_170 rfl (lv_at hl 0 rfl) ?_
  refine lv_iload_n hx hb dL_law_171 rfl (lv_at hl 3 rfl) ?_
  refine lv_iconst (v := (2 : Int32)) hx hb dL_law_172 (by decide) ?_
  refine lv_iadd hx hb dL_law_173 ?_
  refine va_sld hx hb hX hbl hbA hC.2.2.2.1 h2 dL_law_174 ?_
  refine lv_aload_n hx hb dL_law_175 rfl (lv_at hl 0 rfl) ?_
  refine lv_iload_n hx hb dL_law_176 rfl (lv_at hl 3 rfl) ?_
  refine lv_iconst (v := (3 : Int32)) hx hb dL_law_177 (by decide) ?_
  refine lv_iadd hx hb dL_law_178 ?_
  refine va_sld hx hb hX hbl hbA hC.2.2.2.1 h3 dL_law_179 ?_
  refine zL_callxi hC (z_runV (rest := []) zx_Gok (zL_x hC) E (zc_X5_work l D cI cJ tp q ux (xs (x3 + (1 : Int32)).toNatClampNeg) (xs (x3 + (2 : Int32)).toNatClampNeg) (xs (x3 + (3 : Int32)).toNatClampNeg) hfx _) (cwV 3 hts gL_law_X5_work rfl rfl rfl ⟨rfl, zd_X5_work⟩ ⟨Nat.le_of_ble_eq_true rfl, Nat.le_of_ble_eq_true rfl⟩) (zx_rcX5 (zL_x hC)) rfl hl.1 rfl (Nat.le_of_ble_eq_true rfl) dL_law_180 ⟨Nat.le_refl 50, Nat.le_refl 32579⟩) (fun H locs hC => ?_)
  refine lv_aload_n hx hb dL_law_183 rfl (lv_at hl 2 rfl) ?_
  refine lv_aload_n hx hb dL_law_184 rfl (lv_at hl 0 rfl) ?_
  refine lv_iload_n hx hb dL_law_185 rfl (lv_at hl 3 rfl) ?_
  refine lv_iconst (v := (1 : Int32)) hx hb dL_law_186 (by decide) ?_
  refine lv_iadd hx hb dL_law_187 ?_
  refine va_sld hx hb hX hbl hbA hC.2.2.2.1 h1 dL_law_188 ?_
  refine lv_aload_n hx hb dL_law_189 rfl (lv_at hl 0 rfl) ?_
  refine lv_iload_n hx hb dL_law_190 rfl (lv_at hl 3 rfl) ?_
  refine lv_iconst (v := (2 : Int32)) hx hb dL_law_191 (by decide) ?_
  refine lv_iadd hx hb dL_law_192 ?_
  refine va_sld hx hb hX hbl hbA hC.2.2.2.1 h2 dL_law_193 ?_
  refine lv_aload_n hx hb dL_law_194 rfl (lv_at hl 0 rfl) ?_
  refine lv_iload_n hx hb dL_law_195 rfl (lv_at hl 3 rfl) ?_
  refine lv_iconst (v := (3 : Int32)) hx hb dL_law_196 (by decide) ?_
  refine lv_iadd hx hb dL_law_197 ?_
  refine va_sld hx hb hX hbl hbA hC.2.2.2.1 h3 dL_law_198 ?_
  refine zL_callmi hC (z_runV (rest := [_]) zm_Gok (zL_m hC) E (zc_X6_work l D cI cJ tp q2 um (xs (x3 + (1 : Int32)).toNatClampNeg) (xs (x3 + (2 : Int32)).toNatClampNeg) (xs (x3 + (3 : Int32)).toNatClampNeg) hfm _) (cwV 3 hts gL_law_X6_work rfl rfl rfl ⟨rfl, zd_X6_work⟩ ⟨Nat.le_of_ble_eq_true rfl, Nat.le_of_ble_eq_true rfl⟩) (zm_rcX6 (zL_m hC)) rfl hl.1 rfl (Nat.le_of_ble_eq_true rfl) dL_law_199 ⟨Nat.le_refl 50, Nat.le_refl 32579⟩) (fun H locs hC => ?_)
  refine lv_icmp_eq (tgt := 1073) hx hb dL_law_202 (by decide) (fun _ => ?_) (fun c9 => absurd rfl c9)
  exact kk _ _ _ _ _ hR hC hl
set_option maxHeartbeats 4000000 in
set_option maxRecDepth 100000 in
theorem zL_c1 (E : CallFix p m c cL_law 4 s #[Value.ref b] wsL_law RL) (hX : va_X b L xs s s.heap) (hbl : b < s.heap.size) (hbA : ¬ (fun z : Nat => s.heap.size ≤ z) b) (h1 : vp_in (x3 + (1 : Int32)) L) (h2 : vp_in (x3 + (2 : Int32)) L) (h3 : vp_in (x3 + (3 : Int32)) L) (h4 : vp_in (x3 + (4 : Int32)) L) (hk : k < 512) (hR : zR k ux um) (hC : zL_C D cI cJ tp q q2 (fun z : Nat => s.heap.size ≤ z) s ux um H locs) (hl : lv_has ls 4 [(0, .ref b), (1, .ref (q 5)), (2, .ref (q2 0)), (3, .int x3)]) (kk : ∀ (ux um : z_St) (H : Heap) (locs : List Loc) (ls : Array Slot), zR (k + 1) ux um → zL_C D cI cJ tp q q2 (fun z : Nat => s.heap.size ≤ z) s ux um H locs → lv_has ls 4 [(0, .ref b), (1, .ref (q 5)), (2, .ref (q2 0)), (3, .int x3)] → W p l e room_1 s m #[Value.ref b] below meth c H locs 50 32579 Q (F0 m 1073 ls [])) : W p l e room_1 s m #[Value.ref b] below meth c H locs 50 32579 Q (F0 m 207 ls []) := by
  have hx := E.1
  have hb := E.2.1
  have hts := E.2.2.2.2
  obtain ⟨r, vx, vm, hfx, hfm, hR⟩ := zq_thing hk hR (xs (x3 + (1 : Int32)).toNatClampNeg)
  refine lv_aload_n hx hb dL_law_207 rfl (lv_at hl 1 rfl) ?_
  refine lv_aload_n hx hb dL_law_208 rfl (lv_at hl 0 rfl) ?_
  refine lv_iload_n hx hb dL_law_209 rfl (lv_at hl 3 rfl) ?_
  refine lv_iconst (v := (1 : Int32)) hx hb dL_law_210 (by decide) ?_
  refine lv_iadd hx hb dL_law_211 ?_
  refine va_sld hx hb hX hbl hbA hC.2.2.2.1 h1 dL_law_212 ?_
  refine zL_callxi hC (z_runV (rest := []) zx_Gok (zL_x hC) E (zc_X5_thing l D cI cJ tp q ux (xs (x3 + (1 : Int32)).toNatClampNeg) hfx _) (cwV 1 hts gL_law_X5_thing rfl rfl rfl ⟨rfl, zd_X5_thing⟩ ⟨Nat.le_of_ble_eq_true rfl, Nat.le_of_ble_eq_true rfl⟩) (zx_rcX5 (zL_x hC)) rfl hl.1 rfl (Nat.le_of_ble_eq_true rfl) dL_law_213 ⟨Nat.le_refl 50, Nat.le_refl 32579⟩) (fun H locs hC => ?_)
  refine lv_aload_n hx hb dL_law_216 rfl (lv_at hl 2 rfl) ?_
  refine lv_aload_n hx hb dL_law_217 rfl (lv_at hl 0 rfl) ?_
  refine lv_iload_n hx hb dL_law_218 rfl (lv_at hl 3 rfl) ?_
  refine lv_iconst (v := (1 : Int32)) hx hb dL_law_219 (by decide) ?_
  refine lv_iadd hx hb dL_law_220 ?_
  refine va_sld hx hb hX hbl hbA hC.2.2.2.1 h1 dL_law_221 ?_
  refine zL_callmi hC (z_runV (rest := [_]) zm_Gok (zL_m hC) E (zc_X6_thing l D cI cJ tp q2 um (xs (x3 + (1 : Int32)).toNatClampNeg) hfm _) (cwV 1 hts gL_law_X6_thing rfl rfl rfl ⟨rfl, zd_X6_thing⟩ ⟨Nat.le_of_ble_eq_true rfl, Nat.le_of_ble_eq_true rfl⟩) (zm_rcX6 (zL_m hC)) rfl hl.1 rfl (Nat.le_of_ble_eq_true rfl) dL_law_222 ⟨Nat.le_refl 50, Nat.le_refl 32579⟩) (fun H locs hC => ?_)
  refine lv_icmp_eq (tgt := 1073) hx hb dL_law_225 (by decide) (fun _ => ?_) (fun c9 => absurd rfl c9)
  exact kk _ _ _ _ _ hR hC hl
set_option maxHeartbeats 4000000 in
set_option maxRecDepth 100000 in
theorem zL_c2 (E : CallFix p m c cL_law 4 s #[Value.ref b] wsL_law RL) (hX : va_X b L xs s s.heap) (hbl : b < s.heap.size) (hbA : ¬ (fun z : Nat => s.heap.size ≤ z) b) (h1 : vp_in (x3 + (1 : Int32)) L) (h2 : vp_in (x3 + (2 : Int32)) L) (h3 : vp_in (x3 + (3 : Int32)) L) (h4 : vp_in (x3 + (4 : Int32)) L) (hk : k < 512) (hR : zR k ux um) (hC : zL_C D cI cJ tp q q2 (fun z : Nat => s.heap.size ≤ z) s ux um H locs) (hl : lv_has ls 4 [(0, .ref b), (1, .ref (q 5)), (2, .ref (q2 0)), (3, .int x3)]) (kk : ∀ (ux um : z_St) (H : Heap) (locs : List Loc) (ls : Array Slot), zR (k + 1) ux um → zL_C D cI cJ tp q q2 (fun z : Nat => s.heap.size ≤ z) s ux um H locs → lv_has ls 4 [(0, .ref b), (1, .ref (q 5)), (2, .ref (q2 0)), (3, .int x3)] → W p l e room_1 s m #[Value.ref b] below meth c H locs 50 32579 Q (F0 m 1073 ls [])) : W p l e room_1 s m #[Value.ref b] below meth c H locs 50 32579 Q (F0 m 230 ls []) := by
  have hx := E.1
  have hb := E.2.1
  have hts := E.2.2.2.2
  obtain ⟨r, vx, vm, hfx, hfm, hR⟩ := zq_part hk hR (xs (x3 + (1 : Int32)).toNatClampNeg) (xs (x3 + (2 : Int32)).toNatClampNeg) (xs (x3 + (3 : Int32)).toNatClampNeg)
  refine lv_aload_n hx hb dL_law_230 rfl (lv_at hl 1 rfl) ?_
  refine lv_aload_n hx hb dL_law_231 rfl (lv_at hl 0 rfl) ?_
  refine lv_iload_n hx hb dL_law_232 rfl (lv_at hl 3 rfl) ?_
  refine lv_iconst (v := (1 : Int32)) hx hb dL_law_233 (by decide) ?_
  refine lv_iadd hx hb dL_law_234 ?_
  refine va_sld hx hb hX hbl hbA hC.2.2.2.1 h1 dL_law_235 ?_
  refine lv_aload_n hx hb dL_law_236 rfl (lv_at hl 0 rfl) ?_
  refine lv_iload_n hx hb dL_law_237 rfl (lv_at hl 3 rfl) ?_
  refine lv_iconst (v := (2 : Int32)) hx hb dL_law_238 (by decide) ?_
  refine lv_iadd hx hb dL_law_239 ?_
  refine va_sld hx hb hX hbl hbA hC.2.2.2.1 h2 dL_law_240 ?_
  refine lv_aload_n hx hb dL_law_241 rfl (lv_at hl 0 rfl) ?_
  refine lv_iload_n hx hb dL_law_242 rfl (lv_at hl 3 rfl) ?_
  refine lv_iconst (v := (3 : Int32)) hx hb dL_law_243 (by decide) ?_
  refine lv_iadd hx hb dL_law_244 ?_
  refine va_sld hx hb hX hbl hbA hC.2.2.2.1 h3 dL_law_245 ?_
  refine zL_callxi hC (z_runV (rest := []) zx_Gok (zL_x hC) E (zc_X5_part l D cI cJ tp q ux (xs (x3 + (1 : Int32)).toNatClampNeg) (xs (x3 + (2 : Int32)).toNatClampNeg) (xs (x3 + (3 : Int32)).toNatClampNeg) hfx _) (cwV 3 hts gL_law_X5_part rfl rfl rfl ⟨rfl, zd_X5_part⟩ ⟨Nat.le_of_ble_eq_true rfl, Nat.le_of_ble_eq_true rfl⟩) (zx_rcX5 (zL_x hC)) rfl hl.1 rfl (Nat.le_of_ble_eq_true rfl) dL_law_246 ⟨Nat.le_refl 50, Nat.le_refl 32579⟩) (fun H locs hC => ?_)
  refine lv_aload_n hx hb dL_law_249 rfl (lv_at hl 2 rfl) ?_
  refine lv_aload_n hx hb dL_law_250 rfl (lv_at hl 0 rfl) ?_
  refine lv_iload_n hx hb dL_law_251 rfl (lv_at hl 3 rfl) ?_
  refine lv_iconst (v := (1 : Int32)) hx hb dL_law_252 (by decide) ?_
  refine lv_iadd hx hb dL_law_253 ?_
  refine va_sld hx hb hX hbl hbA hC.2.2.2.1 h1 dL_law_254 ?_
  refine lv_aload_n hx hb dL_law_255 rfl (lv_at hl 0 rfl) ?_
  refine lv_iload_n hx hb dL_law_256 rfl (lv_at hl 3 rfl) ?_
  refine lv_iconst (v := (2 : Int32)) hx hb dL_law_257 (by decide) ?_
  refine lv_iadd hx hb dL_law_258 ?_
  refine va_sld hx hb hX hbl hbA hC.2.2.2.1 h2 dL_law_259 ?_
  refine lv_aload_n hx hb dL_law_260 rfl (lv_at hl 0 rfl) ?_
  refine lv_iload_n hx hb dL_law_261 rfl (lv_at hl 3 rfl) ?_
  refine lv_iconst (v := (3 : Int32)) hx hb dL_law_262 (by decide) ?_
  refine lv_iadd hx hb dL_law_263 ?_
  refine va_sld hx hb hX hbl hbA hC.2.2.2.1 h3 dL_law_264 ?_
  refine zL_callmi hC (z_runV (rest := [_]) zm_Gok (zL_m hC) E (zc_X6_part l D cI cJ tp q2 um (xs (x3 + (1 : Int32)).toNatClampNeg) (xs (x3 + (2 : Int32)).toNatClampNeg) (xs (x3 + (3 : Int32)).toNatClampNeg) hfm _) (cwV 3 hts gL_law_X6_part rfl rfl rfl ⟨rfl, zd_X6_part⟩ ⟨Nat.le_of_ble_eq_true rfl, Nat.le_of_ble_eq_true rfl⟩) (zm_rcX6 (zL_m hC)) rfl hl.1 rfl (Nat.le_of_ble_eq_true rfl) dL_law_265 ⟨Nat.le_refl 50, Nat.le_refl 32579⟩) (fun H locs hC => ?_)
  refine lv_icmp_eq (tgt := 1073) hx hb dL_law_268 (by decide) (fun _ => ?_) (fun c9 => absurd rfl c9)
  exact kk _ _ _ _ _ hR hC hl
set_option maxHeartbeats 4000000 in
set_option maxRecDepth 100000 in
theorem zL_c3 (E : CallFix p m c cL_law 4 s #[Value.ref b] wsL_law RL) (hX : va_X b L xs s s.heap) (hbl : b < s.heap.size) (hbA : ¬ (fun z : Nat => s.heap.size ≤ z) b) (h1 : vp_in (x3 + (1 : Int32)) L) (h2 : vp_in (x3 + (2 : Int32)) L) (h3 : vp_in (x3 + (3 : Int32)) L) (h4 : vp_in (x3 + (4 : Int32)) L) (hk : k < 512) (hR : zR k ux um) (hC : zL_C D cI cJ tp q q2 (fun z : Nat => s.heap.size ≤ z) s ux um H locs) (hl : lv_has ls 4 [(0, .ref b), (1, .ref (q 5)), (2, .ref (q2 0)), (3, .int x3)]) (kk : ∀ (ux um : z_St) (H : Heap) (locs : List Loc) (ls : Array Slot), zR (k + 1) ux um → zL_C D cI cJ tp q q2 (fun z : Nat => s.heap.size ≤ z) s ux um H locs → lv_has ls 4 [(0, .ref b), (1, .ref (q 5)), (2, .ref (q2 0)), (3, .int x3)] → W p l e room_1 s m #[Value.ref b] below meth c H locs 50 32579 Q (F0 m 1073 ls [])) : W p l e room_1 s m #[Value.ref b] below meth c H locs 50 32579 Q (F0 m 273 ls []) := by
  have hx := E.1
  have hb := E.2.1
  have hts := E.2.2.2.2
  obtain ⟨r, vm, hfx, hfm, hR⟩ := zq_span hk hR (xs (x3 + (1 : Int32)).toNatClampNeg) (xs (x3 + (2 : Int32)).toNatClampNeg) (xs (x3 + (3 : Int32)).toNatClampNeg)
  refine lv_aload_n hx hb dL_law_273 rfl (lv_at hl 1 rfl) ?_
  refine lv_aload_n hx hb dL_law_274 rfl (lv_at hl 0 rfl) ?_
  refine lv_iload_n hx hb dL_law_275 rfl (lv_at hl 3 rfl) ?_
  refine lv_iconst (v := (1 : Int32)) hx hb dL_law_276 (by decide) ?_
  refine lv_iadd hx hb dL_law_277 ?_
  refine va_sld hx hb hX hbl hbA hC.2.2.2.1 h1 dL_law_278 ?_
  refine lv_aload_n hx hb dL_law_279 rfl (lv_at hl 0 rfl) ?_
  refine lv_iload_n hx hb dL_law_280 rfl (lv_at hl 3 rfl) ?_
  refine lv_iconst (v := (2 : Int32)) hx hb dL_law_281 (by decide) ?_
  refine lv_iadd hx hb dL_law_282 ?_
  refine va_sld hx hb hX hbl hbA hC.2.2.2.1 h2 dL_law_283 ?_
  refine lv_aload_n hx hb dL_law_284 rfl (lv_at hl 0 rfl) ?_
  refine lv_iload_n hx hb dL_law_285 rfl (lv_at hl 3 rfl) ?_
  refine lv_iconst (v := (3 : Int32)) hx hb dL_law_286 (by decide) ?_
  refine lv_iadd hx hb dL_law_287 ?_
  refine va_sld hx hb hX hbl hbA hC.2.2.2.1 h3 dL_law_288 ?_
  refine zL_callxi hC (z_runV (rest := []) zx_Gok (zL_x hC) E (zc_X5_span l D cI cJ tp q ux (xs (x3 + (1 : Int32)).toNatClampNeg) (xs (x3 + (2 : Int32)).toNatClampNeg) (xs (x3 + (3 : Int32)).toNatClampNeg) hfx _) (cwV 3 hts gL_law_X5_span rfl rfl rfl ⟨rfl, zd_X5_span⟩ ⟨Nat.le_of_ble_eq_true rfl, Nat.le_of_ble_eq_true rfl⟩) (zx_rcX5 (zL_x hC)) rfl hl.1 rfl (Nat.le_of_ble_eq_true rfl) dL_law_289 ⟨Nat.le_refl 50, Nat.le_refl 32579⟩) (fun H locs hC => ?_)
  refine lv_aload_n hx hb dL_law_292 rfl (lv_at hl 2 rfl) ?_
  refine lv_aload_n hx hb dL_law_293 rfl (lv_at hl 0 rfl) ?_
  refine lv_iload_n hx hb dL_law_294 rfl (lv_at hl 3 rfl) ?_
  refine lv_iconst (v := (1 : Int32)) hx hb dL_law_295 (by decide) ?_
  refine lv_iadd hx hb dL_law_296 ?_
  refine va_sld hx hb hX hbl hbA hC.2.2.2.1 h1 dL_law_297 ?_
  refine lv_aload_n hx hb dL_law_298 rfl (lv_at hl 0 rfl) ?_
  refine lv_iload_n hx hb dL_law_299 rfl (lv_at hl 3 rfl) ?_
  refine lv_iconst (v := (2 : Int32)) hx hb dL_law_300 (by decide) ?_
  refine lv_iadd hx hb dL_law_301 ?_
  refine va_sld hx hb hX hbl hbA hC.2.2.2.1 h2 dL_law_302 ?_
  refine lv_aload_n hx hb dL_law_303 rfl (lv_at hl 0 rfl) ?_
  refine lv_iload_n hx hb dL_law_304 rfl (lv_at hl 3 rfl) ?_
  refine lv_iconst (v := (3 : Int32)) hx hb dL_law_305 (by decide) ?_
  refine lv_iadd hx hb dL_law_306 ?_
  refine va_sld hx hb hX hbl hbA hC.2.2.2.1 h3 dL_law_307 ?_
  refine zL_callmi hC (z_runV (rest := [_]) zm_Gok (zL_m hC) E (zc_X6_span l D cI cJ tp q2 um (xs (x3 + (1 : Int32)).toNatClampNeg) (xs (x3 + (2 : Int32)).toNatClampNeg) (xs (x3 + (3 : Int32)).toNatClampNeg) hfm _) (cwV 3 hts gL_law_X6_span rfl rfl rfl ⟨rfl, zd_X6_span⟩ ⟨Nat.le_of_ble_eq_true rfl, Nat.le_of_ble_eq_true rfl⟩) (zm_rcX6 (zL_m hC)) rfl hl.1 rfl (Nat.le_of_ble_eq_true rfl) dL_law_308 ⟨Nat.le_refl 50, Nat.le_refl 32579⟩) (fun H locs hC => ?_)
  refine lv_icmp_eq (tgt := 1073) hx hb dL_law_311 (by decide) (fun _ => ?_) (fun c9 => absurd rfl c9)
  exact kk _ _ _ _ _ hR hC hl
set_option maxHeartbeats 4000000 in
set_option maxRecDepth 100000 in
theorem zL_c4 (E : CallFix p m c cL_law 4 s #[Value.ref b] wsL_law RL) (hX : va_X b L xs s s.heap) (hbl : b < s.heap.size) (hbA : ¬ (fun z : Nat => s.heap.size ≤ z) b) (h1 : vp_in (x3 + (1 : Int32)) L) (h2 : vp_in (x3 + (2 : Int32)) L) (h3 : vp_in (x3 + (3 : Int32)) L) (h4 : vp_in (x3 + (4 : Int32)) L) (hk : k < 512) (hR : zR k ux um) (hC : zL_C D cI cJ tp q q2 (fun z : Nat => s.heap.size ≤ z) s ux um H locs) (hl : lv_has ls 4 [(0, .ref b), (1, .ref (q 5)), (2, .ref (q2 0)), (3, .int x3)]) (kk : ∀ (ux um : z_St) (H : Heap) (locs : List Loc) (ls : Array Slot), zR (k + 1) ux um → zL_C D cI cJ tp q q2 (fun z : Nat => s.heap.size ≤ z) s ux um H locs → lv_has ls 4 [(0, .ref b), (1, .ref (q 5)), (2, .ref (q2 0)), (3, .int x3)] → W p l e room_1 s m #[Value.ref b] below meth c H locs 50 32579 Q (F0 m 1073 ls [])) : W p l e room_1 s m #[Value.ref b] below meth c H locs 50 32579 Q (F0 m 316 ls []) := by
  have hx := E.1
  have hb := E.2.1
  have hts := E.2.2.2.2
  obtain ⟨r, vm, hfx, hfm, hR⟩ := zq_apart hk hR (xs (x3 + (1 : Int32)).toNatClampNeg)
  refine lv_aload_n hx hb dL_law_316 rfl (lv_at hl 1 rfl) ?_
  refine lv_aload_n hx hb dL_law_317 rfl (lv_at hl 0 rfl) ?_
  refine lv_iload_n hx hb dL_law_318 rfl (lv_at hl 3 rfl) ?_
  refine lv_iconst (v := (1 : Int32)) hx hb dL_law_319 (by decide) ?_
  refine lv_iadd hx hb dL_law_320 ?_
  refine va_sld hx hb hX hbl hbA hC.2.2.2.1 h1 dL_law_321 ?_
  refine zL_callxi hC (z_runV (rest := []) zx_Gok (zL_x hC) E (zc_X5_apart l D cI cJ tp q ux (xs (x3 + (1 : Int32)).toNatClampNeg) hfx _) (cwV 1 hts gL_law_X5_apart rfl rfl rfl ⟨rfl, zd_X5_apart⟩ ⟨Nat.le_of_ble_eq_true rfl, Nat.le_of_ble_eq_true rfl⟩) (zx_rcX5 (zL_x hC)) rfl hl.1 rfl (Nat.le_of_ble_eq_true rfl) dL_law_322 ⟨Nat.le_refl 50, Nat.le_refl 32579⟩) (fun H locs hC => ?_)
  refine lv_aload_n hx hb dL_law_325 rfl (lv_at hl 2 rfl) ?_
  refine lv_aload_n hx hb dL_law_326 rfl (lv_at hl 0 rfl) ?_
  refine lv_iload_n hx hb dL_law_327 rfl (lv_at hl 3 rfl) ?_
  refine lv_iconst (v := (1 : Int32)) hx hb dL_law_328 (by decide) ?_
  refine lv_iadd hx hb dL_law_329 ?_
  refine va_sld hx hb hX hbl hbA hC.2.2.2.1 h1 dL_law_330 ?_
  refine zL_callmi hC (z_runV (rest := [_]) zm_Gok (zL_m hC) E (zc_X6_apart l D cI cJ tp q2 um (xs (x3 + (1 : Int32)).toNatClampNeg) hfm _) (cwV 1 hts gL_law_X6_apart rfl rfl rfl ⟨rfl, zd_X6_apart⟩ ⟨Nat.le_of_ble_eq_true rfl, Nat.le_of_ble_eq_true rfl⟩) (zm_rcX6 (zL_m hC)) rfl hl.1 rfl (Nat.le_of_ble_eq_true rfl) dL_law_331 ⟨Nat.le_refl 50, Nat.le_refl 32579⟩) (fun H locs hC => ?_)
  refine lv_icmp_eq (tgt := 1073) hx hb dL_law_334 (by decide) (fun _ => ?_) (fun c9 => absurd rfl c9)
  exact kk _ _ _ _ _ hR hC hl
set_option maxHeartbeats 4000000 in
set_option maxRecDepth 100000 in
theorem zL_c5 (E : CallFix p m c cL_law 4 s #[Value.ref b] wsL_law RL) (hX : va_X b L xs s s.heap) (hbl : b < s.heap.size) (hbA : ¬ (fun z : Nat => s.heap.size ≤ z) b) (h1 : vp_in (x3 + (1 : Int32)) L) (h2 : vp_in (x3 + (2 : Int32)) L) (h3 : vp_in (x3 + (3 : Int32)) L) (h4 : vp_in (x3 + (4 : Int32)) L) (hk : k < 512) (hR : zR k ux um) (hC : zL_C D cI cJ tp q q2 (fun z : Nat => s.heap.size ≤ z) s ux um H locs) (hl : lv_has ls 4 [(0, .ref b), (1, .ref (q 5)), (2, .ref (q2 0)), (3, .int x3)]) (kk : ∀ (ux um : z_St) (H : Heap) (locs : List Loc) (ls : Array Slot), zR (k + 1) ux um → zL_C D cI cJ tp q q2 (fun z : Nat => s.heap.size ≤ z) s ux um H locs → lv_has ls 4 [(0, .ref b), (1, .ref (q 5)), (2, .ref (q2 0)), (3, .int x3)] → W p l e room_1 s m #[Value.ref b] below meth c H locs 50 32579 Q (F0 m 1073 ls [])) : W p l e room_1 s m #[Value.ref b] below meth c H locs 50 32579 Q (F0 m 339 ls []) := by
  have hx := E.1
  have hb := E.2.1
  have hts := E.2.2.2.2
  obtain ⟨r, vm, hfx, hfm, hR⟩ := zq_date hk hR (xs (x3 + (1 : Int32)).toNatClampNeg) (xs (x3 + (2 : Int32)).toNatClampNeg)
  refine lv_aload_n hx hb dL_law_339 rfl (lv_at hl 1 rfl) ?_
  refine lv_aload_n hx hb dL_law_340 rfl (lv_at hl 0 rfl) ?_
  refine lv_iload_n hx hb dL_law_341 rfl (lv_at hl 3 rfl) ?_
  refine lv_iconst (v := (1 : Int32)) hx hb dL_law_342 (by decide) ?_
  refine lv_iadd hx hb dL_law_343 ?_
  refine va_sld hx hb hX hbl hbA hC.2.2.2.1 h1 dL_law_344 ?_
  refine lv_aload_n hx hb dL_law_345 rfl (lv_at hl 0 rfl) ?_
  refine lv_iload_n hx hb dL_law_346 rfl (lv_at hl 3 rfl) ?_
  refine lv_iconst (v := (2 : Int32)) hx hb dL_law_347 (by decide) ?_
  refine lv_iadd hx hb dL_law_348 ?_
  refine va_sld hx hb hX hbl hbA hC.2.2.2.1 h2 dL_law_349 ?_
  refine zL_callxi hC (z_runV (rest := []) zx_Gok (zL_x hC) E (zc_X5_date l D cI cJ tp q ux (xs (x3 + (1 : Int32)).toNatClampNeg) (xs (x3 + (2 : Int32)).toNatClampNeg) hfx _) (cwV 2 hts gL_law_X5_date rfl rfl rfl ⟨rfl, zd_X5_date⟩ ⟨Nat.le_of_ble_eq_true rfl, Nat.le_of_ble_eq_true rfl⟩) (zx_rcX5 (zL_x hC)) rfl hl.1 rfl (Nat.le_of_ble_eq_true rfl) dL_law_350 ⟨Nat.le_refl 50, Nat.le_refl 32579⟩) (fun H locs hC => ?_)
  refine lv_aload_n hx hb dL_law_353 rfl (lv_at hl 2 rfl) ?_
  refine lv_aload_n hx hb dL_law_354 rfl (lv_at hl 0 rfl) ?_
  refine lv_iload_n hx hb dL_law_355 rfl (lv_at hl 3 rfl) ?_
  refine lv_iconst (v := (1 : Int32)) hx hb dL_law_356 (by decide) ?_
  refine lv_iadd hx hb dL_law_357 ?_
  refine va_sld hx hb hX hbl hbA hC.2.2.2.1 h1 dL_law_358 ?_
  refine lv_aload_n hx hb dL_law_359 rfl (lv_at hl 0 rfl) ?_
  refine lv_iload_n hx hb dL_law_360 rfl (lv_at hl 3 rfl) ?_
  refine lv_iconst (v := (2 : Int32)) hx hb dL_law_361 (by decide) ?_
  refine lv_iadd hx hb dL_law_362 ?_
  refine va_sld hx hb hX hbl hbA hC.2.2.2.1 h2 dL_law_363 ?_
  refine zL_callmi hC (z_runV (rest := [_]) zm_Gok (zL_m hC) E (zc_X6_date l D cI cJ tp q2 um (xs (x3 + (1 : Int32)).toNatClampNeg) (xs (x3 + (2 : Int32)).toNatClampNeg) hfm _) (cwV 2 hts gL_law_X6_date rfl rfl rfl ⟨rfl, zd_X6_date⟩ ⟨Nat.le_of_ble_eq_true rfl, Nat.le_of_ble_eq_true rfl⟩) (zm_rcX6 (zL_m hC)) rfl hl.1 rfl (Nat.le_of_ble_eq_true rfl) dL_law_364 ⟨Nat.le_refl 50, Nat.le_refl 32579⟩) (fun H locs hC => ?_)
  refine lv_icmp_eq (tgt := 1073) hx hb dL_law_367 (by decide) (fun _ => ?_) (fun c9 => absurd rfl c9)
  exact kk _ _ _ _ _ hR hC hl
set_option maxHeartbeats 4000000 in
set_option maxRecDepth 100000 in
theorem zL_c6 (E : CallFix p m c cL_law 4 s #[Value.ref b] wsL_law RL) (hX : va_X b L xs s s.heap) (hbl : b < s.heap.size) (hbA : ¬ (fun z : Nat => s.heap.size ≤ z) b) (h1 : vp_in (x3 + (1 : Int32)) L) (h2 : vp_in (x3 + (2 : Int32)) L) (h3 : vp_in (x3 + (3 : Int32)) L) (h4 : vp_in (x3 + (4 : Int32)) L) (hk : k < 512) (hR : zR k ux um) (hC : zL_C D cI cJ tp q q2 (fun z : Nat => s.heap.size ≤ z) s ux um H locs) (hl : lv_has ls 4 [(0, .ref b), (1, .ref (q 5)), (2, .ref (q2 0)), (3, .int x3)]) (kk : ∀ (ux um : z_St) (H : Heap) (locs : List Loc) (ls : Array Slot), zR (k + 1) ux um → zL_C D cI cJ tp q q2 (fun z : Nat => s.heap.size ≤ z) s ux um H locs → lv_has ls 4 [(0, .ref b), (1, .ref (q 5)), (2, .ref (q2 0)), (3, .int x3)] → W p l e room_1 s m #[Value.ref b] below meth c H locs 50 32579 Q (F0 m 1073 ls [])) : W p l e room_1 s m #[Value.ref b] below meth c H locs 50 32579 Q (F0 m 372 ls []) := by
  have hx := E.1
  have hb := E.2.1
  have hts := E.2.2.2.2
  obtain ⟨r, vx, vm, hfx, hfm, hR⟩ := zq_hold hk hR (xs (x3 + (1 : Int32)).toNatClampNeg) (xs (x3 + (2 : Int32)).toNatClampNeg)
  refine lv_aload_n hx hb dL_law_372 rfl (lv_at hl 1 rfl) ?_
  refine lv_aload_n hx hb dL_law_373 rfl (lv_at hl 0 rfl) ?_
  refine lv_iload_n hx hb dL_law_374 rfl (lv_at hl 3 rfl) ?_
  refine lv_iconst (v := (1 : Int32)) hx hb dL_law_375 (by decide) ?_
  refine lv_iadd hx hb dL_law_376 ?_
  refine va_sld hx hb hX hbl hbA hC.2.2.2.1 h1 dL_law_377 ?_
  refine lv_aload_n hx hb dL_law_378 rfl (lv_at hl 0 rfl) ?_
  refine lv_iload_n hx hb dL_law_379 rfl (lv_at hl 3 rfl) ?_
  refine lv_iconst (v := (2 : Int32)) hx hb dL_law_380 (by decide) ?_
  refine lv_iadd hx hb dL_law_381 ?_
  refine va_sld hx hb hX hbl hbA hC.2.2.2.1 h2 dL_law_382 ?_
  refine zL_callxi hC (z_runV (rest := []) zx_Gok (zL_x hC) E (zc_X5_hold l D cI cJ tp q ux (xs (x3 + (1 : Int32)).toNatClampNeg) (xs (x3 + (2 : Int32)).toNatClampNeg) hfx _) (cwV 2 hts gL_law_X5_hold rfl rfl rfl ⟨rfl, zd_X5_hold⟩ ⟨Nat.le_of_ble_eq_true rfl, Nat.le_of_ble_eq_true rfl⟩) (zx_rcX5 (zL_x hC)) rfl hl.1 rfl (Nat.le_of_ble_eq_true rfl) dL_law_383 ⟨Nat.le_refl 50, Nat.le_refl 32579⟩) (fun H locs hC => ?_)
  refine lv_aload_n hx hb dL_law_386 rfl (lv_at hl 2 rfl) ?_
  refine lv_aload_n hx hb dL_law_387 rfl (lv_at hl 0 rfl) ?_
  refine lv_iload_n hx hb dL_law_388 rfl (lv_at hl 3 rfl) ?_
  refine lv_iconst (v := (1 : Int32)) hx hb dL_law_389 (by decide) ?_
  refine lv_iadd hx hb dL_law_390 ?_
  refine va_sld hx hb hX hbl hbA hC.2.2.2.1 h1 dL_law_391 ?_
  refine lv_aload_n hx hb dL_law_392 rfl (lv_at hl 0 rfl) ?_
  refine lv_iload_n hx hb dL_law_393 rfl (lv_at hl 3 rfl) ?_
  refine lv_iconst (v := (2 : Int32)) hx hb dL_law_394 (by decide) ?_
  refine lv_iadd hx hb dL_law_395 ?_
  refine va_sld hx hb hX hbl hbA hC.2.2.2.1 h2 dL_law_396 ?_
  refine zL_callmi hC (z_runV (rest := [_]) zm_Gok (zL_m hC) E (zc_X6_hold l D cI cJ tp q2 um (xs (x3 + (1 : Int32)).toNatClampNeg) (xs (x3 + (2 : Int32)).toNatClampNeg) hfm _) (cwV 2 hts gL_law_X6_hold rfl rfl rfl ⟨rfl, zd_X6_hold⟩ ⟨Nat.le_of_ble_eq_true rfl, Nat.le_of_ble_eq_true rfl⟩) (zm_rcX6 (zL_m hC)) rfl hl.1 rfl (Nat.le_of_ble_eq_true rfl) dL_law_397 ⟨Nat.le_refl 50, Nat.le_refl 32579⟩) (fun H locs hC => ?_)
  refine lv_icmp_eq (tgt := 1073) hx hb dL_law_400 (by decide) (fun _ => ?_) (fun c9 => absurd rfl c9)
  exact kk _ _ _ _ _ hR hC hl
set_option maxHeartbeats 4000000 in
set_option maxRecDepth 100000 in
theorem zL_c7 (E : CallFix p m c cL_law 4 s #[Value.ref b] wsL_law RL) (hX : va_X b L xs s s.heap) (hbl : b < s.heap.size) (hbA : ¬ (fun z : Nat => s.heap.size ≤ z) b) (h1 : vp_in (x3 + (1 : Int32)) L) (h2 : vp_in (x3 + (2 : Int32)) L) (h3 : vp_in (x3 + (3 : Int32)) L) (h4 : vp_in (x3 + (4 : Int32)) L) (hk : k < 512) (hR : zR k ux um) (hC : zL_C D cI cJ tp q q2 (fun z : Nat => s.heap.size ≤ z) s ux um H locs) (hl : lv_has ls 4 [(0, .ref b), (1, .ref (q 5)), (2, .ref (q2 0)), (3, .int x3)]) (kk : ∀ (ux um : z_St) (H : Heap) (locs : List Loc) (ls : Array Slot), zR (k + 1) ux um → zL_C D cI cJ tp q q2 (fun z : Nat => s.heap.size ≤ z) s ux um H locs → lv_has ls 4 [(0, .ref b), (1, .ref (q 5)), (2, .ref (q2 0)), (3, .int x3)] → W p l e room_1 s m #[Value.ref b] below meth c H locs 50 32579 Q (F0 m 1073 ls [])) : W p l e room_1 s m #[Value.ref b] below meth c H locs 50 32579 Q (F0 m 405 ls []) := by
  have hx := E.1
  have hb := E.2.1
  have hts := E.2.2.2.2
  obtain ⟨r, hfx, hfm, hR⟩ := zq_holder hk hR (xs (x3 + (1 : Int32)).toNatClampNeg)
  refine lv_aload_n hx hb dL_law_405 rfl (lv_at hl 1 rfl) ?_
  refine lv_aload_n hx hb dL_law_406 rfl (lv_at hl 0 rfl) ?_
  refine lv_iload_n hx hb dL_law_407 rfl (lv_at hl 3 rfl) ?_
  refine lv_iconst (v := (1 : Int32)) hx hb dL_law_408 (by decide) ?_
  refine lv_iadd hx hb dL_law_409 ?_
  refine va_sld hx hb hX hbl hbA hC.2.2.2.1 h1 dL_law_410 ?_
  refine zL_callxi hC (z_runV (rest := []) zx_Gok (zL_x hC) E (zc_X5_holder l D cI cJ tp q ux (xs (x3 + (1 : Int32)).toNatClampNeg) hfx _) (cwV 1 hts gL_law_X5_holder rfl rfl rfl ⟨rfl, zd_X5_holder⟩ ⟨Nat.le_of_ble_eq_true rfl, Nat.le_of_ble_eq_true rfl⟩) (zx_rcX5 (zL_x hC)) rfl hl.1 rfl (Nat.le_of_ble_eq_true rfl) dL_law_411 ⟨Nat.le_refl 50, Nat.le_refl 32579⟩) (fun H locs hC => ?_)
  refine lv_aload_n hx hb dL_law_414 rfl (lv_at hl 2 rfl) ?_
  refine lv_aload_n hx hb dL_law_415 rfl (lv_at hl 0 rfl) ?_
  refine lv_iload_n hx hb dL_law_416 rfl (lv_at hl 3 rfl) ?_
  refine lv_iconst (v := (1 : Int32)) hx hb dL_law_417 (by decide) ?_
  refine lv_iadd hx hb dL_law_418 ?_
  refine va_sld hx hb hX hbl hbA hC.2.2.2.1 h1 dL_law_419 ?_
  refine zL_callmi hC (z_runV (rest := [_]) zm_Gok (zL_m hC) E (zc_X6_holder l D cI cJ tp q2 um (xs (x3 + (1 : Int32)).toNatClampNeg) hfm _) (cwV 1 hts gL_law_X6_holder rfl rfl rfl ⟨rfl, zd_X6_holder⟩ ⟨Nat.le_of_ble_eq_true rfl, Nat.le_of_ble_eq_true rfl⟩) (zm_rcX6 (zL_m hC)) rfl hl.1 rfl (Nat.le_of_ble_eq_true rfl) dL_law_420 ⟨Nat.le_refl 50, Nat.le_refl 32579⟩) (fun H locs hC => ?_)
  refine lv_icmp_eq (tgt := 1073) hx hb dL_law_423 (by decide) (fun _ => ?_) (fun c9 => absurd rfl c9)
  exact kk _ _ _ _ _ hR hC hl
set_option maxHeartbeats 4000000 in
set_option maxRecDepth 100000 in
theorem zL_c8 (E : CallFix p m c cL_law 4 s #[Value.ref b] wsL_law RL) (hX : va_X b L xs s s.heap) (hbl : b < s.heap.size) (hbA : ¬ (fun z : Nat => s.heap.size ≤ z) b) (h1 : vp_in (x3 + (1 : Int32)) L) (h2 : vp_in (x3 + (2 : Int32)) L) (h3 : vp_in (x3 + (3 : Int32)) L) (h4 : vp_in (x3 + (4 : Int32)) L) (hk : k < 512) (hR : zR k ux um) (hC : zL_C D cI cJ tp q q2 (fun z : Nat => s.heap.size ≤ z) s ux um H locs) (hl : lv_has ls 4 [(0, .ref b), (1, .ref (q 5)), (2, .ref (q2 0)), (3, .int x3)]) (kk : ∀ (ux um : z_St) (H : Heap) (locs : List Loc) (ls : Array Slot), zR (k + 1) ux um → zL_C D cI cJ tp q q2 (fun z : Nat => s.heap.size ≤ z) s ux um H locs → lv_has ls 4 [(0, .ref b), (1, .ref (q 5)), (2, .ref (q2 0)), (3, .int x3)] → W p l e room_1 s m #[Value.ref b] below meth c H locs 50 32579 Q (F0 m 1073 ls [])) : W p l e room_1 s m #[Value.ref b] below meth c H locs 50 32579 Q (F0 m 428 ls []) := by
  have hx := E.1
  have hb := E.2.1
  have hts := E.2.2.2.2
  obtain ⟨r, vx, vm, hfx, hfm, hR⟩ := zq_hours hk hR (xs (x3 + (1 : Int32)).toNatClampNeg)
  refine lv_aload_n hx hb dL_law_428 rfl (lv_at hl 1 rfl) ?_
  refine lv_aload_n hx hb dL_law_429 rfl (lv_at hl 0 rfl) ?_
  refine lv_iload_n hx hb dL_law_430 rfl (lv_at hl 3 rfl) ?_
  refine lv_iconst (v := (1 : Int32)) hx hb dL_law_431 (by decide) ?_
  refine lv_iadd hx hb dL_law_432 ?_
  refine va_sld hx hb hX hbl hbA hC.2.2.2.1 h1 dL_law_433 ?_
  refine zL_callxi hC (z_runV (rest := []) zx_Gok (zL_x hC) E (zc_X5_hours l D cI cJ tp q ux (xs (x3 + (1 : Int32)).toNatClampNeg) hfx _) (cwV 1 hts gL_law_X5_hours rfl rfl rfl ⟨rfl, zd_X5_hours⟩ ⟨Nat.le_of_ble_eq_true rfl, Nat.le_of_ble_eq_true rfl⟩) (zx_rcX5 (zL_x hC)) rfl hl.1 rfl (Nat.le_of_ble_eq_true rfl) dL_law_434 ⟨Nat.le_refl 50, Nat.le_refl 32579⟩) (fun H locs hC => ?_)
  refine lv_aload_n hx hb dL_law_437 rfl (lv_at hl 2 rfl) ?_
  refine lv_aload_n hx hb dL_law_438 rfl (lv_at hl 0 rfl) ?_
  refine lv_iload_n hx hb dL_law_439 rfl (lv_at hl 3 rfl) ?_
  refine lv_iconst (v := (1 : Int32)) hx hb dL_law_440 (by decide) ?_
  refine lv_iadd hx hb dL_law_441 ?_
  refine va_sld hx hb hX hbl hbA hC.2.2.2.1 h1 dL_law_442 ?_
  refine zL_callmi hC (z_runV (rest := [_]) zm_Gok (zL_m hC) E (zc_X6_hours l D cI cJ tp q2 um (xs (x3 + (1 : Int32)).toNatClampNeg) hfm _) (cwV 1 hts gL_law_X6_hours rfl rfl rfl ⟨rfl, zd_X6_hours⟩ ⟨Nat.le_of_ble_eq_true rfl, Nat.le_of_ble_eq_true rfl⟩) (zm_rcX6 (zL_m hC)) rfl hl.1 rfl (Nat.le_of_ble_eq_true rfl) dL_law_443 ⟨Nat.le_refl 50, Nat.le_refl 32579⟩) (fun H locs hC => ?_)
  refine lv_icmp_eq (tgt := 1073) hx hb dL_law_446 (by decide) (fun _ => ?_) (fun c9 => absurd rfl c9)
  exact kk _ _ _ _ _ hR hC hl
set_option maxHeartbeats 4000000 in
set_option maxRecDepth 100000 in
theorem zL_c9 (E : CallFix p m c cL_law 4 s #[Value.ref b] wsL_law RL) (hX : va_X b L xs s s.heap) (hbl : b < s.heap.size) (hbA : ¬ (fun z : Nat => s.heap.size ≤ z) b) (h1 : vp_in (x3 + (1 : Int32)) L) (h2 : vp_in (x3 + (2 : Int32)) L) (h3 : vp_in (x3 + (3 : Int32)) L) (h4 : vp_in (x3 + (4 : Int32)) L) (hk : k < 512) (hR : zR k ux um) (hC : zL_C D cI cJ tp q q2 (fun z : Nat => s.heap.size ≤ z) s ux um H locs) (hl : lv_has ls 4 [(0, .ref b), (1, .ref (q 5)), (2, .ref (q2 0)), (3, .int x3)]) (kk : ∀ (ux um : z_St) (H : Heap) (locs : List Loc) (ls : Array Slot), zR (k + 1) ux um → zL_C D cI cJ tp q q2 (fun z : Nat => s.heap.size ≤ z) s ux um H locs → lv_has ls 4 [(0, .ref b), (1, .ref (q 5)), (2, .ref (q2 0)), (3, .int x3)] → W p l e room_1 s m #[Value.ref b] below meth c H locs 50 32579 Q (F0 m 1073 ls [])) : W p l e room_1 s m #[Value.ref b] below meth c H locs 50 32579 Q (F0 m 451 ls []) := by
  have hx := E.1
  have hb := E.2.1
  have hts := E.2.2.2.2
  obtain ⟨r, vx, vm, hfx, hfm, hR⟩ := zq_sell hk hR (xs (x3 + (1 : Int32)).toNatClampNeg) (xs (x3 + (2 : Int32)).toNatClampNeg) (xs (x3 + (3 : Int32)).toNatClampNeg) (xs (x3 + (4 : Int32)).toNatClampNeg)
  refine lv_aload_n hx hb dL_law_451 rfl (lv_at hl 1 rfl) ?_
  refine lv_aload_n hx hb dL_law_452 rfl (lv_at hl 0 rfl) ?_
  refine lv_iload_n hx hb dL_law_453 rfl (lv_at hl 3 rfl) ?_
  refine lv_iconst (v := (1 : Int32)) hx hb dL_law_454 (by decide) ?_
  refine lv_iadd hx hb dL_law_455 ?_
  refine va_sld hx hb hX hbl hbA hC.2.2.2.1 h1 dL_law_456 ?_
  refine lv_aload_n hx hb dL_law_457 rfl (lv_at hl 0 rfl) ?_
  refine lv_iload_n hx hb dL_law_458 rfl (lv_at hl 3 rfl) ?_
  refine lv_iconst (v := (2 : Int32)) hx hb dL_law_459 (by decide) ?_
  refine lv_iadd hx hb dL_law_460 ?_
  refine va_sld hx hb hX hbl hbA hC.2.2.2.1 h2 dL_law_461 ?_
  refine lv_aload_n hx hb dL_law_462 rfl (lv_at hl 0 rfl) ?_
  refine lv_iload_n hx hb dL_law_463 rfl (lv_at hl 3 rfl) ?_
  refine lv_iconst (v := (3 : Int32)) hx hb dL_law_464 (by decide) ?_
  refine lv_iadd hx hb dL_law_465 ?_
  refine va_sld hx hb hX hbl hbA hC.2.2.2.1 h3 dL_law_466 ?_
  refine lv_aload_n hx hb dL_law_467 rfl (lv_at hl 0 rfl) ?_
  refine lv_iload_n hx hb dL_law_468 rfl (lv_at hl 3 rfl) ?_
  refine lv_iconst (v := (4 : Int32)) hx hb dL_law_469 (by decide) ?_
  refine lv_iadd hx hb dL_law_470 ?_
  refine va_sld hx hb hX hbl hbA hC.2.2.2.1 h4 dL_law_471 ?_
  refine zL_callxi hC (z_runV (rest := []) zx_Gok (zL_x hC) E (zc_X5_sell l D cI cJ tp q ux (xs (x3 + (1 : Int32)).toNatClampNeg) (xs (x3 + (2 : Int32)).toNatClampNeg) (xs (x3 + (3 : Int32)).toNatClampNeg) (xs (x3 + (4 : Int32)).toNatClampNeg) hfx _) (cwV 4 hts gL_law_X5_sell rfl rfl rfl ⟨rfl, zd_X5_sell⟩ ⟨Nat.le_of_ble_eq_true rfl, Nat.le_of_ble_eq_true rfl⟩) (zx_rcX5 (zL_x hC)) rfl hl.1 rfl (Nat.le_of_ble_eq_true rfl) dL_law_472 ⟨Nat.le_refl 50, Nat.le_refl 32579⟩) (fun H locs hC => ?_)
  refine lv_aload_n hx hb dL_law_475 rfl (lv_at hl 2 rfl) ?_
  refine lv_aload_n hx hb dL_law_476 rfl (lv_at hl 0 rfl) ?_
  refine lv_iload_n hx hb dL_law_477 rfl (lv_at hl 3 rfl) ?_
  refine lv_iconst (v := (1 : Int32)) hx hb dL_law_478 (by decide) ?_
  refine lv_iadd hx hb dL_law_479 ?_
  refine va_sld hx hb hX hbl hbA hC.2.2.2.1 h1 dL_law_480 ?_
  refine lv_aload_n hx hb dL_law_481 rfl (lv_at hl 0 rfl) ?_
  refine lv_iload_n hx hb dL_law_482 rfl (lv_at hl 3 rfl) ?_
  refine lv_iconst (v := (2 : Int32)) hx hb dL_law_483 (by decide) ?_
  refine lv_iadd hx hb dL_law_484 ?_
  refine va_sld hx hb hX hbl hbA hC.2.2.2.1 h2 dL_law_485 ?_
  refine lv_aload_n hx hb dL_law_486 rfl (lv_at hl 0 rfl) ?_
  refine lv_iload_n hx hb dL_law_487 rfl (lv_at hl 3 rfl) ?_
  refine lv_iconst (v := (3 : Int32)) hx hb dL_law_488 (by decide) ?_
  refine lv_iadd hx hb dL_law_489 ?_
  refine va_sld hx hb hX hbl hbA hC.2.2.2.1 h3 dL_law_490 ?_
  refine lv_aload_n hx hb dL_law_491 rfl (lv_at hl 0 rfl) ?_
  refine lv_iload_n hx hb dL_law_492 rfl (lv_at hl 3 rfl) ?_
  refine lv_iconst (v := (4 : Int32)) hx hb dL_law_493 (by decide) ?_
  refine lv_iadd hx hb dL_law_494 ?_
  refine va_sld hx hb hX hbl hbA hC.2.2.2.1 h4 dL_law_495 ?_
  refine zL_callmi hC (z_runV (rest := [_]) zm_Gok (zL_m hC) E (zc_X6_sell l D cI cJ tp q2 um (xs (x3 + (1 : Int32)).toNatClampNeg) (xs (x3 + (2 : Int32)).toNatClampNeg) (xs (x3 + (3 : Int32)).toNatClampNeg) (xs (x3 + (4 : Int32)).toNatClampNeg) hfm _) (cwV 4 hts gL_law_X6_sell rfl rfl rfl ⟨rfl, zd_X6_sell⟩ ⟨Nat.le_of_ble_eq_true rfl, Nat.le_of_ble_eq_true rfl⟩) (zm_rcX6 (zL_m hC)) rfl hl.1 rfl (Nat.le_of_ble_eq_true rfl) dL_law_496 ⟨Nat.le_refl 50, Nat.le_refl 32579⟩) (fun H locs hC => ?_)
  refine lv_icmp_eq (tgt := 1073) hx hb dL_law_499 (by decide) (fun _ => ?_) (fun c9 => absurd rfl c9)
  exact kk _ _ _ _ _ hR hC hl
set_option maxHeartbeats 4000000 in
set_option maxRecDepth 100000 in
theorem zL_c10 (E : CallFix p m c cL_law 4 s #[Value.ref b] wsL_law RL) (hX : va_X b L xs s s.heap) (hbl : b < s.heap.size) (hbA : ¬ (fun z : Nat => s.heap.size ≤ z) b) (h1 : vp_in (x3 + (1 : Int32)) L) (h2 : vp_in (x3 + (2 : Int32)) L) (h3 : vp_in (x3 + (3 : Int32)) L) (h4 : vp_in (x3 + (4 : Int32)) L) (hk : k < 512) (hR : zR k ux um) (hC : zL_C D cI cJ tp q q2 (fun z : Nat => s.heap.size ≤ z) s ux um H locs) (hl : lv_has ls 4 [(0, .ref b), (1, .ref (q 5)), (2, .ref (q2 0)), (3, .int x3)]) (kk : ∀ (ux um : z_St) (H : Heap) (locs : List Loc) (ls : Array Slot), zR (k + 1) ux um → zL_C D cI cJ tp q q2 (fun z : Nat => s.heap.size ≤ z) s ux um H locs → lv_has ls 4 [(0, .ref b), (1, .ref (q 5)), (2, .ref (q2 0)), (3, .int x3)] → W p l e room_1 s m #[Value.ref b] below meth c H locs 50 32579 Q (F0 m 1073 ls [])) : W p l e room_1 s m #[Value.ref b] below meth c H locs 50 32579 Q (F0 m 504 ls []) := by
  have hx := E.1
  have hb := E.2.1
  have hts := E.2.2.2.2
  obtain ⟨r, vx, vm, hfx, hfm, hR⟩ := zq_back hk hR (xs (x3 + (1 : Int32)).toNatClampNeg)
  refine lv_aload_n hx hb dL_law_504 rfl (lv_at hl 1 rfl) ?_
  refine lv_aload_n hx hb dL_law_505 rfl (lv_at hl 0 rfl) ?_
  refine lv_iload_n hx hb dL_law_506 rfl (lv_at hl 3 rfl) ?_
  refine lv_iconst (v := (1 : Int32)) hx hb dL_law_507 (by decide) ?_
  refine lv_iadd hx hb dL_law_508 ?_
  refine va_sld hx hb hX hbl hbA hC.2.2.2.1 h1 dL_law_509 ?_
  refine zL_callxi hC (z_runV (rest := []) zx_Gok (zL_x hC) E (zc_X5_back l D cI cJ tp q ux (xs (x3 + (1 : Int32)).toNatClampNeg) hfx _) (cwV 1 hts gL_law_X5_back rfl rfl rfl ⟨rfl, zd_X5_back⟩ ⟨Nat.le_of_ble_eq_true rfl, Nat.le_of_ble_eq_true rfl⟩) (zx_rcX5 (zL_x hC)) rfl hl.1 rfl (Nat.le_of_ble_eq_true rfl) dL_law_510 ⟨Nat.le_refl 50, Nat.le_refl 32579⟩) (fun H locs hC => ?_)
  refine lv_aload_n hx hb dL_law_513 rfl (lv_at hl 2 rfl) ?_
  refine lv_aload_n hx hb dL_law_514 rfl (lv_at hl 0 rfl) ?_
  refine lv_iload_n hx hb dL_law_515 rfl (lv_at hl 3 rfl) ?_
  refine lv_iconst (v := (1 : Int32)) hx hb dL_law_516 (by decide) ?_
  refine lv_iadd hx hb dL_law_517 ?_
  refine va_sld hx hb hX hbl hbA hC.2.2.2.1 h1 dL_law_518 ?_
  refine zL_callmi hC (z_runV (rest := [_]) zm_Gok (zL_m hC) E (zc_X6_back l D cI cJ tp q2 um (xs (x3 + (1 : Int32)).toNatClampNeg) hfm _) (cwV 1 hts gL_law_X6_back rfl rfl rfl ⟨rfl, zd_X6_back⟩ ⟨Nat.le_of_ble_eq_true rfl, Nat.le_of_ble_eq_true rfl⟩) (zm_rcX6 (zL_m hC)) rfl hl.1 rfl (Nat.le_of_ble_eq_true rfl) dL_law_519 ⟨Nat.le_refl 50, Nat.le_refl 32579⟩) (fun H locs hC => ?_)
  refine lv_icmp_eq (tgt := 1073) hx hb dL_law_522 (by decide) (fun _ => ?_) (fun c9 => absurd rfl c9)
  exact kk _ _ _ _ _ hR hC hl
set_option maxHeartbeats 4000000 in
set_option maxRecDepth 100000 in
theorem zL_c11 (E : CallFix p m c cL_law 4 s #[Value.ref b] wsL_law RL) (hX : va_X b L xs s s.heap) (hbl : b < s.heap.size) (hbA : ¬ (fun z : Nat => s.heap.size ≤ z) b) (h1 : vp_in (x3 + (1 : Int32)) L) (h2 : vp_in (x3 + (2 : Int32)) L) (h3 : vp_in (x3 + (3 : Int32)) L) (h4 : vp_in (x3 + (4 : Int32)) L) (hk : k < 512) (hR : zR k ux um) (hC : zL_C D cI cJ tp q q2 (fun z : Nat => s.heap.size ≤ z) s ux um H locs) (hl : lv_has ls 4 [(0, .ref b), (1, .ref (q 5)), (2, .ref (q2 0)), (3, .int x3)]) (kk : ∀ (ux um : z_St) (H : Heap) (locs : List Loc) (ls : Array Slot), zR (k + 1) ux um → zL_C D cI cJ tp q q2 (fun z : Nat => s.heap.size ≤ z) s ux um H locs → lv_has ls 4 [(0, .ref b), (1, .ref (q 5)), (2, .ref (q2 0)), (3, .int x3)] → W p l e room_1 s m #[Value.ref b] below meth c H locs 50 32579 Q (F0 m 1073 ls [])) : W p l e room_1 s m #[Value.ref b] below meth c H locs 50 32579 Q (F0 m 527 ls []) := by
  have hx := E.1
  have hb := E.2.1
  have hts := E.2.2.2.2
  obtain ⟨r, hfx, hfm, hR⟩ := zq_sale hk hR (xs (x3 + (1 : Int32)).toNatClampNeg) (xs (x3 + (2 : Int32)).toNatClampNeg)
  refine lv_aload_n hx hb dL_law_527 rfl (lv_at hl 1 rfl) ?_
  refine lv_aload_n hx hb dL_law_528 rfl (lv_at hl 0 rfl) ?_
  refine lv_iload_n hx hb dL_law_529 rfl (lv_at hl 3 rfl) ?_
  refine lv_iconst (v := (1 : Int32)) hx hb dL_law_530 (by decide) ?_
  refine lv_iadd hx hb dL_law_531 ?_
  refine va_sld hx hb hX hbl hbA hC.2.2.2.1 h1 dL_law_532 ?_
  refine lv_aload_n hx hb dL_law_533 rfl (lv_at hl 0 rfl) ?_
  refine lv_iload_n hx hb dL_law_534 rfl (lv_at hl 3 rfl) ?_
  refine lv_iconst (v := (2 : Int32)) hx hb dL_law_535 (by decide) ?_
  refine lv_iadd hx hb dL_law_536 ?_
  refine va_sld hx hb hX hbl hbA hC.2.2.2.1 h2 dL_law_537 ?_
  refine zL_callxi hC (z_runV (rest := []) zx_Gok (zL_x hC) E (zc_X5_sale l D cI cJ tp q ux (xs (x3 + (1 : Int32)).toNatClampNeg) (xs (x3 + (2 : Int32)).toNatClampNeg) hfx _) (cwV 2 hts gL_law_X5_sale rfl rfl rfl ⟨rfl, zd_X5_sale⟩ ⟨Nat.le_of_ble_eq_true rfl, Nat.le_of_ble_eq_true rfl⟩) (zx_rcX5 (zL_x hC)) rfl hl.1 rfl (Nat.le_of_ble_eq_true rfl) dL_law_538 ⟨Nat.le_refl 50, Nat.le_refl 32579⟩) (fun H locs hC => ?_)
  refine lv_aload_n hx hb dL_law_541 rfl (lv_at hl 2 rfl) ?_
  refine lv_aload_n hx hb dL_law_542 rfl (lv_at hl 0 rfl) ?_
  refine lv_iload_n hx hb dL_law_543 rfl (lv_at hl 3 rfl) ?_
  refine lv_iconst (v := (1 : Int32)) hx hb dL_law_544 (by decide) ?_
  refine lv_iadd hx hb dL_law_545 ?_
  refine va_sld hx hb hX hbl hbA hC.2.2.2.1 h1 dL_law_546 ?_
  refine lv_aload_n hx hb dL_law_547 rfl (lv_at hl 0 rfl) ?_
  refine lv_iload_n hx hb dL_law_548 rfl (lv_at hl 3 rfl) ?_
  refine lv_iconst (v := (2 : Int32)) hx hb dL_law_549 (by decide) ?_
  refine lv_iadd hx hb dL_law_550 ?_
  refine va_sld hx hb hX hbl hbA hC.2.2.2.1 h2 dL_law_551 ?_
  refine zL_callmi hC (z_runV (rest := [_]) zm_Gok (zL_m hC) E (zc_X6_sale l D cI cJ tp q2 um (xs (x3 + (1 : Int32)).toNatClampNeg) (xs (x3 + (2 : Int32)).toNatClampNeg) hfm _) (cwV 2 hts gL_law_X6_sale rfl rfl rfl ⟨rfl, zd_X6_sale⟩ ⟨Nat.le_of_ble_eq_true rfl, Nat.le_of_ble_eq_true rfl⟩) (zm_rcX6 (zL_m hC)) rfl hl.1 rfl (Nat.le_of_ble_eq_true rfl) dL_law_552 ⟨Nat.le_refl 50, Nat.le_refl 32579⟩) (fun H locs hC => ?_)
  refine lv_icmp_eq (tgt := 1073) hx hb dL_law_555 (by decide) (fun _ => ?_) (fun c9 => absurd rfl c9)
  exact kk _ _ _ _ _ hR hC hl
set_option maxHeartbeats 4000000 in
set_option maxRecDepth 100000 in
theorem zL_c12 (E : CallFix p m c cL_law 4 s #[Value.ref b] wsL_law RL) (hX : va_X b L xs s s.heap) (hbl : b < s.heap.size) (hbA : ¬ (fun z : Nat => s.heap.size ≤ z) b) (h1 : vp_in (x3 + (1 : Int32)) L) (h2 : vp_in (x3 + (2 : Int32)) L) (h3 : vp_in (x3 + (3 : Int32)) L) (h4 : vp_in (x3 + (4 : Int32)) L) (hk : k < 512) (hR : zR k ux um) (hC : zL_C D cI cJ tp q q2 (fun z : Nat => s.heap.size ≤ z) s ux um H locs) (hl : lv_has ls 4 [(0, .ref b), (1, .ref (q 5)), (2, .ref (q2 0)), (3, .int x3)]) (kk : ∀ (ux um : z_St) (H : Heap) (locs : List Loc) (ls : Array Slot), zR (k + 1) ux um → zL_C D cI cJ tp q q2 (fun z : Nat => s.heap.size ≤ z) s ux um H locs → lv_has ls 4 [(0, .ref b), (1, .ref (q 5)), (2, .ref (q2 0)), (3, .int x3)] → W p l e room_1 s m #[Value.ref b] below meth c H locs 50 32579 Q (F0 m 1073 ls [])) : W p l e room_1 s m #[Value.ref b] below meth c H locs 50 32579 Q (F0 m 560 ls []) := by
  have hx := E.1
  have hb := E.2.1
  have hts := E.2.2.2.2
  obtain ⟨r, hfx, hfm, hR⟩ := zq_gain hk hR (xs (x3 + (1 : Int32)).toNatClampNeg)
  refine lv_aload_n hx hb dL_law_560 rfl (lv_at hl 1 rfl) ?_
  refine lv_aload_n hx hb dL_law_561 rfl (lv_at hl 0 rfl) ?_
  refine lv_iload_n hx hb dL_law_562 rfl (lv_at hl 3 rfl) ?_
  refine lv_iconst (v := (1 : Int32)) hx hb dL_law_563 (by decide) ?_
  refine lv_iadd hx hb dL_law_564 ?_
  refine va_sld hx hb hX hbl hbA hC.2.2.2.1 h1 dL_law_565 ?_
  refine zL_callxi hC (z_runV (rest := []) zx_Gok (zL_x hC) E (zc_X5_gain l D cI cJ tp q ux (xs (x3 + (1 : Int32)).toNatClampNeg) hfx _) (cwV 1 hts gL_law_X5_gain rfl rfl rfl ⟨rfl, zd_X5_gain⟩ ⟨Nat.le_of_ble_eq_true rfl, Nat.le_of_ble_eq_true rfl⟩) (zx_rcX5 (zL_x hC)) rfl hl.1 rfl (Nat.le_of_ble_eq_true rfl) dL_law_566 ⟨Nat.le_refl 50, Nat.le_refl 32579⟩) (fun H locs hC => ?_)
  refine lv_aload_n hx hb dL_law_569 rfl (lv_at hl 2 rfl) ?_
  refine lv_aload_n hx hb dL_law_570 rfl (lv_at hl 0 rfl) ?_
  refine lv_iload_n hx hb dL_law_571 rfl (lv_at hl 3 rfl) ?_
  refine lv_iconst (v := (1 : Int32)) hx hb dL_law_572 (by decide) ?_
  refine lv_iadd hx hb dL_law_573 ?_
  refine va_sld hx hb hX hbl hbA hC.2.2.2.1 h1 dL_law_574 ?_
  refine zL_callmi hC (z_runV (rest := [_]) zm_Gok (zL_m hC) E (zc_X6_gain l D cI cJ tp q2 um (xs (x3 + (1 : Int32)).toNatClampNeg) hfm _) (cwV 1 hts gL_law_X6_gain rfl rfl rfl ⟨rfl, zd_X6_gain⟩ ⟨Nat.le_of_ble_eq_true rfl, Nat.le_of_ble_eq_true rfl⟩) (zm_rcX6 (zL_m hC)) rfl hl.1 rfl (Nat.le_of_ble_eq_true rfl) dL_law_575 ⟨Nat.le_refl 50, Nat.le_refl 32579⟩) (fun H locs hC => ?_)
  refine lv_icmp_eq (tgt := 1073) hx hb dL_law_578 (by decide) (fun _ => ?_) (fun c9 => absurd rfl c9)
  exact kk _ _ _ _ _ hR hC hl
set_option maxHeartbeats 4000000 in
set_option maxRecDepth 100000 in
theorem zL_c13 (E : CallFix p m c cL_law 4 s #[Value.ref b] wsL_law RL) (hX : va_X b L xs s s.heap) (hbl : b < s.heap.size) (hbA : ¬ (fun z : Nat => s.heap.size ≤ z) b) (h1 : vp_in (x3 + (1 : Int32)) L) (h2 : vp_in (x3 + (2 : Int32)) L) (h3 : vp_in (x3 + (3 : Int32)) L) (h4 : vp_in (x3 + (4 : Int32)) L) (hk : k < 512) (hR : zR k ux um) (hC : zL_C D cI cJ tp q q2 (fun z : Nat => s.heap.size ≤ z) s ux um H locs) (hl : lv_has ls 4 [(0, .ref b), (1, .ref (q 5)), (2, .ref (q2 0)), (3, .int x3)]) (kk : ∀ (ux um : z_St) (H : Heap) (locs : List Loc) (ls : Array Slot), zR (k + 1) ux um → zL_C D cI cJ tp q q2 (fun z : Nat => s.heap.size ≤ z) s ux um H locs → lv_has ls 4 [(0, .ref b), (1, .ref (q 5)), (2, .ref (q2 0)), (3, .int x3)] → W p l e room_1 s m #[Value.ref b] below meth c H locs 50 32579 Q (F0 m 1073 ls [])) : W p l e room_1 s m #[Value.ref b] below meth c H locs 50 32579 Q (F0 m 583 ls []) := by
  have hx := E.1
  have hb := E.2.1
  have hts := E.2.2.2.2
  obtain ⟨r, hfx, hfm, hR⟩ := zq_rose hk hR (xs (x3 + (1 : Int32)).toNatClampNeg)
  refine lv_aload_n hx hb dL_law_583 rfl (lv_at hl 1 rfl) ?_
  refine lv_aload_n hx hb dL_law_584 rfl (lv_at hl 0 rfl) ?_
  refine lv_iload_n hx hb dL_law_585 rfl (lv_at hl 3 rfl) ?_
  refine lv_iconst (v := (1 : Int32)) hx hb dL_law_586 (by decide) ?_
  refine lv_iadd hx hb dL_law_587 ?_
  refine va_sld hx hb hX hbl hbA hC.2.2.2.1 h1 dL_law_588 ?_
  refine zL_callxi hC (z_runV (rest := []) zx_Gok (zL_x hC) E (zc_X5_rose l D cI cJ tp q ux (xs (x3 + (1 : Int32)).toNatClampNeg) hfx _) (cwV 1 hts gL_law_X5_rose rfl rfl rfl ⟨rfl, zd_X5_rose⟩ ⟨Nat.le_of_ble_eq_true rfl, Nat.le_of_ble_eq_true rfl⟩) (zx_rcX5 (zL_x hC)) rfl hl.1 rfl (Nat.le_of_ble_eq_true rfl) dL_law_589 ⟨Nat.le_refl 50, Nat.le_refl 32579⟩) (fun H locs hC => ?_)
  refine lv_aload_n hx hb dL_law_592 rfl (lv_at hl 2 rfl) ?_
  refine lv_aload_n hx hb dL_law_593 rfl (lv_at hl 0 rfl) ?_
  refine lv_iload_n hx hb dL_law_594 rfl (lv_at hl 3 rfl) ?_
  refine lv_iconst (v := (1 : Int32)) hx hb dL_law_595 (by decide) ?_
  refine lv_iadd hx hb dL_law_596 ?_
  refine va_sld hx hb hX hbl hbA hC.2.2.2.1 h1 dL_law_597 ?_
  refine zL_callmi hC (z_runV (rest := [_]) zm_Gok (zL_m hC) E (zc_X6_rose l D cI cJ tp q2 um (xs (x3 + (1 : Int32)).toNatClampNeg) hfm _) (cwV 1 hts gL_law_X6_rose rfl rfl rfl ⟨rfl, zd_X6_rose⟩ ⟨Nat.le_of_ble_eq_true rfl, Nat.le_of_ble_eq_true rfl⟩) (zm_rcX6 (zL_m hC)) rfl hl.1 rfl (Nat.le_of_ble_eq_true rfl) dL_law_598 ⟨Nat.le_refl 50, Nat.le_refl 32579⟩) (fun H locs hC => ?_)
  refine lv_icmp_eq (tgt := 1073) hx hb dL_law_601 (by decide) (fun _ => ?_) (fun c9 => absurd rfl c9)
  exact kk _ _ _ _ _ hR hC hl
set_option maxHeartbeats 4000000 in
set_option maxRecDepth 100000 in
theorem zL_c14 (E : CallFix p m c cL_law 4 s #[Value.ref b] wsL_law RL) (hX : va_X b L xs s s.heap) (hbl : b < s.heap.size) (hbA : ¬ (fun z : Nat => s.heap.size ≤ z) b) (h1 : vp_in (x3 + (1 : Int32)) L) (h2 : vp_in (x3 + (2 : Int32)) L) (h3 : vp_in (x3 + (3 : Int32)) L) (h4 : vp_in (x3 + (4 : Int32)) L) (hk : k < 512) (hR : zR k ux um) (hC : zL_C D cI cJ tp q q2 (fun z : Nat => s.heap.size ≤ z) s ux um H locs) (hl : lv_has ls 4 [(0, .ref b), (1, .ref (q 5)), (2, .ref (q2 0)), (3, .int x3)]) (kk : ∀ (ux um : z_St) (H : Heap) (locs : List Loc) (ls : Array Slot), zR (k + 1) ux um → zL_C D cI cJ tp q q2 (fun z : Nat => s.heap.size ≤ z) s ux um H locs → lv_has ls 4 [(0, .ref b), (1, .ref (q 5)), (2, .ref (q2 0)), (3, .int x3)] → W p l e room_1 s m #[Value.ref b] below meth c H locs 50 32579 Q (F0 m 1073 ls [])) : W p l e room_1 s m #[Value.ref b] below meth c H locs 50 32579 Q (F0 m 606 ls []) := by
  have hx := E.1
  have hb := E.2.1
  have hts := E.2.2.2.2
  obtain ⟨r, vx, vm, hfx, hfm, hR⟩ := zq_lot hk hR (xs (x3 + (1 : Int32)).toNatClampNeg) (xs (x3 + (2 : Int32)).toNatClampNeg) (xs (x3 + (3 : Int32)).toNatClampNeg)
  refine lv_aload_n hx hb dL_law_606 rfl (lv_at hl 1 rfl) ?_
  refine lv_aload_n hx hb dL_law_607 rfl (lv_at hl 0 rfl) ?_
  refine lv_iload_n hx hb dL_law_608 rfl (lv_at hl 3 rfl) ?_
  refine lv_iconst (v := (1 : Int32)) hx hb dL_law_609 (by decide) ?_
  refine lv_iadd hx hb dL_law_610 ?_
  refine va_sld hx hb hX hbl hbA hC.2.2.2.1 h1 dL_law_611 ?_
  refine lv_aload_n hx hb dL_law_612 rfl (lv_at hl 0 rfl) ?_
  refine lv_iload_n hx hb dL_law_613 rfl (lv_at hl 3 rfl) ?_
  refine lv_iconst (v := (2 : Int32)) hx hb dL_law_614 (by decide) ?_
  refine lv_iadd hx hb dL_law_615 ?_
  refine va_sld hx hb hX hbl hbA hC.2.2.2.1 h2 dL_law_616 ?_
  refine lv_aload_n hx hb dL_law_617 rfl (lv_at hl 0 rfl) ?_
  refine lv_iload_n hx hb dL_law_618 rfl (lv_at hl 3 rfl) ?_
  refine lv_iconst (v := (3 : Int32)) hx hb dL_law_619 (by decide) ?_
  refine lv_iadd hx hb dL_law_620 ?_
  refine va_sld hx hb hX hbl hbA hC.2.2.2.1 h3 dL_law_621 ?_
  refine zL_callxi hC (z_runV (rest := []) zx_Gok (zL_x hC) E (zc_X5_lot l D cI cJ tp q ux (xs (x3 + (1 : Int32)).toNatClampNeg) (xs (x3 + (2 : Int32)).toNatClampNeg) (xs (x3 + (3 : Int32)).toNatClampNeg) hfx _) (cwV 3 hts gL_law_X5_lot rfl rfl rfl ⟨rfl, zd_X5_lot⟩ ⟨Nat.le_of_ble_eq_true rfl, Nat.le_of_ble_eq_true rfl⟩) (zx_rcX5 (zL_x hC)) rfl hl.1 rfl (Nat.le_of_ble_eq_true rfl) dL_law_622 ⟨Nat.le_refl 50, Nat.le_refl 32579⟩) (fun H locs hC => ?_)
  refine lv_aload_n hx hb dL_law_625 rfl (lv_at hl 2 rfl) ?_
  refine lv_aload_n hx hb dL_law_626 rfl (lv_at hl 0 rfl) ?_
  refine lv_iload_n hx hb dL_law_627 rfl (lv_at hl 3 rfl) ?_
  refine lv_iconst (v := (1 : Int32)) hx hb dL_law_628 (by decide) ?_
  refine lv_iadd hx hb dL_law_629 ?_
  refine va_sld hx hb hX hbl hbA hC.2.2.2.1 h1 dL_law_630 ?_
  refine lv_aload_n hx hb dL_law_631 rfl (lv_at hl 0 rfl) ?_
  refine lv_iload_n hx hb dL_law_632 rfl (lv_at hl 3 rfl) ?_
  refine lv_iconst (v := (2 : Int32)) hx hb dL_law_633 (by decide) ?_
  refine lv_iadd hx hb dL_law_634 ?_
  refine va_sld hx hb hX hbl hbA hC.2.2.2.1 h2 dL_law_635 ?_
  refine lv_aload_n hx hb dL_law_636 rfl (lv_at hl 0 rfl) ?_
  refine lv_iload_n hx hb dL_law_637 rfl (lv_at hl 3 rfl) ?_
  refine lv_iconst (v := (3 : Int32)) hx hb dL_law_638 (by decide) ?_
  refine lv_iadd hx hb dL_law_639 ?_
  refine va_sld hx hb hX hbl hbA hC.2.2.2.1 h3 dL_law_640 ?_
  refine zL_callmi hC (z_runV (rest := [_]) zm_Gok (zL_m hC) E (zc_X6_lot l D cI cJ tp q2 um (xs (x3 + (1 : Int32)).toNatClampNeg) (xs (x3 + (2 : Int32)).toNatClampNeg) (xs (x3 + (3 : Int32)).toNatClampNeg) hfm _) (cwV 3 hts gL_law_X6_lot rfl rfl rfl ⟨rfl, zd_X6_lot⟩ ⟨Nat.le_of_ble_eq_true rfl, Nat.le_of_ble_eq_true rfl⟩) (zm_rcX6 (zL_m hC)) rfl hl.1 rfl (Nat.le_of_ble_eq_true rfl) dL_law_641 ⟨Nat.le_refl 50, Nat.le_refl 32579⟩) (fun H locs hC => ?_)
  refine lv_icmp_eq (tgt := 1073) hx hb dL_law_644 (by decide) (fun _ => ?_) (fun c9 => absurd rfl c9)
  exact kk _ _ _ _ _ hR hC hl
set_option maxHeartbeats 4000000 in
set_option maxRecDepth 100000 in
theorem zL_c15 (E : CallFix p m c cL_law 4 s #[Value.ref b] wsL_law RL) (hX : va_X b L xs s s.heap) (hbl : b < s.heap.size) (hbA : ¬ (fun z : Nat => s.heap.size ≤ z) b) (h1 : vp_in (x3 + (1 : Int32)) L) (h2 : vp_in (x3 + (2 : Int32)) L) (h3 : vp_in (x3 + (3 : Int32)) L) (h4 : vp_in (x3 + (4 : Int32)) L) (hk : k < 512) (hR : zR k ux um) (hC : zL_C D cI cJ tp q q2 (fun z : Nat => s.heap.size ≤ z) s ux um H locs) (hl : lv_has ls 4 [(0, .ref b), (1, .ref (q 5)), (2, .ref (q2 0)), (3, .int x3)]) (kk : ∀ (ux um : z_St) (H : Heap) (locs : List Loc) (ls : Array Slot), zR (k + 1) ux um → zL_C D cI cJ tp q q2 (fun z : Nat => s.heap.size ≤ z) s ux um H locs → lv_has ls 4 [(0, .ref b), (1, .ref (q 5)), (2, .ref (q2 0)), (3, .int x3)] → W p l e room_1 s m #[Value.ref b] below meth c H locs 50 32579 Q (F0 m 1073 ls [])) : W p l e room_1 s m #[Value.ref b] below meth c H locs 50 32579 Q (F0 m 649 ls []) := by
  have hx := E.1
  have hb := E.2.1
  have hts := E.2.2.2.2
  obtain ⟨r, vm, hfx, hfm, hR⟩ := zq_both hk hR (xs (x3 + (1 : Int32)).toNatClampNeg) (xs (x3 + (2 : Int32)).toNatClampNeg) (xs (x3 + (3 : Int32)).toNatClampNeg)
  refine lv_aload_n hx hb dL_law_649 rfl (lv_at hl 1 rfl) ?_
  refine lv_aload_n hx hb dL_law_650 rfl (lv_at hl 0 rfl) ?_
  refine lv_iload_n hx hb dL_law_651 rfl (lv_at hl 3 rfl) ?_
  refine lv_iconst (v := (1 : Int32)) hx hb dL_law_652 (by decide) ?_
  refine lv_iadd hx hb dL_law_653 ?_
  refine va_sld hx hb hX hbl hbA hC.2.2.2.1 h1 dL_law_654 ?_
  refine lv_aload_n hx hb dL_law_655 rfl (lv_at hl 0 rfl) ?_
  refine lv_iload_n hx hb dL_law_656 rfl (lv_at hl 3 rfl) ?_
  refine lv_iconst (v := (2 : Int32)) hx hb dL_law_657 (by decide) ?_
  refine lv_iadd hx hb dL_law_658 ?_
  refine va_sld hx hb hX hbl hbA hC.2.2.2.1 h2 dL_law_659 ?_
  refine lv_aload_n hx hb dL_law_660 rfl (lv_at hl 0 rfl) ?_
  refine lv_iload_n hx hb dL_law_661 rfl (lv_at hl 3 rfl) ?_
  refine lv_iconst (v := (3 : Int32)) hx hb dL_law_662 (by decide) ?_
  refine lv_iadd hx hb dL_law_663 ?_
  refine va_sld hx hb hX hbl hbA hC.2.2.2.1 h3 dL_law_664 ?_
  refine zL_callxi hC (z_runV (rest := []) zx_Gok (zL_x hC) E (zc_X5_both l D cI cJ tp q ux (xs (x3 + (1 : Int32)).toNatClampNeg) (xs (x3 + (2 : Int32)).toNatClampNeg) (xs (x3 + (3 : Int32)).toNatClampNeg) hfx _) (cwV 3 hts gL_law_X5_both rfl rfl rfl ⟨rfl, zd_X5_both⟩ ⟨Nat.le_of_ble_eq_true rfl, Nat.le_of_ble_eq_true rfl⟩) (zx_rcX5 (zL_x hC)) rfl hl.1 rfl (Nat.le_of_ble_eq_true rfl) dL_law_665 ⟨Nat.le_refl 50, Nat.le_refl 32579⟩) (fun H locs hC => ?_)
  refine lv_aload_n hx hb dL_law_668 rfl (lv_at hl 2 rfl) ?_
  refine lv_aload_n hx hb dL_law_669 rfl (lv_at hl 0 rfl) ?_
  refine lv_iload_n hx hb dL_law_670 rfl (lv_at hl 3 rfl) ?_
  refine lv_iconst (v := (1 : Int32)) hx hb dL_law_671 (by decide) ?_
  refine lv_iadd hx hb dL_law_672 ?_
  refine va_sld hx hb hX hbl hbA hC.2.2.2.1 h1 dL_law_673 ?_
  refine lv_aload_n hx hb dL_law_674 rfl (lv_at hl 0 rfl) ?_
  refine lv_iload_n hx hb dL_law_675 rfl (lv_at hl 3 rfl) ?_
  refine lv_iconst (v := (2 : Int32)) hx hb dL_law_676 (by decide) ?_
  refine lv_iadd hx hb dL_law_677 ?_
  refine va_sld hx hb hX hbl hbA hC.2.2.2.1 h2 dL_law_678 ?_
  refine lv_aload_n hx hb dL_law_679 rfl (lv_at hl 0 rfl) ?_
  refine lv_iload_n hx hb dL_law_680 rfl (lv_at hl 3 rfl) ?_
  refine lv_iconst (v := (3 : Int32)) hx hb dL_law_681 (by decide) ?_
  refine lv_iadd hx hb dL_law_682 ?_
  refine va_sld hx hb hX hbl hbA hC.2.2.2.1 h3 dL_law_683 ?_
  refine zL_callmi hC (z_runV (rest := [_]) zm_Gok (zL_m hC) E (zc_X6_both l D cI cJ tp q2 um (xs (x3 + (1 : Int32)).toNatClampNeg) (xs (x3 + (2 : Int32)).toNatClampNeg) (xs (x3 + (3 : Int32)).toNatClampNeg) hfm _) (cwV 3 hts gL_law_X6_both rfl rfl rfl ⟨rfl, zd_X6_both⟩ ⟨Nat.le_of_ble_eq_true rfl, Nat.le_of_ble_eq_true rfl⟩) (zm_rcX6 (zL_m hC)) rfl hl.1 rfl (Nat.le_of_ble_eq_true rfl) dL_law_684 ⟨Nat.le_refl 50, Nat.le_refl 32579⟩) (fun H locs hC => ?_)
  refine lv_icmp_eq (tgt := 1073) hx hb dL_law_687 (by decide) (fun _ => ?_) (fun c9 => absurd rfl c9)
  exact kk _ _ _ _ _ hR hC hl
set_option maxHeartbeats 4000000 in
set_option maxRecDepth 100000 in
theorem zL_c16 (E : CallFix p m c cL_law 4 s #[Value.ref b] wsL_law RL) (hX : va_X b L xs s s.heap) (hbl : b < s.heap.size) (hbA : ¬ (fun z : Nat => s.heap.size ≤ z) b) (h1 : vp_in (x3 + (1 : Int32)) L) (h2 : vp_in (x3 + (2 : Int32)) L) (h3 : vp_in (x3 + (3 : Int32)) L) (h4 : vp_in (x3 + (4 : Int32)) L) (hk : k < 512) (hR : zR k ux um) (hC : zL_C D cI cJ tp q q2 (fun z : Nat => s.heap.size ≤ z) s ux um H locs) (hl : lv_has ls 4 [(0, .ref b), (1, .ref (q 5)), (2, .ref (q2 0)), (3, .int x3)]) (kk : ∀ (ux um : z_St) (H : Heap) (locs : List Loc) (ls : Array Slot), zR (k + 1) ux um → zL_C D cI cJ tp q q2 (fun z : Nat => s.heap.size ≤ z) s ux um H locs → lv_has ls 4 [(0, .ref b), (1, .ref (q 5)), (2, .ref (q2 0)), (3, .int x3)] → W p l e room_1 s m #[Value.ref b] below meth c H locs 50 32579 Q (F0 m 1073 ls [])) : W p l e room_1 s m #[Value.ref b] below meth c H locs 50 32579 Q (F0 m 692 ls []) := by
  have hx := E.1
  have hb := E.2.1
  have hts := E.2.2.2.2
  obtain ⟨r, vm, hfx, hfm, hR⟩ := zq_chance hk hR (xs (x3 + (1 : Int32)).toNatClampNeg) (xs (x3 + (2 : Int32)).toNatClampNeg) (xs (x3 + (3 : Int32)).toNatClampNeg)
  refine lv_aload_n hx hb dL_law_692 rfl (lv_at hl 1 rfl) ?_
  refine lv_aload_n hx hb dL_law_693 rfl (lv_at hl 0 rfl) ?_
  refine lv_iload_n hx hb dL_law_694 rfl (lv_at hl 3 rfl) ?_
  refine lv_iconst (v := (1 : Int32)) hx hb dL_law_695 (by decide) ?_
  refine lv_iadd hx hb dL_law_696 ?_
  refine va_sld hx hb hX hbl hbA hC.2.2.2.1 h1 dL_law_697 ?_
  refine lv_aload_n hx hb dL_law_698 rfl (lv_at hl 0 rfl) ?_
  refine lv_iload_n hx hb dL_law_699 rfl (lv_at hl 3 rfl) ?_
  refine lv_iconst (v := (2 : Int32)) hx hb dL_law_700 (by decide) ?_
  refine lv_iadd hx hb dL_law_701 ?_
  refine va_sld hx hb hX hbl hbA hC.2.2.2.1 h2 dL_law_702 ?_
  refine lv_aload_n hx hb dL_law_703 rfl (lv_at hl 0 rfl) ?_
  refine lv_iload_n hx hb dL_law_704 rfl (lv_at hl 3 rfl) ?_
  refine lv_iconst (v := (3 : Int32)) hx hb dL_law_705 (by decide) ?_
  refine lv_iadd hx hb dL_law_706 ?_
  refine va_sld hx hb hX hbl hbA hC.2.2.2.1 h3 dL_law_707 ?_
  refine zL_callxl hC (z_runV (rest := []) zx_Gok (zL_x hC) E (zc_X5_chance l D cI cJ tp q ux (xs (x3 + (1 : Int32)).toNatClampNeg) (xs (x3 + (2 : Int32)).toNatClampNeg) (xs (x3 + (3 : Int32)).toNatClampNeg) hfx _) (cwV 3 hts gL_law_X5_chance rfl rfl rfl ⟨rfl, zd_X5_chance⟩ ⟨Nat.le_of_ble_eq_true rfl, Nat.le_of_ble_eq_true rfl⟩) (zx_rcX5 (zL_x hC)) rfl hl.1 rfl (Nat.le_of_ble_eq_true rfl) dL_law_708 ⟨Nat.le_refl 50, Nat.le_refl 32579⟩) (fun H locs hC => ?_)
  refine lv_aload_n hx hb dL_law_711 rfl (lv_at hl 2 rfl) ?_
  refine lv_aload_n hx hb dL_law_712 rfl (lv_at hl 0 rfl) ?_
  refine lv_iload_n hx hb dL_law_713 rfl (lv_at hl 3 rfl) ?_
  refine lv_iconst (v := (1 : Int32)) hx hb dL_law_714 (by decide) ?_
  refine lv_iadd hx hb dL_law_715 ?_
  refine va_sld hx hb hX hbl hbA hC.2.2.2.1 h1 dL_law_716 ?_
  refine lv_aload_n hx hb dL_law_717 rfl (lv_at hl 0 rfl) ?_
  refine lv_iload_n hx hb dL_law_718 rfl (lv_at hl 3 rfl) ?_
  refine lv_iconst (v := (2 : Int32)) hx hb dL_law_719 (by decide) ?_
  refine lv_iadd hx hb dL_law_720 ?_
  refine va_sld hx hb hX hbl hbA hC.2.2.2.1 h2 dL_law_721 ?_
  refine lv_aload_n hx hb dL_law_722 rfl (lv_at hl 0 rfl) ?_
  refine lv_iload_n hx hb dL_law_723 rfl (lv_at hl 3 rfl) ?_
  refine lv_iconst (v := (3 : Int32)) hx hb dL_law_724 (by decide) ?_
  refine lv_iadd hx hb dL_law_725 ?_
  refine va_sld hx hb hX hbl hbA hC.2.2.2.1 h3 dL_law_726 ?_
  refine zL_callml hC (z_runV (rest := [_]) zm_Gok (zL_m hC) E (zc_X6_chance l D cI cJ tp q2 um (xs (x3 + (1 : Int32)).toNatClampNeg) (xs (x3 + (2 : Int32)).toNatClampNeg) (xs (x3 + (3 : Int32)).toNatClampNeg) hfm _) (cwV 3 hts gL_law_X6_chance rfl rfl rfl ⟨rfl, zd_X6_chance⟩ ⟨Nat.le_of_ble_eq_true rfl, Nat.le_of_ble_eq_true rfl⟩) (zm_rcX6 (zL_m hC)) rfl hl.1 rfl (Nat.le_of_ble_eq_true rfl) dL_law_727 ⟨Nat.le_refl 50, Nat.le_refl 32579⟩) (fun H locs hC => ?_)
  refine W.lcmp hx hb dL_law_730 ?_
  refine lv_if_eq (tgt := 1073) hx hb dL_law_731 (by decide) (fun _ => ?_) (fun c9 => absurd (zL_cmp r) c9)
  exact kk _ _ _ _ _ hR hC hl
set_option maxHeartbeats 4000000 in
set_option maxRecDepth 100000 in
theorem zL_c17 (E : CallFix p m c cL_law 4 s #[Value.ref b] wsL_law RL) (hX : va_X b L xs s s.heap) (hbl : b < s.heap.size) (hbA : ¬ (fun z : Nat => s.heap.size ≤ z) b) (h1 : vp_in (x3 + (1 : Int32)) L) (h2 : vp_in (x3 + (2 : Int32)) L) (h3 : vp_in (x3 + (3 : Int32)) L) (h4 : vp_in (x3 + (4 : Int32)) L) (hk : k < 512) (hR : zR k ux um) (hC : zL_C D cI cJ tp q q2 (fun z : Nat => s.heap.size ≤ z) s ux um H locs) (hl : lv_has ls 4 [(0, .ref b), (1, .ref (q 5)), (2, .ref (q2 0)), (3, .int x3)]) (kk : ∀ (ux um : z_St) (H : Heap) (locs : List Loc) (ls : Array Slot), zR (k + 1) ux um → zL_C D cI cJ tp q q2 (fun z : Nat => s.heap.size ≤ z) s ux um H locs → lv_has ls 4 [(0, .ref b), (1, .ref (q 5)), (2, .ref (q2 0)), (3, .int x3)] → W p l e room_1 s m #[Value.ref b] below meth c H locs 50 32579 Q (F0 m 1073 ls [])) : W p l e room_1 s m #[Value.ref b] below meth c H locs 50 32579 Q (F0 m 736 ls []) := by
  have hx := E.1
  have hb := E.2.1
  have hts := E.2.2.2.2
  obtain ⟨r, vm, hfx, hfm, hR⟩ := zq_shyest hk hR 
  refine lv_aload_n hx hb dL_law_736 rfl (lv_at hl 1 rfl) ?_
  refine zL_callxi hC (z_runV (rest := []) zx_Gok (zL_x hC) E (zc_X5_shyest l D cI cJ tp q ux  hfx _) (cwV 0 hts gL_law_X5_shyest rfl rfl rfl ⟨rfl, zd_X5_shyest⟩ ⟨Nat.le_of_ble_eq_true rfl, Nat.le_of_ble_eq_true rfl⟩) (zx_rcX5 (zL_x hC)) rfl hl.1 rfl (Nat.le_of_ble_eq_true rfl) dL_law_737 ⟨Nat.le_refl 50, Nat.le_refl 32579⟩) (fun H locs hC => ?_)
  refine lv_aload_n hx hb dL_law_740 rfl (lv_at hl 2 rfl) ?_
  refine zL_callmi hC (z_runV (rest := [_]) zm_Gok (zL_m hC) E (zc_X6_shyest l D cI cJ tp q2 um  hfm _) (cwV 0 hts gL_law_X6_shyest rfl rfl rfl ⟨rfl, zd_X6_shyest⟩ ⟨Nat.le_of_ble_eq_true rfl, Nat.le_of_ble_eq_true rfl⟩) (zm_rcX6 (zL_m hC)) rfl hl.1 rfl (Nat.le_of_ble_eq_true rfl) dL_law_741 ⟨Nat.le_refl 50, Nat.le_refl 32579⟩) (fun H locs hC => ?_)
  refine lv_icmp_eq (tgt := 1073) hx hb dL_law_744 (by decide) (fun _ => ?_) (fun c9 => absurd rfl c9)
  exact kk _ _ _ _ _ hR hC hl
set_option maxHeartbeats 4000000 in
set_option maxRecDepth 100000 in
theorem zL_c18 (E : CallFix p m c cL_law 4 s #[Value.ref b] wsL_law RL) (hX : va_X b L xs s s.heap) (hbl : b < s.heap.size) (hbA : ¬ (fun z : Nat => s.heap.size ≤ z) b) (h1 : vp_in (x3 + (1 : Int32)) L) (h2 : vp_in (x3 + (2 : Int32)) L) (h3 : vp_in (x3 + (3 : Int32)) L) (h4 : vp_in (x3 + (4 : Int32)) L) (hk : k < 512) (hR : zR k ux um) (hC : zL_C D cI cJ tp q q2 (fun z : Nat => s.heap.size ≤ z) s ux um H locs) (hl : lv_has ls 4 [(0, .ref b), (1, .ref (q 5)), (2, .ref (q2 0)), (3, .int x3)]) (kk : ∀ (ux um : z_St) (H : Heap) (locs : List Loc) (ls : Array Slot), zR (k + 1) ux um → zL_C D cI cJ tp q q2 (fun z : Nat => s.heap.size ≤ z) s ux um H locs → lv_has ls 4 [(0, .ref b), (1, .ref (q 5)), (2, .ref (q2 0)), (3, .int x3)] → W p l e room_1 s m #[Value.ref b] below meth c H locs 50 32579 Q (F0 m 1073 ls [])) : W p l e room_1 s m #[Value.ref b] below meth c H locs 50 32579 Q (F0 m 749 ls []) := by
  have hx := E.1
  have hb := E.2.1
  have hts := E.2.2.2.2
  obtain ⟨r, hfx, hfm, hR⟩ := zq_inside hk hR (xs (x3 + (1 : Int32)).toNatClampNeg) (xs (x3 + (2 : Int32)).toNatClampNeg) (xs (x3 + (3 : Int32)).toNatClampNeg) (xs (x3 + (4 : Int32)).toNatClampNeg)
  refine lv_aload_n hx hb dL_law_749 rfl (lv_at hl 1 rfl) ?_
  refine lv_aload_n hx hb dL_law_750 rfl (lv_at hl 0 rfl) ?_
  refine lv_iload_n hx hb dL_law_751 rfl (lv_at hl 3 rfl) ?_
  refine lv_iconst (v := (1 : Int32)) hx hb dL_law_752 (by decide) ?_
  refine lv_iadd hx hb dL_law_753 ?_
  refine va_sld hx hb hX hbl hbA hC.2.2.2.1 h1 dL_law_754 ?_
  refine lv_aload_n hx hb dL_law_755 rfl (lv_at hl 0 rfl) ?_
  refine lv_iload_n hx hb dL_law_756 rfl (lv_at hl 3 rfl) ?_
  refine lv_iconst (v := (2 : Int32)) hx hb dL_law_757 (by decide) ?_
  refine lv_iadd hx hb dL_law_758 ?_
  refine va_sld hx hb hX hbl hbA hC.2.2.2.1 h2 dL_law_759 ?_
  refine lv_aload_n hx hb dL_law_760 rfl (lv_at hl 0 rfl) ?_
  refine lv_iload_n hx hb dL_law_761 rfl (lv_at hl 3 rfl) ?_
  refine lv_iconst (v := (3 : Int32)) hx hb dL_law_762 (by decide) ?_
  refine lv_iadd hx hb dL_law_763 ?_
  refine va_sld hx hb hX hbl hbA hC.2.2.2.1 h3 dL_law_764 ?_
  refine lv_aload_n hx hb dL_law_765 rfl (lv_at hl 0 rfl) ?_
  refine lv_iload_n hx hb dL_law_766 rfl (lv_at hl 3 rfl) ?_
  refine lv_iconst (v := (4 : Int32)) hx hb dL_law_767 (by decide) ?_
  refine lv_iadd hx hb dL_law_768 ?_
  refine va_sld hx hb hX hbl hbA hC.2.2.2.1 h4 dL_law_769 ?_
  refine zL_callxi hC (z_runV (rest := []) zx_Gok (zL_x hC) E (zc_X5_inside l D cI cJ tp q ux (xs (x3 + (1 : Int32)).toNatClampNeg) (xs (x3 + (2 : Int32)).toNatClampNeg) (xs (x3 + (3 : Int32)).toNatClampNeg) (xs (x3 + (4 : Int32)).toNatClampNeg) hfx _) (cwV 4 hts gL_law_X5_inside rfl rfl rfl ⟨rfl, zd_X5_inside⟩ ⟨Nat.le_of_ble_eq_true rfl, Nat.le_of_ble_eq_true rfl⟩) (zx_rcX5 (zL_x hC)) rfl hl.1 rfl (Nat.le_of_ble_eq_true rfl) dL_law_770 ⟨Nat.le_refl 50, Nat.le_refl 32579⟩) (fun H locs hC => ?_)
  refine lv_aload_n hx hb dL_law_773 rfl (lv_at hl 2 rfl) ?_
  refine lv_aload_n hx hb dL_law_774 rfl (lv_at hl 0 rfl) ?_
  refine lv_iload_n hx hb dL_law_775 rfl (lv_at hl 3 rfl) ?_
  refine lv_iconst (v := (1 : Int32)) hx hb dL_law_776 (by decide) ?_
  refine lv_iadd hx hb dL_law_777 ?_
  refine va_sld hx hb hX hbl hbA hC.2.2.2.1 h1 dL_law_778 ?_
  refine lv_aload_n hx hb dL_law_779 rfl (lv_at hl 0 rfl) ?_
  refine lv_iload_n hx hb dL_law_780 rfl (lv_at hl 3 rfl) ?_
  refine lv_iconst (v := (2 : Int32)) hx hb dL_law_781 (by decide) ?_
  refine lv_iadd hx hb dL_law_782 ?_
  refine va_sld hx hb hX hbl hbA hC.2.2.2.1 h2 dL_law_783 ?_
  refine lv_aload_n hx hb dL_law_784 rfl (lv_at hl 0 rfl) ?_
  refine lv_iload_n hx hb dL_law_785 rfl (lv_at hl 3 rfl) ?_
  refine lv_iconst (v := (3 : Int32)) hx hb dL_law_786 (by decide) ?_
  refine lv_iadd hx hb dL_law_787 ?_
  refine va_sld hx hb hX hbl hbA hC.2.2.2.1 h3 dL_law_788 ?_
  refine lv_aload_n hx hb dL_law_789 rfl (lv_at hl 0 rfl) ?_
  refine lv_iload_n hx hb dL_law_790 rfl (lv_at hl 3 rfl) ?_
  refine lv_iconst (v := (4 : Int32)) hx hb dL_law_791 (by decide) ?_
  refine lv_iadd hx hb dL_law_792 ?_
  refine va_sld hx hb hX hbl hbA hC.2.2.2.1 h4 dL_law_793 ?_
  refine zL_callmi hC (z_runV (rest := [_]) zm_Gok (zL_m hC) E (zc_X6_inside l D cI cJ tp q2 um (xs (x3 + (1 : Int32)).toNatClampNeg) (xs (x3 + (2 : Int32)).toNatClampNeg) (xs (x3 + (3 : Int32)).toNatClampNeg) (xs (x3 + (4 : Int32)).toNatClampNeg) hfm _) (cwV 4 hts gL_law_X6_inside rfl rfl rfl ⟨rfl, zd_X6_inside⟩ ⟨Nat.le_of_ble_eq_true rfl, Nat.le_of_ble_eq_true rfl⟩) (zm_rcX6 (zL_m hC)) rfl hl.1 rfl (Nat.le_of_ble_eq_true rfl) dL_law_794 ⟨Nat.le_refl 50, Nat.le_refl 32579⟩) (fun H locs hC => ?_)
  refine lv_icmp_eq (tgt := 1073) hx hb dL_law_797 (by decide) (fun _ => ?_) (fun c9 => absurd rfl c9)
  exact kk _ _ _ _ _ hR hC hl
set_option maxHeartbeats 4000000 in
set_option maxRecDepth 100000 in
theorem zL_c19 (E : CallFix p m c cL_law 4 s #[Value.ref b] wsL_law RL) (hX : va_X b L xs s s.heap) (hbl : b < s.heap.size) (hbA : ¬ (fun z : Nat => s.heap.size ≤ z) b) (h1 : vp_in (x3 + (1 : Int32)) L) (h2 : vp_in (x3 + (2 : Int32)) L) (h3 : vp_in (x3 + (3 : Int32)) L) (h4 : vp_in (x3 + (4 : Int32)) L) (hk : k < 512) (hR : zR k ux um) (hC : zL_C D cI cJ tp q q2 (fun z : Nat => s.heap.size ≤ z) s ux um H locs) (hl : lv_has ls 4 [(0, .ref b), (1, .ref (q 5)), (2, .ref (q2 0)), (3, .int x3)]) (kk : ∀ (ux um : z_St) (H : Heap) (locs : List Loc) (ls : Array Slot), zR (k + 1) ux um → zL_C D cI cJ tp q q2 (fun z : Nat => s.heap.size ≤ z) s ux um H locs → lv_has ls 4 [(0, .ref b), (1, .ref (q 5)), (2, .ref (q2 0)), (3, .int x3)] → W p l e room_1 s m #[Value.ref b] below meth c H locs 50 32579 Q (F0 m 1073 ls [])) : W p l e room_1 s m #[Value.ref b] below meth c H locs 50 32579 Q (F0 m 802 ls []) := by
  have hx := E.1
  have hb := E.2.1
  have hts := E.2.2.2.2
  obtain ⟨r, vx, vm, hfx, hfm, hR⟩ := zq_entry hk hR (xs (x3 + (1 : Int32)).toNatClampNeg)
  refine lv_aload_n hx hb dL_law_802 rfl (lv_at hl 1 rfl) ?_
  refine lv_aload_n hx hb dL_law_803 rfl (lv_at hl 0 rfl) ?_
  refine lv_iload_n hx hb dL_law_804 rfl (lv_at hl 3 rfl) ?_
  refine lv_iconst (v := (1 : Int32)) hx hb dL_law_805 (by decide) ?_
  refine lv_iadd hx hb dL_law_806 ?_
  refine va_sld hx hb hX hbl hbA hC.2.2.2.1 h1 dL_law_807 ?_
  refine zL_callxi hC (z_runV (rest := []) zx_Gok (zL_x hC) E (zc_X5_entry l D cI cJ tp q ux (xs (x3 + (1 : Int32)).toNatClampNeg) hfx _) (cwV 1 hts gL_law_X5_entry rfl rfl rfl ⟨rfl, zd_X5_entry⟩ ⟨Nat.le_of_ble_eq_true rfl, Nat.le_of_ble_eq_true rfl⟩) (zx_rcX5 (zL_x hC)) rfl hl.1 rfl (Nat.le_of_ble_eq_true rfl) dL_law_808 ⟨Nat.le_refl 50, Nat.le_refl 32579⟩) (fun H locs hC => ?_)
  refine lv_aload_n hx hb dL_law_811 rfl (lv_at hl 2 rfl) ?_
  refine lv_aload_n hx hb dL_law_812 rfl (lv_at hl 0 rfl) ?_
  refine lv_iload_n hx hb dL_law_813 rfl (lv_at hl 3 rfl) ?_
  refine lv_iconst (v := (1 : Int32)) hx hb dL_law_814 (by decide) ?_
  refine lv_iadd hx hb dL_law_815 ?_
  refine va_sld hx hb hX hbl hbA hC.2.2.2.1 h1 dL_law_816 ?_
  refine zL_callmi hC (z_runV (rest := [_]) zm_Gok (zL_m hC) E (zc_X6_entry l D cI cJ tp q2 um (xs (x3 + (1 : Int32)).toNatClampNeg) hfm _) (cwV 1 hts gL_law_X6_entry rfl rfl rfl ⟨rfl, zd_X6_entry⟩ ⟨Nat.le_of_ble_eq_true rfl, Nat.le_of_ble_eq_true rfl⟩) (zm_rcX6 (zL_m hC)) rfl hl.1 rfl (Nat.le_of_ble_eq_true rfl) dL_law_817 ⟨Nat.le_refl 50, Nat.le_refl 32579⟩) (fun H locs hC => ?_)
  refine lv_icmp_eq (tgt := 1073) hx hb dL_law_820 (by decide) (fun _ => ?_) (fun c9 => absurd rfl c9)
  exact kk _ _ _ _ _ hR hC hl
set_option maxHeartbeats 4000000 in
set_option maxRecDepth 100000 in
theorem zL_c20 (E : CallFix p m c cL_law 4 s #[Value.ref b] wsL_law RL) (hX : va_X b L xs s s.heap) (hbl : b < s.heap.size) (hbA : ¬ (fun z : Nat => s.heap.size ≤ z) b) (h1 : vp_in (x3 + (1 : Int32)) L) (h2 : vp_in (x3 + (2 : Int32)) L) (h3 : vp_in (x3 + (3 : Int32)) L) (h4 : vp_in (x3 + (4 : Int32)) L) (hk : k < 512) (hR : zR k ux um) (hC : zL_C D cI cJ tp q q2 (fun z : Nat => s.heap.size ≤ z) s ux um H locs) (hl : lv_has ls 4 [(0, .ref b), (1, .ref (q 5)), (2, .ref (q2 0)), (3, .int x3)]) (kk : ∀ (ux um : z_St) (H : Heap) (locs : List Loc) (ls : Array Slot), zR (k + 1) ux um → zL_C D cI cJ tp q q2 (fun z : Nat => s.heap.size ≤ z) s ux um H locs → lv_has ls 4 [(0, .ref b), (1, .ref (q 5)), (2, .ref (q2 0)), (3, .int x3)] → W p l e room_1 s m #[Value.ref b] below meth c H locs 50 32579 Q (F0 m 1073 ls [])) : W p l e room_1 s m #[Value.ref b] below meth c H locs 50 32579 Q (F0 m 825 ls []) := by
  have hx := E.1
  have hb := E.2.1
  have hts := E.2.2.2.2
  obtain ⟨r, vx, vm, hfx, hfm, hR⟩ := zq_mark hk hR (xs (x3 + (1 : Int32)).toNatClampNeg) (xs (x3 + (2 : Int32)).toNatClampNeg) (xs (x3 + (3 : Int32)).toNatClampNeg)
  refine lv_aload_n hx hb dL_law_825 rfl (lv_at hl 1 rfl) ?_
  refine lv_aload_n hx hb dL_law_826 rfl (lv_at hl 0 rfl) ?_
  refine lv_iload_n hx hb dL_law_827 rfl (lv_at hl 3 rfl) ?_
  refine lv_iconst (v := (1 : Int32)) hx hb dL_law_828 (by decide) ?_
  refine lv_iadd hx hb dL_law_829 ?_
  refine va_sld hx hb hX hbl hbA hC.2.2.2.1 h1 dL_law_830 ?_
  refine lv_aload_n hx hb dL_law_831 rfl (lv_at hl 0 rfl) ?_
  refine lv_iload_n hx hb dL_law_832 rfl (lv_at hl 3 rfl) ?_
  refine lv_iconst (v := (2 : Int32)) hx hb dL_law_833 (by decide) ?_
  refine lv_iadd hx hb dL_law_834 ?_
  refine va_sld hx hb hX hbl hbA hC.2.2.2.1 h2 dL_law_835 ?_
  refine lv_aload_n hx hb dL_law_836 rfl (lv_at hl 0 rfl) ?_
  refine lv_iload_n hx hb dL_law_837 rfl (lv_at hl 3 rfl) ?_
  refine lv_iconst (v := (3 : Int32)) hx hb dL_law_838 (by decide) ?_
  refine lv_iadd hx hb dL_law_839 ?_
  refine va_sld hx hb hX hbl hbA hC.2.2.2.1 h3 dL_law_840 ?_
  refine zL_callxi hC (z_runV (rest := []) zx_Gok (zL_x hC) E (zc_X5_mark l D cI cJ tp q ux (xs (x3 + (1 : Int32)).toNatClampNeg) (xs (x3 + (2 : Int32)).toNatClampNeg) (xs (x3 + (3 : Int32)).toNatClampNeg) hfx _) (cwV 3 hts gL_law_X5_mark rfl rfl rfl ⟨rfl, zd_X5_mark⟩ ⟨Nat.le_of_ble_eq_true rfl, Nat.le_of_ble_eq_true rfl⟩) (zx_rcX5 (zL_x hC)) rfl hl.1 rfl (Nat.le_of_ble_eq_true rfl) dL_law_841 ⟨Nat.le_refl 50, Nat.le_refl 32579⟩) (fun H locs hC => ?_)
  refine lv_aload_n hx hb dL_law_844 rfl (lv_at hl 2 rfl) ?_
  refine lv_aload_n hx hb dL_law_845 rfl (lv_at hl 0 rfl) ?_
  refine lv_iload_n hx hb dL_law_846 rfl (lv_at hl 3 rfl) ?_
  refine lv_iconst (v := (1 : Int32)) hx hb dL_law_847 (by decide) ?_
  refine lv_iadd hx hb dL_law_848 ?_
  refine va_sld hx hb hX hbl hbA hC.2.2.2.1 h1 dL_law_849 ?_
  refine lv_aload_n hx hb dL_law_850 rfl (lv_at hl 0 rfl) ?_
  refine lv_iload_n hx hb dL_law_851 rfl (lv_at hl 3 rfl) ?_
  refine lv_iconst (v := (2 : Int32)) hx hb dL_law_852 (by decide) ?_
  refine lv_iadd hx hb dL_law_853 ?_
  refine va_sld hx hb hX hbl hbA hC.2.2.2.1 h2 dL_law_854 ?_
  refine lv_aload_n hx hb dL_law_855 rfl (lv_at hl 0 rfl) ?_
  refine lv_iload_n hx hb dL_law_856 rfl (lv_at hl 3 rfl) ?_
  refine lv_iconst (v := (3 : Int32)) hx hb dL_law_857 (by decide) ?_
  refine lv_iadd hx hb dL_law_858 ?_
  refine va_sld hx hb hX hbl hbA hC.2.2.2.1 h3 dL_law_859 ?_
  refine zL_callmi hC (z_runV (rest := [_]) zm_Gok (zL_m hC) E (zc_X6_mark l D cI cJ tp q2 um (xs (x3 + (1 : Int32)).toNatClampNeg) (xs (x3 + (2 : Int32)).toNatClampNeg) (xs (x3 + (3 : Int32)).toNatClampNeg) hfm _) (cwV 3 hts gL_law_X6_mark rfl rfl rfl ⟨rfl, zd_X6_mark⟩ ⟨Nat.le_of_ble_eq_true rfl, Nat.le_of_ble_eq_true rfl⟩) (zm_rcX6 (zL_m hC)) rfl hl.1 rfl (Nat.le_of_ble_eq_true rfl) dL_law_860 ⟨Nat.le_refl 50, Nat.le_refl 32579⟩) (fun H locs hC => ?_)
  refine lv_icmp_eq (tgt := 1073) hx hb dL_law_863 (by decide) (fun _ => ?_) (fun c9 => absurd rfl c9)
  exact kk _ _ _ _ _ hR hC hl
set_option maxHeartbeats 4000000 in
set_option maxRecDepth 100000 in
theorem zL_c21 (E : CallFix p m c cL_law 4 s #[Value.ref b] wsL_law RL) (hX : va_X b L xs s s.heap) (hbl : b < s.heap.size) (hbA : ¬ (fun z : Nat => s.heap.size ≤ z) b) (h1 : vp_in (x3 + (1 : Int32)) L) (h2 : vp_in (x3 + (2 : Int32)) L) (h3 : vp_in (x3 + (3 : Int32)) L) (h4 : vp_in (x3 + (4 : Int32)) L) (hk : k < 512) (hR : zR k ux um) (hC : zL_C D cI cJ tp q q2 (fun z : Nat => s.heap.size ≤ z) s ux um H locs) (hl : lv_has ls 4 [(0, .ref b), (1, .ref (q 5)), (2, .ref (q2 0)), (3, .int x3)]) (kk : ∀ (ux um : z_St) (H : Heap) (locs : List Loc) (ls : Array Slot), zR (k + 1) ux um → zL_C D cI cJ tp q q2 (fun z : Nat => s.heap.size ≤ z) s ux um H locs → lv_has ls 4 [(0, .ref b), (1, .ref (q 5)), (2, .ref (q2 0)), (3, .int x3)] → W p l e room_1 s m #[Value.ref b] below meth c H locs 50 32579 Q (F0 m 1073 ls [])) : W p l e room_1 s m #[Value.ref b] below meth c H locs 50 32579 Q (F0 m 868 ls []) := by
  have hx := E.1
  have hb := E.2.1
  have hts := E.2.2.2.2
  obtain ⟨r, hfx, hfm, hR⟩ := zq_score hk hR (xs (x3 + (1 : Int32)).toNatClampNeg) (xs (x3 + (2 : Int32)).toNatClampNeg)
  refine lv_aload_n hx hb dL_law_868 rfl (lv_at hl 1 rfl) ?_
  refine lv_aload_n hx hb dL_law_869 rfl (lv_at hl 0 rfl) ?_
  refine lv_iload_n hx hb dL_law_870 rfl (lv_at hl 3 rfl) ?_
  refine lv_iconst (v := (1 : Int32)) hx hb dL_law_871 (by decide) ?_
  refine lv_iadd hx hb dL_law_872 ?_
  refine va_sld hx hb hX hbl hbA hC.2.2.2.1 h1 dL_law_873 ?_
  refine lv_aload_n hx hb dL_law_874 rfl (lv_at hl 0 rfl) ?_
  refine lv_iload_n hx hb dL_law_875 rfl (lv_at hl 3 rfl) ?_
  refine lv_iconst (v := (2 : Int32)) hx hb dL_law_876 (by decide) ?_
  refine lv_iadd hx hb dL_law_877 ?_
  refine va_sld hx hb hX hbl hbA hC.2.2.2.1 h2 dL_law_878 ?_
  refine zL_callxi hC (z_runV (rest := []) zx_Gok (zL_x hC) E (zc_X5_score l D cI cJ tp q ux (xs (x3 + (1 : Int32)).toNatClampNeg) (xs (x3 + (2 : Int32)).toNatClampNeg) hfx _) (cwV 2 hts gL_law_X5_score rfl rfl rfl ⟨rfl, zd_X5_score⟩ ⟨Nat.le_of_ble_eq_true rfl, Nat.le_of_ble_eq_true rfl⟩) (zx_rcX5 (zL_x hC)) rfl hl.1 rfl (Nat.le_of_ble_eq_true rfl) dL_law_879 ⟨Nat.le_refl 50, Nat.le_refl 32579⟩) (fun H locs hC => ?_)
  refine lv_aload_n hx hb dL_law_882 rfl (lv_at hl 2 rfl) ?_
  refine lv_aload_n hx hb dL_law_883 rfl (lv_at hl 0 rfl) ?_
  refine lv_iload_n hx hb dL_law_884 rfl (lv_at hl 3 rfl) ?_
  refine lv_iconst (v := (1 : Int32)) hx hb dL_law_885 (by decide) ?_
  refine lv_iadd hx hb dL_law_886 ?_
  refine va_sld hx hb hX hbl hbA hC.2.2.2.1 h1 dL_law_887 ?_
  refine lv_aload_n hx hb dL_law_888 rfl (lv_at hl 0 rfl) ?_
  refine lv_iload_n hx hb dL_law_889 rfl (lv_at hl 3 rfl) ?_
  refine lv_iconst (v := (2 : Int32)) hx hb dL_law_890 (by decide) ?_
  refine lv_iadd hx hb dL_law_891 ?_
  refine va_sld hx hb hX hbl hbA hC.2.2.2.1 h2 dL_law_892 ?_
  refine zL_callmi hC (z_runV (rest := [_]) zm_Gok (zL_m hC) E (zc_X6_score l D cI cJ tp q2 um (xs (x3 + (1 : Int32)).toNatClampNeg) (xs (x3 + (2 : Int32)).toNatClampNeg) hfm _) (cwV 2 hts gL_law_X6_score rfl rfl rfl ⟨rfl, zd_X6_score⟩ ⟨Nat.le_of_ble_eq_true rfl, Nat.le_of_ble_eq_true rfl⟩) (zm_rcX6 (zL_m hC)) rfl hl.1 rfl (Nat.le_of_ble_eq_true rfl) dL_law_893 ⟨Nat.le_refl 50, Nat.le_refl 32579⟩) (fun H locs hC => ?_)
  refine lv_icmp_eq (tgt := 1073) hx hb dL_law_896 (by decide) (fun _ => ?_) (fun c9 => absurd rfl c9)
  exact kk _ _ _ _ _ hR hC hl
set_option maxHeartbeats 4000000 in
set_option maxRecDepth 100000 in
theorem zL_c22 (E : CallFix p m c cL_law 4 s #[Value.ref b] wsL_law RL) (hX : va_X b L xs s s.heap) (hbl : b < s.heap.size) (hbA : ¬ (fun z : Nat => s.heap.size ≤ z) b) (h1 : vp_in (x3 + (1 : Int32)) L) (h2 : vp_in (x3 + (2 : Int32)) L) (h3 : vp_in (x3 + (3 : Int32)) L) (h4 : vp_in (x3 + (4 : Int32)) L) (hk : k < 512) (hR : zR k ux um) (hC : zL_C D cI cJ tp q q2 (fun z : Nat => s.heap.size ≤ z) s ux um H locs) (hl : lv_has ls 4 [(0, .ref b), (1, .ref (q 5)), (2, .ref (q2 0)), (3, .int x3)]) (kk : ∀ (ux um : z_St) (H : Heap) (locs : List Loc) (ls : Array Slot), zR (k + 1) ux um → zL_C D cI cJ tp q q2 (fun z : Nat => s.heap.size ≤ z) s ux um H locs → lv_has ls 4 [(0, .ref b), (1, .ref (q 5)), (2, .ref (q2 0)), (3, .int x3)] → W p l e room_1 s m #[Value.ref b] below meth c H locs 50 32579 Q (F0 m 1073 ls [])) : W p l e room_1 s m #[Value.ref b] below meth c H locs 50 32579 Q (F0 m 901 ls []) := by
  have hx := E.1
  have hb := E.2.1
  have hts := E.2.2.2.2
  obtain ⟨r, vx, vm, hfx, hfm, hR⟩ := zq_joined hk hR 
  refine lv_aload_n hx hb dL_law_901 rfl (lv_at hl 1 rfl) ?_
  refine zL_callxi hC (z_runV (rest := []) zx_Gok (zL_x hC) E (zc_X5_joined l D cI cJ tp q ux  hfx _) (cwV 0 hts gL_law_X5_joined rfl rfl rfl ⟨rfl, zd_X5_joined⟩ ⟨Nat.le_of_ble_eq_true rfl, Nat.le_of_ble_eq_true rfl⟩) (zx_rcX5 (zL_x hC)) rfl hl.1 rfl (Nat.le_of_ble_eq_true rfl) dL_law_902 ⟨Nat.le_refl 50, Nat.le_refl 32579⟩) (fun H locs hC => ?_)
  refine lv_aload_n hx hb dL_law_905 rfl (lv_at hl 2 rfl) ?_
  refine zL_callmi hC (z_runV (rest := [_]) zm_Gok (zL_m hC) E (zc_X6_joined l D cI cJ tp q2 um  hfm _) (cwV 0 hts gL_law_X6_joined rfl rfl rfl ⟨rfl, zd_X6_joined⟩ ⟨Nat.le_of_ble_eq_true rfl, Nat.le_of_ble_eq_true rfl⟩) (zm_rcX6 (zL_m hC)) rfl hl.1 rfl (Nat.le_of_ble_eq_true rfl) dL_law_906 ⟨Nat.le_refl 50, Nat.le_refl 32579⟩) (fun H locs hC => ?_)
  refine lv_icmp_eq (tgt := 1073) hx hb dL_law_909 (by decide) (fun _ => ?_) (fun c9 => absurd rfl c9)
  exact kk _ _ _ _ _ hR hC hl
set_option maxHeartbeats 4000000 in
set_option maxRecDepth 100000 in
theorem zL_c23 (E : CallFix p m c cL_law 4 s #[Value.ref b] wsL_law RL) (hX : va_X b L xs s s.heap) (hbl : b < s.heap.size) (hbA : ¬ (fun z : Nat => s.heap.size ≤ z) b) (h1 : vp_in (x3 + (1 : Int32)) L) (h2 : vp_in (x3 + (2 : Int32)) L) (h3 : vp_in (x3 + (3 : Int32)) L) (h4 : vp_in (x3 + (4 : Int32)) L) (hk : k < 512) (hR : zR k ux um) (hC : zL_C D cI cJ tp q q2 (fun z : Nat => s.heap.size ≤ z) s ux um H locs) (hl : lv_has ls 4 [(0, .ref b), (1, .ref (q 5)), (2, .ref (q2 0)), (3, .int x3)]) (kk : ∀ (ux um : z_St) (H : Heap) (locs : List Loc) (ls : Array Slot), zR (k + 1) ux um → zL_C D cI cJ tp q q2 (fun z : Nat => s.heap.size ≤ z) s ux um H locs → lv_has ls 4 [(0, .ref b), (1, .ref (q 5)), (2, .ref (q2 0)), (3, .int x3)] → W p l e room_1 s m #[Value.ref b] below meth c H locs 50 32579 Q (F0 m 1073 ls [])) : W p l e room_1 s m #[Value.ref b] below meth c H locs 50 32579 Q (F0 m 914 ls []) := by
  have hx := E.1
  have hb := E.2.1
  have hts := E.2.2.2.2
  obtain ⟨r, vx, vm, hfx, hfm, hR⟩ := zq_joinedTo hk hR (xs (x3 + (1 : Int32)).toNatClampNeg)
  refine lv_aload_n hx hb dL_law_914 rfl (lv_at hl 1 rfl) ?_
  refine lv_aload_n hx hb dL_law_915 rfl (lv_at hl 0 rfl) ?_
  refine lv_iload_n hx hb dL_law_916 rfl (lv_at hl 3 rfl) ?_
  refine lv_iconst (v := (1 : Int32)) hx hb dL_law_917 (by decide) ?_
  refine lv_iadd hx hb dL_law_918 ?_
  refine va_sld hx hb hX hbl hbA hC.2.2.2.1 h1 dL_law_919 ?_
  refine zL_callxi hC (z_runV (rest := []) zx_Gok (zL_x hC) E (zc_X5_joinedTo l D cI cJ tp q ux (xs (x3 + (1 : Int32)).toNatClampNeg) hfx _) (cwV 1 hts gL_law_X5_joinedTo rfl rfl rfl ⟨rfl, zd_X5_joinedTo⟩ ⟨Nat.le_of_ble_eq_true rfl, Nat.le_of_ble_eq_true rfl⟩) (zx_rcX5 (zL_x hC)) rfl hl.1 rfl (Nat.le_of_ble_eq_true rfl) dL_law_920 ⟨Nat.le_refl 50, Nat.le_refl 32579⟩) (fun H locs hC => ?_)
  refine lv_aload_n hx hb dL_law_923 rfl (lv_at hl 2 rfl) ?_
  refine lv_aload_n hx hb dL_law_924 rfl (lv_at hl 0 rfl) ?_
  refine lv_iload_n hx hb dL_law_925 rfl (lv_at hl 3 rfl) ?_
  refine lv_iconst (v := (1 : Int32)) hx hb dL_law_926 (by decide) ?_
  refine lv_iadd hx hb dL_law_927 ?_
  refine va_sld hx hb hX hbl hbA hC.2.2.2.1 h1 dL_law_928 ?_
  refine zL_callmi hC (z_runV (rest := [_]) zm_Gok (zL_m hC) E (zc_X6_joinedTo l D cI cJ tp q2 um (xs (x3 + (1 : Int32)).toNatClampNeg) hfm _) (cwV 1 hts gL_law_X6_joinedTo rfl rfl rfl ⟨rfl, zd_X6_joinedTo⟩ ⟨Nat.le_of_ble_eq_true rfl, Nat.le_of_ble_eq_true rfl⟩) (zm_rcX6 (zL_m hC)) rfl hl.1 rfl (Nat.le_of_ble_eq_true rfl) dL_law_929 ⟨Nat.le_refl 50, Nat.le_refl 32579⟩) (fun H locs hC => ?_)
  refine lv_icmp_eq (tgt := 1073) hx hb dL_law_932 (by decide) (fun _ => ?_) (fun c9 => absurd rfl c9)
  exact kk _ _ _ _ _ hR hC hl
set_option maxHeartbeats 4000000 in
set_option maxRecDepth 100000 in
theorem zL_c24 (E : CallFix p m c cL_law 4 s #[Value.ref b] wsL_law RL) (hX : va_X b L xs s s.heap) (hbl : b < s.heap.size) (hbA : ¬ (fun z : Nat => s.heap.size ≤ z) b) (h1 : vp_in (x3 + (1 : Int32)) L) (h2 : vp_in (x3 + (2 : Int32)) L) (h3 : vp_in (x3 + (3 : Int32)) L) (h4 : vp_in (x3 + (4 : Int32)) L) (hk : k < 512) (hR : zR k ux um) (hC : zL_C D cI cJ tp q q2 (fun z : Nat => s.heap.size ≤ z) s ux um H locs) (hl : lv_has ls 4 [(0, .ref b), (1, .ref (q 5)), (2, .ref (q2 0)), (3, .int x3)]) (kk : ∀ (ux um : z_St) (H : Heap) (locs : List Loc) (ls : Array Slot), zR (k + 1) ux um → zL_C D cI cJ tp q q2 (fun z : Nat => s.heap.size ≤ z) s ux um H locs → lv_has ls 4 [(0, .ref b), (1, .ref (q 5)), (2, .ref (q2 0)), (3, .int x3)] → W p l e room_1 s m #[Value.ref b] below meth c H locs 50 32579 Q (F0 m 1073 ls [])) : W p l e room_1 s m #[Value.ref b] below meth c H locs 50 32579 Q (F0 m 937 ls []) := by
  have hx := E.1
  have hb := E.2.1
  have hts := E.2.2.2.2
  obtain ⟨r, vx, vm, hfx, hfm, hR⟩ := zq_owe hk hR (xs (x3 + (1 : Int32)).toNatClampNeg) (xs (x3 + (2 : Int32)).toNatClampNeg) (xs (x3 + (3 : Int32)).toNatClampNeg)
  refine lv_aload_n hx hb dL_law_937 rfl (lv_at hl 1 rfl) ?_
  refine lv_aload_n hx hb dL_law_938 rfl (lv_at hl 0 rfl) ?_
  refine lv_iload_n hx hb dL_law_939 rfl (lv_at hl 3 rfl) ?_
  refine lv_iconst (v := (1 : Int32)) hx hb dL_law_940 (by decide) ?_
  refine lv_iadd hx hb dL_law_941 ?_
  refine va_sld hx hb hX hbl hbA hC.2.2.2.1 h1 dL_law_942 ?_
  refine lv_aload_n hx hb dL_law_943 rfl (lv_at hl 0 rfl) ?_
  refine lv_iload_n hx hb dL_law_944 rfl (lv_at hl 3 rfl) ?_
  refine lv_iconst (v := (2 : Int32)) hx hb dL_law_945 (by decide) ?_
  refine lv_iadd hx hb dL_law_946 ?_
  refine va_sld hx hb hX hbl hbA hC.2.2.2.1 h2 dL_law_947 ?_
  refine lv_aload_n hx hb dL_law_948 rfl (lv_at hl 0 rfl) ?_
  refine lv_iload_n hx hb dL_law_949 rfl (lv_at hl 3 rfl) ?_
  refine lv_iconst (v := (3 : Int32)) hx hb dL_law_950 (by decide) ?_
  refine lv_iadd hx hb dL_law_951 ?_
  refine va_sld hx hb hX hbl hbA hC.2.2.2.1 h3 dL_law_952 ?_
  refine zL_callxi hC (z_runV (rest := []) zx_Gok (zL_x hC) E (zc_X5_owe l D cI cJ tp q ux (xs (x3 + (1 : Int32)).toNatClampNeg) (xs (x3 + (2 : Int32)).toNatClampNeg) (xs (x3 + (3 : Int32)).toNatClampNeg) hfx _) (cwV 3 hts gL_law_X5_owe rfl rfl rfl ⟨rfl, zd_X5_owe⟩ ⟨Nat.le_of_ble_eq_true rfl, Nat.le_of_ble_eq_true rfl⟩) (zx_rcX5 (zL_x hC)) rfl hl.1 rfl (Nat.le_of_ble_eq_true rfl) dL_law_953 ⟨Nat.le_refl 50, Nat.le_refl 32579⟩) (fun H locs hC => ?_)
  refine lv_aload_n hx hb dL_law_956 rfl (lv_at hl 2 rfl) ?_
  refine lv_aload_n hx hb dL_law_957 rfl (lv_at hl 0 rfl) ?_
  refine lv_iload_n hx hb dL_law_958 rfl (lv_at hl 3 rfl) ?_
  refine lv_iconst (v := (1 : Int32)) hx hb dL_law_959 (by decide) ?_
  refine lv_iadd hx hb dL_law_960 ?_
  refine va_sld hx hb hX hbl hbA hC.2.2.2.1 h1 dL_law_961 ?_
  refine lv_aload_n hx hb dL_law_962 rfl (lv_at hl 0 rfl) ?_
  refine lv_iload_n hx hb dL_law_963 rfl (lv_at hl 3 rfl) ?_
  refine lv_iconst (v := (2 : Int32)) hx hb dL_law_964 (by decide) ?_
  refine lv_iadd hx hb dL_law_965 ?_
  refine va_sld hx hb hX hbl hbA hC.2.2.2.1 h2 dL_law_966 ?_
  refine lv_aload_n hx hb dL_law_967 rfl (lv_at hl 0 rfl) ?_
  refine lv_iload_n hx hb dL_law_968 rfl (lv_at hl 3 rfl) ?_
  refine lv_iconst (v := (3 : Int32)) hx hb dL_law_969 (by decide) ?_
  refine lv_iadd hx hb dL_law_970 ?_
  refine va_sld hx hb hX hbl hbA hC.2.2.2.1 h3 dL_law_971 ?_
  refine zL_callmi hC (z_runV (rest := [_]) zm_Gok (zL_m hC) E (zc_X6_owe l D cI cJ tp q2 um (xs (x3 + (1 : Int32)).toNatClampNeg) (xs (x3 + (2 : Int32)).toNatClampNeg) (xs (x3 + (3 : Int32)).toNatClampNeg) hfm _) (cwV 3 hts gL_law_X6_owe rfl rfl rfl ⟨rfl, zd_X6_owe⟩ ⟨Nat.le_of_ble_eq_true rfl, Nat.le_of_ble_eq_true rfl⟩) (zm_rcX6 (zL_m hC)) rfl hl.1 rfl (Nat.le_of_ble_eq_true rfl) dL_law_972 ⟨Nat.le_refl 50, Nat.le_refl 32579⟩) (fun H locs hC => ?_)
  refine lv_icmp_eq (tgt := 1073) hx hb dL_law_975 (by decide) (fun _ => ?_) (fun c9 => absurd rfl c9)
  exact kk _ _ _ _ _ hR hC hl
set_option maxHeartbeats 4000000 in
set_option maxRecDepth 100000 in
theorem zL_c25 (E : CallFix p m c cL_law 4 s #[Value.ref b] wsL_law RL) (hX : va_X b L xs s s.heap) (hbl : b < s.heap.size) (hbA : ¬ (fun z : Nat => s.heap.size ≤ z) b) (h1 : vp_in (x3 + (1 : Int32)) L) (h2 : vp_in (x3 + (2 : Int32)) L) (h3 : vp_in (x3 + (3 : Int32)) L) (h4 : vp_in (x3 + (4 : Int32)) L) (hk : k < 512) (hR : zR k ux um) (hC : zL_C D cI cJ tp q q2 (fun z : Nat => s.heap.size ≤ z) s ux um H locs) (hl : lv_has ls 4 [(0, .ref b), (1, .ref (q 5)), (2, .ref (q2 0)), (3, .int x3)]) (kk : ∀ (ux um : z_St) (H : Heap) (locs : List Loc) (ls : Array Slot), zR (k + 1) ux um → zL_C D cI cJ tp q q2 (fun z : Nat => s.heap.size ≤ z) s ux um H locs → lv_has ls 4 [(0, .ref b), (1, .ref (q 5)), (2, .ref (q2 0)), (3, .int x3)] → W p l e room_1 s m #[Value.ref b] below meth c H locs 50 32579 Q (F0 m 1073 ls [])) : W p l e room_1 s m #[Value.ref b] below meth c H locs 50 32579 Q (F0 m 980 ls []) := by
  have hx := E.1
  have hb := E.2.1
  have hts := E.2.2.2.2
  obtain ⟨r, hfx, hfm, hR⟩ := zq_net hk hR (xs (x3 + (1 : Int32)).toNatClampNeg)
  refine lv_aload_n hx hb dL_law_980 rfl (lv_at hl 1 rfl) ?_
  refine lv_aload_n hx hb dL_law_981 rfl (lv_at hl 0 rfl) ?_
  refine lv_iload_n hx hb dL_law_982 rfl (lv_at hl 3 rfl) ?_
  refine lv_iconst (v := (1 : Int32)) hx hb dL_law_983 (by decide) ?_
  refine lv_iadd hx hb dL_law_984 ?_
  refine va_sld hx hb hX hbl hbA hC.2.2.2.1 h1 dL_law_985 ?_
  refine zL_callxi hC (z_runV (rest := []) zx_Gok (zL_x hC) E (zc_X5_net l D cI cJ tp q ux (xs (x3 + (1 : Int32)).toNatClampNeg) hfx _) (cwV 1 hts gL_law_X5_net rfl rfl rfl ⟨rfl, zd_X5_net⟩ ⟨Nat.le_of_ble_eq_true rfl, Nat.le_of_ble_eq_true rfl⟩) (zx_rcX5 (zL_x hC)) rfl hl.1 rfl (Nat.le_of_ble_eq_true rfl) dL_law_986 ⟨Nat.le_refl 50, Nat.le_refl 32579⟩) (fun H locs hC => ?_)
  refine lv_aload_n hx hb dL_law_989 rfl (lv_at hl 2 rfl) ?_
  refine lv_aload_n hx hb dL_law_990 rfl (lv_at hl 0 rfl) ?_
  refine lv_iload_n hx hb dL_law_991 rfl (lv_at hl 3 rfl) ?_
  refine lv_iconst (v := (1 : Int32)) hx hb dL_law_992 (by decide) ?_
  refine lv_iadd hx hb dL_law_993 ?_
  refine va_sld hx hb hX hbl hbA hC.2.2.2.1 h1 dL_law_994 ?_
  refine zL_callmi hC (z_runV (rest := [_]) zm_Gok (zL_m hC) E (zc_X6_net l D cI cJ tp q2 um (xs (x3 + (1 : Int32)).toNatClampNeg) hfm _) (cwV 1 hts gL_law_X6_net rfl rfl rfl ⟨rfl, zd_X6_net⟩ ⟨Nat.le_of_ble_eq_true rfl, Nat.le_of_ble_eq_true rfl⟩) (zm_rcX6 (zL_m hC)) rfl hl.1 rfl (Nat.le_of_ble_eq_true rfl) dL_law_995 ⟨Nat.le_refl 50, Nat.le_refl 32579⟩) (fun H locs hC => ?_)
  refine lv_icmp_eq (tgt := 1073) hx hb dL_law_998 (by decide) (fun _ => ?_) (fun c9 => absurd rfl c9)
  exact kk _ _ _ _ _ hR hC hl
set_option maxHeartbeats 4000000 in
set_option maxRecDepth 100000 in
theorem zL_c26 (E : CallFix p m c cL_law 4 s #[Value.ref b] wsL_law RL) (hX : va_X b L xs s s.heap) (hbl : b < s.heap.size) (hbA : ¬ (fun z : Nat => s.heap.size ≤ z) b) (h1 : vp_in (x3 + (1 : Int32)) L) (h2 : vp_in (x3 + (2 : Int32)) L) (h3 : vp_in (x3 + (3 : Int32)) L) (h4 : vp_in (x3 + (4 : Int32)) L) (hk : k < 512) (hR : zR k ux um) (hC : zL_C D cI cJ tp q q2 (fun z : Nat => s.heap.size ≤ z) s ux um H locs) (hl : lv_has ls 4 [(0, .ref b), (1, .ref (q 5)), (2, .ref (q2 0)), (3, .int x3)]) (kk : ∀ (ux um : z_St) (H : Heap) (locs : List Loc) (ls : Array Slot), zR (k + 1) ux um → zL_C D cI cJ tp q q2 (fun z : Nat => s.heap.size ≤ z) s ux um H locs → lv_has ls 4 [(0, .ref b), (1, .ref (q 5)), (2, .ref (q2 0)), (3, .int x3)] → W p l e room_1 s m #[Value.ref b] below meth c H locs 50 32579 Q (F0 m 1073 ls [])) : W p l e room_1 s m #[Value.ref b] below meth c H locs 50 32579 Q (F0 m 1003 ls []) := by
  have hx := E.1
  have hb := E.2.1
  have hts := E.2.2.2.2
  obtain ⟨r, hfx, hfm, hR⟩ := zq_fall hk hR (xs (x3 + (1 : Int32)).toNatClampNeg) (xs (x3 + (2 : Int32)).toNatClampNeg)
  refine lv_aload_n hx hb dL_law_1003 rfl (lv_at hl 1 rfl) ?_
  refine lv_aload_n hx hb dL_law_1004 rfl (lv_at hl 0 rfl) ?_
  refine lv_iload_n hx hb dL_law_1005 rfl (lv_at hl 3 rfl) ?_
  refine lv_iconst (v := (1 : Int32)) hx hb dL_law_1006 (by decide) ?_
  refine lv_iadd hx hb dL_law_1007 ?_
  refine va_sld hx hb hX hbl hbA hC.2.2.2.1 h1 dL_law_1008 ?_
  refine lv_aload_n hx hb dL_law_1009 rfl (lv_at hl 0 rfl) ?_
  refine lv_iload_n hx hb dL_law_1010 rfl (lv_at hl 3 rfl) ?_
  refine lv_iconst (v := (2 : Int32)) hx hb dL_law_1011 (by decide) ?_
  refine lv_iadd hx hb dL_law_1012 ?_
  refine va_sld hx hb hX hbl hbA hC.2.2.2.1 h2 dL_law_1013 ?_
  refine zL_callxi hC (z_runV (rest := []) zx_Gok (zL_x hC) E (zc_X5_fall l D cI cJ tp q ux (xs (x3 + (1 : Int32)).toNatClampNeg) (xs (x3 + (2 : Int32)).toNatClampNeg) hfx _) (cwV 2 hts gL_law_X5_fall rfl rfl rfl ⟨rfl, zd_X5_fall⟩ ⟨Nat.le_of_ble_eq_true rfl, Nat.le_of_ble_eq_true rfl⟩) (zx_rcX5 (zL_x hC)) rfl hl.1 rfl (Nat.le_of_ble_eq_true rfl) dL_law_1014 ⟨Nat.le_refl 50, Nat.le_refl 32579⟩) (fun H locs hC => ?_)
  refine lv_aload_n hx hb dL_law_1017 rfl (lv_at hl 2 rfl) ?_
  refine lv_aload_n hx hb dL_law_1018 rfl (lv_at hl 0 rfl) ?_
  refine lv_iload_n hx hb dL_law_1019 rfl (lv_at hl 3 rfl) ?_
  refine lv_iconst (v := (1 : Int32)) hx hb dL_law_1020 (by decide) ?_
  refine lv_iadd hx hb dL_law_1021 ?_
  refine va_sld hx hb hX hbl hbA hC.2.2.2.1 h1 dL_law_1022 ?_
  refine lv_aload_n hx hb dL_law_1023 rfl (lv_at hl 0 rfl) ?_
  refine lv_iload_n hx hb dL_law_1024 rfl (lv_at hl 3 rfl) ?_
  refine lv_iconst (v := (2 : Int32)) hx hb dL_law_1025 (by decide) ?_
  refine lv_iadd hx hb dL_law_1026 ?_
  refine va_sld hx hb hX hbl hbA hC.2.2.2.1 h2 dL_law_1027 ?_
  refine zL_callmi hC (z_runV (rest := [_]) zm_Gok (zL_m hC) E (zc_X6_fall l D cI cJ tp q2 um (xs (x3 + (1 : Int32)).toNatClampNeg) (xs (x3 + (2 : Int32)).toNatClampNeg) hfm _) (cwV 2 hts gL_law_X6_fall rfl rfl rfl ⟨rfl, zd_X6_fall⟩ ⟨Nat.le_of_ble_eq_true rfl, Nat.le_of_ble_eq_true rfl⟩) (zm_rcX6 (zL_m hC)) rfl hl.1 rfl (Nat.le_of_ble_eq_true rfl) dL_law_1028 ⟨Nat.le_refl 50, Nat.le_refl 32579⟩) (fun H locs hC => ?_)
  refine lv_icmp_eq (tgt := 1073) hx hb dL_law_1031 (by decide) (fun _ => ?_) (fun c9 => absurd rfl c9)
  exact kk _ _ _ _ _ hR hC hl
set_option maxHeartbeats 4000000 in
set_option maxRecDepth 100000 in
theorem zL_c27 (E : CallFix p m c cL_law 4 s #[Value.ref b] wsL_law RL) (hX : va_X b L xs s s.heap) (hbl : b < s.heap.size) (hbA : ¬ (fun z : Nat => s.heap.size ≤ z) b) (h1 : vp_in (x3 + (1 : Int32)) L) (h2 : vp_in (x3 + (2 : Int32)) L) (h3 : vp_in (x3 + (3 : Int32)) L) (h4 : vp_in (x3 + (4 : Int32)) L) (hk : k < 512) (hR : zR k ux um) (hC : zL_C D cI cJ tp q q2 (fun z : Nat => s.heap.size ≤ z) s ux um H locs) (hl : lv_has ls 4 [(0, .ref b), (1, .ref (q 5)), (2, .ref (q2 0)), (3, .int x3)]) (kk : ∀ (ux um : z_St) (H : Heap) (locs : List Loc) (ls : Array Slot), zR (k + 1) ux um → zL_C D cI cJ tp q q2 (fun z : Nat => s.heap.size ≤ z) s ux um H locs → lv_has ls 4 [(0, .ref b), (1, .ref (q 5)), (2, .ref (q2 0)), (3, .int x3)] → W p l e room_1 s m #[Value.ref b] below meth c H locs 50 32579 Q (F0 m 1073 ls [])) : W p l e room_1 s m #[Value.ref b] below meth c H locs 50 32579 Q (F0 m 1036 ls []) := by
  have hx := E.1
  have hb := E.2.1
  have hts := E.2.2.2.2
  obtain ⟨r, hfx, hfm, hR⟩ := zq_count hk hR (xs (x3 + (1 : Int32)).toNatClampNeg)
  refine lv_aload_n hx hb dL_law_1036 rfl (lv_at hl 1 rfl) ?_
  refine lv_aload_n hx hb dL_law_1037 rfl (lv_at hl 0 rfl) ?_
  refine lv_iload_n hx hb dL_law_1038 rfl (lv_at hl 3 rfl) ?_
  refine lv_iconst (v := (1 : Int32)) hx hb dL_law_1039 (by decide) ?_
  refine lv_iadd hx hb dL_law_1040 ?_
  refine va_sld hx hb hX hbl hbA hC.2.2.2.1 h1 dL_law_1041 ?_
  refine zL_callxi hC (z_runV (rest := []) zx_Gok (zL_x hC) E (zc_X5_count l D cI cJ tp q ux (xs (x3 + (1 : Int32)).toNatClampNeg) hfx _) (cwV 1 hts gL_law_X5_count rfl rfl rfl ⟨rfl, zd_X5_count⟩ ⟨Nat.le_of_ble_eq_true rfl, Nat.le_of_ble_eq_true rfl⟩) (zx_rcX5 (zL_x hC)) rfl hl.1 rfl (Nat.le_of_ble_eq_true rfl) dL_law_1042 ⟨Nat.le_refl 50, Nat.le_refl 32579⟩) (fun H locs hC => ?_)
  refine lv_aload_n hx hb dL_law_1045 rfl (lv_at hl 2 rfl) ?_
  refine lv_aload_n hx hb dL_law_1046 rfl (lv_at hl 0 rfl) ?_
  refine lv_iload_n hx hb dL_law_1047 rfl (lv_at hl 3 rfl) ?_
  refine lv_iconst (v := (1 : Int32)) hx hb dL_law_1048 (by decide) ?_
  refine lv_iadd hx hb dL_law_1049 ?_
  refine va_sld hx hb hX hbl hbA hC.2.2.2.1 h1 dL_law_1050 ?_
  refine zL_callmi hC (z_runV (rest := [_]) zm_Gok (zL_m hC) E (zc_X6_count l D cI cJ tp q2 um (xs (x3 + (1 : Int32)).toNatClampNeg) hfm _) (cwV 1 hts gL_law_X6_count rfl rfl rfl ⟨rfl, zd_X6_count⟩ ⟨Nat.le_of_ble_eq_true rfl, Nat.le_of_ble_eq_true rfl⟩) (zm_rcX6 (zL_m hC)) rfl hl.1 rfl (Nat.le_of_ble_eq_true rfl) dL_law_1051 ⟨Nat.le_refl 50, Nat.le_refl 32579⟩) (fun H locs hC => ?_)
  refine lv_icmp_eq (tgt := 1073) hx hb dL_law_1054 (by decide) (fun _ => ?_) (fun c9 => absurd rfl c9)
  exact kk _ _ _ _ _ hR hC hl
set_option maxHeartbeats 4000000 in
set_option maxRecDepth 100000 in
theorem zL_c28 (E : CallFix p m c cL_law 4 s #[Value.ref b] wsL_law RL) (hX : va_X b L xs s s.heap) (hbl : b < s.heap.size) (hbA : ¬ (fun z : Nat => s.heap.size ≤ z) b) (h1 : vp_in (x3 + (1 : Int32)) L) (h2 : vp_in (x3 + (2 : Int32)) L) (h3 : vp_in (x3 + (3 : Int32)) L) (h4 : vp_in (x3 + (4 : Int32)) L) (hk : k < 512) (hR : zR k ux um) (hC : zL_C D cI cJ tp q q2 (fun z : Nat => s.heap.size ≤ z) s ux um H locs) (hl : lv_has ls 4 [(0, .ref b), (1, .ref (q 5)), (2, .ref (q2 0)), (3, .int x3)]) (kk : ∀ (ux um : z_St) (H : Heap) (locs : List Loc) (ls : Array Slot), zR (k + 1) ux um → zL_C D cI cJ tp q q2 (fun z : Nat => s.heap.size ≤ z) s ux um H locs → lv_has ls 4 [(0, .ref b), (1, .ref (q 5)), (2, .ref (q2 0)), (3, .int x3)] → W p l e room_1 s m #[Value.ref b] below meth c H locs 50 32579 Q (F0 m 1073 ls [])) : W p l e room_1 s m #[Value.ref b] below meth c H locs 50 32579 Q (F0 m 1059 ls []) := by
  have hx := E.1
  have hb := E.2.1
  have hts := E.2.2.2.2
  obtain ⟨r, hfx, hfm, hR⟩ := zq_digest hk hR 
  refine lv_aload_n hx hb dL_law_1059 rfl (lv_at hl 1 rfl) ?_
  refine zL_callxl hC (z_runV (rest := []) zx_Gok (zL_x hC) E (zc_X5_digest l D cI cJ tp q ux  hfx _) (cwV 0 hts gL_law_X5_digest rfl rfl rfl ⟨rfl, zd_X5_digest⟩ ⟨Nat.le_of_ble_eq_true rfl, Nat.le_of_ble_eq_true rfl⟩) (zx_rcX5 (zL_x hC)) rfl hl.1 rfl (Nat.le_of_ble_eq_true rfl) dL_law_1060 ⟨Nat.le_refl 50, Nat.le_refl 32579⟩) (fun H locs hC => ?_)
  refine lv_aload_n hx hb dL_law_1063 rfl (lv_at hl 2 rfl) ?_
  refine zL_callml hC (z_runV (rest := [_]) zm_Gok (zL_m hC) E (zc_X6_digest l D cI cJ tp q2 um  hfm _) (cwV 0 hts gL_law_X6_digest rfl rfl rfl ⟨rfl, zd_X6_digest⟩ ⟨Nat.le_of_ble_eq_true rfl, Nat.le_of_ble_eq_true rfl⟩) (zm_rcX6 (zL_m hC)) rfl hl.1 rfl (Nat.le_of_ble_eq_true rfl) dL_law_1064 ⟨Nat.le_refl 50, Nat.le_refl 32579⟩) (fun H locs hC => ?_)
  refine W.lcmp hx hb dL_law_1067 ?_
  refine lv_if_eq (tgt := 1073) hx hb dL_law_1068 (by decide) (fun _ => ?_) (fun c9 => absurd (zL_cmp r) c9)
  exact kk _ _ _ _ _ hR hC hl
end
