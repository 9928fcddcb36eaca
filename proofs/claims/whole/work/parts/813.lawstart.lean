set_option maxRecDepth 100000 in
/-- PLACES, as the Statement gives it at the start -/
theorem zL_places {s : State} {b : Nat} (hts : ∀ w ∈ lw_tbl, w.before #[Value.ref b] s = true) (hgv : (Jvm.Cond.and given_1 narrow_1).before #[Value.ref b] s = true) : ∃ tp : Nat, zx_G tp (fun z : Nat => s.heap.size ≤ z) s s.heap := by
  have hs := flat_of_before _ hgv
  have hA : ∀ a : Nat, a < s.heap.size → ¬ (fun z : Nat => s.heap.size ≤ z) a := fun a h => Nat.not_le.mpr h
  have hW : ∀ (i : Nat) (w : Cond), lw_tbl[i]? = some w → w.before #[Value.ref b] s = true := fun i w h => hts w (List.mem_of_getElem? h)
  obtain ⟨tp, h1, h2⟩ := va_Tof (args := #[Value.ref b]) (s := s) (tm := Term.static "DawnFair$Stolen" "PLACES" "[I") (ty := .int) (N := 6) (f := zx_pl) (A := fun z : Nat => s.heap.size ≤ z) (by decide) (hs _ (by decide +kernel)) (va_eqt (hs (Cond.eq (Term.length (Term.static "DawnFair$Stolen" "PLACES" "[I")) (Term.int 6)) (by decide +kernel))) (fun j hj => by
    rcases (show j = 0 ∨ j = 1 ∨ j = 2 ∨ j = 3 ∨ j = 4 ∨ j = 5 by omega) with rfl | rfl | rfl | rfl | rfl | rfl
    · exact va_eqt (hs (Cond.eq (Term.elem (Term.static "DawnFair$Stolen" "PLACES" "[I") (Term.int 0)) (Term.int 371293)) (by decide +kernel))
    · exact va_eqt (hs (Cond.eq (Term.elem (Term.static "DawnFair$Stolen" "PLACES" "[I") (Term.int 1)) (Term.int 28561)) (by decide +kernel))
    · exact va_eqt (hs (Cond.eq (Term.elem (Term.static "DawnFair$Stolen" "PLACES" "[I") (Term.int 2)) (Term.int 2197)) (by decide +kernel))
    · exact va_eqt (hs (Cond.eq (Term.elem (Term.static "DawnFair$Stolen" "PLACES" "[I") (Term.int 3)) (Term.int 169)) (by decide +kernel))
    · exact va_eqt (hs (Cond.eq (Term.elem (Term.static "DawnFair$Stolen" "PLACES" "[I") (Term.int 4)) (Term.int 13)) (by decide +kernel))
    · exact va_eqt (hs (Cond.eq (Term.elem (Term.static "DawnFair$Stolen" "PLACES" "[I") (Term.int 5)) (Term.int 1)) (by decide +kernel))) hA
  refine ⟨tp, va_Zof (hW 449 (.laysStatic "DawnFair$Stolen" "PLACES" "[I") rfl) (hW 29 (.initialized RX3) rfl) h1 hA, h2, ?_⟩
  exact ⟨va_Nw.of rfl (hW 558 (.methodLinkNest RX0 45 yX5_mix RX5) rfl), va_Nw.of rfl (hW 198 (.methodLinkNest RX2 34 yX5_within RX5) rfl), va_Nw.of rfl (hW 539 (.methodLinkNest RX2 66 yX5_mix RX5) rfl), va_Nw.of rfl (hW 417 (.methodLinkNest RX3 31 yX5_within RX5) rfl), va_Nw.of rfl (hW 548 (.methodLinkNest RX3 74 yX5_mix RX5) rfl), va_Nw.of rfl (hW 553 (.methodLinkNest RX4 52 yX5_mix RX5) rfl)⟩
set_option maxHeartbeats 4000000 in
set_option maxRecDepth 100000 in
/-- THE LAW, from its entry -/
theorem whole_start {p : Program} {e : Env} {s : State} {m : MethodId} {below : List Frame} {meth : Method} {c : Code} (l : Launch) {b L : Nat} {xs : Nat → Int32} (hL : L ≤ 2560) (C0 : lw_At p s m meth c b L xs) : W p l e room_1 s m #[Value.ref b] below meth c s.heap [] 0 0 (lw_Z below #[Value.ref b] s) (entryFrame m ([Value.ref b] : List Value).toArray 4) := by
  obtain ⟨hx, hb, hr, hml, hown, htl, hX, hbl, hlocks, hgv⟩ := id C0
  have hown : s.vm.findClass RL = some m.cls := hown
  have hts : ∀ w ∈ wsL_law, w.before #[Value.ref b] s = true := fun w h => htl w (wsL_law_in w h)
  have hW : ∀ (i : Nat) (w : Cond), lw_tbl[i]? = some w → w.before #[Value.ref b] s = true := fun i w h => htl w (List.mem_of_getElem? h)
  have E : CallFix p m c cL_law 4 s #[Value.ref b] wsL_law RL := ⟨hx, hb, hml, hown, hts⟩
  have hA : ∀ z : Nat, s.heap.size ≤ z → (fun z : Nat => s.heap.size ≤ z) z := fun _ h => h
  have hNI : zx_NI s := ⟨va_Nw.of rfl (hW 99 (.methodLinkNest RX5 25 yX0_init RX5) rfl), va_Nw.of rfl (hW 118 (.methodLinkNest RX5 32 yX3_init RX5) rfl), va_Nw.of rfl (hW 143 (.methodLinkNest RX5 39 yX1_init RX5) rfl)⟩
  obtain ⟨tp, hG⟩ := zL_places htl hgv
  obtain ⟨u2, hu2, hR⟩ := z_start0
  obtain ⟨c0, iS0, hKn0⟩ := u_known (C := RX0) (T := TX0) (N := 4) (n := 4) htl inX0 (hW 98 (.instantiable RX0 4) rfl)
  obtain ⟨c1, iS1, hKn1⟩ := u_known (C := RX1) (T := TX1) (N := 1) (n := 1) htl inX1 (hW 142 (.instantiable RX1 1) rfl)
  obtain ⟨c2, iS2, hKn2⟩ := u_known (C := RX2) (T := TX2) (N := 5) (n := 5) htl inX2 (hW 43 (.instantiable RX2 5) rfl)
  obtain ⟨c3, iS3, hKn3⟩ := u_known (C := RX3) (T := TX3) (N := 6) (n := 6) htl inX3 (hW 117 (.instantiable RX3 6) rfl)
  obtain ⟨c4, iS4, hKn4⟩ := u_known (C := RX4) (T := TX4) (N := 7) (n := 7) htl inX4 (hW 69 (.instantiable RX4 7) rfl)
  obtain ⟨c5, iS5, hKn5⟩ := u_known (C := RX5) (T := TX5) (N := 5) (n := 5) htl inX5 (hW 35 (.instantiable RX5 5) rfl)
  obtain ⟨c6, iS6, hKn6⟩ := u_known (C := RX6) (T := TX6) (N := 38) (n := 38) htl inX6 (hW 564 (.instantiable RX6 38) rfl)
  obtain ⟨D, hKc⟩ : ∃ D : va_G, ∀ (k : Nat) (q : vw_C), vwCl[k]? = some q → u_Kn s q.1 q.2.1 q.2.2 (D.1 k) (D.2 k) := by
    refine ⟨(fun k => match k with | 0 => c0 | 1 => c1 | 2 => c2 | 3 => c3 | 4 => c4 | 5 => c5 | _ => c6, fun k => match k with | 0 => iS0 | 1 => iS1 | 2 => iS2 | 3 => iS3 | 4 => iS4 | 5 => iS5 | _ => iS6), ?_⟩
    intro k q hq
    match k, hq with
    | 0, hq => cases hq; exact hKn0
    | 1, hq => cases hq; exact hKn1
    | 2, hq => cases hq; exact hKn2
    | 3, hq => cases hq; exact hKn3
    | 4, hq => cases hq; exact hKn4
    | 5, hq => cases hq; exact hKn5
    | 6, hq => cases hq; exact hKn6
    | k + 7, hq => simp [vwCl] at hq
  have hS : va_S (fun z : Nat => s.heap.size ≤ z) s.heap s.heap [] := va_S.rf
  have hK : va_K D vwCl [] s := ⟨hKc, fun k q h => by simp at h⟩
  have hP : va_P D vwCl [] s.heap := fun k q h => by simp at h
  have hD : va_D (fun z : Nat => s.heap.size ≤ z) [] := ⟨fun i j p q h => by simp at h, fun k q h => by simp at h⟩
  have hl := lv_entry ([.ref b]) (n := 4) (Nat.le_of_ble_eq_true rfl)
  rw [lg_entry_eq]
  generalize (lg_sl ([.ref b]) ++ List.replicate (4 - (lg_sl ([.ref b])).length) Slot.unset).toArray = ls at hl ⊢
  have hl : lv_has ls 4 [(0, .ref b)] := hl
  refine va_new (ci := 5) (fs := [.null, .null, .null, .null, .null]) (C := RX5) (T := TX5) (N := 5) hx hb htl inX5 tyX5 tyX5_ok hown (hW 34 (.classLink RL 7 RX5) rfl) (hW 35 (.instantiable RX5 5) rfl) (hW 24 (.initialized RX5) rfl) hK hP hD hS hA rfl (fun j hj => by rcases (show j = 0 ∨ j = 1 ∨ j = 2 ∨ j = 3 ∨ j = 4 by omega) with rfl | rfl | rfl | rfl | rfl <;> rfl) (show 0 + 1 ≤ 50 from by omega) (show 0 + 5 ≤ 32579 from by omega) dL_law_0 (fun h0 H hP hD hS => ?_)
  have hP : va_P D vwCl [(h0, .inr (5, [.null, .null, .null, .null, .null]))] H := hP
  have hD : va_D (fun z : Nat => s.heap.size ≤ z) [(h0, .inr (5, [.null, .null, .null, .null, .null]))] := hD
  refine W.cs (cells' := 1) (slots' := 5) rfl rfl ?_
  refine lv_dup hx hb dL_law_3 rfl ?_
  have hFc := va_free (wc := [(h0, .inr (5, [.null, .null, .null, .null, .null]))]) hD hS hA [0] rfl
  refine va_callv (va_runI (As := []) (rest := [.ref h0]) E (zc_X5_init l D h0 H.size) (cwI 0 hts gL_law_X5_init rfl rfl rfl (hW 24 (.initialized RX5) rfl) (hW 36 (.methodLink RL 9 yX5_init) rfl) (hW 37 (.instanceMethod yX5_init) rfl) rfl zd_X5_init ⟨Nat.le_of_ble_eq_true rfl, Nat.le_of_ble_eq_true rfl⟩) ⟨fun a U g mk q => by obtain ⟨q0, q1, qP, qK, qD, qN⟩ := q; exact ⟨q0, q1, qP, va_K.moved (u := U) (U := U.calling g mk a) (Vm.Alike.refl U.vm) qK, qD, va_Nw.same rfl (u := U) (U := U.calling g mk a) rfl qN.1, va_Nw.same rfl (u := U) (U := U.calling g mk a) rfl qN.2.1, va_Nw.same rfl (u := U) (U := U.calling g mk a) rfl qN.2.2⟩, fun U hU hW => ⟨rfl, by rw [hU], by rw [hU]; exact hP, va_K.moved hW.alike hK, hD.weaken (fun _ _ _ _ => trivial), va_Nw.warmM hW hNI.1, va_Nw.warmM hW hNI.2.1, va_Nw.warmM hW hNI.2.2⟩⟩ rfl rfl hl.1 rfl (lv_room (Nat.le_of_ble_eq_true rfl)) dL_law_4 ⟨show 1 + 23 ≤ 50 from by omega, show 5 + 1079 ≤ 32579 from by omega⟩) hS (fun q _ h => hFc q h) hFc (fun u t H1 locs ht hvm hw hB hz1 hk1 hS => ?_)
  obtain ⟨q, cI, eq5, hP1, hK1, hD1⟩ := hB
  rw [ht] at hP1
  have hK1 := va_K.moved hvm.symm hK1
  obtain ⟨hP, hD⟩ := va_join (wr := []) (w1 := zx_W cI q zx_u0) hP hD [0] [] rfl rfl (by decide) (by decide) hk1 hFc hP1 hD1
  have hK : va_K D vwCl [(cI, .int)] s := hK1
  generalize H1 = H at hP hS ⊢
  have hP : va_P D vwCl (zx_W cI q zx_u0) H := hP
  have hD : va_D (fun z : Nat => s.heap.size ≤ z) (zx_W cI q zx_u0) := hD
  refine W.cs (cells' := 24) (slots' := 1084) rfl rfl ?_
  refine lv_astore_n (lv' := [(1, .ref h0), (0, .ref b)]) hx hb dL_law_7 rfl hl (by decide) rfl (fun ls hl => ?_)
  refine va_new (ci := 6) (fs := [.null, .null, .int 0, .null, .null, .null, .null, .null, .null, .int 0, .int 0, .int 0, .int 0, .null, .null, .null, .null, .null, .null, .null, .null, .int 0, .null, .null, .null, .null, .int 0, .int 0, .int 0, .int 0, .long 0, .long 0, .int 0, .null, .null, .null, .null, .null]) (C := RX6) (T := TX6) (N := 38) hx hb htl inX6 tyX6 tyX6_ok hown (hW 563 (.classLink RL 10 RX6) rfl) (hW 564 (.instantiable RX6 38) rfl) (hW 31 (.initialized RX6) rfl) hK hP hD hS hA rfl (fun j hj => by rcases (show j = 0 ∨ j = 1 ∨ j = 2 ∨ j = 3 ∨ j = 4 ∨ j = 5 ∨ j = 6 ∨ j = 7 ∨ j = 8 ∨ j = 9 ∨ j = 10 ∨ j = 11 ∨ j = 12 ∨ j = 13 ∨ j = 14 ∨ j = 15 ∨ j = 16 ∨ j = 17 ∨ j = 18 ∨ j = 19 ∨ j = 20 ∨ j = 21 ∨ j = 22 ∨ j = 23 ∨ j = 24 ∨ j = 25 ∨ j = 26 ∨ j = 27 ∨ j = 28 ∨ j = 29 ∨ j = 30 ∨ j = 31 ∨ j = 32 ∨ j = 33 ∨ j = 34 ∨ j = 35 ∨ j = 36 ∨ j = 37 by omega) with rfl | rfl | rfl | rfl | rfl | rfl | rfl | rfl | rfl | rfl | rfl | rfl | rfl | rfl | rfl | rfl | rfl | rfl | rfl | rfl | rfl | rfl | rfl | rfl | rfl | rfl | rfl | rfl | rfl | rfl | rfl | rfl | rfl | rfl | rfl | rfl | rfl | rfl <;> rfl) (show 24 + 1 ≤ 50 from by omega) (show 1084 + 38 ≤ 32579 from by omega) dL_law_8 (fun h6 H hP hD hS => ?_)
  have hP : va_P D vwCl (zx_W cI q zx_u0 ++ [(h6, .inr (6, [.null, .null, .int 0, .null, .null, .null, .null, .null, .null, .int 0, .int 0, .int 0, .int 0, .null, .null, .null, .null, .null, .null, .null, .null, .int 0, .null, .null, .null, .null, .int 0, .int 0, .int 0, .int 0, .long 0, .long 0, .int 0, .null, .null, .null, .null, .null]))]) H := hP
  have hD : va_D (fun z : Nat => s.heap.size ≤ z) (zx_W cI q zx_u0 ++ [(h6, .inr (6, [.null, .null, .int 0, .null, .null, .null, .null, .null, .null, .int 0, .int 0, .int 0, .int 0, .null, .null, .null, .null, .null, .null, .null, .null, .int 0, .null, .null, .null, .null, .int 0, .int 0, .int 0, .int 0, .long 0, .long 0, .int 0, .null, .null, .null, .null, .null]))]) := hD
  refine W.cs (cells' := 25) (slots' := 1122) rfl rfl ?_
  refine lv_dup hx hb dL_law_11 rfl ?_
  have hPc := hP.sub (ws' := [(h6, .inr (6, [.null, .null, .int 0, .null, .null, .null, .null, .null, .null, .int 0, .int 0, .int 0, .int 0, .null, .null, .null, .null, .null, .null, .null, .null, .int 0, .null, .null, .null, .null, .int 0, .int 0, .int 0, .int 0, .long 0, .long 0, .int 0, .null, .null, .null, .null, .null]))]) [24] rfl
  have hDc := hD.sub (ws' := [(h6, .inr (6, [.null, .null, .int 0, .null, .null, .null, .null, .null, .null, .int 0, .int 0, .int 0, .int 0, .null, .null, .null, .null, .null, .null, .null, .null, .int 0, .null, .null, .null, .null, .int 0, .int 0, .int 0, .int 0, .long 0, .long 0, .int 0, .null, .null, .null, .null, .null]))]) [24] (by decide) rfl
  have hKc := hK.sub (tys' := []) [] rfl
  have hFc := va_free (wc := [(h6, .inr (6, [.null, .null, .int 0, .null, .null, .null, .null, .null, .null, .int 0, .int 0, .int 0, .int 0, .null, .null, .null, .null, .null, .null, .null, .null, .int 0, .null, .null, .null, .null, .int 0, .int 0, .int 0, .int 0, .long 0, .long 0, .int 0, .null, .null, .null, .null, .null]))]) hD hS hA [24] rfl
  refine va_callv (va_runI (As := []) (rest := [.ref h6]) E (zc_X6_init l D h6 H.size hu2) (cwI 0 hts gL_law_X6_init rfl rfl rfl (hW 31 (.initialized RX6) rfl) (hW 565 (.methodLink RL 12 yX6_init) rfl) (hW 566 (.instanceMethod yX6_init) rfl) rfl zd_X6_init ⟨Nat.le_of_ble_eq_true rfl, Nat.le_of_ble_eq_true rfl⟩) ⟨fun a U g mk q => by obtain ⟨q0, q1, qP, qK, qD⟩ := q; exact ⟨q0, q1, qP, va_K.moved (u := U) (U := U.calling g mk a) (Vm.Alike.refl U.vm) qK, qD⟩, fun U hU hW => ⟨rfl, by rw [hU], by rw [hU]; exact hPc, va_K.moved hW.alike hKc, hDc.weaken (fun _ _ _ _ => trivial)⟩⟩ rfl rfl hl.1 rfl (lv_room (Nat.le_of_ble_eq_true rfl)) dL_law_12 ⟨show 25 + 25 ≤ 50 from by omega, show 1122 + 31457 ≤ 32579 from by omega⟩) hS (fun q _ h => hFc q h) hFc (fun u t H1 locs ht hvm hw hB hz1 hk1 hS => ?_)
  obtain ⟨q2, cI2, cJ, eq6, hP1, hK1, hD1⟩ := hB
  rw [ht] at hP1
  have hK1 := va_K.moved hvm.symm hK1
  obtain rfl : cI = cI2 := z_ceq (hK.app hK1) 0 1 rfl rfl
  obtain ⟨hP, hD⟩ := va_join (wr := zx_W cI q zx_u0) (w1 := zm_W cI cJ q2 u2) hP hD [24] [0, 1, 2, 3, 4, 5, 6, 7, 8, 9, 10, 11, 12, 13, 14, 15, 16, 17, 18, 19, 20, 21, 22, 23] rfl rfl (by decide) (by decide) hk1 hFc hP1 hD1
  generalize H1 = H at hP hS ⊢
  refine W.cs (cells' := 50) (slots' := 32579) rfl rfl ?_
  refine lv_astore_n (lv' := [(2, .ref h6), (1, .ref h0), (0, .ref b)]) hx hb dL_law_15 rfl hl (by decide) rfl (fun ls hl => ?_)
  refine lv_iconst (v := 0) hx hb dL_law_16 (by decide) ?_
  refine lv_istore_n (lv' := [(3, .int 0), (2, .ref h6), (1, .ref h0), (0, .ref b)]) hx hb dL_law_17 rfl hl (by decide) rfl (fun ls hl => ?_)
  have hl : lv_has ls 4 [(3, .int 0), (2, .ref (q2 0)), (1, .ref (q 5)), (0, .ref b)] := by
    rw [eq5, eq6]
    exact hl
  exact zL_loop (D := D) (cI := cI) (cJ := cJ) (tp := tp) (q := q) (q2 := q2) hL E hX hbl hr hlocks (L + 1) 0 zx_u0 u2 H locs ls (by omega) (by omega) hR ⟨hK1, hP, hD, hS, hA, hG⟩ (lv_sub hl [3, 2, 1, 0] rfl)
