/-! THE CLAIM OUT OF ONE WALK OF THE LAW'S BODY. Your part is whole_start (and what it stands on); all else here is the same for every law, but numbers. -/
def R_law : String := "DawnFairLaw"
def lw_P (b : Addr) (xs : List Int32) (args : Array Value) (s : State) : Prop := args = #[.ref b] ∧ s.IntsAt b xs ∧ xs.length ≤ 2560 ∧ (Jvm.Cond.and given_1 narrow_1).before args s = true
def lw_Q (_ : Array Value) (s : State) (o : Outcome) (t : State) : Prop := o = .returned (some (.int 1)) ∧ Framed s o t [] 50 32579
def lw_Z (below : List Frame) (a : Array Value) (s : State) : State → Prop := fun t => ∃ o, t.status = .running ∧ Ended t below o ∧ lw_Q a s o t
/-- the law's own end, with 1 on the stack, nothing written that was there before, its room as the claim has it -/
theorem lw_ret {p : Program} {l : Launch} {e : Env} {s : State} {m : MethodId} {below : List Frame} {meth : Method} {c : Code} {b : Nat} (hx : p.tables.exec = Jvm.exec) (hb : c.code = code) (hr : meth.sig.returnType = ret) (hlocks : meth.locks = false) {pc : Nat} {H : Heap} {ls : Array Slot} (hdg : decode code pc = .ok (.ireturn, 1)) : W p l e room_1 s m #[Value.ref b] below meth c H [] 50 32579 (lw_Z below #[Value.ref b] s) (F0 m pc ls [.int 1]) := by
  intro T hT X
  obtain ⟨fs, hret, hrun, hended, hW, hframe⟩ := X.leave (v := some (.int 1)) (hlocks := hlocks) (fun h => by rw [hr] at h; cases h)
  have hmeth' : T.vm.method? m = some meth := X.method'
  refine ⟨T.setFrames fs, ?_, .returned (some (.int 1)), hrun, hended, rfl, ⟨_, rfl⟩, hW, hframe⟩
  jvm_step X.here [X.here.top, hx, hb, hdg, hmeth', hr, ret, narrow_b1]
  (try refine ⟨rfl, ?_⟩); (try refine ⟨rfl, ?_⟩)
  first | (intro acts; rw [hret _ acts rfl rfl rfl]) | rw [hret _ _ rfl rfl rfl]
  exact Steps.refl _
/-- what holds at the law's entry: the machine, the code, the tables' words (any of lw_tbl by 'hts w (by decide +kernel)'), the script of L ints xs at the cell b, what the Statement gives of the start (any of its parts by flat_of_before) -/
def lw_At (p : Program) (s : State) (m : MethodId) (meth : Method) (c : Code) (b L : Nat) (xs : Nat → Int32) : Prop :=
  p.tables.exec = Jvm.exec ∧ c.code = code ∧ meth.sig.returnType = ret ∧ c.maxLocals = 4 ∧ s.vm.findClass R_law = some m.cls ∧ (∀ w ∈ lw_tbl, w.before #[Value.ref b] s = true) ∧ va_X b L xs s s.heap ∧ b < s.heap.size ∧ meth.locks = false ∧ (Jvm.Cond.and given_1 narrow_1).before #[Value.ref b] s = true
set_option maxHeartbeats 4000000 in
set_option maxRecDepth 100000 in
/-- THE LAW'S LOOP: from the head of step k, with both states alike -/
theorem zL_loop {p : Program} {l : Launch} {e : Env} {s : State} {m : MethodId} {below : List Frame} {meth : Method} {c : Code} {D : va_G} {cI cJ : ClassId} {tp : Nat} {q q2 : Nat → Nat} {b L : Nat} {xs : Nat → Int32} (hL : L ≤ 2560) (E : CallFix p m c cL_law 4 s #[Value.ref b] wsL_law RL) (hX : va_X b L xs s s.heap) (hbl : b < s.heap.size) (hr : meth.sig.returnType = ret) (hlocks : meth.locks = false) :
    ∀ (n k : Nat) (ux um : z_St) (H : Heap) (locs : List Loc) (ls : Array Slot), L < 5 * (k + n) → 5 * k ≤ L → zR k ux um → zL_C D cI cJ tp q q2 (fun z : Nat => s.heap.size ≤ z) s ux um H locs → lv_has ls 4 [(0, .ref b), (1, .ref (q 5)), (2, .ref (q2 0)), (3, .int (nI (5 * k)))] →
      W p l e room_1 s m #[Value.ref b] below meth c H locs 50 32579 (lw_Z below #[Value.ref b] s) (F0 m 18 ls []) := by
  have hx := E.1
  have hb := E.2.1
  have hbA : ¬ (fun z : Nat => s.heap.size ≤ z) b := Nat.not_le.mpr hbl
  intro n
  induction n with
  | zero => intro k ux um H locs ls h1 h2; omega
  | succ n ih =>
    intro k ux um H locs ls hn hkL hR hC hl
    refine lv_iload_n hx hb dL_law_18 rfl (lv_at hl 3 rfl) ?_
    refine lv_aload_n hx hb dL_law_19 rfl (lv_at hl 0 rfl) ?_
    refine va_slen hx hb hX hbl hbA hC.2.2.2.1 dL_law_20 ?_
    refine lv_iconst (v := (5 : Int32)) hx hb dL_law_21 (by decide) ?_
    refine lv_isub hx hb dL_law_22 ?_
    have e5 : (Int32.ofNat L - 5).toInt = (L : Int) - 5 := by
      have e : (5 : Int32).toInt = 5 := rfl
      rw [Int32.toInt_sub, show Int32.ofNat L = nI L from rfl, nI_toInt (by omega), e]
      exact Int.bmod_eq_of_le (by omega) (by omega)
    refine lv_icmp_gt (tgt := 1079) hx hb dL_law_23 (by decide) (fun _ => ?_) (fun c0 => ?_)
    · refine lv_iconst (v := 1) hx hb dL_law_1079 (by decide) ?_
      refine va_forget (fun z hz => hC.2.2.2.1.2.2 z hz) ?_
      exact lw_ret hx hb hr hlocks dL_law_1080
    · have c1 : 5 * k + 5 ≤ L := by
        have c2 : ¬ (Int32.ofNat L - 5).toInt < (nI (5 * k)).toInt := fun z => c0 ((z_ltI _ _).mpr z)
        rw [e5, nI_toInt (by omega)] at c2
        omega
      have hk : k < 512 := by omega
      have h0 : vp_in (nI (5 * k)) L := vp_in_nI (by omega) (by omega)
      have h1 : vp_in (nI (5 * k) + (1 : Int32)) L := by rw [z_n1]; exact vp_in_nI (by omega) (by omega)
      have h2 : vp_in (nI (5 * k) + (2 : Int32)) L := by rw [show nI (5 * k) + (2 : Int32) = nI (5 * k + 2) from nI_add (5 * k) 2]; exact vp_in_nI (by omega) (by omega)
      have h3 : vp_in (nI (5 * k) + (3 : Int32)) L := by rw [show nI (5 * k) + (3 : Int32) = nI (5 * k + 3) from nI_add (5 * k) 3]; exact vp_in_nI (by omega) (by omega)
      have h4 : vp_in (nI (5 * k) + (4 : Int32)) L := by rw [show nI (5 * k) + (4 : Int32) = nI (5 * k + 4) from nI_add (5 * k) 4]; exact vp_in_nI (by omega) (by omega)
      have kk : ∀ (ux um : z_St) (H : Heap) (locs : List Loc) (ls : Array Slot), zR (k + 1) ux um → zL_C D cI cJ tp q q2 (fun z : Nat => s.heap.size ≤ z) s ux um H locs → lv_has ls 4 [(0, .ref b), (1, .ref (q 5)), (2, .ref (q2 0)), (3, .int (nI (5 * k)))] → W p l e room_1 s m #[Value.ref b] below meth c H locs 50 32579 (lw_Z below #[Value.ref b] s) (F0 m 1073 ls []) := by
        intro ux um H locs ls hR hC hl
        refine lv_iinc (v := nI (5 * (k + 1))) (lv' := [(3, .int (nI (5 * (k + 1)))), (0, .ref b), (1, .ref (q 5)), (2, .ref (q2 0))]) hx hb dL_law_1073 hl (k := 3) rfl (nI_add (5 * k) 5) (by decide) rfl (fun ls hl => ?_)
        refine lv_goto (tgt := 18) hx hb dL_law_1076 (by decide) ?_
        exact ih (k + 1) ux um H locs ls (by omega) (by omega) hR hC (lv_sub hl [1, 2, 3, 0] rfl)
      refine lv_aload_n hx hb dL_law_26 rfl (lv_at hl 0 rfl) ?_
      refine lv_iload_n hx hb dL_law_27 rfl (lv_at hl 3 rfl) ?_
      refine va_sld hx hb hX hbl hbA hC.2.2.2.1 h0 dL_law_28 ?_
      refine lv_bipush (v := (31 : Int32)) hx hb dL_law_29 (by decide) ?_
      refine lv_iand hx hb dL_law_31 ?_
      obtain ⟨j, hj, ej⟩ := pk_andE (xs (nI (5 * k)).toNatClampNeg) (m := 31) 5 (by decide)
      have hj : j < 32 := hj
      rw [ej]
      rcases (show j = 0 ∨ j = 1 ∨ j = 2 ∨ j = 3 ∨ j = 4 ∨ j = 5 ∨ j = 6 ∨ j = 7 ∨ j = 8 ∨ j = 9 ∨ j = 10 ∨ j = 11 ∨ j = 12 ∨ j = 13 ∨ j = 14 ∨ j = 15 ∨ j = 16 ∨ j = 17 ∨ j = 18 ∨ j = 19 ∨ j = 20 ∨ j = 21 ∨ j = 22 ∨ j = 23 ∨ j = 24 ∨ j = 25 ∨ j = 26 ∨ j = 27 ∨ j = 28 ∨ 29 ≤ j by omega) with rfl | rfl | rfl | rfl | rfl | rfl | rfl | rfl | rfl | rfl | rfl | rfl | rfl | rfl | rfl | rfl | rfl | rfl | rfl | rfl | rfl | rfl | rfl | rfl | rfl | rfl | rfl | rfl | rfl | h
      · exact lv_tableIn (tgt := 164) (off := 132) hx hb dL_law_32 (by decide) (by decide) rfl (by decide) (zL_c0 E hX hbl hbA h1 h2 h3 h4 hk hR hC hl kk)
      · exact lv_tableIn (tgt := 207) (off := 175) hx hb dL_law_32 (by decide) (by decide) rfl (by decide) (zL_c1 E hX hbl hbA h1 h2 h3 h4 hk hR hC hl kk)
      · exact lv_tableIn (tgt := 230) (off := 198) hx hb dL_law_32 (by decide) (by decide) rfl (by decide) (zL_c2 E hX hbl hbA h1 h2 h3 h4 hk hR hC hl kk)
      · exact lv_tableIn (tgt := 273) (off := 241) hx hb dL_law_32 (by decide) (by decide) rfl (by decide) (zL_c3 E hX hbl hbA h1 h2 h3 h4 hk hR hC hl kk)
      · exact lv_tableIn (tgt := 316) (off := 284) hx hb dL_law_32 (by decide) (by decide) rfl (by decide) (zL_c4 E hX hbl hbA h1 h2 h3 h4 hk hR hC hl kk)
      · exact lv_tableIn (tgt := 339) (off := 307) hx hb dL_law_32 (by decide) (by decide) rfl (by decide) (zL_c5 E hX hbl hbA h1 h2 h3 h4 hk hR hC hl kk)
      · exact lv_tableIn (tgt := 372) (off := 340) hx hb dL_law_32 (by decide) (by decide) rfl (by decide) (zL_c6 E hX hbl hbA h1 h2 h3 h4 hk hR hC hl kk)
      · exact lv_tableIn (tgt := 405) (off := 373) hx hb dL_law_32 (by decide) (by decide) rfl (by decide) (zL_c7 E hX hbl hbA h1 h2 h3 h4 hk hR hC hl kk)
      · exact lv_tableIn (tgt := 428) (off := 396) hx hb dL_law_32 (by decide) (by decide) rfl (by decide) (zL_c8 E hX hbl hbA h1 h2 h3 h4 hk hR hC hl kk)
      · exact lv_tableIn (tgt := 451) (off := 419) hx hb dL_law_32 (by decide) (by decide) rfl (by decide) (zL_c9 E hX hbl hbA h1 h2 h3 h4 hk hR hC hl kk)
      · exact lv_tableIn (tgt := 504) (off := 472) hx hb dL_law_32 (by decide) (by decide) rfl (by decide) (zL_c10 E hX hbl hbA h1 h2 h3 h4 hk hR hC hl kk)
      · exact lv_tableIn (tgt := 527) (off := 495) hx hb dL_law_32 (by decide) (by decide) rfl (by decide) (zL_c11 E hX hbl hbA h1 h2 h3 h4 hk hR hC hl kk)
      · exact lv_tableIn (tgt := 560) (off := 528) hx hb dL_law_32 (by decide) (by decide) rfl (by decide) (zL_c12 E hX hbl hbA h1 h2 h3 h4 hk hR hC hl kk)
      · exact lv_tableIn (tgt := 583) (off := 551) hx hb dL_law_32 (by decide) (by decide) rfl (by decide) (zL_c13 E hX hbl hbA h1 h2 h3 h4 hk hR hC hl kk)
      · exact lv_tableIn (tgt := 606) (off := 574) hx hb dL_law_32 (by decide) (by decide) rfl (by decide) (zL_c14 E hX hbl hbA h1 h2 h3 h4 hk hR hC hl kk)
      · exact lv_tableIn (tgt := 649) (off := 617) hx hb dL_law_32 (by decide) (by decide) rfl (by decide) (zL_c15 E hX hbl hbA h1 h2 h3 h4 hk hR hC hl kk)
      · exact lv_tableIn (tgt := 692) (off := 660) hx hb dL_law_32 (by decide) (by decide) rfl (by decide) (zL_c16 E hX hbl hbA h1 h2 h3 h4 hk hR hC hl kk)
      · exact lv_tableIn (tgt := 736) (off := 704) hx hb dL_law_32 (by decide) (by decide) rfl (by decide) (zL_c17 E hX hbl hbA h1 h2 h3 h4 hk hR hC hl kk)
      · exact lv_tableIn (tgt := 749) (off := 717) hx hb dL_law_32 (by decide) (by decide) rfl (by decide) (zL_c18 E hX hbl hbA h1 h2 h3 h4 hk hR hC hl kk)
      · exact lv_tableIn (tgt := 802) (off := 770) hx hb dL_law_32 (by decide) (by decide) rfl (by decide) (zL_c19 E hX hbl hbA h1 h2 h3 h4 hk hR hC hl kk)
      · exact lv_tableIn (tgt := 825) (off := 793) hx hb dL_law_32 (by decide) (by decide) rfl (by decide) (zL_c20 E hX hbl hbA h1 h2 h3 h4 hk hR hC hl kk)
      · exact lv_tableIn (tgt := 868) (off := 836) hx hb dL_law_32 (by decide) (by decide) rfl (by decide) (zL_c21 E hX hbl hbA h1 h2 h3 h4 hk hR hC hl kk)
      · exact lv_tableIn (tgt := 901) (off := 869) hx hb dL_law_32 (by decide) (by decide) rfl (by decide) (zL_c22 E hX hbl hbA h1 h2 h3 h4 hk hR hC hl kk)
      · exact lv_tableIn (tgt := 914) (off := 882) hx hb dL_law_32 (by decide) (by decide) rfl (by decide) (zL_c23 E hX hbl hbA h1 h2 h3 h4 hk hR hC hl kk)
      · exact lv_tableIn (tgt := 937) (off := 905) hx hb dL_law_32 (by decide) (by decide) rfl (by decide) (zL_c24 E hX hbl hbA h1 h2 h3 h4 hk hR hC hl kk)
      · exact lv_tableIn (tgt := 980) (off := 948) hx hb dL_law_32 (by decide) (by decide) rfl (by decide) (zL_c25 E hX hbl hbA h1 h2 h3 h4 hk hR hC hl kk)
      · exact lv_tableIn (tgt := 1003) (off := 971) hx hb dL_law_32 (by decide) (by decide) rfl (by decide) (zL_c26 E hX hbl hbA h1 h2 h3 h4 hk hR hC hl kk)
      · exact lv_tableIn (tgt := 1036) (off := 1004) hx hb dL_law_32 (by decide) (by decide) rfl (by decide) (zL_c27 E hX hbl hbA h1 h2 h3 h4 hk hR hC hl kk)
      · exact lv_tableIn (tgt := 1059) (off := 1027) hx hb dL_law_32 (by decide) (by decide) rfl (by decide) (zL_c28 E hX hbl hbA h1 h2 h3 h4 hk hR hC hl kk)
      · exact lv_tableOut (tgt := 1073) hx hb dL_law_32 (Or.inr (by rw [nI_toInt (by omega)]; omega)) (by decide) (kk _ _ _ _ _ (zR_k hR (Nat.le_succ k)) hC hl)
