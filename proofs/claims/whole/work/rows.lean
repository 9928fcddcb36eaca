section
-- ===== PART A: goes FIRST, ahead of the names: the tables' words, and 'selects' of the private methods out of them =====
/-- a private method of a class that the tables say can be made, by its rows of tables_1 -/
def lw_okq (q : MethodName × Nat) : Prop := (q.1.cls ≠ "java/lang/invoke/MethodHandle" ∧ q.1.cls ≠ "java/lang/invoke/VarHandle") ∧ Cond.instantiable q.1.cls q.2 ∈ tables_1 ∧ Cond.privateMethod q.1 ∈ tables_1 ∧ Cond.instanceMethod q.1 ∈ tables_1
theorem lw_p0 : lw_okq (⟨"DawnFair$Trade", "mayBeSold", "(III)Z"⟩, 7) := ⟨⟨by decide +kernel, by decide +kernel⟩, List.mem_of_getElem? (i := 46) (by decide +kernel), List.mem_of_getElem? (i := 261) (by decide +kernel), List.mem_of_getElem? (i := 262) (by decide +kernel)⟩
theorem lw_p1 : lw_okq (⟨"DawnFair$Trade", "stands", "(I)Z"⟩, 7) := ⟨⟨by decide +kernel, by decide +kernel⟩, List.mem_of_getElem? (i := 46) (by decide +kernel), List.mem_of_getElem? (i := 294) (by decide +kernel), List.mem_of_getElem? (i := 295) (by decide +kernel)⟩
theorem lw_p2 : lw_okq (⟨"DawnFair$Stolen", "weigh", "(I)V"⟩, 6) := ⟨⟨by decide +kernel, by decide +kernel⟩, List.mem_of_getElem? (i := 94) (by decide +kernel), List.mem_of_getElem? (i := 420) (by decide +kernel), List.mem_of_getElem? (i := 421) (by decide +kernel)⟩
theorem lw_p3 : lw_okq (⟨"DawnFair$Stolen", "bestWithThing", "(I)I"⟩, 6) := ⟨⟨by decide +kernel, by decide +kernel⟩, List.mem_of_getElem? (i := 94) (by decide +kernel), List.mem_of_getElem? (i := 429) (by decide +kernel), List.mem_of_getElem? (i := 430) (by decide +kernel)⟩
theorem lw_p4 : lw_okq (⟨"DawnFair$Debts", "owedTo", "(II)I"⟩, 1) := ⟨⟨by decide +kernel, by decide +kernel⟩, List.mem_of_getElem? (i := 119) (by decide +kernel), List.mem_of_getElem? (i := 460) (by decide +kernel), List.mem_of_getElem? (i := 461) (by decide +kernel)⟩
theorem lw_p5 : lw_okq (⟨"DawnFair$Debts", "owedBy", "(I)I"⟩, 1) := ⟨⟨by decide +kernel, by decide +kernel⟩, List.mem_of_getElem? (i := 119) (by decide +kernel), List.mem_of_getElem? (i := 464) (by decide +kernel), List.mem_of_getElem? (i := 465) (by decide +kernel)⟩
theorem lw_p6 : lw_okq (⟨"DawnFair$Debts", "fallingNext", "(II)I"⟩, 1) := ⟨⟨by decide +kernel, by decide +kernel⟩, List.mem_of_getElem? (i := 119) (by decide +kernel), List.mem_of_getElem? (i := 476) (by decide +kernel), List.mem_of_getElem? (i := 477) (by decide +kernel)⟩
theorem lw_p7 : lw_okq (⟨"DawnFairModel", "noThing", "(I)Z"⟩, 38) := ⟨⟨by decide +kernel, by decide +kernel⟩, List.mem_of_getElem? (i := 542) (by decide +kernel), List.mem_of_getElem? (i := 683) (by decide +kernel), List.mem_of_getElem? (i := 684) (by decide +kernel)⟩
theorem lw_p8 : lw_okq (⟨"DawnFairModel", "allYears", "()V"⟩, 38) := ⟨⟨by decide +kernel, by decide +kernel⟩, List.mem_of_getElem? (i := 542) (by decide +kernel), List.mem_of_getElem? (i := 692) (by decide +kernel), List.mem_of_getElem? (i := 693) (by decide +kernel)⟩
theorem lw_p9 : lw_okq (⟨"DawnFairModel", "narrow", "(II)V"⟩, 38) := ⟨⟨by decide +kernel, by decide +kernel⟩, List.mem_of_getElem? (i := 542) (by decide +kernel), List.mem_of_getElem? (i := 696) (by decide +kernel), List.mem_of_getElem? (i := 697) (by decide +kernel)⟩
theorem lw_p10 : lw_okq (⟨"DawnFairModel", "findApart", "(I)I"⟩, 38) := ⟨⟨by decide +kernel, by decide +kernel⟩, List.mem_of_getElem? (i := 542) (by decide +kernel), List.mem_of_getElem? (i := 704) (by decide +kernel), List.mem_of_getElem? (i := 705) (by decide +kernel)⟩
theorem lw_p11 : lw_okq (⟨"DawnFairModel", "wasSoldNow", "(I)Z"⟩, 38) := ⟨⟨by decide +kernel, by decide +kernel⟩, List.mem_of_getElem? (i := 542) (by decide +kernel), List.mem_of_getElem? (i := 739) (by decide +kernel), List.mem_of_getElem? (i := 740) (by decide +kernel)⟩
theorem lw_p12 : lw_okq (⟨"DawnFairModel", "saleOf", "(II)I"⟩, 38) := ⟨⟨by decide +kernel, by decide +kernel⟩, List.mem_of_getElem? (i := 542) (by decide +kernel), List.mem_of_getElem? (i := 752) (by decide +kernel), List.mem_of_getElem? (i := 753) (by decide +kernel)⟩
theorem lw_p13 : lw_okq (⟨"DawnFairModel", "gainOf", "(I)I"⟩, 38) := ⟨⟨by decide +kernel, by decide +kernel⟩, List.mem_of_getElem? (i := 542) (by decide +kernel), List.mem_of_getElem? (i := 760) (by decide +kernel), List.mem_of_getElem? (i := 761) (by decide +kernel)⟩
theorem lw_p14 : lw_okq (⟨"DawnFairModel", "findBoth", "(II)V"⟩, 38) := ⟨⟨by decide +kernel, by decide +kernel⟩, List.mem_of_getElem? (i := 542) (by decide +kernel), List.mem_of_getElem? (i := 782) (by decide +kernel), List.mem_of_getElem? (i := 783) (by decide +kernel)⟩
theorem lw_p15 : lw_okq (⟨"DawnFairModel", "findChance", "(II)V"⟩, 38) := ⟨⟨by decide +kernel, by decide +kernel⟩, List.mem_of_getElem? (i := 542) (by decide +kernel), List.mem_of_getElem? (i := 791) (by decide +kernel), List.mem_of_getElem? (i := 792) (by decide +kernel)⟩
def lw_privs_1 : List (MethodName × Nat) := [(⟨"DawnFair$Trade", "mayBeSold", "(III)Z"⟩, 7), (⟨"DawnFair$Trade", "stands", "(I)Z"⟩, 7), (⟨"DawnFair$Stolen", "weigh", "(I)V"⟩, 6), (⟨"DawnFair$Stolen", "bestWithThing", "(I)I"⟩, 6), (⟨"DawnFair$Debts", "owedTo", "(II)I"⟩, 1), (⟨"DawnFair$Debts", "owedBy", "(I)I"⟩, 1), (⟨"DawnFair$Debts", "fallingNext", "(II)I"⟩, 1), (⟨"DawnFairModel", "noThing", "(I)Z"⟩, 38), (⟨"DawnFairModel", "allYears", "()V"⟩, 38), (⟨"DawnFairModel", "narrow", "(II)V"⟩, 38), (⟨"DawnFairModel", "findApart", "(I)I"⟩, 38), (⟨"DawnFairModel", "wasSoldNow", "(I)Z"⟩, 38), (⟨"DawnFairModel", "saleOf", "(II)I"⟩, 38), (⟨"DawnFairModel", "gainOf", "(I)I"⟩, 38), (⟨"DawnFairModel", "findBoth", "(II)V"⟩, 38), (⟨"DawnFairModel", "findChance", "(II)V"⟩, 38)]
theorem lw_r1 : ∀ q ∈ lw_privs_1, lw_okq q := List.forall_mem_cons.mpr ⟨lw_p0, List.forall_mem_cons.mpr ⟨lw_p1, List.forall_mem_cons.mpr ⟨lw_p2, List.forall_mem_cons.mpr ⟨lw_p3, List.forall_mem_cons.mpr ⟨lw_p4, List.forall_mem_cons.mpr ⟨lw_p5, List.forall_mem_cons.mpr ⟨lw_p6, List.forall_mem_cons.mpr ⟨lw_p7, List.forall_mem_cons.mpr ⟨lw_p8, List.forall_mem_cons.mpr ⟨lw_p9, List.forall_mem_cons.mpr ⟨lw_p10, List.forall_mem_cons.mpr ⟨lw_p11, List.forall_mem_cons.mpr ⟨lw_p12, List.forall_mem_cons.mpr ⟨lw_p13, List.forall_mem_cons.mpr ⟨lw_p14, List.forall_mem_cons.mpr ⟨lw_p15, fun _ h => absurd h List.not_mem_nil⟩⟩⟩⟩⟩⟩⟩⟩⟩⟩⟩⟩⟩⟩⟩⟩
theorem lw_p16 : lw_okq (⟨"DawnFairModel", "choose", "(II)J"⟩, 38) := ⟨⟨by decide +kernel, by decide +kernel⟩, List.mem_of_getElem? (i := 542) (by decide +kernel), List.mem_of_getElem? (i := 795) (by decide +kernel), List.mem_of_getElem? (i := 796) (by decide +kernel)⟩
theorem lw_p17 : lw_okq (⟨"DawnFairModel", "scoreOf", "(II)I"⟩, 38) := ⟨⟨by decide +kernel, by decide +kernel⟩, List.mem_of_getElem? (i := 542) (by decide +kernel), List.mem_of_getElem? (i := 828) (by decide +kernel), List.mem_of_getElem? (i := 829) (by decide +kernel)⟩
theorem lw_p18 : lw_okq (⟨"DawnFairModel", "findJoined", "()V"⟩, 38) := ⟨⟨by decide +kernel, by decide +kernel⟩, List.mem_of_getElem? (i := 542) (by decide +kernel), List.mem_of_getElem? (i := 836) (by decide +kernel), List.mem_of_getElem? (i := 837) (by decide +kernel)⟩
theorem lw_p19 : lw_okq (⟨"DawnFairModel", "owed", "(II)I"⟩, 38) := ⟨⟨by decide +kernel, by decide +kernel⟩, List.mem_of_getElem? (i := 542) (by decide +kernel), List.mem_of_getElem? (i := 853) (by decide +kernel), List.mem_of_getElem? (i := 854) (by decide +kernel)⟩
theorem lw_p20 : lw_okq (⟨"DawnFairModel", "owing", "(I)I"⟩, 38) := ⟨⟨by decide +kernel, by decide +kernel⟩, List.mem_of_getElem? (i := 542) (by decide +kernel), List.mem_of_getElem? (i := 857) (by decide +kernel), List.mem_of_getElem? (i := 858) (by decide +kernel)⟩
theorem lw_p21 : lw_okq (⟨"DawnFairModel", "standing", "()I"⟩, 38) := ⟨⟨by decide +kernel, by decide +kernel⟩, List.mem_of_getElem? (i := 542) (by decide +kernel), List.mem_of_getElem? (i := 869) (by decide +kernel), List.mem_of_getElem? (i := 870) (by decide +kernel)⟩
theorem lw_p22 : lw_okq (⟨"DawnFairModel", "allDebts", "()I"⟩, 38) := ⟨⟨by decide +kernel, by decide +kernel⟩, List.mem_of_getElem? (i := 542) (by decide +kernel), List.mem_of_getElem? (i := 873) (by decide +kernel), List.mem_of_getElem? (i := 874) (by decide +kernel)⟩
def lw_privs_2 : List (MethodName × Nat) := [(⟨"DawnFairModel", "choose", "(II)J"⟩, 38), (⟨"DawnFairModel", "scoreOf", "(II)I"⟩, 38), (⟨"DawnFairModel", "findJoined", "()V"⟩, 38), (⟨"DawnFairModel", "owed", "(II)I"⟩, 38), (⟨"DawnFairModel", "owing", "(I)I"⟩, 38), (⟨"DawnFairModel", "standing", "()I"⟩, 38), (⟨"DawnFairModel", "allDebts", "()I"⟩, 38)]
theorem lw_r2 : ∀ q ∈ lw_privs_2, lw_okq q := List.forall_mem_cons.mpr ⟨lw_p16, List.forall_mem_cons.mpr ⟨lw_p17, List.forall_mem_cons.mpr ⟨lw_p18, List.forall_mem_cons.mpr ⟨lw_p19, List.forall_mem_cons.mpr ⟨lw_p20, List.forall_mem_cons.mpr ⟨lw_p21, List.forall_mem_cons.mpr ⟨lw_p22, fun _ h => absurd h List.not_mem_nil⟩⟩⟩⟩⟩⟩⟩
def lw_privs : List (MethodName × Nat) := lw_privs_1 ++ (lw_privs_2)
def lw_tbl : List Cond := k2_sels lw_privs ++ tables_1
theorem lw_privs_ok : ∀ q ∈ lw_privs, lw_okq q := by
  show ∀ q ∈ lw_privs_1 ++ (lw_privs_2), lw_okq q
  exact List.forall_mem_append.mpr ⟨lw_r1, lw_r2⟩
/-! ===== BEGIN words of one list among another's, by their places ===== -/
theorem goodIn_r {big : List Cond} (ws : List Cond) (ps : List Nat) (hp : ws = ps.filterMap (fun i => big[i]?)) (h : ws.all goodWord = true) : GoodIn big ws := by
  intro w hw
  have h1 := List.all_eq_true.mp h w hw
  rw [hp] at hw
  obtain ⟨i, -, hi⟩ := List.mem_filterMap.mp hw
  have hm : w ∈ big := by first | exact List.mem_of_getElem? hi | exact List.getElem?_mem hi
  exact ⟨hm, good_of_word h1⟩
theorem goodIn_app {big a b : List Cond} (ha : GoodIn big a) (hb : GoodIn big b) : GoodIn big (a ++ b) := fun w h => (List.mem_append.mp h).elim (ha w) (hb w)
theorem goodIn_ca {big a b : List Cond} {c : Cond} (ha : GoodIn big (c :: a)) (hb : GoodIn big b) : GoodIn big (c :: (a ++ b)) := fun w h => (List.mem_cons.mp h).elim (fun e => ha w (List.mem_cons.mpr (Or.inl e))) (fun h => (List.mem_append.mp h).elim (fun h => ha w (List.mem_cons.mpr (Or.inr h))) (hb w))
theorem goodIn_sub {big ws : List Cond} (hm : ∀ w ∈ ws, w ∈ big) (h : ws.all goodWord = true) : GoodIn big ws := fun w hw => ⟨hm w hw, good_of_word (List.all_eq_true.mp h w hw)⟩
/-! ===== END ===== -/

/-! ===== BEGIN printed: names, fields, word lists, decode rows ===== -/
def RX0 : String := "DawnFair$Auctions"
def TX0 : u_T := fun k => match k with
  | 0 => ("DawnFair$Auctions", "there", "[I", true)
  | 1 => ("DawnFair$Auctions", "bid", "[I", true)
  | 2 => ("DawnFair$Auctions", "won", "[I", true)
  | _ => ("DawnFair$Auctions", "lots", "I", false)
def tyX0 : Nat → FieldType := fun k => match k with
  | 0 => .array .int
  | 1 => .array .int
  | 2 => .array .int
  | _ => .int
abbrev wsX00 : List Cond := u_ws RX0 TX0 4
theorem nmX0 : ∀ a, a < 4 → ∀ b, b < 4 → a ≠ b → (TX0 a).2.1 ≠ (TX0 b).2.1 := by decide +kernel
theorem tyX0_ok : ∀ k, k < 4 → parseFieldDescriptor (TX0 k).2.2.1 = some (tyX0 k) := by decide +kernel
abbrev cX0_init : ByteArray := prog_2_method_1_code
def yX0_init : MethodName := ⟨RX0, "<init>", "()V"⟩
abbrev cX0_addLot : ByteArray := prog_2_method_2_code
def yX0_addLot : MethodName := ⟨RX0, "addLot", "(III)I"⟩
abbrev cX0_lotCount : ByteArray := prog_2_method_3_code
def yX0_lotCount : MethodName := ⟨RX0, "lotCount", "()I"⟩
abbrev cX0_tally : ByteArray := prog_2_method_4_code
def yX0_tally : MethodName := ⟨RX0, "tally", "(III)I"⟩
abbrev cX0_allWays : ByteArray := prog_2_method_5_code
def yX0_allWays : MethodName := ⟨RX0, "allWays", "(II)J"⟩
abbrev cX0_waysAsShy : ByteArray := prog_2_method_6_code
def yX0_waysAsShy : MethodName := ⟨RX0, "waysAsShy", "(II)J"⟩
abbrev cX0_shyestTwo : ByteArray := prog_2_method_7_code
def yX0_shyestTwo : MethodName := ⟨RX0, "shyestTwo", "()I"⟩
abbrev cX0_choose : ByteArray := prog_2_method_8_code
def yX0_choose : MethodName := ⟨RX0, "choose", "(II)J"⟩
abbrev cX0_productBelow : ByteArray := prog_2_method_9_code
def yX0_productBelow : MethodName := ⟨RX0, "productBelow", "(JJJJ)Z"⟩
abbrev cX0_commonDivisor : ByteArray := prog_2_method_10_code
def yX0_commonDivisor : MethodName := ⟨RX0, "commonDivisor", "(JJ)J"⟩
abbrev cX0_mixLots : ByteArray := prog_2_method_11_code
def yX0_mixLots : MethodName := ⟨RX0, "mixLots", "(J)J"⟩
def RX1 : String := "DawnFair$Debts"
def TX1 : u_T := fun k => match k with
  | _ => ("DawnFair$Debts", "owed", "[I", true)
def tyX1 : Nat → FieldType := fun k => match k with
  | _ => .array .int
abbrev wsX10 : List Cond := u_ws RX1 TX1 1
theorem nmX1 : ∀ a, a < 1 → ∀ b, b < 1 → a ≠ b → (TX1 a).2.1 ≠ (TX1 b).2.1 := by decide +kernel
theorem tyX1_ok : ∀ k, k < 1 → parseFieldDescriptor (TX1 k).2.2.1 = some (tyX1 k) := by decide +kernel
abbrev cX1_init : ByteArray := prog_3_method_1_code
def yX1_init : MethodName := ⟨RX1, "<init>", "()V"⟩
abbrev cX1_change : ByteArray := prog_3_method_2_code
def yX1_change : MethodName := ⟨RX1, "change", "(III)I"⟩
abbrev cX1_total : ByteArray := prog_3_method_3_code
def yX1_total : MethodName := ⟨RX1, "total", "()I"⟩
abbrev cX1_netOf : ByteArray := prog_3_method_4_code
def yX1_netOf : MethodName := ⟨RX1, "netOf", "(I)I"⟩
abbrev cX1_owedBy : ByteArray := prog_3_method_5_code
def yX1_owedBy : MethodName := ⟨RX1, "owedBy", "(I)I"⟩
abbrev cX1_owedTo : ByteArray := prog_3_method_6_code
def yX1_owedTo : MethodName := ⟨RX1, "owedTo", "(II)I"⟩
abbrev cX1_fallFrom : ByteArray := prog_3_method_7_code
def yX1_fallFrom : MethodName := ⟨RX1, "fallFrom", "(II)I"⟩
abbrev cX1_fallingNext : ByteArray := prog_3_method_8_code
def yX1_fallingNext : MethodName := ⟨RX1, "fallingNext", "(II)I"⟩
def RX2 : String := "DawnFair$Pieces"
def TX2 : u_T := fun k => match k with
  | 0 => ("DawnFair$Pieces", "from", "[I", true)
  | 1 => ("DawnFair$Pieces", "to", "[I", true)
  | 2 => ("DawnFair$Pieces", "parts", "[I", true)
  | 3 => ("DawnFair$Pieces", "works", "[I", true)
  | _ => ("DawnFair$Pieces", "things", "I", false)
def tyX2 : Nat → FieldType := fun k => match k with
  | 0 => .array .int
  | 1 => .array .int
  | 2 => .array .int
  | 3 => .array .int
  | _ => .int
abbrev wsX20 : List Cond := u_ws RX2 TX2 5
theorem nmX2 : ∀ a, a < 5 → ∀ b, b < 5 → a ≠ b → (TX2 a).2.1 ≠ (TX2 b).2.1 := by decide +kernel
theorem tyX2_ok : ∀ k, k < 5 → parseFieldDescriptor (TX2 k).2.2.1 = some (tyX2 k) := by decide +kernel
abbrev cX2_init : ByteArray := prog_4_method_1_code
def yX2_init : MethodName := ⟨RX2, "<init>", "()V"⟩
abbrev cX2_setYears : ByteArray := prog_4_method_2_code
def yX2_setYears : MethodName := ⟨RX2, "setYears", "(III)V"⟩
abbrev cX2_addThing : ByteArray := prog_4_method_3_code
def yX2_addThing : MethodName := ⟨RX2, "addThing", "(I)I"⟩
abbrev cX2_thingCount : ByteArray := prog_4_method_4_code
def yX2_thingCount : MethodName := ⟨RX2, "thingCount", "()I"⟩
abbrev cX2_hasThing : ByteArray := prog_4_method_5_code
def yX2_hasThing : MethodName := ⟨RX2, "hasThing", "(I)Z"⟩
abbrev cX2_hasPart : ByteArray := prog_4_method_6_code
def yX2_hasPart : MethodName := ⟨RX2, "hasPart", "(II)Z"⟩
abbrev cX2_worksOf : ByteArray := prog_4_method_7_code
def yX2_worksOf : MethodName := ⟨RX2, "worksOf", "(II)I"⟩
abbrev cX2_changeWorks : ByteArray := prog_4_method_8_code
def yX2_changeWorks : MethodName := ⟨RX2, "changeWorks", "(III)I"⟩
abbrev cX2_worksWithout : ByteArray := prog_4_method_9_code
def yX2_worksWithout : MethodName := ⟨RX2, "worksWithout", "(II)I"⟩
abbrev cX2_yearOf : ByteArray := prog_4_method_10_code
def yX2_yearOf : MethodName := ⟨RX2, "yearOf", "(II)I"⟩
abbrev cX2_strangers : ByteArray := prog_4_method_11_code
def yX2_strangers : MethodName := ⟨RX2, "strangers", "(I)I"⟩
abbrev cX2_mixWorks : ByteArray := prog_4_method_12_code
def yX2_mixWorks : MethodName := ⟨RX2, "mixWorks", "(J)J"⟩
abbrev cX2_mixParts : ByteArray := prog_4_method_13_code
def yX2_mixParts : MethodName := ⟨RX2, "mixParts", "(JI)J"⟩
def RX3 : String := "DawnFair$Stolen"
def TX3 : u_T := fun k => match k with
  | 0 => ("DawnFair$Stolen", "entryMarks", "[I", true)
  | 1 => ("DawnFair$Stolen", "seen", "[I", true)
  | 2 => ("DawnFair$Stolen", "lacked", "[I", true)
  | 3 => ("DawnFair$Stolen", "best", "[I", true)
  | 4 => ("DawnFair$Stolen", "worth", "[I", true)
  | _ => ("DawnFair$Stolen", "entries", "I", false)
def tyX3 : Nat → FieldType := fun k => match k with
  | 0 => .array .int
  | 1 => .array .int
  | 2 => .array .int
  | 3 => .array .int
  | 4 => .array .int
  | _ => .int
abbrev wsX30 : List Cond := u_ws RX3 TX3 6
theorem nmX3 : ∀ a, a < 6 → ∀ b, b < 6 → a ≠ b → (TX3 a).2.1 ≠ (TX3 b).2.1 := by decide +kernel
theorem tyX3_ok : ∀ k, k < 6 → parseFieldDescriptor (TX3 k).2.2.1 = some (tyX3 k) := by decide +kernel
abbrev cX3_init : ByteArray := prog_5_method_1_code
def yX3_init : MethodName := ⟨RX3, "<init>", "()V"⟩
abbrev cX3_addEntry : ByteArray := prog_5_method_2_code
def yX3_addEntry : MethodName := ⟨RX3, "addEntry", "(I)I"⟩
abbrev cX3_entryCount : ByteArray := prog_5_method_3_code
def yX3_entryCount : MethodName := ⟨RX3, "entryCount", "()I"⟩
abbrev cX3_hasEntry : ByteArray := prog_5_method_4_code
def yX3_hasEntry : MethodName := ⟨RX3, "hasEntry", "(I)Z"⟩
abbrev cX3_changeMark : ByteArray := prog_5_method_5_code
def yX3_changeMark : MethodName := ⟨RX3, "changeMark", "(III)I"⟩
abbrev cX3_scoreOf : ByteArray := prog_5_method_6_code
def yX3_scoreOf : MethodName := ⟨RX3, "scoreOf", "(II)I"⟩
abbrev cX3_isJoinable : ByteArray := prog_5_method_7_code
def yX3_isJoinable : MethodName := ⟨RX3, "isJoinable", "()Z"⟩
abbrev cX3_bestJoin : ByteArray := prog_5_method_8_code
def yX3_bestJoin : MethodName := ⟨RX3, "bestJoin", "(I)I"⟩
abbrev cX3_weigh : ByteArray := prog_5_method_9_code
def yX3_weigh : MethodName := ⟨RX3, "weigh", "(I)V"⟩
abbrev cX3_bestWithThing : ByteArray := prog_5_method_10_code
def yX3_bestWithThing : MethodName := ⟨RX3, "bestWithThing", "(I)I"⟩
abbrev cX3_sumIn : ByteArray := prog_5_method_11_code
def yX3_sumIn : MethodName := ⟨RX3, "sumIn", "(I)I"⟩
abbrev cX3_thingIn : ByteArray := prog_5_method_12_code
def yX3_thingIn : MethodName := ⟨RX3, "thingIn", "(II)I"⟩
abbrev cX3_mixMarks : ByteArray := prog_5_method_13_code
def yX3_mixMarks : MethodName := ⟨RX3, "mixMarks", "(JI)J"⟩
abbrev cX3_mixEntries : ByteArray := prog_5_method_14_code
def yX3_mixEntries : MethodName := ⟨RX3, "mixEntries", "(J)J"⟩
def RX4 : String := "DawnFair$Trade"
def TX4 : u_T := fun k => match k with
  | 0 => ("DawnFair$Trade", "holders", "[I", true)
  | 1 => ("DawnFair$Trade", "latest", "[I", true)
  | 2 => ("DawnFair$Trade", "soldAt", "[I", true)
  | 3 => ("DawnFair$Trade", "rows", "[I", true)
  | 4 => ("DawnFair$Trade", "ahead", "[I", true)
  | 5 => ("DawnFair$Trade", "sales", "I", false)
  | _ => ("DawnFair$Trade", "hour", "I", false)
def tyX4 : Nat → FieldType := fun k => match k with
  | 0 => .array .int
  | 1 => .array .int
  | 2 => .array .int
  | 3 => .array .int
  | 4 => .array .int
  | 5 => .int
  | _ => .int
abbrev wsX40 : List Cond := u_ws RX4 TX4 7
theorem nmX4 : ∀ a, a < 7 → ∀ b, b < 7 → a ≠ b → (TX4 a).2.1 ≠ (TX4 b).2.1 := by decide +kernel
theorem tyX4_ok : ∀ k, k < 7 → parseFieldDescriptor (TX4 k).2.2.1 = some (tyX4 k) := by decide +kernel
abbrev cX4_init : ByteArray := prog_6_method_1_code
def yX4_init : MethodName := ⟨RX4, "<init>", "()V"⟩
abbrev cX4_holderOf : ByteArray := prog_6_method_2_code
def yX4_holderOf : MethodName := ⟨RX4, "holderOf", "(I)I"⟩
abbrev cX4_handOver : ByteArray := prog_6_method_3_code
def yX4_handOver : MethodName := ⟨RX4, "handOver", "(II)I"⟩
abbrev cX4_currentHour : ByteArray := prog_6_method_4_code
def yX4_currentHour : MethodName := ⟨RX4, "currentHour", "()I"⟩
abbrev cX4_passHours : ByteArray := prog_6_method_5_code
def yX4_passHours : MethodName := ⟨RX4, "passHours", "(I)I"⟩
abbrev cX4_mayBeSold : ByteArray := prog_6_method_6_code
def yX4_mayBeSold : MethodName := ⟨RX4, "mayBeSold", "(III)Z"⟩
abbrev cX4_addSale : ByteArray := prog_6_method_7_code
def yX4_addSale : MethodName := ⟨RX4, "addSale", "(IIII)I"⟩
abbrev cX4_giveBack : ByteArray := prog_6_method_8_code
def yX4_giveBack : MethodName := ⟨RX4, "giveBack", "(I)I"⟩
abbrev cX4_saleCount : ByteArray := prog_6_method_9_code
def yX4_saleCount : MethodName := ⟨RX4, "saleCount", "()I"⟩
abbrev cX4_field : ByteArray := prog_6_method_10_code
def yX4_field : MethodName := ⟨RX4, "field", "(II)I"⟩
abbrev cX4_stands : ByteArray := prog_6_method_11_code
def yX4_stands : MethodName := ⟨RX4, "stands", "(I)Z"⟩
abbrev cX4_standingCount : ByteArray := prog_6_method_12_code
def yX4_standingCount : MethodName := ⟨RX4, "standingCount", "()I"⟩
abbrev cX4_gainOf : ByteArray := prog_6_method_13_code
def yX4_gainOf : MethodName := ⟨RX4, "gainOf", "(I)I"⟩
abbrev cX4_riseOf : ByteArray := prog_6_method_14_code
def yX4_riseOf : MethodName := ⟨RX4, "riseOf", "(I)I"⟩
abbrev cX4_mixSales : ByteArray := prog_6_method_15_code
def yX4_mixSales : MethodName := ⟨RX4, "mixSales", "(J)J"⟩
def RX5 : String := "DawnFair"
def TX5 : u_T := fun k => match k with
  | 0 => ("DawnFair", "pieces", "LDawnFair$Pieces;", true)
  | 1 => ("DawnFair", "trade", "LDawnFair$Trade;", true)
  | 2 => ("DawnFair", "auctions", "LDawnFair$Auctions;", true)
  | 3 => ("DawnFair", "stolen", "LDawnFair$Stolen;", true)
  | _ => ("DawnFair", "debts", "LDawnFair$Debts;", true)
def tyX5 : Nat → FieldType := fun k => match k with
  | 0 => .object "DawnFair$Pieces"
  | 1 => .object "DawnFair$Trade"
  | 2 => .object "DawnFair$Auctions"
  | 3 => .object "DawnFair$Stolen"
  | _ => .object "DawnFair$Debts"
abbrev wsX50 : List Cond := u_ws RX5 TX5 5
theorem nmX5 : ∀ a, a < 5 → ∀ b, b < 5 → a ≠ b → (TX5 a).2.1 ≠ (TX5 b).2.1 := by decide +kernel
theorem tyX5_ok : ∀ k, k < 5 → parseFieldDescriptor (TX5 k).2.2.1 = some (tyX5 k) := by decide +kernel
abbrev cX5_init : ByteArray := prog_1_method_1_code
def yX5_init : MethodName := ⟨RX5, "<init>", "()V"⟩
abbrev cX5_work : ByteArray := prog_1_method_2_code
def yX5_work : MethodName := ⟨RX5, "work", "(III)I"⟩
abbrev cX5_thing : ByteArray := prog_1_method_3_code
def yX5_thing : MethodName := ⟨RX5, "thing", "(I)I"⟩
abbrev cX5_part : ByteArray := prog_1_method_4_code
def yX5_part : MethodName := ⟨RX5, "part", "(III)I"⟩
abbrev cX5_span : ByteArray := prog_1_method_5_code
def yX5_span : MethodName := ⟨RX5, "span", "(III)I"⟩
abbrev cX5_apart : ByteArray := prog_1_method_6_code
def yX5_apart : MethodName := ⟨RX5, "apart", "(I)I"⟩
abbrev cX5_date : ByteArray := prog_1_method_7_code
def yX5_date : MethodName := ⟨RX5, "date", "(II)I"⟩
abbrev cX5_hold : ByteArray := prog_1_method_8_code
def yX5_hold : MethodName := ⟨RX5, "hold", "(II)I"⟩
abbrev cX5_holder : ByteArray := prog_1_method_9_code
def yX5_holder : MethodName := ⟨RX5, "holder", "(I)I"⟩
abbrev cX5_hours : ByteArray := prog_1_method_10_code
def yX5_hours : MethodName := ⟨RX5, "hours", "(I)I"⟩
abbrev cX5_sell : ByteArray := prog_1_method_11_code
def yX5_sell : MethodName := ⟨RX5, "sell", "(IIII)I"⟩
abbrev cX5_back : ByteArray := prog_1_method_12_code
def yX5_back : MethodName := ⟨RX5, "back", "(I)I"⟩
abbrev cX5_sale : ByteArray := prog_1_method_13_code
def yX5_sale : MethodName := ⟨RX5, "sale", "(II)I"⟩
abbrev cX5_gain : ByteArray := prog_1_method_14_code
def yX5_gain : MethodName := ⟨RX5, "gain", "(I)I"⟩
abbrev cX5_rose : ByteArray := prog_1_method_15_code
def yX5_rose : MethodName := ⟨RX5, "rose", "(I)I"⟩
abbrev cX5_lot : ByteArray := prog_1_method_16_code
def yX5_lot : MethodName := ⟨RX5, "lot", "(III)I"⟩
abbrev cX5_both : ByteArray := prog_1_method_17_code
def yX5_both : MethodName := ⟨RX5, "both", "(III)I"⟩
abbrev cX5_chance : ByteArray := prog_1_method_18_code
def yX5_chance : MethodName := ⟨RX5, "chance", "(III)J"⟩
abbrev cX5_shyest : ByteArray := prog_1_method_19_code
def yX5_shyest : MethodName := ⟨RX5, "shyest", "()I"⟩
abbrev cX5_inside : ByteArray := prog_1_method_20_code
def yX5_inside : MethodName := ⟨RX5, "inside", "(IIII)I"⟩
abbrev cX5_entry : ByteArray := prog_1_method_21_code
def yX5_entry : MethodName := ⟨RX5, "entry", "(I)I"⟩
abbrev cX5_mark : ByteArray := prog_1_method_22_code
def yX5_mark : MethodName := ⟨RX5, "mark", "(III)I"⟩
abbrev cX5_score : ByteArray := prog_1_method_23_code
def yX5_score : MethodName := ⟨RX5, "score", "(II)I"⟩
abbrev cX5_joined : ByteArray := prog_1_method_24_code
def yX5_joined : MethodName := ⟨RX5, "joined", "()I"⟩
abbrev cX5_joinedTo : ByteArray := prog_1_method_25_code
def yX5_joinedTo : MethodName := ⟨RX5, "joinedTo", "(I)I"⟩
abbrev cX5_owe : ByteArray := prog_1_method_26_code
def yX5_owe : MethodName := ⟨RX5, "owe", "(III)I"⟩
abbrev cX5_net : ByteArray := prog_1_method_27_code
def yX5_net : MethodName := ⟨RX5, "net", "(I)I"⟩
abbrev cX5_fall : ByteArray := prog_1_method_28_code
def yX5_fall : MethodName := ⟨RX5, "fall", "(II)I"⟩
abbrev cX5_count : ByteArray := prog_1_method_29_code
def yX5_count : MethodName := ⟨RX5, "count", "(I)I"⟩
abbrev cX5_digest : ByteArray := prog_1_method_30_code
def yX5_digest : MethodName := ⟨RX5, "digest", "()J"⟩
abbrev cX5_mix : ByteArray := prog_1_method_31_code
def yX5_mix : MethodName := ⟨RX5, "mix", "(JI)J"⟩
abbrev cX5_within : ByteArray := prog_1_method_32_code
def yX5_within : MethodName := ⟨RX5, "within", "(III)Z"⟩
abbrev cX5_isDealer : ByteArray := prog_1_method_33_code
def yX5_isDealer : MethodName := ⟨RX5, "isDealer", "(I)Z"⟩
abbrev cX5_areTwo : ByteArray := prog_1_method_34_code
def yX5_areTwo : MethodName := ⟨RX5, "areTwo", "(II)Z"⟩
abbrev cX5_mayHaveWon : ByteArray := prog_1_method_35_code
def yX5_mayHaveWon : MethodName := ⟨RX5, "mayHaveWon", "(II)Z"⟩
def RX6 : String := "DawnFairModel"
def TX6 : u_T := fun k => match k with
  | 0 => ("DawnFairModel", "since", "[I", true)
  | 1 => ("DawnFairModel", "until", "[I", true)
  | 2 => ("DawnFairModel", "things", "I", false)
  | 3 => ("DawnFairModel", "parts", "[I", true)
  | 4 => ("DawnFairModel", "worksOf", "[I", true)
  | 5 => ("DawnFairModel", "holder", "[I", true)
  | 6 => ("DawnFairModel", "latest", "[I", true)
  | 7 => ("DawnFairModel", "seen", "[I", true)
  | 8 => ("DawnFairModel", "lacked", "[I", true)
  | 9 => ("DawnFairModel", "from", "I", false)
  | 10 => ("DawnFairModel", "to", "I", false)
  | 11 => ("DawnFairModel", "hour", "I", false)
  | 12 => ("DawnFairModel", "sales", "I", false)
  | 13 => ("DawnFairModel", "saleThing", "[I", true)
  | 14 => ("DawnFairModel", "seller", "[I", true)
  | 15 => ("DawnFairModel", "buyer", "[I", true)
  | 16 => ("DawnFairModel", "price", "[I", true)
  | 17 => ("DawnFairModel", "soldAt", "[I", true)
  | 18 => ("DawnFairModel", "backBy", "[I", true)
  | 19 => ("DawnFairModel", "stands", "[I", true)
  | 20 => ("DawnFairModel", "ahead", "[I", true)
  | 21 => ("DawnFairModel", "lots", "I", false)
  | 22 => ("DawnFairModel", "there", "[I", true)
  | 23 => ("DawnFairModel", "bid", "[I", true)
  | 24 => ("DawnFairModel", "won", "[I", true)
  | 25 => ("DawnFairModel", "ways", "[J", true)
  | 26 => ("DawnFairModel", "both", "I", false)
  | 27 => ("DawnFairModel", "bidOne", "I", false)
  | 28 => ("DawnFairModel", "bidOther", "I", false)
  | 29 => ("DawnFairModel", "bidBoth", "I", false)
  | 30 => ("DawnFairModel", "upper", "J", false)
  | 31 => ("DawnFairModel", "lower", "J", false)
  | 32 => ("DawnFairModel", "entries", "I", false)
  | 33 => ("DawnFairModel", "marks", "[I", true)
  | 34 => ("DawnFairModel", "sums", "[I", true)
  | 35 => ("DawnFairModel", "joins", "[I", true)
  | 36 => ("DawnFairModel", "scores", "[I", true)
  | _ => ("DawnFairModel", "owes", "[I", true)
def tyX6 : Nat → FieldType := fun k => match k with
  | 0 => .array .int
  | 1 => .array .int
  | 2 => .int
  | 3 => .array .int
  | 4 => .array .int
  | 5 => .array .int
  | 6 => .array .int
  | 7 => .array .int
  | 8 => .array .int
  | 9 => .int
  | 10 => .int
  | 11 => .int
  | 12 => .int
  | 13 => .array .int
  | 14 => .array .int
  | 15 => .array .int
  | 16 => .array .int
  | 17 => .array .int
  | 18 => .array .int
  | 19 => .array .int
  | 20 => .array .int
  | 21 => .int
  | 22 => .array .int
  | 23 => .array .int
  | 24 => .array .int
  | 25 => .array .long
  | 26 => .int
  | 27 => .int
  | 28 => .int
  | 29 => .int
  | 30 => .long
  | 31 => .long
  | 32 => .int
  | 33 => .array .int
  | 34 => .array .int
  | 35 => .array .int
  | 36 => .array .int
  | _ => .array .int
abbrev wsX60 : List Cond := u_ws RX6 TX6 38
theorem nmX6 : ∀ a, a < 38 → ∀ b, b < 38 → a ≠ b → (TX6 a).2.1 ≠ (TX6 b).2.1 := by decide +kernel
theorem tyX6_ok : ∀ k, k < 38 → parseFieldDescriptor (TX6 k).2.2.1 = some (tyX6 k) := by decide +kernel
abbrev cX6_init : ByteArray := prog_8_method_1_code
def yX6_init : MethodName := ⟨RX6, "<init>", "()V"⟩
abbrev cX6_in : ByteArray := prog_8_method_3_code
def yX6_in : MethodName := ⟨RX6, "in", "(JJJ)Z"⟩
abbrev cX6_isDealer : ByteArray := prog_8_method_4_code
def yX6_isDealer : MethodName := ⟨RX6, "isDealer", "(I)Z"⟩
abbrev cX6_work : ByteArray := prog_8_method_5_code
def yX6_work : MethodName := ⟨RX6, "work", "(III)I"⟩
abbrev cX6_thing : ByteArray := prog_8_method_6_code
def yX6_thing : MethodName := ⟨RX6, "thing", "(I)I"⟩
abbrev cX6_noThing : ByteArray := prog_8_method_7_code
def yX6_noThing : MethodName := ⟨RX6, "noThing", "(I)Z"⟩
abbrev cX6_part : ByteArray := prog_8_method_8_code
def yX6_part : MethodName := ⟨RX6, "part", "(III)I"⟩
abbrev cX6_narrow : ByteArray := prog_8_method_9_code
def yX6_narrow : MethodName := ⟨RX6, "narrow", "(II)V"⟩
abbrev cX6_allYears : ByteArray := prog_8_method_10_code
def yX6_allYears : MethodName := ⟨RX6, "allYears", "()V"⟩
abbrev cX6_span : ByteArray := prog_8_method_11_code
def yX6_span : MethodName := ⟨RX6, "span", "(III)I"⟩
abbrev cX6_bits : ByteArray := prog_8_method_12_code
def yX6_bits : MethodName := ⟨RX6, "bits", "(I)I"⟩
abbrev cX6_findApart : ByteArray := prog_8_method_13_code
def yX6_findApart : MethodName := ⟨RX6, "findApart", "(I)I"⟩
abbrev cX6_apart : ByteArray := prog_8_method_14_code
def yX6_apart : MethodName := ⟨RX6, "apart", "(I)I"⟩
abbrev cX6_date : ByteArray := prog_8_method_15_code
def yX6_date : MethodName := ⟨RX6, "date", "(II)I"⟩
abbrev cX6_hold : ByteArray := prog_8_method_16_code
def yX6_hold : MethodName := ⟨RX6, "hold", "(II)I"⟩
abbrev cX6_holder : ByteArray := prog_8_method_17_code
def yX6_holder : MethodName := ⟨RX6, "holder", "(I)I"⟩
abbrev cX6_hours : ByteArray := prog_8_method_18_code
def yX6_hours : MethodName := ⟨RX6, "hours", "(I)I"⟩
abbrev cX6_wasSoldNow : ByteArray := prog_8_method_19_code
def yX6_wasSoldNow : MethodName := ⟨RX6, "wasSoldNow", "(I)Z"⟩
abbrev cX6_sell : ByteArray := prog_8_method_20_code
def yX6_sell : MethodName := ⟨RX6, "sell", "(IIII)I"⟩
abbrev cX6_back : ByteArray := prog_8_method_21_code
def yX6_back : MethodName := ⟨RX6, "back", "(I)I"⟩
abbrev cX6_saleOf : ByteArray := prog_8_method_22_code
def yX6_saleOf : MethodName := ⟨RX6, "saleOf", "(II)I"⟩
abbrev cX6_sale : ByteArray := prog_8_method_23_code
def yX6_sale : MethodName := ⟨RX6, "sale", "(II)I"⟩
abbrev cX6_gainOf : ByteArray := prog_8_method_24_code
def yX6_gainOf : MethodName := ⟨RX6, "gainOf", "(I)I"⟩
abbrev cX6_gain : ByteArray := prog_8_method_25_code
def yX6_gain : MethodName := ⟨RX6, "gain", "(I)I"⟩
abbrev cX6_rose : ByteArray := prog_8_method_26_code
def yX6_rose : MethodName := ⟨RX6, "rose", "(I)I"⟩
abbrev cX6_lot : ByteArray := prog_8_method_27_code
def yX6_lot : MethodName := ⟨RX6, "lot", "(III)I"⟩
abbrev cX6_findBoth : ByteArray := prog_8_method_28_code
def yX6_findBoth : MethodName := ⟨RX6, "findBoth", "(II)V"⟩
abbrev cX6_isPair : ByteArray := prog_8_method_29_code
def yX6_isPair : MethodName := ⟨RX6, "isPair", "(II)Z"⟩
abbrev cX6_both : ByteArray := prog_8_method_30_code
def yX6_both : MethodName := ⟨RX6, "both", "(III)I"⟩
abbrev cX6_choose : ByteArray := prog_8_method_31_code
def yX6_choose : MethodName := ⟨RX6, "choose", "(II)J"⟩
abbrev cX6_gcd : ByteArray := prog_8_method_32_code
def yX6_gcd : MethodName := ⟨RX6, "gcd", "(JJ)J"⟩
abbrev cX6_findChance : ByteArray := prog_8_method_33_code
def yX6_findChance : MethodName := ⟨RX6, "findChance", "(II)V"⟩
abbrev cX6_chance : ByteArray := prog_8_method_34_code
def yX6_chance : MethodName := ⟨RX6, "chance", "(III)J"⟩
abbrev cX6_isLess : ByteArray := prog_8_method_35_code
def yX6_isLess : MethodName := ⟨RX6, "isLess", "(JJJJ)Z"⟩
abbrev cX6_shyest : ByteArray := prog_8_method_36_code
def yX6_shyest : MethodName := ⟨RX6, "shyest", "()I"⟩
abbrev cX6_inside : ByteArray := prog_8_method_37_code
def yX6_inside : MethodName := ⟨RX6, "inside", "(IIII)I"⟩
abbrev cX6_entry : ByteArray := prog_8_method_38_code
def yX6_entry : MethodName := ⟨RX6, "entry", "(I)I"⟩
abbrev cX6_mark : ByteArray := prog_8_method_39_code
def yX6_mark : MethodName := ⟨RX6, "mark", "(III)I"⟩
abbrev cX6_scoreOf : ByteArray := prog_8_method_40_code
def yX6_scoreOf : MethodName := ⟨RX6, "scoreOf", "(II)I"⟩
abbrev cX6_score : ByteArray := prog_8_method_41_code
def yX6_score : MethodName := ⟨RX6, "score", "(II)I"⟩
abbrev cX6_findJoined : ByteArray := prog_8_method_42_code
def yX6_findJoined : MethodName := ⟨RX6, "findJoined", "()V"⟩
abbrev cX6_joined : ByteArray := prog_8_method_43_code
def yX6_joined : MethodName := ⟨RX6, "joined", "()I"⟩
abbrev cX6_joinedTo : ByteArray := prog_8_method_44_code
def yX6_joinedTo : MethodName := ⟨RX6, "joinedTo", "(I)I"⟩
abbrev cX6_owe : ByteArray := prog_8_method_45_code
def yX6_owe : MethodName := ⟨RX6, "owe", "(III)I"⟩
abbrev cX6_owed : ByteArray := prog_8_method_46_code
def yX6_owed : MethodName := ⟨RX6, "owed", "(II)I"⟩
abbrev cX6_owing : ByteArray := prog_8_method_47_code
def yX6_owing : MethodName := ⟨RX6, "owing", "(I)I"⟩
abbrev cX6_net : ByteArray := prog_8_method_48_code
def yX6_net : MethodName := ⟨RX6, "net", "(I)I"⟩
abbrev cX6_fall : ByteArray := prog_8_method_49_code
def yX6_fall : MethodName := ⟨RX6, "fall", "(II)I"⟩
abbrev cX6_standing : ByteArray := prog_8_method_50_code
def yX6_standing : MethodName := ⟨RX6, "standing", "()I"⟩
abbrev cX6_allDebts : ByteArray := prog_8_method_51_code
def yX6_allDebts : MethodName := ⟨RX6, "allDebts", "()I"⟩
abbrev cX6_count : ByteArray := prog_8_method_52_code
def yX6_count : MethodName := ⟨RX6, "count", "(I)I"⟩
abbrev cX6_digest : ByteArray := prog_8_method_53_code
def yX6_digest : MethodName := ⟨RX6, "digest", "()J"⟩
def RJ6 : String := "java/lang/Integer"
def TJ6 : u_T := fun k => match k with
  | _ => ("", "", "", false)
def tyJ6 : Nat → FieldType := fun k => match k with
  | _ => .int
abbrev wsJ60 : List Cond := u_ws RJ6 TJ6 0
theorem nmJ6 : ∀ a, a < 0 → ∀ b, b < 0 → a ≠ b → (TJ6 a).2.1 ≠ (TJ6 b).2.1 := by decide +kernel
theorem tyJ6_ok : ∀ k, k < 0 → parseFieldDescriptor (TJ6 k).2.2.1 = some (tyJ6 k) := by decide +kernel
abbrev cJ6_bitCount_0f7a4 : ByteArray := prog_9_method_49_code
def yJ6_bitCount_0f7a4 : MethodName := ⟨RJ6, "bitCount", "(I)I"⟩
def RJ9 : String := "java/lang/Math"
def TJ9 : u_T := fun k => match k with
  | _ => ("", "", "", false)
def tyJ9 : Nat → FieldType := fun k => match k with
  | _ => .int
abbrev wsJ90 : List Cond := u_ws RJ9 TJ9 0
theorem nmJ9 : ∀ a, a < 0 → ∀ b, b < 0 → a ≠ b → (TJ9 a).2.1 ≠ (TJ9 b).2.1 := by decide +kernel
theorem tyJ9_ok : ∀ k, k < 0 → parseFieldDescriptor (TJ9 k).2.2.1 = some (tyJ9 k) := by decide +kernel
abbrev cJ9_max_7cf53 : ByteArray := prog_10_method_65_code
def yJ9_max_7cf53 : MethodName := ⟨RJ9, "max", "(II)I"⟩
abbrev cJ9_max_f86c9 : ByteArray := prog_10_method_66_code
def yJ9_max_f86c9 : MethodName := ⟨RJ9, "max", "(JJ)J"⟩
abbrev cJ9_min_7cf53 : ByteArray := prog_10_method_69_code
def yJ9_min_7cf53 : MethodName := ⟨RJ9, "min", "(II)I"⟩
def RJ7 : String := "java/util/Arrays"
def TJ7 : u_T := fun k => match k with
  | _ => ("", "", "", false)
def tyJ7 : Nat → FieldType := fun k => match k with
  | _ => .int
abbrev wsJ70 : List Cond := u_ws RJ7 TJ7 0
theorem nmJ7 : ∀ a, a < 0 → ∀ b, b < 0 → a ≠ b → (TJ7 a).2.1 ≠ (TJ7 b).2.1 := by decide +kernel
theorem tyJ7_ok : ∀ k, k < 0 → parseFieldDescriptor (TJ7 k).2.2.1 = some (tyJ7 k) := by decide +kernel
abbrev cJ7_fill_53178 : ByteArray := prog_11_method_103_code
def yJ7_fill_53178 : MethodName := ⟨RJ7, "fill", "([II)V"⟩
def RL : String := "DawnFairLaw"
abbrev cL_law : ByteArray := code
def yL_law : MethodName := ⟨RL, "law", "([I)Z"⟩
def wsX0_init : List Cond := .code yX0_init cX0_init 1 none :: ([.methodLink RX0 5 objectInit, .instanceMethod objectInit, .code objectInit ⟨#[0xb1]⟩ 1 none, .arrayClass .int, .fieldLink RX0 11 "DawnFair$Auctions" "there" "[I", .fieldLink RX0 15 "DawnFair$Auctions" "bid" "[I", .fieldLink RX0 18 "DawnFair$Auctions" "won" "[I", .fieldLink RX0 21 "DawnFair$Auctions" "lots" "I"] ++ wsX00)
def wsX0_addLot : List Cond := .code yX0_addLot cX0_addLot 4 (some .int) :: ([.fieldLink RX0 21 "DawnFair$Auctions" "lots" "I", .fieldLink RX0 11 "DawnFair$Auctions" "there" "[I", .fieldLink RX0 15 "DawnFair$Auctions" "bid" "[I", .fieldLink RX0 18 "DawnFair$Auctions" "won" "[I"] ++ wsX00)
def wsX0_lotCount : List Cond := .code yX0_lotCount cX0_lotCount 1 (some .int) :: ([.fieldLink RX0 21 "DawnFair$Auctions" "lots" "I"] ++ wsX00)
def wsX0_tally : List Cond := .code yX0_tally cX0_tally 8 (some .int) :: ([.fieldLink RX0 21 "DawnFair$Auctions" "lots" "I", .fieldLink RX0 11 "DawnFair$Auctions" "there" "[I", .fieldLink RX0 15 "DawnFair$Auctions" "bid" "[I"] ++ wsX00)
def wsX0_choose : List Cond := .code yX0_choose cX0_choose 5 (some .long) :: ([])
def wsX0_allWays : List Cond := .code yX0_allWays cX0_allWays 3 (some .long) :: ([.methodLink RX0 25 yX0_tally, .instanceMethod yX0_tally, .selects RX0 yX0_tally yX0_tally, .initialized RX0, .code yX0_tally cX0_tally 8 (some .int), .fieldLink RX0 21 "DawnFair$Auctions" "lots" "I", .fieldLink RX0 11 "DawnFair$Auctions" "there" "[I", .fieldLink RX0 15 "DawnFair$Auctions" "bid" "[I", .methodLink RX0 29 yX0_choose, .static yX0_choose, .code yX0_choose cX0_choose 5 (some .long)] ++ wsX00)
def wsX0_waysAsShy : List Cond := .code yX0_waysAsShy cX0_waysAsShy 10 (some .long) :: ([.methodLink RX0 33 Lib.Math.max.name, .static Lib.Math.max.name, .initialized "java/lang/Math", .code Lib.Math.max.name Lib.Math.max.code 2 (some .int), .methodLink RX0 25 yX0_tally, .instanceMethod yX0_tally, .selects RX0 yX0_tally yX0_tally, .initialized RX0, .code yX0_tally cX0_tally 8 (some .int), .fieldLink RX0 21 "DawnFair$Auctions" "lots" "I", .fieldLink RX0 11 "DawnFair$Auctions" "there" "[I", .fieldLink RX0 15 "DawnFair$Auctions" "bid" "[I", .methodLink RX0 29 yX0_choose, .static yX0_choose, .code yX0_choose cX0_choose 5 (some .long)] ++ wsX00)
def wsX0_productBelow : List Cond := .code yX0_productBelow cX0_productBelow 12 (some .boolean) :: ([.constantLong RX0 49 (1048575)])
def wsX0_shyestTwo_r1 : List Cond := [Cond.methodLink RX0 39 yX0_waysAsShy, Cond.instanceMethod yX0_waysAsShy, Cond.selects RX0 yX0_waysAsShy yX0_waysAsShy, Cond.initialized RX0, Cond.code yX0_waysAsShy cX0_waysAsShy 10 (some .long), Cond.methodLink RX0 33 Lib.Math.max.name, Cond.static Lib.Math.max.name, Cond.initialized "java/lang/Math", Cond.code Lib.Math.max.name Lib.Math.max.code 2 (some .int), Cond.methodLink RX0 25 yX0_tally, Cond.instanceMethod yX0_tally, Cond.selects RX0 yX0_tally yX0_tally, Cond.code yX0_tally cX0_tally 8 (some .int), Cond.fieldLink RX0 21 "DawnFair$Auctions" "lots" "I", Cond.fieldLink RX0 11 "DawnFair$Auctions" "there" "[I", Cond.fieldLink RX0 15 "DawnFair$Auctions" "bid" "[I", Cond.methodLink RX0 29 yX0_choose, Cond.static yX0_choose, Cond.code yX0_choose cX0_choose 5 (some .long), Cond.methodLink RX0 42 yX0_allWays, Cond.instanceMethod yX0_allWays, Cond.selects RX0 yX0_allWays yX0_allWays, Cond.code yX0_allWays cX0_allWays 3 (some .long), Cond.methodLink RX0 45 yX0_productBelow]
def wsX0_shyestTwo_r2 : List Cond := [Cond.static yX0_productBelow, Cond.code yX0_productBelow cX0_productBelow 12 (some .boolean), Cond.constantLong RX0 49 (1048575)]
def wsX0_shyestTwo : List Cond := .code yX0_shyestTwo cX0_shyestTwo 13 (some .int) :: ((wsX0_shyestTwo_r1 ++ wsX0_shyestTwo_r2) ++ wsX00)
def wsX0_commonDivisor : List Cond := .code yX0_commonDivisor cX0_commonDivisor 11 (some .long) :: ([])
def wsX5_mix : List Cond := .code yX5_mix cX5_mix 3 (some .long) :: ([.constantLong RX5 233 (31)])
def wsX0_mixLots : List Cond := .code yX0_mixLots cX0_mixLots 6 (some .long) :: ([.fieldLink RX0 21 "DawnFair$Auctions" "lots" "I", .fieldLink RX0 11 "DawnFair$Auctions" "there" "[I", .fieldLink RX0 15 "DawnFair$Auctions" "bid" "[I", .fieldLink RX0 18 "DawnFair$Auctions" "won" "[I", .static yX5_mix, .initialized RX5, .code yX5_mix cX5_mix 3 (some .long), .constantLong RX5 233 (31)] ++ wsX00)
def wsX1_init : List Cond := .code yX1_init cX1_init 1 none :: ([.methodLink RX1 3 objectInit, .instanceMethod objectInit, .code objectInit ⟨#[0xb1]⟩ 1 none, .arrayClass .int, .fieldLink RX1 9 "DawnFair$Debts" "owed" "[I"] ++ wsX10)
def wsX1_change : List Cond := .code yX1_change cX1_change 5 (some .int) :: ([.fieldLink RX1 9 "DawnFair$Debts" "owed" "[I"] ++ wsX10)
def wsX1_total : List Cond := .code yX1_total cX1_total 3 (some .int) :: ([.fieldLink RX1 9 "DawnFair$Debts" "owed" "[I"] ++ wsX10)
def wsX1_owedTo : List Cond := .code yX1_owedTo cX1_owedTo 5 (some .int) :: ([.fieldLink RX1 9 "DawnFair$Debts" "owed" "[I"] ++ wsX10)
def wsX1_owedBy : List Cond := .code yX1_owedBy cX1_owedBy 4 (some .int) :: ([.fieldLink RX1 9 "DawnFair$Debts" "owed" "[I"] ++ wsX10)
def wsX1_netOf : List Cond := .code yX1_netOf cX1_netOf 2 (some .int) :: ([.methodLink RX1 15 yX1_owedTo, .instanceMethod yX1_owedTo, .selects RX1 yX1_owedTo yX1_owedTo, .initialized RX1, .code yX1_owedTo cX1_owedTo 5 (some .int), .fieldLink RX1 9 "DawnFair$Debts" "owed" "[I", .methodLink RX1 19 yX1_owedBy, .instanceMethod yX1_owedBy, .selects RX1 yX1_owedBy yX1_owedBy, .code yX1_owedBy cX1_owedBy 4 (some .int)] ++ wsX10)
def wsX1_fallingNext : List Cond := .code yX1_fallingNext cX1_fallingNext 6 (some .int) :: ([.methodLink RX1 15 yX1_owedTo, .instanceMethod yX1_owedTo, .selects RX1 yX1_owedTo yX1_owedTo, .initialized RX1, .code yX1_owedTo cX1_owedTo 5 (some .int), .fieldLink RX1 9 "DawnFair$Debts" "owed" "[I", .methodLink RX1 19 yX1_owedBy, .instanceMethod yX1_owedBy, .selects RX1 yX1_owedBy yX1_owedBy, .code yX1_owedBy cX1_owedBy 4 (some .int)] ++ wsX10)
def wsX1_fallFrom : List Cond := .code yX1_fallFrom cX1_fallFrom 5 (some .int) :: ([.methodLink RX1 23 yX1_fallingNext, .instanceMethod yX1_fallingNext, .selects RX1 yX1_fallingNext yX1_fallingNext, .initialized RX1, .code yX1_fallingNext cX1_fallingNext 6 (some .int), .methodLink RX1 15 yX1_owedTo, .instanceMethod yX1_owedTo, .selects RX1 yX1_owedTo yX1_owedTo, .code yX1_owedTo cX1_owedTo 5 (some .int), .fieldLink RX1 9 "DawnFair$Debts" "owed" "[I", .methodLink RX1 19 yX1_owedBy, .instanceMethod yX1_owedBy, .selects RX1 yX1_owedBy yX1_owedBy, .code yX1_owedBy cX1_owedBy 4 (some .int)] ++ wsX10)
def wsJ7_fill_53178 : List Cond := .code yJ7_fill_53178 cJ7_fill_53178 4 none :: ([])
def wsX2_init : List Cond := .code yX2_init cX2_init 1 none :: ([.methodLink RX2 3 objectInit, .instanceMethod objectInit, .code objectInit ⟨#[0xb1]⟩ 1 none, .arrayClass .int, .fieldLink RX2 9 "DawnFair$Pieces" "from" "[I", .fieldLink RX2 15 "DawnFair$Pieces" "to" "[I", .fieldLink RX2 18 "DawnFair$Pieces" "parts" "[I", .fieldLink RX2 21 "DawnFair$Pieces" "works" "[I", .fieldLink RX2 24 "DawnFair$Pieces" "things" "I", .methodLink RX2 28 yJ7_fill_53178, .static yJ7_fill_53178, .initialized RJ7, .code yJ7_fill_53178 cJ7_fill_53178 4 none] ++ wsX20)
def wsX2_setYears : List Cond := .code yX2_setYears cX2_setYears 4 none :: ([.fieldLink RX2 9 "DawnFair$Pieces" "from" "[I", .fieldLink RX2 15 "DawnFair$Pieces" "to" "[I"] ++ wsX20)
def wsX2_addThing : List Cond := .code yX2_addThing cX2_addThing 2 (some .int) :: ([.fieldLink RX2 24 "DawnFair$Pieces" "things" "I", .fieldLink RX2 18 "DawnFair$Pieces" "parts" "[I"] ++ wsX20)
def wsX2_thingCount : List Cond := .code yX2_thingCount cX2_thingCount 1 (some .int) :: ([.fieldLink RX2 24 "DawnFair$Pieces" "things" "I"] ++ wsX20)
def wsX5_within : List Cond := .code yX5_within cX5_within 3 (some .boolean) :: ([])
def wsX2_hasThing : List Cond := .code yX2_hasThing cX2_hasThing 2 (some .boolean) :: ([.fieldLink RX2 24 "DawnFair$Pieces" "things" "I", .static yX5_within, .initialized RX5, .code yX5_within cX5_within 3 (some .boolean)] ++ wsX20)
def wsX2_hasPart : List Cond := .code yX2_hasPart cX2_hasPart 3 (some .boolean) :: ([.fieldLink RX2 18 "DawnFair$Pieces" "parts" "[I", .methodLink RX2 38 yX2_hasThing, .instanceMethod yX2_hasThing, .selects RX2 yX2_hasThing yX2_hasThing, .initialized RX2, .code yX2_hasThing cX2_hasThing 2 (some .boolean), .fieldLink RX2 24 "DawnFair$Pieces" "things" "I", .static yX5_within, .initialized RX5, .code yX5_within cX5_within 3 (some .boolean)] ++ wsX20)
def wsX2_worksOf : List Cond := .code yX2_worksOf cX2_worksOf 3 (some .int) :: ([.fieldLink RX2 21 "DawnFair$Pieces" "works" "[I"] ++ wsX20)
def wsX2_changeWorks : List Cond := .code yX2_changeWorks cX2_changeWorks 5 (some .int) :: ([.fieldLink RX2 21 "DawnFair$Pieces" "works" "[I", .methodLink RX2 42 yX2_worksOf, .instanceMethod yX2_worksOf, .selects RX2 yX2_worksOf yX2_worksOf, .initialized RX2, .code yX2_worksOf cX2_worksOf 3 (some .int)] ++ wsX20)
def wsX2_worksWithout : List Cond := .code yX2_worksWithout cX2_worksWithout 5 (some .int) :: ([.fieldLink RX2 18 "DawnFair$Pieces" "parts" "[I", .methodLink RX2 42 yX2_worksOf, .instanceMethod yX2_worksOf, .selects RX2 yX2_worksOf yX2_worksOf, .initialized RX2, .code yX2_worksOf cX2_worksOf 3 (some .int), .fieldLink RX2 21 "DawnFair$Pieces" "works" "[I"] ++ wsX20)
def wsX2_yearOf : List Cond := .code yX2_yearOf cX2_yearOf 6 (some .int) :: ([.fieldLink RX2 9 "DawnFair$Pieces" "from" "[I", .methodLink RX2 46 Lib.Math.max.name, .static Lib.Math.max.name, .initialized "java/lang/Math", .code Lib.Math.max.name Lib.Math.max.code 2 (some .int), .fieldLink RX2 15 "DawnFair$Pieces" "to" "[I", .methodLink RX2 51 Lib.Math.min.name, .static Lib.Math.min.name, .code Lib.Math.min.name Lib.Math.min.code 2 (some .int)] ++ wsX20)
def wsJ6_bitCount_0f7a4 : List Cond := .code yJ6_bitCount_0f7a4 cJ6_bitCount_0f7a4 1 (some .int) :: ([.constant RJ6 265 (1431655765), .constant RJ6 266 (858993459), .constant RJ6 267 (252645135)])
def wsX2_strangers_r1 : List Cond := [Cond.fieldLink RX2 18 "DawnFair$Pieces" "parts" "[I", Cond.methodLink RX2 54 yJ6_bitCount_0f7a4, Cond.static yJ6_bitCount_0f7a4, Cond.initialized RJ6, Cond.code yJ6_bitCount_0f7a4 cJ6_bitCount_0f7a4 1 (some .int), Cond.constant RJ6 265 (1431655765), Cond.constant RJ6 266 (858993459), Cond.constant RJ6 267 (252645135), Cond.methodLink RX2 60 yX2_worksWithout, Cond.instanceMethod yX2_worksWithout, Cond.selects RX2 yX2_worksWithout yX2_worksWithout, Cond.initialized RX2, Cond.code yX2_worksWithout cX2_worksWithout 5 (some .int), Cond.methodLink RX2 42 yX2_worksOf, Cond.instanceMethod yX2_worksOf, Cond.selects RX2 yX2_worksOf yX2_worksOf, Cond.code yX2_worksOf cX2_worksOf 3 (some .int), Cond.fieldLink RX2 21 "DawnFair$Pieces" "works" "[I", Cond.methodLink RX2 63 yX2_yearOf, Cond.instanceMethod yX2_yearOf, Cond.selects RX2 yX2_yearOf yX2_yearOf, Cond.code yX2_yearOf cX2_yearOf 6 (some .int), Cond.fieldLink RX2 9 "DawnFair$Pieces" "from" "[I", Cond.methodLink RX2 46 Lib.Math.max.name]
def wsX2_strangers_r2 : List Cond := [Cond.static Lib.Math.max.name, Cond.initialized "java/lang/Math", Cond.code Lib.Math.max.name Lib.Math.max.code 2 (some .int), Cond.fieldLink RX2 15 "DawnFair$Pieces" "to" "[I", Cond.methodLink RX2 51 Lib.Math.min.name, Cond.static Lib.Math.min.name, Cond.code Lib.Math.min.name Lib.Math.min.code 2 (some .int)]
def wsX2_strangers : List Cond := .code yX2_strangers cX2_strangers 6 (some .int) :: ((wsX2_strangers_r1 ++ wsX2_strangers_r2) ++ wsX20)
def wsX2_mixWorks : List Cond := .code yX2_mixWorks cX2_mixWorks 6 (some .long) :: ([.fieldLink RX2 9 "DawnFair$Pieces" "from" "[I", .fieldLink RX2 15 "DawnFair$Pieces" "to" "[I", .static yX5_mix, .initialized RX5, .code yX5_mix cX5_mix 3 (some .long), .constantLong RX5 233 (31)] ++ wsX20)
def wsX2_mixParts : List Cond := .code yX2_mixParts cX2_mixParts 7 (some .long) :: ([.fieldLink RX2 18 "DawnFair$Pieces" "parts" "[I", .static yX5_mix, .initialized RX5, .code yX5_mix cX5_mix 3 (some .long), .constantLong RX5 233 (31), .methodLink RX2 42 yX2_worksOf, .instanceMethod yX2_worksOf, .selects RX2 yX2_worksOf yX2_worksOf, .initialized RX2, .code yX2_worksOf cX2_worksOf 3 (some .int), .fieldLink RX2 21 "DawnFair$Pieces" "works" "[I"] ++ wsX20)
def wsX3_init : List Cond := .code yX3_init cX3_init 1 none :: ([.methodLink RX3 3 objectInit, .instanceMethod objectInit, .code objectInit ⟨#[0xb1]⟩ 1 none, .arrayClass .int, .fieldLink RX3 9 "DawnFair$Stolen" "entryMarks" "[I", .fieldLink RX3 15 "DawnFair$Stolen" "seen" "[I", .fieldLink RX3 18 "DawnFair$Stolen" "lacked" "[I", .fieldLink RX3 21 "DawnFair$Stolen" "best" "[I", .fieldLink RX3 24 "DawnFair$Stolen" "worth" "[I", .fieldLink RX3 27 "DawnFair$Stolen" "entries" "I"] ++ wsX30)
def wsX3_addEntry : List Cond := .code yX3_addEntry cX3_addEntry 2 (some .int) :: ([.fieldLink RX3 27 "DawnFair$Stolen" "entries" "I", .fieldLink RX3 9 "DawnFair$Stolen" "entryMarks" "[I"] ++ wsX30)
def wsX3_entryCount : List Cond := .code yX3_entryCount cX3_entryCount 1 (some .int) :: ([.fieldLink RX3 27 "DawnFair$Stolen" "entries" "I"] ++ wsX30)
def wsX3_hasEntry : List Cond := .code yX3_hasEntry cX3_hasEntry 2 (some .boolean) :: ([.fieldLink RX3 27 "DawnFair$Stolen" "entries" "I", .static yX5_within, .initialized RX5, .code yX5_within cX5_within 3 (some .boolean)] ++ wsX30)
def wsX3_changeMark : List Cond := .code yX3_changeMark cX3_changeMark 6 (some .int) :: ([.fieldLink RX3 15 "DawnFair$Stolen" "seen" "[I", .fieldLink RX3 18 "DawnFair$Stolen" "lacked" "[I"] ++ wsX30)
def wsX3_scoreOf : List Cond := .code yX3_scoreOf cX3_scoreOf 4 (some .int) :: ([.fieldLink RX3 9 "DawnFair$Stolen" "entryMarks" "[I", .fieldLink RX3 15 "DawnFair$Stolen" "seen" "[I", .fieldLink RX3 18 "DawnFair$Stolen" "lacked" "[I", .methodLink RX3 35 yJ6_bitCount_0f7a4, .static yJ6_bitCount_0f7a4, .initialized RJ6, .code yJ6_bitCount_0f7a4 cJ6_bitCount_0f7a4 1 (some .int), .constant RJ6 265 (1431655765), .constant RJ6 266 (858993459), .constant RJ6 267 (252645135)] ++ wsX30)
def wsX3_isJoinable : List Cond := .code yX3_isJoinable cX3_isJoinable 1 (some .boolean) :: ([.fieldLink RX3 27 "DawnFair$Stolen" "entries" "I"] ++ wsX30)
def wsX3_weigh_r1 : List Cond := [Cond.fieldLink RX3 24 "DawnFair$Stolen" "worth" "[I", Cond.constant RX3 67 (4826809), Cond.fieldLink RX3 68 "DawnFair$Stolen" "PLACES" "[I", Cond.methodLink RX3 60 yX3_hasEntry, Cond.instanceMethod yX3_hasEntry, Cond.selects RX3 yX3_hasEntry yX3_hasEntry, Cond.initialized RX3, Cond.code yX3_hasEntry cX3_hasEntry 2 (some .boolean), Cond.fieldLink RX3 27 "DawnFair$Stolen" "entries" "I", Cond.static yX5_within, Cond.initialized RX5, Cond.code yX5_within cX5_within 3 (some .boolean), Cond.methodLink RX3 64 yX3_scoreOf, Cond.instanceMethod yX3_scoreOf, Cond.selects RX3 yX3_scoreOf yX3_scoreOf, Cond.code yX3_scoreOf cX3_scoreOf 4 (some .int), Cond.fieldLink RX3 9 "DawnFair$Stolen" "entryMarks" "[I", Cond.fieldLink RX3 15 "DawnFair$Stolen" "seen" "[I", Cond.fieldLink RX3 18 "DawnFair$Stolen" "lacked" "[I", Cond.methodLink RX3 35 yJ6_bitCount_0f7a4, Cond.static yJ6_bitCount_0f7a4, Cond.initialized RJ6, Cond.code yJ6_bitCount_0f7a4 cJ6_bitCount_0f7a4 1 (some .int), Cond.constant RJ6 265 (1431655765)]
def wsX3_weigh_r2 : List Cond := [Cond.constant RJ6 266 (858993459), Cond.constant RJ6 267 (252645135)]
def wsX3_weigh : List Cond := .code yX3_weigh cX3_weigh 4 none :: ((wsX3_weigh_r1 ++ wsX3_weigh_r2) ++ wsX30)
def wsX3_bestWithThing : List Cond := .code yX3_bestWithThing cX3_bestWithThing 4 (some .int) :: ([.fieldLink RX3 21 "DawnFair$Stolen" "best" "[I", .fieldLink RX3 24 "DawnFair$Stolen" "worth" "[I", .methodLink RX3 71 Lib.Math.max.name, .static Lib.Math.max.name, .initialized "java/lang/Math", .code Lib.Math.max.name Lib.Math.max.code 2 (some .int)] ++ wsX30)
def wsX3_bestJoin_r1 : List Cond := [Cond.fieldLink RX3 27 "DawnFair$Stolen" "entries" "I", Cond.methodLink RX3 41 Lib.Math.min.name, Cond.static Lib.Math.min.name, Cond.initialized "java/lang/Math", Cond.code Lib.Math.min.name Lib.Math.min.code 2 (some .int), Cond.fieldLink RX3 21 "DawnFair$Stolen" "best" "[I", Cond.methodLink RX3 47 yJ7_fill_53178, Cond.static yJ7_fill_53178, Cond.initialized RJ7, Cond.code yJ7_fill_53178 cJ7_fill_53178 4 none, Cond.methodLink RX3 53 yX3_weigh, Cond.instanceMethod yX3_weigh, Cond.selects RX3 yX3_weigh yX3_weigh, Cond.initialized RX3, Cond.code yX3_weigh cX3_weigh 4 none, Cond.fieldLink RX3 24 "DawnFair$Stolen" "worth" "[I", Cond.constant RX3 67 (4826809), Cond.fieldLink RX3 68 "DawnFair$Stolen" "PLACES" "[I", Cond.methodLink RX3 60 yX3_hasEntry, Cond.instanceMethod yX3_hasEntry, Cond.selects RX3 yX3_hasEntry yX3_hasEntry, Cond.code yX3_hasEntry cX3_hasEntry 2 (some .boolean), Cond.static yX5_within, Cond.initialized RX5]
def wsX3_bestJoin_r2 : List Cond := [Cond.code yX5_within cX5_within 3 (some .boolean), Cond.methodLink RX3 64 yX3_scoreOf, Cond.instanceMethod yX3_scoreOf, Cond.selects RX3 yX3_scoreOf yX3_scoreOf, Cond.code yX3_scoreOf cX3_scoreOf 4 (some .int), Cond.fieldLink RX3 9 "DawnFair$Stolen" "entryMarks" "[I", Cond.fieldLink RX3 15 "DawnFair$Stolen" "seen" "[I", Cond.fieldLink RX3 18 "DawnFair$Stolen" "lacked" "[I", Cond.methodLink RX3 35 yJ6_bitCount_0f7a4, Cond.static yJ6_bitCount_0f7a4, Cond.initialized RJ6, Cond.code yJ6_bitCount_0f7a4 cJ6_bitCount_0f7a4 1 (some .int), Cond.constant RJ6 265 (1431655765), Cond.constant RJ6 266 (858993459), Cond.constant RJ6 267 (252645135), Cond.methodLink RX3 57 yX3_bestWithThing, Cond.instanceMethod yX3_bestWithThing, Cond.selects RX3 yX3_bestWithThing yX3_bestWithThing, Cond.code yX3_bestWithThing cX3_bestWithThing 4 (some .int), Cond.methodLink RX3 71 Lib.Math.max.name, Cond.static Lib.Math.max.name, Cond.code Lib.Math.max.name Lib.Math.max.code 2 (some .int)]
def wsX3_bestJoin : List Cond := .code yX3_bestJoin cX3_bestJoin 5 (some .int) :: ((wsX3_bestJoin_r1 ++ wsX3_bestJoin_r2) ++ wsX30)
def wsX3_sumIn : List Cond := .code yX3_sumIn cX3_sumIn 1 (some .int) :: ([.constant RX3 67 (4826809)])
def wsX3_thingIn : List Cond := .code yX3_thingIn cX3_thingIn 3 (some .int) :: ([.fieldLink RX3 68 "DawnFair$Stolen" "PLACES" "[I", .static yX5_within, .initialized RX5, .code yX5_within cX5_within 3 (some .boolean)])
def wsX3_mixMarks : List Cond := .code yX3_mixMarks cX3_mixMarks 4 (some .long) :: ([.fieldLink RX3 15 "DawnFair$Stolen" "seen" "[I", .fieldLink RX3 18 "DawnFair$Stolen" "lacked" "[I", .static yX5_mix, .initialized RX5, .code yX5_mix cX5_mix 3 (some .long), .constantLong RX5 233 (31)] ++ wsX30)
def wsX3_mixEntries : List Cond := .code yX3_mixEntries cX3_mixEntries 6 (some .long) :: ([.fieldLink RX3 27 "DawnFair$Stolen" "entries" "I", .fieldLink RX3 9 "DawnFair$Stolen" "entryMarks" "[I", .static yX5_mix, .initialized RX5, .code yX5_mix cX5_mix 3 (some .long), .constantLong RX5 233 (31)] ++ wsX30)
def wsX4_init : List Cond := .code yX4_init cX4_init 1 none :: ([.methodLink RX4 3 objectInit, .instanceMethod objectInit, .code objectInit ⟨#[0xb1]⟩ 1 none, .arrayClass .int, .fieldLink RX4 9 "DawnFair$Trade" "holders" "[I", .fieldLink RX4 15 "DawnFair$Trade" "latest" "[I", .fieldLink RX4 18 "DawnFair$Trade" "soldAt" "[I", .fieldLink RX4 21 "DawnFair$Trade" "rows" "[I", .fieldLink RX4 24 "DawnFair$Trade" "ahead" "[I", .fieldLink RX4 27 "DawnFair$Trade" "sales" "I", .fieldLink RX4 31 "DawnFair$Trade" "hour" "I", .methodLink RX4 34 yJ7_fill_53178, .static yJ7_fill_53178, .initialized RJ7, .code yJ7_fill_53178 cJ7_fill_53178 4 none] ++ wsX40)
def wsX4_holderOf : List Cond := .code yX4_holderOf cX4_holderOf 2 (some .int) :: ([.fieldLink RX4 9 "DawnFair$Trade" "holders" "[I"] ++ wsX40)
def wsX4_handOver : List Cond := .code yX4_handOver cX4_handOver 4 (some .int) :: ([.fieldLink RX4 9 "DawnFair$Trade" "holders" "[I", .fieldLink RX4 15 "DawnFair$Trade" "latest" "[I"] ++ wsX40)
def wsX4_currentHour : List Cond := .code yX4_currentHour cX4_currentHour 1 (some .int) :: ([.fieldLink RX4 31 "DawnFair$Trade" "hour" "I"] ++ wsX40)
def wsX4_passHours : List Cond := .code yX4_passHours cX4_passHours 2 (some .int) :: ([.fieldLink RX4 31 "DawnFair$Trade" "hour" "I"] ++ wsX40)
def wsX4_mayBeSold : List Cond := .code yX4_mayBeSold cX4_mayBeSold 5 (some .boolean) :: ([.fieldLink RX4 9 "DawnFair$Trade" "holders" "[I", .fieldLink RX4 31 "DawnFair$Trade" "hour" "I", .fieldLink RX4 18 "DawnFair$Trade" "soldAt" "[I"] ++ wsX40)
def wsX4_addSale : List Cond := .code yX4_addSale cX4_addSale 6 (some .int) :: ([.fieldLink RX4 27 "DawnFair$Trade" "sales" "I", .fieldLink RX4 21 "DawnFair$Trade" "rows" "[I", .fieldLink RX4 9 "DawnFair$Trade" "holders" "[I", .fieldLink RX4 31 "DawnFair$Trade" "hour" "I", .fieldLink RX4 24 "DawnFair$Trade" "ahead" "[I", .fieldLink RX4 15 "DawnFair$Trade" "latest" "[I", .fieldLink RX4 18 "DawnFair$Trade" "soldAt" "[I", .methodLink RX4 40 yX4_mayBeSold, .instanceMethod yX4_mayBeSold, .selects RX4 yX4_mayBeSold yX4_mayBeSold, .initialized RX4, .code yX4_mayBeSold cX4_mayBeSold 5 (some .boolean)] ++ wsX40)
def wsX4_field : List Cond := .code yX4_field cX4_field 3 (some .int) :: ([.fieldLink RX4 21 "DawnFair$Trade" "rows" "[I"] ++ wsX40)
def wsX4_giveBack : List Cond := .code yX4_giveBack cX4_giveBack 3 (some .int) :: ([.fieldLink RX4 15 "DawnFair$Trade" "latest" "[I", .fieldLink RX4 9 "DawnFair$Trade" "holders" "[I", .fieldLink RX4 31 "DawnFair$Trade" "hour" "I", .fieldLink RX4 21 "DawnFair$Trade" "rows" "[I", .fieldLink RX4 24 "DawnFair$Trade" "ahead" "[I", .methodLink RX4 44 yX4_field, .instanceMethod yX4_field, .selects RX4 yX4_field yX4_field, .initialized RX4, .code yX4_field cX4_field 3 (some .int)] ++ wsX40)
def wsX4_saleCount : List Cond := .code yX4_saleCount cX4_saleCount 1 (some .int) :: ([.fieldLink RX4 27 "DawnFair$Trade" "sales" "I"] ++ wsX40)
def wsX4_stands : List Cond := .code yX4_stands cX4_stands 2 (some .boolean) :: ([.methodLink RX4 44 yX4_field, .instanceMethod yX4_field, .selects RX4 yX4_field yX4_field, .initialized RX4, .code yX4_field cX4_field 3 (some .int), .fieldLink RX4 21 "DawnFair$Trade" "rows" "[I"] ++ wsX40)
def wsX4_standingCount : List Cond := .code yX4_standingCount cX4_standingCount 3 (some .int) :: ([.fieldLink RX4 27 "DawnFair$Trade" "sales" "I", .methodLink RX4 44 yX4_field, .instanceMethod yX4_field, .selects RX4 yX4_field yX4_field, .initialized RX4, .code yX4_field cX4_field 3 (some .int), .fieldLink RX4 21 "DawnFair$Trade" "rows" "[I"] ++ wsX40)
def wsX4_gainOf : List Cond := .code yX4_gainOf cX4_gainOf 4 (some .int) :: ([.fieldLink RX4 27 "DawnFair$Trade" "sales" "I", .methodLink RX4 48 yX4_stands, .instanceMethod yX4_stands, .selects RX4 yX4_stands yX4_stands, .initialized RX4, .code yX4_stands cX4_stands 2 (some .boolean), .methodLink RX4 44 yX4_field, .instanceMethod yX4_field, .selects RX4 yX4_field yX4_field, .code yX4_field cX4_field 3 (some .int), .fieldLink RX4 21 "DawnFair$Trade" "rows" "[I"] ++ wsX40)
def wsX4_riseOf : List Cond := .code yX4_riseOf cX4_riseOf 5 (some .int) :: ([.fieldLink RX4 27 "DawnFair$Trade" "sales" "I", .methodLink RX4 48 yX4_stands, .instanceMethod yX4_stands, .selects RX4 yX4_stands yX4_stands, .initialized RX4, .code yX4_stands cX4_stands 2 (some .boolean), .methodLink RX4 44 yX4_field, .instanceMethod yX4_field, .selects RX4 yX4_field yX4_field, .code yX4_field cX4_field 3 (some .int), .fieldLink RX4 21 "DawnFair$Trade" "rows" "[I"] ++ wsX40)
def wsX4_mixSales : List Cond := .code yX4_mixSales cX4_mixSales 6 (some .long) :: ([.fieldLink RX4 27 "DawnFair$Trade" "sales" "I", .fieldLink RX4 21 "DawnFair$Trade" "rows" "[I", .static yX5_mix, .initialized RX5, .code yX5_mix cX5_mix 3 (some .long), .constantLong RX5 233 (31)] ++ wsX40)
def wsX5_init_r1 : List Cond := [Cond.methodLink RX5 3 objectInit, Cond.instanceMethod objectInit, Cond.code objectInit ⟨#[0xb1]⟩ 1 none, Cond.classLink RX5 9 RX2, Cond.instantiable RX2 5, Cond.initialized RX2, Cond.fieldLink RX5 12 "DawnFair" "pieces" "LDawnFair$Pieces;", Cond.classLink RX5 16 RX4, Cond.instantiable RX4 7, Cond.initialized RX4, Cond.fieldLink RX5 19 "DawnFair" "trade" "LDawnFair$Trade;", Cond.classLink RX5 23 RX0, Cond.instantiable RX0 4, Cond.initialized RX0, Cond.fieldLink RX5 26 "DawnFair" "auctions" "LDawnFair$Auctions;", Cond.classLink RX5 30 RX3, Cond.instantiable RX3 6, Cond.initialized RX3, Cond.fieldLink RX5 33 "DawnFair" "stolen" "LDawnFair$Stolen;", Cond.classLink RX5 37 RX1, Cond.instantiable RX1 1, Cond.initialized RX1, Cond.fieldLink RX5 40 "DawnFair" "debts" "LDawnFair$Debts;", Cond.methodLink RX5 11 yX2_init]
def wsX5_init_r2 : List Cond := [Cond.instanceMethod yX2_init, Cond.code yX2_init cX2_init 1 none, Cond.methodLink RX2 3 objectInit, Cond.arrayClass .int, Cond.fieldLink RX2 9 "DawnFair$Pieces" "from" "[I", Cond.fieldLink RX2 15 "DawnFair$Pieces" "to" "[I", Cond.fieldLink RX2 18 "DawnFair$Pieces" "parts" "[I", Cond.fieldLink RX2 21 "DawnFair$Pieces" "works" "[I", Cond.fieldLink RX2 24 "DawnFair$Pieces" "things" "I", Cond.methodLink RX2 28 yJ7_fill_53178, Cond.static yJ7_fill_53178, Cond.initialized RJ7, Cond.code yJ7_fill_53178 cJ7_fill_53178 4 none, Cond.methodLink RX5 18 yX4_init, Cond.instanceMethod yX4_init, Cond.code yX4_init cX4_init 1 none, Cond.methodLink RX4 3 objectInit, Cond.fieldLink RX4 9 "DawnFair$Trade" "holders" "[I", Cond.fieldLink RX4 15 "DawnFair$Trade" "latest" "[I", Cond.fieldLink RX4 18 "DawnFair$Trade" "soldAt" "[I", Cond.fieldLink RX4 21 "DawnFair$Trade" "rows" "[I", Cond.fieldLink RX4 24 "DawnFair$Trade" "ahead" "[I", Cond.fieldLink RX4 27 "DawnFair$Trade" "sales" "I", Cond.fieldLink RX4 31 "DawnFair$Trade" "hour" "I"]
def wsX5_init_r3 : List Cond := [Cond.methodLink RX4 34 yJ7_fill_53178, Cond.instanceMethod yX0_init, Cond.code yX0_init cX0_init 1 none, Cond.methodLink RX0 5 objectInit, Cond.fieldLink RX0 11 "DawnFair$Auctions" "there" "[I", Cond.fieldLink RX0 15 "DawnFair$Auctions" "bid" "[I", Cond.fieldLink RX0 18 "DawnFair$Auctions" "won" "[I", Cond.fieldLink RX0 21 "DawnFair$Auctions" "lots" "I", Cond.instanceMethod yX3_init, Cond.code yX3_init cX3_init 1 none, Cond.methodLink RX3 3 objectInit, Cond.fieldLink RX3 9 "DawnFair$Stolen" "entryMarks" "[I", Cond.fieldLink RX3 15 "DawnFair$Stolen" "seen" "[I", Cond.fieldLink RX3 18 "DawnFair$Stolen" "lacked" "[I", Cond.fieldLink RX3 21 "DawnFair$Stolen" "best" "[I", Cond.fieldLink RX3 24 "DawnFair$Stolen" "worth" "[I", Cond.fieldLink RX3 27 "DawnFair$Stolen" "entries" "I", Cond.instanceMethod yX1_init, Cond.code yX1_init cX1_init 1 none, Cond.methodLink RX1 3 objectInit, Cond.fieldLink RX1 9 "DawnFair$Debts" "owed" "[I"]
def wsX5_init : List Cond := .code yX5_init cX5_init 1 none :: ((wsX5_init_r1 ++ (wsX5_init_r2 ++ wsX5_init_r3)) ++ wsX20 ++ wsX50 ++ wsX40 ++ wsX00 ++ wsX30 ++ wsX10)
def wsX5_work : List Cond := .code yX5_work cX5_work 4 (some .int) :: ([.fieldLink RX5 12 "DawnFair" "pieces" "LDawnFair$Pieces;", .methodLink RX5 44 yX5_within, .static yX5_within, .initialized RX5, .code yX5_within cX5_within 3 (some .boolean), .methodLink RX5 48 yX2_setYears, .instanceMethod yX2_setYears, .selects RX2 yX2_setYears yX2_setYears, .initialized RX2, .code yX2_setYears cX2_setYears 4 none, .fieldLink RX2 9 "DawnFair$Pieces" "from" "[I", .fieldLink RX2 15 "DawnFair$Pieces" "to" "[I"] ++ wsX50 ++ wsX20)
def wsX5_thing : List Cond := .code yX5_thing cX5_thing 2 (some .int) :: ([.fieldLink RX5 12 "DawnFair" "pieces" "LDawnFair$Pieces;", .methodLink RX5 44 yX5_within, .static yX5_within, .initialized RX5, .code yX5_within cX5_within 3 (some .boolean), .methodLink RX5 52 yX2_addThing, .instanceMethod yX2_addThing, .selects RX2 yX2_addThing yX2_addThing, .initialized RX2, .code yX2_addThing cX2_addThing 2 (some .int), .fieldLink RX2 24 "DawnFair$Pieces" "things" "I", .fieldLink RX2 18 "DawnFair$Pieces" "parts" "[I"] ++ wsX50 ++ wsX20)
def wsX5_part_r1 : List Cond := [Cond.fieldLink RX5 12 "DawnFair" "pieces" "LDawnFair$Pieces;", Cond.methodLink RX5 56 yX2_hasPart, Cond.instanceMethod yX2_hasPart, Cond.selects RX2 yX2_hasPart yX2_hasPart, Cond.initialized RX2, Cond.code yX2_hasPart cX2_hasPart 3 (some .boolean), Cond.fieldLink RX2 18 "DawnFair$Pieces" "parts" "[I", Cond.methodLink RX2 38 yX2_hasThing, Cond.instanceMethod yX2_hasThing, Cond.selects RX2 yX2_hasThing yX2_hasThing, Cond.code yX2_hasThing cX2_hasThing 2 (some .boolean), Cond.fieldLink RX2 24 "DawnFair$Pieces" "things" "I", Cond.static yX5_within, Cond.initialized RX5, Cond.code yX5_within cX5_within 3 (some .boolean), Cond.methodLink RX5 44 yX5_within, Cond.methodLink RX5 60 yX2_changeWorks, Cond.instanceMethod yX2_changeWorks, Cond.selects RX2 yX2_changeWorks yX2_changeWorks, Cond.code yX2_changeWorks cX2_changeWorks 5 (some .int), Cond.fieldLink RX2 21 "DawnFair$Pieces" "works" "[I", Cond.methodLink RX2 42 yX2_worksOf, Cond.instanceMethod yX2_worksOf, Cond.selects RX2 yX2_worksOf yX2_worksOf]
def wsX5_part_r2 : List Cond := [Cond.code yX2_worksOf cX2_worksOf 3 (some .int)]
def wsX5_part : List Cond := .code yX5_part cX5_part 4 (some .int) :: ((wsX5_part_r1 ++ wsX5_part_r2) ++ wsX50 ++ wsX20)
def wsX5_span_r1 : List Cond := [Cond.fieldLink RX5 12 "DawnFair" "pieces" "LDawnFair$Pieces;", Cond.methodLink RX5 56 yX2_hasPart, Cond.instanceMethod yX2_hasPart, Cond.selects RX2 yX2_hasPart yX2_hasPart, Cond.initialized RX2, Cond.code yX2_hasPart cX2_hasPart 3 (some .boolean), Cond.fieldLink RX2 18 "DawnFair$Pieces" "parts" "[I", Cond.methodLink RX2 38 yX2_hasThing, Cond.instanceMethod yX2_hasThing, Cond.selects RX2 yX2_hasThing yX2_hasThing, Cond.code yX2_hasThing cX2_hasThing 2 (some .boolean), Cond.fieldLink RX2 24 "DawnFair$Pieces" "things" "I", Cond.static yX5_within, Cond.initialized RX5, Cond.code yX5_within cX5_within 3 (some .boolean), Cond.methodLink RX5 44 yX5_within, Cond.methodLink RX5 64 yX2_worksOf, Cond.instanceMethod yX2_worksOf, Cond.selects RX2 yX2_worksOf yX2_worksOf, Cond.code yX2_worksOf cX2_worksOf 3 (some .int), Cond.fieldLink RX2 21 "DawnFair$Pieces" "works" "[I", Cond.methodLink RX5 68 yX2_yearOf, Cond.instanceMethod yX2_yearOf, Cond.selects RX2 yX2_yearOf yX2_yearOf]
def wsX5_span_r2 : List Cond := [Cond.code yX2_yearOf cX2_yearOf 6 (some .int), Cond.fieldLink RX2 9 "DawnFair$Pieces" "from" "[I", Cond.methodLink RX2 46 Lib.Math.max.name, Cond.static Lib.Math.max.name, Cond.initialized "java/lang/Math", Cond.code Lib.Math.max.name Lib.Math.max.code 2 (some .int), Cond.fieldLink RX2 15 "DawnFair$Pieces" "to" "[I", Cond.methodLink RX2 51 Lib.Math.min.name, Cond.static Lib.Math.min.name, Cond.code Lib.Math.min.name Lib.Math.min.code 2 (some .int)]
def wsX5_span : List Cond := .code yX5_span cX5_span 4 (some .int) :: ((wsX5_span_r1 ++ wsX5_span_r2) ++ wsX50 ++ wsX20)
def wsX5_apart_r1 : List Cond := [Cond.fieldLink RX5 12 "DawnFair" "pieces" "LDawnFair$Pieces;", Cond.methodLink RX5 71 yX2_hasThing, Cond.instanceMethod yX2_hasThing, Cond.selects RX2 yX2_hasThing yX2_hasThing, Cond.initialized RX2, Cond.code yX2_hasThing cX2_hasThing 2 (some .boolean), Cond.fieldLink RX2 24 "DawnFair$Pieces" "things" "I", Cond.static yX5_within, Cond.initialized RX5, Cond.code yX5_within cX5_within 3 (some .boolean), Cond.methodLink RX5 75 yX2_strangers, Cond.instanceMethod yX2_strangers, Cond.selects RX2 yX2_strangers yX2_strangers, Cond.code yX2_strangers cX2_strangers 6 (some .int), Cond.fieldLink RX2 18 "DawnFair$Pieces" "parts" "[I", Cond.methodLink RX2 54 yJ6_bitCount_0f7a4, Cond.static yJ6_bitCount_0f7a4, Cond.initialized RJ6, Cond.code yJ6_bitCount_0f7a4 cJ6_bitCount_0f7a4 1 (some .int), Cond.constant RJ6 265 (1431655765), Cond.constant RJ6 266 (858993459), Cond.constant RJ6 267 (252645135), Cond.methodLink RX2 60 yX2_worksWithout, Cond.instanceMethod yX2_worksWithout]
def wsX5_apart_r2 : List Cond := [Cond.selects RX2 yX2_worksWithout yX2_worksWithout, Cond.code yX2_worksWithout cX2_worksWithout 5 (some .int), Cond.methodLink RX2 42 yX2_worksOf, Cond.instanceMethod yX2_worksOf, Cond.selects RX2 yX2_worksOf yX2_worksOf, Cond.code yX2_worksOf cX2_worksOf 3 (some .int), Cond.fieldLink RX2 21 "DawnFair$Pieces" "works" "[I", Cond.methodLink RX2 63 yX2_yearOf, Cond.instanceMethod yX2_yearOf, Cond.selects RX2 yX2_yearOf yX2_yearOf, Cond.code yX2_yearOf cX2_yearOf 6 (some .int), Cond.fieldLink RX2 9 "DawnFair$Pieces" "from" "[I", Cond.methodLink RX2 46 Lib.Math.max.name, Cond.static Lib.Math.max.name, Cond.initialized "java/lang/Math", Cond.code Lib.Math.max.name Lib.Math.max.code 2 (some .int), Cond.fieldLink RX2 15 "DawnFair$Pieces" "to" "[I", Cond.methodLink RX2 51 Lib.Math.min.name, Cond.static Lib.Math.min.name, Cond.code Lib.Math.min.name Lib.Math.min.code 2 (some .int)]
def wsX5_apart : List Cond := .code yX5_apart cX5_apart 2 (some .int) :: ((wsX5_apart_r1 ++ wsX5_apart_r2) ++ wsX50 ++ wsX20)
def wsX5_date_r1 : List Cond := [Cond.fieldLink RX5 12 "DawnFair" "pieces" "LDawnFair$Pieces;", Cond.methodLink RX5 71 yX2_hasThing, Cond.instanceMethod yX2_hasThing, Cond.selects RX2 yX2_hasThing yX2_hasThing, Cond.initialized RX2, Cond.code yX2_hasThing cX2_hasThing 2 (some .boolean), Cond.fieldLink RX2 24 "DawnFair$Pieces" "things" "I", Cond.static yX5_within, Cond.initialized RX5, Cond.code yX5_within cX5_within 3 (some .boolean), Cond.methodLink RX5 44 yX5_within, Cond.methodLink RX5 75 yX2_strangers, Cond.instanceMethod yX2_strangers, Cond.selects RX2 yX2_strangers yX2_strangers, Cond.code yX2_strangers cX2_strangers 6 (some .int), Cond.fieldLink RX2 18 "DawnFair$Pieces" "parts" "[I", Cond.methodLink RX2 54 yJ6_bitCount_0f7a4, Cond.static yJ6_bitCount_0f7a4, Cond.initialized RJ6, Cond.code yJ6_bitCount_0f7a4 cJ6_bitCount_0f7a4 1 (some .int), Cond.constant RJ6 265 (1431655765), Cond.constant RJ6 266 (858993459), Cond.constant RJ6 267 (252645135), Cond.methodLink RX2 60 yX2_worksWithout]
def wsX5_date_r2 : List Cond := [Cond.instanceMethod yX2_worksWithout, Cond.selects RX2 yX2_worksWithout yX2_worksWithout, Cond.code yX2_worksWithout cX2_worksWithout 5 (some .int), Cond.methodLink RX2 42 yX2_worksOf, Cond.instanceMethod yX2_worksOf, Cond.selects RX2 yX2_worksOf yX2_worksOf, Cond.code yX2_worksOf cX2_worksOf 3 (some .int), Cond.fieldLink RX2 21 "DawnFair$Pieces" "works" "[I", Cond.methodLink RX2 63 yX2_yearOf, Cond.instanceMethod yX2_yearOf, Cond.selects RX2 yX2_yearOf yX2_yearOf, Cond.code yX2_yearOf cX2_yearOf 6 (some .int), Cond.fieldLink RX2 9 "DawnFair$Pieces" "from" "[I", Cond.methodLink RX2 46 Lib.Math.max.name, Cond.static Lib.Math.max.name, Cond.initialized "java/lang/Math", Cond.code Lib.Math.max.name Lib.Math.max.code 2 (some .int), Cond.fieldLink RX2 15 "DawnFair$Pieces" "to" "[I", Cond.methodLink RX2 51 Lib.Math.min.name, Cond.static Lib.Math.min.name, Cond.code Lib.Math.min.name Lib.Math.min.code 2 (some .int), Cond.methodLink RX5 78 yX2_worksWithout, Cond.methodLink RX5 68 yX2_yearOf]
def wsX5_date : List Cond := .code yX5_date cX5_date 4 (some .int) :: ((wsX5_date_r1 ++ wsX5_date_r2) ++ wsX50 ++ wsX20)
def wsX5_hold : List Cond := .code yX5_hold cX5_hold 3 (some .int) :: ([.fieldLink RX5 12 "DawnFair" "pieces" "LDawnFair$Pieces;", .fieldLink RX5 19 "DawnFair" "trade" "LDawnFair$Trade;", .methodLink RX5 71 yX2_hasThing, .instanceMethod yX2_hasThing, .selects RX2 yX2_hasThing yX2_hasThing, .initialized RX2, .code yX2_hasThing cX2_hasThing 2 (some .boolean), .fieldLink RX2 24 "DawnFair$Pieces" "things" "I", .static yX5_within, .initialized RX5, .code yX5_within cX5_within 3 (some .boolean), .methodLink RX5 44 yX5_within, .methodLink RX5 81 yX4_handOver, .instanceMethod yX4_handOver, .selects RX4 yX4_handOver yX4_handOver, .initialized RX4, .code yX4_handOver cX4_handOver 4 (some .int), .fieldLink RX4 9 "DawnFair$Trade" "holders" "[I", .fieldLink RX4 15 "DawnFair$Trade" "latest" "[I"] ++ wsX50 ++ wsX20 ++ wsX40)
def wsX5_holder : List Cond := .code yX5_holder cX5_holder 2 (some .int) :: ([.fieldLink RX5 12 "DawnFair" "pieces" "LDawnFair$Pieces;", .fieldLink RX5 19 "DawnFair" "trade" "LDawnFair$Trade;", .methodLink RX5 71 yX2_hasThing, .instanceMethod yX2_hasThing, .selects RX2 yX2_hasThing yX2_hasThing, .initialized RX2, .code yX2_hasThing cX2_hasThing 2 (some .boolean), .fieldLink RX2 24 "DawnFair$Pieces" "things" "I", .static yX5_within, .initialized RX5, .code yX5_within cX5_within 3 (some .boolean), .methodLink RX5 84 yX4_holderOf, .instanceMethod yX4_holderOf, .selects RX4 yX4_holderOf yX4_holderOf, .initialized RX4, .code yX4_holderOf cX4_holderOf 2 (some .int), .fieldLink RX4 9 "DawnFair$Trade" "holders" "[I"] ++ wsX50 ++ wsX20 ++ wsX40)
def wsX5_hours : List Cond := .code yX5_hours cX5_hours 2 (some .int) :: ([.fieldLink RX5 19 "DawnFair" "trade" "LDawnFair$Trade;", .methodLink RX5 44 yX5_within, .static yX5_within, .initialized RX5, .code yX5_within cX5_within 3 (some .boolean), .methodLink RX5 87 yX4_passHours, .instanceMethod yX4_passHours, .selects RX4 yX4_passHours yX4_passHours, .initialized RX4, .code yX4_passHours cX4_passHours 2 (some .int), .fieldLink RX4 31 "DawnFair$Trade" "hour" "I"] ++ wsX50 ++ wsX40)
def wsX5_isDealer : List Cond := .code yX5_isDealer cX5_isDealer 1 (some .boolean) :: ([.methodLink RX5 44 yX5_within, .static yX5_within, .initialized RX5, .code yX5_within cX5_within 3 (some .boolean)])
def wsX5_sell_r1 : List Cond := [Cond.fieldLink RX5 12 "DawnFair" "pieces" "LDawnFair$Pieces;", Cond.constant RX5 93 (100000), Cond.fieldLink RX5 19 "DawnFair" "trade" "LDawnFair$Trade;", Cond.methodLink RX5 71 yX2_hasThing, Cond.instanceMethod yX2_hasThing, Cond.selects RX2 yX2_hasThing yX2_hasThing, Cond.initialized RX2, Cond.code yX2_hasThing cX2_hasThing 2 (some .boolean), Cond.fieldLink RX2 24 "DawnFair$Pieces" "things" "I", Cond.static yX5_within, Cond.initialized RX5, Cond.code yX5_within cX5_within 3 (some .boolean), Cond.methodLink RX5 90 yX5_isDealer, Cond.static yX5_isDealer, Cond.code yX5_isDealer cX5_isDealer 1 (some .boolean), Cond.methodLink RX5 44 yX5_within, Cond.methodLink RX5 94 yX4_addSale, Cond.instanceMethod yX4_addSale, Cond.selects RX4 yX4_addSale yX4_addSale, Cond.initialized RX4, Cond.code yX4_addSale cX4_addSale 6 (some .int), Cond.fieldLink RX4 27 "DawnFair$Trade" "sales" "I", Cond.fieldLink RX4 21 "DawnFair$Trade" "rows" "[I", Cond.fieldLink RX4 9 "DawnFair$Trade" "holders" "[I"]
def wsX5_sell_r2 : List Cond := [Cond.fieldLink RX4 31 "DawnFair$Trade" "hour" "I", Cond.fieldLink RX4 24 "DawnFair$Trade" "ahead" "[I", Cond.fieldLink RX4 15 "DawnFair$Trade" "latest" "[I", Cond.fieldLink RX4 18 "DawnFair$Trade" "soldAt" "[I", Cond.methodLink RX4 40 yX4_mayBeSold, Cond.instanceMethod yX4_mayBeSold, Cond.selects RX4 yX4_mayBeSold yX4_mayBeSold, Cond.code yX4_mayBeSold cX4_mayBeSold 5 (some .boolean)]
def wsX5_sell : List Cond := .code yX5_sell cX5_sell 5 (some .int) :: ((wsX5_sell_r1 ++ wsX5_sell_r2) ++ wsX50 ++ wsX20 ++ wsX40)
def wsX5_back_r1 : List Cond := [Cond.fieldLink RX5 12 "DawnFair" "pieces" "LDawnFair$Pieces;", Cond.fieldLink RX5 19 "DawnFair" "trade" "LDawnFair$Trade;", Cond.methodLink RX5 71 yX2_hasThing, Cond.instanceMethod yX2_hasThing, Cond.selects RX2 yX2_hasThing yX2_hasThing, Cond.initialized RX2, Cond.code yX2_hasThing cX2_hasThing 2 (some .boolean), Cond.fieldLink RX2 24 "DawnFair$Pieces" "things" "I", Cond.static yX5_within, Cond.initialized RX5, Cond.code yX5_within cX5_within 3 (some .boolean), Cond.methodLink RX5 98 yX4_giveBack, Cond.instanceMethod yX4_giveBack, Cond.selects RX4 yX4_giveBack yX4_giveBack, Cond.initialized RX4, Cond.code yX4_giveBack cX4_giveBack 3 (some .int), Cond.fieldLink RX4 15 "DawnFair$Trade" "latest" "[I", Cond.fieldLink RX4 9 "DawnFair$Trade" "holders" "[I", Cond.fieldLink RX4 31 "DawnFair$Trade" "hour" "I", Cond.fieldLink RX4 21 "DawnFair$Trade" "rows" "[I", Cond.fieldLink RX4 24 "DawnFair$Trade" "ahead" "[I", Cond.methodLink RX4 44 yX4_field, Cond.instanceMethod yX4_field, Cond.selects RX4 yX4_field yX4_field]
def wsX5_back_r2 : List Cond := [Cond.code yX4_field cX4_field 3 (some .int)]
def wsX5_back : List Cond := .code yX5_back cX5_back 2 (some .int) :: ((wsX5_back_r1 ++ wsX5_back_r2) ++ wsX50 ++ wsX20 ++ wsX40)
def wsX5_sale : List Cond := .code yX5_sale cX5_sale 3 (some .int) :: ([.fieldLink RX5 19 "DawnFair" "trade" "LDawnFair$Trade;", .methodLink RX5 44 yX5_within, .static yX5_within, .initialized RX5, .code yX5_within cX5_within 3 (some .boolean), .methodLink RX5 101 yX4_saleCount, .instanceMethod yX4_saleCount, .selects RX4 yX4_saleCount yX4_saleCount, .initialized RX4, .code yX4_saleCount cX4_saleCount 1 (some .int), .fieldLink RX4 27 "DawnFair$Trade" "sales" "I", .methodLink RX5 105 yX4_field, .instanceMethod yX4_field, .selects RX4 yX4_field yX4_field, .code yX4_field cX4_field 3 (some .int), .fieldLink RX4 21 "DawnFair$Trade" "rows" "[I"] ++ wsX50 ++ wsX40)
def wsX5_gain : List Cond := .code yX5_gain cX5_gain 2 (some .int) :: ([.fieldLink RX5 19 "DawnFair" "trade" "LDawnFair$Trade;", .constant RX5 111 (-2000000000), .methodLink RX5 90 yX5_isDealer, .static yX5_isDealer, .initialized RX5, .code yX5_isDealer cX5_isDealer 1 (some .boolean), .methodLink RX5 44 yX5_within, .static yX5_within, .code yX5_within cX5_within 3 (some .boolean), .methodLink RX5 108 yX4_gainOf, .instanceMethod yX4_gainOf, .selects RX4 yX4_gainOf yX4_gainOf, .initialized RX4, .code yX4_gainOf cX4_gainOf 4 (some .int), .fieldLink RX4 27 "DawnFair$Trade" "sales" "I", .methodLink RX4 48 yX4_stands, .instanceMethod yX4_stands, .selects RX4 yX4_stands yX4_stands, .code yX4_stands cX4_stands 2 (some .boolean), .methodLink RX4 44 yX4_field, .instanceMethod yX4_field, .selects RX4 yX4_field yX4_field, .code yX4_field cX4_field 3 (some .int), .fieldLink RX4 21 "DawnFair$Trade" "rows" "[I"] ++ wsX50 ++ wsX40)
def wsX5_rose_r1 : List Cond := [Cond.fieldLink RX5 12 "DawnFair" "pieces" "LDawnFair$Pieces;", Cond.fieldLink RX5 19 "DawnFair" "trade" "LDawnFair$Trade;", Cond.constant RX5 111 (-2000000000), Cond.methodLink RX5 71 yX2_hasThing, Cond.instanceMethod yX2_hasThing, Cond.selects RX2 yX2_hasThing yX2_hasThing, Cond.initialized RX2, Cond.code yX2_hasThing cX2_hasThing 2 (some .boolean), Cond.fieldLink RX2 24 "DawnFair$Pieces" "things" "I", Cond.static yX5_within, Cond.initialized RX5, Cond.code yX5_within cX5_within 3 (some .boolean), Cond.methodLink RX5 112 yX4_riseOf, Cond.instanceMethod yX4_riseOf, Cond.selects RX4 yX4_riseOf yX4_riseOf, Cond.initialized RX4, Cond.code yX4_riseOf cX4_riseOf 5 (some .int), Cond.fieldLink RX4 27 "DawnFair$Trade" "sales" "I", Cond.methodLink RX4 48 yX4_stands, Cond.instanceMethod yX4_stands, Cond.selects RX4 yX4_stands yX4_stands, Cond.code yX4_stands cX4_stands 2 (some .boolean), Cond.methodLink RX4 44 yX4_field, Cond.instanceMethod yX4_field]
def wsX5_rose_r2 : List Cond := [Cond.selects RX4 yX4_field yX4_field, Cond.code yX4_field cX4_field 3 (some .int), Cond.fieldLink RX4 21 "DawnFair$Trade" "rows" "[I"]
def wsX5_rose : List Cond := .code yX5_rose cX5_rose 2 (some .int) :: ((wsX5_rose_r1 ++ wsX5_rose_r2) ++ wsX50 ++ wsX20 ++ wsX40)
def wsX5_mayHaveWon : List Cond := .code yX5_mayHaveWon cX5_mayHaveWon 2 (some .boolean) :: ([.methodLink RX5 90 yX5_isDealer, .static yX5_isDealer, .initialized RX5, .code yX5_isDealer cX5_isDealer 1 (some .boolean), .methodLink RX5 44 yX5_within, .static yX5_within, .code yX5_within cX5_within 3 (some .boolean)])
def wsX5_lot : List Cond := .code yX5_lot cX5_lot 4 (some .int) :: ([.fieldLink RX5 26 "DawnFair" "auctions" "LDawnFair$Auctions;", .methodLink RX5 44 yX5_within, .static yX5_within, .initialized RX5, .code yX5_within cX5_within 3 (some .boolean), .methodLink RX5 115 yX5_mayHaveWon, .static yX5_mayHaveWon, .code yX5_mayHaveWon cX5_mayHaveWon 2 (some .boolean), .methodLink RX5 90 yX5_isDealer, .static yX5_isDealer, .code yX5_isDealer cX5_isDealer 1 (some .boolean), .methodLink RX5 118 yX0_addLot, .instanceMethod yX0_addLot, .selects RX0 yX0_addLot yX0_addLot, .initialized RX0, .code yX0_addLot cX0_addLot 4 (some .int), .fieldLink RX0 21 "DawnFair$Auctions" "lots" "I", .fieldLink RX0 11 "DawnFair$Auctions" "there" "[I", .fieldLink RX0 15 "DawnFair$Auctions" "bid" "[I", .fieldLink RX0 18 "DawnFair$Auctions" "won" "[I"] ++ wsX50 ++ wsX00)
def wsX5_areTwo : List Cond := .code yX5_areTwo cX5_areTwo 2 (some .boolean) :: ([.methodLink RX5 90 yX5_isDealer, .static yX5_isDealer, .initialized RX5, .code yX5_isDealer cX5_isDealer 1 (some .boolean), .methodLink RX5 44 yX5_within, .static yX5_within, .code yX5_within cX5_within 3 (some .boolean)])
def wsX5_both : List Cond := .code yX5_both cX5_both 4 (some .int) :: ([.fieldLink RX5 26 "DawnFair" "auctions" "LDawnFair$Auctions;", .methodLink RX5 121 yX5_areTwo, .static yX5_areTwo, .initialized RX5, .code yX5_areTwo cX5_areTwo 2 (some .boolean), .methodLink RX5 90 yX5_isDealer, .static yX5_isDealer, .code yX5_isDealer cX5_isDealer 1 (some .boolean), .methodLink RX5 44 yX5_within, .static yX5_within, .code yX5_within cX5_within 3 (some .boolean), .methodLink RX5 124 yX0_tally, .instanceMethod yX0_tally, .selects RX0 yX0_tally yX0_tally, .initialized RX0, .code yX0_tally cX0_tally 8 (some .int), .fieldLink RX0 21 "DawnFair$Auctions" "lots" "I", .fieldLink RX0 11 "DawnFair$Auctions" "there" "[I", .fieldLink RX0 15 "DawnFair$Auctions" "bid" "[I"] ++ wsX50 ++ wsX00)
def wsX5_chance_r1 : List Cond := [Cond.constantLong RX5 127 (-2), Cond.fieldLink RX5 26 "DawnFair" "auctions" "LDawnFair$Auctions;", Cond.methodLink RX5 140 Lib.MathLoose.max_long.x, Cond.static Lib.MathLoose.max_long.x, Cond.initialized "java/lang/Math", Cond.code Lib.MathLoose.max_long.x Lib.MathLoose.max_long.code 4 (some .long), Cond.methodLink RX5 121 yX5_areTwo, Cond.static yX5_areTwo, Cond.initialized RX5, Cond.code yX5_areTwo cX5_areTwo 2 (some .boolean), Cond.methodLink RX5 90 yX5_isDealer, Cond.static yX5_isDealer, Cond.code yX5_isDealer cX5_isDealer 1 (some .boolean), Cond.methodLink RX5 44 yX5_within, Cond.static yX5_within, Cond.code yX5_within cX5_within 3 (some .boolean), Cond.methodLink RX5 129 yX0_waysAsShy, Cond.instanceMethod yX0_waysAsShy, Cond.selects RX0 yX0_waysAsShy yX0_waysAsShy, Cond.initialized RX0, Cond.code yX0_waysAsShy cX0_waysAsShy 10 (some .long), Cond.methodLink RX0 33 Lib.Math.max.name, Cond.static Lib.Math.max.name, Cond.code Lib.Math.max.name Lib.Math.max.code 2 (some .int)]
def wsX5_chance_r2 : List Cond := [Cond.methodLink RX0 25 yX0_tally, Cond.instanceMethod yX0_tally, Cond.selects RX0 yX0_tally yX0_tally, Cond.code yX0_tally cX0_tally 8 (some .int), Cond.fieldLink RX0 21 "DawnFair$Auctions" "lots" "I", Cond.fieldLink RX0 11 "DawnFair$Auctions" "there" "[I", Cond.fieldLink RX0 15 "DawnFair$Auctions" "bid" "[I", Cond.methodLink RX0 29 yX0_choose, Cond.static yX0_choose, Cond.code yX0_choose cX0_choose 5 (some .long), Cond.methodLink RX5 133 yX0_allWays, Cond.instanceMethod yX0_allWays, Cond.selects RX0 yX0_allWays yX0_allWays, Cond.code yX0_allWays cX0_allWays 3 (some .long), Cond.methodLink RX5 136 yX0_commonDivisor, Cond.static yX0_commonDivisor, Cond.code yX0_commonDivisor cX0_commonDivisor 11 (some .long)]
def wsX5_chance : List Cond := .code yX5_chance cX5_chance 10 (some .long) :: ((wsX5_chance_r1 ++ wsX5_chance_r2) ++ wsX50 ++ wsX00)
def wsX5_shyest_r1 : List Cond := [Cond.fieldLink RX5 26 "DawnFair" "auctions" "LDawnFair$Auctions;", Cond.methodLink RX5 145 yX0_shyestTwo, Cond.instanceMethod yX0_shyestTwo, Cond.selects RX0 yX0_shyestTwo yX0_shyestTwo, Cond.initialized RX0, Cond.code yX0_shyestTwo cX0_shyestTwo 13 (some .int), Cond.methodLink RX0 39 yX0_waysAsShy, Cond.instanceMethod yX0_waysAsShy, Cond.selects RX0 yX0_waysAsShy yX0_waysAsShy, Cond.code yX0_waysAsShy cX0_waysAsShy 10 (some .long), Cond.methodLink RX0 33 Lib.Math.max.name, Cond.static Lib.Math.max.name, Cond.initialized "java/lang/Math", Cond.code Lib.Math.max.name Lib.Math.max.code 2 (some .int), Cond.methodLink RX0 25 yX0_tally, Cond.instanceMethod yX0_tally, Cond.selects RX0 yX0_tally yX0_tally, Cond.code yX0_tally cX0_tally 8 (some .int), Cond.fieldLink RX0 21 "DawnFair$Auctions" "lots" "I", Cond.fieldLink RX0 11 "DawnFair$Auctions" "there" "[I", Cond.fieldLink RX0 15 "DawnFair$Auctions" "bid" "[I", Cond.methodLink RX0 29 yX0_choose, Cond.static yX0_choose, Cond.code yX0_choose cX0_choose 5 (some .long)]
def wsX5_shyest_r2 : List Cond := [Cond.methodLink RX0 42 yX0_allWays, Cond.instanceMethod yX0_allWays, Cond.selects RX0 yX0_allWays yX0_allWays, Cond.code yX0_allWays cX0_allWays 3 (some .long), Cond.methodLink RX0 45 yX0_productBelow, Cond.static yX0_productBelow, Cond.code yX0_productBelow cX0_productBelow 12 (some .boolean), Cond.constantLong RX0 49 (1048575)]
def wsX5_shyest : List Cond := .code yX5_shyest cX5_shyest 1 (some .int) :: ((wsX5_shyest_r1 ++ wsX5_shyest_r2) ++ wsX50 ++ wsX00)
def wsX5_inside : List Cond := .code yX5_inside cX5_inside 7 (some .int) :: ([.constant RX5 93 (100000), .methodLink RX5 44 yX5_within, .static yX5_within, .initialized RX5, .code yX5_within cX5_within 3 (some .boolean), .methodLink RX5 148 yJ6_bitCount_0f7a4, .static yJ6_bitCount_0f7a4, .initialized RJ6, .code yJ6_bitCount_0f7a4 cJ6_bitCount_0f7a4 1 (some .int), .constant RJ6 265 (1431655765), .constant RJ6 266 (858993459), .constant RJ6 267 (252645135)])
def wsX5_entry : List Cond := .code yX5_entry cX5_entry 2 (some .int) :: ([.fieldLink RX5 33 "DawnFair" "stolen" "LDawnFair$Stolen;", .methodLink RX5 44 yX5_within, .static yX5_within, .initialized RX5, .code yX5_within cX5_within 3 (some .boolean), .methodLink RX5 153 yX3_addEntry, .instanceMethod yX3_addEntry, .selects RX3 yX3_addEntry yX3_addEntry, .initialized RX3, .code yX3_addEntry cX3_addEntry 2 (some .int), .fieldLink RX3 27 "DawnFair$Stolen" "entries" "I", .fieldLink RX3 9 "DawnFair$Stolen" "entryMarks" "[I"] ++ wsX50 ++ wsX30)
def wsX5_mark : List Cond := .code yX5_mark cX5_mark 4 (some .int) :: ([.fieldLink RX5 12 "DawnFair" "pieces" "LDawnFair$Pieces;", .fieldLink RX5 33 "DawnFair" "stolen" "LDawnFair$Stolen;", .methodLink RX5 71 yX2_hasThing, .instanceMethod yX2_hasThing, .selects RX2 yX2_hasThing yX2_hasThing, .initialized RX2, .code yX2_hasThing cX2_hasThing 2 (some .boolean), .fieldLink RX2 24 "DawnFair$Pieces" "things" "I", .static yX5_within, .initialized RX5, .code yX5_within cX5_within 3 (some .boolean), .methodLink RX5 44 yX5_within, .methodLink RX5 156 yX3_changeMark, .instanceMethod yX3_changeMark, .selects RX3 yX3_changeMark yX3_changeMark, .initialized RX3, .code yX3_changeMark cX3_changeMark 6 (some .int), .fieldLink RX3 15 "DawnFair$Stolen" "seen" "[I", .fieldLink RX3 18 "DawnFair$Stolen" "lacked" "[I"] ++ wsX50 ++ wsX20 ++ wsX30)
def wsX5_score_r1 : List Cond := [Cond.fieldLink RX5 33 "DawnFair" "stolen" "LDawnFair$Stolen;", Cond.fieldLink RX5 12 "DawnFair" "pieces" "LDawnFair$Pieces;", Cond.methodLink RX5 159 yX3_hasEntry, Cond.instanceMethod yX3_hasEntry, Cond.selects RX3 yX3_hasEntry yX3_hasEntry, Cond.initialized RX3, Cond.code yX3_hasEntry cX3_hasEntry 2 (some .boolean), Cond.fieldLink RX3 27 "DawnFair$Stolen" "entries" "I", Cond.static yX5_within, Cond.initialized RX5, Cond.code yX5_within cX5_within 3 (some .boolean), Cond.methodLink RX5 71 yX2_hasThing, Cond.instanceMethod yX2_hasThing, Cond.selects RX2 yX2_hasThing yX2_hasThing, Cond.initialized RX2, Cond.code yX2_hasThing cX2_hasThing 2 (some .boolean), Cond.fieldLink RX2 24 "DawnFair$Pieces" "things" "I", Cond.methodLink RX5 162 yX3_scoreOf, Cond.instanceMethod yX3_scoreOf, Cond.selects RX3 yX3_scoreOf yX3_scoreOf, Cond.code yX3_scoreOf cX3_scoreOf 4 (some .int), Cond.fieldLink RX3 9 "DawnFair$Stolen" "entryMarks" "[I", Cond.fieldLink RX3 15 "DawnFair$Stolen" "seen" "[I", Cond.fieldLink RX3 18 "DawnFair$Stolen" "lacked" "[I"]
def wsX5_score_r2 : List Cond := [Cond.methodLink RX3 35 yJ6_bitCount_0f7a4, Cond.static yJ6_bitCount_0f7a4, Cond.initialized RJ6, Cond.code yJ6_bitCount_0f7a4 cJ6_bitCount_0f7a4 1 (some .int), Cond.constant RJ6 265 (1431655765), Cond.constant RJ6 266 (858993459), Cond.constant RJ6 267 (252645135)]
def wsX5_score : List Cond := .code yX5_score cX5_score 3 (some .int) :: ((wsX5_score_r1 ++ wsX5_score_r2) ++ wsX50 ++ wsX30 ++ wsX20)
def wsX5_joined_r1 : List Cond := [Cond.fieldLink RX5 33 "DawnFair" "stolen" "LDawnFair$Stolen;", Cond.fieldLink RX5 12 "DawnFair" "pieces" "LDawnFair$Pieces;", Cond.methodLink RX5 165 yX3_isJoinable, Cond.instanceMethod yX3_isJoinable, Cond.selects RX3 yX3_isJoinable yX3_isJoinable, Cond.initialized RX3, Cond.code yX3_isJoinable cX3_isJoinable 1 (some .boolean), Cond.fieldLink RX3 27 "DawnFair$Stolen" "entries" "I", Cond.methodLink RX5 169 yX2_thingCount, Cond.instanceMethod yX2_thingCount, Cond.selects RX2 yX2_thingCount yX2_thingCount, Cond.initialized RX2, Cond.code yX2_thingCount cX2_thingCount 1 (some .int), Cond.fieldLink RX2 24 "DawnFair$Pieces" "things" "I", Cond.methodLink RX5 172 yX3_bestJoin, Cond.instanceMethod yX3_bestJoin, Cond.selects RX3 yX3_bestJoin yX3_bestJoin, Cond.code yX3_bestJoin cX3_bestJoin 5 (some .int), Cond.methodLink RX3 41 Lib.Math.min.name, Cond.static Lib.Math.min.name, Cond.initialized "java/lang/Math", Cond.code Lib.Math.min.name Lib.Math.min.code 2 (some .int), Cond.fieldLink RX3 21 "DawnFair$Stolen" "best" "[I", Cond.methodLink RX3 47 yJ7_fill_53178]
def wsX5_joined_r2 : List Cond := [Cond.static yJ7_fill_53178, Cond.initialized RJ7, Cond.code yJ7_fill_53178 cJ7_fill_53178 4 none, Cond.methodLink RX3 53 yX3_weigh, Cond.instanceMethod yX3_weigh, Cond.selects RX3 yX3_weigh yX3_weigh, Cond.code yX3_weigh cX3_weigh 4 none, Cond.fieldLink RX3 24 "DawnFair$Stolen" "worth" "[I", Cond.constant RX3 67 (4826809), Cond.fieldLink RX3 68 "DawnFair$Stolen" "PLACES" "[I", Cond.methodLink RX3 60 yX3_hasEntry, Cond.instanceMethod yX3_hasEntry, Cond.selects RX3 yX3_hasEntry yX3_hasEntry, Cond.code yX3_hasEntry cX3_hasEntry 2 (some .boolean), Cond.static yX5_within, Cond.initialized RX5, Cond.code yX5_within cX5_within 3 (some .boolean), Cond.methodLink RX3 64 yX3_scoreOf, Cond.instanceMethod yX3_scoreOf, Cond.selects RX3 yX3_scoreOf yX3_scoreOf, Cond.code yX3_scoreOf cX3_scoreOf 4 (some .int), Cond.fieldLink RX3 9 "DawnFair$Stolen" "entryMarks" "[I", Cond.fieldLink RX3 15 "DawnFair$Stolen" "seen" "[I", Cond.fieldLink RX3 18 "DawnFair$Stolen" "lacked" "[I"]
def wsX5_joined_r3 : List Cond := [Cond.methodLink RX3 35 yJ6_bitCount_0f7a4, Cond.static yJ6_bitCount_0f7a4, Cond.initialized RJ6, Cond.code yJ6_bitCount_0f7a4 cJ6_bitCount_0f7a4 1 (some .int), Cond.constant RJ6 265 (1431655765), Cond.constant RJ6 266 (858993459), Cond.constant RJ6 267 (252645135), Cond.methodLink RX3 57 yX3_bestWithThing, Cond.instanceMethod yX3_bestWithThing, Cond.selects RX3 yX3_bestWithThing yX3_bestWithThing, Cond.code yX3_bestWithThing cX3_bestWithThing 4 (some .int), Cond.methodLink RX3 71 Lib.Math.max.name, Cond.static Lib.Math.max.name, Cond.code Lib.Math.max.name Lib.Math.max.code 2 (some .int), Cond.methodLink RX5 175 yX3_sumIn, Cond.static yX3_sumIn, Cond.code yX3_sumIn cX3_sumIn 1 (some .int)]
def wsX5_joined : List Cond := .code yX5_joined cX5_joined 1 (some .int) :: ((wsX5_joined_r1 ++ (wsX5_joined_r2 ++ wsX5_joined_r3)) ++ wsX50 ++ wsX30 ++ wsX20)
def wsX5_joinedTo_r1 : List Cond := [Cond.fieldLink RX5 33 "DawnFair" "stolen" "LDawnFair$Stolen;", Cond.fieldLink RX5 12 "DawnFair" "pieces" "LDawnFair$Pieces;", Cond.methodLink RX5 159 yX3_hasEntry, Cond.instanceMethod yX3_hasEntry, Cond.selects RX3 yX3_hasEntry yX3_hasEntry, Cond.initialized RX3, Cond.code yX3_hasEntry cX3_hasEntry 2 (some .boolean), Cond.fieldLink RX3 27 "DawnFair$Stolen" "entries" "I", Cond.static yX5_within, Cond.initialized RX5, Cond.code yX5_within cX5_within 3 (some .boolean), Cond.methodLink RX5 165 yX3_isJoinable, Cond.instanceMethod yX3_isJoinable, Cond.selects RX3 yX3_isJoinable yX3_isJoinable, Cond.code yX3_isJoinable cX3_isJoinable 1 (some .boolean), Cond.methodLink RX5 169 yX2_thingCount, Cond.instanceMethod yX2_thingCount, Cond.selects RX2 yX2_thingCount yX2_thingCount, Cond.initialized RX2, Cond.code yX2_thingCount cX2_thingCount 1 (some .int), Cond.fieldLink RX2 24 "DawnFair$Pieces" "things" "I", Cond.methodLink RX5 172 yX3_bestJoin, Cond.instanceMethod yX3_bestJoin, Cond.selects RX3 yX3_bestJoin yX3_bestJoin]
def wsX5_joinedTo_r2 : List Cond := [Cond.code yX3_bestJoin cX3_bestJoin 5 (some .int), Cond.methodLink RX3 41 Lib.Math.min.name, Cond.static Lib.Math.min.name, Cond.initialized "java/lang/Math", Cond.code Lib.Math.min.name Lib.Math.min.code 2 (some .int), Cond.fieldLink RX3 21 "DawnFair$Stolen" "best" "[I", Cond.methodLink RX3 47 yJ7_fill_53178, Cond.static yJ7_fill_53178, Cond.initialized RJ7, Cond.code yJ7_fill_53178 cJ7_fill_53178 4 none, Cond.methodLink RX3 53 yX3_weigh, Cond.instanceMethod yX3_weigh, Cond.selects RX3 yX3_weigh yX3_weigh, Cond.code yX3_weigh cX3_weigh 4 none, Cond.fieldLink RX3 24 "DawnFair$Stolen" "worth" "[I", Cond.constant RX3 67 (4826809), Cond.fieldLink RX3 68 "DawnFair$Stolen" "PLACES" "[I", Cond.methodLink RX3 60 yX3_hasEntry, Cond.methodLink RX3 64 yX3_scoreOf, Cond.instanceMethod yX3_scoreOf, Cond.selects RX3 yX3_scoreOf yX3_scoreOf, Cond.code yX3_scoreOf cX3_scoreOf 4 (some .int), Cond.fieldLink RX3 9 "DawnFair$Stolen" "entryMarks" "[I", Cond.fieldLink RX3 15 "DawnFair$Stolen" "seen" "[I"]
def wsX5_joinedTo_r3 : List Cond := [Cond.fieldLink RX3 18 "DawnFair$Stolen" "lacked" "[I", Cond.methodLink RX3 35 yJ6_bitCount_0f7a4, Cond.static yJ6_bitCount_0f7a4, Cond.initialized RJ6, Cond.code yJ6_bitCount_0f7a4 cJ6_bitCount_0f7a4 1 (some .int), Cond.constant RJ6 265 (1431655765), Cond.constant RJ6 266 (858993459), Cond.constant RJ6 267 (252645135), Cond.methodLink RX3 57 yX3_bestWithThing, Cond.instanceMethod yX3_bestWithThing, Cond.selects RX3 yX3_bestWithThing yX3_bestWithThing, Cond.code yX3_bestWithThing cX3_bestWithThing 4 (some .int), Cond.methodLink RX3 71 Lib.Math.max.name, Cond.static Lib.Math.max.name, Cond.code Lib.Math.max.name Lib.Math.max.code 2 (some .int), Cond.methodLink RX5 178 yX3_thingIn, Cond.static yX3_thingIn, Cond.code yX3_thingIn cX3_thingIn 3 (some .int)]
def wsX5_joinedTo : List Cond := .code yX5_joinedTo cX5_joinedTo 2 (some .int) :: ((wsX5_joinedTo_r1 ++ (wsX5_joinedTo_r2 ++ wsX5_joinedTo_r3)) ++ wsX50 ++ wsX30 ++ wsX20)
def wsX5_owe : List Cond := .code yX5_owe cX5_owe 4 (some .int) :: ([.fieldLink RX5 40 "DawnFair" "debts" "LDawnFair$Debts;", .methodLink RX5 121 yX5_areTwo, .static yX5_areTwo, .initialized RX5, .code yX5_areTwo cX5_areTwo 2 (some .boolean), .methodLink RX5 90 yX5_isDealer, .static yX5_isDealer, .code yX5_isDealer cX5_isDealer 1 (some .boolean), .methodLink RX5 44 yX5_within, .static yX5_within, .code yX5_within cX5_within 3 (some .boolean), .methodLink RX5 181 yX1_change, .instanceMethod yX1_change, .selects RX1 yX1_change yX1_change, .initialized RX1, .code yX1_change cX1_change 5 (some .int), .fieldLink RX1 9 "DawnFair$Debts" "owed" "[I"] ++ wsX50 ++ wsX10)
def wsX5_net : List Cond := .code yX5_net cX5_net 2 (some .int) :: ([.fieldLink RX5 40 "DawnFair" "debts" "LDawnFair$Debts;", .constant RX5 111 (-2000000000), .methodLink RX5 90 yX5_isDealer, .static yX5_isDealer, .initialized RX5, .code yX5_isDealer cX5_isDealer 1 (some .boolean), .methodLink RX5 44 yX5_within, .static yX5_within, .code yX5_within cX5_within 3 (some .boolean), .methodLink RX5 184 yX1_netOf, .instanceMethod yX1_netOf, .selects RX1 yX1_netOf yX1_netOf, .initialized RX1, .code yX1_netOf cX1_netOf 2 (some .int), .methodLink RX1 15 yX1_owedTo, .instanceMethod yX1_owedTo, .selects RX1 yX1_owedTo yX1_owedTo, .code yX1_owedTo cX1_owedTo 5 (some .int), .fieldLink RX1 9 "DawnFair$Debts" "owed" "[I", .methodLink RX1 19 yX1_owedBy, .instanceMethod yX1_owedBy, .selects RX1 yX1_owedBy yX1_owedBy, .code yX1_owedBy cX1_owedBy 4 (some .int)] ++ wsX50 ++ wsX10)
def wsX5_fall_r1 : List Cond := [Cond.constant RX5 93 (100000), Cond.fieldLink RX5 40 "DawnFair" "debts" "LDawnFair$Debts;", Cond.methodLink RX5 90 yX5_isDealer, Cond.static yX5_isDealer, Cond.initialized RX5, Cond.code yX5_isDealer cX5_isDealer 1 (some .boolean), Cond.methodLink RX5 44 yX5_within, Cond.static yX5_within, Cond.code yX5_within cX5_within 3 (some .boolean), Cond.methodLink RX5 187 yX1_fallFrom, Cond.instanceMethod yX1_fallFrom, Cond.selects RX1 yX1_fallFrom yX1_fallFrom, Cond.initialized RX1, Cond.code yX1_fallFrom cX1_fallFrom 5 (some .int), Cond.methodLink RX1 23 yX1_fallingNext, Cond.instanceMethod yX1_fallingNext, Cond.selects RX1 yX1_fallingNext yX1_fallingNext, Cond.code yX1_fallingNext cX1_fallingNext 6 (some .int), Cond.methodLink RX1 15 yX1_owedTo, Cond.instanceMethod yX1_owedTo, Cond.selects RX1 yX1_owedTo yX1_owedTo, Cond.code yX1_owedTo cX1_owedTo 5 (some .int), Cond.fieldLink RX1 9 "DawnFair$Debts" "owed" "[I", Cond.methodLink RX1 19 yX1_owedBy]
def wsX5_fall_r2 : List Cond := [Cond.instanceMethod yX1_owedBy, Cond.selects RX1 yX1_owedBy yX1_owedBy, Cond.code yX1_owedBy cX1_owedBy 4 (some .int)]
def wsX5_fall : List Cond := .code yX5_fall cX5_fall 3 (some .int) :: ((wsX5_fall_r1 ++ wsX5_fall_r2) ++ wsX50 ++ wsX10)
def wsX5_count_r1 : List Cond := [Cond.fieldLink RX5 12 "DawnFair" "pieces" "LDawnFair$Pieces;", Cond.fieldLink RX5 19 "DawnFair" "trade" "LDawnFair$Trade;", Cond.fieldLink RX5 26 "DawnFair" "auctions" "LDawnFair$Auctions;", Cond.fieldLink RX5 33 "DawnFair" "stolen" "LDawnFair$Stolen;", Cond.fieldLink RX5 40 "DawnFair" "debts" "LDawnFair$Debts;", Cond.methodLink RX5 169 yX2_thingCount, Cond.instanceMethod yX2_thingCount, Cond.selects RX2 yX2_thingCount yX2_thingCount, Cond.initialized RX2, Cond.code yX2_thingCount cX2_thingCount 1 (some .int), Cond.fieldLink RX2 24 "DawnFair$Pieces" "things" "I", Cond.methodLink RX5 101 yX4_saleCount, Cond.instanceMethod yX4_saleCount, Cond.selects RX4 yX4_saleCount yX4_saleCount, Cond.initialized RX4, Cond.code yX4_saleCount cX4_saleCount 1 (some .int), Cond.fieldLink RX4 27 "DawnFair$Trade" "sales" "I", Cond.methodLink RX5 190 yX4_standingCount, Cond.instanceMethod yX4_standingCount, Cond.selects RX4 yX4_standingCount yX4_standingCount, Cond.code yX4_standingCount cX4_standingCount 3 (some .int), Cond.methodLink RX4 44 yX4_field, Cond.instanceMethod yX4_field, Cond.selects RX4 yX4_field yX4_field]
def wsX5_count_r2 : List Cond := [Cond.code yX4_field cX4_field 3 (some .int), Cond.fieldLink RX4 21 "DawnFair$Trade" "rows" "[I", Cond.methodLink RX5 193 yX0_lotCount, Cond.instanceMethod yX0_lotCount, Cond.selects RX0 yX0_lotCount yX0_lotCount, Cond.initialized RX0, Cond.code yX0_lotCount cX0_lotCount 1 (some .int), Cond.fieldLink RX0 21 "DawnFair$Auctions" "lots" "I", Cond.methodLink RX5 196 yX3_entryCount, Cond.instanceMethod yX3_entryCount, Cond.selects RX3 yX3_entryCount yX3_entryCount, Cond.initialized RX3, Cond.code yX3_entryCount cX3_entryCount 1 (some .int), Cond.fieldLink RX3 27 "DawnFair$Stolen" "entries" "I", Cond.methodLink RX5 199 yX4_currentHour, Cond.instanceMethod yX4_currentHour, Cond.selects RX4 yX4_currentHour yX4_currentHour, Cond.code yX4_currentHour cX4_currentHour 1 (some .int), Cond.fieldLink RX4 31 "DawnFair$Trade" "hour" "I", Cond.methodLink RX5 202 yX1_total, Cond.instanceMethod yX1_total, Cond.selects RX1 yX1_total yX1_total, Cond.initialized RX1, Cond.code yX1_total cX1_total 3 (some .int)]
def wsX5_count_r3 : List Cond := [Cond.fieldLink RX1 9 "DawnFair$Debts" "owed" "[I"]
def wsX5_count : List Cond := .code yX5_count cX5_count 2 (some .int) :: ((wsX5_count_r1 ++ (wsX5_count_r2 ++ wsX5_count_r3)) ++ wsX50 ++ wsX20 ++ wsX40 ++ wsX00 ++ wsX30 ++ wsX10)
def wsX5_digest_r1 : List Cond := [Cond.constantLong RX5 205 (239), Cond.fieldLink RX5 12 "DawnFair" "pieces" "LDawnFair$Pieces;", Cond.fieldLink RX5 19 "DawnFair" "trade" "LDawnFair$Trade;", Cond.fieldLink RX5 33 "DawnFair" "stolen" "LDawnFair$Stolen;", Cond.fieldLink RX5 26 "DawnFair" "auctions" "LDawnFair$Auctions;", Cond.fieldLink RX5 40 "DawnFair" "debts" "LDawnFair$Debts;", Cond.methodLink RX5 207 yX5_count, Cond.instanceMethod yX5_count, Cond.selects RX5 yX5_count yX5_count, Cond.initialized RX5, Cond.code yX5_count cX5_count 2 (some .int), Cond.methodLink RX5 169 yX2_thingCount, Cond.instanceMethod yX2_thingCount, Cond.selects RX2 yX2_thingCount yX2_thingCount, Cond.initialized RX2, Cond.code yX2_thingCount cX2_thingCount 1 (some .int), Cond.fieldLink RX2 24 "DawnFair$Pieces" "things" "I", Cond.methodLink RX5 101 yX4_saleCount, Cond.instanceMethod yX4_saleCount, Cond.selects RX4 yX4_saleCount yX4_saleCount, Cond.initialized RX4, Cond.code yX4_saleCount cX4_saleCount 1 (some .int), Cond.fieldLink RX4 27 "DawnFair$Trade" "sales" "I", Cond.methodLink RX5 190 yX4_standingCount]
def wsX5_digest_r2 : List Cond := [Cond.instanceMethod yX4_standingCount, Cond.selects RX4 yX4_standingCount yX4_standingCount, Cond.code yX4_standingCount cX4_standingCount 3 (some .int), Cond.methodLink RX4 44 yX4_field, Cond.instanceMethod yX4_field, Cond.selects RX4 yX4_field yX4_field, Cond.code yX4_field cX4_field 3 (some .int), Cond.fieldLink RX4 21 "DawnFair$Trade" "rows" "[I", Cond.methodLink RX5 193 yX0_lotCount, Cond.instanceMethod yX0_lotCount, Cond.selects RX0 yX0_lotCount yX0_lotCount, Cond.initialized RX0, Cond.code yX0_lotCount cX0_lotCount 1 (some .int), Cond.fieldLink RX0 21 "DawnFair$Auctions" "lots" "I", Cond.methodLink RX5 196 yX3_entryCount, Cond.instanceMethod yX3_entryCount, Cond.selects RX3 yX3_entryCount yX3_entryCount, Cond.initialized RX3, Cond.code yX3_entryCount cX3_entryCount 1 (some .int), Cond.fieldLink RX3 27 "DawnFair$Stolen" "entries" "I", Cond.methodLink RX5 199 yX4_currentHour, Cond.instanceMethod yX4_currentHour, Cond.selects RX4 yX4_currentHour yX4_currentHour, Cond.code yX4_currentHour cX4_currentHour 1 (some .int)]
def wsX5_digest_r3 : List Cond := [Cond.fieldLink RX4 31 "DawnFair$Trade" "hour" "I", Cond.methodLink RX5 202 yX1_total, Cond.instanceMethod yX1_total, Cond.selects RX1 yX1_total yX1_total, Cond.initialized RX1, Cond.code yX1_total cX1_total 3 (some .int), Cond.fieldLink RX1 9 "DawnFair$Debts" "owed" "[I", Cond.methodLink RX5 210 yX5_mix, Cond.static yX5_mix, Cond.code yX5_mix cX5_mix 3 (some .long), Cond.constantLong RX5 233 (31), Cond.methodLink RX5 214 yX2_mixWorks, Cond.instanceMethod yX2_mixWorks, Cond.selects RX2 yX2_mixWorks yX2_mixWorks, Cond.code yX2_mixWorks cX2_mixWorks 6 (some .long), Cond.fieldLink RX2 9 "DawnFair$Pieces" "from" "[I", Cond.fieldLink RX2 15 "DawnFair$Pieces" "to" "[I", Cond.methodLink RX5 218 yX2_mixParts, Cond.instanceMethod yX2_mixParts, Cond.selects RX2 yX2_mixParts yX2_mixParts, Cond.code yX2_mixParts cX2_mixParts 7 (some .long), Cond.fieldLink RX2 18 "DawnFair$Pieces" "parts" "[I", Cond.methodLink RX2 42 yX2_worksOf, Cond.instanceMethod yX2_worksOf]
def wsX5_digest_r4 : List Cond := [Cond.selects RX2 yX2_worksOf yX2_worksOf, Cond.code yX2_worksOf cX2_worksOf 3 (some .int), Cond.fieldLink RX2 21 "DawnFair$Pieces" "works" "[I", Cond.methodLink RX5 84 yX4_holderOf, Cond.instanceMethod yX4_holderOf, Cond.selects RX4 yX4_holderOf yX4_holderOf, Cond.code yX4_holderOf cX4_holderOf 2 (some .int), Cond.fieldLink RX4 9 "DawnFair$Trade" "holders" "[I", Cond.methodLink RX5 221 yX3_mixMarks, Cond.instanceMethod yX3_mixMarks, Cond.selects RX3 yX3_mixMarks yX3_mixMarks, Cond.code yX3_mixMarks cX3_mixMarks 4 (some .long), Cond.fieldLink RX3 15 "DawnFair$Stolen" "seen" "[I", Cond.fieldLink RX3 18 "DawnFair$Stolen" "lacked" "[I", Cond.methodLink RX5 224 yX4_mixSales, Cond.instanceMethod yX4_mixSales, Cond.selects RX4 yX4_mixSales yX4_mixSales, Cond.code yX4_mixSales cX4_mixSales 6 (some .long), Cond.methodLink RX5 227 yX0_mixLots, Cond.instanceMethod yX0_mixLots, Cond.selects RX0 yX0_mixLots yX0_mixLots, Cond.code yX0_mixLots cX0_mixLots 6 (some .long), Cond.fieldLink RX0 11 "DawnFair$Auctions" "there" "[I", Cond.fieldLink RX0 15 "DawnFair$Auctions" "bid" "[I"]
def wsX5_digest_r5 : List Cond := [Cond.fieldLink RX0 18 "DawnFair$Auctions" "won" "[I", Cond.methodLink RX5 230 yX3_mixEntries, Cond.instanceMethod yX3_mixEntries, Cond.selects RX3 yX3_mixEntries yX3_mixEntries, Cond.code yX3_mixEntries cX3_mixEntries 6 (some .long), Cond.fieldLink RX3 9 "DawnFair$Stolen" "entryMarks" "[I", Cond.methodLink RX5 108 yX4_gainOf, Cond.instanceMethod yX4_gainOf, Cond.selects RX4 yX4_gainOf yX4_gainOf, Cond.code yX4_gainOf cX4_gainOf 4 (some .int), Cond.methodLink RX4 48 yX4_stands, Cond.instanceMethod yX4_stands, Cond.selects RX4 yX4_stands yX4_stands, Cond.code yX4_stands cX4_stands 2 (some .boolean), Cond.methodLink RX5 184 yX1_netOf, Cond.instanceMethod yX1_netOf, Cond.selects RX1 yX1_netOf yX1_netOf, Cond.code yX1_netOf cX1_netOf 2 (some .int), Cond.methodLink RX1 15 yX1_owedTo, Cond.instanceMethod yX1_owedTo, Cond.selects RX1 yX1_owedTo yX1_owedTo, Cond.code yX1_owedTo cX1_owedTo 5 (some .int), Cond.methodLink RX1 19 yX1_owedBy, Cond.instanceMethod yX1_owedBy]
def wsX5_digest_r6 : List Cond := [Cond.selects RX1 yX1_owedBy yX1_owedBy, Cond.code yX1_owedBy cX1_owedBy 4 (some .int)]
def wsX5_digest : List Cond := .code yX5_digest cX5_digest 4 (some .long) :: ((wsX5_digest_r1 ++ (wsX5_digest_r2 ++ (wsX5_digest_r3 ++ (wsX5_digest_r4 ++ (wsX5_digest_r5 ++ wsX5_digest_r6))))) ++ wsX50 ++ wsX20 ++ wsX40 ++ wsX00 ++ wsX30 ++ wsX10)
def wsX6_init_r1 : List Cond := [Cond.methodLink RX6 1 objectInit, Cond.instanceMethod objectInit, Cond.code objectInit ⟨#[0xb1]⟩ 1 none, Cond.arrayClass .int, Cond.fieldLink RX6 7 "DawnFairModel" "since" "[I", Cond.fieldLink RX6 13 "DawnFairModel" "until" "[I", Cond.fieldLink RX6 16 "DawnFairModel" "parts" "[I", Cond.fieldLink RX6 19 "DawnFairModel" "worksOf" "[I", Cond.fieldLink RX6 22 "DawnFairModel" "holder" "[I", Cond.fieldLink RX6 25 "DawnFairModel" "latest" "[I", Cond.fieldLink RX6 28 "DawnFairModel" "seen" "[I", Cond.fieldLink RX6 31 "DawnFairModel" "lacked" "[I", Cond.fieldLink RX6 34 "DawnFairModel" "hour" "I", Cond.fieldLink RX6 38 "DawnFairModel" "saleThing" "[I", Cond.fieldLink RX6 41 "DawnFairModel" "seller" "[I", Cond.fieldLink RX6 44 "DawnFairModel" "buyer" "[I", Cond.fieldLink RX6 47 "DawnFairModel" "price" "[I", Cond.fieldLink RX6 50 "DawnFairModel" "soldAt" "[I", Cond.fieldLink RX6 53 "DawnFairModel" "backBy" "[I", Cond.fieldLink RX6 56 "DawnFairModel" "stands" "[I", Cond.fieldLink RX6 59 "DawnFairModel" "ahead" "[I", Cond.fieldLink RX6 62 "DawnFairModel" "there" "[I", Cond.fieldLink RX6 65 "DawnFairModel" "bid" "[I", Cond.fieldLink RX6 68 "DawnFairModel" "won" "[I"]
def wsX6_init_r2 : List Cond := [Cond.arrayClass .long, Cond.fieldLink RX6 71 "DawnFairModel" "ways" "[J", Cond.fieldLink RX6 75 "DawnFairModel" "marks" "[I", Cond.fieldLink RX6 78 "DawnFairModel" "sums" "[I", Cond.fieldLink RX6 81 "DawnFairModel" "joins" "[I", Cond.fieldLink RX6 84 "DawnFairModel" "scores" "[I", Cond.fieldLink RX6 87 "DawnFairModel" "owes" "[I"]
def wsX6_init : List Cond := .code yX6_init cX6_init 3 none :: ((wsX6_init_r1 ++ wsX6_init_r2) ++ wsX60)
def wsX6_in : List Cond := .code yX6_in cX6_in 6 (some .boolean) :: ([])
def wsX6_isDealer : List Cond := .code yX6_isDealer cX6_isDealer 1 (some .boolean) :: ([.constantLong RX6 90 (7), .methodLink RX6 92 yX6_in, .static yX6_in, .initialized RX6, .code yX6_in cX6_in 6 (some .boolean)])
def wsX6_work : List Cond := .code yX6_work cX6_work 4 (some .int) :: ([.constantLong RX6 96 (9), .constantLong RX6 98 (1600), .constantLong RX6 100 (1950), .fieldLink RX6 7 "DawnFairModel" "since" "[I", .fieldLink RX6 13 "DawnFairModel" "until" "[I", .methodLink RX6 92 yX6_in, .static yX6_in, .initialized RX6, .code yX6_in cX6_in 6 (some .boolean)] ++ wsX60)
def wsX6_thing : List Cond := .code yX6_thing cX6_thing 3 (some .int) :: ([.constantLong RX6 102 (5), .fieldLink RX6 104 "DawnFairModel" "things" "I", .fieldLink RX6 16 "DawnFairModel" "parts" "[I", .fieldLink RX6 19 "DawnFairModel" "worksOf" "[I", .fieldLink RX6 22 "DawnFairModel" "holder" "[I", .fieldLink RX6 25 "DawnFairModel" "latest" "[I", .fieldLink RX6 28 "DawnFairModel" "seen" "[I", .fieldLink RX6 31 "DawnFairModel" "lacked" "[I", .methodLink RX6 92 yX6_in, .static yX6_in, .initialized RX6, .code yX6_in cX6_in 6 (some .boolean)] ++ wsX60)
def wsX6_noThing : List Cond := .code yX6_noThing cX6_noThing 2 (some .boolean) :: ([.fieldLink RX6 104 "DawnFairModel" "things" "I", .methodLink RX6 92 yX6_in, .static yX6_in, .initialized RX6, .code yX6_in cX6_in 6 (some .boolean)] ++ wsX60)
def wsX6_part : List Cond := .code yX6_part cX6_part 5 (some .int) :: ([.fieldLink RX6 16 "DawnFairModel" "parts" "[I", .constantLong RX6 111 (1023), .fieldLink RX6 19 "DawnFairModel" "worksOf" "[I", .methodLink RX6 107 yX6_noThing, .instanceMethod yX6_noThing, .selects RX6 yX6_noThing yX6_noThing, .initialized RX6, .code yX6_noThing cX6_noThing 2 (some .boolean), .fieldLink RX6 104 "DawnFairModel" "things" "I", .methodLink RX6 92 yX6_in, .static yX6_in, .code yX6_in cX6_in 6 (some .boolean)] ++ wsX60)
def wsX6_narrow : List Cond := .code yX6_narrow cX6_narrow 4 none :: ([.fieldLink RX6 19 "DawnFairModel" "worksOf" "[I", .fieldLink RX6 7 "DawnFairModel" "since" "[I", .fieldLink RX6 113 "DawnFairModel" "from" "I", .fieldLink RX6 13 "DawnFairModel" "until" "[I", .fieldLink RX6 116 "DawnFairModel" "to" "I"] ++ wsX60)
def wsX6_allYears : List Cond := .code yX6_allYears cX6_allYears 1 none :: ([.fieldLink RX6 113 "DawnFairModel" "from" "I", .fieldLink RX6 116 "DawnFairModel" "to" "I"] ++ wsX60)
def wsX6_span : List Cond := .code yX6_span cX6_span 4 (some .int) :: ([.fieldLink RX6 16 "DawnFairModel" "parts" "[I", .fieldLink RX6 113 "DawnFairModel" "from" "I", .fieldLink RX6 116 "DawnFairModel" "to" "I", .methodLink RX6 107 yX6_noThing, .instanceMethod yX6_noThing, .selects RX6 yX6_noThing yX6_noThing, .initialized RX6, .code yX6_noThing cX6_noThing 2 (some .boolean), .fieldLink RX6 104 "DawnFairModel" "things" "I", .methodLink RX6 92 yX6_in, .static yX6_in, .code yX6_in cX6_in 6 (some .boolean), .methodLink RX6 119 yX6_allYears, .instanceMethod yX6_allYears, .selects RX6 yX6_allYears yX6_allYears, .code yX6_allYears cX6_allYears 1 none, .methodLink RX6 122 yX6_narrow, .instanceMethod yX6_narrow, .selects RX6 yX6_narrow yX6_narrow, .code yX6_narrow cX6_narrow 4 none, .fieldLink RX6 19 "DawnFairModel" "worksOf" "[I", .fieldLink RX6 7 "DawnFairModel" "since" "[I", .fieldLink RX6 13 "DawnFairModel" "until" "[I"] ++ wsX60)
def wsX6_bits : List Cond := .code yX6_bits cX6_bits 3 (some .int) :: ([])
def wsX6_findApart : List Cond := .code yX6_findApart cX6_findApart 5 (some .int) :: ([.fieldLink RX6 16 "DawnFairModel" "parts" "[I", .fieldLink RX6 113 "DawnFairModel" "from" "I", .fieldLink RX6 116 "DawnFairModel" "to" "I", .methodLink RX6 119 yX6_allYears, .instanceMethod yX6_allYears, .selects RX6 yX6_allYears yX6_allYears, .initialized RX6, .code yX6_allYears cX6_allYears 1 none, .methodLink RX6 122 yX6_narrow, .instanceMethod yX6_narrow, .selects RX6 yX6_narrow yX6_narrow, .code yX6_narrow cX6_narrow 4 none, .fieldLink RX6 19 "DawnFairModel" "worksOf" "[I", .fieldLink RX6 7 "DawnFairModel" "since" "[I", .fieldLink RX6 13 "DawnFairModel" "until" "[I", .methodLink RX6 126 yX6_bits, .static yX6_bits, .code yX6_bits cX6_bits 3 (some .int)] ++ wsX60)
def wsX6_apart_r1 : List Cond := [Cond.methodLink RX6 107 yX6_noThing, Cond.instanceMethod yX6_noThing, Cond.selects RX6 yX6_noThing yX6_noThing, Cond.initialized RX6, Cond.code yX6_noThing cX6_noThing 2 (some .boolean), Cond.fieldLink RX6 104 "DawnFairModel" "things" "I", Cond.methodLink RX6 92 yX6_in, Cond.static yX6_in, Cond.code yX6_in cX6_in 6 (some .boolean), Cond.methodLink RX6 130 yX6_findApart, Cond.instanceMethod yX6_findApart, Cond.selects RX6 yX6_findApart yX6_findApart, Cond.code yX6_findApart cX6_findApart 5 (some .int), Cond.fieldLink RX6 16 "DawnFairModel" "parts" "[I", Cond.fieldLink RX6 113 "DawnFairModel" "from" "I", Cond.fieldLink RX6 116 "DawnFairModel" "to" "I", Cond.methodLink RX6 119 yX6_allYears, Cond.instanceMethod yX6_allYears, Cond.selects RX6 yX6_allYears yX6_allYears, Cond.code yX6_allYears cX6_allYears 1 none, Cond.methodLink RX6 122 yX6_narrow, Cond.instanceMethod yX6_narrow, Cond.selects RX6 yX6_narrow yX6_narrow, Cond.code yX6_narrow cX6_narrow 4 none]
def wsX6_apart_r2 : List Cond := [Cond.fieldLink RX6 19 "DawnFairModel" "worksOf" "[I", Cond.fieldLink RX6 7 "DawnFairModel" "since" "[I", Cond.fieldLink RX6 13 "DawnFairModel" "until" "[I", Cond.methodLink RX6 126 yX6_bits, Cond.static yX6_bits, Cond.code yX6_bits cX6_bits 3 (some .int)]
def wsX6_apart : List Cond := .code yX6_apart cX6_apart 2 (some .int) :: ((wsX6_apart_r1 ++ wsX6_apart_r2) ++ wsX60)
def wsX6_date_r1 : List Cond := [Cond.fieldLink RX6 113 "DawnFairModel" "from" "I", Cond.fieldLink RX6 116 "DawnFairModel" "to" "I", Cond.methodLink RX6 107 yX6_noThing, Cond.instanceMethod yX6_noThing, Cond.selects RX6 yX6_noThing yX6_noThing, Cond.initialized RX6, Cond.code yX6_noThing cX6_noThing 2 (some .boolean), Cond.fieldLink RX6 104 "DawnFairModel" "things" "I", Cond.methodLink RX6 92 yX6_in, Cond.static yX6_in, Cond.code yX6_in cX6_in 6 (some .boolean), Cond.methodLink RX6 130 yX6_findApart, Cond.instanceMethod yX6_findApart, Cond.selects RX6 yX6_findApart yX6_findApart, Cond.code yX6_findApart cX6_findApart 5 (some .int), Cond.fieldLink RX6 16 "DawnFairModel" "parts" "[I", Cond.methodLink RX6 119 yX6_allYears, Cond.instanceMethod yX6_allYears, Cond.selects RX6 yX6_allYears yX6_allYears, Cond.code yX6_allYears cX6_allYears 1 none, Cond.methodLink RX6 122 yX6_narrow, Cond.instanceMethod yX6_narrow, Cond.selects RX6 yX6_narrow yX6_narrow, Cond.code yX6_narrow cX6_narrow 4 none]
def wsX6_date_r2 : List Cond := [Cond.fieldLink RX6 19 "DawnFairModel" "worksOf" "[I", Cond.fieldLink RX6 7 "DawnFairModel" "since" "[I", Cond.fieldLink RX6 13 "DawnFairModel" "until" "[I", Cond.methodLink RX6 126 yX6_bits, Cond.static yX6_bits, Cond.code yX6_bits cX6_bits 3 (some .int)]
def wsX6_date : List Cond := .code yX6_date cX6_date 4 (some .int) :: ((wsX6_date_r1 ++ wsX6_date_r2) ++ wsX60)
def wsX6_hold : List Cond := .code yX6_hold cX6_hold 4 (some .int) :: ([.constantLong RX6 133 (-1), .constantLong RX6 90 (7), .fieldLink RX6 22 "DawnFairModel" "holder" "[I", .fieldLink RX6 25 "DawnFairModel" "latest" "[I", .methodLink RX6 107 yX6_noThing, .instanceMethod yX6_noThing, .selects RX6 yX6_noThing yX6_noThing, .initialized RX6, .code yX6_noThing cX6_noThing 2 (some .boolean), .fieldLink RX6 104 "DawnFairModel" "things" "I", .methodLink RX6 92 yX6_in, .static yX6_in, .code yX6_in cX6_in 6 (some .boolean)] ++ wsX60)
def wsX6_holder : List Cond := .code yX6_holder cX6_holder 2 (some .int) :: ([.fieldLink RX6 22 "DawnFairModel" "holder" "[I", .methodLink RX6 107 yX6_noThing, .instanceMethod yX6_noThing, .selects RX6 yX6_noThing yX6_noThing, .initialized RX6, .code yX6_noThing cX6_noThing 2 (some .boolean), .fieldLink RX6 104 "DawnFairModel" "things" "I", .methodLink RX6 92 yX6_in, .static yX6_in, .code yX6_in cX6_in 6 (some .boolean)] ++ wsX60)
def wsX6_hours : List Cond := .code yX6_hours cX6_hours 2 (some .int) :: ([.constantLong RX6 135 (20), .fieldLink RX6 34 "DawnFairModel" "hour" "I", .methodLink RX6 92 yX6_in, .static yX6_in, .initialized RX6, .code yX6_in cX6_in 6 (some .boolean)] ++ wsX60)
def wsX6_wasSoldNow : List Cond := .code yX6_wasSoldNow cX6_wasSoldNow 4 (some .boolean) :: ([.fieldLink RX6 137 "DawnFairModel" "sales" "I", .fieldLink RX6 38 "DawnFairModel" "saleThing" "[I", .fieldLink RX6 50 "DawnFairModel" "soldAt" "[I", .fieldLink RX6 34 "DawnFairModel" "hour" "I"] ++ wsX60)
def wsX6_sell_r1 : List Cond := [Cond.constantLong RX6 143 (100000), Cond.constantLong RX6 145 (2000), Cond.fieldLink RX6 22 "DawnFairModel" "holder" "[I", Cond.fieldLink RX6 34 "DawnFairModel" "hour" "I", Cond.fieldLink RX6 137 "DawnFairModel" "sales" "I", Cond.fieldLink RX6 38 "DawnFairModel" "saleThing" "[I", Cond.fieldLink RX6 41 "DawnFairModel" "seller" "[I", Cond.fieldLink RX6 44 "DawnFairModel" "buyer" "[I", Cond.fieldLink RX6 47 "DawnFairModel" "price" "[I", Cond.fieldLink RX6 50 "DawnFairModel" "soldAt" "[I", Cond.fieldLink RX6 53 "DawnFairModel" "backBy" "[I", Cond.fieldLink RX6 56 "DawnFairModel" "stands" "[I", Cond.fieldLink RX6 59 "DawnFairModel" "ahead" "[I", Cond.fieldLink RX6 25 "DawnFairModel" "latest" "[I", Cond.methodLink RX6 107 yX6_noThing, Cond.instanceMethod yX6_noThing, Cond.selects RX6 yX6_noThing yX6_noThing, Cond.initialized RX6, Cond.code yX6_noThing cX6_noThing 2 (some .boolean), Cond.fieldLink RX6 104 "DawnFairModel" "things" "I", Cond.methodLink RX6 92 yX6_in, Cond.static yX6_in, Cond.code yX6_in cX6_in 6 (some .boolean), Cond.methodLink RX6 140 yX6_isDealer]
def wsX6_sell_r2 : List Cond := [Cond.static yX6_isDealer, Cond.code yX6_isDealer cX6_isDealer 1 (some .boolean), Cond.constantLong RX6 90 (7), Cond.methodLink RX6 147 yX6_wasSoldNow, Cond.instanceMethod yX6_wasSoldNow, Cond.selects RX6 yX6_wasSoldNow yX6_wasSoldNow, Cond.code yX6_wasSoldNow cX6_wasSoldNow 4 (some .boolean)]
def wsX6_sell : List Cond := .code yX6_sell cX6_sell 5 (some .int) :: ((wsX6_sell_r1 ++ wsX6_sell_r2) ++ wsX60)
def wsX6_back : List Cond := .code yX6_back cX6_back 3 (some .int) :: ([.fieldLink RX6 25 "DawnFairModel" "latest" "[I", .fieldLink RX6 22 "DawnFairModel" "holder" "[I", .fieldLink RX6 44 "DawnFairModel" "buyer" "[I", .fieldLink RX6 53 "DawnFairModel" "backBy" "[I", .fieldLink RX6 34 "DawnFairModel" "hour" "I", .fieldLink RX6 56 "DawnFairModel" "stands" "[I", .fieldLink RX6 41 "DawnFairModel" "seller" "[I", .fieldLink RX6 59 "DawnFairModel" "ahead" "[I", .methodLink RX6 107 yX6_noThing, .instanceMethod yX6_noThing, .selects RX6 yX6_noThing yX6_noThing, .initialized RX6, .code yX6_noThing cX6_noThing 2 (some .boolean), .fieldLink RX6 104 "DawnFairModel" "things" "I", .methodLink RX6 92 yX6_in, .static yX6_in, .code yX6_in cX6_in 6 (some .boolean)] ++ wsX60)
def wsX6_saleOf : List Cond := .code yX6_saleOf cX6_saleOf 3 (some .int) :: ([.fieldLink RX6 38 "DawnFairModel" "saleThing" "[I", .fieldLink RX6 41 "DawnFairModel" "seller" "[I", .fieldLink RX6 44 "DawnFairModel" "buyer" "[I", .fieldLink RX6 47 "DawnFairModel" "price" "[I", .fieldLink RX6 50 "DawnFairModel" "soldAt" "[I", .fieldLink RX6 53 "DawnFairModel" "backBy" "[I", .fieldLink RX6 56 "DawnFairModel" "stands" "[I"] ++ wsX60)
def wsX6_sale : List Cond := .code yX6_sale cX6_sale 3 (some .int) :: ([.constantLong RX6 150 (6), .fieldLink RX6 137 "DawnFairModel" "sales" "I", .methodLink RX6 92 yX6_in, .static yX6_in, .initialized RX6, .code yX6_in cX6_in 6 (some .boolean), .methodLink RX6 152 yX6_saleOf, .instanceMethod yX6_saleOf, .selects RX6 yX6_saleOf yX6_saleOf, .code yX6_saleOf cX6_saleOf 3 (some .int), .fieldLink RX6 38 "DawnFairModel" "saleThing" "[I", .fieldLink RX6 41 "DawnFairModel" "seller" "[I", .fieldLink RX6 44 "DawnFairModel" "buyer" "[I", .fieldLink RX6 47 "DawnFairModel" "price" "[I", .fieldLink RX6 50 "DawnFairModel" "soldAt" "[I", .fieldLink RX6 53 "DawnFairModel" "backBy" "[I", .fieldLink RX6 56 "DawnFairModel" "stands" "[I"] ++ wsX60)
def wsX6_gainOf : List Cond := .code yX6_gainOf cX6_gainOf 4 (some .int) :: ([.fieldLink RX6 137 "DawnFairModel" "sales" "I", .fieldLink RX6 56 "DawnFairModel" "stands" "[I", .fieldLink RX6 41 "DawnFairModel" "seller" "[I", .fieldLink RX6 47 "DawnFairModel" "price" "[I", .fieldLink RX6 44 "DawnFairModel" "buyer" "[I"] ++ wsX60)
def wsX6_gain : List Cond := .code yX6_gain cX6_gain 2 (some .int) :: ([.constant RX6 159 (-2000000000), .methodLink RX6 140 yX6_isDealer, .static yX6_isDealer, .initialized RX6, .code yX6_isDealer cX6_isDealer 1 (some .boolean), .constantLong RX6 90 (7), .methodLink RX6 92 yX6_in, .static yX6_in, .code yX6_in cX6_in 6 (some .boolean), .methodLink RX6 156 yX6_gainOf, .instanceMethod yX6_gainOf, .selects RX6 yX6_gainOf yX6_gainOf, .code yX6_gainOf cX6_gainOf 4 (some .int), .fieldLink RX6 137 "DawnFairModel" "sales" "I", .fieldLink RX6 56 "DawnFairModel" "stands" "[I", .fieldLink RX6 41 "DawnFairModel" "seller" "[I", .fieldLink RX6 47 "DawnFairModel" "price" "[I", .fieldLink RX6 44 "DawnFairModel" "buyer" "[I"] ++ wsX60)
def wsX6_rose : List Cond := .code yX6_rose cX6_rose 5 (some .int) :: ([.constant RX6 159 (-2000000000), .fieldLink RX6 137 "DawnFairModel" "sales" "I", .fieldLink RX6 56 "DawnFairModel" "stands" "[I", .fieldLink RX6 38 "DawnFairModel" "saleThing" "[I", .fieldLink RX6 47 "DawnFairModel" "price" "[I", .methodLink RX6 107 yX6_noThing, .instanceMethod yX6_noThing, .selects RX6 yX6_noThing yX6_noThing, .initialized RX6, .code yX6_noThing cX6_noThing 2 (some .boolean), .fieldLink RX6 104 "DawnFairModel" "things" "I", .methodLink RX6 92 yX6_in, .static yX6_in, .code yX6_in cX6_in 6 (some .boolean)] ++ wsX60)
def wsX6_lot : List Cond := .code yX6_lot cX6_lot 4 (some .int) :: ([.constantLong RX6 160 (255), .fieldLink RX6 162 "DawnFairModel" "lots" "I", .fieldLink RX6 62 "DawnFairModel" "there" "[I", .fieldLink RX6 65 "DawnFairModel" "bid" "[I", .fieldLink RX6 68 "DawnFairModel" "won" "[I", .methodLink RX6 92 yX6_in, .static yX6_in, .initialized RX6, .code yX6_in cX6_in 6 (some .boolean), .methodLink RX6 140 yX6_isDealer, .static yX6_isDealer, .code yX6_isDealer cX6_isDealer 1 (some .boolean), .constantLong RX6 90 (7)] ++ wsX60)
def wsX6_findBoth : List Cond := .code yX6_findBoth cX6_findBoth 4 none :: ([.fieldLink RX6 165 "DawnFairModel" "both" "I", .fieldLink RX6 168 "DawnFairModel" "bidOne" "I", .fieldLink RX6 171 "DawnFairModel" "bidOther" "I", .fieldLink RX6 174 "DawnFairModel" "bidBoth" "I", .fieldLink RX6 162 "DawnFairModel" "lots" "I", .fieldLink RX6 62 "DawnFairModel" "there" "[I", .fieldLink RX6 65 "DawnFairModel" "bid" "[I"] ++ wsX60)
def wsX6_isPair : List Cond := .code yX6_isPair cX6_isPair 2 (some .boolean) :: ([.methodLink RX6 140 yX6_isDealer, .static yX6_isDealer, .initialized RX6, .code yX6_isDealer cX6_isDealer 1 (some .boolean), .constantLong RX6 90 (7), .methodLink RX6 92 yX6_in, .static yX6_in, .code yX6_in cX6_in 6 (some .boolean)])
def wsX6_both : List Cond := .code yX6_both cX6_both 4 (some .int) :: ([.constantLong RX6 181 (3), .fieldLink RX6 165 "DawnFairModel" "both" "I", .fieldLink RX6 168 "DawnFairModel" "bidOne" "I", .fieldLink RX6 171 "DawnFairModel" "bidOther" "I", .fieldLink RX6 174 "DawnFairModel" "bidBoth" "I", .methodLink RX6 177 yX6_isPair, .static yX6_isPair, .initialized RX6, .code yX6_isPair cX6_isPair 2 (some .boolean), .methodLink RX6 140 yX6_isDealer, .static yX6_isDealer, .code yX6_isDealer cX6_isDealer 1 (some .boolean), .constantLong RX6 90 (7), .methodLink RX6 92 yX6_in, .static yX6_in, .code yX6_in cX6_in 6 (some .boolean), .methodLink RX6 183 yX6_findBoth, .instanceMethod yX6_findBoth, .selects RX6 yX6_findBoth yX6_findBoth, .code yX6_findBoth cX6_findBoth 4 none, .fieldLink RX6 162 "DawnFairModel" "lots" "I", .fieldLink RX6 62 "DawnFairModel" "there" "[I", .fieldLink RX6 65 "DawnFairModel" "bid" "[I"] ++ wsX60)
def wsX6_choose : List Cond := .code yX6_choose cX6_choose 3 (some .long) :: ([.fieldLink RX6 71 "DawnFairModel" "ways" "[J", .methodLink RX6 92 yX6_in, .static yX6_in, .initialized RX6, .code yX6_in cX6_in 6 (some .boolean)] ++ wsX60)
def wsX6_gcd : List Cond := .code yX6_gcd cX6_gcd 10 (some .long) :: ([])
def wsX6_findChance_r1 : List Cond := [Cond.fieldLink RX6 186 "DawnFairModel" "upper" "J", Cond.fieldLink RX6 174 "DawnFairModel" "bidBoth" "I", Cond.fieldLink RX6 168 "DawnFairModel" "bidOne" "I", Cond.fieldLink RX6 165 "DawnFairModel" "both" "I", Cond.fieldLink RX6 171 "DawnFairModel" "bidOther" "I", Cond.fieldLink RX6 194 "DawnFairModel" "lower" "J", Cond.methodLink RX6 183 yX6_findBoth, Cond.instanceMethod yX6_findBoth, Cond.selects RX6 yX6_findBoth yX6_findBoth, Cond.initialized RX6, Cond.code yX6_findBoth cX6_findBoth 4 none, Cond.fieldLink RX6 162 "DawnFairModel" "lots" "I", Cond.fieldLink RX6 62 "DawnFairModel" "there" "[I", Cond.fieldLink RX6 65 "DawnFairModel" "bid" "[I", Cond.methodLink RX6 190 yX6_choose, Cond.instanceMethod yX6_choose, Cond.selects RX6 yX6_choose yX6_choose, Cond.code yX6_choose cX6_choose 3 (some .long), Cond.fieldLink RX6 71 "DawnFairModel" "ways" "[J", Cond.methodLink RX6 92 yX6_in, Cond.static yX6_in, Cond.code yX6_in cX6_in 6 (some .boolean), Cond.methodLink RX6 197 yX6_gcd, Cond.static yX6_gcd]
def wsX6_findChance_r2 : List Cond := [Cond.code yX6_gcd cX6_gcd 10 (some .long)]
def wsX6_findChance : List Cond := .code yX6_findChance cX6_findChance 5 none :: ((wsX6_findChance_r1 ++ wsX6_findChance_r2) ++ wsX60)
def wsX6_chance_r1 : List Cond := [Cond.constantLong RX6 201 (-2), Cond.fieldLink RX6 186 "DawnFairModel" "upper" "J", Cond.fieldLink RX6 194 "DawnFairModel" "lower" "J", Cond.methodLink RX6 177 yX6_isPair, Cond.static yX6_isPair, Cond.initialized RX6, Cond.code yX6_isPair cX6_isPair 2 (some .boolean), Cond.methodLink RX6 140 yX6_isDealer, Cond.static yX6_isDealer, Cond.code yX6_isDealer cX6_isDealer 1 (some .boolean), Cond.constantLong RX6 90 (7), Cond.methodLink RX6 92 yX6_in, Cond.static yX6_in, Cond.code yX6_in cX6_in 6 (some .boolean), Cond.methodLink RX6 203 yX6_findChance, Cond.instanceMethod yX6_findChance, Cond.selects RX6 yX6_findChance yX6_findChance, Cond.code yX6_findChance cX6_findChance 5 none, Cond.fieldLink RX6 174 "DawnFairModel" "bidBoth" "I", Cond.fieldLink RX6 168 "DawnFairModel" "bidOne" "I", Cond.fieldLink RX6 165 "DawnFairModel" "both" "I", Cond.fieldLink RX6 171 "DawnFairModel" "bidOther" "I", Cond.methodLink RX6 183 yX6_findBoth, Cond.instanceMethod yX6_findBoth]
def wsX6_chance_r2 : List Cond := [Cond.selects RX6 yX6_findBoth yX6_findBoth, Cond.code yX6_findBoth cX6_findBoth 4 none, Cond.fieldLink RX6 162 "DawnFairModel" "lots" "I", Cond.fieldLink RX6 62 "DawnFairModel" "there" "[I", Cond.fieldLink RX6 65 "DawnFairModel" "bid" "[I", Cond.methodLink RX6 190 yX6_choose, Cond.instanceMethod yX6_choose, Cond.selects RX6 yX6_choose yX6_choose, Cond.code yX6_choose cX6_choose 3 (some .long), Cond.fieldLink RX6 71 "DawnFairModel" "ways" "[J", Cond.methodLink RX6 197 yX6_gcd, Cond.static yX6_gcd, Cond.code yX6_gcd cX6_gcd 10 (some .long)]
def wsX6_chance : List Cond := .code yX6_chance cX6_chance 4 (some .long) :: ((wsX6_chance_r1 ++ wsX6_chance_r2) ++ wsX60)
def wsX6_isLess : List Cond := .code yX6_isLess cX6_isLess 22 (some .boolean) :: ([])
def wsX6_shyest_r1 : List Cond := [Cond.fieldLink RX6 186 "DawnFairModel" "upper" "J", Cond.fieldLink RX6 194 "DawnFairModel" "lower" "J", Cond.methodLink RX6 203 yX6_findChance, Cond.instanceMethod yX6_findChance, Cond.selects RX6 yX6_findChance yX6_findChance, Cond.initialized RX6, Cond.code yX6_findChance cX6_findChance 5 none, Cond.fieldLink RX6 174 "DawnFairModel" "bidBoth" "I", Cond.fieldLink RX6 168 "DawnFairModel" "bidOne" "I", Cond.fieldLink RX6 165 "DawnFairModel" "both" "I", Cond.fieldLink RX6 171 "DawnFairModel" "bidOther" "I", Cond.methodLink RX6 183 yX6_findBoth, Cond.instanceMethod yX6_findBoth, Cond.selects RX6 yX6_findBoth yX6_findBoth, Cond.code yX6_findBoth cX6_findBoth 4 none, Cond.fieldLink RX6 162 "DawnFairModel" "lots" "I", Cond.fieldLink RX6 62 "DawnFairModel" "there" "[I", Cond.fieldLink RX6 65 "DawnFairModel" "bid" "[I", Cond.methodLink RX6 190 yX6_choose, Cond.instanceMethod yX6_choose, Cond.selects RX6 yX6_choose yX6_choose, Cond.code yX6_choose cX6_choose 3 (some .long), Cond.fieldLink RX6 71 "DawnFairModel" "ways" "[J", Cond.methodLink RX6 92 yX6_in]
def wsX6_shyest_r2 : List Cond := [Cond.static yX6_in, Cond.code yX6_in cX6_in 6 (some .boolean), Cond.methodLink RX6 197 yX6_gcd, Cond.static yX6_gcd, Cond.code yX6_gcd cX6_gcd 10 (some .long), Cond.methodLink RX6 206 yX6_isLess, Cond.static yX6_isLess, Cond.code yX6_isLess cX6_isLess 22 (some .boolean)]
def wsX6_shyest : List Cond := .code yX6_shyest cX6_shyest 8 (some .int) :: ((wsX6_shyest_r1 ++ wsX6_shyest_r2) ++ wsX60)
def wsX6_inside : List Cond := .code yX6_inside cX6_inside 6 (some .int) :: ([.constantLong RX6 160 (255), .constantLong RX6 143 (100000), .methodLink RX6 92 yX6_in, .static yX6_in, .initialized RX6, .code yX6_in cX6_in 6 (some .boolean), .methodLink RX6 126 yX6_bits, .static yX6_bits, .code yX6_bits cX6_bits 3 (some .int)])
def wsX6_entry : List Cond := .code yX6_entry cX6_entry 2 (some .int) :: ([.constantLong RX6 210 (4095), .fieldLink RX6 212 "DawnFairModel" "entries" "I", .fieldLink RX6 75 "DawnFairModel" "marks" "[I", .methodLink RX6 92 yX6_in, .static yX6_in, .initialized RX6, .code yX6_in cX6_in 6 (some .boolean)] ++ wsX60)
def wsX6_mark : List Cond := .code yX6_mark cX6_mark 5 (some .int) :: ([.constantLong RX6 215 (11), .constantLong RX6 217 (2), .fieldLink RX6 28 "DawnFairModel" "seen" "[I", .fieldLink RX6 31 "DawnFairModel" "lacked" "[I", .methodLink RX6 107 yX6_noThing, .instanceMethod yX6_noThing, .selects RX6 yX6_noThing yX6_noThing, .initialized RX6, .code yX6_noThing cX6_noThing 2 (some .boolean), .fieldLink RX6 104 "DawnFairModel" "things" "I", .methodLink RX6 92 yX6_in, .static yX6_in, .code yX6_in cX6_in 6 (some .boolean)] ++ wsX60)
def wsX6_scoreOf : List Cond := .code yX6_scoreOf cX6_scoreOf 3 (some .int) :: ([.fieldLink RX6 75 "DawnFairModel" "marks" "[I", .fieldLink RX6 28 "DawnFairModel" "seen" "[I", .fieldLink RX6 31 "DawnFairModel" "lacked" "[I", .methodLink RX6 126 yX6_bits, .static yX6_bits, .initialized RX6, .code yX6_bits cX6_bits 3 (some .int)] ++ wsX60)
def wsX6_score : List Cond := .code yX6_score cX6_score 3 (some .int) :: ([.fieldLink RX6 212 "DawnFairModel" "entries" "I", .methodLink RX6 92 yX6_in, .static yX6_in, .initialized RX6, .code yX6_in cX6_in 6 (some .boolean), .methodLink RX6 107 yX6_noThing, .instanceMethod yX6_noThing, .selects RX6 yX6_noThing yX6_noThing, .code yX6_noThing cX6_noThing 2 (some .boolean), .fieldLink RX6 104 "DawnFairModel" "things" "I", .methodLink RX6 219 yX6_scoreOf, .instanceMethod yX6_scoreOf, .selects RX6 yX6_scoreOf yX6_scoreOf, .code yX6_scoreOf cX6_scoreOf 3 (some .int), .fieldLink RX6 75 "DawnFairModel" "marks" "[I", .fieldLink RX6 28 "DawnFairModel" "seen" "[I", .fieldLink RX6 31 "DawnFairModel" "lacked" "[I", .methodLink RX6 126 yX6_bits, .static yX6_bits, .code yX6_bits cX6_bits 3 (some .int)] ++ wsX60)
def wsX6_findJoined : List Cond := .code yX6_findJoined cX6_findJoined 7 none :: ([.fieldLink RX6 212 "DawnFairModel" "entries" "I", .fieldLink RX6 104 "DawnFairModel" "things" "I", .fieldLink RX6 84 "DawnFairModel" "scores" "[I", .fieldLink RX6 78 "DawnFairModel" "sums" "[I", .fieldLink RX6 81 "DawnFairModel" "joins" "[I", .methodLink RX6 219 yX6_scoreOf, .instanceMethod yX6_scoreOf, .selects RX6 yX6_scoreOf yX6_scoreOf, .initialized RX6, .code yX6_scoreOf cX6_scoreOf 3 (some .int), .fieldLink RX6 75 "DawnFairModel" "marks" "[I", .fieldLink RX6 28 "DawnFairModel" "seen" "[I", .fieldLink RX6 31 "DawnFairModel" "lacked" "[I", .methodLink RX6 126 yX6_bits, .static yX6_bits, .code yX6_bits cX6_bits 3 (some .int)] ++ wsX60)
def wsX6_joined : List Cond := .code yX6_joined cX6_joined 1 (some .int) :: ([.fieldLink RX6 212 "DawnFairModel" "entries" "I", .fieldLink RX6 78 "DawnFairModel" "sums" "[I", .methodLink RX6 222 yX6_findJoined, .instanceMethod yX6_findJoined, .selects RX6 yX6_findJoined yX6_findJoined, .initialized RX6, .code yX6_findJoined cX6_findJoined 7 none, .fieldLink RX6 104 "DawnFairModel" "things" "I", .fieldLink RX6 84 "DawnFairModel" "scores" "[I", .fieldLink RX6 81 "DawnFairModel" "joins" "[I", .methodLink RX6 219 yX6_scoreOf, .instanceMethod yX6_scoreOf, .selects RX6 yX6_scoreOf yX6_scoreOf, .code yX6_scoreOf cX6_scoreOf 3 (some .int), .fieldLink RX6 75 "DawnFairModel" "marks" "[I", .fieldLink RX6 28 "DawnFairModel" "seen" "[I", .fieldLink RX6 31 "DawnFairModel" "lacked" "[I", .methodLink RX6 126 yX6_bits, .static yX6_bits, .code yX6_bits cX6_bits 3 (some .int)] ++ wsX60)
def wsX6_joinedTo : List Cond := .code yX6_joinedTo cX6_joinedTo 2 (some .int) :: ([.fieldLink RX6 212 "DawnFairModel" "entries" "I", .fieldLink RX6 81 "DawnFairModel" "joins" "[I", .methodLink RX6 92 yX6_in, .static yX6_in, .initialized RX6, .code yX6_in cX6_in 6 (some .boolean), .methodLink RX6 222 yX6_findJoined, .instanceMethod yX6_findJoined, .selects RX6 yX6_findJoined yX6_findJoined, .code yX6_findJoined cX6_findJoined 7 none, .fieldLink RX6 104 "DawnFairModel" "things" "I", .fieldLink RX6 84 "DawnFairModel" "scores" "[I", .fieldLink RX6 78 "DawnFairModel" "sums" "[I", .methodLink RX6 219 yX6_scoreOf, .instanceMethod yX6_scoreOf, .selects RX6 yX6_scoreOf yX6_scoreOf, .code yX6_scoreOf cX6_scoreOf 3 (some .int), .fieldLink RX6 75 "DawnFairModel" "marks" "[I", .fieldLink RX6 28 "DawnFairModel" "seen" "[I", .fieldLink RX6 31 "DawnFairModel" "lacked" "[I", .methodLink RX6 126 yX6_bits, .static yX6_bits, .code yX6_bits cX6_bits 3 (some .int)] ++ wsX60)
def wsX6_owe : List Cond := .code yX6_owe cX6_owe 5 (some .int) :: ([.constantLong RX6 225 (10000), .fieldLink RX6 87 "DawnFairModel" "owes" "[I", .methodLink RX6 177 yX6_isPair, .static yX6_isPair, .initialized RX6, .code yX6_isPair cX6_isPair 2 (some .boolean), .methodLink RX6 140 yX6_isDealer, .static yX6_isDealer, .code yX6_isDealer cX6_isDealer 1 (some .boolean), .constantLong RX6 90 (7), .methodLink RX6 92 yX6_in, .static yX6_in, .code yX6_in cX6_in 6 (some .boolean)] ++ wsX60)
def wsX6_owed : List Cond := .code yX6_owed cX6_owed 5 (some .int) :: ([.fieldLink RX6 87 "DawnFairModel" "owes" "[I"] ++ wsX60)
def wsX6_owing : List Cond := .code yX6_owing cX6_owing 4 (some .int) :: ([.fieldLink RX6 87 "DawnFairModel" "owes" "[I"] ++ wsX60)
def wsX6_net : List Cond := .code yX6_net cX6_net 2 (some .int) :: ([.constant RX6 159 (-2000000000), .methodLink RX6 140 yX6_isDealer, .static yX6_isDealer, .initialized RX6, .code yX6_isDealer cX6_isDealer 1 (some .boolean), .constantLong RX6 90 (7), .methodLink RX6 92 yX6_in, .static yX6_in, .code yX6_in cX6_in 6 (some .boolean), .methodLink RX6 227 yX6_owed, .instanceMethod yX6_owed, .selects RX6 yX6_owed yX6_owed, .code yX6_owed cX6_owed 5 (some .int), .fieldLink RX6 87 "DawnFairModel" "owes" "[I", .methodLink RX6 230 yX6_owing, .instanceMethod yX6_owing, .selects RX6 yX6_owing yX6_owing, .code yX6_owing cX6_owing 4 (some .int)] ++ wsX60)
def wsX6_fall : List Cond := .code yX6_fall cX6_fall 6 (some .int) :: ([.constantLong RX6 143 (100000), .methodLink RX6 140 yX6_isDealer, .static yX6_isDealer, .initialized RX6, .code yX6_isDealer cX6_isDealer 1 (some .boolean), .constantLong RX6 90 (7), .methodLink RX6 92 yX6_in, .static yX6_in, .code yX6_in cX6_in 6 (some .boolean), .methodLink RX6 227 yX6_owed, .instanceMethod yX6_owed, .selects RX6 yX6_owed yX6_owed, .code yX6_owed cX6_owed 5 (some .int), .fieldLink RX6 87 "DawnFairModel" "owes" "[I", .methodLink RX6 230 yX6_owing, .instanceMethod yX6_owing, .selects RX6 yX6_owing yX6_owing, .code yX6_owing cX6_owing 4 (some .int)] ++ wsX60)
def wsX6_standing : List Cond := .code yX6_standing cX6_standing 3 (some .int) :: ([.fieldLink RX6 137 "DawnFairModel" "sales" "I", .fieldLink RX6 56 "DawnFairModel" "stands" "[I"] ++ wsX60)
def wsX6_allDebts : List Cond := .code yX6_allDebts cX6_allDebts 3 (some .int) :: ([.methodLink RX6 230 yX6_owing, .instanceMethod yX6_owing, .selects RX6 yX6_owing yX6_owing, .initialized RX6, .code yX6_owing cX6_owing 4 (some .int), .fieldLink RX6 87 "DawnFairModel" "owes" "[I"] ++ wsX60)
def wsX6_count : List Cond := .code yX6_count cX6_count 2 (some .int) :: ([.fieldLink RX6 104 "DawnFairModel" "things" "I", .fieldLink RX6 137 "DawnFairModel" "sales" "I", .fieldLink RX6 162 "DawnFairModel" "lots" "I", .fieldLink RX6 212 "DawnFairModel" "entries" "I", .fieldLink RX6 34 "DawnFairModel" "hour" "I", .methodLink RX6 233 yX6_standing, .instanceMethod yX6_standing, .selects RX6 yX6_standing yX6_standing, .initialized RX6, .code yX6_standing cX6_standing 3 (some .int), .fieldLink RX6 56 "DawnFairModel" "stands" "[I", .methodLink RX6 237 yX6_allDebts, .instanceMethod yX6_allDebts, .selects RX6 yX6_allDebts yX6_allDebts, .code yX6_allDebts cX6_allDebts 3 (some .int), .methodLink RX6 230 yX6_owing, .instanceMethod yX6_owing, .selects RX6 yX6_owing yX6_owing, .code yX6_owing cX6_owing 4 (some .int), .fieldLink RX6 87 "DawnFairModel" "owes" "[I"] ++ wsX60)
def wsX6_digest_r1 : List Cond := [Cond.constantLong RX6 240 (239), Cond.constantLong RX6 242 (31), Cond.fieldLink RX6 7 "DawnFairModel" "since" "[I", Cond.fieldLink RX6 13 "DawnFairModel" "until" "[I", Cond.fieldLink RX6 104 "DawnFairModel" "things" "I", Cond.fieldLink RX6 16 "DawnFairModel" "parts" "[I", Cond.fieldLink RX6 19 "DawnFairModel" "worksOf" "[I", Cond.fieldLink RX6 22 "DawnFairModel" "holder" "[I", Cond.fieldLink RX6 28 "DawnFairModel" "seen" "[I", Cond.fieldLink RX6 31 "DawnFairModel" "lacked" "[I", Cond.fieldLink RX6 137 "DawnFairModel" "sales" "I", Cond.fieldLink RX6 162 "DawnFairModel" "lots" "I", Cond.fieldLink RX6 62 "DawnFairModel" "there" "[I", Cond.fieldLink RX6 65 "DawnFairModel" "bid" "[I", Cond.fieldLink RX6 68 "DawnFairModel" "won" "[I", Cond.fieldLink RX6 212 "DawnFairModel" "entries" "I", Cond.fieldLink RX6 75 "DawnFairModel" "marks" "[I", Cond.methodLink RX6 244 yX6_count, Cond.instanceMethod yX6_count, Cond.selects RX6 yX6_count yX6_count, Cond.initialized RX6, Cond.code yX6_count cX6_count 2 (some .int), Cond.fieldLink RX6 34 "DawnFairModel" "hour" "I", Cond.methodLink RX6 233 yX6_standing]
def wsX6_digest_r2 : List Cond := [Cond.instanceMethod yX6_standing, Cond.selects RX6 yX6_standing yX6_standing, Cond.code yX6_standing cX6_standing 3 (some .int), Cond.fieldLink RX6 56 "DawnFairModel" "stands" "[I", Cond.methodLink RX6 237 yX6_allDebts, Cond.instanceMethod yX6_allDebts, Cond.selects RX6 yX6_allDebts yX6_allDebts, Cond.code yX6_allDebts cX6_allDebts 3 (some .int), Cond.methodLink RX6 230 yX6_owing, Cond.instanceMethod yX6_owing, Cond.selects RX6 yX6_owing yX6_owing, Cond.code yX6_owing cX6_owing 4 (some .int), Cond.fieldLink RX6 87 "DawnFairModel" "owes" "[I", Cond.methodLink RX6 152 yX6_saleOf, Cond.instanceMethod yX6_saleOf, Cond.selects RX6 yX6_saleOf yX6_saleOf, Cond.code yX6_saleOf cX6_saleOf 3 (some .int), Cond.fieldLink RX6 38 "DawnFairModel" "saleThing" "[I", Cond.fieldLink RX6 41 "DawnFairModel" "seller" "[I", Cond.fieldLink RX6 44 "DawnFairModel" "buyer" "[I", Cond.fieldLink RX6 47 "DawnFairModel" "price" "[I", Cond.fieldLink RX6 50 "DawnFairModel" "soldAt" "[I", Cond.fieldLink RX6 53 "DawnFairModel" "backBy" "[I", Cond.methodLink RX6 156 yX6_gainOf]
def wsX6_digest_r3 : List Cond := [Cond.instanceMethod yX6_gainOf, Cond.selects RX6 yX6_gainOf yX6_gainOf, Cond.code yX6_gainOf cX6_gainOf 4 (some .int), Cond.methodLink RX6 227 yX6_owed, Cond.instanceMethod yX6_owed, Cond.selects RX6 yX6_owed yX6_owed, Cond.code yX6_owed cX6_owed 5 (some .int)]
def wsX6_digest : List Cond := .code yX6_digest cX6_digest 5 (some .long) :: ((wsX6_digest_r1 ++ (wsX6_digest_r2 ++ wsX6_digest_r3)) ++ wsX60)
def wsJ9_max_7cf53 : List Cond := .code yJ9_max_7cf53 cJ9_max_7cf53 2 (some .int) :: ([])
def wsJ9_max_f86c9 : List Cond := .code yJ9_max_f86c9 cJ9_max_f86c9 4 (some .long) :: ([])
def wsJ9_min_7cf53 : List Cond := .code yJ9_min_7cf53 cJ9_min_7cf53 2 (some .int) :: ([])
abbrev vwCl : List vw_C := [(RX0, TX0, 4), (RX1, TX1, 1), (RX2, TX2, 5), (RX3, TX3, 6), (RX4, TX4, 7), (RX5, TX5, 5), (RX6, TX6, 38)]
end
section
theorem dX0_init_0 : decode cX0_init 0 = .ok (.aload_n 0, 1) := by decide +kernel
theorem dX0_init_1 : decode cX0_init 1 = .ok (.invokespecial 5, 3) := by decide +kernel
theorem dX0_init_4 : decode cX0_init 4 = .ok (.aload_n 0, 1) := by decide +kernel
theorem dX0_init_5 : decode cX0_init 5 = .ok (.bipush 40, 2) := by decide +kernel
theorem dX0_init_7 : decode cX0_init 7 = .ok (.newarray .int, 2) := by decide +kernel
theorem dX0_init_9 : decode cX0_init 9 = .ok (.putfield 11, 3) := by decide +kernel
theorem dX0_init_12 : decode cX0_init 12 = .ok (.aload_n 0, 1) := by decide +kernel
theorem dX0_init_13 : decode cX0_init 13 = .ok (.bipush 40, 2) := by decide +kernel
theorem dX0_init_15 : decode cX0_init 15 = .ok (.newarray .int, 2) := by decide +kernel
theorem dX0_init_17 : decode cX0_init 17 = .ok (.putfield 15, 3) := by decide +kernel
theorem dX0_init_20 : decode cX0_init 20 = .ok (.aload_n 0, 1) := by decide +kernel
theorem dX0_init_21 : decode cX0_init 21 = .ok (.bipush 40, 2) := by decide +kernel
theorem dX0_init_23 : decode cX0_init 23 = .ok (.newarray .int, 2) := by decide +kernel
theorem dX0_init_25 : decode cX0_init 25 = .ok (.putfield 18, 3) := by decide +kernel
theorem dX0_init_28 : decode cX0_init 28 = .ok (.aload_n 0, 1) := by decide +kernel
theorem dX0_init_29 : decode cX0_init 29 = .ok (.iconst 0, 1) := by decide +kernel
theorem dX0_init_30 : decode cX0_init 30 = .ok (.putfield 21, 3) := by decide +kernel
theorem dX0_init_33 : decode cX0_init 33 = .ok (.return_, 1) := by decide +kernel
theorem dX0_addLot_0 : decode cX0_addLot 0 = .ok (.aload_n 0, 1) := by decide +kernel
theorem dX0_addLot_1 : decode cX0_addLot 1 = .ok (.getfield 21, 3) := by decide +kernel
theorem dX0_addLot_4 : decode cX0_addLot 4 = .ok (.bipush 40, 2) := by decide +kernel
theorem dX0_addLot_6 : decode cX0_addLot 6 = .ok (.if_icmp .lt 6, 3) := by decide +kernel
theorem dX0_addLot_9 : decode cX0_addLot 9 = .ok (.bipush (-4), 2) := by decide +kernel
theorem dX0_addLot_11 : decode cX0_addLot 11 = .ok (.ireturn, 1) := by decide +kernel
theorem dX0_addLot_12 : decode cX0_addLot 12 = .ok (.aload_n 0, 1) := by decide +kernel
theorem dX0_addLot_13 : decode cX0_addLot 13 = .ok (.getfield 11, 3) := by decide +kernel
theorem dX0_addLot_16 : decode cX0_addLot 16 = .ok (.aload_n 0, 1) := by decide +kernel
theorem dX0_addLot_17 : decode cX0_addLot 17 = .ok (.getfield 21, 3) := by decide +kernel
theorem dX0_addLot_20 : decode cX0_addLot 20 = .ok (.iload_n 1, 1) := by decide +kernel
theorem dX0_addLot_21 : decode cX0_addLot 21 = .ok (.iastore, 1) := by decide +kernel
theorem dX0_addLot_22 : decode cX0_addLot 22 = .ok (.aload_n 0, 1) := by decide +kernel
theorem dX0_addLot_23 : decode cX0_addLot 23 = .ok (.getfield 15, 3) := by decide +kernel
theorem dX0_addLot_26 : decode cX0_addLot 26 = .ok (.aload_n 0, 1) := by decide +kernel
theorem dX0_addLot_27 : decode cX0_addLot 27 = .ok (.getfield 21, 3) := by decide +kernel
theorem dX0_addLot_30 : decode cX0_addLot 30 = .ok (.iload_n 2, 1) := by decide +kernel
theorem dX0_addLot_31 : decode cX0_addLot 31 = .ok (.iastore, 1) := by decide +kernel
theorem dX0_addLot_32 : decode cX0_addLot 32 = .ok (.aload_n 0, 1) := by decide +kernel
theorem dX0_addLot_33 : decode cX0_addLot 33 = .ok (.getfield 18, 3) := by decide +kernel
theorem dX0_addLot_36 : decode cX0_addLot 36 = .ok (.aload_n 0, 1) := by decide +kernel
theorem dX0_addLot_37 : decode cX0_addLot 37 = .ok (.getfield 21, 3) := by decide +kernel
theorem dX0_addLot_40 : decode cX0_addLot 40 = .ok (.iload_n 3, 1) := by decide +kernel
theorem dX0_addLot_41 : decode cX0_addLot 41 = .ok (.iastore, 1) := by decide +kernel
theorem dX0_addLot_42 : decode cX0_addLot 42 = .ok (.aload_n 0, 1) := by decide +kernel
theorem dX0_addLot_43 : decode cX0_addLot 43 = .ok (.dup, 1) := by decide +kernel
theorem dX0_addLot_44 : decode cX0_addLot 44 = .ok (.getfield 21, 3) := by decide +kernel
theorem dX0_addLot_47 : decode cX0_addLot 47 = .ok (.iconst 1, 1) := by decide +kernel
theorem dX0_addLot_48 : decode cX0_addLot 48 = .ok (.iadd, 1) := by decide +kernel
theorem dX0_addLot_49 : decode cX0_addLot 49 = .ok (.putfield 21, 3) := by decide +kernel
theorem dX0_addLot_52 : decode cX0_addLot 52 = .ok (.aload_n 0, 1) := by decide +kernel
theorem dX0_addLot_53 : decode cX0_addLot 53 = .ok (.getfield 21, 3) := by decide +kernel
theorem dX0_addLot_56 : decode cX0_addLot 56 = .ok (.iconst 1, 1) := by decide +kernel
theorem dX0_addLot_57 : decode cX0_addLot 57 = .ok (.isub, 1) := by decide +kernel
theorem dX0_addLot_58 : decode cX0_addLot 58 = .ok (.ireturn, 1) := by decide +kernel
theorem dX0_lotCount_0 : decode cX0_lotCount 0 = .ok (.aload_n 0, 1) := by decide +kernel
theorem dX0_lotCount_1 : decode cX0_lotCount 1 = .ok (.getfield 21, 3) := by decide +kernel
theorem dX0_lotCount_4 : decode cX0_lotCount 4 = .ok (.ireturn, 1) := by decide +kernel
theorem dX0_tally_0 : decode cX0_tally 0 = .ok (.iconst 1, 1) := by decide +kernel
theorem dX0_tally_1 : decode cX0_tally 1 = .ok (.iload_n 1, 1) := by decide +kernel
theorem dX0_tally_2 : decode cX0_tally 2 = .ok (.ishl, 1) := by decide +kernel
theorem dX0_tally_3 : decode cX0_tally 3 = .ok (.iconst 1, 1) := by decide +kernel
theorem dX0_tally_4 : decode cX0_tally 4 = .ok (.iload_n 2, 1) := by decide +kernel
theorem dX0_tally_5 : decode cX0_tally 5 = .ok (.ishl, 1) := by decide +kernel
theorem dX0_tally_6 : decode cX0_tally 6 = .ok (.ior, 1) := by decide +kernel
theorem dX0_tally_7 : decode cX0_tally 7 = .ok (.istore 4, 2) := by decide +kernel
theorem dX0_tally_9 : decode cX0_tally 9 = .ok (.iload_n 3, 1) := by decide +kernel
theorem dX0_tally_10 : decode cX0_tally 10 = .ok (.iconst 1, 1) := by decide +kernel
theorem dX0_tally_11 : decode cX0_tally 11 = .ok (.iand, 1) := by decide +kernel
theorem dX0_tally_12 : decode cX0_tally 12 = .ok (.iload_n 1, 1) := by decide +kernel
theorem dX0_tally_13 : decode cX0_tally 13 = .ok (.ishl, 1) := by decide +kernel
theorem dX0_tally_14 : decode cX0_tally 14 = .ok (.iload_n 3, 1) := by decide +kernel
theorem dX0_tally_15 : decode cX0_tally 15 = .ok (.iconst 1, 1) := by decide +kernel
theorem dX0_tally_16 : decode cX0_tally 16 = .ok (.ishr, 1) := by decide +kernel
theorem dX0_tally_17 : decode cX0_tally 17 = .ok (.iconst 1, 1) := by decide +kernel
theorem dX0_tally_18 : decode cX0_tally 18 = .ok (.iand, 1) := by decide +kernel
theorem dX0_tally_19 : decode cX0_tally 19 = .ok (.iload_n 2, 1) := by decide +kernel
theorem dX0_tally_20 : decode cX0_tally 20 = .ok (.ishl, 1) := by decide +kernel
theorem dX0_tally_21 : decode cX0_tally 21 = .ok (.ior, 1) := by decide +kernel
theorem dX0_tally_22 : decode cX0_tally 22 = .ok (.istore 5, 2) := by decide +kernel
theorem dX0_tally_24 : decode cX0_tally 24 = .ok (.iconst 0, 1) := by decide +kernel
theorem dX0_tally_25 : decode cX0_tally 25 = .ok (.istore 6, 2) := by decide +kernel
theorem dX0_tally_27 : decode cX0_tally 27 = .ok (.iconst 0, 1) := by decide +kernel
theorem dX0_tally_28 : decode cX0_tally 28 = .ok (.istore 7, 2) := by decide +kernel
theorem dX0_tally_30 : decode cX0_tally 30 = .ok (.iload 7, 2) := by decide +kernel
theorem dX0_tally_32 : decode cX0_tally 32 = .ok (.aload_n 0, 1) := by decide +kernel
theorem dX0_tally_33 : decode cX0_tally 33 = .ok (.getfield 21, 3) := by decide +kernel
theorem dX0_tally_36 : decode cX0_tally 36 = .ok (.if_icmp .ge 42, 3) := by decide +kernel
theorem dX0_tally_39 : decode cX0_tally 39 = .ok (.aload_n 0, 1) := by decide +kernel
theorem dX0_tally_40 : decode cX0_tally 40 = .ok (.getfield 11, 3) := by decide +kernel
theorem dX0_tally_43 : decode cX0_tally 43 = .ok (.iload 7, 2) := by decide +kernel
theorem dX0_tally_45 : decode cX0_tally 45 = .ok (.iaload, 1) := by decide +kernel
theorem dX0_tally_46 : decode cX0_tally 46 = .ok (.iload 4, 2) := by decide +kernel
theorem dX0_tally_48 : decode cX0_tally 48 = .ok (.iand, 1) := by decide +kernel
theorem dX0_tally_49 : decode cX0_tally 49 = .ok (.iload 4, 2) := by decide +kernel
theorem dX0_tally_51 : decode cX0_tally 51 = .ok (.if_icmp .ne 21, 3) := by decide +kernel
theorem dX0_tally_54 : decode cX0_tally 54 = .ok (.aload_n 0, 1) := by decide +kernel
theorem dX0_tally_55 : decode cX0_tally 55 = .ok (.getfield 15, 3) := by decide +kernel
theorem dX0_tally_58 : decode cX0_tally 58 = .ok (.iload 7, 2) := by decide +kernel
theorem dX0_tally_60 : decode cX0_tally 60 = .ok (.iaload, 1) := by decide +kernel
theorem dX0_tally_61 : decode cX0_tally 61 = .ok (.iload 5, 2) := by decide +kernel
theorem dX0_tally_63 : decode cX0_tally 63 = .ok (.iand, 1) := by decide +kernel
theorem dX0_tally_64 : decode cX0_tally 64 = .ok (.iload 5, 2) := by decide +kernel
theorem dX0_tally_66 : decode cX0_tally 66 = .ok (.if_icmp .ne 6, 3) := by decide +kernel
theorem dX0_tally_69 : decode cX0_tally 69 = .ok (.iinc 6 1, 3) := by decide +kernel
theorem dX0_tally_72 : decode cX0_tally 72 = .ok (.iinc 7 1, 3) := by decide +kernel
theorem dX0_tally_75 : decode cX0_tally 75 = .ok (.goto (-45), 3) := by decide +kernel
theorem dX0_tally_78 : decode cX0_tally 78 = .ok (.iload 6, 2) := by decide +kernel
theorem dX0_tally_80 : decode cX0_tally 80 = .ok (.ireturn, 1) := by decide +kernel
set_option maxRecDepth 20000 in
theorem ggX0_allWays_X0_tally : GoodIn wsX0_allWays wsX0_tally := goodIn_r _ [5, 6, 7, 8, 12, 13, 14, 15] (by decide +kernel) (by decide +kernel)
set_option maxRecDepth 20000 in
theorem gX0_allWays_X0_tally : GoodIn wsX0_allWays (wsV RX0 25 RX0 yX0_tally wsX0_tally) := goodIn_app (goodIn_of _ (by decide +kernel)) ggX0_allWays_X0_tally
set_option maxRecDepth 20000 in
theorem ggX0_allWays_X0_choose : GoodIn wsX0_allWays wsX0_choose := goodIn_r _ [11] (by decide +kernel) (by decide +kernel)
set_option maxRecDepth 20000 in
theorem gX0_allWays_X0_choose : GoodIn wsX0_allWays (va_wsS RX0 29 yX0_choose wsX0_choose) := goodIn_app (goodIn_of _ (by decide +kernel)) ggX0_allWays_X0_choose
theorem dX0_allWays_0 : decode cX0_allWays 0 = .ok (.aload_n 0, 1) := by decide +kernel
theorem dX0_allWays_1 : decode cX0_allWays 1 = .ok (.iload_n 1, 1) := by decide +kernel
theorem dX0_allWays_2 : decode cX0_allWays 2 = .ok (.iload_n 2, 1) := by decide +kernel
theorem dX0_allWays_3 : decode cX0_allWays 3 = .ok (.iconst 0, 1) := by decide +kernel
theorem dX0_allWays_4 : decode cX0_allWays 4 = .ok (.invokevirtual 25, 3) := by decide +kernel
theorem dX0_allWays_7 : decode cX0_allWays 7 = .ok (.aload_n 0, 1) := by decide +kernel
theorem dX0_allWays_8 : decode cX0_allWays 8 = .ok (.iload_n 1, 1) := by decide +kernel
theorem dX0_allWays_9 : decode cX0_allWays 9 = .ok (.iload_n 2, 1) := by decide +kernel
theorem dX0_allWays_10 : decode cX0_allWays 10 = .ok (.iconst 2, 1) := by decide +kernel
theorem dX0_allWays_11 : decode cX0_allWays 11 = .ok (.invokevirtual 25, 3) := by decide +kernel
theorem dX0_allWays_14 : decode cX0_allWays 14 = .ok (.invokestatic 29, 3) := by decide +kernel
theorem dX0_allWays_17 : decode cX0_allWays 17 = .ok (.lreturn, 1) := by decide +kernel
set_option maxRecDepth 20000 in
theorem ggX0_waysAsShy_X0_tally : GoodIn wsX0_waysAsShy wsX0_tally := goodIn_r _ [9, 10, 11, 12, 16, 17, 18, 19] (by decide +kernel) (by decide +kernel)
set_option maxRecDepth 20000 in
theorem gX0_waysAsShy_X0_tally : GoodIn wsX0_waysAsShy (wsV RX0 25 RX0 yX0_tally wsX0_tally) := goodIn_app (goodIn_of _ (by decide +kernel)) ggX0_waysAsShy_X0_tally
set_option maxRecDepth 20000 in
theorem ggX0_waysAsShy_X0_choose : GoodIn wsX0_waysAsShy wsX0_choose := goodIn_r _ [15] (by decide +kernel) (by decide +kernel)
set_option maxRecDepth 20000 in
theorem gX0_waysAsShy_X0_choose : GoodIn wsX0_waysAsShy (va_wsS RX0 29 yX0_choose wsX0_choose) := goodIn_app (goodIn_of _ (by decide +kernel)) ggX0_waysAsShy_X0_choose
theorem dX0_waysAsShy_0 : decode cX0_waysAsShy 0 = .ok (.aload_n 0, 1) := by decide +kernel
theorem dX0_waysAsShy_1 : decode cX0_waysAsShy 1 = .ok (.iload_n 1, 1) := by decide +kernel
theorem dX0_waysAsShy_2 : decode cX0_waysAsShy 2 = .ok (.iload_n 2, 1) := by decide +kernel
theorem dX0_waysAsShy_3 : decode cX0_waysAsShy 3 = .ok (.iconst 0, 1) := by decide +kernel
theorem dX0_waysAsShy_4 : decode cX0_waysAsShy 4 = .ok (.invokevirtual 25, 3) := by decide +kernel
theorem dX0_waysAsShy_7 : decode cX0_waysAsShy 7 = .ok (.istore_n 3, 1) := by decide +kernel
theorem dX0_waysAsShy_8 : decode cX0_waysAsShy 8 = .ok (.aload_n 0, 1) := by decide +kernel
theorem dX0_waysAsShy_9 : decode cX0_waysAsShy 9 = .ok (.iload_n 1, 1) := by decide +kernel
theorem dX0_waysAsShy_10 : decode cX0_waysAsShy 10 = .ok (.iload_n 2, 1) := by decide +kernel
theorem dX0_waysAsShy_11 : decode cX0_waysAsShy 11 = .ok (.iconst 1, 1) := by decide +kernel
theorem dX0_waysAsShy_12 : decode cX0_waysAsShy 12 = .ok (.invokevirtual 25, 3) := by decide +kernel
theorem dX0_waysAsShy_15 : decode cX0_waysAsShy 15 = .ok (.istore 4, 2) := by decide +kernel
theorem dX0_waysAsShy_17 : decode cX0_waysAsShy 17 = .ok (.aload_n 0, 1) := by decide +kernel
theorem dX0_waysAsShy_18 : decode cX0_waysAsShy 18 = .ok (.iload_n 1, 1) := by decide +kernel
theorem dX0_waysAsShy_19 : decode cX0_waysAsShy 19 = .ok (.iload_n 2, 1) := by decide +kernel
theorem dX0_waysAsShy_20 : decode cX0_waysAsShy 20 = .ok (.iconst 2, 1) := by decide +kernel
theorem dX0_waysAsShy_21 : decode cX0_waysAsShy 21 = .ok (.invokevirtual 25, 3) := by decide +kernel
theorem dX0_waysAsShy_24 : decode cX0_waysAsShy 24 = .ok (.istore 5, 2) := by decide +kernel
theorem dX0_waysAsShy_26 : decode cX0_waysAsShy 26 = .ok (.aload_n 0, 1) := by decide +kernel
theorem dX0_waysAsShy_27 : decode cX0_waysAsShy 27 = .ok (.iload_n 1, 1) := by decide +kernel
theorem dX0_waysAsShy_28 : decode cX0_waysAsShy 28 = .ok (.iload_n 2, 1) := by decide +kernel
theorem dX0_waysAsShy_29 : decode cX0_waysAsShy 29 = .ok (.iconst 3, 1) := by decide +kernel
theorem dX0_waysAsShy_30 : decode cX0_waysAsShy 30 = .ok (.invokevirtual 25, 3) := by decide +kernel
theorem dX0_waysAsShy_33 : decode cX0_waysAsShy 33 = .ok (.istore 6, 2) := by decide +kernel
theorem dX0_waysAsShy_35 : decode cX0_waysAsShy 35 = .ok (.lconst 0, 1) := by decide +kernel
theorem dX0_waysAsShy_36 : decode cX0_waysAsShy 36 = .ok (.lstore 7, 2) := by decide +kernel
theorem dX0_waysAsShy_38 : decode cX0_waysAsShy 38 = .ok (.iconst 0, 1) := by decide +kernel
theorem dX0_waysAsShy_39 : decode cX0_waysAsShy 39 = .ok (.iload 4, 2) := by decide +kernel
theorem dX0_waysAsShy_41 : decode cX0_waysAsShy 41 = .ok (.iload 5, 2) := by decide +kernel
theorem dX0_waysAsShy_43 : decode cX0_waysAsShy 43 = .ok (.iadd, 1) := by decide +kernel
theorem dX0_waysAsShy_44 : decode cX0_waysAsShy 44 = .ok (.iload_n 3, 1) := by decide +kernel
theorem dX0_waysAsShy_45 : decode cX0_waysAsShy 45 = .ok (.isub, 1) := by decide +kernel
theorem dX0_waysAsShy_46 : decode cX0_waysAsShy 46 = .ok (.invokestatic 33, 3) := by decide +kernel
theorem dX0_waysAsShy_49 : decode cX0_waysAsShy 49 = .ok (.istore 9, 2) := by decide +kernel
theorem dX0_waysAsShy_51 : decode cX0_waysAsShy 51 = .ok (.iload 9, 2) := by decide +kernel
theorem dX0_waysAsShy_53 : decode cX0_waysAsShy 53 = .ok (.iload 6, 2) := by decide +kernel
theorem dX0_waysAsShy_55 : decode cX0_waysAsShy 55 = .ok (.if_icmp .gt 34, 3) := by decide +kernel
theorem dX0_waysAsShy_58 : decode cX0_waysAsShy 58 = .ok (.lload 7, 2) := by decide +kernel
theorem dX0_waysAsShy_60 : decode cX0_waysAsShy 60 = .ok (.iload 4, 2) := by decide +kernel
theorem dX0_waysAsShy_62 : decode cX0_waysAsShy 62 = .ok (.iload 9, 2) := by decide +kernel
theorem dX0_waysAsShy_64 : decode cX0_waysAsShy 64 = .ok (.invokestatic 29, 3) := by decide +kernel
theorem dX0_waysAsShy_67 : decode cX0_waysAsShy 67 = .ok (.iload_n 3, 1) := by decide +kernel
theorem dX0_waysAsShy_68 : decode cX0_waysAsShy 68 = .ok (.iload 4, 2) := by decide +kernel
theorem dX0_waysAsShy_70 : decode cX0_waysAsShy 70 = .ok (.isub, 1) := by decide +kernel
theorem dX0_waysAsShy_71 : decode cX0_waysAsShy 71 = .ok (.iload 5, 2) := by decide +kernel
theorem dX0_waysAsShy_73 : decode cX0_waysAsShy 73 = .ok (.iload 9, 2) := by decide +kernel
theorem dX0_waysAsShy_75 : decode cX0_waysAsShy 75 = .ok (.isub, 1) := by decide +kernel
theorem dX0_waysAsShy_76 : decode cX0_waysAsShy 76 = .ok (.invokestatic 29, 3) := by decide +kernel
theorem dX0_waysAsShy_79 : decode cX0_waysAsShy 79 = .ok (.lmul, 1) := by decide +kernel
theorem dX0_waysAsShy_80 : decode cX0_waysAsShy 80 = .ok (.ladd, 1) := by decide +kernel
theorem dX0_waysAsShy_81 : decode cX0_waysAsShy 81 = .ok (.lstore 7, 2) := by decide +kernel
theorem dX0_waysAsShy_83 : decode cX0_waysAsShy 83 = .ok (.iinc 9 1, 3) := by decide +kernel
theorem dX0_waysAsShy_86 : decode cX0_waysAsShy 86 = .ok (.goto (-35), 3) := by decide +kernel
theorem dX0_waysAsShy_89 : decode cX0_waysAsShy 89 = .ok (.lload 7, 2) := by decide +kernel
theorem dX0_waysAsShy_91 : decode cX0_waysAsShy 91 = .ok (.lreturn, 1) := by decide +kernel
set_option maxRecDepth 20000 in
theorem ggX0_shyestTwo_X0_waysAsShy : GoodIn wsX0_shyestTwo wsX0_waysAsShy := goodIn_r _ [5, 6, 7, 8, 9, 10, 11, 12, 4, 13, 14, 15, 16, 17, 18, 19, 28, 29, 30, 31] (by decide +kernel) (by decide +kernel)
set_option maxRecDepth 20000 in
theorem gX0_shyestTwo_X0_waysAsShy : GoodIn wsX0_shyestTwo (wsV RX0 39 RX0 yX0_waysAsShy wsX0_waysAsShy) := goodIn_app (goodIn_of _ (by decide +kernel)) ggX0_shyestTwo_X0_waysAsShy
set_option maxRecDepth 20000 in
theorem ggX0_shyestTwo_X0_allWays : GoodIn wsX0_shyestTwo wsX0_allWays := goodIn_r _ [23, 10, 11, 12, 4, 13, 14, 15, 16, 17, 18, 19, 28, 29, 30, 31] (by decide +kernel) (by decide +kernel)
set_option maxRecDepth 20000 in
theorem gX0_shyestTwo_X0_allWays : GoodIn wsX0_shyestTwo (wsV RX0 42 RX0 yX0_allWays wsX0_allWays) := goodIn_app (goodIn_of _ (by decide +kernel)) ggX0_shyestTwo_X0_allWays
set_option maxRecDepth 20000 in
theorem ggX0_shyestTwo_X0_productBelow : GoodIn wsX0_shyestTwo wsX0_productBelow := goodIn_r _ [26, 27] (by decide +kernel) (by decide +kernel)
set_option maxRecDepth 20000 in
theorem gX0_shyestTwo_X0_productBelow : GoodIn wsX0_shyestTwo (va_wsS RX0 45 yX0_productBelow wsX0_productBelow) := goodIn_app (goodIn_of _ (by decide +kernel)) ggX0_shyestTwo_X0_productBelow
theorem dX0_shyestTwo_0 : decode cX0_shyestTwo 0 = .ok (.iconst 0, 1) := by decide +kernel
theorem dX0_shyestTwo_1 : decode cX0_shyestTwo 1 = .ok (.istore_n 1, 1) := by decide +kernel
theorem dX0_shyestTwo_2 : decode cX0_shyestTwo 2 = .ok (.iconst 1, 1) := by decide +kernel
theorem dX0_shyestTwo_3 : decode cX0_shyestTwo 3 = .ok (.istore_n 2, 1) := by decide +kernel
theorem dX0_shyestTwo_4 : decode cX0_shyestTwo 4 = .ok (.aload_n 0, 1) := by decide +kernel
theorem dX0_shyestTwo_5 : decode cX0_shyestTwo 5 = .ok (.iconst 0, 1) := by decide +kernel
theorem dX0_shyestTwo_6 : decode cX0_shyestTwo 6 = .ok (.iconst 1, 1) := by decide +kernel
theorem dX0_shyestTwo_7 : decode cX0_shyestTwo 7 = .ok (.invokevirtual 39, 3) := by decide +kernel
theorem dX0_shyestTwo_10 : decode cX0_shyestTwo 10 = .ok (.lstore_n 3, 1) := by decide +kernel
theorem dX0_shyestTwo_11 : decode cX0_shyestTwo 11 = .ok (.aload_n 0, 1) := by decide +kernel
theorem dX0_shyestTwo_12 : decode cX0_shyestTwo 12 = .ok (.iconst 0, 1) := by decide +kernel
theorem dX0_shyestTwo_13 : decode cX0_shyestTwo 13 = .ok (.iconst 1, 1) := by decide +kernel
theorem dX0_shyestTwo_14 : decode cX0_shyestTwo 14 = .ok (.invokevirtual 42, 3) := by decide +kernel
theorem dX0_shyestTwo_17 : decode cX0_shyestTwo 17 = .ok (.lstore 5, 2) := by decide +kernel
theorem dX0_shyestTwo_19 : decode cX0_shyestTwo 19 = .ok (.iconst 0, 1) := by decide +kernel
theorem dX0_shyestTwo_20 : decode cX0_shyestTwo 20 = .ok (.istore 7, 2) := by decide +kernel
theorem dX0_shyestTwo_22 : decode cX0_shyestTwo 22 = .ok (.iload 7, 2) := by decide +kernel
theorem dX0_shyestTwo_24 : decode cX0_shyestTwo 24 = .ok (.bipush 8, 2) := by decide +kernel
theorem dX0_shyestTwo_26 : decode cX0_shyestTwo 26 = .ok (.if_icmp .ge 74, 3) := by decide +kernel
theorem dX0_shyestTwo_29 : decode cX0_shyestTwo 29 = .ok (.iload 7, 2) := by decide +kernel
theorem dX0_shyestTwo_31 : decode cX0_shyestTwo 31 = .ok (.iconst 1, 1) := by decide +kernel
theorem dX0_shyestTwo_32 : decode cX0_shyestTwo 32 = .ok (.iadd, 1) := by decide +kernel
theorem dX0_shyestTwo_33 : decode cX0_shyestTwo 33 = .ok (.istore 8, 2) := by decide +kernel
theorem dX0_shyestTwo_35 : decode cX0_shyestTwo 35 = .ok (.iload 8, 2) := by decide +kernel
theorem dX0_shyestTwo_37 : decode cX0_shyestTwo 37 = .ok (.bipush 8, 2) := by decide +kernel
theorem dX0_shyestTwo_39 : decode cX0_shyestTwo 39 = .ok (.if_icmp .ge 55, 3) := by decide +kernel
theorem dX0_shyestTwo_42 : decode cX0_shyestTwo 42 = .ok (.aload_n 0, 1) := by decide +kernel
theorem dX0_shyestTwo_43 : decode cX0_shyestTwo 43 = .ok (.iload 7, 2) := by decide +kernel
theorem dX0_shyestTwo_45 : decode cX0_shyestTwo 45 = .ok (.iload 8, 2) := by decide +kernel
theorem dX0_shyestTwo_47 : decode cX0_shyestTwo 47 = .ok (.invokevirtual 39, 3) := by decide +kernel
theorem dX0_shyestTwo_50 : decode cX0_shyestTwo 50 = .ok (.lstore 9, 2) := by decide +kernel
theorem dX0_shyestTwo_52 : decode cX0_shyestTwo 52 = .ok (.aload_n 0, 1) := by decide +kernel
theorem dX0_shyestTwo_53 : decode cX0_shyestTwo 53 = .ok (.iload 7, 2) := by decide +kernel
theorem dX0_shyestTwo_55 : decode cX0_shyestTwo 55 = .ok (.iload 8, 2) := by decide +kernel
theorem dX0_shyestTwo_57 : decode cX0_shyestTwo 57 = .ok (.invokevirtual 42, 3) := by decide +kernel
theorem dX0_shyestTwo_60 : decode cX0_shyestTwo 60 = .ok (.lstore 11, 2) := by decide +kernel
theorem dX0_shyestTwo_62 : decode cX0_shyestTwo 62 = .ok (.lload 9, 2) := by decide +kernel
theorem dX0_shyestTwo_64 : decode cX0_shyestTwo 64 = .ok (.lload 5, 2) := by decide +kernel
theorem dX0_shyestTwo_66 : decode cX0_shyestTwo 66 = .ok (.lload_n 3, 1) := by decide +kernel
theorem dX0_shyestTwo_67 : decode cX0_shyestTwo 67 = .ok (.lload 11, 2) := by decide +kernel
theorem dX0_shyestTwo_69 : decode cX0_shyestTwo 69 = .ok (.invokestatic 45, 3) := by decide +kernel
theorem dX0_shyestTwo_72 : decode cX0_shyestTwo 72 = .ok (.ifCond .eq 16, 3) := by decide +kernel
theorem dX0_shyestTwo_75 : decode cX0_shyestTwo 75 = .ok (.iload 7, 2) := by decide +kernel
theorem dX0_shyestTwo_77 : decode cX0_shyestTwo 77 = .ok (.istore_n 1, 1) := by decide +kernel
theorem dX0_shyestTwo_78 : decode cX0_shyestTwo 78 = .ok (.iload 8, 2) := by decide +kernel
theorem dX0_shyestTwo_80 : decode cX0_shyestTwo 80 = .ok (.istore_n 2, 1) := by decide +kernel
theorem dX0_shyestTwo_81 : decode cX0_shyestTwo 81 = .ok (.lload 9, 2) := by decide +kernel
theorem dX0_shyestTwo_83 : decode cX0_shyestTwo 83 = .ok (.lstore_n 3, 1) := by decide +kernel
theorem dX0_shyestTwo_84 : decode cX0_shyestTwo 84 = .ok (.lload 11, 2) := by decide +kernel
theorem dX0_shyestTwo_86 : decode cX0_shyestTwo 86 = .ok (.lstore 5, 2) := by decide +kernel
theorem dX0_shyestTwo_88 : decode cX0_shyestTwo 88 = .ok (.iinc 8 1, 3) := by decide +kernel
theorem dX0_shyestTwo_91 : decode cX0_shyestTwo 91 = .ok (.goto (-56), 3) := by decide +kernel
theorem dX0_shyestTwo_94 : decode cX0_shyestTwo 94 = .ok (.iinc 7 1, 3) := by decide +kernel
theorem dX0_shyestTwo_97 : decode cX0_shyestTwo 97 = .ok (.goto (-75), 3) := by decide +kernel
theorem dX0_shyestTwo_100 : decode cX0_shyestTwo 100 = .ok (.bipush 8, 2) := by decide +kernel
theorem dX0_shyestTwo_102 : decode cX0_shyestTwo 102 = .ok (.iload_n 1, 1) := by decide +kernel
theorem dX0_shyestTwo_103 : decode cX0_shyestTwo 103 = .ok (.imul, 1) := by decide +kernel
theorem dX0_shyestTwo_104 : decode cX0_shyestTwo 104 = .ok (.iload_n 2, 1) := by decide +kernel
theorem dX0_shyestTwo_105 : decode cX0_shyestTwo 105 = .ok (.iadd, 1) := by decide +kernel
theorem dX0_shyestTwo_106 : decode cX0_shyestTwo 106 = .ok (.ireturn, 1) := by decide +kernel
theorem dX0_choose_0 : decode cX0_choose 0 = .ok (.iload_n 1, 1) := by decide +kernel
theorem dX0_choose_1 : decode cX0_choose 1 = .ok (.ifCond .lt 8, 3) := by decide +kernel
theorem dX0_choose_4 : decode cX0_choose 4 = .ok (.iload_n 1, 1) := by decide +kernel
theorem dX0_choose_5 : decode cX0_choose 5 = .ok (.iload_n 0, 1) := by decide +kernel
theorem dX0_choose_6 : decode cX0_choose 6 = .ok (.if_icmp .le 5, 3) := by decide +kernel
theorem dX0_choose_9 : decode cX0_choose 9 = .ok (.lconst 0, 1) := by decide +kernel
theorem dX0_choose_10 : decode cX0_choose 10 = .ok (.lreturn, 1) := by decide +kernel
theorem dX0_choose_11 : decode cX0_choose 11 = .ok (.lconst 1, 1) := by decide +kernel
theorem dX0_choose_12 : decode cX0_choose 12 = .ok (.lstore_n 2, 1) := by decide +kernel
theorem dX0_choose_13 : decode cX0_choose 13 = .ok (.iconst 1, 1) := by decide +kernel
theorem dX0_choose_14 : decode cX0_choose 14 = .ok (.istore 4, 2) := by decide +kernel
theorem dX0_choose_16 : decode cX0_choose 16 = .ok (.iload 4, 2) := by decide +kernel
theorem dX0_choose_18 : decode cX0_choose 18 = .ok (.iload_n 1, 1) := by decide +kernel
theorem dX0_choose_19 : decode cX0_choose 19 = .ok (.if_icmp .gt 23, 3) := by decide +kernel
theorem dX0_choose_22 : decode cX0_choose 22 = .ok (.lload_n 2, 1) := by decide +kernel
theorem dX0_choose_23 : decode cX0_choose 23 = .ok (.iload_n 0, 1) := by decide +kernel
theorem dX0_choose_24 : decode cX0_choose 24 = .ok (.iload_n 1, 1) := by decide +kernel
theorem dX0_choose_25 : decode cX0_choose 25 = .ok (.isub, 1) := by decide +kernel
theorem dX0_choose_26 : decode cX0_choose 26 = .ok (.iload 4, 2) := by decide +kernel
theorem dX0_choose_28 : decode cX0_choose 28 = .ok (.iadd, 1) := by decide +kernel
theorem dX0_choose_29 : decode cX0_choose 29 = .ok (.i2l, 1) := by decide +kernel
theorem dX0_choose_30 : decode cX0_choose 30 = .ok (.lmul, 1) := by decide +kernel
theorem dX0_choose_31 : decode cX0_choose 31 = .ok (.iload 4, 2) := by decide +kernel
theorem dX0_choose_33 : decode cX0_choose 33 = .ok (.i2l, 1) := by decide +kernel
theorem dX0_choose_34 : decode cX0_choose 34 = .ok (.ldiv, 1) := by decide +kernel
theorem dX0_choose_35 : decode cX0_choose 35 = .ok (.lstore_n 2, 1) := by decide +kernel
theorem dX0_choose_36 : decode cX0_choose 36 = .ok (.iinc 4 1, 3) := by decide +kernel
theorem dX0_choose_39 : decode cX0_choose 39 = .ok (.goto (-23), 3) := by decide +kernel
theorem dX0_choose_42 : decode cX0_choose 42 = .ok (.lload_n 2, 1) := by decide +kernel
theorem dX0_choose_43 : decode cX0_choose 43 = .ok (.lreturn, 1) := by decide +kernel
theorem dX0_productBelow_0 : decode cX0_productBelow 0 = .ok (.lload_n 0, 1) := by decide +kernel
theorem dX0_productBelow_1 : decode cX0_productBelow 1 = .ok (.bipush 20, 2) := by decide +kernel
theorem dX0_productBelow_3 : decode cX0_productBelow 3 = .ok (.lshr, 1) := by decide +kernel
theorem dX0_productBelow_4 : decode cX0_productBelow 4 = .ok (.lload_n 2, 1) := by decide +kernel
theorem dX0_productBelow_5 : decode cX0_productBelow 5 = .ok (.lmul, 1) := by decide +kernel
theorem dX0_productBelow_6 : decode cX0_productBelow 6 = .ok (.lload_n 0, 1) := by decide +kernel
theorem dX0_productBelow_7 : decode cX0_productBelow 7 = .ok (.ldc2_w 49, 3) := by decide +kernel
theorem dX0_productBelow_10 : decode cX0_productBelow 10 = .ok (.land, 1) := by decide +kernel
theorem dX0_productBelow_11 : decode cX0_productBelow 11 = .ok (.lload_n 2, 1) := by decide +kernel
theorem dX0_productBelow_12 : decode cX0_productBelow 12 = .ok (.lmul, 1) := by decide +kernel
theorem dX0_productBelow_13 : decode cX0_productBelow 13 = .ok (.bipush 20, 2) := by decide +kernel
theorem dX0_productBelow_15 : decode cX0_productBelow 15 = .ok (.lshr, 1) := by decide +kernel
theorem dX0_productBelow_16 : decode cX0_productBelow 16 = .ok (.ladd, 1) := by decide +kernel
theorem dX0_productBelow_17 : decode cX0_productBelow 17 = .ok (.lstore 8, 2) := by decide +kernel
theorem dX0_productBelow_19 : decode cX0_productBelow 19 = .ok (.lload 4, 2) := by decide +kernel
theorem dX0_productBelow_21 : decode cX0_productBelow 21 = .ok (.bipush 20, 2) := by decide +kernel
theorem dX0_productBelow_23 : decode cX0_productBelow 23 = .ok (.lshr, 1) := by decide +kernel
theorem dX0_productBelow_24 : decode cX0_productBelow 24 = .ok (.lload 6, 2) := by decide +kernel
theorem dX0_productBelow_26 : decode cX0_productBelow 26 = .ok (.lmul, 1) := by decide +kernel
theorem dX0_productBelow_27 : decode cX0_productBelow 27 = .ok (.lload 4, 2) := by decide +kernel
theorem dX0_productBelow_29 : decode cX0_productBelow 29 = .ok (.ldc2_w 49, 3) := by decide +kernel
theorem dX0_productBelow_32 : decode cX0_productBelow 32 = .ok (.land, 1) := by decide +kernel
theorem dX0_productBelow_33 : decode cX0_productBelow 33 = .ok (.lload 6, 2) := by decide +kernel
theorem dX0_productBelow_35 : decode cX0_productBelow 35 = .ok (.lmul, 1) := by decide +kernel
theorem dX0_productBelow_36 : decode cX0_productBelow 36 = .ok (.bipush 20, 2) := by decide +kernel
theorem dX0_productBelow_38 : decode cX0_productBelow 38 = .ok (.lshr, 1) := by decide +kernel
theorem dX0_productBelow_39 : decode cX0_productBelow 39 = .ok (.ladd, 1) := by decide +kernel
theorem dX0_productBelow_40 : decode cX0_productBelow 40 = .ok (.lstore 10, 2) := by decide +kernel
theorem dX0_productBelow_42 : decode cX0_productBelow 42 = .ok (.lload 8, 2) := by decide +kernel
theorem dX0_productBelow_44 : decode cX0_productBelow 44 = .ok (.lload 10, 2) := by decide +kernel
theorem dX0_productBelow_46 : decode cX0_productBelow 46 = .ok (.lcmp, 1) := by decide +kernel
theorem dX0_productBelow_47 : decode cX0_productBelow 47 = .ok (.ifCond .eq 17, 3) := by decide +kernel
theorem dX0_productBelow_50 : decode cX0_productBelow 50 = .ok (.lload 8, 2) := by decide +kernel
theorem dX0_productBelow_52 : decode cX0_productBelow 52 = .ok (.lload 10, 2) := by decide +kernel
theorem dX0_productBelow_54 : decode cX0_productBelow 54 = .ok (.lcmp, 1) := by decide +kernel
theorem dX0_productBelow_55 : decode cX0_productBelow 55 = .ok (.ifCond .ge 7, 3) := by decide +kernel
theorem dX0_productBelow_58 : decode cX0_productBelow 58 = .ok (.iconst 1, 1) := by decide +kernel
theorem dX0_productBelow_59 : decode cX0_productBelow 59 = .ok (.goto 4, 3) := by decide +kernel
theorem dX0_productBelow_62 : decode cX0_productBelow 62 = .ok (.iconst 0, 1) := by decide +kernel
theorem dX0_productBelow_63 : decode cX0_productBelow 63 = .ok (.ireturn, 1) := by decide +kernel
theorem dX0_productBelow_64 : decode cX0_productBelow 64 = .ok (.lload_n 0, 1) := by decide +kernel
theorem dX0_productBelow_65 : decode cX0_productBelow 65 = .ok (.ldc2_w 49, 3) := by decide +kernel
theorem dX0_productBelow_68 : decode cX0_productBelow 68 = .ok (.land, 1) := by decide +kernel
theorem dX0_productBelow_69 : decode cX0_productBelow 69 = .ok (.lload_n 2, 1) := by decide +kernel
theorem dX0_productBelow_70 : decode cX0_productBelow 70 = .ok (.lmul, 1) := by decide +kernel
theorem dX0_productBelow_71 : decode cX0_productBelow 71 = .ok (.ldc2_w 49, 3) := by decide +kernel
theorem dX0_productBelow_74 : decode cX0_productBelow 74 = .ok (.land, 1) := by decide +kernel
theorem dX0_productBelow_75 : decode cX0_productBelow 75 = .ok (.lload 4, 2) := by decide +kernel
theorem dX0_productBelow_77 : decode cX0_productBelow 77 = .ok (.ldc2_w 49, 3) := by decide +kernel
theorem dX0_productBelow_80 : decode cX0_productBelow 80 = .ok (.land, 1) := by decide +kernel
theorem dX0_productBelow_81 : decode cX0_productBelow 81 = .ok (.lload 6, 2) := by decide +kernel
theorem dX0_productBelow_83 : decode cX0_productBelow 83 = .ok (.lmul, 1) := by decide +kernel
theorem dX0_productBelow_84 : decode cX0_productBelow 84 = .ok (.ldc2_w 49, 3) := by decide +kernel
theorem dX0_productBelow_87 : decode cX0_productBelow 87 = .ok (.land, 1) := by decide +kernel
theorem dX0_productBelow_88 : decode cX0_productBelow 88 = .ok (.lcmp, 1) := by decide +kernel
theorem dX0_productBelow_89 : decode cX0_productBelow 89 = .ok (.ifCond .ge 7, 3) := by decide +kernel
theorem dX0_productBelow_92 : decode cX0_productBelow 92 = .ok (.iconst 1, 1) := by decide +kernel
theorem dX0_productBelow_93 : decode cX0_productBelow 93 = .ok (.goto 4, 3) := by decide +kernel
theorem dX0_productBelow_96 : decode cX0_productBelow 96 = .ok (.iconst 0, 1) := by decide +kernel
theorem dX0_productBelow_97 : decode cX0_productBelow 97 = .ok (.ireturn, 1) := by decide +kernel
theorem dX0_commonDivisor_0 : decode cX0_commonDivisor 0 = .ok (.lload_n 0, 1) := by decide +kernel
theorem dX0_commonDivisor_1 : decode cX0_commonDivisor 1 = .ok (.lstore 4, 2) := by decide +kernel
theorem dX0_commonDivisor_3 : decode cX0_commonDivisor 3 = .ok (.lload_n 2, 1) := by decide +kernel
theorem dX0_commonDivisor_4 : decode cX0_commonDivisor 4 = .ok (.lstore 6, 2) := by decide +kernel
theorem dX0_commonDivisor_6 : decode cX0_commonDivisor 6 = .ok (.iconst 0, 1) := by decide +kernel
theorem dX0_commonDivisor_7 : decode cX0_commonDivisor 7 = .ok (.istore 8, 2) := by decide +kernel
theorem dX0_commonDivisor_9 : decode cX0_commonDivisor 9 = .ok (.iload 8, 2) := by decide +kernel
theorem dX0_commonDivisor_11 : decode cX0_commonDivisor 11 = .ok (.bipush 100, 2) := by decide +kernel
theorem dX0_commonDivisor_13 : decode cX0_commonDivisor 13 = .ok (.if_icmp .ge 31, 3) := by decide +kernel
theorem dX0_commonDivisor_16 : decode cX0_commonDivisor 16 = .ok (.lload 6, 2) := by decide +kernel
theorem dX0_commonDivisor_18 : decode cX0_commonDivisor 18 = .ok (.lconst 0, 1) := by decide +kernel
theorem dX0_commonDivisor_19 : decode cX0_commonDivisor 19 = .ok (.lcmp, 1) := by decide +kernel
theorem dX0_commonDivisor_20 : decode cX0_commonDivisor 20 = .ok (.ifCond .eq 24, 3) := by decide +kernel
theorem dX0_commonDivisor_23 : decode cX0_commonDivisor 23 = .ok (.lload 4, 2) := by decide +kernel
theorem dX0_commonDivisor_25 : decode cX0_commonDivisor 25 = .ok (.lload 6, 2) := by decide +kernel
theorem dX0_commonDivisor_27 : decode cX0_commonDivisor 27 = .ok (.lrem, 1) := by decide +kernel
theorem dX0_commonDivisor_28 : decode cX0_commonDivisor 28 = .ok (.lstore 9, 2) := by decide +kernel
theorem dX0_commonDivisor_30 : decode cX0_commonDivisor 30 = .ok (.lload 6, 2) := by decide +kernel
theorem dX0_commonDivisor_32 : decode cX0_commonDivisor 32 = .ok (.lstore 4, 2) := by decide +kernel
theorem dX0_commonDivisor_34 : decode cX0_commonDivisor 34 = .ok (.lload 9, 2) := by decide +kernel
theorem dX0_commonDivisor_36 : decode cX0_commonDivisor 36 = .ok (.lstore 6, 2) := by decide +kernel
theorem dX0_commonDivisor_38 : decode cX0_commonDivisor 38 = .ok (.iinc 8 1, 3) := by decide +kernel
theorem dX0_commonDivisor_41 : decode cX0_commonDivisor 41 = .ok (.goto (-32), 3) := by decide +kernel
theorem dX0_commonDivisor_44 : decode cX0_commonDivisor 44 = .ok (.lload 4, 2) := by decide +kernel
theorem dX0_commonDivisor_46 : decode cX0_commonDivisor 46 = .ok (.lreturn, 1) := by decide +kernel
set_option maxRecDepth 20000 in
theorem ggX0_mixLots_X5_mix : GoodIn wsX0_mixLots wsX5_mix := goodIn_r _ [7, 8] (by decide +kernel) (by decide +kernel)
set_option maxRecDepth 20000 in
theorem gX0_mixLots_X5_mix_n51 : GoodIn wsX0_mixLots (wsX5_mix) := ggX0_mixLots_X5_mix
theorem dX0_mixLots_0 : decode cX0_mixLots 0 = .ok (.lload_n 1, 1) := by decide +kernel
theorem dX0_mixLots_1 : decode cX0_mixLots 1 = .ok (.lstore_n 3, 1) := by decide +kernel
theorem dX0_mixLots_2 : decode cX0_mixLots 2 = .ok (.iconst 0, 1) := by decide +kernel
theorem dX0_mixLots_3 : decode cX0_mixLots 3 = .ok (.istore 5, 2) := by decide +kernel
theorem dX0_mixLots_5 : decode cX0_mixLots 5 = .ok (.iload 5, 2) := by decide +kernel
theorem dX0_mixLots_7 : decode cX0_mixLots 7 = .ok (.aload_n 0, 1) := by decide +kernel
theorem dX0_mixLots_8 : decode cX0_mixLots 8 = .ok (.getfield 21, 3) := by decide +kernel
theorem dX0_mixLots_11 : decode cX0_mixLots 11 = .ok (.if_icmp .ge 45, 3) := by decide +kernel
theorem dX0_mixLots_14 : decode cX0_mixLots 14 = .ok (.lload_n 3, 1) := by decide +kernel
theorem dX0_mixLots_15 : decode cX0_mixLots 15 = .ok (.aload_n 0, 1) := by decide +kernel
theorem dX0_mixLots_16 : decode cX0_mixLots 16 = .ok (.getfield 11, 3) := by decide +kernel
theorem dX0_mixLots_19 : decode cX0_mixLots 19 = .ok (.iload 5, 2) := by decide +kernel
theorem dX0_mixLots_21 : decode cX0_mixLots 21 = .ok (.iaload, 1) := by decide +kernel
theorem dX0_mixLots_22 : decode cX0_mixLots 22 = .ok (.invokestatic 51, 3) := by decide +kernel
theorem dX0_mixLots_25 : decode cX0_mixLots 25 = .ok (.lstore_n 3, 1) := by decide +kernel
theorem dX0_mixLots_26 : decode cX0_mixLots 26 = .ok (.lload_n 3, 1) := by decide +kernel
theorem dX0_mixLots_27 : decode cX0_mixLots 27 = .ok (.aload_n 0, 1) := by decide +kernel
theorem dX0_mixLots_28 : decode cX0_mixLots 28 = .ok (.getfield 15, 3) := by decide +kernel
theorem dX0_mixLots_31 : decode cX0_mixLots 31 = .ok (.iload 5, 2) := by decide +kernel
theorem dX0_mixLots_33 : decode cX0_mixLots 33 = .ok (.iaload, 1) := by decide +kernel
theorem dX0_mixLots_34 : decode cX0_mixLots 34 = .ok (.invokestatic 51, 3) := by decide +kernel
theorem dX0_mixLots_37 : decode cX0_mixLots 37 = .ok (.lstore_n 3, 1) := by decide +kernel
theorem dX0_mixLots_38 : decode cX0_mixLots 38 = .ok (.lload_n 3, 1) := by decide +kernel
theorem dX0_mixLots_39 : decode cX0_mixLots 39 = .ok (.aload_n 0, 1) := by decide +kernel
theorem dX0_mixLots_40 : decode cX0_mixLots 40 = .ok (.getfield 18, 3) := by decide +kernel
theorem dX0_mixLots_43 : decode cX0_mixLots 43 = .ok (.iload 5, 2) := by decide +kernel
theorem dX0_mixLots_45 : decode cX0_mixLots 45 = .ok (.iaload, 1) := by decide +kernel
theorem dX0_mixLots_46 : decode cX0_mixLots 46 = .ok (.invokestatic 51, 3) := by decide +kernel
theorem dX0_mixLots_49 : decode cX0_mixLots 49 = .ok (.lstore_n 3, 1) := by decide +kernel
theorem dX0_mixLots_50 : decode cX0_mixLots 50 = .ok (.iinc 5 1, 3) := by decide +kernel
theorem dX0_mixLots_53 : decode cX0_mixLots 53 = .ok (.goto (-48), 3) := by decide +kernel
theorem dX0_mixLots_56 : decode cX0_mixLots 56 = .ok (.lload_n 3, 1) := by decide +kernel
theorem dX0_mixLots_57 : decode cX0_mixLots 57 = .ok (.lreturn, 1) := by decide +kernel
theorem dX1_init_0 : decode cX1_init 0 = .ok (.aload_n 0, 1) := by decide +kernel
theorem dX1_init_1 : decode cX1_init 1 = .ok (.invokespecial 3, 3) := by decide +kernel
theorem dX1_init_4 : decode cX1_init 4 = .ok (.aload_n 0, 1) := by decide +kernel
theorem dX1_init_5 : decode cX1_init 5 = .ok (.bipush 64, 2) := by decide +kernel
theorem dX1_init_7 : decode cX1_init 7 = .ok (.newarray .int, 2) := by decide +kernel
theorem dX1_init_9 : decode cX1_init 9 = .ok (.putfield 9, 3) := by decide +kernel
theorem dX1_init_12 : decode cX1_init 12 = .ok (.return_, 1) := by decide +kernel
theorem dX1_change_0 : decode cX1_change 0 = .ok (.aload_n 0, 1) := by decide +kernel
theorem dX1_change_1 : decode cX1_change 1 = .ok (.getfield 9, 3) := by decide +kernel
theorem dX1_change_4 : decode cX1_change 4 = .ok (.iload_n 1, 1) := by decide +kernel
theorem dX1_change_5 : decode cX1_change 5 = .ok (.bipush 8, 2) := by decide +kernel
theorem dX1_change_7 : decode cX1_change 7 = .ok (.imul, 1) := by decide +kernel
theorem dX1_change_8 : decode cX1_change 8 = .ok (.iload_n 2, 1) := by decide +kernel
theorem dX1_change_9 : decode cX1_change 9 = .ok (.iadd, 1) := by decide +kernel
theorem dX1_change_10 : decode cX1_change 10 = .ok (.iaload, 1) := by decide +kernel
theorem dX1_change_11 : decode cX1_change 11 = .ok (.istore 4, 2) := by decide +kernel
theorem dX1_change_13 : decode cX1_change 13 = .ok (.aload_n 0, 1) := by decide +kernel
theorem dX1_change_14 : decode cX1_change 14 = .ok (.getfield 9, 3) := by decide +kernel
theorem dX1_change_17 : decode cX1_change 17 = .ok (.iload_n 1, 1) := by decide +kernel
theorem dX1_change_18 : decode cX1_change 18 = .ok (.bipush 8, 2) := by decide +kernel
theorem dX1_change_20 : decode cX1_change 20 = .ok (.imul, 1) := by decide +kernel
theorem dX1_change_21 : decode cX1_change 21 = .ok (.iload_n 2, 1) := by decide +kernel
theorem dX1_change_22 : decode cX1_change 22 = .ok (.iadd, 1) := by decide +kernel
theorem dX1_change_23 : decode cX1_change 23 = .ok (.iload_n 3, 1) := by decide +kernel
theorem dX1_change_24 : decode cX1_change 24 = .ok (.iastore, 1) := by decide +kernel
theorem dX1_change_25 : decode cX1_change 25 = .ok (.iload 4, 2) := by decide +kernel
theorem dX1_change_27 : decode cX1_change 27 = .ok (.ireturn, 1) := by decide +kernel
theorem dX1_total_0 : decode cX1_total 0 = .ok (.iconst 0, 1) := by decide +kernel
theorem dX1_total_1 : decode cX1_total 1 = .ok (.istore_n 1, 1) := by decide +kernel
theorem dX1_total_2 : decode cX1_total 2 = .ok (.iconst 0, 1) := by decide +kernel
theorem dX1_total_3 : decode cX1_total 3 = .ok (.istore_n 2, 1) := by decide +kernel
theorem dX1_total_4 : decode cX1_total 4 = .ok (.iload_n 2, 1) := by decide +kernel
theorem dX1_total_5 : decode cX1_total 5 = .ok (.aload_n 0, 1) := by decide +kernel
theorem dX1_total_6 : decode cX1_total 6 = .ok (.getfield 9, 3) := by decide +kernel
theorem dX1_total_9 : decode cX1_total 9 = .ok (.arraylength, 1) := by decide +kernel
theorem dX1_total_10 : decode cX1_total 10 = .ok (.if_icmp .ge 18, 3) := by decide +kernel
theorem dX1_total_13 : decode cX1_total 13 = .ok (.iload_n 1, 1) := by decide +kernel
theorem dX1_total_14 : decode cX1_total 14 = .ok (.aload_n 0, 1) := by decide +kernel
theorem dX1_total_15 : decode cX1_total 15 = .ok (.getfield 9, 3) := by decide +kernel
theorem dX1_total_18 : decode cX1_total 18 = .ok (.iload_n 2, 1) := by decide +kernel
theorem dX1_total_19 : decode cX1_total 19 = .ok (.iaload, 1) := by decide +kernel
theorem dX1_total_20 : decode cX1_total 20 = .ok (.iadd, 1) := by decide +kernel
theorem dX1_total_21 : decode cX1_total 21 = .ok (.istore_n 1, 1) := by decide +kernel
theorem dX1_total_22 : decode cX1_total 22 = .ok (.iinc 2 1, 3) := by decide +kernel
theorem dX1_total_25 : decode cX1_total 25 = .ok (.goto (-21), 3) := by decide +kernel
theorem dX1_total_28 : decode cX1_total 28 = .ok (.iload_n 1, 1) := by decide +kernel
theorem dX1_total_29 : decode cX1_total 29 = .ok (.ireturn, 1) := by decide +kernel
set_option maxRecDepth 20000 in
theorem ggX1_netOf_X1_owedTo : GoodIn wsX1_netOf wsX1_owedTo := goodIn_r _ [5, 6, 11] (by decide +kernel) (by decide +kernel)
set_option maxRecDepth 20000 in
theorem gX1_netOf_X1_owedTo : GoodIn wsX1_netOf (wsV RX1 15 RX1 yX1_owedTo wsX1_owedTo) := goodIn_app (goodIn_of _ (by decide +kernel)) ggX1_netOf_X1_owedTo
set_option maxRecDepth 20000 in
theorem ggX1_netOf_X1_owedBy : GoodIn wsX1_netOf wsX1_owedBy := goodIn_r _ [10, 6, 11] (by decide +kernel) (by decide +kernel)
set_option maxRecDepth 20000 in
theorem gX1_netOf_X1_owedBy : GoodIn wsX1_netOf (wsV RX1 19 RX1 yX1_owedBy wsX1_owedBy) := goodIn_app (goodIn_of _ (by decide +kernel)) ggX1_netOf_X1_owedBy
theorem dX1_netOf_0 : decode cX1_netOf 0 = .ok (.aload_n 0, 1) := by decide +kernel
theorem dX1_netOf_1 : decode cX1_netOf 1 = .ok (.iload_n 1, 1) := by decide +kernel
theorem dX1_netOf_2 : decode cX1_netOf 2 = .ok (.sipush 255, 3) := by decide +kernel
theorem dX1_netOf_5 : decode cX1_netOf 5 = .ok (.invokevirtual 15, 3) := by decide +kernel
theorem dX1_netOf_8 : decode cX1_netOf 8 = .ok (.aload_n 0, 1) := by decide +kernel
theorem dX1_netOf_9 : decode cX1_netOf 9 = .ok (.iload_n 1, 1) := by decide +kernel
theorem dX1_netOf_10 : decode cX1_netOf 10 = .ok (.invokevirtual 19, 3) := by decide +kernel
theorem dX1_netOf_13 : decode cX1_netOf 13 = .ok (.isub, 1) := by decide +kernel
theorem dX1_netOf_14 : decode cX1_netOf 14 = .ok (.ireturn, 1) := by decide +kernel
theorem dX1_owedBy_0 : decode cX1_owedBy 0 = .ok (.iconst 0, 1) := by decide +kernel
theorem dX1_owedBy_1 : decode cX1_owedBy 1 = .ok (.istore_n 2, 1) := by decide +kernel
theorem dX1_owedBy_2 : decode cX1_owedBy 2 = .ok (.iconst 0, 1) := by decide +kernel
theorem dX1_owedBy_3 : decode cX1_owedBy 3 = .ok (.istore_n 3, 1) := by decide +kernel
theorem dX1_owedBy_4 : decode cX1_owedBy 4 = .ok (.iload_n 3, 1) := by decide +kernel
theorem dX1_owedBy_5 : decode cX1_owedBy 5 = .ok (.bipush 8, 2) := by decide +kernel
theorem dX1_owedBy_7 : decode cX1_owedBy 7 = .ok (.if_icmp .ge 23, 3) := by decide +kernel
theorem dX1_owedBy_10 : decode cX1_owedBy 10 = .ok (.iload_n 2, 1) := by decide +kernel
theorem dX1_owedBy_11 : decode cX1_owedBy 11 = .ok (.aload_n 0, 1) := by decide +kernel
theorem dX1_owedBy_12 : decode cX1_owedBy 12 = .ok (.getfield 9, 3) := by decide +kernel
theorem dX1_owedBy_15 : decode cX1_owedBy 15 = .ok (.iload_n 1, 1) := by decide +kernel
theorem dX1_owedBy_16 : decode cX1_owedBy 16 = .ok (.bipush 8, 2) := by decide +kernel
theorem dX1_owedBy_18 : decode cX1_owedBy 18 = .ok (.imul, 1) := by decide +kernel
theorem dX1_owedBy_19 : decode cX1_owedBy 19 = .ok (.iload_n 3, 1) := by decide +kernel
theorem dX1_owedBy_20 : decode cX1_owedBy 20 = .ok (.iadd, 1) := by decide +kernel
theorem dX1_owedBy_21 : decode cX1_owedBy 21 = .ok (.iaload, 1) := by decide +kernel
theorem dX1_owedBy_22 : decode cX1_owedBy 22 = .ok (.iadd, 1) := by decide +kernel
theorem dX1_owedBy_23 : decode cX1_owedBy 23 = .ok (.istore_n 2, 1) := by decide +kernel
theorem dX1_owedBy_24 : decode cX1_owedBy 24 = .ok (.iinc 3 1, 3) := by decide +kernel
theorem dX1_owedBy_27 : decode cX1_owedBy 27 = .ok (.goto (-23), 3) := by decide +kernel
theorem dX1_owedBy_30 : decode cX1_owedBy 30 = .ok (.iload_n 2, 1) := by decide +kernel
theorem dX1_owedBy_31 : decode cX1_owedBy 31 = .ok (.ireturn, 1) := by decide +kernel
theorem dX1_owedTo_0 : decode cX1_owedTo 0 = .ok (.iconst 0, 1) := by decide +kernel
theorem dX1_owedTo_1 : decode cX1_owedTo 1 = .ok (.istore_n 3, 1) := by decide +kernel
theorem dX1_owedTo_2 : decode cX1_owedTo 2 = .ok (.iconst 0, 1) := by decide +kernel
theorem dX1_owedTo_3 : decode cX1_owedTo 3 = .ok (.istore 4, 2) := by decide +kernel
theorem dX1_owedTo_5 : decode cX1_owedTo 5 = .ok (.iload 4, 2) := by decide +kernel
theorem dX1_owedTo_7 : decode cX1_owedTo 7 = .ok (.bipush 8, 2) := by decide +kernel
theorem dX1_owedTo_9 : decode cX1_owedTo 9 = .ok (.if_icmp .ge 34, 3) := by decide +kernel
theorem dX1_owedTo_12 : decode cX1_owedTo 12 = .ok (.iload_n 2, 1) := by decide +kernel
theorem dX1_owedTo_13 : decode cX1_owedTo 13 = .ok (.iload 4, 2) := by decide +kernel
theorem dX1_owedTo_15 : decode cX1_owedTo 15 = .ok (.ishr, 1) := by decide +kernel
theorem dX1_owedTo_16 : decode cX1_owedTo 16 = .ok (.iconst 1, 1) := by decide +kernel
theorem dX1_owedTo_17 : decode cX1_owedTo 17 = .ok (.iand, 1) := by decide +kernel
theorem dX1_owedTo_18 : decode cX1_owedTo 18 = .ok (.iconst 1, 1) := by decide +kernel
theorem dX1_owedTo_19 : decode cX1_owedTo 19 = .ok (.if_icmp .ne 18, 3) := by decide +kernel
theorem dX1_owedTo_22 : decode cX1_owedTo 22 = .ok (.iload_n 3, 1) := by decide +kernel
theorem dX1_owedTo_23 : decode cX1_owedTo 23 = .ok (.aload_n 0, 1) := by decide +kernel
theorem dX1_owedTo_24 : decode cX1_owedTo 24 = .ok (.getfield 9, 3) := by decide +kernel
theorem dX1_owedTo_27 : decode cX1_owedTo 27 = .ok (.iload 4, 2) := by decide +kernel
theorem dX1_owedTo_29 : decode cX1_owedTo 29 = .ok (.bipush 8, 2) := by decide +kernel
theorem dX1_owedTo_31 : decode cX1_owedTo 31 = .ok (.imul, 1) := by decide +kernel
theorem dX1_owedTo_32 : decode cX1_owedTo 32 = .ok (.iload_n 1, 1) := by decide +kernel
theorem dX1_owedTo_33 : decode cX1_owedTo 33 = .ok (.iadd, 1) := by decide +kernel
theorem dX1_owedTo_34 : decode cX1_owedTo 34 = .ok (.iaload, 1) := by decide +kernel
theorem dX1_owedTo_35 : decode cX1_owedTo 35 = .ok (.iadd, 1) := by decide +kernel
theorem dX1_owedTo_36 : decode cX1_owedTo 36 = .ok (.istore_n 3, 1) := by decide +kernel
theorem dX1_owedTo_37 : decode cX1_owedTo 37 = .ok (.iinc 4 1, 3) := by decide +kernel
theorem dX1_owedTo_40 : decode cX1_owedTo 40 = .ok (.goto (-35), 3) := by decide +kernel
theorem dX1_owedTo_43 : decode cX1_owedTo 43 = .ok (.iload_n 3, 1) := by decide +kernel
theorem dX1_owedTo_44 : decode cX1_owedTo 44 = .ok (.ireturn, 1) := by decide +kernel
set_option maxRecDepth 20000 in
theorem ggX1_fallFrom_X1_fallingNext : GoodIn wsX1_fallFrom wsX1_fallingNext := goodIn_r _ [5, 6, 7, 8, 4, 9, 10, 11, 12, 13, 14, 15] (by decide +kernel) (by decide +kernel)
set_option maxRecDepth 20000 in
theorem gX1_fallFrom_X1_fallingNext : GoodIn wsX1_fallFrom (wsV RX1 23 RX1 yX1_fallingNext wsX1_fallingNext) := goodIn_app (goodIn_of _ (by decide +kernel)) ggX1_fallFrom_X1_fallingNext
theorem dX1_fallFrom_0 : decode cX1_fallFrom 0 = .ok (.iconst 1, 1) := by decide +kernel
theorem dX1_fallFrom_1 : decode cX1_fallFrom 1 = .ok (.iload_n 1, 1) := by decide +kernel
theorem dX1_fallFrom_2 : decode cX1_fallFrom 2 = .ok (.ishl, 1) := by decide +kernel
theorem dX1_fallFrom_3 : decode cX1_fallFrom 3 = .ok (.istore_n 3, 1) := by decide +kernel
theorem dX1_fallFrom_4 : decode cX1_fallFrom 4 = .ok (.iconst 0, 1) := by decide +kernel
theorem dX1_fallFrom_5 : decode cX1_fallFrom 5 = .ok (.istore 4, 2) := by decide +kernel
theorem dX1_fallFrom_7 : decode cX1_fallFrom 7 = .ok (.iload 4, 2) := by decide +kernel
theorem dX1_fallFrom_9 : decode cX1_fallFrom 9 = .ok (.bipush 8, 2) := by decide +kernel
theorem dX1_fallFrom_11 : decode cX1_fallFrom 11 = .ok (.if_icmp .ge 18, 3) := by decide +kernel
theorem dX1_fallFrom_14 : decode cX1_fallFrom 14 = .ok (.iload_n 3, 1) := by decide +kernel
theorem dX1_fallFrom_15 : decode cX1_fallFrom 15 = .ok (.aload_n 0, 1) := by decide +kernel
theorem dX1_fallFrom_16 : decode cX1_fallFrom 16 = .ok (.iload_n 3, 1) := by decide +kernel
theorem dX1_fallFrom_17 : decode cX1_fallFrom 17 = .ok (.iload_n 2, 1) := by decide +kernel
theorem dX1_fallFrom_18 : decode cX1_fallFrom 18 = .ok (.invokevirtual 23, 3) := by decide +kernel
theorem dX1_fallFrom_21 : decode cX1_fallFrom 21 = .ok (.ior, 1) := by decide +kernel
theorem dX1_fallFrom_22 : decode cX1_fallFrom 22 = .ok (.istore_n 3, 1) := by decide +kernel
theorem dX1_fallFrom_23 : decode cX1_fallFrom 23 = .ok (.iinc 4 1, 3) := by decide +kernel
theorem dX1_fallFrom_26 : decode cX1_fallFrom 26 = .ok (.goto (-19), 3) := by decide +kernel
theorem dX1_fallFrom_29 : decode cX1_fallFrom 29 = .ok (.iload_n 3, 1) := by decide +kernel
theorem dX1_fallFrom_30 : decode cX1_fallFrom 30 = .ok (.ireturn, 1) := by decide +kernel
set_option maxRecDepth 20000 in
theorem ggX1_fallingNext_X1_owedTo : GoodIn wsX1_fallingNext wsX1_owedTo := goodIn_r _ [5, 6, 11] (by decide +kernel) (by decide +kernel)
set_option maxRecDepth 20000 in
theorem gX1_fallingNext_X1_owedTo : GoodIn wsX1_fallingNext (wsV RX1 15 RX1 yX1_owedTo wsX1_owedTo) := goodIn_app (goodIn_of _ (by decide +kernel)) ggX1_fallingNext_X1_owedTo
set_option maxRecDepth 20000 in
theorem ggX1_fallingNext_X1_owedBy : GoodIn wsX1_fallingNext wsX1_owedBy := goodIn_r _ [10, 6, 11] (by decide +kernel) (by decide +kernel)
set_option maxRecDepth 20000 in
theorem gX1_fallingNext_X1_owedBy : GoodIn wsX1_fallingNext (wsV RX1 19 RX1 yX1_owedBy wsX1_owedBy) := goodIn_app (goodIn_of _ (by decide +kernel)) ggX1_fallingNext_X1_owedBy
theorem dX1_fallingNext_0 : decode cX1_fallingNext 0 = .ok (.iconst 0, 1) := by decide +kernel
theorem dX1_fallingNext_1 : decode cX1_fallingNext 1 = .ok (.istore_n 3, 1) := by decide +kernel
theorem dX1_fallingNext_2 : decode cX1_fallingNext 2 = .ok (.iconst 0, 1) := by decide +kernel
theorem dX1_fallingNext_3 : decode cX1_fallingNext 3 = .ok (.istore 4, 2) := by decide +kernel
theorem dX1_fallingNext_5 : decode cX1_fallingNext 5 = .ok (.iload 4, 2) := by decide +kernel
theorem dX1_fallingNext_7 : decode cX1_fallingNext 7 = .ok (.bipush 8, 2) := by decide +kernel
theorem dX1_fallingNext_9 : decode cX1_fallingNext 9 = .ok (.if_icmp .ge 57, 3) := by decide +kernel
theorem dX1_fallingNext_12 : decode cX1_fallingNext 12 = .ok (.iload_n 1, 1) := by decide +kernel
theorem dX1_fallingNext_13 : decode cX1_fallingNext 13 = .ok (.iload 4, 2) := by decide +kernel
theorem dX1_fallingNext_15 : decode cX1_fallingNext 15 = .ok (.ishr, 1) := by decide +kernel
theorem dX1_fallingNext_16 : decode cX1_fallingNext 16 = .ok (.iconst 1, 1) := by decide +kernel
theorem dX1_fallingNext_17 : decode cX1_fallingNext 17 = .ok (.iand, 1) := by decide +kernel
theorem dX1_fallingNext_18 : decode cX1_fallingNext 18 = .ok (.ifCond .ne 7, 3) := by decide +kernel
theorem dX1_fallingNext_21 : decode cX1_fallingNext 21 = .ok (.iconst 1, 1) := by decide +kernel
theorem dX1_fallingNext_22 : decode cX1_fallingNext 22 = .ok (.goto 4, 3) := by decide +kernel
theorem dX1_fallingNext_25 : decode cX1_fallingNext 25 = .ok (.iconst 0, 1) := by decide +kernel
theorem dX1_fallingNext_26 : decode cX1_fallingNext 26 = .ok (.istore 5, 2) := by decide +kernel
theorem dX1_fallingNext_28 : decode cX1_fallingNext 28 = .ok (.iload 5, 2) := by decide +kernel
theorem dX1_fallingNext_30 : decode cX1_fallingNext 30 = .ok (.ifCond .eq 30, 3) := by decide +kernel
theorem dX1_fallingNext_33 : decode cX1_fallingNext 33 = .ok (.iload_n 2, 1) := by decide +kernel
theorem dX1_fallingNext_34 : decode cX1_fallingNext 34 = .ok (.aload_n 0, 1) := by decide +kernel
theorem dX1_fallingNext_35 : decode cX1_fallingNext 35 = .ok (.iload 4, 2) := by decide +kernel
theorem dX1_fallingNext_37 : decode cX1_fallingNext 37 = .ok (.iload_n 1, 1) := by decide +kernel
theorem dX1_fallingNext_38 : decode cX1_fallingNext 38 = .ok (.iconst (-1), 1) := by decide +kernel
theorem dX1_fallingNext_39 : decode cX1_fallingNext 39 = .ok (.ixor, 1) := by decide +kernel
theorem dX1_fallingNext_40 : decode cX1_fallingNext 40 = .ok (.invokevirtual 15, 3) := by decide +kernel
theorem dX1_fallingNext_43 : decode cX1_fallingNext 43 = .ok (.iadd, 1) := by decide +kernel
theorem dX1_fallingNext_44 : decode cX1_fallingNext 44 = .ok (.aload_n 0, 1) := by decide +kernel
theorem dX1_fallingNext_45 : decode cX1_fallingNext 45 = .ok (.iload 4, 2) := by decide +kernel
theorem dX1_fallingNext_47 : decode cX1_fallingNext 47 = .ok (.invokevirtual 19, 3) := by decide +kernel
theorem dX1_fallingNext_50 : decode cX1_fallingNext 50 = .ok (.if_icmp .ge 10, 3) := by decide +kernel
theorem dX1_fallingNext_53 : decode cX1_fallingNext 53 = .ok (.iload_n 3, 1) := by decide +kernel
theorem dX1_fallingNext_54 : decode cX1_fallingNext 54 = .ok (.iconst 1, 1) := by decide +kernel
theorem dX1_fallingNext_55 : decode cX1_fallingNext 55 = .ok (.iload 4, 2) := by decide +kernel
theorem dX1_fallingNext_57 : decode cX1_fallingNext 57 = .ok (.ishl, 1) := by decide +kernel
theorem dX1_fallingNext_58 : decode cX1_fallingNext 58 = .ok (.ior, 1) := by decide +kernel
theorem dX1_fallingNext_59 : decode cX1_fallingNext 59 = .ok (.istore_n 3, 1) := by decide +kernel
theorem dX1_fallingNext_60 : decode cX1_fallingNext 60 = .ok (.iinc 4 1, 3) := by decide +kernel
theorem dX1_fallingNext_63 : decode cX1_fallingNext 63 = .ok (.goto (-58), 3) := by decide +kernel
theorem dX1_fallingNext_66 : decode cX1_fallingNext 66 = .ok (.iload_n 3, 1) := by decide +kernel
theorem dX1_fallingNext_67 : decode cX1_fallingNext 67 = .ok (.ireturn, 1) := by decide +kernel
set_option maxRecDepth 20000 in
theorem ggX2_init_J7_fill_53178 : GoodIn wsX2_init wsJ7_fill_53178 := goodIn_r _ [13] (by decide +kernel) (by decide +kernel)
set_option maxRecDepth 20000 in
theorem gX2_init_J7_fill_53178 : GoodIn wsX2_init (va_wsS RX2 28 yJ7_fill_53178 wsJ7_fill_53178) := goodIn_app (goodIn_of _ (by decide +kernel)) ggX2_init_J7_fill_53178
theorem dX2_init_0 : decode cX2_init 0 = .ok (.aload_n 0, 1) := by decide +kernel
theorem dX2_init_1 : decode cX2_init 1 = .ok (.invokespecial 3, 3) := by decide +kernel
theorem dX2_init_4 : decode cX2_init 4 = .ok (.aload_n 0, 1) := by decide +kernel
theorem dX2_init_5 : decode cX2_init 5 = .ok (.bipush 10, 2) := by decide +kernel
theorem dX2_init_7 : decode cX2_init 7 = .ok (.newarray .int, 2) := by decide +kernel
theorem dX2_init_9 : decode cX2_init 9 = .ok (.putfield 9, 3) := by decide +kernel
theorem dX2_init_12 : decode cX2_init 12 = .ok (.aload_n 0, 1) := by decide +kernel
theorem dX2_init_13 : decode cX2_init 13 = .ok (.bipush 10, 2) := by decide +kernel
theorem dX2_init_15 : decode cX2_init 15 = .ok (.newarray .int, 2) := by decide +kernel
theorem dX2_init_17 : decode cX2_init 17 = .ok (.putfield 15, 3) := by decide +kernel
theorem dX2_init_20 : decode cX2_init 20 = .ok (.aload_n 0, 1) := by decide +kernel
theorem dX2_init_21 : decode cX2_init 21 = .ok (.bipush 12, 2) := by decide +kernel
theorem dX2_init_23 : decode cX2_init 23 = .ok (.newarray .int, 2) := by decide +kernel
theorem dX2_init_25 : decode cX2_init 25 = .ok (.putfield 18, 3) := by decide +kernel
theorem dX2_init_28 : decode cX2_init 28 = .ok (.aload_n 0, 1) := by decide +kernel
theorem dX2_init_29 : decode cX2_init 29 = .ok (.bipush 60, 2) := by decide +kernel
theorem dX2_init_31 : decode cX2_init 31 = .ok (.newarray .int, 2) := by decide +kernel
theorem dX2_init_33 : decode cX2_init 33 = .ok (.putfield 21, 3) := by decide +kernel
theorem dX2_init_36 : decode cX2_init 36 = .ok (.aload_n 0, 1) := by decide +kernel
theorem dX2_init_37 : decode cX2_init 37 = .ok (.iconst 0, 1) := by decide +kernel
theorem dX2_init_38 : decode cX2_init 38 = .ok (.putfield 24, 3) := by decide +kernel
theorem dX2_init_41 : decode cX2_init 41 = .ok (.aload_n 0, 1) := by decide +kernel
theorem dX2_init_42 : decode cX2_init 42 = .ok (.getfield 9, 3) := by decide +kernel
theorem dX2_init_45 : decode cX2_init 45 = .ok (.sipush 1600, 3) := by decide +kernel
theorem dX2_init_48 : decode cX2_init 48 = .ok (.invokestatic 28, 3) := by decide +kernel
theorem dX2_init_51 : decode cX2_init 51 = .ok (.aload_n 0, 1) := by decide +kernel
theorem dX2_init_52 : decode cX2_init 52 = .ok (.getfield 15, 3) := by decide +kernel
theorem dX2_init_55 : decode cX2_init 55 = .ok (.sipush 1950, 3) := by decide +kernel
theorem dX2_init_58 : decode cX2_init 58 = .ok (.invokestatic 28, 3) := by decide +kernel
theorem dX2_init_61 : decode cX2_init 61 = .ok (.return_, 1) := by decide +kernel
theorem dX2_setYears_0 : decode cX2_setYears 0 = .ok (.aload_n 0, 1) := by decide +kernel
theorem dX2_setYears_1 : decode cX2_setYears 1 = .ok (.getfield 9, 3) := by decide +kernel
theorem dX2_setYears_4 : decode cX2_setYears 4 = .ok (.iload_n 1, 1) := by decide +kernel
theorem dX2_setYears_5 : decode cX2_setYears 5 = .ok (.iload_n 2, 1) := by decide +kernel
theorem dX2_setYears_6 : decode cX2_setYears 6 = .ok (.iastore, 1) := by decide +kernel
theorem dX2_setYears_7 : decode cX2_setYears 7 = .ok (.aload_n 0, 1) := by decide +kernel
theorem dX2_setYears_8 : decode cX2_setYears 8 = .ok (.getfield 15, 3) := by decide +kernel
theorem dX2_setYears_11 : decode cX2_setYears 11 = .ok (.iload_n 1, 1) := by decide +kernel
theorem dX2_setYears_12 : decode cX2_setYears 12 = .ok (.iload_n 3, 1) := by decide +kernel
theorem dX2_setYears_13 : decode cX2_setYears 13 = .ok (.iastore, 1) := by decide +kernel
theorem dX2_setYears_14 : decode cX2_setYears 14 = .ok (.return_, 1) := by decide +kernel
theorem dX2_addThing_0 : decode cX2_addThing 0 = .ok (.aload_n 0, 1) := by decide +kernel
theorem dX2_addThing_1 : decode cX2_addThing 1 = .ok (.getfield 24, 3) := by decide +kernel
theorem dX2_addThing_4 : decode cX2_addThing 4 = .ok (.bipush 12, 2) := by decide +kernel
theorem dX2_addThing_6 : decode cX2_addThing 6 = .ok (.if_icmp .lt 6, 3) := by decide +kernel
theorem dX2_addThing_9 : decode cX2_addThing 9 = .ok (.bipush (-4), 2) := by decide +kernel
theorem dX2_addThing_11 : decode cX2_addThing 11 = .ok (.ireturn, 1) := by decide +kernel
theorem dX2_addThing_12 : decode cX2_addThing 12 = .ok (.aload_n 0, 1) := by decide +kernel
theorem dX2_addThing_13 : decode cX2_addThing 13 = .ok (.getfield 18, 3) := by decide +kernel
theorem dX2_addThing_16 : decode cX2_addThing 16 = .ok (.aload_n 0, 1) := by decide +kernel
theorem dX2_addThing_17 : decode cX2_addThing 17 = .ok (.getfield 24, 3) := by decide +kernel
theorem dX2_addThing_20 : decode cX2_addThing 20 = .ok (.iload_n 1, 1) := by decide +kernel
theorem dX2_addThing_21 : decode cX2_addThing 21 = .ok (.iastore, 1) := by decide +kernel
theorem dX2_addThing_22 : decode cX2_addThing 22 = .ok (.aload_n 0, 1) := by decide +kernel
theorem dX2_addThing_23 : decode cX2_addThing 23 = .ok (.dup, 1) := by decide +kernel
theorem dX2_addThing_24 : decode cX2_addThing 24 = .ok (.getfield 24, 3) := by decide +kernel
theorem dX2_addThing_27 : decode cX2_addThing 27 = .ok (.iconst 1, 1) := by decide +kernel
theorem dX2_addThing_28 : decode cX2_addThing 28 = .ok (.iadd, 1) := by decide +kernel
theorem dX2_addThing_29 : decode cX2_addThing 29 = .ok (.putfield 24, 3) := by decide +kernel
theorem dX2_addThing_32 : decode cX2_addThing 32 = .ok (.aload_n 0, 1) := by decide +kernel
theorem dX2_addThing_33 : decode cX2_addThing 33 = .ok (.getfield 24, 3) := by decide +kernel
theorem dX2_addThing_36 : decode cX2_addThing 36 = .ok (.iconst 1, 1) := by decide +kernel
theorem dX2_addThing_37 : decode cX2_addThing 37 = .ok (.isub, 1) := by decide +kernel
theorem dX2_addThing_38 : decode cX2_addThing 38 = .ok (.ireturn, 1) := by decide +kernel
theorem dX2_thingCount_0 : decode cX2_thingCount 0 = .ok (.aload_n 0, 1) := by decide +kernel
theorem dX2_thingCount_1 : decode cX2_thingCount 1 = .ok (.getfield 24, 3) := by decide +kernel
theorem dX2_thingCount_4 : decode cX2_thingCount 4 = .ok (.ireturn, 1) := by decide +kernel
set_option maxRecDepth 20000 in
theorem ggX2_hasThing_X5_within : GoodIn wsX2_hasThing wsX5_within := goodIn_r _ [4] (by decide +kernel) (by decide +kernel)
set_option maxRecDepth 20000 in
theorem gX2_hasThing_X5_within_n34 : GoodIn wsX2_hasThing (wsX5_within) := ggX2_hasThing_X5_within
theorem dX2_hasThing_0 : decode cX2_hasThing 0 = .ok (.iload_n 1, 1) := by decide +kernel
theorem dX2_hasThing_1 : decode cX2_hasThing 1 = .ok (.iconst 0, 1) := by decide +kernel
theorem dX2_hasThing_2 : decode cX2_hasThing 2 = .ok (.aload_n 0, 1) := by decide +kernel
theorem dX2_hasThing_3 : decode cX2_hasThing 3 = .ok (.getfield 24, 3) := by decide +kernel
theorem dX2_hasThing_6 : decode cX2_hasThing 6 = .ok (.iconst 1, 1) := by decide +kernel
theorem dX2_hasThing_7 : decode cX2_hasThing 7 = .ok (.isub, 1) := by decide +kernel
theorem dX2_hasThing_8 : decode cX2_hasThing 8 = .ok (.invokestatic 34, 3) := by decide +kernel
theorem dX2_hasThing_11 : decode cX2_hasThing 11 = .ok (.ireturn, 1) := by decide +kernel
set_option maxRecDepth 20000 in
theorem ggX2_hasPart_X2_hasThing : GoodIn wsX2_hasPart wsX2_hasThing := goodIn_r _ [6, 7, 8, 9, 10, 11, 12, 13, 14, 15] (by decide +kernel) (by decide +kernel)
set_option maxRecDepth 20000 in
theorem gX2_hasPart_X2_hasThing : GoodIn wsX2_hasPart (wsV RX2 38 RX2 yX2_hasThing wsX2_hasThing) := goodIn_app (goodIn_of _ (by decide +kernel)) ggX2_hasPart_X2_hasThing
set_option maxRecDepth 20000 in
theorem ggX2_hasPart_X5_within : GoodIn wsX2_hasPart wsX5_within := goodIn_r _ [10] (by decide +kernel) (by decide +kernel)
set_option maxRecDepth 20000 in
theorem gX2_hasPart_X5_within_n34 : GoodIn wsX2_hasPart (wsX5_within) := ggX2_hasPart_X5_within
theorem dX2_hasPart_0 : decode cX2_hasPart 0 = .ok (.aload_n 0, 1) := by decide +kernel
theorem dX2_hasPart_1 : decode cX2_hasPart 1 = .ok (.iload_n 1, 1) := by decide +kernel
theorem dX2_hasPart_2 : decode cX2_hasPart 2 = .ok (.invokevirtual 38, 3) := by decide +kernel
theorem dX2_hasPart_5 : decode cX2_hasPart 5 = .ok (.ifCond .eq 23, 3) := by decide +kernel
theorem dX2_hasPart_8 : decode cX2_hasPart 8 = .ok (.iload_n 2, 1) := by decide +kernel
theorem dX2_hasPart_9 : decode cX2_hasPart 9 = .ok (.iconst 0, 1) := by decide +kernel
theorem dX2_hasPart_10 : decode cX2_hasPart 10 = .ok (.aload_n 0, 1) := by decide +kernel
theorem dX2_hasPart_11 : decode cX2_hasPart 11 = .ok (.getfield 18, 3) := by decide +kernel
theorem dX2_hasPart_14 : decode cX2_hasPart 14 = .ok (.iload_n 1, 1) := by decide +kernel
theorem dX2_hasPart_15 : decode cX2_hasPart 15 = .ok (.iaload, 1) := by decide +kernel
theorem dX2_hasPart_16 : decode cX2_hasPart 16 = .ok (.iconst 1, 1) := by decide +kernel
theorem dX2_hasPart_17 : decode cX2_hasPart 17 = .ok (.isub, 1) := by decide +kernel
theorem dX2_hasPart_18 : decode cX2_hasPart 18 = .ok (.invokestatic 34, 3) := by decide +kernel
theorem dX2_hasPart_21 : decode cX2_hasPart 21 = .ok (.ifCond .eq 7, 3) := by decide +kernel
theorem dX2_hasPart_24 : decode cX2_hasPart 24 = .ok (.iconst 1, 1) := by decide +kernel
theorem dX2_hasPart_25 : decode cX2_hasPart 25 = .ok (.goto 4, 3) := by decide +kernel
theorem dX2_hasPart_28 : decode cX2_hasPart 28 = .ok (.iconst 0, 1) := by decide +kernel
theorem dX2_hasPart_29 : decode cX2_hasPart 29 = .ok (.ireturn, 1) := by decide +kernel
theorem dX2_worksOf_0 : decode cX2_worksOf 0 = .ok (.aload_n 0, 1) := by decide +kernel
theorem dX2_worksOf_1 : decode cX2_worksOf 1 = .ok (.getfield 21, 3) := by decide +kernel
theorem dX2_worksOf_4 : decode cX2_worksOf 4 = .ok (.iload_n 1, 1) := by decide +kernel
theorem dX2_worksOf_5 : decode cX2_worksOf 5 = .ok (.iconst 5, 1) := by decide +kernel
theorem dX2_worksOf_6 : decode cX2_worksOf 6 = .ok (.imul, 1) := by decide +kernel
theorem dX2_worksOf_7 : decode cX2_worksOf 7 = .ok (.iload_n 2, 1) := by decide +kernel
theorem dX2_worksOf_8 : decode cX2_worksOf 8 = .ok (.iadd, 1) := by decide +kernel
theorem dX2_worksOf_9 : decode cX2_worksOf 9 = .ok (.iaload, 1) := by decide +kernel
theorem dX2_worksOf_10 : decode cX2_worksOf 10 = .ok (.ireturn, 1) := by decide +kernel
set_option maxRecDepth 20000 in
theorem ggX2_changeWorks_X2_worksOf : GoodIn wsX2_changeWorks wsX2_worksOf := goodIn_r _ [6, 1, 7, 8, 9, 10, 11] (by decide +kernel) (by decide +kernel)
set_option maxRecDepth 20000 in
theorem gX2_changeWorks_X2_worksOf : GoodIn wsX2_changeWorks (wsV RX2 42 RX2 yX2_worksOf wsX2_worksOf) := goodIn_app (goodIn_of _ (by decide +kernel)) ggX2_changeWorks_X2_worksOf
theorem dX2_changeWorks_0 : decode cX2_changeWorks 0 = .ok (.aload_n 0, 1) := by decide +kernel
theorem dX2_changeWorks_1 : decode cX2_changeWorks 1 = .ok (.iload_n 1, 1) := by decide +kernel
theorem dX2_changeWorks_2 : decode cX2_changeWorks 2 = .ok (.iload_n 2, 1) := by decide +kernel
theorem dX2_changeWorks_3 : decode cX2_changeWorks 3 = .ok (.invokevirtual 42, 3) := by decide +kernel
theorem dX2_changeWorks_6 : decode cX2_changeWorks 6 = .ok (.istore 4, 2) := by decide +kernel
theorem dX2_changeWorks_8 : decode cX2_changeWorks 8 = .ok (.aload_n 0, 1) := by decide +kernel
theorem dX2_changeWorks_9 : decode cX2_changeWorks 9 = .ok (.getfield 21, 3) := by decide +kernel
theorem dX2_changeWorks_12 : decode cX2_changeWorks 12 = .ok (.iload_n 1, 1) := by decide +kernel
theorem dX2_changeWorks_13 : decode cX2_changeWorks 13 = .ok (.iconst 5, 1) := by decide +kernel
theorem dX2_changeWorks_14 : decode cX2_changeWorks 14 = .ok (.imul, 1) := by decide +kernel
theorem dX2_changeWorks_15 : decode cX2_changeWorks 15 = .ok (.iload_n 2, 1) := by decide +kernel
theorem dX2_changeWorks_16 : decode cX2_changeWorks 16 = .ok (.iadd, 1) := by decide +kernel
theorem dX2_changeWorks_17 : decode cX2_changeWorks 17 = .ok (.iload_n 3, 1) := by decide +kernel
theorem dX2_changeWorks_18 : decode cX2_changeWorks 18 = .ok (.iastore, 1) := by decide +kernel
theorem dX2_changeWorks_19 : decode cX2_changeWorks 19 = .ok (.iload 4, 2) := by decide +kernel
theorem dX2_changeWorks_21 : decode cX2_changeWorks 21 = .ok (.ireturn, 1) := by decide +kernel
set_option maxRecDepth 20000 in
theorem ggX2_worksWithout_X2_worksOf : GoodIn wsX2_worksWithout wsX2_worksOf := goodIn_r _ [6, 7, 8, 9, 10, 11, 12] (by decide +kernel) (by decide +kernel)
set_option maxRecDepth 20000 in
theorem gX2_worksWithout_X2_worksOf : GoodIn wsX2_worksWithout (wsV RX2 42 RX2 yX2_worksOf wsX2_worksOf) := goodIn_app (goodIn_of _ (by decide +kernel)) ggX2_worksWithout_X2_worksOf
theorem dX2_worksWithout_0 : decode cX2_worksWithout 0 = .ok (.iconst 0, 1) := by decide +kernel
theorem dX2_worksWithout_1 : decode cX2_worksWithout 1 = .ok (.istore_n 3, 1) := by decide +kernel
theorem dX2_worksWithout_2 : decode cX2_worksWithout 2 = .ok (.iconst 0, 1) := by decide +kernel
theorem dX2_worksWithout_3 : decode cX2_worksWithout 3 = .ok (.istore 4, 2) := by decide +kernel
theorem dX2_worksWithout_5 : decode cX2_worksWithout 5 = .ok (.iload 4, 2) := by decide +kernel
theorem dX2_worksWithout_7 : decode cX2_worksWithout 7 = .ok (.aload_n 0, 1) := by decide +kernel
theorem dX2_worksWithout_8 : decode cX2_worksWithout 8 = .ok (.getfield 18, 3) := by decide +kernel
theorem dX2_worksWithout_11 : decode cX2_worksWithout 11 = .ok (.iload_n 1, 1) := by decide +kernel
theorem dX2_worksWithout_12 : decode cX2_worksWithout 12 = .ok (.iaload, 1) := by decide +kernel
theorem dX2_worksWithout_13 : decode cX2_worksWithout 13 = .ok (.if_icmp .ge 28, 3) := by decide +kernel
theorem dX2_worksWithout_16 : decode cX2_worksWithout 16 = .ok (.iload_n 2, 1) := by decide +kernel
theorem dX2_worksWithout_17 : decode cX2_worksWithout 17 = .ok (.iload 4, 2) := by decide +kernel
theorem dX2_worksWithout_19 : decode cX2_worksWithout 19 = .ok (.ishr, 1) := by decide +kernel
theorem dX2_worksWithout_20 : decode cX2_worksWithout 20 = .ok (.iconst 1, 1) := by decide +kernel
theorem dX2_worksWithout_21 : decode cX2_worksWithout 21 = .ok (.iand, 1) := by decide +kernel
theorem dX2_worksWithout_22 : decode cX2_worksWithout 22 = .ok (.ifCond .ne 13, 3) := by decide +kernel
theorem dX2_worksWithout_25 : decode cX2_worksWithout 25 = .ok (.iload_n 3, 1) := by decide +kernel
theorem dX2_worksWithout_26 : decode cX2_worksWithout 26 = .ok (.aload_n 0, 1) := by decide +kernel
theorem dX2_worksWithout_27 : decode cX2_worksWithout 27 = .ok (.iload_n 1, 1) := by decide +kernel
theorem dX2_worksWithout_28 : decode cX2_worksWithout 28 = .ok (.iload 4, 2) := by decide +kernel
theorem dX2_worksWithout_30 : decode cX2_worksWithout 30 = .ok (.invokevirtual 42, 3) := by decide +kernel
theorem dX2_worksWithout_33 : decode cX2_worksWithout 33 = .ok (.ior, 1) := by decide +kernel
theorem dX2_worksWithout_34 : decode cX2_worksWithout 34 = .ok (.istore_n 3, 1) := by decide +kernel
theorem dX2_worksWithout_35 : decode cX2_worksWithout 35 = .ok (.iinc 4 1, 3) := by decide +kernel
theorem dX2_worksWithout_38 : decode cX2_worksWithout 38 = .ok (.goto (-33), 3) := by decide +kernel
theorem dX2_worksWithout_41 : decode cX2_worksWithout 41 = .ok (.iload_n 3, 1) := by decide +kernel
theorem dX2_worksWithout_42 : decode cX2_worksWithout 42 = .ok (.ireturn, 1) := by decide +kernel
theorem dX2_yearOf_0 : decode cX2_yearOf 0 = .ok (.sipush 1600, 3) := by decide +kernel
theorem dX2_yearOf_3 : decode cX2_yearOf 3 = .ok (.istore_n 3, 1) := by decide +kernel
theorem dX2_yearOf_4 : decode cX2_yearOf 4 = .ok (.sipush 1950, 3) := by decide +kernel
theorem dX2_yearOf_7 : decode cX2_yearOf 7 = .ok (.istore 4, 2) := by decide +kernel
theorem dX2_yearOf_9 : decode cX2_yearOf 9 = .ok (.iconst 0, 1) := by decide +kernel
theorem dX2_yearOf_10 : decode cX2_yearOf 10 = .ok (.istore 5, 2) := by decide +kernel
theorem dX2_yearOf_12 : decode cX2_yearOf 12 = .ok (.iload 5, 2) := by decide +kernel
theorem dX2_yearOf_14 : decode cX2_yearOf 14 = .ok (.bipush 10, 2) := by decide +kernel
theorem dX2_yearOf_16 : decode cX2_yearOf 16 = .ok (.if_icmp .ge 45, 3) := by decide +kernel
theorem dX2_yearOf_19 : decode cX2_yearOf 19 = .ok (.iload_n 1, 1) := by decide +kernel
theorem dX2_yearOf_20 : decode cX2_yearOf 20 = .ok (.iload 5, 2) := by decide +kernel
theorem dX2_yearOf_22 : decode cX2_yearOf 22 = .ok (.ishr, 1) := by decide +kernel
theorem dX2_yearOf_23 : decode cX2_yearOf 23 = .ok (.iconst 1, 1) := by decide +kernel
theorem dX2_yearOf_24 : decode cX2_yearOf 24 = .ok (.iand, 1) := by decide +kernel
theorem dX2_yearOf_25 : decode cX2_yearOf 25 = .ok (.iconst 1, 1) := by decide +kernel
theorem dX2_yearOf_26 : decode cX2_yearOf 26 = .ok (.if_icmp .ne 29, 3) := by decide +kernel
theorem dX2_yearOf_29 : decode cX2_yearOf 29 = .ok (.iload_n 3, 1) := by decide +kernel
theorem dX2_yearOf_30 : decode cX2_yearOf 30 = .ok (.aload_n 0, 1) := by decide +kernel
theorem dX2_yearOf_31 : decode cX2_yearOf 31 = .ok (.getfield 9, 3) := by decide +kernel
theorem dX2_yearOf_34 : decode cX2_yearOf 34 = .ok (.iload 5, 2) := by decide +kernel
theorem dX2_yearOf_36 : decode cX2_yearOf 36 = .ok (.iaload, 1) := by decide +kernel
theorem dX2_yearOf_37 : decode cX2_yearOf 37 = .ok (.invokestatic 46, 3) := by decide +kernel
theorem dX2_yearOf_40 : decode cX2_yearOf 40 = .ok (.istore_n 3, 1) := by decide +kernel
theorem dX2_yearOf_41 : decode cX2_yearOf 41 = .ok (.iload 4, 2) := by decide +kernel
theorem dX2_yearOf_43 : decode cX2_yearOf 43 = .ok (.aload_n 0, 1) := by decide +kernel
theorem dX2_yearOf_44 : decode cX2_yearOf 44 = .ok (.getfield 15, 3) := by decide +kernel
theorem dX2_yearOf_47 : decode cX2_yearOf 47 = .ok (.iload 5, 2) := by decide +kernel
theorem dX2_yearOf_49 : decode cX2_yearOf 49 = .ok (.iaload, 1) := by decide +kernel
theorem dX2_yearOf_50 : decode cX2_yearOf 50 = .ok (.invokestatic 51, 3) := by decide +kernel
theorem dX2_yearOf_53 : decode cX2_yearOf 53 = .ok (.istore 4, 2) := by decide +kernel
theorem dX2_yearOf_55 : decode cX2_yearOf 55 = .ok (.iinc 5 1, 3) := by decide +kernel
theorem dX2_yearOf_58 : decode cX2_yearOf 58 = .ok (.goto (-46), 3) := by decide +kernel
theorem dX2_yearOf_61 : decode cX2_yearOf 61 = .ok (.iload_n 3, 1) := by decide +kernel
theorem dX2_yearOf_62 : decode cX2_yearOf 62 = .ok (.iload 4, 2) := by decide +kernel
theorem dX2_yearOf_64 : decode cX2_yearOf 64 = .ok (.if_icmp .le 5, 3) := by decide +kernel
theorem dX2_yearOf_67 : decode cX2_yearOf 67 = .ok (.iconst (-1), 1) := by decide +kernel
theorem dX2_yearOf_68 : decode cX2_yearOf 68 = .ok (.ireturn, 1) := by decide +kernel
theorem dX2_yearOf_69 : decode cX2_yearOf 69 = .ok (.iload_n 2, 1) := by decide +kernel
theorem dX2_yearOf_70 : decode cX2_yearOf 70 = .ok (.ifCond .ne 7, 3) := by decide +kernel
theorem dX2_yearOf_73 : decode cX2_yearOf 73 = .ok (.iload_n 3, 1) := by decide +kernel
theorem dX2_yearOf_74 : decode cX2_yearOf 74 = .ok (.goto 5, 3) := by decide +kernel
theorem dX2_yearOf_77 : decode cX2_yearOf 77 = .ok (.iload 4, 2) := by decide +kernel
theorem dX2_yearOf_79 : decode cX2_yearOf 79 = .ok (.ireturn, 1) := by decide +kernel
set_option maxRecDepth 20000 in
theorem ggX2_strangers_J6_bitCount_0f7a4 : GoodIn wsX2_strangers wsJ6_bitCount_0f7a4 := goodIn_r _ [5, 6, 7, 8] (by decide +kernel) (by decide +kernel)
set_option maxRecDepth 20000 in
theorem gX2_strangers_J6_bitCount_0f7a4 : GoodIn wsX2_strangers (va_wsS RX2 54 yJ6_bitCount_0f7a4 wsJ6_bitCount_0f7a4) := goodIn_app (goodIn_of _ (by decide +kernel)) ggX2_strangers_J6_bitCount_0f7a4
set_option maxRecDepth 20000 in
theorem ggX2_strangers_X2_worksWithout : GoodIn wsX2_strangers wsX2_worksWithout := goodIn_r _ [13, 1, 14, 15, 16, 12, 17, 18, 32, 33, 34, 35, 36] (by decide +kernel) (by decide +kernel)
set_option maxRecDepth 20000 in
theorem gX2_strangers_X2_worksWithout : GoodIn wsX2_strangers (wsV RX2 60 RX2 yX2_worksWithout wsX2_worksWithout) := goodIn_app (goodIn_of _ (by decide +kernel)) ggX2_strangers_X2_worksWithout
set_option maxRecDepth 20000 in
theorem ggX2_strangers_X2_yearOf : GoodIn wsX2_strangers wsX2_yearOf := goodIn_r _ [22, 23, 24, 25, 26, 27, 28, 29, 30, 31, 32, 33, 34, 35, 36] (by decide +kernel) (by decide +kernel)
set_option maxRecDepth 20000 in
theorem gX2_strangers_X2_yearOf : GoodIn wsX2_strangers (wsV RX2 63 RX2 yX2_yearOf wsX2_yearOf) := goodIn_app (goodIn_of _ (by decide +kernel)) ggX2_strangers_X2_yearOf
theorem dX2_strangers_0 : decode cX2_strangers 0 = .ok (.iconst 1, 1) := by decide +kernel
theorem dX2_strangers_1 : decode cX2_strangers 1 = .ok (.aload_n 0, 1) := by decide +kernel
theorem dX2_strangers_2 : decode cX2_strangers 2 = .ok (.getfield 18, 3) := by decide +kernel
theorem dX2_strangers_5 : decode cX2_strangers 5 = .ok (.iload_n 1, 1) := by decide +kernel
theorem dX2_strangers_6 : decode cX2_strangers 6 = .ok (.iaload, 1) := by decide +kernel
theorem dX2_strangers_7 : decode cX2_strangers 7 = .ok (.ishl, 1) := by decide +kernel
theorem dX2_strangers_8 : decode cX2_strangers 8 = .ok (.iconst 1, 1) := by decide +kernel
theorem dX2_strangers_9 : decode cX2_strangers 9 = .ok (.isub, 1) := by decide +kernel
theorem dX2_strangers_10 : decode cX2_strangers 10 = .ok (.istore_n 2, 1) := by decide +kernel
theorem dX2_strangers_11 : decode cX2_strangers 11 = .ok (.iconst (-1), 1) := by decide +kernel
theorem dX2_strangers_12 : decode cX2_strangers 12 = .ok (.istore_n 3, 1) := by decide +kernel
theorem dX2_strangers_13 : decode cX2_strangers 13 = .ok (.iconst 0, 1) := by decide +kernel
theorem dX2_strangers_14 : decode cX2_strangers 14 = .ok (.istore 4, 2) := by decide +kernel
theorem dX2_strangers_16 : decode cX2_strangers 16 = .ok (.iload 4, 2) := by decide +kernel
theorem dX2_strangers_18 : decode cX2_strangers 18 = .ok (.iload_n 2, 1) := by decide +kernel
theorem dX2_strangers_19 : decode cX2_strangers 19 = .ok (.if_icmp .ge 57, 3) := by decide +kernel
theorem dX2_strangers_22 : decode cX2_strangers 22 = .ok (.iload_n 3, 1) := by decide +kernel
theorem dX2_strangers_23 : decode cX2_strangers 23 = .ok (.iconst (-1), 1) := by decide +kernel
theorem dX2_strangers_24 : decode cX2_strangers 24 = .ok (.if_icmp .eq 15, 3) := by decide +kernel
theorem dX2_strangers_27 : decode cX2_strangers 27 = .ok (.iload 4, 2) := by decide +kernel
theorem dX2_strangers_29 : decode cX2_strangers 29 = .ok (.invokestatic 54, 3) := by decide +kernel
theorem dX2_strangers_32 : decode cX2_strangers 32 = .ok (.iload_n 3, 1) := by decide +kernel
theorem dX2_strangers_33 : decode cX2_strangers 33 = .ok (.invokestatic 54, 3) := by decide +kernel
theorem dX2_strangers_36 : decode cX2_strangers 36 = .ok (.if_icmp .ge 7, 3) := by decide +kernel
theorem dX2_strangers_39 : decode cX2_strangers 39 = .ok (.iconst 1, 1) := by decide +kernel
theorem dX2_strangers_40 : decode cX2_strangers 40 = .ok (.goto 4, 3) := by decide +kernel
theorem dX2_strangers_43 : decode cX2_strangers 43 = .ok (.iconst 0, 1) := by decide +kernel
theorem dX2_strangers_44 : decode cX2_strangers 44 = .ok (.istore 5, 2) := by decide +kernel
theorem dX2_strangers_46 : decode cX2_strangers 46 = .ok (.iload 5, 2) := by decide +kernel
theorem dX2_strangers_48 : decode cX2_strangers 48 = .ok (.ifCond .eq 22, 3) := by decide +kernel
theorem dX2_strangers_51 : decode cX2_strangers 51 = .ok (.aload_n 0, 1) := by decide +kernel
theorem dX2_strangers_52 : decode cX2_strangers 52 = .ok (.aload_n 0, 1) := by decide +kernel
theorem dX2_strangers_53 : decode cX2_strangers 53 = .ok (.iload_n 1, 1) := by decide +kernel
theorem dX2_strangers_54 : decode cX2_strangers 54 = .ok (.iload 4, 2) := by decide +kernel
theorem dX2_strangers_56 : decode cX2_strangers 56 = .ok (.invokevirtual 60, 3) := by decide +kernel
theorem dX2_strangers_59 : decode cX2_strangers 59 = .ok (.iconst 0, 1) := by decide +kernel
theorem dX2_strangers_60 : decode cX2_strangers 60 = .ok (.invokevirtual 63, 3) := by decide +kernel
theorem dX2_strangers_63 : decode cX2_strangers 63 = .ok (.iconst (-1), 1) := by decide +kernel
theorem dX2_strangers_64 : decode cX2_strangers 64 = .ok (.if_icmp .eq 6, 3) := by decide +kernel
theorem dX2_strangers_67 : decode cX2_strangers 67 = .ok (.iload 4, 2) := by decide +kernel
theorem dX2_strangers_69 : decode cX2_strangers 69 = .ok (.istore_n 3, 1) := by decide +kernel
theorem dX2_strangers_70 : decode cX2_strangers 70 = .ok (.iinc 4 1, 3) := by decide +kernel
theorem dX2_strangers_73 : decode cX2_strangers 73 = .ok (.goto (-57), 3) := by decide +kernel
theorem dX2_strangers_76 : decode cX2_strangers 76 = .ok (.iload_n 3, 1) := by decide +kernel
theorem dX2_strangers_77 : decode cX2_strangers 77 = .ok (.ireturn, 1) := by decide +kernel
set_option maxRecDepth 20000 in
theorem ggX2_mixWorks_X5_mix : GoodIn wsX2_mixWorks wsX5_mix := goodIn_r _ [5, 6] (by decide +kernel) (by decide +kernel)
set_option maxRecDepth 20000 in
theorem gX2_mixWorks_X5_mix_n66 : GoodIn wsX2_mixWorks (wsX5_mix) := ggX2_mixWorks_X5_mix
theorem dX2_mixWorks_0 : decode cX2_mixWorks 0 = .ok (.lload_n 1, 1) := by decide +kernel
theorem dX2_mixWorks_1 : decode cX2_mixWorks 1 = .ok (.lstore_n 3, 1) := by decide +kernel
theorem dX2_mixWorks_2 : decode cX2_mixWorks 2 = .ok (.iconst 0, 1) := by decide +kernel
theorem dX2_mixWorks_3 : decode cX2_mixWorks 3 = .ok (.istore 5, 2) := by decide +kernel
theorem dX2_mixWorks_5 : decode cX2_mixWorks 5 = .ok (.iload 5, 2) := by decide +kernel
theorem dX2_mixWorks_7 : decode cX2_mixWorks 7 = .ok (.bipush 10, 2) := by decide +kernel
theorem dX2_mixWorks_9 : decode cX2_mixWorks 9 = .ok (.if_icmp .ge 33, 3) := by decide +kernel
theorem dX2_mixWorks_12 : decode cX2_mixWorks 12 = .ok (.lload_n 3, 1) := by decide +kernel
theorem dX2_mixWorks_13 : decode cX2_mixWorks 13 = .ok (.aload_n 0, 1) := by decide +kernel
theorem dX2_mixWorks_14 : decode cX2_mixWorks 14 = .ok (.getfield 9, 3) := by decide +kernel
theorem dX2_mixWorks_17 : decode cX2_mixWorks 17 = .ok (.iload 5, 2) := by decide +kernel
theorem dX2_mixWorks_19 : decode cX2_mixWorks 19 = .ok (.iaload, 1) := by decide +kernel
theorem dX2_mixWorks_20 : decode cX2_mixWorks 20 = .ok (.invokestatic 66, 3) := by decide +kernel
theorem dX2_mixWorks_23 : decode cX2_mixWorks 23 = .ok (.lstore_n 3, 1) := by decide +kernel
theorem dX2_mixWorks_24 : decode cX2_mixWorks 24 = .ok (.lload_n 3, 1) := by decide +kernel
theorem dX2_mixWorks_25 : decode cX2_mixWorks 25 = .ok (.aload_n 0, 1) := by decide +kernel
theorem dX2_mixWorks_26 : decode cX2_mixWorks 26 = .ok (.getfield 15, 3) := by decide +kernel
theorem dX2_mixWorks_29 : decode cX2_mixWorks 29 = .ok (.iload 5, 2) := by decide +kernel
theorem dX2_mixWorks_31 : decode cX2_mixWorks 31 = .ok (.iaload, 1) := by decide +kernel
theorem dX2_mixWorks_32 : decode cX2_mixWorks 32 = .ok (.invokestatic 66, 3) := by decide +kernel
theorem dX2_mixWorks_35 : decode cX2_mixWorks 35 = .ok (.lstore_n 3, 1) := by decide +kernel
theorem dX2_mixWorks_36 : decode cX2_mixWorks 36 = .ok (.iinc 5 1, 3) := by decide +kernel
theorem dX2_mixWorks_39 : decode cX2_mixWorks 39 = .ok (.goto (-34), 3) := by decide +kernel
theorem dX2_mixWorks_42 : decode cX2_mixWorks 42 = .ok (.lload_n 3, 1) := by decide +kernel
theorem dX2_mixWorks_43 : decode cX2_mixWorks 43 = .ok (.lreturn, 1) := by decide +kernel
set_option maxRecDepth 20000 in
theorem ggX2_mixParts_X5_mix : GoodIn wsX2_mixParts wsX5_mix := goodIn_r _ [4, 5] (by decide +kernel) (by decide +kernel)
set_option maxRecDepth 20000 in
theorem gX2_mixParts_X5_mix_n66 : GoodIn wsX2_mixParts (wsX5_mix) := ggX2_mixParts_X5_mix
set_option maxRecDepth 20000 in
theorem ggX2_mixParts_X2_worksOf : GoodIn wsX2_mixParts wsX2_worksOf := goodIn_r _ [10, 11, 12, 13, 14, 15, 16] (by decide +kernel) (by decide +kernel)
set_option maxRecDepth 20000 in
theorem gX2_mixParts_X2_worksOf : GoodIn wsX2_mixParts (wsV RX2 42 RX2 yX2_worksOf wsX2_worksOf) := goodIn_app (goodIn_of _ (by decide +kernel)) ggX2_mixParts_X2_worksOf
theorem dX2_mixParts_0 : decode cX2_mixParts 0 = .ok (.lload_n 1, 1) := by decide +kernel
theorem dX2_mixParts_1 : decode cX2_mixParts 1 = .ok (.aload_n 0, 1) := by decide +kernel
theorem dX2_mixParts_2 : decode cX2_mixParts 2 = .ok (.getfield 18, 3) := by decide +kernel
theorem dX2_mixParts_5 : decode cX2_mixParts 5 = .ok (.iload_n 3, 1) := by decide +kernel
theorem dX2_mixParts_6 : decode cX2_mixParts 6 = .ok (.iaload, 1) := by decide +kernel
theorem dX2_mixParts_7 : decode cX2_mixParts 7 = .ok (.invokestatic 66, 3) := by decide +kernel
theorem dX2_mixParts_10 : decode cX2_mixParts 10 = .ok (.lstore 4, 2) := by decide +kernel
theorem dX2_mixParts_12 : decode cX2_mixParts 12 = .ok (.iconst 0, 1) := by decide +kernel
theorem dX2_mixParts_13 : decode cX2_mixParts 13 = .ok (.istore 6, 2) := by decide +kernel
theorem dX2_mixParts_15 : decode cX2_mixParts 15 = .ok (.iload 6, 2) := by decide +kernel
theorem dX2_mixParts_17 : decode cX2_mixParts 17 = .ok (.aload_n 0, 1) := by decide +kernel
theorem dX2_mixParts_18 : decode cX2_mixParts 18 = .ok (.getfield 18, 3) := by decide +kernel
theorem dX2_mixParts_21 : decode cX2_mixParts 21 = .ok (.iload_n 3, 1) := by decide +kernel
theorem dX2_mixParts_22 : decode cX2_mixParts 22 = .ok (.iaload, 1) := by decide +kernel
theorem dX2_mixParts_23 : decode cX2_mixParts 23 = .ok (.if_icmp .ge 23, 3) := by decide +kernel
theorem dX2_mixParts_26 : decode cX2_mixParts 26 = .ok (.lload 4, 2) := by decide +kernel
theorem dX2_mixParts_28 : decode cX2_mixParts 28 = .ok (.aload_n 0, 1) := by decide +kernel
theorem dX2_mixParts_29 : decode cX2_mixParts 29 = .ok (.iload_n 3, 1) := by decide +kernel
theorem dX2_mixParts_30 : decode cX2_mixParts 30 = .ok (.iload 6, 2) := by decide +kernel
theorem dX2_mixParts_32 : decode cX2_mixParts 32 = .ok (.invokevirtual 42, 3) := by decide +kernel
theorem dX2_mixParts_35 : decode cX2_mixParts 35 = .ok (.invokestatic 66, 3) := by decide +kernel
theorem dX2_mixParts_38 : decode cX2_mixParts 38 = .ok (.lstore 4, 2) := by decide +kernel
theorem dX2_mixParts_40 : decode cX2_mixParts 40 = .ok (.iinc 6 1, 3) := by decide +kernel
theorem dX2_mixParts_43 : decode cX2_mixParts 43 = .ok (.goto (-28), 3) := by decide +kernel
theorem dX2_mixParts_46 : decode cX2_mixParts 46 = .ok (.lload 4, 2) := by decide +kernel
theorem dX2_mixParts_48 : decode cX2_mixParts 48 = .ok (.lreturn, 1) := by decide +kernel
theorem dX3_init_0 : decode cX3_init 0 = .ok (.aload_n 0, 1) := by decide +kernel
theorem dX3_init_1 : decode cX3_init 1 = .ok (.invokespecial 3, 3) := by decide +kernel
theorem dX3_init_4 : decode cX3_init 4 = .ok (.aload_n 0, 1) := by decide +kernel
theorem dX3_init_5 : decode cX3_init 5 = .ok (.bipush 10, 2) := by decide +kernel
theorem dX3_init_7 : decode cX3_init 7 = .ok (.newarray .int, 2) := by decide +kernel
theorem dX3_init_9 : decode cX3_init 9 = .ok (.putfield 9, 3) := by decide +kernel
theorem dX3_init_12 : decode cX3_init 12 = .ok (.aload_n 0, 1) := by decide +kernel
theorem dX3_init_13 : decode cX3_init 13 = .ok (.bipush 12, 2) := by decide +kernel
theorem dX3_init_15 : decode cX3_init 15 = .ok (.newarray .int, 2) := by decide +kernel
theorem dX3_init_17 : decode cX3_init 17 = .ok (.putfield 15, 3) := by decide +kernel
theorem dX3_init_20 : decode cX3_init 20 = .ok (.aload_n 0, 1) := by decide +kernel
theorem dX3_init_21 : decode cX3_init 21 = .ok (.bipush 12, 2) := by decide +kernel
theorem dX3_init_23 : decode cX3_init 23 = .ok (.newarray .int, 2) := by decide +kernel
theorem dX3_init_25 : decode cX3_init 25 = .ok (.putfield 18, 3) := by decide +kernel
theorem dX3_init_28 : decode cX3_init 28 = .ok (.aload_n 0, 1) := by decide +kernel
theorem dX3_init_29 : decode cX3_init 29 = .ok (.bipush 64, 2) := by decide +kernel
theorem dX3_init_31 : decode cX3_init 31 = .ok (.newarray .int, 2) := by decide +kernel
theorem dX3_init_33 : decode cX3_init 33 = .ok (.putfield 21, 3) := by decide +kernel
theorem dX3_init_36 : decode cX3_init 36 = .ok (.aload_n 0, 1) := by decide +kernel
theorem dX3_init_37 : decode cX3_init 37 = .ok (.bipush 6, 2) := by decide +kernel
theorem dX3_init_39 : decode cX3_init 39 = .ok (.newarray .int, 2) := by decide +kernel
theorem dX3_init_41 : decode cX3_init 41 = .ok (.putfield 24, 3) := by decide +kernel
theorem dX3_init_44 : decode cX3_init 44 = .ok (.aload_n 0, 1) := by decide +kernel
theorem dX3_init_45 : decode cX3_init 45 = .ok (.iconst 0, 1) := by decide +kernel
theorem dX3_init_46 : decode cX3_init 46 = .ok (.putfield 27, 3) := by decide +kernel
theorem dX3_init_49 : decode cX3_init 49 = .ok (.return_, 1) := by decide +kernel
theorem dX3_addEntry_0 : decode cX3_addEntry 0 = .ok (.aload_n 0, 1) := by decide +kernel
theorem dX3_addEntry_1 : decode cX3_addEntry 1 = .ok (.getfield 27, 3) := by decide +kernel
theorem dX3_addEntry_4 : decode cX3_addEntry 4 = .ok (.bipush 10, 2) := by decide +kernel
theorem dX3_addEntry_6 : decode cX3_addEntry 6 = .ok (.if_icmp .lt 6, 3) := by decide +kernel
theorem dX3_addEntry_9 : decode cX3_addEntry 9 = .ok (.bipush (-4), 2) := by decide +kernel
theorem dX3_addEntry_11 : decode cX3_addEntry 11 = .ok (.ireturn, 1) := by decide +kernel
theorem dX3_addEntry_12 : decode cX3_addEntry 12 = .ok (.aload_n 0, 1) := by decide +kernel
theorem dX3_addEntry_13 : decode cX3_addEntry 13 = .ok (.getfield 9, 3) := by decide +kernel
theorem dX3_addEntry_16 : decode cX3_addEntry 16 = .ok (.aload_n 0, 1) := by decide +kernel
theorem dX3_addEntry_17 : decode cX3_addEntry 17 = .ok (.getfield 27, 3) := by decide +kernel
theorem dX3_addEntry_20 : decode cX3_addEntry 20 = .ok (.iload_n 1, 1) := by decide +kernel
theorem dX3_addEntry_21 : decode cX3_addEntry 21 = .ok (.iastore, 1) := by decide +kernel
theorem dX3_addEntry_22 : decode cX3_addEntry 22 = .ok (.aload_n 0, 1) := by decide +kernel
theorem dX3_addEntry_23 : decode cX3_addEntry 23 = .ok (.dup, 1) := by decide +kernel
theorem dX3_addEntry_24 : decode cX3_addEntry 24 = .ok (.getfield 27, 3) := by decide +kernel
theorem dX3_addEntry_27 : decode cX3_addEntry 27 = .ok (.iconst 1, 1) := by decide +kernel
theorem dX3_addEntry_28 : decode cX3_addEntry 28 = .ok (.iadd, 1) := by decide +kernel
theorem dX3_addEntry_29 : decode cX3_addEntry 29 = .ok (.putfield 27, 3) := by decide +kernel
theorem dX3_addEntry_32 : decode cX3_addEntry 32 = .ok (.aload_n 0, 1) := by decide +kernel
theorem dX3_addEntry_33 : decode cX3_addEntry 33 = .ok (.getfield 27, 3) := by decide +kernel
theorem dX3_addEntry_36 : decode cX3_addEntry 36 = .ok (.iconst 1, 1) := by decide +kernel
theorem dX3_addEntry_37 : decode cX3_addEntry 37 = .ok (.isub, 1) := by decide +kernel
theorem dX3_addEntry_38 : decode cX3_addEntry 38 = .ok (.ireturn, 1) := by decide +kernel
theorem dX3_entryCount_0 : decode cX3_entryCount 0 = .ok (.aload_n 0, 1) := by decide +kernel
theorem dX3_entryCount_1 : decode cX3_entryCount 1 = .ok (.getfield 27, 3) := by decide +kernel
theorem dX3_entryCount_4 : decode cX3_entryCount 4 = .ok (.ireturn, 1) := by decide +kernel
set_option maxRecDepth 20000 in
theorem ggX3_hasEntry_X5_within : GoodIn wsX3_hasEntry wsX5_within := goodIn_r _ [4] (by decide +kernel) (by decide +kernel)
set_option maxRecDepth 20000 in
theorem gX3_hasEntry_X5_within_n31 : GoodIn wsX3_hasEntry (wsX5_within) := ggX3_hasEntry_X5_within
theorem dX3_hasEntry_0 : decode cX3_hasEntry 0 = .ok (.iload_n 1, 1) := by decide +kernel
theorem dX3_hasEntry_1 : decode cX3_hasEntry 1 = .ok (.iconst 0, 1) := by decide +kernel
theorem dX3_hasEntry_2 : decode cX3_hasEntry 2 = .ok (.aload_n 0, 1) := by decide +kernel
theorem dX3_hasEntry_3 : decode cX3_hasEntry 3 = .ok (.getfield 27, 3) := by decide +kernel
theorem dX3_hasEntry_6 : decode cX3_hasEntry 6 = .ok (.iconst 1, 1) := by decide +kernel
theorem dX3_hasEntry_7 : decode cX3_hasEntry 7 = .ok (.isub, 1) := by decide +kernel
theorem dX3_hasEntry_8 : decode cX3_hasEntry 8 = .ok (.invokestatic 31, 3) := by decide +kernel
theorem dX3_hasEntry_11 : decode cX3_hasEntry 11 = .ok (.ireturn, 1) := by decide +kernel
theorem dX3_changeMark_0 : decode cX3_changeMark 0 = .ok (.iconst 1, 1) := by decide +kernel
theorem dX3_changeMark_1 : decode cX3_changeMark 1 = .ok (.iload_n 2, 1) := by decide +kernel
theorem dX3_changeMark_2 : decode cX3_changeMark 2 = .ok (.ishl, 1) := by decide +kernel
theorem dX3_changeMark_3 : decode cX3_changeMark 3 = .ok (.istore 4, 2) := by decide +kernel
theorem dX3_changeMark_5 : decode cX3_changeMark 5 = .ok (.aload_n 0, 1) := by decide +kernel
theorem dX3_changeMark_6 : decode cX3_changeMark 6 = .ok (.getfield 15, 3) := by decide +kernel
theorem dX3_changeMark_9 : decode cX3_changeMark 9 = .ok (.iload_n 1, 1) := by decide +kernel
theorem dX3_changeMark_10 : decode cX3_changeMark 10 = .ok (.iaload, 1) := by decide +kernel
theorem dX3_changeMark_11 : decode cX3_changeMark 11 = .ok (.iload 4, 2) := by decide +kernel
theorem dX3_changeMark_13 : decode cX3_changeMark 13 = .ok (.iand, 1) := by decide +kernel
theorem dX3_changeMark_14 : decode cX3_changeMark 14 = .ok (.ifCond .eq 7, 3) := by decide +kernel
theorem dX3_changeMark_17 : decode cX3_changeMark 17 = .ok (.iconst 1, 1) := by decide +kernel
theorem dX3_changeMark_18 : decode cX3_changeMark 18 = .ok (.goto 20, 3) := by decide +kernel
theorem dX3_changeMark_21 : decode cX3_changeMark 21 = .ok (.aload_n 0, 1) := by decide +kernel
theorem dX3_changeMark_22 : decode cX3_changeMark 22 = .ok (.getfield 18, 3) := by decide +kernel
theorem dX3_changeMark_25 : decode cX3_changeMark 25 = .ok (.iload_n 1, 1) := by decide +kernel
theorem dX3_changeMark_26 : decode cX3_changeMark 26 = .ok (.iaload, 1) := by decide +kernel
theorem dX3_changeMark_27 : decode cX3_changeMark 27 = .ok (.iload 4, 2) := by decide +kernel
theorem dX3_changeMark_29 : decode cX3_changeMark 29 = .ok (.iand, 1) := by decide +kernel
theorem dX3_changeMark_30 : decode cX3_changeMark 30 = .ok (.ifCond .eq 7, 3) := by decide +kernel
theorem dX3_changeMark_33 : decode cX3_changeMark 33 = .ok (.iconst 2, 1) := by decide +kernel
theorem dX3_changeMark_34 : decode cX3_changeMark 34 = .ok (.goto 4, 3) := by decide +kernel
theorem dX3_changeMark_37 : decode cX3_changeMark 37 = .ok (.iconst 0, 1) := by decide +kernel
theorem dX3_changeMark_38 : decode cX3_changeMark 38 = .ok (.istore 5, 2) := by decide +kernel
theorem dX3_changeMark_40 : decode cX3_changeMark 40 = .ok (.aload_n 0, 1) := by decide +kernel
theorem dX3_changeMark_41 : decode cX3_changeMark 41 = .ok (.getfield 15, 3) := by decide +kernel
theorem dX3_changeMark_44 : decode cX3_changeMark 44 = .ok (.iload_n 1, 1) := by decide +kernel
theorem dX3_changeMark_45 : decode cX3_changeMark 45 = .ok (.iload_n 3, 1) := by decide +kernel
theorem dX3_changeMark_46 : decode cX3_changeMark 46 = .ok (.iconst 1, 1) := by decide +kernel
theorem dX3_changeMark_47 : decode cX3_changeMark 47 = .ok (.if_icmp .ne 15, 3) := by decide +kernel
theorem dX3_changeMark_50 : decode cX3_changeMark 50 = .ok (.aload_n 0, 1) := by decide +kernel
theorem dX3_changeMark_51 : decode cX3_changeMark 51 = .ok (.getfield 15, 3) := by decide +kernel
theorem dX3_changeMark_54 : decode cX3_changeMark 54 = .ok (.iload_n 1, 1) := by decide +kernel
theorem dX3_changeMark_55 : decode cX3_changeMark 55 = .ok (.iaload, 1) := by decide +kernel
theorem dX3_changeMark_56 : decode cX3_changeMark 56 = .ok (.iload 4, 2) := by decide +kernel
theorem dX3_changeMark_58 : decode cX3_changeMark 58 = .ok (.ior, 1) := by decide +kernel
theorem dX3_changeMark_59 : decode cX3_changeMark 59 = .ok (.goto 14, 3) := by decide +kernel
theorem dX3_changeMark_62 : decode cX3_changeMark 62 = .ok (.aload_n 0, 1) := by decide +kernel
theorem dX3_changeMark_63 : decode cX3_changeMark 63 = .ok (.getfield 15, 3) := by decide +kernel
theorem dX3_changeMark_66 : decode cX3_changeMark 66 = .ok (.iload_n 1, 1) := by decide +kernel
theorem dX3_changeMark_67 : decode cX3_changeMark 67 = .ok (.iaload, 1) := by decide +kernel
theorem dX3_changeMark_68 : decode cX3_changeMark 68 = .ok (.iload 4, 2) := by decide +kernel
theorem dX3_changeMark_70 : decode cX3_changeMark 70 = .ok (.iconst (-1), 1) := by decide +kernel
theorem dX3_changeMark_71 : decode cX3_changeMark 71 = .ok (.ixor, 1) := by decide +kernel
theorem dX3_changeMark_72 : decode cX3_changeMark 72 = .ok (.iand, 1) := by decide +kernel
theorem dX3_changeMark_73 : decode cX3_changeMark 73 = .ok (.iastore, 1) := by decide +kernel
theorem dX3_changeMark_74 : decode cX3_changeMark 74 = .ok (.aload_n 0, 1) := by decide +kernel
theorem dX3_changeMark_75 : decode cX3_changeMark 75 = .ok (.getfield 18, 3) := by decide +kernel
theorem dX3_changeMark_78 : decode cX3_changeMark 78 = .ok (.iload_n 1, 1) := by decide +kernel
theorem dX3_changeMark_79 : decode cX3_changeMark 79 = .ok (.iload_n 3, 1) := by decide +kernel
theorem dX3_changeMark_80 : decode cX3_changeMark 80 = .ok (.iconst 2, 1) := by decide +kernel
theorem dX3_changeMark_81 : decode cX3_changeMark 81 = .ok (.if_icmp .ne 15, 3) := by decide +kernel
theorem dX3_changeMark_84 : decode cX3_changeMark 84 = .ok (.aload_n 0, 1) := by decide +kernel
theorem dX3_changeMark_85 : decode cX3_changeMark 85 = .ok (.getfield 18, 3) := by decide +kernel
theorem dX3_changeMark_88 : decode cX3_changeMark 88 = .ok (.iload_n 1, 1) := by decide +kernel
theorem dX3_changeMark_89 : decode cX3_changeMark 89 = .ok (.iaload, 1) := by decide +kernel
theorem dX3_changeMark_90 : decode cX3_changeMark 90 = .ok (.iload 4, 2) := by decide +kernel
theorem dX3_changeMark_92 : decode cX3_changeMark 92 = .ok (.ior, 1) := by decide +kernel
theorem dX3_changeMark_93 : decode cX3_changeMark 93 = .ok (.goto 14, 3) := by decide +kernel
theorem dX3_changeMark_96 : decode cX3_changeMark 96 = .ok (.aload_n 0, 1) := by decide +kernel
theorem dX3_changeMark_97 : decode cX3_changeMark 97 = .ok (.getfield 18, 3) := by decide +kernel
theorem dX3_changeMark_100 : decode cX3_changeMark 100 = .ok (.iload_n 1, 1) := by decide +kernel
theorem dX3_changeMark_101 : decode cX3_changeMark 101 = .ok (.iaload, 1) := by decide +kernel
theorem dX3_changeMark_102 : decode cX3_changeMark 102 = .ok (.iload 4, 2) := by decide +kernel
theorem dX3_changeMark_104 : decode cX3_changeMark 104 = .ok (.iconst (-1), 1) := by decide +kernel
theorem dX3_changeMark_105 : decode cX3_changeMark 105 = .ok (.ixor, 1) := by decide +kernel
theorem dX3_changeMark_106 : decode cX3_changeMark 106 = .ok (.iand, 1) := by decide +kernel
theorem dX3_changeMark_107 : decode cX3_changeMark 107 = .ok (.iastore, 1) := by decide +kernel
theorem dX3_changeMark_108 : decode cX3_changeMark 108 = .ok (.iload 5, 2) := by decide +kernel
theorem dX3_changeMark_110 : decode cX3_changeMark 110 = .ok (.ireturn, 1) := by decide +kernel
set_option maxRecDepth 20000 in
theorem ggX3_scoreOf_J6_bitCount_0f7a4 : GoodIn wsX3_scoreOf wsJ6_bitCount_0f7a4 := goodIn_r _ [7, 8, 9, 10] (by decide +kernel) (by decide +kernel)
set_option maxRecDepth 20000 in
theorem gX3_scoreOf_J6_bitCount_0f7a4 : GoodIn wsX3_scoreOf (va_wsS RX3 35 yJ6_bitCount_0f7a4 wsJ6_bitCount_0f7a4) := goodIn_app (goodIn_of _ (by decide +kernel)) ggX3_scoreOf_J6_bitCount_0f7a4
theorem dX3_scoreOf_0 : decode cX3_scoreOf 0 = .ok (.aload_n 0, 1) := by decide +kernel
theorem dX3_scoreOf_1 : decode cX3_scoreOf 1 = .ok (.getfield 9, 3) := by decide +kernel
theorem dX3_scoreOf_4 : decode cX3_scoreOf 4 = .ok (.iload_n 1, 1) := by decide +kernel
theorem dX3_scoreOf_5 : decode cX3_scoreOf 5 = .ok (.iaload, 1) := by decide +kernel
theorem dX3_scoreOf_6 : decode cX3_scoreOf 6 = .ok (.istore_n 3, 1) := by decide +kernel
theorem dX3_scoreOf_7 : decode cX3_scoreOf 7 = .ok (.iconst 2, 1) := by decide +kernel
theorem dX3_scoreOf_8 : decode cX3_scoreOf 8 = .ok (.iload_n 3, 1) := by decide +kernel
theorem dX3_scoreOf_9 : decode cX3_scoreOf 9 = .ok (.aload_n 0, 1) := by decide +kernel
theorem dX3_scoreOf_10 : decode cX3_scoreOf 10 = .ok (.getfield 15, 3) := by decide +kernel
theorem dX3_scoreOf_13 : decode cX3_scoreOf 13 = .ok (.iload_n 2, 1) := by decide +kernel
theorem dX3_scoreOf_14 : decode cX3_scoreOf 14 = .ok (.iaload, 1) := by decide +kernel
theorem dX3_scoreOf_15 : decode cX3_scoreOf 15 = .ok (.iand, 1) := by decide +kernel
theorem dX3_scoreOf_16 : decode cX3_scoreOf 16 = .ok (.invokestatic 35, 3) := by decide +kernel
theorem dX3_scoreOf_19 : decode cX3_scoreOf 19 = .ok (.imul, 1) := by decide +kernel
theorem dX3_scoreOf_20 : decode cX3_scoreOf 20 = .ok (.iconst 3, 1) := by decide +kernel
theorem dX3_scoreOf_21 : decode cX3_scoreOf 21 = .ok (.iload_n 3, 1) := by decide +kernel
theorem dX3_scoreOf_22 : decode cX3_scoreOf 22 = .ok (.aload_n 0, 1) := by decide +kernel
theorem dX3_scoreOf_23 : decode cX3_scoreOf 23 = .ok (.getfield 18, 3) := by decide +kernel
theorem dX3_scoreOf_26 : decode cX3_scoreOf 26 = .ok (.iload_n 2, 1) := by decide +kernel
theorem dX3_scoreOf_27 : decode cX3_scoreOf 27 = .ok (.iaload, 1) := by decide +kernel
theorem dX3_scoreOf_28 : decode cX3_scoreOf 28 = .ok (.iand, 1) := by decide +kernel
theorem dX3_scoreOf_29 : decode cX3_scoreOf 29 = .ok (.invokestatic 35, 3) := by decide +kernel
theorem dX3_scoreOf_32 : decode cX3_scoreOf 32 = .ok (.imul, 1) := by decide +kernel
theorem dX3_scoreOf_33 : decode cX3_scoreOf 33 = .ok (.isub, 1) := by decide +kernel
theorem dX3_scoreOf_34 : decode cX3_scoreOf 34 = .ok (.aload_n 0, 1) := by decide +kernel
theorem dX3_scoreOf_35 : decode cX3_scoreOf 35 = .ok (.getfield 15, 3) := by decide +kernel
theorem dX3_scoreOf_38 : decode cX3_scoreOf 38 = .ok (.iload_n 2, 1) := by decide +kernel
theorem dX3_scoreOf_39 : decode cX3_scoreOf 39 = .ok (.iaload, 1) := by decide +kernel
theorem dX3_scoreOf_40 : decode cX3_scoreOf 40 = .ok (.iload_n 3, 1) := by decide +kernel
theorem dX3_scoreOf_41 : decode cX3_scoreOf 41 = .ok (.iconst (-1), 1) := by decide +kernel
theorem dX3_scoreOf_42 : decode cX3_scoreOf 42 = .ok (.ixor, 1) := by decide +kernel
theorem dX3_scoreOf_43 : decode cX3_scoreOf 43 = .ok (.iand, 1) := by decide +kernel
theorem dX3_scoreOf_44 : decode cX3_scoreOf 44 = .ok (.invokestatic 35, 3) := by decide +kernel
theorem dX3_scoreOf_47 : decode cX3_scoreOf 47 = .ok (.isub, 1) := by decide +kernel
theorem dX3_scoreOf_48 : decode cX3_scoreOf 48 = .ok (.ireturn, 1) := by decide +kernel
theorem dX3_isJoinable_0 : decode cX3_isJoinable 0 = .ok (.aload_n 0, 1) := by decide +kernel
theorem dX3_isJoinable_1 : decode cX3_isJoinable 1 = .ok (.getfield 27, 3) := by decide +kernel
theorem dX3_isJoinable_4 : decode cX3_isJoinable 4 = .ok (.bipush 6, 2) := by decide +kernel
theorem dX3_isJoinable_6 : decode cX3_isJoinable 6 = .ok (.if_icmp .gt 7, 3) := by decide +kernel
theorem dX3_isJoinable_9 : decode cX3_isJoinable 9 = .ok (.iconst 1, 1) := by decide +kernel
theorem dX3_isJoinable_10 : decode cX3_isJoinable 10 = .ok (.goto 4, 3) := by decide +kernel
theorem dX3_isJoinable_13 : decode cX3_isJoinable 13 = .ok (.iconst 0, 1) := by decide +kernel
theorem dX3_isJoinable_14 : decode cX3_isJoinable 14 = .ok (.ireturn, 1) := by decide +kernel
set_option maxRecDepth 20000 in
theorem ggX3_bestJoin_J7_fill_53178 : GoodIn wsX3_bestJoin wsJ7_fill_53178 := goodIn_r _ [10] (by decide +kernel) (by decide +kernel)
set_option maxRecDepth 20000 in
theorem gX3_bestJoin_J7_fill_53178 : GoodIn wsX3_bestJoin (va_wsS RX3 47 yJ7_fill_53178 wsJ7_fill_53178) := goodIn_app (goodIn_of _ (by decide +kernel)) ggX3_bestJoin_J7_fill_53178
set_option maxRecDepth 20000 in
theorem ggX3_bestJoin_X3_weigh : GoodIn wsX3_bestJoin wsX3_weigh := goodIn_r _ [15, 16, 17, 18, 19, 20, 21, 14, 22, 1, 23, 24, 25, 26, 27, 28, 29, 30, 31, 32, 33, 34, 35, 36, 37, 38, 39, 47, 48, 49, 50, 51, 52] (by decide +kernel) (by decide +kernel)
set_option maxRecDepth 20000 in
theorem gX3_bestJoin_X3_weigh : GoodIn wsX3_bestJoin (wsV RX3 53 RX3 yX3_weigh wsX3_weigh) := goodIn_app (goodIn_of _ (by decide +kernel)) ggX3_bestJoin_X3_weigh
set_option maxRecDepth 20000 in
theorem ggX3_bestJoin_X3_bestWithThing : GoodIn wsX3_bestJoin wsX3_bestWithThing := goodIn_r _ [43, 6, 16, 44, 45, 4, 46, 47, 48, 49, 50, 51, 52] (by decide +kernel) (by decide +kernel)
set_option maxRecDepth 20000 in
theorem gX3_bestJoin_X3_bestWithThing : GoodIn wsX3_bestJoin (wsV RX3 57 RX3 yX3_bestWithThing wsX3_bestWithThing) := goodIn_app (goodIn_of _ (by decide +kernel)) ggX3_bestJoin_X3_bestWithThing
theorem dX3_bestJoin_0 : decode cX3_bestJoin 0 = .ok (.iconst 1, 1) := by decide +kernel
theorem dX3_bestJoin_1 : decode cX3_bestJoin 1 = .ok (.aload_n 0, 1) := by decide +kernel
theorem dX3_bestJoin_2 : decode cX3_bestJoin 2 = .ok (.getfield 27, 3) := by decide +kernel
theorem dX3_bestJoin_5 : decode cX3_bestJoin 5 = .ok (.bipush 6, 2) := by decide +kernel
theorem dX3_bestJoin_7 : decode cX3_bestJoin 7 = .ok (.invokestatic 41, 3) := by decide +kernel
theorem dX3_bestJoin_10 : decode cX3_bestJoin 10 = .ok (.ishl, 1) := by decide +kernel
theorem dX3_bestJoin_11 : decode cX3_bestJoin 11 = .ok (.istore_n 2, 1) := by decide +kernel
theorem dX3_bestJoin_12 : decode cX3_bestJoin 12 = .ok (.aload_n 0, 1) := by decide +kernel
theorem dX3_bestJoin_13 : decode cX3_bestJoin 13 = .ok (.getfield 21, 3) := by decide +kernel
theorem dX3_bestJoin_16 : decode cX3_bestJoin 16 = .ok (.iconst 0, 1) := by decide +kernel
theorem dX3_bestJoin_17 : decode cX3_bestJoin 17 = .ok (.invokestatic 47, 3) := by decide +kernel
theorem dX3_bestJoin_20 : decode cX3_bestJoin 20 = .ok (.iconst 0, 1) := by decide +kernel
theorem dX3_bestJoin_21 : decode cX3_bestJoin 21 = .ok (.istore_n 3, 1) := by decide +kernel
theorem dX3_bestJoin_22 : decode cX3_bestJoin 22 = .ok (.iload_n 3, 1) := by decide +kernel
theorem dX3_bestJoin_23 : decode cX3_bestJoin 23 = .ok (.iload_n 1, 1) := by decide +kernel
theorem dX3_bestJoin_24 : decode cX3_bestJoin 24 = .ok (.if_icmp .ge 43, 3) := by decide +kernel
theorem dX3_bestJoin_27 : decode cX3_bestJoin 27 = .ok (.aload_n 0, 1) := by decide +kernel
theorem dX3_bestJoin_28 : decode cX3_bestJoin 28 = .ok (.iload_n 3, 1) := by decide +kernel
theorem dX3_bestJoin_29 : decode cX3_bestJoin 29 = .ok (.invokevirtual 53, 3) := by decide +kernel
theorem dX3_bestJoin_32 : decode cX3_bestJoin 32 = .ok (.iload_n 2, 1) := by decide +kernel
theorem dX3_bestJoin_33 : decode cX3_bestJoin 33 = .ok (.iconst 1, 1) := by decide +kernel
theorem dX3_bestJoin_34 : decode cX3_bestJoin 34 = .ok (.isub, 1) := by decide +kernel
theorem dX3_bestJoin_35 : decode cX3_bestJoin 35 = .ok (.istore 4, 2) := by decide +kernel
theorem dX3_bestJoin_37 : decode cX3_bestJoin 37 = .ok (.iload 4, 2) := by decide +kernel
theorem dX3_bestJoin_39 : decode cX3_bestJoin 39 = .ok (.ifCond .le 22, 3) := by decide +kernel
theorem dX3_bestJoin_42 : decode cX3_bestJoin 42 = .ok (.aload_n 0, 1) := by decide +kernel
theorem dX3_bestJoin_43 : decode cX3_bestJoin 43 = .ok (.getfield 21, 3) := by decide +kernel
theorem dX3_bestJoin_46 : decode cX3_bestJoin 46 = .ok (.iload 4, 2) := by decide +kernel
theorem dX3_bestJoin_48 : decode cX3_bestJoin 48 = .ok (.aload_n 0, 1) := by decide +kernel
theorem dX3_bestJoin_49 : decode cX3_bestJoin 49 = .ok (.iload 4, 2) := by decide +kernel
theorem dX3_bestJoin_51 : decode cX3_bestJoin 51 = .ok (.invokevirtual 57, 3) := by decide +kernel
theorem dX3_bestJoin_54 : decode cX3_bestJoin 54 = .ok (.iastore, 1) := by decide +kernel
theorem dX3_bestJoin_55 : decode cX3_bestJoin 55 = .ok (.iinc 4 (-1), 3) := by decide +kernel
theorem dX3_bestJoin_58 : decode cX3_bestJoin 58 = .ok (.goto (-21), 3) := by decide +kernel
theorem dX3_bestJoin_61 : decode cX3_bestJoin 61 = .ok (.iinc 3 1, 3) := by decide +kernel
theorem dX3_bestJoin_64 : decode cX3_bestJoin 64 = .ok (.goto (-42), 3) := by decide +kernel
theorem dX3_bestJoin_67 : decode cX3_bestJoin 67 = .ok (.aload_n 0, 1) := by decide +kernel
theorem dX3_bestJoin_68 : decode cX3_bestJoin 68 = .ok (.getfield 21, 3) := by decide +kernel
theorem dX3_bestJoin_71 : decode cX3_bestJoin 71 = .ok (.iload_n 2, 1) := by decide +kernel
theorem dX3_bestJoin_72 : decode cX3_bestJoin 72 = .ok (.iconst 1, 1) := by decide +kernel
theorem dX3_bestJoin_73 : decode cX3_bestJoin 73 = .ok (.isub, 1) := by decide +kernel
theorem dX3_bestJoin_74 : decode cX3_bestJoin 74 = .ok (.iaload, 1) := by decide +kernel
theorem dX3_bestJoin_75 : decode cX3_bestJoin 75 = .ok (.ireturn, 1) := by decide +kernel
set_option maxRecDepth 20000 in
theorem ggX3_weigh_X3_hasEntry : GoodIn wsX3_weigh wsX3_hasEntry := goodIn_r _ [8, 9, 10, 11, 12, 27, 28, 29, 30, 31, 32] (by decide +kernel) (by decide +kernel)
set_option maxRecDepth 20000 in
theorem gX3_weigh_X3_hasEntry : GoodIn wsX3_weigh (wsV RX3 60 RX3 yX3_hasEntry wsX3_hasEntry) := goodIn_app (goodIn_of _ (by decide +kernel)) ggX3_weigh_X3_hasEntry
set_option maxRecDepth 20000 in
theorem ggX3_weigh_X3_scoreOf : GoodIn wsX3_weigh wsX3_scoreOf := goodIn_r _ [16, 17, 18, 19, 20, 21, 22, 23, 24, 25, 26, 27, 28, 29, 30, 31, 32] (by decide +kernel) (by decide +kernel)
set_option maxRecDepth 20000 in
theorem gX3_weigh_X3_scoreOf : GoodIn wsX3_weigh (wsV RX3 64 RX3 yX3_scoreOf wsX3_scoreOf) := goodIn_app (goodIn_of _ (by decide +kernel)) ggX3_weigh_X3_scoreOf
theorem dX3_weigh_0 : decode cX3_weigh 0 = .ok (.iconst 0, 1) := by decide +kernel
theorem dX3_weigh_1 : decode cX3_weigh 1 = .ok (.istore_n 2, 1) := by decide +kernel
theorem dX3_weigh_2 : decode cX3_weigh 2 = .ok (.iload_n 2, 1) := by decide +kernel
theorem dX3_weigh_3 : decode cX3_weigh 3 = .ok (.bipush 6, 2) := by decide +kernel
theorem dX3_weigh_5 : decode cX3_weigh 5 = .ok (.if_icmp .ge 57, 3) := by decide +kernel
theorem dX3_weigh_8 : decode cX3_weigh 8 = .ok (.aload_n 0, 1) := by decide +kernel
theorem dX3_weigh_9 : decode cX3_weigh 9 = .ok (.iload_n 2, 1) := by decide +kernel
theorem dX3_weigh_10 : decode cX3_weigh 10 = .ok (.invokevirtual 60, 3) := by decide +kernel
theorem dX3_weigh_13 : decode cX3_weigh 13 = .ok (.ifCond .eq 12, 3) := by decide +kernel
theorem dX3_weigh_16 : decode cX3_weigh 16 = .ok (.aload_n 0, 1) := by decide +kernel
theorem dX3_weigh_17 : decode cX3_weigh 17 = .ok (.iload_n 2, 1) := by decide +kernel
theorem dX3_weigh_18 : decode cX3_weigh 18 = .ok (.iload_n 1, 1) := by decide +kernel
theorem dX3_weigh_19 : decode cX3_weigh 19 = .ok (.invokevirtual 64, 3) := by decide +kernel
theorem dX3_weigh_22 : decode cX3_weigh 22 = .ok (.goto 4, 3) := by decide +kernel
theorem dX3_weigh_25 : decode cX3_weigh 25 = .ok (.iconst 0, 1) := by decide +kernel
theorem dX3_weigh_26 : decode cX3_weigh 26 = .ok (.istore_n 3, 1) := by decide +kernel
theorem dX3_weigh_27 : decode cX3_weigh 27 = .ok (.aload_n 0, 1) := by decide +kernel
theorem dX3_weigh_28 : decode cX3_weigh 28 = .ok (.getfield 24, 3) := by decide +kernel
theorem dX3_weigh_31 : decode cX3_weigh 31 = .ok (.iload_n 2, 1) := by decide +kernel
theorem dX3_weigh_32 : decode cX3_weigh 32 = .ok (.iload_n 3, 1) := by decide +kernel
theorem dX3_weigh_33 : decode cX3_weigh 33 = .ok (.ifCond .le 21, 3) := by decide +kernel
theorem dX3_weigh_36 : decode cX3_weigh 36 = .ok (.iload_n 3, 1) := by decide +kernel
theorem dX3_weigh_37 : decode cX3_weigh 37 = .ok (.ldc 67, 2) := by decide +kernel
theorem dX3_weigh_39 : decode cX3_weigh 39 = .ok (.imul, 1) := by decide +kernel
theorem dX3_weigh_40 : decode cX3_weigh 40 = .ok (.bipush 12, 2) := by decide +kernel
theorem dX3_weigh_42 : decode cX3_weigh 42 = .ok (.iload_n 1, 1) := by decide +kernel
theorem dX3_weigh_43 : decode cX3_weigh 43 = .ok (.isub, 1) := by decide +kernel
theorem dX3_weigh_44 : decode cX3_weigh 44 = .ok (.getstatic 68, 3) := by decide +kernel
theorem dX3_weigh_47 : decode cX3_weigh 47 = .ok (.iload_n 2, 1) := by decide +kernel
theorem dX3_weigh_48 : decode cX3_weigh 48 = .ok (.iaload, 1) := by decide +kernel
theorem dX3_weigh_49 : decode cX3_weigh 49 = .ok (.imul, 1) := by decide +kernel
theorem dX3_weigh_50 : decode cX3_weigh 50 = .ok (.iadd, 1) := by decide +kernel
theorem dX3_weigh_51 : decode cX3_weigh 51 = .ok (.goto 4, 3) := by decide +kernel
theorem dX3_weigh_54 : decode cX3_weigh 54 = .ok (.iconst 0, 1) := by decide +kernel
theorem dX3_weigh_55 : decode cX3_weigh 55 = .ok (.iastore, 1) := by decide +kernel
theorem dX3_weigh_56 : decode cX3_weigh 56 = .ok (.iinc 2 1, 3) := by decide +kernel
theorem dX3_weigh_59 : decode cX3_weigh 59 = .ok (.goto (-57), 3) := by decide +kernel
theorem dX3_weigh_62 : decode cX3_weigh 62 = .ok (.return_, 1) := by decide +kernel
theorem dX3_bestWithThing_0 : decode cX3_bestWithThing 0 = .ok (.aload_n 0, 1) := by decide +kernel
theorem dX3_bestWithThing_1 : decode cX3_bestWithThing 1 = .ok (.getfield 21, 3) := by decide +kernel
theorem dX3_bestWithThing_4 : decode cX3_bestWithThing 4 = .ok (.iload_n 1, 1) := by decide +kernel
theorem dX3_bestWithThing_5 : decode cX3_bestWithThing 5 = .ok (.iaload, 1) := by decide +kernel
theorem dX3_bestWithThing_6 : decode cX3_bestWithThing 6 = .ok (.istore_n 2, 1) := by decide +kernel
theorem dX3_bestWithThing_7 : decode cX3_bestWithThing 7 = .ok (.iconst 0, 1) := by decide +kernel
theorem dX3_bestWithThing_8 : decode cX3_bestWithThing 8 = .ok (.istore_n 3, 1) := by decide +kernel
theorem dX3_bestWithThing_9 : decode cX3_bestWithThing 9 = .ok (.iload_n 3, 1) := by decide +kernel
theorem dX3_bestWithThing_10 : decode cX3_bestWithThing 10 = .ok (.bipush 6, 2) := by decide +kernel
theorem dX3_bestWithThing_12 : decode cX3_bestWithThing 12 = .ok (.if_icmp .ge 40, 3) := by decide +kernel
theorem dX3_bestWithThing_15 : decode cX3_bestWithThing 15 = .ok (.iload_n 1, 1) := by decide +kernel
theorem dX3_bestWithThing_16 : decode cX3_bestWithThing 16 = .ok (.iload_n 3, 1) := by decide +kernel
theorem dX3_bestWithThing_17 : decode cX3_bestWithThing 17 = .ok (.ishr, 1) := by decide +kernel
theorem dX3_bestWithThing_18 : decode cX3_bestWithThing 18 = .ok (.iconst 1, 1) := by decide +kernel
theorem dX3_bestWithThing_19 : decode cX3_bestWithThing 19 = .ok (.iand, 1) := by decide +kernel
theorem dX3_bestWithThing_20 : decode cX3_bestWithThing 20 = .ok (.iconst 1, 1) := by decide +kernel
theorem dX3_bestWithThing_21 : decode cX3_bestWithThing 21 = .ok (.if_icmp .ne 25, 3) := by decide +kernel
theorem dX3_bestWithThing_24 : decode cX3_bestWithThing 24 = .ok (.iload_n 2, 1) := by decide +kernel
theorem dX3_bestWithThing_25 : decode cX3_bestWithThing 25 = .ok (.aload_n 0, 1) := by decide +kernel
theorem dX3_bestWithThing_26 : decode cX3_bestWithThing 26 = .ok (.getfield 21, 3) := by decide +kernel
theorem dX3_bestWithThing_29 : decode cX3_bestWithThing 29 = .ok (.iload_n 1, 1) := by decide +kernel
theorem dX3_bestWithThing_30 : decode cX3_bestWithThing 30 = .ok (.iconst 1, 1) := by decide +kernel
theorem dX3_bestWithThing_31 : decode cX3_bestWithThing 31 = .ok (.iload_n 3, 1) := by decide +kernel
theorem dX3_bestWithThing_32 : decode cX3_bestWithThing 32 = .ok (.ishl, 1) := by decide +kernel
theorem dX3_bestWithThing_33 : decode cX3_bestWithThing 33 = .ok (.ixor, 1) := by decide +kernel
theorem dX3_bestWithThing_34 : decode cX3_bestWithThing 34 = .ok (.iaload, 1) := by decide +kernel
theorem dX3_bestWithThing_35 : decode cX3_bestWithThing 35 = .ok (.aload_n 0, 1) := by decide +kernel
theorem dX3_bestWithThing_36 : decode cX3_bestWithThing 36 = .ok (.getfield 24, 3) := by decide +kernel
theorem dX3_bestWithThing_39 : decode cX3_bestWithThing 39 = .ok (.iload_n 3, 1) := by decide +kernel
theorem dX3_bestWithThing_40 : decode cX3_bestWithThing 40 = .ok (.iaload, 1) := by decide +kernel
theorem dX3_bestWithThing_41 : decode cX3_bestWithThing 41 = .ok (.iadd, 1) := by decide +kernel
theorem dX3_bestWithThing_42 : decode cX3_bestWithThing 42 = .ok (.invokestatic 71, 3) := by decide +kernel
theorem dX3_bestWithThing_45 : decode cX3_bestWithThing 45 = .ok (.istore_n 2, 1) := by decide +kernel
theorem dX3_bestWithThing_46 : decode cX3_bestWithThing 46 = .ok (.iinc 3 1, 3) := by decide +kernel
theorem dX3_bestWithThing_49 : decode cX3_bestWithThing 49 = .ok (.goto (-40), 3) := by decide +kernel
theorem dX3_bestWithThing_52 : decode cX3_bestWithThing 52 = .ok (.iload_n 2, 1) := by decide +kernel
theorem dX3_bestWithThing_53 : decode cX3_bestWithThing 53 = .ok (.ireturn, 1) := by decide +kernel
theorem dX3_sumIn_0 : decode cX3_sumIn 0 = .ok (.iload_n 0, 1) := by decide +kernel
theorem dX3_sumIn_1 : decode cX3_sumIn 1 = .ok (.ldc 67, 2) := by decide +kernel
theorem dX3_sumIn_3 : decode cX3_sumIn 3 = .ok (.idiv, 1) := by decide +kernel
theorem dX3_sumIn_4 : decode cX3_sumIn 4 = .ok (.ireturn, 1) := by decide +kernel
set_option maxRecDepth 20000 in
theorem ggX3_thingIn_X5_within : GoodIn wsX3_thingIn wsX5_within := goodIn_r _ [4] (by decide +kernel) (by decide +kernel)
set_option maxRecDepth 20000 in
theorem gX3_thingIn_X5_within_n31 : GoodIn wsX3_thingIn (wsX5_within) := ggX3_thingIn_X5_within
theorem dX3_thingIn_0 : decode cX3_thingIn 0 = .ok (.iload_n 1, 1) := by decide +kernel
theorem dX3_thingIn_1 : decode cX3_thingIn 1 = .ok (.iconst 0, 1) := by decide +kernel
theorem dX3_thingIn_2 : decode cX3_thingIn 2 = .ok (.iconst 5, 1) := by decide +kernel
theorem dX3_thingIn_3 : decode cX3_thingIn 3 = .ok (.invokestatic 31, 3) := by decide +kernel
theorem dX3_thingIn_6 : decode cX3_thingIn 6 = .ok (.ifCond .ne 5, 3) := by decide +kernel
theorem dX3_thingIn_9 : decode cX3_thingIn 9 = .ok (.iconst (-1), 1) := by decide +kernel
theorem dX3_thingIn_10 : decode cX3_thingIn 10 = .ok (.ireturn, 1) := by decide +kernel
theorem dX3_thingIn_11 : decode cX3_thingIn 11 = .ok (.iload_n 0, 1) := by decide +kernel
theorem dX3_thingIn_12 : decode cX3_thingIn 12 = .ok (.getstatic 68, 3) := by decide +kernel
theorem dX3_thingIn_15 : decode cX3_thingIn 15 = .ok (.iload_n 1, 1) := by decide +kernel
theorem dX3_thingIn_16 : decode cX3_thingIn 16 = .ok (.iaload, 1) := by decide +kernel
theorem dX3_thingIn_17 : decode cX3_thingIn 17 = .ok (.idiv, 1) := by decide +kernel
theorem dX3_thingIn_18 : decode cX3_thingIn 18 = .ok (.bipush 13, 2) := by decide +kernel
theorem dX3_thingIn_20 : decode cX3_thingIn 20 = .ok (.irem, 1) := by decide +kernel
theorem dX3_thingIn_21 : decode cX3_thingIn 21 = .ok (.istore_n 2, 1) := by decide +kernel
theorem dX3_thingIn_22 : decode cX3_thingIn 22 = .ok (.iload_n 2, 1) := by decide +kernel
theorem dX3_thingIn_23 : decode cX3_thingIn 23 = .ok (.ifCond .ne 7, 3) := by decide +kernel
theorem dX3_thingIn_26 : decode cX3_thingIn 26 = .ok (.iconst (-1), 1) := by decide +kernel
theorem dX3_thingIn_27 : decode cX3_thingIn 27 = .ok (.goto 7, 3) := by decide +kernel
theorem dX3_thingIn_30 : decode cX3_thingIn 30 = .ok (.bipush 12, 2) := by decide +kernel
theorem dX3_thingIn_32 : decode cX3_thingIn 32 = .ok (.iload_n 2, 1) := by decide +kernel
theorem dX3_thingIn_33 : decode cX3_thingIn 33 = .ok (.isub, 1) := by decide +kernel
theorem dX3_thingIn_34 : decode cX3_thingIn 34 = .ok (.ireturn, 1) := by decide +kernel
set_option maxRecDepth 20000 in
theorem ggX3_mixMarks_X5_mix : GoodIn wsX3_mixMarks wsX5_mix := goodIn_r _ [5, 6] (by decide +kernel) (by decide +kernel)
set_option maxRecDepth 20000 in
theorem gX3_mixMarks_X5_mix_n74 : GoodIn wsX3_mixMarks (wsX5_mix) := ggX3_mixMarks_X5_mix
theorem dX3_mixMarks_0 : decode cX3_mixMarks 0 = .ok (.lload_n 1, 1) := by decide +kernel
theorem dX3_mixMarks_1 : decode cX3_mixMarks 1 = .ok (.aload_n 0, 1) := by decide +kernel
theorem dX3_mixMarks_2 : decode cX3_mixMarks 2 = .ok (.getfield 15, 3) := by decide +kernel
theorem dX3_mixMarks_5 : decode cX3_mixMarks 5 = .ok (.iload_n 3, 1) := by decide +kernel
theorem dX3_mixMarks_6 : decode cX3_mixMarks 6 = .ok (.iaload, 1) := by decide +kernel
theorem dX3_mixMarks_7 : decode cX3_mixMarks 7 = .ok (.invokestatic 74, 3) := by decide +kernel
theorem dX3_mixMarks_10 : decode cX3_mixMarks 10 = .ok (.aload_n 0, 1) := by decide +kernel
theorem dX3_mixMarks_11 : decode cX3_mixMarks 11 = .ok (.getfield 18, 3) := by decide +kernel
theorem dX3_mixMarks_14 : decode cX3_mixMarks 14 = .ok (.iload_n 3, 1) := by decide +kernel
theorem dX3_mixMarks_15 : decode cX3_mixMarks 15 = .ok (.iaload, 1) := by decide +kernel
theorem dX3_mixMarks_16 : decode cX3_mixMarks 16 = .ok (.invokestatic 74, 3) := by decide +kernel
theorem dX3_mixMarks_19 : decode cX3_mixMarks 19 = .ok (.lreturn, 1) := by decide +kernel
set_option maxRecDepth 20000 in
theorem ggX3_mixEntries_X5_mix : GoodIn wsX3_mixEntries wsX5_mix := goodIn_r _ [5, 6] (by decide +kernel) (by decide +kernel)
set_option maxRecDepth 20000 in
theorem gX3_mixEntries_X5_mix_n74 : GoodIn wsX3_mixEntries (wsX5_mix) := ggX3_mixEntries_X5_mix
theorem dX3_mixEntries_0 : decode cX3_mixEntries 0 = .ok (.lload_n 1, 1) := by decide +kernel
theorem dX3_mixEntries_1 : decode cX3_mixEntries 1 = .ok (.lstore_n 3, 1) := by decide +kernel
theorem dX3_mixEntries_2 : decode cX3_mixEntries 2 = .ok (.iconst 0, 1) := by decide +kernel
theorem dX3_mixEntries_3 : decode cX3_mixEntries 3 = .ok (.istore 5, 2) := by decide +kernel
theorem dX3_mixEntries_5 : decode cX3_mixEntries 5 = .ok (.iload 5, 2) := by decide +kernel
theorem dX3_mixEntries_7 : decode cX3_mixEntries 7 = .ok (.aload_n 0, 1) := by decide +kernel
theorem dX3_mixEntries_8 : decode cX3_mixEntries 8 = .ok (.getfield 27, 3) := by decide +kernel
theorem dX3_mixEntries_11 : decode cX3_mixEntries 11 = .ok (.if_icmp .ge 21, 3) := by decide +kernel
theorem dX3_mixEntries_14 : decode cX3_mixEntries 14 = .ok (.lload_n 3, 1) := by decide +kernel
theorem dX3_mixEntries_15 : decode cX3_mixEntries 15 = .ok (.aload_n 0, 1) := by decide +kernel
theorem dX3_mixEntries_16 : decode cX3_mixEntries 16 = .ok (.getfield 9, 3) := by decide +kernel
theorem dX3_mixEntries_19 : decode cX3_mixEntries 19 = .ok (.iload 5, 2) := by decide +kernel
theorem dX3_mixEntries_21 : decode cX3_mixEntries 21 = .ok (.iaload, 1) := by decide +kernel
theorem dX3_mixEntries_22 : decode cX3_mixEntries 22 = .ok (.invokestatic 74, 3) := by decide +kernel
theorem dX3_mixEntries_25 : decode cX3_mixEntries 25 = .ok (.lstore_n 3, 1) := by decide +kernel
theorem dX3_mixEntries_26 : decode cX3_mixEntries 26 = .ok (.iinc 5 1, 3) := by decide +kernel
theorem dX3_mixEntries_29 : decode cX3_mixEntries 29 = .ok (.goto (-24), 3) := by decide +kernel
theorem dX3_mixEntries_32 : decode cX3_mixEntries 32 = .ok (.lload_n 3, 1) := by decide +kernel
theorem dX3_mixEntries_33 : decode cX3_mixEntries 33 = .ok (.lreturn, 1) := by decide +kernel
set_option maxRecDepth 20000 in
theorem ggX4_init_J7_fill_53178 : GoodIn wsX4_init wsJ7_fill_53178 := goodIn_r _ [15] (by decide +kernel) (by decide +kernel)
set_option maxRecDepth 20000 in
theorem gX4_init_J7_fill_53178 : GoodIn wsX4_init (va_wsS RX4 34 yJ7_fill_53178 wsJ7_fill_53178) := goodIn_app (goodIn_of _ (by decide +kernel)) ggX4_init_J7_fill_53178
theorem dX4_init_0 : decode cX4_init 0 = .ok (.aload_n 0, 1) := by decide +kernel
theorem dX4_init_1 : decode cX4_init 1 = .ok (.invokespecial 3, 3) := by decide +kernel
theorem dX4_init_4 : decode cX4_init 4 = .ok (.aload_n 0, 1) := by decide +kernel
theorem dX4_init_5 : decode cX4_init 5 = .ok (.bipush 12, 2) := by decide +kernel
theorem dX4_init_7 : decode cX4_init 7 = .ok (.newarray .int, 2) := by decide +kernel
theorem dX4_init_9 : decode cX4_init 9 = .ok (.putfield 9, 3) := by decide +kernel
theorem dX4_init_12 : decode cX4_init 12 = .ok (.aload_n 0, 1) := by decide +kernel
theorem dX4_init_13 : decode cX4_init 13 = .ok (.bipush 12, 2) := by decide +kernel
theorem dX4_init_15 : decode cX4_init 15 = .ok (.newarray .int, 2) := by decide +kernel
theorem dX4_init_17 : decode cX4_init 17 = .ok (.putfield 15, 3) := by decide +kernel
theorem dX4_init_20 : decode cX4_init 20 = .ok (.aload_n 0, 1) := by decide +kernel
theorem dX4_init_21 : decode cX4_init 21 = .ok (.bipush 12, 2) := by decide +kernel
theorem dX4_init_23 : decode cX4_init 23 = .ok (.newarray .int, 2) := by decide +kernel
theorem dX4_init_25 : decode cX4_init 25 = .ok (.putfield 18, 3) := by decide +kernel
theorem dX4_init_28 : decode cX4_init 28 = .ok (.aload_n 0, 1) := by decide +kernel
theorem dX4_init_29 : decode cX4_init 29 = .ok (.sipush 560, 3) := by decide +kernel
theorem dX4_init_32 : decode cX4_init 32 = .ok (.newarray .int, 2) := by decide +kernel
theorem dX4_init_34 : decode cX4_init 34 = .ok (.putfield 21, 3) := by decide +kernel
theorem dX4_init_37 : decode cX4_init 37 = .ok (.aload_n 0, 1) := by decide +kernel
theorem dX4_init_38 : decode cX4_init 38 = .ok (.bipush 80, 2) := by decide +kernel
theorem dX4_init_40 : decode cX4_init 40 = .ok (.newarray .int, 2) := by decide +kernel
theorem dX4_init_42 : decode cX4_init 42 = .ok (.putfield 24, 3) := by decide +kernel
theorem dX4_init_45 : decode cX4_init 45 = .ok (.aload_n 0, 1) := by decide +kernel
theorem dX4_init_46 : decode cX4_init 46 = .ok (.iconst 0, 1) := by decide +kernel
theorem dX4_init_47 : decode cX4_init 47 = .ok (.putfield 27, 3) := by decide +kernel
theorem dX4_init_50 : decode cX4_init 50 = .ok (.aload_n 0, 1) := by decide +kernel
theorem dX4_init_51 : decode cX4_init 51 = .ok (.iconst 4, 1) := by decide +kernel
theorem dX4_init_52 : decode cX4_init 52 = .ok (.putfield 31, 3) := by decide +kernel
theorem dX4_init_55 : decode cX4_init 55 = .ok (.aload_n 0, 1) := by decide +kernel
theorem dX4_init_56 : decode cX4_init 56 = .ok (.getfield 9, 3) := by decide +kernel
theorem dX4_init_59 : decode cX4_init 59 = .ok (.iconst (-1), 1) := by decide +kernel
theorem dX4_init_60 : decode cX4_init 60 = .ok (.invokestatic 34, 3) := by decide +kernel
theorem dX4_init_63 : decode cX4_init 63 = .ok (.aload_n 0, 1) := by decide +kernel
theorem dX4_init_64 : decode cX4_init 64 = .ok (.getfield 15, 3) := by decide +kernel
theorem dX4_init_67 : decode cX4_init 67 = .ok (.iconst (-1), 1) := by decide +kernel
theorem dX4_init_68 : decode cX4_init 68 = .ok (.invokestatic 34, 3) := by decide +kernel
theorem dX4_init_71 : decode cX4_init 71 = .ok (.aload_n 0, 1) := by decide +kernel
theorem dX4_init_72 : decode cX4_init 72 = .ok (.getfield 18, 3) := by decide +kernel
theorem dX4_init_75 : decode cX4_init 75 = .ok (.iconst (-1), 1) := by decide +kernel
theorem dX4_init_76 : decode cX4_init 76 = .ok (.invokestatic 34, 3) := by decide +kernel
theorem dX4_init_79 : decode cX4_init 79 = .ok (.return_, 1) := by decide +kernel
theorem dX4_holderOf_0 : decode cX4_holderOf 0 = .ok (.aload_n 0, 1) := by decide +kernel
theorem dX4_holderOf_1 : decode cX4_holderOf 1 = .ok (.getfield 9, 3) := by decide +kernel
theorem dX4_holderOf_4 : decode cX4_holderOf 4 = .ok (.iload_n 1, 1) := by decide +kernel
theorem dX4_holderOf_5 : decode cX4_holderOf 5 = .ok (.iaload, 1) := by decide +kernel
end
section
theorem dX4_holderOf_6 : decode cX4_holderOf 6 = .ok (.ireturn, 1) := by decide +kernel
theorem dX4_handOver_0 : decode cX4_handOver 0 = .ok (.aload_n 0, 1) := by decide +kernel
theorem dX4_handOver_1 : decode cX4_handOver 1 = .ok (.getfield 9, 3) := by decide +kernel
theorem dX4_handOver_4 : decode cX4_handOver 4 = .ok (.iload_n 1, 1) := by decide +kernel
theorem dX4_handOver_5 : decode cX4_handOver 5 = .ok (.iaload, 1) := by decide +kernel
theorem dX4_handOver_6 : decode cX4_handOver 6 = .ok (.istore_n 3, 1) := by decide +kernel
theorem dX4_handOver_7 : decode cX4_handOver 7 = .ok (.aload_n 0, 1) := by decide +kernel
theorem dX4_handOver_8 : decode cX4_handOver 8 = .ok (.getfield 9, 3) := by decide +kernel
theorem dX4_handOver_11 : decode cX4_handOver 11 = .ok (.iload_n 1, 1) := by decide +kernel
theorem dX4_handOver_12 : decode cX4_handOver 12 = .ok (.iload_n 2, 1) := by decide +kernel
theorem dX4_handOver_13 : decode cX4_handOver 13 = .ok (.iastore, 1) := by decide +kernel
theorem dX4_handOver_14 : decode cX4_handOver 14 = .ok (.aload_n 0, 1) := by decide +kernel
theorem dX4_handOver_15 : decode cX4_handOver 15 = .ok (.getfield 15, 3) := by decide +kernel
theorem dX4_handOver_18 : decode cX4_handOver 18 = .ok (.iload_n 1, 1) := by decide +kernel
theorem dX4_handOver_19 : decode cX4_handOver 19 = .ok (.iconst (-1), 1) := by decide +kernel
theorem dX4_handOver_20 : decode cX4_handOver 20 = .ok (.iastore, 1) := by decide +kernel
theorem dX4_handOver_21 : decode cX4_handOver 21 = .ok (.iload_n 3, 1) := by decide +kernel
theorem dX4_handOver_22 : decode cX4_handOver 22 = .ok (.ireturn, 1) := by decide +kernel
theorem dX4_currentHour_0 : decode cX4_currentHour 0 = .ok (.aload_n 0, 1) := by decide +kernel
theorem dX4_currentHour_1 : decode cX4_currentHour 1 = .ok (.getfield 31, 3) := by decide +kernel
theorem dX4_currentHour_4 : decode cX4_currentHour 4 = .ok (.ireturn, 1) := by decide +kernel
theorem dX4_passHours_0 : decode cX4_passHours 0 = .ok (.aload_n 0, 1) := by decide +kernel
theorem dX4_passHours_1 : decode cX4_passHours 1 = .ok (.dup, 1) := by decide +kernel
theorem dX4_passHours_2 : decode cX4_passHours 2 = .ok (.getfield 31, 3) := by decide +kernel
theorem dX4_passHours_5 : decode cX4_passHours 5 = .ok (.iload_n 1, 1) := by decide +kernel
theorem dX4_passHours_6 : decode cX4_passHours 6 = .ok (.iadd, 1) := by decide +kernel
theorem dX4_passHours_7 : decode cX4_passHours 7 = .ok (.putfield 31, 3) := by decide +kernel
theorem dX4_passHours_10 : decode cX4_passHours 10 = .ok (.aload_n 0, 1) := by decide +kernel
theorem dX4_passHours_11 : decode cX4_passHours 11 = .ok (.getfield 31, 3) := by decide +kernel
theorem dX4_passHours_14 : decode cX4_passHours 14 = .ok (.ireturn, 1) := by decide +kernel
theorem dX4_mayBeSold_0 : decode cX4_mayBeSold 0 = .ok (.aload_n 0, 1) := by decide +kernel
theorem dX4_mayBeSold_1 : decode cX4_mayBeSold 1 = .ok (.getfield 9, 3) := by decide +kernel
theorem dX4_mayBeSold_4 : decode cX4_mayBeSold 4 = .ok (.iload_n 1, 1) := by decide +kernel
theorem dX4_mayBeSold_5 : decode cX4_mayBeSold 5 = .ok (.iaload, 1) := by decide +kernel
theorem dX4_mayBeSold_6 : decode cX4_mayBeSold 6 = .ok (.istore 4, 2) := by decide +kernel
theorem dX4_mayBeSold_8 : decode cX4_mayBeSold 8 = .ok (.iload 4, 2) := by decide +kernel
theorem dX4_mayBeSold_10 : decode cX4_mayBeSold 10 = .ok (.iconst (-1), 1) := by decide +kernel
theorem dX4_mayBeSold_11 : decode cX4_mayBeSold 11 = .ok (.if_icmp .eq 38, 3) := by decide +kernel
theorem dX4_mayBeSold_14 : decode cX4_mayBeSold 14 = .ok (.iload 4, 2) := by decide +kernel
theorem dX4_mayBeSold_16 : decode cX4_mayBeSold 16 = .ok (.iload_n 2, 1) := by decide +kernel
theorem dX4_mayBeSold_17 : decode cX4_mayBeSold 17 = .ok (.if_icmp .eq 32, 3) := by decide +kernel
theorem dX4_mayBeSold_20 : decode cX4_mayBeSold 20 = .ok (.iload_n 3, 1) := by decide +kernel
theorem dX4_mayBeSold_21 : decode cX4_mayBeSold 21 = .ok (.ifCond .eq 11, 3) := by decide +kernel
theorem dX4_mayBeSold_24 : decode cX4_mayBeSold 24 = .ok (.iload_n 3, 1) := by decide +kernel
theorem dX4_mayBeSold_25 : decode cX4_mayBeSold 25 = .ok (.aload_n 0, 1) := by decide +kernel
theorem dX4_mayBeSold_26 : decode cX4_mayBeSold 26 = .ok (.getfield 31, 3) := by decide +kernel
theorem dX4_mayBeSold_29 : decode cX4_mayBeSold 29 = .ok (.if_icmp .le 20, 3) := by decide +kernel
theorem dX4_mayBeSold_32 : decode cX4_mayBeSold 32 = .ok (.aload_n 0, 1) := by decide +kernel
theorem dX4_mayBeSold_33 : decode cX4_mayBeSold 33 = .ok (.getfield 18, 3) := by decide +kernel
theorem dX4_mayBeSold_36 : decode cX4_mayBeSold 36 = .ok (.iload_n 1, 1) := by decide +kernel
theorem dX4_mayBeSold_37 : decode cX4_mayBeSold 37 = .ok (.iaload, 1) := by decide +kernel
theorem dX4_mayBeSold_38 : decode cX4_mayBeSold 38 = .ok (.aload_n 0, 1) := by decide +kernel
theorem dX4_mayBeSold_39 : decode cX4_mayBeSold 39 = .ok (.getfield 31, 3) := by decide +kernel
theorem dX4_mayBeSold_42 : decode cX4_mayBeSold 42 = .ok (.if_icmp .eq 7, 3) := by decide +kernel
theorem dX4_mayBeSold_45 : decode cX4_mayBeSold 45 = .ok (.iconst 1, 1) := by decide +kernel
theorem dX4_mayBeSold_46 : decode cX4_mayBeSold 46 = .ok (.goto 4, 3) := by decide +kernel
theorem dX4_mayBeSold_49 : decode cX4_mayBeSold 49 = .ok (.iconst 0, 1) := by decide +kernel
theorem dX4_mayBeSold_50 : decode cX4_mayBeSold 50 = .ok (.ireturn, 1) := by decide +kernel
set_option maxRecDepth 20000 in
theorem ggX4_addSale_X4_mayBeSold : GoodIn wsX4_addSale wsX4_mayBeSold := goodIn_r _ [12, 3, 4, 7, 13, 14, 15, 16, 17, 18, 19] (by decide +kernel) (by decide +kernel)
set_option maxRecDepth 20000 in
theorem gX4_addSale_X4_mayBeSold : GoodIn wsX4_addSale (wsV RX4 40 RX4 yX4_mayBeSold wsX4_mayBeSold) := goodIn_app (goodIn_of _ (by decide +kernel)) ggX4_addSale_X4_mayBeSold
theorem dX4_addSale_0 : decode cX4_addSale 0 = .ok (.aload_n 0, 1) := by decide +kernel
theorem dX4_addSale_1 : decode cX4_addSale 1 = .ok (.iload_n 1, 1) := by decide +kernel
theorem dX4_addSale_2 : decode cX4_addSale 2 = .ok (.iload_n 2, 1) := by decide +kernel
theorem dX4_addSale_3 : decode cX4_addSale 3 = .ok (.iload 4, 2) := by decide +kernel
theorem dX4_addSale_5 : decode cX4_addSale 5 = .ok (.invokevirtual 40, 3) := by decide +kernel
theorem dX4_addSale_8 : decode cX4_addSale 8 = .ok (.ifCond .ne 6, 3) := by decide +kernel
theorem dX4_addSale_11 : decode cX4_addSale 11 = .ok (.bipush (-3), 2) := by decide +kernel
theorem dX4_addSale_13 : decode cX4_addSale 13 = .ok (.ireturn, 1) := by decide +kernel
theorem dX4_addSale_14 : decode cX4_addSale 14 = .ok (.aload_n 0, 1) := by decide +kernel
theorem dX4_addSale_15 : decode cX4_addSale 15 = .ok (.getfield 27, 3) := by decide +kernel
theorem dX4_addSale_18 : decode cX4_addSale 18 = .ok (.bipush 80, 2) := by decide +kernel
theorem dX4_addSale_20 : decode cX4_addSale 20 = .ok (.if_icmp .lt 6, 3) := by decide +kernel
theorem dX4_addSale_23 : decode cX4_addSale 23 = .ok (.bipush (-4), 2) := by decide +kernel
theorem dX4_addSale_25 : decode cX4_addSale 25 = .ok (.ireturn, 1) := by decide +kernel
theorem dX4_addSale_26 : decode cX4_addSale 26 = .ok (.aload_n 0, 1) := by decide +kernel
theorem dX4_addSale_27 : decode cX4_addSale 27 = .ok (.getfield 27, 3) := by decide +kernel
theorem dX4_addSale_30 : decode cX4_addSale 30 = .ok (.bipush 7, 2) := by decide +kernel
theorem dX4_addSale_32 : decode cX4_addSale 32 = .ok (.imul, 1) := by decide +kernel
theorem dX4_addSale_33 : decode cX4_addSale 33 = .ok (.istore 5, 2) := by decide +kernel
theorem dX4_addSale_35 : decode cX4_addSale 35 = .ok (.aload_n 0, 1) := by decide +kernel
theorem dX4_addSale_36 : decode cX4_addSale 36 = .ok (.getfield 21, 3) := by decide +kernel
theorem dX4_addSale_39 : decode cX4_addSale 39 = .ok (.iload 5, 2) := by decide +kernel
theorem dX4_addSale_41 : decode cX4_addSale 41 = .ok (.iconst 0, 1) := by decide +kernel
theorem dX4_addSale_42 : decode cX4_addSale 42 = .ok (.iadd, 1) := by decide +kernel
theorem dX4_addSale_43 : decode cX4_addSale 43 = .ok (.iload_n 1, 1) := by decide +kernel
theorem dX4_addSale_44 : decode cX4_addSale 44 = .ok (.iastore, 1) := by decide +kernel
theorem dX4_addSale_45 : decode cX4_addSale 45 = .ok (.aload_n 0, 1) := by decide +kernel
theorem dX4_addSale_46 : decode cX4_addSale 46 = .ok (.getfield 21, 3) := by decide +kernel
theorem dX4_addSale_49 : decode cX4_addSale 49 = .ok (.iload 5, 2) := by decide +kernel
theorem dX4_addSale_51 : decode cX4_addSale 51 = .ok (.iconst 1, 1) := by decide +kernel
theorem dX4_addSale_52 : decode cX4_addSale 52 = .ok (.iadd, 1) := by decide +kernel
theorem dX4_addSale_53 : decode cX4_addSale 53 = .ok (.aload_n 0, 1) := by decide +kernel
theorem dX4_addSale_54 : decode cX4_addSale 54 = .ok (.getfield 9, 3) := by decide +kernel
theorem dX4_addSale_57 : decode cX4_addSale 57 = .ok (.iload_n 1, 1) := by decide +kernel
theorem dX4_addSale_58 : decode cX4_addSale 58 = .ok (.iaload, 1) := by decide +kernel
theorem dX4_addSale_59 : decode cX4_addSale 59 = .ok (.iastore, 1) := by decide +kernel
theorem dX4_addSale_60 : decode cX4_addSale 60 = .ok (.aload_n 0, 1) := by decide +kernel
theorem dX4_addSale_61 : decode cX4_addSale 61 = .ok (.getfield 21, 3) := by decide +kernel
theorem dX4_addSale_64 : decode cX4_addSale 64 = .ok (.iload 5, 2) := by decide +kernel
theorem dX4_addSale_66 : decode cX4_addSale 66 = .ok (.iconst 2, 1) := by decide +kernel
theorem dX4_addSale_67 : decode cX4_addSale 67 = .ok (.iadd, 1) := by decide +kernel
theorem dX4_addSale_68 : decode cX4_addSale 68 = .ok (.iload_n 2, 1) := by decide +kernel
theorem dX4_addSale_69 : decode cX4_addSale 69 = .ok (.iastore, 1) := by decide +kernel
theorem dX4_addSale_70 : decode cX4_addSale 70 = .ok (.aload_n 0, 1) := by decide +kernel
theorem dX4_addSale_71 : decode cX4_addSale 71 = .ok (.getfield 21, 3) := by decide +kernel
theorem dX4_addSale_74 : decode cX4_addSale 74 = .ok (.iload 5, 2) := by decide +kernel
theorem dX4_addSale_76 : decode cX4_addSale 76 = .ok (.iconst 3, 1) := by decide +kernel
theorem dX4_addSale_77 : decode cX4_addSale 77 = .ok (.iadd, 1) := by decide +kernel
theorem dX4_addSale_78 : decode cX4_addSale 78 = .ok (.iload_n 3, 1) := by decide +kernel
theorem dX4_addSale_79 : decode cX4_addSale 79 = .ok (.iastore, 1) := by decide +kernel
theorem dX4_addSale_80 : decode cX4_addSale 80 = .ok (.aload_n 0, 1) := by decide +kernel
theorem dX4_addSale_81 : decode cX4_addSale 81 = .ok (.getfield 21, 3) := by decide +kernel
theorem dX4_addSale_84 : decode cX4_addSale 84 = .ok (.iload 5, 2) := by decide +kernel
theorem dX4_addSale_86 : decode cX4_addSale 86 = .ok (.iconst 4, 1) := by decide +kernel
theorem dX4_addSale_87 : decode cX4_addSale 87 = .ok (.iadd, 1) := by decide +kernel
theorem dX4_addSale_88 : decode cX4_addSale 88 = .ok (.aload_n 0, 1) := by decide +kernel
theorem dX4_addSale_89 : decode cX4_addSale 89 = .ok (.getfield 31, 3) := by decide +kernel
theorem dX4_addSale_92 : decode cX4_addSale 92 = .ok (.iastore, 1) := by decide +kernel
theorem dX4_addSale_93 : decode cX4_addSale 93 = .ok (.aload_n 0, 1) := by decide +kernel
theorem dX4_addSale_94 : decode cX4_addSale 94 = .ok (.getfield 21, 3) := by decide +kernel
theorem dX4_addSale_97 : decode cX4_addSale 97 = .ok (.iload 5, 2) := by decide +kernel
theorem dX4_addSale_99 : decode cX4_addSale 99 = .ok (.iconst 5, 1) := by decide +kernel
theorem dX4_addSale_100 : decode cX4_addSale 100 = .ok (.iadd, 1) := by decide +kernel
theorem dX4_addSale_101 : decode cX4_addSale 101 = .ok (.iload 4, 2) := by decide +kernel
theorem dX4_addSale_103 : decode cX4_addSale 103 = .ok (.iastore, 1) := by decide +kernel
theorem dX4_addSale_104 : decode cX4_addSale 104 = .ok (.aload_n 0, 1) := by decide +kernel
theorem dX4_addSale_105 : decode cX4_addSale 105 = .ok (.getfield 21, 3) := by decide +kernel
theorem dX4_addSale_108 : decode cX4_addSale 108 = .ok (.iload 5, 2) := by decide +kernel
theorem dX4_addSale_110 : decode cX4_addSale 110 = .ok (.bipush 6, 2) := by decide +kernel
theorem dX4_addSale_112 : decode cX4_addSale 112 = .ok (.iadd, 1) := by decide +kernel
theorem dX4_addSale_113 : decode cX4_addSale 113 = .ok (.iconst 1, 1) := by decide +kernel
theorem dX4_addSale_114 : decode cX4_addSale 114 = .ok (.iastore, 1) := by decide +kernel
theorem dX4_addSale_115 : decode cX4_addSale 115 = .ok (.aload_n 0, 1) := by decide +kernel
theorem dX4_addSale_116 : decode cX4_addSale 116 = .ok (.getfield 24, 3) := by decide +kernel
theorem dX4_addSale_119 : decode cX4_addSale 119 = .ok (.aload_n 0, 1) := by decide +kernel
theorem dX4_addSale_120 : decode cX4_addSale 120 = .ok (.getfield 27, 3) := by decide +kernel
theorem dX4_addSale_123 : decode cX4_addSale 123 = .ok (.aload_n 0, 1) := by decide +kernel
theorem dX4_addSale_124 : decode cX4_addSale 124 = .ok (.getfield 15, 3) := by decide +kernel
theorem dX4_addSale_127 : decode cX4_addSale 127 = .ok (.iload_n 1, 1) := by decide +kernel
theorem dX4_addSale_128 : decode cX4_addSale 128 = .ok (.iaload, 1) := by decide +kernel
theorem dX4_addSale_129 : decode cX4_addSale 129 = .ok (.iastore, 1) := by decide +kernel
theorem dX4_addSale_130 : decode cX4_addSale 130 = .ok (.aload_n 0, 1) := by decide +kernel
theorem dX4_addSale_131 : decode cX4_addSale 131 = .ok (.getfield 15, 3) := by decide +kernel
theorem dX4_addSale_134 : decode cX4_addSale 134 = .ok (.iload_n 1, 1) := by decide +kernel
theorem dX4_addSale_135 : decode cX4_addSale 135 = .ok (.aload_n 0, 1) := by decide +kernel
theorem dX4_addSale_136 : decode cX4_addSale 136 = .ok (.getfield 27, 3) := by decide +kernel
theorem dX4_addSale_139 : decode cX4_addSale 139 = .ok (.iastore, 1) := by decide +kernel
theorem dX4_addSale_140 : decode cX4_addSale 140 = .ok (.aload_n 0, 1) := by decide +kernel
theorem dX4_addSale_141 : decode cX4_addSale 141 = .ok (.getfield 18, 3) := by decide +kernel
theorem dX4_addSale_144 : decode cX4_addSale 144 = .ok (.iload_n 1, 1) := by decide +kernel
theorem dX4_addSale_145 : decode cX4_addSale 145 = .ok (.aload_n 0, 1) := by decide +kernel
theorem dX4_addSale_146 : decode cX4_addSale 146 = .ok (.getfield 31, 3) := by decide +kernel
theorem dX4_addSale_149 : decode cX4_addSale 149 = .ok (.iastore, 1) := by decide +kernel
theorem dX4_addSale_150 : decode cX4_addSale 150 = .ok (.aload_n 0, 1) := by decide +kernel
theorem dX4_addSale_151 : decode cX4_addSale 151 = .ok (.getfield 9, 3) := by decide +kernel
theorem dX4_addSale_154 : decode cX4_addSale 154 = .ok (.iload_n 1, 1) := by decide +kernel
theorem dX4_addSale_155 : decode cX4_addSale 155 = .ok (.iload_n 2, 1) := by decide +kernel
theorem dX4_addSale_156 : decode cX4_addSale 156 = .ok (.iastore, 1) := by decide +kernel
theorem dX4_addSale_157 : decode cX4_addSale 157 = .ok (.aload_n 0, 1) := by decide +kernel
theorem dX4_addSale_158 : decode cX4_addSale 158 = .ok (.dup, 1) := by decide +kernel
theorem dX4_addSale_159 : decode cX4_addSale 159 = .ok (.getfield 27, 3) := by decide +kernel
theorem dX4_addSale_162 : decode cX4_addSale 162 = .ok (.iconst 1, 1) := by decide +kernel
theorem dX4_addSale_163 : decode cX4_addSale 163 = .ok (.iadd, 1) := by decide +kernel
theorem dX4_addSale_164 : decode cX4_addSale 164 = .ok (.putfield 27, 3) := by decide +kernel
theorem dX4_addSale_167 : decode cX4_addSale 167 = .ok (.aload_n 0, 1) := by decide +kernel
theorem dX4_addSale_168 : decode cX4_addSale 168 = .ok (.getfield 27, 3) := by decide +kernel
theorem dX4_addSale_171 : decode cX4_addSale 171 = .ok (.iconst 1, 1) := by decide +kernel
theorem dX4_addSale_172 : decode cX4_addSale 172 = .ok (.isub, 1) := by decide +kernel
theorem dX4_addSale_173 : decode cX4_addSale 173 = .ok (.ireturn, 1) := by decide +kernel
set_option maxRecDepth 20000 in
theorem ggX4_giveBack_X4_field : GoodIn wsX4_giveBack wsX4_field := goodIn_r _ [10, 4, 11, 12, 13, 14, 15, 16, 17] (by decide +kernel) (by decide +kernel)
set_option maxRecDepth 20000 in
theorem gX4_giveBack_X4_field : GoodIn wsX4_giveBack (wsV RX4 44 RX4 yX4_field wsX4_field) := goodIn_app (goodIn_of _ (by decide +kernel)) ggX4_giveBack_X4_field
theorem dX4_giveBack_0 : decode cX4_giveBack 0 = .ok (.aload_n 0, 1) := by decide +kernel
theorem dX4_giveBack_1 : decode cX4_giveBack 1 = .ok (.getfield 15, 3) := by decide +kernel
theorem dX4_giveBack_4 : decode cX4_giveBack 4 = .ok (.iload_n 1, 1) := by decide +kernel
theorem dX4_giveBack_5 : decode cX4_giveBack 5 = .ok (.iaload, 1) := by decide +kernel
theorem dX4_giveBack_6 : decode cX4_giveBack 6 = .ok (.istore_n 2, 1) := by decide +kernel
theorem dX4_giveBack_7 : decode cX4_giveBack 7 = .ok (.iload_n 2, 1) := by decide +kernel
theorem dX4_giveBack_8 : decode cX4_giveBack 8 = .ok (.iconst (-1), 1) := by decide +kernel
theorem dX4_giveBack_9 : decode cX4_giveBack 9 = .ok (.if_icmp .eq 31, 3) := by decide +kernel
theorem dX4_giveBack_12 : decode cX4_giveBack 12 = .ok (.aload_n 0, 1) := by decide +kernel
theorem dX4_giveBack_13 : decode cX4_giveBack 13 = .ok (.iload_n 2, 1) := by decide +kernel
theorem dX4_giveBack_14 : decode cX4_giveBack 14 = .ok (.iconst 2, 1) := by decide +kernel
theorem dX4_giveBack_15 : decode cX4_giveBack 15 = .ok (.invokevirtual 44, 3) := by decide +kernel
theorem dX4_giveBack_18 : decode cX4_giveBack 18 = .ok (.aload_n 0, 1) := by decide +kernel
theorem dX4_giveBack_19 : decode cX4_giveBack 19 = .ok (.getfield 9, 3) := by decide +kernel
theorem dX4_giveBack_22 : decode cX4_giveBack 22 = .ok (.iload_n 1, 1) := by decide +kernel
theorem dX4_giveBack_23 : decode cX4_giveBack 23 = .ok (.iaload, 1) := by decide +kernel
theorem dX4_giveBack_24 : decode cX4_giveBack 24 = .ok (.if_icmp .ne 16, 3) := by decide +kernel
theorem dX4_giveBack_27 : decode cX4_giveBack 27 = .ok (.aload_n 0, 1) := by decide +kernel
theorem dX4_giveBack_28 : decode cX4_giveBack 28 = .ok (.iload_n 2, 1) := by decide +kernel
theorem dX4_giveBack_29 : decode cX4_giveBack 29 = .ok (.iconst 5, 1) := by decide +kernel
theorem dX4_giveBack_30 : decode cX4_giveBack 30 = .ok (.invokevirtual 44, 3) := by decide +kernel
theorem dX4_giveBack_33 : decode cX4_giveBack 33 = .ok (.aload_n 0, 1) := by decide +kernel
theorem dX4_giveBack_34 : decode cX4_giveBack 34 = .ok (.getfield 31, 3) := by decide +kernel
theorem dX4_giveBack_37 : decode cX4_giveBack 37 = .ok (.if_icmp .gt 6, 3) := by decide +kernel
theorem dX4_giveBack_40 : decode cX4_giveBack 40 = .ok (.bipush (-3), 2) := by decide +kernel
theorem dX4_giveBack_42 : decode cX4_giveBack 42 = .ok (.ireturn, 1) := by decide +kernel
theorem dX4_giveBack_43 : decode cX4_giveBack 43 = .ok (.aload_n 0, 1) := by decide +kernel
theorem dX4_giveBack_44 : decode cX4_giveBack 44 = .ok (.getfield 21, 3) := by decide +kernel
theorem dX4_giveBack_47 : decode cX4_giveBack 47 = .ok (.iload_n 2, 1) := by decide +kernel
theorem dX4_giveBack_48 : decode cX4_giveBack 48 = .ok (.bipush 7, 2) := by decide +kernel
theorem dX4_giveBack_50 : decode cX4_giveBack 50 = .ok (.imul, 1) := by decide +kernel
theorem dX4_giveBack_51 : decode cX4_giveBack 51 = .ok (.bipush 6, 2) := by decide +kernel
theorem dX4_giveBack_53 : decode cX4_giveBack 53 = .ok (.iadd, 1) := by decide +kernel
theorem dX4_giveBack_54 : decode cX4_giveBack 54 = .ok (.iconst 0, 1) := by decide +kernel
theorem dX4_giveBack_55 : decode cX4_giveBack 55 = .ok (.iastore, 1) := by decide +kernel
theorem dX4_giveBack_56 : decode cX4_giveBack 56 = .ok (.aload_n 0, 1) := by decide +kernel
theorem dX4_giveBack_57 : decode cX4_giveBack 57 = .ok (.getfield 15, 3) := by decide +kernel
theorem dX4_giveBack_60 : decode cX4_giveBack 60 = .ok (.iload_n 1, 1) := by decide +kernel
theorem dX4_giveBack_61 : decode cX4_giveBack 61 = .ok (.aload_n 0, 1) := by decide +kernel
theorem dX4_giveBack_62 : decode cX4_giveBack 62 = .ok (.getfield 24, 3) := by decide +kernel
theorem dX4_giveBack_65 : decode cX4_giveBack 65 = .ok (.iload_n 2, 1) := by decide +kernel
theorem dX4_giveBack_66 : decode cX4_giveBack 66 = .ok (.iaload, 1) := by decide +kernel
theorem dX4_giveBack_67 : decode cX4_giveBack 67 = .ok (.iastore, 1) := by decide +kernel
theorem dX4_giveBack_68 : decode cX4_giveBack 68 = .ok (.aload_n 0, 1) := by decide +kernel
theorem dX4_giveBack_69 : decode cX4_giveBack 69 = .ok (.getfield 9, 3) := by decide +kernel
theorem dX4_giveBack_72 : decode cX4_giveBack 72 = .ok (.iload_n 1, 1) := by decide +kernel
theorem dX4_giveBack_73 : decode cX4_giveBack 73 = .ok (.aload_n 0, 1) := by decide +kernel
theorem dX4_giveBack_74 : decode cX4_giveBack 74 = .ok (.iload_n 2, 1) := by decide +kernel
theorem dX4_giveBack_75 : decode cX4_giveBack 75 = .ok (.iconst 1, 1) := by decide +kernel
theorem dX4_giveBack_76 : decode cX4_giveBack 76 = .ok (.invokevirtual 44, 3) := by decide +kernel
theorem dX4_giveBack_79 : decode cX4_giveBack 79 = .ok (.iastore, 1) := by decide +kernel
theorem dX4_giveBack_80 : decode cX4_giveBack 80 = .ok (.aload_n 0, 1) := by decide +kernel
theorem dX4_giveBack_81 : decode cX4_giveBack 81 = .ok (.getfield 9, 3) := by decide +kernel
theorem dX4_giveBack_84 : decode cX4_giveBack 84 = .ok (.iload_n 1, 1) := by decide +kernel
theorem dX4_giveBack_85 : decode cX4_giveBack 85 = .ok (.iaload, 1) := by decide +kernel
theorem dX4_giveBack_86 : decode cX4_giveBack 86 = .ok (.ireturn, 1) := by decide +kernel
theorem dX4_saleCount_0 : decode cX4_saleCount 0 = .ok (.aload_n 0, 1) := by decide +kernel
theorem dX4_saleCount_1 : decode cX4_saleCount 1 = .ok (.getfield 27, 3) := by decide +kernel
theorem dX4_saleCount_4 : decode cX4_saleCount 4 = .ok (.ireturn, 1) := by decide +kernel
theorem dX4_field_0 : decode cX4_field 0 = .ok (.aload_n 0, 1) := by decide +kernel
theorem dX4_field_1 : decode cX4_field 1 = .ok (.getfield 21, 3) := by decide +kernel
theorem dX4_field_4 : decode cX4_field 4 = .ok (.iload_n 1, 1) := by decide +kernel
theorem dX4_field_5 : decode cX4_field 5 = .ok (.bipush 7, 2) := by decide +kernel
theorem dX4_field_7 : decode cX4_field 7 = .ok (.imul, 1) := by decide +kernel
theorem dX4_field_8 : decode cX4_field 8 = .ok (.iload_n 2, 1) := by decide +kernel
theorem dX4_field_9 : decode cX4_field 9 = .ok (.iadd, 1) := by decide +kernel
theorem dX4_field_10 : decode cX4_field 10 = .ok (.iaload, 1) := by decide +kernel
theorem dX4_field_11 : decode cX4_field 11 = .ok (.ireturn, 1) := by decide +kernel
set_option maxRecDepth 20000 in
theorem ggX4_stands_X4_field : GoodIn wsX4_stands wsX4_field := goodIn_r _ [5, 6, 7, 8, 9, 10, 11, 12, 13] (by decide +kernel) (by decide +kernel)
set_option maxRecDepth 20000 in
theorem gX4_stands_X4_field : GoodIn wsX4_stands (wsV RX4 44 RX4 yX4_field wsX4_field) := goodIn_app (goodIn_of _ (by decide +kernel)) ggX4_stands_X4_field
theorem dX4_stands_0 : decode cX4_stands 0 = .ok (.aload_n 0, 1) := by decide +kernel
theorem dX4_stands_1 : decode cX4_stands 1 = .ok (.iload_n 1, 1) := by decide +kernel
theorem dX4_stands_2 : decode cX4_stands 2 = .ok (.bipush 6, 2) := by decide +kernel
theorem dX4_stands_4 : decode cX4_stands 4 = .ok (.invokevirtual 44, 3) := by decide +kernel
theorem dX4_stands_7 : decode cX4_stands 7 = .ok (.iconst 1, 1) := by decide +kernel
theorem dX4_stands_8 : decode cX4_stands 8 = .ok (.if_icmp .ne 7, 3) := by decide +kernel
theorem dX4_stands_11 : decode cX4_stands 11 = .ok (.iconst 1, 1) := by decide +kernel
theorem dX4_stands_12 : decode cX4_stands 12 = .ok (.goto 4, 3) := by decide +kernel
theorem dX4_stands_15 : decode cX4_stands 15 = .ok (.iconst 0, 1) := by decide +kernel
theorem dX4_stands_16 : decode cX4_stands 16 = .ok (.ireturn, 1) := by decide +kernel
set_option maxRecDepth 20000 in
theorem ggX4_standingCount_X4_field : GoodIn wsX4_standingCount wsX4_field := goodIn_r _ [6, 7, 8, 9, 10, 11, 12, 13, 14] (by decide +kernel) (by decide +kernel)
set_option maxRecDepth 20000 in
theorem gX4_standingCount_X4_field : GoodIn wsX4_standingCount (wsV RX4 44 RX4 yX4_field wsX4_field) := goodIn_app (goodIn_of _ (by decide +kernel)) ggX4_standingCount_X4_field
theorem dX4_standingCount_0 : decode cX4_standingCount 0 = .ok (.iconst 0, 1) := by decide +kernel
theorem dX4_standingCount_1 : decode cX4_standingCount 1 = .ok (.istore_n 1, 1) := by decide +kernel
theorem dX4_standingCount_2 : decode cX4_standingCount 2 = .ok (.iconst 0, 1) := by decide +kernel
theorem dX4_standingCount_3 : decode cX4_standingCount 3 = .ok (.istore_n 2, 1) := by decide +kernel
theorem dX4_standingCount_4 : decode cX4_standingCount 4 = .ok (.iload_n 2, 1) := by decide +kernel
theorem dX4_standingCount_5 : decode cX4_standingCount 5 = .ok (.aload_n 0, 1) := by decide +kernel
theorem dX4_standingCount_6 : decode cX4_standingCount 6 = .ok (.getfield 27, 3) := by decide +kernel
theorem dX4_standingCount_9 : decode cX4_standingCount 9 = .ok (.if_icmp .ge 19, 3) := by decide +kernel
theorem dX4_standingCount_12 : decode cX4_standingCount 12 = .ok (.iload_n 1, 1) := by decide +kernel
theorem dX4_standingCount_13 : decode cX4_standingCount 13 = .ok (.aload_n 0, 1) := by decide +kernel
theorem dX4_standingCount_14 : decode cX4_standingCount 14 = .ok (.iload_n 2, 1) := by decide +kernel
theorem dX4_standingCount_15 : decode cX4_standingCount 15 = .ok (.bipush 6, 2) := by decide +kernel
theorem dX4_standingCount_17 : decode cX4_standingCount 17 = .ok (.invokevirtual 44, 3) := by decide +kernel
theorem dX4_standingCount_20 : decode cX4_standingCount 20 = .ok (.iadd, 1) := by decide +kernel
theorem dX4_standingCount_21 : decode cX4_standingCount 21 = .ok (.istore_n 1, 1) := by decide +kernel
theorem dX4_standingCount_22 : decode cX4_standingCount 22 = .ok (.iinc 2 1, 3) := by decide +kernel
theorem dX4_standingCount_25 : decode cX4_standingCount 25 = .ok (.goto (-21), 3) := by decide +kernel
theorem dX4_standingCount_28 : decode cX4_standingCount 28 = .ok (.iload_n 1, 1) := by decide +kernel
theorem dX4_standingCount_29 : decode cX4_standingCount 29 = .ok (.ireturn, 1) := by decide +kernel
set_option maxRecDepth 20000 in
theorem ggX4_gainOf_X4_stands : GoodIn wsX4_gainOf wsX4_stands := goodIn_r _ [6, 7, 8, 9, 5, 10, 11, 12, 13, 14, 15, 16, 17, 18] (by decide +kernel) (by decide +kernel)
set_option maxRecDepth 20000 in
theorem gX4_gainOf_X4_stands : GoodIn wsX4_gainOf (wsV RX4 48 RX4 yX4_stands wsX4_stands) := goodIn_app (goodIn_of _ (by decide +kernel)) ggX4_gainOf_X4_stands
set_option maxRecDepth 20000 in
theorem ggX4_gainOf_X4_field : GoodIn wsX4_gainOf wsX4_field := goodIn_r _ [10, 11, 12, 13, 14, 15, 16, 17, 18] (by decide +kernel) (by decide +kernel)
set_option maxRecDepth 20000 in
theorem gX4_gainOf_X4_field : GoodIn wsX4_gainOf (wsV RX4 44 RX4 yX4_field wsX4_field) := goodIn_app (goodIn_of _ (by decide +kernel)) ggX4_gainOf_X4_field
theorem dX4_gainOf_0 : decode cX4_gainOf 0 = .ok (.iconst 0, 1) := by decide +kernel
theorem dX4_gainOf_1 : decode cX4_gainOf 1 = .ok (.istore_n 2, 1) := by decide +kernel
theorem dX4_gainOf_2 : decode cX4_gainOf 2 = .ok (.iconst 0, 1) := by decide +kernel
theorem dX4_gainOf_3 : decode cX4_gainOf 3 = .ok (.istore_n 3, 1) := by decide +kernel
theorem dX4_gainOf_4 : decode cX4_gainOf 4 = .ok (.iload_n 3, 1) := by decide +kernel
theorem dX4_gainOf_5 : decode cX4_gainOf 5 = .ok (.aload_n 0, 1) := by decide +kernel
theorem dX4_gainOf_6 : decode cX4_gainOf 6 = .ok (.getfield 27, 3) := by decide +kernel
theorem dX4_gainOf_9 : decode cX4_gainOf 9 = .ok (.if_icmp .ge 63, 3) := by decide +kernel
theorem dX4_gainOf_12 : decode cX4_gainOf 12 = .ok (.aload_n 0, 1) := by decide +kernel
theorem dX4_gainOf_13 : decode cX4_gainOf 13 = .ok (.iload_n 3, 1) := by decide +kernel
theorem dX4_gainOf_14 : decode cX4_gainOf 14 = .ok (.invokevirtual 48, 3) := by decide +kernel
theorem dX4_gainOf_17 : decode cX4_gainOf 17 = .ok (.ifCond .eq 22, 3) := by decide +kernel
theorem dX4_gainOf_20 : decode cX4_gainOf 20 = .ok (.aload_n 0, 1) := by decide +kernel
theorem dX4_gainOf_21 : decode cX4_gainOf 21 = .ok (.iload_n 3, 1) := by decide +kernel
theorem dX4_gainOf_22 : decode cX4_gainOf 22 = .ok (.iconst 1, 1) := by decide +kernel
theorem dX4_gainOf_23 : decode cX4_gainOf 23 = .ok (.invokevirtual 44, 3) := by decide +kernel
theorem dX4_gainOf_26 : decode cX4_gainOf 26 = .ok (.iload_n 1, 1) := by decide +kernel
theorem dX4_gainOf_27 : decode cX4_gainOf 27 = .ok (.if_icmp .ne 12, 3) := by decide +kernel
theorem dX4_gainOf_30 : decode cX4_gainOf 30 = .ok (.iload_n 2, 1) := by decide +kernel
theorem dX4_gainOf_31 : decode cX4_gainOf 31 = .ok (.aload_n 0, 1) := by decide +kernel
theorem dX4_gainOf_32 : decode cX4_gainOf 32 = .ok (.iload_n 3, 1) := by decide +kernel
theorem dX4_gainOf_33 : decode cX4_gainOf 33 = .ok (.iconst 3, 1) := by decide +kernel
theorem dX4_gainOf_34 : decode cX4_gainOf 34 = .ok (.invokevirtual 44, 3) := by decide +kernel
theorem dX4_gainOf_37 : decode cX4_gainOf 37 = .ok (.iadd, 1) := by decide +kernel
theorem dX4_gainOf_38 : decode cX4_gainOf 38 = .ok (.istore_n 2, 1) := by decide +kernel
theorem dX4_gainOf_39 : decode cX4_gainOf 39 = .ok (.aload_n 0, 1) := by decide +kernel
theorem dX4_gainOf_40 : decode cX4_gainOf 40 = .ok (.iload_n 3, 1) := by decide +kernel
theorem dX4_gainOf_41 : decode cX4_gainOf 41 = .ok (.invokevirtual 48, 3) := by decide +kernel
theorem dX4_gainOf_44 : decode cX4_gainOf 44 = .ok (.ifCond .eq 22, 3) := by decide +kernel
theorem dX4_gainOf_47 : decode cX4_gainOf 47 = .ok (.aload_n 0, 1) := by decide +kernel
theorem dX4_gainOf_48 : decode cX4_gainOf 48 = .ok (.iload_n 3, 1) := by decide +kernel
theorem dX4_gainOf_49 : decode cX4_gainOf 49 = .ok (.iconst 2, 1) := by decide +kernel
theorem dX4_gainOf_50 : decode cX4_gainOf 50 = .ok (.invokevirtual 44, 3) := by decide +kernel
theorem dX4_gainOf_53 : decode cX4_gainOf 53 = .ok (.iload_n 1, 1) := by decide +kernel
theorem dX4_gainOf_54 : decode cX4_gainOf 54 = .ok (.if_icmp .ne 12, 3) := by decide +kernel
theorem dX4_gainOf_57 : decode cX4_gainOf 57 = .ok (.iload_n 2, 1) := by decide +kernel
theorem dX4_gainOf_58 : decode cX4_gainOf 58 = .ok (.aload_n 0, 1) := by decide +kernel
theorem dX4_gainOf_59 : decode cX4_gainOf 59 = .ok (.iload_n 3, 1) := by decide +kernel
theorem dX4_gainOf_60 : decode cX4_gainOf 60 = .ok (.iconst 3, 1) := by decide +kernel
theorem dX4_gainOf_61 : decode cX4_gainOf 61 = .ok (.invokevirtual 44, 3) := by decide +kernel
theorem dX4_gainOf_64 : decode cX4_gainOf 64 = .ok (.isub, 1) := by decide +kernel
theorem dX4_gainOf_65 : decode cX4_gainOf 65 = .ok (.istore_n 2, 1) := by decide +kernel
theorem dX4_gainOf_66 : decode cX4_gainOf 66 = .ok (.iinc 3 1, 3) := by decide +kernel
theorem dX4_gainOf_69 : decode cX4_gainOf 69 = .ok (.goto (-65), 3) := by decide +kernel
theorem dX4_gainOf_72 : decode cX4_gainOf 72 = .ok (.iload_n 2, 1) := by decide +kernel
theorem dX4_gainOf_73 : decode cX4_gainOf 73 = .ok (.ireturn, 1) := by decide +kernel
set_option maxRecDepth 20000 in
theorem ggX4_riseOf_X4_stands : GoodIn wsX4_riseOf wsX4_stands := goodIn_r _ [6, 7, 8, 9, 5, 10, 11, 12, 13, 14, 15, 16, 17, 18] (by decide +kernel) (by decide +kernel)
set_option maxRecDepth 20000 in
theorem gX4_riseOf_X4_stands : GoodIn wsX4_riseOf (wsV RX4 48 RX4 yX4_stands wsX4_stands) := goodIn_app (goodIn_of _ (by decide +kernel)) ggX4_riseOf_X4_stands
set_option maxRecDepth 20000 in
theorem ggX4_riseOf_X4_field : GoodIn wsX4_riseOf wsX4_field := goodIn_r _ [10, 11, 12, 13, 14, 15, 16, 17, 18] (by decide +kernel) (by decide +kernel)
set_option maxRecDepth 20000 in
theorem gX4_riseOf_X4_field : GoodIn wsX4_riseOf (wsV RX4 44 RX4 yX4_field wsX4_field) := goodIn_app (goodIn_of _ (by decide +kernel)) ggX4_riseOf_X4_field
theorem dX4_riseOf_0 : decode cX4_riseOf 0 = .ok (.iconst (-1), 1) := by decide +kernel
theorem dX4_riseOf_1 : decode cX4_riseOf 1 = .ok (.istore_n 2, 1) := by decide +kernel
theorem dX4_riseOf_2 : decode cX4_riseOf 2 = .ok (.iconst (-1), 1) := by decide +kernel
theorem dX4_riseOf_3 : decode cX4_riseOf 3 = .ok (.istore_n 3, 1) := by decide +kernel
theorem dX4_riseOf_4 : decode cX4_riseOf 4 = .ok (.iconst 0, 1) := by decide +kernel
theorem dX4_riseOf_5 : decode cX4_riseOf 5 = .ok (.istore 4, 2) := by decide +kernel
theorem dX4_riseOf_7 : decode cX4_riseOf 7 = .ok (.iload 4, 2) := by decide +kernel
theorem dX4_riseOf_9 : decode cX4_riseOf 9 = .ok (.aload_n 0, 1) := by decide +kernel
theorem dX4_riseOf_10 : decode cX4_riseOf 10 = .ok (.getfield 27, 3) := by decide +kernel
theorem dX4_riseOf_13 : decode cX4_riseOf 13 = .ok (.if_icmp .ge 44, 3) := by decide +kernel
theorem dX4_riseOf_16 : decode cX4_riseOf 16 = .ok (.aload_n 0, 1) := by decide +kernel
theorem dX4_riseOf_17 : decode cX4_riseOf 17 = .ok (.iload 4, 2) := by decide +kernel
theorem dX4_riseOf_19 : decode cX4_riseOf 19 = .ok (.invokevirtual 48, 3) := by decide +kernel
theorem dX4_riseOf_22 : decode cX4_riseOf 22 = .ok (.ifCond .eq 29, 3) := by decide +kernel
theorem dX4_riseOf_25 : decode cX4_riseOf 25 = .ok (.aload_n 0, 1) := by decide +kernel
theorem dX4_riseOf_26 : decode cX4_riseOf 26 = .ok (.iload 4, 2) := by decide +kernel
theorem dX4_riseOf_28 : decode cX4_riseOf 28 = .ok (.iconst 0, 1) := by decide +kernel
theorem dX4_riseOf_29 : decode cX4_riseOf 29 = .ok (.invokevirtual 44, 3) := by decide +kernel
theorem dX4_riseOf_32 : decode cX4_riseOf 32 = .ok (.iload_n 1, 1) := by decide +kernel
theorem dX4_riseOf_33 : decode cX4_riseOf 33 = .ok (.if_icmp .ne 18, 3) := by decide +kernel
theorem dX4_riseOf_36 : decode cX4_riseOf 36 = .ok (.iload_n 2, 1) := by decide +kernel
theorem dX4_riseOf_37 : decode cX4_riseOf 37 = .ok (.iconst (-1), 1) := by decide +kernel
theorem dX4_riseOf_38 : decode cX4_riseOf 38 = .ok (.if_icmp .ne 8, 3) := by decide +kernel
theorem dX4_riseOf_41 : decode cX4_riseOf 41 = .ok (.iload 4, 2) := by decide +kernel
theorem dX4_riseOf_43 : decode cX4_riseOf 43 = .ok (.goto 4, 3) := by decide +kernel
theorem dX4_riseOf_46 : decode cX4_riseOf 46 = .ok (.iload_n 2, 1) := by decide +kernel
theorem dX4_riseOf_47 : decode cX4_riseOf 47 = .ok (.istore_n 2, 1) := by decide +kernel
theorem dX4_riseOf_48 : decode cX4_riseOf 48 = .ok (.iload 4, 2) := by decide +kernel
theorem dX4_riseOf_50 : decode cX4_riseOf 50 = .ok (.istore_n 3, 1) := by decide +kernel
theorem dX4_riseOf_51 : decode cX4_riseOf 51 = .ok (.iinc 4 1, 3) := by decide +kernel
theorem dX4_riseOf_54 : decode cX4_riseOf 54 = .ok (.goto (-47), 3) := by decide +kernel
theorem dX4_riseOf_57 : decode cX4_riseOf 57 = .ok (.iload_n 2, 1) := by decide +kernel
theorem dX4_riseOf_58 : decode cX4_riseOf 58 = .ok (.iconst (-1), 1) := by decide +kernel
theorem dX4_riseOf_59 : decode cX4_riseOf 59 = .ok (.if_icmp .ne 7, 3) := by decide +kernel
theorem dX4_riseOf_62 : decode cX4_riseOf 62 = .ok (.iconst 0, 1) := by decide +kernel
theorem dX4_riseOf_63 : decode cX4_riseOf 63 = .ok (.goto 16, 3) := by decide +kernel
theorem dX4_riseOf_66 : decode cX4_riseOf 66 = .ok (.aload_n 0, 1) := by decide +kernel
theorem dX4_riseOf_67 : decode cX4_riseOf 67 = .ok (.iload_n 3, 1) := by decide +kernel
theorem dX4_riseOf_68 : decode cX4_riseOf 68 = .ok (.iconst 3, 1) := by decide +kernel
theorem dX4_riseOf_69 : decode cX4_riseOf 69 = .ok (.invokevirtual 44, 3) := by decide +kernel
theorem dX4_riseOf_72 : decode cX4_riseOf 72 = .ok (.aload_n 0, 1) := by decide +kernel
theorem dX4_riseOf_73 : decode cX4_riseOf 73 = .ok (.iload_n 2, 1) := by decide +kernel
theorem dX4_riseOf_74 : decode cX4_riseOf 74 = .ok (.iconst 3, 1) := by decide +kernel
theorem dX4_riseOf_75 : decode cX4_riseOf 75 = .ok (.invokevirtual 44, 3) := by decide +kernel
theorem dX4_riseOf_78 : decode cX4_riseOf 78 = .ok (.isub, 1) := by decide +kernel
theorem dX4_riseOf_79 : decode cX4_riseOf 79 = .ok (.ireturn, 1) := by decide +kernel
set_option maxRecDepth 20000 in
theorem ggX4_mixSales_X5_mix : GoodIn wsX4_mixSales wsX5_mix := goodIn_r _ [5, 6] (by decide +kernel) (by decide +kernel)
set_option maxRecDepth 20000 in
theorem gX4_mixSales_X5_mix_n52 : GoodIn wsX4_mixSales (wsX5_mix) := ggX4_mixSales_X5_mix
theorem dX4_mixSales_0 : decode cX4_mixSales 0 = .ok (.lload_n 1, 1) := by decide +kernel
theorem dX4_mixSales_1 : decode cX4_mixSales 1 = .ok (.lstore_n 3, 1) := by decide +kernel
theorem dX4_mixSales_2 : decode cX4_mixSales 2 = .ok (.iconst 0, 1) := by decide +kernel
theorem dX4_mixSales_3 : decode cX4_mixSales 3 = .ok (.istore 5, 2) := by decide +kernel
theorem dX4_mixSales_5 : decode cX4_mixSales 5 = .ok (.iload 5, 2) := by decide +kernel
theorem dX4_mixSales_7 : decode cX4_mixSales 7 = .ok (.aload_n 0, 1) := by decide +kernel
theorem dX4_mixSales_8 : decode cX4_mixSales 8 = .ok (.getfield 27, 3) := by decide +kernel
theorem dX4_mixSales_11 : decode cX4_mixSales 11 = .ok (.bipush 7, 2) := by decide +kernel
theorem dX4_mixSales_13 : decode cX4_mixSales 13 = .ok (.imul, 1) := by decide +kernel
theorem dX4_mixSales_14 : decode cX4_mixSales 14 = .ok (.if_icmp .ge 21, 3) := by decide +kernel
theorem dX4_mixSales_17 : decode cX4_mixSales 17 = .ok (.lload_n 3, 1) := by decide +kernel
theorem dX4_mixSales_18 : decode cX4_mixSales 18 = .ok (.aload_n 0, 1) := by decide +kernel
theorem dX4_mixSales_19 : decode cX4_mixSales 19 = .ok (.getfield 21, 3) := by decide +kernel
theorem dX4_mixSales_22 : decode cX4_mixSales 22 = .ok (.iload 5, 2) := by decide +kernel
theorem dX4_mixSales_24 : decode cX4_mixSales 24 = .ok (.iaload, 1) := by decide +kernel
theorem dX4_mixSales_25 : decode cX4_mixSales 25 = .ok (.invokestatic 52, 3) := by decide +kernel
theorem dX4_mixSales_28 : decode cX4_mixSales 28 = .ok (.lstore_n 3, 1) := by decide +kernel
theorem dX4_mixSales_29 : decode cX4_mixSales 29 = .ok (.iinc 5 1, 3) := by decide +kernel
theorem dX4_mixSales_32 : decode cX4_mixSales 32 = .ok (.goto (-27), 3) := by decide +kernel
theorem dX4_mixSales_35 : decode cX4_mixSales 35 = .ok (.lload_n 3, 1) := by decide +kernel
theorem dX4_mixSales_36 : decode cX4_mixSales 36 = .ok (.lreturn, 1) := by decide +kernel
set_option maxRecDepth 20000 in
theorem ggX5_init_X2_init : GoodIn wsX5_init wsX2_init := goodIn_r _ [26, 27, 2, 3, 28, 29, 30, 31, 32, 33, 34, 35, 36, 37, 70, 71, 72, 73, 74] (by decide +kernel) (by decide +kernel)
set_option maxRecDepth 20000 in
theorem gX5_init_X2_init : GoodIn wsX5_init (wsX2_init) := ggX5_init_X2_init
set_option maxRecDepth 20000 in
theorem ggX5_init_X4_init : GoodIn wsX5_init wsX4_init := goodIn_r _ [40, 41, 2, 3, 28, 42, 43, 44, 45, 46, 47, 48, 49, 35, 36, 37, 80, 81, 82, 83, 84, 85, 86] (by decide +kernel) (by decide +kernel)
set_option maxRecDepth 20000 in
theorem gX5_init_X4_init : GoodIn wsX5_init (wsX4_init) := ggX5_init_X4_init
set_option maxRecDepth 20000 in
theorem ggX5_init_X0_init : GoodIn wsX5_init wsX0_init := goodIn_r _ [51, 52, 2, 3, 28, 53, 54, 55, 56, 87, 88, 89, 90] (by decide +kernel) (by decide +kernel)
set_option maxRecDepth 20000 in
theorem gX5_init_X0_init_n25 : GoodIn wsX5_init (wsX0_init) := ggX5_init_X0_init
set_option maxRecDepth 20000 in
theorem ggX5_init_X3_init : GoodIn wsX5_init wsX3_init := goodIn_r _ [58, 59, 2, 3, 28, 60, 61, 62, 63, 64, 65, 91, 92, 93, 94, 95, 96] (by decide +kernel) (by decide +kernel)
set_option maxRecDepth 20000 in
theorem gX5_init_X3_init_n32 : GoodIn wsX5_init (wsX3_init) := ggX5_init_X3_init
set_option maxRecDepth 20000 in
theorem ggX5_init_X1_init : GoodIn wsX5_init wsX1_init := goodIn_r _ [67, 68, 2, 3, 28, 69, 97] (by decide +kernel) (by decide +kernel)
set_option maxRecDepth 20000 in
theorem gX5_init_X1_init_n39 : GoodIn wsX5_init (wsX1_init) := ggX5_init_X1_init
theorem dX5_init_0 : decode cX5_init 0 = .ok (.aload_n 0, 1) := by decide +kernel
theorem dX5_init_1 : decode cX5_init 1 = .ok (.invokespecial 3, 3) := by decide +kernel
theorem dX5_init_4 : decode cX5_init 4 = .ok (.aload_n 0, 1) := by decide +kernel
theorem dX5_init_5 : decode cX5_init 5 = .ok (.new 9, 3) := by decide +kernel
theorem dX5_init_8 : decode cX5_init 8 = .ok (.dup, 1) := by decide +kernel
theorem dX5_init_9 : decode cX5_init 9 = .ok (.invokespecial 11, 3) := by decide +kernel
theorem dX5_init_12 : decode cX5_init 12 = .ok (.putfield 12, 3) := by decide +kernel
theorem dX5_init_15 : decode cX5_init 15 = .ok (.aload_n 0, 1) := by decide +kernel
theorem dX5_init_16 : decode cX5_init 16 = .ok (.new 16, 3) := by decide +kernel
theorem dX5_init_19 : decode cX5_init 19 = .ok (.dup, 1) := by decide +kernel
theorem dX5_init_20 : decode cX5_init 20 = .ok (.invokespecial 18, 3) := by decide +kernel
theorem dX5_init_23 : decode cX5_init 23 = .ok (.putfield 19, 3) := by decide +kernel
theorem dX5_init_26 : decode cX5_init 26 = .ok (.aload_n 0, 1) := by decide +kernel
theorem dX5_init_27 : decode cX5_init 27 = .ok (.new 23, 3) := by decide +kernel
theorem dX5_init_30 : decode cX5_init 30 = .ok (.dup, 1) := by decide +kernel
theorem dX5_init_31 : decode cX5_init 31 = .ok (.invokespecial 25, 3) := by decide +kernel
theorem dX5_init_34 : decode cX5_init 34 = .ok (.putfield 26, 3) := by decide +kernel
theorem dX5_init_37 : decode cX5_init 37 = .ok (.aload_n 0, 1) := by decide +kernel
theorem dX5_init_38 : decode cX5_init 38 = .ok (.new 30, 3) := by decide +kernel
theorem dX5_init_41 : decode cX5_init 41 = .ok (.dup, 1) := by decide +kernel
theorem dX5_init_42 : decode cX5_init 42 = .ok (.invokespecial 32, 3) := by decide +kernel
theorem dX5_init_45 : decode cX5_init 45 = .ok (.putfield 33, 3) := by decide +kernel
theorem dX5_init_48 : decode cX5_init 48 = .ok (.aload_n 0, 1) := by decide +kernel
theorem dX5_init_49 : decode cX5_init 49 = .ok (.new 37, 3) := by decide +kernel
theorem dX5_init_52 : decode cX5_init 52 = .ok (.dup, 1) := by decide +kernel
theorem dX5_init_53 : decode cX5_init 53 = .ok (.invokespecial 39, 3) := by decide +kernel
theorem dX5_init_56 : decode cX5_init 56 = .ok (.putfield 40, 3) := by decide +kernel
theorem dX5_init_59 : decode cX5_init 59 = .ok (.return_, 1) := by decide +kernel
set_option maxRecDepth 20000 in
theorem ggX5_work_X5_within : GoodIn wsX5_work wsX5_within := goodIn_r _ [5] (by decide +kernel) (by decide +kernel)
set_option maxRecDepth 20000 in
theorem gX5_work_X5_within : GoodIn wsX5_work (va_wsS RX5 44 yX5_within wsX5_within) := goodIn_app (goodIn_of _ (by decide +kernel)) ggX5_work_X5_within
set_option maxRecDepth 20000 in
theorem ggX5_work_X2_setYears : GoodIn wsX5_work wsX2_setYears := goodIn_r _ [10, 11, 12, 18, 19, 20, 21, 22] (by decide +kernel) (by decide +kernel)
set_option maxRecDepth 20000 in
theorem gX5_work_X2_setYears : GoodIn wsX5_work (wsV RX5 48 RX2 yX2_setYears wsX2_setYears) := goodIn_app (goodIn_of _ (by decide +kernel)) ggX5_work_X2_setYears
theorem dX5_work_0 : decode cX5_work 0 = .ok (.iload_n 1, 1) := by decide +kernel
theorem dX5_work_1 : decode cX5_work 1 = .ok (.iconst 0, 1) := by decide +kernel
theorem dX5_work_2 : decode cX5_work 2 = .ok (.bipush 9, 2) := by decide +kernel
theorem dX5_work_4 : decode cX5_work 4 = .ok (.invokestatic 44, 3) := by decide +kernel
theorem dX5_work_7 : decode cX5_work 7 = .ok (.ifCond .eq 27, 3) := by decide +kernel
theorem dX5_work_10 : decode cX5_work 10 = .ok (.iload_n 2, 1) := by decide +kernel
theorem dX5_work_11 : decode cX5_work 11 = .ok (.sipush 1600, 3) := by decide +kernel
theorem dX5_work_14 : decode cX5_work 14 = .ok (.sipush 1950, 3) := by decide +kernel
theorem dX5_work_17 : decode cX5_work 17 = .ok (.invokestatic 44, 3) := by decide +kernel
theorem dX5_work_20 : decode cX5_work 20 = .ok (.ifCond .eq 14, 3) := by decide +kernel
theorem dX5_work_23 : decode cX5_work 23 = .ok (.iload_n 3, 1) := by decide +kernel
theorem dX5_work_24 : decode cX5_work 24 = .ok (.iload_n 2, 1) := by decide +kernel
theorem dX5_work_25 : decode cX5_work 25 = .ok (.sipush 1950, 3) := by decide +kernel
theorem dX5_work_28 : decode cX5_work 28 = .ok (.invokestatic 44, 3) := by decide +kernel
theorem dX5_work_31 : decode cX5_work 31 = .ok (.ifCond .ne 6, 3) := by decide +kernel
theorem dX5_work_34 : decode cX5_work 34 = .ok (.bipush (-2), 2) := by decide +kernel
theorem dX5_work_36 : decode cX5_work 36 = .ok (.ireturn, 1) := by decide +kernel
theorem dX5_work_37 : decode cX5_work 37 = .ok (.aload_n 0, 1) := by decide +kernel
theorem dX5_work_38 : decode cX5_work 38 = .ok (.getfield 12, 3) := by decide +kernel
theorem dX5_work_41 : decode cX5_work 41 = .ok (.iload_n 1, 1) := by decide +kernel
theorem dX5_work_42 : decode cX5_work 42 = .ok (.iload_n 2, 1) := by decide +kernel
theorem dX5_work_43 : decode cX5_work 43 = .ok (.iload_n 3, 1) := by decide +kernel
theorem dX5_work_44 : decode cX5_work 44 = .ok (.invokevirtual 48, 3) := by decide +kernel
theorem dX5_work_47 : decode cX5_work 47 = .ok (.iconst 1, 1) := by decide +kernel
theorem dX5_work_48 : decode cX5_work 48 = .ok (.ireturn, 1) := by decide +kernel
set_option maxRecDepth 20000 in
theorem ggX5_thing_X5_within : GoodIn wsX5_thing wsX5_within := goodIn_r _ [5] (by decide +kernel) (by decide +kernel)
set_option maxRecDepth 20000 in
theorem gX5_thing_X5_within : GoodIn wsX5_thing (va_wsS RX5 44 yX5_within wsX5_within) := goodIn_app (goodIn_of _ (by decide +kernel)) ggX5_thing_X5_within
set_option maxRecDepth 20000 in
theorem ggX5_thing_X2_addThing : GoodIn wsX5_thing wsX2_addThing := goodIn_r _ [10, 11, 12, 18, 19, 20, 21, 22] (by decide +kernel) (by decide +kernel)
set_option maxRecDepth 20000 in
theorem gX5_thing_X2_addThing : GoodIn wsX5_thing (wsV RX5 52 RX2 yX2_addThing wsX2_addThing) := goodIn_app (goodIn_of _ (by decide +kernel)) ggX5_thing_X2_addThing
theorem dX5_thing_0 : decode cX5_thing 0 = .ok (.iload_n 1, 1) := by decide +kernel
theorem dX5_thing_1 : decode cX5_thing 1 = .ok (.iconst 1, 1) := by decide +kernel
theorem dX5_thing_2 : decode cX5_thing 2 = .ok (.iconst 5, 1) := by decide +kernel
theorem dX5_thing_3 : decode cX5_thing 3 = .ok (.invokestatic 44, 3) := by decide +kernel
theorem dX5_thing_6 : decode cX5_thing 6 = .ok (.ifCond .ne 6, 3) := by decide +kernel
theorem dX5_thing_9 : decode cX5_thing 9 = .ok (.bipush (-2), 2) := by decide +kernel
theorem dX5_thing_11 : decode cX5_thing 11 = .ok (.ireturn, 1) := by decide +kernel
theorem dX5_thing_12 : decode cX5_thing 12 = .ok (.aload_n 0, 1) := by decide +kernel
theorem dX5_thing_13 : decode cX5_thing 13 = .ok (.getfield 12, 3) := by decide +kernel
theorem dX5_thing_16 : decode cX5_thing 16 = .ok (.iload_n 1, 1) := by decide +kernel
theorem dX5_thing_17 : decode cX5_thing 17 = .ok (.invokevirtual 52, 3) := by decide +kernel
theorem dX5_thing_20 : decode cX5_thing 20 = .ok (.ireturn, 1) := by decide +kernel
set_option maxRecDepth 20000 in
theorem ggX5_part_X2_hasPart : GoodIn wsX5_part wsX2_hasPart := goodIn_r _ [6, 7, 8, 9, 10, 5, 11, 12, 13, 14, 15, 31, 32, 33, 34, 35] (by decide +kernel) (by decide +kernel)
set_option maxRecDepth 20000 in
theorem gX5_part_X2_hasPart : GoodIn wsX5_part (wsV RX5 56 RX2 yX2_hasPart wsX2_hasPart) := goodIn_app (goodIn_of _ (by decide +kernel)) ggX5_part_X2_hasPart
set_option maxRecDepth 20000 in
theorem ggX5_part_X5_within : GoodIn wsX5_part wsX5_within := goodIn_r _ [15] (by decide +kernel) (by decide +kernel)
set_option maxRecDepth 20000 in
theorem gX5_part_X5_within : GoodIn wsX5_part (va_wsS RX5 44 yX5_within wsX5_within) := goodIn_app (goodIn_of _ (by decide +kernel)) ggX5_part_X5_within
set_option maxRecDepth 20000 in
theorem ggX5_part_X2_changeWorks : GoodIn wsX5_part wsX2_changeWorks := goodIn_r _ [20, 21, 22, 23, 24, 5, 25, 31, 32, 33, 34, 35] (by decide +kernel) (by decide +kernel)
set_option maxRecDepth 20000 in
theorem gX5_part_X2_changeWorks : GoodIn wsX5_part (wsV RX5 60 RX2 yX2_changeWorks wsX2_changeWorks) := goodIn_app (goodIn_of _ (by decide +kernel)) ggX5_part_X2_changeWorks
theorem dX5_part_0 : decode cX5_part 0 = .ok (.aload_n 0, 1) := by decide +kernel
theorem dX5_part_1 : decode cX5_part 1 = .ok (.getfield 12, 3) := by decide +kernel
theorem dX5_part_4 : decode cX5_part 4 = .ok (.iload_n 1, 1) := by decide +kernel
theorem dX5_part_5 : decode cX5_part 5 = .ok (.iload_n 2, 1) := by decide +kernel
theorem dX5_part_6 : decode cX5_part 6 = .ok (.invokevirtual 56, 3) := by decide +kernel
theorem dX5_part_9 : decode cX5_part 9 = .ok (.ifCond .eq 14, 3) := by decide +kernel
theorem dX5_part_12 : decode cX5_part 12 = .ok (.iload_n 3, 1) := by decide +kernel
theorem dX5_part_13 : decode cX5_part 13 = .ok (.iconst 0, 1) := by decide +kernel
theorem dX5_part_14 : decode cX5_part 14 = .ok (.sipush 1023, 3) := by decide +kernel
theorem dX5_part_17 : decode cX5_part 17 = .ok (.invokestatic 44, 3) := by decide +kernel
theorem dX5_part_20 : decode cX5_part 20 = .ok (.ifCond .ne 6, 3) := by decide +kernel
theorem dX5_part_23 : decode cX5_part 23 = .ok (.bipush (-2), 2) := by decide +kernel
theorem dX5_part_25 : decode cX5_part 25 = .ok (.ireturn, 1) := by decide +kernel
theorem dX5_part_26 : decode cX5_part 26 = .ok (.aload_n 0, 1) := by decide +kernel
theorem dX5_part_27 : decode cX5_part 27 = .ok (.getfield 12, 3) := by decide +kernel
theorem dX5_part_30 : decode cX5_part 30 = .ok (.iload_n 1, 1) := by decide +kernel
theorem dX5_part_31 : decode cX5_part 31 = .ok (.iload_n 2, 1) := by decide +kernel
theorem dX5_part_32 : decode cX5_part 32 = .ok (.iload_n 3, 1) := by decide +kernel
theorem dX5_part_33 : decode cX5_part 33 = .ok (.invokevirtual 60, 3) := by decide +kernel
theorem dX5_part_36 : decode cX5_part 36 = .ok (.ireturn, 1) := by decide +kernel
set_option maxRecDepth 20000 in
theorem ggX5_span_X2_hasPart : GoodIn wsX5_span wsX2_hasPart := goodIn_r _ [6, 7, 8, 9, 10, 5, 11, 12, 13, 14, 15, 40, 41, 42, 43, 44] (by decide +kernel) (by decide +kernel)
set_option maxRecDepth 20000 in
theorem gX5_span_X2_hasPart : GoodIn wsX5_span (wsV RX5 56 RX2 yX2_hasPart wsX2_hasPart) := goodIn_app (goodIn_of _ (by decide +kernel)) ggX5_span_X2_hasPart
set_option maxRecDepth 20000 in
theorem ggX5_span_X5_within : GoodIn wsX5_span wsX5_within := goodIn_r _ [15] (by decide +kernel) (by decide +kernel)
set_option maxRecDepth 20000 in
theorem gX5_span_X5_within : GoodIn wsX5_span (va_wsS RX5 44 yX5_within wsX5_within) := goodIn_app (goodIn_of _ (by decide +kernel)) ggX5_span_X5_within
set_option maxRecDepth 20000 in
theorem ggX5_span_X2_worksOf : GoodIn wsX5_span wsX2_worksOf := goodIn_r _ [20, 21, 40, 41, 42, 43, 44] (by decide +kernel) (by decide +kernel)
set_option maxRecDepth 20000 in
theorem gX5_span_X2_worksOf : GoodIn wsX5_span (wsV RX5 64 RX2 yX2_worksOf wsX2_worksOf) := goodIn_app (goodIn_of _ (by decide +kernel)) ggX5_span_X2_worksOf
set_option maxRecDepth 20000 in
theorem ggX5_span_X2_yearOf : GoodIn wsX5_span wsX2_yearOf := goodIn_r _ [25, 26, 27, 28, 29, 30, 31, 32, 33, 34, 40, 41, 42, 43, 44] (by decide +kernel) (by decide +kernel)
set_option maxRecDepth 20000 in
theorem gX5_span_X2_yearOf : GoodIn wsX5_span (wsV RX5 68 RX2 yX2_yearOf wsX2_yearOf) := goodIn_app (goodIn_of _ (by decide +kernel)) ggX5_span_X2_yearOf
theorem dX5_span_0 : decode cX5_span 0 = .ok (.aload_n 0, 1) := by decide +kernel
theorem dX5_span_1 : decode cX5_span 1 = .ok (.getfield 12, 3) := by decide +kernel
theorem dX5_span_4 : decode cX5_span 4 = .ok (.iload_n 1, 1) := by decide +kernel
theorem dX5_span_5 : decode cX5_span 5 = .ok (.iload_n 2, 1) := by decide +kernel
theorem dX5_span_6 : decode cX5_span 6 = .ok (.invokevirtual 56, 3) := by decide +kernel
theorem dX5_span_9 : decode cX5_span 9 = .ok (.ifCond .eq 12, 3) := by decide +kernel
theorem dX5_span_12 : decode cX5_span 12 = .ok (.iload_n 3, 1) := by decide +kernel
theorem dX5_span_13 : decode cX5_span 13 = .ok (.iconst 0, 1) := by decide +kernel
theorem dX5_span_14 : decode cX5_span 14 = .ok (.iconst 1, 1) := by decide +kernel
theorem dX5_span_15 : decode cX5_span 15 = .ok (.invokestatic 44, 3) := by decide +kernel
theorem dX5_span_18 : decode cX5_span 18 = .ok (.ifCond .ne 6, 3) := by decide +kernel
theorem dX5_span_21 : decode cX5_span 21 = .ok (.bipush (-2), 2) := by decide +kernel
theorem dX5_span_23 : decode cX5_span 23 = .ok (.ireturn, 1) := by decide +kernel
theorem dX5_span_24 : decode cX5_span 24 = .ok (.aload_n 0, 1) := by decide +kernel
theorem dX5_span_25 : decode cX5_span 25 = .ok (.getfield 12, 3) := by decide +kernel
theorem dX5_span_28 : decode cX5_span 28 = .ok (.aload_n 0, 1) := by decide +kernel
theorem dX5_span_29 : decode cX5_span 29 = .ok (.getfield 12, 3) := by decide +kernel
theorem dX5_span_32 : decode cX5_span 32 = .ok (.iload_n 1, 1) := by decide +kernel
theorem dX5_span_33 : decode cX5_span 33 = .ok (.iload_n 2, 1) := by decide +kernel
theorem dX5_span_34 : decode cX5_span 34 = .ok (.invokevirtual 64, 3) := by decide +kernel
theorem dX5_span_37 : decode cX5_span 37 = .ok (.iload_n 3, 1) := by decide +kernel
theorem dX5_span_38 : decode cX5_span 38 = .ok (.invokevirtual 68, 3) := by decide +kernel
theorem dX5_span_41 : decode cX5_span 41 = .ok (.ireturn, 1) := by decide +kernel
set_option maxRecDepth 20000 in
theorem ggX5_apart_X2_hasThing : GoodIn wsX5_apart wsX2_hasThing := goodIn_r _ [6, 7, 8, 9, 10, 50, 51, 52, 53, 54] (by decide +kernel) (by decide +kernel)
set_option maxRecDepth 20000 in
theorem gX5_apart_X2_hasThing : GoodIn wsX5_apart (wsV RX5 71 RX2 yX2_hasThing wsX2_hasThing) := goodIn_app (goodIn_of _ (by decide +kernel)) ggX5_apart_X2_hasThing
set_option maxRecDepth 20000 in
theorem ggX5_apart_X2_strangers : GoodIn wsX5_apart wsX2_strangers := goodIn_r _ [14, 15, 16, 17, 18, 19, 20, 21, 22, 23, 24, 25, 5, 26, 27, 28, 29, 30, 31, 32, 33, 34, 35, 36, 37, 38, 39, 40, 41, 42, 43, 44, 50, 51, 52, 53, 54] (by decide +kernel) (by decide +kernel)
set_option maxRecDepth 20000 in
theorem gX5_apart_X2_strangers : GoodIn wsX5_apart (wsV RX5 75 RX2 yX2_strangers wsX2_strangers) := goodIn_app (goodIn_of _ (by decide +kernel)) ggX5_apart_X2_strangers
theorem dX5_apart_0 : decode cX5_apart 0 = .ok (.aload_n 0, 1) := by decide +kernel
theorem dX5_apart_1 : decode cX5_apart 1 = .ok (.getfield 12, 3) := by decide +kernel
theorem dX5_apart_4 : decode cX5_apart 4 = .ok (.iload_n 1, 1) := by decide +kernel
theorem dX5_apart_5 : decode cX5_apart 5 = .ok (.invokevirtual 71, 3) := by decide +kernel
theorem dX5_apart_8 : decode cX5_apart 8 = .ok (.ifCond .ne 6, 3) := by decide +kernel
theorem dX5_apart_11 : decode cX5_apart 11 = .ok (.bipush (-2), 2) := by decide +kernel
theorem dX5_apart_13 : decode cX5_apart 13 = .ok (.ireturn, 1) := by decide +kernel
theorem dX5_apart_14 : decode cX5_apart 14 = .ok (.aload_n 0, 1) := by decide +kernel
theorem dX5_apart_15 : decode cX5_apart 15 = .ok (.getfield 12, 3) := by decide +kernel
theorem dX5_apart_18 : decode cX5_apart 18 = .ok (.iload_n 1, 1) := by decide +kernel
theorem dX5_apart_19 : decode cX5_apart 19 = .ok (.invokevirtual 75, 3) := by decide +kernel
theorem dX5_apart_22 : decode cX5_apart 22 = .ok (.ireturn, 1) := by decide +kernel
set_option maxRecDepth 20000 in
theorem ggX5_date_X2_hasThing : GoodIn wsX5_date wsX2_hasThing := goodIn_r _ [6, 7, 8, 9, 10, 53, 54, 55, 56, 57] (by decide +kernel) (by decide +kernel)
set_option maxRecDepth 20000 in
theorem gX5_date_X2_hasThing : GoodIn wsX5_date (wsV RX5 71 RX2 yX2_hasThing wsX2_hasThing) := goodIn_app (goodIn_of _ (by decide +kernel)) ggX5_date_X2_hasThing
set_option maxRecDepth 20000 in
theorem ggX5_date_X5_within : GoodIn wsX5_date wsX5_within := goodIn_r _ [10] (by decide +kernel) (by decide +kernel)
set_option maxRecDepth 20000 in
theorem gX5_date_X5_within : GoodIn wsX5_date (va_wsS RX5 44 yX5_within wsX5_within) := goodIn_app (goodIn_of _ (by decide +kernel)) ggX5_date_X5_within
set_option maxRecDepth 20000 in
theorem ggX5_date_X2_strangers : GoodIn wsX5_date wsX2_strangers := goodIn_r _ [15, 16, 17, 18, 19, 20, 21, 22, 23, 24, 25, 26, 5, 27, 28, 29, 30, 31, 32, 33, 34, 35, 36, 37, 38, 39, 40, 41, 42, 43, 44, 45, 53, 54, 55, 56, 57] (by decide +kernel) (by decide +kernel)
set_option maxRecDepth 20000 in
theorem gX5_date_X2_strangers : GoodIn wsX5_date (wsV RX5 75 RX2 yX2_strangers wsX2_strangers) := goodIn_app (goodIn_of _ (by decide +kernel)) ggX5_date_X2_strangers
set_option maxRecDepth 20000 in
theorem ggX5_date_X2_worksWithout : GoodIn wsX5_date wsX2_worksWithout := goodIn_r _ [27, 16, 28, 29, 30, 5, 31, 32, 53, 54, 55, 56, 57] (by decide +kernel) (by decide +kernel)
set_option maxRecDepth 20000 in
theorem gX5_date_X2_worksWithout : GoodIn wsX5_date (wsV RX5 78 RX2 yX2_worksWithout wsX2_worksWithout) := goodIn_app (goodIn_of _ (by decide +kernel)) ggX5_date_X2_worksWithout
set_option maxRecDepth 20000 in
theorem ggX5_date_X2_yearOf : GoodIn wsX5_date wsX2_yearOf := goodIn_r _ [36, 37, 38, 39, 40, 41, 42, 43, 44, 45, 53, 54, 55, 56, 57] (by decide +kernel) (by decide +kernel)
set_option maxRecDepth 20000 in
theorem gX5_date_X2_yearOf : GoodIn wsX5_date (wsV RX5 68 RX2 yX2_yearOf wsX2_yearOf) := goodIn_app (goodIn_of _ (by decide +kernel)) ggX5_date_X2_yearOf
theorem dX5_date_0 : decode cX5_date 0 = .ok (.aload_n 0, 1) := by decide +kernel
theorem dX5_date_1 : decode cX5_date 1 = .ok (.getfield 12, 3) := by decide +kernel
theorem dX5_date_4 : decode cX5_date 4 = .ok (.iload_n 1, 1) := by decide +kernel
theorem dX5_date_5 : decode cX5_date 5 = .ok (.invokevirtual 71, 3) := by decide +kernel
theorem dX5_date_8 : decode cX5_date 8 = .ok (.ifCond .eq 12, 3) := by decide +kernel
theorem dX5_date_11 : decode cX5_date 11 = .ok (.iload_n 2, 1) := by decide +kernel
theorem dX5_date_12 : decode cX5_date 12 = .ok (.iconst 0, 1) := by decide +kernel
theorem dX5_date_13 : decode cX5_date 13 = .ok (.iconst 1, 1) := by decide +kernel
theorem dX5_date_14 : decode cX5_date 14 = .ok (.invokestatic 44, 3) := by decide +kernel
theorem dX5_date_17 : decode cX5_date 17 = .ok (.ifCond .ne 6, 3) := by decide +kernel
theorem dX5_date_20 : decode cX5_date 20 = .ok (.bipush (-2), 2) := by decide +kernel
theorem dX5_date_22 : decode cX5_date 22 = .ok (.ireturn, 1) := by decide +kernel
theorem dX5_date_23 : decode cX5_date 23 = .ok (.aload_n 0, 1) := by decide +kernel
theorem dX5_date_24 : decode cX5_date 24 = .ok (.getfield 12, 3) := by decide +kernel
theorem dX5_date_27 : decode cX5_date 27 = .ok (.iload_n 1, 1) := by decide +kernel
theorem dX5_date_28 : decode cX5_date 28 = .ok (.invokevirtual 75, 3) := by decide +kernel
theorem dX5_date_31 : decode cX5_date 31 = .ok (.istore_n 3, 1) := by decide +kernel
theorem dX5_date_32 : decode cX5_date 32 = .ok (.iload_n 3, 1) := by decide +kernel
theorem dX5_date_33 : decode cX5_date 33 = .ok (.iconst (-1), 1) := by decide +kernel
theorem dX5_date_34 : decode cX5_date 34 = .ok (.if_icmp .ne 5, 3) := by decide +kernel
theorem dX5_date_37 : decode cX5_date 37 = .ok (.iconst (-1), 1) := by decide +kernel
theorem dX5_date_38 : decode cX5_date 38 = .ok (.ireturn, 1) := by decide +kernel
theorem dX5_date_39 : decode cX5_date 39 = .ok (.aload_n 0, 1) := by decide +kernel
theorem dX5_date_40 : decode cX5_date 40 = .ok (.getfield 12, 3) := by decide +kernel
theorem dX5_date_43 : decode cX5_date 43 = .ok (.aload_n 0, 1) := by decide +kernel
theorem dX5_date_44 : decode cX5_date 44 = .ok (.getfield 12, 3) := by decide +kernel
theorem dX5_date_47 : decode cX5_date 47 = .ok (.iload_n 1, 1) := by decide +kernel
theorem dX5_date_48 : decode cX5_date 48 = .ok (.iload_n 3, 1) := by decide +kernel
theorem dX5_date_49 : decode cX5_date 49 = .ok (.invokevirtual 78, 3) := by decide +kernel
theorem dX5_date_52 : decode cX5_date 52 = .ok (.iload_n 2, 1) := by decide +kernel
theorem dX5_date_53 : decode cX5_date 53 = .ok (.invokevirtual 68, 3) := by decide +kernel
theorem dX5_date_56 : decode cX5_date 56 = .ok (.ireturn, 1) := by decide +kernel
set_option maxRecDepth 20000 in
theorem ggX5_hold_X2_hasThing : GoodIn wsX5_hold wsX2_hasThing := goodIn_r _ [7, 8, 9, 10, 11, 25, 26, 27, 28, 29] (by decide +kernel) (by decide +kernel)
set_option maxRecDepth 20000 in
theorem gX5_hold_X2_hasThing : GoodIn wsX5_hold (wsV RX5 71 RX2 yX2_hasThing wsX2_hasThing) := goodIn_app (goodIn_of _ (by decide +kernel)) ggX5_hold_X2_hasThing
set_option maxRecDepth 20000 in
theorem ggX5_hold_X5_within : GoodIn wsX5_hold wsX5_within := goodIn_r _ [11] (by decide +kernel) (by decide +kernel)
set_option maxRecDepth 20000 in
theorem gX5_hold_X5_within : GoodIn wsX5_hold (va_wsS RX5 44 yX5_within wsX5_within) := goodIn_app (goodIn_of _ (by decide +kernel)) ggX5_hold_X5_within
set_option maxRecDepth 20000 in
theorem ggX5_hold_X4_handOver : GoodIn wsX5_hold wsX4_handOver := goodIn_r _ [17, 18, 19, 30, 31, 32, 33, 34, 35, 36] (by decide +kernel) (by decide +kernel)
set_option maxRecDepth 20000 in
theorem gX5_hold_X4_handOver : GoodIn wsX5_hold (wsV RX5 81 RX4 yX4_handOver wsX4_handOver) := goodIn_app (goodIn_of _ (by decide +kernel)) ggX5_hold_X4_handOver
theorem dX5_hold_0 : decode cX5_hold 0 = .ok (.aload_n 0, 1) := by decide +kernel
theorem dX5_hold_1 : decode cX5_hold 1 = .ok (.getfield 12, 3) := by decide +kernel
theorem dX5_hold_4 : decode cX5_hold 4 = .ok (.iload_n 1, 1) := by decide +kernel
theorem dX5_hold_5 : decode cX5_hold 5 = .ok (.invokevirtual 71, 3) := by decide +kernel
theorem dX5_hold_8 : decode cX5_hold 8 = .ok (.ifCond .eq 13, 3) := by decide +kernel
theorem dX5_hold_11 : decode cX5_hold 11 = .ok (.iload_n 2, 1) := by decide +kernel
theorem dX5_hold_12 : decode cX5_hold 12 = .ok (.iconst (-1), 1) := by decide +kernel
theorem dX5_hold_13 : decode cX5_hold 13 = .ok (.bipush 7, 2) := by decide +kernel
theorem dX5_hold_15 : decode cX5_hold 15 = .ok (.invokestatic 44, 3) := by decide +kernel
theorem dX5_hold_18 : decode cX5_hold 18 = .ok (.ifCond .ne 6, 3) := by decide +kernel
theorem dX5_hold_21 : decode cX5_hold 21 = .ok (.bipush (-2), 2) := by decide +kernel
theorem dX5_hold_23 : decode cX5_hold 23 = .ok (.ireturn, 1) := by decide +kernel
theorem dX5_hold_24 : decode cX5_hold 24 = .ok (.aload_n 0, 1) := by decide +kernel
theorem dX5_hold_25 : decode cX5_hold 25 = .ok (.getfield 19, 3) := by decide +kernel
theorem dX5_hold_28 : decode cX5_hold 28 = .ok (.iload_n 1, 1) := by decide +kernel
theorem dX5_hold_29 : decode cX5_hold 29 = .ok (.iload_n 2, 1) := by decide +kernel
theorem dX5_hold_30 : decode cX5_hold 30 = .ok (.invokevirtual 81, 3) := by decide +kernel
theorem dX5_hold_33 : decode cX5_hold 33 = .ok (.ireturn, 1) := by decide +kernel
set_option maxRecDepth 20000 in
theorem ggX5_holder_X2_hasThing : GoodIn wsX5_holder wsX2_hasThing := goodIn_r _ [7, 8, 9, 10, 11, 23, 24, 25, 26, 27] (by decide +kernel) (by decide +kernel)
set_option maxRecDepth 20000 in
theorem gX5_holder_X2_hasThing : GoodIn wsX5_holder (wsV RX5 71 RX2 yX2_hasThing wsX2_hasThing) := goodIn_app (goodIn_of _ (by decide +kernel)) ggX5_holder_X2_hasThing
set_option maxRecDepth 20000 in
theorem ggX5_holder_X4_holderOf : GoodIn wsX5_holder wsX4_holderOf := goodIn_r _ [16, 17, 28, 29, 30, 31, 32, 33, 34] (by decide +kernel) (by decide +kernel)
set_option maxRecDepth 20000 in
theorem gX5_holder_X4_holderOf : GoodIn wsX5_holder (wsV RX5 84 RX4 yX4_holderOf wsX4_holderOf) := goodIn_app (goodIn_of _ (by decide +kernel)) ggX5_holder_X4_holderOf
theorem dX5_holder_0 : decode cX5_holder 0 = .ok (.aload_n 0, 1) := by decide +kernel
theorem dX5_holder_1 : decode cX5_holder 1 = .ok (.getfield 12, 3) := by decide +kernel
theorem dX5_holder_4 : decode cX5_holder 4 = .ok (.iload_n 1, 1) := by decide +kernel
theorem dX5_holder_5 : decode cX5_holder 5 = .ok (.invokevirtual 71, 3) := by decide +kernel
theorem dX5_holder_8 : decode cX5_holder 8 = .ok (.ifCond .ne 6, 3) := by decide +kernel
theorem dX5_holder_11 : decode cX5_holder 11 = .ok (.bipush (-2), 2) := by decide +kernel
theorem dX5_holder_13 : decode cX5_holder 13 = .ok (.ireturn, 1) := by decide +kernel
theorem dX5_holder_14 : decode cX5_holder 14 = .ok (.aload_n 0, 1) := by decide +kernel
theorem dX5_holder_15 : decode cX5_holder 15 = .ok (.getfield 19, 3) := by decide +kernel
theorem dX5_holder_18 : decode cX5_holder 18 = .ok (.iload_n 1, 1) := by decide +kernel
theorem dX5_holder_19 : decode cX5_holder 19 = .ok (.invokevirtual 84, 3) := by decide +kernel
theorem dX5_holder_22 : decode cX5_holder 22 = .ok (.ireturn, 1) := by decide +kernel
set_option maxRecDepth 20000 in
theorem ggX5_hours_X5_within : GoodIn wsX5_hours wsX5_within := goodIn_r _ [5] (by decide +kernel) (by decide +kernel)
set_option maxRecDepth 20000 in
theorem gX5_hours_X5_within : GoodIn wsX5_hours (va_wsS RX5 44 yX5_within wsX5_within) := goodIn_app (goodIn_of _ (by decide +kernel)) ggX5_hours_X5_within
set_option maxRecDepth 20000 in
theorem ggX5_hours_X4_passHours : GoodIn wsX5_hours wsX4_passHours := goodIn_r _ [10, 11, 17, 18, 19, 20, 21, 22, 23] (by decide +kernel) (by decide +kernel)
set_option maxRecDepth 20000 in
theorem gX5_hours_X4_passHours : GoodIn wsX5_hours (wsV RX5 87 RX4 yX4_passHours wsX4_passHours) := goodIn_app (goodIn_of _ (by decide +kernel)) ggX5_hours_X4_passHours
theorem dX5_hours_0 : decode cX5_hours 0 = .ok (.iload_n 1, 1) := by decide +kernel
theorem dX5_hours_1 : decode cX5_hours 1 = .ok (.iconst 1, 1) := by decide +kernel
theorem dX5_hours_2 : decode cX5_hours 2 = .ok (.bipush 20, 2) := by decide +kernel
theorem dX5_hours_4 : decode cX5_hours 4 = .ok (.invokestatic 44, 3) := by decide +kernel
theorem dX5_hours_7 : decode cX5_hours 7 = .ok (.ifCond .ne 6, 3) := by decide +kernel
theorem dX5_hours_10 : decode cX5_hours 10 = .ok (.bipush (-2), 2) := by decide +kernel
theorem dX5_hours_12 : decode cX5_hours 12 = .ok (.ireturn, 1) := by decide +kernel
theorem dX5_hours_13 : decode cX5_hours 13 = .ok (.aload_n 0, 1) := by decide +kernel
theorem dX5_hours_14 : decode cX5_hours 14 = .ok (.getfield 19, 3) := by decide +kernel
theorem dX5_hours_17 : decode cX5_hours 17 = .ok (.iload_n 1, 1) := by decide +kernel
theorem dX5_hours_18 : decode cX5_hours 18 = .ok (.invokevirtual 87, 3) := by decide +kernel
theorem dX5_hours_21 : decode cX5_hours 21 = .ok (.ireturn, 1) := by decide +kernel
set_option maxRecDepth 20000 in
theorem ggX5_sell_X2_hasThing : GoodIn wsX5_sell wsX2_hasThing := goodIn_r _ [8, 9, 10, 11, 12, 38, 39, 40, 41, 42] (by decide +kernel) (by decide +kernel)
set_option maxRecDepth 20000 in
theorem gX5_sell_X2_hasThing : GoodIn wsX5_sell (wsV RX5 71 RX2 yX2_hasThing wsX2_hasThing) := goodIn_app (goodIn_of _ (by decide +kernel)) ggX5_sell_X2_hasThing
set_option maxRecDepth 20000 in
theorem ggX5_sell_X5_isDealer : GoodIn wsX5_sell wsX5_isDealer := goodIn_r _ [15, 16, 10, 11, 12] (by decide +kernel) (by decide +kernel)
set_option maxRecDepth 20000 in
theorem gX5_sell_X5_isDealer : GoodIn wsX5_sell (va_wsS RX5 90 yX5_isDealer wsX5_isDealer) := goodIn_app (goodIn_of _ (by decide +kernel)) ggX5_sell_X5_isDealer
set_option maxRecDepth 20000 in
theorem ggX5_sell_X5_within : GoodIn wsX5_sell wsX5_within := goodIn_r _ [12] (by decide +kernel) (by decide +kernel)
set_option maxRecDepth 20000 in
theorem gX5_sell_X5_within : GoodIn wsX5_sell (va_wsS RX5 44 yX5_within wsX5_within) := goodIn_app (goodIn_of _ (by decide +kernel)) ggX5_sell_X5_within
set_option maxRecDepth 20000 in
theorem ggX5_sell_X4_addSale : GoodIn wsX5_sell wsX4_addSale := goodIn_r _ [21, 22, 23, 24, 25, 26, 27, 28, 29, 30, 31, 20, 32, 43, 44, 45, 46, 47, 48, 49] (by decide +kernel) (by decide +kernel)
set_option maxRecDepth 20000 in
theorem gX5_sell_X4_addSale : GoodIn wsX5_sell (wsV RX5 94 RX4 yX4_addSale wsX4_addSale) := goodIn_app (goodIn_of _ (by decide +kernel)) ggX5_sell_X4_addSale
theorem dX5_sell_0 : decode cX5_sell 0 = .ok (.aload_n 0, 1) := by decide +kernel
theorem dX5_sell_1 : decode cX5_sell 1 = .ok (.getfield 12, 3) := by decide +kernel
theorem dX5_sell_4 : decode cX5_sell 4 = .ok (.iload_n 1, 1) := by decide +kernel
theorem dX5_sell_5 : decode cX5_sell 5 = .ok (.invokevirtual 71, 3) := by decide +kernel
theorem dX5_sell_8 : decode cX5_sell 8 = .ok (.ifCond .eq 32, 3) := by decide +kernel
theorem dX5_sell_11 : decode cX5_sell 11 = .ok (.iload_n 2, 1) := by decide +kernel
theorem dX5_sell_12 : decode cX5_sell 12 = .ok (.invokestatic 90, 3) := by decide +kernel
theorem dX5_sell_15 : decode cX5_sell 15 = .ok (.ifCond .eq 25, 3) := by decide +kernel
theorem dX5_sell_18 : decode cX5_sell 18 = .ok (.iload_n 3, 1) := by decide +kernel
theorem dX5_sell_19 : decode cX5_sell 19 = .ok (.iconst 0, 1) := by decide +kernel
theorem dX5_sell_20 : decode cX5_sell 20 = .ok (.ldc 93, 2) := by decide +kernel
theorem dX5_sell_22 : decode cX5_sell 22 = .ok (.invokestatic 44, 3) := by decide +kernel
theorem dX5_sell_25 : decode cX5_sell 25 = .ok (.ifCond .eq 15, 3) := by decide +kernel
theorem dX5_sell_28 : decode cX5_sell 28 = .ok (.iload 4, 2) := by decide +kernel
theorem dX5_sell_30 : decode cX5_sell 30 = .ok (.iconst 0, 1) := by decide +kernel
theorem dX5_sell_31 : decode cX5_sell 31 = .ok (.sipush 2000, 3) := by decide +kernel
theorem dX5_sell_34 : decode cX5_sell 34 = .ok (.invokestatic 44, 3) := by decide +kernel
theorem dX5_sell_37 : decode cX5_sell 37 = .ok (.ifCond .ne 6, 3) := by decide +kernel
theorem dX5_sell_40 : decode cX5_sell 40 = .ok (.bipush (-2), 2) := by decide +kernel
theorem dX5_sell_42 : decode cX5_sell 42 = .ok (.ireturn, 1) := by decide +kernel
theorem dX5_sell_43 : decode cX5_sell 43 = .ok (.aload_n 0, 1) := by decide +kernel
theorem dX5_sell_44 : decode cX5_sell 44 = .ok (.getfield 19, 3) := by decide +kernel
theorem dX5_sell_47 : decode cX5_sell 47 = .ok (.iload_n 1, 1) := by decide +kernel
theorem dX5_sell_48 : decode cX5_sell 48 = .ok (.iload_n 2, 1) := by decide +kernel
theorem dX5_sell_49 : decode cX5_sell 49 = .ok (.iload_n 3, 1) := by decide +kernel
theorem dX5_sell_50 : decode cX5_sell 50 = .ok (.iload 4, 2) := by decide +kernel
theorem dX5_sell_52 : decode cX5_sell 52 = .ok (.invokevirtual 94, 3) := by decide +kernel
theorem dX5_sell_55 : decode cX5_sell 55 = .ok (.ireturn, 1) := by decide +kernel
set_option maxRecDepth 20000 in
theorem ggX5_back_X2_hasThing : GoodIn wsX5_back wsX2_hasThing := goodIn_r _ [7, 8, 9, 10, 11, 31, 32, 33, 34, 35] (by decide +kernel) (by decide +kernel)
set_option maxRecDepth 20000 in
theorem gX5_back_X2_hasThing : GoodIn wsX5_back (wsV RX5 71 RX2 yX2_hasThing wsX2_hasThing) := goodIn_app (goodIn_of _ (by decide +kernel)) ggX5_back_X2_hasThing
set_option maxRecDepth 20000 in
theorem ggX5_back_X4_giveBack : GoodIn wsX5_back wsX4_giveBack := goodIn_r _ [16, 17, 18, 19, 20, 21, 22, 23, 24, 15, 25, 36, 37, 38, 39, 40, 41, 42] (by decide +kernel) (by decide +kernel)
set_option maxRecDepth 20000 in
theorem gX5_back_X4_giveBack : GoodIn wsX5_back (wsV RX5 98 RX4 yX4_giveBack wsX4_giveBack) := goodIn_app (goodIn_of _ (by decide +kernel)) ggX5_back_X4_giveBack
theorem dX5_back_0 : decode cX5_back 0 = .ok (.aload_n 0, 1) := by decide +kernel
theorem dX5_back_1 : decode cX5_back 1 = .ok (.getfield 12, 3) := by decide +kernel
theorem dX5_back_4 : decode cX5_back 4 = .ok (.iload_n 1, 1) := by decide +kernel
theorem dX5_back_5 : decode cX5_back 5 = .ok (.invokevirtual 71, 3) := by decide +kernel
theorem dX5_back_8 : decode cX5_back 8 = .ok (.ifCond .ne 6, 3) := by decide +kernel
theorem dX5_back_11 : decode cX5_back 11 = .ok (.bipush (-2), 2) := by decide +kernel
theorem dX5_back_13 : decode cX5_back 13 = .ok (.ireturn, 1) := by decide +kernel
theorem dX5_back_14 : decode cX5_back 14 = .ok (.aload_n 0, 1) := by decide +kernel
theorem dX5_back_15 : decode cX5_back 15 = .ok (.getfield 19, 3) := by decide +kernel
theorem dX5_back_18 : decode cX5_back 18 = .ok (.iload_n 1, 1) := by decide +kernel
theorem dX5_back_19 : decode cX5_back 19 = .ok (.invokevirtual 98, 3) := by decide +kernel
theorem dX5_back_22 : decode cX5_back 22 = .ok (.ireturn, 1) := by decide +kernel
set_option maxRecDepth 20000 in
theorem ggX5_sale_X5_within : GoodIn wsX5_sale wsX5_within := goodIn_r _ [5] (by decide +kernel) (by decide +kernel)
set_option maxRecDepth 20000 in
theorem gX5_sale_X5_within : GoodIn wsX5_sale (va_wsS RX5 44 yX5_within wsX5_within) := goodIn_app (goodIn_of _ (by decide +kernel)) ggX5_sale_X5_within
set_option maxRecDepth 20000 in
theorem ggX5_sale_X4_saleCount : GoodIn wsX5_sale wsX4_saleCount := goodIn_r _ [10, 11, 22, 23, 24, 25, 26, 27, 28] (by decide +kernel) (by decide +kernel)
set_option maxRecDepth 20000 in
theorem gX5_sale_X4_saleCount : GoodIn wsX5_sale (wsV RX5 101 RX4 yX4_saleCount wsX4_saleCount) := goodIn_app (goodIn_of _ (by decide +kernel)) ggX5_sale_X4_saleCount
set_option maxRecDepth 20000 in
theorem ggX5_sale_X4_field : GoodIn wsX5_sale wsX4_field := goodIn_r _ [15, 16, 22, 23, 24, 25, 26, 27, 28] (by decide +kernel) (by decide +kernel)
set_option maxRecDepth 20000 in
theorem gX5_sale_X4_field : GoodIn wsX5_sale (wsV RX5 105 RX4 yX4_field wsX4_field) := goodIn_app (goodIn_of _ (by decide +kernel)) ggX5_sale_X4_field
theorem dX5_sale_0 : decode cX5_sale 0 = .ok (.iload_n 1, 1) := by decide +kernel
theorem dX5_sale_1 : decode cX5_sale 1 = .ok (.ifCond .lt 13, 3) := by decide +kernel
theorem dX5_sale_4 : decode cX5_sale 4 = .ok (.iload_n 2, 1) := by decide +kernel
theorem dX5_sale_5 : decode cX5_sale 5 = .ok (.iconst 0, 1) := by decide +kernel
theorem dX5_sale_6 : decode cX5_sale 6 = .ok (.bipush 6, 2) := by decide +kernel
theorem dX5_sale_8 : decode cX5_sale 8 = .ok (.invokestatic 44, 3) := by decide +kernel
theorem dX5_sale_11 : decode cX5_sale 11 = .ok (.ifCond .ne 6, 3) := by decide +kernel
theorem dX5_sale_14 : decode cX5_sale 14 = .ok (.bipush (-2), 2) := by decide +kernel
theorem dX5_sale_16 : decode cX5_sale 16 = .ok (.ireturn, 1) := by decide +kernel
theorem dX5_sale_17 : decode cX5_sale 17 = .ok (.iload_n 1, 1) := by decide +kernel
theorem dX5_sale_18 : decode cX5_sale 18 = .ok (.aload_n 0, 1) := by decide +kernel
theorem dX5_sale_19 : decode cX5_sale 19 = .ok (.getfield 19, 3) := by decide +kernel
theorem dX5_sale_22 : decode cX5_sale 22 = .ok (.invokevirtual 101, 3) := by decide +kernel
theorem dX5_sale_25 : decode cX5_sale 25 = .ok (.if_icmp .lt 5, 3) := by decide +kernel
theorem dX5_sale_28 : decode cX5_sale 28 = .ok (.iconst (-1), 1) := by decide +kernel
theorem dX5_sale_29 : decode cX5_sale 29 = .ok (.ireturn, 1) := by decide +kernel
theorem dX5_sale_30 : decode cX5_sale 30 = .ok (.aload_n 0, 1) := by decide +kernel
theorem dX5_sale_31 : decode cX5_sale 31 = .ok (.getfield 19, 3) := by decide +kernel
theorem dX5_sale_34 : decode cX5_sale 34 = .ok (.iload_n 1, 1) := by decide +kernel
theorem dX5_sale_35 : decode cX5_sale 35 = .ok (.iload_n 2, 1) := by decide +kernel
theorem dX5_sale_36 : decode cX5_sale 36 = .ok (.invokevirtual 105, 3) := by decide +kernel
theorem dX5_sale_39 : decode cX5_sale 39 = .ok (.ireturn, 1) := by decide +kernel
set_option maxRecDepth 20000 in
theorem ggX5_gain_X5_isDealer : GoodIn wsX5_gain wsX5_isDealer := goodIn_r _ [6, 7, 8, 5, 9] (by decide +kernel) (by decide +kernel)
set_option maxRecDepth 20000 in
theorem gX5_gain_X5_isDealer : GoodIn wsX5_gain (va_wsS RX5 90 yX5_isDealer wsX5_isDealer) := goodIn_app (goodIn_of _ (by decide +kernel)) ggX5_gain_X5_isDealer
set_option maxRecDepth 20000 in
theorem ggX5_gain_X4_gainOf : GoodIn wsX5_gain wsX4_gainOf := goodIn_r _ [14, 15, 16, 17, 18, 13, 19, 20, 21, 22, 23, 24, 30, 31, 32, 33, 34, 35, 36] (by decide +kernel) (by decide +kernel)
set_option maxRecDepth 20000 in
theorem gX5_gain_X4_gainOf : GoodIn wsX5_gain (wsV RX5 108 RX4 yX4_gainOf wsX4_gainOf) := goodIn_app (goodIn_of _ (by decide +kernel)) ggX5_gain_X4_gainOf
theorem dX5_gain_0 : decode cX5_gain 0 = .ok (.iload_n 1, 1) := by decide +kernel
theorem dX5_gain_1 : decode cX5_gain 1 = .ok (.invokestatic 90, 3) := by decide +kernel
theorem dX5_gain_4 : decode cX5_gain 4 = .ok (.ifCond .eq 14, 3) := by decide +kernel
theorem dX5_gain_7 : decode cX5_gain 7 = .ok (.aload_n 0, 1) := by decide +kernel
theorem dX5_gain_8 : decode cX5_gain 8 = .ok (.getfield 19, 3) := by decide +kernel
theorem dX5_gain_11 : decode cX5_gain 11 = .ok (.iload_n 1, 1) := by decide +kernel
theorem dX5_gain_12 : decode cX5_gain 12 = .ok (.invokevirtual 108, 3) := by decide +kernel
theorem dX5_gain_15 : decode cX5_gain 15 = .ok (.goto 5, 3) := by decide +kernel
theorem dX5_gain_18 : decode cX5_gain 18 = .ok (.ldc 111, 2) := by decide +kernel
theorem dX5_gain_20 : decode cX5_gain 20 = .ok (.ireturn, 1) := by decide +kernel
set_option maxRecDepth 20000 in
theorem ggX5_rose_X2_hasThing : GoodIn wsX5_rose wsX2_hasThing := goodIn_r _ [8, 9, 10, 11, 12, 33, 34, 35, 36, 37] (by decide +kernel) (by decide +kernel)
set_option maxRecDepth 20000 in
theorem gX5_rose_X2_hasThing : GoodIn wsX5_rose (wsV RX5 71 RX2 yX2_hasThing wsX2_hasThing) := goodIn_app (goodIn_of _ (by decide +kernel)) ggX5_rose_X2_hasThing
set_option maxRecDepth 20000 in
theorem ggX5_rose_X4_riseOf : GoodIn wsX5_rose wsX4_riseOf := goodIn_r _ [17, 18, 19, 20, 21, 16, 22, 23, 24, 25, 26, 27, 38, 39, 40, 41, 42, 43, 44] (by decide +kernel) (by decide +kernel)
set_option maxRecDepth 20000 in
theorem gX5_rose_X4_riseOf : GoodIn wsX5_rose (wsV RX5 112 RX4 yX4_riseOf wsX4_riseOf) := goodIn_app (goodIn_of _ (by decide +kernel)) ggX5_rose_X4_riseOf
theorem dX5_rose_0 : decode cX5_rose 0 = .ok (.aload_n 0, 1) := by decide +kernel
theorem dX5_rose_1 : decode cX5_rose 1 = .ok (.getfield 12, 3) := by decide +kernel
theorem dX5_rose_4 : decode cX5_rose 4 = .ok (.iload_n 1, 1) := by decide +kernel
theorem dX5_rose_5 : decode cX5_rose 5 = .ok (.invokevirtual 71, 3) := by decide +kernel
theorem dX5_rose_8 : decode cX5_rose 8 = .ok (.ifCond .eq 14, 3) := by decide +kernel
theorem dX5_rose_11 : decode cX5_rose 11 = .ok (.aload_n 0, 1) := by decide +kernel
theorem dX5_rose_12 : decode cX5_rose 12 = .ok (.getfield 19, 3) := by decide +kernel
theorem dX5_rose_15 : decode cX5_rose 15 = .ok (.iload_n 1, 1) := by decide +kernel
theorem dX5_rose_16 : decode cX5_rose 16 = .ok (.invokevirtual 112, 3) := by decide +kernel
theorem dX5_rose_19 : decode cX5_rose 19 = .ok (.goto 5, 3) := by decide +kernel
theorem dX5_rose_22 : decode cX5_rose 22 = .ok (.ldc 111, 2) := by decide +kernel
theorem dX5_rose_24 : decode cX5_rose 24 = .ok (.ireturn, 1) := by decide +kernel
set_option maxRecDepth 20000 in
theorem ggX5_lot_X5_within : GoodIn wsX5_lot wsX5_within := goodIn_r _ [5] (by decide +kernel) (by decide +kernel)
set_option maxRecDepth 20000 in
theorem gX5_lot_X5_within : GoodIn wsX5_lot (va_wsS RX5 44 yX5_within wsX5_within) := goodIn_app (goodIn_of _ (by decide +kernel)) ggX5_lot_X5_within
set_option maxRecDepth 20000 in
theorem ggX5_lot_X5_mayHaveWon : GoodIn wsX5_lot wsX5_mayHaveWon := goodIn_r _ [8, 9, 10, 4, 11, 2, 3, 5] (by decide +kernel) (by decide +kernel)
set_option maxRecDepth 20000 in
theorem gX5_lot_X5_mayHaveWon : GoodIn wsX5_lot (va_wsS RX5 115 yX5_mayHaveWon wsX5_mayHaveWon) := goodIn_app (goodIn_of _ (by decide +kernel)) ggX5_lot_X5_mayHaveWon
set_option maxRecDepth 20000 in
theorem ggX5_lot_X0_addLot : GoodIn wsX5_lot wsX0_addLot := goodIn_r _ [16, 17, 18, 19, 20, 26, 27, 28, 29] (by decide +kernel) (by decide +kernel)
set_option maxRecDepth 20000 in
theorem gX5_lot_X0_addLot : GoodIn wsX5_lot (wsV RX5 118 RX0 yX0_addLot wsX0_addLot) := goodIn_app (goodIn_of _ (by decide +kernel)) ggX5_lot_X0_addLot
theorem dX5_lot_0 : decode cX5_lot 0 = .ok (.iload_n 1, 1) := by decide +kernel
theorem dX5_lot_1 : decode cX5_lot 1 = .ok (.iconst 0, 1) := by decide +kernel
theorem dX5_lot_2 : decode cX5_lot 2 = .ok (.sipush 255, 3) := by decide +kernel
theorem dX5_lot_5 : decode cX5_lot 5 = .ok (.invokestatic 44, 3) := by decide +kernel
theorem dX5_lot_8 : decode cX5_lot 8 = .ok (.ifCond .eq 22, 3) := by decide +kernel
theorem dX5_lot_11 : decode cX5_lot 11 = .ok (.iload_n 2, 1) := by decide +kernel
theorem dX5_lot_12 : decode cX5_lot 12 = .ok (.iconst 0, 1) := by decide +kernel
theorem dX5_lot_13 : decode cX5_lot 13 = .ok (.sipush 255, 3) := by decide +kernel
theorem dX5_lot_16 : decode cX5_lot 16 = .ok (.invokestatic 44, 3) := by decide +kernel
theorem dX5_lot_19 : decode cX5_lot 19 = .ok (.ifCond .eq 11, 3) := by decide +kernel
theorem dX5_lot_22 : decode cX5_lot 22 = .ok (.iload_n 2, 1) := by decide +kernel
theorem dX5_lot_23 : decode cX5_lot 23 = .ok (.iload_n 1, 1) := by decide +kernel
theorem dX5_lot_24 : decode cX5_lot 24 = .ok (.iconst (-1), 1) := by decide +kernel
theorem dX5_lot_25 : decode cX5_lot 25 = .ok (.ixor, 1) := by decide +kernel
theorem dX5_lot_26 : decode cX5_lot 26 = .ok (.iand, 1) := by decide +kernel
theorem dX5_lot_27 : decode cX5_lot 27 = .ok (.ifCond .eq 6, 3) := by decide +kernel
theorem dX5_lot_30 : decode cX5_lot 30 = .ok (.bipush (-2), 2) := by decide +kernel
theorem dX5_lot_32 : decode cX5_lot 32 = .ok (.ireturn, 1) := by decide +kernel
theorem dX5_lot_33 : decode cX5_lot 33 = .ok (.iload_n 2, 1) := by decide +kernel
theorem dX5_lot_34 : decode cX5_lot 34 = .ok (.iload_n 3, 1) := by decide +kernel
theorem dX5_lot_35 : decode cX5_lot 35 = .ok (.invokestatic 115, 3) := by decide +kernel
theorem dX5_lot_38 : decode cX5_lot 38 = .ok (.ifCond .ne 6, 3) := by decide +kernel
theorem dX5_lot_41 : decode cX5_lot 41 = .ok (.bipush (-2), 2) := by decide +kernel
theorem dX5_lot_43 : decode cX5_lot 43 = .ok (.ireturn, 1) := by decide +kernel
theorem dX5_lot_44 : decode cX5_lot 44 = .ok (.aload_n 0, 1) := by decide +kernel
theorem dX5_lot_45 : decode cX5_lot 45 = .ok (.getfield 26, 3) := by decide +kernel
theorem dX5_lot_48 : decode cX5_lot 48 = .ok (.iload_n 1, 1) := by decide +kernel
theorem dX5_lot_49 : decode cX5_lot 49 = .ok (.iload_n 2, 1) := by decide +kernel
theorem dX5_lot_50 : decode cX5_lot 50 = .ok (.iload_n 3, 1) := by decide +kernel
theorem dX5_lot_51 : decode cX5_lot 51 = .ok (.invokevirtual 118, 3) := by decide +kernel
theorem dX5_lot_54 : decode cX5_lot 54 = .ok (.ireturn, 1) := by decide +kernel
set_option maxRecDepth 20000 in
theorem ggX5_both_X5_areTwo : GoodIn wsX5_both wsX5_areTwo := goodIn_r _ [5, 6, 7, 4, 8, 9, 10, 11] (by decide +kernel) (by decide +kernel)
set_option maxRecDepth 20000 in
theorem gX5_both_X5_areTwo : GoodIn wsX5_both (va_wsS RX5 121 yX5_areTwo wsX5_areTwo) := goodIn_app (goodIn_of _ (by decide +kernel)) ggX5_both_X5_areTwo
set_option maxRecDepth 20000 in
theorem ggX5_both_X5_within : GoodIn wsX5_both wsX5_within := goodIn_r _ [11] (by decide +kernel) (by decide +kernel)
set_option maxRecDepth 20000 in
theorem gX5_both_X5_within : GoodIn wsX5_both (va_wsS RX5 44 yX5_within wsX5_within) := goodIn_app (goodIn_of _ (by decide +kernel)) ggX5_both_X5_within
set_option maxRecDepth 20000 in
theorem ggX5_both_X0_tally : GoodIn wsX5_both wsX0_tally := goodIn_r _ [16, 17, 18, 19, 25, 26, 27, 28] (by decide +kernel) (by decide +kernel)
set_option maxRecDepth 20000 in
theorem gX5_both_X0_tally : GoodIn wsX5_both (wsV RX5 124 RX0 yX0_tally wsX0_tally) := goodIn_app (goodIn_of _ (by decide +kernel)) ggX5_both_X0_tally
theorem dX5_both_0 : decode cX5_both 0 = .ok (.iload_n 1, 1) := by decide +kernel
theorem dX5_both_1 : decode cX5_both 1 = .ok (.iload_n 2, 1) := by decide +kernel
theorem dX5_both_2 : decode cX5_both 2 = .ok (.invokestatic 121, 3) := by decide +kernel
theorem dX5_both_5 : decode cX5_both 5 = .ok (.ifCond .eq 12, 3) := by decide +kernel
theorem dX5_both_8 : decode cX5_both 8 = .ok (.iload_n 3, 1) := by decide +kernel
theorem dX5_both_9 : decode cX5_both 9 = .ok (.iconst 0, 1) := by decide +kernel
theorem dX5_both_10 : decode cX5_both 10 = .ok (.iconst 3, 1) := by decide +kernel
theorem dX5_both_11 : decode cX5_both 11 = .ok (.invokestatic 44, 3) := by decide +kernel
theorem dX5_both_14 : decode cX5_both 14 = .ok (.ifCond .ne 6, 3) := by decide +kernel
theorem dX5_both_17 : decode cX5_both 17 = .ok (.bipush (-2), 2) := by decide +kernel
theorem dX5_both_19 : decode cX5_both 19 = .ok (.ireturn, 1) := by decide +kernel
theorem dX5_both_20 : decode cX5_both 20 = .ok (.aload_n 0, 1) := by decide +kernel
theorem dX5_both_21 : decode cX5_both 21 = .ok (.getfield 26, 3) := by decide +kernel
theorem dX5_both_24 : decode cX5_both 24 = .ok (.iload_n 1, 1) := by decide +kernel
theorem dX5_both_25 : decode cX5_both 25 = .ok (.iload_n 2, 1) := by decide +kernel
theorem dX5_both_26 : decode cX5_both 26 = .ok (.iload_n 3, 1) := by decide +kernel
theorem dX5_both_27 : decode cX5_both 27 = .ok (.invokevirtual 124, 3) := by decide +kernel
theorem dX5_both_30 : decode cX5_both 30 = .ok (.ireturn, 1) := by decide +kernel
set_option maxRecDepth 20000 in
theorem ggX5_chance_X5_areTwo : GoodIn wsX5_chance wsX5_areTwo := goodIn_r _ [10, 11, 12, 9, 13, 14, 15, 16] (by decide +kernel) (by decide +kernel)
set_option maxRecDepth 20000 in
theorem gX5_chance_X5_areTwo : GoodIn wsX5_chance (va_wsS RX5 121 yX5_areTwo wsX5_areTwo) := goodIn_app (goodIn_of _ (by decide +kernel)) ggX5_chance_X5_areTwo
set_option maxRecDepth 20000 in
theorem ggX5_chance_X5_within : GoodIn wsX5_chance wsX5_within := goodIn_r _ [16] (by decide +kernel) (by decide +kernel)
set_option maxRecDepth 20000 in
theorem gX5_chance_X5_within : GoodIn wsX5_chance (va_wsS RX5 44 yX5_within wsX5_within) := goodIn_app (goodIn_of _ (by decide +kernel)) ggX5_chance_X5_within
set_option maxRecDepth 20000 in
theorem ggX5_chance_X0_waysAsShy : GoodIn wsX5_chance wsX0_waysAsShy := goodIn_r _ [21, 22, 23, 5, 24, 25, 26, 27, 20, 28, 29, 30, 31, 32, 33, 34, 47, 48, 49, 50] (by decide +kernel) (by decide +kernel)
set_option maxRecDepth 20000 in
theorem gX5_chance_X0_waysAsShy : GoodIn wsX5_chance (wsV RX5 129 RX0 yX0_waysAsShy wsX0_waysAsShy) := goodIn_app (goodIn_of _ (by decide +kernel)) ggX5_chance_X0_waysAsShy
set_option maxRecDepth 20000 in
theorem ggX5_chance_X0_allWays : GoodIn wsX5_chance wsX0_allWays := goodIn_r _ [38, 25, 26, 27, 20, 28, 29, 30, 31, 32, 33, 34, 47, 48, 49, 50] (by decide +kernel) (by decide +kernel)
set_option maxRecDepth 20000 in
theorem gX5_chance_X0_allWays : GoodIn wsX5_chance (wsV RX5 133 RX0 yX0_allWays wsX0_allWays) := goodIn_app (goodIn_of _ (by decide +kernel)) ggX5_chance_X0_allWays
set_option maxRecDepth 20000 in
theorem ggX5_chance_X0_commonDivisor : GoodIn wsX5_chance wsX0_commonDivisor := goodIn_r _ [41] (by decide +kernel) (by decide +kernel)
set_option maxRecDepth 20000 in
theorem gX5_chance_X0_commonDivisor : GoodIn wsX5_chance (va_wsS RX5 136 yX0_commonDivisor wsX0_commonDivisor) := goodIn_app (goodIn_of _ (by decide +kernel)) ggX5_chance_X0_commonDivisor
theorem dX5_chance_0 : decode cX5_chance 0 = .ok (.iload_n 1, 1) := by decide +kernel
theorem dX5_chance_1 : decode cX5_chance 1 = .ok (.iload_n 2, 1) := by decide +kernel
theorem dX5_chance_2 : decode cX5_chance 2 = .ok (.invokestatic 121, 3) := by decide +kernel
theorem dX5_chance_5 : decode cX5_chance 5 = .ok (.ifCond .eq 12, 3) := by decide +kernel
theorem dX5_chance_8 : decode cX5_chance 8 = .ok (.iload_n 3, 1) := by decide +kernel
theorem dX5_chance_9 : decode cX5_chance 9 = .ok (.iconst 0, 1) := by decide +kernel
theorem dX5_chance_10 : decode cX5_chance 10 = .ok (.iconst 1, 1) := by decide +kernel
theorem dX5_chance_11 : decode cX5_chance 11 = .ok (.invokestatic 44, 3) := by decide +kernel
theorem dX5_chance_14 : decode cX5_chance 14 = .ok (.ifCond .ne 7, 3) := by decide +kernel
theorem dX5_chance_17 : decode cX5_chance 17 = .ok (.ldc2_w 127, 3) := by decide +kernel
theorem dX5_chance_20 : decode cX5_chance 20 = .ok (.lreturn, 1) := by decide +kernel
theorem dX5_chance_21 : decode cX5_chance 21 = .ok (.aload_n 0, 1) := by decide +kernel
theorem dX5_chance_22 : decode cX5_chance 22 = .ok (.getfield 26, 3) := by decide +kernel
theorem dX5_chance_25 : decode cX5_chance 25 = .ok (.iload_n 1, 1) := by decide +kernel
theorem dX5_chance_26 : decode cX5_chance 26 = .ok (.iload_n 2, 1) := by decide +kernel
theorem dX5_chance_27 : decode cX5_chance 27 = .ok (.invokevirtual 129, 3) := by decide +kernel
theorem dX5_chance_30 : decode cX5_chance 30 = .ok (.lstore 4, 2) := by decide +kernel
theorem dX5_chance_32 : decode cX5_chance 32 = .ok (.aload_n 0, 1) := by decide +kernel
theorem dX5_chance_33 : decode cX5_chance 33 = .ok (.getfield 26, 3) := by decide +kernel
theorem dX5_chance_36 : decode cX5_chance 36 = .ok (.iload_n 1, 1) := by decide +kernel
theorem dX5_chance_37 : decode cX5_chance 37 = .ok (.iload_n 2, 1) := by decide +kernel
theorem dX5_chance_38 : decode cX5_chance 38 = .ok (.invokevirtual 133, 3) := by decide +kernel
theorem dX5_chance_41 : decode cX5_chance 41 = .ok (.lstore 6, 2) := by decide +kernel
theorem dX5_chance_43 : decode cX5_chance 43 = .ok (.lconst 1, 1) := by decide +kernel
theorem dX5_chance_44 : decode cX5_chance 44 = .ok (.lload 4, 2) := by decide +kernel
theorem dX5_chance_46 : decode cX5_chance 46 = .ok (.lload 6, 2) := by decide +kernel
theorem dX5_chance_48 : decode cX5_chance 48 = .ok (.invokestatic 136, 3) := by decide +kernel
theorem dX5_chance_51 : decode cX5_chance 51 = .ok (.invokestatic 140, 3) := by decide +kernel
theorem dX5_chance_54 : decode cX5_chance 54 = .ok (.lstore 8, 2) := by decide +kernel
theorem dX5_chance_56 : decode cX5_chance 56 = .ok (.iload_n 3, 1) := by decide +kernel
theorem dX5_chance_57 : decode cX5_chance 57 = .ok (.ifCond .ne 8, 3) := by decide +kernel
theorem dX5_chance_60 : decode cX5_chance 60 = .ok (.lload 4, 2) := by decide +kernel
theorem dX5_chance_62 : decode cX5_chance 62 = .ok (.goto 5, 3) := by decide +kernel
theorem dX5_chance_65 : decode cX5_chance 65 = .ok (.lload 6, 2) := by decide +kernel
theorem dX5_chance_67 : decode cX5_chance 67 = .ok (.lload 8, 2) := by decide +kernel
theorem dX5_chance_69 : decode cX5_chance 69 = .ok (.ldiv, 1) := by decide +kernel
theorem dX5_chance_70 : decode cX5_chance 70 = .ok (.lreturn, 1) := by decide +kernel
set_option maxRecDepth 20000 in
theorem ggX5_shyest_X0_shyestTwo : GoodIn wsX5_shyest wsX0_shyestTwo := goodIn_r _ [6, 7, 8, 9, 5, 10, 11, 12, 13, 14, 15, 16, 17, 18, 19, 20, 21, 22, 23, 24, 25, 26, 27, 28, 29, 30, 31, 32, 38, 39, 40, 41] (by decide +kernel) (by decide +kernel)
set_option maxRecDepth 20000 in
theorem gX5_shyest_X0_shyestTwo : GoodIn wsX5_shyest (wsV RX5 145 RX0 yX0_shyestTwo wsX0_shyestTwo) := goodIn_app (goodIn_of _ (by decide +kernel)) ggX5_shyest_X0_shyestTwo
theorem dX5_shyest_0 : decode cX5_shyest 0 = .ok (.aload_n 0, 1) := by decide +kernel
theorem dX5_shyest_1 : decode cX5_shyest 1 = .ok (.getfield 26, 3) := by decide +kernel
theorem dX5_shyest_4 : decode cX5_shyest 4 = .ok (.invokevirtual 145, 3) := by decide +kernel
theorem dX5_shyest_7 : decode cX5_shyest 7 = .ok (.ireturn, 1) := by decide +kernel
set_option maxRecDepth 20000 in
theorem ggX5_inside_X5_within : GoodIn wsX5_inside wsX5_within := goodIn_r _ [5] (by decide +kernel) (by decide +kernel)
set_option maxRecDepth 20000 in
theorem gX5_inside_X5_within : GoodIn wsX5_inside (va_wsS RX5 44 yX5_within wsX5_within) := goodIn_app (goodIn_of _ (by decide +kernel)) ggX5_inside_X5_within
set_option maxRecDepth 20000 in
theorem ggX5_inside_J6_bitCount_0f7a4 : GoodIn wsX5_inside wsJ6_bitCount_0f7a4 := goodIn_r _ [9, 10, 11, 12] (by decide +kernel) (by decide +kernel)
set_option maxRecDepth 20000 in
theorem gX5_inside_J6_bitCount_0f7a4 : GoodIn wsX5_inside (va_wsS RX5 148 yJ6_bitCount_0f7a4 wsJ6_bitCount_0f7a4) := goodIn_app (goodIn_of _ (by decide +kernel)) ggX5_inside_J6_bitCount_0f7a4
theorem dX5_inside_0 : decode cX5_inside 0 = .ok (.iload_n 1, 1) := by decide +kernel
theorem dX5_inside_1 : decode cX5_inside 1 = .ok (.iconst 0, 1) := by decide +kernel
theorem dX5_inside_2 : decode cX5_inside 2 = .ok (.sipush 255, 3) := by decide +kernel
theorem dX5_inside_5 : decode cX5_inside 5 = .ok (.invokestatic 44, 3) := by decide +kernel
theorem dX5_inside_8 : decode cX5_inside 8 = .ok (.ifCond .eq 33, 3) := by decide +kernel
theorem dX5_inside_11 : decode cX5_inside 11 = .ok (.iload_n 2, 1) := by decide +kernel
theorem dX5_inside_12 : decode cX5_inside 12 = .ok (.iconst 0, 1) := by decide +kernel
theorem dX5_inside_13 : decode cX5_inside 13 = .ok (.ldc 93, 2) := by decide +kernel
theorem dX5_inside_15 : decode cX5_inside 15 = .ok (.invokestatic 44, 3) := by decide +kernel
theorem dX5_inside_18 : decode cX5_inside 18 = .ok (.ifCond .eq 23, 3) := by decide +kernel
theorem dX5_inside_21 : decode cX5_inside 21 = .ok (.iload_n 3, 1) := by decide +kernel
theorem dX5_inside_22 : decode cX5_inside 22 = .ok (.iload_n 2, 1) := by decide +kernel
theorem dX5_inside_23 : decode cX5_inside 23 = .ok (.ldc 93, 2) := by decide +kernel
theorem dX5_inside_25 : decode cX5_inside 25 = .ok (.invokestatic 44, 3) := by decide +kernel
theorem dX5_inside_28 : decode cX5_inside 28 = .ok (.ifCond .eq 13, 3) := by decide +kernel
theorem dX5_inside_31 : decode cX5_inside 31 = .ok (.iload 4, 2) := by decide +kernel
theorem dX5_inside_33 : decode cX5_inside 33 = .ok (.iconst 0, 1) := by decide +kernel
theorem dX5_inside_34 : decode cX5_inside 34 = .ok (.iconst 1, 1) := by decide +kernel
theorem dX5_inside_35 : decode cX5_inside 35 = .ok (.invokestatic 44, 3) := by decide +kernel
theorem dX5_inside_38 : decode cX5_inside 38 = .ok (.ifCond .ne 6, 3) := by decide +kernel
theorem dX5_inside_41 : decode cX5_inside 41 = .ok (.bipush (-2), 2) := by decide +kernel
theorem dX5_inside_43 : decode cX5_inside 43 = .ok (.ireturn, 1) := by decide +kernel
theorem dX5_inside_44 : decode cX5_inside 44 = .ok (.iload_n 1, 1) := by decide +kernel
theorem dX5_inside_45 : decode cX5_inside 45 = .ok (.invokestatic 148, 3) := by decide +kernel
theorem dX5_inside_48 : decode cX5_inside 48 = .ok (.istore 5, 2) := by decide +kernel
theorem dX5_inside_50 : decode cX5_inside 50 = .ok (.iload 5, 2) := by decide +kernel
theorem dX5_inside_52 : decode cX5_inside 52 = .ok (.iconst 2, 1) := by decide +kernel
theorem dX5_inside_53 : decode cX5_inside 53 = .ok (.if_icmp .ge 6, 3) := by decide +kernel
theorem dX5_inside_56 : decode cX5_inside 56 = .ok (.bipush (-2), 2) := by decide +kernel
theorem dX5_inside_58 : decode cX5_inside 58 = .ok (.ireturn, 1) := by decide +kernel
theorem dX5_inside_59 : decode cX5_inside 59 = .ok (.iload_n 3, 1) := by decide +kernel
theorem dX5_inside_60 : decode cX5_inside 60 = .ok (.iload_n 2, 1) := by decide +kernel
theorem dX5_inside_61 : decode cX5_inside 61 = .ok (.isub, 1) := by decide +kernel
theorem dX5_inside_62 : decode cX5_inside 62 = .ok (.iload 5, 2) := by decide +kernel
theorem dX5_inside_64 : decode cX5_inside 64 = .ok (.idiv, 1) := by decide +kernel
theorem dX5_inside_65 : decode cX5_inside 65 = .ok (.istore 6, 2) := by decide +kernel
theorem dX5_inside_67 : decode cX5_inside 67 = .ok (.iload 4, 2) := by decide +kernel
theorem dX5_inside_69 : decode cX5_inside 69 = .ok (.ifCond .ne 8, 3) := by decide +kernel
theorem dX5_inside_72 : decode cX5_inside 72 = .ok (.iload 6, 2) := by decide +kernel
theorem dX5_inside_74 : decode cX5_inside 74 = .ok (.goto 14, 3) := by decide +kernel
theorem dX5_inside_77 : decode cX5_inside 77 = .ok (.iload_n 3, 1) := by decide +kernel
theorem dX5_inside_78 : decode cX5_inside 78 = .ok (.iload_n 2, 1) := by decide +kernel
theorem dX5_inside_79 : decode cX5_inside 79 = .ok (.isub, 1) := by decide +kernel
theorem dX5_inside_80 : decode cX5_inside 80 = .ok (.iload 6, 2) := by decide +kernel
theorem dX5_inside_82 : decode cX5_inside 82 = .ok (.iload 5, 2) := by decide +kernel
theorem dX5_inside_84 : decode cX5_inside 84 = .ok (.iconst 1, 1) := by decide +kernel
theorem dX5_inside_85 : decode cX5_inside 85 = .ok (.isub, 1) := by decide +kernel
theorem dX5_inside_86 : decode cX5_inside 86 = .ok (.imul, 1) := by decide +kernel
theorem dX5_inside_87 : decode cX5_inside 87 = .ok (.isub, 1) := by decide +kernel
theorem dX5_inside_88 : decode cX5_inside 88 = .ok (.ireturn, 1) := by decide +kernel
set_option maxRecDepth 20000 in
theorem ggX5_entry_X5_within : GoodIn wsX5_entry wsX5_within := goodIn_r _ [5] (by decide +kernel) (by decide +kernel)
set_option maxRecDepth 20000 in
theorem gX5_entry_X5_within : GoodIn wsX5_entry (va_wsS RX5 44 yX5_within wsX5_within) := goodIn_app (goodIn_of _ (by decide +kernel)) ggX5_entry_X5_within
set_option maxRecDepth 20000 in
theorem ggX5_entry_X3_addEntry : GoodIn wsX5_entry wsX3_addEntry := goodIn_r _ [10, 11, 12, 18, 19, 20, 21, 22, 23] (by decide +kernel) (by decide +kernel)
set_option maxRecDepth 20000 in
theorem gX5_entry_X3_addEntry : GoodIn wsX5_entry (wsV RX5 153 RX3 yX3_addEntry wsX3_addEntry) := goodIn_app (goodIn_of _ (by decide +kernel)) ggX5_entry_X3_addEntry
theorem dX5_entry_0 : decode cX5_entry 0 = .ok (.iload_n 1, 1) := by decide +kernel
theorem dX5_entry_1 : decode cX5_entry 1 = .ok (.iconst 0, 1) := by decide +kernel
theorem dX5_entry_2 : decode cX5_entry 2 = .ok (.sipush 4095, 3) := by decide +kernel
theorem dX5_entry_5 : decode cX5_entry 5 = .ok (.invokestatic 44, 3) := by decide +kernel
theorem dX5_entry_8 : decode cX5_entry 8 = .ok (.ifCond .ne 6, 3) := by decide +kernel
theorem dX5_entry_11 : decode cX5_entry 11 = .ok (.bipush (-2), 2) := by decide +kernel
theorem dX5_entry_13 : decode cX5_entry 13 = .ok (.ireturn, 1) := by decide +kernel
theorem dX5_entry_14 : decode cX5_entry 14 = .ok (.aload_n 0, 1) := by decide +kernel
theorem dX5_entry_15 : decode cX5_entry 15 = .ok (.getfield 33, 3) := by decide +kernel
theorem dX5_entry_18 : decode cX5_entry 18 = .ok (.iload_n 1, 1) := by decide +kernel
theorem dX5_entry_19 : decode cX5_entry 19 = .ok (.invokevirtual 153, 3) := by decide +kernel
theorem dX5_entry_22 : decode cX5_entry 22 = .ok (.ireturn, 1) := by decide +kernel
set_option maxRecDepth 20000 in
theorem ggX5_mark_X2_hasThing : GoodIn wsX5_mark wsX2_hasThing := goodIn_r _ [7, 8, 9, 10, 11, 25, 26, 27, 28, 29] (by decide +kernel) (by decide +kernel)
set_option maxRecDepth 20000 in
theorem gX5_mark_X2_hasThing : GoodIn wsX5_mark (wsV RX5 71 RX2 yX2_hasThing wsX2_hasThing) := goodIn_app (goodIn_of _ (by decide +kernel)) ggX5_mark_X2_hasThing
set_option maxRecDepth 20000 in
theorem ggX5_mark_X5_within : GoodIn wsX5_mark wsX5_within := goodIn_r _ [11] (by decide +kernel) (by decide +kernel)
set_option maxRecDepth 20000 in
theorem gX5_mark_X5_within : GoodIn wsX5_mark (va_wsS RX5 44 yX5_within wsX5_within) := goodIn_app (goodIn_of _ (by decide +kernel)) ggX5_mark_X5_within
set_option maxRecDepth 20000 in
theorem ggX5_mark_X3_changeMark : GoodIn wsX5_mark wsX3_changeMark := goodIn_r _ [17, 18, 19, 30, 31, 32, 33, 34, 35] (by decide +kernel) (by decide +kernel)
set_option maxRecDepth 20000 in
theorem gX5_mark_X3_changeMark : GoodIn wsX5_mark (wsV RX5 156 RX3 yX3_changeMark wsX3_changeMark) := goodIn_app (goodIn_of _ (by decide +kernel)) ggX5_mark_X3_changeMark
theorem dX5_mark_0 : decode cX5_mark 0 = .ok (.aload_n 0, 1) := by decide +kernel
theorem dX5_mark_1 : decode cX5_mark 1 = .ok (.getfield 12, 3) := by decide +kernel
theorem dX5_mark_4 : decode cX5_mark 4 = .ok (.iload_n 1, 1) := by decide +kernel
theorem dX5_mark_5 : decode cX5_mark 5 = .ok (.invokevirtual 71, 3) := by decide +kernel
theorem dX5_mark_8 : decode cX5_mark 8 = .ok (.ifCond .eq 22, 3) := by decide +kernel
theorem dX5_mark_11 : decode cX5_mark 11 = .ok (.iload_n 2, 1) := by decide +kernel
theorem dX5_mark_12 : decode cX5_mark 12 = .ok (.iconst 0, 1) := by decide +kernel
theorem dX5_mark_13 : decode cX5_mark 13 = .ok (.bipush 11, 2) := by decide +kernel
theorem dX5_mark_15 : decode cX5_mark 15 = .ok (.invokestatic 44, 3) := by decide +kernel
theorem dX5_mark_18 : decode cX5_mark 18 = .ok (.ifCond .eq 12, 3) := by decide +kernel
theorem dX5_mark_21 : decode cX5_mark 21 = .ok (.iload_n 3, 1) := by decide +kernel
theorem dX5_mark_22 : decode cX5_mark 22 = .ok (.iconst 0, 1) := by decide +kernel
theorem dX5_mark_23 : decode cX5_mark 23 = .ok (.iconst 2, 1) := by decide +kernel
theorem dX5_mark_24 : decode cX5_mark 24 = .ok (.invokestatic 44, 3) := by decide +kernel
theorem dX5_mark_27 : decode cX5_mark 27 = .ok (.ifCond .ne 6, 3) := by decide +kernel
theorem dX5_mark_30 : decode cX5_mark 30 = .ok (.bipush (-2), 2) := by decide +kernel
theorem dX5_mark_32 : decode cX5_mark 32 = .ok (.ireturn, 1) := by decide +kernel
theorem dX5_mark_33 : decode cX5_mark 33 = .ok (.aload_n 0, 1) := by decide +kernel
theorem dX5_mark_34 : decode cX5_mark 34 = .ok (.getfield 33, 3) := by decide +kernel
theorem dX5_mark_37 : decode cX5_mark 37 = .ok (.iload_n 1, 1) := by decide +kernel
theorem dX5_mark_38 : decode cX5_mark 38 = .ok (.iload_n 2, 1) := by decide +kernel
theorem dX5_mark_39 : decode cX5_mark 39 = .ok (.iload_n 3, 1) := by decide +kernel
theorem dX5_mark_40 : decode cX5_mark 40 = .ok (.invokevirtual 156, 3) := by decide +kernel
theorem dX5_mark_43 : decode cX5_mark 43 = .ok (.ireturn, 1) := by decide +kernel
set_option maxRecDepth 20000 in
theorem ggX5_score_X3_hasEntry : GoodIn wsX5_score wsX3_hasEntry := goodIn_r _ [7, 8, 9, 10, 11, 37, 38, 39, 40, 41, 42] (by decide +kernel) (by decide +kernel)
set_option maxRecDepth 20000 in
theorem gX5_score_X3_hasEntry : GoodIn wsX5_score (wsV RX5 159 RX3 yX3_hasEntry wsX3_hasEntry) := goodIn_app (goodIn_of _ (by decide +kernel)) ggX5_score_X3_hasEntry
set_option maxRecDepth 20000 in
theorem ggX5_score_X2_hasThing : GoodIn wsX5_score wsX2_hasThing := goodIn_r _ [16, 17, 9, 10, 11, 43, 44, 45, 46, 47] (by decide +kernel) (by decide +kernel)
set_option maxRecDepth 20000 in
theorem gX5_score_X2_hasThing : GoodIn wsX5_score (wsV RX5 71 RX2 yX2_hasThing wsX2_hasThing) := goodIn_app (goodIn_of _ (by decide +kernel)) ggX5_score_X2_hasThing
set_option maxRecDepth 20000 in
theorem ggX5_score_X3_scoreOf : GoodIn wsX5_score wsX3_scoreOf := goodIn_r _ [21, 22, 23, 24, 25, 26, 27, 28, 29, 30, 31, 37, 38, 39, 40, 41, 42] (by decide +kernel) (by decide +kernel)
set_option maxRecDepth 20000 in
theorem gX5_score_X3_scoreOf : GoodIn wsX5_score (wsV RX5 162 RX3 yX3_scoreOf wsX3_scoreOf) := goodIn_app (goodIn_of _ (by decide +kernel)) ggX5_score_X3_scoreOf
theorem dX5_score_0 : decode cX5_score 0 = .ok (.aload_n 0, 1) := by decide +kernel
theorem dX5_score_1 : decode cX5_score 1 = .ok (.getfield 33, 3) := by decide +kernel
theorem dX5_score_4 : decode cX5_score 4 = .ok (.iload_n 1, 1) := by decide +kernel
theorem dX5_score_5 : decode cX5_score 5 = .ok (.invokevirtual 159, 3) := by decide +kernel
theorem dX5_score_8 : decode cX5_score 8 = .ok (.ifCond .eq 14, 3) := by decide +kernel
theorem dX5_score_11 : decode cX5_score 11 = .ok (.aload_n 0, 1) := by decide +kernel
theorem dX5_score_12 : decode cX5_score 12 = .ok (.getfield 12, 3) := by decide +kernel
theorem dX5_score_15 : decode cX5_score 15 = .ok (.iload_n 2, 1) := by decide +kernel
theorem dX5_score_16 : decode cX5_score 16 = .ok (.invokevirtual 71, 3) := by decide +kernel
theorem dX5_score_19 : decode cX5_score 19 = .ok (.ifCond .ne 7, 3) := by decide +kernel
theorem dX5_score_22 : decode cX5_score 22 = .ok (.sipush (-1000), 3) := by decide +kernel
theorem dX5_score_25 : decode cX5_score 25 = .ok (.ireturn, 1) := by decide +kernel
theorem dX5_score_26 : decode cX5_score 26 = .ok (.aload_n 0, 1) := by decide +kernel
theorem dX5_score_27 : decode cX5_score 27 = .ok (.getfield 33, 3) := by decide +kernel
theorem dX5_score_30 : decode cX5_score 30 = .ok (.iload_n 1, 1) := by decide +kernel
theorem dX5_score_31 : decode cX5_score 31 = .ok (.iload_n 2, 1) := by decide +kernel
theorem dX5_score_32 : decode cX5_score 32 = .ok (.invokevirtual 162, 3) := by decide +kernel
theorem dX5_score_35 : decode cX5_score 35 = .ok (.ireturn, 1) := by decide +kernel
set_option maxRecDepth 20000 in
theorem ggX5_joined_X3_isJoinable : GoodIn wsX5_joined wsX3_isJoinable := goodIn_r _ [7, 8, 71, 72, 73, 74, 75, 76] (by decide +kernel) (by decide +kernel)
set_option maxRecDepth 20000 in
theorem gX5_joined_X3_isJoinable : GoodIn wsX5_joined (wsV RX5 165 RX3 yX3_isJoinable wsX3_isJoinable) := goodIn_app (goodIn_of _ (by decide +kernel)) ggX5_joined_X3_isJoinable
set_option maxRecDepth 20000 in
theorem ggX5_joined_X2_thingCount : GoodIn wsX5_joined wsX2_thingCount := goodIn_r _ [13, 14, 77, 78, 79, 80, 81] (by decide +kernel) (by decide +kernel)
set_option maxRecDepth 20000 in
theorem gX5_joined_X2_thingCount : GoodIn wsX5_joined (wsV RX5 169 RX2 yX2_thingCount wsX2_thingCount) := goodIn_app (goodIn_of _ (by decide +kernel)) ggX5_joined_X2_thingCount
set_option maxRecDepth 20000 in
theorem ggX5_joined_X3_bestJoin : GoodIn wsX5_joined wsX3_bestJoin := goodIn_r _ [18, 8, 19, 20, 21, 22, 23, 24, 25, 26, 27, 28, 29, 30, 6, 31, 32, 33, 34, 35, 36, 37, 38, 39, 40, 41, 42, 43, 44, 45, 46, 47, 48, 49, 50, 51, 52, 53, 54, 55, 56, 57, 58, 59, 60, 61, 62, 71, 72, 73, 74, 75, 76] (by decide +kernel) (by decide +kernel)
set_option maxRecDepth 20000 in
theorem gX5_joined_X3_bestJoin : GoodIn wsX5_joined (wsV RX5 172 RX3 yX3_bestJoin wsX3_bestJoin) := goodIn_app (goodIn_of _ (by decide +kernel)) ggX5_joined_X3_bestJoin
set_option maxRecDepth 20000 in
theorem ggX5_joined_X3_sumIn : GoodIn wsX5_joined wsX3_sumIn := goodIn_r _ [65, 33] (by decide +kernel) (by decide +kernel)
set_option maxRecDepth 20000 in
theorem gX5_joined_X3_sumIn : GoodIn wsX5_joined (va_wsS RX5 175 yX3_sumIn wsX3_sumIn) := goodIn_app (goodIn_of _ (by decide +kernel)) ggX5_joined_X3_sumIn
theorem dX5_joined_0 : decode cX5_joined 0 = .ok (.aload_n 0, 1) := by decide +kernel
theorem dX5_joined_1 : decode cX5_joined 1 = .ok (.getfield 33, 3) := by decide +kernel
theorem dX5_joined_4 : decode cX5_joined 4 = .ok (.invokevirtual 165, 3) := by decide +kernel
theorem dX5_joined_7 : decode cX5_joined 7 = .ok (.ifCond .ne 6, 3) := by decide +kernel
theorem dX5_joined_10 : decode cX5_joined 10 = .ok (.bipush (-3), 2) := by decide +kernel
theorem dX5_joined_12 : decode cX5_joined 12 = .ok (.ireturn, 1) := by decide +kernel
theorem dX5_joined_13 : decode cX5_joined 13 = .ok (.aload_n 0, 1) := by decide +kernel
theorem dX5_joined_14 : decode cX5_joined 14 = .ok (.getfield 33, 3) := by decide +kernel
theorem dX5_joined_17 : decode cX5_joined 17 = .ok (.aload_n 0, 1) := by decide +kernel
theorem dX5_joined_18 : decode cX5_joined 18 = .ok (.getfield 12, 3) := by decide +kernel
theorem dX5_joined_21 : decode cX5_joined 21 = .ok (.invokevirtual 169, 3) := by decide +kernel
theorem dX5_joined_24 : decode cX5_joined 24 = .ok (.invokevirtual 172, 3) := by decide +kernel
theorem dX5_joined_27 : decode cX5_joined 27 = .ok (.invokestatic 175, 3) := by decide +kernel
theorem dX5_joined_30 : decode cX5_joined 30 = .ok (.ireturn, 1) := by decide +kernel
set_option maxRecDepth 20000 in
theorem ggX5_joinedTo_X3_hasEntry : GoodIn wsX5_joinedTo wsX3_hasEntry := goodIn_r _ [7, 8, 9, 10, 11, 72, 73, 74, 75, 76, 77] (by decide +kernel) (by decide +kernel)
set_option maxRecDepth 20000 in
theorem gX5_joinedTo_X3_hasEntry : GoodIn wsX5_joinedTo (wsV RX5 159 RX3 yX3_hasEntry wsX3_hasEntry) := goodIn_app (goodIn_of _ (by decide +kernel)) ggX5_joinedTo_X3_hasEntry
set_option maxRecDepth 20000 in
theorem ggX5_joinedTo_X3_isJoinable : GoodIn wsX5_joinedTo wsX3_isJoinable := goodIn_r _ [15, 8, 72, 73, 74, 75, 76, 77] (by decide +kernel) (by decide +kernel)
set_option maxRecDepth 20000 in
theorem gX5_joinedTo_X3_isJoinable : GoodIn wsX5_joinedTo (wsV RX5 165 RX3 yX3_isJoinable wsX3_isJoinable) := goodIn_app (goodIn_of _ (by decide +kernel)) ggX5_joinedTo_X3_isJoinable
set_option maxRecDepth 20000 in
theorem ggX5_joinedTo_X2_thingCount : GoodIn wsX5_joinedTo wsX2_thingCount := goodIn_r _ [20, 21, 78, 79, 80, 81, 82] (by decide +kernel) (by decide +kernel)
set_option maxRecDepth 20000 in
theorem gX5_joinedTo_X2_thingCount : GoodIn wsX5_joinedTo (wsV RX5 169 RX2 yX2_thingCount wsX2_thingCount) := goodIn_app (goodIn_of _ (by decide +kernel)) ggX5_joinedTo_X2_thingCount
set_option maxRecDepth 20000 in
theorem ggX5_joinedTo_X3_bestJoin : GoodIn wsX5_joinedTo wsX3_bestJoin := goodIn_r _ [25, 8, 26, 27, 28, 29, 30, 31, 32, 33, 34, 35, 36, 37, 6, 38, 39, 40, 41, 42, 4, 5, 7, 9, 10, 11, 43, 44, 45, 46, 47, 48, 49, 50, 51, 52, 53, 54, 55, 56, 57, 58, 59, 60, 61, 62, 63, 72, 73, 74, 75, 76, 77] (by decide +kernel) (by decide +kernel)
set_option maxRecDepth 20000 in
theorem gX5_joinedTo_X3_bestJoin : GoodIn wsX5_joinedTo (wsV RX5 172 RX3 yX3_bestJoin wsX3_bestJoin) := goodIn_app (goodIn_of _ (by decide +kernel)) ggX5_joinedTo_X3_bestJoin
set_option maxRecDepth 20000 in
theorem ggX5_joinedTo_X3_thingIn : GoodIn wsX5_joinedTo wsX3_thingIn := goodIn_r _ [66, 41, 9, 10, 11] (by decide +kernel) (by decide +kernel)
set_option maxRecDepth 20000 in
theorem gX5_joinedTo_X3_thingIn : GoodIn wsX5_joinedTo (va_wsS RX5 178 yX3_thingIn wsX3_thingIn) := goodIn_app (goodIn_of _ (by decide +kernel)) ggX5_joinedTo_X3_thingIn
theorem dX5_joinedTo_0 : decode cX5_joinedTo 0 = .ok (.aload_n 0, 1) := by decide +kernel
theorem dX5_joinedTo_1 : decode cX5_joinedTo 1 = .ok (.getfield 33, 3) := by decide +kernel
theorem dX5_joinedTo_4 : decode cX5_joinedTo 4 = .ok (.iload_n 1, 1) := by decide +kernel
theorem dX5_joinedTo_5 : decode cX5_joinedTo 5 = .ok (.invokevirtual 159, 3) := by decide +kernel
theorem dX5_joinedTo_8 : decode cX5_joinedTo 8 = .ok (.ifCond .ne 6, 3) := by decide +kernel
theorem dX5_joinedTo_11 : decode cX5_joinedTo 11 = .ok (.bipush (-2), 2) := by decide +kernel
theorem dX5_joinedTo_13 : decode cX5_joinedTo 13 = .ok (.ireturn, 1) := by decide +kernel
theorem dX5_joinedTo_14 : decode cX5_joinedTo 14 = .ok (.aload_n 0, 1) := by decide +kernel
theorem dX5_joinedTo_15 : decode cX5_joinedTo 15 = .ok (.getfield 33, 3) := by decide +kernel
theorem dX5_joinedTo_18 : decode cX5_joinedTo 18 = .ok (.invokevirtual 165, 3) := by decide +kernel
theorem dX5_joinedTo_21 : decode cX5_joinedTo 21 = .ok (.ifCond .ne 6, 3) := by decide +kernel
theorem dX5_joinedTo_24 : decode cX5_joinedTo 24 = .ok (.bipush (-3), 2) := by decide +kernel
theorem dX5_joinedTo_26 : decode cX5_joinedTo 26 = .ok (.ireturn, 1) := by decide +kernel
theorem dX5_joinedTo_27 : decode cX5_joinedTo 27 = .ok (.aload_n 0, 1) := by decide +kernel
theorem dX5_joinedTo_28 : decode cX5_joinedTo 28 = .ok (.getfield 33, 3) := by decide +kernel
theorem dX5_joinedTo_31 : decode cX5_joinedTo 31 = .ok (.aload_n 0, 1) := by decide +kernel
theorem dX5_joinedTo_32 : decode cX5_joinedTo 32 = .ok (.getfield 12, 3) := by decide +kernel
theorem dX5_joinedTo_35 : decode cX5_joinedTo 35 = .ok (.invokevirtual 169, 3) := by decide +kernel
theorem dX5_joinedTo_38 : decode cX5_joinedTo 38 = .ok (.invokevirtual 172, 3) := by decide +kernel
theorem dX5_joinedTo_41 : decode cX5_joinedTo 41 = .ok (.iload_n 1, 1) := by decide +kernel
theorem dX5_joinedTo_42 : decode cX5_joinedTo 42 = .ok (.invokestatic 178, 3) := by decide +kernel
theorem dX5_joinedTo_45 : decode cX5_joinedTo 45 = .ok (.ireturn, 1) := by decide +kernel
set_option maxRecDepth 20000 in
theorem ggX5_owe_X5_areTwo : GoodIn wsX5_owe wsX5_areTwo := goodIn_r _ [5, 6, 7, 4, 8, 9, 10, 11] (by decide +kernel) (by decide +kernel)
set_option maxRecDepth 20000 in
theorem gX5_owe_X5_areTwo : GoodIn wsX5_owe (va_wsS RX5 121 yX5_areTwo wsX5_areTwo) := goodIn_app (goodIn_of _ (by decide +kernel)) ggX5_owe_X5_areTwo
set_option maxRecDepth 20000 in
theorem ggX5_owe_X5_within : GoodIn wsX5_owe wsX5_within := goodIn_r _ [11] (by decide +kernel) (by decide +kernel)
set_option maxRecDepth 20000 in
theorem gX5_owe_X5_within : GoodIn wsX5_owe (va_wsS RX5 44 yX5_within wsX5_within) := goodIn_app (goodIn_of _ (by decide +kernel)) ggX5_owe_X5_within
set_option maxRecDepth 20000 in
theorem ggX5_owe_X1_change : GoodIn wsX5_owe wsX1_change := goodIn_r _ [16, 17, 23] (by decide +kernel) (by decide +kernel)
set_option maxRecDepth 20000 in
theorem gX5_owe_X1_change : GoodIn wsX5_owe (wsV RX5 181 RX1 yX1_change wsX1_change) := goodIn_app (goodIn_of _ (by decide +kernel)) ggX5_owe_X1_change
theorem dX5_owe_0 : decode cX5_owe 0 = .ok (.iload_n 1, 1) := by decide +kernel
theorem dX5_owe_1 : decode cX5_owe 1 = .ok (.iload_n 2, 1) := by decide +kernel
theorem dX5_owe_2 : decode cX5_owe 2 = .ok (.invokestatic 121, 3) := by decide +kernel
theorem dX5_owe_5 : decode cX5_owe 5 = .ok (.ifCond .eq 14, 3) := by decide +kernel
theorem dX5_owe_8 : decode cX5_owe 8 = .ok (.iload_n 3, 1) := by decide +kernel
theorem dX5_owe_9 : decode cX5_owe 9 = .ok (.iconst 0, 1) := by decide +kernel
theorem dX5_owe_10 : decode cX5_owe 10 = .ok (.sipush 10000, 3) := by decide +kernel
theorem dX5_owe_13 : decode cX5_owe 13 = .ok (.invokestatic 44, 3) := by decide +kernel
theorem dX5_owe_16 : decode cX5_owe 16 = .ok (.ifCond .ne 6, 3) := by decide +kernel
theorem dX5_owe_19 : decode cX5_owe 19 = .ok (.bipush (-2), 2) := by decide +kernel
theorem dX5_owe_21 : decode cX5_owe 21 = .ok (.ireturn, 1) := by decide +kernel
theorem dX5_owe_22 : decode cX5_owe 22 = .ok (.aload_n 0, 1) := by decide +kernel
theorem dX5_owe_23 : decode cX5_owe 23 = .ok (.getfield 40, 3) := by decide +kernel
theorem dX5_owe_26 : decode cX5_owe 26 = .ok (.iload_n 1, 1) := by decide +kernel
theorem dX5_owe_27 : decode cX5_owe 27 = .ok (.iload_n 2, 1) := by decide +kernel
theorem dX5_owe_28 : decode cX5_owe 28 = .ok (.iload_n 3, 1) := by decide +kernel
theorem dX5_owe_29 : decode cX5_owe 29 = .ok (.invokevirtual 181, 3) := by decide +kernel
theorem dX5_owe_32 : decode cX5_owe 32 = .ok (.ireturn, 1) := by decide +kernel
set_option maxRecDepth 20000 in
theorem ggX5_net_X5_isDealer : GoodIn wsX5_net wsX5_isDealer := goodIn_r _ [6, 7, 8, 5, 9] (by decide +kernel) (by decide +kernel)
set_option maxRecDepth 20000 in
theorem gX5_net_X5_isDealer : GoodIn wsX5_net (va_wsS RX5 90 yX5_isDealer wsX5_isDealer) := goodIn_app (goodIn_of _ (by decide +kernel)) ggX5_net_X5_isDealer
set_option maxRecDepth 20000 in
theorem ggX5_net_X1_netOf : GoodIn wsX5_net wsX1_netOf := goodIn_r _ [14, 15, 16, 17, 13, 18, 19, 20, 21, 22, 23, 29] (by decide +kernel) (by decide +kernel)
set_option maxRecDepth 20000 in
theorem gX5_net_X1_netOf : GoodIn wsX5_net (wsV RX5 184 RX1 yX1_netOf wsX1_netOf) := goodIn_app (goodIn_of _ (by decide +kernel)) ggX5_net_X1_netOf
theorem dX5_net_0 : decode cX5_net 0 = .ok (.iload_n 1, 1) := by decide +kernel
theorem dX5_net_1 : decode cX5_net 1 = .ok (.invokestatic 90, 3) := by decide +kernel
theorem dX5_net_4 : decode cX5_net 4 = .ok (.ifCond .eq 14, 3) := by decide +kernel
theorem dX5_net_7 : decode cX5_net 7 = .ok (.aload_n 0, 1) := by decide +kernel
theorem dX5_net_8 : decode cX5_net 8 = .ok (.getfield 40, 3) := by decide +kernel
theorem dX5_net_11 : decode cX5_net 11 = .ok (.iload_n 1, 1) := by decide +kernel
theorem dX5_net_12 : decode cX5_net 12 = .ok (.invokevirtual 184, 3) := by decide +kernel
theorem dX5_net_15 : decode cX5_net 15 = .ok (.goto 5, 3) := by decide +kernel
theorem dX5_net_18 : decode cX5_net 18 = .ok (.ldc 111, 2) := by decide +kernel
theorem dX5_net_20 : decode cX5_net 20 = .ok (.ireturn, 1) := by decide +kernel
set_option maxRecDepth 20000 in
theorem ggX5_fall_X5_isDealer : GoodIn wsX5_fall wsX5_isDealer := goodIn_r _ [6, 7, 8, 5, 9] (by decide +kernel) (by decide +kernel)
set_option maxRecDepth 20000 in
theorem gX5_fall_X5_isDealer : GoodIn wsX5_fall (va_wsS RX5 90 yX5_isDealer wsX5_isDealer) := goodIn_app (goodIn_of _ (by decide +kernel)) ggX5_fall_X5_isDealer
set_option maxRecDepth 20000 in
theorem ggX5_fall_X5_within : GoodIn wsX5_fall wsX5_within := goodIn_r _ [9] (by decide +kernel) (by decide +kernel)
set_option maxRecDepth 20000 in
theorem gX5_fall_X5_within : GoodIn wsX5_fall (va_wsS RX5 44 yX5_within wsX5_within) := goodIn_app (goodIn_of _ (by decide +kernel)) ggX5_fall_X5_within
set_option maxRecDepth 20000 in
theorem ggX5_fall_X1_fallFrom : GoodIn wsX5_fall wsX1_fallFrom := goodIn_r _ [14, 15, 16, 17, 13, 18, 19, 20, 21, 22, 23, 24, 25, 26, 27, 33] (by decide +kernel) (by decide +kernel)
set_option maxRecDepth 20000 in
theorem gX5_fall_X1_fallFrom : GoodIn wsX5_fall (wsV RX5 187 RX1 yX1_fallFrom wsX1_fallFrom) := goodIn_app (goodIn_of _ (by decide +kernel)) ggX5_fall_X1_fallFrom
theorem dX5_fall_0 : decode cX5_fall 0 = .ok (.iload_n 1, 1) := by decide +kernel
theorem dX5_fall_1 : decode cX5_fall 1 = .ok (.invokestatic 90, 3) := by decide +kernel
theorem dX5_fall_4 : decode cX5_fall 4 = .ok (.ifCond .eq 13, 3) := by decide +kernel
theorem dX5_fall_7 : decode cX5_fall 7 = .ok (.iload_n 2, 1) := by decide +kernel
theorem dX5_fall_8 : decode cX5_fall 8 = .ok (.iconst 0, 1) := by decide +kernel
theorem dX5_fall_9 : decode cX5_fall 9 = .ok (.ldc 93, 2) := by decide +kernel
theorem dX5_fall_11 : decode cX5_fall 11 = .ok (.invokestatic 44, 3) := by decide +kernel
theorem dX5_fall_14 : decode cX5_fall 14 = .ok (.ifCond .ne 6, 3) := by decide +kernel
theorem dX5_fall_17 : decode cX5_fall 17 = .ok (.bipush (-2), 2) := by decide +kernel
theorem dX5_fall_19 : decode cX5_fall 19 = .ok (.ireturn, 1) := by decide +kernel
theorem dX5_fall_20 : decode cX5_fall 20 = .ok (.aload_n 0, 1) := by decide +kernel
theorem dX5_fall_21 : decode cX5_fall 21 = .ok (.getfield 40, 3) := by decide +kernel
theorem dX5_fall_24 : decode cX5_fall 24 = .ok (.iload_n 1, 1) := by decide +kernel
theorem dX5_fall_25 : decode cX5_fall 25 = .ok (.iload_n 2, 1) := by decide +kernel
theorem dX5_fall_26 : decode cX5_fall 26 = .ok (.invokevirtual 187, 3) := by decide +kernel
theorem dX5_fall_29 : decode cX5_fall 29 = .ok (.ireturn, 1) := by decide +kernel
set_option maxRecDepth 20000 in
theorem ggX5_count_X2_thingCount : GoodIn wsX5_count wsX2_thingCount := goodIn_r _ [10, 11, 55, 56, 57, 58, 59] (by decide +kernel) (by decide +kernel)
set_option maxRecDepth 20000 in
theorem gX5_count_X2_thingCount : GoodIn wsX5_count (wsV RX5 169 RX2 yX2_thingCount wsX2_thingCount) := goodIn_app (goodIn_of _ (by decide +kernel)) ggX5_count_X2_thingCount
set_option maxRecDepth 20000 in
theorem ggX5_count_X4_saleCount : GoodIn wsX5_count wsX4_saleCount := goodIn_r _ [16, 17, 60, 61, 62, 63, 64, 65, 66] (by decide +kernel) (by decide +kernel)
set_option maxRecDepth 20000 in
theorem gX5_count_X4_saleCount : GoodIn wsX5_count (wsV RX5 101 RX4 yX4_saleCount wsX4_saleCount) := goodIn_app (goodIn_of _ (by decide +kernel)) ggX5_count_X4_saleCount
set_option maxRecDepth 20000 in
theorem ggX5_count_X4_standingCount : GoodIn wsX5_count wsX4_standingCount := goodIn_r _ [21, 17, 22, 23, 24, 15, 25, 26, 60, 61, 62, 63, 64, 65, 66] (by decide +kernel) (by decide +kernel)
set_option maxRecDepth 20000 in
theorem gX5_count_X4_standingCount : GoodIn wsX5_count (wsV RX5 190 RX4 yX4_standingCount wsX4_standingCount) := goodIn_app (goodIn_of _ (by decide +kernel)) ggX5_count_X4_standingCount
set_option maxRecDepth 20000 in
theorem ggX5_count_X0_lotCount : GoodIn wsX5_count wsX0_lotCount := goodIn_r _ [31, 32, 67, 68, 69, 70] (by decide +kernel) (by decide +kernel)
set_option maxRecDepth 20000 in
theorem gX5_count_X0_lotCount : GoodIn wsX5_count (wsV RX5 193 RX0 yX0_lotCount wsX0_lotCount) := goodIn_app (goodIn_of _ (by decide +kernel)) ggX5_count_X0_lotCount
set_option maxRecDepth 20000 in
theorem ggX5_count_X3_entryCount : GoodIn wsX5_count wsX3_entryCount := goodIn_r _ [37, 38, 71, 72, 73, 74, 75, 76] (by decide +kernel) (by decide +kernel)
set_option maxRecDepth 20000 in
theorem gX5_count_X3_entryCount : GoodIn wsX5_count (wsV RX5 196 RX3 yX3_entryCount wsX3_entryCount) := goodIn_app (goodIn_of _ (by decide +kernel)) ggX5_count_X3_entryCount
set_option maxRecDepth 20000 in
theorem ggX5_count_X4_currentHour : GoodIn wsX5_count wsX4_currentHour := goodIn_r _ [42, 43, 60, 61, 62, 63, 64, 65, 66] (by decide +kernel) (by decide +kernel)
set_option maxRecDepth 20000 in
theorem gX5_count_X4_currentHour : GoodIn wsX5_count (wsV RX5 199 RX4 yX4_currentHour wsX4_currentHour) := goodIn_app (goodIn_of _ (by decide +kernel)) ggX5_count_X4_currentHour
set_option maxRecDepth 20000 in
theorem ggX5_count_X1_total : GoodIn wsX5_count wsX1_total := goodIn_r _ [48, 49, 77] (by decide +kernel) (by decide +kernel)
set_option maxRecDepth 20000 in
theorem gX5_count_X1_total : GoodIn wsX5_count (wsV RX5 202 RX1 yX1_total wsX1_total) := goodIn_app (goodIn_of _ (by decide +kernel)) ggX5_count_X1_total
theorem dX5_count_0 : decode cX5_count 0 = .ok (.iload_n 1, 1) := by decide +kernel
theorem dX5_count_1 : decode cX5_count 1 = .ok (.tableswitch 99 0 6 #[43, 51, 59, 67, 75, 83, 91], 43) := by decide +kernel
theorem dX5_count_44 : decode cX5_count 44 = .ok (.aload_n 0, 1) := by decide +kernel
theorem dX5_count_45 : decode cX5_count 45 = .ok (.getfield 12, 3) := by decide +kernel
theorem dX5_count_48 : decode cX5_count 48 = .ok (.invokevirtual 169, 3) := by decide +kernel
theorem dX5_count_51 : decode cX5_count 51 = .ok (.ireturn, 1) := by decide +kernel
theorem dX5_count_52 : decode cX5_count 52 = .ok (.aload_n 0, 1) := by decide +kernel
theorem dX5_count_53 : decode cX5_count 53 = .ok (.getfield 19, 3) := by decide +kernel
theorem dX5_count_56 : decode cX5_count 56 = .ok (.invokevirtual 101, 3) := by decide +kernel
theorem dX5_count_59 : decode cX5_count 59 = .ok (.ireturn, 1) := by decide +kernel
theorem dX5_count_60 : decode cX5_count 60 = .ok (.aload_n 0, 1) := by decide +kernel
theorem dX5_count_61 : decode cX5_count 61 = .ok (.getfield 19, 3) := by decide +kernel
theorem dX5_count_64 : decode cX5_count 64 = .ok (.invokevirtual 190, 3) := by decide +kernel
theorem dX5_count_67 : decode cX5_count 67 = .ok (.ireturn, 1) := by decide +kernel
theorem dX5_count_68 : decode cX5_count 68 = .ok (.aload_n 0, 1) := by decide +kernel
theorem dX5_count_69 : decode cX5_count 69 = .ok (.getfield 26, 3) := by decide +kernel
theorem dX5_count_72 : decode cX5_count 72 = .ok (.invokevirtual 193, 3) := by decide +kernel
theorem dX5_count_75 : decode cX5_count 75 = .ok (.ireturn, 1) := by decide +kernel
theorem dX5_count_76 : decode cX5_count 76 = .ok (.aload_n 0, 1) := by decide +kernel
theorem dX5_count_77 : decode cX5_count 77 = .ok (.getfield 33, 3) := by decide +kernel
theorem dX5_count_80 : decode cX5_count 80 = .ok (.invokevirtual 196, 3) := by decide +kernel
theorem dX5_count_83 : decode cX5_count 83 = .ok (.ireturn, 1) := by decide +kernel
theorem dX5_count_84 : decode cX5_count 84 = .ok (.aload_n 0, 1) := by decide +kernel
theorem dX5_count_85 : decode cX5_count 85 = .ok (.getfield 19, 3) := by decide +kernel
theorem dX5_count_88 : decode cX5_count 88 = .ok (.invokevirtual 199, 3) := by decide +kernel
theorem dX5_count_91 : decode cX5_count 91 = .ok (.ireturn, 1) := by decide +kernel
theorem dX5_count_92 : decode cX5_count 92 = .ok (.aload_n 0, 1) := by decide +kernel
theorem dX5_count_93 : decode cX5_count 93 = .ok (.getfield 40, 3) := by decide +kernel
theorem dX5_count_96 : decode cX5_count 96 = .ok (.invokevirtual 202, 3) := by decide +kernel
theorem dX5_count_99 : decode cX5_count 99 = .ok (.ireturn, 1) := by decide +kernel
theorem dX5_count_100 : decode cX5_count 100 = .ok (.bipush (-2), 2) := by decide +kernel
theorem dX5_count_102 : decode cX5_count 102 = .ok (.ireturn, 1) := by decide +kernel
set_option maxRecDepth 20000 in
theorem ggX5_digest_X5_count : GoodIn wsX5_digest wsX5_count := goodIn_r _ [11, 2, 3, 5, 4, 6, 12, 13, 14, 15, 16, 17, 18, 19, 20, 21, 22, 23, 24, 25, 26, 27, 28, 29, 30, 31, 32, 33, 34, 35, 36, 37, 38, 39, 40, 41, 42, 43, 44, 45, 46, 47, 48, 49, 50, 51, 52, 53, 54, 55, 123, 124, 125, 126, 127, 128, 129, 130, 131, 132, 133, 134, 135, 136, 137, 138, 139, 140, 141, 142, 143, 144, 145, 146, 147, 148, 149, 150] (by decide +kernel) (by decide +kernel)
set_option maxRecDepth 20000 in
theorem gX5_digest_X5_count : GoodIn wsX5_digest (wsV RX5 207 RX5 yX5_count wsX5_count) := goodIn_app (goodIn_of _ (by decide +kernel)) ggX5_digest_X5_count
set_option maxRecDepth 20000 in
theorem ggX5_digest_X5_mix : GoodIn wsX5_digest wsX5_mix := goodIn_r _ [58, 59] (by decide +kernel) (by decide +kernel)
set_option maxRecDepth 20000 in
theorem gX5_digest_X5_mix : GoodIn wsX5_digest (va_wsS RX5 210 yX5_mix wsX5_mix) := goodIn_app (goodIn_of _ (by decide +kernel)) ggX5_digest_X5_mix
set_option maxRecDepth 20000 in
theorem ggX5_digest_X2_mixWorks : GoodIn wsX5_digest wsX2_mixWorks := goodIn_r _ [63, 64, 65, 57, 10, 58, 59, 128, 129, 130, 131, 132] (by decide +kernel) (by decide +kernel)
set_option maxRecDepth 20000 in
theorem gX5_digest_X2_mixWorks : GoodIn wsX5_digest (wsV RX5 214 RX2 yX2_mixWorks wsX2_mixWorks) := goodIn_app (goodIn_of _ (by decide +kernel)) ggX5_digest_X2_mixWorks
set_option maxRecDepth 20000 in
theorem ggX5_digest_X2_thingCount : GoodIn wsX5_digest wsX2_thingCount := goodIn_r _ [16, 17, 128, 129, 130, 131, 132] (by decide +kernel) (by decide +kernel)
set_option maxRecDepth 20000 in
theorem gX5_digest_X2_thingCount : GoodIn wsX5_digest (wsV RX5 169 RX2 yX2_thingCount wsX2_thingCount) := goodIn_app (goodIn_of _ (by decide +kernel)) ggX5_digest_X2_thingCount
set_option maxRecDepth 20000 in
theorem ggX5_digest_X2_mixParts : GoodIn wsX5_digest wsX2_mixParts := goodIn_r _ [69, 70, 57, 10, 58, 59, 71, 72, 73, 15, 74, 75, 128, 129, 130, 131, 132] (by decide +kernel) (by decide +kernel)
set_option maxRecDepth 20000 in
theorem gX5_digest_X2_mixParts : GoodIn wsX5_digest (wsV RX5 218 RX2 yX2_mixParts wsX2_mixParts) := goodIn_app (goodIn_of _ (by decide +kernel)) ggX5_digest_X2_mixParts
set_option maxRecDepth 20000 in
theorem ggX5_digest_X4_holderOf : GoodIn wsX5_digest wsX4_holderOf := goodIn_r _ [79, 80, 133, 134, 135, 136, 137, 138, 139] (by decide +kernel) (by decide +kernel)
set_option maxRecDepth 20000 in
theorem gX5_digest_X4_holderOf : GoodIn wsX5_digest (wsV RX5 84 RX4 yX4_holderOf wsX4_holderOf) := goodIn_app (goodIn_of _ (by decide +kernel)) ggX5_digest_X4_holderOf
set_option maxRecDepth 20000 in
theorem ggX5_digest_X3_mixMarks : GoodIn wsX5_digest wsX3_mixMarks := goodIn_r _ [84, 85, 86, 57, 10, 58, 59, 144, 145, 146, 147, 148, 149] (by decide +kernel) (by decide +kernel)
set_option maxRecDepth 20000 in
theorem gX5_digest_X3_mixMarks : GoodIn wsX5_digest (wsV RX5 221 RX3 yX3_mixMarks wsX3_mixMarks) := goodIn_app (goodIn_of _ (by decide +kernel)) ggX5_digest_X3_mixMarks
set_option maxRecDepth 20000 in
theorem ggX5_digest_X4_mixSales : GoodIn wsX5_digest wsX4_mixSales := goodIn_r _ [90, 23, 32, 57, 10, 58, 59, 133, 134, 135, 136, 137, 138, 139] (by decide +kernel) (by decide +kernel)
set_option maxRecDepth 20000 in
theorem gX5_digest_X4_mixSales : GoodIn wsX5_digest (wsV RX5 224 RX4 yX4_mixSales wsX4_mixSales) := goodIn_app (goodIn_of _ (by decide +kernel)) ggX5_digest_X4_mixSales
set_option maxRecDepth 20000 in
theorem ggX5_digest_X0_mixLots : GoodIn wsX5_digest wsX0_mixLots := goodIn_r _ [94, 38, 95, 96, 97, 57, 10, 58, 59, 140, 141, 142, 143] (by decide +kernel) (by decide +kernel)
set_option maxRecDepth 20000 in
theorem gX5_digest_X0_mixLots : GoodIn wsX5_digest (wsV RX5 227 RX0 yX0_mixLots wsX0_mixLots) := goodIn_app (goodIn_of _ (by decide +kernel)) ggX5_digest_X0_mixLots
set_option maxRecDepth 20000 in
theorem ggX5_digest_X3_mixEntries : GoodIn wsX5_digest wsX3_mixEntries := goodIn_r _ [101, 44, 102, 57, 10, 58, 59, 144, 145, 146, 147, 148, 149] (by decide +kernel) (by decide +kernel)
set_option maxRecDepth 20000 in
theorem gX5_digest_X3_mixEntries : GoodIn wsX5_digest (wsV RX5 230 RX3 yX3_mixEntries wsX3_mixEntries) := goodIn_app (goodIn_of _ (by decide +kernel)) ggX5_digest_X3_mixEntries
set_option maxRecDepth 20000 in
theorem ggX5_digest_X4_gainOf : GoodIn wsX5_digest wsX4_gainOf := goodIn_r _ [106, 23, 107, 108, 109, 21, 110, 28, 29, 30, 31, 32, 133, 134, 135, 136, 137, 138, 139] (by decide +kernel) (by decide +kernel)
set_option maxRecDepth 20000 in
theorem gX5_digest_X4_gainOf : GoodIn wsX5_digest (wsV RX5 108 RX4 yX4_gainOf wsX4_gainOf) := goodIn_app (goodIn_of _ (by decide +kernel)) ggX5_digest_X4_gainOf
set_option maxRecDepth 20000 in
theorem ggX5_digest_X1_netOf : GoodIn wsX5_digest wsX1_netOf := goodIn_r _ [114, 115, 116, 117, 53, 118, 55, 119, 120, 121, 122, 150] (by decide +kernel) (by decide +kernel)
set_option maxRecDepth 20000 in
theorem gX5_digest_X1_netOf : GoodIn wsX5_digest (wsV RX5 184 RX1 yX1_netOf wsX1_netOf) := goodIn_app (goodIn_of _ (by decide +kernel)) ggX5_digest_X1_netOf
theorem dX5_digest_0 : decode cX5_digest 0 = .ok (.ldc2_w 205, 3) := by decide +kernel
theorem dX5_digest_3 : decode cX5_digest 3 = .ok (.lstore_n 1, 1) := by decide +kernel
theorem dX5_digest_4 : decode cX5_digest 4 = .ok (.iconst 0, 1) := by decide +kernel
theorem dX5_digest_5 : decode cX5_digest 5 = .ok (.istore_n 3, 1) := by decide +kernel
theorem dX5_digest_6 : decode cX5_digest 6 = .ok (.iload_n 3, 1) := by decide +kernel
theorem dX5_digest_7 : decode cX5_digest 7 = .ok (.bipush 7, 2) := by decide +kernel
theorem dX5_digest_9 : decode cX5_digest 9 = .ok (.if_icmp .ge 19, 3) := by decide +kernel
theorem dX5_digest_12 : decode cX5_digest 12 = .ok (.lload_n 1, 1) := by decide +kernel
theorem dX5_digest_13 : decode cX5_digest 13 = .ok (.aload_n 0, 1) := by decide +kernel
theorem dX5_digest_14 : decode cX5_digest 14 = .ok (.iload_n 3, 1) := by decide +kernel
theorem dX5_digest_15 : decode cX5_digest 15 = .ok (.invokevirtual 207, 3) := by decide +kernel
theorem dX5_digest_18 : decode cX5_digest 18 = .ok (.invokestatic 210, 3) := by decide +kernel
theorem dX5_digest_21 : decode cX5_digest 21 = .ok (.lstore_n 1, 1) := by decide +kernel
theorem dX5_digest_22 : decode cX5_digest 22 = .ok (.iinc 3 1, 3) := by decide +kernel
theorem dX5_digest_25 : decode cX5_digest 25 = .ok (.goto (-19), 3) := by decide +kernel
theorem dX5_digest_28 : decode cX5_digest 28 = .ok (.aload_n 0, 1) := by decide +kernel
theorem dX5_digest_29 : decode cX5_digest 29 = .ok (.getfield 12, 3) := by decide +kernel
theorem dX5_digest_32 : decode cX5_digest 32 = .ok (.lload_n 1, 1) := by decide +kernel
theorem dX5_digest_33 : decode cX5_digest 33 = .ok (.invokevirtual 214, 3) := by decide +kernel
theorem dX5_digest_36 : decode cX5_digest 36 = .ok (.lstore_n 1, 1) := by decide +kernel
theorem dX5_digest_37 : decode cX5_digest 37 = .ok (.iconst 0, 1) := by decide +kernel
theorem dX5_digest_38 : decode cX5_digest 38 = .ok (.istore_n 3, 1) := by decide +kernel
theorem dX5_digest_39 : decode cX5_digest 39 = .ok (.iload_n 3, 1) := by decide +kernel
theorem dX5_digest_40 : decode cX5_digest 40 = .ok (.aload_n 0, 1) := by decide +kernel
theorem dX5_digest_41 : decode cX5_digest 41 = .ok (.getfield 12, 3) := by decide +kernel
theorem dX5_digest_44 : decode cX5_digest 44 = .ok (.invokevirtual 169, 3) := by decide +kernel
theorem dX5_digest_47 : decode cX5_digest 47 = .ok (.if_icmp .ge 42, 3) := by decide +kernel
theorem dX5_digest_50 : decode cX5_digest 50 = .ok (.aload_n 0, 1) := by decide +kernel
theorem dX5_digest_51 : decode cX5_digest 51 = .ok (.getfield 12, 3) := by decide +kernel
theorem dX5_digest_54 : decode cX5_digest 54 = .ok (.lload_n 1, 1) := by decide +kernel
theorem dX5_digest_55 : decode cX5_digest 55 = .ok (.iload_n 3, 1) := by decide +kernel
theorem dX5_digest_56 : decode cX5_digest 56 = .ok (.invokevirtual 218, 3) := by decide +kernel
theorem dX5_digest_59 : decode cX5_digest 59 = .ok (.lstore_n 1, 1) := by decide +kernel
theorem dX5_digest_60 : decode cX5_digest 60 = .ok (.lload_n 1, 1) := by decide +kernel
theorem dX5_digest_61 : decode cX5_digest 61 = .ok (.aload_n 0, 1) := by decide +kernel
theorem dX5_digest_62 : decode cX5_digest 62 = .ok (.getfield 19, 3) := by decide +kernel
theorem dX5_digest_65 : decode cX5_digest 65 = .ok (.iload_n 3, 1) := by decide +kernel
theorem dX5_digest_66 : decode cX5_digest 66 = .ok (.invokevirtual 84, 3) := by decide +kernel
theorem dX5_digest_69 : decode cX5_digest 69 = .ok (.invokestatic 210, 3) := by decide +kernel
theorem dX5_digest_72 : decode cX5_digest 72 = .ok (.lstore_n 1, 1) := by decide +kernel
theorem dX5_digest_73 : decode cX5_digest 73 = .ok (.aload_n 0, 1) := by decide +kernel
theorem dX5_digest_74 : decode cX5_digest 74 = .ok (.getfield 33, 3) := by decide +kernel
theorem dX5_digest_77 : decode cX5_digest 77 = .ok (.lload_n 1, 1) := by decide +kernel
theorem dX5_digest_78 : decode cX5_digest 78 = .ok (.iload_n 3, 1) := by decide +kernel
theorem dX5_digest_79 : decode cX5_digest 79 = .ok (.invokevirtual 221, 3) := by decide +kernel
theorem dX5_digest_82 : decode cX5_digest 82 = .ok (.lstore_n 1, 1) := by decide +kernel
theorem dX5_digest_83 : decode cX5_digest 83 = .ok (.iinc 3 1, 3) := by decide +kernel
theorem dX5_digest_86 : decode cX5_digest 86 = .ok (.goto (-47), 3) := by decide +kernel
theorem dX5_digest_89 : decode cX5_digest 89 = .ok (.aload_n 0, 1) := by decide +kernel
theorem dX5_digest_90 : decode cX5_digest 90 = .ok (.getfield 19, 3) := by decide +kernel
theorem dX5_digest_93 : decode cX5_digest 93 = .ok (.lload_n 1, 1) := by decide +kernel
theorem dX5_digest_94 : decode cX5_digest 94 = .ok (.invokevirtual 224, 3) := by decide +kernel
theorem dX5_digest_97 : decode cX5_digest 97 = .ok (.lstore_n 1, 1) := by decide +kernel
theorem dX5_digest_98 : decode cX5_digest 98 = .ok (.aload_n 0, 1) := by decide +kernel
theorem dX5_digest_99 : decode cX5_digest 99 = .ok (.getfield 26, 3) := by decide +kernel
theorem dX5_digest_102 : decode cX5_digest 102 = .ok (.lload_n 1, 1) := by decide +kernel
theorem dX5_digest_103 : decode cX5_digest 103 = .ok (.invokevirtual 227, 3) := by decide +kernel
theorem dX5_digest_106 : decode cX5_digest 106 = .ok (.lstore_n 1, 1) := by decide +kernel
theorem dX5_digest_107 : decode cX5_digest 107 = .ok (.aload_n 0, 1) := by decide +kernel
theorem dX5_digest_108 : decode cX5_digest 108 = .ok (.getfield 33, 3) := by decide +kernel
theorem dX5_digest_111 : decode cX5_digest 111 = .ok (.lload_n 1, 1) := by decide +kernel
theorem dX5_digest_112 : decode cX5_digest 112 = .ok (.invokevirtual 230, 3) := by decide +kernel
theorem dX5_digest_115 : decode cX5_digest 115 = .ok (.lstore_n 1, 1) := by decide +kernel
theorem dX5_digest_116 : decode cX5_digest 116 = .ok (.iconst 0, 1) := by decide +kernel
theorem dX5_digest_117 : decode cX5_digest 117 = .ok (.istore_n 3, 1) := by decide +kernel
theorem dX5_digest_118 : decode cX5_digest 118 = .ok (.iload_n 3, 1) := by decide +kernel
theorem dX5_digest_119 : decode cX5_digest 119 = .ok (.bipush 8, 2) := by decide +kernel
theorem dX5_digest_121 : decode cX5_digest 121 = .ok (.if_icmp .ge 35, 3) := by decide +kernel
theorem dX5_digest_124 : decode cX5_digest 124 = .ok (.lload_n 1, 1) := by decide +kernel
theorem dX5_digest_125 : decode cX5_digest 125 = .ok (.aload_n 0, 1) := by decide +kernel
theorem dX5_digest_126 : decode cX5_digest 126 = .ok (.getfield 19, 3) := by decide +kernel
theorem dX5_digest_129 : decode cX5_digest 129 = .ok (.iload_n 3, 1) := by decide +kernel
theorem dX5_digest_130 : decode cX5_digest 130 = .ok (.invokevirtual 108, 3) := by decide +kernel
theorem dX5_digest_133 : decode cX5_digest 133 = .ok (.invokestatic 210, 3) := by decide +kernel
theorem dX5_digest_136 : decode cX5_digest 136 = .ok (.lstore_n 1, 1) := by decide +kernel
theorem dX5_digest_137 : decode cX5_digest 137 = .ok (.lload_n 1, 1) := by decide +kernel
theorem dX5_digest_138 : decode cX5_digest 138 = .ok (.aload_n 0, 1) := by decide +kernel
theorem dX5_digest_139 : decode cX5_digest 139 = .ok (.getfield 40, 3) := by decide +kernel
theorem dX5_digest_142 : decode cX5_digest 142 = .ok (.iload_n 3, 1) := by decide +kernel
theorem dX5_digest_143 : decode cX5_digest 143 = .ok (.invokevirtual 184, 3) := by decide +kernel
theorem dX5_digest_146 : decode cX5_digest 146 = .ok (.invokestatic 210, 3) := by decide +kernel
theorem dX5_digest_149 : decode cX5_digest 149 = .ok (.lstore_n 1, 1) := by decide +kernel
theorem dX5_digest_150 : decode cX5_digest 150 = .ok (.iinc 3 1, 3) := by decide +kernel
theorem dX5_digest_153 : decode cX5_digest 153 = .ok (.goto (-35), 3) := by decide +kernel
theorem dX5_digest_156 : decode cX5_digest 156 = .ok (.lload_n 1, 1) := by decide +kernel
theorem dX5_digest_157 : decode cX5_digest 157 = .ok (.lreturn, 1) := by decide +kernel
theorem dX5_mix_0 : decode cX5_mix 0 = .ok (.ldc2_w 233, 3) := by decide +kernel
theorem dX5_mix_3 : decode cX5_mix 3 = .ok (.lload_n 0, 1) := by decide +kernel
theorem dX5_mix_4 : decode cX5_mix 4 = .ok (.lmul, 1) := by decide +kernel
theorem dX5_mix_5 : decode cX5_mix 5 = .ok (.iload_n 2, 1) := by decide +kernel
theorem dX5_mix_6 : decode cX5_mix 6 = .ok (.i2l, 1) := by decide +kernel
theorem dX5_mix_7 : decode cX5_mix 7 = .ok (.ladd, 1) := by decide +kernel
theorem dX5_mix_8 : decode cX5_mix 8 = .ok (.lreturn, 1) := by decide +kernel
theorem dX5_within_0 : decode cX5_within 0 = .ok (.iload_n 1, 1) := by decide +kernel
theorem dX5_within_1 : decode cX5_within 1 = .ok (.iload_n 0, 1) := by decide +kernel
theorem dX5_within_2 : decode cX5_within 2 = .ok (.if_icmp .gt 12, 3) := by decide +kernel
theorem dX5_within_5 : decode cX5_within 5 = .ok (.iload_n 0, 1) := by decide +kernel
theorem dX5_within_6 : decode cX5_within 6 = .ok (.iload_n 2, 1) := by decide +kernel
theorem dX5_within_7 : decode cX5_within 7 = .ok (.if_icmp .gt 7, 3) := by decide +kernel
theorem dX5_within_10 : decode cX5_within 10 = .ok (.iconst 1, 1) := by decide +kernel
theorem dX5_within_11 : decode cX5_within 11 = .ok (.goto 4, 3) := by decide +kernel
theorem dX5_within_14 : decode cX5_within 14 = .ok (.iconst 0, 1) := by decide +kernel
theorem dX5_within_15 : decode cX5_within 15 = .ok (.ireturn, 1) := by decide +kernel
set_option maxRecDepth 20000 in
theorem ggX5_isDealer_X5_within : GoodIn wsX5_isDealer wsX5_within := goodIn_r _ [4] (by decide +kernel) (by decide +kernel)
set_option maxRecDepth 20000 in
theorem gX5_isDealer_X5_within : GoodIn wsX5_isDealer (va_wsS RX5 44 yX5_within wsX5_within) := goodIn_app (goodIn_of _ (by decide +kernel)) ggX5_isDealer_X5_within
theorem dX5_isDealer_0 : decode cX5_isDealer 0 = .ok (.iload_n 0, 1) := by decide +kernel
theorem dX5_isDealer_1 : decode cX5_isDealer 1 = .ok (.iconst 0, 1) := by decide +kernel
theorem dX5_isDealer_2 : decode cX5_isDealer 2 = .ok (.bipush 7, 2) := by decide +kernel
theorem dX5_isDealer_4 : decode cX5_isDealer 4 = .ok (.invokestatic 44, 3) := by decide +kernel
theorem dX5_isDealer_7 : decode cX5_isDealer 7 = .ok (.ireturn, 1) := by decide +kernel
set_option maxRecDepth 20000 in
theorem ggX5_areTwo_X5_isDealer : GoodIn wsX5_areTwo wsX5_isDealer := goodIn_r _ [4, 5, 6, 3, 7] (by decide +kernel) (by decide +kernel)
set_option maxRecDepth 20000 in
theorem gX5_areTwo_X5_isDealer : GoodIn wsX5_areTwo (va_wsS RX5 90 yX5_isDealer wsX5_isDealer) := goodIn_app (goodIn_of _ (by decide +kernel)) ggX5_areTwo_X5_isDealer
theorem dX5_areTwo_0 : decode cX5_areTwo 0 = .ok (.iload_n 0, 1) := by decide +kernel
theorem dX5_areTwo_1 : decode cX5_areTwo 1 = .ok (.invokestatic 90, 3) := by decide +kernel
theorem dX5_areTwo_4 : decode cX5_areTwo 4 = .ok (.ifCond .eq 19, 3) := by decide +kernel
theorem dX5_areTwo_7 : decode cX5_areTwo 7 = .ok (.iload_n 1, 1) := by decide +kernel
theorem dX5_areTwo_8 : decode cX5_areTwo 8 = .ok (.invokestatic 90, 3) := by decide +kernel
theorem dX5_areTwo_11 : decode cX5_areTwo 11 = .ok (.ifCond .eq 12, 3) := by decide +kernel
theorem dX5_areTwo_14 : decode cX5_areTwo 14 = .ok (.iload_n 0, 1) := by decide +kernel
end
section
theorem dX5_areTwo_15 : decode cX5_areTwo 15 = .ok (.iload_n 1, 1) := by decide +kernel
theorem dX5_areTwo_16 : decode cX5_areTwo 16 = .ok (.if_icmp .eq 7, 3) := by decide +kernel
theorem dX5_areTwo_19 : decode cX5_areTwo 19 = .ok (.iconst 1, 1) := by decide +kernel
theorem dX5_areTwo_20 : decode cX5_areTwo 20 = .ok (.goto 4, 3) := by decide +kernel
theorem dX5_areTwo_23 : decode cX5_areTwo 23 = .ok (.iconst 0, 1) := by decide +kernel
theorem dX5_areTwo_24 : decode cX5_areTwo 24 = .ok (.ireturn, 1) := by decide +kernel
set_option maxRecDepth 20000 in
theorem ggX5_mayHaveWon_X5_isDealer : GoodIn wsX5_mayHaveWon wsX5_isDealer := goodIn_r _ [4, 5, 6, 3, 7] (by decide +kernel) (by decide +kernel)
set_option maxRecDepth 20000 in
theorem gX5_mayHaveWon_X5_isDealer : GoodIn wsX5_mayHaveWon (va_wsS RX5 90 yX5_isDealer wsX5_isDealer) := goodIn_app (goodIn_of _ (by decide +kernel)) ggX5_mayHaveWon_X5_isDealer
theorem dX5_mayHaveWon_0 : decode cX5_mayHaveWon 0 = .ok (.iload_n 0, 1) := by decide +kernel
theorem dX5_mayHaveWon_1 : decode cX5_mayHaveWon 1 = .ok (.ifCond .ne 14, 3) := by decide +kernel
theorem dX5_mayHaveWon_4 : decode cX5_mayHaveWon 4 = .ok (.iload_n 1, 1) := by decide +kernel
theorem dX5_mayHaveWon_5 : decode cX5_mayHaveWon 5 = .ok (.iconst (-1), 1) := by decide +kernel
theorem dX5_mayHaveWon_6 : decode cX5_mayHaveWon 6 = .ok (.if_icmp .ne 7, 3) := by decide +kernel
theorem dX5_mayHaveWon_9 : decode cX5_mayHaveWon 9 = .ok (.iconst 1, 1) := by decide +kernel
theorem dX5_mayHaveWon_10 : decode cX5_mayHaveWon 10 = .ok (.goto 4, 3) := by decide +kernel
theorem dX5_mayHaveWon_13 : decode cX5_mayHaveWon 13 = .ok (.iconst 0, 1) := by decide +kernel
theorem dX5_mayHaveWon_14 : decode cX5_mayHaveWon 14 = .ok (.ireturn, 1) := by decide +kernel
theorem dX5_mayHaveWon_15 : decode cX5_mayHaveWon 15 = .ok (.iload_n 1, 1) := by decide +kernel
theorem dX5_mayHaveWon_16 : decode cX5_mayHaveWon 16 = .ok (.invokestatic 90, 3) := by decide +kernel
theorem dX5_mayHaveWon_19 : decode cX5_mayHaveWon 19 = .ok (.ifCond .eq 16, 3) := by decide +kernel
theorem dX5_mayHaveWon_22 : decode cX5_mayHaveWon 22 = .ok (.iload_n 0, 1) := by decide +kernel
theorem dX5_mayHaveWon_23 : decode cX5_mayHaveWon 23 = .ok (.iload_n 1, 1) := by decide +kernel
theorem dX5_mayHaveWon_24 : decode cX5_mayHaveWon 24 = .ok (.ishr, 1) := by decide +kernel
theorem dX5_mayHaveWon_25 : decode cX5_mayHaveWon 25 = .ok (.iconst 1, 1) := by decide +kernel
theorem dX5_mayHaveWon_26 : decode cX5_mayHaveWon 26 = .ok (.iand, 1) := by decide +kernel
theorem dX5_mayHaveWon_27 : decode cX5_mayHaveWon 27 = .ok (.iconst 1, 1) := by decide +kernel
theorem dX5_mayHaveWon_28 : decode cX5_mayHaveWon 28 = .ok (.if_icmp .ne 7, 3) := by decide +kernel
theorem dX5_mayHaveWon_31 : decode cX5_mayHaveWon 31 = .ok (.iconst 1, 1) := by decide +kernel
theorem dX5_mayHaveWon_32 : decode cX5_mayHaveWon 32 = .ok (.goto 4, 3) := by decide +kernel
theorem dX5_mayHaveWon_35 : decode cX5_mayHaveWon 35 = .ok (.iconst 0, 1) := by decide +kernel
theorem dX5_mayHaveWon_36 : decode cX5_mayHaveWon 36 = .ok (.ireturn, 1) := by decide +kernel
theorem dX6_init_0 : decode cX6_init 0 = .ok (.aload_n 0, 1) := by decide +kernel
theorem dX6_init_1 : decode cX6_init 1 = .ok (.invokespecial 1, 3) := by decide +kernel
theorem dX6_init_4 : decode cX6_init 4 = .ok (.aload_n 0, 1) := by decide +kernel
theorem dX6_init_5 : decode cX6_init 5 = .ok (.bipush 10, 2) := by decide +kernel
theorem dX6_init_7 : decode cX6_init 7 = .ok (.newarray .int, 2) := by decide +kernel
theorem dX6_init_9 : decode cX6_init 9 = .ok (.putfield 7, 3) := by decide +kernel
theorem dX6_init_12 : decode cX6_init 12 = .ok (.aload_n 0, 1) := by decide +kernel
theorem dX6_init_13 : decode cX6_init 13 = .ok (.bipush 10, 2) := by decide +kernel
theorem dX6_init_15 : decode cX6_init 15 = .ok (.newarray .int, 2) := by decide +kernel
theorem dX6_init_17 : decode cX6_init 17 = .ok (.putfield 13, 3) := by decide +kernel
theorem dX6_init_20 : decode cX6_init 20 = .ok (.aload_n 0, 1) := by decide +kernel
theorem dX6_init_21 : decode cX6_init 21 = .ok (.bipush 12, 2) := by decide +kernel
theorem dX6_init_23 : decode cX6_init 23 = .ok (.newarray .int, 2) := by decide +kernel
theorem dX6_init_25 : decode cX6_init 25 = .ok (.putfield 16, 3) := by decide +kernel
theorem dX6_init_28 : decode cX6_init 28 = .ok (.aload_n 0, 1) := by decide +kernel
theorem dX6_init_29 : decode cX6_init 29 = .ok (.bipush 60, 2) := by decide +kernel
theorem dX6_init_31 : decode cX6_init 31 = .ok (.newarray .int, 2) := by decide +kernel
theorem dX6_init_33 : decode cX6_init 33 = .ok (.putfield 19, 3) := by decide +kernel
theorem dX6_init_36 : decode cX6_init 36 = .ok (.aload_n 0, 1) := by decide +kernel
theorem dX6_init_37 : decode cX6_init 37 = .ok (.bipush 12, 2) := by decide +kernel
theorem dX6_init_39 : decode cX6_init 39 = .ok (.newarray .int, 2) := by decide +kernel
theorem dX6_init_41 : decode cX6_init 41 = .ok (.putfield 22, 3) := by decide +kernel
theorem dX6_init_44 : decode cX6_init 44 = .ok (.aload_n 0, 1) := by decide +kernel
theorem dX6_init_45 : decode cX6_init 45 = .ok (.bipush 12, 2) := by decide +kernel
theorem dX6_init_47 : decode cX6_init 47 = .ok (.newarray .int, 2) := by decide +kernel
theorem dX6_init_49 : decode cX6_init 49 = .ok (.putfield 25, 3) := by decide +kernel
theorem dX6_init_52 : decode cX6_init 52 = .ok (.aload_n 0, 1) := by decide +kernel
theorem dX6_init_53 : decode cX6_init 53 = .ok (.bipush 12, 2) := by decide +kernel
theorem dX6_init_55 : decode cX6_init 55 = .ok (.newarray .int, 2) := by decide +kernel
theorem dX6_init_57 : decode cX6_init 57 = .ok (.putfield 28, 3) := by decide +kernel
theorem dX6_init_60 : decode cX6_init 60 = .ok (.aload_n 0, 1) := by decide +kernel
theorem dX6_init_61 : decode cX6_init 61 = .ok (.bipush 12, 2) := by decide +kernel
theorem dX6_init_63 : decode cX6_init 63 = .ok (.newarray .int, 2) := by decide +kernel
theorem dX6_init_65 : decode cX6_init 65 = .ok (.putfield 31, 3) := by decide +kernel
theorem dX6_init_68 : decode cX6_init 68 = .ok (.aload_n 0, 1) := by decide +kernel
theorem dX6_init_69 : decode cX6_init 69 = .ok (.iconst 4, 1) := by decide +kernel
theorem dX6_init_70 : decode cX6_init 70 = .ok (.putfield 34, 3) := by decide +kernel
theorem dX6_init_73 : decode cX6_init 73 = .ok (.aload_n 0, 1) := by decide +kernel
theorem dX6_init_74 : decode cX6_init 74 = .ok (.bipush 80, 2) := by decide +kernel
theorem dX6_init_76 : decode cX6_init 76 = .ok (.newarray .int, 2) := by decide +kernel
theorem dX6_init_78 : decode cX6_init 78 = .ok (.putfield 38, 3) := by decide +kernel
theorem dX6_init_81 : decode cX6_init 81 = .ok (.aload_n 0, 1) := by decide +kernel
theorem dX6_init_82 : decode cX6_init 82 = .ok (.bipush 80, 2) := by decide +kernel
theorem dX6_init_84 : decode cX6_init 84 = .ok (.newarray .int, 2) := by decide +kernel
theorem dX6_init_86 : decode cX6_init 86 = .ok (.putfield 41, 3) := by decide +kernel
theorem dX6_init_89 : decode cX6_init 89 = .ok (.aload_n 0, 1) := by decide +kernel
theorem dX6_init_90 : decode cX6_init 90 = .ok (.bipush 80, 2) := by decide +kernel
theorem dX6_init_92 : decode cX6_init 92 = .ok (.newarray .int, 2) := by decide +kernel
theorem dX6_init_94 : decode cX6_init 94 = .ok (.putfield 44, 3) := by decide +kernel
theorem dX6_init_97 : decode cX6_init 97 = .ok (.aload_n 0, 1) := by decide +kernel
theorem dX6_init_98 : decode cX6_init 98 = .ok (.bipush 80, 2) := by decide +kernel
theorem dX6_init_100 : decode cX6_init 100 = .ok (.newarray .int, 2) := by decide +kernel
theorem dX6_init_102 : decode cX6_init 102 = .ok (.putfield 47, 3) := by decide +kernel
theorem dX6_init_105 : decode cX6_init 105 = .ok (.aload_n 0, 1) := by decide +kernel
theorem dX6_init_106 : decode cX6_init 106 = .ok (.bipush 80, 2) := by decide +kernel
theorem dX6_init_108 : decode cX6_init 108 = .ok (.newarray .int, 2) := by decide +kernel
theorem dX6_init_110 : decode cX6_init 110 = .ok (.putfield 50, 3) := by decide +kernel
theorem dX6_init_113 : decode cX6_init 113 = .ok (.aload_n 0, 1) := by decide +kernel
theorem dX6_init_114 : decode cX6_init 114 = .ok (.bipush 80, 2) := by decide +kernel
theorem dX6_init_116 : decode cX6_init 116 = .ok (.newarray .int, 2) := by decide +kernel
theorem dX6_init_118 : decode cX6_init 118 = .ok (.putfield 53, 3) := by decide +kernel
theorem dX6_init_121 : decode cX6_init 121 = .ok (.aload_n 0, 1) := by decide +kernel
theorem dX6_init_122 : decode cX6_init 122 = .ok (.bipush 80, 2) := by decide +kernel
theorem dX6_init_124 : decode cX6_init 124 = .ok (.newarray .int, 2) := by decide +kernel
theorem dX6_init_126 : decode cX6_init 126 = .ok (.putfield 56, 3) := by decide +kernel
theorem dX6_init_129 : decode cX6_init 129 = .ok (.aload_n 0, 1) := by decide +kernel
theorem dX6_init_130 : decode cX6_init 130 = .ok (.bipush 80, 2) := by decide +kernel
theorem dX6_init_132 : decode cX6_init 132 = .ok (.newarray .int, 2) := by decide +kernel
theorem dX6_init_134 : decode cX6_init 134 = .ok (.putfield 59, 3) := by decide +kernel
theorem dX6_init_137 : decode cX6_init 137 = .ok (.aload_n 0, 1) := by decide +kernel
theorem dX6_init_138 : decode cX6_init 138 = .ok (.bipush 40, 2) := by decide +kernel
theorem dX6_init_140 : decode cX6_init 140 = .ok (.newarray .int, 2) := by decide +kernel
theorem dX6_init_142 : decode cX6_init 142 = .ok (.putfield 62, 3) := by decide +kernel
theorem dX6_init_145 : decode cX6_init 145 = .ok (.aload_n 0, 1) := by decide +kernel
theorem dX6_init_146 : decode cX6_init 146 = .ok (.bipush 40, 2) := by decide +kernel
theorem dX6_init_148 : decode cX6_init 148 = .ok (.newarray .int, 2) := by decide +kernel
theorem dX6_init_150 : decode cX6_init 150 = .ok (.putfield 65, 3) := by decide +kernel
theorem dX6_init_153 : decode cX6_init 153 = .ok (.aload_n 0, 1) := by decide +kernel
theorem dX6_init_154 : decode cX6_init 154 = .ok (.bipush 40, 2) := by decide +kernel
theorem dX6_init_156 : decode cX6_init 156 = .ok (.newarray .int, 2) := by decide +kernel
theorem dX6_init_158 : decode cX6_init 158 = .ok (.putfield 68, 3) := by decide +kernel
theorem dX6_init_161 : decode cX6_init 161 = .ok (.aload_n 0, 1) := by decide +kernel
theorem dX6_init_162 : decode cX6_init 162 = .ok (.sipush 1681, 3) := by decide +kernel
theorem dX6_init_165 : decode cX6_init 165 = .ok (.newarray .long, 2) := by decide +kernel
theorem dX6_init_167 : decode cX6_init 167 = .ok (.putfield 71, 3) := by decide +kernel
theorem dX6_init_170 : decode cX6_init 170 = .ok (.aload_n 0, 1) := by decide +kernel
theorem dX6_init_171 : decode cX6_init 171 = .ok (.bipush 10, 2) := by decide +kernel
theorem dX6_init_173 : decode cX6_init 173 = .ok (.newarray .int, 2) := by decide +kernel
theorem dX6_init_175 : decode cX6_init 175 = .ok (.putfield 75, 3) := by decide +kernel
theorem dX6_init_178 : decode cX6_init 178 = .ok (.aload_n 0, 1) := by decide +kernel
theorem dX6_init_179 : decode cX6_init 179 = .ok (.sipush 28672, 3) := by decide +kernel
theorem dX6_init_182 : decode cX6_init 182 = .ok (.newarray .int, 2) := by decide +kernel
theorem dX6_init_184 : decode cX6_init 184 = .ok (.putfield 78, 3) := by decide +kernel
theorem dX6_init_187 : decode cX6_init 187 = .ok (.aload_n 0, 1) := by decide +kernel
theorem dX6_init_188 : decode cX6_init 188 = .ok (.bipush 10, 2) := by decide +kernel
theorem dX6_init_190 : decode cX6_init 190 = .ok (.newarray .int, 2) := by decide +kernel
theorem dX6_init_192 : decode cX6_init 192 = .ok (.putfield 81, 3) := by decide +kernel
theorem dX6_init_195 : decode cX6_init 195 = .ok (.aload_n 0, 1) := by decide +kernel
theorem dX6_init_196 : decode cX6_init 196 = .ok (.bipush 120, 2) := by decide +kernel
theorem dX6_init_198 : decode cX6_init 198 = .ok (.newarray .int, 2) := by decide +kernel
theorem dX6_init_200 : decode cX6_init 200 = .ok (.putfield 84, 3) := by decide +kernel
theorem dX6_init_203 : decode cX6_init 203 = .ok (.aload_n 0, 1) := by decide +kernel
theorem dX6_init_204 : decode cX6_init 204 = .ok (.bipush 64, 2) := by decide +kernel
theorem dX6_init_206 : decode cX6_init 206 = .ok (.newarray .int, 2) := by decide +kernel
theorem dX6_init_208 : decode cX6_init 208 = .ok (.putfield 87, 3) := by decide +kernel
theorem dX6_init_211 : decode cX6_init 211 = .ok (.iconst 0, 1) := by decide +kernel
theorem dX6_init_212 : decode cX6_init 212 = .ok (.istore_n 1, 1) := by decide +kernel
theorem dX6_init_213 : decode cX6_init 213 = .ok (.iload_n 1, 1) := by decide +kernel
theorem dX6_init_214 : decode cX6_init 214 = .ok (.bipush 10, 2) := by decide +kernel
theorem dX6_init_216 : decode cX6_init 216 = .ok (.if_icmp .ge 27, 3) := by decide +kernel
theorem dX6_init_219 : decode cX6_init 219 = .ok (.aload_n 0, 1) := by decide +kernel
theorem dX6_init_220 : decode cX6_init 220 = .ok (.getfield 7, 3) := by decide +kernel
theorem dX6_init_223 : decode cX6_init 223 = .ok (.iload_n 1, 1) := by decide +kernel
theorem dX6_init_224 : decode cX6_init 224 = .ok (.sipush 1600, 3) := by decide +kernel
theorem dX6_init_227 : decode cX6_init 227 = .ok (.iastore, 1) := by decide +kernel
theorem dX6_init_228 : decode cX6_init 228 = .ok (.aload_n 0, 1) := by decide +kernel
theorem dX6_init_229 : decode cX6_init 229 = .ok (.getfield 13, 3) := by decide +kernel
theorem dX6_init_232 : decode cX6_init 232 = .ok (.iload_n 1, 1) := by decide +kernel
theorem dX6_init_233 : decode cX6_init 233 = .ok (.sipush 1950, 3) := by decide +kernel
theorem dX6_init_236 : decode cX6_init 236 = .ok (.iastore, 1) := by decide +kernel
theorem dX6_init_237 : decode cX6_init 237 = .ok (.iinc 1 1, 3) := by decide +kernel
theorem dX6_init_240 : decode cX6_init 240 = .ok (.goto (-27), 3) := by decide +kernel
theorem dX6_init_243 : decode cX6_init 243 = .ok (.iconst 0, 1) := by decide +kernel
theorem dX6_init_244 : decode cX6_init 244 = .ok (.istore_n 1, 1) := by decide +kernel
theorem dX6_init_245 : decode cX6_init 245 = .ok (.iload_n 1, 1) := by decide +kernel
theorem dX6_init_246 : decode cX6_init 246 = .ok (.bipush 41, 2) := by decide +kernel
theorem dX6_init_248 : decode cX6_init 248 = .ok (.if_icmp .ge 75, 3) := by decide +kernel
theorem dX6_init_251 : decode cX6_init 251 = .ok (.iconst 0, 1) := by decide +kernel
theorem dX6_init_252 : decode cX6_init 252 = .ok (.istore_n 2, 1) := by decide +kernel
theorem dX6_init_253 : decode cX6_init 253 = .ok (.iload_n 2, 1) := by decide +kernel
theorem dX6_init_254 : decode cX6_init 254 = .ok (.iload_n 1, 1) := by decide +kernel
theorem dX6_init_255 : decode cX6_init 255 = .ok (.if_icmp .gt 62, 3) := by decide +kernel
theorem dX6_init_258 : decode cX6_init 258 = .ok (.aload_n 0, 1) := by decide +kernel
theorem dX6_init_259 : decode cX6_init 259 = .ok (.getfield 71, 3) := by decide +kernel
theorem dX6_init_262 : decode cX6_init 262 = .ok (.bipush 41, 2) := by decide +kernel
theorem dX6_init_264 : decode cX6_init 264 = .ok (.iload_n 1, 1) := by decide +kernel
theorem dX6_init_265 : decode cX6_init 265 = .ok (.imul, 1) := by decide +kernel
theorem dX6_init_266 : decode cX6_init 266 = .ok (.iload_n 2, 1) := by decide +kernel
theorem dX6_init_267 : decode cX6_init 267 = .ok (.iadd, 1) := by decide +kernel
theorem dX6_init_268 : decode cX6_init 268 = .ok (.iload_n 2, 1) := by decide +kernel
theorem dX6_init_269 : decode cX6_init 269 = .ok (.ifCond .eq 8, 3) := by decide +kernel
theorem dX6_init_272 : decode cX6_init 272 = .ok (.iload_n 2, 1) := by decide +kernel
theorem dX6_init_273 : decode cX6_init 273 = .ok (.iload_n 1, 1) := by decide +kernel
theorem dX6_init_274 : decode cX6_init 274 = .ok (.if_icmp .ne 7, 3) := by decide +kernel
theorem dX6_init_277 : decode cX6_init 277 = .ok (.lconst 1, 1) := by decide +kernel
theorem dX6_init_278 : decode cX6_init 278 = .ok (.goto 32, 3) := by decide +kernel
theorem dX6_init_281 : decode cX6_init 281 = .ok (.aload_n 0, 1) := by decide +kernel
theorem dX6_init_282 : decode cX6_init 282 = .ok (.getfield 71, 3) := by decide +kernel
theorem dX6_init_285 : decode cX6_init 285 = .ok (.bipush 41, 2) := by decide +kernel
theorem dX6_init_287 : decode cX6_init 287 = .ok (.iload_n 1, 1) := by decide +kernel
theorem dX6_init_288 : decode cX6_init 288 = .ok (.iconst 1, 1) := by decide +kernel
theorem dX6_init_289 : decode cX6_init 289 = .ok (.isub, 1) := by decide +kernel
theorem dX6_init_290 : decode cX6_init 290 = .ok (.imul, 1) := by decide +kernel
theorem dX6_init_291 : decode cX6_init 291 = .ok (.iload_n 2, 1) := by decide +kernel
theorem dX6_init_292 : decode cX6_init 292 = .ok (.iadd, 1) := by decide +kernel
theorem dX6_init_293 : decode cX6_init 293 = .ok (.iconst 1, 1) := by decide +kernel
theorem dX6_init_294 : decode cX6_init 294 = .ok (.isub, 1) := by decide +kernel
theorem dX6_init_295 : decode cX6_init 295 = .ok (.laload, 1) := by decide +kernel
theorem dX6_init_296 : decode cX6_init 296 = .ok (.aload_n 0, 1) := by decide +kernel
theorem dX6_init_297 : decode cX6_init 297 = .ok (.getfield 71, 3) := by decide +kernel
theorem dX6_init_300 : decode cX6_init 300 = .ok (.bipush 41, 2) := by decide +kernel
theorem dX6_init_302 : decode cX6_init 302 = .ok (.iload_n 1, 1) := by decide +kernel
theorem dX6_init_303 : decode cX6_init 303 = .ok (.iconst 1, 1) := by decide +kernel
theorem dX6_init_304 : decode cX6_init 304 = .ok (.isub, 1) := by decide +kernel
theorem dX6_init_305 : decode cX6_init 305 = .ok (.imul, 1) := by decide +kernel
theorem dX6_init_306 : decode cX6_init 306 = .ok (.iload_n 2, 1) := by decide +kernel
theorem dX6_init_307 : decode cX6_init 307 = .ok (.iadd, 1) := by decide +kernel
theorem dX6_init_308 : decode cX6_init 308 = .ok (.laload, 1) := by decide +kernel
theorem dX6_init_309 : decode cX6_init 309 = .ok (.ladd, 1) := by decide +kernel
theorem dX6_init_310 : decode cX6_init 310 = .ok (.lastore, 1) := by decide +kernel
theorem dX6_init_311 : decode cX6_init 311 = .ok (.iinc 2 1, 3) := by decide +kernel
theorem dX6_init_314 : decode cX6_init 314 = .ok (.goto (-61), 3) := by decide +kernel
theorem dX6_init_317 : decode cX6_init 317 = .ok (.iinc 1 1, 3) := by decide +kernel
theorem dX6_init_320 : decode cX6_init 320 = .ok (.goto (-75), 3) := by decide +kernel
theorem dX6_init_323 : decode cX6_init 323 = .ok (.return_, 1) := by decide +kernel
theorem dX6_in_0 : decode cX6_in 0 = .ok (.lload_n 0, 1) := by decide +kernel
theorem dX6_in_1 : decode cX6_in 1 = .ok (.lload_n 2, 1) := by decide +kernel
theorem dX6_in_2 : decode cX6_in 2 = .ok (.lcmp, 1) := by decide +kernel
theorem dX6_in_3 : decode cX6_in 3 = .ok (.ifCond .lt 14, 3) := by decide +kernel
theorem dX6_in_6 : decode cX6_in 6 = .ok (.lload_n 0, 1) := by decide +kernel
theorem dX6_in_7 : decode cX6_in 7 = .ok (.lload 4, 2) := by decide +kernel
theorem dX6_in_9 : decode cX6_in 9 = .ok (.lcmp, 1) := by decide +kernel
theorem dX6_in_10 : decode cX6_in 10 = .ok (.ifCond .gt 7, 3) := by decide +kernel
theorem dX6_in_13 : decode cX6_in 13 = .ok (.iconst 1, 1) := by decide +kernel
theorem dX6_in_14 : decode cX6_in 14 = .ok (.goto 4, 3) := by decide +kernel
theorem dX6_in_17 : decode cX6_in 17 = .ok (.iconst 0, 1) := by decide +kernel
theorem dX6_in_18 : decode cX6_in 18 = .ok (.ireturn, 1) := by decide +kernel
set_option maxRecDepth 20000 in
theorem ggX6_isDealer_X6_in : GoodIn wsX6_isDealer wsX6_in := goodIn_r _ [5] (by decide +kernel) (by decide +kernel)
set_option maxRecDepth 20000 in
theorem gX6_isDealer_X6_in : GoodIn wsX6_isDealer (va_wsS RX6 92 yX6_in wsX6_in) := goodIn_app (goodIn_of _ (by decide +kernel)) ggX6_isDealer_X6_in
theorem dX6_isDealer_0 : decode cX6_isDealer 0 = .ok (.iload_n 0, 1) := by decide +kernel
theorem dX6_isDealer_1 : decode cX6_isDealer 1 = .ok (.i2l, 1) := by decide +kernel
theorem dX6_isDealer_2 : decode cX6_isDealer 2 = .ok (.lconst 0, 1) := by decide +kernel
theorem dX6_isDealer_3 : decode cX6_isDealer 3 = .ok (.ldc2_w 90, 3) := by decide +kernel
theorem dX6_isDealer_6 : decode cX6_isDealer 6 = .ok (.invokestatic 92, 3) := by decide +kernel
theorem dX6_isDealer_9 : decode cX6_isDealer 9 = .ok (.ireturn, 1) := by decide +kernel
set_option maxRecDepth 20000 in
theorem ggX6_work_X6_in : GoodIn wsX6_work wsX6_in := goodIn_r _ [9] (by decide +kernel) (by decide +kernel)
set_option maxRecDepth 20000 in
theorem gX6_work_X6_in : GoodIn wsX6_work (va_wsS RX6 92 yX6_in wsX6_in) := goodIn_app (goodIn_of _ (by decide +kernel)) ggX6_work_X6_in
theorem dX6_work_0 : decode cX6_work 0 = .ok (.iload_n 1, 1) := by decide +kernel
theorem dX6_work_1 : decode cX6_work 1 = .ok (.i2l, 1) := by decide +kernel
theorem dX6_work_2 : decode cX6_work 2 = .ok (.lconst 0, 1) := by decide +kernel
theorem dX6_work_3 : decode cX6_work 3 = .ok (.ldc2_w 96, 3) := by decide +kernel
theorem dX6_work_6 : decode cX6_work 6 = .ok (.invokestatic 92, 3) := by decide +kernel
theorem dX6_work_9 : decode cX6_work 9 = .ok (.ifCond .eq 30, 3) := by decide +kernel
theorem dX6_work_12 : decode cX6_work 12 = .ok (.iload_n 2, 1) := by decide +kernel
theorem dX6_work_13 : decode cX6_work 13 = .ok (.i2l, 1) := by decide +kernel
theorem dX6_work_14 : decode cX6_work 14 = .ok (.ldc2_w 98, 3) := by decide +kernel
theorem dX6_work_17 : decode cX6_work 17 = .ok (.ldc2_w 100, 3) := by decide +kernel
theorem dX6_work_20 : decode cX6_work 20 = .ok (.invokestatic 92, 3) := by decide +kernel
theorem dX6_work_23 : decode cX6_work 23 = .ok (.ifCond .eq 16, 3) := by decide +kernel
theorem dX6_work_26 : decode cX6_work 26 = .ok (.iload_n 3, 1) := by decide +kernel
theorem dX6_work_27 : decode cX6_work 27 = .ok (.i2l, 1) := by decide +kernel
theorem dX6_work_28 : decode cX6_work 28 = .ok (.iload_n 2, 1) := by decide +kernel
theorem dX6_work_29 : decode cX6_work 29 = .ok (.i2l, 1) := by decide +kernel
theorem dX6_work_30 : decode cX6_work 30 = .ok (.ldc2_w 100, 3) := by decide +kernel
theorem dX6_work_33 : decode cX6_work 33 = .ok (.invokestatic 92, 3) := by decide +kernel
theorem dX6_work_36 : decode cX6_work 36 = .ok (.ifCond .ne 6, 3) := by decide +kernel
theorem dX6_work_39 : decode cX6_work 39 = .ok (.bipush (-2), 2) := by decide +kernel
theorem dX6_work_41 : decode cX6_work 41 = .ok (.ireturn, 1) := by decide +kernel
theorem dX6_work_42 : decode cX6_work 42 = .ok (.aload_n 0, 1) := by decide +kernel
theorem dX6_work_43 : decode cX6_work 43 = .ok (.getfield 7, 3) := by decide +kernel
theorem dX6_work_46 : decode cX6_work 46 = .ok (.iload_n 1, 1) := by decide +kernel
theorem dX6_work_47 : decode cX6_work 47 = .ok (.iload_n 2, 1) := by decide +kernel
theorem dX6_work_48 : decode cX6_work 48 = .ok (.iastore, 1) := by decide +kernel
theorem dX6_work_49 : decode cX6_work 49 = .ok (.aload_n 0, 1) := by decide +kernel
theorem dX6_work_50 : decode cX6_work 50 = .ok (.getfield 13, 3) := by decide +kernel
theorem dX6_work_53 : decode cX6_work 53 = .ok (.iload_n 1, 1) := by decide +kernel
theorem dX6_work_54 : decode cX6_work 54 = .ok (.iload_n 3, 1) := by decide +kernel
theorem dX6_work_55 : decode cX6_work 55 = .ok (.iastore, 1) := by decide +kernel
theorem dX6_work_56 : decode cX6_work 56 = .ok (.iconst 1, 1) := by decide +kernel
theorem dX6_work_57 : decode cX6_work 57 = .ok (.ireturn, 1) := by decide +kernel
set_option maxRecDepth 20000 in
theorem ggX6_thing_X6_in : GoodIn wsX6_thing wsX6_in := goodIn_r _ [12] (by decide +kernel) (by decide +kernel)
set_option maxRecDepth 20000 in
theorem gX6_thing_X6_in : GoodIn wsX6_thing (va_wsS RX6 92 yX6_in wsX6_in) := goodIn_app (goodIn_of _ (by decide +kernel)) ggX6_thing_X6_in
theorem dX6_thing_0 : decode cX6_thing 0 = .ok (.iload_n 1, 1) := by decide +kernel
theorem dX6_thing_1 : decode cX6_thing 1 = .ok (.i2l, 1) := by decide +kernel
theorem dX6_thing_2 : decode cX6_thing 2 = .ok (.lconst 1, 1) := by decide +kernel
theorem dX6_thing_3 : decode cX6_thing 3 = .ok (.ldc2_w 102, 3) := by decide +kernel
theorem dX6_thing_6 : decode cX6_thing 6 = .ok (.invokestatic 92, 3) := by decide +kernel
theorem dX6_thing_9 : decode cX6_thing 9 = .ok (.ifCond .ne 6, 3) := by decide +kernel
theorem dX6_thing_12 : decode cX6_thing 12 = .ok (.bipush (-2), 2) := by decide +kernel
theorem dX6_thing_14 : decode cX6_thing 14 = .ok (.ireturn, 1) := by decide +kernel
theorem dX6_thing_15 : decode cX6_thing 15 = .ok (.aload_n 0, 1) := by decide +kernel
theorem dX6_thing_16 : decode cX6_thing 16 = .ok (.getfield 104, 3) := by decide +kernel
theorem dX6_thing_19 : decode cX6_thing 19 = .ok (.bipush 12, 2) := by decide +kernel
theorem dX6_thing_21 : decode cX6_thing 21 = .ok (.if_icmp .ne 6, 3) := by decide +kernel
theorem dX6_thing_24 : decode cX6_thing 24 = .ok (.bipush (-4), 2) := by decide +kernel
theorem dX6_thing_26 : decode cX6_thing 26 = .ok (.ireturn, 1) := by decide +kernel
theorem dX6_thing_27 : decode cX6_thing 27 = .ok (.aload_n 0, 1) := by decide +kernel
theorem dX6_thing_28 : decode cX6_thing 28 = .ok (.getfield 16, 3) := by decide +kernel
theorem dX6_thing_31 : decode cX6_thing 31 = .ok (.aload_n 0, 1) := by decide +kernel
theorem dX6_thing_32 : decode cX6_thing 32 = .ok (.getfield 104, 3) := by decide +kernel
theorem dX6_thing_35 : decode cX6_thing 35 = .ok (.iload_n 1, 1) := by decide +kernel
theorem dX6_thing_36 : decode cX6_thing 36 = .ok (.iastore, 1) := by decide +kernel
theorem dX6_thing_37 : decode cX6_thing 37 = .ok (.iconst 0, 1) := by decide +kernel
theorem dX6_thing_38 : decode cX6_thing 38 = .ok (.istore_n 2, 1) := by decide +kernel
theorem dX6_thing_39 : decode cX6_thing 39 = .ok (.iload_n 2, 1) := by decide +kernel
theorem dX6_thing_40 : decode cX6_thing 40 = .ok (.iconst 5, 1) := by decide +kernel
theorem dX6_thing_41 : decode cX6_thing 41 = .ok (.if_icmp .ge 23, 3) := by decide +kernel
theorem dX6_thing_44 : decode cX6_thing 44 = .ok (.aload_n 0, 1) := by decide +kernel
theorem dX6_thing_45 : decode cX6_thing 45 = .ok (.getfield 19, 3) := by decide +kernel
theorem dX6_thing_48 : decode cX6_thing 48 = .ok (.iconst 5, 1) := by decide +kernel
theorem dX6_thing_49 : decode cX6_thing 49 = .ok (.aload_n 0, 1) := by decide +kernel
theorem dX6_thing_50 : decode cX6_thing 50 = .ok (.getfield 104, 3) := by decide +kernel
theorem dX6_thing_53 : decode cX6_thing 53 = .ok (.imul, 1) := by decide +kernel
theorem dX6_thing_54 : decode cX6_thing 54 = .ok (.iload_n 2, 1) := by decide +kernel
theorem dX6_thing_55 : decode cX6_thing 55 = .ok (.iadd, 1) := by decide +kernel
theorem dX6_thing_56 : decode cX6_thing 56 = .ok (.iconst 0, 1) := by decide +kernel
theorem dX6_thing_57 : decode cX6_thing 57 = .ok (.iastore, 1) := by decide +kernel
theorem dX6_thing_58 : decode cX6_thing 58 = .ok (.iinc 2 1, 3) := by decide +kernel
theorem dX6_thing_61 : decode cX6_thing 61 = .ok (.goto (-22), 3) := by decide +kernel
theorem dX6_thing_64 : decode cX6_thing 64 = .ok (.aload_n 0, 1) := by decide +kernel
theorem dX6_thing_65 : decode cX6_thing 65 = .ok (.getfield 22, 3) := by decide +kernel
theorem dX6_thing_68 : decode cX6_thing 68 = .ok (.aload_n 0, 1) := by decide +kernel
theorem dX6_thing_69 : decode cX6_thing 69 = .ok (.getfield 104, 3) := by decide +kernel
theorem dX6_thing_72 : decode cX6_thing 72 = .ok (.iconst (-1), 1) := by decide +kernel
theorem dX6_thing_73 : decode cX6_thing 73 = .ok (.iastore, 1) := by decide +kernel
theorem dX6_thing_74 : decode cX6_thing 74 = .ok (.aload_n 0, 1) := by decide +kernel
theorem dX6_thing_75 : decode cX6_thing 75 = .ok (.getfield 25, 3) := by decide +kernel
theorem dX6_thing_78 : decode cX6_thing 78 = .ok (.aload_n 0, 1) := by decide +kernel
theorem dX6_thing_79 : decode cX6_thing 79 = .ok (.getfield 104, 3) := by decide +kernel
theorem dX6_thing_82 : decode cX6_thing 82 = .ok (.iconst (-1), 1) := by decide +kernel
theorem dX6_thing_83 : decode cX6_thing 83 = .ok (.iastore, 1) := by decide +kernel
theorem dX6_thing_84 : decode cX6_thing 84 = .ok (.aload_n 0, 1) := by decide +kernel
theorem dX6_thing_85 : decode cX6_thing 85 = .ok (.getfield 28, 3) := by decide +kernel
theorem dX6_thing_88 : decode cX6_thing 88 = .ok (.aload_n 0, 1) := by decide +kernel
theorem dX6_thing_89 : decode cX6_thing 89 = .ok (.getfield 104, 3) := by decide +kernel
theorem dX6_thing_92 : decode cX6_thing 92 = .ok (.iconst 0, 1) := by decide +kernel
theorem dX6_thing_93 : decode cX6_thing 93 = .ok (.iastore, 1) := by decide +kernel
theorem dX6_thing_94 : decode cX6_thing 94 = .ok (.aload_n 0, 1) := by decide +kernel
theorem dX6_thing_95 : decode cX6_thing 95 = .ok (.getfield 31, 3) := by decide +kernel
theorem dX6_thing_98 : decode cX6_thing 98 = .ok (.aload_n 0, 1) := by decide +kernel
theorem dX6_thing_99 : decode cX6_thing 99 = .ok (.getfield 104, 3) := by decide +kernel
theorem dX6_thing_102 : decode cX6_thing 102 = .ok (.iconst 0, 1) := by decide +kernel
theorem dX6_thing_103 : decode cX6_thing 103 = .ok (.iastore, 1) := by decide +kernel
theorem dX6_thing_104 : decode cX6_thing 104 = .ok (.aload_n 0, 1) := by decide +kernel
theorem dX6_thing_105 : decode cX6_thing 105 = .ok (.dup, 1) := by decide +kernel
theorem dX6_thing_106 : decode cX6_thing 106 = .ok (.getfield 104, 3) := by decide +kernel
theorem dX6_thing_109 : decode cX6_thing 109 = .ok (.iconst 1, 1) := by decide +kernel
theorem dX6_thing_110 : decode cX6_thing 110 = .ok (.iadd, 1) := by decide +kernel
theorem dX6_thing_111 : decode cX6_thing 111 = .ok (.putfield 104, 3) := by decide +kernel
theorem dX6_thing_114 : decode cX6_thing 114 = .ok (.aload_n 0, 1) := by decide +kernel
theorem dX6_thing_115 : decode cX6_thing 115 = .ok (.getfield 104, 3) := by decide +kernel
theorem dX6_thing_118 : decode cX6_thing 118 = .ok (.iconst 1, 1) := by decide +kernel
theorem dX6_thing_119 : decode cX6_thing 119 = .ok (.isub, 1) := by decide +kernel
theorem dX6_thing_120 : decode cX6_thing 120 = .ok (.ireturn, 1) := by decide +kernel
set_option maxRecDepth 20000 in
theorem ggX6_noThing_X6_in : GoodIn wsX6_noThing wsX6_in := goodIn_r _ [5] (by decide +kernel) (by decide +kernel)
set_option maxRecDepth 20000 in
theorem gX6_noThing_X6_in : GoodIn wsX6_noThing (va_wsS RX6 92 yX6_in wsX6_in) := goodIn_app (goodIn_of _ (by decide +kernel)) ggX6_noThing_X6_in
theorem dX6_noThing_0 : decode cX6_noThing 0 = .ok (.iload_n 1, 1) := by decide +kernel
theorem dX6_noThing_1 : decode cX6_noThing 1 = .ok (.i2l, 1) := by decide +kernel
theorem dX6_noThing_2 : decode cX6_noThing 2 = .ok (.lconst 0, 1) := by decide +kernel
theorem dX6_noThing_3 : decode cX6_noThing 3 = .ok (.aload_n 0, 1) := by decide +kernel
theorem dX6_noThing_4 : decode cX6_noThing 4 = .ok (.getfield 104, 3) := by decide +kernel
theorem dX6_noThing_7 : decode cX6_noThing 7 = .ok (.iconst 1, 1) := by decide +kernel
theorem dX6_noThing_8 : decode cX6_noThing 8 = .ok (.isub, 1) := by decide +kernel
theorem dX6_noThing_9 : decode cX6_noThing 9 = .ok (.i2l, 1) := by decide +kernel
theorem dX6_noThing_10 : decode cX6_noThing 10 = .ok (.invokestatic 92, 3) := by decide +kernel
theorem dX6_noThing_13 : decode cX6_noThing 13 = .ok (.ifCond .ne 7, 3) := by decide +kernel
theorem dX6_noThing_16 : decode cX6_noThing 16 = .ok (.iconst 1, 1) := by decide +kernel
theorem dX6_noThing_17 : decode cX6_noThing 17 = .ok (.goto 4, 3) := by decide +kernel
theorem dX6_noThing_20 : decode cX6_noThing 20 = .ok (.iconst 0, 1) := by decide +kernel
theorem dX6_noThing_21 : decode cX6_noThing 21 = .ok (.ireturn, 1) := by decide +kernel
set_option maxRecDepth 20000 in
theorem ggX6_part_X6_noThing : GoodIn wsX6_part wsX6_noThing := goodIn_r _ [8, 9, 10, 11, 7, 12, 13, 14, 15, 16, 17, 18, 19, 20, 21, 22, 23, 24, 25, 26, 27, 28, 29, 30, 31, 32, 33, 34, 35, 36, 37, 38, 39, 40, 41, 42, 43, 44, 45, 46, 47, 48, 49, 50] (by decide +kernel) (by decide +kernel)
set_option maxRecDepth 20000 in
theorem gX6_part_X6_noThing : GoodIn wsX6_part (wsV RX6 107 RX6 yX6_noThing wsX6_noThing) := goodIn_app (goodIn_of _ (by decide +kernel)) ggX6_part_X6_noThing
set_option maxRecDepth 20000 in
theorem ggX6_part_X6_in : GoodIn wsX6_part wsX6_in := goodIn_r _ [12] (by decide +kernel) (by decide +kernel)
set_option maxRecDepth 20000 in
theorem gX6_part_X6_in : GoodIn wsX6_part (va_wsS RX6 92 yX6_in wsX6_in) := goodIn_app (goodIn_of _ (by decide +kernel)) ggX6_part_X6_in
theorem dX6_part_0 : decode cX6_part 0 = .ok (.aload_n 0, 1) := by decide +kernel
theorem dX6_part_1 : decode cX6_part 1 = .ok (.iload_n 1, 1) := by decide +kernel
theorem dX6_part_2 : decode cX6_part 2 = .ok (.invokevirtual 107, 3) := by decide +kernel
theorem dX6_part_5 : decode cX6_part 5 = .ok (.ifCond .ne 33, 3) := by decide +kernel
theorem dX6_part_8 : decode cX6_part 8 = .ok (.iload_n 2, 1) := by decide +kernel
theorem dX6_part_9 : decode cX6_part 9 = .ok (.i2l, 1) := by decide +kernel
theorem dX6_part_10 : decode cX6_part 10 = .ok (.lconst 0, 1) := by decide +kernel
theorem dX6_part_11 : decode cX6_part 11 = .ok (.aload_n 0, 1) := by decide +kernel
theorem dX6_part_12 : decode cX6_part 12 = .ok (.getfield 16, 3) := by decide +kernel
theorem dX6_part_15 : decode cX6_part 15 = .ok (.iload_n 1, 1) := by decide +kernel
theorem dX6_part_16 : decode cX6_part 16 = .ok (.iaload, 1) := by decide +kernel
theorem dX6_part_17 : decode cX6_part 17 = .ok (.iconst 1, 1) := by decide +kernel
theorem dX6_part_18 : decode cX6_part 18 = .ok (.isub, 1) := by decide +kernel
theorem dX6_part_19 : decode cX6_part 19 = .ok (.i2l, 1) := by decide +kernel
theorem dX6_part_20 : decode cX6_part 20 = .ok (.invokestatic 92, 3) := by decide +kernel
theorem dX6_part_23 : decode cX6_part 23 = .ok (.ifCond .eq 15, 3) := by decide +kernel
theorem dX6_part_26 : decode cX6_part 26 = .ok (.iload_n 3, 1) := by decide +kernel
theorem dX6_part_27 : decode cX6_part 27 = .ok (.i2l, 1) := by decide +kernel
theorem dX6_part_28 : decode cX6_part 28 = .ok (.lconst 0, 1) := by decide +kernel
theorem dX6_part_29 : decode cX6_part 29 = .ok (.ldc2_w 111, 3) := by decide +kernel
theorem dX6_part_32 : decode cX6_part 32 = .ok (.invokestatic 92, 3) := by decide +kernel
theorem dX6_part_35 : decode cX6_part 35 = .ok (.ifCond .ne 6, 3) := by decide +kernel
theorem dX6_part_38 : decode cX6_part 38 = .ok (.bipush (-2), 2) := by decide +kernel
theorem dX6_part_40 : decode cX6_part 40 = .ok (.ireturn, 1) := by decide +kernel
theorem dX6_part_41 : decode cX6_part 41 = .ok (.aload_n 0, 1) := by decide +kernel
theorem dX6_part_42 : decode cX6_part 42 = .ok (.getfield 19, 3) := by decide +kernel
theorem dX6_part_45 : decode cX6_part 45 = .ok (.iconst 5, 1) := by decide +kernel
theorem dX6_part_46 : decode cX6_part 46 = .ok (.iload_n 1, 1) := by decide +kernel
theorem dX6_part_47 : decode cX6_part 47 = .ok (.imul, 1) := by decide +kernel
theorem dX6_part_48 : decode cX6_part 48 = .ok (.iload_n 2, 1) := by decide +kernel
theorem dX6_part_49 : decode cX6_part 49 = .ok (.iadd, 1) := by decide +kernel
theorem dX6_part_50 : decode cX6_part 50 = .ok (.iaload, 1) := by decide +kernel
theorem dX6_part_51 : decode cX6_part 51 = .ok (.istore 4, 2) := by decide +kernel
theorem dX6_part_53 : decode cX6_part 53 = .ok (.aload_n 0, 1) := by decide +kernel
theorem dX6_part_54 : decode cX6_part 54 = .ok (.getfield 19, 3) := by decide +kernel
theorem dX6_part_57 : decode cX6_part 57 = .ok (.iconst 5, 1) := by decide +kernel
theorem dX6_part_58 : decode cX6_part 58 = .ok (.iload_n 1, 1) := by decide +kernel
theorem dX6_part_59 : decode cX6_part 59 = .ok (.imul, 1) := by decide +kernel
theorem dX6_part_60 : decode cX6_part 60 = .ok (.iload_n 2, 1) := by decide +kernel
theorem dX6_part_61 : decode cX6_part 61 = .ok (.iadd, 1) := by decide +kernel
theorem dX6_part_62 : decode cX6_part 62 = .ok (.iload_n 3, 1) := by decide +kernel
theorem dX6_part_63 : decode cX6_part 63 = .ok (.iastore, 1) := by decide +kernel
theorem dX6_part_64 : decode cX6_part 64 = .ok (.iload 4, 2) := by decide +kernel
theorem dX6_part_66 : decode cX6_part 66 = .ok (.ireturn, 1) := by decide +kernel
theorem dX6_narrow_0 : decode cX6_narrow 0 = .ok (.iconst 0, 1) := by decide +kernel
theorem dX6_narrow_1 : decode cX6_narrow 1 = .ok (.istore_n 3, 1) := by decide +kernel
theorem dX6_narrow_2 : decode cX6_narrow 2 = .ok (.iload_n 3, 1) := by decide +kernel
theorem dX6_narrow_3 : decode cX6_narrow 3 = .ok (.bipush 10, 2) := by decide +kernel
theorem dX6_narrow_5 : decode cX6_narrow 5 = .ok (.if_icmp .ge 87, 3) := by decide +kernel
theorem dX6_narrow_8 : decode cX6_narrow 8 = .ok (.aload_n 0, 1) := by decide +kernel
theorem dX6_narrow_9 : decode cX6_narrow 9 = .ok (.getfield 19, 3) := by decide +kernel
theorem dX6_narrow_12 : decode cX6_narrow 12 = .ok (.iconst 5, 1) := by decide +kernel
theorem dX6_narrow_13 : decode cX6_narrow 13 = .ok (.iload_n 1, 1) := by decide +kernel
theorem dX6_narrow_14 : decode cX6_narrow 14 = .ok (.imul, 1) := by decide +kernel
theorem dX6_narrow_15 : decode cX6_narrow 15 = .ok (.iload_n 2, 1) := by decide +kernel
theorem dX6_narrow_16 : decode cX6_narrow 16 = .ok (.iadd, 1) := by decide +kernel
theorem dX6_narrow_17 : decode cX6_narrow 17 = .ok (.iaload, 1) := by decide +kernel
theorem dX6_narrow_18 : decode cX6_narrow 18 = .ok (.iload_n 3, 1) := by decide +kernel
theorem dX6_narrow_19 : decode cX6_narrow 19 = .ok (.ishr, 1) := by decide +kernel
theorem dX6_narrow_20 : decode cX6_narrow 20 = .ok (.iconst 1, 1) := by decide +kernel
theorem dX6_narrow_21 : decode cX6_narrow 21 = .ok (.iand, 1) := by decide +kernel
theorem dX6_narrow_22 : decode cX6_narrow 22 = .ok (.iconst 1, 1) := by decide +kernel
theorem dX6_narrow_23 : decode cX6_narrow 23 = .ok (.if_icmp .ne 63, 3) := by decide +kernel
theorem dX6_narrow_26 : decode cX6_narrow 26 = .ok (.aload_n 0, 1) := by decide +kernel
theorem dX6_narrow_27 : decode cX6_narrow 27 = .ok (.aload_n 0, 1) := by decide +kernel
theorem dX6_narrow_28 : decode cX6_narrow 28 = .ok (.getfield 7, 3) := by decide +kernel
theorem dX6_narrow_31 : decode cX6_narrow 31 = .ok (.iload_n 3, 1) := by decide +kernel
theorem dX6_narrow_32 : decode cX6_narrow 32 = .ok (.iaload, 1) := by decide +kernel
theorem dX6_narrow_33 : decode cX6_narrow 33 = .ok (.aload_n 0, 1) := by decide +kernel
theorem dX6_narrow_34 : decode cX6_narrow 34 = .ok (.getfield 113, 3) := by decide +kernel
theorem dX6_narrow_37 : decode cX6_narrow 37 = .ok (.if_icmp .le 12, 3) := by decide +kernel
theorem dX6_narrow_40 : decode cX6_narrow 40 = .ok (.aload_n 0, 1) := by decide +kernel
theorem dX6_narrow_41 : decode cX6_narrow 41 = .ok (.getfield 7, 3) := by decide +kernel
theorem dX6_narrow_44 : decode cX6_narrow 44 = .ok (.iload_n 3, 1) := by decide +kernel
theorem dX6_narrow_45 : decode cX6_narrow 45 = .ok (.iaload, 1) := by decide +kernel
theorem dX6_narrow_46 : decode cX6_narrow 46 = .ok (.goto 7, 3) := by decide +kernel
theorem dX6_narrow_49 : decode cX6_narrow 49 = .ok (.aload_n 0, 1) := by decide +kernel
theorem dX6_narrow_50 : decode cX6_narrow 50 = .ok (.getfield 113, 3) := by decide +kernel
theorem dX6_narrow_53 : decode cX6_narrow 53 = .ok (.putfield 113, 3) := by decide +kernel
theorem dX6_narrow_56 : decode cX6_narrow 56 = .ok (.aload_n 0, 1) := by decide +kernel
theorem dX6_narrow_57 : decode cX6_narrow 57 = .ok (.aload_n 0, 1) := by decide +kernel
theorem dX6_narrow_58 : decode cX6_narrow 58 = .ok (.getfield 13, 3) := by decide +kernel
theorem dX6_narrow_61 : decode cX6_narrow 61 = .ok (.iload_n 3, 1) := by decide +kernel
theorem dX6_narrow_62 : decode cX6_narrow 62 = .ok (.iaload, 1) := by decide +kernel
theorem dX6_narrow_63 : decode cX6_narrow 63 = .ok (.aload_n 0, 1) := by decide +kernel
theorem dX6_narrow_64 : decode cX6_narrow 64 = .ok (.getfield 116, 3) := by decide +kernel
theorem dX6_narrow_67 : decode cX6_narrow 67 = .ok (.if_icmp .ge 12, 3) := by decide +kernel
theorem dX6_narrow_70 : decode cX6_narrow 70 = .ok (.aload_n 0, 1) := by decide +kernel
theorem dX6_narrow_71 : decode cX6_narrow 71 = .ok (.getfield 13, 3) := by decide +kernel
theorem dX6_narrow_74 : decode cX6_narrow 74 = .ok (.iload_n 3, 1) := by decide +kernel
theorem dX6_narrow_75 : decode cX6_narrow 75 = .ok (.iaload, 1) := by decide +kernel
theorem dX6_narrow_76 : decode cX6_narrow 76 = .ok (.goto 7, 3) := by decide +kernel
theorem dX6_narrow_79 : decode cX6_narrow 79 = .ok (.aload_n 0, 1) := by decide +kernel
theorem dX6_narrow_80 : decode cX6_narrow 80 = .ok (.getfield 116, 3) := by decide +kernel
theorem dX6_narrow_83 : decode cX6_narrow 83 = .ok (.putfield 116, 3) := by decide +kernel
theorem dX6_narrow_86 : decode cX6_narrow 86 = .ok (.iinc 3 1, 3) := by decide +kernel
theorem dX6_narrow_89 : decode cX6_narrow 89 = .ok (.goto (-87), 3) := by decide +kernel
theorem dX6_narrow_92 : decode cX6_narrow 92 = .ok (.return_, 1) := by decide +kernel
theorem dX6_allYears_0 : decode cX6_allYears 0 = .ok (.aload_n 0, 1) := by decide +kernel
theorem dX6_allYears_1 : decode cX6_allYears 1 = .ok (.sipush 1600, 3) := by decide +kernel
theorem dX6_allYears_4 : decode cX6_allYears 4 = .ok (.putfield 113, 3) := by decide +kernel
theorem dX6_allYears_7 : decode cX6_allYears 7 = .ok (.aload_n 0, 1) := by decide +kernel
theorem dX6_allYears_8 : decode cX6_allYears 8 = .ok (.sipush 1950, 3) := by decide +kernel
theorem dX6_allYears_11 : decode cX6_allYears 11 = .ok (.putfield 116, 3) := by decide +kernel
theorem dX6_allYears_14 : decode cX6_allYears 14 = .ok (.return_, 1) := by decide +kernel
set_option maxRecDepth 20000 in
theorem ggX6_span_X6_noThing : GoodIn wsX6_span wsX6_noThing := goodIn_r _ [8, 9, 10, 11, 7, 12, 24, 25, 26, 27, 28, 29, 30, 31, 32, 33, 34, 35, 36, 37, 38, 39, 40, 41, 42, 43, 44, 45, 46, 47, 48, 49, 50, 51, 52, 53, 54, 55, 56, 57, 58, 59, 60, 61] (by decide +kernel) (by decide +kernel)
set_option maxRecDepth 20000 in
theorem gX6_span_X6_noThing : GoodIn wsX6_span (wsV RX6 107 RX6 yX6_noThing wsX6_noThing) := goodIn_app (goodIn_of _ (by decide +kernel)) ggX6_span_X6_noThing
set_option maxRecDepth 20000 in
theorem ggX6_span_X6_in : GoodIn wsX6_span wsX6_in := goodIn_r _ [12] (by decide +kernel) (by decide +kernel)
set_option maxRecDepth 20000 in
theorem gX6_span_X6_in : GoodIn wsX6_span (va_wsS RX6 92 yX6_in wsX6_in) := goodIn_app (goodIn_of _ (by decide +kernel)) ggX6_span_X6_in
set_option maxRecDepth 20000 in
theorem ggX6_span_X6_allYears : GoodIn wsX6_span wsX6_allYears := goodIn_r _ [16, 2, 3, 24, 25, 26, 27, 28, 29, 30, 31, 32, 33, 34, 35, 36, 37, 38, 39, 40, 41, 42, 43, 44, 45, 46, 47, 48, 49, 50, 51, 52, 53, 54, 55, 56, 57, 58, 59, 60, 61] (by decide +kernel) (by decide +kernel)
set_option maxRecDepth 20000 in
theorem gX6_span_X6_allYears : GoodIn wsX6_span (wsV RX6 119 RX6 yX6_allYears wsX6_allYears) := goodIn_app (goodIn_of _ (by decide +kernel)) ggX6_span_X6_allYears
set_option maxRecDepth 20000 in
theorem ggX6_span_X6_narrow : GoodIn wsX6_span wsX6_narrow := goodIn_r _ [20, 21, 22, 2, 23, 3, 24, 25, 26, 27, 28, 29, 30, 31, 32, 33, 34, 35, 36, 37, 38, 39, 40, 41, 42, 43, 44, 45, 46, 47, 48, 49, 50, 51, 52, 53, 54, 55, 56, 57, 58, 59, 60, 61] (by decide +kernel) (by decide +kernel)
set_option maxRecDepth 20000 in
theorem gX6_span_X6_narrow : GoodIn wsX6_span (wsV RX6 122 RX6 yX6_narrow wsX6_narrow) := goodIn_app (goodIn_of _ (by decide +kernel)) ggX6_span_X6_narrow
theorem dX6_span_0 : decode cX6_span 0 = .ok (.aload_n 0, 1) := by decide +kernel
theorem dX6_span_1 : decode cX6_span 1 = .ok (.iload_n 1, 1) := by decide +kernel
theorem dX6_span_2 : decode cX6_span 2 = .ok (.invokevirtual 107, 3) := by decide +kernel
theorem dX6_span_5 : decode cX6_span 5 = .ok (.ifCond .ne 31, 3) := by decide +kernel
theorem dX6_span_8 : decode cX6_span 8 = .ok (.iload_n 2, 1) := by decide +kernel
theorem dX6_span_9 : decode cX6_span 9 = .ok (.i2l, 1) := by decide +kernel
theorem dX6_span_10 : decode cX6_span 10 = .ok (.lconst 0, 1) := by decide +kernel
theorem dX6_span_11 : decode cX6_span 11 = .ok (.aload_n 0, 1) := by decide +kernel
theorem dX6_span_12 : decode cX6_span 12 = .ok (.getfield 16, 3) := by decide +kernel
theorem dX6_span_15 : decode cX6_span 15 = .ok (.iload_n 1, 1) := by decide +kernel
theorem dX6_span_16 : decode cX6_span 16 = .ok (.iaload, 1) := by decide +kernel
theorem dX6_span_17 : decode cX6_span 17 = .ok (.iconst 1, 1) := by decide +kernel
theorem dX6_span_18 : decode cX6_span 18 = .ok (.isub, 1) := by decide +kernel
theorem dX6_span_19 : decode cX6_span 19 = .ok (.i2l, 1) := by decide +kernel
theorem dX6_span_20 : decode cX6_span 20 = .ok (.invokestatic 92, 3) := by decide +kernel
theorem dX6_span_23 : decode cX6_span 23 = .ok (.ifCond .eq 13, 3) := by decide +kernel
theorem dX6_span_26 : decode cX6_span 26 = .ok (.iload_n 3, 1) := by decide +kernel
theorem dX6_span_27 : decode cX6_span 27 = .ok (.i2l, 1) := by decide +kernel
theorem dX6_span_28 : decode cX6_span 28 = .ok (.lconst 0, 1) := by decide +kernel
theorem dX6_span_29 : decode cX6_span 29 = .ok (.lconst 1, 1) := by decide +kernel
theorem dX6_span_30 : decode cX6_span 30 = .ok (.invokestatic 92, 3) := by decide +kernel
theorem dX6_span_33 : decode cX6_span 33 = .ok (.ifCond .ne 6, 3) := by decide +kernel
theorem dX6_span_36 : decode cX6_span 36 = .ok (.bipush (-2), 2) := by decide +kernel
theorem dX6_span_38 : decode cX6_span 38 = .ok (.ireturn, 1) := by decide +kernel
theorem dX6_span_39 : decode cX6_span 39 = .ok (.aload_n 0, 1) := by decide +kernel
theorem dX6_span_40 : decode cX6_span 40 = .ok (.invokevirtual 119, 3) := by decide +kernel
theorem dX6_span_43 : decode cX6_span 43 = .ok (.aload_n 0, 1) := by decide +kernel
theorem dX6_span_44 : decode cX6_span 44 = .ok (.iload_n 1, 1) := by decide +kernel
theorem dX6_span_45 : decode cX6_span 45 = .ok (.iload_n 2, 1) := by decide +kernel
theorem dX6_span_46 : decode cX6_span 46 = .ok (.invokevirtual 122, 3) := by decide +kernel
theorem dX6_span_49 : decode cX6_span 49 = .ok (.aload_n 0, 1) := by decide +kernel
theorem dX6_span_50 : decode cX6_span 50 = .ok (.getfield 113, 3) := by decide +kernel
theorem dX6_span_53 : decode cX6_span 53 = .ok (.aload_n 0, 1) := by decide +kernel
theorem dX6_span_54 : decode cX6_span 54 = .ok (.getfield 116, 3) := by decide +kernel
theorem dX6_span_57 : decode cX6_span 57 = .ok (.if_icmp .le 7, 3) := by decide +kernel
theorem dX6_span_60 : decode cX6_span 60 = .ok (.iconst (-1), 1) := by decide +kernel
theorem dX6_span_61 : decode cX6_span 61 = .ok (.goto 18, 3) := by decide +kernel
theorem dX6_span_64 : decode cX6_span 64 = .ok (.iload_n 3, 1) := by decide +kernel
theorem dX6_span_65 : decode cX6_span 65 = .ok (.ifCond .ne 10, 3) := by decide +kernel
theorem dX6_span_68 : decode cX6_span 68 = .ok (.aload_n 0, 1) := by decide +kernel
theorem dX6_span_69 : decode cX6_span 69 = .ok (.getfield 113, 3) := by decide +kernel
theorem dX6_span_72 : decode cX6_span 72 = .ok (.goto 7, 3) := by decide +kernel
theorem dX6_span_75 : decode cX6_span 75 = .ok (.aload_n 0, 1) := by decide +kernel
theorem dX6_span_76 : decode cX6_span 76 = .ok (.getfield 116, 3) := by decide +kernel
theorem dX6_span_79 : decode cX6_span 79 = .ok (.ireturn, 1) := by decide +kernel
theorem dX6_bits_0 : decode cX6_bits 0 = .ok (.iconst 0, 1) := by decide +kernel
theorem dX6_bits_1 : decode cX6_bits 1 = .ok (.istore_n 1, 1) := by decide +kernel
theorem dX6_bits_2 : decode cX6_bits 2 = .ok (.iconst 0, 1) := by decide +kernel
theorem dX6_bits_3 : decode cX6_bits 3 = .ok (.istore_n 2, 1) := by decide +kernel
theorem dX6_bits_4 : decode cX6_bits 4 = .ok (.iload_n 2, 1) := by decide +kernel
theorem dX6_bits_5 : decode cX6_bits 5 = .ok (.bipush 16, 2) := by decide +kernel
theorem dX6_bits_7 : decode cX6_bits 7 = .ok (.if_icmp .ge 17, 3) := by decide +kernel
theorem dX6_bits_10 : decode cX6_bits 10 = .ok (.iload_n 1, 1) := by decide +kernel
theorem dX6_bits_11 : decode cX6_bits 11 = .ok (.iload_n 0, 1) := by decide +kernel
theorem dX6_bits_12 : decode cX6_bits 12 = .ok (.iload_n 2, 1) := by decide +kernel
theorem dX6_bits_13 : decode cX6_bits 13 = .ok (.ishr, 1) := by decide +kernel
theorem dX6_bits_14 : decode cX6_bits 14 = .ok (.iconst 1, 1) := by decide +kernel
theorem dX6_bits_15 : decode cX6_bits 15 = .ok (.iand, 1) := by decide +kernel
theorem dX6_bits_16 : decode cX6_bits 16 = .ok (.iadd, 1) := by decide +kernel
theorem dX6_bits_17 : decode cX6_bits 17 = .ok (.istore_n 1, 1) := by decide +kernel
theorem dX6_bits_18 : decode cX6_bits 18 = .ok (.iinc 2 1, 3) := by decide +kernel
theorem dX6_bits_21 : decode cX6_bits 21 = .ok (.goto (-17), 3) := by decide +kernel
theorem dX6_bits_24 : decode cX6_bits 24 = .ok (.iload_n 1, 1) := by decide +kernel
theorem dX6_bits_25 : decode cX6_bits 25 = .ok (.ireturn, 1) := by decide +kernel
set_option maxRecDepth 20000 in
theorem ggX6_findApart_X6_allYears : GoodIn wsX6_findApart wsX6_allYears := goodIn_r _ [8, 2, 3, 19, 20, 21, 22, 23, 24, 25, 26, 27, 28, 29, 30, 31, 32, 33, 34, 35, 36, 37, 38, 39, 40, 41, 42, 43, 44, 45, 46, 47, 48, 49, 50, 51, 52, 53, 54, 55, 56] (by decide +kernel) (by decide +kernel)
set_option maxRecDepth 20000 in
theorem gX6_findApart_X6_allYears : GoodIn wsX6_findApart (wsV RX6 119 RX6 yX6_allYears wsX6_allYears) := goodIn_app (goodIn_of _ (by decide +kernel)) ggX6_findApart_X6_allYears
set_option maxRecDepth 20000 in
theorem ggX6_findApart_X6_narrow : GoodIn wsX6_findApart wsX6_narrow := goodIn_r _ [12, 13, 14, 2, 15, 3, 19, 20, 21, 22, 23, 24, 25, 26, 27, 28, 29, 30, 31, 32, 33, 34, 35, 36, 37, 38, 39, 40, 41, 42, 43, 44, 45, 46, 47, 48, 49, 50, 51, 52, 53, 54, 55, 56] (by decide +kernel) (by decide +kernel)
set_option maxRecDepth 20000 in
theorem gX6_findApart_X6_narrow : GoodIn wsX6_findApart (wsV RX6 122 RX6 yX6_narrow wsX6_narrow) := goodIn_app (goodIn_of _ (by decide +kernel)) ggX6_findApart_X6_narrow
set_option maxRecDepth 20000 in
theorem ggX6_findApart_X6_bits : GoodIn wsX6_findApart wsX6_bits := goodIn_r _ [18] (by decide +kernel) (by decide +kernel)
set_option maxRecDepth 20000 in
theorem gX6_findApart_X6_bits : GoodIn wsX6_findApart (va_wsS RX6 126 yX6_bits wsX6_bits) := goodIn_app (goodIn_of _ (by decide +kernel)) ggX6_findApart_X6_bits
theorem dX6_findApart_0 : decode cX6_findApart 0 = .ok (.iconst (-1), 1) := by decide +kernel
theorem dX6_findApart_1 : decode cX6_findApart 1 = .ok (.istore_n 2, 1) := by decide +kernel
theorem dX6_findApart_2 : decode cX6_findApart 2 = .ok (.iconst 0, 1) := by decide +kernel
theorem dX6_findApart_3 : decode cX6_findApart 3 = .ok (.istore_n 3, 1) := by decide +kernel
theorem dX6_findApart_4 : decode cX6_findApart 4 = .ok (.iload_n 3, 1) := by decide +kernel
theorem dX6_findApart_5 : decode cX6_findApart 5 = .ok (.iconst 1, 1) := by decide +kernel
theorem dX6_findApart_6 : decode cX6_findApart 6 = .ok (.aload_n 0, 1) := by decide +kernel
theorem dX6_findApart_7 : decode cX6_findApart 7 = .ok (.getfield 16, 3) := by decide +kernel
theorem dX6_findApart_10 : decode cX6_findApart 10 = .ok (.iload_n 1, 1) := by decide +kernel
theorem dX6_findApart_11 : decode cX6_findApart 11 = .ok (.iaload, 1) := by decide +kernel
theorem dX6_findApart_12 : decode cX6_findApart 12 = .ok (.ishl, 1) := by decide +kernel
theorem dX6_findApart_13 : decode cX6_findApart 13 = .ok (.iconst 1, 1) := by decide +kernel
theorem dX6_findApart_14 : decode cX6_findApart 14 = .ok (.isub, 1) := by decide +kernel
theorem dX6_findApart_15 : decode cX6_findApart 15 = .ok (.if_icmp .ge 77, 3) := by decide +kernel
theorem dX6_findApart_18 : decode cX6_findApart 18 = .ok (.aload_n 0, 1) := by decide +kernel
theorem dX6_findApart_19 : decode cX6_findApart 19 = .ok (.invokevirtual 119, 3) := by decide +kernel
theorem dX6_findApart_22 : decode cX6_findApart 22 = .ok (.iconst 0, 1) := by decide +kernel
theorem dX6_findApart_23 : decode cX6_findApart 23 = .ok (.istore 4, 2) := by decide +kernel
theorem dX6_findApart_25 : decode cX6_findApart 25 = .ok (.iload 4, 2) := by decide +kernel
theorem dX6_findApart_27 : decode cX6_findApart 27 = .ok (.aload_n 0, 1) := by decide +kernel
theorem dX6_findApart_28 : decode cX6_findApart 28 = .ok (.getfield 16, 3) := by decide +kernel
theorem dX6_findApart_31 : decode cX6_findApart 31 = .ok (.iload_n 1, 1) := by decide +kernel
theorem dX6_findApart_32 : decode cX6_findApart 32 = .ok (.iaload, 1) := by decide +kernel
theorem dX6_findApart_33 : decode cX6_findApart 33 = .ok (.if_icmp .ge 25, 3) := by decide +kernel
theorem dX6_findApart_36 : decode cX6_findApart 36 = .ok (.iload_n 3, 1) := by decide +kernel
theorem dX6_findApart_37 : decode cX6_findApart 37 = .ok (.iload 4, 2) := by decide +kernel
theorem dX6_findApart_39 : decode cX6_findApart 39 = .ok (.ishr, 1) := by decide +kernel
theorem dX6_findApart_40 : decode cX6_findApart 40 = .ok (.iconst 1, 1) := by decide +kernel
theorem dX6_findApart_41 : decode cX6_findApart 41 = .ok (.iand, 1) := by decide +kernel
theorem dX6_findApart_42 : decode cX6_findApart 42 = .ok (.ifCond .ne 10, 3) := by decide +kernel
theorem dX6_findApart_45 : decode cX6_findApart 45 = .ok (.aload_n 0, 1) := by decide +kernel
theorem dX6_findApart_46 : decode cX6_findApart 46 = .ok (.iload_n 1, 1) := by decide +kernel
theorem dX6_findApart_47 : decode cX6_findApart 47 = .ok (.iload 4, 2) := by decide +kernel
theorem dX6_findApart_49 : decode cX6_findApart 49 = .ok (.invokevirtual 122, 3) := by decide +kernel
theorem dX6_findApart_52 : decode cX6_findApart 52 = .ok (.iinc 4 1, 3) := by decide +kernel
theorem dX6_findApart_55 : decode cX6_findApart 55 = .ok (.goto (-30), 3) := by decide +kernel
theorem dX6_findApart_58 : decode cX6_findApart 58 = .ok (.aload_n 0, 1) := by decide +kernel
theorem dX6_findApart_59 : decode cX6_findApart 59 = .ok (.getfield 113, 3) := by decide +kernel
theorem dX6_findApart_62 : decode cX6_findApart 62 = .ok (.aload_n 0, 1) := by decide +kernel
theorem dX6_findApart_63 : decode cX6_findApart 63 = .ok (.getfield 116, 3) := by decide +kernel
theorem dX6_findApart_66 : decode cX6_findApart 66 = .ok (.if_icmp .gt 20, 3) := by decide +kernel
theorem dX6_findApart_69 : decode cX6_findApart 69 = .ok (.iload_n 2, 1) := by decide +kernel
theorem dX6_findApart_70 : decode cX6_findApart 70 = .ok (.ifCond .lt 14, 3) := by decide +kernel
theorem dX6_findApart_73 : decode cX6_findApart 73 = .ok (.iload_n 3, 1) := by decide +kernel
theorem dX6_findApart_74 : decode cX6_findApart 74 = .ok (.invokestatic 126, 3) := by decide +kernel
theorem dX6_findApart_77 : decode cX6_findApart 77 = .ok (.iload_n 2, 1) := by decide +kernel
theorem dX6_findApart_78 : decode cX6_findApart 78 = .ok (.invokestatic 126, 3) := by decide +kernel
theorem dX6_findApart_81 : decode cX6_findApart 81 = .ok (.if_icmp .ge 5, 3) := by decide +kernel
theorem dX6_findApart_84 : decode cX6_findApart 84 = .ok (.iload_n 3, 1) := by decide +kernel
theorem dX6_findApart_85 : decode cX6_findApart 85 = .ok (.istore_n 2, 1) := by decide +kernel
theorem dX6_findApart_86 : decode cX6_findApart 86 = .ok (.iinc 3 1, 3) := by decide +kernel
theorem dX6_findApart_89 : decode cX6_findApart 89 = .ok (.goto (-85), 3) := by decide +kernel
theorem dX6_findApart_92 : decode cX6_findApart 92 = .ok (.aload_n 0, 1) := by decide +kernel
theorem dX6_findApart_93 : decode cX6_findApart 93 = .ok (.invokevirtual 119, 3) := by decide +kernel
theorem dX6_findApart_96 : decode cX6_findApart 96 = .ok (.iconst 0, 1) := by decide +kernel
theorem dX6_findApart_97 : decode cX6_findApart 97 = .ok (.istore_n 3, 1) := by decide +kernel
theorem dX6_findApart_98 : decode cX6_findApart 98 = .ok (.iload_n 3, 1) := by decide +kernel
theorem dX6_findApart_99 : decode cX6_findApart 99 = .ok (.aload_n 0, 1) := by decide +kernel
theorem dX6_findApart_100 : decode cX6_findApart 100 = .ok (.getfield 16, 3) := by decide +kernel
theorem dX6_findApart_103 : decode cX6_findApart 103 = .ok (.iload_n 1, 1) := by decide +kernel
theorem dX6_findApart_104 : decode cX6_findApart 104 = .ok (.iaload, 1) := by decide +kernel
theorem dX6_findApart_105 : decode cX6_findApart 105 = .ok (.if_icmp .ge 27, 3) := by decide +kernel
theorem dX6_findApart_108 : decode cX6_findApart 108 = .ok (.iload_n 2, 1) := by decide +kernel
theorem dX6_findApart_109 : decode cX6_findApart 109 = .ok (.ifCond .lt 23, 3) := by decide +kernel
theorem dX6_findApart_112 : decode cX6_findApart 112 = .ok (.iload_n 2, 1) := by decide +kernel
theorem dX6_findApart_113 : decode cX6_findApart 113 = .ok (.iload_n 3, 1) := by decide +kernel
theorem dX6_findApart_114 : decode cX6_findApart 114 = .ok (.ishr, 1) := by decide +kernel
theorem dX6_findApart_115 : decode cX6_findApart 115 = .ok (.iconst 1, 1) := by decide +kernel
theorem dX6_findApart_116 : decode cX6_findApart 116 = .ok (.iand, 1) := by decide +kernel
theorem dX6_findApart_117 : decode cX6_findApart 117 = .ok (.ifCond .ne 9, 3) := by decide +kernel
theorem dX6_findApart_120 : decode cX6_findApart 120 = .ok (.aload_n 0, 1) := by decide +kernel
theorem dX6_findApart_121 : decode cX6_findApart 121 = .ok (.iload_n 1, 1) := by decide +kernel
theorem dX6_findApart_122 : decode cX6_findApart 122 = .ok (.iload_n 3, 1) := by decide +kernel
theorem dX6_findApart_123 : decode cX6_findApart 123 = .ok (.invokevirtual 122, 3) := by decide +kernel
theorem dX6_findApart_126 : decode cX6_findApart 126 = .ok (.iinc 3 1, 3) := by decide +kernel
theorem dX6_findApart_129 : decode cX6_findApart 129 = .ok (.goto (-31), 3) := by decide +kernel
theorem dX6_findApart_132 : decode cX6_findApart 132 = .ok (.iload_n 2, 1) := by decide +kernel
theorem dX6_findApart_133 : decode cX6_findApart 133 = .ok (.ireturn, 1) := by decide +kernel
set_option maxRecDepth 20000 in
theorem ggX6_apart_X6_noThing : GoodIn wsX6_apart wsX6_noThing := goodIn_r _ [5, 6, 7, 8, 4, 9, 31, 32, 33, 34, 35, 36, 37, 38, 39, 40, 41, 42, 43, 44, 45, 46, 47, 48, 49, 50, 51, 52, 53, 54, 55, 56, 57, 58, 59, 60, 61, 62, 63, 64, 65, 66, 67, 68] (by decide +kernel) (by decide +kernel)
set_option maxRecDepth 20000 in
theorem gX6_apart_X6_noThing : GoodIn wsX6_apart (wsV RX6 107 RX6 yX6_noThing wsX6_noThing) := goodIn_app (goodIn_of _ (by decide +kernel)) ggX6_apart_X6_noThing
set_option maxRecDepth 20000 in
theorem ggX6_apart_X6_findApart : GoodIn wsX6_apart wsX6_findApart := goodIn_r _ [13, 14, 15, 16, 17, 18, 19, 4, 20, 21, 22, 23, 24, 25, 26, 27, 28, 29, 30, 31, 32, 33, 34, 35, 36, 37, 38, 39, 40, 41, 42, 43, 44, 45, 46, 47, 48, 49, 50, 51, 52, 53, 54, 55, 56, 57, 58, 59, 60, 61, 62, 63, 64, 65, 66, 67, 68] (by decide +kernel) (by decide +kernel)
set_option maxRecDepth 20000 in
theorem gX6_apart_X6_findApart : GoodIn wsX6_apart (wsV RX6 130 RX6 yX6_findApart wsX6_findApart) := goodIn_app (goodIn_of _ (by decide +kernel)) ggX6_apart_X6_findApart
theorem dX6_apart_0 : decode cX6_apart 0 = .ok (.aload_n 0, 1) := by decide +kernel
theorem dX6_apart_1 : decode cX6_apart 1 = .ok (.iload_n 1, 1) := by decide +kernel
theorem dX6_apart_2 : decode cX6_apart 2 = .ok (.invokevirtual 107, 3) := by decide +kernel
theorem dX6_apart_5 : decode cX6_apart 5 = .ok (.ifCond .eq 8, 3) := by decide +kernel
theorem dX6_apart_8 : decode cX6_apart 8 = .ok (.bipush (-2), 2) := by decide +kernel
theorem dX6_apart_10 : decode cX6_apart 10 = .ok (.goto 8, 3) := by decide +kernel
theorem dX6_apart_13 : decode cX6_apart 13 = .ok (.aload_n 0, 1) := by decide +kernel
theorem dX6_apart_14 : decode cX6_apart 14 = .ok (.iload_n 1, 1) := by decide +kernel
theorem dX6_apart_15 : decode cX6_apart 15 = .ok (.invokevirtual 130, 3) := by decide +kernel
theorem dX6_apart_18 : decode cX6_apart 18 = .ok (.ireturn, 1) := by decide +kernel
set_option maxRecDepth 20000 in
theorem ggX6_date_X6_noThing : GoodIn wsX6_date wsX6_noThing := goodIn_r _ [7, 8, 9, 10, 6, 11, 31, 32, 33, 34, 35, 36, 37, 38, 39, 40, 41, 42, 43, 44, 45, 46, 47, 48, 49, 50, 51, 52, 53, 54, 55, 56, 57, 58, 59, 60, 61, 62, 63, 64, 65, 66, 67, 68] (by decide +kernel) (by decide +kernel)
set_option maxRecDepth 20000 in
theorem gX6_date_X6_noThing : GoodIn wsX6_date (wsV RX6 107 RX6 yX6_noThing wsX6_noThing) := goodIn_app (goodIn_of _ (by decide +kernel)) ggX6_date_X6_noThing
set_option maxRecDepth 20000 in
theorem ggX6_date_X6_in : GoodIn wsX6_date wsX6_in := goodIn_r _ [11] (by decide +kernel) (by decide +kernel)
set_option maxRecDepth 20000 in
theorem gX6_date_X6_in : GoodIn wsX6_date (va_wsS RX6 92 yX6_in wsX6_in) := goodIn_app (goodIn_of _ (by decide +kernel)) ggX6_date_X6_in
set_option maxRecDepth 20000 in
theorem ggX6_date_X6_findApart : GoodIn wsX6_date wsX6_findApart := goodIn_r _ [15, 16, 1, 2, 17, 18, 19, 6, 20, 21, 22, 23, 24, 25, 26, 27, 28, 29, 30, 31, 32, 33, 34, 35, 36, 37, 38, 39, 40, 41, 42, 43, 44, 45, 46, 47, 48, 49, 50, 51, 52, 53, 54, 55, 56, 57, 58, 59, 60, 61, 62, 63, 64, 65, 66, 67, 68] (by decide +kernel) (by decide +kernel)
set_option maxRecDepth 20000 in
theorem gX6_date_X6_findApart : GoodIn wsX6_date (wsV RX6 130 RX6 yX6_findApart wsX6_findApart) := goodIn_app (goodIn_of _ (by decide +kernel)) ggX6_date_X6_findApart
theorem dX6_date_0 : decode cX6_date 0 = .ok (.aload_n 0, 1) := by decide +kernel
theorem dX6_date_1 : decode cX6_date 1 = .ok (.iload_n 1, 1) := by decide +kernel
theorem dX6_date_2 : decode cX6_date 2 = .ok (.invokevirtual 107, 3) := by decide +kernel
theorem dX6_date_5 : decode cX6_date 5 = .ok (.ifCond .ne 13, 3) := by decide +kernel
theorem dX6_date_8 : decode cX6_date 8 = .ok (.iload_n 2, 1) := by decide +kernel
theorem dX6_date_9 : decode cX6_date 9 = .ok (.i2l, 1) := by decide +kernel
theorem dX6_date_10 : decode cX6_date 10 = .ok (.lconst 0, 1) := by decide +kernel
theorem dX6_date_11 : decode cX6_date 11 = .ok (.lconst 1, 1) := by decide +kernel
theorem dX6_date_12 : decode cX6_date 12 = .ok (.invokestatic 92, 3) := by decide +kernel
theorem dX6_date_15 : decode cX6_date 15 = .ok (.ifCond .ne 6, 3) := by decide +kernel
theorem dX6_date_18 : decode cX6_date 18 = .ok (.bipush (-2), 2) := by decide +kernel
theorem dX6_date_20 : decode cX6_date 20 = .ok (.ireturn, 1) := by decide +kernel
theorem dX6_date_21 : decode cX6_date 21 = .ok (.aload_n 0, 1) := by decide +kernel
theorem dX6_date_22 : decode cX6_date 22 = .ok (.iload_n 1, 1) := by decide +kernel
theorem dX6_date_23 : decode cX6_date 23 = .ok (.invokevirtual 130, 3) := by decide +kernel
theorem dX6_date_26 : decode cX6_date 26 = .ok (.istore_n 3, 1) := by decide +kernel
theorem dX6_date_27 : decode cX6_date 27 = .ok (.iload_n 3, 1) := by decide +kernel
theorem dX6_date_28 : decode cX6_date 28 = .ok (.ifCond .ge 7, 3) := by decide +kernel
theorem dX6_date_31 : decode cX6_date 31 = .ok (.iconst (-1), 1) := by decide +kernel
theorem dX6_date_32 : decode cX6_date 32 = .ok (.goto 18, 3) := by decide +kernel
theorem dX6_date_35 : decode cX6_date 35 = .ok (.iload_n 2, 1) := by decide +kernel
theorem dX6_date_36 : decode cX6_date 36 = .ok (.ifCond .ne 10, 3) := by decide +kernel
theorem dX6_date_39 : decode cX6_date 39 = .ok (.aload_n 0, 1) := by decide +kernel
theorem dX6_date_40 : decode cX6_date 40 = .ok (.getfield 113, 3) := by decide +kernel
theorem dX6_date_43 : decode cX6_date 43 = .ok (.goto 7, 3) := by decide +kernel
theorem dX6_date_46 : decode cX6_date 46 = .ok (.aload_n 0, 1) := by decide +kernel
theorem dX6_date_47 : decode cX6_date 47 = .ok (.getfield 116, 3) := by decide +kernel
theorem dX6_date_50 : decode cX6_date 50 = .ok (.ireturn, 1) := by decide +kernel
set_option maxRecDepth 20000 in
theorem ggX6_hold_X6_noThing : GoodIn wsX6_hold wsX6_noThing := goodIn_r _ [9, 10, 11, 12, 8, 13, 14, 15, 16, 17, 18, 19, 20, 21, 22, 23, 24, 25, 26, 27, 28, 29, 30, 31, 32, 33, 34, 35, 36, 37, 38, 39, 40, 41, 42, 43, 44, 45, 46, 47, 48, 49, 50, 51] (by decide +kernel) (by decide +kernel)
set_option maxRecDepth 20000 in
theorem gX6_hold_X6_noThing : GoodIn wsX6_hold (wsV RX6 107 RX6 yX6_noThing wsX6_noThing) := goodIn_app (goodIn_of _ (by decide +kernel)) ggX6_hold_X6_noThing
set_option maxRecDepth 20000 in
theorem ggX6_hold_X6_in : GoodIn wsX6_hold wsX6_in := goodIn_r _ [13] (by decide +kernel) (by decide +kernel)
set_option maxRecDepth 20000 in
theorem gX6_hold_X6_in : GoodIn wsX6_hold (va_wsS RX6 92 yX6_in wsX6_in) := goodIn_app (goodIn_of _ (by decide +kernel)) ggX6_hold_X6_in
theorem dX6_hold_0 : decode cX6_hold 0 = .ok (.aload_n 0, 1) := by decide +kernel
theorem dX6_hold_1 : decode cX6_hold 1 = .ok (.iload_n 1, 1) := by decide +kernel
theorem dX6_hold_2 : decode cX6_hold 2 = .ok (.invokevirtual 107, 3) := by decide +kernel
theorem dX6_hold_5 : decode cX6_hold 5 = .ok (.ifCond .ne 17, 3) := by decide +kernel
theorem dX6_hold_8 : decode cX6_hold 8 = .ok (.iload_n 2, 1) := by decide +kernel
theorem dX6_hold_9 : decode cX6_hold 9 = .ok (.i2l, 1) := by decide +kernel
theorem dX6_hold_10 : decode cX6_hold 10 = .ok (.ldc2_w 133, 3) := by decide +kernel
theorem dX6_hold_13 : decode cX6_hold 13 = .ok (.ldc2_w 90, 3) := by decide +kernel
theorem dX6_hold_16 : decode cX6_hold 16 = .ok (.invokestatic 92, 3) := by decide +kernel
theorem dX6_hold_19 : decode cX6_hold 19 = .ok (.ifCond .ne 6, 3) := by decide +kernel
theorem dX6_hold_22 : decode cX6_hold 22 = .ok (.bipush (-2), 2) := by decide +kernel
theorem dX6_hold_24 : decode cX6_hold 24 = .ok (.ireturn, 1) := by decide +kernel
theorem dX6_hold_25 : decode cX6_hold 25 = .ok (.aload_n 0, 1) := by decide +kernel
theorem dX6_hold_26 : decode cX6_hold 26 = .ok (.getfield 22, 3) := by decide +kernel
theorem dX6_hold_29 : decode cX6_hold 29 = .ok (.iload_n 1, 1) := by decide +kernel
theorem dX6_hold_30 : decode cX6_hold 30 = .ok (.iaload, 1) := by decide +kernel
theorem dX6_hold_31 : decode cX6_hold 31 = .ok (.istore_n 3, 1) := by decide +kernel
theorem dX6_hold_32 : decode cX6_hold 32 = .ok (.aload_n 0, 1) := by decide +kernel
theorem dX6_hold_33 : decode cX6_hold 33 = .ok (.getfield 22, 3) := by decide +kernel
theorem dX6_hold_36 : decode cX6_hold 36 = .ok (.iload_n 1, 1) := by decide +kernel
theorem dX6_hold_37 : decode cX6_hold 37 = .ok (.iload_n 2, 1) := by decide +kernel
theorem dX6_hold_38 : decode cX6_hold 38 = .ok (.iastore, 1) := by decide +kernel
theorem dX6_hold_39 : decode cX6_hold 39 = .ok (.aload_n 0, 1) := by decide +kernel
theorem dX6_hold_40 : decode cX6_hold 40 = .ok (.getfield 25, 3) := by decide +kernel
theorem dX6_hold_43 : decode cX6_hold 43 = .ok (.iload_n 1, 1) := by decide +kernel
theorem dX6_hold_44 : decode cX6_hold 44 = .ok (.iconst (-1), 1) := by decide +kernel
theorem dX6_hold_45 : decode cX6_hold 45 = .ok (.iastore, 1) := by decide +kernel
theorem dX6_hold_46 : decode cX6_hold 46 = .ok (.iload_n 3, 1) := by decide +kernel
theorem dX6_hold_47 : decode cX6_hold 47 = .ok (.ireturn, 1) := by decide +kernel
set_option maxRecDepth 20000 in
theorem ggX6_holder_X6_noThing : GoodIn wsX6_holder wsX6_noThing := goodIn_r _ [6, 7, 8, 9, 5, 10, 11, 12, 13, 14, 15, 16, 17, 18, 19, 20, 21, 22, 23, 24, 25, 26, 27, 28, 29, 30, 31, 32, 33, 34, 35, 36, 37, 38, 39, 40, 41, 42, 43, 44, 45, 46, 47, 48] (by decide +kernel) (by decide +kernel)
set_option maxRecDepth 20000 in
theorem gX6_holder_X6_noThing : GoodIn wsX6_holder (wsV RX6 107 RX6 yX6_noThing wsX6_noThing) := goodIn_app (goodIn_of _ (by decide +kernel)) ggX6_holder_X6_noThing
theorem dX6_holder_0 : decode cX6_holder 0 = .ok (.aload_n 0, 1) := by decide +kernel
theorem dX6_holder_1 : decode cX6_holder 1 = .ok (.iload_n 1, 1) := by decide +kernel
theorem dX6_holder_2 : decode cX6_holder 2 = .ok (.invokevirtual 107, 3) := by decide +kernel
theorem dX6_holder_5 : decode cX6_holder 5 = .ok (.ifCond .eq 8, 3) := by decide +kernel
theorem dX6_holder_8 : decode cX6_holder 8 = .ok (.bipush (-2), 2) := by decide +kernel
theorem dX6_holder_10 : decode cX6_holder 10 = .ok (.goto 9, 3) := by decide +kernel
theorem dX6_holder_13 : decode cX6_holder 13 = .ok (.aload_n 0, 1) := by decide +kernel
theorem dX6_holder_14 : decode cX6_holder 14 = .ok (.getfield 22, 3) := by decide +kernel
theorem dX6_holder_17 : decode cX6_holder 17 = .ok (.iload_n 1, 1) := by decide +kernel
theorem dX6_holder_18 : decode cX6_holder 18 = .ok (.iaload, 1) := by decide +kernel
theorem dX6_holder_19 : decode cX6_holder 19 = .ok (.ireturn, 1) := by decide +kernel
set_option maxRecDepth 20000 in
theorem ggX6_hours_X6_in : GoodIn wsX6_hours wsX6_in := goodIn_r _ [6] (by decide +kernel) (by decide +kernel)
set_option maxRecDepth 20000 in
theorem gX6_hours_X6_in : GoodIn wsX6_hours (va_wsS RX6 92 yX6_in wsX6_in) := goodIn_app (goodIn_of _ (by decide +kernel)) ggX6_hours_X6_in
theorem dX6_hours_0 : decode cX6_hours 0 = .ok (.iload_n 1, 1) := by decide +kernel
theorem dX6_hours_1 : decode cX6_hours 1 = .ok (.i2l, 1) := by decide +kernel
theorem dX6_hours_2 : decode cX6_hours 2 = .ok (.lconst 1, 1) := by decide +kernel
theorem dX6_hours_3 : decode cX6_hours 3 = .ok (.ldc2_w 135, 3) := by decide +kernel
theorem dX6_hours_6 : decode cX6_hours 6 = .ok (.invokestatic 92, 3) := by decide +kernel
theorem dX6_hours_9 : decode cX6_hours 9 = .ok (.ifCond .ne 6, 3) := by decide +kernel
theorem dX6_hours_12 : decode cX6_hours 12 = .ok (.bipush (-2), 2) := by decide +kernel
theorem dX6_hours_14 : decode cX6_hours 14 = .ok (.ireturn, 1) := by decide +kernel
theorem dX6_hours_15 : decode cX6_hours 15 = .ok (.aload_n 0, 1) := by decide +kernel
theorem dX6_hours_16 : decode cX6_hours 16 = .ok (.dup, 1) := by decide +kernel
theorem dX6_hours_17 : decode cX6_hours 17 = .ok (.getfield 34, 3) := by decide +kernel
theorem dX6_hours_20 : decode cX6_hours 20 = .ok (.iload_n 1, 1) := by decide +kernel
theorem dX6_hours_21 : decode cX6_hours 21 = .ok (.iadd, 1) := by decide +kernel
theorem dX6_hours_22 : decode cX6_hours 22 = .ok (.putfield 34, 3) := by decide +kernel
theorem dX6_hours_25 : decode cX6_hours 25 = .ok (.aload_n 0, 1) := by decide +kernel
theorem dX6_hours_26 : decode cX6_hours 26 = .ok (.getfield 34, 3) := by decide +kernel
theorem dX6_hours_29 : decode cX6_hours 29 = .ok (.ireturn, 1) := by decide +kernel
theorem dX6_wasSoldNow_0 : decode cX6_wasSoldNow 0 = .ok (.iconst 0, 1) := by decide +kernel
theorem dX6_wasSoldNow_1 : decode cX6_wasSoldNow 1 = .ok (.istore_n 2, 1) := by decide +kernel
theorem dX6_wasSoldNow_2 : decode cX6_wasSoldNow 2 = .ok (.iconst 0, 1) := by decide +kernel
theorem dX6_wasSoldNow_3 : decode cX6_wasSoldNow 3 = .ok (.istore_n 3, 1) := by decide +kernel
theorem dX6_wasSoldNow_4 : decode cX6_wasSoldNow 4 = .ok (.iload_n 3, 1) := by decide +kernel
theorem dX6_wasSoldNow_5 : decode cX6_wasSoldNow 5 = .ok (.aload_n 0, 1) := by decide +kernel
theorem dX6_wasSoldNow_6 : decode cX6_wasSoldNow 6 = .ok (.getfield 137, 3) := by decide +kernel
theorem dX6_wasSoldNow_9 : decode cX6_wasSoldNow 9 = .ok (.if_icmp .ge 42, 3) := by decide +kernel
theorem dX6_wasSoldNow_12 : decode cX6_wasSoldNow 12 = .ok (.iload_n 2, 1) := by decide +kernel
theorem dX6_wasSoldNow_13 : decode cX6_wasSoldNow 13 = .ok (.ifCond .ne 26, 3) := by decide +kernel
theorem dX6_wasSoldNow_16 : decode cX6_wasSoldNow 16 = .ok (.aload_n 0, 1) := by decide +kernel
theorem dX6_wasSoldNow_17 : decode cX6_wasSoldNow 17 = .ok (.getfield 38, 3) := by decide +kernel
theorem dX6_wasSoldNow_20 : decode cX6_wasSoldNow 20 = .ok (.iload_n 3, 1) := by decide +kernel
theorem dX6_wasSoldNow_21 : decode cX6_wasSoldNow 21 = .ok (.iaload, 1) := by decide +kernel
theorem dX6_wasSoldNow_22 : decode cX6_wasSoldNow 22 = .ok (.iload_n 1, 1) := by decide +kernel
theorem dX6_wasSoldNow_23 : decode cX6_wasSoldNow 23 = .ok (.if_icmp .ne 20, 3) := by decide +kernel
theorem dX6_wasSoldNow_26 : decode cX6_wasSoldNow 26 = .ok (.aload_n 0, 1) := by decide +kernel
theorem dX6_wasSoldNow_27 : decode cX6_wasSoldNow 27 = .ok (.getfield 50, 3) := by decide +kernel
theorem dX6_wasSoldNow_30 : decode cX6_wasSoldNow 30 = .ok (.iload_n 3, 1) := by decide +kernel
theorem dX6_wasSoldNow_31 : decode cX6_wasSoldNow 31 = .ok (.iaload, 1) := by decide +kernel
theorem dX6_wasSoldNow_32 : decode cX6_wasSoldNow 32 = .ok (.aload_n 0, 1) := by decide +kernel
theorem dX6_wasSoldNow_33 : decode cX6_wasSoldNow 33 = .ok (.getfield 34, 3) := by decide +kernel
theorem dX6_wasSoldNow_36 : decode cX6_wasSoldNow 36 = .ok (.if_icmp .ne 7, 3) := by decide +kernel
theorem dX6_wasSoldNow_39 : decode cX6_wasSoldNow 39 = .ok (.iconst 1, 1) := by decide +kernel
theorem dX6_wasSoldNow_40 : decode cX6_wasSoldNow 40 = .ok (.goto 4, 3) := by decide +kernel
theorem dX6_wasSoldNow_43 : decode cX6_wasSoldNow 43 = .ok (.iconst 0, 1) := by decide +kernel
theorem dX6_wasSoldNow_44 : decode cX6_wasSoldNow 44 = .ok (.istore_n 2, 1) := by decide +kernel
theorem dX6_wasSoldNow_45 : decode cX6_wasSoldNow 45 = .ok (.iinc 3 1, 3) := by decide +kernel
theorem dX6_wasSoldNow_48 : decode cX6_wasSoldNow 48 = .ok (.goto (-44), 3) := by decide +kernel
theorem dX6_wasSoldNow_51 : decode cX6_wasSoldNow 51 = .ok (.iload_n 2, 1) := by decide +kernel
theorem dX6_wasSoldNow_52 : decode cX6_wasSoldNow 52 = .ok (.ireturn, 1) := by decide +kernel
set_option maxRecDepth 20000 in
theorem ggX6_sell_X6_noThing : GoodIn wsX6_sell wsX6_noThing := goodIn_r _ [19, 20, 21, 22, 18, 23, 32, 33, 34, 35, 36, 37, 38, 39, 40, 41, 42, 43, 44, 45, 46, 47, 48, 49, 50, 51, 52, 53, 54, 55, 56, 57, 58, 59, 60, 61, 62, 63, 64, 65, 66, 67, 68, 69] (by decide +kernel) (by decide +kernel)
set_option maxRecDepth 20000 in
theorem gX6_sell_X6_noThing : GoodIn wsX6_sell (wsV RX6 107 RX6 yX6_noThing wsX6_noThing) := goodIn_app (goodIn_of _ (by decide +kernel)) ggX6_sell_X6_noThing
set_option maxRecDepth 20000 in
theorem ggX6_sell_X6_isDealer : GoodIn wsX6_sell wsX6_isDealer := goodIn_r _ [26, 27, 21, 22, 18, 23] (by decide +kernel) (by decide +kernel)
set_option maxRecDepth 20000 in
theorem gX6_sell_X6_isDealer : GoodIn wsX6_sell (va_wsS RX6 140 yX6_isDealer wsX6_isDealer) := goodIn_app (goodIn_of _ (by decide +kernel)) ggX6_sell_X6_isDealer
set_option maxRecDepth 20000 in
theorem ggX6_sell_X6_in : GoodIn wsX6_sell wsX6_in := goodIn_r _ [23] (by decide +kernel) (by decide +kernel)
set_option maxRecDepth 20000 in
theorem gX6_sell_X6_in : GoodIn wsX6_sell (va_wsS RX6 92 yX6_in wsX6_in) := goodIn_app (goodIn_of _ (by decide +kernel)) ggX6_sell_X6_in
set_option maxRecDepth 20000 in
theorem ggX6_sell_X6_wasSoldNow : GoodIn wsX6_sell wsX6_wasSoldNow := goodIn_r _ [31, 5, 6, 10, 4, 32, 33, 34, 35, 36, 37, 38, 39, 40, 41, 42, 43, 44, 45, 46, 47, 48, 49, 50, 51, 52, 53, 54, 55, 56, 57, 58, 59, 60, 61, 62, 63, 64, 65, 66, 67, 68, 69] (by decide +kernel) (by decide +kernel)
set_option maxRecDepth 20000 in
theorem gX6_sell_X6_wasSoldNow : GoodIn wsX6_sell (wsV RX6 147 RX6 yX6_wasSoldNow wsX6_wasSoldNow) := goodIn_app (goodIn_of _ (by decide +kernel)) ggX6_sell_X6_wasSoldNow
theorem dX6_sell_0 : decode cX6_sell 0 = .ok (.aload_n 0, 1) := by decide +kernel
theorem dX6_sell_1 : decode cX6_sell 1 = .ok (.iload_n 1, 1) := by decide +kernel
theorem dX6_sell_2 : decode cX6_sell 2 = .ok (.invokevirtual 107, 3) := by decide +kernel
theorem dX6_sell_5 : decode cX6_sell 5 = .ok (.ifCond .ne 35, 3) := by decide +kernel
theorem dX6_sell_8 : decode cX6_sell 8 = .ok (.iload_n 2, 1) := by decide +kernel
theorem dX6_sell_9 : decode cX6_sell 9 = .ok (.invokestatic 140, 3) := by decide +kernel
theorem dX6_sell_12 : decode cX6_sell 12 = .ok (.ifCond .eq 28, 3) := by decide +kernel
theorem dX6_sell_15 : decode cX6_sell 15 = .ok (.iload_n 3, 1) := by decide +kernel
theorem dX6_sell_16 : decode cX6_sell 16 = .ok (.i2l, 1) := by decide +kernel
theorem dX6_sell_17 : decode cX6_sell 17 = .ok (.lconst 0, 1) := by decide +kernel
theorem dX6_sell_18 : decode cX6_sell 18 = .ok (.ldc2_w 143, 3) := by decide +kernel
theorem dX6_sell_21 : decode cX6_sell 21 = .ok (.invokestatic 92, 3) := by decide +kernel
theorem dX6_sell_24 : decode cX6_sell 24 = .ok (.ifCond .eq 16, 3) := by decide +kernel
theorem dX6_sell_27 : decode cX6_sell 27 = .ok (.iload 4, 2) := by decide +kernel
theorem dX6_sell_29 : decode cX6_sell 29 = .ok (.i2l, 1) := by decide +kernel
theorem dX6_sell_30 : decode cX6_sell 30 = .ok (.lconst 0, 1) := by decide +kernel
theorem dX6_sell_31 : decode cX6_sell 31 = .ok (.ldc2_w 145, 3) := by decide +kernel
theorem dX6_sell_34 : decode cX6_sell 34 = .ok (.invokestatic 92, 3) := by decide +kernel
theorem dX6_sell_37 : decode cX6_sell 37 = .ok (.ifCond .ne 6, 3) := by decide +kernel
theorem dX6_sell_40 : decode cX6_sell 40 = .ok (.bipush (-2), 2) := by decide +kernel
theorem dX6_sell_42 : decode cX6_sell 42 = .ok (.ireturn, 1) := by decide +kernel
theorem dX6_sell_43 : decode cX6_sell 43 = .ok (.aload_n 0, 1) := by decide +kernel
theorem dX6_sell_44 : decode cX6_sell 44 = .ok (.getfield 22, 3) := by decide +kernel
theorem dX6_sell_47 : decode cX6_sell 47 = .ok (.iload_n 1, 1) := by decide +kernel
theorem dX6_sell_48 : decode cX6_sell 48 = .ok (.iaload, 1) := by decide +kernel
theorem dX6_sell_49 : decode cX6_sell 49 = .ok (.ifCond .lt 35, 3) := by decide +kernel
theorem dX6_sell_52 : decode cX6_sell 52 = .ok (.aload_n 0, 1) := by decide +kernel
theorem dX6_sell_53 : decode cX6_sell 53 = .ok (.getfield 22, 3) := by decide +kernel
theorem dX6_sell_56 : decode cX6_sell 56 = .ok (.iload_n 1, 1) := by decide +kernel
theorem dX6_sell_57 : decode cX6_sell 57 = .ok (.iaload, 1) := by decide +kernel
theorem dX6_sell_58 : decode cX6_sell 58 = .ok (.iload_n 2, 1) := by decide +kernel
theorem dX6_sell_59 : decode cX6_sell 59 = .ok (.if_icmp .eq 25, 3) := by decide +kernel
theorem dX6_sell_62 : decode cX6_sell 62 = .ok (.iload 4, 2) := by decide +kernel
theorem dX6_sell_64 : decode cX6_sell 64 = .ok (.ifCond .eq 12, 3) := by decide +kernel
theorem dX6_sell_67 : decode cX6_sell 67 = .ok (.iload 4, 2) := by decide +kernel
theorem dX6_sell_69 : decode cX6_sell 69 = .ok (.aload_n 0, 1) := by decide +kernel
theorem dX6_sell_70 : decode cX6_sell 70 = .ok (.getfield 34, 3) := by decide +kernel
theorem dX6_sell_73 : decode cX6_sell 73 = .ok (.if_icmp .le 11, 3) := by decide +kernel
theorem dX6_sell_76 : decode cX6_sell 76 = .ok (.aload_n 0, 1) := by decide +kernel
theorem dX6_sell_77 : decode cX6_sell 77 = .ok (.iload_n 1, 1) := by decide +kernel
theorem dX6_sell_78 : decode cX6_sell 78 = .ok (.invokevirtual 147, 3) := by decide +kernel
theorem dX6_sell_81 : decode cX6_sell 81 = .ok (.ifCond .eq 6, 3) := by decide +kernel
theorem dX6_sell_84 : decode cX6_sell 84 = .ok (.bipush (-3), 2) := by decide +kernel
theorem dX6_sell_86 : decode cX6_sell 86 = .ok (.ireturn, 1) := by decide +kernel
theorem dX6_sell_87 : decode cX6_sell 87 = .ok (.aload_n 0, 1) := by decide +kernel
theorem dX6_sell_88 : decode cX6_sell 88 = .ok (.getfield 137, 3) := by decide +kernel
theorem dX6_sell_91 : decode cX6_sell 91 = .ok (.bipush 80, 2) := by decide +kernel
theorem dX6_sell_93 : decode cX6_sell 93 = .ok (.if_icmp .ne 6, 3) := by decide +kernel
theorem dX6_sell_96 : decode cX6_sell 96 = .ok (.bipush (-4), 2) := by decide +kernel
theorem dX6_sell_98 : decode cX6_sell 98 = .ok (.ireturn, 1) := by decide +kernel
theorem dX6_sell_99 : decode cX6_sell 99 = .ok (.aload_n 0, 1) := by decide +kernel
theorem dX6_sell_100 : decode cX6_sell 100 = .ok (.getfield 38, 3) := by decide +kernel
theorem dX6_sell_103 : decode cX6_sell 103 = .ok (.aload_n 0, 1) := by decide +kernel
theorem dX6_sell_104 : decode cX6_sell 104 = .ok (.getfield 137, 3) := by decide +kernel
theorem dX6_sell_107 : decode cX6_sell 107 = .ok (.iload_n 1, 1) := by decide +kernel
theorem dX6_sell_108 : decode cX6_sell 108 = .ok (.iastore, 1) := by decide +kernel
theorem dX6_sell_109 : decode cX6_sell 109 = .ok (.aload_n 0, 1) := by decide +kernel
theorem dX6_sell_110 : decode cX6_sell 110 = .ok (.getfield 41, 3) := by decide +kernel
theorem dX6_sell_113 : decode cX6_sell 113 = .ok (.aload_n 0, 1) := by decide +kernel
theorem dX6_sell_114 : decode cX6_sell 114 = .ok (.getfield 137, 3) := by decide +kernel
theorem dX6_sell_117 : decode cX6_sell 117 = .ok (.aload_n 0, 1) := by decide +kernel
theorem dX6_sell_118 : decode cX6_sell 118 = .ok (.getfield 22, 3) := by decide +kernel
theorem dX6_sell_121 : decode cX6_sell 121 = .ok (.iload_n 1, 1) := by decide +kernel
theorem dX6_sell_122 : decode cX6_sell 122 = .ok (.iaload, 1) := by decide +kernel
theorem dX6_sell_123 : decode cX6_sell 123 = .ok (.iastore, 1) := by decide +kernel
theorem dX6_sell_124 : decode cX6_sell 124 = .ok (.aload_n 0, 1) := by decide +kernel
theorem dX6_sell_125 : decode cX6_sell 125 = .ok (.getfield 44, 3) := by decide +kernel
theorem dX6_sell_128 : decode cX6_sell 128 = .ok (.aload_n 0, 1) := by decide +kernel
theorem dX6_sell_129 : decode cX6_sell 129 = .ok (.getfield 137, 3) := by decide +kernel
theorem dX6_sell_132 : decode cX6_sell 132 = .ok (.iload_n 2, 1) := by decide +kernel
theorem dX6_sell_133 : decode cX6_sell 133 = .ok (.iastore, 1) := by decide +kernel
theorem dX6_sell_134 : decode cX6_sell 134 = .ok (.aload_n 0, 1) := by decide +kernel
theorem dX6_sell_135 : decode cX6_sell 135 = .ok (.getfield 47, 3) := by decide +kernel
theorem dX6_sell_138 : decode cX6_sell 138 = .ok (.aload_n 0, 1) := by decide +kernel
theorem dX6_sell_139 : decode cX6_sell 139 = .ok (.getfield 137, 3) := by decide +kernel
theorem dX6_sell_142 : decode cX6_sell 142 = .ok (.iload_n 3, 1) := by decide +kernel
theorem dX6_sell_143 : decode cX6_sell 143 = .ok (.iastore, 1) := by decide +kernel
theorem dX6_sell_144 : decode cX6_sell 144 = .ok (.aload_n 0, 1) := by decide +kernel
theorem dX6_sell_145 : decode cX6_sell 145 = .ok (.getfield 50, 3) := by decide +kernel
theorem dX6_sell_148 : decode cX6_sell 148 = .ok (.aload_n 0, 1) := by decide +kernel
theorem dX6_sell_149 : decode cX6_sell 149 = .ok (.getfield 137, 3) := by decide +kernel
theorem dX6_sell_152 : decode cX6_sell 152 = .ok (.aload_n 0, 1) := by decide +kernel
theorem dX6_sell_153 : decode cX6_sell 153 = .ok (.getfield 34, 3) := by decide +kernel
theorem dX6_sell_156 : decode cX6_sell 156 = .ok (.iastore, 1) := by decide +kernel
theorem dX6_sell_157 : decode cX6_sell 157 = .ok (.aload_n 0, 1) := by decide +kernel
theorem dX6_sell_158 : decode cX6_sell 158 = .ok (.getfield 53, 3) := by decide +kernel
theorem dX6_sell_161 : decode cX6_sell 161 = .ok (.aload_n 0, 1) := by decide +kernel
theorem dX6_sell_162 : decode cX6_sell 162 = .ok (.getfield 137, 3) := by decide +kernel
theorem dX6_sell_165 : decode cX6_sell 165 = .ok (.iload 4, 2) := by decide +kernel
theorem dX6_sell_167 : decode cX6_sell 167 = .ok (.iastore, 1) := by decide +kernel
theorem dX6_sell_168 : decode cX6_sell 168 = .ok (.aload_n 0, 1) := by decide +kernel
theorem dX6_sell_169 : decode cX6_sell 169 = .ok (.getfield 56, 3) := by decide +kernel
theorem dX6_sell_172 : decode cX6_sell 172 = .ok (.aload_n 0, 1) := by decide +kernel
theorem dX6_sell_173 : decode cX6_sell 173 = .ok (.getfield 137, 3) := by decide +kernel
theorem dX6_sell_176 : decode cX6_sell 176 = .ok (.iconst 1, 1) := by decide +kernel
theorem dX6_sell_177 : decode cX6_sell 177 = .ok (.iastore, 1) := by decide +kernel
theorem dX6_sell_178 : decode cX6_sell 178 = .ok (.aload_n 0, 1) := by decide +kernel
theorem dX6_sell_179 : decode cX6_sell 179 = .ok (.getfield 59, 3) := by decide +kernel
theorem dX6_sell_182 : decode cX6_sell 182 = .ok (.aload_n 0, 1) := by decide +kernel
theorem dX6_sell_183 : decode cX6_sell 183 = .ok (.getfield 137, 3) := by decide +kernel
theorem dX6_sell_186 : decode cX6_sell 186 = .ok (.aload_n 0, 1) := by decide +kernel
theorem dX6_sell_187 : decode cX6_sell 187 = .ok (.getfield 25, 3) := by decide +kernel
theorem dX6_sell_190 : decode cX6_sell 190 = .ok (.iload_n 1, 1) := by decide +kernel
theorem dX6_sell_191 : decode cX6_sell 191 = .ok (.iaload, 1) := by decide +kernel
theorem dX6_sell_192 : decode cX6_sell 192 = .ok (.iastore, 1) := by decide +kernel
theorem dX6_sell_193 : decode cX6_sell 193 = .ok (.aload_n 0, 1) := by decide +kernel
theorem dX6_sell_194 : decode cX6_sell 194 = .ok (.getfield 25, 3) := by decide +kernel
theorem dX6_sell_197 : decode cX6_sell 197 = .ok (.iload_n 1, 1) := by decide +kernel
theorem dX6_sell_198 : decode cX6_sell 198 = .ok (.aload_n 0, 1) := by decide +kernel
theorem dX6_sell_199 : decode cX6_sell 199 = .ok (.getfield 137, 3) := by decide +kernel
theorem dX6_sell_202 : decode cX6_sell 202 = .ok (.iastore, 1) := by decide +kernel
theorem dX6_sell_203 : decode cX6_sell 203 = .ok (.aload_n 0, 1) := by decide +kernel
theorem dX6_sell_204 : decode cX6_sell 204 = .ok (.getfield 22, 3) := by decide +kernel
theorem dX6_sell_207 : decode cX6_sell 207 = .ok (.iload_n 1, 1) := by decide +kernel
theorem dX6_sell_208 : decode cX6_sell 208 = .ok (.iload_n 2, 1) := by decide +kernel
theorem dX6_sell_209 : decode cX6_sell 209 = .ok (.iastore, 1) := by decide +kernel
theorem dX6_sell_210 : decode cX6_sell 210 = .ok (.aload_n 0, 1) := by decide +kernel
theorem dX6_sell_211 : decode cX6_sell 211 = .ok (.dup, 1) := by decide +kernel
theorem dX6_sell_212 : decode cX6_sell 212 = .ok (.getfield 137, 3) := by decide +kernel
theorem dX6_sell_215 : decode cX6_sell 215 = .ok (.iconst 1, 1) := by decide +kernel
theorem dX6_sell_216 : decode cX6_sell 216 = .ok (.iadd, 1) := by decide +kernel
theorem dX6_sell_217 : decode cX6_sell 217 = .ok (.putfield 137, 3) := by decide +kernel
theorem dX6_sell_220 : decode cX6_sell 220 = .ok (.aload_n 0, 1) := by decide +kernel
theorem dX6_sell_221 : decode cX6_sell 221 = .ok (.getfield 137, 3) := by decide +kernel
theorem dX6_sell_224 : decode cX6_sell 224 = .ok (.iconst 1, 1) := by decide +kernel
theorem dX6_sell_225 : decode cX6_sell 225 = .ok (.isub, 1) := by decide +kernel
theorem dX6_sell_226 : decode cX6_sell 226 = .ok (.ireturn, 1) := by decide +kernel
set_option maxRecDepth 20000 in
theorem ggX6_back_X6_noThing : GoodIn wsX6_back wsX6_noThing := goodIn_r _ [13, 14, 15, 16, 12, 17, 18, 19, 20, 21, 22, 23, 24, 25, 26, 27, 28, 29, 30, 31, 32, 33, 34, 35, 36, 37, 38, 39, 40, 41, 42, 43, 44, 45, 46, 47, 48, 49, 50, 51, 52, 53, 54, 55] (by decide +kernel) (by decide +kernel)
set_option maxRecDepth 20000 in
theorem gX6_back_X6_noThing : GoodIn wsX6_back (wsV RX6 107 RX6 yX6_noThing wsX6_noThing) := goodIn_app (goodIn_of _ (by decide +kernel)) ggX6_back_X6_noThing
theorem dX6_back_0 : decode cX6_back 0 = .ok (.aload_n 0, 1) := by decide +kernel
theorem dX6_back_1 : decode cX6_back 1 = .ok (.iload_n 1, 1) := by decide +kernel
theorem dX6_back_2 : decode cX6_back 2 = .ok (.invokevirtual 107, 3) := by decide +kernel
theorem dX6_back_5 : decode cX6_back 5 = .ok (.ifCond .eq 6, 3) := by decide +kernel
theorem dX6_back_8 : decode cX6_back 8 = .ok (.bipush (-2), 2) := by decide +kernel
theorem dX6_back_10 : decode cX6_back 10 = .ok (.ireturn, 1) := by decide +kernel
theorem dX6_back_11 : decode cX6_back 11 = .ok (.aload_n 0, 1) := by decide +kernel
theorem dX6_back_12 : decode cX6_back 12 = .ok (.getfield 25, 3) := by decide +kernel
theorem dX6_back_15 : decode cX6_back 15 = .ok (.iload_n 1, 1) := by decide +kernel
theorem dX6_back_16 : decode cX6_back 16 = .ok (.iaload, 1) := by decide +kernel
theorem dX6_back_17 : decode cX6_back 17 = .ok (.istore_n 2, 1) := by decide +kernel
theorem dX6_back_18 : decode cX6_back 18 = .ok (.iload_n 2, 1) := by decide +kernel
theorem dX6_back_19 : decode cX6_back 19 = .ok (.ifCond .lt 31, 3) := by decide +kernel
theorem dX6_back_22 : decode cX6_back 22 = .ok (.aload_n 0, 1) := by decide +kernel
theorem dX6_back_23 : decode cX6_back 23 = .ok (.getfield 22, 3) := by decide +kernel
theorem dX6_back_26 : decode cX6_back 26 = .ok (.iload_n 1, 1) := by decide +kernel
theorem dX6_back_27 : decode cX6_back 27 = .ok (.iaload, 1) := by decide +kernel
theorem dX6_back_28 : decode cX6_back 28 = .ok (.aload_n 0, 1) := by decide +kernel
theorem dX6_back_29 : decode cX6_back 29 = .ok (.getfield 44, 3) := by decide +kernel
theorem dX6_back_32 : decode cX6_back 32 = .ok (.iload_n 2, 1) := by decide +kernel
theorem dX6_back_33 : decode cX6_back 33 = .ok (.iaload, 1) := by decide +kernel
theorem dX6_back_34 : decode cX6_back 34 = .ok (.if_icmp .ne 16, 3) := by decide +kernel
theorem dX6_back_37 : decode cX6_back 37 = .ok (.aload_n 0, 1) := by decide +kernel
theorem dX6_back_38 : decode cX6_back 38 = .ok (.getfield 53, 3) := by decide +kernel
theorem dX6_back_41 : decode cX6_back 41 = .ok (.iload_n 2, 1) := by decide +kernel
theorem dX6_back_42 : decode cX6_back 42 = .ok (.iaload, 1) := by decide +kernel
theorem dX6_back_43 : decode cX6_back 43 = .ok (.aload_n 0, 1) := by decide +kernel
theorem dX6_back_44 : decode cX6_back 44 = .ok (.getfield 34, 3) := by decide +kernel
theorem dX6_back_47 : decode cX6_back 47 = .ok (.if_icmp .gt 6, 3) := by decide +kernel
theorem dX6_back_50 : decode cX6_back 50 = .ok (.bipush (-3), 2) := by decide +kernel
theorem dX6_back_52 : decode cX6_back 52 = .ok (.ireturn, 1) := by decide +kernel
theorem dX6_back_53 : decode cX6_back 53 = .ok (.aload_n 0, 1) := by decide +kernel
theorem dX6_back_54 : decode cX6_back 54 = .ok (.getfield 56, 3) := by decide +kernel
theorem dX6_back_57 : decode cX6_back 57 = .ok (.iload_n 2, 1) := by decide +kernel
theorem dX6_back_58 : decode cX6_back 58 = .ok (.iconst 0, 1) := by decide +kernel
theorem dX6_back_59 : decode cX6_back 59 = .ok (.iastore, 1) := by decide +kernel
theorem dX6_back_60 : decode cX6_back 60 = .ok (.aload_n 0, 1) := by decide +kernel
theorem dX6_back_61 : decode cX6_back 61 = .ok (.getfield 22, 3) := by decide +kernel
theorem dX6_back_64 : decode cX6_back 64 = .ok (.iload_n 1, 1) := by decide +kernel
theorem dX6_back_65 : decode cX6_back 65 = .ok (.aload_n 0, 1) := by decide +kernel
theorem dX6_back_66 : decode cX6_back 66 = .ok (.getfield 41, 3) := by decide +kernel
theorem dX6_back_69 : decode cX6_back 69 = .ok (.iload_n 2, 1) := by decide +kernel
theorem dX6_back_70 : decode cX6_back 70 = .ok (.iaload, 1) := by decide +kernel
theorem dX6_back_71 : decode cX6_back 71 = .ok (.iastore, 1) := by decide +kernel
theorem dX6_back_72 : decode cX6_back 72 = .ok (.aload_n 0, 1) := by decide +kernel
theorem dX6_back_73 : decode cX6_back 73 = .ok (.getfield 25, 3) := by decide +kernel
theorem dX6_back_76 : decode cX6_back 76 = .ok (.iload_n 1, 1) := by decide +kernel
theorem dX6_back_77 : decode cX6_back 77 = .ok (.aload_n 0, 1) := by decide +kernel
theorem dX6_back_78 : decode cX6_back 78 = .ok (.getfield 59, 3) := by decide +kernel
theorem dX6_back_81 : decode cX6_back 81 = .ok (.iload_n 2, 1) := by decide +kernel
theorem dX6_back_82 : decode cX6_back 82 = .ok (.iaload, 1) := by decide +kernel
theorem dX6_back_83 : decode cX6_back 83 = .ok (.iastore, 1) := by decide +kernel
theorem dX6_back_84 : decode cX6_back 84 = .ok (.aload_n 0, 1) := by decide +kernel
theorem dX6_back_85 : decode cX6_back 85 = .ok (.getfield 22, 3) := by decide +kernel
theorem dX6_back_88 : decode cX6_back 88 = .ok (.iload_n 1, 1) := by decide +kernel
theorem dX6_back_89 : decode cX6_back 89 = .ok (.iaload, 1) := by decide +kernel
theorem dX6_back_90 : decode cX6_back 90 = .ok (.ireturn, 1) := by decide +kernel
theorem dX6_saleOf_0 : decode cX6_saleOf 0 = .ok (.iload_n 2, 1) := by decide +kernel
theorem dX6_saleOf_1 : decode cX6_saleOf 1 = .ok (.tableswitch 81 0 5 #[39, 46, 53, 60, 67, 74], 39) := by decide +kernel
theorem dX6_saleOf_40 : decode cX6_saleOf 40 = .ok (.aload_n 0, 1) := by decide +kernel
theorem dX6_saleOf_41 : decode cX6_saleOf 41 = .ok (.getfield 38, 3) := by decide +kernel
theorem dX6_saleOf_44 : decode cX6_saleOf 44 = .ok (.iload_n 1, 1) := by decide +kernel
theorem dX6_saleOf_45 : decode cX6_saleOf 45 = .ok (.iaload, 1) := by decide +kernel
theorem dX6_saleOf_46 : decode cX6_saleOf 46 = .ok (.ireturn, 1) := by decide +kernel
theorem dX6_saleOf_47 : decode cX6_saleOf 47 = .ok (.aload_n 0, 1) := by decide +kernel
theorem dX6_saleOf_48 : decode cX6_saleOf 48 = .ok (.getfield 41, 3) := by decide +kernel
theorem dX6_saleOf_51 : decode cX6_saleOf 51 = .ok (.iload_n 1, 1) := by decide +kernel
theorem dX6_saleOf_52 : decode cX6_saleOf 52 = .ok (.iaload, 1) := by decide +kernel
theorem dX6_saleOf_53 : decode cX6_saleOf 53 = .ok (.ireturn, 1) := by decide +kernel
theorem dX6_saleOf_54 : decode cX6_saleOf 54 = .ok (.aload_n 0, 1) := by decide +kernel
theorem dX6_saleOf_55 : decode cX6_saleOf 55 = .ok (.getfield 44, 3) := by decide +kernel
theorem dX6_saleOf_58 : decode cX6_saleOf 58 = .ok (.iload_n 1, 1) := by decide +kernel
theorem dX6_saleOf_59 : decode cX6_saleOf 59 = .ok (.iaload, 1) := by decide +kernel
theorem dX6_saleOf_60 : decode cX6_saleOf 60 = .ok (.ireturn, 1) := by decide +kernel
theorem dX6_saleOf_61 : decode cX6_saleOf 61 = .ok (.aload_n 0, 1) := by decide +kernel
theorem dX6_saleOf_62 : decode cX6_saleOf 62 = .ok (.getfield 47, 3) := by decide +kernel
theorem dX6_saleOf_65 : decode cX6_saleOf 65 = .ok (.iload_n 1, 1) := by decide +kernel
theorem dX6_saleOf_66 : decode cX6_saleOf 66 = .ok (.iaload, 1) := by decide +kernel
theorem dX6_saleOf_67 : decode cX6_saleOf 67 = .ok (.ireturn, 1) := by decide +kernel
theorem dX6_saleOf_68 : decode cX6_saleOf 68 = .ok (.aload_n 0, 1) := by decide +kernel
theorem dX6_saleOf_69 : decode cX6_saleOf 69 = .ok (.getfield 50, 3) := by decide +kernel
theorem dX6_saleOf_72 : decode cX6_saleOf 72 = .ok (.iload_n 1, 1) := by decide +kernel
theorem dX6_saleOf_73 : decode cX6_saleOf 73 = .ok (.iaload, 1) := by decide +kernel
theorem dX6_saleOf_74 : decode cX6_saleOf 74 = .ok (.ireturn, 1) := by decide +kernel
theorem dX6_saleOf_75 : decode cX6_saleOf 75 = .ok (.aload_n 0, 1) := by decide +kernel
theorem dX6_saleOf_76 : decode cX6_saleOf 76 = .ok (.getfield 53, 3) := by decide +kernel
theorem dX6_saleOf_79 : decode cX6_saleOf 79 = .ok (.iload_n 1, 1) := by decide +kernel
theorem dX6_saleOf_80 : decode cX6_saleOf 80 = .ok (.iaload, 1) := by decide +kernel
theorem dX6_saleOf_81 : decode cX6_saleOf 81 = .ok (.ireturn, 1) := by decide +kernel
theorem dX6_saleOf_82 : decode cX6_saleOf 82 = .ok (.aload_n 0, 1) := by decide +kernel
theorem dX6_saleOf_83 : decode cX6_saleOf 83 = .ok (.getfield 56, 3) := by decide +kernel
theorem dX6_saleOf_86 : decode cX6_saleOf 86 = .ok (.iload_n 1, 1) := by decide +kernel
theorem dX6_saleOf_87 : decode cX6_saleOf 87 = .ok (.iaload, 1) := by decide +kernel
theorem dX6_saleOf_88 : decode cX6_saleOf 88 = .ok (.ireturn, 1) := by decide +kernel
set_option maxRecDepth 20000 in
theorem ggX6_sale_X6_in : GoodIn wsX6_sale wsX6_in := goodIn_r _ [6] (by decide +kernel) (by decide +kernel)
set_option maxRecDepth 20000 in
theorem gX6_sale_X6_in : GoodIn wsX6_sale (va_wsS RX6 92 yX6_in wsX6_in) := goodIn_app (goodIn_of _ (by decide +kernel)) ggX6_sale_X6_in
set_option maxRecDepth 20000 in
theorem ggX6_sale_X6_saleOf : GoodIn wsX6_sale wsX6_saleOf := goodIn_r _ [10, 11, 12, 13, 14, 15, 16, 17, 18, 19, 20, 21, 22, 23, 24, 25, 26, 27, 28, 29, 30, 31, 32, 33, 34, 35, 36, 37, 38, 39, 40, 41, 42, 43, 44, 45, 46, 47, 48, 49, 50, 51, 52, 53, 54, 55] (by decide +kernel) (by decide +kernel)
set_option maxRecDepth 20000 in
theorem gX6_sale_X6_saleOf : GoodIn wsX6_sale (wsV RX6 152 RX6 yX6_saleOf wsX6_saleOf) := goodIn_app (goodIn_of _ (by decide +kernel)) ggX6_sale_X6_saleOf
theorem dX6_sale_0 : decode cX6_sale 0 = .ok (.iload_n 1, 1) := by decide +kernel
theorem dX6_sale_1 : decode cX6_sale 1 = .ok (.ifCond .lt 15, 3) := by decide +kernel
theorem dX6_sale_4 : decode cX6_sale 4 = .ok (.iload_n 2, 1) := by decide +kernel
theorem dX6_sale_5 : decode cX6_sale 5 = .ok (.i2l, 1) := by decide +kernel
theorem dX6_sale_6 : decode cX6_sale 6 = .ok (.lconst 0, 1) := by decide +kernel
theorem dX6_sale_7 : decode cX6_sale 7 = .ok (.ldc2_w 150, 3) := by decide +kernel
theorem dX6_sale_10 : decode cX6_sale 10 = .ok (.invokestatic 92, 3) := by decide +kernel
theorem dX6_sale_13 : decode cX6_sale 13 = .ok (.ifCond .ne 8, 3) := by decide +kernel
theorem dX6_sale_16 : decode cX6_sale 16 = .ok (.bipush (-2), 2) := by decide +kernel
theorem dX6_sale_18 : decode cX6_sale 18 = .ok (.goto 21, 3) := by decide +kernel
theorem dX6_sale_21 : decode cX6_sale 21 = .ok (.iload_n 1, 1) := by decide +kernel
theorem dX6_sale_22 : decode cX6_sale 22 = .ok (.aload_n 0, 1) := by decide +kernel
theorem dX6_sale_23 : decode cX6_sale 23 = .ok (.getfield 137, 3) := by decide +kernel
theorem dX6_sale_26 : decode cX6_sale 26 = .ok (.if_icmp .lt 7, 3) := by decide +kernel
theorem dX6_sale_29 : decode cX6_sale 29 = .ok (.iconst (-1), 1) := by decide +kernel
theorem dX6_sale_30 : decode cX6_sale 30 = .ok (.goto 9, 3) := by decide +kernel
theorem dX6_sale_33 : decode cX6_sale 33 = .ok (.aload_n 0, 1) := by decide +kernel
theorem dX6_sale_34 : decode cX6_sale 34 = .ok (.iload_n 1, 1) := by decide +kernel
theorem dX6_sale_35 : decode cX6_sale 35 = .ok (.iload_n 2, 1) := by decide +kernel
theorem dX6_sale_36 : decode cX6_sale 36 = .ok (.invokevirtual 152, 3) := by decide +kernel
theorem dX6_sale_39 : decode cX6_sale 39 = .ok (.ireturn, 1) := by decide +kernel
theorem dX6_gainOf_0 : decode cX6_gainOf 0 = .ok (.iconst 0, 1) := by decide +kernel
theorem dX6_gainOf_1 : decode cX6_gainOf 1 = .ok (.istore_n 2, 1) := by decide +kernel
theorem dX6_gainOf_2 : decode cX6_gainOf 2 = .ok (.iconst 0, 1) := by decide +kernel
theorem dX6_gainOf_3 : decode cX6_gainOf 3 = .ok (.istore_n 3, 1) := by decide +kernel
theorem dX6_gainOf_4 : decode cX6_gainOf 4 = .ok (.iload_n 3, 1) := by decide +kernel
theorem dX6_gainOf_5 : decode cX6_gainOf 5 = .ok (.aload_n 0, 1) := by decide +kernel
theorem dX6_gainOf_6 : decode cX6_gainOf 6 = .ok (.getfield 137, 3) := by decide +kernel
theorem dX6_gainOf_9 : decode cX6_gainOf 9 = .ok (.if_icmp .ge 66, 3) := by decide +kernel
theorem dX6_gainOf_12 : decode cX6_gainOf 12 = .ok (.iload_n 2, 1) := by decide +kernel
theorem dX6_gainOf_13 : decode cX6_gainOf 13 = .ok (.aload_n 0, 1) := by decide +kernel
theorem dX6_gainOf_14 : decode cX6_gainOf 14 = .ok (.getfield 56, 3) := by decide +kernel
theorem dX6_gainOf_17 : decode cX6_gainOf 17 = .ok (.iload_n 3, 1) := by decide +kernel
theorem dX6_gainOf_18 : decode cX6_gainOf 18 = .ok (.iaload, 1) := by decide +kernel
theorem dX6_gainOf_19 : decode cX6_gainOf 19 = .ok (.ifCond .ne 7, 3) := by decide +kernel
theorem dX6_gainOf_22 : decode cX6_gainOf 22 = .ok (.iconst 0, 1) := by decide +kernel
theorem dX6_gainOf_23 : decode cX6_gainOf 23 = .ok (.goto 44, 3) := by decide +kernel
theorem dX6_gainOf_26 : decode cX6_gainOf 26 = .ok (.aload_n 0, 1) := by decide +kernel
theorem dX6_gainOf_27 : decode cX6_gainOf 27 = .ok (.getfield 41, 3) := by decide +kernel
theorem dX6_gainOf_30 : decode cX6_gainOf 30 = .ok (.iload_n 3, 1) := by decide +kernel
theorem dX6_gainOf_31 : decode cX6_gainOf 31 = .ok (.iaload, 1) := by decide +kernel
theorem dX6_gainOf_32 : decode cX6_gainOf 32 = .ok (.iload_n 1, 1) := by decide +kernel
theorem dX6_gainOf_33 : decode cX6_gainOf 33 = .ok (.if_icmp .ne 12, 3) := by decide +kernel
theorem dX6_gainOf_36 : decode cX6_gainOf 36 = .ok (.aload_n 0, 1) := by decide +kernel
theorem dX6_gainOf_37 : decode cX6_gainOf 37 = .ok (.getfield 47, 3) := by decide +kernel
theorem dX6_gainOf_40 : decode cX6_gainOf 40 = .ok (.iload_n 3, 1) := by decide +kernel
theorem dX6_gainOf_41 : decode cX6_gainOf 41 = .ok (.iaload, 1) := by decide +kernel
theorem dX6_gainOf_42 : decode cX6_gainOf 42 = .ok (.goto 25, 3) := by decide +kernel
theorem dX6_gainOf_45 : decode cX6_gainOf 45 = .ok (.aload_n 0, 1) := by decide +kernel
theorem dX6_gainOf_46 : decode cX6_gainOf 46 = .ok (.getfield 44, 3) := by decide +kernel
theorem dX6_gainOf_49 : decode cX6_gainOf 49 = .ok (.iload_n 3, 1) := by decide +kernel
theorem dX6_gainOf_50 : decode cX6_gainOf 50 = .ok (.iaload, 1) := by decide +kernel
theorem dX6_gainOf_51 : decode cX6_gainOf 51 = .ok (.iload_n 1, 1) := by decide +kernel
theorem dX6_gainOf_52 : decode cX6_gainOf 52 = .ok (.if_icmp .ne 14, 3) := by decide +kernel
theorem dX6_gainOf_55 : decode cX6_gainOf 55 = .ok (.iconst 0, 1) := by decide +kernel
theorem dX6_gainOf_56 : decode cX6_gainOf 56 = .ok (.aload_n 0, 1) := by decide +kernel
theorem dX6_gainOf_57 : decode cX6_gainOf 57 = .ok (.getfield 47, 3) := by decide +kernel
theorem dX6_gainOf_60 : decode cX6_gainOf 60 = .ok (.iload_n 3, 1) := by decide +kernel
theorem dX6_gainOf_61 : decode cX6_gainOf 61 = .ok (.iaload, 1) := by decide +kernel
theorem dX6_gainOf_62 : decode cX6_gainOf 62 = .ok (.isub, 1) := by decide +kernel
theorem dX6_gainOf_63 : decode cX6_gainOf 63 = .ok (.goto 4, 3) := by decide +kernel
theorem dX6_gainOf_66 : decode cX6_gainOf 66 = .ok (.iconst 0, 1) := by decide +kernel
theorem dX6_gainOf_67 : decode cX6_gainOf 67 = .ok (.iadd, 1) := by decide +kernel
theorem dX6_gainOf_68 : decode cX6_gainOf 68 = .ok (.istore_n 2, 1) := by decide +kernel
theorem dX6_gainOf_69 : decode cX6_gainOf 69 = .ok (.iinc 3 1, 3) := by decide +kernel
theorem dX6_gainOf_72 : decode cX6_gainOf 72 = .ok (.goto (-68), 3) := by decide +kernel
theorem dX6_gainOf_75 : decode cX6_gainOf 75 = .ok (.iload_n 2, 1) := by decide +kernel
theorem dX6_gainOf_76 : decode cX6_gainOf 76 = .ok (.ireturn, 1) := by decide +kernel
set_option maxRecDepth 20000 in
theorem ggX6_gain_X6_isDealer : GoodIn wsX6_gain wsX6_isDealer := goodIn_r _ [5, 6, 7, 8, 4, 9] (by decide +kernel) (by decide +kernel)
set_option maxRecDepth 20000 in
theorem gX6_gain_X6_isDealer : GoodIn wsX6_gain (va_wsS RX6 140 yX6_isDealer wsX6_isDealer) := goodIn_app (goodIn_of _ (by decide +kernel)) ggX6_gain_X6_isDealer
set_option maxRecDepth 20000 in
theorem ggX6_gain_X6_gainOf : GoodIn wsX6_gain wsX6_gainOf := goodIn_r _ [13, 14, 15, 16, 17, 18, 19, 20, 21, 22, 23, 24, 25, 26, 27, 28, 29, 30, 31, 32, 33, 34, 35, 36, 37, 38, 39, 40, 41, 42, 43, 44, 45, 46, 47, 48, 49, 50, 51, 52, 53, 54, 55, 56] (by decide +kernel) (by decide +kernel)
set_option maxRecDepth 20000 in
theorem gX6_gain_X6_gainOf : GoodIn wsX6_gain (wsV RX6 156 RX6 yX6_gainOf wsX6_gainOf) := goodIn_app (goodIn_of _ (by decide +kernel)) ggX6_gain_X6_gainOf
theorem dX6_gain_0 : decode cX6_gain 0 = .ok (.iload_n 1, 1) := by decide +kernel
theorem dX6_gain_1 : decode cX6_gain 1 = .ok (.invokestatic 140, 3) := by decide +kernel
theorem dX6_gain_4 : decode cX6_gain 4 = .ok (.ifCond .eq 11, 3) := by decide +kernel
theorem dX6_gain_7 : decode cX6_gain 7 = .ok (.aload_n 0, 1) := by decide +kernel
theorem dX6_gain_8 : decode cX6_gain 8 = .ok (.iload_n 1, 1) := by decide +kernel
theorem dX6_gain_9 : decode cX6_gain 9 = .ok (.invokevirtual 156, 3) := by decide +kernel
theorem dX6_gain_12 : decode cX6_gain 12 = .ok (.goto 5, 3) := by decide +kernel
theorem dX6_gain_15 : decode cX6_gain 15 = .ok (.ldc 159, 2) := by decide +kernel
theorem dX6_gain_17 : decode cX6_gain 17 = .ok (.ireturn, 1) := by decide +kernel
set_option maxRecDepth 20000 in
theorem ggX6_rose_X6_noThing : GoodIn wsX6_rose wsX6_noThing := goodIn_r _ [10, 11, 12, 13, 9, 14, 15, 16, 17, 18, 19, 20, 21, 22, 23, 24, 25, 26, 27, 28, 29, 30, 31, 32, 33, 34, 35, 36, 37, 38, 39, 40, 41, 42, 43, 44, 45, 46, 47, 48, 49, 50, 51, 52] (by decide +kernel) (by decide +kernel)
set_option maxRecDepth 20000 in
theorem gX6_rose_X6_noThing : GoodIn wsX6_rose (wsV RX6 107 RX6 yX6_noThing wsX6_noThing) := goodIn_app (goodIn_of _ (by decide +kernel)) ggX6_rose_X6_noThing
theorem dX6_rose_0 : decode cX6_rose 0 = .ok (.aload_n 0, 1) := by decide +kernel
theorem dX6_rose_1 : decode cX6_rose 1 = .ok (.iload_n 1, 1) := by decide +kernel
theorem dX6_rose_2 : decode cX6_rose 2 = .ok (.invokevirtual 107, 3) := by decide +kernel
theorem dX6_rose_5 : decode cX6_rose 5 = .ok (.ifCond .eq 6, 3) := by decide +kernel
theorem dX6_rose_8 : decode cX6_rose 8 = .ok (.ldc 159, 2) := by decide +kernel
theorem dX6_rose_10 : decode cX6_rose 10 = .ok (.ireturn, 1) := by decide +kernel
theorem dX6_rose_11 : decode cX6_rose 11 = .ok (.iconst (-1), 1) := by decide +kernel
theorem dX6_rose_12 : decode cX6_rose 12 = .ok (.istore_n 2, 1) := by decide +kernel
theorem dX6_rose_13 : decode cX6_rose 13 = .ok (.iconst (-1), 1) := by decide +kernel
theorem dX6_rose_14 : decode cX6_rose 14 = .ok (.istore_n 3, 1) := by decide +kernel
theorem dX6_rose_15 : decode cX6_rose 15 = .ok (.iconst 0, 1) := by decide +kernel
theorem dX6_rose_16 : decode cX6_rose 16 = .ok (.istore 4, 2) := by decide +kernel
theorem dX6_rose_18 : decode cX6_rose 18 = .ok (.iload 4, 2) := by decide +kernel
theorem dX6_rose_20 : decode cX6_rose 20 = .ok (.aload_n 0, 1) := by decide +kernel
theorem dX6_rose_21 : decode cX6_rose 21 = .ok (.getfield 137, 3) := by decide +kernel
theorem dX6_rose_24 : decode cX6_rose 24 = .ok (.if_icmp .ge 45, 3) := by decide +kernel
theorem dX6_rose_27 : decode cX6_rose 27 = .ok (.aload_n 0, 1) := by decide +kernel
theorem dX6_rose_28 : decode cX6_rose 28 = .ok (.getfield 56, 3) := by decide +kernel
theorem dX6_rose_31 : decode cX6_rose 31 = .ok (.iload 4, 2) := by decide +kernel
theorem dX6_rose_33 : decode cX6_rose 33 = .ok (.iaload, 1) := by decide +kernel
theorem dX6_rose_34 : decode cX6_rose 34 = .ok (.iconst 1, 1) := by decide +kernel
theorem dX6_rose_35 : decode cX6_rose 35 = .ok (.if_icmp .ne 28, 3) := by decide +kernel
theorem dX6_rose_38 : decode cX6_rose 38 = .ok (.aload_n 0, 1) := by decide +kernel
theorem dX6_rose_39 : decode cX6_rose 39 = .ok (.getfield 38, 3) := by decide +kernel
theorem dX6_rose_42 : decode cX6_rose 42 = .ok (.iload 4, 2) := by decide +kernel
theorem dX6_rose_44 : decode cX6_rose 44 = .ok (.iaload, 1) := by decide +kernel
theorem dX6_rose_45 : decode cX6_rose 45 = .ok (.iload_n 1, 1) := by decide +kernel
theorem dX6_rose_46 : decode cX6_rose 46 = .ok (.if_icmp .ne 17, 3) := by decide +kernel
theorem dX6_rose_49 : decode cX6_rose 49 = .ok (.iload_n 2, 1) := by decide +kernel
theorem dX6_rose_50 : decode cX6_rose 50 = .ok (.ifCond .ge 8, 3) := by decide +kernel
theorem dX6_rose_53 : decode cX6_rose 53 = .ok (.iload 4, 2) := by decide +kernel
theorem dX6_rose_55 : decode cX6_rose 55 = .ok (.goto 4, 3) := by decide +kernel
theorem dX6_rose_58 : decode cX6_rose 58 = .ok (.iload_n 2, 1) := by decide +kernel
theorem dX6_rose_59 : decode cX6_rose 59 = .ok (.istore_n 2, 1) := by decide +kernel
theorem dX6_rose_60 : decode cX6_rose 60 = .ok (.iload 4, 2) := by decide +kernel
theorem dX6_rose_62 : decode cX6_rose 62 = .ok (.istore_n 3, 1) := by decide +kernel
theorem dX6_rose_63 : decode cX6_rose 63 = .ok (.iinc 4 1, 3) := by decide +kernel
theorem dX6_rose_66 : decode cX6_rose 66 = .ok (.goto (-48), 3) := by decide +kernel
theorem dX6_rose_69 : decode cX6_rose 69 = .ok (.iload_n 2, 1) := by decide +kernel
theorem dX6_rose_70 : decode cX6_rose 70 = .ok (.ifCond .ge 7, 3) := by decide +kernel
theorem dX6_rose_73 : decode cX6_rose 73 = .ok (.iconst 0, 1) := by decide +kernel
theorem dX6_rose_74 : decode cX6_rose 74 = .ok (.goto 16, 3) := by decide +kernel
theorem dX6_rose_77 : decode cX6_rose 77 = .ok (.aload_n 0, 1) := by decide +kernel
theorem dX6_rose_78 : decode cX6_rose 78 = .ok (.getfield 47, 3) := by decide +kernel
theorem dX6_rose_81 : decode cX6_rose 81 = .ok (.iload_n 3, 1) := by decide +kernel
theorem dX6_rose_82 : decode cX6_rose 82 = .ok (.iaload, 1) := by decide +kernel
theorem dX6_rose_83 : decode cX6_rose 83 = .ok (.aload_n 0, 1) := by decide +kernel
theorem dX6_rose_84 : decode cX6_rose 84 = .ok (.getfield 47, 3) := by decide +kernel
theorem dX6_rose_87 : decode cX6_rose 87 = .ok (.iload_n 2, 1) := by decide +kernel
theorem dX6_rose_88 : decode cX6_rose 88 = .ok (.iaload, 1) := by decide +kernel
theorem dX6_rose_89 : decode cX6_rose 89 = .ok (.isub, 1) := by decide +kernel
theorem dX6_rose_90 : decode cX6_rose 90 = .ok (.ireturn, 1) := by decide +kernel
set_option maxRecDepth 20000 in
theorem ggX6_lot_X6_in : GoodIn wsX6_lot wsX6_in := goodIn_r _ [9] (by decide +kernel) (by decide +kernel)
set_option maxRecDepth 20000 in
theorem gX6_lot_X6_in : GoodIn wsX6_lot (va_wsS RX6 92 yX6_in wsX6_in) := goodIn_app (goodIn_of _ (by decide +kernel)) ggX6_lot_X6_in
set_option maxRecDepth 20000 in
theorem ggX6_lot_X6_isDealer : GoodIn wsX6_lot wsX6_isDealer := goodIn_r _ [12, 13, 6, 7, 8, 9] (by decide +kernel) (by decide +kernel)
set_option maxRecDepth 20000 in
theorem gX6_lot_X6_isDealer : GoodIn wsX6_lot (va_wsS RX6 140 yX6_isDealer wsX6_isDealer) := goodIn_app (goodIn_of _ (by decide +kernel)) ggX6_lot_X6_isDealer
theorem dX6_lot_0 : decode cX6_lot 0 = .ok (.iload_n 1, 1) := by decide +kernel
theorem dX6_lot_1 : decode cX6_lot 1 = .ok (.i2l, 1) := by decide +kernel
theorem dX6_lot_2 : decode cX6_lot 2 = .ok (.lconst 0, 1) := by decide +kernel
theorem dX6_lot_3 : decode cX6_lot 3 = .ok (.ldc2_w 160, 3) := by decide +kernel
theorem dX6_lot_6 : decode cX6_lot 6 = .ok (.invokestatic 92, 3) := by decide +kernel
theorem dX6_lot_9 : decode cX6_lot 9 = .ok (.ifCond .eq 23, 3) := by decide +kernel
theorem dX6_lot_12 : decode cX6_lot 12 = .ok (.iload_n 2, 1) := by decide +kernel
theorem dX6_lot_13 : decode cX6_lot 13 = .ok (.i2l, 1) := by decide +kernel
theorem dX6_lot_14 : decode cX6_lot 14 = .ok (.lconst 0, 1) := by decide +kernel
theorem dX6_lot_15 : decode cX6_lot 15 = .ok (.ldc2_w 160, 3) := by decide +kernel
theorem dX6_lot_18 : decode cX6_lot 18 = .ok (.invokestatic 92, 3) := by decide +kernel
theorem dX6_lot_21 : decode cX6_lot 21 = .ok (.ifCond .eq 11, 3) := by decide +kernel
theorem dX6_lot_24 : decode cX6_lot 24 = .ok (.iload_n 2, 1) := by decide +kernel
theorem dX6_lot_25 : decode cX6_lot 25 = .ok (.iload_n 1, 1) := by decide +kernel
theorem dX6_lot_26 : decode cX6_lot 26 = .ok (.iconst (-1), 1) := by decide +kernel
theorem dX6_lot_27 : decode cX6_lot 27 = .ok (.ixor, 1) := by decide +kernel
theorem dX6_lot_28 : decode cX6_lot 28 = .ok (.iand, 1) := by decide +kernel
theorem dX6_lot_29 : decode cX6_lot 29 = .ok (.ifCond .eq 6, 3) := by decide +kernel
theorem dX6_lot_32 : decode cX6_lot 32 = .ok (.bipush (-2), 2) := by decide +kernel
theorem dX6_lot_34 : decode cX6_lot 34 = .ok (.ireturn, 1) := by decide +kernel
theorem dX6_lot_35 : decode cX6_lot 35 = .ok (.iload_n 2, 1) := by decide +kernel
theorem dX6_lot_36 : decode cX6_lot 36 = .ok (.ifCond .ne 11, 3) := by decide +kernel
theorem dX6_lot_39 : decode cX6_lot 39 = .ok (.iload_n 3, 1) := by decide +kernel
theorem dX6_lot_40 : decode cX6_lot 40 = .ok (.iconst (-1), 1) := by decide +kernel
theorem dX6_lot_41 : decode cX6_lot 41 = .ok (.if_icmp .eq 24, 3) := by decide +kernel
theorem dX6_lot_44 : decode cX6_lot 44 = .ok (.goto 18, 3) := by decide +kernel
theorem dX6_lot_47 : decode cX6_lot 47 = .ok (.iload_n 3, 1) := by decide +kernel
theorem dX6_lot_48 : decode cX6_lot 48 = .ok (.invokestatic 140, 3) := by decide +kernel
theorem dX6_lot_51 : decode cX6_lot 51 = .ok (.ifCond .eq 11, 3) := by decide +kernel
theorem dX6_lot_54 : decode cX6_lot 54 = .ok (.iload_n 2, 1) := by decide +kernel
theorem dX6_lot_55 : decode cX6_lot 55 = .ok (.iload_n 3, 1) := by decide +kernel
theorem dX6_lot_56 : decode cX6_lot 56 = .ok (.ishr, 1) := by decide +kernel
theorem dX6_lot_57 : decode cX6_lot 57 = .ok (.iconst 1, 1) := by decide +kernel
theorem dX6_lot_58 : decode cX6_lot 58 = .ok (.iand, 1) := by decide +kernel
theorem dX6_lot_59 : decode cX6_lot 59 = .ok (.ifCond .ne 6, 3) := by decide +kernel
theorem dX6_lot_62 : decode cX6_lot 62 = .ok (.bipush (-2), 2) := by decide +kernel
theorem dX6_lot_64 : decode cX6_lot 64 = .ok (.ireturn, 1) := by decide +kernel
theorem dX6_lot_65 : decode cX6_lot 65 = .ok (.aload_n 0, 1) := by decide +kernel
theorem dX6_lot_66 : decode cX6_lot 66 = .ok (.getfield 162, 3) := by decide +kernel
theorem dX6_lot_69 : decode cX6_lot 69 = .ok (.bipush 40, 2) := by decide +kernel
theorem dX6_lot_71 : decode cX6_lot 71 = .ok (.if_icmp .ne 6, 3) := by decide +kernel
theorem dX6_lot_74 : decode cX6_lot 74 = .ok (.bipush (-4), 2) := by decide +kernel
theorem dX6_lot_76 : decode cX6_lot 76 = .ok (.ireturn, 1) := by decide +kernel
theorem dX6_lot_77 : decode cX6_lot 77 = .ok (.aload_n 0, 1) := by decide +kernel
theorem dX6_lot_78 : decode cX6_lot 78 = .ok (.getfield 62, 3) := by decide +kernel
theorem dX6_lot_81 : decode cX6_lot 81 = .ok (.aload_n 0, 1) := by decide +kernel
theorem dX6_lot_82 : decode cX6_lot 82 = .ok (.getfield 162, 3) := by decide +kernel
theorem dX6_lot_85 : decode cX6_lot 85 = .ok (.iload_n 1, 1) := by decide +kernel
theorem dX6_lot_86 : decode cX6_lot 86 = .ok (.iastore, 1) := by decide +kernel
theorem dX6_lot_87 : decode cX6_lot 87 = .ok (.aload_n 0, 1) := by decide +kernel
theorem dX6_lot_88 : decode cX6_lot 88 = .ok (.getfield 65, 3) := by decide +kernel
theorem dX6_lot_91 : decode cX6_lot 91 = .ok (.aload_n 0, 1) := by decide +kernel
theorem dX6_lot_92 : decode cX6_lot 92 = .ok (.getfield 162, 3) := by decide +kernel
theorem dX6_lot_95 : decode cX6_lot 95 = .ok (.iload_n 2, 1) := by decide +kernel
theorem dX6_lot_96 : decode cX6_lot 96 = .ok (.iastore, 1) := by decide +kernel
theorem dX6_lot_97 : decode cX6_lot 97 = .ok (.aload_n 0, 1) := by decide +kernel
theorem dX6_lot_98 : decode cX6_lot 98 = .ok (.getfield 68, 3) := by decide +kernel
theorem dX6_lot_101 : decode cX6_lot 101 = .ok (.aload_n 0, 1) := by decide +kernel
theorem dX6_lot_102 : decode cX6_lot 102 = .ok (.getfield 162, 3) := by decide +kernel
theorem dX6_lot_105 : decode cX6_lot 105 = .ok (.iload_n 3, 1) := by decide +kernel
theorem dX6_lot_106 : decode cX6_lot 106 = .ok (.iastore, 1) := by decide +kernel
theorem dX6_lot_107 : decode cX6_lot 107 = .ok (.aload_n 0, 1) := by decide +kernel
theorem dX6_lot_108 : decode cX6_lot 108 = .ok (.dup, 1) := by decide +kernel
theorem dX6_lot_109 : decode cX6_lot 109 = .ok (.getfield 162, 3) := by decide +kernel
theorem dX6_lot_112 : decode cX6_lot 112 = .ok (.iconst 1, 1) := by decide +kernel
theorem dX6_lot_113 : decode cX6_lot 113 = .ok (.iadd, 1) := by decide +kernel
theorem dX6_lot_114 : decode cX6_lot 114 = .ok (.putfield 162, 3) := by decide +kernel
theorem dX6_lot_117 : decode cX6_lot 117 = .ok (.aload_n 0, 1) := by decide +kernel
theorem dX6_lot_118 : decode cX6_lot 118 = .ok (.getfield 162, 3) := by decide +kernel
theorem dX6_lot_121 : decode cX6_lot 121 = .ok (.iconst 1, 1) := by decide +kernel
theorem dX6_lot_122 : decode cX6_lot 122 = .ok (.isub, 1) := by decide +kernel
theorem dX6_lot_123 : decode cX6_lot 123 = .ok (.ireturn, 1) := by decide +kernel
theorem dX6_findBoth_0 : decode cX6_findBoth 0 = .ok (.aload_n 0, 1) := by decide +kernel
theorem dX6_findBoth_1 : decode cX6_findBoth 1 = .ok (.iconst 0, 1) := by decide +kernel
theorem dX6_findBoth_2 : decode cX6_findBoth 2 = .ok (.putfield 165, 3) := by decide +kernel
theorem dX6_findBoth_5 : decode cX6_findBoth 5 = .ok (.aload_n 0, 1) := by decide +kernel
theorem dX6_findBoth_6 : decode cX6_findBoth 6 = .ok (.iconst 0, 1) := by decide +kernel
theorem dX6_findBoth_7 : decode cX6_findBoth 7 = .ok (.putfield 168, 3) := by decide +kernel
theorem dX6_findBoth_10 : decode cX6_findBoth 10 = .ok (.aload_n 0, 1) := by decide +kernel
theorem dX6_findBoth_11 : decode cX6_findBoth 11 = .ok (.iconst 0, 1) := by decide +kernel
theorem dX6_findBoth_12 : decode cX6_findBoth 12 = .ok (.putfield 171, 3) := by decide +kernel
theorem dX6_findBoth_15 : decode cX6_findBoth 15 = .ok (.aload_n 0, 1) := by decide +kernel
theorem dX6_findBoth_16 : decode cX6_findBoth 16 = .ok (.iconst 0, 1) := by decide +kernel
theorem dX6_findBoth_17 : decode cX6_findBoth 17 = .ok (.putfield 174, 3) := by decide +kernel
theorem dX6_findBoth_20 : decode cX6_findBoth 20 = .ok (.iconst 0, 1) := by decide +kernel
theorem dX6_findBoth_21 : decode cX6_findBoth 21 = .ok (.istore_n 3, 1) := by decide +kernel
theorem dX6_findBoth_22 : decode cX6_findBoth 22 = .ok (.iload_n 3, 1) := by decide +kernel
theorem dX6_findBoth_23 : decode cX6_findBoth 23 = .ok (.aload_n 0, 1) := by decide +kernel
theorem dX6_findBoth_24 : decode cX6_findBoth 24 = .ok (.getfield 162, 3) := by decide +kernel
theorem dX6_findBoth_27 : decode cX6_findBoth 27 = .ok (.if_icmp .ge 113, 3) := by decide +kernel
theorem dX6_findBoth_30 : decode cX6_findBoth 30 = .ok (.aload_n 0, 1) := by decide +kernel
theorem dX6_findBoth_31 : decode cX6_findBoth 31 = .ok (.getfield 62, 3) := by decide +kernel
theorem dX6_findBoth_34 : decode cX6_findBoth 34 = .ok (.iload_n 3, 1) := by decide +kernel
theorem dX6_findBoth_35 : decode cX6_findBoth 35 = .ok (.iaload, 1) := by decide +kernel
theorem dX6_findBoth_36 : decode cX6_findBoth 36 = .ok (.iload_n 1, 1) := by decide +kernel
theorem dX6_findBoth_37 : decode cX6_findBoth 37 = .ok (.ishr, 1) := by decide +kernel
theorem dX6_findBoth_38 : decode cX6_findBoth 38 = .ok (.iconst 1, 1) := by decide +kernel
theorem dX6_findBoth_39 : decode cX6_findBoth 39 = .ok (.iand, 1) := by decide +kernel
theorem dX6_findBoth_40 : decode cX6_findBoth 40 = .ok (.iconst 1, 1) := by decide +kernel
theorem dX6_findBoth_41 : decode cX6_findBoth 41 = .ok (.if_icmp .ne 93, 3) := by decide +kernel
theorem dX6_findBoth_44 : decode cX6_findBoth 44 = .ok (.aload_n 0, 1) := by decide +kernel
theorem dX6_findBoth_45 : decode cX6_findBoth 45 = .ok (.getfield 62, 3) := by decide +kernel
theorem dX6_findBoth_48 : decode cX6_findBoth 48 = .ok (.iload_n 3, 1) := by decide +kernel
theorem dX6_findBoth_49 : decode cX6_findBoth 49 = .ok (.iaload, 1) := by decide +kernel
theorem dX6_findBoth_50 : decode cX6_findBoth 50 = .ok (.iload_n 2, 1) := by decide +kernel
theorem dX6_findBoth_51 : decode cX6_findBoth 51 = .ok (.ishr, 1) := by decide +kernel
theorem dX6_findBoth_52 : decode cX6_findBoth 52 = .ok (.iconst 1, 1) := by decide +kernel
theorem dX6_findBoth_53 : decode cX6_findBoth 53 = .ok (.iand, 1) := by decide +kernel
theorem dX6_findBoth_54 : decode cX6_findBoth 54 = .ok (.iconst 1, 1) := by decide +kernel
theorem dX6_findBoth_55 : decode cX6_findBoth 55 = .ok (.if_icmp .ne 79, 3) := by decide +kernel
theorem dX6_findBoth_58 : decode cX6_findBoth 58 = .ok (.aload_n 0, 1) := by decide +kernel
theorem dX6_findBoth_59 : decode cX6_findBoth 59 = .ok (.dup, 1) := by decide +kernel
theorem dX6_findBoth_60 : decode cX6_findBoth 60 = .ok (.getfield 165, 3) := by decide +kernel
theorem dX6_findBoth_63 : decode cX6_findBoth 63 = .ok (.iconst 1, 1) := by decide +kernel
theorem dX6_findBoth_64 : decode cX6_findBoth 64 = .ok (.iadd, 1) := by decide +kernel
theorem dX6_findBoth_65 : decode cX6_findBoth 65 = .ok (.putfield 165, 3) := by decide +kernel
theorem dX6_findBoth_68 : decode cX6_findBoth 68 = .ok (.aload_n 0, 1) := by decide +kernel
theorem dX6_findBoth_69 : decode cX6_findBoth 69 = .ok (.dup, 1) := by decide +kernel
theorem dX6_findBoth_70 : decode cX6_findBoth 70 = .ok (.getfield 168, 3) := by decide +kernel
theorem dX6_findBoth_73 : decode cX6_findBoth 73 = .ok (.aload_n 0, 1) := by decide +kernel
theorem dX6_findBoth_74 : decode cX6_findBoth 74 = .ok (.getfield 65, 3) := by decide +kernel
theorem dX6_findBoth_77 : decode cX6_findBoth 77 = .ok (.iload_n 3, 1) := by decide +kernel
theorem dX6_findBoth_78 : decode cX6_findBoth 78 = .ok (.iaload, 1) := by decide +kernel
theorem dX6_findBoth_79 : decode cX6_findBoth 79 = .ok (.iload_n 1, 1) := by decide +kernel
theorem dX6_findBoth_80 : decode cX6_findBoth 80 = .ok (.ishr, 1) := by decide +kernel
theorem dX6_findBoth_81 : decode cX6_findBoth 81 = .ok (.iconst 1, 1) := by decide +kernel
theorem dX6_findBoth_82 : decode cX6_findBoth 82 = .ok (.iand, 1) := by decide +kernel
theorem dX6_findBoth_83 : decode cX6_findBoth 83 = .ok (.iadd, 1) := by decide +kernel
theorem dX6_findBoth_84 : decode cX6_findBoth 84 = .ok (.putfield 168, 3) := by decide +kernel
theorem dX6_findBoth_87 : decode cX6_findBoth 87 = .ok (.aload_n 0, 1) := by decide +kernel
theorem dX6_findBoth_88 : decode cX6_findBoth 88 = .ok (.dup, 1) := by decide +kernel
theorem dX6_findBoth_89 : decode cX6_findBoth 89 = .ok (.getfield 171, 3) := by decide +kernel
theorem dX6_findBoth_92 : decode cX6_findBoth 92 = .ok (.aload_n 0, 1) := by decide +kernel
theorem dX6_findBoth_93 : decode cX6_findBoth 93 = .ok (.getfield 65, 3) := by decide +kernel
theorem dX6_findBoth_96 : decode cX6_findBoth 96 = .ok (.iload_n 3, 1) := by decide +kernel
theorem dX6_findBoth_97 : decode cX6_findBoth 97 = .ok (.iaload, 1) := by decide +kernel
theorem dX6_findBoth_98 : decode cX6_findBoth 98 = .ok (.iload_n 2, 1) := by decide +kernel
theorem dX6_findBoth_99 : decode cX6_findBoth 99 = .ok (.ishr, 1) := by decide +kernel
theorem dX6_findBoth_100 : decode cX6_findBoth 100 = .ok (.iconst 1, 1) := by decide +kernel
theorem dX6_findBoth_101 : decode cX6_findBoth 101 = .ok (.iand, 1) := by decide +kernel
theorem dX6_findBoth_102 : decode cX6_findBoth 102 = .ok (.iadd, 1) := by decide +kernel
theorem dX6_findBoth_103 : decode cX6_findBoth 103 = .ok (.putfield 171, 3) := by decide +kernel
theorem dX6_findBoth_106 : decode cX6_findBoth 106 = .ok (.aload_n 0, 1) := by decide +kernel
theorem dX6_findBoth_107 : decode cX6_findBoth 107 = .ok (.dup, 1) := by decide +kernel
theorem dX6_findBoth_108 : decode cX6_findBoth 108 = .ok (.getfield 174, 3) := by decide +kernel
theorem dX6_findBoth_111 : decode cX6_findBoth 111 = .ok (.aload_n 0, 1) := by decide +kernel
theorem dX6_findBoth_112 : decode cX6_findBoth 112 = .ok (.getfield 65, 3) := by decide +kernel
theorem dX6_findBoth_115 : decode cX6_findBoth 115 = .ok (.iload_n 3, 1) := by decide +kernel
theorem dX6_findBoth_116 : decode cX6_findBoth 116 = .ok (.iaload, 1) := by decide +kernel
theorem dX6_findBoth_117 : decode cX6_findBoth 117 = .ok (.iload_n 1, 1) := by decide +kernel
theorem dX6_findBoth_118 : decode cX6_findBoth 118 = .ok (.ishr, 1) := by decide +kernel
theorem dX6_findBoth_119 : decode cX6_findBoth 119 = .ok (.aload_n 0, 1) := by decide +kernel
theorem dX6_findBoth_120 : decode cX6_findBoth 120 = .ok (.getfield 65, 3) := by decide +kernel
theorem dX6_findBoth_123 : decode cX6_findBoth 123 = .ok (.iload_n 3, 1) := by decide +kernel
theorem dX6_findBoth_124 : decode cX6_findBoth 124 = .ok (.iaload, 1) := by decide +kernel
theorem dX6_findBoth_125 : decode cX6_findBoth 125 = .ok (.iload_n 2, 1) := by decide +kernel
theorem dX6_findBoth_126 : decode cX6_findBoth 126 = .ok (.ishr, 1) := by decide +kernel
theorem dX6_findBoth_127 : decode cX6_findBoth 127 = .ok (.iand, 1) := by decide +kernel
theorem dX6_findBoth_128 : decode cX6_findBoth 128 = .ok (.iconst 1, 1) := by decide +kernel
theorem dX6_findBoth_129 : decode cX6_findBoth 129 = .ok (.iand, 1) := by decide +kernel
theorem dX6_findBoth_130 : decode cX6_findBoth 130 = .ok (.iadd, 1) := by decide +kernel
theorem dX6_findBoth_131 : decode cX6_findBoth 131 = .ok (.putfield 174, 3) := by decide +kernel
theorem dX6_findBoth_134 : decode cX6_findBoth 134 = .ok (.iinc 3 1, 3) := by decide +kernel
theorem dX6_findBoth_137 : decode cX6_findBoth 137 = .ok (.goto (-115), 3) := by decide +kernel
theorem dX6_findBoth_140 : decode cX6_findBoth 140 = .ok (.return_, 1) := by decide +kernel
set_option maxRecDepth 20000 in
theorem ggX6_isPair_X6_isDealer : GoodIn wsX6_isPair wsX6_isDealer := goodIn_r _ [4, 5, 6, 7, 3, 8] (by decide +kernel) (by decide +kernel)
end
section
set_option maxRecDepth 20000 in
theorem gX6_isPair_X6_isDealer : GoodIn wsX6_isPair (va_wsS RX6 140 yX6_isDealer wsX6_isDealer) := goodIn_app (goodIn_of _ (by decide +kernel)) ggX6_isPair_X6_isDealer
theorem dX6_isPair_0 : decode cX6_isPair 0 = .ok (.iload_n 0, 1) := by decide +kernel
theorem dX6_isPair_1 : decode cX6_isPair 1 = .ok (.invokestatic 140, 3) := by decide +kernel
theorem dX6_isPair_4 : decode cX6_isPair 4 = .ok (.ifCond .eq 19, 3) := by decide +kernel
theorem dX6_isPair_7 : decode cX6_isPair 7 = .ok (.iload_n 1, 1) := by decide +kernel
theorem dX6_isPair_8 : decode cX6_isPair 8 = .ok (.invokestatic 140, 3) := by decide +kernel
theorem dX6_isPair_11 : decode cX6_isPair 11 = .ok (.ifCond .eq 12, 3) := by decide +kernel
theorem dX6_isPair_14 : decode cX6_isPair 14 = .ok (.iload_n 0, 1) := by decide +kernel
theorem dX6_isPair_15 : decode cX6_isPair 15 = .ok (.iload_n 1, 1) := by decide +kernel
theorem dX6_isPair_16 : decode cX6_isPair 16 = .ok (.if_icmp .eq 7, 3) := by decide +kernel
theorem dX6_isPair_19 : decode cX6_isPair 19 = .ok (.iconst 1, 1) := by decide +kernel
theorem dX6_isPair_20 : decode cX6_isPair 20 = .ok (.goto 4, 3) := by decide +kernel
theorem dX6_isPair_23 : decode cX6_isPair 23 = .ok (.iconst 0, 1) := by decide +kernel
theorem dX6_isPair_24 : decode cX6_isPair 24 = .ok (.ireturn, 1) := by decide +kernel
set_option maxRecDepth 20000 in
theorem ggX6_both_X6_isPair : GoodIn wsX6_both wsX6_isPair := goodIn_r _ [9, 10, 11, 8, 12, 13, 14, 15, 16] (by decide +kernel) (by decide +kernel)
set_option maxRecDepth 20000 in
theorem gX6_both_X6_isPair : GoodIn wsX6_both (va_wsS RX6 177 yX6_isPair wsX6_isPair) := goodIn_app (goodIn_of _ (by decide +kernel)) ggX6_both_X6_isPair
set_option maxRecDepth 20000 in
theorem ggX6_both_X6_in : GoodIn wsX6_both wsX6_in := goodIn_r _ [16] (by decide +kernel) (by decide +kernel)
set_option maxRecDepth 20000 in
theorem gX6_both_X6_in : GoodIn wsX6_both (va_wsS RX6 92 yX6_in wsX6_in) := goodIn_app (goodIn_of _ (by decide +kernel)) ggX6_both_X6_in
set_option maxRecDepth 20000 in
theorem ggX6_both_X6_findBoth : GoodIn wsX6_both wsX6_findBoth := goodIn_r _ [20, 2, 3, 4, 5, 21, 22, 23, 24, 25, 26, 27, 28, 29, 30, 31, 32, 33, 34, 35, 36, 37, 38, 39, 40, 41, 42, 43, 44, 45, 46, 47, 48, 49, 50, 51, 52, 53, 54, 55, 56, 57, 58, 59, 60, 61] (by decide +kernel) (by decide +kernel)
set_option maxRecDepth 20000 in
theorem gX6_both_X6_findBoth : GoodIn wsX6_both (wsV RX6 183 RX6 yX6_findBoth wsX6_findBoth) := goodIn_app (goodIn_of _ (by decide +kernel)) ggX6_both_X6_findBoth
theorem dX6_both_0 : decode cX6_both 0 = .ok (.iload_n 1, 1) := by decide +kernel
theorem dX6_both_1 : decode cX6_both 1 = .ok (.iload_n 2, 1) := by decide +kernel
theorem dX6_both_2 : decode cX6_both 2 = .ok (.invokestatic 177, 3) := by decide +kernel
theorem dX6_both_5 : decode cX6_both 5 = .ok (.ifCond .eq 15, 3) := by decide +kernel
theorem dX6_both_8 : decode cX6_both 8 = .ok (.iload_n 3, 1) := by decide +kernel
theorem dX6_both_9 : decode cX6_both 9 = .ok (.i2l, 1) := by decide +kernel
theorem dX6_both_10 : decode cX6_both 10 = .ok (.lconst 0, 1) := by decide +kernel
theorem dX6_both_11 : decode cX6_both 11 = .ok (.ldc2_w 181, 3) := by decide +kernel
theorem dX6_both_14 : decode cX6_both 14 = .ok (.invokestatic 92, 3) := by decide +kernel
theorem dX6_both_17 : decode cX6_both 17 = .ok (.ifCond .ne 6, 3) := by decide +kernel
theorem dX6_both_20 : decode cX6_both 20 = .ok (.bipush (-2), 2) := by decide +kernel
theorem dX6_both_22 : decode cX6_both 22 = .ok (.ireturn, 1) := by decide +kernel
theorem dX6_both_23 : decode cX6_both 23 = .ok (.aload_n 0, 1) := by decide +kernel
theorem dX6_both_24 : decode cX6_both 24 = .ok (.iload_n 1, 1) := by decide +kernel
theorem dX6_both_25 : decode cX6_both 25 = .ok (.iload_n 2, 1) := by decide +kernel
theorem dX6_both_26 : decode cX6_both 26 = .ok (.invokevirtual 183, 3) := by decide +kernel
theorem dX6_both_29 : decode cX6_both 29 = .ok (.iload_n 3, 1) := by decide +kernel
theorem dX6_both_30 : decode cX6_both 30 = .ok (.ifCond .ne 10, 3) := by decide +kernel
theorem dX6_both_33 : decode cX6_both 33 = .ok (.aload_n 0, 1) := by decide +kernel
theorem dX6_both_34 : decode cX6_both 34 = .ok (.getfield 165, 3) := by decide +kernel
theorem dX6_both_37 : decode cX6_both 37 = .ok (.goto 31, 3) := by decide +kernel
theorem dX6_both_40 : decode cX6_both 40 = .ok (.iload_n 3, 1) := by decide +kernel
theorem dX6_both_41 : decode cX6_both 41 = .ok (.iconst 1, 1) := by decide +kernel
theorem dX6_both_42 : decode cX6_both 42 = .ok (.if_icmp .ne 10, 3) := by decide +kernel
theorem dX6_both_45 : decode cX6_both 45 = .ok (.aload_n 0, 1) := by decide +kernel
theorem dX6_both_46 : decode cX6_both 46 = .ok (.getfield 168, 3) := by decide +kernel
theorem dX6_both_49 : decode cX6_both 49 = .ok (.goto 19, 3) := by decide +kernel
theorem dX6_both_52 : decode cX6_both 52 = .ok (.iload_n 3, 1) := by decide +kernel
theorem dX6_both_53 : decode cX6_both 53 = .ok (.iconst 2, 1) := by decide +kernel
theorem dX6_both_54 : decode cX6_both 54 = .ok (.if_icmp .ne 10, 3) := by decide +kernel
theorem dX6_both_57 : decode cX6_both 57 = .ok (.aload_n 0, 1) := by decide +kernel
theorem dX6_both_58 : decode cX6_both 58 = .ok (.getfield 171, 3) := by decide +kernel
theorem dX6_both_61 : decode cX6_both 61 = .ok (.goto 7, 3) := by decide +kernel
theorem dX6_both_64 : decode cX6_both 64 = .ok (.aload_n 0, 1) := by decide +kernel
theorem dX6_both_65 : decode cX6_both 65 = .ok (.getfield 174, 3) := by decide +kernel
theorem dX6_both_68 : decode cX6_both 68 = .ok (.ireturn, 1) := by decide +kernel
set_option maxRecDepth 20000 in
theorem ggX6_choose_X6_in : GoodIn wsX6_choose wsX6_in := goodIn_r _ [5] (by decide +kernel) (by decide +kernel)
set_option maxRecDepth 20000 in
theorem gX6_choose_X6_in : GoodIn wsX6_choose (va_wsS RX6 92 yX6_in wsX6_in) := goodIn_app (goodIn_of _ (by decide +kernel)) ggX6_choose_X6_in
theorem dX6_choose_0 : decode cX6_choose 0 = .ok (.iload_n 2, 1) := by decide +kernel
theorem dX6_choose_1 : decode cX6_choose 1 = .ok (.i2l, 1) := by decide +kernel
theorem dX6_choose_2 : decode cX6_choose 2 = .ok (.lconst 0, 1) := by decide +kernel
theorem dX6_choose_3 : decode cX6_choose 3 = .ok (.iload_n 1, 1) := by decide +kernel
theorem dX6_choose_4 : decode cX6_choose 4 = .ok (.i2l, 1) := by decide +kernel
theorem dX6_choose_5 : decode cX6_choose 5 = .ok (.invokestatic 92, 3) := by decide +kernel
theorem dX6_choose_8 : decode cX6_choose 8 = .ok (.ifCond .eq 17, 3) := by decide +kernel
theorem dX6_choose_11 : decode cX6_choose 11 = .ok (.aload_n 0, 1) := by decide +kernel
theorem dX6_choose_12 : decode cX6_choose 12 = .ok (.getfield 71, 3) := by decide +kernel
theorem dX6_choose_15 : decode cX6_choose 15 = .ok (.bipush 41, 2) := by decide +kernel
theorem dX6_choose_17 : decode cX6_choose 17 = .ok (.iload_n 1, 1) := by decide +kernel
theorem dX6_choose_18 : decode cX6_choose 18 = .ok (.imul, 1) := by decide +kernel
theorem dX6_choose_19 : decode cX6_choose 19 = .ok (.iload_n 2, 1) := by decide +kernel
theorem dX6_choose_20 : decode cX6_choose 20 = .ok (.iadd, 1) := by decide +kernel
theorem dX6_choose_21 : decode cX6_choose 21 = .ok (.laload, 1) := by decide +kernel
theorem dX6_choose_22 : decode cX6_choose 22 = .ok (.goto 4, 3) := by decide +kernel
theorem dX6_choose_25 : decode cX6_choose 25 = .ok (.lconst 0, 1) := by decide +kernel
theorem dX6_choose_26 : decode cX6_choose 26 = .ok (.lreturn, 1) := by decide +kernel
theorem dX6_gcd_0 : decode cX6_gcd 0 = .ok (.lload_n 0, 1) := by decide +kernel
theorem dX6_gcd_1 : decode cX6_gcd 1 = .ok (.lstore 4, 2) := by decide +kernel
theorem dX6_gcd_3 : decode cX6_gcd 3 = .ok (.lload_n 2, 1) := by decide +kernel
theorem dX6_gcd_4 : decode cX6_gcd 4 = .ok (.lstore 6, 2) := by decide +kernel
theorem dX6_gcd_6 : decode cX6_gcd 6 = .ok (.lload 6, 2) := by decide +kernel
theorem dX6_gcd_8 : decode cX6_gcd 8 = .ok (.lconst 0, 1) := by decide +kernel
theorem dX6_gcd_9 : decode cX6_gcd 9 = .ok (.lcmp, 1) := by decide +kernel
theorem dX6_gcd_10 : decode cX6_gcd 10 = .ok (.ifCond .eq 21, 3) := by decide +kernel
theorem dX6_gcd_13 : decode cX6_gcd 13 = .ok (.lload 4, 2) := by decide +kernel
theorem dX6_gcd_15 : decode cX6_gcd 15 = .ok (.lload 6, 2) := by decide +kernel
theorem dX6_gcd_17 : decode cX6_gcd 17 = .ok (.lrem, 1) := by decide +kernel
theorem dX6_gcd_18 : decode cX6_gcd 18 = .ok (.lstore 8, 2) := by decide +kernel
theorem dX6_gcd_20 : decode cX6_gcd 20 = .ok (.lload 6, 2) := by decide +kernel
theorem dX6_gcd_22 : decode cX6_gcd 22 = .ok (.lstore 4, 2) := by decide +kernel
theorem dX6_gcd_24 : decode cX6_gcd 24 = .ok (.lload 8, 2) := by decide +kernel
theorem dX6_gcd_26 : decode cX6_gcd 26 = .ok (.lstore 6, 2) := by decide +kernel
theorem dX6_gcd_28 : decode cX6_gcd 28 = .ok (.goto (-22), 3) := by decide +kernel
theorem dX6_gcd_31 : decode cX6_gcd 31 = .ok (.lload 4, 2) := by decide +kernel
theorem dX6_gcd_33 : decode cX6_gcd 33 = .ok (.lreturn, 1) := by decide +kernel
set_option maxRecDepth 20000 in
theorem ggX6_findChance_X6_findBoth : GoodIn wsX6_findChance wsX6_findBoth := goodIn_r _ [11, 4, 3, 5, 2, 12, 13, 14, 26, 27, 28, 29, 30, 31, 32, 33, 34, 35, 36, 37, 38, 39, 40, 41, 42, 43, 44, 45, 46, 47, 48, 49, 50, 51, 52, 53, 54, 55, 56, 57, 58, 59, 60, 61, 62, 63] (by decide +kernel) (by decide +kernel)
set_option maxRecDepth 20000 in
theorem gX6_findChance_X6_findBoth : GoodIn wsX6_findChance (wsV RX6 183 RX6 yX6_findBoth wsX6_findBoth) := goodIn_app (goodIn_of _ (by decide +kernel)) ggX6_findChance_X6_findBoth
set_option maxRecDepth 20000 in
theorem ggX6_findChance_X6_choose : GoodIn wsX6_findChance wsX6_choose := goodIn_r _ [18, 19, 20, 21, 10, 22, 26, 27, 28, 29, 30, 31, 32, 33, 34, 35, 36, 37, 38, 39, 40, 41, 42, 43, 44, 45, 46, 47, 48, 49, 50, 51, 52, 53, 54, 55, 56, 57, 58, 59, 60, 61, 62, 63] (by decide +kernel) (by decide +kernel)
set_option maxRecDepth 20000 in
theorem gX6_findChance_X6_choose : GoodIn wsX6_findChance (wsV RX6 190 RX6 yX6_choose wsX6_choose) := goodIn_app (goodIn_of _ (by decide +kernel)) ggX6_findChance_X6_choose
set_option maxRecDepth 20000 in
theorem ggX6_findChance_X6_gcd : GoodIn wsX6_findChance wsX6_gcd := goodIn_r _ [25] (by decide +kernel) (by decide +kernel)
set_option maxRecDepth 20000 in
theorem gX6_findChance_X6_gcd : GoodIn wsX6_findChance (va_wsS RX6 197 yX6_gcd wsX6_gcd) := goodIn_app (goodIn_of _ (by decide +kernel)) ggX6_findChance_X6_gcd
theorem dX6_findChance_0 : decode cX6_findChance 0 = .ok (.aload_n 0, 1) := by decide +kernel
theorem dX6_findChance_1 : decode cX6_findChance 1 = .ok (.iload_n 1, 1) := by decide +kernel
theorem dX6_findChance_2 : decode cX6_findChance 2 = .ok (.iload_n 2, 1) := by decide +kernel
theorem dX6_findChance_3 : decode cX6_findChance 3 = .ok (.invokevirtual 183, 3) := by decide +kernel
theorem dX6_findChance_6 : decode cX6_findChance 6 = .ok (.aload_n 0, 1) := by decide +kernel
theorem dX6_findChance_7 : decode cX6_findChance 7 = .ok (.lconst 0, 1) := by decide +kernel
theorem dX6_findChance_8 : decode cX6_findChance 8 = .ok (.putfield 186, 3) := by decide +kernel
theorem dX6_findChance_11 : decode cX6_findChance 11 = .ok (.iconst 0, 1) := by decide +kernel
theorem dX6_findChance_12 : decode cX6_findChance 12 = .ok (.istore_n 3, 1) := by decide +kernel
theorem dX6_findChance_13 : decode cX6_findChance 13 = .ok (.iload_n 3, 1) := by decide +kernel
theorem dX6_findChance_14 : decode cX6_findChance 14 = .ok (.aload_n 0, 1) := by decide +kernel
theorem dX6_findChance_15 : decode cX6_findChance 15 = .ok (.getfield 174, 3) := by decide +kernel
theorem dX6_findChance_18 : decode cX6_findChance 18 = .ok (.if_icmp .gt 47, 3) := by decide +kernel
theorem dX6_findChance_21 : decode cX6_findChance 21 = .ok (.aload_n 0, 1) := by decide +kernel
theorem dX6_findChance_22 : decode cX6_findChance 22 = .ok (.dup, 1) := by decide +kernel
theorem dX6_findChance_23 : decode cX6_findChance 23 = .ok (.getfield 186, 3) := by decide +kernel
theorem dX6_findChance_26 : decode cX6_findChance 26 = .ok (.aload_n 0, 1) := by decide +kernel
theorem dX6_findChance_27 : decode cX6_findChance 27 = .ok (.aload_n 0, 1) := by decide +kernel
theorem dX6_findChance_28 : decode cX6_findChance 28 = .ok (.getfield 168, 3) := by decide +kernel
theorem dX6_findChance_31 : decode cX6_findChance 31 = .ok (.iload_n 3, 1) := by decide +kernel
theorem dX6_findChance_32 : decode cX6_findChance 32 = .ok (.invokevirtual 190, 3) := by decide +kernel
theorem dX6_findChance_35 : decode cX6_findChance 35 = .ok (.aload_n 0, 1) := by decide +kernel
theorem dX6_findChance_36 : decode cX6_findChance 36 = .ok (.aload_n 0, 1) := by decide +kernel
theorem dX6_findChance_37 : decode cX6_findChance 37 = .ok (.getfield 165, 3) := by decide +kernel
theorem dX6_findChance_40 : decode cX6_findChance 40 = .ok (.aload_n 0, 1) := by decide +kernel
theorem dX6_findChance_41 : decode cX6_findChance 41 = .ok (.getfield 168, 3) := by decide +kernel
theorem dX6_findChance_44 : decode cX6_findChance 44 = .ok (.isub, 1) := by decide +kernel
theorem dX6_findChance_45 : decode cX6_findChance 45 = .ok (.aload_n 0, 1) := by decide +kernel
theorem dX6_findChance_46 : decode cX6_findChance 46 = .ok (.getfield 171, 3) := by decide +kernel
theorem dX6_findChance_49 : decode cX6_findChance 49 = .ok (.iload_n 3, 1) := by decide +kernel
theorem dX6_findChance_50 : decode cX6_findChance 50 = .ok (.isub, 1) := by decide +kernel
theorem dX6_findChance_51 : decode cX6_findChance 51 = .ok (.invokevirtual 190, 3) := by decide +kernel
theorem dX6_findChance_54 : decode cX6_findChance 54 = .ok (.lmul, 1) := by decide +kernel
theorem dX6_findChance_55 : decode cX6_findChance 55 = .ok (.ladd, 1) := by decide +kernel
theorem dX6_findChance_56 : decode cX6_findChance 56 = .ok (.putfield 186, 3) := by decide +kernel
theorem dX6_findChance_59 : decode cX6_findChance 59 = .ok (.iinc 3 1, 3) := by decide +kernel
theorem dX6_findChance_62 : decode cX6_findChance 62 = .ok (.goto (-49), 3) := by decide +kernel
theorem dX6_findChance_65 : decode cX6_findChance 65 = .ok (.aload_n 0, 1) := by decide +kernel
theorem dX6_findChance_66 : decode cX6_findChance 66 = .ok (.aload_n 0, 1) := by decide +kernel
theorem dX6_findChance_67 : decode cX6_findChance 67 = .ok (.aload_n 0, 1) := by decide +kernel
theorem dX6_findChance_68 : decode cX6_findChance 68 = .ok (.getfield 165, 3) := by decide +kernel
theorem dX6_findChance_71 : decode cX6_findChance 71 = .ok (.aload_n 0, 1) := by decide +kernel
theorem dX6_findChance_72 : decode cX6_findChance 72 = .ok (.getfield 171, 3) := by decide +kernel
theorem dX6_findChance_75 : decode cX6_findChance 75 = .ok (.invokevirtual 190, 3) := by decide +kernel
theorem dX6_findChance_78 : decode cX6_findChance 78 = .ok (.putfield 194, 3) := by decide +kernel
theorem dX6_findChance_81 : decode cX6_findChance 81 = .ok (.aload_n 0, 1) := by decide +kernel
theorem dX6_findChance_82 : decode cX6_findChance 82 = .ok (.getfield 186, 3) := by decide +kernel
theorem dX6_findChance_85 : decode cX6_findChance 85 = .ok (.aload_n 0, 1) := by decide +kernel
theorem dX6_findChance_86 : decode cX6_findChance 86 = .ok (.getfield 194, 3) := by decide +kernel
theorem dX6_findChance_89 : decode cX6_findChance 89 = .ok (.invokestatic 197, 3) := by decide +kernel
theorem dX6_findChance_92 : decode cX6_findChance 92 = .ok (.lstore_n 3, 1) := by decide +kernel
theorem dX6_findChance_93 : decode cX6_findChance 93 = .ok (.aload_n 0, 1) := by decide +kernel
theorem dX6_findChance_94 : decode cX6_findChance 94 = .ok (.dup, 1) := by decide +kernel
theorem dX6_findChance_95 : decode cX6_findChance 95 = .ok (.getfield 186, 3) := by decide +kernel
theorem dX6_findChance_98 : decode cX6_findChance 98 = .ok (.lload_n 3, 1) := by decide +kernel
theorem dX6_findChance_99 : decode cX6_findChance 99 = .ok (.ldiv, 1) := by decide +kernel
theorem dX6_findChance_100 : decode cX6_findChance 100 = .ok (.putfield 186, 3) := by decide +kernel
theorem dX6_findChance_103 : decode cX6_findChance 103 = .ok (.aload_n 0, 1) := by decide +kernel
theorem dX6_findChance_104 : decode cX6_findChance 104 = .ok (.dup, 1) := by decide +kernel
theorem dX6_findChance_105 : decode cX6_findChance 105 = .ok (.getfield 194, 3) := by decide +kernel
theorem dX6_findChance_108 : decode cX6_findChance 108 = .ok (.lload_n 3, 1) := by decide +kernel
theorem dX6_findChance_109 : decode cX6_findChance 109 = .ok (.ldiv, 1) := by decide +kernel
theorem dX6_findChance_110 : decode cX6_findChance 110 = .ok (.putfield 194, 3) := by decide +kernel
theorem dX6_findChance_113 : decode cX6_findChance 113 = .ok (.return_, 1) := by decide +kernel
set_option maxRecDepth 20000 in
theorem ggX6_chance_X6_isPair : GoodIn wsX6_chance wsX6_isPair := goodIn_r _ [7, 8, 9, 6, 10, 11, 12, 13, 14] (by decide +kernel) (by decide +kernel)
set_option maxRecDepth 20000 in
theorem gX6_chance_X6_isPair : GoodIn wsX6_chance (va_wsS RX6 177 yX6_isPair wsX6_isPair) := goodIn_app (goodIn_of _ (by decide +kernel)) ggX6_chance_X6_isPair
set_option maxRecDepth 20000 in
theorem ggX6_chance_X6_in : GoodIn wsX6_chance wsX6_in := goodIn_r _ [14] (by decide +kernel) (by decide +kernel)
set_option maxRecDepth 20000 in
theorem gX6_chance_X6_in : GoodIn wsX6_chance (va_wsS RX6 92 yX6_in wsX6_in) := goodIn_app (goodIn_of _ (by decide +kernel)) ggX6_chance_X6_in
set_option maxRecDepth 20000 in
theorem ggX6_chance_X6_findChance : GoodIn wsX6_chance wsX6_findChance := goodIn_r _ [18, 2, 19, 20, 21, 22, 3, 23, 24, 25, 6, 26, 27, 28, 29, 30, 31, 32, 33, 34, 12, 13, 14, 35, 36, 37, 38, 39, 40, 41, 42, 43, 44, 45, 46, 47, 48, 49, 50, 51, 52, 53, 54, 55, 56, 57, 58, 59, 60, 61, 62, 63, 64, 65, 66, 67, 68, 69, 70, 71, 72, 73, 74, 75] (by decide +kernel) (by decide +kernel)
set_option maxRecDepth 20000 in
theorem gX6_chance_X6_findChance : GoodIn wsX6_chance (wsV RX6 203 RX6 yX6_findChance wsX6_findChance) := goodIn_app (goodIn_of _ (by decide +kernel)) ggX6_chance_X6_findChance
theorem dX6_chance_0 : decode cX6_chance 0 = .ok (.iload_n 1, 1) := by decide +kernel
theorem dX6_chance_1 : decode cX6_chance 1 = .ok (.iload_n 2, 1) := by decide +kernel
theorem dX6_chance_2 : decode cX6_chance 2 = .ok (.invokestatic 177, 3) := by decide +kernel
theorem dX6_chance_5 : decode cX6_chance 5 = .ok (.ifCond .eq 13, 3) := by decide +kernel
theorem dX6_chance_8 : decode cX6_chance 8 = .ok (.iload_n 3, 1) := by decide +kernel
theorem dX6_chance_9 : decode cX6_chance 9 = .ok (.i2l, 1) := by decide +kernel
theorem dX6_chance_10 : decode cX6_chance 10 = .ok (.lconst 0, 1) := by decide +kernel
theorem dX6_chance_11 : decode cX6_chance 11 = .ok (.lconst 1, 1) := by decide +kernel
theorem dX6_chance_12 : decode cX6_chance 12 = .ok (.invokestatic 92, 3) := by decide +kernel
theorem dX6_chance_15 : decode cX6_chance 15 = .ok (.ifCond .ne 7, 3) := by decide +kernel
theorem dX6_chance_18 : decode cX6_chance 18 = .ok (.ldc2_w 201, 3) := by decide +kernel
theorem dX6_chance_21 : decode cX6_chance 21 = .ok (.lreturn, 1) := by decide +kernel
theorem dX6_chance_22 : decode cX6_chance 22 = .ok (.aload_n 0, 1) := by decide +kernel
theorem dX6_chance_23 : decode cX6_chance 23 = .ok (.iload_n 1, 1) := by decide +kernel
theorem dX6_chance_24 : decode cX6_chance 24 = .ok (.iload_n 2, 1) := by decide +kernel
theorem dX6_chance_25 : decode cX6_chance 25 = .ok (.invokevirtual 203, 3) := by decide +kernel
theorem dX6_chance_28 : decode cX6_chance 28 = .ok (.iload_n 3, 1) := by decide +kernel
theorem dX6_chance_29 : decode cX6_chance 29 = .ok (.ifCond .ne 10, 3) := by decide +kernel
theorem dX6_chance_32 : decode cX6_chance 32 = .ok (.aload_n 0, 1) := by decide +kernel
theorem dX6_chance_33 : decode cX6_chance 33 = .ok (.getfield 186, 3) := by decide +kernel
theorem dX6_chance_36 : decode cX6_chance 36 = .ok (.goto 7, 3) := by decide +kernel
theorem dX6_chance_39 : decode cX6_chance 39 = .ok (.aload_n 0, 1) := by decide +kernel
theorem dX6_chance_40 : decode cX6_chance 40 = .ok (.getfield 194, 3) := by decide +kernel
theorem dX6_chance_43 : decode cX6_chance 43 = .ok (.lreturn, 1) := by decide +kernel
theorem dX6_isLess_0 : decode cX6_isLess 0 = .ok (.lload_n 0, 1) := by decide +kernel
theorem dX6_isLess_1 : decode cX6_isLess 1 = .ok (.lstore 8, 2) := by decide +kernel
theorem dX6_isLess_3 : decode cX6_isLess 3 = .ok (.lload_n 2, 1) := by decide +kernel
theorem dX6_isLess_4 : decode cX6_isLess 4 = .ok (.lstore 10, 2) := by decide +kernel
theorem dX6_isLess_6 : decode cX6_isLess 6 = .ok (.lload 4, 2) := by decide +kernel
theorem dX6_isLess_8 : decode cX6_isLess 8 = .ok (.lstore 12, 2) := by decide +kernel
theorem dX6_isLess_10 : decode cX6_isLess 10 = .ok (.lload 6, 2) := by decide +kernel
theorem dX6_isLess_12 : decode cX6_isLess 12 = .ok (.lstore 14, 2) := by decide +kernel
theorem dX6_isLess_14 : decode cX6_isLess 14 = .ok (.lload 8, 2) := by decide +kernel
theorem dX6_isLess_16 : decode cX6_isLess 16 = .ok (.lload 10, 2) := by decide +kernel
theorem dX6_isLess_18 : decode cX6_isLess 18 = .ok (.ldiv, 1) := by decide +kernel
theorem dX6_isLess_19 : decode cX6_isLess 19 = .ok (.lload 12, 2) := by decide +kernel
theorem dX6_isLess_21 : decode cX6_isLess 21 = .ok (.lload 14, 2) := by decide +kernel
theorem dX6_isLess_23 : decode cX6_isLess 23 = .ok (.ldiv, 1) := by decide +kernel
theorem dX6_isLess_24 : decode cX6_isLess 24 = .ok (.lcmp, 1) := by decide +kernel
theorem dX6_isLess_25 : decode cX6_isLess 25 = .ok (.ifCond .ne 74, 3) := by decide +kernel
theorem dX6_isLess_28 : decode cX6_isLess 28 = .ok (.lload 8, 2) := by decide +kernel
theorem dX6_isLess_30 : decode cX6_isLess 30 = .ok (.lload 10, 2) := by decide +kernel
theorem dX6_isLess_32 : decode cX6_isLess 32 = .ok (.lrem, 1) := by decide +kernel
theorem dX6_isLess_33 : decode cX6_isLess 33 = .ok (.lstore 16, 2) := by decide +kernel
theorem dX6_isLess_35 : decode cX6_isLess 35 = .ok (.lload 12, 2) := by decide +kernel
theorem dX6_isLess_37 : decode cX6_isLess 37 = .ok (.lload 14, 2) := by decide +kernel
theorem dX6_isLess_39 : decode cX6_isLess 39 = .ok (.lrem, 1) := by decide +kernel
theorem dX6_isLess_40 : decode cX6_isLess 40 = .ok (.lstore 18, 2) := by decide +kernel
theorem dX6_isLess_42 : decode cX6_isLess 42 = .ok (.lload 16, 2) := by decide +kernel
theorem dX6_isLess_44 : decode cX6_isLess 44 = .ok (.lconst 0, 1) := by decide +kernel
theorem dX6_isLess_45 : decode cX6_isLess 45 = .ok (.lcmp, 1) := by decide +kernel
theorem dX6_isLess_46 : decode cX6_isLess 46 = .ok (.ifCond .eq 10, 3) := by decide +kernel
theorem dX6_isLess_49 : decode cX6_isLess 49 = .ok (.lload 18, 2) := by decide +kernel
theorem dX6_isLess_51 : decode cX6_isLess 51 = .ok (.lconst 0, 1) := by decide +kernel
theorem dX6_isLess_52 : decode cX6_isLess 52 = .ok (.lcmp, 1) := by decide +kernel
theorem dX6_isLess_53 : decode cX6_isLess 53 = .ok (.ifCond .ne 23, 3) := by decide +kernel
theorem dX6_isLess_56 : decode cX6_isLess 56 = .ok (.lload 16, 2) := by decide +kernel
theorem dX6_isLess_58 : decode cX6_isLess 58 = .ok (.lconst 0, 1) := by decide +kernel
theorem dX6_isLess_59 : decode cX6_isLess 59 = .ok (.lcmp, 1) := by decide +kernel
theorem dX6_isLess_60 : decode cX6_isLess 60 = .ok (.ifCond .ne 14, 3) := by decide +kernel
theorem dX6_isLess_63 : decode cX6_isLess 63 = .ok (.lload 18, 2) := by decide +kernel
theorem dX6_isLess_65 : decode cX6_isLess 65 = .ok (.lconst 0, 1) := by decide +kernel
theorem dX6_isLess_66 : decode cX6_isLess 66 = .ok (.lcmp, 1) := by decide +kernel
theorem dX6_isLess_67 : decode cX6_isLess 67 = .ok (.ifCond .le 7, 3) := by decide +kernel
theorem dX6_isLess_70 : decode cX6_isLess 70 = .ok (.iconst 1, 1) := by decide +kernel
theorem dX6_isLess_71 : decode cX6_isLess 71 = .ok (.goto 4, 3) := by decide +kernel
theorem dX6_isLess_74 : decode cX6_isLess 74 = .ok (.iconst 0, 1) := by decide +kernel
theorem dX6_isLess_75 : decode cX6_isLess 75 = .ok (.ireturn, 1) := by decide +kernel
theorem dX6_isLess_76 : decode cX6_isLess 76 = .ok (.lload 14, 2) := by decide +kernel
theorem dX6_isLess_78 : decode cX6_isLess 78 = .ok (.lstore 8, 2) := by decide +kernel
theorem dX6_isLess_80 : decode cX6_isLess 80 = .ok (.lload 16, 2) := by decide +kernel
theorem dX6_isLess_82 : decode cX6_isLess 82 = .ok (.lstore 14, 2) := by decide +kernel
theorem dX6_isLess_84 : decode cX6_isLess 84 = .ok (.lload 10, 2) := by decide +kernel
theorem dX6_isLess_86 : decode cX6_isLess 86 = .ok (.lstore 20, 2) := by decide +kernel
theorem dX6_isLess_88 : decode cX6_isLess 88 = .ok (.lload 18, 2) := by decide +kernel
theorem dX6_isLess_90 : decode cX6_isLess 90 = .ok (.lstore 10, 2) := by decide +kernel
theorem dX6_isLess_92 : decode cX6_isLess 92 = .ok (.lload 20, 2) := by decide +kernel
theorem dX6_isLess_94 : decode cX6_isLess 94 = .ok (.lstore 12, 2) := by decide +kernel
theorem dX6_isLess_96 : decode cX6_isLess 96 = .ok (.goto (-82), 3) := by decide +kernel
theorem dX6_isLess_99 : decode cX6_isLess 99 = .ok (.lload 8, 2) := by decide +kernel
theorem dX6_isLess_101 : decode cX6_isLess 101 = .ok (.lload 10, 2) := by decide +kernel
theorem dX6_isLess_103 : decode cX6_isLess 103 = .ok (.ldiv, 1) := by decide +kernel
theorem dX6_isLess_104 : decode cX6_isLess 104 = .ok (.lload 12, 2) := by decide +kernel
theorem dX6_isLess_106 : decode cX6_isLess 106 = .ok (.lload 14, 2) := by decide +kernel
theorem dX6_isLess_108 : decode cX6_isLess 108 = .ok (.ldiv, 1) := by decide +kernel
theorem dX6_isLess_109 : decode cX6_isLess 109 = .ok (.lcmp, 1) := by decide +kernel
theorem dX6_isLess_110 : decode cX6_isLess 110 = .ok (.ifCond .ge 7, 3) := by decide +kernel
theorem dX6_isLess_113 : decode cX6_isLess 113 = .ok (.iconst 1, 1) := by decide +kernel
theorem dX6_isLess_114 : decode cX6_isLess 114 = .ok (.goto 4, 3) := by decide +kernel
theorem dX6_isLess_117 : decode cX6_isLess 117 = .ok (.iconst 0, 1) := by decide +kernel
theorem dX6_isLess_118 : decode cX6_isLess 118 = .ok (.ireturn, 1) := by decide +kernel
set_option maxRecDepth 20000 in
theorem ggX6_shyest_X6_findChance : GoodIn wsX6_shyest wsX6_findChance := goodIn_r _ [7, 1, 8, 9, 10, 11, 2, 12, 13, 14, 6, 15, 16, 17, 18, 19, 20, 21, 22, 23, 24, 25, 26, 27, 28, 29, 33, 34, 35, 36, 37, 38, 39, 40, 41, 42, 43, 44, 45, 46, 47, 48, 49, 50, 51, 52, 53, 54, 55, 56, 57, 58, 59, 60, 61, 62, 63, 64, 65, 66, 67, 68, 69, 70] (by decide +kernel) (by decide +kernel)
set_option maxRecDepth 20000 in
theorem gX6_shyest_X6_findChance : GoodIn wsX6_shyest (wsV RX6 203 RX6 yX6_findChance wsX6_findChance) := goodIn_app (goodIn_of _ (by decide +kernel)) ggX6_shyest_X6_findChance
set_option maxRecDepth 20000 in
theorem ggX6_shyest_X6_isLess : GoodIn wsX6_shyest wsX6_isLess := goodIn_r _ [32] (by decide +kernel) (by decide +kernel)
set_option maxRecDepth 20000 in
theorem gX6_shyest_X6_isLess : GoodIn wsX6_shyest (va_wsS RX6 206 yX6_isLess wsX6_isLess) := goodIn_app (goodIn_of _ (by decide +kernel)) ggX6_shyest_X6_isLess
theorem dX6_shyest_0 : decode cX6_shyest 0 = .ok (.iconst (-1), 1) := by decide +kernel
theorem dX6_shyest_1 : decode cX6_shyest 1 = .ok (.istore_n 1, 1) := by decide +kernel
theorem dX6_shyest_2 : decode cX6_shyest 2 = .ok (.lconst 0, 1) := by decide +kernel
theorem dX6_shyest_3 : decode cX6_shyest 3 = .ok (.lstore_n 2, 1) := by decide +kernel
theorem dX6_shyest_4 : decode cX6_shyest 4 = .ok (.lconst 1, 1) := by decide +kernel
theorem dX6_shyest_5 : decode cX6_shyest 5 = .ok (.lstore 4, 2) := by decide +kernel
theorem dX6_shyest_7 : decode cX6_shyest 7 = .ok (.iconst 0, 1) := by decide +kernel
theorem dX6_shyest_8 : decode cX6_shyest 8 = .ok (.istore 6, 2) := by decide +kernel
theorem dX6_shyest_10 : decode cX6_shyest 10 = .ok (.iload 6, 2) := by decide +kernel
theorem dX6_shyest_12 : decode cX6_shyest 12 = .ok (.bipush 8, 2) := by decide +kernel
theorem dX6_shyest_14 : decode cX6_shyest 14 = .ok (.if_icmp .ge 77, 3) := by decide +kernel
theorem dX6_shyest_17 : decode cX6_shyest 17 = .ok (.iload 6, 2) := by decide +kernel
theorem dX6_shyest_19 : decode cX6_shyest 19 = .ok (.iconst 1, 1) := by decide +kernel
theorem dX6_shyest_20 : decode cX6_shyest 20 = .ok (.iadd, 1) := by decide +kernel
theorem dX6_shyest_21 : decode cX6_shyest 21 = .ok (.istore 7, 2) := by decide +kernel
theorem dX6_shyest_23 : decode cX6_shyest 23 = .ok (.iload 7, 2) := by decide +kernel
theorem dX6_shyest_25 : decode cX6_shyest 25 = .ok (.bipush 8, 2) := by decide +kernel
theorem dX6_shyest_27 : decode cX6_shyest 27 = .ok (.if_icmp .ge 58, 3) := by decide +kernel
theorem dX6_shyest_30 : decode cX6_shyest 30 = .ok (.aload_n 0, 1) := by decide +kernel
theorem dX6_shyest_31 : decode cX6_shyest 31 = .ok (.iload 6, 2) := by decide +kernel
theorem dX6_shyest_33 : decode cX6_shyest 33 = .ok (.iload 7, 2) := by decide +kernel
theorem dX6_shyest_35 : decode cX6_shyest 35 = .ok (.invokevirtual 203, 3) := by decide +kernel
theorem dX6_shyest_38 : decode cX6_shyest 38 = .ok (.iload_n 1, 1) := by decide +kernel
theorem dX6_shyest_39 : decode cX6_shyest 39 = .ok (.ifCond .lt 20, 3) := by decide +kernel
theorem dX6_shyest_42 : decode cX6_shyest 42 = .ok (.aload_n 0, 1) := by decide +kernel
theorem dX6_shyest_43 : decode cX6_shyest 43 = .ok (.getfield 186, 3) := by decide +kernel
theorem dX6_shyest_46 : decode cX6_shyest 46 = .ok (.aload_n 0, 1) := by decide +kernel
theorem dX6_shyest_47 : decode cX6_shyest 47 = .ok (.getfield 194, 3) := by decide +kernel
theorem dX6_shyest_50 : decode cX6_shyest 50 = .ok (.lload_n 2, 1) := by decide +kernel
theorem dX6_shyest_51 : decode cX6_shyest 51 = .ok (.lload 4, 2) := by decide +kernel
theorem dX6_shyest_53 : decode cX6_shyest 53 = .ok (.invokestatic 206, 3) := by decide +kernel
theorem dX6_shyest_56 : decode cX6_shyest 56 = .ok (.ifCond .eq 23, 3) := by decide +kernel
theorem dX6_shyest_59 : decode cX6_shyest 59 = .ok (.bipush 8, 2) := by decide +kernel
theorem dX6_shyest_61 : decode cX6_shyest 61 = .ok (.iload 6, 2) := by decide +kernel
theorem dX6_shyest_63 : decode cX6_shyest 63 = .ok (.imul, 1) := by decide +kernel
theorem dX6_shyest_64 : decode cX6_shyest 64 = .ok (.iload 7, 2) := by decide +kernel
theorem dX6_shyest_66 : decode cX6_shyest 66 = .ok (.iadd, 1) := by decide +kernel
theorem dX6_shyest_67 : decode cX6_shyest 67 = .ok (.istore_n 1, 1) := by decide +kernel
theorem dX6_shyest_68 : decode cX6_shyest 68 = .ok (.aload_n 0, 1) := by decide +kernel
theorem dX6_shyest_69 : decode cX6_shyest 69 = .ok (.getfield 186, 3) := by decide +kernel
theorem dX6_shyest_72 : decode cX6_shyest 72 = .ok (.lstore_n 2, 1) := by decide +kernel
theorem dX6_shyest_73 : decode cX6_shyest 73 = .ok (.aload_n 0, 1) := by decide +kernel
theorem dX6_shyest_74 : decode cX6_shyest 74 = .ok (.getfield 194, 3) := by decide +kernel
theorem dX6_shyest_77 : decode cX6_shyest 77 = .ok (.lstore 4, 2) := by decide +kernel
theorem dX6_shyest_79 : decode cX6_shyest 79 = .ok (.iinc 7 1, 3) := by decide +kernel
theorem dX6_shyest_82 : decode cX6_shyest 82 = .ok (.goto (-59), 3) := by decide +kernel
theorem dX6_shyest_85 : decode cX6_shyest 85 = .ok (.iinc 6 1, 3) := by decide +kernel
theorem dX6_shyest_88 : decode cX6_shyest 88 = .ok (.goto (-78), 3) := by decide +kernel
theorem dX6_shyest_91 : decode cX6_shyest 91 = .ok (.iload_n 1, 1) := by decide +kernel
theorem dX6_shyest_92 : decode cX6_shyest 92 = .ok (.ireturn, 1) := by decide +kernel
set_option maxRecDepth 20000 in
theorem ggX6_inside_X6_in : GoodIn wsX6_inside wsX6_in := goodIn_r _ [6] (by decide +kernel) (by decide +kernel)
set_option maxRecDepth 20000 in
theorem gX6_inside_X6_in : GoodIn wsX6_inside (va_wsS RX6 92 yX6_in wsX6_in) := goodIn_app (goodIn_of _ (by decide +kernel)) ggX6_inside_X6_in
set_option maxRecDepth 20000 in
theorem ggX6_inside_X6_bits : GoodIn wsX6_inside wsX6_bits := goodIn_r _ [9] (by decide +kernel) (by decide +kernel)
set_option maxRecDepth 20000 in
theorem gX6_inside_X6_bits : GoodIn wsX6_inside (va_wsS RX6 126 yX6_bits wsX6_bits) := goodIn_app (goodIn_of _ (by decide +kernel)) ggX6_inside_X6_bits
theorem dX6_inside_0 : decode cX6_inside 0 = .ok (.iload_n 1, 1) := by decide +kernel
theorem dX6_inside_1 : decode cX6_inside 1 = .ok (.i2l, 1) := by decide +kernel
theorem dX6_inside_2 : decode cX6_inside 2 = .ok (.lconst 0, 1) := by decide +kernel
theorem dX6_inside_3 : decode cX6_inside 3 = .ok (.ldc2_w 160, 3) := by decide +kernel
theorem dX6_inside_6 : decode cX6_inside 6 = .ok (.invokestatic 92, 3) := by decide +kernel
theorem dX6_inside_9 : decode cX6_inside 9 = .ok (.ifCond .eq 47, 3) := by decide +kernel
theorem dX6_inside_12 : decode cX6_inside 12 = .ok (.iload_n 1, 1) := by decide +kernel
theorem dX6_inside_13 : decode cX6_inside 13 = .ok (.invokestatic 126, 3) := by decide +kernel
theorem dX6_inside_16 : decode cX6_inside 16 = .ok (.iconst 2, 1) := by decide +kernel
theorem dX6_inside_17 : decode cX6_inside 17 = .ok (.if_icmp .lt 39, 3) := by decide +kernel
theorem dX6_inside_20 : decode cX6_inside 20 = .ok (.iload_n 2, 1) := by decide +kernel
theorem dX6_inside_21 : decode cX6_inside 21 = .ok (.i2l, 1) := by decide +kernel
theorem dX6_inside_22 : decode cX6_inside 22 = .ok (.lconst 0, 1) := by decide +kernel
theorem dX6_inside_23 : decode cX6_inside 23 = .ok (.ldc2_w 143, 3) := by decide +kernel
theorem dX6_inside_26 : decode cX6_inside 26 = .ok (.invokestatic 92, 3) := by decide +kernel
theorem dX6_inside_29 : decode cX6_inside 29 = .ok (.ifCond .eq 27, 3) := by decide +kernel
theorem dX6_inside_32 : decode cX6_inside 32 = .ok (.iload_n 3, 1) := by decide +kernel
theorem dX6_inside_33 : decode cX6_inside 33 = .ok (.i2l, 1) := by decide +kernel
theorem dX6_inside_34 : decode cX6_inside 34 = .ok (.iload_n 2, 1) := by decide +kernel
theorem dX6_inside_35 : decode cX6_inside 35 = .ok (.i2l, 1) := by decide +kernel
theorem dX6_inside_36 : decode cX6_inside 36 = .ok (.ldc2_w 143, 3) := by decide +kernel
theorem dX6_inside_39 : decode cX6_inside 39 = .ok (.invokestatic 92, 3) := by decide +kernel
theorem dX6_inside_42 : decode cX6_inside 42 = .ok (.ifCond .eq 14, 3) := by decide +kernel
theorem dX6_inside_45 : decode cX6_inside 45 = .ok (.iload 4, 2) := by decide +kernel
theorem dX6_inside_47 : decode cX6_inside 47 = .ok (.i2l, 1) := by decide +kernel
theorem dX6_inside_48 : decode cX6_inside 48 = .ok (.lconst 0, 1) := by decide +kernel
theorem dX6_inside_49 : decode cX6_inside 49 = .ok (.lconst 1, 1) := by decide +kernel
theorem dX6_inside_50 : decode cX6_inside 50 = .ok (.invokestatic 92, 3) := by decide +kernel
theorem dX6_inside_53 : decode cX6_inside 53 = .ok (.ifCond .ne 6, 3) := by decide +kernel
theorem dX6_inside_56 : decode cX6_inside 56 = .ok (.bipush (-2), 2) := by decide +kernel
theorem dX6_inside_58 : decode cX6_inside 58 = .ok (.ireturn, 1) := by decide +kernel
theorem dX6_inside_59 : decode cX6_inside 59 = .ok (.iload_n 3, 1) := by decide +kernel
theorem dX6_inside_60 : decode cX6_inside 60 = .ok (.iload_n 2, 1) := by decide +kernel
theorem dX6_inside_61 : decode cX6_inside 61 = .ok (.isub, 1) := by decide +kernel
theorem dX6_inside_62 : decode cX6_inside 62 = .ok (.iload_n 1, 1) := by decide +kernel
theorem dX6_inside_63 : decode cX6_inside 63 = .ok (.invokestatic 126, 3) := by decide +kernel
theorem dX6_inside_66 : decode cX6_inside 66 = .ok (.idiv, 1) := by decide +kernel
theorem dX6_inside_67 : decode cX6_inside 67 = .ok (.istore 5, 2) := by decide +kernel
theorem dX6_inside_69 : decode cX6_inside 69 = .ok (.iload 4, 2) := by decide +kernel
theorem dX6_inside_71 : decode cX6_inside 71 = .ok (.ifCond .ne 8, 3) := by decide +kernel
theorem dX6_inside_74 : decode cX6_inside 74 = .ok (.iload 5, 2) := by decide +kernel
theorem dX6_inside_76 : decode cX6_inside 76 = .ok (.goto 16, 3) := by decide +kernel
theorem dX6_inside_79 : decode cX6_inside 79 = .ok (.iload_n 3, 1) := by decide +kernel
theorem dX6_inside_80 : decode cX6_inside 80 = .ok (.iload_n 2, 1) := by decide +kernel
theorem dX6_inside_81 : decode cX6_inside 81 = .ok (.isub, 1) := by decide +kernel
theorem dX6_inside_82 : decode cX6_inside 82 = .ok (.iload 5, 2) := by decide +kernel
theorem dX6_inside_84 : decode cX6_inside 84 = .ok (.iload_n 1, 1) := by decide +kernel
theorem dX6_inside_85 : decode cX6_inside 85 = .ok (.invokestatic 126, 3) := by decide +kernel
theorem dX6_inside_88 : decode cX6_inside 88 = .ok (.iconst 1, 1) := by decide +kernel
theorem dX6_inside_89 : decode cX6_inside 89 = .ok (.isub, 1) := by decide +kernel
theorem dX6_inside_90 : decode cX6_inside 90 = .ok (.imul, 1) := by decide +kernel
theorem dX6_inside_91 : decode cX6_inside 91 = .ok (.isub, 1) := by decide +kernel
theorem dX6_inside_92 : decode cX6_inside 92 = .ok (.ireturn, 1) := by decide +kernel
set_option maxRecDepth 20000 in
theorem ggX6_entry_X6_in : GoodIn wsX6_entry wsX6_in := goodIn_r _ [7] (by decide +kernel) (by decide +kernel)
set_option maxRecDepth 20000 in
theorem gX6_entry_X6_in : GoodIn wsX6_entry (va_wsS RX6 92 yX6_in wsX6_in) := goodIn_app (goodIn_of _ (by decide +kernel)) ggX6_entry_X6_in
theorem dX6_entry_0 : decode cX6_entry 0 = .ok (.iload_n 1, 1) := by decide +kernel
theorem dX6_entry_1 : decode cX6_entry 1 = .ok (.i2l, 1) := by decide +kernel
theorem dX6_entry_2 : decode cX6_entry 2 = .ok (.lconst 0, 1) := by decide +kernel
theorem dX6_entry_3 : decode cX6_entry 3 = .ok (.ldc2_w 210, 3) := by decide +kernel
theorem dX6_entry_6 : decode cX6_entry 6 = .ok (.invokestatic 92, 3) := by decide +kernel
theorem dX6_entry_9 : decode cX6_entry 9 = .ok (.ifCond .ne 6, 3) := by decide +kernel
theorem dX6_entry_12 : decode cX6_entry 12 = .ok (.bipush (-2), 2) := by decide +kernel
theorem dX6_entry_14 : decode cX6_entry 14 = .ok (.ireturn, 1) := by decide +kernel
theorem dX6_entry_15 : decode cX6_entry 15 = .ok (.aload_n 0, 1) := by decide +kernel
theorem dX6_entry_16 : decode cX6_entry 16 = .ok (.getfield 212, 3) := by decide +kernel
theorem dX6_entry_19 : decode cX6_entry 19 = .ok (.bipush 10, 2) := by decide +kernel
theorem dX6_entry_21 : decode cX6_entry 21 = .ok (.if_icmp .ne 6, 3) := by decide +kernel
theorem dX6_entry_24 : decode cX6_entry 24 = .ok (.bipush (-4), 2) := by decide +kernel
theorem dX6_entry_26 : decode cX6_entry 26 = .ok (.ireturn, 1) := by decide +kernel
theorem dX6_entry_27 : decode cX6_entry 27 = .ok (.aload_n 0, 1) := by decide +kernel
theorem dX6_entry_28 : decode cX6_entry 28 = .ok (.getfield 75, 3) := by decide +kernel
theorem dX6_entry_31 : decode cX6_entry 31 = .ok (.aload_n 0, 1) := by decide +kernel
theorem dX6_entry_32 : decode cX6_entry 32 = .ok (.getfield 212, 3) := by decide +kernel
theorem dX6_entry_35 : decode cX6_entry 35 = .ok (.iload_n 1, 1) := by decide +kernel
theorem dX6_entry_36 : decode cX6_entry 36 = .ok (.iastore, 1) := by decide +kernel
theorem dX6_entry_37 : decode cX6_entry 37 = .ok (.aload_n 0, 1) := by decide +kernel
theorem dX6_entry_38 : decode cX6_entry 38 = .ok (.dup, 1) := by decide +kernel
theorem dX6_entry_39 : decode cX6_entry 39 = .ok (.getfield 212, 3) := by decide +kernel
theorem dX6_entry_42 : decode cX6_entry 42 = .ok (.iconst 1, 1) := by decide +kernel
theorem dX6_entry_43 : decode cX6_entry 43 = .ok (.iadd, 1) := by decide +kernel
theorem dX6_entry_44 : decode cX6_entry 44 = .ok (.putfield 212, 3) := by decide +kernel
theorem dX6_entry_47 : decode cX6_entry 47 = .ok (.aload_n 0, 1) := by decide +kernel
theorem dX6_entry_48 : decode cX6_entry 48 = .ok (.getfield 212, 3) := by decide +kernel
theorem dX6_entry_51 : decode cX6_entry 51 = .ok (.iconst 1, 1) := by decide +kernel
theorem dX6_entry_52 : decode cX6_entry 52 = .ok (.isub, 1) := by decide +kernel
theorem dX6_entry_53 : decode cX6_entry 53 = .ok (.ireturn, 1) := by decide +kernel
set_option maxRecDepth 20000 in
theorem ggX6_mark_X6_noThing : GoodIn wsX6_mark wsX6_noThing := goodIn_r _ [9, 10, 11, 12, 8, 13, 14, 15, 16, 17, 18, 19, 20, 21, 22, 23, 24, 25, 26, 27, 28, 29, 30, 31, 32, 33, 34, 35, 36, 37, 38, 39, 40, 41, 42, 43, 44, 45, 46, 47, 48, 49, 50, 51] (by decide +kernel) (by decide +kernel)
set_option maxRecDepth 20000 in
theorem gX6_mark_X6_noThing : GoodIn wsX6_mark (wsV RX6 107 RX6 yX6_noThing wsX6_noThing) := goodIn_app (goodIn_of _ (by decide +kernel)) ggX6_mark_X6_noThing
set_option maxRecDepth 20000 in
theorem ggX6_mark_X6_in : GoodIn wsX6_mark wsX6_in := goodIn_r _ [13] (by decide +kernel) (by decide +kernel)
set_option maxRecDepth 20000 in
theorem gX6_mark_X6_in : GoodIn wsX6_mark (va_wsS RX6 92 yX6_in wsX6_in) := goodIn_app (goodIn_of _ (by decide +kernel)) ggX6_mark_X6_in
theorem dX6_mark_0 : decode cX6_mark 0 = .ok (.aload_n 0, 1) := by decide +kernel
theorem dX6_mark_1 : decode cX6_mark 1 = .ok (.iload_n 1, 1) := by decide +kernel
theorem dX6_mark_2 : decode cX6_mark 2 = .ok (.invokevirtual 107, 3) := by decide +kernel
theorem dX6_mark_5 : decode cX6_mark 5 = .ok (.ifCond .ne 27, 3) := by decide +kernel
theorem dX6_mark_8 : decode cX6_mark 8 = .ok (.iload_n 2, 1) := by decide +kernel
theorem dX6_mark_9 : decode cX6_mark 9 = .ok (.i2l, 1) := by decide +kernel
theorem dX6_mark_10 : decode cX6_mark 10 = .ok (.lconst 0, 1) := by decide +kernel
theorem dX6_mark_11 : decode cX6_mark 11 = .ok (.ldc2_w 215, 3) := by decide +kernel
theorem dX6_mark_14 : decode cX6_mark 14 = .ok (.invokestatic 92, 3) := by decide +kernel
theorem dX6_mark_17 : decode cX6_mark 17 = .ok (.ifCond .eq 15, 3) := by decide +kernel
theorem dX6_mark_20 : decode cX6_mark 20 = .ok (.iload_n 3, 1) := by decide +kernel
theorem dX6_mark_21 : decode cX6_mark 21 = .ok (.i2l, 1) := by decide +kernel
theorem dX6_mark_22 : decode cX6_mark 22 = .ok (.lconst 0, 1) := by decide +kernel
theorem dX6_mark_23 : decode cX6_mark 23 = .ok (.ldc2_w 217, 3) := by decide +kernel
theorem dX6_mark_26 : decode cX6_mark 26 = .ok (.invokestatic 92, 3) := by decide +kernel
theorem dX6_mark_29 : decode cX6_mark 29 = .ok (.ifCond .ne 6, 3) := by decide +kernel
theorem dX6_mark_32 : decode cX6_mark 32 = .ok (.bipush (-2), 2) := by decide +kernel
theorem dX6_mark_34 : decode cX6_mark 34 = .ok (.ireturn, 1) := by decide +kernel
theorem dX6_mark_35 : decode cX6_mark 35 = .ok (.aload_n 0, 1) := by decide +kernel
theorem dX6_mark_36 : decode cX6_mark 36 = .ok (.getfield 28, 3) := by decide +kernel
theorem dX6_mark_39 : decode cX6_mark 39 = .ok (.iload_n 1, 1) := by decide +kernel
theorem dX6_mark_40 : decode cX6_mark 40 = .ok (.iaload, 1) := by decide +kernel
theorem dX6_mark_41 : decode cX6_mark 41 = .ok (.iload_n 2, 1) := by decide +kernel
theorem dX6_mark_42 : decode cX6_mark 42 = .ok (.ishr, 1) := by decide +kernel
theorem dX6_mark_43 : decode cX6_mark 43 = .ok (.iconst 1, 1) := by decide +kernel
theorem dX6_mark_44 : decode cX6_mark 44 = .ok (.iand, 1) := by decide +kernel
theorem dX6_mark_45 : decode cX6_mark 45 = .ok (.iconst 2, 1) := by decide +kernel
theorem dX6_mark_46 : decode cX6_mark 46 = .ok (.aload_n 0, 1) := by decide +kernel
theorem dX6_mark_47 : decode cX6_mark 47 = .ok (.getfield 31, 3) := by decide +kernel
theorem dX6_mark_50 : decode cX6_mark 50 = .ok (.iload_n 1, 1) := by decide +kernel
theorem dX6_mark_51 : decode cX6_mark 51 = .ok (.iaload, 1) := by decide +kernel
theorem dX6_mark_52 : decode cX6_mark 52 = .ok (.iload_n 2, 1) := by decide +kernel
theorem dX6_mark_53 : decode cX6_mark 53 = .ok (.ishr, 1) := by decide +kernel
theorem dX6_mark_54 : decode cX6_mark 54 = .ok (.iconst 1, 1) := by decide +kernel
theorem dX6_mark_55 : decode cX6_mark 55 = .ok (.iand, 1) := by decide +kernel
theorem dX6_mark_56 : decode cX6_mark 56 = .ok (.imul, 1) := by decide +kernel
theorem dX6_mark_57 : decode cX6_mark 57 = .ok (.iadd, 1) := by decide +kernel
theorem dX6_mark_58 : decode cX6_mark 58 = .ok (.istore 4, 2) := by decide +kernel
theorem dX6_mark_60 : decode cX6_mark 60 = .ok (.aload_n 0, 1) := by decide +kernel
theorem dX6_mark_61 : decode cX6_mark 61 = .ok (.getfield 28, 3) := by decide +kernel
theorem dX6_mark_64 : decode cX6_mark 64 = .ok (.iload_n 1, 1) := by decide +kernel
theorem dX6_mark_65 : decode cX6_mark 65 = .ok (.aload_n 0, 1) := by decide +kernel
theorem dX6_mark_66 : decode cX6_mark 66 = .ok (.getfield 28, 3) := by decide +kernel
theorem dX6_mark_69 : decode cX6_mark 69 = .ok (.iload_n 1, 1) := by decide +kernel
theorem dX6_mark_70 : decode cX6_mark 70 = .ok (.iaload, 1) := by decide +kernel
theorem dX6_mark_71 : decode cX6_mark 71 = .ok (.iconst 1, 1) := by decide +kernel
theorem dX6_mark_72 : decode cX6_mark 72 = .ok (.iload_n 2, 1) := by decide +kernel
theorem dX6_mark_73 : decode cX6_mark 73 = .ok (.ishl, 1) := by decide +kernel
theorem dX6_mark_74 : decode cX6_mark 74 = .ok (.iconst (-1), 1) := by decide +kernel
theorem dX6_mark_75 : decode cX6_mark 75 = .ok (.ixor, 1) := by decide +kernel
theorem dX6_mark_76 : decode cX6_mark 76 = .ok (.iand, 1) := by decide +kernel
theorem dX6_mark_77 : decode cX6_mark 77 = .ok (.iload_n 3, 1) := by decide +kernel
theorem dX6_mark_78 : decode cX6_mark 78 = .ok (.iconst 1, 1) := by decide +kernel
theorem dX6_mark_79 : decode cX6_mark 79 = .ok (.if_icmp .ne 9, 3) := by decide +kernel
theorem dX6_mark_82 : decode cX6_mark 82 = .ok (.iconst 1, 1) := by decide +kernel
theorem dX6_mark_83 : decode cX6_mark 83 = .ok (.iload_n 2, 1) := by decide +kernel
theorem dX6_mark_84 : decode cX6_mark 84 = .ok (.ishl, 1) := by decide +kernel
theorem dX6_mark_85 : decode cX6_mark 85 = .ok (.goto 4, 3) := by decide +kernel
theorem dX6_mark_88 : decode cX6_mark 88 = .ok (.iconst 0, 1) := by decide +kernel
theorem dX6_mark_89 : decode cX6_mark 89 = .ok (.ior, 1) := by decide +kernel
theorem dX6_mark_90 : decode cX6_mark 90 = .ok (.iastore, 1) := by decide +kernel
theorem dX6_mark_91 : decode cX6_mark 91 = .ok (.aload_n 0, 1) := by decide +kernel
theorem dX6_mark_92 : decode cX6_mark 92 = .ok (.getfield 31, 3) := by decide +kernel
theorem dX6_mark_95 : decode cX6_mark 95 = .ok (.iload_n 1, 1) := by decide +kernel
theorem dX6_mark_96 : decode cX6_mark 96 = .ok (.aload_n 0, 1) := by decide +kernel
theorem dX6_mark_97 : decode cX6_mark 97 = .ok (.getfield 31, 3) := by decide +kernel
theorem dX6_mark_100 : decode cX6_mark 100 = .ok (.iload_n 1, 1) := by decide +kernel
theorem dX6_mark_101 : decode cX6_mark 101 = .ok (.iaload, 1) := by decide +kernel
theorem dX6_mark_102 : decode cX6_mark 102 = .ok (.iconst 1, 1) := by decide +kernel
theorem dX6_mark_103 : decode cX6_mark 103 = .ok (.iload_n 2, 1) := by decide +kernel
theorem dX6_mark_104 : decode cX6_mark 104 = .ok (.ishl, 1) := by decide +kernel
theorem dX6_mark_105 : decode cX6_mark 105 = .ok (.iconst (-1), 1) := by decide +kernel
theorem dX6_mark_106 : decode cX6_mark 106 = .ok (.ixor, 1) := by decide +kernel
theorem dX6_mark_107 : decode cX6_mark 107 = .ok (.iand, 1) := by decide +kernel
theorem dX6_mark_108 : decode cX6_mark 108 = .ok (.iload_n 3, 1) := by decide +kernel
theorem dX6_mark_109 : decode cX6_mark 109 = .ok (.iconst 2, 1) := by decide +kernel
theorem dX6_mark_110 : decode cX6_mark 110 = .ok (.if_icmp .ne 9, 3) := by decide +kernel
theorem dX6_mark_113 : decode cX6_mark 113 = .ok (.iconst 1, 1) := by decide +kernel
theorem dX6_mark_114 : decode cX6_mark 114 = .ok (.iload_n 2, 1) := by decide +kernel
theorem dX6_mark_115 : decode cX6_mark 115 = .ok (.ishl, 1) := by decide +kernel
theorem dX6_mark_116 : decode cX6_mark 116 = .ok (.goto 4, 3) := by decide +kernel
theorem dX6_mark_119 : decode cX6_mark 119 = .ok (.iconst 0, 1) := by decide +kernel
theorem dX6_mark_120 : decode cX6_mark 120 = .ok (.ior, 1) := by decide +kernel
theorem dX6_mark_121 : decode cX6_mark 121 = .ok (.iastore, 1) := by decide +kernel
theorem dX6_mark_122 : decode cX6_mark 122 = .ok (.iload 4, 2) := by decide +kernel
theorem dX6_mark_124 : decode cX6_mark 124 = .ok (.ireturn, 1) := by decide +kernel
set_option maxRecDepth 20000 in
theorem ggX6_scoreOf_X6_bits : GoodIn wsX6_scoreOf wsX6_bits := goodIn_r _ [7] (by decide +kernel) (by decide +kernel)
set_option maxRecDepth 20000 in
theorem gX6_scoreOf_X6_bits : GoodIn wsX6_scoreOf (va_wsS RX6 126 yX6_bits wsX6_bits) := goodIn_app (goodIn_of _ (by decide +kernel)) ggX6_scoreOf_X6_bits
theorem dX6_scoreOf_0 : decode cX6_scoreOf 0 = .ok (.iconst 2, 1) := by decide +kernel
theorem dX6_scoreOf_1 : decode cX6_scoreOf 1 = .ok (.aload_n 0, 1) := by decide +kernel
theorem dX6_scoreOf_2 : decode cX6_scoreOf 2 = .ok (.getfield 75, 3) := by decide +kernel
theorem dX6_scoreOf_5 : decode cX6_scoreOf 5 = .ok (.iload_n 1, 1) := by decide +kernel
theorem dX6_scoreOf_6 : decode cX6_scoreOf 6 = .ok (.iaload, 1) := by decide +kernel
theorem dX6_scoreOf_7 : decode cX6_scoreOf 7 = .ok (.aload_n 0, 1) := by decide +kernel
theorem dX6_scoreOf_8 : decode cX6_scoreOf 8 = .ok (.getfield 28, 3) := by decide +kernel
theorem dX6_scoreOf_11 : decode cX6_scoreOf 11 = .ok (.iload_n 2, 1) := by decide +kernel
theorem dX6_scoreOf_12 : decode cX6_scoreOf 12 = .ok (.iaload, 1) := by decide +kernel
theorem dX6_scoreOf_13 : decode cX6_scoreOf 13 = .ok (.iand, 1) := by decide +kernel
theorem dX6_scoreOf_14 : decode cX6_scoreOf 14 = .ok (.invokestatic 126, 3) := by decide +kernel
theorem dX6_scoreOf_17 : decode cX6_scoreOf 17 = .ok (.imul, 1) := by decide +kernel
theorem dX6_scoreOf_18 : decode cX6_scoreOf 18 = .ok (.iconst 3, 1) := by decide +kernel
theorem dX6_scoreOf_19 : decode cX6_scoreOf 19 = .ok (.aload_n 0, 1) := by decide +kernel
theorem dX6_scoreOf_20 : decode cX6_scoreOf 20 = .ok (.getfield 75, 3) := by decide +kernel
theorem dX6_scoreOf_23 : decode cX6_scoreOf 23 = .ok (.iload_n 1, 1) := by decide +kernel
theorem dX6_scoreOf_24 : decode cX6_scoreOf 24 = .ok (.iaload, 1) := by decide +kernel
theorem dX6_scoreOf_25 : decode cX6_scoreOf 25 = .ok (.aload_n 0, 1) := by decide +kernel
theorem dX6_scoreOf_26 : decode cX6_scoreOf 26 = .ok (.getfield 31, 3) := by decide +kernel
theorem dX6_scoreOf_29 : decode cX6_scoreOf 29 = .ok (.iload_n 2, 1) := by decide +kernel
theorem dX6_scoreOf_30 : decode cX6_scoreOf 30 = .ok (.iaload, 1) := by decide +kernel
theorem dX6_scoreOf_31 : decode cX6_scoreOf 31 = .ok (.iand, 1) := by decide +kernel
theorem dX6_scoreOf_32 : decode cX6_scoreOf 32 = .ok (.invokestatic 126, 3) := by decide +kernel
theorem dX6_scoreOf_35 : decode cX6_scoreOf 35 = .ok (.imul, 1) := by decide +kernel
theorem dX6_scoreOf_36 : decode cX6_scoreOf 36 = .ok (.isub, 1) := by decide +kernel
theorem dX6_scoreOf_37 : decode cX6_scoreOf 37 = .ok (.aload_n 0, 1) := by decide +kernel
theorem dX6_scoreOf_38 : decode cX6_scoreOf 38 = .ok (.getfield 28, 3) := by decide +kernel
theorem dX6_scoreOf_41 : decode cX6_scoreOf 41 = .ok (.iload_n 2, 1) := by decide +kernel
theorem dX6_scoreOf_42 : decode cX6_scoreOf 42 = .ok (.iaload, 1) := by decide +kernel
theorem dX6_scoreOf_43 : decode cX6_scoreOf 43 = .ok (.aload_n 0, 1) := by decide +kernel
theorem dX6_scoreOf_44 : decode cX6_scoreOf 44 = .ok (.getfield 75, 3) := by decide +kernel
theorem dX6_scoreOf_47 : decode cX6_scoreOf 47 = .ok (.iload_n 1, 1) := by decide +kernel
theorem dX6_scoreOf_48 : decode cX6_scoreOf 48 = .ok (.iaload, 1) := by decide +kernel
theorem dX6_scoreOf_49 : decode cX6_scoreOf 49 = .ok (.iconst (-1), 1) := by decide +kernel
theorem dX6_scoreOf_50 : decode cX6_scoreOf 50 = .ok (.ixor, 1) := by decide +kernel
theorem dX6_scoreOf_51 : decode cX6_scoreOf 51 = .ok (.iand, 1) := by decide +kernel
theorem dX6_scoreOf_52 : decode cX6_scoreOf 52 = .ok (.invokestatic 126, 3) := by decide +kernel
theorem dX6_scoreOf_55 : decode cX6_scoreOf 55 = .ok (.isub, 1) := by decide +kernel
theorem dX6_scoreOf_56 : decode cX6_scoreOf 56 = .ok (.ireturn, 1) := by decide +kernel
set_option maxRecDepth 20000 in
theorem ggX6_score_X6_in : GoodIn wsX6_score wsX6_in := goodIn_r _ [5] (by decide +kernel) (by decide +kernel)
set_option maxRecDepth 20000 in
theorem gX6_score_X6_in : GoodIn wsX6_score (va_wsS RX6 92 yX6_in wsX6_in) := goodIn_app (goodIn_of _ (by decide +kernel)) ggX6_score_X6_in
set_option maxRecDepth 20000 in
theorem ggX6_score_X6_noThing : GoodIn wsX6_score wsX6_noThing := goodIn_r _ [9, 10, 2, 3, 4, 5, 21, 22, 23, 24, 25, 26, 27, 28, 29, 30, 31, 32, 33, 34, 35, 36, 37, 38, 39, 40, 41, 42, 43, 44, 45, 46, 47, 48, 49, 50, 51, 52, 53, 54, 55, 56, 57, 58] (by decide +kernel) (by decide +kernel)
set_option maxRecDepth 20000 in
theorem gX6_score_X6_noThing : GoodIn wsX6_score (wsV RX6 107 RX6 yX6_noThing wsX6_noThing) := goodIn_app (goodIn_of _ (by decide +kernel)) ggX6_score_X6_noThing
set_option maxRecDepth 20000 in
theorem ggX6_score_X6_scoreOf : GoodIn wsX6_score wsX6_scoreOf := goodIn_r _ [14, 15, 16, 17, 18, 19, 4, 20, 21, 22, 23, 24, 25, 26, 27, 28, 29, 30, 31, 32, 33, 34, 35, 36, 37, 38, 39, 40, 41, 42, 43, 44, 45, 46, 47, 48, 49, 50, 51, 52, 53, 54, 55, 56, 57, 58] (by decide +kernel) (by decide +kernel)
set_option maxRecDepth 20000 in
theorem gX6_score_X6_scoreOf : GoodIn wsX6_score (wsV RX6 219 RX6 yX6_scoreOf wsX6_scoreOf) := goodIn_app (goodIn_of _ (by decide +kernel)) ggX6_score_X6_scoreOf
theorem dX6_score_0 : decode cX6_score 0 = .ok (.iload_n 1, 1) := by decide +kernel
theorem dX6_score_1 : decode cX6_score 1 = .ok (.i2l, 1) := by decide +kernel
theorem dX6_score_2 : decode cX6_score 2 = .ok (.lconst 0, 1) := by decide +kernel
theorem dX6_score_3 : decode cX6_score 3 = .ok (.aload_n 0, 1) := by decide +kernel
theorem dX6_score_4 : decode cX6_score 4 = .ok (.getfield 212, 3) := by decide +kernel
theorem dX6_score_7 : decode cX6_score 7 = .ok (.iconst 1, 1) := by decide +kernel
theorem dX6_score_8 : decode cX6_score 8 = .ok (.isub, 1) := by decide +kernel
theorem dX6_score_9 : decode cX6_score 9 = .ok (.i2l, 1) := by decide +kernel
theorem dX6_score_10 : decode cX6_score 10 = .ok (.invokestatic 92, 3) := by decide +kernel
theorem dX6_score_13 : decode cX6_score 13 = .ok (.ifCond .eq 11, 3) := by decide +kernel
theorem dX6_score_16 : decode cX6_score 16 = .ok (.aload_n 0, 1) := by decide +kernel
theorem dX6_score_17 : decode cX6_score 17 = .ok (.iload_n 2, 1) := by decide +kernel
theorem dX6_score_18 : decode cX6_score 18 = .ok (.invokevirtual 107, 3) := by decide +kernel
theorem dX6_score_21 : decode cX6_score 21 = .ok (.ifCond .eq 9, 3) := by decide +kernel
theorem dX6_score_24 : decode cX6_score 24 = .ok (.sipush (-1000), 3) := by decide +kernel
theorem dX6_score_27 : decode cX6_score 27 = .ok (.goto 9, 3) := by decide +kernel
theorem dX6_score_30 : decode cX6_score 30 = .ok (.aload_n 0, 1) := by decide +kernel
theorem dX6_score_31 : decode cX6_score 31 = .ok (.iload_n 1, 1) := by decide +kernel
theorem dX6_score_32 : decode cX6_score 32 = .ok (.iload_n 2, 1) := by decide +kernel
theorem dX6_score_33 : decode cX6_score 33 = .ok (.invokevirtual 219, 3) := by decide +kernel
theorem dX6_score_36 : decode cX6_score 36 = .ok (.ireturn, 1) := by decide +kernel
set_option maxRecDepth 20000 in
theorem ggX6_findJoined_X6_scoreOf : GoodIn wsX6_findJoined wsX6_scoreOf := goodIn_r _ [10, 11, 12, 13, 14, 15, 9, 16, 17, 18, 19, 20, 21, 22, 23, 24, 25, 26, 27, 28, 29, 30, 31, 32, 33, 34, 35, 36, 37, 38, 39, 40, 41, 42, 43, 44, 45, 46, 47, 48, 49, 50, 51, 52, 53, 54] (by decide +kernel) (by decide +kernel)
set_option maxRecDepth 20000 in
theorem gX6_findJoined_X6_scoreOf : GoodIn wsX6_findJoined (wsV RX6 219 RX6 yX6_scoreOf wsX6_scoreOf) := goodIn_app (goodIn_of _ (by decide +kernel)) ggX6_findJoined_X6_scoreOf
theorem dX6_findJoined_0 : decode cX6_findJoined 0 = .ok (.iconst 0, 1) := by decide +kernel
theorem dX6_findJoined_1 : decode cX6_findJoined 1 = .ok (.istore_n 1, 1) := by decide +kernel
theorem dX6_findJoined_2 : decode cX6_findJoined 2 = .ok (.iload_n 1, 1) := by decide +kernel
theorem dX6_findJoined_3 : decode cX6_findJoined 3 = .ok (.aload_n 0, 1) := by decide +kernel
theorem dX6_findJoined_4 : decode cX6_findJoined 4 = .ok (.getfield 212, 3) := by decide +kernel
theorem dX6_findJoined_7 : decode cX6_findJoined 7 = .ok (.if_icmp .ge 42, 3) := by decide +kernel
theorem dX6_findJoined_10 : decode cX6_findJoined 10 = .ok (.iconst 0, 1) := by decide +kernel
theorem dX6_findJoined_11 : decode cX6_findJoined 11 = .ok (.istore_n 2, 1) := by decide +kernel
theorem dX6_findJoined_12 : decode cX6_findJoined 12 = .ok (.iload_n 2, 1) := by decide +kernel
theorem dX6_findJoined_13 : decode cX6_findJoined 13 = .ok (.aload_n 0, 1) := by decide +kernel
theorem dX6_findJoined_14 : decode cX6_findJoined 14 = .ok (.getfield 104, 3) := by decide +kernel
theorem dX6_findJoined_17 : decode cX6_findJoined 17 = .ok (.if_icmp .ge 26, 3) := by decide +kernel
theorem dX6_findJoined_20 : decode cX6_findJoined 20 = .ok (.aload_n 0, 1) := by decide +kernel
theorem dX6_findJoined_21 : decode cX6_findJoined 21 = .ok (.getfield 84, 3) := by decide +kernel
theorem dX6_findJoined_24 : decode cX6_findJoined 24 = .ok (.bipush 12, 2) := by decide +kernel
theorem dX6_findJoined_26 : decode cX6_findJoined 26 = .ok (.iload_n 1, 1) := by decide +kernel
theorem dX6_findJoined_27 : decode cX6_findJoined 27 = .ok (.imul, 1) := by decide +kernel
theorem dX6_findJoined_28 : decode cX6_findJoined 28 = .ok (.iload_n 2, 1) := by decide +kernel
theorem dX6_findJoined_29 : decode cX6_findJoined 29 = .ok (.iadd, 1) := by decide +kernel
theorem dX6_findJoined_30 : decode cX6_findJoined 30 = .ok (.aload_n 0, 1) := by decide +kernel
theorem dX6_findJoined_31 : decode cX6_findJoined 31 = .ok (.iload_n 1, 1) := by decide +kernel
theorem dX6_findJoined_32 : decode cX6_findJoined 32 = .ok (.iload_n 2, 1) := by decide +kernel
theorem dX6_findJoined_33 : decode cX6_findJoined 33 = .ok (.invokevirtual 219, 3) := by decide +kernel
theorem dX6_findJoined_36 : decode cX6_findJoined 36 = .ok (.iastore, 1) := by decide +kernel
theorem dX6_findJoined_37 : decode cX6_findJoined 37 = .ok (.iinc 2 1, 3) := by decide +kernel
theorem dX6_findJoined_40 : decode cX6_findJoined 40 = .ok (.goto (-28), 3) := by decide +kernel
theorem dX6_findJoined_43 : decode cX6_findJoined 43 = .ok (.iinc 1 1, 3) := by decide +kernel
theorem dX6_findJoined_46 : decode cX6_findJoined 46 = .ok (.goto (-44), 3) := by decide +kernel
theorem dX6_findJoined_49 : decode cX6_findJoined 49 = .ok (.iconst 0, 1) := by decide +kernel
theorem dX6_findJoined_50 : decode cX6_findJoined 50 = .ok (.istore_n 1, 1) := by decide +kernel
theorem dX6_findJoined_51 : decode cX6_findJoined 51 = .ok (.iload_n 1, 1) := by decide +kernel
theorem dX6_findJoined_52 : decode cX6_findJoined 52 = .ok (.sipush 4096, 3) := by decide +kernel
theorem dX6_findJoined_55 : decode cX6_findJoined 55 = .ok (.if_icmp .ge 25, 3) := by decide +kernel
theorem dX6_findJoined_58 : decode cX6_findJoined 58 = .ok (.aload_n 0, 1) := by decide +kernel
theorem dX6_findJoined_59 : decode cX6_findJoined 59 = .ok (.getfield 78, 3) := by decide +kernel
theorem dX6_findJoined_62 : decode cX6_findJoined 62 = .ok (.sipush 4096, 3) := by decide +kernel
theorem dX6_findJoined_65 : decode cX6_findJoined 65 = .ok (.aload_n 0, 1) := by decide +kernel
theorem dX6_findJoined_66 : decode cX6_findJoined 66 = .ok (.getfield 212, 3) := by decide +kernel
theorem dX6_findJoined_69 : decode cX6_findJoined 69 = .ok (.imul, 1) := by decide +kernel
theorem dX6_findJoined_70 : decode cX6_findJoined 70 = .ok (.iload_n 1, 1) := by decide +kernel
theorem dX6_findJoined_71 : decode cX6_findJoined 71 = .ok (.iadd, 1) := by decide +kernel
theorem dX6_findJoined_72 : decode cX6_findJoined 72 = .ok (.iconst 0, 1) := by decide +kernel
theorem dX6_findJoined_73 : decode cX6_findJoined 73 = .ok (.iastore, 1) := by decide +kernel
theorem dX6_findJoined_74 : decode cX6_findJoined 74 = .ok (.iinc 1 1, 3) := by decide +kernel
theorem dX6_findJoined_77 : decode cX6_findJoined 77 = .ok (.goto (-26), 3) := by decide +kernel
theorem dX6_findJoined_80 : decode cX6_findJoined 80 = .ok (.aload_n 0, 1) := by decide +kernel
theorem dX6_findJoined_81 : decode cX6_findJoined 81 = .ok (.getfield 212, 3) := by decide +kernel
theorem dX6_findJoined_84 : decode cX6_findJoined 84 = .ok (.iconst 1, 1) := by decide +kernel
theorem dX6_findJoined_85 : decode cX6_findJoined 85 = .ok (.isub, 1) := by decide +kernel
theorem dX6_findJoined_86 : decode cX6_findJoined 86 = .ok (.istore_n 1, 1) := by decide +kernel
theorem dX6_findJoined_87 : decode cX6_findJoined 87 = .ok (.iload_n 1, 1) := by decide +kernel
theorem dX6_findJoined_88 : decode cX6_findJoined 88 = .ok (.ifCond .lt 140, 3) := by decide +kernel
theorem dX6_findJoined_91 : decode cX6_findJoined 91 = .ok (.iconst 0, 1) := by decide +kernel
theorem dX6_findJoined_92 : decode cX6_findJoined 92 = .ok (.istore_n 2, 1) := by decide +kernel
theorem dX6_findJoined_93 : decode cX6_findJoined 93 = .ok (.iload_n 2, 1) := by decide +kernel
theorem dX6_findJoined_94 : decode cX6_findJoined 94 = .ok (.sipush 4096, 3) := by decide +kernel
theorem dX6_findJoined_97 : decode cX6_findJoined 97 = .ok (.if_icmp .ge 125, 3) := by decide +kernel
theorem dX6_findJoined_100 : decode cX6_findJoined 100 = .ok (.aload_n 0, 1) := by decide +kernel
theorem dX6_findJoined_101 : decode cX6_findJoined 101 = .ok (.getfield 78, 3) := by decide +kernel
theorem dX6_findJoined_104 : decode cX6_findJoined 104 = .ok (.sipush 4096, 3) := by decide +kernel
theorem dX6_findJoined_107 : decode cX6_findJoined 107 = .ok (.iload_n 1, 1) := by decide +kernel
theorem dX6_findJoined_108 : decode cX6_findJoined 108 = .ok (.iconst 1, 1) := by decide +kernel
theorem dX6_findJoined_109 : decode cX6_findJoined 109 = .ok (.iadd, 1) := by decide +kernel
theorem dX6_findJoined_110 : decode cX6_findJoined 110 = .ok (.imul, 1) := by decide +kernel
theorem dX6_findJoined_111 : decode cX6_findJoined 111 = .ok (.iload_n 2, 1) := by decide +kernel
theorem dX6_findJoined_112 : decode cX6_findJoined 112 = .ok (.iadd, 1) := by decide +kernel
theorem dX6_findJoined_113 : decode cX6_findJoined 113 = .ok (.iaload, 1) := by decide +kernel
theorem dX6_findJoined_114 : decode cX6_findJoined 114 = .ok (.istore_n 3, 1) := by decide +kernel
theorem dX6_findJoined_115 : decode cX6_findJoined 115 = .ok (.iconst 0, 1) := by decide +kernel
theorem dX6_findJoined_116 : decode cX6_findJoined 116 = .ok (.istore 4, 2) := by decide +kernel
theorem dX6_findJoined_118 : decode cX6_findJoined 118 = .ok (.iload 4, 2) := by decide +kernel
theorem dX6_findJoined_120 : decode cX6_findJoined 120 = .ok (.aload_n 0, 1) := by decide +kernel
theorem dX6_findJoined_121 : decode cX6_findJoined 121 = .ok (.getfield 104, 3) := by decide +kernel
theorem dX6_findJoined_124 : decode cX6_findJoined 124 = .ok (.if_icmp .ge 79, 3) := by decide +kernel
theorem dX6_findJoined_127 : decode cX6_findJoined 127 = .ok (.iload_n 2, 1) := by decide +kernel
theorem dX6_findJoined_128 : decode cX6_findJoined 128 = .ok (.iload 4, 2) := by decide +kernel
theorem dX6_findJoined_130 : decode cX6_findJoined 130 = .ok (.ishr, 1) := by decide +kernel
theorem dX6_findJoined_131 : decode cX6_findJoined 131 = .ok (.iconst 1, 1) := by decide +kernel
theorem dX6_findJoined_132 : decode cX6_findJoined 132 = .ok (.iand, 1) := by decide +kernel
theorem dX6_findJoined_133 : decode cX6_findJoined 133 = .ok (.iconst 1, 1) := by decide +kernel
theorem dX6_findJoined_134 : decode cX6_findJoined 134 = .ok (.if_icmp .ne 7, 3) := by decide +kernel
theorem dX6_findJoined_137 : decode cX6_findJoined 137 = .ok (.iconst 0, 1) := by decide +kernel
theorem dX6_findJoined_138 : decode cX6_findJoined 138 = .ok (.goto 15, 3) := by decide +kernel
theorem dX6_findJoined_141 : decode cX6_findJoined 141 = .ok (.aload_n 0, 1) := by decide +kernel
theorem dX6_findJoined_142 : decode cX6_findJoined 142 = .ok (.getfield 84, 3) := by decide +kernel
theorem dX6_findJoined_145 : decode cX6_findJoined 145 = .ok (.bipush 12, 2) := by decide +kernel
theorem dX6_findJoined_147 : decode cX6_findJoined 147 = .ok (.iload_n 1, 1) := by decide +kernel
theorem dX6_findJoined_148 : decode cX6_findJoined 148 = .ok (.imul, 1) := by decide +kernel
theorem dX6_findJoined_149 : decode cX6_findJoined 149 = .ok (.iload 4, 2) := by decide +kernel
theorem dX6_findJoined_151 : decode cX6_findJoined 151 = .ok (.iadd, 1) := by decide +kernel
theorem dX6_findJoined_152 : decode cX6_findJoined 152 = .ok (.iaload, 1) := by decide +kernel
theorem dX6_findJoined_153 : decode cX6_findJoined 153 = .ok (.istore 5, 2) := by decide +kernel
theorem dX6_findJoined_155 : decode cX6_findJoined 155 = .ok (.iload 5, 2) := by decide +kernel
theorem dX6_findJoined_157 : decode cX6_findJoined 157 = .ok (.ifCond .le 40, 3) := by decide +kernel
theorem dX6_findJoined_160 : decode cX6_findJoined 160 = .ok (.iload 5, 2) := by decide +kernel
theorem dX6_findJoined_162 : decode cX6_findJoined 162 = .ok (.aload_n 0, 1) := by decide +kernel
theorem dX6_findJoined_163 : decode cX6_findJoined 163 = .ok (.getfield 78, 3) := by decide +kernel
theorem dX6_findJoined_166 : decode cX6_findJoined 166 = .ok (.sipush 4096, 3) := by decide +kernel
theorem dX6_findJoined_169 : decode cX6_findJoined 169 = .ok (.iload_n 1, 1) := by decide +kernel
theorem dX6_findJoined_170 : decode cX6_findJoined 170 = .ok (.iconst 1, 1) := by decide +kernel
theorem dX6_findJoined_171 : decode cX6_findJoined 171 = .ok (.iadd, 1) := by decide +kernel
theorem dX6_findJoined_172 : decode cX6_findJoined 172 = .ok (.imul, 1) := by decide +kernel
theorem dX6_findJoined_173 : decode cX6_findJoined 173 = .ok (.iload_n 2, 1) := by decide +kernel
theorem dX6_findJoined_174 : decode cX6_findJoined 174 = .ok (.iconst 1, 1) := by decide +kernel
theorem dX6_findJoined_175 : decode cX6_findJoined 175 = .ok (.iload 4, 2) := by decide +kernel
theorem dX6_findJoined_177 : decode cX6_findJoined 177 = .ok (.ishl, 1) := by decide +kernel
theorem dX6_findJoined_178 : decode cX6_findJoined 178 = .ok (.ior, 1) := by decide +kernel
theorem dX6_findJoined_179 : decode cX6_findJoined 179 = .ok (.iadd, 1) := by decide +kernel
theorem dX6_findJoined_180 : decode cX6_findJoined 180 = .ok (.iaload, 1) := by decide +kernel
theorem dX6_findJoined_181 : decode cX6_findJoined 181 = .ok (.iadd, 1) := by decide +kernel
theorem dX6_findJoined_182 : decode cX6_findJoined 182 = .ok (.istore 6, 2) := by decide +kernel
theorem dX6_findJoined_184 : decode cX6_findJoined 184 = .ok (.iload 6, 2) := by decide +kernel
theorem dX6_findJoined_186 : decode cX6_findJoined 186 = .ok (.iload_n 3, 1) := by decide +kernel
theorem dX6_findJoined_187 : decode cX6_findJoined 187 = .ok (.if_icmp .le 8, 3) := by decide +kernel
theorem dX6_findJoined_190 : decode cX6_findJoined 190 = .ok (.iload 6, 2) := by decide +kernel
theorem dX6_findJoined_192 : decode cX6_findJoined 192 = .ok (.goto 4, 3) := by decide +kernel
theorem dX6_findJoined_195 : decode cX6_findJoined 195 = .ok (.iload_n 3, 1) := by decide +kernel
theorem dX6_findJoined_196 : decode cX6_findJoined 196 = .ok (.istore_n 3, 1) := by decide +kernel
theorem dX6_findJoined_197 : decode cX6_findJoined 197 = .ok (.iinc 4 1, 3) := by decide +kernel
theorem dX6_findJoined_200 : decode cX6_findJoined 200 = .ok (.goto (-82), 3) := by decide +kernel
theorem dX6_findJoined_203 : decode cX6_findJoined 203 = .ok (.aload_n 0, 1) := by decide +kernel
theorem dX6_findJoined_204 : decode cX6_findJoined 204 = .ok (.getfield 78, 3) := by decide +kernel
theorem dX6_findJoined_207 : decode cX6_findJoined 207 = .ok (.sipush 4096, 3) := by decide +kernel
theorem dX6_findJoined_210 : decode cX6_findJoined 210 = .ok (.iload_n 1, 1) := by decide +kernel
theorem dX6_findJoined_211 : decode cX6_findJoined 211 = .ok (.imul, 1) := by decide +kernel
theorem dX6_findJoined_212 : decode cX6_findJoined 212 = .ok (.iload_n 2, 1) := by decide +kernel
theorem dX6_findJoined_213 : decode cX6_findJoined 213 = .ok (.iadd, 1) := by decide +kernel
theorem dX6_findJoined_214 : decode cX6_findJoined 214 = .ok (.iload_n 3, 1) := by decide +kernel
theorem dX6_findJoined_215 : decode cX6_findJoined 215 = .ok (.iastore, 1) := by decide +kernel
theorem dX6_findJoined_216 : decode cX6_findJoined 216 = .ok (.iinc 2 1, 3) := by decide +kernel
theorem dX6_findJoined_219 : decode cX6_findJoined 219 = .ok (.goto (-126), 3) := by decide +kernel
theorem dX6_findJoined_222 : decode cX6_findJoined 222 = .ok (.iinc 1 (-1), 3) := by decide +kernel
theorem dX6_findJoined_225 : decode cX6_findJoined 225 = .ok (.goto (-138), 3) := by decide +kernel
theorem dX6_findJoined_228 : decode cX6_findJoined 228 = .ok (.iconst 0, 1) := by decide +kernel
theorem dX6_findJoined_229 : decode cX6_findJoined 229 = .ok (.istore_n 1, 1) := by decide +kernel
theorem dX6_findJoined_230 : decode cX6_findJoined 230 = .ok (.iconst 0, 1) := by decide +kernel
theorem dX6_findJoined_231 : decode cX6_findJoined 231 = .ok (.istore_n 2, 1) := by decide +kernel
theorem dX6_findJoined_232 : decode cX6_findJoined 232 = .ok (.iload_n 2, 1) := by decide +kernel
theorem dX6_findJoined_233 : decode cX6_findJoined 233 = .ok (.aload_n 0, 1) := by decide +kernel
theorem dX6_findJoined_234 : decode cX6_findJoined 234 = .ok (.getfield 212, 3) := by decide +kernel
theorem dX6_findJoined_237 : decode cX6_findJoined 237 = .ok (.if_icmp .ge 152, 3) := by decide +kernel
theorem dX6_findJoined_240 : decode cX6_findJoined 240 = .ok (.aload_n 0, 1) := by decide +kernel
theorem dX6_findJoined_241 : decode cX6_findJoined 241 = .ok (.getfield 81, 3) := by decide +kernel
theorem dX6_findJoined_244 : decode cX6_findJoined 244 = .ok (.iload_n 2, 1) := by decide +kernel
theorem dX6_findJoined_245 : decode cX6_findJoined 245 = .ok (.iconst (-1), 1) := by decide +kernel
theorem dX6_findJoined_246 : decode cX6_findJoined 246 = .ok (.iastore, 1) := by decide +kernel
theorem dX6_findJoined_247 : decode cX6_findJoined 247 = .ok (.aload_n 0, 1) := by decide +kernel
theorem dX6_findJoined_248 : decode cX6_findJoined 248 = .ok (.getfield 104, 3) := by decide +kernel
theorem dX6_findJoined_251 : decode cX6_findJoined 251 = .ok (.iconst 1, 1) := by decide +kernel
theorem dX6_findJoined_252 : decode cX6_findJoined 252 = .ok (.isub, 1) := by decide +kernel
theorem dX6_findJoined_253 : decode cX6_findJoined 253 = .ok (.istore_n 3, 1) := by decide +kernel
theorem dX6_findJoined_254 : decode cX6_findJoined 254 = .ok (.iload_n 3, 1) := by decide +kernel
theorem dX6_findJoined_255 : decode cX6_findJoined 255 = .ok (.ifCond .lt 104, 3) := by decide +kernel
theorem dX6_findJoined_258 : decode cX6_findJoined 258 = .ok (.iload_n 1, 1) := by decide +kernel
theorem dX6_findJoined_259 : decode cX6_findJoined 259 = .ok (.iload_n 3, 1) := by decide +kernel
theorem dX6_findJoined_260 : decode cX6_findJoined 260 = .ok (.ishr, 1) := by decide +kernel
theorem dX6_findJoined_261 : decode cX6_findJoined 261 = .ok (.iconst 1, 1) := by decide +kernel
theorem dX6_findJoined_262 : decode cX6_findJoined 262 = .ok (.iand, 1) := by decide +kernel
theorem dX6_findJoined_263 : decode cX6_findJoined 263 = .ok (.iconst 1, 1) := by decide +kernel
theorem dX6_findJoined_264 : decode cX6_findJoined 264 = .ok (.if_icmp .ne 7, 3) := by decide +kernel
theorem dX6_findJoined_267 : decode cX6_findJoined 267 = .ok (.iconst 0, 1) := by decide +kernel
theorem dX6_findJoined_268 : decode cX6_findJoined 268 = .ok (.goto 14, 3) := by decide +kernel
theorem dX6_findJoined_271 : decode cX6_findJoined 271 = .ok (.aload_n 0, 1) := by decide +kernel
theorem dX6_findJoined_272 : decode cX6_findJoined 272 = .ok (.getfield 84, 3) := by decide +kernel
theorem dX6_findJoined_275 : decode cX6_findJoined 275 = .ok (.bipush 12, 2) := by decide +kernel
theorem dX6_findJoined_277 : decode cX6_findJoined 277 = .ok (.iload_n 2, 1) := by decide +kernel
theorem dX6_findJoined_278 : decode cX6_findJoined 278 = .ok (.imul, 1) := by decide +kernel
theorem dX6_findJoined_279 : decode cX6_findJoined 279 = .ok (.iload_n 3, 1) := by decide +kernel
theorem dX6_findJoined_280 : decode cX6_findJoined 280 = .ok (.iadd, 1) := by decide +kernel
theorem dX6_findJoined_281 : decode cX6_findJoined 281 = .ok (.iaload, 1) := by decide +kernel
theorem dX6_findJoined_282 : decode cX6_findJoined 282 = .ok (.istore 4, 2) := by decide +kernel
theorem dX6_findJoined_284 : decode cX6_findJoined 284 = .ok (.iload 4, 2) := by decide +kernel
theorem dX6_findJoined_286 : decode cX6_findJoined 286 = .ok (.ifCond .le 43, 3) := by decide +kernel
theorem dX6_findJoined_289 : decode cX6_findJoined 289 = .ok (.iload 4, 2) := by decide +kernel
theorem dX6_findJoined_291 : decode cX6_findJoined 291 = .ok (.aload_n 0, 1) := by decide +kernel
theorem dX6_findJoined_292 : decode cX6_findJoined 292 = .ok (.getfield 78, 3) := by decide +kernel
theorem dX6_findJoined_295 : decode cX6_findJoined 295 = .ok (.sipush 4096, 3) := by decide +kernel
theorem dX6_findJoined_298 : decode cX6_findJoined 298 = .ok (.iload_n 2, 1) := by decide +kernel
theorem dX6_findJoined_299 : decode cX6_findJoined 299 = .ok (.iconst 1, 1) := by decide +kernel
theorem dX6_findJoined_300 : decode cX6_findJoined 300 = .ok (.iadd, 1) := by decide +kernel
theorem dX6_findJoined_301 : decode cX6_findJoined 301 = .ok (.imul, 1) := by decide +kernel
theorem dX6_findJoined_302 : decode cX6_findJoined 302 = .ok (.iload_n 1, 1) := by decide +kernel
theorem dX6_findJoined_303 : decode cX6_findJoined 303 = .ok (.iconst 1, 1) := by decide +kernel
theorem dX6_findJoined_304 : decode cX6_findJoined 304 = .ok (.iload_n 3, 1) := by decide +kernel
theorem dX6_findJoined_305 : decode cX6_findJoined 305 = .ok (.ishl, 1) := by decide +kernel
theorem dX6_findJoined_306 : decode cX6_findJoined 306 = .ok (.ior, 1) := by decide +kernel
theorem dX6_findJoined_307 : decode cX6_findJoined 307 = .ok (.iadd, 1) := by decide +kernel
theorem dX6_findJoined_308 : decode cX6_findJoined 308 = .ok (.iaload, 1) := by decide +kernel
theorem dX6_findJoined_309 : decode cX6_findJoined 309 = .ok (.iadd, 1) := by decide +kernel
theorem dX6_findJoined_310 : decode cX6_findJoined 310 = .ok (.aload_n 0, 1) := by decide +kernel
theorem dX6_findJoined_311 : decode cX6_findJoined 311 = .ok (.getfield 78, 3) := by decide +kernel
theorem dX6_findJoined_314 : decode cX6_findJoined 314 = .ok (.sipush 4096, 3) := by decide +kernel
theorem dX6_findJoined_317 : decode cX6_findJoined 317 = .ok (.iload_n 2, 1) := by decide +kernel
theorem dX6_findJoined_318 : decode cX6_findJoined 318 = .ok (.imul, 1) := by decide +kernel
theorem dX6_findJoined_319 : decode cX6_findJoined 319 = .ok (.iload_n 1, 1) := by decide +kernel
theorem dX6_findJoined_320 : decode cX6_findJoined 320 = .ok (.iadd, 1) := by decide +kernel
theorem dX6_findJoined_321 : decode cX6_findJoined 321 = .ok (.iaload, 1) := by decide +kernel
theorem dX6_findJoined_322 : decode cX6_findJoined 322 = .ok (.if_icmp .ne 7, 3) := by decide +kernel
theorem dX6_findJoined_325 : decode cX6_findJoined 325 = .ok (.iconst 1, 1) := by decide +kernel
theorem dX6_findJoined_326 : decode cX6_findJoined 326 = .ok (.goto 4, 3) := by decide +kernel
theorem dX6_findJoined_329 : decode cX6_findJoined 329 = .ok (.iconst 0, 1) := by decide +kernel
theorem dX6_findJoined_330 : decode cX6_findJoined 330 = .ok (.istore 5, 2) := by decide +kernel
theorem dX6_findJoined_332 : decode cX6_findJoined 332 = .ok (.aload_n 0, 1) := by decide +kernel
theorem dX6_findJoined_333 : decode cX6_findJoined 333 = .ok (.getfield 81, 3) := by decide +kernel
theorem dX6_findJoined_336 : decode cX6_findJoined 336 = .ok (.iload_n 2, 1) := by decide +kernel
theorem dX6_findJoined_337 : decode cX6_findJoined 337 = .ok (.iload 5, 2) := by decide +kernel
theorem dX6_findJoined_339 : decode cX6_findJoined 339 = .ok (.ifCond .eq 7, 3) := by decide +kernel
theorem dX6_findJoined_342 : decode cX6_findJoined 342 = .ok (.iload_n 3, 1) := by decide +kernel
theorem dX6_findJoined_343 : decode cX6_findJoined 343 = .ok (.goto 9, 3) := by decide +kernel
theorem dX6_findJoined_346 : decode cX6_findJoined 346 = .ok (.aload_n 0, 1) := by decide +kernel
theorem dX6_findJoined_347 : decode cX6_findJoined 347 = .ok (.getfield 81, 3) := by decide +kernel
theorem dX6_findJoined_350 : decode cX6_findJoined 350 = .ok (.iload_n 2, 1) := by decide +kernel
theorem dX6_findJoined_351 : decode cX6_findJoined 351 = .ok (.iaload, 1) := by decide +kernel
theorem dX6_findJoined_352 : decode cX6_findJoined 352 = .ok (.iastore, 1) := by decide +kernel
theorem dX6_findJoined_353 : decode cX6_findJoined 353 = .ok (.iinc 3 (-1), 3) := by decide +kernel
theorem dX6_findJoined_356 : decode cX6_findJoined 356 = .ok (.goto (-102), 3) := by decide +kernel
theorem dX6_findJoined_359 : decode cX6_findJoined 359 = .ok (.iload_n 1, 1) := by decide +kernel
theorem dX6_findJoined_360 : decode cX6_findJoined 360 = .ok (.aload_n 0, 1) := by decide +kernel
theorem dX6_findJoined_361 : decode cX6_findJoined 361 = .ok (.getfield 81, 3) := by decide +kernel
theorem dX6_findJoined_364 : decode cX6_findJoined 364 = .ok (.iload_n 2, 1) := by decide +kernel
theorem dX6_findJoined_365 : decode cX6_findJoined 365 = .ok (.iaload, 1) := by decide +kernel
theorem dX6_findJoined_366 : decode cX6_findJoined 366 = .ok (.ifCond .ge 7, 3) := by decide +kernel
theorem dX6_findJoined_369 : decode cX6_findJoined 369 = .ok (.iconst 0, 1) := by decide +kernel
theorem dX6_findJoined_370 : decode cX6_findJoined 370 = .ok (.goto 11, 3) := by decide +kernel
theorem dX6_findJoined_373 : decode cX6_findJoined 373 = .ok (.iconst 1, 1) := by decide +kernel
theorem dX6_findJoined_374 : decode cX6_findJoined 374 = .ok (.aload_n 0, 1) := by decide +kernel
theorem dX6_findJoined_375 : decode cX6_findJoined 375 = .ok (.getfield 81, 3) := by decide +kernel
theorem dX6_findJoined_378 : decode cX6_findJoined 378 = .ok (.iload_n 2, 1) := by decide +kernel
theorem dX6_findJoined_379 : decode cX6_findJoined 379 = .ok (.iaload, 1) := by decide +kernel
theorem dX6_findJoined_380 : decode cX6_findJoined 380 = .ok (.ishl, 1) := by decide +kernel
theorem dX6_findJoined_381 : decode cX6_findJoined 381 = .ok (.ior, 1) := by decide +kernel
theorem dX6_findJoined_382 : decode cX6_findJoined 382 = .ok (.istore_n 1, 1) := by decide +kernel
theorem dX6_findJoined_383 : decode cX6_findJoined 383 = .ok (.iinc 2 1, 3) := by decide +kernel
theorem dX6_findJoined_386 : decode cX6_findJoined 386 = .ok (.goto (-154), 3) := by decide +kernel
theorem dX6_findJoined_389 : decode cX6_findJoined 389 = .ok (.return_, 1) := by decide +kernel
set_option maxRecDepth 20000 in
theorem ggX6_joined_X6_findJoined : GoodIn wsX6_joined wsX6_findJoined := goodIn_r _ [7, 1, 8, 9, 2, 10, 11, 12, 13, 6, 14, 15, 16, 17, 18, 19, 20, 21, 22, 23, 24, 25, 26, 27, 28, 29, 30, 31, 32, 33, 34, 35, 36, 37, 38, 39, 40, 41, 42, 43, 44, 45, 46, 47, 48, 49, 50, 51, 52, 53, 54, 55, 56, 57, 58] (by decide +kernel) (by decide +kernel)
set_option maxRecDepth 20000 in
theorem gX6_joined_X6_findJoined : GoodIn wsX6_joined (wsV RX6 222 RX6 yX6_findJoined wsX6_findJoined) := goodIn_app (goodIn_of _ (by decide +kernel)) ggX6_joined_X6_findJoined
theorem dX6_joined_0 : decode cX6_joined 0 = .ok (.aload_n 0, 1) := by decide +kernel
theorem dX6_joined_1 : decode cX6_joined 1 = .ok (.getfield 212, 3) := by decide +kernel
theorem dX6_joined_4 : decode cX6_joined 4 = .ok (.bipush 6, 2) := by decide +kernel
theorem dX6_joined_6 : decode cX6_joined 6 = .ok (.if_icmp .le 6, 3) := by decide +kernel
theorem dX6_joined_9 : decode cX6_joined 9 = .ok (.bipush (-3), 2) := by decide +kernel
theorem dX6_joined_11 : decode cX6_joined 11 = .ok (.ireturn, 1) := by decide +kernel
theorem dX6_joined_12 : decode cX6_joined 12 = .ok (.aload_n 0, 1) := by decide +kernel
theorem dX6_joined_13 : decode cX6_joined 13 = .ok (.invokevirtual 222, 3) := by decide +kernel
theorem dX6_joined_16 : decode cX6_joined 16 = .ok (.aload_n 0, 1) := by decide +kernel
theorem dX6_joined_17 : decode cX6_joined 17 = .ok (.getfield 78, 3) := by decide +kernel
theorem dX6_joined_20 : decode cX6_joined 20 = .ok (.iconst 0, 1) := by decide +kernel
theorem dX6_joined_21 : decode cX6_joined 21 = .ok (.iaload, 1) := by decide +kernel
theorem dX6_joined_22 : decode cX6_joined 22 = .ok (.ireturn, 1) := by decide +kernel
set_option maxRecDepth 20000 in
theorem ggX6_joinedTo_X6_in : GoodIn wsX6_joinedTo wsX6_in := goodIn_r _ [6] (by decide +kernel) (by decide +kernel)
set_option maxRecDepth 20000 in
theorem gX6_joinedTo_X6_in : GoodIn wsX6_joinedTo (va_wsS RX6 92 yX6_in wsX6_in) := goodIn_app (goodIn_of _ (by decide +kernel)) ggX6_joinedTo_X6_in
set_option maxRecDepth 20000 in
theorem ggX6_joinedTo_X6_findJoined : GoodIn wsX6_joinedTo wsX6_findJoined := goodIn_r _ [10, 1, 11, 12, 13, 2, 14, 15, 16, 5, 17, 18, 19, 20, 21, 22, 23, 24, 25, 26, 27, 28, 29, 30, 31, 32, 33, 34, 35, 36, 37, 38, 39, 40, 41, 42, 43, 44, 45, 46, 47, 48, 49, 50, 51, 52, 53, 54, 55, 56, 57, 58, 59, 60, 61] (by decide +kernel) (by decide +kernel)
set_option maxRecDepth 20000 in
theorem gX6_joinedTo_X6_findJoined : GoodIn wsX6_joinedTo (wsV RX6 222 RX6 yX6_findJoined wsX6_findJoined) := goodIn_app (goodIn_of _ (by decide +kernel)) ggX6_joinedTo_X6_findJoined
theorem dX6_joinedTo_0 : decode cX6_joinedTo 0 = .ok (.iload_n 1, 1) := by decide +kernel
theorem dX6_joinedTo_1 : decode cX6_joinedTo 1 = .ok (.i2l, 1) := by decide +kernel
theorem dX6_joinedTo_2 : decode cX6_joinedTo 2 = .ok (.lconst 0, 1) := by decide +kernel
theorem dX6_joinedTo_3 : decode cX6_joinedTo 3 = .ok (.aload_n 0, 1) := by decide +kernel
theorem dX6_joinedTo_4 : decode cX6_joinedTo 4 = .ok (.getfield 212, 3) := by decide +kernel
theorem dX6_joinedTo_7 : decode cX6_joinedTo 7 = .ok (.iconst 1, 1) := by decide +kernel
theorem dX6_joinedTo_8 : decode cX6_joinedTo 8 = .ok (.isub, 1) := by decide +kernel
theorem dX6_joinedTo_9 : decode cX6_joinedTo 9 = .ok (.i2l, 1) := by decide +kernel
theorem dX6_joinedTo_10 : decode cX6_joinedTo 10 = .ok (.invokestatic 92, 3) := by decide +kernel
theorem dX6_joinedTo_13 : decode cX6_joinedTo 13 = .ok (.ifCond .ne 6, 3) := by decide +kernel
theorem dX6_joinedTo_16 : decode cX6_joinedTo 16 = .ok (.bipush (-2), 2) := by decide +kernel
theorem dX6_joinedTo_18 : decode cX6_joinedTo 18 = .ok (.ireturn, 1) := by decide +kernel
theorem dX6_joinedTo_19 : decode cX6_joinedTo 19 = .ok (.aload_n 0, 1) := by decide +kernel
theorem dX6_joinedTo_20 : decode cX6_joinedTo 20 = .ok (.getfield 212, 3) := by decide +kernel
theorem dX6_joinedTo_23 : decode cX6_joinedTo 23 = .ok (.bipush 6, 2) := by decide +kernel
theorem dX6_joinedTo_25 : decode cX6_joinedTo 25 = .ok (.if_icmp .le 6, 3) := by decide +kernel
theorem dX6_joinedTo_28 : decode cX6_joinedTo 28 = .ok (.bipush (-3), 2) := by decide +kernel
theorem dX6_joinedTo_30 : decode cX6_joinedTo 30 = .ok (.ireturn, 1) := by decide +kernel
theorem dX6_joinedTo_31 : decode cX6_joinedTo 31 = .ok (.aload_n 0, 1) := by decide +kernel
theorem dX6_joinedTo_32 : decode cX6_joinedTo 32 = .ok (.invokevirtual 222, 3) := by decide +kernel
theorem dX6_joinedTo_35 : decode cX6_joinedTo 35 = .ok (.aload_n 0, 1) := by decide +kernel
theorem dX6_joinedTo_36 : decode cX6_joinedTo 36 = .ok (.getfield 81, 3) := by decide +kernel
theorem dX6_joinedTo_39 : decode cX6_joinedTo 39 = .ok (.iload_n 1, 1) := by decide +kernel
theorem dX6_joinedTo_40 : decode cX6_joinedTo 40 = .ok (.iaload, 1) := by decide +kernel
theorem dX6_joinedTo_41 : decode cX6_joinedTo 41 = .ok (.ireturn, 1) := by decide +kernel
set_option maxRecDepth 20000 in
theorem ggX6_owe_X6_isPair : GoodIn wsX6_owe wsX6_isPair := goodIn_r _ [6, 7, 8, 5, 9, 10, 11, 12, 13] (by decide +kernel) (by decide +kernel)
set_option maxRecDepth 20000 in
theorem gX6_owe_X6_isPair : GoodIn wsX6_owe (va_wsS RX6 177 yX6_isPair wsX6_isPair) := goodIn_app (goodIn_of _ (by decide +kernel)) ggX6_owe_X6_isPair
set_option maxRecDepth 20000 in
theorem ggX6_owe_X6_in : GoodIn wsX6_owe wsX6_in := goodIn_r _ [13] (by decide +kernel) (by decide +kernel)
set_option maxRecDepth 20000 in
theorem gX6_owe_X6_in : GoodIn wsX6_owe (va_wsS RX6 92 yX6_in wsX6_in) := goodIn_app (goodIn_of _ (by decide +kernel)) ggX6_owe_X6_in
theorem dX6_owe_0 : decode cX6_owe 0 = .ok (.iload_n 1, 1) := by decide +kernel
theorem dX6_owe_1 : decode cX6_owe 1 = .ok (.iload_n 2, 1) := by decide +kernel
theorem dX6_owe_2 : decode cX6_owe 2 = .ok (.invokestatic 177, 3) := by decide +kernel
theorem dX6_owe_5 : decode cX6_owe 5 = .ok (.ifCond .eq 15, 3) := by decide +kernel
theorem dX6_owe_8 : decode cX6_owe 8 = .ok (.iload_n 3, 1) := by decide +kernel
theorem dX6_owe_9 : decode cX6_owe 9 = .ok (.i2l, 1) := by decide +kernel
theorem dX6_owe_10 : decode cX6_owe 10 = .ok (.lconst 0, 1) := by decide +kernel
theorem dX6_owe_11 : decode cX6_owe 11 = .ok (.ldc2_w 225, 3) := by decide +kernel
theorem dX6_owe_14 : decode cX6_owe 14 = .ok (.invokestatic 92, 3) := by decide +kernel
theorem dX6_owe_17 : decode cX6_owe 17 = .ok (.ifCond .ne 6, 3) := by decide +kernel
theorem dX6_owe_20 : decode cX6_owe 20 = .ok (.bipush (-2), 2) := by decide +kernel
theorem dX6_owe_22 : decode cX6_owe 22 = .ok (.ireturn, 1) := by decide +kernel
theorem dX6_owe_23 : decode cX6_owe 23 = .ok (.aload_n 0, 1) := by decide +kernel
theorem dX6_owe_24 : decode cX6_owe 24 = .ok (.getfield 87, 3) := by decide +kernel
theorem dX6_owe_27 : decode cX6_owe 27 = .ok (.bipush 8, 2) := by decide +kernel
theorem dX6_owe_29 : decode cX6_owe 29 = .ok (.iload_n 1, 1) := by decide +kernel
theorem dX6_owe_30 : decode cX6_owe 30 = .ok (.imul, 1) := by decide +kernel
theorem dX6_owe_31 : decode cX6_owe 31 = .ok (.iload_n 2, 1) := by decide +kernel
theorem dX6_owe_32 : decode cX6_owe 32 = .ok (.iadd, 1) := by decide +kernel
theorem dX6_owe_33 : decode cX6_owe 33 = .ok (.iaload, 1) := by decide +kernel
theorem dX6_owe_34 : decode cX6_owe 34 = .ok (.istore 4, 2) := by decide +kernel
theorem dX6_owe_36 : decode cX6_owe 36 = .ok (.aload_n 0, 1) := by decide +kernel
theorem dX6_owe_37 : decode cX6_owe 37 = .ok (.getfield 87, 3) := by decide +kernel
theorem dX6_owe_40 : decode cX6_owe 40 = .ok (.bipush 8, 2) := by decide +kernel
theorem dX6_owe_42 : decode cX6_owe 42 = .ok (.iload_n 1, 1) := by decide +kernel
theorem dX6_owe_43 : decode cX6_owe 43 = .ok (.imul, 1) := by decide +kernel
theorem dX6_owe_44 : decode cX6_owe 44 = .ok (.iload_n 2, 1) := by decide +kernel
theorem dX6_owe_45 : decode cX6_owe 45 = .ok (.iadd, 1) := by decide +kernel
theorem dX6_owe_46 : decode cX6_owe 46 = .ok (.iload_n 3, 1) := by decide +kernel
theorem dX6_owe_47 : decode cX6_owe 47 = .ok (.iastore, 1) := by decide +kernel
theorem dX6_owe_48 : decode cX6_owe 48 = .ok (.iload 4, 2) := by decide +kernel
theorem dX6_owe_50 : decode cX6_owe 50 = .ok (.ireturn, 1) := by decide +kernel
theorem dX6_owed_0 : decode cX6_owed 0 = .ok (.iconst 0, 1) := by decide +kernel
theorem dX6_owed_1 : decode cX6_owed 1 = .ok (.istore_n 3, 1) := by decide +kernel
theorem dX6_owed_2 : decode cX6_owed 2 = .ok (.iconst 0, 1) := by decide +kernel
theorem dX6_owed_3 : decode cX6_owed 3 = .ok (.istore 4, 2) := by decide +kernel
theorem dX6_owed_5 : decode cX6_owed 5 = .ok (.iload 4, 2) := by decide +kernel
theorem dX6_owed_7 : decode cX6_owed 7 = .ok (.bipush 8, 2) := by decide +kernel
theorem dX6_owed_9 : decode cX6_owed 9 = .ok (.if_icmp .ge 37, 3) := by decide +kernel
theorem dX6_owed_12 : decode cX6_owed 12 = .ok (.iload_n 3, 1) := by decide +kernel
theorem dX6_owed_13 : decode cX6_owed 13 = .ok (.iload_n 2, 1) := by decide +kernel
theorem dX6_owed_14 : decode cX6_owed 14 = .ok (.iload 4, 2) := by decide +kernel
theorem dX6_owed_16 : decode cX6_owed 16 = .ok (.ishr, 1) := by decide +kernel
theorem dX6_owed_17 : decode cX6_owed 17 = .ok (.iconst 1, 1) := by decide +kernel
theorem dX6_owed_18 : decode cX6_owed 18 = .ok (.iand, 1) := by decide +kernel
theorem dX6_owed_19 : decode cX6_owed 19 = .ok (.ifCond .ne 18, 3) := by decide +kernel
theorem dX6_owed_22 : decode cX6_owed 22 = .ok (.aload_n 0, 1) := by decide +kernel
theorem dX6_owed_23 : decode cX6_owed 23 = .ok (.getfield 87, 3) := by decide +kernel
theorem dX6_owed_26 : decode cX6_owed 26 = .ok (.bipush 8, 2) := by decide +kernel
theorem dX6_owed_28 : decode cX6_owed 28 = .ok (.iload 4, 2) := by decide +kernel
theorem dX6_owed_30 : decode cX6_owed 30 = .ok (.imul, 1) := by decide +kernel
theorem dX6_owed_31 : decode cX6_owed 31 = .ok (.iload_n 1, 1) := by decide +kernel
theorem dX6_owed_32 : decode cX6_owed 32 = .ok (.iadd, 1) := by decide +kernel
theorem dX6_owed_33 : decode cX6_owed 33 = .ok (.iaload, 1) := by decide +kernel
theorem dX6_owed_34 : decode cX6_owed 34 = .ok (.goto 4, 3) := by decide +kernel
theorem dX6_owed_37 : decode cX6_owed 37 = .ok (.iconst 0, 1) := by decide +kernel
theorem dX6_owed_38 : decode cX6_owed 38 = .ok (.iadd, 1) := by decide +kernel
theorem dX6_owed_39 : decode cX6_owed 39 = .ok (.istore_n 3, 1) := by decide +kernel
theorem dX6_owed_40 : decode cX6_owed 40 = .ok (.iinc 4 1, 3) := by decide +kernel
theorem dX6_owed_43 : decode cX6_owed 43 = .ok (.goto (-38), 3) := by decide +kernel
theorem dX6_owed_46 : decode cX6_owed 46 = .ok (.iload_n 3, 1) := by decide +kernel
theorem dX6_owed_47 : decode cX6_owed 47 = .ok (.ireturn, 1) := by decide +kernel
theorem dX6_owing_0 : decode cX6_owing 0 = .ok (.iconst 0, 1) := by decide +kernel
theorem dX6_owing_1 : decode cX6_owing 1 = .ok (.istore_n 2, 1) := by decide +kernel
theorem dX6_owing_2 : decode cX6_owing 2 = .ok (.iconst 0, 1) := by decide +kernel
theorem dX6_owing_3 : decode cX6_owing 3 = .ok (.istore_n 3, 1) := by decide +kernel
theorem dX6_owing_4 : decode cX6_owing 4 = .ok (.iload_n 3, 1) := by decide +kernel
theorem dX6_owing_5 : decode cX6_owing 5 = .ok (.bipush 8, 2) := by decide +kernel
theorem dX6_owing_7 : decode cX6_owing 7 = .ok (.if_icmp .ge 23, 3) := by decide +kernel
theorem dX6_owing_10 : decode cX6_owing 10 = .ok (.iload_n 2, 1) := by decide +kernel
theorem dX6_owing_11 : decode cX6_owing 11 = .ok (.aload_n 0, 1) := by decide +kernel
theorem dX6_owing_12 : decode cX6_owing 12 = .ok (.getfield 87, 3) := by decide +kernel
theorem dX6_owing_15 : decode cX6_owing 15 = .ok (.bipush 8, 2) := by decide +kernel
theorem dX6_owing_17 : decode cX6_owing 17 = .ok (.iload_n 1, 1) := by decide +kernel
theorem dX6_owing_18 : decode cX6_owing 18 = .ok (.imul, 1) := by decide +kernel
theorem dX6_owing_19 : decode cX6_owing 19 = .ok (.iload_n 3, 1) := by decide +kernel
theorem dX6_owing_20 : decode cX6_owing 20 = .ok (.iadd, 1) := by decide +kernel
theorem dX6_owing_21 : decode cX6_owing 21 = .ok (.iaload, 1) := by decide +kernel
theorem dX6_owing_22 : decode cX6_owing 22 = .ok (.iadd, 1) := by decide +kernel
theorem dX6_owing_23 : decode cX6_owing 23 = .ok (.istore_n 2, 1) := by decide +kernel
theorem dX6_owing_24 : decode cX6_owing 24 = .ok (.iinc 3 1, 3) := by decide +kernel
theorem dX6_owing_27 : decode cX6_owing 27 = .ok (.goto (-23), 3) := by decide +kernel
theorem dX6_owing_30 : decode cX6_owing 30 = .ok (.iload_n 2, 1) := by decide +kernel
theorem dX6_owing_31 : decode cX6_owing 31 = .ok (.ireturn, 1) := by decide +kernel
set_option maxRecDepth 20000 in
theorem ggX6_net_X6_isDealer : GoodIn wsX6_net wsX6_isDealer := goodIn_r _ [5, 6, 7, 8, 4, 9] (by decide +kernel) (by decide +kernel)
set_option maxRecDepth 20000 in
theorem gX6_net_X6_isDealer : GoodIn wsX6_net (va_wsS RX6 140 yX6_isDealer wsX6_isDealer) := goodIn_app (goodIn_of _ (by decide +kernel)) ggX6_net_X6_isDealer
set_option maxRecDepth 20000 in
theorem ggX6_net_X6_owed : GoodIn wsX6_net wsX6_owed := goodIn_r _ [13, 14, 19, 20, 21, 22, 23, 24, 25, 26, 27, 28, 29, 30, 31, 32, 33, 34, 35, 36, 37, 38, 39, 40, 41, 42, 43, 44, 45, 46, 47, 48, 49, 50, 51, 52, 53, 54, 55, 56] (by decide +kernel) (by decide +kernel)
set_option maxRecDepth 20000 in
theorem gX6_net_X6_owed : GoodIn wsX6_net (wsV RX6 227 RX6 yX6_owed wsX6_owed) := goodIn_app (goodIn_of _ (by decide +kernel)) ggX6_net_X6_owed
set_option maxRecDepth 20000 in
theorem ggX6_net_X6_owing : GoodIn wsX6_net wsX6_owing := goodIn_r _ [18, 14, 19, 20, 21, 22, 23, 24, 25, 26, 27, 28, 29, 30, 31, 32, 33, 34, 35, 36, 37, 38, 39, 40, 41, 42, 43, 44, 45, 46, 47, 48, 49, 50, 51, 52, 53, 54, 55, 56] (by decide +kernel) (by decide +kernel)
set_option maxRecDepth 20000 in
theorem gX6_net_X6_owing : GoodIn wsX6_net (wsV RX6 230 RX6 yX6_owing wsX6_owing) := goodIn_app (goodIn_of _ (by decide +kernel)) ggX6_net_X6_owing
theorem dX6_net_0 : decode cX6_net 0 = .ok (.iload_n 1, 1) := by decide +kernel
theorem dX6_net_1 : decode cX6_net 1 = .ok (.invokestatic 140, 3) := by decide +kernel
theorem dX6_net_4 : decode cX6_net 4 = .ok (.ifCond .eq 18, 3) := by decide +kernel
theorem dX6_net_7 : decode cX6_net 7 = .ok (.aload_n 0, 1) := by decide +kernel
theorem dX6_net_8 : decode cX6_net 8 = .ok (.iload_n 1, 1) := by decide +kernel
theorem dX6_net_9 : decode cX6_net 9 = .ok (.iconst 0, 1) := by decide +kernel
theorem dX6_net_10 : decode cX6_net 10 = .ok (.invokevirtual 227, 3) := by decide +kernel
theorem dX6_net_13 : decode cX6_net 13 = .ok (.aload_n 0, 1) := by decide +kernel
theorem dX6_net_14 : decode cX6_net 14 = .ok (.iload_n 1, 1) := by decide +kernel
theorem dX6_net_15 : decode cX6_net 15 = .ok (.invokevirtual 230, 3) := by decide +kernel
theorem dX6_net_18 : decode cX6_net 18 = .ok (.isub, 1) := by decide +kernel
theorem dX6_net_19 : decode cX6_net 19 = .ok (.goto 5, 3) := by decide +kernel
theorem dX6_net_22 : decode cX6_net 22 = .ok (.ldc 159, 2) := by decide +kernel
theorem dX6_net_24 : decode cX6_net 24 = .ok (.ireturn, 1) := by decide +kernel
set_option maxRecDepth 20000 in
theorem ggX6_fall_X6_isDealer : GoodIn wsX6_fall wsX6_isDealer := goodIn_r _ [5, 6, 7, 8, 4, 9] (by decide +kernel) (by decide +kernel)
set_option maxRecDepth 20000 in
theorem gX6_fall_X6_isDealer : GoodIn wsX6_fall (va_wsS RX6 140 yX6_isDealer wsX6_isDealer) := goodIn_app (goodIn_of _ (by decide +kernel)) ggX6_fall_X6_isDealer
set_option maxRecDepth 20000 in
theorem ggX6_fall_X6_in : GoodIn wsX6_fall wsX6_in := goodIn_r _ [9] (by decide +kernel) (by decide +kernel)
set_option maxRecDepth 20000 in
theorem gX6_fall_X6_in : GoodIn wsX6_fall (va_wsS RX6 92 yX6_in wsX6_in) := goodIn_app (goodIn_of _ (by decide +kernel)) ggX6_fall_X6_in
set_option maxRecDepth 20000 in
theorem ggX6_fall_X6_owed : GoodIn wsX6_fall wsX6_owed := goodIn_r _ [13, 14, 19, 20, 21, 22, 23, 24, 25, 26, 27, 28, 29, 30, 31, 32, 33, 34, 35, 36, 37, 38, 39, 40, 41, 42, 43, 44, 45, 46, 47, 48, 49, 50, 51, 52, 53, 54, 55, 56] (by decide +kernel) (by decide +kernel)
set_option maxRecDepth 20000 in
theorem gX6_fall_X6_owed : GoodIn wsX6_fall (wsV RX6 227 RX6 yX6_owed wsX6_owed) := goodIn_app (goodIn_of _ (by decide +kernel)) ggX6_fall_X6_owed
set_option maxRecDepth 20000 in
theorem ggX6_fall_X6_owing : GoodIn wsX6_fall wsX6_owing := goodIn_r _ [18, 14, 19, 20, 21, 22, 23, 24, 25, 26, 27, 28, 29, 30, 31, 32, 33, 34, 35, 36, 37, 38, 39, 40, 41, 42, 43, 44, 45, 46, 47, 48, 49, 50, 51, 52, 53, 54, 55, 56] (by decide +kernel) (by decide +kernel)
set_option maxRecDepth 20000 in
theorem gX6_fall_X6_owing : GoodIn wsX6_fall (wsV RX6 230 RX6 yX6_owing wsX6_owing) := goodIn_app (goodIn_of _ (by decide +kernel)) ggX6_fall_X6_owing
theorem dX6_fall_0 : decode cX6_fall 0 = .ok (.iload_n 1, 1) := by decide +kernel
theorem dX6_fall_1 : decode cX6_fall 1 = .ok (.invokestatic 140, 3) := by decide +kernel
theorem dX6_fall_4 : decode cX6_fall 4 = .ok (.ifCond .eq 15, 3) := by decide +kernel
theorem dX6_fall_7 : decode cX6_fall 7 = .ok (.iload_n 2, 1) := by decide +kernel
theorem dX6_fall_8 : decode cX6_fall 8 = .ok (.i2l, 1) := by decide +kernel
theorem dX6_fall_9 : decode cX6_fall 9 = .ok (.lconst 0, 1) := by decide +kernel
theorem dX6_fall_10 : decode cX6_fall 10 = .ok (.ldc2_w 143, 3) := by decide +kernel
theorem dX6_fall_13 : decode cX6_fall 13 = .ok (.invokestatic 92, 3) := by decide +kernel
theorem dX6_fall_16 : decode cX6_fall 16 = .ok (.ifCond .ne 6, 3) := by decide +kernel
theorem dX6_fall_19 : decode cX6_fall 19 = .ok (.bipush (-2), 2) := by decide +kernel
theorem dX6_fall_21 : decode cX6_fall 21 = .ok (.ireturn, 1) := by decide +kernel
theorem dX6_fall_22 : decode cX6_fall 22 = .ok (.iconst 1, 1) := by decide +kernel
theorem dX6_fall_23 : decode cX6_fall 23 = .ok (.iload_n 1, 1) := by decide +kernel
theorem dX6_fall_24 : decode cX6_fall 24 = .ok (.ishl, 1) := by decide +kernel
theorem dX6_fall_25 : decode cX6_fall 25 = .ok (.istore_n 3, 1) := by decide +kernel
theorem dX6_fall_26 : decode cX6_fall 26 = .ok (.iconst 0, 1) := by decide +kernel
theorem dX6_fall_27 : decode cX6_fall 27 = .ok (.istore 4, 2) := by decide +kernel
theorem dX6_fall_29 : decode cX6_fall 29 = .ok (.iload_n 3, 1) := by decide +kernel
theorem dX6_fall_30 : decode cX6_fall 30 = .ok (.iload 4, 2) := by decide +kernel
theorem dX6_fall_32 : decode cX6_fall 32 = .ok (.if_icmp .eq 55, 3) := by decide +kernel
theorem dX6_fall_35 : decode cX6_fall 35 = .ok (.iload_n 3, 1) := by decide +kernel
theorem dX6_fall_36 : decode cX6_fall 36 = .ok (.istore 4, 2) := by decide +kernel
theorem dX6_fall_38 : decode cX6_fall 38 = .ok (.iconst 0, 1) := by decide +kernel
theorem dX6_fall_39 : decode cX6_fall 39 = .ok (.istore 5, 2) := by decide +kernel
theorem dX6_fall_41 : decode cX6_fall 41 = .ok (.iload 5, 2) := by decide +kernel
theorem dX6_fall_43 : decode cX6_fall 43 = .ok (.bipush 8, 2) := by decide +kernel
theorem dX6_fall_45 : decode cX6_fall 45 = .ok (.if_icmp .ge 39, 3) := by decide +kernel
theorem dX6_fall_48 : decode cX6_fall 48 = .ok (.iload_n 3, 1) := by decide +kernel
theorem dX6_fall_49 : decode cX6_fall 49 = .ok (.iload_n 2, 1) := by decide +kernel
theorem dX6_fall_50 : decode cX6_fall 50 = .ok (.aload_n 0, 1) := by decide +kernel
theorem dX6_fall_51 : decode cX6_fall 51 = .ok (.iload 5, 2) := by decide +kernel
theorem dX6_fall_53 : decode cX6_fall 53 = .ok (.iload 4, 2) := by decide +kernel
theorem dX6_fall_55 : decode cX6_fall 55 = .ok (.invokevirtual 227, 3) := by decide +kernel
theorem dX6_fall_58 : decode cX6_fall 58 = .ok (.iadd, 1) := by decide +kernel
theorem dX6_fall_59 : decode cX6_fall 59 = .ok (.aload_n 0, 1) := by decide +kernel
theorem dX6_fall_60 : decode cX6_fall 60 = .ok (.iload 5, 2) := by decide +kernel
theorem dX6_fall_62 : decode cX6_fall 62 = .ok (.invokevirtual 230, 3) := by decide +kernel
theorem dX6_fall_65 : decode cX6_fall 65 = .ok (.if_icmp .ge 10, 3) := by decide +kernel
theorem dX6_fall_68 : decode cX6_fall 68 = .ok (.iconst 1, 1) := by decide +kernel
theorem dX6_fall_69 : decode cX6_fall 69 = .ok (.iload 5, 2) := by decide +kernel
theorem dX6_fall_71 : decode cX6_fall 71 = .ok (.ishl, 1) := by decide +kernel
theorem dX6_fall_72 : decode cX6_fall 72 = .ok (.goto 4, 3) := by decide +kernel
theorem dX6_fall_75 : decode cX6_fall 75 = .ok (.iconst 0, 1) := by decide +kernel
theorem dX6_fall_76 : decode cX6_fall 76 = .ok (.ior, 1) := by decide +kernel
theorem dX6_fall_77 : decode cX6_fall 77 = .ok (.istore_n 3, 1) := by decide +kernel
theorem dX6_fall_78 : decode cX6_fall 78 = .ok (.iinc 5 1, 3) := by decide +kernel
theorem dX6_fall_81 : decode cX6_fall 81 = .ok (.goto (-40), 3) := by decide +kernel
theorem dX6_fall_84 : decode cX6_fall 84 = .ok (.goto (-55), 3) := by decide +kernel
theorem dX6_fall_87 : decode cX6_fall 87 = .ok (.iload_n 3, 1) := by decide +kernel
theorem dX6_fall_88 : decode cX6_fall 88 = .ok (.ireturn, 1) := by decide +kernel
theorem dX6_standing_0 : decode cX6_standing 0 = .ok (.iconst 0, 1) := by decide +kernel
theorem dX6_standing_1 : decode cX6_standing 1 = .ok (.istore_n 1, 1) := by decide +kernel
theorem dX6_standing_2 : decode cX6_standing 2 = .ok (.iconst 0, 1) := by decide +kernel
theorem dX6_standing_3 : decode cX6_standing 3 = .ok (.istore_n 2, 1) := by decide +kernel
theorem dX6_standing_4 : decode cX6_standing 4 = .ok (.iload_n 2, 1) := by decide +kernel
theorem dX6_standing_5 : decode cX6_standing 5 = .ok (.aload_n 0, 1) := by decide +kernel
theorem dX6_standing_6 : decode cX6_standing 6 = .ok (.getfield 137, 3) := by decide +kernel
theorem dX6_standing_9 : decode cX6_standing 9 = .ok (.if_icmp .ge 18, 3) := by decide +kernel
theorem dX6_standing_12 : decode cX6_standing 12 = .ok (.iload_n 1, 1) := by decide +kernel
theorem dX6_standing_13 : decode cX6_standing 13 = .ok (.aload_n 0, 1) := by decide +kernel
theorem dX6_standing_14 : decode cX6_standing 14 = .ok (.getfield 56, 3) := by decide +kernel
theorem dX6_standing_17 : decode cX6_standing 17 = .ok (.iload_n 2, 1) := by decide +kernel
theorem dX6_standing_18 : decode cX6_standing 18 = .ok (.iaload, 1) := by decide +kernel
theorem dX6_standing_19 : decode cX6_standing 19 = .ok (.iadd, 1) := by decide +kernel
theorem dX6_standing_20 : decode cX6_standing 20 = .ok (.istore_n 1, 1) := by decide +kernel
theorem dX6_standing_21 : decode cX6_standing 21 = .ok (.iinc 2 1, 3) := by decide +kernel
theorem dX6_standing_24 : decode cX6_standing 24 = .ok (.goto (-20), 3) := by decide +kernel
theorem dX6_standing_27 : decode cX6_standing 27 = .ok (.iload_n 1, 1) := by decide +kernel
theorem dX6_standing_28 : decode cX6_standing 28 = .ok (.ireturn, 1) := by decide +kernel
set_option maxRecDepth 20000 in
theorem ggX6_allDebts_X6_owing : GoodIn wsX6_allDebts wsX6_owing := goodIn_r _ [5, 6, 7, 8, 9, 10, 11, 12, 13, 14, 15, 16, 17, 18, 19, 20, 21, 22, 23, 24, 25, 26, 27, 28, 29, 30, 31, 32, 33, 34, 35, 36, 37, 38, 39, 40, 41, 42, 43, 44] (by decide +kernel) (by decide +kernel)
set_option maxRecDepth 20000 in
theorem gX6_allDebts_X6_owing : GoodIn wsX6_allDebts (wsV RX6 230 RX6 yX6_owing wsX6_owing) := goodIn_app (goodIn_of _ (by decide +kernel)) ggX6_allDebts_X6_owing
theorem dX6_allDebts_0 : decode cX6_allDebts 0 = .ok (.iconst 0, 1) := by decide +kernel
theorem dX6_allDebts_1 : decode cX6_allDebts 1 = .ok (.istore_n 1, 1) := by decide +kernel
theorem dX6_allDebts_2 : decode cX6_allDebts 2 = .ok (.iconst 0, 1) := by decide +kernel
theorem dX6_allDebts_3 : decode cX6_allDebts 3 = .ok (.istore_n 2, 1) := by decide +kernel
theorem dX6_allDebts_4 : decode cX6_allDebts 4 = .ok (.iload_n 2, 1) := by decide +kernel
theorem dX6_allDebts_5 : decode cX6_allDebts 5 = .ok (.bipush 8, 2) := by decide +kernel
theorem dX6_allDebts_7 : decode cX6_allDebts 7 = .ok (.if_icmp .ge 17, 3) := by decide +kernel
theorem dX6_allDebts_10 : decode cX6_allDebts 10 = .ok (.iload_n 1, 1) := by decide +kernel
theorem dX6_allDebts_11 : decode cX6_allDebts 11 = .ok (.aload_n 0, 1) := by decide +kernel
theorem dX6_allDebts_12 : decode cX6_allDebts 12 = .ok (.iload_n 2, 1) := by decide +kernel
theorem dX6_allDebts_13 : decode cX6_allDebts 13 = .ok (.invokevirtual 230, 3) := by decide +kernel
theorem dX6_allDebts_16 : decode cX6_allDebts 16 = .ok (.iadd, 1) := by decide +kernel
theorem dX6_allDebts_17 : decode cX6_allDebts 17 = .ok (.istore_n 1, 1) := by decide +kernel
theorem dX6_allDebts_18 : decode cX6_allDebts 18 = .ok (.iinc 2 1, 3) := by decide +kernel
theorem dX6_allDebts_21 : decode cX6_allDebts 21 = .ok (.goto (-17), 3) := by decide +kernel
theorem dX6_allDebts_24 : decode cX6_allDebts 24 = .ok (.iload_n 1, 1) := by decide +kernel
theorem dX6_allDebts_25 : decode cX6_allDebts 25 = .ok (.ireturn, 1) := by decide +kernel
set_option maxRecDepth 20000 in
theorem ggX6_count_X6_standing : GoodIn wsX6_count wsX6_standing := goodIn_r _ [10, 2, 11, 21, 22, 23, 24, 25, 26, 27, 28, 29, 30, 31, 32, 33, 34, 35, 36, 37, 38, 39, 40, 41, 42, 43, 44, 45, 46, 47, 48, 49, 50, 51, 52, 53, 54, 55, 56, 57, 58] (by decide +kernel) (by decide +kernel)
set_option maxRecDepth 20000 in
theorem gX6_count_X6_standing : GoodIn wsX6_count (wsV RX6 233 RX6 yX6_standing wsX6_standing) := goodIn_app (goodIn_of _ (by decide +kernel)) ggX6_count_X6_standing
set_option maxRecDepth 20000 in
theorem ggX6_count_X6_allDebts : GoodIn wsX6_count wsX6_allDebts := goodIn_r _ [15, 16, 17, 18, 9, 19, 20, 21, 22, 23, 24, 25, 26, 27, 28, 29, 30, 31, 32, 33, 34, 35, 36, 37, 38, 39, 40, 41, 42, 43, 44, 45, 46, 47, 48, 49, 50, 51, 52, 53, 54, 55, 56, 57, 58] (by decide +kernel) (by decide +kernel)
set_option maxRecDepth 20000 in
theorem gX6_count_X6_allDebts : GoodIn wsX6_count (wsV RX6 237 RX6 yX6_allDebts wsX6_allDebts) := goodIn_app (goodIn_of _ (by decide +kernel)) ggX6_count_X6_allDebts
theorem dX6_count_0 : decode cX6_count 0 = .ok (.iload_n 1, 1) := by decide +kernel
theorem dX6_count_1 : decode cX6_count 1 = .ok (.tableswitch 78 0 6 #[43, 48, 53, 58, 63, 68, 73], 43) := by decide +kernel
theorem dX6_count_44 : decode cX6_count 44 = .ok (.aload_n 0, 1) := by decide +kernel
theorem dX6_count_45 : decode cX6_count 45 = .ok (.getfield 104, 3) := by decide +kernel
theorem dX6_count_48 : decode cX6_count 48 = .ok (.ireturn, 1) := by decide +kernel
theorem dX6_count_49 : decode cX6_count 49 = .ok (.aload_n 0, 1) := by decide +kernel
theorem dX6_count_50 : decode cX6_count 50 = .ok (.getfield 137, 3) := by decide +kernel
theorem dX6_count_53 : decode cX6_count 53 = .ok (.ireturn, 1) := by decide +kernel
theorem dX6_count_54 : decode cX6_count 54 = .ok (.aload_n 0, 1) := by decide +kernel
theorem dX6_count_55 : decode cX6_count 55 = .ok (.invokevirtual 233, 3) := by decide +kernel
theorem dX6_count_58 : decode cX6_count 58 = .ok (.ireturn, 1) := by decide +kernel
theorem dX6_count_59 : decode cX6_count 59 = .ok (.aload_n 0, 1) := by decide +kernel
theorem dX6_count_60 : decode cX6_count 60 = .ok (.getfield 162, 3) := by decide +kernel
theorem dX6_count_63 : decode cX6_count 63 = .ok (.ireturn, 1) := by decide +kernel
theorem dX6_count_64 : decode cX6_count 64 = .ok (.aload_n 0, 1) := by decide +kernel
theorem dX6_count_65 : decode cX6_count 65 = .ok (.getfield 212, 3) := by decide +kernel
theorem dX6_count_68 : decode cX6_count 68 = .ok (.ireturn, 1) := by decide +kernel
theorem dX6_count_69 : decode cX6_count 69 = .ok (.aload_n 0, 1) := by decide +kernel
theorem dX6_count_70 : decode cX6_count 70 = .ok (.getfield 34, 3) := by decide +kernel
theorem dX6_count_73 : decode cX6_count 73 = .ok (.ireturn, 1) := by decide +kernel
theorem dX6_count_74 : decode cX6_count 74 = .ok (.aload_n 0, 1) := by decide +kernel
theorem dX6_count_75 : decode cX6_count 75 = .ok (.invokevirtual 237, 3) := by decide +kernel
theorem dX6_count_78 : decode cX6_count 78 = .ok (.ireturn, 1) := by decide +kernel
theorem dX6_count_79 : decode cX6_count 79 = .ok (.bipush (-2), 2) := by decide +kernel
theorem dX6_count_81 : decode cX6_count 81 = .ok (.ireturn, 1) := by decide +kernel
set_option maxRecDepth 20000 in
theorem ggX6_digest_X6_count : GoodIn wsX6_digest wsX6_count := goodIn_r _ [22, 5, 11, 12, 16, 23, 24, 25, 26, 21, 27, 28, 29, 30, 31, 32, 33, 34, 35, 36, 37, 56, 57, 58, 59, 60, 61, 62, 63, 64, 65, 66, 67, 68, 69, 70, 71, 72, 73, 74, 75, 76, 77, 78, 79, 80, 81, 82, 83, 84, 85, 86, 87, 88, 89, 90, 91, 92, 93] (by decide +kernel) (by decide +kernel)
set_option maxRecDepth 20000 in
theorem gX6_digest_X6_count : GoodIn wsX6_digest (wsV RX6 244 RX6 yX6_count wsX6_count) := goodIn_app (goodIn_of _ (by decide +kernel)) ggX6_digest_X6_count
set_option maxRecDepth 20000 in
theorem ggX6_digest_X6_saleOf : GoodIn wsX6_digest wsX6_saleOf := goodIn_r _ [41, 42, 43, 44, 45, 46, 47, 28, 56, 57, 58, 59, 60, 61, 62, 63, 64, 65, 66, 67, 68, 69, 70, 71, 72, 73, 74, 75, 76, 77, 78, 79, 80, 81, 82, 83, 84, 85, 86, 87, 88, 89, 90, 91, 92, 93] (by decide +kernel) (by decide +kernel)
set_option maxRecDepth 20000 in
theorem gX6_digest_X6_saleOf : GoodIn wsX6_digest (wsV RX6 152 RX6 yX6_saleOf wsX6_saleOf) := goodIn_app (goodIn_of _ (by decide +kernel)) ggX6_digest_X6_saleOf
set_option maxRecDepth 20000 in
theorem ggX6_digest_X6_gainOf : GoodIn wsX6_digest wsX6_gainOf := goodIn_r _ [51, 11, 28, 43, 45, 44, 56, 57, 58, 59, 60, 61, 62, 63, 64, 65, 66, 67, 68, 69, 70, 71, 72, 73, 74, 75, 76, 77, 78, 79, 80, 81, 82, 83, 84, 85, 86, 87, 88, 89, 90, 91, 92, 93] (by decide +kernel) (by decide +kernel)
set_option maxRecDepth 20000 in
theorem gX6_digest_X6_gainOf : GoodIn wsX6_digest (wsV RX6 156 RX6 yX6_gainOf wsX6_gainOf) := goodIn_app (goodIn_of _ (by decide +kernel)) ggX6_digest_X6_gainOf
set_option maxRecDepth 20000 in
theorem ggX6_digest_X6_owed : GoodIn wsX6_digest wsX6_owed := goodIn_r _ [55, 37, 56, 57, 58, 59, 60, 61, 62, 63, 64, 65, 66, 67, 68, 69, 70, 71, 72, 73, 74, 75, 76, 77, 78, 79, 80, 81, 82, 83, 84, 85, 86, 87, 88, 89, 90, 91, 92, 93] (by decide +kernel) (by decide +kernel)
set_option maxRecDepth 20000 in
theorem gX6_digest_X6_owed : GoodIn wsX6_digest (wsV RX6 227 RX6 yX6_owed wsX6_owed) := goodIn_app (goodIn_of _ (by decide +kernel)) ggX6_digest_X6_owed
set_option maxRecDepth 20000 in
theorem ggX6_digest_X6_owing : GoodIn wsX6_digest wsX6_owing := goodIn_r _ [36, 37, 56, 57, 58, 59, 60, 61, 62, 63, 64, 65, 66, 67, 68, 69, 70, 71, 72, 73, 74, 75, 76, 77, 78, 79, 80, 81, 82, 83, 84, 85, 86, 87, 88, 89, 90, 91, 92, 93] (by decide +kernel) (by decide +kernel)
set_option maxRecDepth 20000 in
theorem gX6_digest_X6_owing : GoodIn wsX6_digest (wsV RX6 230 RX6 yX6_owing wsX6_owing) := goodIn_app (goodIn_of _ (by decide +kernel)) ggX6_digest_X6_owing
theorem dX6_digest_0 : decode cX6_digest 0 = .ok (.ldc2_w 240, 3) := by decide +kernel
theorem dX6_digest_3 : decode cX6_digest 3 = .ok (.lstore_n 1, 1) := by decide +kernel
theorem dX6_digest_4 : decode cX6_digest 4 = .ok (.iconst 0, 1) := by decide +kernel
theorem dX6_digest_5 : decode cX6_digest 5 = .ok (.istore_n 3, 1) := by decide +kernel
theorem dX6_digest_6 : decode cX6_digest 6 = .ok (.iload_n 3, 1) := by decide +kernel
theorem dX6_digest_7 : decode cX6_digest 7 = .ok (.bipush 7, 2) := by decide +kernel
theorem dX6_digest_9 : decode cX6_digest 9 = .ok (.if_icmp .ge 22, 3) := by decide +kernel
theorem dX6_digest_12 : decode cX6_digest 12 = .ok (.ldc2_w 242, 3) := by decide +kernel
theorem dX6_digest_15 : decode cX6_digest 15 = .ok (.lload_n 1, 1) := by decide +kernel
theorem dX6_digest_16 : decode cX6_digest 16 = .ok (.lmul, 1) := by decide +kernel
theorem dX6_digest_17 : decode cX6_digest 17 = .ok (.aload_n 0, 1) := by decide +kernel
theorem dX6_digest_18 : decode cX6_digest 18 = .ok (.iload_n 3, 1) := by decide +kernel
theorem dX6_digest_19 : decode cX6_digest 19 = .ok (.invokevirtual 244, 3) := by decide +kernel
theorem dX6_digest_22 : decode cX6_digest 22 = .ok (.i2l, 1) := by decide +kernel
theorem dX6_digest_23 : decode cX6_digest 23 = .ok (.ladd, 1) := by decide +kernel
theorem dX6_digest_24 : decode cX6_digest 24 = .ok (.lstore_n 1, 1) := by decide +kernel
theorem dX6_digest_25 : decode cX6_digest 25 = .ok (.iinc 3 1, 3) := by decide +kernel
theorem dX6_digest_28 : decode cX6_digest 28 = .ok (.goto (-22), 3) := by decide +kernel
theorem dX6_digest_31 : decode cX6_digest 31 = .ok (.iconst 0, 1) := by decide +kernel
theorem dX6_digest_32 : decode cX6_digest 32 = .ok (.istore_n 3, 1) := by decide +kernel
theorem dX6_digest_33 : decode cX6_digest 33 = .ok (.iload_n 3, 1) := by decide +kernel
theorem dX6_digest_34 : decode cX6_digest 34 = .ok (.bipush 10, 2) := by decide +kernel
theorem dX6_digest_36 : decode cX6_digest 36 = .ok (.if_icmp .ge 37, 3) := by decide +kernel
theorem dX6_digest_39 : decode cX6_digest 39 = .ok (.ldc2_w 242, 3) := by decide +kernel
theorem dX6_digest_42 : decode cX6_digest 42 = .ok (.lload_n 1, 1) := by decide +kernel
theorem dX6_digest_43 : decode cX6_digest 43 = .ok (.lmul, 1) := by decide +kernel
theorem dX6_digest_44 : decode cX6_digest 44 = .ok (.aload_n 0, 1) := by decide +kernel
theorem dX6_digest_45 : decode cX6_digest 45 = .ok (.getfield 7, 3) := by decide +kernel
theorem dX6_digest_48 : decode cX6_digest 48 = .ok (.iload_n 3, 1) := by decide +kernel
theorem dX6_digest_49 : decode cX6_digest 49 = .ok (.iaload, 1) := by decide +kernel
theorem dX6_digest_50 : decode cX6_digest 50 = .ok (.i2l, 1) := by decide +kernel
theorem dX6_digest_51 : decode cX6_digest 51 = .ok (.ladd, 1) := by decide +kernel
theorem dX6_digest_52 : decode cX6_digest 52 = .ok (.lstore_n 1, 1) := by decide +kernel
theorem dX6_digest_53 : decode cX6_digest 53 = .ok (.ldc2_w 242, 3) := by decide +kernel
theorem dX6_digest_56 : decode cX6_digest 56 = .ok (.lload_n 1, 1) := by decide +kernel
theorem dX6_digest_57 : decode cX6_digest 57 = .ok (.lmul, 1) := by decide +kernel
theorem dX6_digest_58 : decode cX6_digest 58 = .ok (.aload_n 0, 1) := by decide +kernel
theorem dX6_digest_59 : decode cX6_digest 59 = .ok (.getfield 13, 3) := by decide +kernel
theorem dX6_digest_62 : decode cX6_digest 62 = .ok (.iload_n 3, 1) := by decide +kernel
theorem dX6_digest_63 : decode cX6_digest 63 = .ok (.iaload, 1) := by decide +kernel
theorem dX6_digest_64 : decode cX6_digest 64 = .ok (.i2l, 1) := by decide +kernel
theorem dX6_digest_65 : decode cX6_digest 65 = .ok (.ladd, 1) := by decide +kernel
theorem dX6_digest_66 : decode cX6_digest 66 = .ok (.lstore_n 1, 1) := by decide +kernel
theorem dX6_digest_67 : decode cX6_digest 67 = .ok (.iinc 3 1, 3) := by decide +kernel
theorem dX6_digest_70 : decode cX6_digest 70 = .ok (.goto (-37), 3) := by decide +kernel
theorem dX6_digest_73 : decode cX6_digest 73 = .ok (.iconst 0, 1) := by decide +kernel
theorem dX6_digest_74 : decode cX6_digest 74 = .ok (.istore_n 3, 1) := by decide +kernel
theorem dX6_digest_75 : decode cX6_digest 75 = .ok (.iload_n 3, 1) := by decide +kernel
theorem dX6_digest_76 : decode cX6_digest 76 = .ok (.aload_n 0, 1) := by decide +kernel
theorem dX6_digest_77 : decode cX6_digest 77 = .ok (.getfield 104, 3) := by decide +kernel
theorem dX6_digest_80 : decode cX6_digest 80 = .ok (.if_icmp .ge 104, 3) := by decide +kernel
theorem dX6_digest_83 : decode cX6_digest 83 = .ok (.ldc2_w 242, 3) := by decide +kernel
theorem dX6_digest_86 : decode cX6_digest 86 = .ok (.lload_n 1, 1) := by decide +kernel
theorem dX6_digest_87 : decode cX6_digest 87 = .ok (.lmul, 1) := by decide +kernel
theorem dX6_digest_88 : decode cX6_digest 88 = .ok (.aload_n 0, 1) := by decide +kernel
theorem dX6_digest_89 : decode cX6_digest 89 = .ok (.getfield 16, 3) := by decide +kernel
theorem dX6_digest_92 : decode cX6_digest 92 = .ok (.iload_n 3, 1) := by decide +kernel
theorem dX6_digest_93 : decode cX6_digest 93 = .ok (.iaload, 1) := by decide +kernel
theorem dX6_digest_94 : decode cX6_digest 94 = .ok (.i2l, 1) := by decide +kernel
theorem dX6_digest_95 : decode cX6_digest 95 = .ok (.ladd, 1) := by decide +kernel
theorem dX6_digest_96 : decode cX6_digest 96 = .ok (.lstore_n 1, 1) := by decide +kernel
theorem dX6_digest_97 : decode cX6_digest 97 = .ok (.iconst 0, 1) := by decide +kernel
theorem dX6_digest_98 : decode cX6_digest 98 = .ok (.istore 4, 2) := by decide +kernel
theorem dX6_digest_100 : decode cX6_digest 100 = .ok (.iload 4, 2) := by decide +kernel
theorem dX6_digest_102 : decode cX6_digest 102 = .ok (.aload_n 0, 1) := by decide +kernel
theorem dX6_digest_103 : decode cX6_digest 103 = .ok (.getfield 16, 3) := by decide +kernel
theorem dX6_digest_106 : decode cX6_digest 106 = .ok (.iload_n 3, 1) := by decide +kernel
theorem dX6_digest_107 : decode cX6_digest 107 = .ok (.iaload, 1) := by decide +kernel
theorem dX6_digest_108 : decode cX6_digest 108 = .ok (.if_icmp .ge 28, 3) := by decide +kernel
theorem dX6_digest_111 : decode cX6_digest 111 = .ok (.ldc2_w 242, 3) := by decide +kernel
theorem dX6_digest_114 : decode cX6_digest 114 = .ok (.lload_n 1, 1) := by decide +kernel
theorem dX6_digest_115 : decode cX6_digest 115 = .ok (.lmul, 1) := by decide +kernel
theorem dX6_digest_116 : decode cX6_digest 116 = .ok (.aload_n 0, 1) := by decide +kernel
theorem dX6_digest_117 : decode cX6_digest 117 = .ok (.getfield 19, 3) := by decide +kernel
theorem dX6_digest_120 : decode cX6_digest 120 = .ok (.iconst 5, 1) := by decide +kernel
theorem dX6_digest_121 : decode cX6_digest 121 = .ok (.iload_n 3, 1) := by decide +kernel
theorem dX6_digest_122 : decode cX6_digest 122 = .ok (.imul, 1) := by decide +kernel
theorem dX6_digest_123 : decode cX6_digest 123 = .ok (.iload 4, 2) := by decide +kernel
theorem dX6_digest_125 : decode cX6_digest 125 = .ok (.iadd, 1) := by decide +kernel
theorem dX6_digest_126 : decode cX6_digest 126 = .ok (.iaload, 1) := by decide +kernel
theorem dX6_digest_127 : decode cX6_digest 127 = .ok (.i2l, 1) := by decide +kernel
theorem dX6_digest_128 : decode cX6_digest 128 = .ok (.ladd, 1) := by decide +kernel
theorem dX6_digest_129 : decode cX6_digest 129 = .ok (.lstore_n 1, 1) := by decide +kernel
theorem dX6_digest_130 : decode cX6_digest 130 = .ok (.iinc 4 1, 3) := by decide +kernel
theorem dX6_digest_133 : decode cX6_digest 133 = .ok (.goto (-33), 3) := by decide +kernel
theorem dX6_digest_136 : decode cX6_digest 136 = .ok (.ldc2_w 242, 3) := by decide +kernel
theorem dX6_digest_139 : decode cX6_digest 139 = .ok (.lload_n 1, 1) := by decide +kernel
theorem dX6_digest_140 : decode cX6_digest 140 = .ok (.lmul, 1) := by decide +kernel
theorem dX6_digest_141 : decode cX6_digest 141 = .ok (.aload_n 0, 1) := by decide +kernel
theorem dX6_digest_142 : decode cX6_digest 142 = .ok (.getfield 22, 3) := by decide +kernel
theorem dX6_digest_145 : decode cX6_digest 145 = .ok (.iload_n 3, 1) := by decide +kernel
theorem dX6_digest_146 : decode cX6_digest 146 = .ok (.iaload, 1) := by decide +kernel
theorem dX6_digest_147 : decode cX6_digest 147 = .ok (.i2l, 1) := by decide +kernel
theorem dX6_digest_148 : decode cX6_digest 148 = .ok (.ladd, 1) := by decide +kernel
theorem dX6_digest_149 : decode cX6_digest 149 = .ok (.lstore_n 1, 1) := by decide +kernel
theorem dX6_digest_150 : decode cX6_digest 150 = .ok (.ldc2_w 242, 3) := by decide +kernel
theorem dX6_digest_153 : decode cX6_digest 153 = .ok (.lload_n 1, 1) := by decide +kernel
theorem dX6_digest_154 : decode cX6_digest 154 = .ok (.lmul, 1) := by decide +kernel
theorem dX6_digest_155 : decode cX6_digest 155 = .ok (.aload_n 0, 1) := by decide +kernel
theorem dX6_digest_156 : decode cX6_digest 156 = .ok (.getfield 28, 3) := by decide +kernel
theorem dX6_digest_159 : decode cX6_digest 159 = .ok (.iload_n 3, 1) := by decide +kernel
theorem dX6_digest_160 : decode cX6_digest 160 = .ok (.iaload, 1) := by decide +kernel
theorem dX6_digest_161 : decode cX6_digest 161 = .ok (.i2l, 1) := by decide +kernel
theorem dX6_digest_162 : decode cX6_digest 162 = .ok (.ladd, 1) := by decide +kernel
theorem dX6_digest_163 : decode cX6_digest 163 = .ok (.lstore_n 1, 1) := by decide +kernel
theorem dX6_digest_164 : decode cX6_digest 164 = .ok (.ldc2_w 242, 3) := by decide +kernel
theorem dX6_digest_167 : decode cX6_digest 167 = .ok (.lload_n 1, 1) := by decide +kernel
theorem dX6_digest_168 : decode cX6_digest 168 = .ok (.lmul, 1) := by decide +kernel
theorem dX6_digest_169 : decode cX6_digest 169 = .ok (.aload_n 0, 1) := by decide +kernel
theorem dX6_digest_170 : decode cX6_digest 170 = .ok (.getfield 31, 3) := by decide +kernel
theorem dX6_digest_173 : decode cX6_digest 173 = .ok (.iload_n 3, 1) := by decide +kernel
theorem dX6_digest_174 : decode cX6_digest 174 = .ok (.iaload, 1) := by decide +kernel
theorem dX6_digest_175 : decode cX6_digest 175 = .ok (.i2l, 1) := by decide +kernel
theorem dX6_digest_176 : decode cX6_digest 176 = .ok (.ladd, 1) := by decide +kernel
theorem dX6_digest_177 : decode cX6_digest 177 = .ok (.lstore_n 1, 1) := by decide +kernel
theorem dX6_digest_178 : decode cX6_digest 178 = .ok (.iinc 3 1, 3) := by decide +kernel
theorem dX6_digest_181 : decode cX6_digest 181 = .ok (.goto (-106), 3) := by decide +kernel
theorem dX6_digest_184 : decode cX6_digest 184 = .ok (.iconst 0, 1) := by decide +kernel
theorem dX6_digest_185 : decode cX6_digest 185 = .ok (.istore_n 3, 1) := by decide +kernel
theorem dX6_digest_186 : decode cX6_digest 186 = .ok (.iload_n 3, 1) := by decide +kernel
theorem dX6_digest_187 : decode cX6_digest 187 = .ok (.aload_n 0, 1) := by decide +kernel
theorem dX6_digest_188 : decode cX6_digest 188 = .ok (.getfield 137, 3) := by decide +kernel
theorem dX6_digest_191 : decode cX6_digest 191 = .ok (.if_icmp .ge 40, 3) := by decide +kernel
theorem dX6_digest_194 : decode cX6_digest 194 = .ok (.iconst 0, 1) := by decide +kernel
theorem dX6_digest_195 : decode cX6_digest 195 = .ok (.istore 4, 2) := by decide +kernel
theorem dX6_digest_197 : decode cX6_digest 197 = .ok (.iload 4, 2) := by decide +kernel
theorem dX6_digest_199 : decode cX6_digest 199 = .ok (.bipush 7, 2) := by decide +kernel
theorem dX6_digest_201 : decode cX6_digest 201 = .ok (.if_icmp .ge 24, 3) := by decide +kernel
theorem dX6_digest_204 : decode cX6_digest 204 = .ok (.ldc2_w 242, 3) := by decide +kernel
theorem dX6_digest_207 : decode cX6_digest 207 = .ok (.lload_n 1, 1) := by decide +kernel
theorem dX6_digest_208 : decode cX6_digest 208 = .ok (.lmul, 1) := by decide +kernel
theorem dX6_digest_209 : decode cX6_digest 209 = .ok (.aload_n 0, 1) := by decide +kernel
theorem dX6_digest_210 : decode cX6_digest 210 = .ok (.iload_n 3, 1) := by decide +kernel
theorem dX6_digest_211 : decode cX6_digest 211 = .ok (.iload 4, 2) := by decide +kernel
theorem dX6_digest_213 : decode cX6_digest 213 = .ok (.invokevirtual 152, 3) := by decide +kernel
theorem dX6_digest_216 : decode cX6_digest 216 = .ok (.i2l, 1) := by decide +kernel
theorem dX6_digest_217 : decode cX6_digest 217 = .ok (.ladd, 1) := by decide +kernel
theorem dX6_digest_218 : decode cX6_digest 218 = .ok (.lstore_n 1, 1) := by decide +kernel
theorem dX6_digest_219 : decode cX6_digest 219 = .ok (.iinc 4 1, 3) := by decide +kernel
theorem dX6_digest_222 : decode cX6_digest 222 = .ok (.goto (-25), 3) := by decide +kernel
theorem dX6_digest_225 : decode cX6_digest 225 = .ok (.iinc 3 1, 3) := by decide +kernel
theorem dX6_digest_228 : decode cX6_digest 228 = .ok (.goto (-42), 3) := by decide +kernel
theorem dX6_digest_231 : decode cX6_digest 231 = .ok (.iconst 0, 1) := by decide +kernel
theorem dX6_digest_232 : decode cX6_digest 232 = .ok (.istore_n 3, 1) := by decide +kernel
theorem dX6_digest_233 : decode cX6_digest 233 = .ok (.iload_n 3, 1) := by decide +kernel
theorem dX6_digest_234 : decode cX6_digest 234 = .ok (.aload_n 0, 1) := by decide +kernel
theorem dX6_digest_235 : decode cX6_digest 235 = .ok (.getfield 162, 3) := by decide +kernel
theorem dX6_digest_238 : decode cX6_digest 238 = .ok (.if_icmp .ge 51, 3) := by decide +kernel
theorem dX6_digest_241 : decode cX6_digest 241 = .ok (.ldc2_w 242, 3) := by decide +kernel
theorem dX6_digest_244 : decode cX6_digest 244 = .ok (.lload_n 1, 1) := by decide +kernel
theorem dX6_digest_245 : decode cX6_digest 245 = .ok (.lmul, 1) := by decide +kernel
theorem dX6_digest_246 : decode cX6_digest 246 = .ok (.aload_n 0, 1) := by decide +kernel
theorem dX6_digest_247 : decode cX6_digest 247 = .ok (.getfield 62, 3) := by decide +kernel
theorem dX6_digest_250 : decode cX6_digest 250 = .ok (.iload_n 3, 1) := by decide +kernel
theorem dX6_digest_251 : decode cX6_digest 251 = .ok (.iaload, 1) := by decide +kernel
theorem dX6_digest_252 : decode cX6_digest 252 = .ok (.i2l, 1) := by decide +kernel
theorem dX6_digest_253 : decode cX6_digest 253 = .ok (.ladd, 1) := by decide +kernel
theorem dX6_digest_254 : decode cX6_digest 254 = .ok (.lstore_n 1, 1) := by decide +kernel
theorem dX6_digest_255 : decode cX6_digest 255 = .ok (.ldc2_w 242, 3) := by decide +kernel
theorem dX6_digest_258 : decode cX6_digest 258 = .ok (.lload_n 1, 1) := by decide +kernel
theorem dX6_digest_259 : decode cX6_digest 259 = .ok (.lmul, 1) := by decide +kernel
theorem dX6_digest_260 : decode cX6_digest 260 = .ok (.aload_n 0, 1) := by decide +kernel
theorem dX6_digest_261 : decode cX6_digest 261 = .ok (.getfield 65, 3) := by decide +kernel
theorem dX6_digest_264 : decode cX6_digest 264 = .ok (.iload_n 3, 1) := by decide +kernel
theorem dX6_digest_265 : decode cX6_digest 265 = .ok (.iaload, 1) := by decide +kernel
theorem dX6_digest_266 : decode cX6_digest 266 = .ok (.i2l, 1) := by decide +kernel
theorem dX6_digest_267 : decode cX6_digest 267 = .ok (.ladd, 1) := by decide +kernel
theorem dX6_digest_268 : decode cX6_digest 268 = .ok (.lstore_n 1, 1) := by decide +kernel
theorem dX6_digest_269 : decode cX6_digest 269 = .ok (.ldc2_w 242, 3) := by decide +kernel
theorem dX6_digest_272 : decode cX6_digest 272 = .ok (.lload_n 1, 1) := by decide +kernel
theorem dX6_digest_273 : decode cX6_digest 273 = .ok (.lmul, 1) := by decide +kernel
theorem dX6_digest_274 : decode cX6_digest 274 = .ok (.aload_n 0, 1) := by decide +kernel
theorem dX6_digest_275 : decode cX6_digest 275 = .ok (.getfield 68, 3) := by decide +kernel
theorem dX6_digest_278 : decode cX6_digest 278 = .ok (.iload_n 3, 1) := by decide +kernel
theorem dX6_digest_279 : decode cX6_digest 279 = .ok (.iaload, 1) := by decide +kernel
theorem dX6_digest_280 : decode cX6_digest 280 = .ok (.i2l, 1) := by decide +kernel
theorem dX6_digest_281 : decode cX6_digest 281 = .ok (.ladd, 1) := by decide +kernel
theorem dX6_digest_282 : decode cX6_digest 282 = .ok (.lstore_n 1, 1) := by decide +kernel
theorem dX6_digest_283 : decode cX6_digest 283 = .ok (.iinc 3 1, 3) := by decide +kernel
theorem dX6_digest_286 : decode cX6_digest 286 = .ok (.goto (-53), 3) := by decide +kernel
theorem dX6_digest_289 : decode cX6_digest 289 = .ok (.iconst 0, 1) := by decide +kernel
theorem dX6_digest_290 : decode cX6_digest 290 = .ok (.istore_n 3, 1) := by decide +kernel
theorem dX6_digest_291 : decode cX6_digest 291 = .ok (.iload_n 3, 1) := by decide +kernel
theorem dX6_digest_292 : decode cX6_digest 292 = .ok (.aload_n 0, 1) := by decide +kernel
theorem dX6_digest_293 : decode cX6_digest 293 = .ok (.getfield 212, 3) := by decide +kernel
theorem dX6_digest_296 : decode cX6_digest 296 = .ok (.if_icmp .ge 23, 3) := by decide +kernel
theorem dX6_digest_299 : decode cX6_digest 299 = .ok (.ldc2_w 242, 3) := by decide +kernel
theorem dX6_digest_302 : decode cX6_digest 302 = .ok (.lload_n 1, 1) := by decide +kernel
theorem dX6_digest_303 : decode cX6_digest 303 = .ok (.lmul, 1) := by decide +kernel
theorem dX6_digest_304 : decode cX6_digest 304 = .ok (.aload_n 0, 1) := by decide +kernel
theorem dX6_digest_305 : decode cX6_digest 305 = .ok (.getfield 75, 3) := by decide +kernel
theorem dX6_digest_308 : decode cX6_digest 308 = .ok (.iload_n 3, 1) := by decide +kernel
theorem dX6_digest_309 : decode cX6_digest 309 = .ok (.iaload, 1) := by decide +kernel
theorem dX6_digest_310 : decode cX6_digest 310 = .ok (.i2l, 1) := by decide +kernel
theorem dX6_digest_311 : decode cX6_digest 311 = .ok (.ladd, 1) := by decide +kernel
theorem dX6_digest_312 : decode cX6_digest 312 = .ok (.lstore_n 1, 1) := by decide +kernel
theorem dX6_digest_313 : decode cX6_digest 313 = .ok (.iinc 3 1, 3) := by decide +kernel
theorem dX6_digest_316 : decode cX6_digest 316 = .ok (.goto (-25), 3) := by decide +kernel
theorem dX6_digest_319 : decode cX6_digest 319 = .ok (.iconst 0, 1) := by decide +kernel
theorem dX6_digest_320 : decode cX6_digest 320 = .ok (.istore_n 3, 1) := by decide +kernel
theorem dX6_digest_321 : decode cX6_digest 321 = .ok (.iload_n 3, 1) := by decide +kernel
theorem dX6_digest_322 : decode cX6_digest 322 = .ok (.bipush 8, 2) := by decide +kernel
theorem dX6_digest_324 : decode cX6_digest 324 = .ok (.if_icmp .ge 42, 3) := by decide +kernel
theorem dX6_digest_327 : decode cX6_digest 327 = .ok (.ldc2_w 242, 3) := by decide +kernel
theorem dX6_digest_330 : decode cX6_digest 330 = .ok (.lload_n 1, 1) := by decide +kernel
theorem dX6_digest_331 : decode cX6_digest 331 = .ok (.lmul, 1) := by decide +kernel
theorem dX6_digest_332 : decode cX6_digest 332 = .ok (.aload_n 0, 1) := by decide +kernel
theorem dX6_digest_333 : decode cX6_digest 333 = .ok (.iload_n 3, 1) := by decide +kernel
theorem dX6_digest_334 : decode cX6_digest 334 = .ok (.invokevirtual 156, 3) := by decide +kernel
theorem dX6_digest_337 : decode cX6_digest 337 = .ok (.i2l, 1) := by decide +kernel
theorem dX6_digest_338 : decode cX6_digest 338 = .ok (.ladd, 1) := by decide +kernel
theorem dX6_digest_339 : decode cX6_digest 339 = .ok (.lstore_n 1, 1) := by decide +kernel
end
section
theorem dX6_digest_340 : decode cX6_digest 340 = .ok (.ldc2_w 242, 3) := by decide +kernel
theorem dX6_digest_343 : decode cX6_digest 343 = .ok (.lload_n 1, 1) := by decide +kernel
theorem dX6_digest_344 : decode cX6_digest 344 = .ok (.lmul, 1) := by decide +kernel
theorem dX6_digest_345 : decode cX6_digest 345 = .ok (.aload_n 0, 1) := by decide +kernel
theorem dX6_digest_346 : decode cX6_digest 346 = .ok (.iload_n 3, 1) := by decide +kernel
theorem dX6_digest_347 : decode cX6_digest 347 = .ok (.iconst 0, 1) := by decide +kernel
theorem dX6_digest_348 : decode cX6_digest 348 = .ok (.invokevirtual 227, 3) := by decide +kernel
theorem dX6_digest_351 : decode cX6_digest 351 = .ok (.aload_n 0, 1) := by decide +kernel
theorem dX6_digest_352 : decode cX6_digest 352 = .ok (.iload_n 3, 1) := by decide +kernel
theorem dX6_digest_353 : decode cX6_digest 353 = .ok (.invokevirtual 230, 3) := by decide +kernel
theorem dX6_digest_356 : decode cX6_digest 356 = .ok (.isub, 1) := by decide +kernel
theorem dX6_digest_357 : decode cX6_digest 357 = .ok (.i2l, 1) := by decide +kernel
theorem dX6_digest_358 : decode cX6_digest 358 = .ok (.ladd, 1) := by decide +kernel
theorem dX6_digest_359 : decode cX6_digest 359 = .ok (.lstore_n 1, 1) := by decide +kernel
theorem dX6_digest_360 : decode cX6_digest 360 = .ok (.iinc 3 1, 3) := by decide +kernel
theorem dX6_digest_363 : decode cX6_digest 363 = .ok (.goto (-42), 3) := by decide +kernel
theorem dX6_digest_366 : decode cX6_digest 366 = .ok (.lload_n 1, 1) := by decide +kernel
theorem dX6_digest_367 : decode cX6_digest 367 = .ok (.lreturn, 1) := by decide +kernel
theorem dJ6_bitCount_0f7a4_0 : decode cJ6_bitCount_0f7a4 0 = .ok (.iload_n 0, 1) := by decide +kernel
theorem dJ6_bitCount_0f7a4_1 : decode cJ6_bitCount_0f7a4 1 = .ok (.iload_n 0, 1) := by decide +kernel
theorem dJ6_bitCount_0f7a4_2 : decode cJ6_bitCount_0f7a4 2 = .ok (.iconst 1, 1) := by decide +kernel
theorem dJ6_bitCount_0f7a4_3 : decode cJ6_bitCount_0f7a4 3 = .ok (.iushr, 1) := by decide +kernel
theorem dJ6_bitCount_0f7a4_4 : decode cJ6_bitCount_0f7a4 4 = .ok (.ldc_w 265, 3) := by decide +kernel
theorem dJ6_bitCount_0f7a4_7 : decode cJ6_bitCount_0f7a4 7 = .ok (.iand, 1) := by decide +kernel
theorem dJ6_bitCount_0f7a4_8 : decode cJ6_bitCount_0f7a4 8 = .ok (.isub, 1) := by decide +kernel
theorem dJ6_bitCount_0f7a4_9 : decode cJ6_bitCount_0f7a4 9 = .ok (.istore_n 0, 1) := by decide +kernel
theorem dJ6_bitCount_0f7a4_10 : decode cJ6_bitCount_0f7a4 10 = .ok (.iload_n 0, 1) := by decide +kernel
theorem dJ6_bitCount_0f7a4_11 : decode cJ6_bitCount_0f7a4 11 = .ok (.ldc_w 266, 3) := by decide +kernel
theorem dJ6_bitCount_0f7a4_14 : decode cJ6_bitCount_0f7a4 14 = .ok (.iand, 1) := by decide +kernel
theorem dJ6_bitCount_0f7a4_15 : decode cJ6_bitCount_0f7a4 15 = .ok (.iload_n 0, 1) := by decide +kernel
theorem dJ6_bitCount_0f7a4_16 : decode cJ6_bitCount_0f7a4 16 = .ok (.iconst 2, 1) := by decide +kernel
theorem dJ6_bitCount_0f7a4_17 : decode cJ6_bitCount_0f7a4 17 = .ok (.iushr, 1) := by decide +kernel
theorem dJ6_bitCount_0f7a4_18 : decode cJ6_bitCount_0f7a4 18 = .ok (.ldc_w 266, 3) := by decide +kernel
theorem dJ6_bitCount_0f7a4_21 : decode cJ6_bitCount_0f7a4 21 = .ok (.iand, 1) := by decide +kernel
theorem dJ6_bitCount_0f7a4_22 : decode cJ6_bitCount_0f7a4 22 = .ok (.iadd, 1) := by decide +kernel
theorem dJ6_bitCount_0f7a4_23 : decode cJ6_bitCount_0f7a4 23 = .ok (.istore_n 0, 1) := by decide +kernel
theorem dJ6_bitCount_0f7a4_24 : decode cJ6_bitCount_0f7a4 24 = .ok (.iload_n 0, 1) := by decide +kernel
theorem dJ6_bitCount_0f7a4_25 : decode cJ6_bitCount_0f7a4 25 = .ok (.iload_n 0, 1) := by decide +kernel
theorem dJ6_bitCount_0f7a4_26 : decode cJ6_bitCount_0f7a4 26 = .ok (.iconst 4, 1) := by decide +kernel
theorem dJ6_bitCount_0f7a4_27 : decode cJ6_bitCount_0f7a4 27 = .ok (.iushr, 1) := by decide +kernel
theorem dJ6_bitCount_0f7a4_28 : decode cJ6_bitCount_0f7a4 28 = .ok (.iadd, 1) := by decide +kernel
theorem dJ6_bitCount_0f7a4_29 : decode cJ6_bitCount_0f7a4 29 = .ok (.ldc_w 267, 3) := by decide +kernel
theorem dJ6_bitCount_0f7a4_32 : decode cJ6_bitCount_0f7a4 32 = .ok (.iand, 1) := by decide +kernel
theorem dJ6_bitCount_0f7a4_33 : decode cJ6_bitCount_0f7a4 33 = .ok (.istore_n 0, 1) := by decide +kernel
theorem dJ6_bitCount_0f7a4_34 : decode cJ6_bitCount_0f7a4 34 = .ok (.iload_n 0, 1) := by decide +kernel
theorem dJ6_bitCount_0f7a4_35 : decode cJ6_bitCount_0f7a4 35 = .ok (.iload_n 0, 1) := by decide +kernel
theorem dJ6_bitCount_0f7a4_36 : decode cJ6_bitCount_0f7a4 36 = .ok (.bipush 8, 2) := by decide +kernel
theorem dJ6_bitCount_0f7a4_38 : decode cJ6_bitCount_0f7a4 38 = .ok (.iushr, 1) := by decide +kernel
theorem dJ6_bitCount_0f7a4_39 : decode cJ6_bitCount_0f7a4 39 = .ok (.iadd, 1) := by decide +kernel
theorem dJ6_bitCount_0f7a4_40 : decode cJ6_bitCount_0f7a4 40 = .ok (.istore_n 0, 1) := by decide +kernel
theorem dJ6_bitCount_0f7a4_41 : decode cJ6_bitCount_0f7a4 41 = .ok (.iload_n 0, 1) := by decide +kernel
theorem dJ6_bitCount_0f7a4_42 : decode cJ6_bitCount_0f7a4 42 = .ok (.iload_n 0, 1) := by decide +kernel
theorem dJ6_bitCount_0f7a4_43 : decode cJ6_bitCount_0f7a4 43 = .ok (.bipush 16, 2) := by decide +kernel
theorem dJ6_bitCount_0f7a4_45 : decode cJ6_bitCount_0f7a4 45 = .ok (.iushr, 1) := by decide +kernel
theorem dJ6_bitCount_0f7a4_46 : decode cJ6_bitCount_0f7a4 46 = .ok (.iadd, 1) := by decide +kernel
theorem dJ6_bitCount_0f7a4_47 : decode cJ6_bitCount_0f7a4 47 = .ok (.istore_n 0, 1) := by decide +kernel
theorem dJ6_bitCount_0f7a4_48 : decode cJ6_bitCount_0f7a4 48 = .ok (.iload_n 0, 1) := by decide +kernel
theorem dJ6_bitCount_0f7a4_49 : decode cJ6_bitCount_0f7a4 49 = .ok (.bipush 63, 2) := by decide +kernel
theorem dJ6_bitCount_0f7a4_51 : decode cJ6_bitCount_0f7a4 51 = .ok (.iand, 1) := by decide +kernel
theorem dJ6_bitCount_0f7a4_52 : decode cJ6_bitCount_0f7a4 52 = .ok (.ireturn, 1) := by decide +kernel
theorem dJ9_max_7cf53_0 : decode cJ9_max_7cf53 0 = .ok (.iload_n 0, 1) := by decide +kernel
theorem dJ9_max_7cf53_1 : decode cJ9_max_7cf53 1 = .ok (.iload_n 1, 1) := by decide +kernel
theorem dJ9_max_7cf53_2 : decode cJ9_max_7cf53 2 = .ok (.if_icmp .lt 7, 3) := by decide +kernel
theorem dJ9_max_7cf53_5 : decode cJ9_max_7cf53 5 = .ok (.iload_n 0, 1) := by decide +kernel
theorem dJ9_max_7cf53_6 : decode cJ9_max_7cf53 6 = .ok (.goto 4, 3) := by decide +kernel
theorem dJ9_max_7cf53_9 : decode cJ9_max_7cf53 9 = .ok (.iload_n 1, 1) := by decide +kernel
theorem dJ9_max_7cf53_10 : decode cJ9_max_7cf53 10 = .ok (.ireturn, 1) := by decide +kernel
theorem dJ9_max_f86c9_0 : decode cJ9_max_f86c9 0 = .ok (.lload_n 0, 1) := by decide +kernel
theorem dJ9_max_f86c9_1 : decode cJ9_max_f86c9 1 = .ok (.lload_n 2, 1) := by decide +kernel
theorem dJ9_max_f86c9_2 : decode cJ9_max_f86c9 2 = .ok (.lcmp, 1) := by decide +kernel
theorem dJ9_max_f86c9_3 : decode cJ9_max_f86c9 3 = .ok (.ifCond .lt 7, 3) := by decide +kernel
theorem dJ9_max_f86c9_6 : decode cJ9_max_f86c9 6 = .ok (.lload_n 0, 1) := by decide +kernel
theorem dJ9_max_f86c9_7 : decode cJ9_max_f86c9 7 = .ok (.goto 4, 3) := by decide +kernel
theorem dJ9_max_f86c9_10 : decode cJ9_max_f86c9 10 = .ok (.lload_n 2, 1) := by decide +kernel
theorem dJ9_max_f86c9_11 : decode cJ9_max_f86c9 11 = .ok (.lreturn, 1) := by decide +kernel
theorem dJ9_min_7cf53_0 : decode cJ9_min_7cf53 0 = .ok (.iload_n 0, 1) := by decide +kernel
theorem dJ9_min_7cf53_1 : decode cJ9_min_7cf53 1 = .ok (.iload_n 1, 1) := by decide +kernel
theorem dJ9_min_7cf53_2 : decode cJ9_min_7cf53 2 = .ok (.if_icmp .gt 7, 3) := by decide +kernel
theorem dJ9_min_7cf53_5 : decode cJ9_min_7cf53 5 = .ok (.iload_n 0, 1) := by decide +kernel
theorem dJ9_min_7cf53_6 : decode cJ9_min_7cf53 6 = .ok (.goto 4, 3) := by decide +kernel
theorem dJ9_min_7cf53_9 : decode cJ9_min_7cf53 9 = .ok (.iload_n 1, 1) := by decide +kernel
theorem dJ9_min_7cf53_10 : decode cJ9_min_7cf53 10 = .ok (.ireturn, 1) := by decide +kernel
theorem dJ7_fill_53178_0 : decode cJ7_fill_53178 0 = .ok (.iconst 0, 1) := by decide +kernel
theorem dJ7_fill_53178_1 : decode cJ7_fill_53178 1 = .ok (.istore_n 2, 1) := by decide +kernel
theorem dJ7_fill_53178_2 : decode cJ7_fill_53178 2 = .ok (.aload_n 0, 1) := by decide +kernel
theorem dJ7_fill_53178_3 : decode cJ7_fill_53178 3 = .ok (.arraylength, 1) := by decide +kernel
theorem dJ7_fill_53178_4 : decode cJ7_fill_53178 4 = .ok (.istore_n 3, 1) := by decide +kernel
theorem dJ7_fill_53178_5 : decode cJ7_fill_53178 5 = .ok (.iload_n 2, 1) := by decide +kernel
theorem dJ7_fill_53178_6 : decode cJ7_fill_53178 6 = .ok (.iload_n 3, 1) := by decide +kernel
theorem dJ7_fill_53178_7 : decode cJ7_fill_53178 7 = .ok (.if_icmp .ge 13, 3) := by decide +kernel
theorem dJ7_fill_53178_10 : decode cJ7_fill_53178 10 = .ok (.aload_n 0, 1) := by decide +kernel
theorem dJ7_fill_53178_11 : decode cJ7_fill_53178 11 = .ok (.iload_n 2, 1) := by decide +kernel
theorem dJ7_fill_53178_12 : decode cJ7_fill_53178 12 = .ok (.iload_n 1, 1) := by decide +kernel
theorem dJ7_fill_53178_13 : decode cJ7_fill_53178 13 = .ok (.iastore, 1) := by decide +kernel
theorem dJ7_fill_53178_14 : decode cJ7_fill_53178 14 = .ok (.iinc 2 1, 3) := by decide +kernel
theorem dJ7_fill_53178_17 : decode cJ7_fill_53178 17 = .ok (.goto (-12), 3) := by decide +kernel
theorem dJ7_fill_53178_20 : decode cJ7_fill_53178 20 = .ok (.return_, 1) := by decide +kernel
end
