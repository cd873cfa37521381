section
-- ===== PART A: goes FIRST, ahead of the names: the tables' words, and 'selects' of the private methods out of them =====
/-- a private method of a class that the tables say can be made, by its rows of tables_1 -/
def lw_okq (q : MethodName × Nat) : Prop := (q.1.cls ≠ "java/lang/invoke/MethodHandle" ∧ q.1.cls ≠ "java/lang/invoke/VarHandle") ∧ Cond.instantiable q.1.cls q.2 ∈ tables_1 ∧ Cond.privateMethod q.1 ∈ tables_1 ∧ Cond.instanceMethod q.1 ∈ tables_1
theorem lw_p0 : lw_okq (⟨"FoulRights$Rules", "inForce", "(I)I"⟩, 7) := ⟨⟨by decide +kernel, by decide +kernel⟩, List.mem_of_getElem? (i := 23) (by decide +kernel), List.mem_of_getElem? (i := 291) (by decide +kernel), List.mem_of_getElem? (i := 292) (by decide +kernel)⟩
theorem lw_p1 : lw_okq (⟨"FoulRights", "isWorks", "(I)Z"⟩, 13) := ⟨⟨by decide +kernel, by decide +kernel⟩, List.mem_of_getElem? (i := 15) (by decide +kernel), List.mem_of_getElem? (i := 315) (by decide +kernel), List.mem_of_getElem? (i := 316) (by decide +kernel)⟩
theorem lw_p2 : lw_okq (⟨"FoulRights$Meters", "gapIn", "(II)I"⟩, 1) := ⟨⟨by decide +kernel, by decide +kernel⟩, List.mem_of_getElem? (i := 68) (by decide +kernel), List.mem_of_getElem? (i := 335) (by decide +kernel), List.mem_of_getElem? (i := 336) (by decide +kernel)⟩
theorem lw_p3 : lw_okq (⟨"FoulRights$Meters", "greatest", "(II)I"⟩, 1) := ⟨⟨by decide +kernel, by decide +kernel⟩, List.mem_of_getElem? (i := 68) (by decide +kernel), List.mem_of_getElem? (i := 339) (by decide +kernel), List.mem_of_getElem? (i := 340) (by decide +kernel)⟩
theorem lw_p4 : lw_okq (⟨"FoulRights$Allotment", "look", "(LFoulRights$Meters;II)I"⟩, 3) := ⟨⟨by decide +kernel, by decide +kernel⟩, List.mem_of_getElem? (i := 125) (by decide +kernel), List.mem_of_getElem? (i := 357) (by decide +kernel), List.mem_of_getElem? (i := 358) (by decide +kernel)⟩
theorem lw_p5 : lw_okq (⟨"FoulRights$Allotment", "giveRest", "(III)I"⟩, 3) := ⟨⟨by decide +kernel, by decide +kernel⟩, List.mem_of_getElem? (i := 125) (by decide +kernel), List.mem_of_getElem? (i := 364) (by decide +kernel), List.mem_of_getElem? (i := 365) (by decide +kernel)⟩
theorem lw_p6 : lw_okq (⟨"FoulRights$Allotment", "mostCutOff", "(I)I"⟩, 3) := ⟨⟨by decide +kernel, by decide +kernel⟩, List.mem_of_getElem? (i := 125) (by decide +kernel), List.mem_of_getElem? (i := 368) (by decide +kernel), List.mem_of_getElem? (i := 369) (by decide +kernel)⟩
theorem lw_p7 : lw_okq (⟨"FoulRights$Permits", "makeRoom", "(I)V"⟩, 12) := ⟨⟨by decide +kernel, by decide +kernel⟩, List.mem_of_getElem? (i := 80) (by decide +kernel), List.mem_of_getElem? (i := 386) (by decide +kernel), List.mem_of_getElem? (i := 387) (by decide +kernel)⟩
theorem lw_p8 : lw_okq (⟨"FoulRights", "hammer", "(I)I"⟩, 13) := ⟨⟨by decide +kernel, by decide +kernel⟩, List.mem_of_getElem? (i := 15) (by decide +kernel), List.mem_of_getElem? (i := 441) (by decide +kernel), List.mem_of_getElem? (i := 442) (by decide +kernel)⟩
theorem lw_p9 : lw_okq (⟨"FoulRights$Permits", "leastOf", "(I)I"⟩, 12) := ⟨⟨by decide +kernel, by decide +kernel⟩, List.mem_of_getElem? (i := 80) (by decide +kernel), List.mem_of_getElem? (i := 466) (by decide +kernel), List.mem_of_getElem? (i := 467) (by decide +kernel)⟩
theorem lw_p10 : lw_okq (⟨"FoulRights", "holdsAsMany", "(II)Z"⟩, 13) := ⟨⟨by decide +kernel, by decide +kernel⟩, List.mem_of_getElem? (i := 15) (by decide +kernel), List.mem_of_getElem? (i := 496) (by decide +kernel), List.mem_of_getElem? (i := 497) (by decide +kernel)⟩
theorem lw_p11 : lw_okq (⟨"FoulRights", "undo", "(I)I"⟩, 13) := ⟨⟨by decide +kernel, by decide +kernel⟩, List.mem_of_getElem? (i := 15) (by decide +kernel), List.mem_of_getElem? (i := 518) (by decide +kernel), List.mem_of_getElem? (i := 519) (by decide +kernel)⟩
theorem lw_p12 : lw_okq (⟨"FoulRights", "settle", "(I)I"⟩, 13) := ⟨⟨by decide +kernel, by decide +kernel⟩, List.mem_of_getElem? (i := 15) (by decide +kernel), List.mem_of_getElem? (i := 548) (by decide +kernel), List.mem_of_getElem? (i := 549) (by decide +kernel)⟩
theorem lw_p13 : lw_okq (⟨"FoulRights$Cuts", "comesBehind", "(III)Z"⟩, 6) := ⟨⟨by decide +kernel, by decide +kernel⟩, List.mem_of_getElem? (i := 167) (by decide +kernel), List.mem_of_getElem? (i := 594) (by decide +kernel), List.mem_of_getElem? (i := 595) (by decide +kernel)⟩
theorem lw_p14 : lw_okq (⟨"FoulRightsModel", "capOf", "(I)I"⟩, 34) := ⟨⟨by decide +kernel, by decide +kernel⟩, List.mem_of_getElem? (i := 650) (by decide +kernel), List.mem_of_getElem? (i := 776) (by decide +kernel), List.mem_of_getElem? (i := 777) (by decide +kernel)⟩
theorem lw_p15 : lw_okq (⟨"FoulRightsModel", "ruleOf", "(I)I"⟩, 34) := ⟨⟨by decide +kernel, by decide +kernel⟩, List.mem_of_getElem? (i := 650) (by decide +kernel), List.mem_of_getElem? (i := 780) (by decide +kernel), List.mem_of_getElem? (i := 781) (by decide +kernel)⟩
def lw_privs_1 : List (MethodName × Nat) := [(⟨"FoulRights$Rules", "inForce", "(I)I"⟩, 7), (⟨"FoulRights", "isWorks", "(I)Z"⟩, 13), (⟨"FoulRights$Meters", "gapIn", "(II)I"⟩, 1), (⟨"FoulRights$Meters", "greatest", "(II)I"⟩, 1), (⟨"FoulRights$Allotment", "look", "(LFoulRights$Meters;II)I"⟩, 3), (⟨"FoulRights$Allotment", "giveRest", "(III)I"⟩, 3), (⟨"FoulRights$Allotment", "mostCutOff", "(I)I"⟩, 3), (⟨"FoulRights$Permits", "makeRoom", "(I)V"⟩, 12), (⟨"FoulRights", "hammer", "(I)I"⟩, 13), (⟨"FoulRights$Permits", "leastOf", "(I)I"⟩, 12), (⟨"FoulRights", "holdsAsMany", "(II)Z"⟩, 13), (⟨"FoulRights", "undo", "(I)I"⟩, 13), (⟨"FoulRights", "settle", "(I)I"⟩, 13), (⟨"FoulRights$Cuts", "comesBehind", "(III)Z"⟩, 6), (⟨"FoulRightsModel", "capOf", "(I)I"⟩, 34), (⟨"FoulRightsModel", "ruleOf", "(I)I"⟩, 34)]
theorem lw_r1 : ∀ q ∈ lw_privs_1, lw_okq q := List.forall_mem_cons.mpr ⟨lw_p0, List.forall_mem_cons.mpr ⟨lw_p1, List.forall_mem_cons.mpr ⟨lw_p2, List.forall_mem_cons.mpr ⟨lw_p3, List.forall_mem_cons.mpr ⟨lw_p4, List.forall_mem_cons.mpr ⟨lw_p5, List.forall_mem_cons.mpr ⟨lw_p6, List.forall_mem_cons.mpr ⟨lw_p7, List.forall_mem_cons.mpr ⟨lw_p8, List.forall_mem_cons.mpr ⟨lw_p9, List.forall_mem_cons.mpr ⟨lw_p10, List.forall_mem_cons.mpr ⟨lw_p11, List.forall_mem_cons.mpr ⟨lw_p12, List.forall_mem_cons.mpr ⟨lw_p13, List.forall_mem_cons.mpr ⟨lw_p14, List.forall_mem_cons.mpr ⟨lw_p15, fun _ h => absurd h List.not_mem_nil⟩⟩⟩⟩⟩⟩⟩⟩⟩⟩⟩⟩⟩⟩⟩⟩
theorem lw_p16 : lw_okq (⟨"FoulRightsModel", "partOf", "(III)I"⟩, 34) := ⟨⟨by decide +kernel, by decide +kernel⟩, List.mem_of_getElem? (i := 650) (by decide +kernel), List.mem_of_getElem? (i := 784) (by decide +kernel), List.mem_of_getElem? (i := 785) (by decide +kernel)⟩
theorem lw_p17 : lw_okq (⟨"FoulRightsModel", "isWorks", "(I)Z"⟩, 34) := ⟨⟨by decide +kernel, by decide +kernel⟩, List.mem_of_getElem? (i := 650) (by decide +kernel), List.mem_of_getElem? (i := 792) (by decide +kernel), List.mem_of_getElem? (i := 793) (by decide +kernel)⟩
theorem lw_p18 : lw_okq (⟨"FoulRightsModel", "greatest", "(II)I"⟩, 34) := ⟨⟨by decide +kernel, by decide +kernel⟩, List.mem_of_getElem? (i := 650) (by decide +kernel), List.mem_of_getElem? (i := 800) (by decide +kernel), List.mem_of_getElem? (i := 801) (by decide +kernel)⟩
theorem lw_p19 : lw_okq (⟨"FoulRightsModel", "gives", "(I)V"⟩, 34) := ⟨⟨by decide +kernel, by decide +kernel⟩, List.mem_of_getElem? (i := 650) (by decide +kernel), List.mem_of_getElem? (i := 808) (by decide +kernel), List.mem_of_getElem? (i := 809) (by decide +kernel)⟩
theorem lw_p20 : lw_okq (⟨"FoulRightsModel", "comes", "(II)V"⟩, 34) := ⟨⟨by decide +kernel, by decide +kernel⟩, List.mem_of_getElem? (i := 650) (by decide +kernel), List.mem_of_getElem? (i := 813) (by decide +kernel), List.mem_of_getElem? (i := 814) (by decide +kernel)⟩
theorem lw_p21 : lw_okq (⟨"FoulRightsModel", "holds", "(I)I"⟩, 34) := ⟨⟨by decide +kernel, by decide +kernel⟩, List.mem_of_getElem? (i := 650) (by decide +kernel), List.mem_of_getElem? (i := 825) (by decide +kernel), List.mem_of_getElem? (i := 826) (by decide +kernel)⟩
theorem lw_p22 : lw_okq (⟨"FoulRightsModel", "goes", "(III)V"⟩, 34) := ⟨⟨by decide +kernel, by decide +kernel⟩, List.mem_of_getElem? (i := 650) (by decide +kernel), List.mem_of_getElem? (i := 829) (by decide +kernel), List.mem_of_getElem? (i := 830) (by decide +kernel)⟩
theorem lw_p23 : lw_okq (⟨"FoulRightsModel", "ends", "(III)V"⟩, 34) := ⟨⟨by decide +kernel, by decide +kernel⟩, List.mem_of_getElem? (i := 650) (by decide +kernel), List.mem_of_getElem? (i := 849) (by decide +kernel), List.mem_of_getElem? (i := 850) (by decide +kernel)⟩
theorem lw_p24 : lw_okq (⟨"FoulRightsModel", "countOf", "(II)I"⟩, 34) := ⟨⟨by decide +kernel, by decide +kernel⟩, List.mem_of_getElem? (i := 650) (by decide +kernel), List.mem_of_getElem? (i := 866) (by decide +kernel), List.mem_of_getElem? (i := 867) (by decide +kernel)⟩
theorem lw_p25 : lw_okq (⟨"FoulRightsModel", "cutsAll", "(I)Z"⟩, 34) := ⟨⟨by decide +kernel, by decide +kernel⟩, List.mem_of_getElem? (i := 650) (by decide +kernel), List.mem_of_getElem? (i := 878) (by decide +kernel), List.mem_of_getElem? (i := 879) (by decide +kernel)⟩
def lw_privs_2 : List (MethodName × Nat) := [(⟨"FoulRightsModel", "partOf", "(III)I"⟩, 34), (⟨"FoulRightsModel", "isWorks", "(I)Z"⟩, 34), (⟨"FoulRightsModel", "greatest", "(II)I"⟩, 34), (⟨"FoulRightsModel", "gives", "(I)V"⟩, 34), (⟨"FoulRightsModel", "comes", "(II)V"⟩, 34), (⟨"FoulRightsModel", "holds", "(I)I"⟩, 34), (⟨"FoulRightsModel", "goes", "(III)V"⟩, 34), (⟨"FoulRightsModel", "ends", "(III)V"⟩, 34), (⟨"FoulRightsModel", "countOf", "(II)I"⟩, 34), (⟨"FoulRightsModel", "cutsAll", "(I)Z"⟩, 34)]
theorem lw_r2 : ∀ q ∈ lw_privs_2, lw_okq q := List.forall_mem_cons.mpr ⟨lw_p16, List.forall_mem_cons.mpr ⟨lw_p17, List.forall_mem_cons.mpr ⟨lw_p18, List.forall_mem_cons.mpr ⟨lw_p19, List.forall_mem_cons.mpr ⟨lw_p20, List.forall_mem_cons.mpr ⟨lw_p21, List.forall_mem_cons.mpr ⟨lw_p22, List.forall_mem_cons.mpr ⟨lw_p23, List.forall_mem_cons.mpr ⟨lw_p24, List.forall_mem_cons.mpr ⟨lw_p25, fun _ h => absurd h List.not_mem_nil⟩⟩⟩⟩⟩⟩⟩⟩⟩⟩
def lw_privs : List (MethodName × Nat) := lw_privs_1 ++ (lw_privs_2)
def lw_tbl : List Cond := k2_sels lw_privs ++ tables_1
theorem lw_privs_ok : ∀ q ∈ lw_privs, lw_okq q := by
  show ∀ q ∈ lw_privs_1 ++ (lw_privs_2), lw_okq q
  exact List.forall_mem_append.mpr ⟨lw_r1, lw_r2⟩
end
section
/-! ===== BEGIN words of one list among another's, by their places ===== -/
theorem goodIn_r {big : List Cond} (ws : List Cond) (ps : List Nat) (hp : ws = ps.filterMap (fun i => big[i]?)) (h : ws.all goodWord = true) : GoodIn big ws := by
  intro w hw
  have h1 := List.all_eq_true.mp h w hw
  rw [hp] at hw
  obtain ⟨i, -, hi⟩ := List.mem_filterMap.mp hw
  have hm : w ∈ big := by first | exact List.mem_of_getElem? hi | exact List.getElem?_mem hi
  exact ⟨hm, good_of_word h1⟩
theorem goodIn_app {big a b : List Cond} (ha : GoodIn big a) (hb : GoodIn big b) : GoodIn big (a ++ b) := fun w h => (List.mem_append.mp h).elim (ha w) (hb w)
theorem goodIn_ca {big a b : List Cond} {c : Cond} (ha : GoodIn big (c :: a)) (hb : GoodIn big b) : GoodIn big (c :: (a ++ b)) := fun w h => (List.mem_cons.mp h).elim (fun e => ha w (List.mem_cons.mpr (Or.inl e))) (fun h => (List.mem_append.mp h).elim (fun h => ha w (List.mem_cons.mpr (Or.inr h))) (hb w))
theorem goodIn_sub {big ws : List Cond} (hm : ∀ w ∈ ws, w ∈ big) (h : ws.all goodWord = true) : GoodIn big ws := fun w hw => ⟨hm w hw, good_of_word (List.all_eq_true.mp h w hw)⟩
/-! ===== END ===== -/

/-! ===== BEGIN printed: names, fields, word lists, decode rows ===== -/
def RX0 : String := "FoulRights$Allotment"
def TX0 : u_T := fun k => match k with
  | 0 => ("FoulRights$Allotment", "fouledBefore", "LFoulRights$Row;", true)
  | 1 => ("FoulRights$Allotment", "parts", "LFoulRights$Row;", true)
  | _ => ("FoulRights$Allotment", "cutOff", "LFoulRights$Row;", true)
def tyX0 : Nat → FieldType := fun k => match k with
  | 0 => .object "FoulRights$Row"
  | 1 => .object "FoulRights$Row"
  | _ => .object "FoulRights$Row"
abbrev wsX00 : List Cond := u_ws RX0 TX0 3
theorem nmX0 : ∀ a, a < 3 → ∀ b, b < 3 → a ≠ b → (TX0 a).2.1 ≠ (TX0 b).2.1 := by decide +kernel
theorem tyX0_ok : ∀ k, k < 3 → parseFieldDescriptor (TX0 k).2.2.1 = some (tyX0 k) := by decide +kernel
abbrev cX0_init : ByteArray := prog_2_method_1_code
def yX0_init : MethodName := ⟨RX0, "<init>", "()V"⟩
abbrev cX0_partOf : ByteArray := prog_2_method_2_code
def yX0_partOf : MethodName := ⟨RX0, "partOf", "(I)I"⟩
abbrev cX0_share : ByteArray := prog_2_method_3_code
def yX0_share : MethodName := ⟨RX0, "share", "(ILFoulRights$Meters;II)I"⟩
abbrev cX0_look : ByteArray := prog_2_method_4_code
def yX0_look : MethodName := ⟨RX0, "look", "(LFoulRights$Meters;II)I"⟩
abbrev cX0_giveRest : ByteArray := prog_2_method_5_code
def yX0_giveRest : MethodName := ⟨RX0, "giveRest", "(III)I"⟩
abbrev cX0_mostCutOff : ByteArray := prog_2_method_6_code
def yX0_mostCutOff : MethodName := ⟨RX0, "mostCutOff", "(I)I"⟩
def RX1 : String := "FoulRights$Bids"
def TX1 : u_T := fun k => match k with
  | 0 => ("FoulRights$Bids", "bidder", "LFoulRights$Row;", true)
  | 1 => ("FoulRights$Bids", "wants", "LFoulRights$Row;", true)
  | 2 => ("FoulRights$Bids", "offered", "LFoulRights$Row;", true)
  | 3 => ("FoulRights$Bids", "granted", "LFoulRights$Row;", true)
  | _ => ("FoulRights$Bids", "size", "I", false)
def tyX1 : Nat → FieldType := fun k => match k with
  | 0 => .object "FoulRights$Row"
  | 1 => .object "FoulRights$Row"
  | 2 => .object "FoulRights$Row"
  | 3 => .object "FoulRights$Row"
  | _ => .int
abbrev wsX10 : List Cond := u_ws RX1 TX1 5
theorem nmX1 : ∀ a, a < 5 → ∀ b, b < 5 → a ≠ b → (TX1 a).2.1 ≠ (TX1 b).2.1 := by decide +kernel
theorem tyX1_ok : ∀ k, k < 5 → parseFieldDescriptor (TX1 k).2.2.1 = some (tyX1 k) := by decide +kernel
abbrev cX1_init : ByteArray := prog_3_method_1_code
def yX1_init : MethodName := ⟨RX1, "<init>", "()V"⟩
abbrev cX1_areFull : ByteArray := prog_3_method_2_code
def yX1_areFull : MethodName := ⟨RX1, "areFull", "()Z"⟩
abbrev cX1_enter : ByteArray := prog_3_method_3_code
def yX1_enter : MethodName := ⟨RX1, "enter", "(III)I"⟩
abbrev cX1_grant : ByteArray := prog_3_method_4_code
def yX1_grant : MethodName := ⟨RX1, "grant", "(II)V"⟩
abbrev cX1_forget : ByteArray := prog_3_method_5_code
def yX1_forget : MethodName := ⟨RX1, "forget", "()V"⟩
abbrev cX1_many : ByteArray := prog_3_method_6_code
def yX1_many : MethodName := ⟨RX1, "many", "()I"⟩
abbrev cX1_who : ByteArray := prog_3_method_7_code
def yX1_who : MethodName := ⟨RX1, "who", "(I)I"⟩
abbrev cX1_wanted : ByteArray := prog_3_method_8_code
def yX1_wanted : MethodName := ⟨RX1, "wanted", "(I)I"⟩
abbrev cX1_price : ByteArray := prog_3_method_9_code
def yX1_price : MethodName := ⟨RX1, "price", "(I)I"⟩
abbrev cX1_got : ByteArray := prog_3_method_10_code
def yX1_got : MethodName := ⟨RX1, "got", "(I)I"⟩
def RX2 : String := "FoulRights$Cuts"
def TX2 : u_T := fun k => match k with
  | 0 => ("FoulRights$Cuts", "owner", "LFoulRights$Row;", true)
  | 1 => ("FoulRights$Cuts", "tonnes", "LFoulRights$Row;", true)
  | 2 => ("FoulRights$Cuts", "costs", "LFoulRights$Row;", true)
  | 3 => ("FoulRights$Cuts", "each", "LFoulRights$Row;", true)
  | 4 => ("FoulRights$Cuts", "size", "I", false)
  | _ => ("FoulRights$Cuts", "allTonnes", "I", false)
def tyX2 : Nat → FieldType := fun k => match k with
  | 0 => .object "FoulRights$Row"
  | 1 => .object "FoulRights$Row"
  | 2 => .object "FoulRights$Row"
  | 3 => .object "FoulRights$Row"
  | 4 => .int
  | _ => .int
abbrev wsX20 : List Cond := u_ws RX2 TX2 6
theorem nmX2 : ∀ a, a < 6 → ∀ b, b < 6 → a ≠ b → (TX2 a).2.1 ≠ (TX2 b).2.1 := by decide +kernel
theorem tyX2_ok : ∀ k, k < 6 → parseFieldDescriptor (TX2 k).2.2.1 = some (tyX2 k) := by decide +kernel
abbrev cX2_init : ByteArray := prog_4_method_1_code
def yX2_init : MethodName := ⟨RX2, "<init>", "()V"⟩
abbrev cX2_offer : ByteArray := prog_4_method_2_code
def yX2_offer : MethodName := ⟨RX2, "offer", "(III)I"⟩
abbrev cX2_comesBehind : ByteArray := prog_4_method_3_code
def yX2_comesBehind : MethodName := ⟨RX2, "comesBehind", "(III)Z"⟩
abbrev cX2_canBe : ByteArray := prog_4_method_4_code
def yX2_canBe : MethodName := ⟨RX2, "canBe", "(I)Z"⟩
abbrev cX2_costOf : ByteArray := prog_4_method_5_code
def yX2_costOf : MethodName := ⟨RX2, "costOf", "(I)I"⟩
abbrev cX2_dearestOf : ByteArray := prog_4_method_6_code
def yX2_dearestOf : MethodName := ⟨RX2, "dearestOf", "(I)I"⟩
abbrev cX2_partOf : ByteArray := prog_4_method_7_code
def yX2_partOf : MethodName := ⟨RX2, "partOf", "(II)I"⟩
def RX3 : String := "FoulRights$Ledger"
def TX3 : u_T := fun k => match k with
  | 0 => ("FoulRights$Ledger", "coins", "LFoulRights$Row;", true)
  | 1 => ("FoulRights$Ledger", "debts", "LFoulRights$Row;", true)
  | 2 => ("FoulRights$Ledger", "usedEver", "LFoulRights$Row;", true)
  | 3 => ("FoulRights$Ledger", "finesEver", "LFoulRights$Row;", true)
  | _ => ("FoulRights$Ledger", "finesOfAll", "I", false)
def tyX3 : Nat → FieldType := fun k => match k with
  | 0 => .object "FoulRights$Row"
  | 1 => .object "FoulRights$Row"
  | 2 => .object "FoulRights$Row"
  | 3 => .object "FoulRights$Row"
  | _ => .int
abbrev wsX30 : List Cond := u_ws RX3 TX3 5
theorem nmX3 : ∀ a, a < 5 → ∀ b, b < 5 → a ≠ b → (TX3 a).2.1 ≠ (TX3 b).2.1 := by decide +kernel
theorem tyX3_ok : ∀ k, k < 5 → parseFieldDescriptor (TX3 k).2.2.1 = some (tyX3 k) := by decide +kernel
abbrev cX3_init : ByteArray := prog_5_method_1_code
def yX3_init : MethodName := ⟨RX3, "<init>", "()V"⟩
abbrev cX3_earn : ByteArray := prog_5_method_2_code
def yX3_earn : MethodName := ⟨RX3, "earn", "(II)V"⟩
abbrev cX3_owe : ByteArray := prog_5_method_3_code
def yX3_owe : MethodName := ⟨RX3, "owe", "(II)V"⟩
abbrev cX3_close : ByteArray := prog_5_method_4_code
def yX3_close : MethodName := ⟨RX3, "close", "(IIII)V"⟩
abbrev cX3_debtOf : ByteArray := prog_5_method_5_code
def yX3_debtOf : MethodName := ⟨RX3, "debtOf", "(I)I"⟩
abbrev cX3_allFines : ByteArray := prog_5_method_6_code
def yX3_allFines : MethodName := ⟨RX3, "allFines", "()I"⟩
abbrev cX3_fact : ByteArray := prog_5_method_7_code
def yX3_fact : MethodName := ⟨RX3, "fact", "(II)I"⟩
def RX4 : String := "FoulRights$Meters"
def TX4 : u_T := fun k => match k with
  | _ => ("FoulRights$Meters", "readings", "LFoulRights$Row;", true)
def tyX4 : Nat → FieldType := fun k => match k with
  | _ => .object "FoulRights$Row"
abbrev wsX40 : List Cond := u_ws RX4 TX4 1
theorem nmX4 : ∀ a, a < 1 → ∀ b, b < 1 → a ≠ b → (TX4 a).2.1 ≠ (TX4 b).2.1 := by decide +kernel
theorem tyX4_ok : ∀ k, k < 1 → parseFieldDescriptor (TX4 k).2.2.1 = some (tyX4 k) := by decide +kernel
abbrev cX4_init : ByteArray := prog_6_method_1_code
def yX4_init : MethodName := ⟨RX4, "<init>", "()V"⟩
abbrev cX4_read : ByteArray := prog_6_method_2_code
def yX4_read : MethodName := ⟨RX4, "read", "(IIII)V"⟩
abbrev cX4_fouledIn : ByteArray := prog_6_method_3_code
def yX4_fouledIn : MethodName := ⟨RX4, "fouledIn", "(II)I"⟩
abbrev cX4_gapIn : ByteArray := prog_6_method_4_code
def yX4_gapIn : MethodName := ⟨RX4, "gapIn", "(II)I"⟩
abbrev cX4_greatest : ByteArray := prog_6_method_5_code
def yX4_greatest : MethodName := ⟨RX4, "greatest", "(II)I"⟩
abbrev cX4_place : ByteArray := prog_6_method_6_code
def yX4_place : MethodName := ⟨RX4, "place", "(III)I"⟩
def RX5 : String := "FoulRights$Permits"
def TX5 : u_T := fun k => match k with
  | 0 => ("FoulRights$Permits", "state", "LFoulRights$Row;", true)
  | 1 => ("FoulRights$Permits", "holder", "LFoulRights$Row;", true)
  | 2 => ("FoulRights$Permits", "cameIn", "LFoulRights$Row;", true)
  | 3 => ("FoulRights$Permits", "usedIn", "LFoulRights$Row;", true)
  | 4 => ("FoulRights$Permits", "project", "LFoulRights$Row;", true)
  | 5 => ("FoulRights$Permits", "moves", "LFoulRights$Row;", true)
  | 6 => ("FoulRights$Permits", "held", "LFoulRights$Row;", true)
  | 7 => ("FoulRights$Permits", "searched", "LFoulRights$Row;", true)
  | 8 => ("FoulRights$Permits", "room", "I", false)
  | 9 => ("FoulRights$Permits", "came", "I", false)
  | 10 => ("FoulRights$Permits", "used", "I", false)
  | _ => ("FoulRights$Permits", "cancelled", "I", false)
def tyX5 : Nat → FieldType := fun k => match k with
  | 0 => .object "FoulRights$Row"
  | 1 => .object "FoulRights$Row"
  | 2 => .object "FoulRights$Row"
  | 3 => .object "FoulRights$Row"
  | 4 => .object "FoulRights$Row"
  | 5 => .object "FoulRights$Row"
  | 6 => .object "FoulRights$Row"
  | 7 => .object "FoulRights$Row"
  | 8 => .int
  | 9 => .int
  | 10 => .int
  | _ => .int
abbrev wsX50 : List Cond := u_ws RX5 TX5 12
theorem nmX5 : ∀ a, a < 12 → ∀ b, b < 12 → a ≠ b → (TX5 a).2.1 ≠ (TX5 b).2.1 := by decide +kernel
theorem tyX5_ok : ∀ k, k < 12 → parseFieldDescriptor (TX5 k).2.2.1 = some (tyX5 k) := by decide +kernel
abbrev cX5_init : ByteArray := prog_7_method_1_code
def yX5_init : MethodName := ⟨RX5, "<init>", "()V"⟩
abbrev cX5_hasRoomFor : ByteArray := prog_7_method_2_code
def yX5_hasRoomFor : MethodName := ⟨RX5, "hasRoomFor", "(I)Z"⟩
abbrev cX5_come : ByteArray := prog_7_method_3_code
def yX5_come : MethodName := ⟨RX5, "come", "(IIII)V"⟩
abbrev cX5_makeRoom : ByteArray := prog_7_method_4_code
def yX5_makeRoom : MethodName := ⟨RX5, "makeRoom", "(I)V"⟩
abbrev cX5_pass : ByteArray := prog_7_method_5_code
def yX5_pass : MethodName := ⟨RX5, "pass", "(III)V"⟩
abbrev cX5_use : ByteArray := prog_7_method_6_code
def yX5_use : MethodName := ⟨RX5, "use", "(III)V"⟩
abbrev cX5_strike : ByteArray := prog_7_method_7_code
def yX5_strike : MethodName := ⟨RX5, "strike", "(II)V"⟩
abbrev cX5_strikeOne : ByteArray := prog_7_method_8_code
def yX5_strikeOne : MethodName := ⟨RX5, "strikeOne", "(I)V"⟩
abbrev cX5_leastOf : ByteArray := prog_7_method_9_code
def yX5_leastOf : MethodName := ⟨RX5, "leastOf", "(I)I"⟩
abbrev cX5_isHeld : ByteArray := prog_7_method_10_code
def yX5_isHeld : MethodName := ⟨RX5, "isHeld", "(I)Z"⟩
abbrev cX5_holderOf : ByteArray := prog_7_method_11_code
def yX5_holderOf : MethodName := ⟨RX5, "holderOf", "(I)I"⟩
abbrev cX5_projectOf : ByteArray := prog_7_method_12_code
def yX5_projectOf : MethodName := ⟨RX5, "projectOf", "(I)I"⟩
abbrev cX5_heldBy : ByteArray := prog_7_method_13_code
def yX5_heldBy : MethodName := ⟨RX5, "heldBy", "(I)I"⟩
abbrev cX5_heldByWorks : ByteArray := prog_7_method_14_code
def yX5_heldByWorks : MethodName := ⟨RX5, "heldByWorks", "()I"⟩
abbrev cX5_cameSoFar : ByteArray := prog_7_method_15_code
def yX5_cameSoFar : MethodName := ⟨RX5, "cameSoFar", "()I"⟩
abbrev cX5_usedSoFar : ByteArray := prog_7_method_16_code
def yX5_usedSoFar : MethodName := ⟨RX5, "usedSoFar", "()I"⟩
abbrev cX5_cancelledSoFar : ByteArray := prog_7_method_17_code
def yX5_cancelledSoFar : MethodName := ⟨RX5, "cancelledSoFar", "()I"⟩
abbrev cX5_fact : ByteArray := prog_7_method_18_code
def yX5_fact : MethodName := ⟨RX5, "fact", "(II)I"⟩
def RX6 : String := "FoulRights$Row"
def TX6 : u_T := fun k => match k with
  | _ => ("FoulRights$Row", "cells", "[I", false)
def tyX6 : Nat → FieldType := fun k => match k with
  | _ => .array .int
abbrev wsX60 : List Cond := u_ws RX6 TX6 1
theorem nmX6 : ∀ a, a < 1 → ∀ b, b < 1 → a ≠ b → (TX6 a).2.1 ≠ (TX6 b).2.1 := by decide +kernel
theorem tyX6_ok : ∀ k, k < 1 → parseFieldDescriptor (TX6 k).2.2.1 = some (tyX6 k) := by decide +kernel
abbrev cX6_init : ByteArray := prog_8_method_1_code
def yX6_init : MethodName := ⟨RX6, "<init>", "(II)V"⟩
abbrev cX6_at : ByteArray := prog_8_method_2_code
def yX6_at : MethodName := ⟨RX6, "at", "(I)I"⟩
abbrev cX6_put : ByteArray := prog_8_method_3_code
def yX6_put : MethodName := ⟨RX6, "put", "(II)V"⟩
abbrev cX6_add : ByteArray := prog_8_method_4_code
def yX6_add : MethodName := ⟨RX6, "add", "(II)V"⟩
abbrev cX6_widen : ByteArray := prog_8_method_5_code
def yX6_widen : MethodName := ⟨RX6, "widen", "(I)V"⟩
abbrev cX6_squeeze : ByteArray := prog_8_method_6_code
def yX6_squeeze : MethodName := ⟨RX6, "squeeze", "(III)V"⟩
def RX7 : String := "FoulRights$Rules"
def TX7 : u_T := fun k => match k with
  | 0 => ("FoulRights$Rules", "from", "LFoulRights$Row;", true)
  | 1 => ("FoulRights$Rules", "cap", "LFoulRights$Row;", true)
  | 2 => ("FoulRights$Rules", "fall", "LFoulRights$Row;", true)
  | 3 => ("FoulRights$Rules", "share", "LFoulRights$Row;", true)
  | 4 => ("FoulRights$Rules", "fine", "LFoulRights$Row;", true)
  | 5 => ("FoulRights$Rules", "floor", "LFoulRights$Row;", true)
  | _ => ("FoulRights$Rules", "many", "I", false)
def tyX7 : Nat → FieldType := fun k => match k with
  | 0 => .object "FoulRights$Row"
  | 1 => .object "FoulRights$Row"
  | 2 => .object "FoulRights$Row"
  | 3 => .object "FoulRights$Row"
  | 4 => .object "FoulRights$Row"
  | 5 => .object "FoulRights$Row"
  | _ => .int
abbrev wsX70 : List Cond := u_ws RX7 TX7 7
theorem nmX7 : ∀ a, a < 7 → ∀ b, b < 7 → a ≠ b → (TX7 a).2.1 ≠ (TX7 b).2.1 := by decide +kernel
theorem tyX7_ok : ∀ k, k < 7 → parseFieldDescriptor (TX7 k).2.2.1 = some (tyX7 k) := by decide +kernel
abbrev cX7_init : ByteArray := prog_9_method_1_code
def yX7_init : MethodName := ⟨RX7, "<init>", "()V"⟩
abbrev cX7_tell : ByteArray := prog_9_method_2_code
def yX7_tell : MethodName := ⟨RX7, "tell", "(III)Z"⟩
abbrev cX7_capIn : ByteArray := prog_9_method_3_code
def yX7_capIn : MethodName := ⟨RX7, "capIn", "(I)I"⟩
abbrev cX7_shareIn : ByteArray := prog_9_method_4_code
def yX7_shareIn : MethodName := ⟨RX7, "shareIn", "(I)I"⟩
abbrev cX7_fineIn : ByteArray := prog_9_method_5_code
def yX7_fineIn : MethodName := ⟨RX7, "fineIn", "(I)I"⟩
abbrev cX7_floorIn : ByteArray := prog_9_method_6_code
def yX7_floorIn : MethodName := ⟨RX7, "floorIn", "(I)I"⟩
abbrev cX7_inForce : ByteArray := prog_9_method_7_code
def yX7_inForce : MethodName := ⟨RX7, "inForce", "(I)I"⟩
def RX8 : String := "FoulRights"
def TX8 : u_T := fun k => match k with
  | 0 => ("FoulRights", "rules", "LFoulRights$Rules;", true)
  | 1 => ("FoulRights", "meters", "LFoulRights$Meters;", true)
  | 2 => ("FoulRights", "permits", "LFoulRights$Permits;", true)
  | 3 => ("FoulRights", "allotment", "LFoulRights$Allotment;", true)
  | 4 => ("FoulRights", "bids", "LFoulRights$Bids;", true)
  | 5 => ("FoulRights", "allCuts", "LFoulRights$Cuts;", true)
  | 6 => ("FoulRights", "ledger", "LFoulRights$Ledger;", true)
  | 7 => ("FoulRights", "falseProjects", "LFoulRights$Row;", true)
  | 8 => ("FoulRights", "now", "I", false)
  | 9 => ("FoulRights", "worksCame", "I", false)
  | 10 => ("FoulRights", "projectsCame", "I", false)
  | 11 => ("FoulRights", "auctionCoins", "I", false)
  | _ => ("FoulRights", "issuedThisYear", "Z", false)
def tyX8 : Nat → FieldType := fun k => match k with
  | 0 => .object "FoulRights$Rules"
  | 1 => .object "FoulRights$Meters"
  | 2 => .object "FoulRights$Permits"
  | 3 => .object "FoulRights$Allotment"
  | 4 => .object "FoulRights$Bids"
  | 5 => .object "FoulRights$Cuts"
  | 6 => .object "FoulRights$Ledger"
  | 7 => .object "FoulRights$Row"
  | 8 => .int
  | 9 => .int
  | 10 => .int
  | 11 => .int
  | _ => .boolean
abbrev wsX80 : List Cond := u_ws RX8 TX8 13
theorem nmX8 : ∀ a, a < 13 → ∀ b, b < 13 → a ≠ b → (TX8 a).2.1 ≠ (TX8 b).2.1 := by decide +kernel
theorem tyX8_ok : ∀ k, k < 13 → parseFieldDescriptor (TX8 k).2.2.1 = some (tyX8 k) := by decide +kernel
abbrev cX8_init : ByteArray := prog_1_method_1_code
def yX8_init : MethodName := ⟨RX8, "<init>", "()V"⟩
abbrev cX8_works : ByteArray := prog_1_method_2_code
def yX8_works : MethodName := ⟨RX8, "works", "()I"⟩
abbrev cX8_rule : ByteArray := prog_1_method_3_code
def yX8_rule : MethodName := ⟨RX8, "rule", "(III)Z"⟩
abbrev cX8_ruled : ByteArray := prog_1_method_4_code
def yX8_ruled : MethodName := ⟨RX8, "ruled", "(II)I"⟩
abbrev cX8_meter : ByteArray := prog_1_method_5_code
def yX8_meter : MethodName := ⟨RX8, "meter", "(IIII)Z"⟩
abbrev cX8_fouled : ByteArray := prog_1_method_6_code
def yX8_fouled : MethodName := ⟨RX8, "fouled", "(II)I"⟩
abbrev cX8_issue : ByteArray := prog_1_method_7_code
def yX8_issue : MethodName := ⟨RX8, "issue", "()I"⟩
abbrev cX8_bid : ByteArray := prog_1_method_8_code
def yX8_bid : MethodName := ⟨RX8, "bid", "(III)I"⟩
abbrev cX8_auction : ByteArray := prog_1_method_9_code
def yX8_auction : MethodName := ⟨RX8, "auction", "()I"⟩
abbrev cX8_trade : ByteArray := prog_1_method_10_code
def yX8_trade : MethodName := ⟨RX8, "trade", "(IIII)Z"⟩
abbrev cX8_offset : ByteArray := prog_1_method_11_code
def yX8_offset : MethodName := ⟨RX8, "offset", "(II)I"⟩
abbrev cX8_falses : ByteArray := prog_1_method_12_code
def yX8_falses : MethodName := ⟨RX8, "falses", "(I)I"⟩
abbrev cX8_cancel : ByteArray := prog_1_method_13_code
def yX8_cancel : MethodName := ⟨RX8, "cancel", "(II)Z"⟩
abbrev cX8_end : ByteArray := prog_1_method_14_code
def yX8_end : MethodName := ⟨RX8, "end", "()I"⟩
abbrev cX8_permit : ByteArray := prog_1_method_15_code
def yX8_permit : MethodName := ⟨RX8, "permit", "(II)I"⟩
abbrev cX8_told : ByteArray := prog_1_method_16_code
def yX8_told : MethodName := ⟨RX8, "told", "(II)I"⟩
abbrev cX8_cut : ByteArray := prog_1_method_17_code
def yX8_cut : MethodName := ⟨RX8, "cut", "(III)I"⟩
abbrev cX8_least : ByteArray := prog_1_method_18_code
def yX8_least : MethodName := ⟨RX8, "least", "(I)I"⟩
abbrev cX8_margin : ByteArray := prog_1_method_19_code
def yX8_margin : MethodName := ⟨RX8, "margin", "(I)I"⟩
abbrev cX8_cuts : ByteArray := prog_1_method_20_code
def yX8_cuts : MethodName := ⟨RX8, "cuts", "(II)I"⟩
abbrev cX8_count : ByteArray := prog_1_method_21_code
def yX8_count : MethodName := ⟨RX8, "count", "(I)I"⟩
abbrev cX8_isWithin : ByteArray := prog_1_method_22_code
def yX8_isWithin : MethodName := ⟨RX8, "isWithin", "(III)Z"⟩
abbrev cX8_isYear : ByteArray := prog_1_method_23_code
def yX8_isYear : MethodName := ⟨RX8, "isYear", "(I)Z"⟩
abbrev cX8_isWorks : ByteArray := prog_1_method_24_code
def yX8_isWorks : MethodName := ⟨RX8, "isWorks", "(I)Z"⟩
abbrev cX8_holdsAsMany : ByteArray := prog_1_method_25_code
def yX8_holdsAsMany : MethodName := ⟨RX8, "holdsAsMany", "(II)Z"⟩
abbrev cX8_hammer : ByteArray := prog_1_method_26_code
def yX8_hammer : MethodName := ⟨RX8, "hammer", "(I)I"⟩
abbrev cX8_undo : ByteArray := prog_1_method_27_code
def yX8_undo : MethodName := ⟨RX8, "undo", "(I)I"⟩
abbrev cX8_settle : ByteArray := prog_1_method_28_code
def yX8_settle : MethodName := ⟨RX8, "settle", "(I)I"⟩
def RX9 : String := "FoulRightsModel"
def TX9 : u_T := fun k => match k with
  | 0 => ("FoulRightsModel", "now", "I", false)
  | 1 => ("FoulRightsModel", "works", "I", false)
  | 2 => ("FoulRightsModel", "coins", "[I", true)
  | 3 => ("FoulRightsModel", "debt", "[I", true)
  | 4 => ("FoulRightsModel", "fines", "[I", true)
  | 5 => ("FoulRightsModel", "reading", "[I", true)
  | 6 => ("FoulRightsModel", "rules", "I", false)
  | 7 => ("FoulRightsModel", "ruleYear", "[I", true)
  | 8 => ("FoulRightsModel", "ruleWhat", "[I", true)
  | 9 => ("FoulRightsModel", "ruleShare", "[I", true)
  | 10 => ("FoulRightsModel", "permits", "I", false)
  | 11 => ("FoulRightsModel", "state", "[I", true)
  | 12 => ("FoulRightsModel", "holder", "[I", true)
  | 13 => ("FoulRightsModel", "yearOf", "[I", true)
  | 14 => ("FoulRightsModel", "usedIn", "[I", true)
  | 15 => ("FoulRightsModel", "projectOf", "[I", true)
  | 16 => ("FoulRightsModel", "went", "[I", true)
  | 17 => ("FoulRightsModel", "issuedIn", "I", false)
  | 18 => ("FoulRightsModel", "bids", "I", false)
  | 19 => ("FoulRightsModel", "bidWorks", "[I", true)
  | 20 => ("FoulRightsModel", "bidMany", "[I", true)
  | 21 => ("FoulRightsModel", "bidPrice", "[I", true)
  | 22 => ("FoulRightsModel", "brought", "I", false)
  | 23 => ("FoulRightsModel", "projects", "I", false)
  | 24 => ("FoulRightsModel", "isFalse", "[Z", true)
  | 25 => ("FoulRightsModel", "cutMany", "[I", true)
  | 26 => ("FoulRightsModel", "tonnes", "[I", true)
  | 27 => ("FoulRightsModel", "costs", "[I", true)
  | 28 => ("FoulRightsModel", "given", "[I", true)
  | 29 => ("FoulRightsModel", "cutOff", "[I", true)
  | 30 => ("FoulRightsModel", "got", "[I", true)
  | 31 => ("FoulRightsModel", "cutsOf", "[I", true)
  | 32 => ("FoulRightsModel", "sum", "I", false)
  | _ => ("FoulRightsModel", "margin", "I", false)
def tyX9 : Nat → FieldType := fun k => match k with
  | 0 => .int
  | 1 => .int
  | 2 => .array .int
  | 3 => .array .int
  | 4 => .array .int
  | 5 => .array .int
  | 6 => .int
  | 7 => .array .int
  | 8 => .array .int
  | 9 => .array .int
  | 10 => .int
  | 11 => .array .int
  | 12 => .array .int
  | 13 => .array .int
  | 14 => .array .int
  | 15 => .array .int
  | 16 => .array .int
  | 17 => .int
  | 18 => .int
  | 19 => .array .int
  | 20 => .array .int
  | 21 => .array .int
  | 22 => .int
  | 23 => .int
  | 24 => .array .boolean
  | 25 => .array .int
  | 26 => .array .int
  | 27 => .array .int
  | 28 => .array .int
  | 29 => .array .int
  | 30 => .array .int
  | 31 => .array .int
  | 32 => .int
  | _ => .int
abbrev wsX90 : List Cond := u_ws RX9 TX9 34
theorem nmX9 : ∀ a, a < 34 → ∀ b, b < 34 → a ≠ b → (TX9 a).2.1 ≠ (TX9 b).2.1 := by decide +kernel
theorem tyX9_ok : ∀ k, k < 34 → parseFieldDescriptor (TX9 k).2.2.1 = some (tyX9 k) := by decide +kernel
abbrev cX9_init : ByteArray := prog_11_method_1_code
def yX9_init : MethodName := ⟨RX9, "<init>", "()V"⟩
abbrev cX9_in : ByteArray := prog_11_method_2_code
def yX9_in : MethodName := ⟨RX9, "in", "(III)Z"⟩
abbrev cX9_isWorks : ByteArray := prog_11_method_3_code
def yX9_isWorks : MethodName := ⟨RX9, "isWorks", "(I)Z"⟩
abbrev cX9_works : ByteArray := prog_11_method_4_code
def yX9_works : MethodName := ⟨RX9, "works", "()I"⟩
abbrev cX9_rule : ByteArray := prog_11_method_5_code
def yX9_rule : MethodName := ⟨RX9, "rule", "(III)Z"⟩
abbrev cX9_ruleOf : ByteArray := prog_11_method_6_code
def yX9_ruleOf : MethodName := ⟨RX9, "ruleOf", "(I)I"⟩
abbrev cX9_capOf : ByteArray := prog_11_method_7_code
def yX9_capOf : MethodName := ⟨RX9, "capOf", "(I)I"⟩
abbrev cX9_partOf : ByteArray := prog_11_method_8_code
def yX9_partOf : MethodName := ⟨RX9, "partOf", "(III)I"⟩
abbrev cX9_ruled : ByteArray := prog_11_method_9_code
def yX9_ruled : MethodName := ⟨RX9, "ruled", "(II)I"⟩
abbrev cX9_meter : ByteArray := prog_11_method_10_code
def yX9_meter : MethodName := ⟨RX9, "meter", "(IIII)Z"⟩
abbrev cX9_greatest : ByteArray := prog_11_method_11_code
def yX9_greatest : MethodName := ⟨RX9, "greatest", "(II)I"⟩
abbrev cX9_fouled : ByteArray := prog_11_method_12_code
def yX9_fouled : MethodName := ⟨RX9, "fouled", "(II)I"⟩
abbrev cX9_comes : ByteArray := prog_11_method_13_code
def yX9_comes : MethodName := ⟨RX9, "comes", "(II)V"⟩
abbrev cX9_gives : ByteArray := prog_11_method_14_code
def yX9_gives : MethodName := ⟨RX9, "gives", "(I)V"⟩
abbrev cX9_issue : ByteArray := prog_11_method_15_code
def yX9_issue : MethodName := ⟨RX9, "issue", "()I"⟩
abbrev cX9_holds : ByteArray := prog_11_method_16_code
def yX9_holds : MethodName := ⟨RX9, "holds", "(I)I"⟩
abbrev cX9_goes : ByteArray := prog_11_method_17_code
def yX9_goes : MethodName := ⟨RX9, "goes", "(III)V"⟩
abbrev cX9_ends : ByteArray := prog_11_method_18_code
def yX9_ends : MethodName := ⟨RX9, "ends", "(III)V"⟩
abbrev cX9_bid : ByteArray := prog_11_method_19_code
def yX9_bid : MethodName := ⟨RX9, "bid", "(III)I"⟩
abbrev cX9_auction : ByteArray := prog_11_method_20_code
def yX9_auction : MethodName := ⟨RX9, "auction", "()I"⟩
abbrev cX9_trade : ByteArray := prog_11_method_21_code
def yX9_trade : MethodName := ⟨RX9, "trade", "(IIII)Z"⟩
abbrev cX9_offset : ByteArray := prog_11_method_22_code
def yX9_offset : MethodName := ⟨RX9, "offset", "(II)I"⟩
abbrev cX9_falses : ByteArray := prog_11_method_23_code
def yX9_falses : MethodName := ⟨RX9, "falses", "(I)I"⟩
abbrev cX9_cancel : ByteArray := prog_11_method_24_code
def yX9_cancel : MethodName := ⟨RX9, "cancel", "(II)Z"⟩
abbrev cX9_end : ByteArray := prog_11_method_25_code
def yX9_end : MethodName := ⟨RX9, "end", "()I"⟩
abbrev cX9_permit : ByteArray := prog_11_method_26_code
def yX9_permit : MethodName := ⟨RX9, "permit", "(II)I"⟩
abbrev cX9_countOf : ByteArray := prog_11_method_27_code
def yX9_countOf : MethodName := ⟨RX9, "countOf", "(II)I"⟩
abbrev cX9_told : ByteArray := prog_11_method_28_code
def yX9_told : MethodName := ⟨RX9, "told", "(II)I"⟩
abbrev cX9_cut : ByteArray := prog_11_method_29_code
def yX9_cut : MethodName := ⟨RX9, "cut", "(III)I"⟩
abbrev cX9_cutsAll : ByteArray := prog_11_method_30_code
def yX9_cutsAll : MethodName := ⟨RX9, "cutsAll", "(I)Z"⟩
abbrev cX9_least : ByteArray := prog_11_method_31_code
def yX9_least : MethodName := ⟨RX9, "least", "(I)I"⟩
abbrev cX9_margin : ByteArray := prog_11_method_32_code
def yX9_margin : MethodName := ⟨RX9, "margin", "(I)I"⟩
abbrev cX9_cuts : ByteArray := prog_11_method_33_code
def yX9_cuts : MethodName := ⟨RX9, "cuts", "(II)I"⟩
abbrev cX9_count : ByteArray := prog_11_method_34_code
def yX9_count : MethodName := ⟨RX9, "count", "(I)I"⟩
def RJx8e188 : String := "java/lang/Cloneable"
def TJx8e188 : u_T := fun k => match k with
  | _ => ("", "", "", false)
def tyJx8e188 : Nat → FieldType := fun k => match k with
  | _ => .int
abbrev wsJx8e1880 : List Cond := u_ws RJx8e188 TJx8e188 0
theorem nmJx8e188 : ∀ a, a < 0 → ∀ b, b < 0 → a ≠ b → (TJx8e188 a).2.1 ≠ (TJx8e188 b).2.1 := by decide +kernel
theorem tyJx8e188_ok : ∀ k, k < 0 → parseFieldDescriptor (TJx8e188 k).2.2.1 = some (tyJx8e188 k) := by decide +kernel
def RJ9 : String := "java/lang/Math"
def TJ9 : u_T := fun k => match k with
  | _ => ("", "", "", false)
def tyJ9 : Nat → FieldType := fun k => match k with
  | _ => .int
abbrev wsJ90 : List Cond := u_ws RJ9 TJ9 0
theorem nmJ9 : ∀ a, a < 0 → ∀ b, b < 0 → a ≠ b → (TJ9 a).2.1 ≠ (TJ9 b).2.1 := by decide +kernel
theorem tyJ9_ok : ∀ k, k < 0 → parseFieldDescriptor (TJ9 k).2.2.1 = some (tyJ9 k) := by decide +kernel
abbrev cJ9_max_7cf53 : ByteArray := prog_13_method_65_code
def yJ9_max_7cf53 : MethodName := ⟨RJ9, "max", "(II)I"⟩
abbrev cJ9_min_7cf53 : ByteArray := prog_13_method_69_code
def yJ9_min_7cf53 : MethodName := ⟨RJ9, "min", "(II)I"⟩
def RJ10 : String := "java/lang/System"
def TJ10 : u_T := fun k => match k with
  | _ => ("", "", "", false)
def tyJ10 : Nat → FieldType := fun k => match k with
  | _ => .int
abbrev wsJ100 : List Cond := u_ws RJ10 TJ10 0
theorem nmJ10 : ∀ a, a < 0 → ∀ b, b < 0 → a ≠ b → (TJ10 a).2.1 ≠ (TJ10 b).2.1 := by decide +kernel
theorem tyJ10_ok : ∀ k, k < 0 → parseFieldDescriptor (TJ10 k).2.2.1 = some (tyJ10 k) := by decide +kernel
def RJ7 : String := "java/util/Arrays"
def TJ7 : u_T := fun k => match k with
  | _ => ("", "", "", false)
def tyJ7 : Nat → FieldType := fun k => match k with
  | _ => .int
abbrev wsJ70 : List Cond := u_ws RJ7 TJ7 0
theorem nmJ7 : ∀ a, a < 0 → ∀ b, b < 0 → a ≠ b → (TJ7 a).2.1 ≠ (TJ7 b).2.1 := by decide +kernel
theorem tyJ7_ok : ∀ k, k < 0 → parseFieldDescriptor (TJ7 k).2.2.1 = some (tyJ7 k) := by decide +kernel
abbrev cJ7_fill_53178 : ByteArray := prog_15_method_103_code
def yJ7_fill_53178 : MethodName := ⟨RJ7, "fill", "([II)V"⟩
abbrev cJ7_copyOf_59c91 : ByteArray := prog_15_method_123_code
def yJ7_copyOf_59c91 : MethodName := ⟨RJ7, "copyOf", "([II)[I"⟩
def RL : String := "FoulRightsLaw"
abbrev cL_law : ByteArray := code
def yL_law : MethodName := ⟨RL, "law", "([I)Z"⟩
def wsJ7_fill_53178 : List Cond := .code yJ7_fill_53178 cJ7_fill_53178 4 none :: ([])
def wsX6_init : List Cond := .code yX6_init cX6_init 3 none :: ([.methodLink RX6 1 objectInit, .instanceMethod objectInit, .code objectInit ⟨#[0xb1]⟩ 1 none, .methodLink RX6 7 Lib.Math.max.name, .static Lib.Math.max.name, .initialized "java/lang/Math", .code Lib.Math.max.name Lib.Math.max.code 2 (some .int), .arrayClass .int, .fieldLink RX6 13 "FoulRights$Row" "cells" "[I", .methodLink RX6 19 yJ7_fill_53178, .static yJ7_fill_53178, .initialized RJ7, .code yJ7_fill_53178 cJ7_fill_53178 4 none] ++ wsX60)
def wsX0_init : List Cond := .code yX0_init cX0_init 1 none :: ([.methodLink RX0 3 objectInit, .instanceMethod objectInit, .code objectInit ⟨#[0xb1]⟩ 1 none, .classLink RX0 9 RX6, .instantiable RX6 1, .initialized RX6, .fieldLink RX0 14 "FoulRights$Allotment" "fouledBefore" "LFoulRights$Row;", .fieldLink RX0 20 "FoulRights$Allotment" "parts" "LFoulRights$Row;", .fieldLink RX0 23 "FoulRights$Allotment" "cutOff" "LFoulRights$Row;", .methodLink RX0 11 yX6_init, .instanceMethod yX6_init, .code yX6_init cX6_init 3 none, .methodLink RX6 1 objectInit, .methodLink RX6 7 Lib.Math.max.name, .static Lib.Math.max.name, .initialized "java/lang/Math", .code Lib.Math.max.name Lib.Math.max.code 2 (some .int), .arrayClass .int, .fieldLink RX6 13 "FoulRights$Row" "cells" "[I", .methodLink RX6 19 yJ7_fill_53178, .static yJ7_fill_53178, .initialized RJ7, .code yJ7_fill_53178 cJ7_fill_53178 4 none] ++ wsX60 ++ wsX00)
def wsX6_at : List Cond := .code yX6_at cX6_at 2 (some .int) :: ([.fieldLink RX6 13 "FoulRights$Row" "cells" "[I"] ++ wsX60)
def wsX0_partOf : List Cond := .code yX0_partOf cX0_partOf 2 (some .int) :: ([.fieldLink RX0 20 "FoulRights$Allotment" "parts" "LFoulRights$Row;", .methodLink RX0 26 yX6_at, .instanceMethod yX6_at, .selects RX6 yX6_at yX6_at, .initialized RX6, .code yX6_at cX6_at 2 (some .int), .fieldLink RX6 13 "FoulRights$Row" "cells" "[I"] ++ wsX00 ++ wsX60)
def wsX4_place : List Cond := .code yX4_place cX4_place 3 (some .int) :: ([])
def wsX4_greatest : List Cond := .code yX4_greatest cX4_greatest 5 (some .int) :: ([.fieldLink RX4 14 "FoulRights$Meters" "readings" "LFoulRights$Row;", .methodLink RX4 38 Lib.Math.max.name, .static Lib.Math.max.name, .initialized "java/lang/Math", .code Lib.Math.max.name Lib.Math.max.code 2 (some .int), .methodLink RX4 20 yX4_place, .static yX4_place, .initialized RX4, .code yX4_place cX4_place 3 (some .int), .methodLink RX4 31 yX6_at, .instanceMethod yX6_at, .selects RX6 yX6_at yX6_at, .initialized RX6, .code yX6_at cX6_at 2 (some .int), .fieldLink RX6 13 "FoulRights$Row" "cells" "[I"] ++ wsX40 ++ wsX60)
def wsX4_gapIn : List Cond := .code yX4_gapIn cX4_gapIn 4 (some .int) :: ([.methodLink RX4 38 Lib.Math.max.name, .static Lib.Math.max.name, .initialized "java/lang/Math", .code Lib.Math.max.name Lib.Math.max.code 2 (some .int), .methodLink RX4 35 yX4_greatest, .instanceMethod yX4_greatest, .selects RX4 yX4_greatest yX4_greatest, .initialized RX4, .code yX4_greatest cX4_greatest 5 (some .int), .fieldLink RX4 14 "FoulRights$Meters" "readings" "LFoulRights$Row;", .methodLink RX4 20 yX4_place, .static yX4_place, .code yX4_place cX4_place 3 (some .int), .methodLink RX4 31 yX6_at, .instanceMethod yX6_at, .selects RX6 yX6_at yX6_at, .initialized RX6, .code yX6_at cX6_at 2 (some .int), .fieldLink RX6 13 "FoulRights$Row" "cells" "[I"] ++ wsX40 ++ wsX60)
def wsX4_fouledIn : List Cond := .code yX4_fouledIn cX4_fouledIn 7 (some .int) :: ([.fieldLink RX4 14 "FoulRights$Meters" "readings" "LFoulRights$Row;", .methodLink RX4 27 yX4_gapIn, .instanceMethod yX4_gapIn, .selects RX4 yX4_gapIn yX4_gapIn, .initialized RX4, .code yX4_gapIn cX4_gapIn 4 (some .int), .methodLink RX4 38 Lib.Math.max.name, .static Lib.Math.max.name, .initialized "java/lang/Math", .code Lib.Math.max.name Lib.Math.max.code 2 (some .int), .methodLink RX4 35 yX4_greatest, .instanceMethod yX4_greatest, .selects RX4 yX4_greatest yX4_greatest, .code yX4_greatest cX4_greatest 5 (some .int), .methodLink RX4 20 yX4_place, .static yX4_place, .code yX4_place cX4_place 3 (some .int), .methodLink RX4 31 yX6_at, .instanceMethod yX6_at, .selects RX6 yX6_at yX6_at, .initialized RX6, .code yX6_at cX6_at 2 (some .int), .fieldLink RX6 13 "FoulRights$Row" "cells" "[I"] ++ wsX40 ++ wsX60)
def wsX6_put : List Cond := .code yX6_put cX6_put 3 none :: ([.fieldLink RX6 13 "FoulRights$Row" "cells" "[I"] ++ wsX60)
def wsX0_look_r1 : List Cond := [Cond.fieldLink RX0 14 "FoulRights$Allotment" "fouledBefore" "LFoulRights$Row;", Cond.methodLink RX0 41 yX4_fouledIn, Cond.instanceMethod yX4_fouledIn, Cond.selects RX4 yX4_fouledIn yX4_fouledIn, Cond.initialized RX4, Cond.code yX4_fouledIn cX4_fouledIn 7 (some .int), Cond.fieldLink RX4 14 "FoulRights$Meters" "readings" "LFoulRights$Row;", Cond.methodLink RX4 27 yX4_gapIn, Cond.instanceMethod yX4_gapIn, Cond.selects RX4 yX4_gapIn yX4_gapIn, Cond.code yX4_gapIn cX4_gapIn 4 (some .int), Cond.methodLink RX4 38 Lib.Math.max.name, Cond.static Lib.Math.max.name, Cond.initialized "java/lang/Math", Cond.code Lib.Math.max.name Lib.Math.max.code 2 (some .int), Cond.methodLink RX4 35 yX4_greatest, Cond.instanceMethod yX4_greatest, Cond.selects RX4 yX4_greatest yX4_greatest, Cond.code yX4_greatest cX4_greatest 5 (some .int), Cond.methodLink RX4 20 yX4_place, Cond.static yX4_place, Cond.code yX4_place cX4_place 3 (some .int), Cond.methodLink RX4 31 yX6_at, Cond.instanceMethod yX6_at]
def wsX0_look_r2 : List Cond := [Cond.selects RX6 yX6_at yX6_at, Cond.initialized RX6, Cond.code yX6_at cX6_at 2 (some .int), Cond.fieldLink RX6 13 "FoulRights$Row" "cells" "[I", Cond.methodLink RX0 34 yX6_put, Cond.instanceMethod yX6_put, Cond.selects RX6 yX6_put yX6_put, Cond.code yX6_put cX6_put 3 none, Cond.methodLink RX0 26 yX6_at]
def wsX0_look : List Cond := .code yX0_look cX0_look 6 (some .int) :: ((wsX0_look_r1 ++ wsX0_look_r2) ++ wsX00 ++ wsX40 ++ wsX60)
def wsX0_mostCutOff : List Cond := .code yX0_mostCutOff cX0_mostCutOff 4 (some .int) :: ([.fieldLink RX0 23 "FoulRights$Allotment" "cutOff" "LFoulRights$Row;", .methodLink RX0 26 yX6_at, .instanceMethod yX6_at, .selects RX6 yX6_at yX6_at, .initialized RX6, .code yX6_at cX6_at 2 (some .int), .fieldLink RX6 13 "FoulRights$Row" "cells" "[I"] ++ wsX00 ++ wsX60)
def wsX6_add : List Cond := .code yX6_add cX6_add 3 none :: ([.methodLink RX6 25 yX6_at, .instanceMethod yX6_at, .selects RX6 yX6_at yX6_at, .initialized RX6, .code yX6_at cX6_at 2 (some .int), .fieldLink RX6 13 "FoulRights$Row" "cells" "[I", .methodLink RX6 29 yX6_put, .instanceMethod yX6_put, .selects RX6 yX6_put yX6_put, .code yX6_put cX6_put 3 none] ++ wsX60)
def wsX0_giveRest : List Cond := .code yX0_giveRest cX0_giveRest 7 (some .int) :: ([.fieldLink RX0 20 "FoulRights$Allotment" "parts" "LFoulRights$Row;", .fieldLink RX0 23 "FoulRights$Allotment" "cutOff" "LFoulRights$Row;", .methodLink RX0 47 yX0_mostCutOff, .instanceMethod yX0_mostCutOff, .selects RX0 yX0_mostCutOff yX0_mostCutOff, .initialized RX0, .code yX0_mostCutOff cX0_mostCutOff 4 (some .int), .methodLink RX0 26 yX6_at, .instanceMethod yX6_at, .selects RX6 yX6_at yX6_at, .initialized RX6, .code yX6_at cX6_at 2 (some .int), .fieldLink RX6 13 "FoulRights$Row" "cells" "[I", .methodLink RX0 50 yX6_add, .instanceMethod yX6_add, .selects RX6 yX6_add yX6_add, .code yX6_add cX6_add 3 none, .methodLink RX6 25 yX6_at, .methodLink RX6 29 yX6_put, .instanceMethod yX6_put, .selects RX6 yX6_put yX6_put, .code yX6_put cX6_put 3 none, .methodLink RX0 34 yX6_put] ++ wsX00 ++ wsX60)
def wsX0_share_r1 : List Cond := [Cond.fieldLink RX0 14 "FoulRights$Allotment" "fouledBefore" "LFoulRights$Row;", Cond.fieldLink RX0 20 "FoulRights$Allotment" "parts" "LFoulRights$Row;", Cond.fieldLink RX0 23 "FoulRights$Allotment" "cutOff" "LFoulRights$Row;", Cond.methodLink RX0 30 yX0_look, Cond.instanceMethod yX0_look, Cond.selects RX0 yX0_look yX0_look, Cond.initialized RX0, Cond.code yX0_look cX0_look 6 (some .int), Cond.methodLink RX0 41 yX4_fouledIn, Cond.instanceMethod yX4_fouledIn, Cond.selects RX4 yX4_fouledIn yX4_fouledIn, Cond.initialized RX4, Cond.code yX4_fouledIn cX4_fouledIn 7 (some .int), Cond.fieldLink RX4 14 "FoulRights$Meters" "readings" "LFoulRights$Row;", Cond.methodLink RX4 27 yX4_gapIn, Cond.instanceMethod yX4_gapIn, Cond.selects RX4 yX4_gapIn yX4_gapIn, Cond.code yX4_gapIn cX4_gapIn 4 (some .int), Cond.methodLink RX4 38 Lib.Math.max.name, Cond.static Lib.Math.max.name, Cond.initialized "java/lang/Math", Cond.code Lib.Math.max.name Lib.Math.max.code 2 (some .int), Cond.methodLink RX4 35 yX4_greatest, Cond.instanceMethod yX4_greatest]
def wsX0_share_r2 : List Cond := [Cond.selects RX4 yX4_greatest yX4_greatest, Cond.code yX4_greatest cX4_greatest 5 (some .int), Cond.methodLink RX4 20 yX4_place, Cond.static yX4_place, Cond.code yX4_place cX4_place 3 (some .int), Cond.methodLink RX4 31 yX6_at, Cond.instanceMethod yX6_at, Cond.selects RX6 yX6_at yX6_at, Cond.initialized RX6, Cond.code yX6_at cX6_at 2 (some .int), Cond.fieldLink RX6 13 "FoulRights$Row" "cells" "[I", Cond.methodLink RX0 34 yX6_put, Cond.instanceMethod yX6_put, Cond.selects RX6 yX6_put yX6_put, Cond.code yX6_put cX6_put 3 none, Cond.methodLink RX0 26 yX6_at, Cond.methodLink RX0 37 yX0_giveRest, Cond.instanceMethod yX0_giveRest, Cond.selects RX0 yX0_giveRest yX0_giveRest, Cond.code yX0_giveRest cX0_giveRest 7 (some .int), Cond.methodLink RX0 47 yX0_mostCutOff, Cond.instanceMethod yX0_mostCutOff, Cond.selects RX0 yX0_mostCutOff yX0_mostCutOff, Cond.code yX0_mostCutOff cX0_mostCutOff 4 (some .int)]
def wsX0_share_r3 : List Cond := [Cond.methodLink RX0 50 yX6_add, Cond.instanceMethod yX6_add, Cond.selects RX6 yX6_add yX6_add, Cond.code yX6_add cX6_add 3 none, Cond.methodLink RX6 25 yX6_at, Cond.methodLink RX6 29 yX6_put]
def wsX0_share : List Cond := .code yX0_share cX0_share 9 (some .int) :: ((wsX0_share_r1 ++ (wsX0_share_r2 ++ wsX0_share_r3)) ++ wsX00 ++ wsX40 ++ wsX60)
def wsX1_init : List Cond := .code yX1_init cX1_init 1 none :: ([.methodLink RX1 3 objectInit, .instanceMethod objectInit, .code objectInit ⟨#[0xb1]⟩ 1 none, .classLink RX1 9 RX6, .instantiable RX6 1, .initialized RX6, .fieldLink RX1 14 "FoulRights$Bids" "bidder" "LFoulRights$Row;", .fieldLink RX1 20 "FoulRights$Bids" "wants" "LFoulRights$Row;", .fieldLink RX1 23 "FoulRights$Bids" "offered" "LFoulRights$Row;", .fieldLink RX1 26 "FoulRights$Bids" "granted" "LFoulRights$Row;", .methodLink RX1 11 yX6_init, .instanceMethod yX6_init, .code yX6_init cX6_init 3 none, .methodLink RX6 1 objectInit, .methodLink RX6 7 Lib.Math.max.name, .static Lib.Math.max.name, .initialized "java/lang/Math", .code Lib.Math.max.name Lib.Math.max.code 2 (some .int), .arrayClass .int, .fieldLink RX6 13 "FoulRights$Row" "cells" "[I", .methodLink RX6 19 yJ7_fill_53178, .static yJ7_fill_53178, .initialized RJ7, .code yJ7_fill_53178 cJ7_fill_53178 4 none] ++ wsX60 ++ wsX10)
def wsX1_areFull : List Cond := .code yX1_areFull cX1_areFull 1 (some .boolean) :: ([.fieldLink RX1 29 "FoulRights$Bids" "size" "I"] ++ wsX10)
def wsX6_squeeze : List Cond := .code yX6_squeeze cX6_squeeze 5 none :: ([.methodLink RX6 25 yX6_at, .instanceMethod yX6_at, .selects RX6 yX6_at yX6_at, .initialized RX6, .code yX6_at cX6_at 2 (some .int), .fieldLink RX6 13 "FoulRights$Row" "cells" "[I", .methodLink RX6 29 yX6_put, .instanceMethod yX6_put, .selects RX6 yX6_put yX6_put, .code yX6_put cX6_put 3 none] ++ wsX60)
def wsX1_enter : List Cond := .code yX1_enter cX1_enter 5 (some .int) :: ([.fieldLink RX1 29 "FoulRights$Bids" "size" "I", .fieldLink RX1 23 "FoulRights$Bids" "offered" "LFoulRights$Row;", .fieldLink RX1 14 "FoulRights$Bids" "bidder" "LFoulRights$Row;", .fieldLink RX1 20 "FoulRights$Bids" "wants" "LFoulRights$Row;", .fieldLink RX1 26 "FoulRights$Bids" "granted" "LFoulRights$Row;", .methodLink RX1 33 yX6_at, .instanceMethod yX6_at, .selects RX6 yX6_at yX6_at, .initialized RX6, .code yX6_at cX6_at 2 (some .int), .fieldLink RX6 13 "FoulRights$Row" "cells" "[I", .methodLink RX1 37 yX6_squeeze, .instanceMethod yX6_squeeze, .selects RX6 yX6_squeeze yX6_squeeze, .code yX6_squeeze cX6_squeeze 5 none, .methodLink RX6 25 yX6_at, .methodLink RX6 29 yX6_put, .instanceMethod yX6_put, .selects RX6 yX6_put yX6_put, .code yX6_put cX6_put 3 none, .methodLink RX1 41 yX6_put] ++ wsX10 ++ wsX60)
def wsX1_grant : List Cond := .code yX1_grant cX1_grant 3 none :: ([.fieldLink RX1 26 "FoulRights$Bids" "granted" "LFoulRights$Row;", .methodLink RX1 41 yX6_put, .instanceMethod yX6_put, .selects RX6 yX6_put yX6_put, .initialized RX6, .code yX6_put cX6_put 3 none, .fieldLink RX6 13 "FoulRights$Row" "cells" "[I"] ++ wsX10 ++ wsX60)
def wsX1_forget : List Cond := .code yX1_forget cX1_forget 1 none :: ([.fieldLink RX1 29 "FoulRights$Bids" "size" "I"] ++ wsX10)
def wsX1_many : List Cond := .code yX1_many cX1_many 1 (some .int) :: ([.fieldLink RX1 29 "FoulRights$Bids" "size" "I"] ++ wsX10)
def wsX1_who : List Cond := .code yX1_who cX1_who 2 (some .int) :: ([.fieldLink RX1 14 "FoulRights$Bids" "bidder" "LFoulRights$Row;", .methodLink RX1 33 yX6_at, .instanceMethod yX6_at, .selects RX6 yX6_at yX6_at, .initialized RX6, .code yX6_at cX6_at 2 (some .int), .fieldLink RX6 13 "FoulRights$Row" "cells" "[I"] ++ wsX10 ++ wsX60)
def wsX1_wanted : List Cond := .code yX1_wanted cX1_wanted 2 (some .int) :: ([.fieldLink RX1 20 "FoulRights$Bids" "wants" "LFoulRights$Row;", .methodLink RX1 33 yX6_at, .instanceMethod yX6_at, .selects RX6 yX6_at yX6_at, .initialized RX6, .code yX6_at cX6_at 2 (some .int), .fieldLink RX6 13 "FoulRights$Row" "cells" "[I"] ++ wsX10 ++ wsX60)
def wsX1_price : List Cond := .code yX1_price cX1_price 2 (some .int) :: ([.fieldLink RX1 23 "FoulRights$Bids" "offered" "LFoulRights$Row;", .methodLink RX1 33 yX6_at, .instanceMethod yX6_at, .selects RX6 yX6_at yX6_at, .initialized RX6, .code yX6_at cX6_at 2 (some .int), .fieldLink RX6 13 "FoulRights$Row" "cells" "[I"] ++ wsX10 ++ wsX60)
def wsX1_got : List Cond := .code yX1_got cX1_got 2 (some .int) :: ([.fieldLink RX1 26 "FoulRights$Bids" "granted" "LFoulRights$Row;", .methodLink RX1 33 yX6_at, .instanceMethod yX6_at, .selects RX6 yX6_at yX6_at, .initialized RX6, .code yX6_at cX6_at 2 (some .int), .fieldLink RX6 13 "FoulRights$Row" "cells" "[I"] ++ wsX10 ++ wsX60)
def wsX2_init : List Cond := .code yX2_init cX2_init 1 none :: ([.methodLink RX2 3 objectInit, .instanceMethod objectInit, .code objectInit ⟨#[0xb1]⟩ 1 none, .classLink RX2 9 RX6, .instantiable RX6 1, .initialized RX6, .fieldLink RX2 14 "FoulRights$Cuts" "owner" "LFoulRights$Row;", .fieldLink RX2 20 "FoulRights$Cuts" "tonnes" "LFoulRights$Row;", .fieldLink RX2 23 "FoulRights$Cuts" "costs" "LFoulRights$Row;", .fieldLink RX2 26 "FoulRights$Cuts" "each" "LFoulRights$Row;", .methodLink RX2 11 yX6_init, .instanceMethod yX6_init, .code yX6_init cX6_init 3 none, .methodLink RX6 1 objectInit, .methodLink RX6 7 Lib.Math.max.name, .static Lib.Math.max.name, .initialized "java/lang/Math", .code Lib.Math.max.name Lib.Math.max.code 2 (some .int), .arrayClass .int, .fieldLink RX6 13 "FoulRights$Row" "cells" "[I", .methodLink RX6 19 yJ7_fill_53178, .static yJ7_fill_53178, .initialized RJ7, .code yJ7_fill_53178 cJ7_fill_53178 4 none] ++ wsX60 ++ wsX20)
def wsX2_comesBehind : List Cond := .code yX2_comesBehind cX2_comesBehind 4 (some .boolean) :: ([.fieldLink RX2 23 "FoulRights$Cuts" "costs" "LFoulRights$Row;", .fieldLink RX2 14 "FoulRights$Cuts" "owner" "LFoulRights$Row;", .methodLink RX2 29 yX6_at, .instanceMethod yX6_at, .selects RX6 yX6_at yX6_at, .initialized RX6, .code yX6_at cX6_at 2 (some .int), .fieldLink RX6 13 "FoulRights$Row" "cells" "[I"] ++ wsX20 ++ wsX60)
def wsX2_offer_r1 : List Cond := [Cond.fieldLink RX2 26 "FoulRights$Cuts" "each" "LFoulRights$Row;", Cond.fieldLink RX2 33 "FoulRights$Cuts" "size" "I", Cond.fieldLink RX2 14 "FoulRights$Cuts" "owner" "LFoulRights$Row;", Cond.fieldLink RX2 20 "FoulRights$Cuts" "tonnes" "LFoulRights$Row;", Cond.fieldLink RX2 23 "FoulRights$Cuts" "costs" "LFoulRights$Row;", Cond.fieldLink RX2 45 "FoulRights$Cuts" "allTonnes" "I", Cond.methodLink RX2 29 yX6_at, Cond.instanceMethod yX6_at, Cond.selects RX6 yX6_at yX6_at, Cond.initialized RX6, Cond.code yX6_at cX6_at 2 (some .int), Cond.fieldLink RX6 13 "FoulRights$Row" "cells" "[I", Cond.methodLink RX2 37 yX2_comesBehind, Cond.instanceMethod yX2_comesBehind, Cond.selects RX2 yX2_comesBehind yX2_comesBehind, Cond.initialized RX2, Cond.code yX2_comesBehind cX2_comesBehind 4 (some .boolean), Cond.methodLink RX2 41 yX6_squeeze, Cond.instanceMethod yX6_squeeze, Cond.selects RX6 yX6_squeeze yX6_squeeze, Cond.code yX6_squeeze cX6_squeeze 5 none, Cond.methodLink RX6 25 yX6_at, Cond.methodLink RX6 29 yX6_put, Cond.instanceMethod yX6_put]
def wsX2_offer_r2 : List Cond := [Cond.selects RX6 yX6_put yX6_put, Cond.code yX6_put cX6_put 3 none, Cond.methodLink RX2 48 yX6_add, Cond.instanceMethod yX6_add, Cond.selects RX6 yX6_add yX6_add, Cond.code yX6_add cX6_add 3 none]
def wsX2_offer : List Cond := .code yX2_offer cX2_offer 5 (some .int) :: ((wsX2_offer_r1 ++ wsX2_offer_r2) ++ wsX20 ++ wsX60)
def wsX2_canBe : List Cond := .code yX2_canBe cX2_canBe 2 (some .boolean) :: ([.fieldLink RX2 45 "FoulRights$Cuts" "allTonnes" "I"] ++ wsX20)
def wsX2_costOf : List Cond := .code yX2_costOf cX2_costOf 6 (some .int) :: ([.fieldLink RX2 33 "FoulRights$Cuts" "size" "I", .fieldLink RX2 20 "FoulRights$Cuts" "tonnes" "LFoulRights$Row;", .methodLink RX2 51 Lib.Math.min.name, .static Lib.Math.min.name, .initialized "java/lang/Math", .code Lib.Math.min.name Lib.Math.min.code 2 (some .int), .fieldLink RX2 23 "FoulRights$Cuts" "costs" "LFoulRights$Row;", .methodLink RX2 29 yX6_at, .instanceMethod yX6_at, .selects RX6 yX6_at yX6_at, .initialized RX6, .code yX6_at cX6_at 2 (some .int), .fieldLink RX6 13 "FoulRights$Row" "cells" "[I"] ++ wsX20 ++ wsX60)
def wsX2_dearestOf : List Cond := .code yX2_dearestOf cX2_dearestOf 5 (some .int) :: ([.fieldLink RX2 33 "FoulRights$Cuts" "size" "I", .fieldLink RX2 23 "FoulRights$Cuts" "costs" "LFoulRights$Row;", .fieldLink RX2 20 "FoulRights$Cuts" "tonnes" "LFoulRights$Row;", .methodLink RX2 29 yX6_at, .instanceMethod yX6_at, .selects RX6 yX6_at yX6_at, .initialized RX6, .code yX6_at cX6_at 2 (some .int), .fieldLink RX6 13 "FoulRights$Row" "cells" "[I"] ++ wsX20 ++ wsX60)
def wsX2_partOf : List Cond := .code yX2_partOf cX2_partOf 7 (some .int) :: ([.fieldLink RX2 33 "FoulRights$Cuts" "size" "I", .fieldLink RX2 20 "FoulRights$Cuts" "tonnes" "LFoulRights$Row;", .methodLink RX2 51 Lib.Math.min.name, .static Lib.Math.min.name, .initialized "java/lang/Math", .code Lib.Math.min.name Lib.Math.min.code 2 (some .int), .fieldLink RX2 14 "FoulRights$Cuts" "owner" "LFoulRights$Row;", .methodLink RX2 29 yX6_at, .instanceMethod yX6_at, .selects RX6 yX6_at yX6_at, .initialized RX6, .code yX6_at cX6_at 2 (some .int), .fieldLink RX6 13 "FoulRights$Row" "cells" "[I"] ++ wsX20 ++ wsX60)
def wsX3_init : List Cond := .code yX3_init cX3_init 1 none :: ([.methodLink RX3 3 objectInit, .instanceMethod objectInit, .code objectInit ⟨#[0xb1]⟩ 1 none, .classLink RX3 9 RX6, .instantiable RX6 1, .initialized RX6, .fieldLink RX3 14 "FoulRights$Ledger" "coins" "LFoulRights$Row;", .fieldLink RX3 20 "FoulRights$Ledger" "debts" "LFoulRights$Row;", .fieldLink RX3 23 "FoulRights$Ledger" "usedEver" "LFoulRights$Row;", .fieldLink RX3 26 "FoulRights$Ledger" "finesEver" "LFoulRights$Row;", .methodLink RX3 11 yX6_init, .instanceMethod yX6_init, .code yX6_init cX6_init 3 none, .methodLink RX6 1 objectInit, .methodLink RX6 7 Lib.Math.max.name, .static Lib.Math.max.name, .initialized "java/lang/Math", .code Lib.Math.max.name Lib.Math.max.code 2 (some .int), .arrayClass .int, .fieldLink RX6 13 "FoulRights$Row" "cells" "[I", .methodLink RX6 19 yJ7_fill_53178, .static yJ7_fill_53178, .initialized RJ7, .code yJ7_fill_53178 cJ7_fill_53178 4 none] ++ wsX60 ++ wsX30)
def wsX3_earn : List Cond := .code yX3_earn cX3_earn 3 none :: ([.fieldLink RX3 14 "FoulRights$Ledger" "coins" "LFoulRights$Row;", .methodLink RX3 29 yX6_add, .instanceMethod yX6_add, .selects RX6 yX6_add yX6_add, .initialized RX6, .code yX6_add cX6_add 3 none, .methodLink RX6 25 yX6_at, .instanceMethod yX6_at, .selects RX6 yX6_at yX6_at, .code yX6_at cX6_at 2 (some .int), .fieldLink RX6 13 "FoulRights$Row" "cells" "[I", .methodLink RX6 29 yX6_put, .instanceMethod yX6_put, .selects RX6 yX6_put yX6_put, .code yX6_put cX6_put 3 none] ++ wsX30 ++ wsX60)
def wsX3_owe : List Cond := .code yX3_owe cX3_owe 3 none :: ([.fieldLink RX3 20 "FoulRights$Ledger" "debts" "LFoulRights$Row;", .methodLink RX3 29 yX6_add, .instanceMethod yX6_add, .selects RX6 yX6_add yX6_add, .initialized RX6, .code yX6_add cX6_add 3 none, .methodLink RX6 25 yX6_at, .instanceMethod yX6_at, .selects RX6 yX6_at yX6_at, .code yX6_at cX6_at 2 (some .int), .fieldLink RX6 13 "FoulRights$Row" "cells" "[I", .methodLink RX6 29 yX6_put, .instanceMethod yX6_put, .selects RX6 yX6_put yX6_put, .code yX6_put cX6_put 3 none] ++ wsX30 ++ wsX60)
def wsX3_close : List Cond := .code yX3_close cX3_close 5 none :: ([.fieldLink RX3 14 "FoulRights$Ledger" "coins" "LFoulRights$Row;", .fieldLink RX3 26 "FoulRights$Ledger" "finesEver" "LFoulRights$Row;", .fieldLink RX3 32 "FoulRights$Ledger" "finesOfAll" "I", .fieldLink RX3 23 "FoulRights$Ledger" "usedEver" "LFoulRights$Row;", .fieldLink RX3 20 "FoulRights$Ledger" "debts" "LFoulRights$Row;", .methodLink RX3 29 yX6_add, .instanceMethod yX6_add, .selects RX6 yX6_add yX6_add, .initialized RX6, .code yX6_add cX6_add 3 none, .methodLink RX6 25 yX6_at, .instanceMethod yX6_at, .selects RX6 yX6_at yX6_at, .code yX6_at cX6_at 2 (some .int), .fieldLink RX6 13 "FoulRights$Row" "cells" "[I", .methodLink RX6 29 yX6_put, .instanceMethod yX6_put, .selects RX6 yX6_put yX6_put, .code yX6_put cX6_put 3 none, .methodLink RX3 36 yX6_put] ++ wsX30 ++ wsX60)
def wsX3_debtOf : List Cond := .code yX3_debtOf cX3_debtOf 2 (some .int) :: ([.fieldLink RX3 20 "FoulRights$Ledger" "debts" "LFoulRights$Row;", .methodLink RX3 39 yX6_at, .instanceMethod yX6_at, .selects RX6 yX6_at yX6_at, .initialized RX6, .code yX6_at cX6_at 2 (some .int), .fieldLink RX6 13 "FoulRights$Row" "cells" "[I"] ++ wsX30 ++ wsX60)
def wsX3_allFines : List Cond := .code yX3_allFines cX3_allFines 1 (some .int) :: ([.fieldLink RX3 32 "FoulRights$Ledger" "finesOfAll" "I"] ++ wsX30)
def wsX3_fact : List Cond := .code yX3_fact cX3_fact 3 (some .int) :: ([.fieldLink RX3 14 "FoulRights$Ledger" "coins" "LFoulRights$Row;", .fieldLink RX3 20 "FoulRights$Ledger" "debts" "LFoulRights$Row;", .fieldLink RX3 23 "FoulRights$Ledger" "usedEver" "LFoulRights$Row;", .fieldLink RX3 26 "FoulRights$Ledger" "finesEver" "LFoulRights$Row;", .constant RX3 43 (-2147483648), .methodLink RX3 39 yX6_at, .instanceMethod yX6_at, .selects RX6 yX6_at yX6_at, .initialized RX6, .code yX6_at cX6_at 2 (some .int), .fieldLink RX6 13 "FoulRights$Row" "cells" "[I"] ++ wsX30 ++ wsX60)
def wsX4_init : List Cond := .code yX4_init cX4_init 1 none :: ([.methodLink RX4 3 objectInit, .instanceMethod objectInit, .code objectInit ⟨#[0xb1]⟩ 1 none, .classLink RX4 9 RX6, .instantiable RX6 1, .initialized RX6, .fieldLink RX4 14 "FoulRights$Meters" "readings" "LFoulRights$Row;", .methodLink RX4 11 yX6_init, .instanceMethod yX6_init, .code yX6_init cX6_init 3 none, .methodLink RX6 1 objectInit, .methodLink RX6 7 Lib.Math.max.name, .static Lib.Math.max.name, .initialized "java/lang/Math", .code Lib.Math.max.name Lib.Math.max.code 2 (some .int), .arrayClass .int, .fieldLink RX6 13 "FoulRights$Row" "cells" "[I", .methodLink RX6 19 yJ7_fill_53178, .static yJ7_fill_53178, .initialized RJ7, .code yJ7_fill_53178 cJ7_fill_53178 4 none] ++ wsX60 ++ wsX40)
def wsX4_read : List Cond := .code yX4_read cX4_read 5 none :: ([.fieldLink RX4 14 "FoulRights$Meters" "readings" "LFoulRights$Row;", .methodLink RX4 20 yX4_place, .static yX4_place, .initialized RX4, .code yX4_place cX4_place 3 (some .int), .methodLink RX4 24 yX6_put, .instanceMethod yX6_put, .selects RX6 yX6_put yX6_put, .initialized RX6, .code yX6_put cX6_put 3 none, .fieldLink RX6 13 "FoulRights$Row" "cells" "[I"] ++ wsX40 ++ wsX60)
def wsX5_init_r1 : List Cond := [Cond.methodLink RX5 3 objectInit, Cond.instanceMethod objectInit, Cond.code objectInit ⟨#[0xb1]⟩ 1 none, Cond.classLink RX5 9 RX6, Cond.instantiable RX6 1, Cond.initialized RX6, Cond.fieldLink RX5 14 "FoulRights$Permits" "state" "LFoulRights$Row;", Cond.fieldLink RX5 20 "FoulRights$Permits" "holder" "LFoulRights$Row;", Cond.fieldLink RX5 23 "FoulRights$Permits" "cameIn" "LFoulRights$Row;", Cond.fieldLink RX5 26 "FoulRights$Permits" "usedIn" "LFoulRights$Row;", Cond.fieldLink RX5 29 "FoulRights$Permits" "project" "LFoulRights$Row;", Cond.fieldLink RX5 32 "FoulRights$Permits" "moves" "LFoulRights$Row;", Cond.fieldLink RX5 35 "FoulRights$Permits" "held" "LFoulRights$Row;", Cond.fieldLink RX5 38 "FoulRights$Permits" "searched" "LFoulRights$Row;", Cond.methodLink RX5 11 yX6_init, Cond.instanceMethod yX6_init, Cond.code yX6_init cX6_init 3 none, Cond.methodLink RX6 1 objectInit, Cond.methodLink RX6 7 Lib.Math.max.name, Cond.static Lib.Math.max.name, Cond.initialized "java/lang/Math", Cond.code Lib.Math.max.name Lib.Math.max.code 2 (some .int), Cond.arrayClass .int, Cond.fieldLink RX6 13 "FoulRights$Row" "cells" "[I"]
def wsX5_init_r2 : List Cond := [Cond.methodLink RX6 19 yJ7_fill_53178, Cond.static yJ7_fill_53178, Cond.initialized RJ7, Cond.code yJ7_fill_53178 cJ7_fill_53178 4 none]
def wsX5_init : List Cond := .code yX5_init cX5_init 1 none :: ((wsX5_init_r1 ++ wsX5_init_r2) ++ wsX60 ++ wsX50)
def wsX5_hasRoomFor : List Cond := .code yX5_hasRoomFor cX5_hasRoomFor 2 (some .boolean) :: ([.fieldLink RX5 41 "FoulRights$Permits" "came" "I"] ++ wsX50)
def wsJ7_copyOf_59c91 : List Cond := .code yJ7_copyOf_59c91 cJ7_copyOf_59c91 3 (some (.array .int)) :: ([.methodLink RJ7 316 ⟨"[I", "clone", "()Ljava/lang/Object;"⟩, .sameMethod "[I" "java/lang/Object" "clone" "()Ljava/lang/Object;", .native ⟨"java/lang/Object", "clone", "()Ljava/lang/Object;"⟩, .instanceMethod ⟨"java/lang/Object", "clone", "()Ljava/lang/Object;"⟩, .selects "[I" ⟨"[I", "clone", "()Ljava/lang/Object;"⟩ ⟨"java/lang/Object", "clone", "()Ljava/lang/Object;"⟩, .classLink RJ7 317 "[I", .arrayClass .int, .methodLink RJ7 304 Lib.Math.min.name, .static Lib.Math.min.name, .initialized "java/lang/Math", .code Lib.Math.min.name Lib.Math.min.code 2 (some .int), .methodLink RJ7 150 arraycopyName, .native arraycopyName, .static arraycopyName, .initialized "java/lang/System"])
def wsX6_widen : List Cond := .code yX6_widen cX6_widen 2 none :: ([.fieldLink RX6 13 "FoulRights$Row" "cells" "[I", .methodLink RX6 33 yJ7_copyOf_59c91, .static yJ7_copyOf_59c91, .initialized RJ7, .code yJ7_copyOf_59c91 cJ7_copyOf_59c91 3 (some (.array .int)), .methodLink RJ7 316 ⟨"[I", "clone", "()Ljava/lang/Object;"⟩, .sameMethod "[I" "java/lang/Object" "clone" "()Ljava/lang/Object;", .native ⟨"java/lang/Object", "clone", "()Ljava/lang/Object;"⟩, .instanceMethod ⟨"java/lang/Object", "clone", "()Ljava/lang/Object;"⟩, .selects "[I" ⟨"[I", "clone", "()Ljava/lang/Object;"⟩ ⟨"java/lang/Object", "clone", "()Ljava/lang/Object;"⟩, .classLink RJ7 317 "[I", .arrayClass .int, .methodLink RJ7 304 Lib.Math.min.name, .static Lib.Math.min.name, .initialized "java/lang/Math", .code Lib.Math.min.name Lib.Math.min.code 2 (some .int), .methodLink RJ7 150 arraycopyName, .native arraycopyName, .static arraycopyName, .initialized "java/lang/System"] ++ wsX60)
def wsX5_makeRoom_r1 : List Cond := [Cond.fieldLink RX5 55 "FoulRights$Permits" "room" "I", Cond.methodLink RX5 58 Lib.Math.max.name, Cond.static Lib.Math.max.name, Cond.initialized "java/lang/Math", Cond.code Lib.Math.max.name Lib.Math.max.code 2 (some .int), Cond.methodLink RX5 64 Lib.Math.min.name, Cond.static Lib.Math.min.name, Cond.code Lib.Math.min.name Lib.Math.min.code 2 (some .int), Cond.fieldLink RX5 14 "FoulRights$Permits" "state" "LFoulRights$Row;", Cond.fieldLink RX5 20 "FoulRights$Permits" "holder" "LFoulRights$Row;", Cond.fieldLink RX5 23 "FoulRights$Permits" "cameIn" "LFoulRights$Row;", Cond.fieldLink RX5 26 "FoulRights$Permits" "usedIn" "LFoulRights$Row;", Cond.fieldLink RX5 29 "FoulRights$Permits" "project" "LFoulRights$Row;", Cond.fieldLink RX5 32 "FoulRights$Permits" "moves" "LFoulRights$Row;", Cond.methodLink RX5 67 yX6_widen, Cond.instanceMethod yX6_widen, Cond.selects RX6 yX6_widen yX6_widen, Cond.initialized RX6, Cond.code yX6_widen cX6_widen 2 none, Cond.fieldLink RX6 13 "FoulRights$Row" "cells" "[I", Cond.methodLink RX6 33 yJ7_copyOf_59c91, Cond.static yJ7_copyOf_59c91, Cond.initialized RJ7, Cond.code yJ7_copyOf_59c91 cJ7_copyOf_59c91 3 (some (.array .int))]
def wsX5_makeRoom_r2 : List Cond := [Cond.methodLink RJ7 316 ⟨"[I", "clone", "()Ljava/lang/Object;"⟩, Cond.sameMethod "[I" "java/lang/Object" "clone" "()Ljava/lang/Object;", Cond.native ⟨"java/lang/Object", "clone", "()Ljava/lang/Object;"⟩, Cond.instanceMethod ⟨"java/lang/Object", "clone", "()Ljava/lang/Object;"⟩, Cond.selects "[I" ⟨"[I", "clone", "()Ljava/lang/Object;"⟩ ⟨"java/lang/Object", "clone", "()Ljava/lang/Object;"⟩, Cond.classLink RJ7 317 "[I", Cond.arrayClass .int, Cond.methodLink RJ7 304 Lib.Math.min.name, Cond.methodLink RJ7 150 arraycopyName, Cond.native arraycopyName, Cond.static arraycopyName, Cond.initialized "java/lang/System"]
def wsX5_makeRoom : List Cond := .code yX5_makeRoom cX5_makeRoom 2 none :: ((wsX5_makeRoom_r1 ++ wsX5_makeRoom_r2) ++ wsX50 ++ wsX60)
def wsX5_come_r1 : List Cond := [Cond.fieldLink RX5 41 "FoulRights$Permits" "came" "I", Cond.fieldLink RX5 14 "FoulRights$Permits" "state" "LFoulRights$Row;", Cond.fieldLink RX5 20 "FoulRights$Permits" "holder" "LFoulRights$Row;", Cond.fieldLink RX5 23 "FoulRights$Permits" "cameIn" "LFoulRights$Row;", Cond.fieldLink RX5 26 "FoulRights$Permits" "usedIn" "LFoulRights$Row;", Cond.fieldLink RX5 29 "FoulRights$Permits" "project" "LFoulRights$Row;", Cond.fieldLink RX5 32 "FoulRights$Permits" "moves" "LFoulRights$Row;", Cond.fieldLink RX5 35 "FoulRights$Permits" "held" "LFoulRights$Row;", Cond.methodLink RX5 45 yX5_makeRoom, Cond.instanceMethod yX5_makeRoom, Cond.selects RX5 yX5_makeRoom yX5_makeRoom, Cond.initialized RX5, Cond.code yX5_makeRoom cX5_makeRoom 2 none, Cond.fieldLink RX5 55 "FoulRights$Permits" "room" "I", Cond.methodLink RX5 58 Lib.Math.max.name, Cond.static Lib.Math.max.name, Cond.initialized "java/lang/Math", Cond.code Lib.Math.max.name Lib.Math.max.code 2 (some .int), Cond.methodLink RX5 64 Lib.Math.min.name, Cond.static Lib.Math.min.name, Cond.code Lib.Math.min.name Lib.Math.min.code 2 (some .int), Cond.methodLink RX5 67 yX6_widen, Cond.instanceMethod yX6_widen, Cond.selects RX6 yX6_widen yX6_widen]
def wsX5_come_r2 : List Cond := [Cond.initialized RX6, Cond.code yX6_widen cX6_widen 2 none, Cond.fieldLink RX6 13 "FoulRights$Row" "cells" "[I", Cond.methodLink RX6 33 yJ7_copyOf_59c91, Cond.static yJ7_copyOf_59c91, Cond.initialized RJ7, Cond.code yJ7_copyOf_59c91 cJ7_copyOf_59c91 3 (some (.array .int)), Cond.methodLink RJ7 316 ⟨"[I", "clone", "()Ljava/lang/Object;"⟩, Cond.sameMethod "[I" "java/lang/Object" "clone" "()Ljava/lang/Object;", Cond.native ⟨"java/lang/Object", "clone", "()Ljava/lang/Object;"⟩, Cond.instanceMethod ⟨"java/lang/Object", "clone", "()Ljava/lang/Object;"⟩, Cond.selects "[I" ⟨"[I", "clone", "()Ljava/lang/Object;"⟩ ⟨"java/lang/Object", "clone", "()Ljava/lang/Object;"⟩, Cond.classLink RJ7 317 "[I", Cond.arrayClass .int, Cond.methodLink RJ7 304 Lib.Math.min.name, Cond.methodLink RJ7 150 arraycopyName, Cond.native arraycopyName, Cond.static arraycopyName, Cond.initialized "java/lang/System", Cond.methodLink RX5 49 yX6_put, Cond.instanceMethod yX6_put, Cond.selects RX6 yX6_put yX6_put, Cond.code yX6_put cX6_put 3 none, Cond.methodLink RX5 52 yX6_add]
def wsX5_come_r3 : List Cond := [Cond.instanceMethod yX6_add, Cond.selects RX6 yX6_add yX6_add, Cond.code yX6_add cX6_add 3 none, Cond.methodLink RX6 25 yX6_at, Cond.instanceMethod yX6_at, Cond.selects RX6 yX6_at yX6_at, Cond.code yX6_at cX6_at 2 (some .int), Cond.methodLink RX6 29 yX6_put]
def wsX5_come : List Cond := .code yX5_come cX5_come 6 none :: ((wsX5_come_r1 ++ (wsX5_come_r2 ++ wsX5_come_r3)) ++ wsX50 ++ wsX60)
def wsX5_isHeld : List Cond := .code yX5_isHeld cX5_isHeld 2 (some .boolean) :: ([.fieldLink RX5 14 "FoulRights$Permits" "state" "LFoulRights$Row;", .methodLink RX5 74 yX6_at, .instanceMethod yX6_at, .selects RX6 yX6_at yX6_at, .initialized RX6, .code yX6_at cX6_at 2 (some .int), .fieldLink RX6 13 "FoulRights$Row" "cells" "[I"] ++ wsX50 ++ wsX60)
def wsX5_leastOf : List Cond := .code yX5_leastOf cX5_leastOf 3 (some .int) :: ([.fieldLink RX5 38 "FoulRights$Permits" "searched" "LFoulRights$Row;", .fieldLink RX5 41 "FoulRights$Permits" "came" "I", .fieldLink RX5 20 "FoulRights$Permits" "holder" "LFoulRights$Row;", .methodLink RX5 74 yX6_at, .instanceMethod yX6_at, .selects RX6 yX6_at yX6_at, .initialized RX6, .code yX6_at cX6_at 2 (some .int), .fieldLink RX6 13 "FoulRights$Row" "cells" "[I", .methodLink RX5 86 yX5_isHeld, .instanceMethod yX5_isHeld, .selects RX5 yX5_isHeld yX5_isHeld, .initialized RX5, .code yX5_isHeld cX5_isHeld 2 (some .boolean), .fieldLink RX5 14 "FoulRights$Permits" "state" "LFoulRights$Row;", .methodLink RX5 49 yX6_put, .instanceMethod yX6_put, .selects RX6 yX6_put yX6_put, .code yX6_put cX6_put 3 none] ++ wsX50 ++ wsX60)
def wsX5_pass_r1 : List Cond := [Cond.fieldLink RX5 20 "FoulRights$Permits" "holder" "LFoulRights$Row;", Cond.fieldLink RX5 32 "FoulRights$Permits" "moves" "LFoulRights$Row;", Cond.fieldLink RX5 38 "FoulRights$Permits" "searched" "LFoulRights$Row;", Cond.methodLink RX5 64 Lib.Math.min.name, Cond.static Lib.Math.min.name, Cond.initialized "java/lang/Math", Cond.code Lib.Math.min.name Lib.Math.min.code 2 (some .int), Cond.fieldLink RX5 35 "FoulRights$Permits" "held" "LFoulRights$Row;", Cond.methodLink RX5 70 yX5_leastOf, Cond.instanceMethod yX5_leastOf, Cond.selects RX5 yX5_leastOf yX5_leastOf, Cond.initialized RX5, Cond.code yX5_leastOf cX5_leastOf 3 (some .int), Cond.fieldLink RX5 41 "FoulRights$Permits" "came" "I", Cond.methodLink RX5 74 yX6_at, Cond.instanceMethod yX6_at, Cond.selects RX6 yX6_at yX6_at, Cond.initialized RX6, Cond.code yX6_at cX6_at 2 (some .int), Cond.fieldLink RX6 13 "FoulRights$Row" "cells" "[I", Cond.methodLink RX5 86 yX5_isHeld, Cond.instanceMethod yX5_isHeld, Cond.selects RX5 yX5_isHeld yX5_isHeld, Cond.code yX5_isHeld cX5_isHeld 2 (some .boolean)]
def wsX5_pass_r2 : List Cond := [Cond.fieldLink RX5 14 "FoulRights$Permits" "state" "LFoulRights$Row;", Cond.methodLink RX5 49 yX6_put, Cond.instanceMethod yX6_put, Cond.selects RX6 yX6_put yX6_put, Cond.code yX6_put cX6_put 3 none, Cond.methodLink RX5 52 yX6_add, Cond.instanceMethod yX6_add, Cond.selects RX6 yX6_add yX6_add, Cond.code yX6_add cX6_add 3 none, Cond.methodLink RX6 25 yX6_at, Cond.methodLink RX6 29 yX6_put]
def wsX5_pass : List Cond := .code yX5_pass cX5_pass 6 none :: ((wsX5_pass_r1 ++ wsX5_pass_r2) ++ wsX50 ++ wsX60)
def wsX5_use_r1 : List Cond := [Cond.fieldLink RX5 14 "FoulRights$Permits" "state" "LFoulRights$Row;", Cond.fieldLink RX5 26 "FoulRights$Permits" "usedIn" "LFoulRights$Row;", Cond.fieldLink RX5 35 "FoulRights$Permits" "held" "LFoulRights$Row;", Cond.fieldLink RX5 77 "FoulRights$Permits" "used" "I", Cond.methodLink RX5 70 yX5_leastOf, Cond.instanceMethod yX5_leastOf, Cond.selects RX5 yX5_leastOf yX5_leastOf, Cond.initialized RX5, Cond.code yX5_leastOf cX5_leastOf 3 (some .int), Cond.fieldLink RX5 38 "FoulRights$Permits" "searched" "LFoulRights$Row;", Cond.fieldLink RX5 41 "FoulRights$Permits" "came" "I", Cond.fieldLink RX5 20 "FoulRights$Permits" "holder" "LFoulRights$Row;", Cond.methodLink RX5 74 yX6_at, Cond.instanceMethod yX6_at, Cond.selects RX6 yX6_at yX6_at, Cond.initialized RX6, Cond.code yX6_at cX6_at 2 (some .int), Cond.fieldLink RX6 13 "FoulRights$Row" "cells" "[I", Cond.methodLink RX5 86 yX5_isHeld, Cond.instanceMethod yX5_isHeld, Cond.selects RX5 yX5_isHeld yX5_isHeld, Cond.code yX5_isHeld cX5_isHeld 2 (some .boolean), Cond.methodLink RX5 49 yX6_put, Cond.instanceMethod yX6_put]
def wsX5_use_r2 : List Cond := [Cond.selects RX6 yX6_put yX6_put, Cond.code yX6_put cX6_put 3 none, Cond.methodLink RX5 52 yX6_add, Cond.instanceMethod yX6_add, Cond.selects RX6 yX6_add yX6_add, Cond.code yX6_add cX6_add 3 none, Cond.methodLink RX6 25 yX6_at, Cond.methodLink RX6 29 yX6_put]
def wsX5_use : List Cond := .code yX5_use cX5_use 6 none :: ((wsX5_use_r1 ++ wsX5_use_r2) ++ wsX50 ++ wsX60)
def wsX5_strikeOne : List Cond := .code yX5_strikeOne cX5_strikeOne 2 none :: ([.fieldLink RX5 14 "FoulRights$Permits" "state" "LFoulRights$Row;", .fieldLink RX5 35 "FoulRights$Permits" "held" "LFoulRights$Row;", .fieldLink RX5 20 "FoulRights$Permits" "holder" "LFoulRights$Row;", .fieldLink RX5 83 "FoulRights$Permits" "cancelled" "I", .methodLink RX5 49 yX6_put, .instanceMethod yX6_put, .selects RX6 yX6_put yX6_put, .initialized RX6, .code yX6_put cX6_put 3 none, .fieldLink RX6 13 "FoulRights$Row" "cells" "[I", .methodLink RX5 74 yX6_at, .instanceMethod yX6_at, .selects RX6 yX6_at yX6_at, .code yX6_at cX6_at 2 (some .int), .methodLink RX5 52 yX6_add, .instanceMethod yX6_add, .selects RX6 yX6_add yX6_add, .code yX6_add cX6_add 3 none, .methodLink RX6 25 yX6_at, .methodLink RX6 29 yX6_put] ++ wsX50 ++ wsX60)
def wsX5_strike_r1 : List Cond := [Cond.methodLink RX5 70 yX5_leastOf, Cond.instanceMethod yX5_leastOf, Cond.selects RX5 yX5_leastOf yX5_leastOf, Cond.initialized RX5, Cond.code yX5_leastOf cX5_leastOf 3 (some .int), Cond.fieldLink RX5 38 "FoulRights$Permits" "searched" "LFoulRights$Row;", Cond.fieldLink RX5 41 "FoulRights$Permits" "came" "I", Cond.fieldLink RX5 20 "FoulRights$Permits" "holder" "LFoulRights$Row;", Cond.methodLink RX5 74 yX6_at, Cond.instanceMethod yX6_at, Cond.selects RX6 yX6_at yX6_at, Cond.initialized RX6, Cond.code yX6_at cX6_at 2 (some .int), Cond.fieldLink RX6 13 "FoulRights$Row" "cells" "[I", Cond.methodLink RX5 86 yX5_isHeld, Cond.instanceMethod yX5_isHeld, Cond.selects RX5 yX5_isHeld yX5_isHeld, Cond.code yX5_isHeld cX5_isHeld 2 (some .boolean), Cond.fieldLink RX5 14 "FoulRights$Permits" "state" "LFoulRights$Row;", Cond.methodLink RX5 49 yX6_put, Cond.instanceMethod yX6_put, Cond.selects RX6 yX6_put yX6_put, Cond.code yX6_put cX6_put 3 none, Cond.methodLink RX5 80 yX5_strikeOne]
def wsX5_strike_r2 : List Cond := [Cond.instanceMethod yX5_strikeOne, Cond.selects RX5 yX5_strikeOne yX5_strikeOne, Cond.code yX5_strikeOne cX5_strikeOne 2 none, Cond.fieldLink RX5 35 "FoulRights$Permits" "held" "LFoulRights$Row;", Cond.fieldLink RX5 83 "FoulRights$Permits" "cancelled" "I", Cond.methodLink RX5 52 yX6_add, Cond.instanceMethod yX6_add, Cond.selects RX6 yX6_add yX6_add, Cond.code yX6_add cX6_add 3 none, Cond.methodLink RX6 25 yX6_at, Cond.methodLink RX6 29 yX6_put]
def wsX5_strike : List Cond := .code yX5_strike cX5_strike 4 none :: ((wsX5_strike_r1 ++ wsX5_strike_r2) ++ wsX50 ++ wsX60)
def wsX5_holderOf : List Cond := .code yX5_holderOf cX5_holderOf 2 (some .int) :: ([.fieldLink RX5 20 "FoulRights$Permits" "holder" "LFoulRights$Row;", .methodLink RX5 74 yX6_at, .instanceMethod yX6_at, .selects RX6 yX6_at yX6_at, .initialized RX6, .code yX6_at cX6_at 2 (some .int), .fieldLink RX6 13 "FoulRights$Row" "cells" "[I"] ++ wsX50 ++ wsX60)
def wsX5_projectOf : List Cond := .code yX5_projectOf cX5_projectOf 2 (some .int) :: ([.fieldLink RX5 29 "FoulRights$Permits" "project" "LFoulRights$Row;", .methodLink RX5 74 yX6_at, .instanceMethod yX6_at, .selects RX6 yX6_at yX6_at, .initialized RX6, .code yX6_at cX6_at 2 (some .int), .fieldLink RX6 13 "FoulRights$Row" "cells" "[I"] ++ wsX50 ++ wsX60)
def wsX5_heldBy : List Cond := .code yX5_heldBy cX5_heldBy 2 (some .int) :: ([.fieldLink RX5 35 "FoulRights$Permits" "held" "LFoulRights$Row;", .methodLink RX5 74 yX6_at, .instanceMethod yX6_at, .selects RX6 yX6_at yX6_at, .initialized RX6, .code yX6_at cX6_at 2 (some .int), .fieldLink RX6 13 "FoulRights$Row" "cells" "[I"] ++ wsX50 ++ wsX60)
def wsX5_heldByWorks : List Cond := .code yX5_heldByWorks cX5_heldByWorks 1 (some .int) :: ([.fieldLink RX5 41 "FoulRights$Permits" "came" "I", .fieldLink RX5 77 "FoulRights$Permits" "used" "I", .fieldLink RX5 83 "FoulRights$Permits" "cancelled" "I", .methodLink RX5 90 yX5_heldBy, .instanceMethod yX5_heldBy, .selects RX5 yX5_heldBy yX5_heldBy, .initialized RX5, .code yX5_heldBy cX5_heldBy 2 (some .int), .fieldLink RX5 35 "FoulRights$Permits" "held" "LFoulRights$Row;", .methodLink RX5 74 yX6_at, .instanceMethod yX6_at, .selects RX6 yX6_at yX6_at, .initialized RX6, .code yX6_at cX6_at 2 (some .int), .fieldLink RX6 13 "FoulRights$Row" "cells" "[I"] ++ wsX50 ++ wsX60)
def wsX5_cameSoFar : List Cond := .code yX5_cameSoFar cX5_cameSoFar 1 (some .int) :: ([.fieldLink RX5 41 "FoulRights$Permits" "came" "I"] ++ wsX50)
def wsX5_usedSoFar : List Cond := .code yX5_usedSoFar cX5_usedSoFar 1 (some .int) :: ([.fieldLink RX5 77 "FoulRights$Permits" "used" "I"] ++ wsX50)
def wsX5_cancelledSoFar : List Cond := .code yX5_cancelledSoFar cX5_cancelledSoFar 1 (some .int) :: ([.fieldLink RX5 83 "FoulRights$Permits" "cancelled" "I"] ++ wsX50)
def wsX5_fact : List Cond := .code yX5_fact cX5_fact 3 (some .int) :: ([.fieldLink RX5 14 "FoulRights$Permits" "state" "LFoulRights$Row;", .fieldLink RX5 20 "FoulRights$Permits" "holder" "LFoulRights$Row;", .fieldLink RX5 23 "FoulRights$Permits" "cameIn" "LFoulRights$Row;", .fieldLink RX5 26 "FoulRights$Permits" "usedIn" "LFoulRights$Row;", .fieldLink RX5 29 "FoulRights$Permits" "project" "LFoulRights$Row;", .fieldLink RX5 32 "FoulRights$Permits" "moves" "LFoulRights$Row;", .constant RX5 93 (-2147483648), .methodLink RX5 74 yX6_at, .instanceMethod yX6_at, .selects RX6 yX6_at yX6_at, .initialized RX6, .code yX6_at cX6_at 2 (some .int), .fieldLink RX6 13 "FoulRights$Row" "cells" "[I"] ++ wsX50 ++ wsX60)
def wsX7_init_r1 : List Cond := [Cond.methodLink RX7 3 objectInit, Cond.instanceMethod objectInit, Cond.code objectInit ⟨#[0xb1]⟩ 1 none, Cond.classLink RX7 9 RX6, Cond.instantiable RX6 1, Cond.initialized RX6, Cond.fieldLink RX7 14 "FoulRights$Rules" "from" "LFoulRights$Row;", Cond.fieldLink RX7 20 "FoulRights$Rules" "cap" "LFoulRights$Row;", Cond.fieldLink RX7 23 "FoulRights$Rules" "fall" "LFoulRights$Row;", Cond.fieldLink RX7 26 "FoulRights$Rules" "share" "LFoulRights$Row;", Cond.fieldLink RX7 29 "FoulRights$Rules" "fine" "LFoulRights$Row;", Cond.fieldLink RX7 32 "FoulRights$Rules" "floor" "LFoulRights$Row;", Cond.methodLink RX7 11 yX6_init, Cond.instanceMethod yX6_init, Cond.code yX6_init cX6_init 3 none, Cond.methodLink RX6 1 objectInit, Cond.methodLink RX6 7 Lib.Math.max.name, Cond.static Lib.Math.max.name, Cond.initialized "java/lang/Math", Cond.code Lib.Math.max.name Lib.Math.max.code 2 (some .int), Cond.arrayClass .int, Cond.fieldLink RX6 13 "FoulRights$Row" "cells" "[I", Cond.methodLink RX6 19 yJ7_fill_53178, Cond.static yJ7_fill_53178]
def wsX7_init_r2 : List Cond := [Cond.initialized RJ7, Cond.code yJ7_fill_53178 cJ7_fill_53178 4 none]
def wsX7_init : List Cond := .code yX7_init cX7_init 1 none :: ((wsX7_init_r1 ++ wsX7_init_r2) ++ wsX60 ++ wsX70)
def wsX7_tell : List Cond := .code yX7_tell cX7_tell 7 (some .boolean) :: ([.constant RX7 35 (100000), .fieldLink RX7 36 "FoulRights$Rules" "many" "I", .fieldLink RX7 14 "FoulRights$Rules" "from" "LFoulRights$Row;", .fieldLink RX7 20 "FoulRights$Rules" "cap" "LFoulRights$Row;", .fieldLink RX7 23 "FoulRights$Rules" "fall" "LFoulRights$Row;", .fieldLink RX7 26 "FoulRights$Rules" "share" "LFoulRights$Row;", .fieldLink RX7 29 "FoulRights$Rules" "fine" "LFoulRights$Row;", .fieldLink RX7 32 "FoulRights$Rules" "floor" "LFoulRights$Row;", .methodLink RX7 40 yX6_put, .instanceMethod yX6_put, .selects RX6 yX6_put yX6_put, .initialized RX6, .code yX6_put cX6_put 3 none, .fieldLink RX6 13 "FoulRights$Row" "cells" "[I"] ++ wsX70 ++ wsX60)
def wsX7_inForce : List Cond := .code yX7_inForce cX7_inForce 4 (some .int) :: ([.fieldLink RX7 36 "FoulRights$Rules" "many" "I", .fieldLink RX7 14 "FoulRights$Rules" "from" "LFoulRights$Row;", .methodLink RX7 47 yX6_at, .instanceMethod yX6_at, .selects RX6 yX6_at yX6_at, .initialized RX6, .code yX6_at cX6_at 2 (some .int), .fieldLink RX6 13 "FoulRights$Row" "cells" "[I"] ++ wsX70 ++ wsX60)
def wsX7_capIn : List Cond := .code yX7_capIn cX7_capIn 5 (some .int) :: ([.fieldLink RX7 20 "FoulRights$Rules" "cap" "LFoulRights$Row;", .fieldLink RX7 14 "FoulRights$Rules" "from" "LFoulRights$Row;", .fieldLink RX7 23 "FoulRights$Rules" "fall" "LFoulRights$Row;", .methodLink RX7 43 yX7_inForce, .instanceMethod yX7_inForce, .selects RX7 yX7_inForce yX7_inForce, .initialized RX7, .code yX7_inForce cX7_inForce 4 (some .int), .fieldLink RX7 36 "FoulRights$Rules" "many" "I", .methodLink RX7 47 yX6_at, .instanceMethod yX6_at, .selects RX6 yX6_at yX6_at, .initialized RX6, .code yX6_at cX6_at 2 (some .int), .fieldLink RX6 13 "FoulRights$Row" "cells" "[I"] ++ wsX70 ++ wsX60)
def wsX7_shareIn : List Cond := .code yX7_shareIn cX7_shareIn 2 (some .int) :: ([.fieldLink RX7 26 "FoulRights$Rules" "share" "LFoulRights$Row;", .methodLink RX7 43 yX7_inForce, .instanceMethod yX7_inForce, .selects RX7 yX7_inForce yX7_inForce, .initialized RX7, .code yX7_inForce cX7_inForce 4 (some .int), .fieldLink RX7 36 "FoulRights$Rules" "many" "I", .fieldLink RX7 14 "FoulRights$Rules" "from" "LFoulRights$Row;", .methodLink RX7 47 yX6_at, .instanceMethod yX6_at, .selects RX6 yX6_at yX6_at, .initialized RX6, .code yX6_at cX6_at 2 (some .int), .fieldLink RX6 13 "FoulRights$Row" "cells" "[I"] ++ wsX70 ++ wsX60)
def wsX7_fineIn : List Cond := .code yX7_fineIn cX7_fineIn 2 (some .int) :: ([.fieldLink RX7 29 "FoulRights$Rules" "fine" "LFoulRights$Row;", .methodLink RX7 43 yX7_inForce, .instanceMethod yX7_inForce, .selects RX7 yX7_inForce yX7_inForce, .initialized RX7, .code yX7_inForce cX7_inForce 4 (some .int), .fieldLink RX7 36 "FoulRights$Rules" "many" "I", .fieldLink RX7 14 "FoulRights$Rules" "from" "LFoulRights$Row;", .methodLink RX7 47 yX6_at, .instanceMethod yX6_at, .selects RX6 yX6_at yX6_at, .initialized RX6, .code yX6_at cX6_at 2 (some .int), .fieldLink RX6 13 "FoulRights$Row" "cells" "[I"] ++ wsX70 ++ wsX60)
def wsX7_floorIn : List Cond := .code yX7_floorIn cX7_floorIn 2 (some .int) :: ([.fieldLink RX7 32 "FoulRights$Rules" "floor" "LFoulRights$Row;", .methodLink RX7 43 yX7_inForce, .instanceMethod yX7_inForce, .selects RX7 yX7_inForce yX7_inForce, .initialized RX7, .code yX7_inForce cX7_inForce 4 (some .int), .fieldLink RX7 36 "FoulRights$Rules" "many" "I", .fieldLink RX7 14 "FoulRights$Rules" "from" "LFoulRights$Row;", .methodLink RX7 47 yX6_at, .instanceMethod yX6_at, .selects RX6 yX6_at yX6_at, .initialized RX6, .code yX6_at cX6_at 2 (some .int), .fieldLink RX6 13 "FoulRights$Row" "cells" "[I"] ++ wsX70 ++ wsX60)
def wsX8_init_r1 : List Cond := [Cond.methodLink RX8 1 objectInit, Cond.instanceMethod objectInit, Cond.code objectInit ⟨#[0xb1]⟩ 1 none, Cond.classLink RX8 7 RX7, Cond.instantiable RX7 7, Cond.initialized RX7, Cond.fieldLink RX8 10 "FoulRights" "rules" "LFoulRights$Rules;", Cond.classLink RX8 16 RX4, Cond.instantiable RX4 1, Cond.initialized RX4, Cond.fieldLink RX8 19 "FoulRights" "meters" "LFoulRights$Meters;", Cond.classLink RX8 23 RX5, Cond.instantiable RX5 12, Cond.initialized RX5, Cond.fieldLink RX8 26 "FoulRights" "permits" "LFoulRights$Permits;", Cond.classLink RX8 30 RX0, Cond.instantiable RX0 3, Cond.initialized RX0, Cond.fieldLink RX8 33 "FoulRights" "allotment" "LFoulRights$Allotment;", Cond.classLink RX8 37 RX1, Cond.instantiable RX1 5, Cond.initialized RX1, Cond.fieldLink RX8 40 "FoulRights" "bids" "LFoulRights$Bids;", Cond.classLink RX8 44 RX2]
def wsX8_init_r2 : List Cond := [Cond.instantiable RX2 6, Cond.initialized RX2, Cond.fieldLink RX8 47 "FoulRights" "allCuts" "LFoulRights$Cuts;", Cond.classLink RX8 51 RX3, Cond.instantiable RX3 5, Cond.initialized RX3, Cond.fieldLink RX8 54 "FoulRights" "ledger" "LFoulRights$Ledger;", Cond.classLink RX8 58 RX6, Cond.instantiable RX6 1, Cond.initialized RX6, Cond.fieldLink RX8 63 "FoulRights" "falseProjects" "LFoulRights$Row;", Cond.methodLink RX8 9 yX7_init, Cond.instanceMethod yX7_init, Cond.code yX7_init cX7_init 1 none, Cond.methodLink RX7 3 objectInit, Cond.classLink RX7 9 RX6, Cond.fieldLink RX7 14 "FoulRights$Rules" "from" "LFoulRights$Row;", Cond.fieldLink RX7 20 "FoulRights$Rules" "cap" "LFoulRights$Row;", Cond.fieldLink RX7 23 "FoulRights$Rules" "fall" "LFoulRights$Row;", Cond.fieldLink RX7 26 "FoulRights$Rules" "share" "LFoulRights$Row;", Cond.fieldLink RX7 29 "FoulRights$Rules" "fine" "LFoulRights$Row;", Cond.fieldLink RX7 32 "FoulRights$Rules" "floor" "LFoulRights$Row;", Cond.methodLink RX7 11 yX6_init, Cond.instanceMethod yX6_init]
def wsX8_init_r3 : List Cond := [Cond.code yX6_init cX6_init 3 none, Cond.methodLink RX6 1 objectInit, Cond.methodLink RX6 7 Lib.Math.max.name, Cond.static Lib.Math.max.name, Cond.initialized "java/lang/Math", Cond.code Lib.Math.max.name Lib.Math.max.code 2 (some .int), Cond.arrayClass .int, Cond.fieldLink RX6 13 "FoulRights$Row" "cells" "[I", Cond.methodLink RX6 19 yJ7_fill_53178, Cond.static yJ7_fill_53178, Cond.initialized RJ7, Cond.code yJ7_fill_53178 cJ7_fill_53178 4 none, Cond.methodLink RX8 18 yX4_init, Cond.instanceMethod yX4_init, Cond.code yX4_init cX4_init 1 none, Cond.methodLink RX4 3 objectInit, Cond.classLink RX4 9 RX6, Cond.fieldLink RX4 14 "FoulRights$Meters" "readings" "LFoulRights$Row;", Cond.methodLink RX4 11 yX6_init, Cond.methodLink RX8 25 yX5_init, Cond.instanceMethod yX5_init, Cond.code yX5_init cX5_init 1 none, Cond.methodLink RX5 3 objectInit, Cond.classLink RX5 9 RX6]
def wsX8_init_r4 : List Cond := [Cond.fieldLink RX5 14 "FoulRights$Permits" "state" "LFoulRights$Row;", Cond.fieldLink RX5 20 "FoulRights$Permits" "holder" "LFoulRights$Row;", Cond.fieldLink RX5 23 "FoulRights$Permits" "cameIn" "LFoulRights$Row;", Cond.fieldLink RX5 26 "FoulRights$Permits" "usedIn" "LFoulRights$Row;", Cond.fieldLink RX5 29 "FoulRights$Permits" "project" "LFoulRights$Row;", Cond.fieldLink RX5 32 "FoulRights$Permits" "moves" "LFoulRights$Row;", Cond.fieldLink RX5 35 "FoulRights$Permits" "held" "LFoulRights$Row;", Cond.fieldLink RX5 38 "FoulRights$Permits" "searched" "LFoulRights$Row;", Cond.methodLink RX5 11 yX6_init, Cond.methodLink RX8 32 yX0_init, Cond.instanceMethod yX0_init, Cond.code yX0_init cX0_init 1 none, Cond.methodLink RX0 3 objectInit, Cond.classLink RX0 9 RX6, Cond.fieldLink RX0 14 "FoulRights$Allotment" "fouledBefore" "LFoulRights$Row;", Cond.fieldLink RX0 20 "FoulRights$Allotment" "parts" "LFoulRights$Row;", Cond.fieldLink RX0 23 "FoulRights$Allotment" "cutOff" "LFoulRights$Row;", Cond.methodLink RX0 11 yX6_init, Cond.methodLink RX8 39 yX1_init, Cond.instanceMethod yX1_init, Cond.code yX1_init cX1_init 1 none, Cond.methodLink RX1 3 objectInit, Cond.classLink RX1 9 RX6, Cond.fieldLink RX1 14 "FoulRights$Bids" "bidder" "LFoulRights$Row;"]
def wsX8_init_r5 : List Cond := [Cond.fieldLink RX1 20 "FoulRights$Bids" "wants" "LFoulRights$Row;", Cond.fieldLink RX1 23 "FoulRights$Bids" "offered" "LFoulRights$Row;", Cond.fieldLink RX1 26 "FoulRights$Bids" "granted" "LFoulRights$Row;", Cond.methodLink RX1 11 yX6_init, Cond.methodLink RX8 46 yX2_init, Cond.instanceMethod yX2_init, Cond.code yX2_init cX2_init 1 none, Cond.methodLink RX2 3 objectInit, Cond.classLink RX2 9 RX6, Cond.fieldLink RX2 14 "FoulRights$Cuts" "owner" "LFoulRights$Row;", Cond.fieldLink RX2 20 "FoulRights$Cuts" "tonnes" "LFoulRights$Row;", Cond.fieldLink RX2 23 "FoulRights$Cuts" "costs" "LFoulRights$Row;", Cond.fieldLink RX2 26 "FoulRights$Cuts" "each" "LFoulRights$Row;", Cond.methodLink RX2 11 yX6_init, Cond.methodLink RX8 53 yX3_init, Cond.instanceMethod yX3_init, Cond.code yX3_init cX3_init 1 none, Cond.methodLink RX3 3 objectInit, Cond.classLink RX3 9 RX6, Cond.fieldLink RX3 14 "FoulRights$Ledger" "coins" "LFoulRights$Row;", Cond.fieldLink RX3 20 "FoulRights$Ledger" "debts" "LFoulRights$Row;", Cond.fieldLink RX3 23 "FoulRights$Ledger" "usedEver" "LFoulRights$Row;", Cond.fieldLink RX3 26 "FoulRights$Ledger" "finesEver" "LFoulRights$Row;", Cond.methodLink RX3 11 yX6_init]
def wsX8_init_r6 : List Cond := [Cond.methodLink RX8 60 yX6_init]
def wsX8_init : List Cond := .code yX8_init cX8_init 1 none :: ((wsX8_init_r1 ++ (wsX8_init_r2 ++ (wsX8_init_r3 ++ (wsX8_init_r4 ++ (wsX8_init_r5 ++ wsX8_init_r6))))) ++ wsX70 ++ wsX80 ++ wsX40 ++ wsX50 ++ wsX00 ++ wsX10 ++ wsX20 ++ wsX30 ++ wsX60)
def wsX8_works : List Cond := .code yX8_works cX8_works 1 (some .int) :: ([.fieldLink RX8 67 "FoulRights" "worksCame" "I"] ++ wsX80)
def wsX8_isWithin : List Cond := .code yX8_isWithin cX8_isWithin 3 (some .boolean) :: ([])
def wsX8_isYear : List Cond := .code yX8_isYear cX8_isYear 1 (some .boolean) :: ([.methodLink RX8 98 yX8_isWithin, .static yX8_isWithin, .initialized RX8, .code yX8_isWithin cX8_isWithin 3 (some .boolean)])
def wsX8_rule_r1 : List Cond := [Cond.fieldLink RX8 10 "FoulRights" "rules" "LFoulRights$Rules;", Cond.methodLink RX8 71 yX8_isYear, Cond.static yX8_isYear, Cond.initialized RX8, Cond.code yX8_isYear cX8_isYear 1 (some .boolean), Cond.methodLink RX8 98 yX8_isWithin, Cond.static yX8_isWithin, Cond.code yX8_isWithin cX8_isWithin 3 (some .boolean), Cond.methodLink RX8 75 yX7_tell, Cond.instanceMethod yX7_tell, Cond.selects RX7 yX7_tell yX7_tell, Cond.initialized RX7, Cond.code yX7_tell cX7_tell 7 (some .boolean), Cond.constant RX7 35 (100000), Cond.fieldLink RX7 36 "FoulRights$Rules" "many" "I", Cond.fieldLink RX7 14 "FoulRights$Rules" "from" "LFoulRights$Row;", Cond.fieldLink RX7 20 "FoulRights$Rules" "cap" "LFoulRights$Row;", Cond.fieldLink RX7 23 "FoulRights$Rules" "fall" "LFoulRights$Row;", Cond.fieldLink RX7 26 "FoulRights$Rules" "share" "LFoulRights$Row;", Cond.fieldLink RX7 29 "FoulRights$Rules" "fine" "LFoulRights$Row;", Cond.fieldLink RX7 32 "FoulRights$Rules" "floor" "LFoulRights$Row;", Cond.methodLink RX7 40 yX6_put, Cond.instanceMethod yX6_put, Cond.selects RX6 yX6_put yX6_put]
def wsX8_rule_r2 : List Cond := [Cond.initialized RX6, Cond.code yX6_put cX6_put 3 none, Cond.fieldLink RX6 13 "FoulRights$Row" "cells" "[I"]
def wsX8_rule : List Cond := .code yX8_rule cX8_rule 4 (some .boolean) :: ((wsX8_rule_r1 ++ wsX8_rule_r2) ++ wsX80 ++ wsX70 ++ wsX60)
def wsX8_ruled_r1 : List Cond := [Cond.fieldLink RX8 10 "FoulRights" "rules" "LFoulRights$Rules;", Cond.methodLink RX8 71 yX8_isYear, Cond.static yX8_isYear, Cond.initialized RX8, Cond.code yX8_isYear cX8_isYear 1 (some .boolean), Cond.methodLink RX8 98 yX8_isWithin, Cond.static yX8_isWithin, Cond.code yX8_isWithin cX8_isWithin 3 (some .boolean), Cond.methodLink RX8 79 yX7_capIn, Cond.instanceMethod yX7_capIn, Cond.selects RX7 yX7_capIn yX7_capIn, Cond.initialized RX7, Cond.code yX7_capIn cX7_capIn 5 (some .int), Cond.fieldLink RX7 20 "FoulRights$Rules" "cap" "LFoulRights$Row;", Cond.fieldLink RX7 14 "FoulRights$Rules" "from" "LFoulRights$Row;", Cond.fieldLink RX7 23 "FoulRights$Rules" "fall" "LFoulRights$Row;", Cond.methodLink RX7 43 yX7_inForce, Cond.instanceMethod yX7_inForce, Cond.selects RX7 yX7_inForce yX7_inForce, Cond.code yX7_inForce cX7_inForce 4 (some .int), Cond.fieldLink RX7 36 "FoulRights$Rules" "many" "I", Cond.methodLink RX7 47 yX6_at, Cond.instanceMethod yX6_at, Cond.selects RX6 yX6_at yX6_at]
def wsX8_ruled_r2 : List Cond := [Cond.initialized RX6, Cond.code yX6_at cX6_at 2 (some .int), Cond.fieldLink RX6 13 "FoulRights$Row" "cells" "[I", Cond.methodLink RX8 83 yX7_shareIn, Cond.instanceMethod yX7_shareIn, Cond.selects RX7 yX7_shareIn yX7_shareIn, Cond.code yX7_shareIn cX7_shareIn 2 (some .int), Cond.fieldLink RX7 26 "FoulRights$Rules" "share" "LFoulRights$Row;", Cond.methodLink RX8 86 yX7_fineIn, Cond.instanceMethod yX7_fineIn, Cond.selects RX7 yX7_fineIn yX7_fineIn, Cond.code yX7_fineIn cX7_fineIn 2 (some .int), Cond.fieldLink RX7 29 "FoulRights$Rules" "fine" "LFoulRights$Row;", Cond.methodLink RX8 89 yX7_floorIn, Cond.instanceMethod yX7_floorIn, Cond.selects RX7 yX7_floorIn yX7_floorIn, Cond.code yX7_floorIn cX7_floorIn 2 (some .int), Cond.fieldLink RX7 32 "FoulRights$Rules" "floor" "LFoulRights$Row;"]
def wsX8_ruled : List Cond := .code yX8_ruled cX8_ruled 3 (some .int) :: ((wsX8_ruled_r1 ++ wsX8_ruled_r2) ++ wsX80 ++ wsX70 ++ wsX60)
def wsX8_isWorks : List Cond := .code yX8_isWorks cX8_isWorks 2 (some .boolean) :: ([.fieldLink RX8 67 "FoulRights" "worksCame" "I", .methodLink RX8 98 yX8_isWithin, .static yX8_isWithin, .initialized RX8, .code yX8_isWithin cX8_isWithin 3 (some .boolean)] ++ wsX80)
def wsX8_meter_r1 : List Cond := [Cond.fieldLink RX8 95 "FoulRights" "now" "I", Cond.fieldLink RX8 19 "FoulRights" "meters" "LFoulRights$Meters;", Cond.methodLink RX8 92 yX8_isWorks, Cond.instanceMethod yX8_isWorks, Cond.selects RX8 yX8_isWorks yX8_isWorks, Cond.initialized RX8, Cond.code yX8_isWorks cX8_isWorks 2 (some .boolean), Cond.fieldLink RX8 67 "FoulRights" "worksCame" "I", Cond.methodLink RX8 98 yX8_isWithin, Cond.static yX8_isWithin, Cond.code yX8_isWithin cX8_isWithin 3 (some .boolean), Cond.methodLink RX8 71 yX8_isYear, Cond.static yX8_isYear, Cond.code yX8_isYear cX8_isYear 1 (some .boolean), Cond.methodLink RX8 101 yX4_read, Cond.instanceMethod yX4_read, Cond.selects RX4 yX4_read yX4_read, Cond.initialized RX4, Cond.code yX4_read cX4_read 5 none, Cond.fieldLink RX4 14 "FoulRights$Meters" "readings" "LFoulRights$Row;", Cond.methodLink RX4 20 yX4_place, Cond.static yX4_place, Cond.code yX4_place cX4_place 3 (some .int), Cond.methodLink RX4 24 yX6_put]
def wsX8_meter_r2 : List Cond := [Cond.instanceMethod yX6_put, Cond.selects RX6 yX6_put yX6_put, Cond.initialized RX6, Cond.code yX6_put cX6_put 3 none, Cond.fieldLink RX6 13 "FoulRights$Row" "cells" "[I"]
def wsX8_meter : List Cond := .code yX8_meter cX8_meter 6 (some .boolean) :: ((wsX8_meter_r1 ++ wsX8_meter_r2) ++ wsX80 ++ wsX40 ++ wsX60)
def wsX8_fouled_r1 : List Cond := [Cond.fieldLink RX8 19 "FoulRights" "meters" "LFoulRights$Meters;", Cond.methodLink RX8 92 yX8_isWorks, Cond.instanceMethod yX8_isWorks, Cond.selects RX8 yX8_isWorks yX8_isWorks, Cond.initialized RX8, Cond.code yX8_isWorks cX8_isWorks 2 (some .boolean), Cond.fieldLink RX8 67 "FoulRights" "worksCame" "I", Cond.methodLink RX8 98 yX8_isWithin, Cond.static yX8_isWithin, Cond.code yX8_isWithin cX8_isWithin 3 (some .boolean), Cond.methodLink RX8 71 yX8_isYear, Cond.static yX8_isYear, Cond.code yX8_isYear cX8_isYear 1 (some .boolean), Cond.methodLink RX8 105 yX4_fouledIn, Cond.instanceMethod yX4_fouledIn, Cond.selects RX4 yX4_fouledIn yX4_fouledIn, Cond.initialized RX4, Cond.code yX4_fouledIn cX4_fouledIn 7 (some .int), Cond.fieldLink RX4 14 "FoulRights$Meters" "readings" "LFoulRights$Row;", Cond.methodLink RX4 27 yX4_gapIn, Cond.instanceMethod yX4_gapIn, Cond.selects RX4 yX4_gapIn yX4_gapIn, Cond.code yX4_gapIn cX4_gapIn 4 (some .int), Cond.methodLink RX4 38 Lib.Math.max.name]
def wsX8_fouled_r2 : List Cond := [Cond.static Lib.Math.max.name, Cond.initialized "java/lang/Math", Cond.code Lib.Math.max.name Lib.Math.max.code 2 (some .int), Cond.methodLink RX4 35 yX4_greatest, Cond.instanceMethod yX4_greatest, Cond.selects RX4 yX4_greatest yX4_greatest, Cond.code yX4_greatest cX4_greatest 5 (some .int), Cond.methodLink RX4 20 yX4_place, Cond.static yX4_place, Cond.code yX4_place cX4_place 3 (some .int), Cond.methodLink RX4 31 yX6_at, Cond.instanceMethod yX6_at, Cond.selects RX6 yX6_at yX6_at, Cond.initialized RX6, Cond.code yX6_at cX6_at 2 (some .int), Cond.fieldLink RX6 13 "FoulRights$Row" "cells" "[I"]
def wsX8_fouled : List Cond := .code yX8_fouled cX8_fouled 3 (some .int) :: ((wsX8_fouled_r1 ++ wsX8_fouled_r2) ++ wsX80 ++ wsX40 ++ wsX60)
def wsX8_issue_r1 : List Cond := [Cond.fieldLink RX8 95 "FoulRights" "now" "I", Cond.fieldLink RX8 109 "FoulRights" "issuedThisYear" "Z", Cond.fieldLink RX8 10 "FoulRights" "rules" "LFoulRights$Rules;", Cond.fieldLink RX8 26 "FoulRights" "permits" "LFoulRights$Permits;", Cond.fieldLink RX8 33 "FoulRights" "allotment" "LFoulRights$Allotment;", Cond.fieldLink RX8 19 "FoulRights" "meters" "LFoulRights$Meters;", Cond.fieldLink RX8 67 "FoulRights" "worksCame" "I", Cond.methodLink RX8 71 yX8_isYear, Cond.static yX8_isYear, Cond.initialized RX8, Cond.code yX8_isYear cX8_isYear 1 (some .boolean), Cond.methodLink RX8 98 yX8_isWithin, Cond.static yX8_isWithin, Cond.code yX8_isWithin cX8_isWithin 3 (some .boolean), Cond.methodLink RX8 79 yX7_capIn, Cond.instanceMethod yX7_capIn, Cond.selects RX7 yX7_capIn yX7_capIn, Cond.initialized RX7, Cond.code yX7_capIn cX7_capIn 5 (some .int), Cond.fieldLink RX7 20 "FoulRights$Rules" "cap" "LFoulRights$Row;", Cond.fieldLink RX7 14 "FoulRights$Rules" "from" "LFoulRights$Row;", Cond.fieldLink RX7 23 "FoulRights$Rules" "fall" "LFoulRights$Row;", Cond.methodLink RX7 43 yX7_inForce, Cond.instanceMethod yX7_inForce]
def wsX8_issue_r2 : List Cond := [Cond.selects RX7 yX7_inForce yX7_inForce, Cond.code yX7_inForce cX7_inForce 4 (some .int), Cond.fieldLink RX7 36 "FoulRights$Rules" "many" "I", Cond.methodLink RX7 47 yX6_at, Cond.instanceMethod yX6_at, Cond.selects RX6 yX6_at yX6_at, Cond.initialized RX6, Cond.code yX6_at cX6_at 2 (some .int), Cond.fieldLink RX6 13 "FoulRights$Row" "cells" "[I", Cond.methodLink RX8 113 yX5_hasRoomFor, Cond.instanceMethod yX5_hasRoomFor, Cond.selects RX5 yX5_hasRoomFor yX5_hasRoomFor, Cond.initialized RX5, Cond.code yX5_hasRoomFor cX5_hasRoomFor 2 (some .boolean), Cond.fieldLink RX5 41 "FoulRights$Permits" "came" "I", Cond.methodLink RX8 83 yX7_shareIn, Cond.instanceMethod yX7_shareIn, Cond.selects RX7 yX7_shareIn yX7_shareIn, Cond.code yX7_shareIn cX7_shareIn 2 (some .int), Cond.fieldLink RX7 26 "FoulRights$Rules" "share" "LFoulRights$Row;", Cond.methodLink RX8 116 yX0_share, Cond.instanceMethod yX0_share, Cond.selects RX0 yX0_share yX0_share, Cond.initialized RX0]
def wsX8_issue_r3 : List Cond := [Cond.code yX0_share cX0_share 9 (some .int), Cond.fieldLink RX0 14 "FoulRights$Allotment" "fouledBefore" "LFoulRights$Row;", Cond.fieldLink RX0 20 "FoulRights$Allotment" "parts" "LFoulRights$Row;", Cond.fieldLink RX0 23 "FoulRights$Allotment" "cutOff" "LFoulRights$Row;", Cond.methodLink RX0 30 yX0_look, Cond.instanceMethod yX0_look, Cond.selects RX0 yX0_look yX0_look, Cond.code yX0_look cX0_look 6 (some .int), Cond.methodLink RX0 41 yX4_fouledIn, Cond.instanceMethod yX4_fouledIn, Cond.selects RX4 yX4_fouledIn yX4_fouledIn, Cond.initialized RX4, Cond.code yX4_fouledIn cX4_fouledIn 7 (some .int), Cond.fieldLink RX4 14 "FoulRights$Meters" "readings" "LFoulRights$Row;", Cond.methodLink RX4 27 yX4_gapIn, Cond.instanceMethod yX4_gapIn, Cond.selects RX4 yX4_gapIn yX4_gapIn, Cond.code yX4_gapIn cX4_gapIn 4 (some .int), Cond.methodLink RX4 38 Lib.Math.max.name, Cond.static Lib.Math.max.name, Cond.initialized "java/lang/Math", Cond.code Lib.Math.max.name Lib.Math.max.code 2 (some .int), Cond.methodLink RX4 35 yX4_greatest, Cond.instanceMethod yX4_greatest]
def wsX8_issue_r4 : List Cond := [Cond.selects RX4 yX4_greatest yX4_greatest, Cond.code yX4_greatest cX4_greatest 5 (some .int), Cond.methodLink RX4 20 yX4_place, Cond.static yX4_place, Cond.code yX4_place cX4_place 3 (some .int), Cond.methodLink RX4 31 yX6_at, Cond.methodLink RX0 34 yX6_put, Cond.instanceMethod yX6_put, Cond.selects RX6 yX6_put yX6_put, Cond.code yX6_put cX6_put 3 none, Cond.methodLink RX0 26 yX6_at, Cond.methodLink RX0 37 yX0_giveRest, Cond.instanceMethod yX0_giveRest, Cond.selects RX0 yX0_giveRest yX0_giveRest, Cond.code yX0_giveRest cX0_giveRest 7 (some .int), Cond.methodLink RX0 47 yX0_mostCutOff, Cond.instanceMethod yX0_mostCutOff, Cond.selects RX0 yX0_mostCutOff yX0_mostCutOff, Cond.code yX0_mostCutOff cX0_mostCutOff 4 (some .int), Cond.methodLink RX0 50 yX6_add, Cond.instanceMethod yX6_add, Cond.selects RX6 yX6_add yX6_add, Cond.code yX6_add cX6_add 3 none, Cond.methodLink RX6 25 yX6_at]
def wsX8_issue_r5 : List Cond := [Cond.methodLink RX6 29 yX6_put, Cond.methodLink RX8 120 yX0_partOf, Cond.instanceMethod yX0_partOf, Cond.selects RX0 yX0_partOf yX0_partOf, Cond.code yX0_partOf cX0_partOf 2 (some .int), Cond.methodLink RX8 123 yX5_come, Cond.instanceMethod yX5_come, Cond.selects RX5 yX5_come yX5_come, Cond.code yX5_come cX5_come 6 none, Cond.fieldLink RX5 14 "FoulRights$Permits" "state" "LFoulRights$Row;", Cond.fieldLink RX5 20 "FoulRights$Permits" "holder" "LFoulRights$Row;", Cond.fieldLink RX5 23 "FoulRights$Permits" "cameIn" "LFoulRights$Row;", Cond.fieldLink RX5 26 "FoulRights$Permits" "usedIn" "LFoulRights$Row;", Cond.fieldLink RX5 29 "FoulRights$Permits" "project" "LFoulRights$Row;", Cond.fieldLink RX5 32 "FoulRights$Permits" "moves" "LFoulRights$Row;", Cond.fieldLink RX5 35 "FoulRights$Permits" "held" "LFoulRights$Row;", Cond.methodLink RX5 45 yX5_makeRoom, Cond.instanceMethod yX5_makeRoom, Cond.selects RX5 yX5_makeRoom yX5_makeRoom, Cond.code yX5_makeRoom cX5_makeRoom 2 none, Cond.fieldLink RX5 55 "FoulRights$Permits" "room" "I", Cond.methodLink RX5 58 Lib.Math.max.name, Cond.methodLink RX5 64 Lib.Math.min.name, Cond.static Lib.Math.min.name]
def wsX8_issue_r6 : List Cond := [Cond.code Lib.Math.min.name Lib.Math.min.code 2 (some .int), Cond.methodLink RX5 67 yX6_widen, Cond.instanceMethod yX6_widen, Cond.selects RX6 yX6_widen yX6_widen, Cond.code yX6_widen cX6_widen 2 none, Cond.methodLink RX6 33 yJ7_copyOf_59c91, Cond.static yJ7_copyOf_59c91, Cond.initialized RJ7, Cond.code yJ7_copyOf_59c91 cJ7_copyOf_59c91 3 (some (.array .int)), Cond.methodLink RJ7 316 ⟨"[I", "clone", "()Ljava/lang/Object;"⟩, Cond.sameMethod "[I" "java/lang/Object" "clone" "()Ljava/lang/Object;", Cond.native ⟨"java/lang/Object", "clone", "()Ljava/lang/Object;"⟩, Cond.instanceMethod ⟨"java/lang/Object", "clone", "()Ljava/lang/Object;"⟩, Cond.selects "[I" ⟨"[I", "clone", "()Ljava/lang/Object;"⟩ ⟨"java/lang/Object", "clone", "()Ljava/lang/Object;"⟩, Cond.classLink RJ7 317 "[I", Cond.arrayClass .int, Cond.methodLink RJ7 304 Lib.Math.min.name, Cond.methodLink RJ7 150 arraycopyName, Cond.native arraycopyName, Cond.static arraycopyName, Cond.initialized "java/lang/System", Cond.methodLink RX5 49 yX6_put, Cond.methodLink RX5 52 yX6_add]
def wsX8_issue : List Cond := .code yX8_issue cX8_issue 4 (some .int) :: ((wsX8_issue_r1 ++ (wsX8_issue_r2 ++ (wsX8_issue_r3 ++ (wsX8_issue_r4 ++ (wsX8_issue_r5 ++ wsX8_issue_r6))))) ++ wsX80 ++ wsX70 ++ wsX60 ++ wsX50 ++ wsX00 ++ wsX40)
def wsX8_bid_r1 : List Cond := [Cond.fieldLink RX8 40 "FoulRights" "bids" "LFoulRights$Bids;", Cond.methodLink RX8 92 yX8_isWorks, Cond.instanceMethod yX8_isWorks, Cond.selects RX8 yX8_isWorks yX8_isWorks, Cond.initialized RX8, Cond.code yX8_isWorks cX8_isWorks 2 (some .boolean), Cond.fieldLink RX8 67 "FoulRights" "worksCame" "I", Cond.methodLink RX8 98 yX8_isWithin, Cond.static yX8_isWithin, Cond.code yX8_isWithin cX8_isWithin 3 (some .boolean), Cond.methodLink RX8 126 yX1_areFull, Cond.instanceMethod yX1_areFull, Cond.selects RX1 yX1_areFull yX1_areFull, Cond.initialized RX1, Cond.code yX1_areFull cX1_areFull 1 (some .boolean), Cond.fieldLink RX1 29 "FoulRights$Bids" "size" "I", Cond.methodLink RX8 130 yX1_enter, Cond.instanceMethod yX1_enter, Cond.selects RX1 yX1_enter yX1_enter, Cond.code yX1_enter cX1_enter 5 (some .int), Cond.fieldLink RX1 23 "FoulRights$Bids" "offered" "LFoulRights$Row;", Cond.fieldLink RX1 14 "FoulRights$Bids" "bidder" "LFoulRights$Row;", Cond.fieldLink RX1 20 "FoulRights$Bids" "wants" "LFoulRights$Row;", Cond.fieldLink RX1 26 "FoulRights$Bids" "granted" "LFoulRights$Row;"]
def wsX8_bid_r2 : List Cond := [Cond.methodLink RX1 33 yX6_at, Cond.instanceMethod yX6_at, Cond.selects RX6 yX6_at yX6_at, Cond.initialized RX6, Cond.code yX6_at cX6_at 2 (some .int), Cond.fieldLink RX6 13 "FoulRights$Row" "cells" "[I", Cond.methodLink RX1 37 yX6_squeeze, Cond.instanceMethod yX6_squeeze, Cond.selects RX6 yX6_squeeze yX6_squeeze, Cond.code yX6_squeeze cX6_squeeze 5 none, Cond.methodLink RX6 25 yX6_at, Cond.methodLink RX6 29 yX6_put, Cond.instanceMethod yX6_put, Cond.selects RX6 yX6_put yX6_put, Cond.code yX6_put cX6_put 3 none, Cond.methodLink RX1 41 yX6_put]
def wsX8_bid : List Cond := .code yX8_bid cX8_bid 4 (some .int) :: ((wsX8_bid_r1 ++ wsX8_bid_r2) ++ wsX80 ++ wsX10 ++ wsX60)
def wsX8_hammer_r1 : List Cond := [Cond.fieldLink RX8 40 "FoulRights" "bids" "LFoulRights$Bids;", Cond.fieldLink RX8 26 "FoulRights" "permits" "LFoulRights$Permits;", Cond.methodLink RX8 229 Lib.Math.min.name, Cond.static Lib.Math.min.name, Cond.initialized "java/lang/Math", Cond.code Lib.Math.min.name Lib.Math.min.code 2 (some .int), Cond.methodLink RX8 140 yX1_many, Cond.instanceMethod yX1_many, Cond.selects RX1 yX1_many yX1_many, Cond.initialized RX1, Cond.code yX1_many cX1_many 1 (some .int), Cond.fieldLink RX1 29 "FoulRights$Bids" "size" "I", Cond.methodLink RX8 223 yX1_price, Cond.instanceMethod yX1_price, Cond.selects RX1 yX1_price yX1_price, Cond.code yX1_price cX1_price 2 (some .int), Cond.fieldLink RX1 23 "FoulRights$Bids" "offered" "LFoulRights$Row;", Cond.methodLink RX1 33 yX6_at, Cond.instanceMethod yX6_at, Cond.selects RX6 yX6_at yX6_at, Cond.initialized RX6, Cond.code yX6_at cX6_at 2 (some .int), Cond.fieldLink RX6 13 "FoulRights$Row" "cells" "[I", Cond.methodLink RX8 226 yX1_wanted]
def wsX8_hammer_r2 : List Cond := [Cond.instanceMethod yX1_wanted, Cond.selects RX1 yX1_wanted yX1_wanted, Cond.code yX1_wanted cX1_wanted 2 (some .int), Cond.fieldLink RX1 20 "FoulRights$Bids" "wants" "LFoulRights$Row;", Cond.methodLink RX8 134 yX5_heldBy, Cond.instanceMethod yX5_heldBy, Cond.selects RX5 yX5_heldBy yX5_heldBy, Cond.initialized RX5, Cond.code yX5_heldBy cX5_heldBy 2 (some .int), Cond.fieldLink RX5 35 "FoulRights$Permits" "held" "LFoulRights$Row;", Cond.methodLink RX5 74 yX6_at, Cond.methodLink RX8 147 yX1_who, Cond.instanceMethod yX1_who, Cond.selects RX1 yX1_who yX1_who, Cond.code yX1_who cX1_who 2 (some .int), Cond.fieldLink RX1 14 "FoulRights$Bids" "bidder" "LFoulRights$Row;", Cond.methodLink RX8 164 yX5_pass, Cond.instanceMethod yX5_pass, Cond.selects RX5 yX5_pass yX5_pass, Cond.code yX5_pass cX5_pass 6 none, Cond.fieldLink RX5 20 "FoulRights$Permits" "holder" "LFoulRights$Row;", Cond.fieldLink RX5 32 "FoulRights$Permits" "moves" "LFoulRights$Row;", Cond.fieldLink RX5 38 "FoulRights$Permits" "searched" "LFoulRights$Row;", Cond.methodLink RX5 64 Lib.Math.min.name]
def wsX8_hammer_r3 : List Cond := [Cond.methodLink RX5 70 yX5_leastOf, Cond.instanceMethod yX5_leastOf, Cond.selects RX5 yX5_leastOf yX5_leastOf, Cond.code yX5_leastOf cX5_leastOf 3 (some .int), Cond.fieldLink RX5 41 "FoulRights$Permits" "came" "I", Cond.methodLink RX5 86 yX5_isHeld, Cond.instanceMethod yX5_isHeld, Cond.selects RX5 yX5_isHeld yX5_isHeld, Cond.code yX5_isHeld cX5_isHeld 2 (some .boolean), Cond.fieldLink RX5 14 "FoulRights$Permits" "state" "LFoulRights$Row;", Cond.methodLink RX5 49 yX6_put, Cond.instanceMethod yX6_put, Cond.selects RX6 yX6_put yX6_put, Cond.code yX6_put cX6_put 3 none, Cond.methodLink RX5 52 yX6_add, Cond.instanceMethod yX6_add, Cond.selects RX6 yX6_add yX6_add, Cond.code yX6_add cX6_add 3 none, Cond.methodLink RX6 25 yX6_at, Cond.methodLink RX6 29 yX6_put, Cond.methodLink RX8 234 yX1_grant, Cond.instanceMethod yX1_grant, Cond.selects RX1 yX1_grant yX1_grant, Cond.code yX1_grant cX1_grant 3 none]
def wsX8_hammer_r4 : List Cond := [Cond.fieldLink RX1 26 "FoulRights$Bids" "granted" "LFoulRights$Row;", Cond.methodLink RX1 41 yX6_put]
def wsX8_hammer : List Cond := .code yX8_hammer cX8_hammer 5 (some .int) :: ((wsX8_hammer_r1 ++ (wsX8_hammer_r2 ++ (wsX8_hammer_r3 ++ wsX8_hammer_r4))) ++ wsX80 ++ wsX10 ++ wsX60 ++ wsX50)
def wsX8_auction_r1 : List Cond := [Cond.fieldLink RX8 26 "FoulRights" "permits" "LFoulRights$Permits;", Cond.fieldLink RX8 10 "FoulRights" "rules" "LFoulRights$Rules;", Cond.fieldLink RX8 95 "FoulRights" "now" "I", Cond.fieldLink RX8 40 "FoulRights" "bids" "LFoulRights$Bids;", Cond.fieldLink RX8 54 "FoulRights" "ledger" "LFoulRights$Ledger;", Cond.fieldLink RX8 153 "FoulRights" "auctionCoins" "I", Cond.methodLink RX8 134 yX5_heldBy, Cond.instanceMethod yX5_heldBy, Cond.selects RX5 yX5_heldBy yX5_heldBy, Cond.initialized RX5, Cond.code yX5_heldBy cX5_heldBy 2 (some .int), Cond.fieldLink RX5 35 "FoulRights$Permits" "held" "LFoulRights$Row;", Cond.methodLink RX5 74 yX6_at, Cond.instanceMethod yX6_at, Cond.selects RX6 yX6_at yX6_at, Cond.initialized RX6, Cond.code yX6_at cX6_at 2 (some .int), Cond.fieldLink RX6 13 "FoulRights$Row" "cells" "[I", Cond.methodLink RX8 89 yX7_floorIn, Cond.instanceMethod yX7_floorIn, Cond.selects RX7 yX7_floorIn yX7_floorIn, Cond.initialized RX7, Cond.code yX7_floorIn cX7_floorIn 2 (some .int), Cond.fieldLink RX7 32 "FoulRights$Rules" "floor" "LFoulRights$Row;"]
def wsX8_auction_r2 : List Cond := [Cond.methodLink RX7 43 yX7_inForce, Cond.instanceMethod yX7_inForce, Cond.selects RX7 yX7_inForce yX7_inForce, Cond.code yX7_inForce cX7_inForce 4 (some .int), Cond.fieldLink RX7 36 "FoulRights$Rules" "many" "I", Cond.fieldLink RX7 14 "FoulRights$Rules" "from" "LFoulRights$Row;", Cond.methodLink RX7 47 yX6_at, Cond.methodLink RX8 137 yX8_hammer, Cond.instanceMethod yX8_hammer, Cond.selects RX8 yX8_hammer yX8_hammer, Cond.initialized RX8, Cond.code yX8_hammer cX8_hammer 5 (some .int), Cond.methodLink RX8 229 Lib.Math.min.name, Cond.static Lib.Math.min.name, Cond.initialized "java/lang/Math", Cond.code Lib.Math.min.name Lib.Math.min.code 2 (some .int), Cond.methodLink RX8 140 yX1_many, Cond.instanceMethod yX1_many, Cond.selects RX1 yX1_many yX1_many, Cond.initialized RX1, Cond.code yX1_many cX1_many 1 (some .int), Cond.fieldLink RX1 29 "FoulRights$Bids" "size" "I", Cond.methodLink RX8 223 yX1_price, Cond.instanceMethod yX1_price]
def wsX8_auction_r3 : List Cond := [Cond.selects RX1 yX1_price yX1_price, Cond.code yX1_price cX1_price 2 (some .int), Cond.fieldLink RX1 23 "FoulRights$Bids" "offered" "LFoulRights$Row;", Cond.methodLink RX1 33 yX6_at, Cond.methodLink RX8 226 yX1_wanted, Cond.instanceMethod yX1_wanted, Cond.selects RX1 yX1_wanted yX1_wanted, Cond.code yX1_wanted cX1_wanted 2 (some .int), Cond.fieldLink RX1 20 "FoulRights$Bids" "wants" "LFoulRights$Row;", Cond.methodLink RX8 147 yX1_who, Cond.instanceMethod yX1_who, Cond.selects RX1 yX1_who yX1_who, Cond.code yX1_who cX1_who 2 (some .int), Cond.fieldLink RX1 14 "FoulRights$Bids" "bidder" "LFoulRights$Row;", Cond.methodLink RX8 164 yX5_pass, Cond.instanceMethod yX5_pass, Cond.selects RX5 yX5_pass yX5_pass, Cond.code yX5_pass cX5_pass 6 none, Cond.fieldLink RX5 20 "FoulRights$Permits" "holder" "LFoulRights$Row;", Cond.fieldLink RX5 32 "FoulRights$Permits" "moves" "LFoulRights$Row;", Cond.fieldLink RX5 38 "FoulRights$Permits" "searched" "LFoulRights$Row;", Cond.methodLink RX5 64 Lib.Math.min.name, Cond.methodLink RX5 70 yX5_leastOf, Cond.instanceMethod yX5_leastOf]
def wsX8_auction_r4 : List Cond := [Cond.selects RX5 yX5_leastOf yX5_leastOf, Cond.code yX5_leastOf cX5_leastOf 3 (some .int), Cond.fieldLink RX5 41 "FoulRights$Permits" "came" "I", Cond.methodLink RX5 86 yX5_isHeld, Cond.instanceMethod yX5_isHeld, Cond.selects RX5 yX5_isHeld yX5_isHeld, Cond.code yX5_isHeld cX5_isHeld 2 (some .boolean), Cond.fieldLink RX5 14 "FoulRights$Permits" "state" "LFoulRights$Row;", Cond.methodLink RX5 49 yX6_put, Cond.instanceMethod yX6_put, Cond.selects RX6 yX6_put yX6_put, Cond.code yX6_put cX6_put 3 none, Cond.methodLink RX5 52 yX6_add, Cond.instanceMethod yX6_add, Cond.selects RX6 yX6_add yX6_add, Cond.code yX6_add cX6_add 3 none, Cond.methodLink RX6 25 yX6_at, Cond.methodLink RX6 29 yX6_put, Cond.methodLink RX8 234 yX1_grant, Cond.instanceMethod yX1_grant, Cond.selects RX1 yX1_grant yX1_grant, Cond.code yX1_grant cX1_grant 3 none, Cond.fieldLink RX1 26 "FoulRights$Bids" "granted" "LFoulRights$Row;", Cond.methodLink RX1 41 yX6_put]
def wsX8_auction_r5 : List Cond := [Cond.methodLink RX8 144 yX1_got, Cond.instanceMethod yX1_got, Cond.selects RX1 yX1_got yX1_got, Cond.code yX1_got cX1_got 2 (some .int), Cond.methodLink RX8 150 yX3_earn, Cond.instanceMethod yX3_earn, Cond.selects RX3 yX3_earn yX3_earn, Cond.initialized RX3, Cond.code yX3_earn cX3_earn 3 none, Cond.fieldLink RX3 14 "FoulRights$Ledger" "coins" "LFoulRights$Row;", Cond.methodLink RX3 29 yX6_add, Cond.methodLink RX8 156 yX1_forget, Cond.instanceMethod yX1_forget, Cond.selects RX1 yX1_forget yX1_forget, Cond.code yX1_forget cX1_forget 1 none]
def wsX8_auction : List Cond := .code yX8_auction cX8_auction 5 (some .int) :: ((wsX8_auction_r1 ++ (wsX8_auction_r2 ++ (wsX8_auction_r3 ++ (wsX8_auction_r4 ++ wsX8_auction_r5)))) ++ wsX80 ++ wsX50 ++ wsX60 ++ wsX70 ++ wsX10 ++ wsX30)
def wsX8_holdsAsMany : List Cond := .code yX8_holdsAsMany cX8_holdsAsMany 3 (some .boolean) :: ([.fieldLink RX8 26 "FoulRights" "permits" "LFoulRights$Permits;", .methodLink RX8 92 yX8_isWorks, .instanceMethod yX8_isWorks, .selects RX8 yX8_isWorks yX8_isWorks, .initialized RX8, .code yX8_isWorks cX8_isWorks 2 (some .boolean), .fieldLink RX8 67 "FoulRights" "worksCame" "I", .methodLink RX8 98 yX8_isWithin, .static yX8_isWithin, .code yX8_isWithin cX8_isWithin 3 (some .boolean), .methodLink RX8 134 yX5_heldBy, .instanceMethod yX5_heldBy, .selects RX5 yX5_heldBy yX5_heldBy, .initialized RX5, .code yX5_heldBy cX5_heldBy 2 (some .int), .fieldLink RX5 35 "FoulRights$Permits" "held" "LFoulRights$Row;", .methodLink RX5 74 yX6_at, .instanceMethod yX6_at, .selects RX6 yX6_at yX6_at, .initialized RX6, .code yX6_at cX6_at 2 (some .int), .fieldLink RX6 13 "FoulRights$Row" "cells" "[I"] ++ wsX80 ++ wsX50 ++ wsX60)
def wsX8_trade_r1 : List Cond := [Cond.constant RX8 159 (100000), Cond.fieldLink RX8 26 "FoulRights" "permits" "LFoulRights$Permits;", Cond.fieldLink RX8 54 "FoulRights" "ledger" "LFoulRights$Ledger;", Cond.methodLink RX8 92 yX8_isWorks, Cond.instanceMethod yX8_isWorks, Cond.selects RX8 yX8_isWorks yX8_isWorks, Cond.initialized RX8, Cond.code yX8_isWorks cX8_isWorks 2 (some .boolean), Cond.fieldLink RX8 67 "FoulRights" "worksCame" "I", Cond.methodLink RX8 98 yX8_isWithin, Cond.static yX8_isWithin, Cond.code yX8_isWithin cX8_isWithin 3 (some .boolean), Cond.methodLink RX8 160 yX8_holdsAsMany, Cond.instanceMethod yX8_holdsAsMany, Cond.selects RX8 yX8_holdsAsMany yX8_holdsAsMany, Cond.code yX8_holdsAsMany cX8_holdsAsMany 3 (some .boolean), Cond.methodLink RX8 134 yX5_heldBy, Cond.instanceMethod yX5_heldBy, Cond.selects RX5 yX5_heldBy yX5_heldBy, Cond.initialized RX5, Cond.code yX5_heldBy cX5_heldBy 2 (some .int), Cond.fieldLink RX5 35 "FoulRights$Permits" "held" "LFoulRights$Row;", Cond.methodLink RX5 74 yX6_at, Cond.instanceMethod yX6_at]
def wsX8_trade_r2 : List Cond := [Cond.selects RX6 yX6_at yX6_at, Cond.initialized RX6, Cond.code yX6_at cX6_at 2 (some .int), Cond.fieldLink RX6 13 "FoulRights$Row" "cells" "[I", Cond.methodLink RX8 164 yX5_pass, Cond.instanceMethod yX5_pass, Cond.selects RX5 yX5_pass yX5_pass, Cond.code yX5_pass cX5_pass 6 none, Cond.fieldLink RX5 20 "FoulRights$Permits" "holder" "LFoulRights$Row;", Cond.fieldLink RX5 32 "FoulRights$Permits" "moves" "LFoulRights$Row;", Cond.fieldLink RX5 38 "FoulRights$Permits" "searched" "LFoulRights$Row;", Cond.methodLink RX5 64 Lib.Math.min.name, Cond.static Lib.Math.min.name, Cond.initialized "java/lang/Math", Cond.code Lib.Math.min.name Lib.Math.min.code 2 (some .int), Cond.methodLink RX5 70 yX5_leastOf, Cond.instanceMethod yX5_leastOf, Cond.selects RX5 yX5_leastOf yX5_leastOf, Cond.code yX5_leastOf cX5_leastOf 3 (some .int), Cond.fieldLink RX5 41 "FoulRights$Permits" "came" "I", Cond.methodLink RX5 86 yX5_isHeld, Cond.instanceMethod yX5_isHeld, Cond.selects RX5 yX5_isHeld yX5_isHeld, Cond.code yX5_isHeld cX5_isHeld 2 (some .boolean)]
def wsX8_trade_r3 : List Cond := [Cond.fieldLink RX5 14 "FoulRights$Permits" "state" "LFoulRights$Row;", Cond.methodLink RX5 49 yX6_put, Cond.instanceMethod yX6_put, Cond.selects RX6 yX6_put yX6_put, Cond.code yX6_put cX6_put 3 none, Cond.methodLink RX5 52 yX6_add, Cond.instanceMethod yX6_add, Cond.selects RX6 yX6_add yX6_add, Cond.code yX6_add cX6_add 3 none, Cond.methodLink RX6 25 yX6_at, Cond.methodLink RX6 29 yX6_put, Cond.methodLink RX8 150 yX3_earn, Cond.instanceMethod yX3_earn, Cond.selects RX3 yX3_earn yX3_earn, Cond.initialized RX3, Cond.code yX3_earn cX3_earn 3 none, Cond.fieldLink RX3 14 "FoulRights$Ledger" "coins" "LFoulRights$Row;", Cond.methodLink RX3 29 yX6_add]
def wsX8_trade : List Cond := .code yX8_trade cX8_trade 5 (some .boolean) :: ((wsX8_trade_r1 ++ (wsX8_trade_r2 ++ wsX8_trade_r3)) ++ wsX80 ++ wsX50 ++ wsX60 ++ wsX30)
def wsX8_offset_r1 : List Cond := [Cond.fieldLink RX8 168 "FoulRights" "projectsCame" "I", Cond.fieldLink RX8 95 "FoulRights" "now" "I", Cond.fieldLink RX8 26 "FoulRights" "permits" "LFoulRights$Permits;", Cond.methodLink RX8 92 yX8_isWorks, Cond.instanceMethod yX8_isWorks, Cond.selects RX8 yX8_isWorks yX8_isWorks, Cond.initialized RX8, Cond.code yX8_isWorks cX8_isWorks 2 (some .boolean), Cond.fieldLink RX8 67 "FoulRights" "worksCame" "I", Cond.methodLink RX8 98 yX8_isWithin, Cond.static yX8_isWithin, Cond.code yX8_isWithin cX8_isWithin 3 (some .boolean), Cond.methodLink RX8 71 yX8_isYear, Cond.static yX8_isYear, Cond.code yX8_isYear cX8_isYear 1 (some .boolean), Cond.methodLink RX8 113 yX5_hasRoomFor, Cond.instanceMethod yX5_hasRoomFor, Cond.selects RX5 yX5_hasRoomFor yX5_hasRoomFor, Cond.initialized RX5, Cond.code yX5_hasRoomFor cX5_hasRoomFor 2 (some .boolean), Cond.fieldLink RX5 41 "FoulRights$Permits" "came" "I", Cond.methodLink RX8 123 yX5_come, Cond.instanceMethod yX5_come, Cond.selects RX5 yX5_come yX5_come]
def wsX8_offset_r2 : List Cond := [Cond.code yX5_come cX5_come 6 none, Cond.fieldLink RX5 14 "FoulRights$Permits" "state" "LFoulRights$Row;", Cond.fieldLink RX5 20 "FoulRights$Permits" "holder" "LFoulRights$Row;", Cond.fieldLink RX5 23 "FoulRights$Permits" "cameIn" "LFoulRights$Row;", Cond.fieldLink RX5 26 "FoulRights$Permits" "usedIn" "LFoulRights$Row;", Cond.fieldLink RX5 29 "FoulRights$Permits" "project" "LFoulRights$Row;", Cond.fieldLink RX5 32 "FoulRights$Permits" "moves" "LFoulRights$Row;", Cond.fieldLink RX5 35 "FoulRights$Permits" "held" "LFoulRights$Row;", Cond.methodLink RX5 45 yX5_makeRoom, Cond.instanceMethod yX5_makeRoom, Cond.selects RX5 yX5_makeRoom yX5_makeRoom, Cond.code yX5_makeRoom cX5_makeRoom 2 none, Cond.fieldLink RX5 55 "FoulRights$Permits" "room" "I", Cond.methodLink RX5 58 Lib.Math.max.name, Cond.static Lib.Math.max.name, Cond.initialized "java/lang/Math", Cond.code Lib.Math.max.name Lib.Math.max.code 2 (some .int), Cond.methodLink RX5 64 Lib.Math.min.name, Cond.static Lib.Math.min.name, Cond.code Lib.Math.min.name Lib.Math.min.code 2 (some .int), Cond.methodLink RX5 67 yX6_widen, Cond.instanceMethod yX6_widen, Cond.selects RX6 yX6_widen yX6_widen, Cond.initialized RX6]
def wsX8_offset_r3 : List Cond := [Cond.code yX6_widen cX6_widen 2 none, Cond.fieldLink RX6 13 "FoulRights$Row" "cells" "[I", Cond.methodLink RX6 33 yJ7_copyOf_59c91, Cond.static yJ7_copyOf_59c91, Cond.initialized RJ7, Cond.code yJ7_copyOf_59c91 cJ7_copyOf_59c91 3 (some (.array .int)), Cond.methodLink RJ7 316 ⟨"[I", "clone", "()Ljava/lang/Object;"⟩, Cond.sameMethod "[I" "java/lang/Object" "clone" "()Ljava/lang/Object;", Cond.native ⟨"java/lang/Object", "clone", "()Ljava/lang/Object;"⟩, Cond.instanceMethod ⟨"java/lang/Object", "clone", "()Ljava/lang/Object;"⟩, Cond.selects "[I" ⟨"[I", "clone", "()Ljava/lang/Object;"⟩ ⟨"java/lang/Object", "clone", "()Ljava/lang/Object;"⟩, Cond.classLink RJ7 317 "[I", Cond.arrayClass .int, Cond.methodLink RJ7 304 Lib.Math.min.name, Cond.methodLink RJ7 150 arraycopyName, Cond.native arraycopyName, Cond.static arraycopyName, Cond.initialized "java/lang/System", Cond.methodLink RX5 49 yX6_put, Cond.instanceMethod yX6_put, Cond.selects RX6 yX6_put yX6_put, Cond.code yX6_put cX6_put 3 none, Cond.methodLink RX5 52 yX6_add, Cond.instanceMethod yX6_add]
def wsX8_offset_r4 : List Cond := [Cond.selects RX6 yX6_add yX6_add, Cond.code yX6_add cX6_add 3 none, Cond.methodLink RX6 25 yX6_at, Cond.instanceMethod yX6_at, Cond.selects RX6 yX6_at yX6_at, Cond.code yX6_at cX6_at 2 (some .int), Cond.methodLink RX6 29 yX6_put]
def wsX8_offset : List Cond := .code yX8_offset cX8_offset 4 (some .int) :: ((wsX8_offset_r1 ++ (wsX8_offset_r2 ++ (wsX8_offset_r3 ++ wsX8_offset_r4))) ++ wsX80 ++ wsX50 ++ wsX60)
def wsX8_undo_r1 : List Cond := [Cond.fieldLink RX8 26 "FoulRights" "permits" "LFoulRights$Permits;", Cond.fieldLink RX8 54 "FoulRights" "ledger" "LFoulRights$Ledger;", Cond.methodLink RX8 237 yX5_isHeld, Cond.instanceMethod yX5_isHeld, Cond.selects RX5 yX5_isHeld yX5_isHeld, Cond.initialized RX5, Cond.code yX5_isHeld cX5_isHeld 2 (some .boolean), Cond.fieldLink RX5 14 "FoulRights$Permits" "state" "LFoulRights$Row;", Cond.methodLink RX5 74 yX6_at, Cond.instanceMethod yX6_at, Cond.selects RX6 yX6_at yX6_at, Cond.initialized RX6, Cond.code yX6_at cX6_at 2 (some .int), Cond.fieldLink RX6 13 "FoulRights$Row" "cells" "[I", Cond.methodLink RX8 240 yX5_strikeOne, Cond.instanceMethod yX5_strikeOne, Cond.selects RX5 yX5_strikeOne yX5_strikeOne, Cond.code yX5_strikeOne cX5_strikeOne 2 none, Cond.fieldLink RX5 35 "FoulRights$Permits" "held" "LFoulRights$Row;", Cond.fieldLink RX5 20 "FoulRights$Permits" "holder" "LFoulRights$Row;", Cond.fieldLink RX5 83 "FoulRights$Permits" "cancelled" "I", Cond.methodLink RX5 49 yX6_put, Cond.instanceMethod yX6_put, Cond.selects RX6 yX6_put yX6_put]
def wsX8_undo_r2 : List Cond := [Cond.code yX6_put cX6_put 3 none, Cond.methodLink RX5 52 yX6_add, Cond.instanceMethod yX6_add, Cond.selects RX6 yX6_add yX6_add, Cond.code yX6_add cX6_add 3 none, Cond.methodLink RX6 25 yX6_at, Cond.methodLink RX6 29 yX6_put, Cond.methodLink RX8 244 yX5_holderOf, Cond.instanceMethod yX5_holderOf, Cond.selects RX5 yX5_holderOf yX5_holderOf, Cond.code yX5_holderOf cX5_holderOf 2 (some .int), Cond.methodLink RX8 247 yX3_owe, Cond.instanceMethod yX3_owe, Cond.selects RX3 yX3_owe yX3_owe, Cond.initialized RX3, Cond.code yX3_owe cX3_owe 3 none, Cond.fieldLink RX3 20 "FoulRights$Ledger" "debts" "LFoulRights$Row;", Cond.methodLink RX3 29 yX6_add]
def wsX8_undo : List Cond := .code yX8_undo cX8_undo 2 (some .int) :: ((wsX8_undo_r1 ++ wsX8_undo_r2) ++ wsX80 ++ wsX50 ++ wsX60 ++ wsX30)
def wsX8_falses_r1 : List Cond := [Cond.fieldLink RX8 168 "FoulRights" "projectsCame" "I", Cond.fieldLink RX8 63 "FoulRights" "falseProjects" "LFoulRights$Row;", Cond.fieldLink RX8 26 "FoulRights" "permits" "LFoulRights$Permits;", Cond.methodLink RX8 98 yX8_isWithin, Cond.static yX8_isWithin, Cond.initialized RX8, Cond.code yX8_isWithin cX8_isWithin 3 (some .boolean), Cond.methodLink RX8 171 yX6_at, Cond.instanceMethod yX6_at, Cond.selects RX6 yX6_at yX6_at, Cond.initialized RX6, Cond.code yX6_at cX6_at 2 (some .int), Cond.fieldLink RX6 13 "FoulRights$Row" "cells" "[I", Cond.methodLink RX8 174 yX6_put, Cond.instanceMethod yX6_put, Cond.selects RX6 yX6_put yX6_put, Cond.code yX6_put cX6_put 3 none, Cond.methodLink RX8 177 yX5_cameSoFar, Cond.instanceMethod yX5_cameSoFar, Cond.selects RX5 yX5_cameSoFar yX5_cameSoFar, Cond.initialized RX5, Cond.code yX5_cameSoFar cX5_cameSoFar 1 (some .int), Cond.fieldLink RX5 41 "FoulRights$Permits" "came" "I", Cond.methodLink RX8 180 yX5_projectOf]
def wsX8_falses_r2 : List Cond := [Cond.instanceMethod yX5_projectOf, Cond.selects RX5 yX5_projectOf yX5_projectOf, Cond.code yX5_projectOf cX5_projectOf 2 (some .int), Cond.fieldLink RX5 29 "FoulRights$Permits" "project" "LFoulRights$Row;", Cond.methodLink RX5 74 yX6_at, Cond.methodLink RX8 183 yX8_undo, Cond.instanceMethod yX8_undo, Cond.selects RX8 yX8_undo yX8_undo, Cond.code yX8_undo cX8_undo 2 (some .int), Cond.fieldLink RX8 54 "FoulRights" "ledger" "LFoulRights$Ledger;", Cond.methodLink RX8 237 yX5_isHeld, Cond.instanceMethod yX5_isHeld, Cond.selects RX5 yX5_isHeld yX5_isHeld, Cond.code yX5_isHeld cX5_isHeld 2 (some .boolean), Cond.fieldLink RX5 14 "FoulRights$Permits" "state" "LFoulRights$Row;", Cond.methodLink RX8 240 yX5_strikeOne, Cond.instanceMethod yX5_strikeOne, Cond.selects RX5 yX5_strikeOne yX5_strikeOne, Cond.code yX5_strikeOne cX5_strikeOne 2 none, Cond.fieldLink RX5 35 "FoulRights$Permits" "held" "LFoulRights$Row;", Cond.fieldLink RX5 20 "FoulRights$Permits" "holder" "LFoulRights$Row;", Cond.fieldLink RX5 83 "FoulRights$Permits" "cancelled" "I", Cond.methodLink RX5 49 yX6_put, Cond.methodLink RX5 52 yX6_add]
def wsX8_falses_r3 : List Cond := [Cond.instanceMethod yX6_add, Cond.selects RX6 yX6_add yX6_add, Cond.code yX6_add cX6_add 3 none, Cond.methodLink RX6 25 yX6_at, Cond.methodLink RX6 29 yX6_put, Cond.methodLink RX8 244 yX5_holderOf, Cond.instanceMethod yX5_holderOf, Cond.selects RX5 yX5_holderOf yX5_holderOf, Cond.code yX5_holderOf cX5_holderOf 2 (some .int), Cond.methodLink RX8 247 yX3_owe, Cond.instanceMethod yX3_owe, Cond.selects RX3 yX3_owe yX3_owe, Cond.initialized RX3, Cond.code yX3_owe cX3_owe 3 none, Cond.fieldLink RX3 20 "FoulRights$Ledger" "debts" "LFoulRights$Row;", Cond.methodLink RX3 29 yX6_add]
def wsX8_falses : List Cond := .code yX8_falses cX8_falses 4 (some .int) :: ((wsX8_falses_r1 ++ (wsX8_falses_r2 ++ wsX8_falses_r3)) ++ wsX80 ++ wsX60 ++ wsX50 ++ wsX30)
def wsX8_cancel_r1 : List Cond := [Cond.fieldLink RX8 26 "FoulRights" "permits" "LFoulRights$Permits;", Cond.methodLink RX8 160 yX8_holdsAsMany, Cond.instanceMethod yX8_holdsAsMany, Cond.selects RX8 yX8_holdsAsMany yX8_holdsAsMany, Cond.initialized RX8, Cond.code yX8_holdsAsMany cX8_holdsAsMany 3 (some .boolean), Cond.methodLink RX8 92 yX8_isWorks, Cond.instanceMethod yX8_isWorks, Cond.selects RX8 yX8_isWorks yX8_isWorks, Cond.code yX8_isWorks cX8_isWorks 2 (some .boolean), Cond.fieldLink RX8 67 "FoulRights" "worksCame" "I", Cond.methodLink RX8 98 yX8_isWithin, Cond.static yX8_isWithin, Cond.code yX8_isWithin cX8_isWithin 3 (some .boolean), Cond.methodLink RX8 134 yX5_heldBy, Cond.instanceMethod yX5_heldBy, Cond.selects RX5 yX5_heldBy yX5_heldBy, Cond.initialized RX5, Cond.code yX5_heldBy cX5_heldBy 2 (some .int), Cond.fieldLink RX5 35 "FoulRights$Permits" "held" "LFoulRights$Row;", Cond.methodLink RX5 74 yX6_at, Cond.instanceMethod yX6_at, Cond.selects RX6 yX6_at yX6_at, Cond.initialized RX6]
def wsX8_cancel_r2 : List Cond := [Cond.code yX6_at cX6_at 2 (some .int), Cond.fieldLink RX6 13 "FoulRights$Row" "cells" "[I", Cond.methodLink RX8 186 yX5_strike, Cond.instanceMethod yX5_strike, Cond.selects RX5 yX5_strike yX5_strike, Cond.code yX5_strike cX5_strike 4 none, Cond.methodLink RX5 70 yX5_leastOf, Cond.instanceMethod yX5_leastOf, Cond.selects RX5 yX5_leastOf yX5_leastOf, Cond.code yX5_leastOf cX5_leastOf 3 (some .int), Cond.fieldLink RX5 38 "FoulRights$Permits" "searched" "LFoulRights$Row;", Cond.fieldLink RX5 41 "FoulRights$Permits" "came" "I", Cond.fieldLink RX5 20 "FoulRights$Permits" "holder" "LFoulRights$Row;", Cond.methodLink RX5 86 yX5_isHeld, Cond.instanceMethod yX5_isHeld, Cond.selects RX5 yX5_isHeld yX5_isHeld, Cond.code yX5_isHeld cX5_isHeld 2 (some .boolean), Cond.fieldLink RX5 14 "FoulRights$Permits" "state" "LFoulRights$Row;", Cond.methodLink RX5 49 yX6_put, Cond.instanceMethod yX6_put, Cond.selects RX6 yX6_put yX6_put, Cond.code yX6_put cX6_put 3 none, Cond.methodLink RX5 80 yX5_strikeOne, Cond.instanceMethod yX5_strikeOne]
def wsX8_cancel_r3 : List Cond := [Cond.selects RX5 yX5_strikeOne yX5_strikeOne, Cond.code yX5_strikeOne cX5_strikeOne 2 none, Cond.fieldLink RX5 83 "FoulRights$Permits" "cancelled" "I", Cond.methodLink RX5 52 yX6_add, Cond.instanceMethod yX6_add, Cond.selects RX6 yX6_add yX6_add, Cond.code yX6_add cX6_add 3 none, Cond.methodLink RX6 25 yX6_at, Cond.methodLink RX6 29 yX6_put]
def wsX8_cancel : List Cond := .code yX8_cancel cX8_cancel 3 (some .boolean) :: ((wsX8_cancel_r1 ++ (wsX8_cancel_r2 ++ wsX8_cancel_r3)) ++ wsX80 ++ wsX50 ++ wsX60)
def wsX8_settle_r1 : List Cond := [Cond.fieldLink RX8 19 "FoulRights" "meters" "LFoulRights$Meters;", Cond.fieldLink RX8 95 "FoulRights" "now" "I", Cond.fieldLink RX8 54 "FoulRights" "ledger" "LFoulRights$Ledger;", Cond.fieldLink RX8 26 "FoulRights" "permits" "LFoulRights$Permits;", Cond.methodLink RX8 229 Lib.Math.min.name, Cond.static Lib.Math.min.name, Cond.initialized "java/lang/Math", Cond.code Lib.Math.min.name Lib.Math.min.code 2 (some .int), Cond.fieldLink RX8 10 "FoulRights" "rules" "LFoulRights$Rules;", Cond.methodLink RX8 105 yX4_fouledIn, Cond.instanceMethod yX4_fouledIn, Cond.selects RX4 yX4_fouledIn yX4_fouledIn, Cond.initialized RX4, Cond.code yX4_fouledIn cX4_fouledIn 7 (some .int), Cond.fieldLink RX4 14 "FoulRights$Meters" "readings" "LFoulRights$Row;", Cond.methodLink RX4 27 yX4_gapIn, Cond.instanceMethod yX4_gapIn, Cond.selects RX4 yX4_gapIn yX4_gapIn, Cond.code yX4_gapIn cX4_gapIn 4 (some .int), Cond.methodLink RX4 38 Lib.Math.max.name, Cond.static Lib.Math.max.name, Cond.code Lib.Math.max.name Lib.Math.max.code 2 (some .int), Cond.methodLink RX4 35 yX4_greatest, Cond.instanceMethod yX4_greatest]
def wsX8_settle_r2 : List Cond := [Cond.selects RX4 yX4_greatest yX4_greatest, Cond.code yX4_greatest cX4_greatest 5 (some .int), Cond.methodLink RX4 20 yX4_place, Cond.static yX4_place, Cond.code yX4_place cX4_place 3 (some .int), Cond.methodLink RX4 31 yX6_at, Cond.instanceMethod yX6_at, Cond.selects RX6 yX6_at yX6_at, Cond.initialized RX6, Cond.code yX6_at cX6_at 2 (some .int), Cond.fieldLink RX6 13 "FoulRights$Row" "cells" "[I", Cond.methodLink RX8 250 yX3_debtOf, Cond.instanceMethod yX3_debtOf, Cond.selects RX3 yX3_debtOf yX3_debtOf, Cond.initialized RX3, Cond.code yX3_debtOf cX3_debtOf 2 (some .int), Cond.fieldLink RX3 20 "FoulRights$Ledger" "debts" "LFoulRights$Row;", Cond.methodLink RX3 39 yX6_at, Cond.methodLink RX8 134 yX5_heldBy, Cond.instanceMethod yX5_heldBy, Cond.selects RX5 yX5_heldBy yX5_heldBy, Cond.initialized RX5, Cond.code yX5_heldBy cX5_heldBy 2 (some .int), Cond.fieldLink RX5 35 "FoulRights$Permits" "held" "LFoulRights$Row;"]
def wsX8_settle_r3 : List Cond := [Cond.methodLink RX5 74 yX6_at, Cond.methodLink RX8 253 yX5_use, Cond.instanceMethod yX5_use, Cond.selects RX5 yX5_use yX5_use, Cond.code yX5_use cX5_use 6 none, Cond.fieldLink RX5 14 "FoulRights$Permits" "state" "LFoulRights$Row;", Cond.fieldLink RX5 26 "FoulRights$Permits" "usedIn" "LFoulRights$Row;", Cond.fieldLink RX5 77 "FoulRights$Permits" "used" "I", Cond.methodLink RX5 70 yX5_leastOf, Cond.instanceMethod yX5_leastOf, Cond.selects RX5 yX5_leastOf yX5_leastOf, Cond.code yX5_leastOf cX5_leastOf 3 (some .int), Cond.fieldLink RX5 38 "FoulRights$Permits" "searched" "LFoulRights$Row;", Cond.fieldLink RX5 41 "FoulRights$Permits" "came" "I", Cond.fieldLink RX5 20 "FoulRights$Permits" "holder" "LFoulRights$Row;", Cond.methodLink RX5 86 yX5_isHeld, Cond.instanceMethod yX5_isHeld, Cond.selects RX5 yX5_isHeld yX5_isHeld, Cond.code yX5_isHeld cX5_isHeld 2 (some .boolean), Cond.methodLink RX5 49 yX6_put, Cond.instanceMethod yX6_put, Cond.selects RX6 yX6_put yX6_put, Cond.code yX6_put cX6_put 3 none, Cond.methodLink RX5 52 yX6_add]
def wsX8_settle_r4 : List Cond := [Cond.instanceMethod yX6_add, Cond.selects RX6 yX6_add yX6_add, Cond.code yX6_add cX6_add 3 none, Cond.methodLink RX6 25 yX6_at, Cond.methodLink RX6 29 yX6_put, Cond.methodLink RX8 86 yX7_fineIn, Cond.instanceMethod yX7_fineIn, Cond.selects RX7 yX7_fineIn yX7_fineIn, Cond.initialized RX7, Cond.code yX7_fineIn cX7_fineIn 2 (some .int), Cond.fieldLink RX7 29 "FoulRights$Rules" "fine" "LFoulRights$Row;", Cond.methodLink RX7 43 yX7_inForce, Cond.instanceMethod yX7_inForce, Cond.selects RX7 yX7_inForce yX7_inForce, Cond.code yX7_inForce cX7_inForce 4 (some .int), Cond.fieldLink RX7 36 "FoulRights$Rules" "many" "I", Cond.fieldLink RX7 14 "FoulRights$Rules" "from" "LFoulRights$Row;", Cond.methodLink RX7 47 yX6_at, Cond.methodLink RX8 256 yX3_close, Cond.instanceMethod yX3_close, Cond.selects RX3 yX3_close yX3_close, Cond.code yX3_close cX3_close 5 none, Cond.fieldLink RX3 14 "FoulRights$Ledger" "coins" "LFoulRights$Row;", Cond.fieldLink RX3 26 "FoulRights$Ledger" "finesEver" "LFoulRights$Row;"]
def wsX8_settle_r5 : List Cond := [Cond.fieldLink RX3 32 "FoulRights$Ledger" "finesOfAll" "I", Cond.fieldLink RX3 23 "FoulRights$Ledger" "usedEver" "LFoulRights$Row;", Cond.methodLink RX3 29 yX6_add, Cond.methodLink RX3 36 yX6_put]
def wsX8_settle : List Cond := .code yX8_settle cX8_settle 4 (some .int) :: ((wsX8_settle_r1 ++ (wsX8_settle_r2 ++ (wsX8_settle_r3 ++ (wsX8_settle_r4 ++ wsX8_settle_r5)))) ++ wsX80 ++ wsX40 ++ wsX60 ++ wsX30 ++ wsX50 ++ wsX70)
def wsX8_end_r1 : List Cond := [Cond.fieldLink RX8 95 "FoulRights" "now" "I", Cond.fieldLink RX8 67 "FoulRights" "worksCame" "I", Cond.fieldLink RX8 109 "FoulRights" "issuedThisYear" "Z", Cond.methodLink RX8 71 yX8_isYear, Cond.static yX8_isYear, Cond.initialized RX8, Cond.code yX8_isYear cX8_isYear 1 (some .boolean), Cond.methodLink RX8 98 yX8_isWithin, Cond.static yX8_isWithin, Cond.code yX8_isWithin cX8_isWithin 3 (some .boolean), Cond.methodLink RX8 189 yX8_settle, Cond.instanceMethod yX8_settle, Cond.selects RX8 yX8_settle yX8_settle, Cond.code yX8_settle cX8_settle 4 (some .int), Cond.fieldLink RX8 19 "FoulRights" "meters" "LFoulRights$Meters;", Cond.fieldLink RX8 54 "FoulRights" "ledger" "LFoulRights$Ledger;", Cond.fieldLink RX8 26 "FoulRights" "permits" "LFoulRights$Permits;", Cond.methodLink RX8 229 Lib.Math.min.name, Cond.static Lib.Math.min.name, Cond.initialized "java/lang/Math", Cond.code Lib.Math.min.name Lib.Math.min.code 2 (some .int), Cond.fieldLink RX8 10 "FoulRights" "rules" "LFoulRights$Rules;", Cond.methodLink RX8 105 yX4_fouledIn, Cond.instanceMethod yX4_fouledIn]
def wsX8_end_r2 : List Cond := [Cond.selects RX4 yX4_fouledIn yX4_fouledIn, Cond.initialized RX4, Cond.code yX4_fouledIn cX4_fouledIn 7 (some .int), Cond.fieldLink RX4 14 "FoulRights$Meters" "readings" "LFoulRights$Row;", Cond.methodLink RX4 27 yX4_gapIn, Cond.instanceMethod yX4_gapIn, Cond.selects RX4 yX4_gapIn yX4_gapIn, Cond.code yX4_gapIn cX4_gapIn 4 (some .int), Cond.methodLink RX4 38 Lib.Math.max.name, Cond.static Lib.Math.max.name, Cond.code Lib.Math.max.name Lib.Math.max.code 2 (some .int), Cond.methodLink RX4 35 yX4_greatest, Cond.instanceMethod yX4_greatest, Cond.selects RX4 yX4_greatest yX4_greatest, Cond.code yX4_greatest cX4_greatest 5 (some .int), Cond.methodLink RX4 20 yX4_place, Cond.static yX4_place, Cond.code yX4_place cX4_place 3 (some .int), Cond.methodLink RX4 31 yX6_at, Cond.instanceMethod yX6_at, Cond.selects RX6 yX6_at yX6_at, Cond.initialized RX6, Cond.code yX6_at cX6_at 2 (some .int), Cond.fieldLink RX6 13 "FoulRights$Row" "cells" "[I"]
def wsX8_end_r3 : List Cond := [Cond.methodLink RX8 250 yX3_debtOf, Cond.instanceMethod yX3_debtOf, Cond.selects RX3 yX3_debtOf yX3_debtOf, Cond.initialized RX3, Cond.code yX3_debtOf cX3_debtOf 2 (some .int), Cond.fieldLink RX3 20 "FoulRights$Ledger" "debts" "LFoulRights$Row;", Cond.methodLink RX3 39 yX6_at, Cond.methodLink RX8 134 yX5_heldBy, Cond.instanceMethod yX5_heldBy, Cond.selects RX5 yX5_heldBy yX5_heldBy, Cond.initialized RX5, Cond.code yX5_heldBy cX5_heldBy 2 (some .int), Cond.fieldLink RX5 35 "FoulRights$Permits" "held" "LFoulRights$Row;", Cond.methodLink RX5 74 yX6_at, Cond.methodLink RX8 253 yX5_use, Cond.instanceMethod yX5_use, Cond.selects RX5 yX5_use yX5_use, Cond.code yX5_use cX5_use 6 none, Cond.fieldLink RX5 14 "FoulRights$Permits" "state" "LFoulRights$Row;", Cond.fieldLink RX5 26 "FoulRights$Permits" "usedIn" "LFoulRights$Row;", Cond.fieldLink RX5 77 "FoulRights$Permits" "used" "I", Cond.methodLink RX5 70 yX5_leastOf, Cond.instanceMethod yX5_leastOf, Cond.selects RX5 yX5_leastOf yX5_leastOf]
def wsX8_end_r4 : List Cond := [Cond.code yX5_leastOf cX5_leastOf 3 (some .int), Cond.fieldLink RX5 38 "FoulRights$Permits" "searched" "LFoulRights$Row;", Cond.fieldLink RX5 41 "FoulRights$Permits" "came" "I", Cond.fieldLink RX5 20 "FoulRights$Permits" "holder" "LFoulRights$Row;", Cond.methodLink RX5 86 yX5_isHeld, Cond.instanceMethod yX5_isHeld, Cond.selects RX5 yX5_isHeld yX5_isHeld, Cond.code yX5_isHeld cX5_isHeld 2 (some .boolean), Cond.methodLink RX5 49 yX6_put, Cond.instanceMethod yX6_put, Cond.selects RX6 yX6_put yX6_put, Cond.code yX6_put cX6_put 3 none, Cond.methodLink RX5 52 yX6_add, Cond.instanceMethod yX6_add, Cond.selects RX6 yX6_add yX6_add, Cond.code yX6_add cX6_add 3 none, Cond.methodLink RX6 25 yX6_at, Cond.methodLink RX6 29 yX6_put, Cond.methodLink RX8 86 yX7_fineIn, Cond.instanceMethod yX7_fineIn, Cond.selects RX7 yX7_fineIn yX7_fineIn, Cond.initialized RX7, Cond.code yX7_fineIn cX7_fineIn 2 (some .int), Cond.fieldLink RX7 29 "FoulRights$Rules" "fine" "LFoulRights$Row;"]
def wsX8_end_r5 : List Cond := [Cond.methodLink RX7 43 yX7_inForce, Cond.instanceMethod yX7_inForce, Cond.selects RX7 yX7_inForce yX7_inForce, Cond.code yX7_inForce cX7_inForce 4 (some .int), Cond.fieldLink RX7 36 "FoulRights$Rules" "many" "I", Cond.fieldLink RX7 14 "FoulRights$Rules" "from" "LFoulRights$Row;", Cond.methodLink RX7 47 yX6_at, Cond.methodLink RX8 256 yX3_close, Cond.instanceMethod yX3_close, Cond.selects RX3 yX3_close yX3_close, Cond.code yX3_close cX3_close 5 none, Cond.fieldLink RX3 14 "FoulRights$Ledger" "coins" "LFoulRights$Row;", Cond.fieldLink RX3 26 "FoulRights$Ledger" "finesEver" "LFoulRights$Row;", Cond.fieldLink RX3 32 "FoulRights$Ledger" "finesOfAll" "I", Cond.fieldLink RX3 23 "FoulRights$Ledger" "usedEver" "LFoulRights$Row;", Cond.methodLink RX3 29 yX6_add, Cond.methodLink RX3 36 yX6_put]
def wsX8_end : List Cond := .code yX8_end cX8_end 3 (some .int) :: ((wsX8_end_r1 ++ (wsX8_end_r2 ++ (wsX8_end_r3 ++ (wsX8_end_r4 ++ wsX8_end_r5)))) ++ wsX80 ++ wsX40 ++ wsX60 ++ wsX30 ++ wsX50 ++ wsX70)
def wsX8_permit_r1 : List Cond := [Cond.fieldLink RX8 26 "FoulRights" "permits" "LFoulRights$Permits;", Cond.constant RX8 195 (-2147483648), Cond.methodLink RX8 177 yX5_cameSoFar, Cond.instanceMethod yX5_cameSoFar, Cond.selects RX5 yX5_cameSoFar yX5_cameSoFar, Cond.initialized RX5, Cond.code yX5_cameSoFar cX5_cameSoFar 1 (some .int), Cond.fieldLink RX5 41 "FoulRights$Permits" "came" "I", Cond.methodLink RX8 98 yX8_isWithin, Cond.static yX8_isWithin, Cond.initialized RX8, Cond.code yX8_isWithin cX8_isWithin 3 (some .boolean), Cond.methodLink RX8 192 yX5_fact, Cond.instanceMethod yX5_fact, Cond.selects RX5 yX5_fact yX5_fact, Cond.code yX5_fact cX5_fact 3 (some .int), Cond.fieldLink RX5 14 "FoulRights$Permits" "state" "LFoulRights$Row;", Cond.fieldLink RX5 20 "FoulRights$Permits" "holder" "LFoulRights$Row;", Cond.fieldLink RX5 23 "FoulRights$Permits" "cameIn" "LFoulRights$Row;", Cond.fieldLink RX5 26 "FoulRights$Permits" "usedIn" "LFoulRights$Row;", Cond.fieldLink RX5 29 "FoulRights$Permits" "project" "LFoulRights$Row;", Cond.fieldLink RX5 32 "FoulRights$Permits" "moves" "LFoulRights$Row;", Cond.constant RX5 93 (-2147483648), Cond.methodLink RX5 74 yX6_at]
def wsX8_permit_r2 : List Cond := [Cond.instanceMethod yX6_at, Cond.selects RX6 yX6_at yX6_at, Cond.initialized RX6, Cond.code yX6_at cX6_at 2 (some .int), Cond.fieldLink RX6 13 "FoulRights$Row" "cells" "[I"]
def wsX8_permit : List Cond := .code yX8_permit cX8_permit 3 (some .int) :: ((wsX8_permit_r1 ++ wsX8_permit_r2) ++ wsX80 ++ wsX50 ++ wsX60)
def wsX8_told_r1 : List Cond := [Cond.constant RX8 195 (-2147483648), Cond.fieldLink RX8 26 "FoulRights" "permits" "LFoulRights$Permits;", Cond.fieldLink RX8 54 "FoulRights" "ledger" "LFoulRights$Ledger;", Cond.methodLink RX8 92 yX8_isWorks, Cond.instanceMethod yX8_isWorks, Cond.selects RX8 yX8_isWorks yX8_isWorks, Cond.initialized RX8, Cond.code yX8_isWorks cX8_isWorks 2 (some .boolean), Cond.fieldLink RX8 67 "FoulRights" "worksCame" "I", Cond.methodLink RX8 98 yX8_isWithin, Cond.static yX8_isWithin, Cond.code yX8_isWithin cX8_isWithin 3 (some .boolean), Cond.methodLink RX8 134 yX5_heldBy, Cond.instanceMethod yX5_heldBy, Cond.selects RX5 yX5_heldBy yX5_heldBy, Cond.initialized RX5, Cond.code yX5_heldBy cX5_heldBy 2 (some .int), Cond.fieldLink RX5 35 "FoulRights$Permits" "held" "LFoulRights$Row;", Cond.methodLink RX5 74 yX6_at, Cond.instanceMethod yX6_at, Cond.selects RX6 yX6_at yX6_at, Cond.initialized RX6, Cond.code yX6_at cX6_at 2 (some .int), Cond.fieldLink RX6 13 "FoulRights$Row" "cells" "[I"]
def wsX8_told_r2 : List Cond := [Cond.methodLink RX8 196 yX3_fact, Cond.instanceMethod yX3_fact, Cond.selects RX3 yX3_fact yX3_fact, Cond.initialized RX3, Cond.code yX3_fact cX3_fact 3 (some .int), Cond.fieldLink RX3 14 "FoulRights$Ledger" "coins" "LFoulRights$Row;", Cond.fieldLink RX3 20 "FoulRights$Ledger" "debts" "LFoulRights$Row;", Cond.fieldLink RX3 23 "FoulRights$Ledger" "usedEver" "LFoulRights$Row;", Cond.fieldLink RX3 26 "FoulRights$Ledger" "finesEver" "LFoulRights$Row;", Cond.constant RX3 43 (-2147483648), Cond.methodLink RX3 39 yX6_at]
def wsX8_told : List Cond := .code yX8_told cX8_told 3 (some .int) :: ((wsX8_told_r1 ++ wsX8_told_r2) ++ wsX80 ++ wsX50 ++ wsX60 ++ wsX30)
def wsX8_cut_r1 : List Cond := [Cond.fieldLink RX8 47 "FoulRights" "allCuts" "LFoulRights$Cuts;", Cond.methodLink RX8 92 yX8_isWorks, Cond.instanceMethod yX8_isWorks, Cond.selects RX8 yX8_isWorks yX8_isWorks, Cond.initialized RX8, Cond.code yX8_isWorks cX8_isWorks 2 (some .boolean), Cond.fieldLink RX8 67 "FoulRights" "worksCame" "I", Cond.methodLink RX8 98 yX8_isWithin, Cond.static yX8_isWithin, Cond.code yX8_isWithin cX8_isWithin 3 (some .boolean), Cond.methodLink RX8 197 yX2_offer, Cond.instanceMethod yX2_offer, Cond.selects RX2 yX2_offer yX2_offer, Cond.initialized RX2, Cond.code yX2_offer cX2_offer 5 (some .int), Cond.fieldLink RX2 26 "FoulRights$Cuts" "each" "LFoulRights$Row;", Cond.fieldLink RX2 33 "FoulRights$Cuts" "size" "I", Cond.fieldLink RX2 14 "FoulRights$Cuts" "owner" "LFoulRights$Row;", Cond.fieldLink RX2 20 "FoulRights$Cuts" "tonnes" "LFoulRights$Row;", Cond.fieldLink RX2 23 "FoulRights$Cuts" "costs" "LFoulRights$Row;", Cond.fieldLink RX2 45 "FoulRights$Cuts" "allTonnes" "I", Cond.methodLink RX2 29 yX6_at, Cond.instanceMethod yX6_at, Cond.selects RX6 yX6_at yX6_at]
def wsX8_cut_r2 : List Cond := [Cond.initialized RX6, Cond.code yX6_at cX6_at 2 (some .int), Cond.fieldLink RX6 13 "FoulRights$Row" "cells" "[I", Cond.methodLink RX2 37 yX2_comesBehind, Cond.instanceMethod yX2_comesBehind, Cond.selects RX2 yX2_comesBehind yX2_comesBehind, Cond.code yX2_comesBehind cX2_comesBehind 4 (some .boolean), Cond.methodLink RX2 41 yX6_squeeze, Cond.instanceMethod yX6_squeeze, Cond.selects RX6 yX6_squeeze yX6_squeeze, Cond.code yX6_squeeze cX6_squeeze 5 none, Cond.methodLink RX6 25 yX6_at, Cond.methodLink RX6 29 yX6_put, Cond.instanceMethod yX6_put, Cond.selects RX6 yX6_put yX6_put, Cond.code yX6_put cX6_put 3 none, Cond.methodLink RX2 48 yX6_add, Cond.instanceMethod yX6_add, Cond.selects RX6 yX6_add yX6_add, Cond.code yX6_add cX6_add 3 none]
def wsX8_cut : List Cond := .code yX8_cut cX8_cut 4 (some .int) :: ((wsX8_cut_r1 ++ wsX8_cut_r2) ++ wsX80 ++ wsX20 ++ wsX60)
def wsX8_least : List Cond := .code yX8_least cX8_least 2 (some .int) :: ([.fieldLink RX8 47 "FoulRights" "allCuts" "LFoulRights$Cuts;", .methodLink RX8 200 yX2_canBe, .instanceMethod yX2_canBe, .selects RX2 yX2_canBe yX2_canBe, .initialized RX2, .code yX2_canBe cX2_canBe 2 (some .boolean), .fieldLink RX2 45 "FoulRights$Cuts" "allTonnes" "I", .methodLink RX8 203 yX2_costOf, .instanceMethod yX2_costOf, .selects RX2 yX2_costOf yX2_costOf, .code yX2_costOf cX2_costOf 6 (some .int), .fieldLink RX2 33 "FoulRights$Cuts" "size" "I", .fieldLink RX2 20 "FoulRights$Cuts" "tonnes" "LFoulRights$Row;", .methodLink RX2 51 Lib.Math.min.name, .static Lib.Math.min.name, .initialized "java/lang/Math", .code Lib.Math.min.name Lib.Math.min.code 2 (some .int), .fieldLink RX2 23 "FoulRights$Cuts" "costs" "LFoulRights$Row;", .methodLink RX2 29 yX6_at, .instanceMethod yX6_at, .selects RX6 yX6_at yX6_at, .initialized RX6, .code yX6_at cX6_at 2 (some .int), .fieldLink RX6 13 "FoulRights$Row" "cells" "[I"] ++ wsX80 ++ wsX20 ++ wsX60)
def wsX8_margin : List Cond := .code yX8_margin cX8_margin 2 (some .int) :: ([.fieldLink RX8 47 "FoulRights" "allCuts" "LFoulRights$Cuts;", .methodLink RX8 200 yX2_canBe, .instanceMethod yX2_canBe, .selects RX2 yX2_canBe yX2_canBe, .initialized RX2, .code yX2_canBe cX2_canBe 2 (some .boolean), .fieldLink RX2 45 "FoulRights$Cuts" "allTonnes" "I", .methodLink RX8 206 yX2_dearestOf, .instanceMethod yX2_dearestOf, .selects RX2 yX2_dearestOf yX2_dearestOf, .code yX2_dearestOf cX2_dearestOf 5 (some .int), .fieldLink RX2 33 "FoulRights$Cuts" "size" "I", .fieldLink RX2 23 "FoulRights$Cuts" "costs" "LFoulRights$Row;", .fieldLink RX2 20 "FoulRights$Cuts" "tonnes" "LFoulRights$Row;", .methodLink RX2 29 yX6_at, .instanceMethod yX6_at, .selects RX6 yX6_at yX6_at, .initialized RX6, .code yX6_at cX6_at 2 (some .int), .fieldLink RX6 13 "FoulRights$Row" "cells" "[I"] ++ wsX80 ++ wsX20 ++ wsX60)
def wsX8_cuts_r1 : List Cond := [Cond.fieldLink RX8 47 "FoulRights" "allCuts" "LFoulRights$Cuts;", Cond.methodLink RX8 92 yX8_isWorks, Cond.instanceMethod yX8_isWorks, Cond.selects RX8 yX8_isWorks yX8_isWorks, Cond.initialized RX8, Cond.code yX8_isWorks cX8_isWorks 2 (some .boolean), Cond.fieldLink RX8 67 "FoulRights" "worksCame" "I", Cond.methodLink RX8 98 yX8_isWithin, Cond.static yX8_isWithin, Cond.code yX8_isWithin cX8_isWithin 3 (some .boolean), Cond.methodLink RX8 200 yX2_canBe, Cond.instanceMethod yX2_canBe, Cond.selects RX2 yX2_canBe yX2_canBe, Cond.initialized RX2, Cond.code yX2_canBe cX2_canBe 2 (some .boolean), Cond.fieldLink RX2 45 "FoulRights$Cuts" "allTonnes" "I", Cond.methodLink RX8 209 yX2_partOf, Cond.instanceMethod yX2_partOf, Cond.selects RX2 yX2_partOf yX2_partOf, Cond.code yX2_partOf cX2_partOf 7 (some .int), Cond.fieldLink RX2 33 "FoulRights$Cuts" "size" "I", Cond.fieldLink RX2 20 "FoulRights$Cuts" "tonnes" "LFoulRights$Row;", Cond.methodLink RX2 51 Lib.Math.min.name, Cond.static Lib.Math.min.name]
def wsX8_cuts_r2 : List Cond := [Cond.initialized "java/lang/Math", Cond.code Lib.Math.min.name Lib.Math.min.code 2 (some .int), Cond.fieldLink RX2 14 "FoulRights$Cuts" "owner" "LFoulRights$Row;", Cond.methodLink RX2 29 yX6_at, Cond.instanceMethod yX6_at, Cond.selects RX6 yX6_at yX6_at, Cond.initialized RX6, Cond.code yX6_at cX6_at 2 (some .int), Cond.fieldLink RX6 13 "FoulRights$Row" "cells" "[I"]
def wsX8_cuts : List Cond := .code yX8_cuts cX8_cuts 3 (some .int) :: ((wsX8_cuts_r1 ++ wsX8_cuts_r2) ++ wsX80 ++ wsX20 ++ wsX60)
def wsX8_count_r1 : List Cond := [Cond.fieldLink RX8 95 "FoulRights" "now" "I", Cond.fieldLink RX8 67 "FoulRights" "worksCame" "I", Cond.fieldLink RX8 26 "FoulRights" "permits" "LFoulRights$Permits;", Cond.fieldLink RX8 40 "FoulRights" "bids" "LFoulRights$Bids;", Cond.fieldLink RX8 153 "FoulRights" "auctionCoins" "I", Cond.fieldLink RX8 54 "FoulRights" "ledger" "LFoulRights$Ledger;", Cond.fieldLink RX8 168 "FoulRights" "projectsCame" "I", Cond.methodLink RX8 177 yX5_cameSoFar, Cond.instanceMethod yX5_cameSoFar, Cond.selects RX5 yX5_cameSoFar yX5_cameSoFar, Cond.initialized RX5, Cond.code yX5_cameSoFar cX5_cameSoFar 1 (some .int), Cond.fieldLink RX5 41 "FoulRights$Permits" "came" "I", Cond.methodLink RX8 211 yX5_heldByWorks, Cond.instanceMethod yX5_heldByWorks, Cond.selects RX5 yX5_heldByWorks yX5_heldByWorks, Cond.code yX5_heldByWorks cX5_heldByWorks 1 (some .int), Cond.fieldLink RX5 77 "FoulRights$Permits" "used" "I", Cond.fieldLink RX5 83 "FoulRights$Permits" "cancelled" "I", Cond.methodLink RX5 90 yX5_heldBy, Cond.instanceMethod yX5_heldBy, Cond.selects RX5 yX5_heldBy yX5_heldBy, Cond.code yX5_heldBy cX5_heldBy 2 (some .int), Cond.fieldLink RX5 35 "FoulRights$Permits" "held" "LFoulRights$Row;"]
def wsX8_count_r2 : List Cond := [Cond.methodLink RX5 74 yX6_at, Cond.instanceMethod yX6_at, Cond.selects RX6 yX6_at yX6_at, Cond.initialized RX6, Cond.code yX6_at cX6_at 2 (some .int), Cond.fieldLink RX6 13 "FoulRights$Row" "cells" "[I", Cond.methodLink RX8 134 yX5_heldBy, Cond.methodLink RX8 214 yX5_usedSoFar, Cond.instanceMethod yX5_usedSoFar, Cond.selects RX5 yX5_usedSoFar yX5_usedSoFar, Cond.code yX5_usedSoFar cX5_usedSoFar 1 (some .int), Cond.methodLink RX8 217 yX5_cancelledSoFar, Cond.instanceMethod yX5_cancelledSoFar, Cond.selects RX5 yX5_cancelledSoFar yX5_cancelledSoFar, Cond.code yX5_cancelledSoFar cX5_cancelledSoFar 1 (some .int), Cond.methodLink RX8 140 yX1_many, Cond.instanceMethod yX1_many, Cond.selects RX1 yX1_many yX1_many, Cond.initialized RX1, Cond.code yX1_many cX1_many 1 (some .int), Cond.fieldLink RX1 29 "FoulRights$Bids" "size" "I", Cond.methodLink RX8 220 yX3_allFines, Cond.instanceMethod yX3_allFines, Cond.selects RX3 yX3_allFines yX3_allFines]
def wsX8_count_r3 : List Cond := [Cond.initialized RX3, Cond.code yX3_allFines cX3_allFines 1 (some .int), Cond.fieldLink RX3 32 "FoulRights$Ledger" "finesOfAll" "I"]
def wsX8_count : List Cond := .code yX8_count cX8_count 2 (some .int) :: ((wsX8_count_r1 ++ (wsX8_count_r2 ++ wsX8_count_r3)) ++ wsX80 ++ wsX50 ++ wsX60 ++ wsX10 ++ wsX30)
def wsX9_init_r1 : List Cond := [Cond.methodLink RX9 1 objectInit, Cond.instanceMethod objectInit, Cond.code objectInit ⟨#[0xb1]⟩ 1 none, Cond.arrayClass .int, Cond.fieldLink RX9 9 "FoulRightsModel" "coins" "[I", Cond.fieldLink RX9 13 "FoulRightsModel" "debt" "[I", Cond.fieldLink RX9 16 "FoulRightsModel" "fines" "[I", Cond.fieldLink RX9 19 "FoulRightsModel" "reading" "[I", Cond.fieldLink RX9 22 "FoulRightsModel" "ruleYear" "[I", Cond.fieldLink RX9 25 "FoulRightsModel" "ruleWhat" "[I", Cond.fieldLink RX9 28 "FoulRightsModel" "ruleShare" "[I", Cond.fieldLink RX9 31 "FoulRightsModel" "state" "[I", Cond.fieldLink RX9 34 "FoulRightsModel" "holder" "[I", Cond.fieldLink RX9 37 "FoulRightsModel" "yearOf" "[I", Cond.fieldLink RX9 40 "FoulRightsModel" "usedIn" "[I", Cond.fieldLink RX9 43 "FoulRightsModel" "projectOf" "[I", Cond.fieldLink RX9 46 "FoulRightsModel" "went" "[I", Cond.fieldLink RX9 49 "FoulRightsModel" "issuedIn" "I", Cond.fieldLink RX9 53 "FoulRightsModel" "bidWorks" "[I", Cond.fieldLink RX9 56 "FoulRightsModel" "bidMany" "[I", Cond.fieldLink RX9 59 "FoulRightsModel" "bidPrice" "[I", Cond.arrayClass .boolean, Cond.fieldLink RX9 62 "FoulRightsModel" "isFalse" "[Z", Cond.fieldLink RX9 66 "FoulRightsModel" "cutMany" "[I"]
def wsX9_init_r2 : List Cond := [Cond.fieldLink RX9 69 "FoulRightsModel" "tonnes" "[I", Cond.fieldLink RX9 72 "FoulRightsModel" "costs" "[I", Cond.fieldLink RX9 75 "FoulRightsModel" "given" "[I", Cond.fieldLink RX9 78 "FoulRightsModel" "cutOff" "[I", Cond.fieldLink RX9 81 "FoulRightsModel" "got" "[I", Cond.fieldLink RX9 84 "FoulRightsModel" "cutsOf" "[I"]
def wsX9_init : List Cond := .code yX9_init cX9_init 2 none :: ((wsX9_init_r1 ++ wsX9_init_r2) ++ wsX90)
def wsX9_in : List Cond := .code yX9_in cX9_in 3 (some .boolean) :: ([])
def wsX9_isWorks : List Cond := .code yX9_isWorks cX9_isWorks 2 (some .boolean) :: ([.fieldLink RX9 87 "FoulRightsModel" "works" "I", .methodLink RX9 90 yX9_in, .static yX9_in, .initialized RX9, .code yX9_in cX9_in 3 (some .boolean)] ++ wsX90)
def wsX9_works : List Cond := .code yX9_works cX9_works 1 (some .int) :: ([.fieldLink RX9 87 "FoulRightsModel" "works" "I"] ++ wsX90)
def wsX9_rule : List Cond := .code yX9_rule cX9_rule 4 (some .boolean) :: ([.constant RX9 94 (100000), .fieldLink RX9 95 "FoulRightsModel" "rules" "I", .fieldLink RX9 22 "FoulRightsModel" "ruleYear" "[I", .fieldLink RX9 25 "FoulRightsModel" "ruleWhat" "[I", .fieldLink RX9 28 "FoulRightsModel" "ruleShare" "[I", .methodLink RX9 90 yX9_in, .static yX9_in, .initialized RX9, .code yX9_in cX9_in 3 (some .boolean)] ++ wsX90)
def wsX9_ruleOf : List Cond := .code yX9_ruleOf cX9_ruleOf 4 (some .int) :: ([.fieldLink RX9 95 "FoulRightsModel" "rules" "I", .fieldLink RX9 22 "FoulRightsModel" "ruleYear" "[I"] ++ wsX90)
def wsX9_capOf : List Cond := .code yX9_capOf cX9_capOf 5 (some .int) :: ([.fieldLink RX9 25 "FoulRightsModel" "ruleWhat" "[I", .fieldLink RX9 22 "FoulRightsModel" "ruleYear" "[I", .methodLink RX9 98 yX9_ruleOf, .instanceMethod yX9_ruleOf, .selects RX9 yX9_ruleOf yX9_ruleOf, .initialized RX9, .code yX9_ruleOf cX9_ruleOf 4 (some .int), .fieldLink RX9 95 "FoulRightsModel" "rules" "I"] ++ wsX90)
def wsX9_partOf : List Cond := .code yX9_partOf cX9_partOf 5 (some .int) :: ([.fieldLink RX9 28 "FoulRightsModel" "ruleShare" "[I", .methodLink RX9 98 yX9_ruleOf, .instanceMethod yX9_ruleOf, .selects RX9 yX9_ruleOf yX9_ruleOf, .initialized RX9, .code yX9_ruleOf cX9_ruleOf 4 (some .int), .fieldLink RX9 95 "FoulRightsModel" "rules" "I", .fieldLink RX9 22 "FoulRightsModel" "ruleYear" "[I"] ++ wsX90)
def wsX9_ruled : List Cond := .code yX9_ruled cX9_ruled 3 (some .int) :: ([.constant RX9 94 (100000), .methodLink RX9 90 yX9_in, .static yX9_in, .initialized RX9, .code yX9_in cX9_in 3 (some .boolean), .methodLink RX9 102 yX9_capOf, .instanceMethod yX9_capOf, .selects RX9 yX9_capOf yX9_capOf, .code yX9_capOf cX9_capOf 5 (some .int), .fieldLink RX9 25 "FoulRightsModel" "ruleWhat" "[I", .fieldLink RX9 22 "FoulRightsModel" "ruleYear" "[I", .methodLink RX9 98 yX9_ruleOf, .instanceMethod yX9_ruleOf, .selects RX9 yX9_ruleOf yX9_ruleOf, .code yX9_ruleOf cX9_ruleOf 4 (some .int), .fieldLink RX9 95 "FoulRightsModel" "rules" "I", .methodLink RX9 105 yX9_partOf, .instanceMethod yX9_partOf, .selects RX9 yX9_partOf yX9_partOf, .code yX9_partOf cX9_partOf 5 (some .int), .fieldLink RX9 28 "FoulRightsModel" "ruleShare" "[I"] ++ wsX90)
def wsX9_meter : List Cond := .code yX9_meter cX9_meter 5 (some .boolean) :: ([.fieldLink RX9 113 "FoulRightsModel" "now" "I", .fieldLink RX9 19 "FoulRightsModel" "reading" "[I", .methodLink RX9 109 yX9_isWorks, .instanceMethod yX9_isWorks, .selects RX9 yX9_isWorks yX9_isWorks, .initialized RX9, .code yX9_isWorks cX9_isWorks 2 (some .boolean), .fieldLink RX9 87 "FoulRightsModel" "works" "I", .methodLink RX9 90 yX9_in, .static yX9_in, .code yX9_in cX9_in 3 (some .boolean)] ++ wsX90)
def wsX9_greatest : List Cond := .code yX9_greatest cX9_greatest 6 (some .int) :: ([.fieldLink RX9 19 "FoulRightsModel" "reading" "[I"] ++ wsX90)
def wsX9_fouled : List Cond := .code yX9_fouled cX9_fouled 8 (some .int) :: ([.fieldLink RX9 19 "FoulRightsModel" "reading" "[I", .methodLink RX9 109 yX9_isWorks, .instanceMethod yX9_isWorks, .selects RX9 yX9_isWorks yX9_isWorks, .initialized RX9, .code yX9_isWorks cX9_isWorks 2 (some .boolean), .fieldLink RX9 87 "FoulRightsModel" "works" "I", .methodLink RX9 90 yX9_in, .static yX9_in, .code yX9_in cX9_in 3 (some .boolean), .methodLink RX9 116 yX9_greatest, .instanceMethod yX9_greatest, .selects RX9 yX9_greatest yX9_greatest, .code yX9_greatest cX9_greatest 6 (some .int)] ++ wsX90)
def wsX9_comes : List Cond := .code yX9_comes cX9_comes 3 none :: ([.fieldLink RX9 31 "FoulRightsModel" "state" "[I", .fieldLink RX9 120 "FoulRightsModel" "permits" "I", .fieldLink RX9 34 "FoulRightsModel" "holder" "[I", .fieldLink RX9 37 "FoulRightsModel" "yearOf" "[I", .fieldLink RX9 113 "FoulRightsModel" "now" "I", .fieldLink RX9 40 "FoulRightsModel" "usedIn" "[I", .fieldLink RX9 43 "FoulRightsModel" "projectOf" "[I"] ++ wsX90)
def wsX9_gives : List Cond := .code yX9_gives cX9_gives 6 none :: ([.fieldLink RX9 75 "FoulRightsModel" "given" "[I", .fieldLink RX9 87 "FoulRightsModel" "works" "I", .fieldLink RX9 113 "FoulRightsModel" "now" "I", .fieldLink RX9 78 "FoulRightsModel" "cutOff" "[I", .methodLink RX9 123 yX9_fouled, .instanceMethod yX9_fouled, .selects RX9 yX9_fouled yX9_fouled, .initialized RX9, .code yX9_fouled cX9_fouled 8 (some .int), .fieldLink RX9 19 "FoulRightsModel" "reading" "[I", .methodLink RX9 109 yX9_isWorks, .instanceMethod yX9_isWorks, .selects RX9 yX9_isWorks yX9_isWorks, .code yX9_isWorks cX9_isWorks 2 (some .boolean), .methodLink RX9 90 yX9_in, .static yX9_in, .code yX9_in cX9_in 3 (some .boolean), .methodLink RX9 116 yX9_greatest, .instanceMethod yX9_greatest, .selects RX9 yX9_greatest yX9_greatest, .code yX9_greatest cX9_greatest 6 (some .int)] ++ wsX90)
def wsX9_issue_r1 : List Cond := [Cond.fieldLink RX9 113 "FoulRightsModel" "now" "I", Cond.fieldLink RX9 49 "FoulRightsModel" "issuedIn" "I", Cond.fieldLink RX9 120 "FoulRightsModel" "permits" "I", Cond.constant RX9 94 (100000), Cond.fieldLink RX9 87 "FoulRightsModel" "works" "I", Cond.fieldLink RX9 75 "FoulRightsModel" "given" "[I", Cond.methodLink RX9 102 yX9_capOf, Cond.instanceMethod yX9_capOf, Cond.selects RX9 yX9_capOf yX9_capOf, Cond.initialized RX9, Cond.code yX9_capOf cX9_capOf 5 (some .int), Cond.fieldLink RX9 25 "FoulRightsModel" "ruleWhat" "[I", Cond.fieldLink RX9 22 "FoulRightsModel" "ruleYear" "[I", Cond.methodLink RX9 98 yX9_ruleOf, Cond.instanceMethod yX9_ruleOf, Cond.selects RX9 yX9_ruleOf yX9_ruleOf, Cond.code yX9_ruleOf cX9_ruleOf 4 (some .int), Cond.fieldLink RX9 95 "FoulRightsModel" "rules" "I", Cond.methodLink RX9 105 yX9_partOf, Cond.instanceMethod yX9_partOf, Cond.selects RX9 yX9_partOf yX9_partOf, Cond.code yX9_partOf cX9_partOf 5 (some .int), Cond.fieldLink RX9 28 "FoulRightsModel" "ruleShare" "[I", Cond.methodLink RX9 126 yX9_gives]
def wsX9_issue_r2 : List Cond := [Cond.instanceMethod yX9_gives, Cond.selects RX9 yX9_gives yX9_gives, Cond.code yX9_gives cX9_gives 6 none, Cond.fieldLink RX9 78 "FoulRightsModel" "cutOff" "[I", Cond.methodLink RX9 123 yX9_fouled, Cond.instanceMethod yX9_fouled, Cond.selects RX9 yX9_fouled yX9_fouled, Cond.code yX9_fouled cX9_fouled 8 (some .int), Cond.fieldLink RX9 19 "FoulRightsModel" "reading" "[I", Cond.methodLink RX9 109 yX9_isWorks, Cond.instanceMethod yX9_isWorks, Cond.selects RX9 yX9_isWorks yX9_isWorks, Cond.code yX9_isWorks cX9_isWorks 2 (some .boolean), Cond.methodLink RX9 90 yX9_in, Cond.static yX9_in, Cond.code yX9_in cX9_in 3 (some .boolean), Cond.methodLink RX9 116 yX9_greatest, Cond.instanceMethod yX9_greatest, Cond.selects RX9 yX9_greatest yX9_greatest, Cond.code yX9_greatest cX9_greatest 6 (some .int), Cond.methodLink RX9 130 yX9_comes, Cond.instanceMethod yX9_comes, Cond.selects RX9 yX9_comes yX9_comes, Cond.code yX9_comes cX9_comes 3 none]
def wsX9_issue_r3 : List Cond := [Cond.fieldLink RX9 31 "FoulRightsModel" "state" "[I", Cond.fieldLink RX9 34 "FoulRightsModel" "holder" "[I", Cond.fieldLink RX9 37 "FoulRightsModel" "yearOf" "[I", Cond.fieldLink RX9 40 "FoulRightsModel" "usedIn" "[I", Cond.fieldLink RX9 43 "FoulRightsModel" "projectOf" "[I"]
def wsX9_issue : List Cond := .code yX9_issue cX9_issue 5 (some .int) :: ((wsX9_issue_r1 ++ (wsX9_issue_r2 ++ wsX9_issue_r3)) ++ wsX90)
def wsX9_holds : List Cond := .code yX9_holds cX9_holds 4 (some .int) :: ([.fieldLink RX9 120 "FoulRightsModel" "permits" "I", .fieldLink RX9 31 "FoulRightsModel" "state" "[I", .fieldLink RX9 34 "FoulRightsModel" "holder" "[I"] ++ wsX90)
def wsX9_goes : List Cond := .code yX9_goes cX9_goes 6 none :: ([.fieldLink RX9 120 "FoulRightsModel" "permits" "I", .fieldLink RX9 31 "FoulRightsModel" "state" "[I", .fieldLink RX9 34 "FoulRightsModel" "holder" "[I", .fieldLink RX9 46 "FoulRightsModel" "went" "[I"] ++ wsX90)
def wsX9_ends : List Cond := .code yX9_ends cX9_ends 6 none :: ([.fieldLink RX9 120 "FoulRightsModel" "permits" "I", .fieldLink RX9 31 "FoulRightsModel" "state" "[I", .fieldLink RX9 34 "FoulRightsModel" "holder" "[I", .fieldLink RX9 40 "FoulRightsModel" "usedIn" "[I", .fieldLink RX9 113 "FoulRightsModel" "now" "I"] ++ wsX90)
def wsX9_bid : List Cond := .code yX9_bid cX9_bid 4 (some .int) :: ([.fieldLink RX9 134 "FoulRightsModel" "bids" "I", .fieldLink RX9 53 "FoulRightsModel" "bidWorks" "[I", .fieldLink RX9 56 "FoulRightsModel" "bidMany" "[I", .fieldLink RX9 59 "FoulRightsModel" "bidPrice" "[I", .methodLink RX9 109 yX9_isWorks, .instanceMethod yX9_isWorks, .selects RX9 yX9_isWorks yX9_isWorks, .initialized RX9, .code yX9_isWorks cX9_isWorks 2 (some .boolean), .fieldLink RX9 87 "FoulRightsModel" "works" "I", .methodLink RX9 90 yX9_in, .static yX9_in, .code yX9_in cX9_in 3 (some .boolean)] ++ wsX90)
def wsX9_auction_r1 : List Cond := [Cond.fieldLink RX9 113 "FoulRightsModel" "now" "I", Cond.fieldLink RX9 134 "FoulRightsModel" "bids" "I", Cond.fieldLink RX9 81 "FoulRightsModel" "got" "[I", Cond.fieldLink RX9 59 "FoulRightsModel" "bidPrice" "[I", Cond.fieldLink RX9 56 "FoulRightsModel" "bidMany" "[I", Cond.fieldLink RX9 53 "FoulRightsModel" "bidWorks" "[I", Cond.fieldLink RX9 9 "FoulRightsModel" "coins" "[I", Cond.fieldLink RX9 144 "FoulRightsModel" "brought" "I", Cond.methodLink RX9 137 yX9_holds, Cond.instanceMethod yX9_holds, Cond.selects RX9 yX9_holds yX9_holds, Cond.initialized RX9, Cond.code yX9_holds cX9_holds 4 (some .int), Cond.fieldLink RX9 120 "FoulRightsModel" "permits" "I", Cond.fieldLink RX9 31 "FoulRightsModel" "state" "[I", Cond.fieldLink RX9 34 "FoulRightsModel" "holder" "[I", Cond.methodLink RX9 105 yX9_partOf, Cond.instanceMethod yX9_partOf, Cond.selects RX9 yX9_partOf yX9_partOf, Cond.code yX9_partOf cX9_partOf 5 (some .int), Cond.fieldLink RX9 28 "FoulRightsModel" "ruleShare" "[I", Cond.methodLink RX9 98 yX9_ruleOf, Cond.instanceMethod yX9_ruleOf, Cond.selects RX9 yX9_ruleOf yX9_ruleOf]
def wsX9_auction_r2 : List Cond := [Cond.code yX9_ruleOf cX9_ruleOf 4 (some .int), Cond.fieldLink RX9 95 "FoulRightsModel" "rules" "I", Cond.fieldLink RX9 22 "FoulRightsModel" "ruleYear" "[I", Cond.methodLink RX9 140 yX9_goes, Cond.instanceMethod yX9_goes, Cond.selects RX9 yX9_goes yX9_goes, Cond.code yX9_goes cX9_goes 6 none, Cond.fieldLink RX9 46 "FoulRightsModel" "went" "[I"]
def wsX9_auction : List Cond := .code yX9_auction cX9_auction 6 (some .int) :: ((wsX9_auction_r1 ++ wsX9_auction_r2) ++ wsX90)
def wsX9_trade : List Cond := .code yX9_trade cX9_trade 5 (some .boolean) :: ([.constant RX9 94 (100000), .fieldLink RX9 9 "FoulRightsModel" "coins" "[I", .methodLink RX9 109 yX9_isWorks, .instanceMethod yX9_isWorks, .selects RX9 yX9_isWorks yX9_isWorks, .initialized RX9, .code yX9_isWorks cX9_isWorks 2 (some .boolean), .fieldLink RX9 87 "FoulRightsModel" "works" "I", .methodLink RX9 90 yX9_in, .static yX9_in, .code yX9_in cX9_in 3 (some .boolean), .methodLink RX9 137 yX9_holds, .instanceMethod yX9_holds, .selects RX9 yX9_holds yX9_holds, .code yX9_holds cX9_holds 4 (some .int), .fieldLink RX9 120 "FoulRightsModel" "permits" "I", .fieldLink RX9 31 "FoulRightsModel" "state" "[I", .fieldLink RX9 34 "FoulRightsModel" "holder" "[I", .methodLink RX9 140 yX9_goes, .instanceMethod yX9_goes, .selects RX9 yX9_goes yX9_goes, .code yX9_goes cX9_goes 6 none, .fieldLink RX9 46 "FoulRightsModel" "went" "[I"] ++ wsX90)
def wsX9_offset : List Cond := .code yX9_offset cX9_offset 4 (some .int) :: ([.fieldLink RX9 147 "FoulRightsModel" "projects" "I", .fieldLink RX9 120 "FoulRightsModel" "permits" "I", .fieldLink RX9 113 "FoulRightsModel" "now" "I", .methodLink RX9 109 yX9_isWorks, .instanceMethod yX9_isWorks, .selects RX9 yX9_isWorks yX9_isWorks, .initialized RX9, .code yX9_isWorks cX9_isWorks 2 (some .boolean), .fieldLink RX9 87 "FoulRightsModel" "works" "I", .methodLink RX9 90 yX9_in, .static yX9_in, .code yX9_in cX9_in 3 (some .boolean), .methodLink RX9 130 yX9_comes, .instanceMethod yX9_comes, .selects RX9 yX9_comes yX9_comes, .code yX9_comes cX9_comes 3 none, .fieldLink RX9 31 "FoulRightsModel" "state" "[I", .fieldLink RX9 34 "FoulRightsModel" "holder" "[I", .fieldLink RX9 37 "FoulRightsModel" "yearOf" "[I", .fieldLink RX9 40 "FoulRightsModel" "usedIn" "[I", .fieldLink RX9 43 "FoulRightsModel" "projectOf" "[I"] ++ wsX90)
def wsX9_falses : List Cond := .code yX9_falses cX9_falses 4 (some .int) :: ([.fieldLink RX9 147 "FoulRightsModel" "projects" "I", .fieldLink RX9 62 "FoulRightsModel" "isFalse" "[Z", .fieldLink RX9 120 "FoulRightsModel" "permits" "I", .fieldLink RX9 43 "FoulRightsModel" "projectOf" "[I", .fieldLink RX9 31 "FoulRightsModel" "state" "[I", .fieldLink RX9 13 "FoulRightsModel" "debt" "[I", .fieldLink RX9 34 "FoulRightsModel" "holder" "[I", .methodLink RX9 90 yX9_in, .static yX9_in, .initialized RX9, .code yX9_in cX9_in 3 (some .boolean)] ++ wsX90)
def wsX9_cancel : List Cond := .code yX9_cancel cX9_cancel 3 (some .boolean) :: ([.methodLink RX9 109 yX9_isWorks, .instanceMethod yX9_isWorks, .selects RX9 yX9_isWorks yX9_isWorks, .initialized RX9, .code yX9_isWorks cX9_isWorks 2 (some .boolean), .fieldLink RX9 87 "FoulRightsModel" "works" "I", .methodLink RX9 90 yX9_in, .static yX9_in, .code yX9_in cX9_in 3 (some .boolean), .methodLink RX9 137 yX9_holds, .instanceMethod yX9_holds, .selects RX9 yX9_holds yX9_holds, .code yX9_holds cX9_holds 4 (some .int), .fieldLink RX9 120 "FoulRightsModel" "permits" "I", .fieldLink RX9 31 "FoulRightsModel" "state" "[I", .fieldLink RX9 34 "FoulRightsModel" "holder" "[I", .methodLink RX9 150 yX9_ends, .instanceMethod yX9_ends, .selects RX9 yX9_ends yX9_ends, .code yX9_ends cX9_ends 6 none, .fieldLink RX9 40 "FoulRightsModel" "usedIn" "[I", .fieldLink RX9 113 "FoulRightsModel" "now" "I"] ++ wsX90)
def wsX9_end_r1 : List Cond := [Cond.fieldLink RX9 113 "FoulRightsModel" "now" "I", Cond.fieldLink RX9 87 "FoulRightsModel" "works" "I", Cond.fieldLink RX9 13 "FoulRightsModel" "debt" "[I", Cond.fieldLink RX9 9 "FoulRightsModel" "coins" "[I", Cond.fieldLink RX9 16 "FoulRightsModel" "fines" "[I", Cond.methodLink RX9 105 yX9_partOf, Cond.instanceMethod yX9_partOf, Cond.selects RX9 yX9_partOf yX9_partOf, Cond.initialized RX9, Cond.code yX9_partOf cX9_partOf 5 (some .int), Cond.fieldLink RX9 28 "FoulRightsModel" "ruleShare" "[I", Cond.methodLink RX9 98 yX9_ruleOf, Cond.instanceMethod yX9_ruleOf, Cond.selects RX9 yX9_ruleOf yX9_ruleOf, Cond.code yX9_ruleOf cX9_ruleOf 4 (some .int), Cond.fieldLink RX9 95 "FoulRightsModel" "rules" "I", Cond.fieldLink RX9 22 "FoulRightsModel" "ruleYear" "[I", Cond.methodLink RX9 123 yX9_fouled, Cond.instanceMethod yX9_fouled, Cond.selects RX9 yX9_fouled yX9_fouled, Cond.code yX9_fouled cX9_fouled 8 (some .int), Cond.fieldLink RX9 19 "FoulRightsModel" "reading" "[I", Cond.methodLink RX9 109 yX9_isWorks, Cond.instanceMethod yX9_isWorks]
def wsX9_end_r2 : List Cond := [Cond.selects RX9 yX9_isWorks yX9_isWorks, Cond.code yX9_isWorks cX9_isWorks 2 (some .boolean), Cond.methodLink RX9 90 yX9_in, Cond.static yX9_in, Cond.code yX9_in cX9_in 3 (some .boolean), Cond.methodLink RX9 116 yX9_greatest, Cond.instanceMethod yX9_greatest, Cond.selects RX9 yX9_greatest yX9_greatest, Cond.code yX9_greatest cX9_greatest 6 (some .int), Cond.methodLink RX9 137 yX9_holds, Cond.instanceMethod yX9_holds, Cond.selects RX9 yX9_holds yX9_holds, Cond.code yX9_holds cX9_holds 4 (some .int), Cond.fieldLink RX9 120 "FoulRightsModel" "permits" "I", Cond.fieldLink RX9 31 "FoulRightsModel" "state" "[I", Cond.fieldLink RX9 34 "FoulRightsModel" "holder" "[I", Cond.methodLink RX9 150 yX9_ends, Cond.instanceMethod yX9_ends, Cond.selects RX9 yX9_ends yX9_ends, Cond.code yX9_ends cX9_ends 6 none, Cond.fieldLink RX9 40 "FoulRightsModel" "usedIn" "[I"]
def wsX9_end : List Cond := .code yX9_end cX9_end 7 (some .int) :: ((wsX9_end_r1 ++ wsX9_end_r2) ++ wsX90)
def wsX9_permit : List Cond := .code yX9_permit cX9_permit 3 (some .int) :: ([.fieldLink RX9 120 "FoulRightsModel" "permits" "I", .constant RX9 153 (-2147483648), .fieldLink RX9 31 "FoulRightsModel" "state" "[I", .fieldLink RX9 34 "FoulRightsModel" "holder" "[I", .fieldLink RX9 37 "FoulRightsModel" "yearOf" "[I", .fieldLink RX9 40 "FoulRightsModel" "usedIn" "[I", .fieldLink RX9 43 "FoulRightsModel" "projectOf" "[I", .fieldLink RX9 46 "FoulRightsModel" "went" "[I", .methodLink RX9 90 yX9_in, .static yX9_in, .initialized RX9, .code yX9_in cX9_in 3 (some .boolean)] ++ wsX90)
def wsX9_countOf : List Cond := .code yX9_countOf cX9_countOf 5 (some .int) :: ([.fieldLink RX9 120 "FoulRightsModel" "permits" "I", .fieldLink RX9 31 "FoulRightsModel" "state" "[I", .constant RX9 153 (-2147483648), .fieldLink RX9 34 "FoulRightsModel" "holder" "[I"] ++ wsX90)
def wsX9_told : List Cond := .code yX9_told cX9_told 3 (some .int) :: ([.constant RX9 153 (-2147483648), .fieldLink RX9 9 "FoulRightsModel" "coins" "[I", .fieldLink RX9 13 "FoulRightsModel" "debt" "[I", .fieldLink RX9 16 "FoulRightsModel" "fines" "[I", .methodLink RX9 109 yX9_isWorks, .instanceMethod yX9_isWorks, .selects RX9 yX9_isWorks yX9_isWorks, .initialized RX9, .code yX9_isWorks cX9_isWorks 2 (some .boolean), .fieldLink RX9 87 "FoulRightsModel" "works" "I", .methodLink RX9 90 yX9_in, .static yX9_in, .code yX9_in cX9_in 3 (some .boolean), .methodLink RX9 137 yX9_holds, .instanceMethod yX9_holds, .selects RX9 yX9_holds yX9_holds, .code yX9_holds cX9_holds 4 (some .int), .fieldLink RX9 120 "FoulRightsModel" "permits" "I", .fieldLink RX9 31 "FoulRightsModel" "state" "[I", .fieldLink RX9 34 "FoulRightsModel" "holder" "[I", .methodLink RX9 154 yX9_countOf, .instanceMethod yX9_countOf, .selects RX9 yX9_countOf yX9_countOf, .code yX9_countOf cX9_countOf 5 (some .int)] ++ wsX90)
def wsX9_cut : List Cond := .code yX9_cut cX9_cut 4 (some .int) :: ([.fieldLink RX9 66 "FoulRightsModel" "cutMany" "[I", .fieldLink RX9 69 "FoulRightsModel" "tonnes" "[I", .fieldLink RX9 72 "FoulRightsModel" "costs" "[I", .methodLink RX9 109 yX9_isWorks, .instanceMethod yX9_isWorks, .selects RX9 yX9_isWorks yX9_isWorks, .initialized RX9, .code yX9_isWorks cX9_isWorks 2 (some .boolean), .fieldLink RX9 87 "FoulRightsModel" "works" "I", .methodLink RX9 90 yX9_in, .static yX9_in, .code yX9_in cX9_in 3 (some .boolean)] ++ wsX90)
def wsX9_cutsAll : List Cond := .code yX9_cutsAll cX9_cutsAll 6 (some .boolean) :: ([.fieldLink RX9 157 "FoulRightsModel" "sum" "I", .fieldLink RX9 160 "FoulRightsModel" "margin" "I", .fieldLink RX9 84 "FoulRightsModel" "cutsOf" "[I", .fieldLink RX9 66 "FoulRightsModel" "cutMany" "[I", .fieldLink RX9 72 "FoulRightsModel" "costs" "[I", .fieldLink RX9 69 "FoulRightsModel" "tonnes" "[I"] ++ wsX90)
def wsX9_least : List Cond := .code yX9_least cX9_least 2 (some .int) :: ([.fieldLink RX9 157 "FoulRightsModel" "sum" "I", .methodLink RX9 163 yX9_cutsAll, .instanceMethod yX9_cutsAll, .selects RX9 yX9_cutsAll yX9_cutsAll, .initialized RX9, .code yX9_cutsAll cX9_cutsAll 6 (some .boolean), .fieldLink RX9 160 "FoulRightsModel" "margin" "I", .fieldLink RX9 84 "FoulRightsModel" "cutsOf" "[I", .fieldLink RX9 66 "FoulRightsModel" "cutMany" "[I", .fieldLink RX9 72 "FoulRightsModel" "costs" "[I", .fieldLink RX9 69 "FoulRightsModel" "tonnes" "[I"] ++ wsX90)
def wsX9_margin : List Cond := .code yX9_margin cX9_margin 2 (some .int) :: ([.fieldLink RX9 160 "FoulRightsModel" "margin" "I", .methodLink RX9 163 yX9_cutsAll, .instanceMethod yX9_cutsAll, .selects RX9 yX9_cutsAll yX9_cutsAll, .initialized RX9, .code yX9_cutsAll cX9_cutsAll 6 (some .boolean), .fieldLink RX9 157 "FoulRightsModel" "sum" "I", .fieldLink RX9 84 "FoulRightsModel" "cutsOf" "[I", .fieldLink RX9 66 "FoulRightsModel" "cutMany" "[I", .fieldLink RX9 72 "FoulRightsModel" "costs" "[I", .fieldLink RX9 69 "FoulRightsModel" "tonnes" "[I"] ++ wsX90)
def wsX9_cuts : List Cond := .code yX9_cuts cX9_cuts 3 (some .int) :: ([.fieldLink RX9 84 "FoulRightsModel" "cutsOf" "[I", .methodLink RX9 109 yX9_isWorks, .instanceMethod yX9_isWorks, .selects RX9 yX9_isWorks yX9_isWorks, .initialized RX9, .code yX9_isWorks cX9_isWorks 2 (some .boolean), .fieldLink RX9 87 "FoulRightsModel" "works" "I", .methodLink RX9 90 yX9_in, .static yX9_in, .code yX9_in cX9_in 3 (some .boolean), .methodLink RX9 163 yX9_cutsAll, .instanceMethod yX9_cutsAll, .selects RX9 yX9_cutsAll yX9_cutsAll, .code yX9_cutsAll cX9_cutsAll 6 (some .boolean), .fieldLink RX9 157 "FoulRightsModel" "sum" "I", .fieldLink RX9 160 "FoulRightsModel" "margin" "I", .fieldLink RX9 66 "FoulRightsModel" "cutMany" "[I", .fieldLink RX9 72 "FoulRightsModel" "costs" "[I", .fieldLink RX9 69 "FoulRightsModel" "tonnes" "[I"] ++ wsX90)
def wsX9_count : List Cond := .code yX9_count cX9_count 4 (some .int) :: ([.fieldLink RX9 113 "FoulRightsModel" "now" "I", .fieldLink RX9 87 "FoulRightsModel" "works" "I", .fieldLink RX9 120 "FoulRightsModel" "permits" "I", .constant RX9 153 (-2147483648), .fieldLink RX9 134 "FoulRightsModel" "bids" "I", .fieldLink RX9 144 "FoulRightsModel" "brought" "I", .fieldLink RX9 16 "FoulRightsModel" "fines" "[I", .fieldLink RX9 147 "FoulRightsModel" "projects" "I", .methodLink RX9 154 yX9_countOf, .instanceMethod yX9_countOf, .selects RX9 yX9_countOf yX9_countOf, .initialized RX9, .code yX9_countOf cX9_countOf 5 (some .int), .fieldLink RX9 31 "FoulRightsModel" "state" "[I", .fieldLink RX9 34 "FoulRightsModel" "holder" "[I", .methodLink RX9 137 yX9_holds, .instanceMethod yX9_holds, .selects RX9 yX9_holds yX9_holds, .code yX9_holds cX9_holds 4 (some .int)] ++ wsX90)
def wsJ9_max_7cf53 : List Cond := .code yJ9_max_7cf53 cJ9_max_7cf53 2 (some .int) :: ([])
def wsJ9_min_7cf53 : List Cond := .code yJ9_min_7cf53 cJ9_min_7cf53 2 (some .int) :: ([])
abbrev vwCl : List vw_C := [(RX0, TX0, 3), (RX1, TX1, 5), (RX2, TX2, 6), (RX3, TX3, 5), (RX4, TX4, 1), (RX5, TX5, 12), (RX6, TX6, 1), (RX7, TX7, 7), (RX8, TX8, 13), (RX9, TX9, 34)]
end
section
set_option maxRecDepth 20000 in
theorem ggX0_init_X6_init : GoodIn wsX0_init wsX6_init := goodIn_r _ [12, 13, 2, 3, 14, 15, 16, 17, 18, 19, 20, 21, 22, 23, 24] (by decide +kernel) (by decide +kernel)
set_option maxRecDepth 20000 in
theorem gX0_init_X6_init : GoodIn wsX0_init (wsX6_init) := ggX0_init_X6_init
theorem dX0_init_0 : decode cX0_init 0 = .ok (.aload_n 0, 1) := by decide +kernel
theorem dX0_init_1 : decode cX0_init 1 = .ok (.invokespecial 3, 3) := by decide +kernel
theorem dX0_init_4 : decode cX0_init 4 = .ok (.aload_n 0, 1) := by decide +kernel
theorem dX0_init_5 : decode cX0_init 5 = .ok (.new 9, 3) := by decide +kernel
theorem dX0_init_8 : decode cX0_init 8 = .ok (.dup, 1) := by decide +kernel
theorem dX0_init_9 : decode cX0_init 9 = .ok (.bipush 10, 2) := by decide +kernel
theorem dX0_init_11 : decode cX0_init 11 = .ok (.iconst 0, 1) := by decide +kernel
theorem dX0_init_12 : decode cX0_init 12 = .ok (.invokespecial 11, 3) := by decide +kernel
theorem dX0_init_15 : decode cX0_init 15 = .ok (.putfield 14, 3) := by decide +kernel
theorem dX0_init_18 : decode cX0_init 18 = .ok (.aload_n 0, 1) := by decide +kernel
theorem dX0_init_19 : decode cX0_init 19 = .ok (.new 9, 3) := by decide +kernel
theorem dX0_init_22 : decode cX0_init 22 = .ok (.dup, 1) := by decide +kernel
theorem dX0_init_23 : decode cX0_init 23 = .ok (.bipush 10, 2) := by decide +kernel
theorem dX0_init_25 : decode cX0_init 25 = .ok (.iconst 0, 1) := by decide +kernel
theorem dX0_init_26 : decode cX0_init 26 = .ok (.invokespecial 11, 3) := by decide +kernel
theorem dX0_init_29 : decode cX0_init 29 = .ok (.putfield 20, 3) := by decide +kernel
theorem dX0_init_32 : decode cX0_init 32 = .ok (.aload_n 0, 1) := by decide +kernel
theorem dX0_init_33 : decode cX0_init 33 = .ok (.new 9, 3) := by decide +kernel
theorem dX0_init_36 : decode cX0_init 36 = .ok (.dup, 1) := by decide +kernel
theorem dX0_init_37 : decode cX0_init 37 = .ok (.bipush 10, 2) := by decide +kernel
theorem dX0_init_39 : decode cX0_init 39 = .ok (.iconst 0, 1) := by decide +kernel
theorem dX0_init_40 : decode cX0_init 40 = .ok (.invokespecial 11, 3) := by decide +kernel
theorem dX0_init_43 : decode cX0_init 43 = .ok (.putfield 23, 3) := by decide +kernel
theorem dX0_init_46 : decode cX0_init 46 = .ok (.return_, 1) := by decide +kernel
set_option maxRecDepth 20000 in
theorem ggX0_partOf_X6_at : GoodIn wsX0_partOf wsX6_at := goodIn_r _ [6, 7, 11] (by decide +kernel) (by decide +kernel)
set_option maxRecDepth 20000 in
theorem gX0_partOf_X6_at : GoodIn wsX0_partOf (wsV RX0 26 RX6 yX6_at wsX6_at) := goodIn_app (goodIn_of _ (by decide +kernel)) ggX0_partOf_X6_at
theorem dX0_partOf_0 : decode cX0_partOf 0 = .ok (.aload_n 0, 1) := by decide +kernel
theorem dX0_partOf_1 : decode cX0_partOf 1 = .ok (.getfield 20, 3) := by decide +kernel
theorem dX0_partOf_4 : decode cX0_partOf 4 = .ok (.iload_n 1, 1) := by decide +kernel
theorem dX0_partOf_5 : decode cX0_partOf 5 = .ok (.invokevirtual 26, 3) := by decide +kernel
theorem dX0_partOf_8 : decode cX0_partOf 8 = .ok (.ireturn, 1) := by decide +kernel
set_option maxRecDepth 20000 in
theorem ggX0_share_X0_look : GoodIn wsX0_share wsX0_look := goodIn_r _ [8, 1, 9, 10, 11, 12, 13, 14, 15, 16, 17, 18, 19, 20, 21, 22, 23, 24, 25, 26, 27, 28, 29, 30, 31, 32, 33, 34, 35, 36, 37, 38, 39, 40, 55, 56, 57, 58, 59] (by decide +kernel) (by decide +kernel)
set_option maxRecDepth 20000 in
theorem gX0_share_X0_look : GoodIn wsX0_share (wsV RX0 30 RX0 yX0_look wsX0_look) := goodIn_app (goodIn_of _ (by decide +kernel)) ggX0_share_X0_look
set_option maxRecDepth 20000 in
theorem ggX0_share_X6_at : GoodIn wsX0_share wsX6_at := goodIn_r _ [34, 35, 59] (by decide +kernel) (by decide +kernel)
set_option maxRecDepth 20000 in
theorem gX0_share_X6_at : GoodIn wsX0_share (wsV RX0 26 RX6 yX6_at wsX6_at) := goodIn_app (goodIn_of _ (by decide +kernel)) ggX0_share_X6_at
set_option maxRecDepth 20000 in
theorem ggX0_share_X6_put : GoodIn wsX0_share wsX6_put := goodIn_r _ [39, 35, 59] (by decide +kernel) (by decide +kernel)
set_option maxRecDepth 20000 in
theorem gX0_share_X6_put : GoodIn wsX0_share (wsV RX0 34 RX6 yX6_put wsX6_put) := goodIn_app (goodIn_of _ (by decide +kernel)) ggX0_share_X6_put
set_option maxRecDepth 20000 in
theorem ggX0_share_X0_giveRest : GoodIn wsX0_share wsX0_giveRest := goodIn_r _ [44, 2, 3, 45, 46, 47, 7, 48, 40, 31, 32, 33, 34, 35, 49, 50, 51, 52, 53, 54, 37, 38, 39, 36, 55, 56, 57, 59] (by decide +kernel) (by decide +kernel)
set_option maxRecDepth 20000 in
theorem gX0_share_X0_giveRest : GoodIn wsX0_share (wsV RX0 37 RX0 yX0_giveRest wsX0_giveRest) := goodIn_app (goodIn_of _ (by decide +kernel)) ggX0_share_X0_giveRest
theorem dX0_share_0 : decode cX0_share 0 = .ok (.iload 4, 2) := by decide +kernel
theorem dX0_share_2 : decode cX0_share 2 = .ok (.ifCond .ne 7, 3) := by decide +kernel
theorem dX0_share_5 : decode cX0_share 5 = .ok (.iconst 0, 1) := by decide +kernel
theorem dX0_share_6 : decode cX0_share 6 = .ok (.goto 13, 3) := by decide +kernel
theorem dX0_share_9 : decode cX0_share 9 = .ok (.aload_n 0, 1) := by decide +kernel
theorem dX0_share_10 : decode cX0_share 10 = .ok (.aload_n 2, 1) := by decide +kernel
theorem dX0_share_11 : decode cX0_share 11 = .ok (.iload_n 3, 1) := by decide +kernel
theorem dX0_share_12 : decode cX0_share 12 = .ok (.iload 4, 2) := by decide +kernel
theorem dX0_share_14 : decode cX0_share 14 = .ok (.iconst 1, 1) := by decide +kernel
theorem dX0_share_15 : decode cX0_share 15 = .ok (.isub, 1) := by decide +kernel
theorem dX0_share_16 : decode cX0_share 16 = .ok (.invokevirtual 30, 3) := by decide +kernel
theorem dX0_share_19 : decode cX0_share 19 = .ok (.istore 5, 2) := by decide +kernel
theorem dX0_share_21 : decode cX0_share 21 = .ok (.iconst 0, 1) := by decide +kernel
theorem dX0_share_22 : decode cX0_share 22 = .ok (.istore 6, 2) := by decide +kernel
theorem dX0_share_24 : decode cX0_share 24 = .ok (.iconst 0, 1) := by decide +kernel
theorem dX0_share_25 : decode cX0_share 25 = .ok (.istore 7, 2) := by decide +kernel
theorem dX0_share_27 : decode cX0_share 27 = .ok (.iload 7, 2) := by decide +kernel
theorem dX0_share_29 : decode cX0_share 29 = .ok (.iload_n 3, 1) := by decide +kernel
theorem dX0_share_30 : decode cX0_share 30 = .ok (.if_icmp .ge 82, 3) := by decide +kernel
theorem dX0_share_33 : decode cX0_share 33 = .ok (.iload_n 1, 1) := by decide +kernel
theorem dX0_share_34 : decode cX0_share 34 = .ok (.aload_n 0, 1) := by decide +kernel
theorem dX0_share_35 : decode cX0_share 35 = .ok (.getfield 14, 3) := by decide +kernel
theorem dX0_share_38 : decode cX0_share 38 = .ok (.iload 7, 2) := by decide +kernel
theorem dX0_share_40 : decode cX0_share 40 = .ok (.invokevirtual 26, 3) := by decide +kernel
theorem dX0_share_43 : decode cX0_share 43 = .ok (.imul, 1) := by decide +kernel
theorem dX0_share_44 : decode cX0_share 44 = .ok (.istore 8, 2) := by decide +kernel
theorem dX0_share_46 : decode cX0_share 46 = .ok (.aload_n 0, 1) := by decide +kernel
theorem dX0_share_47 : decode cX0_share 47 = .ok (.getfield 20, 3) := by decide +kernel
theorem dX0_share_50 : decode cX0_share 50 = .ok (.iload 7, 2) := by decide +kernel
theorem dX0_share_52 : decode cX0_share 52 = .ok (.iload 5, 2) := by decide +kernel
theorem dX0_share_54 : decode cX0_share 54 = .ok (.ifCond .le 11, 3) := by decide +kernel
theorem dX0_share_57 : decode cX0_share 57 = .ok (.iload 8, 2) := by decide +kernel
theorem dX0_share_59 : decode cX0_share 59 = .ok (.iload 5, 2) := by decide +kernel
theorem dX0_share_61 : decode cX0_share 61 = .ok (.idiv, 1) := by decide +kernel
theorem dX0_share_62 : decode cX0_share 62 = .ok (.goto 4, 3) := by decide +kernel
theorem dX0_share_65 : decode cX0_share 65 = .ok (.iconst 0, 1) := by decide +kernel
theorem dX0_share_66 : decode cX0_share 66 = .ok (.invokevirtual 34, 3) := by decide +kernel
theorem dX0_share_69 : decode cX0_share 69 = .ok (.aload_n 0, 1) := by decide +kernel
theorem dX0_share_70 : decode cX0_share 70 = .ok (.getfield 23, 3) := by decide +kernel
theorem dX0_share_73 : decode cX0_share 73 = .ok (.iload 7, 2) := by decide +kernel
theorem dX0_share_75 : decode cX0_share 75 = .ok (.iload 5, 2) := by decide +kernel
theorem dX0_share_77 : decode cX0_share 77 = .ok (.ifCond .le 11, 3) := by decide +kernel
theorem dX0_share_80 : decode cX0_share 80 = .ok (.iload 8, 2) := by decide +kernel
theorem dX0_share_82 : decode cX0_share 82 = .ok (.iload 5, 2) := by decide +kernel
theorem dX0_share_84 : decode cX0_share 84 = .ok (.irem, 1) := by decide +kernel
theorem dX0_share_85 : decode cX0_share 85 = .ok (.goto 4, 3) := by decide +kernel
theorem dX0_share_88 : decode cX0_share 88 = .ok (.iconst 0, 1) := by decide +kernel
theorem dX0_share_89 : decode cX0_share 89 = .ok (.invokevirtual 34, 3) := by decide +kernel
theorem dX0_share_92 : decode cX0_share 92 = .ok (.iload 6, 2) := by decide +kernel
theorem dX0_share_94 : decode cX0_share 94 = .ok (.aload_n 0, 1) := by decide +kernel
theorem dX0_share_95 : decode cX0_share 95 = .ok (.getfield 20, 3) := by decide +kernel
theorem dX0_share_98 : decode cX0_share 98 = .ok (.iload 7, 2) := by decide +kernel
theorem dX0_share_100 : decode cX0_share 100 = .ok (.invokevirtual 26, 3) := by decide +kernel
theorem dX0_share_103 : decode cX0_share 103 = .ok (.iadd, 1) := by decide +kernel
theorem dX0_share_104 : decode cX0_share 104 = .ok (.istore 6, 2) := by decide +kernel
theorem dX0_share_106 : decode cX0_share 106 = .ok (.iinc 7 1, 3) := by decide +kernel
theorem dX0_share_109 : decode cX0_share 109 = .ok (.goto (-82), 3) := by decide +kernel
theorem dX0_share_112 : decode cX0_share 112 = .ok (.iload 5, 2) := by decide +kernel
theorem dX0_share_114 : decode cX0_share 114 = .ok (.ifCond .le 14, 3) := by decide +kernel
theorem dX0_share_117 : decode cX0_share 117 = .ok (.aload_n 0, 1) := by decide +kernel
theorem dX0_share_118 : decode cX0_share 118 = .ok (.iload_n 1, 1) := by decide +kernel
theorem dX0_share_119 : decode cX0_share 119 = .ok (.iload 6, 2) := by decide +kernel
theorem dX0_share_121 : decode cX0_share 121 = .ok (.iload_n 3, 1) := by decide +kernel
theorem dX0_share_122 : decode cX0_share 122 = .ok (.invokevirtual 37, 3) := by decide +kernel
theorem dX0_share_125 : decode cX0_share 125 = .ok (.goto 4, 3) := by decide +kernel
theorem dX0_share_128 : decode cX0_share 128 = .ok (.iconst 0, 1) := by decide +kernel
theorem dX0_share_129 : decode cX0_share 129 = .ok (.ireturn, 1) := by decide +kernel
set_option maxRecDepth 20000 in
theorem ggX0_look_X4_fouledIn : GoodIn wsX0_look wsX4_fouledIn := goodIn_r _ [6, 7, 8, 9, 10, 5, 11, 12, 13, 14, 15, 16, 17, 18, 19, 20, 21, 22, 23, 24, 25, 26, 27, 28, 37, 38] (by decide +kernel) (by decide +kernel)
set_option maxRecDepth 20000 in
theorem gX0_look_X4_fouledIn : GoodIn wsX0_look (wsV RX0 41 RX4 yX4_fouledIn wsX4_fouledIn) := goodIn_app (goodIn_of _ (by decide +kernel)) ggX0_look_X4_fouledIn
set_option maxRecDepth 20000 in
theorem ggX0_look_X6_put : GoodIn wsX0_look wsX6_put := goodIn_r _ [32, 28, 38] (by decide +kernel) (by decide +kernel)
set_option maxRecDepth 20000 in
theorem gX0_look_X6_put : GoodIn wsX0_look (wsV RX0 34 RX6 yX6_put wsX6_put) := goodIn_app (goodIn_of _ (by decide +kernel)) ggX0_look_X6_put
set_option maxRecDepth 20000 in
theorem ggX0_look_X6_at : GoodIn wsX0_look wsX6_at := goodIn_r _ [27, 28, 38] (by decide +kernel) (by decide +kernel)
set_option maxRecDepth 20000 in
theorem gX0_look_X6_at : GoodIn wsX0_look (wsV RX0 26 RX6 yX6_at wsX6_at) := goodIn_app (goodIn_of _ (by decide +kernel)) ggX0_look_X6_at
theorem dX0_look_0 : decode cX0_look 0 = .ok (.iconst 0, 1) := by decide +kernel
theorem dX0_look_1 : decode cX0_look 1 = .ok (.istore 4, 2) := by decide +kernel
theorem dX0_look_3 : decode cX0_look 3 = .ok (.iconst 0, 1) := by decide +kernel
theorem dX0_look_4 : decode cX0_look 4 = .ok (.istore 5, 2) := by decide +kernel
theorem dX0_look_6 : decode cX0_look 6 = .ok (.iload 5, 2) := by decide +kernel
theorem dX0_look_8 : decode cX0_look 8 = .ok (.iload_n 2, 1) := by decide +kernel
theorem dX0_look_9 : decode cX0_look 9 = .ok (.if_icmp .ge 39, 3) := by decide +kernel
theorem dX0_look_12 : decode cX0_look 12 = .ok (.aload_n 0, 1) := by decide +kernel
theorem dX0_look_13 : decode cX0_look 13 = .ok (.getfield 14, 3) := by decide +kernel
theorem dX0_look_16 : decode cX0_look 16 = .ok (.iload 5, 2) := by decide +kernel
theorem dX0_look_18 : decode cX0_look 18 = .ok (.aload_n 1, 1) := by decide +kernel
theorem dX0_look_19 : decode cX0_look 19 = .ok (.iload 5, 2) := by decide +kernel
theorem dX0_look_21 : decode cX0_look 21 = .ok (.iload_n 3, 1) := by decide +kernel
theorem dX0_look_22 : decode cX0_look 22 = .ok (.invokevirtual 41, 3) := by decide +kernel
theorem dX0_look_25 : decode cX0_look 25 = .ok (.invokevirtual 34, 3) := by decide +kernel
theorem dX0_look_28 : decode cX0_look 28 = .ok (.iload 4, 2) := by decide +kernel
theorem dX0_look_30 : decode cX0_look 30 = .ok (.aload_n 0, 1) := by decide +kernel
theorem dX0_look_31 : decode cX0_look 31 = .ok (.getfield 14, 3) := by decide +kernel
theorem dX0_look_34 : decode cX0_look 34 = .ok (.iload 5, 2) := by decide +kernel
theorem dX0_look_36 : decode cX0_look 36 = .ok (.invokevirtual 26, 3) := by decide +kernel
theorem dX0_look_39 : decode cX0_look 39 = .ok (.iadd, 1) := by decide +kernel
theorem dX0_look_40 : decode cX0_look 40 = .ok (.istore 4, 2) := by decide +kernel
theorem dX0_look_42 : decode cX0_look 42 = .ok (.iinc 5 1, 3) := by decide +kernel
theorem dX0_look_45 : decode cX0_look 45 = .ok (.goto (-39), 3) := by decide +kernel
theorem dX0_look_48 : decode cX0_look 48 = .ok (.iload 4, 2) := by decide +kernel
theorem dX0_look_50 : decode cX0_look 50 = .ok (.ireturn, 1) := by decide +kernel
set_option maxRecDepth 20000 in
theorem ggX0_giveRest_X0_mostCutOff : GoodIn wsX0_giveRest wsX0_mostCutOff := goodIn_r _ [7, 2, 8, 9, 10, 11, 12, 13, 24, 25, 26, 27] (by decide +kernel) (by decide +kernel)
set_option maxRecDepth 20000 in
theorem gX0_giveRest_X0_mostCutOff : GoodIn wsX0_giveRest (wsV RX0 47 RX0 yX0_mostCutOff wsX0_mostCutOff) := goodIn_app (goodIn_of _ (by decide +kernel)) ggX0_giveRest_X0_mostCutOff
set_option maxRecDepth 20000 in
theorem ggX0_giveRest_X6_add : GoodIn wsX0_giveRest wsX6_add := goodIn_r _ [17, 18, 9, 10, 11, 12, 13, 19, 20, 21, 22, 27] (by decide +kernel) (by decide +kernel)
set_option maxRecDepth 20000 in
theorem gX0_giveRest_X6_add : GoodIn wsX0_giveRest (wsV RX0 50 RX6 yX6_add wsX6_add) := goodIn_app (goodIn_of _ (by decide +kernel)) ggX0_giveRest_X6_add
set_option maxRecDepth 20000 in
theorem ggX0_giveRest_X6_put : GoodIn wsX0_giveRest wsX6_put := goodIn_r _ [22, 13, 27] (by decide +kernel) (by decide +kernel)
set_option maxRecDepth 20000 in
theorem gX0_giveRest_X6_put : GoodIn wsX0_giveRest (wsV RX0 34 RX6 yX6_put wsX6_put) := goodIn_app (goodIn_of _ (by decide +kernel)) ggX0_giveRest_X6_put
theorem dX0_giveRest_0 : decode cX0_giveRest 0 = .ok (.iload_n 2, 1) := by decide +kernel
theorem dX0_giveRest_1 : decode cX0_giveRest 1 = .ok (.istore 4, 2) := by decide +kernel
theorem dX0_giveRest_3 : decode cX0_giveRest 3 = .ok (.iconst 0, 1) := by decide +kernel
theorem dX0_giveRest_4 : decode cX0_giveRest 4 = .ok (.istore 5, 2) := by decide +kernel
theorem dX0_giveRest_6 : decode cX0_giveRest 6 = .ok (.iload 5, 2) := by decide +kernel
theorem dX0_giveRest_8 : decode cX0_giveRest 8 = .ok (.iload_n 3, 1) := by decide +kernel
theorem dX0_giveRest_9 : decode cX0_giveRest 9 = .ok (.if_icmp .ge 45, 3) := by decide +kernel
theorem dX0_giveRest_12 : decode cX0_giveRest 12 = .ok (.iload 4, 2) := by decide +kernel
theorem dX0_giveRest_14 : decode cX0_giveRest 14 = .ok (.iload_n 1, 1) := by decide +kernel
theorem dX0_giveRest_15 : decode cX0_giveRest 15 = .ok (.if_icmp .ge 39, 3) := by decide +kernel
theorem dX0_giveRest_18 : decode cX0_giveRest 18 = .ok (.aload_n 0, 1) := by decide +kernel
theorem dX0_giveRest_19 : decode cX0_giveRest 19 = .ok (.iload_n 3, 1) := by decide +kernel
theorem dX0_giveRest_20 : decode cX0_giveRest 20 = .ok (.invokevirtual 47, 3) := by decide +kernel
theorem dX0_giveRest_23 : decode cX0_giveRest 23 = .ok (.istore 6, 2) := by decide +kernel
theorem dX0_giveRest_25 : decode cX0_giveRest 25 = .ok (.aload_n 0, 1) := by decide +kernel
theorem dX0_giveRest_26 : decode cX0_giveRest 26 = .ok (.getfield 20, 3) := by decide +kernel
theorem dX0_giveRest_29 : decode cX0_giveRest 29 = .ok (.iload 6, 2) := by decide +kernel
theorem dX0_giveRest_31 : decode cX0_giveRest 31 = .ok (.iconst 1, 1) := by decide +kernel
theorem dX0_giveRest_32 : decode cX0_giveRest 32 = .ok (.invokevirtual 50, 3) := by decide +kernel
theorem dX0_giveRest_35 : decode cX0_giveRest 35 = .ok (.aload_n 0, 1) := by decide +kernel
theorem dX0_giveRest_36 : decode cX0_giveRest 36 = .ok (.getfield 23, 3) := by decide +kernel
theorem dX0_giveRest_39 : decode cX0_giveRest 39 = .ok (.iload 6, 2) := by decide +kernel
theorem dX0_giveRest_41 : decode cX0_giveRest 41 = .ok (.iconst (-1), 1) := by decide +kernel
theorem dX0_giveRest_42 : decode cX0_giveRest 42 = .ok (.invokevirtual 34, 3) := by decide +kernel
theorem dX0_giveRest_45 : decode cX0_giveRest 45 = .ok (.iinc 4 1, 3) := by decide +kernel
theorem dX0_giveRest_48 : decode cX0_giveRest 48 = .ok (.iinc 5 1, 3) := by decide +kernel
theorem dX0_giveRest_51 : decode cX0_giveRest 51 = .ok (.goto (-45), 3) := by decide +kernel
theorem dX0_giveRest_54 : decode cX0_giveRest 54 = .ok (.iload 4, 2) := by decide +kernel
theorem dX0_giveRest_56 : decode cX0_giveRest 56 = .ok (.ireturn, 1) := by decide +kernel
set_option maxRecDepth 20000 in
theorem ggX0_mostCutOff_X6_at : GoodIn wsX0_mostCutOff wsX6_at := goodIn_r _ [6, 7, 11] (by decide +kernel) (by decide +kernel)
set_option maxRecDepth 20000 in
theorem gX0_mostCutOff_X6_at : GoodIn wsX0_mostCutOff (wsV RX0 26 RX6 yX6_at wsX6_at) := goodIn_app (goodIn_of _ (by decide +kernel)) ggX0_mostCutOff_X6_at
theorem dX0_mostCutOff_0 : decode cX0_mostCutOff 0 = .ok (.iconst 0, 1) := by decide +kernel
theorem dX0_mostCutOff_1 : decode cX0_mostCutOff 1 = .ok (.istore_n 2, 1) := by decide +kernel
theorem dX0_mostCutOff_2 : decode cX0_mostCutOff 2 = .ok (.iconst 1, 1) := by decide +kernel
theorem dX0_mostCutOff_3 : decode cX0_mostCutOff 3 = .ok (.istore_n 3, 1) := by decide +kernel
theorem dX0_mostCutOff_4 : decode cX0_mostCutOff 4 = .ok (.iload_n 3, 1) := by decide +kernel
theorem dX0_mostCutOff_5 : decode cX0_mostCutOff 5 = .ok (.iload_n 1, 1) := by decide +kernel
theorem dX0_mostCutOff_6 : decode cX0_mostCutOff 6 = .ok (.if_icmp .ge 30, 3) := by decide +kernel
theorem dX0_mostCutOff_9 : decode cX0_mostCutOff 9 = .ok (.aload_n 0, 1) := by decide +kernel
theorem dX0_mostCutOff_10 : decode cX0_mostCutOff 10 = .ok (.getfield 23, 3) := by decide +kernel
theorem dX0_mostCutOff_13 : decode cX0_mostCutOff 13 = .ok (.iload_n 3, 1) := by decide +kernel
theorem dX0_mostCutOff_14 : decode cX0_mostCutOff 14 = .ok (.invokevirtual 26, 3) := by decide +kernel
theorem dX0_mostCutOff_17 : decode cX0_mostCutOff 17 = .ok (.aload_n 0, 1) := by decide +kernel
theorem dX0_mostCutOff_18 : decode cX0_mostCutOff 18 = .ok (.getfield 23, 3) := by decide +kernel
theorem dX0_mostCutOff_21 : decode cX0_mostCutOff 21 = .ok (.iload_n 2, 1) := by decide +kernel
theorem dX0_mostCutOff_22 : decode cX0_mostCutOff 22 = .ok (.invokevirtual 26, 3) := by decide +kernel
theorem dX0_mostCutOff_25 : decode cX0_mostCutOff 25 = .ok (.if_icmp .le 5, 3) := by decide +kernel
theorem dX0_mostCutOff_28 : decode cX0_mostCutOff 28 = .ok (.iload_n 3, 1) := by decide +kernel
theorem dX0_mostCutOff_29 : decode cX0_mostCutOff 29 = .ok (.istore_n 2, 1) := by decide +kernel
theorem dX0_mostCutOff_30 : decode cX0_mostCutOff 30 = .ok (.iinc 3 1, 3) := by decide +kernel
theorem dX0_mostCutOff_33 : decode cX0_mostCutOff 33 = .ok (.goto (-29), 3) := by decide +kernel
theorem dX0_mostCutOff_36 : decode cX0_mostCutOff 36 = .ok (.iload_n 2, 1) := by decide +kernel
theorem dX0_mostCutOff_37 : decode cX0_mostCutOff 37 = .ok (.ireturn, 1) := by decide +kernel
set_option maxRecDepth 20000 in
theorem ggX1_init_X6_init : GoodIn wsX1_init wsX6_init := goodIn_r _ [13, 14, 2, 3, 15, 16, 17, 18, 19, 20, 21, 22, 23, 24, 25] (by decide +kernel) (by decide +kernel)
set_option maxRecDepth 20000 in
theorem gX1_init_X6_init : GoodIn wsX1_init (wsX6_init) := ggX1_init_X6_init
theorem dX1_init_0 : decode cX1_init 0 = .ok (.aload_n 0, 1) := by decide +kernel
theorem dX1_init_1 : decode cX1_init 1 = .ok (.invokespecial 3, 3) := by decide +kernel
theorem dX1_init_4 : decode cX1_init 4 = .ok (.aload_n 0, 1) := by decide +kernel
theorem dX1_init_5 : decode cX1_init 5 = .ok (.new 9, 3) := by decide +kernel
theorem dX1_init_8 : decode cX1_init 8 = .ok (.dup, 1) := by decide +kernel
theorem dX1_init_9 : decode cX1_init 9 = .ok (.bipush 40, 2) := by decide +kernel
theorem dX1_init_11 : decode cX1_init 11 = .ok (.iconst 0, 1) := by decide +kernel
theorem dX1_init_12 : decode cX1_init 12 = .ok (.invokespecial 11, 3) := by decide +kernel
theorem dX1_init_15 : decode cX1_init 15 = .ok (.putfield 14, 3) := by decide +kernel
theorem dX1_init_18 : decode cX1_init 18 = .ok (.aload_n 0, 1) := by decide +kernel
theorem dX1_init_19 : decode cX1_init 19 = .ok (.new 9, 3) := by decide +kernel
theorem dX1_init_22 : decode cX1_init 22 = .ok (.dup, 1) := by decide +kernel
theorem dX1_init_23 : decode cX1_init 23 = .ok (.bipush 40, 2) := by decide +kernel
theorem dX1_init_25 : decode cX1_init 25 = .ok (.iconst 0, 1) := by decide +kernel
theorem dX1_init_26 : decode cX1_init 26 = .ok (.invokespecial 11, 3) := by decide +kernel
theorem dX1_init_29 : decode cX1_init 29 = .ok (.putfield 20, 3) := by decide +kernel
theorem dX1_init_32 : decode cX1_init 32 = .ok (.aload_n 0, 1) := by decide +kernel
theorem dX1_init_33 : decode cX1_init 33 = .ok (.new 9, 3) := by decide +kernel
theorem dX1_init_36 : decode cX1_init 36 = .ok (.dup, 1) := by decide +kernel
theorem dX1_init_37 : decode cX1_init 37 = .ok (.bipush 40, 2) := by decide +kernel
theorem dX1_init_39 : decode cX1_init 39 = .ok (.iconst 0, 1) := by decide +kernel
theorem dX1_init_40 : decode cX1_init 40 = .ok (.invokespecial 11, 3) := by decide +kernel
theorem dX1_init_43 : decode cX1_init 43 = .ok (.putfield 23, 3) := by decide +kernel
theorem dX1_init_46 : decode cX1_init 46 = .ok (.aload_n 0, 1) := by decide +kernel
theorem dX1_init_47 : decode cX1_init 47 = .ok (.new 9, 3) := by decide +kernel
theorem dX1_init_50 : decode cX1_init 50 = .ok (.dup, 1) := by decide +kernel
theorem dX1_init_51 : decode cX1_init 51 = .ok (.bipush 40, 2) := by decide +kernel
theorem dX1_init_53 : decode cX1_init 53 = .ok (.iconst 0, 1) := by decide +kernel
theorem dX1_init_54 : decode cX1_init 54 = .ok (.invokespecial 11, 3) := by decide +kernel
theorem dX1_init_57 : decode cX1_init 57 = .ok (.putfield 26, 3) := by decide +kernel
theorem dX1_init_60 : decode cX1_init 60 = .ok (.return_, 1) := by decide +kernel
theorem dX1_areFull_0 : decode cX1_areFull 0 = .ok (.aload_n 0, 1) := by decide +kernel
theorem dX1_areFull_1 : decode cX1_areFull 1 = .ok (.getfield 29, 3) := by decide +kernel
theorem dX1_areFull_4 : decode cX1_areFull 4 = .ok (.bipush 40, 2) := by decide +kernel
theorem dX1_areFull_6 : decode cX1_areFull 6 = .ok (.if_icmp .lt 7, 3) := by decide +kernel
theorem dX1_areFull_9 : decode cX1_areFull 9 = .ok (.iconst 1, 1) := by decide +kernel
theorem dX1_areFull_10 : decode cX1_areFull 10 = .ok (.goto 4, 3) := by decide +kernel
theorem dX1_areFull_13 : decode cX1_areFull 13 = .ok (.iconst 0, 1) := by decide +kernel
theorem dX1_areFull_14 : decode cX1_areFull 14 = .ok (.ireturn, 1) := by decide +kernel
set_option maxRecDepth 20000 in
theorem ggX1_enter_X6_at : GoodIn wsX1_enter wsX6_at := goodIn_r _ [10, 11, 27] (by decide +kernel) (by decide +kernel)
set_option maxRecDepth 20000 in
theorem gX1_enter_X6_at : GoodIn wsX1_enter (wsV RX1 33 RX6 yX6_at wsX6_at) := goodIn_app (goodIn_of _ (by decide +kernel)) ggX1_enter_X6_at
set_option maxRecDepth 20000 in
theorem ggX1_enter_X6_squeeze : GoodIn wsX1_enter wsX6_squeeze := goodIn_r _ [15, 16, 7, 8, 9, 10, 11, 17, 18, 19, 20, 27] (by decide +kernel) (by decide +kernel)
set_option maxRecDepth 20000 in
theorem gX1_enter_X6_squeeze : GoodIn wsX1_enter (wsV RX1 37 RX6 yX6_squeeze wsX6_squeeze) := goodIn_app (goodIn_of _ (by decide +kernel)) ggX1_enter_X6_squeeze
set_option maxRecDepth 20000 in
theorem ggX1_enter_X6_put : GoodIn wsX1_enter wsX6_put := goodIn_r _ [20, 11, 27] (by decide +kernel) (by decide +kernel)
set_option maxRecDepth 20000 in
theorem gX1_enter_X6_put : GoodIn wsX1_enter (wsV RX1 41 RX6 yX6_put wsX6_put) := goodIn_app (goodIn_of _ (by decide +kernel)) ggX1_enter_X6_put
theorem dX1_enter_0 : decode cX1_enter 0 = .ok (.aload_n 0, 1) := by decide +kernel
theorem dX1_enter_1 : decode cX1_enter 1 = .ok (.getfield 29, 3) := by decide +kernel
theorem dX1_enter_4 : decode cX1_enter 4 = .ok (.istore 4, 2) := by decide +kernel
theorem dX1_enter_6 : decode cX1_enter 6 = .ok (.iload 4, 2) := by decide +kernel
theorem dX1_enter_8 : decode cX1_enter 8 = .ok (.ifCond .le 24, 3) := by decide +kernel
theorem dX1_enter_11 : decode cX1_enter 11 = .ok (.aload_n 0, 1) := by decide +kernel
theorem dX1_enter_12 : decode cX1_enter 12 = .ok (.getfield 23, 3) := by decide +kernel
theorem dX1_enter_15 : decode cX1_enter 15 = .ok (.iload 4, 2) := by decide +kernel
theorem dX1_enter_17 : decode cX1_enter 17 = .ok (.iconst 1, 1) := by decide +kernel
theorem dX1_enter_18 : decode cX1_enter 18 = .ok (.isub, 1) := by decide +kernel
theorem dX1_enter_19 : decode cX1_enter 19 = .ok (.invokevirtual 33, 3) := by decide +kernel
theorem dX1_enter_22 : decode cX1_enter 22 = .ok (.iload_n 3, 1) := by decide +kernel
theorem dX1_enter_23 : decode cX1_enter 23 = .ok (.if_icmp .ge 9, 3) := by decide +kernel
theorem dX1_enter_26 : decode cX1_enter 26 = .ok (.iinc 4 (-1), 3) := by decide +kernel
theorem dX1_enter_29 : decode cX1_enter 29 = .ok (.goto (-23), 3) := by decide +kernel
theorem dX1_enter_32 : decode cX1_enter 32 = .ok (.aload_n 0, 1) := by decide +kernel
theorem dX1_enter_33 : decode cX1_enter 33 = .ok (.getfield 14, 3) := by decide +kernel
theorem dX1_enter_36 : decode cX1_enter 36 = .ok (.iload 4, 2) := by decide +kernel
theorem dX1_enter_38 : decode cX1_enter 38 = .ok (.aload_n 0, 1) := by decide +kernel
theorem dX1_enter_39 : decode cX1_enter 39 = .ok (.getfield 29, 3) := by decide +kernel
theorem dX1_enter_42 : decode cX1_enter 42 = .ok (.iload_n 1, 1) := by decide +kernel
theorem dX1_enter_43 : decode cX1_enter 43 = .ok (.invokevirtual 37, 3) := by decide +kernel
theorem dX1_enter_46 : decode cX1_enter 46 = .ok (.aload_n 0, 1) := by decide +kernel
theorem dX1_enter_47 : decode cX1_enter 47 = .ok (.getfield 20, 3) := by decide +kernel
theorem dX1_enter_50 : decode cX1_enter 50 = .ok (.iload 4, 2) := by decide +kernel
theorem dX1_enter_52 : decode cX1_enter 52 = .ok (.aload_n 0, 1) := by decide +kernel
theorem dX1_enter_53 : decode cX1_enter 53 = .ok (.getfield 29, 3) := by decide +kernel
theorem dX1_enter_56 : decode cX1_enter 56 = .ok (.iload_n 2, 1) := by decide +kernel
theorem dX1_enter_57 : decode cX1_enter 57 = .ok (.invokevirtual 37, 3) := by decide +kernel
theorem dX1_enter_60 : decode cX1_enter 60 = .ok (.aload_n 0, 1) := by decide +kernel
theorem dX1_enter_61 : decode cX1_enter 61 = .ok (.getfield 23, 3) := by decide +kernel
theorem dX1_enter_64 : decode cX1_enter 64 = .ok (.iload 4, 2) := by decide +kernel
theorem dX1_enter_66 : decode cX1_enter 66 = .ok (.aload_n 0, 1) := by decide +kernel
theorem dX1_enter_67 : decode cX1_enter 67 = .ok (.getfield 29, 3) := by decide +kernel
theorem dX1_enter_70 : decode cX1_enter 70 = .ok (.iload_n 3, 1) := by decide +kernel
theorem dX1_enter_71 : decode cX1_enter 71 = .ok (.invokevirtual 37, 3) := by decide +kernel
theorem dX1_enter_74 : decode cX1_enter 74 = .ok (.aload_n 0, 1) := by decide +kernel
theorem dX1_enter_75 : decode cX1_enter 75 = .ok (.getfield 26, 3) := by decide +kernel
theorem dX1_enter_78 : decode cX1_enter 78 = .ok (.aload_n 0, 1) := by decide +kernel
theorem dX1_enter_79 : decode cX1_enter 79 = .ok (.getfield 29, 3) := by decide +kernel
theorem dX1_enter_82 : decode cX1_enter 82 = .ok (.iconst 0, 1) := by decide +kernel
theorem dX1_enter_83 : decode cX1_enter 83 = .ok (.invokevirtual 41, 3) := by decide +kernel
theorem dX1_enter_86 : decode cX1_enter 86 = .ok (.aload_n 0, 1) := by decide +kernel
theorem dX1_enter_87 : decode cX1_enter 87 = .ok (.dup, 1) := by decide +kernel
theorem dX1_enter_88 : decode cX1_enter 88 = .ok (.getfield 29, 3) := by decide +kernel
theorem dX1_enter_91 : decode cX1_enter 91 = .ok (.iconst 1, 1) := by decide +kernel
theorem dX1_enter_92 : decode cX1_enter 92 = .ok (.iadd, 1) := by decide +kernel
theorem dX1_enter_93 : decode cX1_enter 93 = .ok (.putfield 29, 3) := by decide +kernel
theorem dX1_enter_96 : decode cX1_enter 96 = .ok (.aload_n 0, 1) := by decide +kernel
theorem dX1_enter_97 : decode cX1_enter 97 = .ok (.getfield 29, 3) := by decide +kernel
theorem dX1_enter_100 : decode cX1_enter 100 = .ok (.ireturn, 1) := by decide +kernel
set_option maxRecDepth 20000 in
theorem ggX1_grant_X6_put : GoodIn wsX1_grant wsX6_put := goodIn_r _ [6, 7, 13] (by decide +kernel) (by decide +kernel)
set_option maxRecDepth 20000 in
theorem gX1_grant_X6_put : GoodIn wsX1_grant (wsV RX1 41 RX6 yX6_put wsX6_put) := goodIn_app (goodIn_of _ (by decide +kernel)) ggX1_grant_X6_put
theorem dX1_grant_0 : decode cX1_grant 0 = .ok (.aload_n 0, 1) := by decide +kernel
theorem dX1_grant_1 : decode cX1_grant 1 = .ok (.getfield 26, 3) := by decide +kernel
theorem dX1_grant_4 : decode cX1_grant 4 = .ok (.iload_n 1, 1) := by decide +kernel
theorem dX1_grant_5 : decode cX1_grant 5 = .ok (.iload_n 2, 1) := by decide +kernel
theorem dX1_grant_6 : decode cX1_grant 6 = .ok (.invokevirtual 41, 3) := by decide +kernel
theorem dX1_grant_9 : decode cX1_grant 9 = .ok (.return_, 1) := by decide +kernel
theorem dX1_forget_0 : decode cX1_forget 0 = .ok (.aload_n 0, 1) := by decide +kernel
theorem dX1_forget_1 : decode cX1_forget 1 = .ok (.iconst 0, 1) := by decide +kernel
theorem dX1_forget_2 : decode cX1_forget 2 = .ok (.putfield 29, 3) := by decide +kernel
theorem dX1_forget_5 : decode cX1_forget 5 = .ok (.return_, 1) := by decide +kernel
theorem dX1_many_0 : decode cX1_many 0 = .ok (.aload_n 0, 1) := by decide +kernel
theorem dX1_many_1 : decode cX1_many 1 = .ok (.getfield 29, 3) := by decide +kernel
theorem dX1_many_4 : decode cX1_many 4 = .ok (.ireturn, 1) := by decide +kernel
set_option maxRecDepth 20000 in
theorem ggX1_who_X6_at : GoodIn wsX1_who wsX6_at := goodIn_r _ [6, 7, 13] (by decide +kernel) (by decide +kernel)
set_option maxRecDepth 20000 in
theorem gX1_who_X6_at : GoodIn wsX1_who (wsV RX1 33 RX6 yX6_at wsX6_at) := goodIn_app (goodIn_of _ (by decide +kernel)) ggX1_who_X6_at
theorem dX1_who_0 : decode cX1_who 0 = .ok (.aload_n 0, 1) := by decide +kernel
theorem dX1_who_1 : decode cX1_who 1 = .ok (.getfield 14, 3) := by decide +kernel
theorem dX1_who_4 : decode cX1_who 4 = .ok (.iload_n 1, 1) := by decide +kernel
theorem dX1_who_5 : decode cX1_who 5 = .ok (.invokevirtual 33, 3) := by decide +kernel
theorem dX1_who_8 : decode cX1_who 8 = .ok (.ireturn, 1) := by decide +kernel
set_option maxRecDepth 20000 in
theorem ggX1_wanted_X6_at : GoodIn wsX1_wanted wsX6_at := goodIn_r _ [6, 7, 13] (by decide +kernel) (by decide +kernel)
set_option maxRecDepth 20000 in
theorem gX1_wanted_X6_at : GoodIn wsX1_wanted (wsV RX1 33 RX6 yX6_at wsX6_at) := goodIn_app (goodIn_of _ (by decide +kernel)) ggX1_wanted_X6_at
theorem dX1_wanted_0 : decode cX1_wanted 0 = .ok (.aload_n 0, 1) := by decide +kernel
theorem dX1_wanted_1 : decode cX1_wanted 1 = .ok (.getfield 20, 3) := by decide +kernel
theorem dX1_wanted_4 : decode cX1_wanted 4 = .ok (.iload_n 1, 1) := by decide +kernel
theorem dX1_wanted_5 : decode cX1_wanted 5 = .ok (.invokevirtual 33, 3) := by decide +kernel
theorem dX1_wanted_8 : decode cX1_wanted 8 = .ok (.ireturn, 1) := by decide +kernel
set_option maxRecDepth 20000 in
theorem ggX1_price_X6_at : GoodIn wsX1_price wsX6_at := goodIn_r _ [6, 7, 13] (by decide +kernel) (by decide +kernel)
set_option maxRecDepth 20000 in
theorem gX1_price_X6_at : GoodIn wsX1_price (wsV RX1 33 RX6 yX6_at wsX6_at) := goodIn_app (goodIn_of _ (by decide +kernel)) ggX1_price_X6_at
theorem dX1_price_0 : decode cX1_price 0 = .ok (.aload_n 0, 1) := by decide +kernel
theorem dX1_price_1 : decode cX1_price 1 = .ok (.getfield 23, 3) := by decide +kernel
theorem dX1_price_4 : decode cX1_price 4 = .ok (.iload_n 1, 1) := by decide +kernel
theorem dX1_price_5 : decode cX1_price 5 = .ok (.invokevirtual 33, 3) := by decide +kernel
theorem dX1_price_8 : decode cX1_price 8 = .ok (.ireturn, 1) := by decide +kernel
set_option maxRecDepth 20000 in
theorem ggX1_got_X6_at : GoodIn wsX1_got wsX6_at := goodIn_r _ [6, 7, 13] (by decide +kernel) (by decide +kernel)
set_option maxRecDepth 20000 in
theorem gX1_got_X6_at : GoodIn wsX1_got (wsV RX1 33 RX6 yX6_at wsX6_at) := goodIn_app (goodIn_of _ (by decide +kernel)) ggX1_got_X6_at
theorem dX1_got_0 : decode cX1_got 0 = .ok (.aload_n 0, 1) := by decide +kernel
theorem dX1_got_1 : decode cX1_got 1 = .ok (.getfield 26, 3) := by decide +kernel
theorem dX1_got_4 : decode cX1_got 4 = .ok (.iload_n 1, 1) := by decide +kernel
theorem dX1_got_5 : decode cX1_got 5 = .ok (.invokevirtual 33, 3) := by decide +kernel
theorem dX1_got_8 : decode cX1_got 8 = .ok (.ireturn, 1) := by decide +kernel
set_option maxRecDepth 20000 in
theorem ggX2_init_X6_init : GoodIn wsX2_init wsX6_init := goodIn_r _ [13, 14, 2, 3, 15, 16, 17, 18, 19, 20, 21, 22, 23, 24, 25] (by decide +kernel) (by decide +kernel)
set_option maxRecDepth 20000 in
theorem gX2_init_X6_init : GoodIn wsX2_init (wsX6_init) := ggX2_init_X6_init
theorem dX2_init_0 : decode cX2_init 0 = .ok (.aload_n 0, 1) := by decide +kernel
theorem dX2_init_1 : decode cX2_init 1 = .ok (.invokespecial 3, 3) := by decide +kernel
theorem dX2_init_4 : decode cX2_init 4 = .ok (.aload_n 0, 1) := by decide +kernel
theorem dX2_init_5 : decode cX2_init 5 = .ok (.new 9, 3) := by decide +kernel
theorem dX2_init_8 : decode cX2_init 8 = .ok (.dup, 1) := by decide +kernel
theorem dX2_init_9 : decode cX2_init 9 = .ok (.bipush 40, 2) := by decide +kernel
theorem dX2_init_11 : decode cX2_init 11 = .ok (.iconst 0, 1) := by decide +kernel
theorem dX2_init_12 : decode cX2_init 12 = .ok (.invokespecial 11, 3) := by decide +kernel
theorem dX2_init_15 : decode cX2_init 15 = .ok (.putfield 14, 3) := by decide +kernel
theorem dX2_init_18 : decode cX2_init 18 = .ok (.aload_n 0, 1) := by decide +kernel
theorem dX2_init_19 : decode cX2_init 19 = .ok (.new 9, 3) := by decide +kernel
theorem dX2_init_22 : decode cX2_init 22 = .ok (.dup, 1) := by decide +kernel
theorem dX2_init_23 : decode cX2_init 23 = .ok (.bipush 40, 2) := by decide +kernel
theorem dX2_init_25 : decode cX2_init 25 = .ok (.iconst 0, 1) := by decide +kernel
theorem dX2_init_26 : decode cX2_init 26 = .ok (.invokespecial 11, 3) := by decide +kernel
theorem dX2_init_29 : decode cX2_init 29 = .ok (.putfield 20, 3) := by decide +kernel
theorem dX2_init_32 : decode cX2_init 32 = .ok (.aload_n 0, 1) := by decide +kernel
theorem dX2_init_33 : decode cX2_init 33 = .ok (.new 9, 3) := by decide +kernel
theorem dX2_init_36 : decode cX2_init 36 = .ok (.dup, 1) := by decide +kernel
theorem dX2_init_37 : decode cX2_init 37 = .ok (.bipush 40, 2) := by decide +kernel
theorem dX2_init_39 : decode cX2_init 39 = .ok (.iconst 0, 1) := by decide +kernel
theorem dX2_init_40 : decode cX2_init 40 = .ok (.invokespecial 11, 3) := by decide +kernel
theorem dX2_init_43 : decode cX2_init 43 = .ok (.putfield 23, 3) := by decide +kernel
theorem dX2_init_46 : decode cX2_init 46 = .ok (.aload_n 0, 1) := by decide +kernel
theorem dX2_init_47 : decode cX2_init 47 = .ok (.new 9, 3) := by decide +kernel
theorem dX2_init_50 : decode cX2_init 50 = .ok (.dup, 1) := by decide +kernel
theorem dX2_init_51 : decode cX2_init 51 = .ok (.bipush 10, 2) := by decide +kernel
theorem dX2_init_53 : decode cX2_init 53 = .ok (.iconst 0, 1) := by decide +kernel
theorem dX2_init_54 : decode cX2_init 54 = .ok (.invokespecial 11, 3) := by decide +kernel
theorem dX2_init_57 : decode cX2_init 57 = .ok (.putfield 26, 3) := by decide +kernel
theorem dX2_init_60 : decode cX2_init 60 = .ok (.return_, 1) := by decide +kernel
set_option maxRecDepth 20000 in
theorem ggX2_offer_X6_at : GoodIn wsX2_offer wsX6_at := goodIn_r _ [11, 12, 37] (by decide +kernel) (by decide +kernel)
set_option maxRecDepth 20000 in
theorem gX2_offer_X6_at : GoodIn wsX2_offer (wsV RX2 29 RX6 yX6_at wsX6_at) := goodIn_app (goodIn_of _ (by decide +kernel)) ggX2_offer_X6_at
set_option maxRecDepth 20000 in
theorem ggX2_offer_X2_comesBehind : GoodIn wsX2_offer wsX2_comesBehind := goodIn_r _ [17, 5, 3, 7, 8, 9, 10, 11, 12, 31, 32, 33, 34, 35, 36, 37] (by decide +kernel) (by decide +kernel)
set_option maxRecDepth 20000 in
theorem gX2_offer_X2_comesBehind : GoodIn wsX2_offer (wsV RX2 37 RX2 yX2_comesBehind wsX2_comesBehind) := goodIn_app (goodIn_of _ (by decide +kernel)) ggX2_offer_X2_comesBehind
set_option maxRecDepth 20000 in
theorem ggX2_offer_X6_squeeze : GoodIn wsX2_offer wsX6_squeeze := goodIn_r _ [21, 22, 8, 9, 10, 11, 12, 23, 24, 25, 26, 37] (by decide +kernel) (by decide +kernel)
set_option maxRecDepth 20000 in
theorem gX2_offer_X6_squeeze : GoodIn wsX2_offer (wsV RX2 41 RX6 yX6_squeeze wsX6_squeeze) := goodIn_app (goodIn_of _ (by decide +kernel)) ggX2_offer_X6_squeeze
set_option maxRecDepth 20000 in
theorem ggX2_offer_X6_add : GoodIn wsX2_offer wsX6_add := goodIn_r _ [30, 22, 8, 9, 10, 11, 12, 23, 24, 25, 26, 37] (by decide +kernel) (by decide +kernel)
set_option maxRecDepth 20000 in
theorem gX2_offer_X6_add : GoodIn wsX2_offer (wsV RX2 48 RX6 yX6_add wsX6_add) := goodIn_app (goodIn_of _ (by decide +kernel)) ggX2_offer_X6_add
theorem dX2_offer_0 : decode cX2_offer 0 = .ok (.aload_n 0, 1) := by decide +kernel
theorem dX2_offer_1 : decode cX2_offer 1 = .ok (.getfield 26, 3) := by decide +kernel
theorem dX2_offer_4 : decode cX2_offer 4 = .ok (.iload_n 1, 1) := by decide +kernel
theorem dX2_offer_5 : decode cX2_offer 5 = .ok (.invokevirtual 29, 3) := by decide +kernel
theorem dX2_offer_8 : decode cX2_offer 8 = .ok (.iconst 4, 1) := by decide +kernel
theorem dX2_offer_9 : decode cX2_offer 9 = .ok (.if_icmp .lt 5, 3) := by decide +kernel
theorem dX2_offer_12 : decode cX2_offer 12 = .ok (.iconst (-1), 1) := by decide +kernel
theorem dX2_offer_13 : decode cX2_offer 13 = .ok (.ireturn, 1) := by decide +kernel
theorem dX2_offer_14 : decode cX2_offer 14 = .ok (.aload_n 0, 1) := by decide +kernel
theorem dX2_offer_15 : decode cX2_offer 15 = .ok (.getfield 33, 3) := by decide +kernel
theorem dX2_offer_18 : decode cX2_offer 18 = .ok (.istore 4, 2) := by decide +kernel
theorem dX2_offer_20 : decode cX2_offer 20 = .ok (.iload 4, 2) := by decide +kernel
theorem dX2_offer_22 : decode cX2_offer 22 = .ok (.ifCond .le 22, 3) := by decide +kernel
theorem dX2_offer_25 : decode cX2_offer 25 = .ok (.aload_n 0, 1) := by decide +kernel
theorem dX2_offer_26 : decode cX2_offer 26 = .ok (.iload 4, 2) := by decide +kernel
theorem dX2_offer_28 : decode cX2_offer 28 = .ok (.iconst 1, 1) := by decide +kernel
theorem dX2_offer_29 : decode cX2_offer 29 = .ok (.isub, 1) := by decide +kernel
theorem dX2_offer_30 : decode cX2_offer 30 = .ok (.iload_n 1, 1) := by decide +kernel
theorem dX2_offer_31 : decode cX2_offer 31 = .ok (.iload_n 3, 1) := by decide +kernel
theorem dX2_offer_32 : decode cX2_offer 32 = .ok (.invokevirtual 37, 3) := by decide +kernel
theorem dX2_offer_35 : decode cX2_offer 35 = .ok (.ifCond .eq 9, 3) := by decide +kernel
theorem dX2_offer_38 : decode cX2_offer 38 = .ok (.iinc 4 (-1), 3) := by decide +kernel
theorem dX2_offer_41 : decode cX2_offer 41 = .ok (.goto (-21), 3) := by decide +kernel
theorem dX2_offer_44 : decode cX2_offer 44 = .ok (.aload_n 0, 1) := by decide +kernel
theorem dX2_offer_45 : decode cX2_offer 45 = .ok (.getfield 14, 3) := by decide +kernel
theorem dX2_offer_48 : decode cX2_offer 48 = .ok (.iload 4, 2) := by decide +kernel
theorem dX2_offer_50 : decode cX2_offer 50 = .ok (.aload_n 0, 1) := by decide +kernel
theorem dX2_offer_51 : decode cX2_offer 51 = .ok (.getfield 33, 3) := by decide +kernel
theorem dX2_offer_54 : decode cX2_offer 54 = .ok (.iload_n 1, 1) := by decide +kernel
theorem dX2_offer_55 : decode cX2_offer 55 = .ok (.invokevirtual 41, 3) := by decide +kernel
theorem dX2_offer_58 : decode cX2_offer 58 = .ok (.aload_n 0, 1) := by decide +kernel
theorem dX2_offer_59 : decode cX2_offer 59 = .ok (.getfield 20, 3) := by decide +kernel
theorem dX2_offer_62 : decode cX2_offer 62 = .ok (.iload 4, 2) := by decide +kernel
theorem dX2_offer_64 : decode cX2_offer 64 = .ok (.aload_n 0, 1) := by decide +kernel
theorem dX2_offer_65 : decode cX2_offer 65 = .ok (.getfield 33, 3) := by decide +kernel
theorem dX2_offer_68 : decode cX2_offer 68 = .ok (.iload_n 2, 1) := by decide +kernel
theorem dX2_offer_69 : decode cX2_offer 69 = .ok (.invokevirtual 41, 3) := by decide +kernel
theorem dX2_offer_72 : decode cX2_offer 72 = .ok (.aload_n 0, 1) := by decide +kernel
theorem dX2_offer_73 : decode cX2_offer 73 = .ok (.getfield 23, 3) := by decide +kernel
theorem dX2_offer_76 : decode cX2_offer 76 = .ok (.iload 4, 2) := by decide +kernel
theorem dX2_offer_78 : decode cX2_offer 78 = .ok (.aload_n 0, 1) := by decide +kernel
theorem dX2_offer_79 : decode cX2_offer 79 = .ok (.getfield 33, 3) := by decide +kernel
theorem dX2_offer_82 : decode cX2_offer 82 = .ok (.iload_n 3, 1) := by decide +kernel
theorem dX2_offer_83 : decode cX2_offer 83 = .ok (.invokevirtual 41, 3) := by decide +kernel
theorem dX2_offer_86 : decode cX2_offer 86 = .ok (.aload_n 0, 1) := by decide +kernel
theorem dX2_offer_87 : decode cX2_offer 87 = .ok (.dup, 1) := by decide +kernel
theorem dX2_offer_88 : decode cX2_offer 88 = .ok (.getfield 33, 3) := by decide +kernel
theorem dX2_offer_91 : decode cX2_offer 91 = .ok (.iconst 1, 1) := by decide +kernel
theorem dX2_offer_92 : decode cX2_offer 92 = .ok (.iadd, 1) := by decide +kernel
theorem dX2_offer_93 : decode cX2_offer 93 = .ok (.putfield 33, 3) := by decide +kernel
theorem dX2_offer_96 : decode cX2_offer 96 = .ok (.aload_n 0, 1) := by decide +kernel
theorem dX2_offer_97 : decode cX2_offer 97 = .ok (.dup, 1) := by decide +kernel
theorem dX2_offer_98 : decode cX2_offer 98 = .ok (.getfield 45, 3) := by decide +kernel
theorem dX2_offer_101 : decode cX2_offer 101 = .ok (.iload_n 2, 1) := by decide +kernel
theorem dX2_offer_102 : decode cX2_offer 102 = .ok (.iadd, 1) := by decide +kernel
theorem dX2_offer_103 : decode cX2_offer 103 = .ok (.putfield 45, 3) := by decide +kernel
theorem dX2_offer_106 : decode cX2_offer 106 = .ok (.aload_n 0, 1) := by decide +kernel
theorem dX2_offer_107 : decode cX2_offer 107 = .ok (.getfield 26, 3) := by decide +kernel
theorem dX2_offer_110 : decode cX2_offer 110 = .ok (.iload_n 1, 1) := by decide +kernel
theorem dX2_offer_111 : decode cX2_offer 111 = .ok (.iconst 1, 1) := by decide +kernel
theorem dX2_offer_112 : decode cX2_offer 112 = .ok (.invokevirtual 48, 3) := by decide +kernel
theorem dX2_offer_115 : decode cX2_offer 115 = .ok (.aload_n 0, 1) := by decide +kernel
theorem dX2_offer_116 : decode cX2_offer 116 = .ok (.getfield 26, 3) := by decide +kernel
theorem dX2_offer_119 : decode cX2_offer 119 = .ok (.iload_n 1, 1) := by decide +kernel
theorem dX2_offer_120 : decode cX2_offer 120 = .ok (.invokevirtual 29, 3) := by decide +kernel
theorem dX2_offer_123 : decode cX2_offer 123 = .ok (.ireturn, 1) := by decide +kernel
set_option maxRecDepth 20000 in
theorem ggX2_comesBehind_X6_at : GoodIn wsX2_comesBehind wsX6_at := goodIn_r _ [7, 8, 15] (by decide +kernel) (by decide +kernel)
set_option maxRecDepth 20000 in
theorem gX2_comesBehind_X6_at : GoodIn wsX2_comesBehind (wsV RX2 29 RX6 yX6_at wsX6_at) := goodIn_app (goodIn_of _ (by decide +kernel)) ggX2_comesBehind_X6_at
theorem dX2_comesBehind_0 : decode cX2_comesBehind 0 = .ok (.aload_n 0, 1) := by decide +kernel
theorem dX2_comesBehind_1 : decode cX2_comesBehind 1 = .ok (.getfield 23, 3) := by decide +kernel
theorem dX2_comesBehind_4 : decode cX2_comesBehind 4 = .ok (.iload_n 1, 1) := by decide +kernel
theorem dX2_comesBehind_5 : decode cX2_comesBehind 5 = .ok (.invokevirtual 29, 3) := by decide +kernel
theorem dX2_comesBehind_8 : decode cX2_comesBehind 8 = .ok (.iload_n 3, 1) := by decide +kernel
theorem dX2_comesBehind_9 : decode cX2_comesBehind 9 = .ok (.if_icmp .gt 27, 3) := by decide +kernel
theorem dX2_comesBehind_12 : decode cX2_comesBehind 12 = .ok (.aload_n 0, 1) := by decide +kernel
theorem dX2_comesBehind_13 : decode cX2_comesBehind 13 = .ok (.getfield 23, 3) := by decide +kernel
theorem dX2_comesBehind_16 : decode cX2_comesBehind 16 = .ok (.iload_n 1, 1) := by decide +kernel
theorem dX2_comesBehind_17 : decode cX2_comesBehind 17 = .ok (.invokevirtual 29, 3) := by decide +kernel
theorem dX2_comesBehind_20 : decode cX2_comesBehind 20 = .ok (.iload_n 3, 1) := by decide +kernel
theorem dX2_comesBehind_21 : decode cX2_comesBehind 21 = .ok (.if_icmp .ne 19, 3) := by decide +kernel
theorem dX2_comesBehind_24 : decode cX2_comesBehind 24 = .ok (.aload_n 0, 1) := by decide +kernel
theorem dX2_comesBehind_25 : decode cX2_comesBehind 25 = .ok (.getfield 14, 3) := by decide +kernel
theorem dX2_comesBehind_28 : decode cX2_comesBehind 28 = .ok (.iload_n 1, 1) := by decide +kernel
theorem dX2_comesBehind_29 : decode cX2_comesBehind 29 = .ok (.invokevirtual 29, 3) := by decide +kernel
theorem dX2_comesBehind_32 : decode cX2_comesBehind 32 = .ok (.iload_n 2, 1) := by decide +kernel
theorem dX2_comesBehind_33 : decode cX2_comesBehind 33 = .ok (.if_icmp .le 7, 3) := by decide +kernel
theorem dX2_comesBehind_36 : decode cX2_comesBehind 36 = .ok (.iconst 1, 1) := by decide +kernel
theorem dX2_comesBehind_37 : decode cX2_comesBehind 37 = .ok (.goto 4, 3) := by decide +kernel
theorem dX2_comesBehind_40 : decode cX2_comesBehind 40 = .ok (.iconst 0, 1) := by decide +kernel
theorem dX2_comesBehind_41 : decode cX2_comesBehind 41 = .ok (.ireturn, 1) := by decide +kernel
theorem dX2_canBe_0 : decode cX2_canBe 0 = .ok (.iload_n 1, 1) := by decide +kernel
theorem dX2_canBe_1 : decode cX2_canBe 1 = .ok (.ifCond .lt 15, 3) := by decide +kernel
theorem dX2_canBe_4 : decode cX2_canBe 4 = .ok (.iload_n 1, 1) := by decide +kernel
theorem dX2_canBe_5 : decode cX2_canBe 5 = .ok (.aload_n 0, 1) := by decide +kernel
theorem dX2_canBe_6 : decode cX2_canBe 6 = .ok (.getfield 45, 3) := by decide +kernel
theorem dX2_canBe_9 : decode cX2_canBe 9 = .ok (.if_icmp .gt 7, 3) := by decide +kernel
theorem dX2_canBe_12 : decode cX2_canBe 12 = .ok (.iconst 1, 1) := by decide +kernel
theorem dX2_canBe_13 : decode cX2_canBe 13 = .ok (.goto 4, 3) := by decide +kernel
theorem dX2_canBe_16 : decode cX2_canBe 16 = .ok (.iconst 0, 1) := by decide +kernel
theorem dX2_canBe_17 : decode cX2_canBe 17 = .ok (.ireturn, 1) := by decide +kernel
set_option maxRecDepth 20000 in
theorem ggX2_costOf_X6_at : GoodIn wsX2_costOf wsX6_at := goodIn_r _ [12, 13, 20] (by decide +kernel) (by decide +kernel)
set_option maxRecDepth 20000 in
theorem gX2_costOf_X6_at : GoodIn wsX2_costOf (wsV RX2 29 RX6 yX6_at wsX6_at) := goodIn_app (goodIn_of _ (by decide +kernel)) ggX2_costOf_X6_at
theorem dX2_costOf_0 : decode cX2_costOf 0 = .ok (.iload_n 1, 1) := by decide +kernel
theorem dX2_costOf_1 : decode cX2_costOf 1 = .ok (.istore_n 2, 1) := by decide +kernel
theorem dX2_costOf_2 : decode cX2_costOf 2 = .ok (.iconst 0, 1) := by decide +kernel
theorem dX2_costOf_3 : decode cX2_costOf 3 = .ok (.istore_n 3, 1) := by decide +kernel
theorem dX2_costOf_4 : decode cX2_costOf 4 = .ok (.iconst 0, 1) := by decide +kernel
theorem dX2_costOf_5 : decode cX2_costOf 5 = .ok (.istore 4, 2) := by decide +kernel
theorem dX2_costOf_7 : decode cX2_costOf 7 = .ok (.iload 4, 2) := by decide +kernel
theorem dX2_costOf_9 : decode cX2_costOf 9 = .ok (.aload_n 0, 1) := by decide +kernel
theorem dX2_costOf_10 : decode cX2_costOf 10 = .ok (.getfield 33, 3) := by decide +kernel
theorem dX2_costOf_13 : decode cX2_costOf 13 = .ok (.if_icmp .ge 44, 3) := by decide +kernel
theorem dX2_costOf_16 : decode cX2_costOf 16 = .ok (.iload_n 2, 1) := by decide +kernel
theorem dX2_costOf_17 : decode cX2_costOf 17 = .ok (.aload_n 0, 1) := by decide +kernel
theorem dX2_costOf_18 : decode cX2_costOf 18 = .ok (.getfield 20, 3) := by decide +kernel
theorem dX2_costOf_21 : decode cX2_costOf 21 = .ok (.iload 4, 2) := by decide +kernel
theorem dX2_costOf_23 : decode cX2_costOf 23 = .ok (.invokevirtual 29, 3) := by decide +kernel
theorem dX2_costOf_26 : decode cX2_costOf 26 = .ok (.invokestatic 51, 3) := by decide +kernel
theorem dX2_costOf_29 : decode cX2_costOf 29 = .ok (.istore 5, 2) := by decide +kernel
theorem dX2_costOf_31 : decode cX2_costOf 31 = .ok (.iload_n 3, 1) := by decide +kernel
theorem dX2_costOf_32 : decode cX2_costOf 32 = .ok (.iload 5, 2) := by decide +kernel
theorem dX2_costOf_34 : decode cX2_costOf 34 = .ok (.aload_n 0, 1) := by decide +kernel
theorem dX2_costOf_35 : decode cX2_costOf 35 = .ok (.getfield 23, 3) := by decide +kernel
theorem dX2_costOf_38 : decode cX2_costOf 38 = .ok (.iload 4, 2) := by decide +kernel
theorem dX2_costOf_40 : decode cX2_costOf 40 = .ok (.invokevirtual 29, 3) := by decide +kernel
theorem dX2_costOf_43 : decode cX2_costOf 43 = .ok (.imul, 1) := by decide +kernel
theorem dX2_costOf_44 : decode cX2_costOf 44 = .ok (.iadd, 1) := by decide +kernel
theorem dX2_costOf_45 : decode cX2_costOf 45 = .ok (.istore_n 3, 1) := by decide +kernel
theorem dX2_costOf_46 : decode cX2_costOf 46 = .ok (.iload_n 2, 1) := by decide +kernel
theorem dX2_costOf_47 : decode cX2_costOf 47 = .ok (.iload 5, 2) := by decide +kernel
theorem dX2_costOf_49 : decode cX2_costOf 49 = .ok (.isub, 1) := by decide +kernel
theorem dX2_costOf_50 : decode cX2_costOf 50 = .ok (.istore_n 2, 1) := by decide +kernel
theorem dX2_costOf_51 : decode cX2_costOf 51 = .ok (.iinc 4 1, 3) := by decide +kernel
theorem dX2_costOf_54 : decode cX2_costOf 54 = .ok (.goto (-47), 3) := by decide +kernel
theorem dX2_costOf_57 : decode cX2_costOf 57 = .ok (.iload_n 3, 1) := by decide +kernel
theorem dX2_costOf_58 : decode cX2_costOf 58 = .ok (.ireturn, 1) := by decide +kernel
set_option maxRecDepth 20000 in
theorem ggX2_dearestOf_X6_at : GoodIn wsX2_dearestOf wsX6_at := goodIn_r _ [8, 9, 16] (by decide +kernel) (by decide +kernel)
set_option maxRecDepth 20000 in
theorem gX2_dearestOf_X6_at : GoodIn wsX2_dearestOf (wsV RX2 29 RX6 yX6_at wsX6_at) := goodIn_app (goodIn_of _ (by decide +kernel)) ggX2_dearestOf_X6_at
theorem dX2_dearestOf_0 : decode cX2_dearestOf 0 = .ok (.iload_n 1, 1) := by decide +kernel
theorem dX2_dearestOf_1 : decode cX2_dearestOf 1 = .ok (.istore_n 2, 1) := by decide +kernel
theorem dX2_dearestOf_2 : decode cX2_dearestOf 2 = .ok (.iconst 0, 1) := by decide +kernel
theorem dX2_dearestOf_3 : decode cX2_dearestOf 3 = .ok (.istore_n 3, 1) := by decide +kernel
theorem dX2_dearestOf_4 : decode cX2_dearestOf 4 = .ok (.iconst 0, 1) := by decide +kernel
theorem dX2_dearestOf_5 : decode cX2_dearestOf 5 = .ok (.istore 4, 2) := by decide +kernel
theorem dX2_dearestOf_7 : decode cX2_dearestOf 7 = .ok (.iload 4, 2) := by decide +kernel
theorem dX2_dearestOf_9 : decode cX2_dearestOf 9 = .ok (.aload_n 0, 1) := by decide +kernel
theorem dX2_dearestOf_10 : decode cX2_dearestOf 10 = .ok (.getfield 33, 3) := by decide +kernel
theorem dX2_dearestOf_13 : decode cX2_dearestOf 13 = .ok (.if_icmp .ge 35, 3) := by decide +kernel
theorem dX2_dearestOf_16 : decode cX2_dearestOf 16 = .ok (.iload_n 2, 1) := by decide +kernel
theorem dX2_dearestOf_17 : decode cX2_dearestOf 17 = .ok (.ifCond .le 31, 3) := by decide +kernel
theorem dX2_dearestOf_20 : decode cX2_dearestOf 20 = .ok (.aload_n 0, 1) := by decide +kernel
theorem dX2_dearestOf_21 : decode cX2_dearestOf 21 = .ok (.getfield 23, 3) := by decide +kernel
theorem dX2_dearestOf_24 : decode cX2_dearestOf 24 = .ok (.iload 4, 2) := by decide +kernel
theorem dX2_dearestOf_26 : decode cX2_dearestOf 26 = .ok (.invokevirtual 29, 3) := by decide +kernel
theorem dX2_dearestOf_29 : decode cX2_dearestOf 29 = .ok (.istore_n 3, 1) := by decide +kernel
theorem dX2_dearestOf_30 : decode cX2_dearestOf 30 = .ok (.iload_n 2, 1) := by decide +kernel
theorem dX2_dearestOf_31 : decode cX2_dearestOf 31 = .ok (.aload_n 0, 1) := by decide +kernel
theorem dX2_dearestOf_32 : decode cX2_dearestOf 32 = .ok (.getfield 20, 3) := by decide +kernel
theorem dX2_dearestOf_35 : decode cX2_dearestOf 35 = .ok (.iload 4, 2) := by decide +kernel
theorem dX2_dearestOf_37 : decode cX2_dearestOf 37 = .ok (.invokevirtual 29, 3) := by decide +kernel
theorem dX2_dearestOf_40 : decode cX2_dearestOf 40 = .ok (.isub, 1) := by decide +kernel
theorem dX2_dearestOf_41 : decode cX2_dearestOf 41 = .ok (.istore_n 2, 1) := by decide +kernel
theorem dX2_dearestOf_42 : decode cX2_dearestOf 42 = .ok (.iinc 4 1, 3) := by decide +kernel
theorem dX2_dearestOf_45 : decode cX2_dearestOf 45 = .ok (.goto (-38), 3) := by decide +kernel
theorem dX2_dearestOf_48 : decode cX2_dearestOf 48 = .ok (.iload_n 3, 1) := by decide +kernel
theorem dX2_dearestOf_49 : decode cX2_dearestOf 49 = .ok (.ireturn, 1) := by decide +kernel
set_option maxRecDepth 20000 in
theorem ggX2_partOf_X6_at : GoodIn wsX2_partOf wsX6_at := goodIn_r _ [12, 13, 20] (by decide +kernel) (by decide +kernel)
set_option maxRecDepth 20000 in
theorem gX2_partOf_X6_at : GoodIn wsX2_partOf (wsV RX2 29 RX6 yX6_at wsX6_at) := goodIn_app (goodIn_of _ (by decide +kernel)) ggX2_partOf_X6_at
theorem dX2_partOf_0 : decode cX2_partOf 0 = .ok (.iload_n 1, 1) := by decide +kernel
theorem dX2_partOf_1 : decode cX2_partOf 1 = .ok (.istore_n 3, 1) := by decide +kernel
theorem dX2_partOf_2 : decode cX2_partOf 2 = .ok (.iconst 0, 1) := by decide +kernel
theorem dX2_partOf_3 : decode cX2_partOf 3 = .ok (.istore 4, 2) := by decide +kernel
theorem dX2_partOf_5 : decode cX2_partOf 5 = .ok (.iconst 0, 1) := by decide +kernel
theorem dX2_partOf_6 : decode cX2_partOf 6 = .ok (.istore 5, 2) := by decide +kernel
theorem dX2_partOf_8 : decode cX2_partOf 8 = .ok (.iload 5, 2) := by decide +kernel
theorem dX2_partOf_10 : decode cX2_partOf 10 = .ok (.aload_n 0, 1) := by decide +kernel
theorem dX2_partOf_11 : decode cX2_partOf 11 = .ok (.getfield 33, 3) := by decide +kernel
theorem dX2_partOf_14 : decode cX2_partOf 14 = .ok (.if_icmp .ge 53, 3) := by decide +kernel
theorem dX2_partOf_17 : decode cX2_partOf 17 = .ok (.iload_n 3, 1) := by decide +kernel
theorem dX2_partOf_18 : decode cX2_partOf 18 = .ok (.aload_n 0, 1) := by decide +kernel
theorem dX2_partOf_19 : decode cX2_partOf 19 = .ok (.getfield 20, 3) := by decide +kernel
theorem dX2_partOf_22 : decode cX2_partOf 22 = .ok (.iload 5, 2) := by decide +kernel
theorem dX2_partOf_24 : decode cX2_partOf 24 = .ok (.invokevirtual 29, 3) := by decide +kernel
theorem dX2_partOf_27 : decode cX2_partOf 27 = .ok (.invokestatic 51, 3) := by decide +kernel
theorem dX2_partOf_30 : decode cX2_partOf 30 = .ok (.istore 6, 2) := by decide +kernel
theorem dX2_partOf_32 : decode cX2_partOf 32 = .ok (.iload 4, 2) := by decide +kernel
theorem dX2_partOf_34 : decode cX2_partOf 34 = .ok (.aload_n 0, 1) := by decide +kernel
theorem dX2_partOf_35 : decode cX2_partOf 35 = .ok (.getfield 14, 3) := by decide +kernel
theorem dX2_partOf_38 : decode cX2_partOf 38 = .ok (.iload 5, 2) := by decide +kernel
theorem dX2_partOf_40 : decode cX2_partOf 40 = .ok (.invokevirtual 29, 3) := by decide +kernel
theorem dX2_partOf_43 : decode cX2_partOf 43 = .ok (.iload_n 2, 1) := by decide +kernel
theorem dX2_partOf_44 : decode cX2_partOf 44 = .ok (.if_icmp .ne 8, 3) := by decide +kernel
theorem dX2_partOf_47 : decode cX2_partOf 47 = .ok (.iload 6, 2) := by decide +kernel
theorem dX2_partOf_49 : decode cX2_partOf 49 = .ok (.goto 4, 3) := by decide +kernel
theorem dX2_partOf_52 : decode cX2_partOf 52 = .ok (.iconst 0, 1) := by decide +kernel
theorem dX2_partOf_53 : decode cX2_partOf 53 = .ok (.iadd, 1) := by decide +kernel
theorem dX2_partOf_54 : decode cX2_partOf 54 = .ok (.istore 4, 2) := by decide +kernel
theorem dX2_partOf_56 : decode cX2_partOf 56 = .ok (.iload_n 3, 1) := by decide +kernel
theorem dX2_partOf_57 : decode cX2_partOf 57 = .ok (.iload 6, 2) := by decide +kernel
theorem dX2_partOf_59 : decode cX2_partOf 59 = .ok (.isub, 1) := by decide +kernel
theorem dX2_partOf_60 : decode cX2_partOf 60 = .ok (.istore_n 3, 1) := by decide +kernel
theorem dX2_partOf_61 : decode cX2_partOf 61 = .ok (.iinc 5 1, 3) := by decide +kernel
theorem dX2_partOf_64 : decode cX2_partOf 64 = .ok (.goto (-56), 3) := by decide +kernel
theorem dX2_partOf_67 : decode cX2_partOf 67 = .ok (.iload 4, 2) := by decide +kernel
theorem dX2_partOf_69 : decode cX2_partOf 69 = .ok (.ireturn, 1) := by decide +kernel
set_option maxRecDepth 20000 in
theorem ggX3_init_X6_init : GoodIn wsX3_init wsX6_init := goodIn_r _ [13, 14, 2, 3, 15, 16, 17, 18, 19, 20, 21, 22, 23, 24, 25] (by decide +kernel) (by decide +kernel)
set_option maxRecDepth 20000 in
theorem gX3_init_X6_init : GoodIn wsX3_init (wsX6_init) := ggX3_init_X6_init
theorem dX3_init_0 : decode cX3_init 0 = .ok (.aload_n 0, 1) := by decide +kernel
theorem dX3_init_1 : decode cX3_init 1 = .ok (.invokespecial 3, 3) := by decide +kernel
theorem dX3_init_4 : decode cX3_init 4 = .ok (.aload_n 0, 1) := by decide +kernel
theorem dX3_init_5 : decode cX3_init 5 = .ok (.new 9, 3) := by decide +kernel
theorem dX3_init_8 : decode cX3_init 8 = .ok (.dup, 1) := by decide +kernel
theorem dX3_init_9 : decode cX3_init 9 = .ok (.bipush 10, 2) := by decide +kernel
theorem dX3_init_11 : decode cX3_init 11 = .ok (.iconst 0, 1) := by decide +kernel
theorem dX3_init_12 : decode cX3_init 12 = .ok (.invokespecial 11, 3) := by decide +kernel
theorem dX3_init_15 : decode cX3_init 15 = .ok (.putfield 14, 3) := by decide +kernel
theorem dX3_init_18 : decode cX3_init 18 = .ok (.aload_n 0, 1) := by decide +kernel
theorem dX3_init_19 : decode cX3_init 19 = .ok (.new 9, 3) := by decide +kernel
theorem dX3_init_22 : decode cX3_init 22 = .ok (.dup, 1) := by decide +kernel
theorem dX3_init_23 : decode cX3_init 23 = .ok (.bipush 10, 2) := by decide +kernel
theorem dX3_init_25 : decode cX3_init 25 = .ok (.iconst 0, 1) := by decide +kernel
theorem dX3_init_26 : decode cX3_init 26 = .ok (.invokespecial 11, 3) := by decide +kernel
theorem dX3_init_29 : decode cX3_init 29 = .ok (.putfield 20, 3) := by decide +kernel
theorem dX3_init_32 : decode cX3_init 32 = .ok (.aload_n 0, 1) := by decide +kernel
theorem dX3_init_33 : decode cX3_init 33 = .ok (.new 9, 3) := by decide +kernel
theorem dX3_init_36 : decode cX3_init 36 = .ok (.dup, 1) := by decide +kernel
theorem dX3_init_37 : decode cX3_init 37 = .ok (.bipush 10, 2) := by decide +kernel
theorem dX3_init_39 : decode cX3_init 39 = .ok (.iconst 0, 1) := by decide +kernel
theorem dX3_init_40 : decode cX3_init 40 = .ok (.invokespecial 11, 3) := by decide +kernel
theorem dX3_init_43 : decode cX3_init 43 = .ok (.putfield 23, 3) := by decide +kernel
theorem dX3_init_46 : decode cX3_init 46 = .ok (.aload_n 0, 1) := by decide +kernel
theorem dX3_init_47 : decode cX3_init 47 = .ok (.new 9, 3) := by decide +kernel
theorem dX3_init_50 : decode cX3_init 50 = .ok (.dup, 1) := by decide +kernel
theorem dX3_init_51 : decode cX3_init 51 = .ok (.bipush 10, 2) := by decide +kernel
theorem dX3_init_53 : decode cX3_init 53 = .ok (.iconst 0, 1) := by decide +kernel
theorem dX3_init_54 : decode cX3_init 54 = .ok (.invokespecial 11, 3) := by decide +kernel
theorem dX3_init_57 : decode cX3_init 57 = .ok (.putfield 26, 3) := by decide +kernel
theorem dX3_init_60 : decode cX3_init 60 = .ok (.return_, 1) := by decide +kernel
set_option maxRecDepth 20000 in
theorem ggX3_earn_X6_add : GoodIn wsX3_earn wsX6_add := goodIn_r _ [6, 7, 8, 9, 5, 10, 11, 12, 13, 14, 15, 21] (by decide +kernel) (by decide +kernel)
set_option maxRecDepth 20000 in
theorem gX3_earn_X6_add : GoodIn wsX3_earn (wsV RX3 29 RX6 yX6_add wsX6_add) := goodIn_app (goodIn_of _ (by decide +kernel)) ggX3_earn_X6_add
theorem dX3_earn_0 : decode cX3_earn 0 = .ok (.aload_n 0, 1) := by decide +kernel
theorem dX3_earn_1 : decode cX3_earn 1 = .ok (.getfield 14, 3) := by decide +kernel
theorem dX3_earn_4 : decode cX3_earn 4 = .ok (.iload_n 1, 1) := by decide +kernel
theorem dX3_earn_5 : decode cX3_earn 5 = .ok (.iload_n 2, 1) := by decide +kernel
theorem dX3_earn_6 : decode cX3_earn 6 = .ok (.invokevirtual 29, 3) := by decide +kernel
theorem dX3_earn_9 : decode cX3_earn 9 = .ok (.return_, 1) := by decide +kernel
set_option maxRecDepth 20000 in
theorem ggX3_owe_X6_add : GoodIn wsX3_owe wsX6_add := goodIn_r _ [6, 7, 8, 9, 5, 10, 11, 12, 13, 14, 15, 21] (by decide +kernel) (by decide +kernel)
set_option maxRecDepth 20000 in
theorem gX3_owe_X6_add : GoodIn wsX3_owe (wsV RX3 29 RX6 yX6_add wsX6_add) := goodIn_app (goodIn_of _ (by decide +kernel)) ggX3_owe_X6_add
theorem dX3_owe_0 : decode cX3_owe 0 = .ok (.aload_n 0, 1) := by decide +kernel
theorem dX3_owe_1 : decode cX3_owe 1 = .ok (.getfield 20, 3) := by decide +kernel
theorem dX3_owe_4 : decode cX3_owe 4 = .ok (.iload_n 1, 1) := by decide +kernel
theorem dX3_owe_5 : decode cX3_owe 5 = .ok (.iload_n 2, 1) := by decide +kernel
theorem dX3_owe_6 : decode cX3_owe 6 = .ok (.invokevirtual 29, 3) := by decide +kernel
theorem dX3_owe_9 : decode cX3_owe 9 = .ok (.return_, 1) := by decide +kernel
set_option maxRecDepth 20000 in
theorem ggX3_close_X6_add : GoodIn wsX3_close wsX6_add := goodIn_r _ [10, 11, 12, 13, 9, 14, 15, 16, 17, 18, 19, 26] (by decide +kernel) (by decide +kernel)
set_option maxRecDepth 20000 in
theorem gX3_close_X6_add : GoodIn wsX3_close (wsV RX3 29 RX6 yX6_add wsX6_add) := goodIn_app (goodIn_of _ (by decide +kernel)) ggX3_close_X6_add
set_option maxRecDepth 20000 in
theorem ggX3_close_X6_put : GoodIn wsX3_close wsX6_put := goodIn_r _ [19, 15, 26] (by decide +kernel) (by decide +kernel)
set_option maxRecDepth 20000 in
theorem gX3_close_X6_put : GoodIn wsX3_close (wsV RX3 36 RX6 yX6_put wsX6_put) := goodIn_app (goodIn_of _ (by decide +kernel)) ggX3_close_X6_put
theorem dX3_close_0 : decode cX3_close 0 = .ok (.aload_n 0, 1) := by decide +kernel
theorem dX3_close_1 : decode cX3_close 1 = .ok (.getfield 14, 3) := by decide +kernel
theorem dX3_close_4 : decode cX3_close 4 = .ok (.iload_n 1, 1) := by decide +kernel
theorem dX3_close_5 : decode cX3_close 5 = .ok (.iload_n 3, 1) := by decide +kernel
theorem dX3_close_6 : decode cX3_close 6 = .ok (.ineg, 1) := by decide +kernel
theorem dX3_close_7 : decode cX3_close 7 = .ok (.iload 4, 2) := by decide +kernel
theorem dX3_close_9 : decode cX3_close 9 = .ok (.imul, 1) := by decide +kernel
theorem dX3_close_10 : decode cX3_close 10 = .ok (.invokevirtual 29, 3) := by decide +kernel
theorem dX3_close_13 : decode cX3_close 13 = .ok (.aload_n 0, 1) := by decide +kernel
theorem dX3_close_14 : decode cX3_close 14 = .ok (.getfield 26, 3) := by decide +kernel
theorem dX3_close_17 : decode cX3_close 17 = .ok (.iload_n 1, 1) := by decide +kernel
theorem dX3_close_18 : decode cX3_close 18 = .ok (.iload_n 3, 1) := by decide +kernel
theorem dX3_close_19 : decode cX3_close 19 = .ok (.iload 4, 2) := by decide +kernel
theorem dX3_close_21 : decode cX3_close 21 = .ok (.imul, 1) := by decide +kernel
theorem dX3_close_22 : decode cX3_close 22 = .ok (.invokevirtual 29, 3) := by decide +kernel
theorem dX3_close_25 : decode cX3_close 25 = .ok (.aload_n 0, 1) := by decide +kernel
theorem dX3_close_26 : decode cX3_close 26 = .ok (.dup, 1) := by decide +kernel
theorem dX3_close_27 : decode cX3_close 27 = .ok (.getfield 32, 3) := by decide +kernel
theorem dX3_close_30 : decode cX3_close 30 = .ok (.iload_n 3, 1) := by decide +kernel
theorem dX3_close_31 : decode cX3_close 31 = .ok (.iload 4, 2) := by decide +kernel
theorem dX3_close_33 : decode cX3_close 33 = .ok (.imul, 1) := by decide +kernel
theorem dX3_close_34 : decode cX3_close 34 = .ok (.iadd, 1) := by decide +kernel
theorem dX3_close_35 : decode cX3_close 35 = .ok (.putfield 32, 3) := by decide +kernel
theorem dX3_close_38 : decode cX3_close 38 = .ok (.aload_n 0, 1) := by decide +kernel
theorem dX3_close_39 : decode cX3_close 39 = .ok (.getfield 23, 3) := by decide +kernel
theorem dX3_close_42 : decode cX3_close 42 = .ok (.iload_n 1, 1) := by decide +kernel
theorem dX3_close_43 : decode cX3_close 43 = .ok (.iload_n 2, 1) := by decide +kernel
theorem dX3_close_44 : decode cX3_close 44 = .ok (.invokevirtual 29, 3) := by decide +kernel
theorem dX3_close_47 : decode cX3_close 47 = .ok (.aload_n 0, 1) := by decide +kernel
theorem dX3_close_48 : decode cX3_close 48 = .ok (.getfield 20, 3) := by decide +kernel
theorem dX3_close_51 : decode cX3_close 51 = .ok (.iload_n 1, 1) := by decide +kernel
theorem dX3_close_52 : decode cX3_close 52 = .ok (.iload_n 3, 1) := by decide +kernel
theorem dX3_close_53 : decode cX3_close 53 = .ok (.invokevirtual 36, 3) := by decide +kernel
theorem dX3_close_56 : decode cX3_close 56 = .ok (.return_, 1) := by decide +kernel
set_option maxRecDepth 20000 in
theorem ggX3_debtOf_X6_at : GoodIn wsX3_debtOf wsX6_at := goodIn_r _ [6, 7, 13] (by decide +kernel) (by decide +kernel)
set_option maxRecDepth 20000 in
theorem gX3_debtOf_X6_at : GoodIn wsX3_debtOf (wsV RX3 39 RX6 yX6_at wsX6_at) := goodIn_app (goodIn_of _ (by decide +kernel)) ggX3_debtOf_X6_at
theorem dX3_debtOf_0 : decode cX3_debtOf 0 = .ok (.aload_n 0, 1) := by decide +kernel
theorem dX3_debtOf_1 : decode cX3_debtOf 1 = .ok (.getfield 20, 3) := by decide +kernel
theorem dX3_debtOf_4 : decode cX3_debtOf 4 = .ok (.iload_n 1, 1) := by decide +kernel
theorem dX3_debtOf_5 : decode cX3_debtOf 5 = .ok (.invokevirtual 39, 3) := by decide +kernel
theorem dX3_debtOf_8 : decode cX3_debtOf 8 = .ok (.ireturn, 1) := by decide +kernel
theorem dX3_allFines_0 : decode cX3_allFines 0 = .ok (.aload_n 0, 1) := by decide +kernel
theorem dX3_allFines_1 : decode cX3_allFines 1 = .ok (.getfield 32, 3) := by decide +kernel
theorem dX3_allFines_4 : decode cX3_allFines 4 = .ok (.ireturn, 1) := by decide +kernel
set_option maxRecDepth 20000 in
theorem ggX3_fact_X6_at : GoodIn wsX3_fact wsX6_at := goodIn_r _ [10, 11, 17] (by decide +kernel) (by decide +kernel)
set_option maxRecDepth 20000 in
theorem gX3_fact_X6_at : GoodIn wsX3_fact (wsV RX3 39 RX6 yX6_at wsX6_at) := goodIn_app (goodIn_of _ (by decide +kernel)) ggX3_fact_X6_at
theorem dX3_fact_0 : decode cX3_fact 0 = .ok (.iload_n 2, 1) := by decide +kernel
theorem dX3_fact_1 : decode cX3_fact 1 = .ok (.tableswitch 71 0 4 #[35, 44, 71, 53, 62], 35) := by decide +kernel
theorem dX3_fact_36 : decode cX3_fact 36 = .ok (.aload_n 0, 1) := by decide +kernel
theorem dX3_fact_37 : decode cX3_fact 37 = .ok (.getfield 14, 3) := by decide +kernel
theorem dX3_fact_40 : decode cX3_fact 40 = .ok (.iload_n 1, 1) := by decide +kernel
theorem dX3_fact_41 : decode cX3_fact 41 = .ok (.invokevirtual 39, 3) := by decide +kernel
theorem dX3_fact_44 : decode cX3_fact 44 = .ok (.ireturn, 1) := by decide +kernel
theorem dX3_fact_45 : decode cX3_fact 45 = .ok (.aload_n 0, 1) := by decide +kernel
theorem dX3_fact_46 : decode cX3_fact 46 = .ok (.getfield 20, 3) := by decide +kernel
theorem dX3_fact_49 : decode cX3_fact 49 = .ok (.iload_n 1, 1) := by decide +kernel
theorem dX3_fact_50 : decode cX3_fact 50 = .ok (.invokevirtual 39, 3) := by decide +kernel
theorem dX3_fact_53 : decode cX3_fact 53 = .ok (.ireturn, 1) := by decide +kernel
theorem dX3_fact_54 : decode cX3_fact 54 = .ok (.aload_n 0, 1) := by decide +kernel
theorem dX3_fact_55 : decode cX3_fact 55 = .ok (.getfield 23, 3) := by decide +kernel
theorem dX3_fact_58 : decode cX3_fact 58 = .ok (.iload_n 1, 1) := by decide +kernel
theorem dX3_fact_59 : decode cX3_fact 59 = .ok (.invokevirtual 39, 3) := by decide +kernel
theorem dX3_fact_62 : decode cX3_fact 62 = .ok (.ireturn, 1) := by decide +kernel
theorem dX3_fact_63 : decode cX3_fact 63 = .ok (.aload_n 0, 1) := by decide +kernel
theorem dX3_fact_64 : decode cX3_fact 64 = .ok (.getfield 26, 3) := by decide +kernel
theorem dX3_fact_67 : decode cX3_fact 67 = .ok (.iload_n 1, 1) := by decide +kernel
theorem dX3_fact_68 : decode cX3_fact 68 = .ok (.invokevirtual 39, 3) := by decide +kernel
theorem dX3_fact_71 : decode cX3_fact 71 = .ok (.ireturn, 1) := by decide +kernel
theorem dX3_fact_72 : decode cX3_fact 72 = .ok (.ldc 43, 2) := by decide +kernel
theorem dX3_fact_74 : decode cX3_fact 74 = .ok (.ireturn, 1) := by decide +kernel
set_option maxRecDepth 20000 in
theorem ggX4_init_X6_init : GoodIn wsX4_init wsX6_init := goodIn_r _ [10, 11, 2, 3, 12, 13, 14, 15, 16, 17, 18, 19, 20, 21, 22] (by decide +kernel) (by decide +kernel)
set_option maxRecDepth 20000 in
theorem gX4_init_X6_init : GoodIn wsX4_init (wsX6_init) := ggX4_init_X6_init
theorem dX4_init_0 : decode cX4_init 0 = .ok (.aload_n 0, 1) := by decide +kernel
theorem dX4_init_1 : decode cX4_init 1 = .ok (.invokespecial 3, 3) := by decide +kernel
theorem dX4_init_4 : decode cX4_init 4 = .ok (.aload_n 0, 1) := by decide +kernel
theorem dX4_init_5 : decode cX4_init 5 = .ok (.new 9, 3) := by decide +kernel
theorem dX4_init_8 : decode cX4_init 8 = .ok (.dup, 1) := by decide +kernel
theorem dX4_init_9 : decode cX4_init 9 = .ok (.sipush 800, 3) := by decide +kernel
theorem dX4_init_12 : decode cX4_init 12 = .ok (.iconst (-1), 1) := by decide +kernel
theorem dX4_init_13 : decode cX4_init 13 = .ok (.invokespecial 11, 3) := by decide +kernel
theorem dX4_init_16 : decode cX4_init 16 = .ok (.putfield 14, 3) := by decide +kernel
theorem dX4_init_19 : decode cX4_init 19 = .ok (.return_, 1) := by decide +kernel
set_option maxRecDepth 20000 in
theorem ggX4_read_X4_place : GoodIn wsX4_read wsX4_place := goodIn_r _ [5] (by decide +kernel) (by decide +kernel)
set_option maxRecDepth 20000 in
theorem gX4_read_X4_place : GoodIn wsX4_read (va_wsS RX4 20 yX4_place wsX4_place) := goodIn_app (goodIn_of _ (by decide +kernel)) ggX4_read_X4_place
set_option maxRecDepth 20000 in
theorem ggX4_read_X6_put : GoodIn wsX4_read wsX6_put := goodIn_r _ [10, 11, 13] (by decide +kernel) (by decide +kernel)
set_option maxRecDepth 20000 in
theorem gX4_read_X6_put : GoodIn wsX4_read (wsV RX4 24 RX6 yX6_put wsX6_put) := goodIn_app (goodIn_of _ (by decide +kernel)) ggX4_read_X6_put
theorem dX4_read_0 : decode cX4_read 0 = .ok (.aload_n 0, 1) := by decide +kernel
theorem dX4_read_1 : decode cX4_read 1 = .ok (.getfield 14, 3) := by decide +kernel
theorem dX4_read_4 : decode cX4_read 4 = .ok (.iload_n 1, 1) := by decide +kernel
theorem dX4_read_5 : decode cX4_read 5 = .ok (.iload_n 2, 1) := by decide +kernel
theorem dX4_read_6 : decode cX4_read 6 = .ok (.iload_n 3, 1) := by decide +kernel
theorem dX4_read_7 : decode cX4_read 7 = .ok (.invokestatic 20, 3) := by decide +kernel
theorem dX4_read_10 : decode cX4_read 10 = .ok (.iload 4, 2) := by decide +kernel
theorem dX4_read_12 : decode cX4_read 12 = .ok (.invokevirtual 24, 3) := by decide +kernel
theorem dX4_read_15 : decode cX4_read 15 = .ok (.return_, 1) := by decide +kernel
set_option maxRecDepth 20000 in
theorem ggX4_fouledIn_X4_gapIn : GoodIn wsX4_fouledIn wsX4_gapIn := goodIn_r _ [6, 7, 8, 9, 10, 11, 12, 13, 5, 14, 1, 15, 16, 17, 18, 19, 20, 21, 22, 23, 24, 25] (by decide +kernel) (by decide +kernel)
set_option maxRecDepth 20000 in
theorem gX4_fouledIn_X4_gapIn : GoodIn wsX4_fouledIn (wsV RX4 27 RX4 yX4_gapIn wsX4_gapIn) := goodIn_app (goodIn_of _ (by decide +kernel)) ggX4_fouledIn_X4_gapIn
set_option maxRecDepth 20000 in
theorem ggX4_fouledIn_X4_place : GoodIn wsX4_fouledIn wsX4_place := goodIn_r _ [17] (by decide +kernel) (by decide +kernel)
set_option maxRecDepth 20000 in
theorem gX4_fouledIn_X4_place : GoodIn wsX4_fouledIn (va_wsS RX4 20 yX4_place wsX4_place) := goodIn_app (goodIn_of _ (by decide +kernel)) ggX4_fouledIn_X4_place
set_option maxRecDepth 20000 in
theorem ggX4_fouledIn_X6_at : GoodIn wsX4_fouledIn wsX6_at := goodIn_r _ [22, 23, 25] (by decide +kernel) (by decide +kernel)
set_option maxRecDepth 20000 in
theorem gX4_fouledIn_X6_at : GoodIn wsX4_fouledIn (wsV RX4 31 RX6 yX6_at wsX6_at) := goodIn_app (goodIn_of _ (by decide +kernel)) ggX4_fouledIn_X6_at
theorem dX4_fouledIn_0 : decode cX4_fouledIn 0 = .ok (.aload_n 0, 1) := by decide +kernel
theorem dX4_fouledIn_1 : decode cX4_fouledIn 1 = .ok (.iload_n 1, 1) := by decide +kernel
theorem dX4_fouledIn_2 : decode cX4_fouledIn 2 = .ok (.iload_n 2, 1) := by decide +kernel
theorem dX4_fouledIn_3 : decode cX4_fouledIn 3 = .ok (.invokevirtual 27, 3) := by decide +kernel
theorem dX4_fouledIn_6 : decode cX4_fouledIn 6 = .ok (.istore_n 3, 1) := by decide +kernel
theorem dX4_fouledIn_7 : decode cX4_fouledIn 7 = .ok (.iconst 0, 1) := by decide +kernel
theorem dX4_fouledIn_8 : decode cX4_fouledIn 8 = .ok (.istore 4, 2) := by decide +kernel
theorem dX4_fouledIn_10 : decode cX4_fouledIn 10 = .ok (.iconst 0, 1) := by decide +kernel
theorem dX4_fouledIn_11 : decode cX4_fouledIn 11 = .ok (.istore 5, 2) := by decide +kernel
theorem dX4_fouledIn_13 : decode cX4_fouledIn 13 = .ok (.iload 5, 2) := by decide +kernel
theorem dX4_fouledIn_15 : decode cX4_fouledIn 15 = .ok (.iconst 4, 1) := by decide +kernel
theorem dX4_fouledIn_16 : decode cX4_fouledIn 16 = .ok (.if_icmp .ge 42, 3) := by decide +kernel
theorem dX4_fouledIn_19 : decode cX4_fouledIn 19 = .ok (.aload_n 0, 1) := by decide +kernel
theorem dX4_fouledIn_20 : decode cX4_fouledIn 20 = .ok (.getfield 14, 3) := by decide +kernel
theorem dX4_fouledIn_23 : decode cX4_fouledIn 23 = .ok (.iload_n 1, 1) := by decide +kernel
theorem dX4_fouledIn_24 : decode cX4_fouledIn 24 = .ok (.iload_n 2, 1) := by decide +kernel
theorem dX4_fouledIn_25 : decode cX4_fouledIn 25 = .ok (.iload 5, 2) := by decide +kernel
theorem dX4_fouledIn_27 : decode cX4_fouledIn 27 = .ok (.invokestatic 20, 3) := by decide +kernel
theorem dX4_fouledIn_30 : decode cX4_fouledIn 30 = .ok (.invokevirtual 31, 3) := by decide +kernel
theorem dX4_fouledIn_33 : decode cX4_fouledIn 33 = .ok (.istore 6, 2) := by decide +kernel
theorem dX4_fouledIn_35 : decode cX4_fouledIn 35 = .ok (.iload 4, 2) := by decide +kernel
theorem dX4_fouledIn_37 : decode cX4_fouledIn 37 = .ok (.iload 6, 2) := by decide +kernel
theorem dX4_fouledIn_39 : decode cX4_fouledIn 39 = .ok (.iconst (-1), 1) := by decide +kernel
theorem dX4_fouledIn_40 : decode cX4_fouledIn 40 = .ok (.if_icmp .ne 7, 3) := by decide +kernel
theorem dX4_fouledIn_43 : decode cX4_fouledIn 43 = .ok (.iload_n 3, 1) := by decide +kernel
theorem dX4_fouledIn_44 : decode cX4_fouledIn 44 = .ok (.goto 5, 3) := by decide +kernel
theorem dX4_fouledIn_47 : decode cX4_fouledIn 47 = .ok (.iload 6, 2) := by decide +kernel
theorem dX4_fouledIn_49 : decode cX4_fouledIn 49 = .ok (.iadd, 1) := by decide +kernel
theorem dX4_fouledIn_50 : decode cX4_fouledIn 50 = .ok (.istore 4, 2) := by decide +kernel
theorem dX4_fouledIn_52 : decode cX4_fouledIn 52 = .ok (.iinc 5 1, 3) := by decide +kernel
theorem dX4_fouledIn_55 : decode cX4_fouledIn 55 = .ok (.goto (-42), 3) := by decide +kernel
theorem dX4_fouledIn_58 : decode cX4_fouledIn 58 = .ok (.iload 4, 2) := by decide +kernel
theorem dX4_fouledIn_60 : decode cX4_fouledIn 60 = .ok (.ireturn, 1) := by decide +kernel
set_option maxRecDepth 20000 in
theorem ggX4_gapIn_X4_greatest : GoodIn wsX4_gapIn wsX4_greatest := goodIn_r _ [9, 10, 1, 2, 3, 4, 11, 12, 8, 13, 14, 15, 16, 17, 18, 19, 20, 21] (by decide +kernel) (by decide +kernel)
set_option maxRecDepth 20000 in
theorem gX4_gapIn_X4_greatest : GoodIn wsX4_gapIn (wsV RX4 35 RX4 yX4_greatest wsX4_greatest) := goodIn_app (goodIn_of _ (by decide +kernel)) ggX4_gapIn_X4_greatest
theorem dX4_gapIn_0 : decode cX4_gapIn 0 = .ok (.aload_n 0, 1) := by decide +kernel
theorem dX4_gapIn_1 : decode cX4_gapIn 1 = .ok (.iload_n 1, 1) := by decide +kernel
theorem dX4_gapIn_2 : decode cX4_gapIn 2 = .ok (.iload_n 2, 1) := by decide +kernel
theorem dX4_gapIn_3 : decode cX4_gapIn 3 = .ok (.invokevirtual 35, 3) := by decide +kernel
theorem dX4_gapIn_6 : decode cX4_gapIn 6 = .ok (.aload_n 0, 1) := by decide +kernel
theorem dX4_gapIn_7 : decode cX4_gapIn 7 = .ok (.iload_n 1, 1) := by decide +kernel
theorem dX4_gapIn_8 : decode cX4_gapIn 8 = .ok (.iload_n 2, 1) := by decide +kernel
theorem dX4_gapIn_9 : decode cX4_gapIn 9 = .ok (.iconst 1, 1) := by decide +kernel
theorem dX4_gapIn_10 : decode cX4_gapIn 10 = .ok (.isub, 1) := by decide +kernel
theorem dX4_gapIn_11 : decode cX4_gapIn 11 = .ok (.invokevirtual 35, 3) := by decide +kernel
theorem dX4_gapIn_14 : decode cX4_gapIn 14 = .ok (.invokestatic 38, 3) := by decide +kernel
theorem dX4_gapIn_17 : decode cX4_gapIn 17 = .ok (.istore_n 3, 1) := by decide +kernel
theorem dX4_gapIn_18 : decode cX4_gapIn 18 = .ok (.iload_n 3, 1) := by decide +kernel
theorem dX4_gapIn_19 : decode cX4_gapIn 19 = .ok (.iconst (-1), 1) := by decide +kernel
theorem dX4_gapIn_20 : decode cX4_gapIn 20 = .ok (.if_icmp .ne 8, 3) := by decide +kernel
theorem dX4_gapIn_23 : decode cX4_gapIn 23 = .ok (.bipush 10, 2) := by decide +kernel
theorem dX4_gapIn_25 : decode cX4_gapIn 25 = .ok (.goto 17, 3) := by decide +kernel
theorem dX4_gapIn_28 : decode cX4_gapIn 28 = .ok (.iconst 1, 1) := by decide +kernel
theorem dX4_gapIn_29 : decode cX4_gapIn 29 = .ok (.iload_n 3, 1) := by decide +kernel
theorem dX4_gapIn_30 : decode cX4_gapIn 30 = .ok (.bipush 110, 2) := by decide +kernel
theorem dX4_gapIn_32 : decode cX4_gapIn 32 = .ok (.imul, 1) := by decide +kernel
theorem dX4_gapIn_33 : decode cX4_gapIn 33 = .ok (.bipush 99, 2) := by decide +kernel
theorem dX4_gapIn_35 : decode cX4_gapIn 35 = .ok (.iadd, 1) := by decide +kernel
theorem dX4_gapIn_36 : decode cX4_gapIn 36 = .ok (.bipush 100, 2) := by decide +kernel
theorem dX4_gapIn_38 : decode cX4_gapIn 38 = .ok (.idiv, 1) := by decide +kernel
theorem dX4_gapIn_39 : decode cX4_gapIn 39 = .ok (.invokestatic 38, 3) := by decide +kernel
theorem dX4_gapIn_42 : decode cX4_gapIn 42 = .ok (.ireturn, 1) := by decide +kernel
set_option maxRecDepth 20000 in
theorem ggX4_greatest_X4_place : GoodIn wsX4_greatest wsX4_place := goodIn_r _ [9] (by decide +kernel) (by decide +kernel)
set_option maxRecDepth 20000 in
theorem gX4_greatest_X4_place : GoodIn wsX4_greatest (va_wsS RX4 20 yX4_place wsX4_place) := goodIn_app (goodIn_of _ (by decide +kernel)) ggX4_greatest_X4_place
set_option maxRecDepth 20000 in
theorem ggX4_greatest_X6_at : GoodIn wsX4_greatest wsX6_at := goodIn_r _ [14, 15, 17] (by decide +kernel) (by decide +kernel)
set_option maxRecDepth 20000 in
theorem gX4_greatest_X6_at : GoodIn wsX4_greatest (wsV RX4 31 RX6 yX6_at wsX6_at) := goodIn_app (goodIn_of _ (by decide +kernel)) ggX4_greatest_X6_at
theorem dX4_greatest_0 : decode cX4_greatest 0 = .ok (.iconst (-1), 1) := by decide +kernel
theorem dX4_greatest_1 : decode cX4_greatest 1 = .ok (.istore_n 3, 1) := by decide +kernel
theorem dX4_greatest_2 : decode cX4_greatest 2 = .ok (.iconst 0, 1) := by decide +kernel
theorem dX4_greatest_3 : decode cX4_greatest 3 = .ok (.istore 4, 2) := by decide +kernel
theorem dX4_greatest_5 : decode cX4_greatest 5 = .ok (.iload 4, 2) := by decide +kernel
theorem dX4_greatest_7 : decode cX4_greatest 7 = .ok (.iconst 4, 1) := by decide +kernel
theorem dX4_greatest_8 : decode cX4_greatest 8 = .ok (.if_icmp .ge 32, 3) := by decide +kernel
theorem dX4_greatest_11 : decode cX4_greatest 11 = .ok (.iload_n 2, 1) := by decide +kernel
theorem dX4_greatest_12 : decode cX4_greatest 12 = .ok (.ifCond .lt 28, 3) := by decide +kernel
theorem dX4_greatest_15 : decode cX4_greatest 15 = .ok (.iload_n 3, 1) := by decide +kernel
theorem dX4_greatest_16 : decode cX4_greatest 16 = .ok (.aload_n 0, 1) := by decide +kernel
theorem dX4_greatest_17 : decode cX4_greatest 17 = .ok (.getfield 14, 3) := by decide +kernel
theorem dX4_greatest_20 : decode cX4_greatest 20 = .ok (.iload_n 1, 1) := by decide +kernel
theorem dX4_greatest_21 : decode cX4_greatest 21 = .ok (.iload_n 2, 1) := by decide +kernel
theorem dX4_greatest_22 : decode cX4_greatest 22 = .ok (.iload 4, 2) := by decide +kernel
theorem dX4_greatest_24 : decode cX4_greatest 24 = .ok (.invokestatic 20, 3) := by decide +kernel
theorem dX4_greatest_27 : decode cX4_greatest 27 = .ok (.invokevirtual 31, 3) := by decide +kernel
theorem dX4_greatest_30 : decode cX4_greatest 30 = .ok (.invokestatic 38, 3) := by decide +kernel
theorem dX4_greatest_33 : decode cX4_greatest 33 = .ok (.istore_n 3, 1) := by decide +kernel
theorem dX4_greatest_34 : decode cX4_greatest 34 = .ok (.iinc 4 1, 3) := by decide +kernel
theorem dX4_greatest_37 : decode cX4_greatest 37 = .ok (.goto (-32), 3) := by decide +kernel
theorem dX4_greatest_40 : decode cX4_greatest 40 = .ok (.iload_n 3, 1) := by decide +kernel
theorem dX4_greatest_41 : decode cX4_greatest 41 = .ok (.ireturn, 1) := by decide +kernel
theorem dX4_place_0 : decode cX4_place 0 = .ok (.iload_n 0, 1) := by decide +kernel
theorem dX4_place_1 : decode cX4_place 1 = .ok (.bipush 20, 2) := by decide +kernel
theorem dX4_place_3 : decode cX4_place 3 = .ok (.imul, 1) := by decide +kernel
theorem dX4_place_4 : decode cX4_place 4 = .ok (.iload_n 1, 1) := by decide +kernel
theorem dX4_place_5 : decode cX4_place 5 = .ok (.iadd, 1) := by decide +kernel
theorem dX4_place_6 : decode cX4_place 6 = .ok (.iconst 4, 1) := by decide +kernel
theorem dX4_place_7 : decode cX4_place 7 = .ok (.imul, 1) := by decide +kernel
theorem dX4_place_8 : decode cX4_place 8 = .ok (.iload_n 2, 1) := by decide +kernel
theorem dX4_place_9 : decode cX4_place 9 = .ok (.iadd, 1) := by decide +kernel
theorem dX4_place_10 : decode cX4_place 10 = .ok (.ireturn, 1) := by decide +kernel
set_option maxRecDepth 20000 in
theorem ggX5_init_X6_init : GoodIn wsX5_init wsX6_init := goodIn_r _ [17, 18, 2, 3, 19, 20, 21, 22, 23, 24, 25, 26, 27, 28, 29] (by decide +kernel) (by decide +kernel)
set_option maxRecDepth 20000 in
theorem gX5_init_X6_init : GoodIn wsX5_init (wsX6_init) := ggX5_init_X6_init
theorem dX5_init_0 : decode cX5_init 0 = .ok (.aload_n 0, 1) := by decide +kernel
theorem dX5_init_1 : decode cX5_init 1 = .ok (.invokespecial 3, 3) := by decide +kernel
theorem dX5_init_4 : decode cX5_init 4 = .ok (.aload_n 0, 1) := by decide +kernel
theorem dX5_init_5 : decode cX5_init 5 = .ok (.new 9, 3) := by decide +kernel
theorem dX5_init_8 : decode cX5_init 8 = .ok (.dup, 1) := by decide +kernel
theorem dX5_init_9 : decode cX5_init 9 = .ok (.iconst 0, 1) := by decide +kernel
theorem dX5_init_10 : decode cX5_init 10 = .ok (.iconst 0, 1) := by decide +kernel
theorem dX5_init_11 : decode cX5_init 11 = .ok (.invokespecial 11, 3) := by decide +kernel
theorem dX5_init_14 : decode cX5_init 14 = .ok (.putfield 14, 3) := by decide +kernel
theorem dX5_init_17 : decode cX5_init 17 = .ok (.aload_n 0, 1) := by decide +kernel
theorem dX5_init_18 : decode cX5_init 18 = .ok (.new 9, 3) := by decide +kernel
theorem dX5_init_21 : decode cX5_init 21 = .ok (.dup, 1) := by decide +kernel
theorem dX5_init_22 : decode cX5_init 22 = .ok (.iconst 0, 1) := by decide +kernel
theorem dX5_init_23 : decode cX5_init 23 = .ok (.iconst (-1), 1) := by decide +kernel
theorem dX5_init_24 : decode cX5_init 24 = .ok (.invokespecial 11, 3) := by decide +kernel
theorem dX5_init_27 : decode cX5_init 27 = .ok (.putfield 20, 3) := by decide +kernel
theorem dX5_init_30 : decode cX5_init 30 = .ok (.aload_n 0, 1) := by decide +kernel
theorem dX5_init_31 : decode cX5_init 31 = .ok (.new 9, 3) := by decide +kernel
theorem dX5_init_34 : decode cX5_init 34 = .ok (.dup, 1) := by decide +kernel
theorem dX5_init_35 : decode cX5_init 35 = .ok (.iconst 0, 1) := by decide +kernel
theorem dX5_init_36 : decode cX5_init 36 = .ok (.iconst 0, 1) := by decide +kernel
theorem dX5_init_37 : decode cX5_init 37 = .ok (.invokespecial 11, 3) := by decide +kernel
theorem dX5_init_40 : decode cX5_init 40 = .ok (.putfield 23, 3) := by decide +kernel
theorem dX5_init_43 : decode cX5_init 43 = .ok (.aload_n 0, 1) := by decide +kernel
theorem dX5_init_44 : decode cX5_init 44 = .ok (.new 9, 3) := by decide +kernel
theorem dX5_init_47 : decode cX5_init 47 = .ok (.dup, 1) := by decide +kernel
theorem dX5_init_48 : decode cX5_init 48 = .ok (.iconst 0, 1) := by decide +kernel
theorem dX5_init_49 : decode cX5_init 49 = .ok (.iconst (-1), 1) := by decide +kernel
theorem dX5_init_50 : decode cX5_init 50 = .ok (.invokespecial 11, 3) := by decide +kernel
theorem dX5_init_53 : decode cX5_init 53 = .ok (.putfield 26, 3) := by decide +kernel
theorem dX5_init_56 : decode cX5_init 56 = .ok (.aload_n 0, 1) := by decide +kernel
theorem dX5_init_57 : decode cX5_init 57 = .ok (.new 9, 3) := by decide +kernel
theorem dX5_init_60 : decode cX5_init 60 = .ok (.dup, 1) := by decide +kernel
theorem dX5_init_61 : decode cX5_init 61 = .ok (.iconst 0, 1) := by decide +kernel
theorem dX5_init_62 : decode cX5_init 62 = .ok (.iconst (-1), 1) := by decide +kernel
theorem dX5_init_63 : decode cX5_init 63 = .ok (.invokespecial 11, 3) := by decide +kernel
theorem dX5_init_66 : decode cX5_init 66 = .ok (.putfield 29, 3) := by decide +kernel
theorem dX5_init_69 : decode cX5_init 69 = .ok (.aload_n 0, 1) := by decide +kernel
theorem dX5_init_70 : decode cX5_init 70 = .ok (.new 9, 3) := by decide +kernel
theorem dX5_init_73 : decode cX5_init 73 = .ok (.dup, 1) := by decide +kernel
theorem dX5_init_74 : decode cX5_init 74 = .ok (.iconst 0, 1) := by decide +kernel
theorem dX5_init_75 : decode cX5_init 75 = .ok (.iconst 0, 1) := by decide +kernel
theorem dX5_init_76 : decode cX5_init 76 = .ok (.invokespecial 11, 3) := by decide +kernel
theorem dX5_init_79 : decode cX5_init 79 = .ok (.putfield 32, 3) := by decide +kernel
theorem dX5_init_82 : decode cX5_init 82 = .ok (.aload_n 0, 1) := by decide +kernel
theorem dX5_init_83 : decode cX5_init 83 = .ok (.new 9, 3) := by decide +kernel
theorem dX5_init_86 : decode cX5_init 86 = .ok (.dup, 1) := by decide +kernel
theorem dX5_init_87 : decode cX5_init 87 = .ok (.bipush 11, 2) := by decide +kernel
theorem dX5_init_89 : decode cX5_init 89 = .ok (.iconst 0, 1) := by decide +kernel
theorem dX5_init_90 : decode cX5_init 90 = .ok (.invokespecial 11, 3) := by decide +kernel
theorem dX5_init_93 : decode cX5_init 93 = .ok (.putfield 35, 3) := by decide +kernel
theorem dX5_init_96 : decode cX5_init 96 = .ok (.aload_n 0, 1) := by decide +kernel
theorem dX5_init_97 : decode cX5_init 97 = .ok (.new 9, 3) := by decide +kernel
theorem dX5_init_100 : decode cX5_init 100 = .ok (.dup, 1) := by decide +kernel
theorem dX5_init_101 : decode cX5_init 101 = .ok (.bipush 11, 2) := by decide +kernel
theorem dX5_init_103 : decode cX5_init 103 = .ok (.iconst 0, 1) := by decide +kernel
theorem dX5_init_104 : decode cX5_init 104 = .ok (.invokespecial 11, 3) := by decide +kernel
theorem dX5_init_107 : decode cX5_init 107 = .ok (.putfield 38, 3) := by decide +kernel
theorem dX5_init_110 : decode cX5_init 110 = .ok (.return_, 1) := by decide +kernel
theorem dX5_hasRoomFor_0 : decode cX5_hasRoomFor 0 = .ok (.iload_n 1, 1) := by decide +kernel
theorem dX5_hasRoomFor_1 : decode cX5_hasRoomFor 1 = .ok (.sipush 4000, 3) := by decide +kernel
theorem dX5_hasRoomFor_4 : decode cX5_hasRoomFor 4 = .ok (.aload_n 0, 1) := by decide +kernel
theorem dX5_hasRoomFor_5 : decode cX5_hasRoomFor 5 = .ok (.getfield 41, 3) := by decide +kernel
theorem dX5_hasRoomFor_8 : decode cX5_hasRoomFor 8 = .ok (.isub, 1) := by decide +kernel
theorem dX5_hasRoomFor_9 : decode cX5_hasRoomFor 9 = .ok (.if_icmp .gt 7, 3) := by decide +kernel
theorem dX5_hasRoomFor_12 : decode cX5_hasRoomFor 12 = .ok (.iconst 1, 1) := by decide +kernel
theorem dX5_hasRoomFor_13 : decode cX5_hasRoomFor 13 = .ok (.goto 4, 3) := by decide +kernel
theorem dX5_hasRoomFor_16 : decode cX5_hasRoomFor 16 = .ok (.iconst 0, 1) := by decide +kernel
theorem dX5_hasRoomFor_17 : decode cX5_hasRoomFor 17 = .ok (.ireturn, 1) := by decide +kernel
set_option maxRecDepth 20000 in
theorem ggX5_come_X5_makeRoom : GoodIn wsX5_come wsX5_makeRoom := goodIn_r _ [13, 14, 15, 16, 17, 18, 19, 20, 21, 2, 3, 4, 5, 6, 7, 22, 23, 24, 25, 26, 27, 28, 29, 30, 31, 32, 33, 34, 35, 36, 37, 38, 39, 40, 41, 42, 43, 57, 58, 59, 60, 61, 62, 63, 64, 65, 66, 67, 68, 69] (by decide +kernel) (by decide +kernel)
set_option maxRecDepth 20000 in
theorem gX5_come_X5_makeRoom : GoodIn wsX5_come (wsV RX5 45 RX5 yX5_makeRoom wsX5_makeRoom) := goodIn_app (goodIn_of _ (by decide +kernel)) ggX5_come_X5_makeRoom
set_option maxRecDepth 20000 in
theorem ggX5_come_X6_put : GoodIn wsX5_come wsX6_put := goodIn_r _ [47, 27, 69] (by decide +kernel) (by decide +kernel)
set_option maxRecDepth 20000 in
theorem gX5_come_X6_put : GoodIn wsX5_come (wsV RX5 49 RX6 yX6_put wsX6_put) := goodIn_app (goodIn_of _ (by decide +kernel)) ggX5_come_X6_put
set_option maxRecDepth 20000 in
theorem ggX5_come_X6_add : GoodIn wsX5_come wsX6_add := goodIn_r _ [51, 52, 53, 54, 25, 55, 27, 56, 45, 46, 47, 69] (by decide +kernel) (by decide +kernel)
set_option maxRecDepth 20000 in
theorem gX5_come_X6_add : GoodIn wsX5_come (wsV RX5 52 RX6 yX6_add wsX6_add) := goodIn_app (goodIn_of _ (by decide +kernel)) ggX5_come_X6_add
theorem dX5_come_0 : decode cX5_come 0 = .ok (.aload_n 0, 1) := by decide +kernel
theorem dX5_come_1 : decode cX5_come 1 = .ok (.aload_n 0, 1) := by decide +kernel
theorem dX5_come_2 : decode cX5_come 2 = .ok (.getfield 41, 3) := by decide +kernel
theorem dX5_come_5 : decode cX5_come 5 = .ok (.iload_n 1, 1) := by decide +kernel
theorem dX5_come_6 : decode cX5_come 6 = .ok (.iadd, 1) := by decide +kernel
theorem dX5_come_7 : decode cX5_come 7 = .ok (.invokevirtual 45, 3) := by decide +kernel
theorem dX5_come_10 : decode cX5_come 10 = .ok (.iconst 0, 1) := by decide +kernel
theorem dX5_come_11 : decode cX5_come 11 = .ok (.istore 5, 2) := by decide +kernel
theorem dX5_come_13 : decode cX5_come 13 = .ok (.iload 5, 2) := by decide +kernel
theorem dX5_come_15 : decode cX5_come 15 = .ok (.iload_n 1, 1) := by decide +kernel
theorem dX5_come_16 : decode cX5_come 16 = .ok (.if_icmp .ge 92, 3) := by decide +kernel
theorem dX5_come_19 : decode cX5_come 19 = .ok (.aload_n 0, 1) := by decide +kernel
theorem dX5_come_20 : decode cX5_come 20 = .ok (.getfield 14, 3) := by decide +kernel
theorem dX5_come_23 : decode cX5_come 23 = .ok (.aload_n 0, 1) := by decide +kernel
theorem dX5_come_24 : decode cX5_come 24 = .ok (.getfield 41, 3) := by decide +kernel
theorem dX5_come_27 : decode cX5_come 27 = .ok (.iconst 0, 1) := by decide +kernel
theorem dX5_come_28 : decode cX5_come 28 = .ok (.invokevirtual 49, 3) := by decide +kernel
theorem dX5_come_31 : decode cX5_come 31 = .ok (.aload_n 0, 1) := by decide +kernel
theorem dX5_come_32 : decode cX5_come 32 = .ok (.getfield 20, 3) := by decide +kernel
theorem dX5_come_35 : decode cX5_come 35 = .ok (.aload_n 0, 1) := by decide +kernel
theorem dX5_come_36 : decode cX5_come 36 = .ok (.getfield 41, 3) := by decide +kernel
theorem dX5_come_39 : decode cX5_come 39 = .ok (.iload_n 2, 1) := by decide +kernel
theorem dX5_come_40 : decode cX5_come 40 = .ok (.invokevirtual 49, 3) := by decide +kernel
theorem dX5_come_43 : decode cX5_come 43 = .ok (.aload_n 0, 1) := by decide +kernel
theorem dX5_come_44 : decode cX5_come 44 = .ok (.getfield 23, 3) := by decide +kernel
theorem dX5_come_47 : decode cX5_come 47 = .ok (.aload_n 0, 1) := by decide +kernel
theorem dX5_come_48 : decode cX5_come 48 = .ok (.getfield 41, 3) := by decide +kernel
theorem dX5_come_51 : decode cX5_come 51 = .ok (.iload_n 3, 1) := by decide +kernel
theorem dX5_come_52 : decode cX5_come 52 = .ok (.invokevirtual 49, 3) := by decide +kernel
theorem dX5_come_55 : decode cX5_come 55 = .ok (.aload_n 0, 1) := by decide +kernel
theorem dX5_come_56 : decode cX5_come 56 = .ok (.getfield 26, 3) := by decide +kernel
theorem dX5_come_59 : decode cX5_come 59 = .ok (.aload_n 0, 1) := by decide +kernel
theorem dX5_come_60 : decode cX5_come 60 = .ok (.getfield 41, 3) := by decide +kernel
theorem dX5_come_63 : decode cX5_come 63 = .ok (.iconst (-1), 1) := by decide +kernel
theorem dX5_come_64 : decode cX5_come 64 = .ok (.invokevirtual 49, 3) := by decide +kernel
theorem dX5_come_67 : decode cX5_come 67 = .ok (.aload_n 0, 1) := by decide +kernel
theorem dX5_come_68 : decode cX5_come 68 = .ok (.getfield 29, 3) := by decide +kernel
theorem dX5_come_71 : decode cX5_come 71 = .ok (.aload_n 0, 1) := by decide +kernel
theorem dX5_come_72 : decode cX5_come 72 = .ok (.getfield 41, 3) := by decide +kernel
theorem dX5_come_75 : decode cX5_come 75 = .ok (.iload 4, 2) := by decide +kernel
theorem dX5_come_77 : decode cX5_come 77 = .ok (.invokevirtual 49, 3) := by decide +kernel
theorem dX5_come_80 : decode cX5_come 80 = .ok (.aload_n 0, 1) := by decide +kernel
theorem dX5_come_81 : decode cX5_come 81 = .ok (.getfield 32, 3) := by decide +kernel
theorem dX5_come_84 : decode cX5_come 84 = .ok (.aload_n 0, 1) := by decide +kernel
theorem dX5_come_85 : decode cX5_come 85 = .ok (.getfield 41, 3) := by decide +kernel
theorem dX5_come_88 : decode cX5_come 88 = .ok (.iconst 0, 1) := by decide +kernel
theorem dX5_come_89 : decode cX5_come 89 = .ok (.invokevirtual 49, 3) := by decide +kernel
theorem dX5_come_92 : decode cX5_come 92 = .ok (.aload_n 0, 1) := by decide +kernel
theorem dX5_come_93 : decode cX5_come 93 = .ok (.dup, 1) := by decide +kernel
theorem dX5_come_94 : decode cX5_come 94 = .ok (.getfield 41, 3) := by decide +kernel
theorem dX5_come_97 : decode cX5_come 97 = .ok (.iconst 1, 1) := by decide +kernel
theorem dX5_come_98 : decode cX5_come 98 = .ok (.iadd, 1) := by decide +kernel
theorem dX5_come_99 : decode cX5_come 99 = .ok (.putfield 41, 3) := by decide +kernel
theorem dX5_come_102 : decode cX5_come 102 = .ok (.iinc 5 1, 3) := by decide +kernel
theorem dX5_come_105 : decode cX5_come 105 = .ok (.goto (-92), 3) := by decide +kernel
theorem dX5_come_108 : decode cX5_come 108 = .ok (.aload_n 0, 1) := by decide +kernel
theorem dX5_come_109 : decode cX5_come 109 = .ok (.getfield 35, 3) := by decide +kernel
theorem dX5_come_112 : decode cX5_come 112 = .ok (.iload_n 2, 1) := by decide +kernel
theorem dX5_come_113 : decode cX5_come 113 = .ok (.iconst 1, 1) := by decide +kernel
theorem dX5_come_114 : decode cX5_come 114 = .ok (.iadd, 1) := by decide +kernel
theorem dX5_come_115 : decode cX5_come 115 = .ok (.iload_n 1, 1) := by decide +kernel
theorem dX5_come_116 : decode cX5_come 116 = .ok (.invokevirtual 52, 3) := by decide +kernel
theorem dX5_come_119 : decode cX5_come 119 = .ok (.return_, 1) := by decide +kernel
set_option maxRecDepth 20000 in
theorem ggX5_makeRoom_X6_widen : GoodIn wsX5_makeRoom wsX6_widen := goodIn_r _ [19, 20, 21, 22, 23, 24, 25, 26, 27, 28, 29, 30, 31, 32, 7, 4, 8, 33, 34, 35, 36, 49] (by decide +kernel) (by decide +kernel)
set_option maxRecDepth 20000 in
theorem gX5_makeRoom_X6_widen : GoodIn wsX5_makeRoom (wsV RX5 67 RX6 yX6_widen wsX6_widen) := goodIn_app (goodIn_of _ (by decide +kernel)) ggX5_makeRoom_X6_widen
theorem dX5_makeRoom_0 : decode cX5_makeRoom 0 = .ok (.iload_n 1, 1) := by decide +kernel
theorem dX5_makeRoom_1 : decode cX5_makeRoom 1 = .ok (.aload_n 0, 1) := by decide +kernel
theorem dX5_makeRoom_2 : decode cX5_makeRoom 2 = .ok (.getfield 55, 3) := by decide +kernel
theorem dX5_makeRoom_5 : decode cX5_makeRoom 5 = .ok (.if_icmp .gt 4, 3) := by decide +kernel
theorem dX5_makeRoom_8 : decode cX5_makeRoom 8 = .ok (.return_, 1) := by decide +kernel
theorem dX5_makeRoom_9 : decode cX5_makeRoom 9 = .ok (.aload_n 0, 1) := by decide +kernel
theorem dX5_makeRoom_10 : decode cX5_makeRoom 10 = .ok (.sipush 4000, 3) := by decide +kernel
theorem dX5_makeRoom_13 : decode cX5_makeRoom 13 = .ok (.iload_n 1, 1) := by decide +kernel
theorem dX5_makeRoom_14 : decode cX5_makeRoom 14 = .ok (.iconst 2, 1) := by decide +kernel
theorem dX5_makeRoom_15 : decode cX5_makeRoom 15 = .ok (.aload_n 0, 1) := by decide +kernel
theorem dX5_makeRoom_16 : decode cX5_makeRoom 16 = .ok (.getfield 55, 3) := by decide +kernel
theorem dX5_makeRoom_19 : decode cX5_makeRoom 19 = .ok (.imul, 1) := by decide +kernel
theorem dX5_makeRoom_20 : decode cX5_makeRoom 20 = .ok (.invokestatic 58, 3) := by decide +kernel
theorem dX5_makeRoom_23 : decode cX5_makeRoom 23 = .ok (.invokestatic 64, 3) := by decide +kernel
theorem dX5_makeRoom_26 : decode cX5_makeRoom 26 = .ok (.putfield 55, 3) := by decide +kernel
theorem dX5_makeRoom_29 : decode cX5_makeRoom 29 = .ok (.aload_n 0, 1) := by decide +kernel
theorem dX5_makeRoom_30 : decode cX5_makeRoom 30 = .ok (.getfield 14, 3) := by decide +kernel
theorem dX5_makeRoom_33 : decode cX5_makeRoom 33 = .ok (.aload_n 0, 1) := by decide +kernel
theorem dX5_makeRoom_34 : decode cX5_makeRoom 34 = .ok (.getfield 55, 3) := by decide +kernel
theorem dX5_makeRoom_37 : decode cX5_makeRoom 37 = .ok (.invokevirtual 67, 3) := by decide +kernel
theorem dX5_makeRoom_40 : decode cX5_makeRoom 40 = .ok (.aload_n 0, 1) := by decide +kernel
theorem dX5_makeRoom_41 : decode cX5_makeRoom 41 = .ok (.getfield 20, 3) := by decide +kernel
theorem dX5_makeRoom_44 : decode cX5_makeRoom 44 = .ok (.aload_n 0, 1) := by decide +kernel
theorem dX5_makeRoom_45 : decode cX5_makeRoom 45 = .ok (.getfield 55, 3) := by decide +kernel
theorem dX5_makeRoom_48 : decode cX5_makeRoom 48 = .ok (.invokevirtual 67, 3) := by decide +kernel
theorem dX5_makeRoom_51 : decode cX5_makeRoom 51 = .ok (.aload_n 0, 1) := by decide +kernel
theorem dX5_makeRoom_52 : decode cX5_makeRoom 52 = .ok (.getfield 23, 3) := by decide +kernel
theorem dX5_makeRoom_55 : decode cX5_makeRoom 55 = .ok (.aload_n 0, 1) := by decide +kernel
theorem dX5_makeRoom_56 : decode cX5_makeRoom 56 = .ok (.getfield 55, 3) := by decide +kernel
theorem dX5_makeRoom_59 : decode cX5_makeRoom 59 = .ok (.invokevirtual 67, 3) := by decide +kernel
theorem dX5_makeRoom_62 : decode cX5_makeRoom 62 = .ok (.aload_n 0, 1) := by decide +kernel
theorem dX5_makeRoom_63 : decode cX5_makeRoom 63 = .ok (.getfield 26, 3) := by decide +kernel
theorem dX5_makeRoom_66 : decode cX5_makeRoom 66 = .ok (.aload_n 0, 1) := by decide +kernel
theorem dX5_makeRoom_67 : decode cX5_makeRoom 67 = .ok (.getfield 55, 3) := by decide +kernel
theorem dX5_makeRoom_70 : decode cX5_makeRoom 70 = .ok (.invokevirtual 67, 3) := by decide +kernel
theorem dX5_makeRoom_73 : decode cX5_makeRoom 73 = .ok (.aload_n 0, 1) := by decide +kernel
theorem dX5_makeRoom_74 : decode cX5_makeRoom 74 = .ok (.getfield 29, 3) := by decide +kernel
theorem dX5_makeRoom_77 : decode cX5_makeRoom 77 = .ok (.aload_n 0, 1) := by decide +kernel
theorem dX5_makeRoom_78 : decode cX5_makeRoom 78 = .ok (.getfield 55, 3) := by decide +kernel
theorem dX5_makeRoom_81 : decode cX5_makeRoom 81 = .ok (.invokevirtual 67, 3) := by decide +kernel
theorem dX5_makeRoom_84 : decode cX5_makeRoom 84 = .ok (.aload_n 0, 1) := by decide +kernel
theorem dX5_makeRoom_85 : decode cX5_makeRoom 85 = .ok (.getfield 32, 3) := by decide +kernel
theorem dX5_makeRoom_88 : decode cX5_makeRoom 88 = .ok (.aload_n 0, 1) := by decide +kernel
theorem dX5_makeRoom_89 : decode cX5_makeRoom 89 = .ok (.getfield 55, 3) := by decide +kernel
theorem dX5_makeRoom_92 : decode cX5_makeRoom 92 = .ok (.invokevirtual 67, 3) := by decide +kernel
theorem dX5_makeRoom_95 : decode cX5_makeRoom 95 = .ok (.return_, 1) := by decide +kernel
set_option maxRecDepth 20000 in
theorem ggX5_pass_X5_leastOf : GoodIn wsX5_pass wsX5_leastOf := goodIn_r _ [13, 3, 14, 1, 15, 16, 17, 18, 19, 20, 21, 22, 23, 12, 24, 25, 26, 27, 28, 29, 36, 37, 38, 39, 40, 41, 42, 43, 44, 45, 46, 47, 48] (by decide +kernel) (by decide +kernel)
set_option maxRecDepth 20000 in
theorem gX5_pass_X5_leastOf : GoodIn wsX5_pass (wsV RX5 70 RX5 yX5_leastOf wsX5_leastOf) := goodIn_app (goodIn_of _ (by decide +kernel)) ggX5_pass_X5_leastOf
set_option maxRecDepth 20000 in
theorem ggX5_pass_X6_put : GoodIn wsX5_pass wsX6_put := goodIn_r _ [29, 20, 48] (by decide +kernel) (by decide +kernel)
set_option maxRecDepth 20000 in
theorem gX5_pass_X6_put : GoodIn wsX5_pass (wsV RX5 49 RX6 yX6_put wsX6_put) := goodIn_app (goodIn_of _ (by decide +kernel)) ggX5_pass_X6_put
set_option maxRecDepth 20000 in
theorem ggX5_pass_X6_add : GoodIn wsX5_pass wsX6_add := goodIn_r _ [33, 34, 16, 17, 18, 19, 20, 35, 27, 28, 29, 48] (by decide +kernel) (by decide +kernel)
set_option maxRecDepth 20000 in
theorem gX5_pass_X6_add : GoodIn wsX5_pass (wsV RX5 52 RX6 yX6_add wsX6_add) := goodIn_app (goodIn_of _ (by decide +kernel)) ggX5_pass_X6_add
set_option maxRecDepth 20000 in
theorem ggX5_pass_X6_at : GoodIn wsX5_pass wsX6_at := goodIn_r _ [19, 20, 48] (by decide +kernel) (by decide +kernel)
set_option maxRecDepth 20000 in
theorem gX5_pass_X6_at : GoodIn wsX5_pass (wsV RX5 74 RX6 yX6_at wsX6_at) := goodIn_app (goodIn_of _ (by decide +kernel)) ggX5_pass_X6_at
theorem dX5_pass_0 : decode cX5_pass 0 = .ok (.iconst 0, 1) := by decide +kernel
theorem dX5_pass_1 : decode cX5_pass 1 = .ok (.istore 4, 2) := by decide +kernel
theorem dX5_pass_3 : decode cX5_pass 3 = .ok (.iload 4, 2) := by decide +kernel
theorem dX5_pass_5 : decode cX5_pass 5 = .ok (.iload_n 3, 1) := by decide +kernel
theorem dX5_pass_6 : decode cX5_pass 6 = .ok (.if_icmp .ge 61, 3) := by decide +kernel
theorem dX5_pass_9 : decode cX5_pass 9 = .ok (.aload_n 0, 1) := by decide +kernel
theorem dX5_pass_10 : decode cX5_pass 10 = .ok (.iload_n 1, 1) := by decide +kernel
theorem dX5_pass_11 : decode cX5_pass 11 = .ok (.invokevirtual 70, 3) := by decide +kernel
theorem dX5_pass_14 : decode cX5_pass 14 = .ok (.istore 5, 2) := by decide +kernel
theorem dX5_pass_16 : decode cX5_pass 16 = .ok (.aload_n 0, 1) := by decide +kernel
theorem dX5_pass_17 : decode cX5_pass 17 = .ok (.getfield 20, 3) := by decide +kernel
theorem dX5_pass_20 : decode cX5_pass 20 = .ok (.iload 5, 2) := by decide +kernel
theorem dX5_pass_22 : decode cX5_pass 22 = .ok (.iload_n 2, 1) := by decide +kernel
theorem dX5_pass_23 : decode cX5_pass 23 = .ok (.invokevirtual 49, 3) := by decide +kernel
theorem dX5_pass_26 : decode cX5_pass 26 = .ok (.aload_n 0, 1) := by decide +kernel
theorem dX5_pass_27 : decode cX5_pass 27 = .ok (.getfield 32, 3) := by decide +kernel
theorem dX5_pass_30 : decode cX5_pass 30 = .ok (.iload 5, 2) := by decide +kernel
theorem dX5_pass_32 : decode cX5_pass 32 = .ok (.iconst 1, 1) := by decide +kernel
theorem dX5_pass_33 : decode cX5_pass 33 = .ok (.invokevirtual 52, 3) := by decide +kernel
theorem dX5_pass_36 : decode cX5_pass 36 = .ok (.aload_n 0, 1) := by decide +kernel
theorem dX5_pass_37 : decode cX5_pass 37 = .ok (.getfield 38, 3) := by decide +kernel
theorem dX5_pass_40 : decode cX5_pass 40 = .ok (.iload_n 2, 1) := by decide +kernel
theorem dX5_pass_41 : decode cX5_pass 41 = .ok (.iconst 1, 1) := by decide +kernel
theorem dX5_pass_42 : decode cX5_pass 42 = .ok (.iadd, 1) := by decide +kernel
theorem dX5_pass_43 : decode cX5_pass 43 = .ok (.aload_n 0, 1) := by decide +kernel
theorem dX5_pass_44 : decode cX5_pass 44 = .ok (.getfield 38, 3) := by decide +kernel
theorem dX5_pass_47 : decode cX5_pass 47 = .ok (.iload_n 2, 1) := by decide +kernel
theorem dX5_pass_48 : decode cX5_pass 48 = .ok (.iconst 1, 1) := by decide +kernel
theorem dX5_pass_49 : decode cX5_pass 49 = .ok (.iadd, 1) := by decide +kernel
theorem dX5_pass_50 : decode cX5_pass 50 = .ok (.invokevirtual 74, 3) := by decide +kernel
theorem dX5_pass_53 : decode cX5_pass 53 = .ok (.iload 5, 2) := by decide +kernel
theorem dX5_pass_55 : decode cX5_pass 55 = .ok (.invokestatic 64, 3) := by decide +kernel
theorem dX5_pass_58 : decode cX5_pass 58 = .ok (.invokevirtual 49, 3) := by decide +kernel
theorem dX5_pass_61 : decode cX5_pass 61 = .ok (.iinc 4 1, 3) := by decide +kernel
theorem dX5_pass_64 : decode cX5_pass 64 = .ok (.goto (-61), 3) := by decide +kernel
theorem dX5_pass_67 : decode cX5_pass 67 = .ok (.aload_n 0, 1) := by decide +kernel
theorem dX5_pass_68 : decode cX5_pass 68 = .ok (.getfield 35, 3) := by decide +kernel
theorem dX5_pass_71 : decode cX5_pass 71 = .ok (.iload_n 1, 1) := by decide +kernel
theorem dX5_pass_72 : decode cX5_pass 72 = .ok (.iconst 1, 1) := by decide +kernel
theorem dX5_pass_73 : decode cX5_pass 73 = .ok (.iadd, 1) := by decide +kernel
theorem dX5_pass_74 : decode cX5_pass 74 = .ok (.iload_n 3, 1) := by decide +kernel
theorem dX5_pass_75 : decode cX5_pass 75 = .ok (.ineg, 1) := by decide +kernel
theorem dX5_pass_76 : decode cX5_pass 76 = .ok (.invokevirtual 52, 3) := by decide +kernel
theorem dX5_pass_79 : decode cX5_pass 79 = .ok (.aload_n 0, 1) := by decide +kernel
theorem dX5_pass_80 : decode cX5_pass 80 = .ok (.getfield 35, 3) := by decide +kernel
theorem dX5_pass_83 : decode cX5_pass 83 = .ok (.iload_n 2, 1) := by decide +kernel
theorem dX5_pass_84 : decode cX5_pass 84 = .ok (.iconst 1, 1) := by decide +kernel
theorem dX5_pass_85 : decode cX5_pass 85 = .ok (.iadd, 1) := by decide +kernel
theorem dX5_pass_86 : decode cX5_pass 86 = .ok (.iload_n 3, 1) := by decide +kernel
theorem dX5_pass_87 : decode cX5_pass 87 = .ok (.invokevirtual 52, 3) := by decide +kernel
theorem dX5_pass_90 : decode cX5_pass 90 = .ok (.return_, 1) := by decide +kernel
set_option maxRecDepth 20000 in
theorem ggX5_use_X5_leastOf : GoodIn wsX5_use wsX5_leastOf := goodIn_r _ [9, 10, 11, 12, 13, 14, 15, 16, 17, 18, 19, 20, 21, 8, 22, 1, 23, 24, 25, 26, 33, 34, 35, 36, 37, 38, 39, 40, 41, 42, 43, 44, 45] (by decide +kernel) (by decide +kernel)
set_option maxRecDepth 20000 in
theorem gX5_use_X5_leastOf : GoodIn wsX5_use (wsV RX5 70 RX5 yX5_leastOf wsX5_leastOf) := goodIn_app (goodIn_of _ (by decide +kernel)) ggX5_use_X5_leastOf
set_option maxRecDepth 20000 in
theorem ggX5_use_X6_put : GoodIn wsX5_use wsX6_put := goodIn_r _ [26, 18, 45] (by decide +kernel) (by decide +kernel)
set_option maxRecDepth 20000 in
theorem gX5_use_X6_put : GoodIn wsX5_use (wsV RX5 49 RX6 yX6_put wsX6_put) := goodIn_app (goodIn_of _ (by decide +kernel)) ggX5_use_X6_put
set_option maxRecDepth 20000 in
theorem ggX5_use_X6_add : GoodIn wsX5_use wsX6_add := goodIn_r _ [30, 31, 14, 15, 16, 17, 18, 32, 24, 25, 26, 45] (by decide +kernel) (by decide +kernel)
set_option maxRecDepth 20000 in
theorem gX5_use_X6_add : GoodIn wsX5_use (wsV RX5 52 RX6 yX6_add wsX6_add) := goodIn_app (goodIn_of _ (by decide +kernel)) ggX5_use_X6_add
theorem dX5_use_0 : decode cX5_use 0 = .ok (.iconst 0, 1) := by decide +kernel
theorem dX5_use_1 : decode cX5_use 1 = .ok (.istore 4, 2) := by decide +kernel
theorem dX5_use_3 : decode cX5_use 3 = .ok (.iload 4, 2) := by decide +kernel
theorem dX5_use_5 : decode cX5_use 5 = .ok (.iload_n 2, 1) := by decide +kernel
theorem dX5_use_6 : decode cX5_use 6 = .ok (.if_icmp .ge 36, 3) := by decide +kernel
theorem dX5_use_9 : decode cX5_use 9 = .ok (.aload_n 0, 1) := by decide +kernel
theorem dX5_use_10 : decode cX5_use 10 = .ok (.iload_n 1, 1) := by decide +kernel
theorem dX5_use_11 : decode cX5_use 11 = .ok (.invokevirtual 70, 3) := by decide +kernel
theorem dX5_use_14 : decode cX5_use 14 = .ok (.istore 5, 2) := by decide +kernel
theorem dX5_use_16 : decode cX5_use 16 = .ok (.aload_n 0, 1) := by decide +kernel
theorem dX5_use_17 : decode cX5_use 17 = .ok (.getfield 14, 3) := by decide +kernel
theorem dX5_use_20 : decode cX5_use 20 = .ok (.iload 5, 2) := by decide +kernel
theorem dX5_use_22 : decode cX5_use 22 = .ok (.iconst 1, 1) := by decide +kernel
theorem dX5_use_23 : decode cX5_use 23 = .ok (.invokevirtual 49, 3) := by decide +kernel
theorem dX5_use_26 : decode cX5_use 26 = .ok (.aload_n 0, 1) := by decide +kernel
theorem dX5_use_27 : decode cX5_use 27 = .ok (.getfield 26, 3) := by decide +kernel
theorem dX5_use_30 : decode cX5_use 30 = .ok (.iload 5, 2) := by decide +kernel
theorem dX5_use_32 : decode cX5_use 32 = .ok (.iload_n 3, 1) := by decide +kernel
theorem dX5_use_33 : decode cX5_use 33 = .ok (.invokevirtual 49, 3) := by decide +kernel
theorem dX5_use_36 : decode cX5_use 36 = .ok (.iinc 4 1, 3) := by decide +kernel
theorem dX5_use_39 : decode cX5_use 39 = .ok (.goto (-36), 3) := by decide +kernel
theorem dX5_use_42 : decode cX5_use 42 = .ok (.aload_n 0, 1) := by decide +kernel
theorem dX5_use_43 : decode cX5_use 43 = .ok (.getfield 35, 3) := by decide +kernel
theorem dX5_use_46 : decode cX5_use 46 = .ok (.iload_n 1, 1) := by decide +kernel
theorem dX5_use_47 : decode cX5_use 47 = .ok (.iconst 1, 1) := by decide +kernel
theorem dX5_use_48 : decode cX5_use 48 = .ok (.iadd, 1) := by decide +kernel
theorem dX5_use_49 : decode cX5_use 49 = .ok (.iload_n 2, 1) := by decide +kernel
theorem dX5_use_50 : decode cX5_use 50 = .ok (.ineg, 1) := by decide +kernel
theorem dX5_use_51 : decode cX5_use 51 = .ok (.invokevirtual 52, 3) := by decide +kernel
theorem dX5_use_54 : decode cX5_use 54 = .ok (.aload_n 0, 1) := by decide +kernel
theorem dX5_use_55 : decode cX5_use 55 = .ok (.dup, 1) := by decide +kernel
theorem dX5_use_56 : decode cX5_use 56 = .ok (.getfield 77, 3) := by decide +kernel
theorem dX5_use_59 : decode cX5_use 59 = .ok (.iload_n 2, 1) := by decide +kernel
theorem dX5_use_60 : decode cX5_use 60 = .ok (.iadd, 1) := by decide +kernel
theorem dX5_use_61 : decode cX5_use 61 = .ok (.putfield 77, 3) := by decide +kernel
theorem dX5_use_64 : decode cX5_use 64 = .ok (.return_, 1) := by decide +kernel
set_option maxRecDepth 20000 in
theorem ggX5_strike_X5_leastOf : GoodIn wsX5_strike wsX5_leastOf := goodIn_r _ [5, 6, 7, 8, 9, 10, 11, 12, 13, 14, 15, 16, 17, 4, 18, 19, 20, 21, 22, 23, 36, 37, 38, 39, 40, 41, 42, 43, 44, 45, 46, 47, 48] (by decide +kernel) (by decide +kernel)
set_option maxRecDepth 20000 in
theorem gX5_strike_X5_leastOf : GoodIn wsX5_strike (wsV RX5 70 RX5 yX5_leastOf wsX5_leastOf) := goodIn_app (goodIn_of _ (by decide +kernel)) ggX5_strike_X5_leastOf
set_option maxRecDepth 20000 in
theorem ggX5_strike_X5_strikeOne : GoodIn wsX5_strike wsX5_strikeOne := goodIn_r _ [27, 19, 28, 8, 29, 20, 21, 22, 12, 23, 14, 9, 10, 11, 13, 30, 31, 32, 33, 34, 35, 36, 37, 38, 39, 40, 41, 42, 43, 44, 45, 46, 47, 48] (by decide +kernel) (by decide +kernel)
set_option maxRecDepth 20000 in
theorem gX5_strike_X5_strikeOne : GoodIn wsX5_strike (wsV RX5 80 RX5 yX5_strikeOne wsX5_strikeOne) := goodIn_app (goodIn_of _ (by decide +kernel)) ggX5_strike_X5_strikeOne
theorem dX5_strike_0 : decode cX5_strike 0 = .ok (.iconst 0, 1) := by decide +kernel
theorem dX5_strike_1 : decode cX5_strike 1 = .ok (.istore_n 3, 1) := by decide +kernel
theorem dX5_strike_2 : decode cX5_strike 2 = .ok (.iload_n 3, 1) := by decide +kernel
theorem dX5_strike_3 : decode cX5_strike 3 = .ok (.iload_n 2, 1) := by decide +kernel
theorem dX5_strike_4 : decode cX5_strike 4 = .ok (.if_icmp .ge 18, 3) := by decide +kernel
theorem dX5_strike_7 : decode cX5_strike 7 = .ok (.aload_n 0, 1) := by decide +kernel
theorem dX5_strike_8 : decode cX5_strike 8 = .ok (.aload_n 0, 1) := by decide +kernel
theorem dX5_strike_9 : decode cX5_strike 9 = .ok (.iload_n 1, 1) := by decide +kernel
theorem dX5_strike_10 : decode cX5_strike 10 = .ok (.invokevirtual 70, 3) := by decide +kernel
theorem dX5_strike_13 : decode cX5_strike 13 = .ok (.invokevirtual 80, 3) := by decide +kernel
theorem dX5_strike_16 : decode cX5_strike 16 = .ok (.iinc 3 1, 3) := by decide +kernel
theorem dX5_strike_19 : decode cX5_strike 19 = .ok (.goto (-17), 3) := by decide +kernel
theorem dX5_strike_22 : decode cX5_strike 22 = .ok (.return_, 1) := by decide +kernel
set_option maxRecDepth 20000 in
theorem ggX5_strikeOne_X6_put : GoodIn wsX5_strikeOne wsX6_put := goodIn_r _ [9, 10, 33] (by decide +kernel) (by decide +kernel)
set_option maxRecDepth 20000 in
theorem gX5_strikeOne_X6_put : GoodIn wsX5_strikeOne (wsV RX5 49 RX6 yX6_put wsX6_put) := goodIn_app (goodIn_of _ (by decide +kernel)) ggX5_strikeOne_X6_put
set_option maxRecDepth 20000 in
theorem ggX5_strikeOne_X6_at : GoodIn wsX5_strikeOne wsX6_at := goodIn_r _ [14, 10, 33] (by decide +kernel) (by decide +kernel)
set_option maxRecDepth 20000 in
theorem gX5_strikeOne_X6_at : GoodIn wsX5_strikeOne (wsV RX5 74 RX6 yX6_at wsX6_at) := goodIn_app (goodIn_of _ (by decide +kernel)) ggX5_strikeOne_X6_at
set_option maxRecDepth 20000 in
theorem ggX5_strikeOne_X6_add : GoodIn wsX5_strikeOne wsX6_add := goodIn_r _ [18, 19, 12, 13, 8, 14, 10, 20, 6, 7, 9, 33] (by decide +kernel) (by decide +kernel)
set_option maxRecDepth 20000 in
theorem gX5_strikeOne_X6_add : GoodIn wsX5_strikeOne (wsV RX5 52 RX6 yX6_add wsX6_add) := goodIn_app (goodIn_of _ (by decide +kernel)) ggX5_strikeOne_X6_add
theorem dX5_strikeOne_0 : decode cX5_strikeOne 0 = .ok (.aload_n 0, 1) := by decide +kernel
theorem dX5_strikeOne_1 : decode cX5_strikeOne 1 = .ok (.getfield 14, 3) := by decide +kernel
theorem dX5_strikeOne_4 : decode cX5_strikeOne 4 = .ok (.iload_n 1, 1) := by decide +kernel
theorem dX5_strikeOne_5 : decode cX5_strikeOne 5 = .ok (.iconst 2, 1) := by decide +kernel
theorem dX5_strikeOne_6 : decode cX5_strikeOne 6 = .ok (.invokevirtual 49, 3) := by decide +kernel
theorem dX5_strikeOne_9 : decode cX5_strikeOne 9 = .ok (.aload_n 0, 1) := by decide +kernel
theorem dX5_strikeOne_10 : decode cX5_strikeOne 10 = .ok (.getfield 35, 3) := by decide +kernel
theorem dX5_strikeOne_13 : decode cX5_strikeOne 13 = .ok (.aload_n 0, 1) := by decide +kernel
theorem dX5_strikeOne_14 : decode cX5_strikeOne 14 = .ok (.getfield 20, 3) := by decide +kernel
theorem dX5_strikeOne_17 : decode cX5_strikeOne 17 = .ok (.iload_n 1, 1) := by decide +kernel
theorem dX5_strikeOne_18 : decode cX5_strikeOne 18 = .ok (.invokevirtual 74, 3) := by decide +kernel
theorem dX5_strikeOne_21 : decode cX5_strikeOne 21 = .ok (.iconst 1, 1) := by decide +kernel
theorem dX5_strikeOne_22 : decode cX5_strikeOne 22 = .ok (.iadd, 1) := by decide +kernel
theorem dX5_strikeOne_23 : decode cX5_strikeOne 23 = .ok (.iconst (-1), 1) := by decide +kernel
theorem dX5_strikeOne_24 : decode cX5_strikeOne 24 = .ok (.invokevirtual 52, 3) := by decide +kernel
theorem dX5_strikeOne_27 : decode cX5_strikeOne 27 = .ok (.aload_n 0, 1) := by decide +kernel
theorem dX5_strikeOne_28 : decode cX5_strikeOne 28 = .ok (.dup, 1) := by decide +kernel
theorem dX5_strikeOne_29 : decode cX5_strikeOne 29 = .ok (.getfield 83, 3) := by decide +kernel
theorem dX5_strikeOne_32 : decode cX5_strikeOne 32 = .ok (.iconst 1, 1) := by decide +kernel
theorem dX5_strikeOne_33 : decode cX5_strikeOne 33 = .ok (.iadd, 1) := by decide +kernel
theorem dX5_strikeOne_34 : decode cX5_strikeOne 34 = .ok (.putfield 83, 3) := by decide +kernel
theorem dX5_strikeOne_37 : decode cX5_strikeOne 37 = .ok (.return_, 1) := by decide +kernel
set_option maxRecDepth 20000 in
theorem ggX5_leastOf_X6_at : GoodIn wsX5_leastOf wsX6_at := goodIn_r _ [8, 9, 32] (by decide +kernel) (by decide +kernel)
set_option maxRecDepth 20000 in
theorem gX5_leastOf_X6_at : GoodIn wsX5_leastOf (wsV RX5 74 RX6 yX6_at wsX6_at) := goodIn_app (goodIn_of _ (by decide +kernel)) ggX5_leastOf_X6_at
set_option maxRecDepth 20000 in
theorem ggX5_leastOf_X5_isHeld : GoodIn wsX5_leastOf wsX5_isHeld := goodIn_r _ [14, 15, 4, 5, 6, 7, 8, 9, 20, 21, 22, 23, 24, 25, 26, 27, 28, 29, 30, 31, 32] (by decide +kernel) (by decide +kernel)
set_option maxRecDepth 20000 in
theorem gX5_leastOf_X5_isHeld : GoodIn wsX5_leastOf (wsV RX5 86 RX5 yX5_isHeld wsX5_isHeld) := goodIn_app (goodIn_of _ (by decide +kernel)) ggX5_leastOf_X5_isHeld
set_option maxRecDepth 20000 in
theorem ggX5_leastOf_X6_put : GoodIn wsX5_leastOf wsX6_put := goodIn_r _ [19, 9, 32] (by decide +kernel) (by decide +kernel)
set_option maxRecDepth 20000 in
theorem gX5_leastOf_X6_put : GoodIn wsX5_leastOf (wsV RX5 49 RX6 yX6_put wsX6_put) := goodIn_app (goodIn_of _ (by decide +kernel)) ggX5_leastOf_X6_put
theorem dX5_leastOf_0 : decode cX5_leastOf 0 = .ok (.aload_n 0, 1) := by decide +kernel
theorem dX5_leastOf_1 : decode cX5_leastOf 1 = .ok (.getfield 38, 3) := by decide +kernel
theorem dX5_leastOf_4 : decode cX5_leastOf 4 = .ok (.iload_n 1, 1) := by decide +kernel
theorem dX5_leastOf_5 : decode cX5_leastOf 5 = .ok (.iconst 1, 1) := by decide +kernel
theorem dX5_leastOf_6 : decode cX5_leastOf 6 = .ok (.iadd, 1) := by decide +kernel
theorem dX5_leastOf_7 : decode cX5_leastOf 7 = .ok (.invokevirtual 74, 3) := by decide +kernel
theorem dX5_leastOf_10 : decode cX5_leastOf 10 = .ok (.istore_n 2, 1) := by decide +kernel
theorem dX5_leastOf_11 : decode cX5_leastOf 11 = .ok (.iload_n 2, 1) := by decide +kernel
theorem dX5_leastOf_12 : decode cX5_leastOf 12 = .ok (.aload_n 0, 1) := by decide +kernel
theorem dX5_leastOf_13 : decode cX5_leastOf 13 = .ok (.getfield 41, 3) := by decide +kernel
theorem dX5_leastOf_16 : decode cX5_leastOf 16 = .ok (.if_icmp .ge 29, 3) := by decide +kernel
theorem dX5_leastOf_19 : decode cX5_leastOf 19 = .ok (.aload_n 0, 1) := by decide +kernel
theorem dX5_leastOf_20 : decode cX5_leastOf 20 = .ok (.iload_n 2, 1) := by decide +kernel
theorem dX5_leastOf_21 : decode cX5_leastOf 21 = .ok (.invokevirtual 86, 3) := by decide +kernel
theorem dX5_leastOf_24 : decode cX5_leastOf 24 = .ok (.ifCond .eq 15, 3) := by decide +kernel
theorem dX5_leastOf_27 : decode cX5_leastOf 27 = .ok (.aload_n 0, 1) := by decide +kernel
theorem dX5_leastOf_28 : decode cX5_leastOf 28 = .ok (.getfield 20, 3) := by decide +kernel
theorem dX5_leastOf_31 : decode cX5_leastOf 31 = .ok (.iload_n 2, 1) := by decide +kernel
theorem dX5_leastOf_32 : decode cX5_leastOf 32 = .ok (.invokevirtual 74, 3) := by decide +kernel
theorem dX5_leastOf_35 : decode cX5_leastOf 35 = .ok (.iload_n 1, 1) := by decide +kernel
theorem dX5_leastOf_36 : decode cX5_leastOf 36 = .ok (.if_icmp .eq 9, 3) := by decide +kernel
theorem dX5_leastOf_39 : decode cX5_leastOf 39 = .ok (.iinc 2 1, 3) := by decide +kernel
theorem dX5_leastOf_42 : decode cX5_leastOf 42 = .ok (.goto (-31), 3) := by decide +kernel
theorem dX5_leastOf_45 : decode cX5_leastOf 45 = .ok (.aload_n 0, 1) := by decide +kernel
theorem dX5_leastOf_46 : decode cX5_leastOf 46 = .ok (.getfield 38, 3) := by decide +kernel
theorem dX5_leastOf_49 : decode cX5_leastOf 49 = .ok (.iload_n 1, 1) := by decide +kernel
theorem dX5_leastOf_50 : decode cX5_leastOf 50 = .ok (.iconst 1, 1) := by decide +kernel
theorem dX5_leastOf_51 : decode cX5_leastOf 51 = .ok (.iadd, 1) := by decide +kernel
theorem dX5_leastOf_52 : decode cX5_leastOf 52 = .ok (.iload_n 2, 1) := by decide +kernel
theorem dX5_leastOf_53 : decode cX5_leastOf 53 = .ok (.invokevirtual 49, 3) := by decide +kernel
theorem dX5_leastOf_56 : decode cX5_leastOf 56 = .ok (.iload_n 2, 1) := by decide +kernel
theorem dX5_leastOf_57 : decode cX5_leastOf 57 = .ok (.ireturn, 1) := by decide +kernel
set_option maxRecDepth 20000 in
theorem ggX5_isHeld_X6_at : GoodIn wsX5_isHeld wsX6_at := goodIn_r _ [6, 7, 20] (by decide +kernel) (by decide +kernel)
set_option maxRecDepth 20000 in
theorem gX5_isHeld_X6_at : GoodIn wsX5_isHeld (wsV RX5 74 RX6 yX6_at wsX6_at) := goodIn_app (goodIn_of _ (by decide +kernel)) ggX5_isHeld_X6_at
theorem dX5_isHeld_0 : decode cX5_isHeld 0 = .ok (.aload_n 0, 1) := by decide +kernel
theorem dX5_isHeld_1 : decode cX5_isHeld 1 = .ok (.getfield 14, 3) := by decide +kernel
theorem dX5_isHeld_4 : decode cX5_isHeld 4 = .ok (.iload_n 1, 1) := by decide +kernel
theorem dX5_isHeld_5 : decode cX5_isHeld 5 = .ok (.invokevirtual 74, 3) := by decide +kernel
theorem dX5_isHeld_8 : decode cX5_isHeld 8 = .ok (.ifCond .ne 7, 3) := by decide +kernel
theorem dX5_isHeld_11 : decode cX5_isHeld 11 = .ok (.iconst 1, 1) := by decide +kernel
theorem dX5_isHeld_12 : decode cX5_isHeld 12 = .ok (.goto 4, 3) := by decide +kernel
theorem dX5_isHeld_15 : decode cX5_isHeld 15 = .ok (.iconst 0, 1) := by decide +kernel
theorem dX5_isHeld_16 : decode cX5_isHeld 16 = .ok (.ireturn, 1) := by decide +kernel
set_option maxRecDepth 20000 in
theorem ggX5_holderOf_X6_at : GoodIn wsX5_holderOf wsX6_at := goodIn_r _ [6, 7, 20] (by decide +kernel) (by decide +kernel)
set_option maxRecDepth 20000 in
theorem gX5_holderOf_X6_at : GoodIn wsX5_holderOf (wsV RX5 74 RX6 yX6_at wsX6_at) := goodIn_app (goodIn_of _ (by decide +kernel)) ggX5_holderOf_X6_at
theorem dX5_holderOf_0 : decode cX5_holderOf 0 = .ok (.aload_n 0, 1) := by decide +kernel
theorem dX5_holderOf_1 : decode cX5_holderOf 1 = .ok (.getfield 20, 3) := by decide +kernel
theorem dX5_holderOf_4 : decode cX5_holderOf 4 = .ok (.iload_n 1, 1) := by decide +kernel
theorem dX5_holderOf_5 : decode cX5_holderOf 5 = .ok (.invokevirtual 74, 3) := by decide +kernel
theorem dX5_holderOf_8 : decode cX5_holderOf 8 = .ok (.ireturn, 1) := by decide +kernel
set_option maxRecDepth 20000 in
theorem ggX5_projectOf_X6_at : GoodIn wsX5_projectOf wsX6_at := goodIn_r _ [6, 7, 20] (by decide +kernel) (by decide +kernel)
set_option maxRecDepth 20000 in
theorem gX5_projectOf_X6_at : GoodIn wsX5_projectOf (wsV RX5 74 RX6 yX6_at wsX6_at) := goodIn_app (goodIn_of _ (by decide +kernel)) ggX5_projectOf_X6_at
theorem dX5_projectOf_0 : decode cX5_projectOf 0 = .ok (.aload_n 0, 1) := by decide +kernel
theorem dX5_projectOf_1 : decode cX5_projectOf 1 = .ok (.getfield 29, 3) := by decide +kernel
theorem dX5_projectOf_4 : decode cX5_projectOf 4 = .ok (.iload_n 1, 1) := by decide +kernel
theorem dX5_projectOf_5 : decode cX5_projectOf 5 = .ok (.invokevirtual 74, 3) := by decide +kernel
theorem dX5_projectOf_8 : decode cX5_projectOf 8 = .ok (.ireturn, 1) := by decide +kernel
set_option maxRecDepth 20000 in
theorem ggX5_heldBy_X6_at : GoodIn wsX5_heldBy wsX6_at := goodIn_r _ [6, 7, 20] (by decide +kernel) (by decide +kernel)
set_option maxRecDepth 20000 in
theorem gX5_heldBy_X6_at : GoodIn wsX5_heldBy (wsV RX5 74 RX6 yX6_at wsX6_at) := goodIn_app (goodIn_of _ (by decide +kernel)) ggX5_heldBy_X6_at
theorem dX5_heldBy_0 : decode cX5_heldBy 0 = .ok (.aload_n 0, 1) := by decide +kernel
theorem dX5_heldBy_1 : decode cX5_heldBy 1 = .ok (.getfield 35, 3) := by decide +kernel
theorem dX5_heldBy_4 : decode cX5_heldBy 4 = .ok (.iload_n 1, 1) := by decide +kernel
theorem dX5_heldBy_5 : decode cX5_heldBy 5 = .ok (.iconst 1, 1) := by decide +kernel
theorem dX5_heldBy_6 : decode cX5_heldBy 6 = .ok (.iadd, 1) := by decide +kernel
theorem dX5_heldBy_7 : decode cX5_heldBy 7 = .ok (.invokevirtual 74, 3) := by decide +kernel
theorem dX5_heldBy_10 : decode cX5_heldBy 10 = .ok (.ireturn, 1) := by decide +kernel
set_option maxRecDepth 20000 in
theorem ggX5_heldByWorks_X5_heldBy : GoodIn wsX5_heldByWorks wsX5_heldBy := goodIn_r _ [8, 9, 10, 11, 12, 13, 14, 15, 16, 17, 18, 19, 20, 21, 22, 23, 24, 25, 26, 27, 28] (by decide +kernel) (by decide +kernel)
set_option maxRecDepth 20000 in
theorem gX5_heldByWorks_X5_heldBy : GoodIn wsX5_heldByWorks (wsV RX5 90 RX5 yX5_heldBy wsX5_heldBy) := goodIn_app (goodIn_of _ (by decide +kernel)) ggX5_heldByWorks_X5_heldBy
theorem dX5_heldByWorks_0 : decode cX5_heldByWorks 0 = .ok (.aload_n 0, 1) := by decide +kernel
theorem dX5_heldByWorks_1 : decode cX5_heldByWorks 1 = .ok (.getfield 41, 3) := by decide +kernel
theorem dX5_heldByWorks_4 : decode cX5_heldByWorks 4 = .ok (.aload_n 0, 1) := by decide +kernel
theorem dX5_heldByWorks_5 : decode cX5_heldByWorks 5 = .ok (.getfield 77, 3) := by decide +kernel
theorem dX5_heldByWorks_8 : decode cX5_heldByWorks 8 = .ok (.isub, 1) := by decide +kernel
theorem dX5_heldByWorks_9 : decode cX5_heldByWorks 9 = .ok (.aload_n 0, 1) := by decide +kernel
theorem dX5_heldByWorks_10 : decode cX5_heldByWorks 10 = .ok (.getfield 83, 3) := by decide +kernel
theorem dX5_heldByWorks_13 : decode cX5_heldByWorks 13 = .ok (.isub, 1) := by decide +kernel
theorem dX5_heldByWorks_14 : decode cX5_heldByWorks 14 = .ok (.aload_n 0, 1) := by decide +kernel
theorem dX5_heldByWorks_15 : decode cX5_heldByWorks 15 = .ok (.iconst (-1), 1) := by decide +kernel
theorem dX5_heldByWorks_16 : decode cX5_heldByWorks 16 = .ok (.invokevirtual 90, 3) := by decide +kernel
theorem dX5_heldByWorks_19 : decode cX5_heldByWorks 19 = .ok (.isub, 1) := by decide +kernel
theorem dX5_heldByWorks_20 : decode cX5_heldByWorks 20 = .ok (.ireturn, 1) := by decide +kernel
theorem dX5_cameSoFar_0 : decode cX5_cameSoFar 0 = .ok (.aload_n 0, 1) := by decide +kernel
theorem dX5_cameSoFar_1 : decode cX5_cameSoFar 1 = .ok (.getfield 41, 3) := by decide +kernel
theorem dX5_cameSoFar_4 : decode cX5_cameSoFar 4 = .ok (.ireturn, 1) := by decide +kernel
theorem dX5_usedSoFar_0 : decode cX5_usedSoFar 0 = .ok (.aload_n 0, 1) := by decide +kernel
theorem dX5_usedSoFar_1 : decode cX5_usedSoFar 1 = .ok (.getfield 77, 3) := by decide +kernel
theorem dX5_usedSoFar_4 : decode cX5_usedSoFar 4 = .ok (.ireturn, 1) := by decide +kernel
theorem dX5_cancelledSoFar_0 : decode cX5_cancelledSoFar 0 = .ok (.aload_n 0, 1) := by decide +kernel
theorem dX5_cancelledSoFar_1 : decode cX5_cancelledSoFar 1 = .ok (.getfield 83, 3) := by decide +kernel
theorem dX5_cancelledSoFar_4 : decode cX5_cancelledSoFar 4 = .ok (.ireturn, 1) := by decide +kernel
set_option maxRecDepth 20000 in
theorem ggX5_fact_X6_at : GoodIn wsX5_fact wsX6_at := goodIn_r _ [12, 13, 26] (by decide +kernel) (by decide +kernel)
set_option maxRecDepth 20000 in
theorem gX5_fact_X6_at : GoodIn wsX5_fact (wsV RX5 74 RX6 yX6_at wsX6_at) := goodIn_app (goodIn_of _ (by decide +kernel)) ggX5_fact_X6_at
theorem dX5_fact_0 : decode cX5_fact 0 = .ok (.iload_n 2, 1) := by decide +kernel
theorem dX5_fact_1 : decode cX5_fact 1 = .ok (.tableswitch 93 0 5 #[39, 48, 57, 66, 75, 84], 39) := by decide +kernel
theorem dX5_fact_40 : decode cX5_fact 40 = .ok (.aload_n 0, 1) := by decide +kernel
theorem dX5_fact_41 : decode cX5_fact 41 = .ok (.getfield 14, 3) := by decide +kernel
theorem dX5_fact_44 : decode cX5_fact 44 = .ok (.iload_n 1, 1) := by decide +kernel
theorem dX5_fact_45 : decode cX5_fact 45 = .ok (.invokevirtual 74, 3) := by decide +kernel
theorem dX5_fact_48 : decode cX5_fact 48 = .ok (.ireturn, 1) := by decide +kernel
theorem dX5_fact_49 : decode cX5_fact 49 = .ok (.aload_n 0, 1) := by decide +kernel
theorem dX5_fact_50 : decode cX5_fact 50 = .ok (.getfield 20, 3) := by decide +kernel
theorem dX5_fact_53 : decode cX5_fact 53 = .ok (.iload_n 1, 1) := by decide +kernel
theorem dX5_fact_54 : decode cX5_fact 54 = .ok (.invokevirtual 74, 3) := by decide +kernel
theorem dX5_fact_57 : decode cX5_fact 57 = .ok (.ireturn, 1) := by decide +kernel
theorem dX5_fact_58 : decode cX5_fact 58 = .ok (.aload_n 0, 1) := by decide +kernel
theorem dX5_fact_59 : decode cX5_fact 59 = .ok (.getfield 23, 3) := by decide +kernel
theorem dX5_fact_62 : decode cX5_fact 62 = .ok (.iload_n 1, 1) := by decide +kernel
theorem dX5_fact_63 : decode cX5_fact 63 = .ok (.invokevirtual 74, 3) := by decide +kernel
theorem dX5_fact_66 : decode cX5_fact 66 = .ok (.ireturn, 1) := by decide +kernel
theorem dX5_fact_67 : decode cX5_fact 67 = .ok (.aload_n 0, 1) := by decide +kernel
theorem dX5_fact_68 : decode cX5_fact 68 = .ok (.getfield 26, 3) := by decide +kernel
theorem dX5_fact_71 : decode cX5_fact 71 = .ok (.iload_n 1, 1) := by decide +kernel
theorem dX5_fact_72 : decode cX5_fact 72 = .ok (.invokevirtual 74, 3) := by decide +kernel
theorem dX5_fact_75 : decode cX5_fact 75 = .ok (.ireturn, 1) := by decide +kernel
theorem dX5_fact_76 : decode cX5_fact 76 = .ok (.aload_n 0, 1) := by decide +kernel
theorem dX5_fact_77 : decode cX5_fact 77 = .ok (.getfield 29, 3) := by decide +kernel
theorem dX5_fact_80 : decode cX5_fact 80 = .ok (.iload_n 1, 1) := by decide +kernel
theorem dX5_fact_81 : decode cX5_fact 81 = .ok (.invokevirtual 74, 3) := by decide +kernel
theorem dX5_fact_84 : decode cX5_fact 84 = .ok (.ireturn, 1) := by decide +kernel
theorem dX5_fact_85 : decode cX5_fact 85 = .ok (.aload_n 0, 1) := by decide +kernel
theorem dX5_fact_86 : decode cX5_fact 86 = .ok (.getfield 32, 3) := by decide +kernel
theorem dX5_fact_89 : decode cX5_fact 89 = .ok (.iload_n 1, 1) := by decide +kernel
theorem dX5_fact_90 : decode cX5_fact 90 = .ok (.invokevirtual 74, 3) := by decide +kernel
theorem dX5_fact_93 : decode cX5_fact 93 = .ok (.ireturn, 1) := by decide +kernel
theorem dX5_fact_94 : decode cX5_fact 94 = .ok (.ldc 93, 2) := by decide +kernel
theorem dX5_fact_96 : decode cX5_fact 96 = .ok (.ireturn, 1) := by decide +kernel
set_option maxRecDepth 20000 in
theorem ggX6_init_J7_fill_53178 : GoodIn wsX6_init wsJ7_fill_53178 := goodIn_r _ [13] (by decide +kernel) (by decide +kernel)
set_option maxRecDepth 20000 in
theorem gX6_init_J7_fill_53178 : GoodIn wsX6_init (va_wsS RX6 19 yJ7_fill_53178 wsJ7_fill_53178) := goodIn_app (goodIn_of _ (by decide +kernel)) ggX6_init_J7_fill_53178
theorem dX6_init_0 : decode cX6_init 0 = .ok (.aload_n 0, 1) := by decide +kernel
theorem dX6_init_1 : decode cX6_init 1 = .ok (.invokespecial 1, 3) := by decide +kernel
theorem dX6_init_4 : decode cX6_init 4 = .ok (.aload_n 0, 1) := by decide +kernel
theorem dX6_init_5 : decode cX6_init 5 = .ok (.iconst 0, 1) := by decide +kernel
theorem dX6_init_6 : decode cX6_init 6 = .ok (.iload_n 1, 1) := by decide +kernel
theorem dX6_init_7 : decode cX6_init 7 = .ok (.invokestatic 7, 3) := by decide +kernel
theorem dX6_init_10 : decode cX6_init 10 = .ok (.newarray .int, 2) := by decide +kernel
theorem dX6_init_12 : decode cX6_init 12 = .ok (.putfield 13, 3) := by decide +kernel
theorem dX6_init_15 : decode cX6_init 15 = .ok (.aload_n 0, 1) := by decide +kernel
theorem dX6_init_16 : decode cX6_init 16 = .ok (.getfield 13, 3) := by decide +kernel
theorem dX6_init_19 : decode cX6_init 19 = .ok (.iload_n 2, 1) := by decide +kernel
theorem dX6_init_20 : decode cX6_init 20 = .ok (.invokestatic 19, 3) := by decide +kernel
theorem dX6_init_23 : decode cX6_init 23 = .ok (.return_, 1) := by decide +kernel
theorem dX6_at_0 : decode cX6_at 0 = .ok (.iload_n 1, 1) := by decide +kernel
theorem dX6_at_1 : decode cX6_at 1 = .ok (.ifCond .lt 21, 3) := by decide +kernel
theorem dX6_at_4 : decode cX6_at 4 = .ok (.iload_n 1, 1) := by decide +kernel
theorem dX6_at_5 : decode cX6_at 5 = .ok (.aload_n 0, 1) := by decide +kernel
theorem dX6_at_6 : decode cX6_at 6 = .ok (.getfield 13, 3) := by decide +kernel
theorem dX6_at_9 : decode cX6_at 9 = .ok (.arraylength, 1) := by decide +kernel
theorem dX6_at_10 : decode cX6_at 10 = .ok (.if_icmp .ge 12, 3) := by decide +kernel
theorem dX6_at_13 : decode cX6_at 13 = .ok (.aload_n 0, 1) := by decide +kernel
theorem dX6_at_14 : decode cX6_at 14 = .ok (.getfield 13, 3) := by decide +kernel
theorem dX6_at_17 : decode cX6_at 17 = .ok (.iload_n 1, 1) := by decide +kernel
theorem dX6_at_18 : decode cX6_at 18 = .ok (.iaload, 1) := by decide +kernel
theorem dX6_at_19 : decode cX6_at 19 = .ok (.goto 4, 3) := by decide +kernel
theorem dX6_at_22 : decode cX6_at 22 = .ok (.iconst 0, 1) := by decide +kernel
theorem dX6_at_23 : decode cX6_at 23 = .ok (.ireturn, 1) := by decide +kernel
theorem dX6_put_0 : decode cX6_put 0 = .ok (.iload_n 1, 1) := by decide +kernel
theorem dX6_put_1 : decode cX6_put 1 = .ok (.ifCond .lt 19, 3) := by decide +kernel
theorem dX6_put_4 : decode cX6_put 4 = .ok (.iload_n 1, 1) := by decide +kernel
theorem dX6_put_5 : decode cX6_put 5 = .ok (.aload_n 0, 1) := by decide +kernel
theorem dX6_put_6 : decode cX6_put 6 = .ok (.getfield 13, 3) := by decide +kernel
theorem dX6_put_9 : decode cX6_put 9 = .ok (.arraylength, 1) := by decide +kernel
theorem dX6_put_10 : decode cX6_put 10 = .ok (.if_icmp .ge 10, 3) := by decide +kernel
theorem dX6_put_13 : decode cX6_put 13 = .ok (.aload_n 0, 1) := by decide +kernel
theorem dX6_put_14 : decode cX6_put 14 = .ok (.getfield 13, 3) := by decide +kernel
theorem dX6_put_17 : decode cX6_put 17 = .ok (.iload_n 1, 1) := by decide +kernel
theorem dX6_put_18 : decode cX6_put 18 = .ok (.iload_n 2, 1) := by decide +kernel
theorem dX6_put_19 : decode cX6_put 19 = .ok (.iastore, 1) := by decide +kernel
theorem dX6_put_20 : decode cX6_put 20 = .ok (.return_, 1) := by decide +kernel
set_option maxRecDepth 20000 in
theorem ggX6_add_X6_at : GoodIn wsX6_add wsX6_at := goodIn_r _ [5, 6, 11] (by decide +kernel) (by decide +kernel)
set_option maxRecDepth 20000 in
theorem gX6_add_X6_at : GoodIn wsX6_add (wsV RX6 25 RX6 yX6_at wsX6_at) := goodIn_app (goodIn_of _ (by decide +kernel)) ggX6_add_X6_at
set_option maxRecDepth 20000 in
theorem ggX6_add_X6_put : GoodIn wsX6_add wsX6_put := goodIn_r _ [10, 6, 11] (by decide +kernel) (by decide +kernel)
set_option maxRecDepth 20000 in
theorem gX6_add_X6_put : GoodIn wsX6_add (wsV RX6 29 RX6 yX6_put wsX6_put) := goodIn_app (goodIn_of _ (by decide +kernel)) ggX6_add_X6_put
theorem dX6_add_0 : decode cX6_add 0 = .ok (.aload_n 0, 1) := by decide +kernel
theorem dX6_add_1 : decode cX6_add 1 = .ok (.iload_n 1, 1) := by decide +kernel
theorem dX6_add_2 : decode cX6_add 2 = .ok (.aload_n 0, 1) := by decide +kernel
theorem dX6_add_3 : decode cX6_add 3 = .ok (.iload_n 1, 1) := by decide +kernel
theorem dX6_add_4 : decode cX6_add 4 = .ok (.invokevirtual 25, 3) := by decide +kernel
theorem dX6_add_7 : decode cX6_add 7 = .ok (.iload_n 2, 1) := by decide +kernel
theorem dX6_add_8 : decode cX6_add 8 = .ok (.iadd, 1) := by decide +kernel
theorem dX6_add_9 : decode cX6_add 9 = .ok (.invokevirtual 29, 3) := by decide +kernel
theorem dX6_add_12 : decode cX6_add 12 = .ok (.return_, 1) := by decide +kernel
set_option maxRecDepth 20000 in
theorem ggX6_widen_J7_copyOf_59c91 : GoodIn wsX6_widen wsJ7_copyOf_59c91 := goodIn_r _ [5, 6, 7, 8, 9, 10, 11, 12, 13, 14, 15, 16, 17, 18, 19, 20] (by decide +kernel) (by decide +kernel)
set_option maxRecDepth 20000 in
theorem gX6_widen_J7_copyOf_59c91 : GoodIn wsX6_widen (va_wsS RX6 33 yJ7_copyOf_59c91 wsJ7_copyOf_59c91) := goodIn_app (goodIn_of _ (by decide +kernel)) ggX6_widen_J7_copyOf_59c91
theorem dX6_widen_0 : decode cX6_widen 0 = .ok (.iload_n 1, 1) := by decide +kernel
theorem dX6_widen_1 : decode cX6_widen 1 = .ok (.aload_n 0, 1) := by decide +kernel
theorem dX6_widen_2 : decode cX6_widen 2 = .ok (.getfield 13, 3) := by decide +kernel
theorem dX6_widen_5 : decode cX6_widen 5 = .ok (.arraylength, 1) := by decide +kernel
theorem dX6_widen_6 : decode cX6_widen 6 = .ok (.if_icmp .le 15, 3) := by decide +kernel
theorem dX6_widen_9 : decode cX6_widen 9 = .ok (.aload_n 0, 1) := by decide +kernel
theorem dX6_widen_10 : decode cX6_widen 10 = .ok (.aload_n 0, 1) := by decide +kernel
theorem dX6_widen_11 : decode cX6_widen 11 = .ok (.getfield 13, 3) := by decide +kernel
theorem dX6_widen_14 : decode cX6_widen 14 = .ok (.iload_n 1, 1) := by decide +kernel
theorem dX6_widen_15 : decode cX6_widen 15 = .ok (.invokestatic 33, 3) := by decide +kernel
theorem dX6_widen_18 : decode cX6_widen 18 = .ok (.putfield 13, 3) := by decide +kernel
theorem dX6_widen_21 : decode cX6_widen 21 = .ok (.return_, 1) := by decide +kernel
set_option maxRecDepth 20000 in
theorem ggX6_squeeze_X6_at : GoodIn wsX6_squeeze wsX6_at := goodIn_r _ [5, 6, 11] (by decide +kernel) (by decide +kernel)
set_option maxRecDepth 20000 in
theorem gX6_squeeze_X6_at : GoodIn wsX6_squeeze (wsV RX6 25 RX6 yX6_at wsX6_at) := goodIn_app (goodIn_of _ (by decide +kernel)) ggX6_squeeze_X6_at
set_option maxRecDepth 20000 in
theorem ggX6_squeeze_X6_put : GoodIn wsX6_squeeze wsX6_put := goodIn_r _ [10, 6, 11] (by decide +kernel) (by decide +kernel)
set_option maxRecDepth 20000 in
theorem gX6_squeeze_X6_put : GoodIn wsX6_squeeze (wsV RX6 29 RX6 yX6_put wsX6_put) := goodIn_app (goodIn_of _ (by decide +kernel)) ggX6_squeeze_X6_put
theorem dX6_squeeze_0 : decode cX6_squeeze 0 = .ok (.iload_n 2, 1) := by decide +kernel
theorem dX6_squeeze_1 : decode cX6_squeeze 1 = .ok (.istore 4, 2) := by decide +kernel
theorem dX6_squeeze_3 : decode cX6_squeeze 3 = .ok (.iload 4, 2) := by decide +kernel
theorem dX6_squeeze_5 : decode cX6_squeeze 5 = .ok (.iload_n 1, 1) := by decide +kernel
theorem dX6_squeeze_6 : decode cX6_squeeze 6 = .ok (.if_icmp .le 23, 3) := by decide +kernel
theorem dX6_squeeze_9 : decode cX6_squeeze 9 = .ok (.aload_n 0, 1) := by decide +kernel
theorem dX6_squeeze_10 : decode cX6_squeeze 10 = .ok (.iload 4, 2) := by decide +kernel
theorem dX6_squeeze_12 : decode cX6_squeeze 12 = .ok (.aload_n 0, 1) := by decide +kernel
theorem dX6_squeeze_13 : decode cX6_squeeze 13 = .ok (.iload 4, 2) := by decide +kernel
theorem dX6_squeeze_15 : decode cX6_squeeze 15 = .ok (.iconst 1, 1) := by decide +kernel
theorem dX6_squeeze_16 : decode cX6_squeeze 16 = .ok (.isub, 1) := by decide +kernel
theorem dX6_squeeze_17 : decode cX6_squeeze 17 = .ok (.invokevirtual 25, 3) := by decide +kernel
theorem dX6_squeeze_20 : decode cX6_squeeze 20 = .ok (.invokevirtual 29, 3) := by decide +kernel
theorem dX6_squeeze_23 : decode cX6_squeeze 23 = .ok (.iinc 4 (-1), 3) := by decide +kernel
theorem dX6_squeeze_26 : decode cX6_squeeze 26 = .ok (.goto (-23), 3) := by decide +kernel
theorem dX6_squeeze_29 : decode cX6_squeeze 29 = .ok (.aload_n 0, 1) := by decide +kernel
theorem dX6_squeeze_30 : decode cX6_squeeze 30 = .ok (.iload_n 1, 1) := by decide +kernel
theorem dX6_squeeze_31 : decode cX6_squeeze 31 = .ok (.iload_n 3, 1) := by decide +kernel
theorem dX6_squeeze_32 : decode cX6_squeeze 32 = .ok (.invokevirtual 29, 3) := by decide +kernel
theorem dX6_squeeze_35 : decode cX6_squeeze 35 = .ok (.return_, 1) := by decide +kernel
set_option maxRecDepth 20000 in
theorem ggX7_init_X6_init : GoodIn wsX7_init wsX6_init := goodIn_r _ [15, 16, 2, 3, 17, 18, 19, 20, 21, 22, 23, 24, 25, 26, 27] (by decide +kernel) (by decide +kernel)
set_option maxRecDepth 20000 in
theorem gX7_init_X6_init : GoodIn wsX7_init (wsX6_init) := ggX7_init_X6_init
theorem dX7_init_0 : decode cX7_init 0 = .ok (.aload_n 0, 1) := by decide +kernel
theorem dX7_init_1 : decode cX7_init 1 = .ok (.invokespecial 3, 3) := by decide +kernel
theorem dX7_init_4 : decode cX7_init 4 = .ok (.aload_n 0, 1) := by decide +kernel
theorem dX7_init_5 : decode cX7_init 5 = .ok (.new 9, 3) := by decide +kernel
theorem dX7_init_8 : decode cX7_init 8 = .ok (.dup, 1) := by decide +kernel
theorem dX7_init_9 : decode cX7_init 9 = .ok (.bipush 30, 2) := by decide +kernel
theorem dX7_init_11 : decode cX7_init 11 = .ok (.iconst 0, 1) := by decide +kernel
theorem dX7_init_12 : decode cX7_init 12 = .ok (.invokespecial 11, 3) := by decide +kernel
theorem dX7_init_15 : decode cX7_init 15 = .ok (.putfield 14, 3) := by decide +kernel
theorem dX7_init_18 : decode cX7_init 18 = .ok (.aload_n 0, 1) := by decide +kernel
theorem dX7_init_19 : decode cX7_init 19 = .ok (.new 9, 3) := by decide +kernel
theorem dX7_init_22 : decode cX7_init 22 = .ok (.dup, 1) := by decide +kernel
theorem dX7_init_23 : decode cX7_init 23 = .ok (.bipush 30, 2) := by decide +kernel
theorem dX7_init_25 : decode cX7_init 25 = .ok (.iconst 0, 1) := by decide +kernel
theorem dX7_init_26 : decode cX7_init 26 = .ok (.invokespecial 11, 3) := by decide +kernel
theorem dX7_init_29 : decode cX7_init 29 = .ok (.putfield 20, 3) := by decide +kernel
theorem dX7_init_32 : decode cX7_init 32 = .ok (.aload_n 0, 1) := by decide +kernel
theorem dX7_init_33 : decode cX7_init 33 = .ok (.new 9, 3) := by decide +kernel
theorem dX7_init_36 : decode cX7_init 36 = .ok (.dup, 1) := by decide +kernel
theorem dX7_init_37 : decode cX7_init 37 = .ok (.bipush 30, 2) := by decide +kernel
theorem dX7_init_39 : decode cX7_init 39 = .ok (.iconst 0, 1) := by decide +kernel
theorem dX7_init_40 : decode cX7_init 40 = .ok (.invokespecial 11, 3) := by decide +kernel
theorem dX7_init_43 : decode cX7_init 43 = .ok (.putfield 23, 3) := by decide +kernel
theorem dX7_init_46 : decode cX7_init 46 = .ok (.aload_n 0, 1) := by decide +kernel
theorem dX7_init_47 : decode cX7_init 47 = .ok (.new 9, 3) := by decide +kernel
theorem dX7_init_50 : decode cX7_init 50 = .ok (.dup, 1) := by decide +kernel
theorem dX7_init_51 : decode cX7_init 51 = .ok (.bipush 30, 2) := by decide +kernel
theorem dX7_init_53 : decode cX7_init 53 = .ok (.iconst 0, 1) := by decide +kernel
theorem dX7_init_54 : decode cX7_init 54 = .ok (.invokespecial 11, 3) := by decide +kernel
theorem dX7_init_57 : decode cX7_init 57 = .ok (.putfield 26, 3) := by decide +kernel
theorem dX7_init_60 : decode cX7_init 60 = .ok (.aload_n 0, 1) := by decide +kernel
theorem dX7_init_61 : decode cX7_init 61 = .ok (.new 9, 3) := by decide +kernel
theorem dX7_init_64 : decode cX7_init 64 = .ok (.dup, 1) := by decide +kernel
theorem dX7_init_65 : decode cX7_init 65 = .ok (.bipush 30, 2) := by decide +kernel
theorem dX7_init_67 : decode cX7_init 67 = .ok (.iconst 0, 1) := by decide +kernel
theorem dX7_init_68 : decode cX7_init 68 = .ok (.invokespecial 11, 3) := by decide +kernel
theorem dX7_init_71 : decode cX7_init 71 = .ok (.putfield 29, 3) := by decide +kernel
theorem dX7_init_74 : decode cX7_init 74 = .ok (.aload_n 0, 1) := by decide +kernel
theorem dX7_init_75 : decode cX7_init 75 = .ok (.new 9, 3) := by decide +kernel
theorem dX7_init_78 : decode cX7_init 78 = .ok (.dup, 1) := by decide +kernel
theorem dX7_init_79 : decode cX7_init 79 = .ok (.bipush 30, 2) := by decide +kernel
theorem dX7_init_81 : decode cX7_init 81 = .ok (.iconst 0, 1) := by decide +kernel
theorem dX7_init_82 : decode cX7_init 82 = .ok (.invokespecial 11, 3) := by decide +kernel
theorem dX7_init_85 : decode cX7_init 85 = .ok (.putfield 32, 3) := by decide +kernel
theorem dX7_init_88 : decode cX7_init 88 = .ok (.return_, 1) := by decide +kernel
set_option maxRecDepth 20000 in
theorem ggX7_tell_X6_put : GoodIn wsX7_tell wsX6_put := goodIn_r _ [13, 14, 22] (by decide +kernel) (by decide +kernel)
set_option maxRecDepth 20000 in
theorem gX7_tell_X6_put : GoodIn wsX7_tell (wsV RX7 40 RX6 yX6_put wsX6_put) := goodIn_app (goodIn_of _ (by decide +kernel)) ggX7_tell_X6_put
theorem dX7_tell_0 : decode cX7_tell 0 = .ok (.iload_n 2, 1) := by decide +kernel
theorem dX7_tell_1 : decode cX7_tell 1 = .ok (.sipush 1000, 3) := by decide +kernel
theorem dX7_tell_4 : decode cX7_tell 4 = .ok (.idiv, 1) := by decide +kernel
theorem dX7_tell_5 : decode cX7_tell 5 = .ok (.istore 4, 2) := by decide +kernel
theorem dX7_tell_7 : decode cX7_tell 7 = .ok (.iload_n 2, 1) := by decide +kernel
theorem dX7_tell_8 : decode cX7_tell 8 = .ok (.sipush 1000, 3) := by decide +kernel
theorem dX7_tell_11 : decode cX7_tell 11 = .ok (.irem, 1) := by decide +kernel
theorem dX7_tell_12 : decode cX7_tell 12 = .ok (.istore 5, 2) := by decide +kernel
theorem dX7_tell_14 : decode cX7_tell 14 = .ok (.iload_n 3, 1) := by decide +kernel
theorem dX7_tell_15 : decode cX7_tell 15 = .ok (.ldc 35, 2) := by decide +kernel
theorem dX7_tell_17 : decode cX7_tell 17 = .ok (.idiv, 1) := by decide +kernel
theorem dX7_tell_18 : decode cX7_tell 18 = .ok (.istore 6, 2) := by decide +kernel
theorem dX7_tell_20 : decode cX7_tell 20 = .ok (.aload_n 0, 1) := by decide +kernel
theorem dX7_tell_21 : decode cX7_tell 21 = .ok (.getfield 36, 3) := by decide +kernel
theorem dX7_tell_24 : decode cX7_tell 24 = .ok (.bipush 30, 2) := by decide +kernel
theorem dX7_tell_26 : decode cX7_tell 26 = .ok (.if_icmp .ge 25, 3) := by decide +kernel
theorem dX7_tell_29 : decode cX7_tell 29 = .ok (.iload 4, 2) := by decide +kernel
theorem dX7_tell_31 : decode cX7_tell 31 = .ok (.sipush 400, 3) := by decide +kernel
theorem dX7_tell_34 : decode cX7_tell 34 = .ok (.if_icmp .gt 17, 3) := by decide +kernel
theorem dX7_tell_37 : decode cX7_tell 37 = .ok (.iload 5, 2) := by decide +kernel
theorem dX7_tell_39 : decode cX7_tell 39 = .ok (.bipush 100, 2) := by decide +kernel
theorem dX7_tell_41 : decode cX7_tell 41 = .ok (.if_icmp .gt 10, 3) := by decide +kernel
theorem dX7_tell_44 : decode cX7_tell 44 = .ok (.iload 6, 2) := by decide +kernel
theorem dX7_tell_46 : decode cX7_tell 46 = .ok (.bipush 100, 2) := by decide +kernel
theorem dX7_tell_48 : decode cX7_tell 48 = .ok (.if_icmp .le 5, 3) := by decide +kernel
theorem dX7_tell_51 : decode cX7_tell 51 = .ok (.iconst 0, 1) := by decide +kernel
theorem dX7_tell_52 : decode cX7_tell 52 = .ok (.ireturn, 1) := by decide +kernel
theorem dX7_tell_53 : decode cX7_tell 53 = .ok (.aload_n 0, 1) := by decide +kernel
theorem dX7_tell_54 : decode cX7_tell 54 = .ok (.getfield 14, 3) := by decide +kernel
theorem dX7_tell_57 : decode cX7_tell 57 = .ok (.aload_n 0, 1) := by decide +kernel
theorem dX7_tell_58 : decode cX7_tell 58 = .ok (.getfield 36, 3) := by decide +kernel
theorem dX7_tell_61 : decode cX7_tell 61 = .ok (.iload_n 1, 1) := by decide +kernel
theorem dX7_tell_62 : decode cX7_tell 62 = .ok (.invokevirtual 40, 3) := by decide +kernel
theorem dX7_tell_65 : decode cX7_tell 65 = .ok (.aload_n 0, 1) := by decide +kernel
theorem dX7_tell_66 : decode cX7_tell 66 = .ok (.getfield 20, 3) := by decide +kernel
theorem dX7_tell_69 : decode cX7_tell 69 = .ok (.aload_n 0, 1) := by decide +kernel
theorem dX7_tell_70 : decode cX7_tell 70 = .ok (.getfield 36, 3) := by decide +kernel
theorem dX7_tell_73 : decode cX7_tell 73 = .ok (.iload 4, 2) := by decide +kernel
theorem dX7_tell_75 : decode cX7_tell 75 = .ok (.invokevirtual 40, 3) := by decide +kernel
theorem dX7_tell_78 : decode cX7_tell 78 = .ok (.aload_n 0, 1) := by decide +kernel
theorem dX7_tell_79 : decode cX7_tell 79 = .ok (.getfield 23, 3) := by decide +kernel
theorem dX7_tell_82 : decode cX7_tell 82 = .ok (.aload_n 0, 1) := by decide +kernel
theorem dX7_tell_83 : decode cX7_tell 83 = .ok (.getfield 36, 3) := by decide +kernel
theorem dX7_tell_86 : decode cX7_tell 86 = .ok (.iload 5, 2) := by decide +kernel
theorem dX7_tell_88 : decode cX7_tell 88 = .ok (.invokevirtual 40, 3) := by decide +kernel
theorem dX7_tell_91 : decode cX7_tell 91 = .ok (.aload_n 0, 1) := by decide +kernel
theorem dX7_tell_92 : decode cX7_tell 92 = .ok (.getfield 26, 3) := by decide +kernel
theorem dX7_tell_95 : decode cX7_tell 95 = .ok (.aload_n 0, 1) := by decide +kernel
end
section
theorem dX7_tell_96 : decode cX7_tell 96 = .ok (.getfield 36, 3) := by decide +kernel
theorem dX7_tell_99 : decode cX7_tell 99 = .ok (.iload 6, 2) := by decide +kernel
theorem dX7_tell_101 : decode cX7_tell 101 = .ok (.invokevirtual 40, 3) := by decide +kernel
theorem dX7_tell_104 : decode cX7_tell 104 = .ok (.aload_n 0, 1) := by decide +kernel
theorem dX7_tell_105 : decode cX7_tell 105 = .ok (.getfield 29, 3) := by decide +kernel
theorem dX7_tell_108 : decode cX7_tell 108 = .ok (.aload_n 0, 1) := by decide +kernel
theorem dX7_tell_109 : decode cX7_tell 109 = .ok (.getfield 36, 3) := by decide +kernel
theorem dX7_tell_112 : decode cX7_tell 112 = .ok (.iload_n 3, 1) := by decide +kernel
theorem dX7_tell_113 : decode cX7_tell 113 = .ok (.bipush 100, 2) := by decide +kernel
theorem dX7_tell_115 : decode cX7_tell 115 = .ok (.idiv, 1) := by decide +kernel
theorem dX7_tell_116 : decode cX7_tell 116 = .ok (.sipush 1000, 3) := by decide +kernel
theorem dX7_tell_119 : decode cX7_tell 119 = .ok (.irem, 1) := by decide +kernel
theorem dX7_tell_120 : decode cX7_tell 120 = .ok (.invokevirtual 40, 3) := by decide +kernel
theorem dX7_tell_123 : decode cX7_tell 123 = .ok (.aload_n 0, 1) := by decide +kernel
theorem dX7_tell_124 : decode cX7_tell 124 = .ok (.getfield 32, 3) := by decide +kernel
theorem dX7_tell_127 : decode cX7_tell 127 = .ok (.aload_n 0, 1) := by decide +kernel
theorem dX7_tell_128 : decode cX7_tell 128 = .ok (.getfield 36, 3) := by decide +kernel
theorem dX7_tell_131 : decode cX7_tell 131 = .ok (.iload_n 3, 1) := by decide +kernel
theorem dX7_tell_132 : decode cX7_tell 132 = .ok (.bipush 100, 2) := by decide +kernel
theorem dX7_tell_134 : decode cX7_tell 134 = .ok (.irem, 1) := by decide +kernel
theorem dX7_tell_135 : decode cX7_tell 135 = .ok (.invokevirtual 40, 3) := by decide +kernel
theorem dX7_tell_138 : decode cX7_tell 138 = .ok (.aload_n 0, 1) := by decide +kernel
theorem dX7_tell_139 : decode cX7_tell 139 = .ok (.dup, 1) := by decide +kernel
theorem dX7_tell_140 : decode cX7_tell 140 = .ok (.getfield 36, 3) := by decide +kernel
theorem dX7_tell_143 : decode cX7_tell 143 = .ok (.iconst 1, 1) := by decide +kernel
theorem dX7_tell_144 : decode cX7_tell 144 = .ok (.iadd, 1) := by decide +kernel
theorem dX7_tell_145 : decode cX7_tell 145 = .ok (.putfield 36, 3) := by decide +kernel
theorem dX7_tell_148 : decode cX7_tell 148 = .ok (.iconst 1, 1) := by decide +kernel
theorem dX7_tell_149 : decode cX7_tell 149 = .ok (.ireturn, 1) := by decide +kernel
set_option maxRecDepth 20000 in
theorem ggX7_capIn_X7_inForce : GoodIn wsX7_capIn wsX7_inForce := goodIn_r _ [8, 9, 2, 10, 11, 12, 13, 14, 15, 16, 17, 18, 19, 20, 21, 22, 23] (by decide +kernel) (by decide +kernel)
set_option maxRecDepth 20000 in
theorem gX7_capIn_X7_inForce : GoodIn wsX7_capIn (wsV RX7 43 RX7 yX7_inForce wsX7_inForce) := goodIn_app (goodIn_of _ (by decide +kernel)) ggX7_capIn_X7_inForce
set_option maxRecDepth 20000 in
theorem ggX7_capIn_X6_at : GoodIn wsX7_capIn wsX6_at := goodIn_r _ [14, 15, 23] (by decide +kernel) (by decide +kernel)
set_option maxRecDepth 20000 in
theorem gX7_capIn_X6_at : GoodIn wsX7_capIn (wsV RX7 47 RX6 yX6_at wsX6_at) := goodIn_app (goodIn_of _ (by decide +kernel)) ggX7_capIn_X6_at
theorem dX7_capIn_0 : decode cX7_capIn 0 = .ok (.aload_n 0, 1) := by decide +kernel
theorem dX7_capIn_1 : decode cX7_capIn 1 = .ok (.iload_n 1, 1) := by decide +kernel
theorem dX7_capIn_2 : decode cX7_capIn 2 = .ok (.invokevirtual 43, 3) := by decide +kernel
theorem dX7_capIn_5 : decode cX7_capIn 5 = .ok (.istore_n 2, 1) := by decide +kernel
theorem dX7_capIn_6 : decode cX7_capIn 6 = .ok (.aload_n 0, 1) := by decide +kernel
theorem dX7_capIn_7 : decode cX7_capIn 7 = .ok (.getfield 20, 3) := by decide +kernel
theorem dX7_capIn_10 : decode cX7_capIn 10 = .ok (.iload_n 2, 1) := by decide +kernel
theorem dX7_capIn_11 : decode cX7_capIn 11 = .ok (.invokevirtual 47, 3) := by decide +kernel
theorem dX7_capIn_14 : decode cX7_capIn 14 = .ok (.istore_n 3, 1) := by decide +kernel
theorem dX7_capIn_15 : decode cX7_capIn 15 = .ok (.aload_n 0, 1) := by decide +kernel
theorem dX7_capIn_16 : decode cX7_capIn 16 = .ok (.getfield 14, 3) := by decide +kernel
theorem dX7_capIn_19 : decode cX7_capIn 19 = .ok (.iload_n 2, 1) := by decide +kernel
theorem dX7_capIn_20 : decode cX7_capIn 20 = .ok (.invokevirtual 47, 3) := by decide +kernel
theorem dX7_capIn_23 : decode cX7_capIn 23 = .ok (.istore 4, 2) := by decide +kernel
theorem dX7_capIn_25 : decode cX7_capIn 25 = .ok (.iload 4, 2) := by decide +kernel
theorem dX7_capIn_27 : decode cX7_capIn 27 = .ok (.iload_n 1, 1) := by decide +kernel
theorem dX7_capIn_28 : decode cX7_capIn 28 = .ok (.if_icmp .ge 25, 3) := by decide +kernel
theorem dX7_capIn_31 : decode cX7_capIn 31 = .ok (.iload_n 3, 1) := by decide +kernel
theorem dX7_capIn_32 : decode cX7_capIn 32 = .ok (.iload_n 3, 1) := by decide +kernel
theorem dX7_capIn_33 : decode cX7_capIn 33 = .ok (.aload_n 0, 1) := by decide +kernel
theorem dX7_capIn_34 : decode cX7_capIn 34 = .ok (.getfield 23, 3) := by decide +kernel
theorem dX7_capIn_37 : decode cX7_capIn 37 = .ok (.iload_n 2, 1) := by decide +kernel
theorem dX7_capIn_38 : decode cX7_capIn 38 = .ok (.invokevirtual 47, 3) := by decide +kernel
theorem dX7_capIn_41 : decode cX7_capIn 41 = .ok (.imul, 1) := by decide +kernel
theorem dX7_capIn_42 : decode cX7_capIn 42 = .ok (.bipush 100, 2) := by decide +kernel
theorem dX7_capIn_44 : decode cX7_capIn 44 = .ok (.idiv, 1) := by decide +kernel
theorem dX7_capIn_45 : decode cX7_capIn 45 = .ok (.isub, 1) := by decide +kernel
theorem dX7_capIn_46 : decode cX7_capIn 46 = .ok (.istore_n 3, 1) := by decide +kernel
theorem dX7_capIn_47 : decode cX7_capIn 47 = .ok (.iinc 4 1, 3) := by decide +kernel
theorem dX7_capIn_50 : decode cX7_capIn 50 = .ok (.goto (-25), 3) := by decide +kernel
theorem dX7_capIn_53 : decode cX7_capIn 53 = .ok (.iload_n 3, 1) := by decide +kernel
theorem dX7_capIn_54 : decode cX7_capIn 54 = .ok (.ireturn, 1) := by decide +kernel
set_option maxRecDepth 20000 in
theorem ggX7_shareIn_X7_inForce : GoodIn wsX7_shareIn wsX7_inForce := goodIn_r _ [6, 7, 8, 9, 10, 11, 12, 13, 14, 15, 16, 17, 18, 19, 20, 21, 22] (by decide +kernel) (by decide +kernel)
set_option maxRecDepth 20000 in
theorem gX7_shareIn_X7_inForce : GoodIn wsX7_shareIn (wsV RX7 43 RX7 yX7_inForce wsX7_inForce) := goodIn_app (goodIn_of _ (by decide +kernel)) ggX7_shareIn_X7_inForce
set_option maxRecDepth 20000 in
theorem ggX7_shareIn_X6_at : GoodIn wsX7_shareIn wsX6_at := goodIn_r _ [13, 14, 22] (by decide +kernel) (by decide +kernel)
set_option maxRecDepth 20000 in
theorem gX7_shareIn_X6_at : GoodIn wsX7_shareIn (wsV RX7 47 RX6 yX6_at wsX6_at) := goodIn_app (goodIn_of _ (by decide +kernel)) ggX7_shareIn_X6_at
theorem dX7_shareIn_0 : decode cX7_shareIn 0 = .ok (.aload_n 0, 1) := by decide +kernel
theorem dX7_shareIn_1 : decode cX7_shareIn 1 = .ok (.getfield 26, 3) := by decide +kernel
theorem dX7_shareIn_4 : decode cX7_shareIn 4 = .ok (.aload_n 0, 1) := by decide +kernel
theorem dX7_shareIn_5 : decode cX7_shareIn 5 = .ok (.iload_n 1, 1) := by decide +kernel
theorem dX7_shareIn_6 : decode cX7_shareIn 6 = .ok (.invokevirtual 43, 3) := by decide +kernel
theorem dX7_shareIn_9 : decode cX7_shareIn 9 = .ok (.invokevirtual 47, 3) := by decide +kernel
theorem dX7_shareIn_12 : decode cX7_shareIn 12 = .ok (.ireturn, 1) := by decide +kernel
set_option maxRecDepth 20000 in
theorem ggX7_fineIn_X7_inForce : GoodIn wsX7_fineIn wsX7_inForce := goodIn_r _ [6, 7, 8, 9, 10, 11, 12, 13, 14, 15, 16, 17, 18, 19, 20, 21, 22] (by decide +kernel) (by decide +kernel)
set_option maxRecDepth 20000 in
theorem gX7_fineIn_X7_inForce : GoodIn wsX7_fineIn (wsV RX7 43 RX7 yX7_inForce wsX7_inForce) := goodIn_app (goodIn_of _ (by decide +kernel)) ggX7_fineIn_X7_inForce
set_option maxRecDepth 20000 in
theorem ggX7_fineIn_X6_at : GoodIn wsX7_fineIn wsX6_at := goodIn_r _ [13, 14, 22] (by decide +kernel) (by decide +kernel)
set_option maxRecDepth 20000 in
theorem gX7_fineIn_X6_at : GoodIn wsX7_fineIn (wsV RX7 47 RX6 yX6_at wsX6_at) := goodIn_app (goodIn_of _ (by decide +kernel)) ggX7_fineIn_X6_at
theorem dX7_fineIn_0 : decode cX7_fineIn 0 = .ok (.aload_n 0, 1) := by decide +kernel
theorem dX7_fineIn_1 : decode cX7_fineIn 1 = .ok (.getfield 29, 3) := by decide +kernel
theorem dX7_fineIn_4 : decode cX7_fineIn 4 = .ok (.aload_n 0, 1) := by decide +kernel
theorem dX7_fineIn_5 : decode cX7_fineIn 5 = .ok (.iload_n 1, 1) := by decide +kernel
theorem dX7_fineIn_6 : decode cX7_fineIn 6 = .ok (.invokevirtual 43, 3) := by decide +kernel
theorem dX7_fineIn_9 : decode cX7_fineIn 9 = .ok (.invokevirtual 47, 3) := by decide +kernel
theorem dX7_fineIn_12 : decode cX7_fineIn 12 = .ok (.ireturn, 1) := by decide +kernel
set_option maxRecDepth 20000 in
theorem ggX7_floorIn_X7_inForce : GoodIn wsX7_floorIn wsX7_inForce := goodIn_r _ [6, 7, 8, 9, 10, 11, 12, 13, 14, 15, 16, 17, 18, 19, 20, 21, 22] (by decide +kernel) (by decide +kernel)
set_option maxRecDepth 20000 in
theorem gX7_floorIn_X7_inForce : GoodIn wsX7_floorIn (wsV RX7 43 RX7 yX7_inForce wsX7_inForce) := goodIn_app (goodIn_of _ (by decide +kernel)) ggX7_floorIn_X7_inForce
set_option maxRecDepth 20000 in
theorem ggX7_floorIn_X6_at : GoodIn wsX7_floorIn wsX6_at := goodIn_r _ [13, 14, 22] (by decide +kernel) (by decide +kernel)
set_option maxRecDepth 20000 in
theorem gX7_floorIn_X6_at : GoodIn wsX7_floorIn (wsV RX7 47 RX6 yX6_at wsX6_at) := goodIn_app (goodIn_of _ (by decide +kernel)) ggX7_floorIn_X6_at
theorem dX7_floorIn_0 : decode cX7_floorIn 0 = .ok (.aload_n 0, 1) := by decide +kernel
theorem dX7_floorIn_1 : decode cX7_floorIn 1 = .ok (.getfield 32, 3) := by decide +kernel
theorem dX7_floorIn_4 : decode cX7_floorIn 4 = .ok (.aload_n 0, 1) := by decide +kernel
theorem dX7_floorIn_5 : decode cX7_floorIn 5 = .ok (.iload_n 1, 1) := by decide +kernel
theorem dX7_floorIn_6 : decode cX7_floorIn 6 = .ok (.invokevirtual 43, 3) := by decide +kernel
theorem dX7_floorIn_9 : decode cX7_floorIn 9 = .ok (.invokevirtual 47, 3) := by decide +kernel
theorem dX7_floorIn_12 : decode cX7_floorIn 12 = .ok (.ireturn, 1) := by decide +kernel
set_option maxRecDepth 20000 in
theorem ggX7_inForce_X6_at : GoodIn wsX7_inForce wsX6_at := goodIn_r _ [7, 8, 16] (by decide +kernel) (by decide +kernel)
set_option maxRecDepth 20000 in
theorem gX7_inForce_X6_at : GoodIn wsX7_inForce (wsV RX7 47 RX6 yX6_at wsX6_at) := goodIn_app (goodIn_of _ (by decide +kernel)) ggX7_inForce_X6_at
theorem dX7_inForce_0 : decode cX7_inForce 0 = .ok (.iconst (-1), 1) := by decide +kernel
theorem dX7_inForce_1 : decode cX7_inForce 1 = .ok (.istore_n 2, 1) := by decide +kernel
theorem dX7_inForce_2 : decode cX7_inForce 2 = .ok (.iconst 0, 1) := by decide +kernel
theorem dX7_inForce_3 : decode cX7_inForce 3 = .ok (.istore_n 3, 1) := by decide +kernel
theorem dX7_inForce_4 : decode cX7_inForce 4 = .ok (.iload_n 3, 1) := by decide +kernel
theorem dX7_inForce_5 : decode cX7_inForce 5 = .ok (.aload_n 0, 1) := by decide +kernel
theorem dX7_inForce_6 : decode cX7_inForce 6 = .ok (.getfield 36, 3) := by decide +kernel
theorem dX7_inForce_9 : decode cX7_inForce 9 = .ok (.if_icmp .ge 47, 3) := by decide +kernel
theorem dX7_inForce_12 : decode cX7_inForce 12 = .ok (.aload_n 0, 1) := by decide +kernel
theorem dX7_inForce_13 : decode cX7_inForce 13 = .ok (.getfield 14, 3) := by decide +kernel
theorem dX7_inForce_16 : decode cX7_inForce 16 = .ok (.iload_n 3, 1) := by decide +kernel
theorem dX7_inForce_17 : decode cX7_inForce 17 = .ok (.invokevirtual 47, 3) := by decide +kernel
theorem dX7_inForce_20 : decode cX7_inForce 20 = .ok (.iload_n 1, 1) := by decide +kernel
theorem dX7_inForce_21 : decode cX7_inForce 21 = .ok (.if_icmp .gt 29, 3) := by decide +kernel
theorem dX7_inForce_24 : decode cX7_inForce 24 = .ok (.iload_n 2, 1) := by decide +kernel
theorem dX7_inForce_25 : decode cX7_inForce 25 = .ok (.iconst (-1), 1) := by decide +kernel
theorem dX7_inForce_26 : decode cX7_inForce 26 = .ok (.if_icmp .eq 22, 3) := by decide +kernel
theorem dX7_inForce_29 : decode cX7_inForce 29 = .ok (.aload_n 0, 1) := by decide +kernel
theorem dX7_inForce_30 : decode cX7_inForce 30 = .ok (.getfield 14, 3) := by decide +kernel
theorem dX7_inForce_33 : decode cX7_inForce 33 = .ok (.iload_n 3, 1) := by decide +kernel
theorem dX7_inForce_34 : decode cX7_inForce 34 = .ok (.invokevirtual 47, 3) := by decide +kernel
theorem dX7_inForce_37 : decode cX7_inForce 37 = .ok (.aload_n 0, 1) := by decide +kernel
theorem dX7_inForce_38 : decode cX7_inForce 38 = .ok (.getfield 14, 3) := by decide +kernel
theorem dX7_inForce_41 : decode cX7_inForce 41 = .ok (.iload_n 2, 1) := by decide +kernel
theorem dX7_inForce_42 : decode cX7_inForce 42 = .ok (.invokevirtual 47, 3) := by decide +kernel
theorem dX7_inForce_45 : decode cX7_inForce 45 = .ok (.if_icmp .lt 5, 3) := by decide +kernel
theorem dX7_inForce_48 : decode cX7_inForce 48 = .ok (.iload_n 3, 1) := by decide +kernel
theorem dX7_inForce_49 : decode cX7_inForce 49 = .ok (.istore_n 2, 1) := by decide +kernel
theorem dX7_inForce_50 : decode cX7_inForce 50 = .ok (.iinc 3 1, 3) := by decide +kernel
theorem dX7_inForce_53 : decode cX7_inForce 53 = .ok (.goto (-49), 3) := by decide +kernel
theorem dX7_inForce_56 : decode cX7_inForce 56 = .ok (.iload_n 2, 1) := by decide +kernel
theorem dX7_inForce_57 : decode cX7_inForce 57 = .ok (.ireturn, 1) := by decide +kernel
set_option maxRecDepth 20000 in
theorem ggX8_init_X7_init : GoodIn wsX8_init wsX7_init := goodIn_r _ [38, 39, 2, 3, 40, 33, 34, 41, 42, 43, 44, 45, 46, 47, 48, 49, 50, 51, 52, 53, 54, 55, 56, 57, 58, 59, 60, 174, 122, 123, 124, 125, 126, 127, 128] (by decide +kernel) (by decide +kernel)
set_option maxRecDepth 20000 in
theorem gX8_init_X7_init : GoodIn wsX8_init (wsX7_init) := ggX8_init_X7_init
set_option maxRecDepth 20000 in
theorem ggX8_init_X4_init : GoodIn wsX8_init wsX4_init := goodIn_r _ [63, 64, 2, 3, 65, 33, 34, 66, 67, 48, 49, 50, 51, 52, 53, 54, 55, 56, 57, 58, 59, 60, 174, 142] (by decide +kernel) (by decide +kernel)
set_option maxRecDepth 20000 in
theorem gX8_init_X4_init : GoodIn wsX8_init (wsX4_init) := ggX8_init_X4_init
set_option maxRecDepth 20000 in
theorem ggX8_init_X5_init : GoodIn wsX8_init wsX5_init := goodIn_r _ [70, 71, 2, 3, 72, 33, 34, 73, 74, 75, 76, 77, 78, 79, 80, 81, 48, 49, 50, 51, 52, 53, 54, 55, 56, 57, 58, 59, 60, 174, 143, 144, 145, 146, 147, 148, 149, 150, 151, 152, 153, 154] (by decide +kernel) (by decide +kernel)
set_option maxRecDepth 20000 in
theorem gX8_init_X5_init : GoodIn wsX8_init (wsX5_init) := ggX8_init_X5_init
set_option maxRecDepth 20000 in
theorem ggX8_init_X0_init : GoodIn wsX8_init wsX0_init := goodIn_r _ [84, 85, 2, 3, 86, 33, 34, 87, 88, 89, 90, 48, 49, 50, 51, 52, 53, 54, 55, 56, 57, 58, 59, 60, 174, 155, 156, 157] (by decide +kernel) (by decide +kernel)
set_option maxRecDepth 20000 in
theorem gX8_init_X0_init : GoodIn wsX8_init (wsX0_init) := ggX8_init_X0_init
set_option maxRecDepth 20000 in
theorem ggX8_init_X1_init : GoodIn wsX8_init wsX1_init := goodIn_r _ [93, 94, 2, 3, 95, 33, 34, 96, 97, 98, 99, 100, 48, 49, 50, 51, 52, 53, 54, 55, 56, 57, 58, 59, 60, 174, 158, 159, 160, 161, 162] (by decide +kernel) (by decide +kernel)
set_option maxRecDepth 20000 in
theorem gX8_init_X1_init : GoodIn wsX8_init (wsX1_init) := ggX8_init_X1_init
set_option maxRecDepth 20000 in
theorem ggX8_init_X2_init : GoodIn wsX8_init wsX2_init := goodIn_r _ [103, 104, 2, 3, 105, 33, 34, 106, 107, 108, 109, 110, 48, 49, 50, 51, 52, 53, 54, 55, 56, 57, 58, 59, 60, 174, 163, 164, 165, 166, 167, 168] (by decide +kernel) (by decide +kernel)
set_option maxRecDepth 20000 in
theorem gX8_init_X2_init : GoodIn wsX8_init (wsX2_init) := ggX8_init_X2_init
set_option maxRecDepth 20000 in
theorem ggX8_init_X3_init : GoodIn wsX8_init wsX3_init := goodIn_r _ [113, 114, 2, 3, 115, 33, 34, 116, 117, 118, 119, 120, 48, 49, 50, 51, 52, 53, 54, 55, 56, 57, 58, 59, 60, 174, 169, 170, 171, 172, 173] (by decide +kernel) (by decide +kernel)
set_option maxRecDepth 20000 in
theorem gX8_init_X3_init : GoodIn wsX8_init (wsX3_init) := ggX8_init_X3_init
set_option maxRecDepth 20000 in
theorem ggX8_init_X6_init : GoodIn wsX8_init wsX6_init := goodIn_r _ [49, 50, 2, 3, 51, 52, 53, 54, 55, 56, 57, 58, 59, 60, 174] (by decide +kernel) (by decide +kernel)
set_option maxRecDepth 20000 in
theorem gX8_init_X6_init : GoodIn wsX8_init (wsX6_init) := ggX8_init_X6_init
theorem dX8_init_0 : decode cX8_init 0 = .ok (.aload_n 0, 1) := by decide +kernel
theorem dX8_init_1 : decode cX8_init 1 = .ok (.invokespecial 1, 3) := by decide +kernel
theorem dX8_init_4 : decode cX8_init 4 = .ok (.aload_n 0, 1) := by decide +kernel
theorem dX8_init_5 : decode cX8_init 5 = .ok (.new 7, 3) := by decide +kernel
theorem dX8_init_8 : decode cX8_init 8 = .ok (.dup, 1) := by decide +kernel
theorem dX8_init_9 : decode cX8_init 9 = .ok (.invokespecial 9, 3) := by decide +kernel
theorem dX8_init_12 : decode cX8_init 12 = .ok (.putfield 10, 3) := by decide +kernel
theorem dX8_init_15 : decode cX8_init 15 = .ok (.aload_n 0, 1) := by decide +kernel
theorem dX8_init_16 : decode cX8_init 16 = .ok (.new 16, 3) := by decide +kernel
theorem dX8_init_19 : decode cX8_init 19 = .ok (.dup, 1) := by decide +kernel
theorem dX8_init_20 : decode cX8_init 20 = .ok (.invokespecial 18, 3) := by decide +kernel
theorem dX8_init_23 : decode cX8_init 23 = .ok (.putfield 19, 3) := by decide +kernel
theorem dX8_init_26 : decode cX8_init 26 = .ok (.aload_n 0, 1) := by decide +kernel
theorem dX8_init_27 : decode cX8_init 27 = .ok (.new 23, 3) := by decide +kernel
theorem dX8_init_30 : decode cX8_init 30 = .ok (.dup, 1) := by decide +kernel
theorem dX8_init_31 : decode cX8_init 31 = .ok (.invokespecial 25, 3) := by decide +kernel
theorem dX8_init_34 : decode cX8_init 34 = .ok (.putfield 26, 3) := by decide +kernel
theorem dX8_init_37 : decode cX8_init 37 = .ok (.aload_n 0, 1) := by decide +kernel
theorem dX8_init_38 : decode cX8_init 38 = .ok (.new 30, 3) := by decide +kernel
theorem dX8_init_41 : decode cX8_init 41 = .ok (.dup, 1) := by decide +kernel
theorem dX8_init_42 : decode cX8_init 42 = .ok (.invokespecial 32, 3) := by decide +kernel
theorem dX8_init_45 : decode cX8_init 45 = .ok (.putfield 33, 3) := by decide +kernel
theorem dX8_init_48 : decode cX8_init 48 = .ok (.aload_n 0, 1) := by decide +kernel
theorem dX8_init_49 : decode cX8_init 49 = .ok (.new 37, 3) := by decide +kernel
theorem dX8_init_52 : decode cX8_init 52 = .ok (.dup, 1) := by decide +kernel
theorem dX8_init_53 : decode cX8_init 53 = .ok (.invokespecial 39, 3) := by decide +kernel
theorem dX8_init_56 : decode cX8_init 56 = .ok (.putfield 40, 3) := by decide +kernel
theorem dX8_init_59 : decode cX8_init 59 = .ok (.aload_n 0, 1) := by decide +kernel
theorem dX8_init_60 : decode cX8_init 60 = .ok (.new 44, 3) := by decide +kernel
theorem dX8_init_63 : decode cX8_init 63 = .ok (.dup, 1) := by decide +kernel
theorem dX8_init_64 : decode cX8_init 64 = .ok (.invokespecial 46, 3) := by decide +kernel
theorem dX8_init_67 : decode cX8_init 67 = .ok (.putfield 47, 3) := by decide +kernel
theorem dX8_init_70 : decode cX8_init 70 = .ok (.aload_n 0, 1) := by decide +kernel
theorem dX8_init_71 : decode cX8_init 71 = .ok (.new 51, 3) := by decide +kernel
theorem dX8_init_74 : decode cX8_init 74 = .ok (.dup, 1) := by decide +kernel
theorem dX8_init_75 : decode cX8_init 75 = .ok (.invokespecial 53, 3) := by decide +kernel
theorem dX8_init_78 : decode cX8_init 78 = .ok (.putfield 54, 3) := by decide +kernel
theorem dX8_init_81 : decode cX8_init 81 = .ok (.aload_n 0, 1) := by decide +kernel
theorem dX8_init_82 : decode cX8_init 82 = .ok (.new 58, 3) := by decide +kernel
theorem dX8_init_85 : decode cX8_init 85 = .ok (.dup, 1) := by decide +kernel
theorem dX8_init_86 : decode cX8_init 86 = .ok (.bipush 20, 2) := by decide +kernel
theorem dX8_init_88 : decode cX8_init 88 = .ok (.iconst 0, 1) := by decide +kernel
theorem dX8_init_89 : decode cX8_init 89 = .ok (.invokespecial 60, 3) := by decide +kernel
theorem dX8_init_92 : decode cX8_init 92 = .ok (.putfield 63, 3) := by decide +kernel
theorem dX8_init_95 : decode cX8_init 95 = .ok (.return_, 1) := by decide +kernel
theorem dX8_works_0 : decode cX8_works 0 = .ok (.aload_n 0, 1) := by decide +kernel
theorem dX8_works_1 : decode cX8_works 1 = .ok (.getfield 67, 3) := by decide +kernel
theorem dX8_works_4 : decode cX8_works 4 = .ok (.bipush 10, 2) := by decide +kernel
theorem dX8_works_6 : decode cX8_works 6 = .ok (.if_icmp .lt 5, 3) := by decide +kernel
theorem dX8_works_9 : decode cX8_works 9 = .ok (.iconst (-1), 1) := by decide +kernel
theorem dX8_works_10 : decode cX8_works 10 = .ok (.ireturn, 1) := by decide +kernel
theorem dX8_works_11 : decode cX8_works 11 = .ok (.aload_n 0, 1) := by decide +kernel
theorem dX8_works_12 : decode cX8_works 12 = .ok (.dup, 1) := by decide +kernel
theorem dX8_works_13 : decode cX8_works 13 = .ok (.getfield 67, 3) := by decide +kernel
theorem dX8_works_16 : decode cX8_works 16 = .ok (.iconst 1, 1) := by decide +kernel
theorem dX8_works_17 : decode cX8_works 17 = .ok (.iadd, 1) := by decide +kernel
theorem dX8_works_18 : decode cX8_works 18 = .ok (.putfield 67, 3) := by decide +kernel
theorem dX8_works_21 : decode cX8_works 21 = .ok (.aload_n 0, 1) := by decide +kernel
theorem dX8_works_22 : decode cX8_works 22 = .ok (.getfield 67, 3) := by decide +kernel
theorem dX8_works_25 : decode cX8_works 25 = .ok (.iconst 1, 1) := by decide +kernel
theorem dX8_works_26 : decode cX8_works 26 = .ok (.isub, 1) := by decide +kernel
theorem dX8_works_27 : decode cX8_works 27 = .ok (.ireturn, 1) := by decide +kernel
set_option maxRecDepth 20000 in
theorem ggX8_rule_X8_isYear : GoodIn wsX8_rule wsX8_isYear := goodIn_r _ [5, 6, 7, 4, 8] (by decide +kernel) (by decide +kernel)
set_option maxRecDepth 20000 in
theorem gX8_rule_X8_isYear : GoodIn wsX8_rule (va_wsS RX8 71 yX8_isYear wsX8_isYear) := goodIn_app (goodIn_of _ (by decide +kernel)) ggX8_rule_X8_isYear
set_option maxRecDepth 20000 in
theorem ggX8_rule_X7_tell : GoodIn wsX8_rule wsX7_tell := goodIn_r _ [13, 14, 15, 16, 17, 18, 19, 20, 21, 22, 23, 24, 25, 26, 27, 41, 42, 43, 44, 45, 46, 47, 48] (by decide +kernel) (by decide +kernel)
set_option maxRecDepth 20000 in
theorem gX8_rule_X7_tell : GoodIn wsX8_rule (wsV RX8 75 RX7 yX7_tell wsX7_tell) := goodIn_app (goodIn_of _ (by decide +kernel)) ggX8_rule_X7_tell
theorem dX8_rule_0 : decode cX8_rule 0 = .ok (.iload_n 1, 1) := by decide +kernel
theorem dX8_rule_1 : decode cX8_rule 1 = .ok (.invokestatic 71, 3) := by decide +kernel
theorem dX8_rule_4 : decode cX8_rule 4 = .ok (.ifCond .eq 11, 3) := by decide +kernel
theorem dX8_rule_7 : decode cX8_rule 7 = .ok (.iload_n 2, 1) := by decide +kernel
theorem dX8_rule_8 : decode cX8_rule 8 = .ok (.ifCond .lt 7, 3) := by decide +kernel
theorem dX8_rule_11 : decode cX8_rule 11 = .ok (.iload_n 3, 1) := by decide +kernel
theorem dX8_rule_12 : decode cX8_rule 12 = .ok (.ifCond .ge 5, 3) := by decide +kernel
theorem dX8_rule_15 : decode cX8_rule 15 = .ok (.iconst 0, 1) := by decide +kernel
theorem dX8_rule_16 : decode cX8_rule 16 = .ok (.ireturn, 1) := by decide +kernel
theorem dX8_rule_17 : decode cX8_rule 17 = .ok (.aload_n 0, 1) := by decide +kernel
theorem dX8_rule_18 : decode cX8_rule 18 = .ok (.getfield 10, 3) := by decide +kernel
theorem dX8_rule_21 : decode cX8_rule 21 = .ok (.iload_n 1, 1) := by decide +kernel
theorem dX8_rule_22 : decode cX8_rule 22 = .ok (.iload_n 2, 1) := by decide +kernel
theorem dX8_rule_23 : decode cX8_rule 23 = .ok (.iload_n 3, 1) := by decide +kernel
theorem dX8_rule_24 : decode cX8_rule 24 = .ok (.invokevirtual 75, 3) := by decide +kernel
theorem dX8_rule_27 : decode cX8_rule 27 = .ok (.ireturn, 1) := by decide +kernel
set_option maxRecDepth 20000 in
theorem ggX8_ruled_X8_isYear : GoodIn wsX8_ruled wsX8_isYear := goodIn_r _ [5, 6, 7, 4, 8] (by decide +kernel) (by decide +kernel)
set_option maxRecDepth 20000 in
theorem gX8_ruled_X8_isYear : GoodIn wsX8_ruled (va_wsS RX8 71 yX8_isYear wsX8_isYear) := goodIn_app (goodIn_of _ (by decide +kernel)) ggX8_ruled_X8_isYear
set_option maxRecDepth 20000 in
theorem ggX8_ruled_X7_capIn : GoodIn wsX8_ruled wsX7_capIn := goodIn_r _ [13, 14, 15, 16, 17, 18, 19, 12, 20, 21, 22, 23, 24, 25, 26, 27, 56, 57, 58, 59, 60, 61, 62, 63] (by decide +kernel) (by decide +kernel)
set_option maxRecDepth 20000 in
theorem gX8_ruled_X7_capIn : GoodIn wsX8_ruled (wsV RX8 79 RX7 yX7_capIn wsX7_capIn) := goodIn_app (goodIn_of _ (by decide +kernel)) ggX8_ruled_X7_capIn
set_option maxRecDepth 20000 in
theorem ggX8_ruled_X7_shareIn : GoodIn wsX8_ruled wsX7_shareIn := goodIn_r _ [31, 32, 17, 18, 19, 12, 20, 21, 15, 22, 23, 24, 25, 26, 27, 56, 57, 58, 59, 60, 61, 62, 63] (by decide +kernel) (by decide +kernel)
set_option maxRecDepth 20000 in
theorem gX8_ruled_X7_shareIn : GoodIn wsX8_ruled (wsV RX8 83 RX7 yX7_shareIn wsX7_shareIn) := goodIn_app (goodIn_of _ (by decide +kernel)) ggX8_ruled_X7_shareIn
set_option maxRecDepth 20000 in
theorem ggX8_ruled_X7_fineIn : GoodIn wsX8_ruled wsX7_fineIn := goodIn_r _ [36, 37, 17, 18, 19, 12, 20, 21, 15, 22, 23, 24, 25, 26, 27, 56, 57, 58, 59, 60, 61, 62, 63] (by decide +kernel) (by decide +kernel)
set_option maxRecDepth 20000 in
theorem gX8_ruled_X7_fineIn : GoodIn wsX8_ruled (wsV RX8 86 RX7 yX7_fineIn wsX7_fineIn) := goodIn_app (goodIn_of _ (by decide +kernel)) ggX8_ruled_X7_fineIn
set_option maxRecDepth 20000 in
theorem ggX8_ruled_X7_floorIn : GoodIn wsX8_ruled wsX7_floorIn := goodIn_r _ [41, 42, 17, 18, 19, 12, 20, 21, 15, 22, 23, 24, 25, 26, 27, 56, 57, 58, 59, 60, 61, 62, 63] (by decide +kernel) (by decide +kernel)
set_option maxRecDepth 20000 in
theorem gX8_ruled_X7_floorIn : GoodIn wsX8_ruled (wsV RX8 89 RX7 yX7_floorIn wsX7_floorIn) := goodIn_app (goodIn_of _ (by decide +kernel)) ggX8_ruled_X7_floorIn
theorem dX8_ruled_0 : decode cX8_ruled 0 = .ok (.iload_n 1, 1) := by decide +kernel
theorem dX8_ruled_1 : decode cX8_ruled 1 = .ok (.invokestatic 71, 3) := by decide +kernel
theorem dX8_ruled_4 : decode cX8_ruled 4 = .ok (.ifCond .ne 5, 3) := by decide +kernel
theorem dX8_ruled_7 : decode cX8_ruled 7 = .ok (.iconst (-1), 1) := by decide +kernel
theorem dX8_ruled_8 : decode cX8_ruled 8 = .ok (.ireturn, 1) := by decide +kernel
theorem dX8_ruled_9 : decode cX8_ruled 9 = .ok (.iload_n 2, 1) := by decide +kernel
theorem dX8_ruled_10 : decode cX8_ruled 10 = .ok (.tableswitch 66 0 3 #[30, 39, 48, 57], 30) := by decide +kernel
theorem dX8_ruled_40 : decode cX8_ruled 40 = .ok (.aload_n 0, 1) := by decide +kernel
theorem dX8_ruled_41 : decode cX8_ruled 41 = .ok (.getfield 10, 3) := by decide +kernel
theorem dX8_ruled_44 : decode cX8_ruled 44 = .ok (.iload_n 1, 1) := by decide +kernel
theorem dX8_ruled_45 : decode cX8_ruled 45 = .ok (.invokevirtual 79, 3) := by decide +kernel
theorem dX8_ruled_48 : decode cX8_ruled 48 = .ok (.ireturn, 1) := by decide +kernel
theorem dX8_ruled_49 : decode cX8_ruled 49 = .ok (.aload_n 0, 1) := by decide +kernel
theorem dX8_ruled_50 : decode cX8_ruled 50 = .ok (.getfield 10, 3) := by decide +kernel
theorem dX8_ruled_53 : decode cX8_ruled 53 = .ok (.iload_n 1, 1) := by decide +kernel
theorem dX8_ruled_54 : decode cX8_ruled 54 = .ok (.invokevirtual 83, 3) := by decide +kernel
theorem dX8_ruled_57 : decode cX8_ruled 57 = .ok (.ireturn, 1) := by decide +kernel
theorem dX8_ruled_58 : decode cX8_ruled 58 = .ok (.aload_n 0, 1) := by decide +kernel
theorem dX8_ruled_59 : decode cX8_ruled 59 = .ok (.getfield 10, 3) := by decide +kernel
theorem dX8_ruled_62 : decode cX8_ruled 62 = .ok (.iload_n 1, 1) := by decide +kernel
theorem dX8_ruled_63 : decode cX8_ruled 63 = .ok (.invokevirtual 86, 3) := by decide +kernel
theorem dX8_ruled_66 : decode cX8_ruled 66 = .ok (.ireturn, 1) := by decide +kernel
theorem dX8_ruled_67 : decode cX8_ruled 67 = .ok (.aload_n 0, 1) := by decide +kernel
theorem dX8_ruled_68 : decode cX8_ruled 68 = .ok (.getfield 10, 3) := by decide +kernel
theorem dX8_ruled_71 : decode cX8_ruled 71 = .ok (.iload_n 1, 1) := by decide +kernel
theorem dX8_ruled_72 : decode cX8_ruled 72 = .ok (.invokevirtual 89, 3) := by decide +kernel
theorem dX8_ruled_75 : decode cX8_ruled 75 = .ok (.ireturn, 1) := by decide +kernel
theorem dX8_ruled_76 : decode cX8_ruled 76 = .ok (.iconst (-1), 1) := by decide +kernel
theorem dX8_ruled_77 : decode cX8_ruled 77 = .ok (.ireturn, 1) := by decide +kernel
set_option maxRecDepth 20000 in
theorem ggX8_meter_X8_isWorks : GoodIn wsX8_meter wsX8_isWorks := goodIn_r _ [7, 8, 9, 10, 6, 11, 30, 31, 32, 33, 34, 35, 36, 37, 38, 39, 40, 41, 42] (by decide +kernel) (by decide +kernel)
set_option maxRecDepth 20000 in
theorem gX8_meter_X8_isWorks : GoodIn wsX8_meter (wsV RX8 92 RX8 yX8_isWorks wsX8_isWorks) := goodIn_app (goodIn_of _ (by decide +kernel)) ggX8_meter_X8_isWorks
set_option maxRecDepth 20000 in
theorem ggX8_meter_X8_isYear : GoodIn wsX8_meter wsX8_isYear := goodIn_r _ [14, 9, 10, 6, 11] (by decide +kernel) (by decide +kernel)
set_option maxRecDepth 20000 in
theorem gX8_meter_X8_isYear : GoodIn wsX8_meter (va_wsS RX8 71 yX8_isYear wsX8_isYear) := goodIn_app (goodIn_of _ (by decide +kernel)) ggX8_meter_X8_isYear
set_option maxRecDepth 20000 in
theorem ggX8_meter_X8_isWithin : GoodIn wsX8_meter wsX8_isWithin := goodIn_r _ [11] (by decide +kernel) (by decide +kernel)
set_option maxRecDepth 20000 in
theorem gX8_meter_X8_isWithin : GoodIn wsX8_meter (va_wsS RX8 98 yX8_isWithin wsX8_isWithin) := goodIn_app (goodIn_of _ (by decide +kernel)) ggX8_meter_X8_isWithin
set_option maxRecDepth 20000 in
theorem ggX8_meter_X4_read : GoodIn wsX8_meter wsX4_read := goodIn_r _ [19, 20, 21, 22, 18, 23, 24, 25, 26, 27, 28, 29, 43, 44] (by decide +kernel) (by decide +kernel)
set_option maxRecDepth 20000 in
theorem gX8_meter_X4_read : GoodIn wsX8_meter (wsV RX8 101 RX4 yX4_read wsX4_read) := goodIn_app (goodIn_of _ (by decide +kernel)) ggX8_meter_X4_read
theorem dX8_meter_0 : decode cX8_meter 0 = .ok (.aload_n 0, 1) := by decide +kernel
theorem dX8_meter_1 : decode cX8_meter 1 = .ok (.iload_n 1, 1) := by decide +kernel
theorem dX8_meter_2 : decode cX8_meter 2 = .ok (.invokevirtual 92, 3) := by decide +kernel
theorem dX8_meter_5 : decode cX8_meter 5 = .ok (.ifCond .eq 31, 3) := by decide +kernel
theorem dX8_meter_8 : decode cX8_meter 8 = .ok (.iload_n 2, 1) := by decide +kernel
theorem dX8_meter_9 : decode cX8_meter 9 = .ok (.invokestatic 71, 3) := by decide +kernel
theorem dX8_meter_12 : decode cX8_meter 12 = .ok (.ifCond .eq 24, 3) := by decide +kernel
theorem dX8_meter_15 : decode cX8_meter 15 = .ok (.iload_n 2, 1) := by decide +kernel
theorem dX8_meter_16 : decode cX8_meter 16 = .ok (.aload_n 0, 1) := by decide +kernel
theorem dX8_meter_17 : decode cX8_meter 17 = .ok (.getfield 95, 3) := by decide +kernel
theorem dX8_meter_20 : decode cX8_meter 20 = .ok (.if_icmp .gt 16, 3) := by decide +kernel
theorem dX8_meter_23 : decode cX8_meter 23 = .ok (.iload_n 3, 1) := by decide +kernel
theorem dX8_meter_24 : decode cX8_meter 24 = .ok (.iconst 0, 1) := by decide +kernel
theorem dX8_meter_25 : decode cX8_meter 25 = .ok (.iconst 3, 1) := by decide +kernel
theorem dX8_meter_26 : decode cX8_meter 26 = .ok (.invokestatic 98, 3) := by decide +kernel
theorem dX8_meter_29 : decode cX8_meter 29 = .ok (.ifCond .eq 7, 3) := by decide +kernel
theorem dX8_meter_32 : decode cX8_meter 32 = .ok (.iconst 1, 1) := by decide +kernel
theorem dX8_meter_33 : decode cX8_meter 33 = .ok (.goto 4, 3) := by decide +kernel
theorem dX8_meter_36 : decode cX8_meter 36 = .ok (.iconst 0, 1) := by decide +kernel
theorem dX8_meter_37 : decode cX8_meter 37 = .ok (.istore 5, 2) := by decide +kernel
theorem dX8_meter_39 : decode cX8_meter 39 = .ok (.iload 5, 2) := by decide +kernel
theorem dX8_meter_41 : decode cX8_meter 41 = .ok (.ifCond .eq 20, 3) := by decide +kernel
theorem dX8_meter_44 : decode cX8_meter 44 = .ok (.iload 4, 2) := by decide +kernel
theorem dX8_meter_46 : decode cX8_meter 46 = .ok (.iconst (-1), 1) := by decide +kernel
theorem dX8_meter_47 : decode cX8_meter 47 = .ok (.if_icmp .eq 16, 3) := by decide +kernel
theorem dX8_meter_50 : decode cX8_meter 50 = .ok (.iload 4, 2) := by decide +kernel
theorem dX8_meter_52 : decode cX8_meter 52 = .ok (.iconst 0, 1) := by decide +kernel
theorem dX8_meter_53 : decode cX8_meter 53 = .ok (.bipush 99, 2) := by decide +kernel
theorem dX8_meter_55 : decode cX8_meter 55 = .ok (.invokestatic 98, 3) := by decide +kernel
theorem dX8_meter_58 : decode cX8_meter 58 = .ok (.ifCond .ne 5, 3) := by decide +kernel
theorem dX8_meter_61 : decode cX8_meter 61 = .ok (.iconst 0, 1) := by decide +kernel
theorem dX8_meter_62 : decode cX8_meter 62 = .ok (.ireturn, 1) := by decide +kernel
theorem dX8_meter_63 : decode cX8_meter 63 = .ok (.aload_n 0, 1) := by decide +kernel
theorem dX8_meter_64 : decode cX8_meter 64 = .ok (.getfield 19, 3) := by decide +kernel
theorem dX8_meter_67 : decode cX8_meter 67 = .ok (.iload_n 1, 1) := by decide +kernel
theorem dX8_meter_68 : decode cX8_meter 68 = .ok (.iload_n 2, 1) := by decide +kernel
theorem dX8_meter_69 : decode cX8_meter 69 = .ok (.iload_n 3, 1) := by decide +kernel
theorem dX8_meter_70 : decode cX8_meter 70 = .ok (.iload 4, 2) := by decide +kernel
theorem dX8_meter_72 : decode cX8_meter 72 = .ok (.invokevirtual 101, 3) := by decide +kernel
theorem dX8_meter_75 : decode cX8_meter 75 = .ok (.iconst 1, 1) := by decide +kernel
theorem dX8_meter_76 : decode cX8_meter 76 = .ok (.ireturn, 1) := by decide +kernel
set_option maxRecDepth 20000 in
theorem ggX8_fouled_X8_isWorks : GoodIn wsX8_fouled wsX8_isWorks := goodIn_r _ [6, 7, 8, 9, 5, 10, 41, 42, 43, 44, 45, 46, 47, 48, 49, 50, 51, 52, 53] (by decide +kernel) (by decide +kernel)
set_option maxRecDepth 20000 in
theorem gX8_fouled_X8_isWorks : GoodIn wsX8_fouled (wsV RX8 92 RX8 yX8_isWorks wsX8_isWorks) := goodIn_app (goodIn_of _ (by decide +kernel)) ggX8_fouled_X8_isWorks
set_option maxRecDepth 20000 in
theorem ggX8_fouled_X8_isYear : GoodIn wsX8_fouled wsX8_isYear := goodIn_r _ [13, 8, 9, 5, 10] (by decide +kernel) (by decide +kernel)
set_option maxRecDepth 20000 in
theorem gX8_fouled_X8_isYear : GoodIn wsX8_fouled (va_wsS RX8 71 yX8_isYear wsX8_isYear) := goodIn_app (goodIn_of _ (by decide +kernel)) ggX8_fouled_X8_isYear
set_option maxRecDepth 20000 in
theorem ggX8_fouled_X4_fouledIn : GoodIn wsX8_fouled wsX4_fouledIn := goodIn_r _ [18, 19, 20, 21, 22, 17, 23, 24, 25, 26, 27, 28, 29, 30, 31, 32, 33, 34, 35, 36, 37, 38, 39, 40, 54, 55] (by decide +kernel) (by decide +kernel)
set_option maxRecDepth 20000 in
theorem gX8_fouled_X4_fouledIn : GoodIn wsX8_fouled (wsV RX8 105 RX4 yX4_fouledIn wsX4_fouledIn) := goodIn_app (goodIn_of _ (by decide +kernel)) ggX8_fouled_X4_fouledIn
theorem dX8_fouled_0 : decode cX8_fouled 0 = .ok (.aload_n 0, 1) := by decide +kernel
theorem dX8_fouled_1 : decode cX8_fouled 1 = .ok (.iload_n 1, 1) := by decide +kernel
theorem dX8_fouled_2 : decode cX8_fouled 2 = .ok (.invokevirtual 92, 3) := by decide +kernel
theorem dX8_fouled_5 : decode cX8_fouled 5 = .ok (.ifCond .eq 22, 3) := by decide +kernel
theorem dX8_fouled_8 : decode cX8_fouled 8 = .ok (.iload_n 2, 1) := by decide +kernel
theorem dX8_fouled_9 : decode cX8_fouled 9 = .ok (.invokestatic 71, 3) := by decide +kernel
theorem dX8_fouled_12 : decode cX8_fouled 12 = .ok (.ifCond .eq 15, 3) := by decide +kernel
theorem dX8_fouled_15 : decode cX8_fouled 15 = .ok (.aload_n 0, 1) := by decide +kernel
theorem dX8_fouled_16 : decode cX8_fouled 16 = .ok (.getfield 19, 3) := by decide +kernel
theorem dX8_fouled_19 : decode cX8_fouled 19 = .ok (.iload_n 1, 1) := by decide +kernel
theorem dX8_fouled_20 : decode cX8_fouled 20 = .ok (.iload_n 2, 1) := by decide +kernel
theorem dX8_fouled_21 : decode cX8_fouled 21 = .ok (.invokevirtual 105, 3) := by decide +kernel
theorem dX8_fouled_24 : decode cX8_fouled 24 = .ok (.goto 4, 3) := by decide +kernel
theorem dX8_fouled_27 : decode cX8_fouled 27 = .ok (.iconst (-1), 1) := by decide +kernel
theorem dX8_fouled_28 : decode cX8_fouled 28 = .ok (.ireturn, 1) := by decide +kernel
set_option maxRecDepth 20000 in
theorem ggX8_issue_X8_isYear : GoodIn wsX8_issue wsX8_isYear := goodIn_r _ [11, 12, 13, 10, 14] (by decide +kernel) (by decide +kernel)
set_option maxRecDepth 20000 in
theorem gX8_issue_X8_isYear : GoodIn wsX8_issue (va_wsS RX8 71 yX8_isYear wsX8_isYear) := goodIn_app (goodIn_of _ (by decide +kernel)) ggX8_issue_X8_isYear
set_option maxRecDepth 20000 in
theorem ggX8_issue_X7_capIn : GoodIn wsX8_issue wsX7_capIn := goodIn_r _ [19, 20, 21, 22, 23, 24, 25, 18, 26, 27, 28, 29, 30, 31, 32, 33, 157, 158, 159, 160, 161, 162, 163, 164] (by decide +kernel) (by decide +kernel)
set_option maxRecDepth 20000 in
theorem gX8_issue_X7_capIn : GoodIn wsX8_issue (wsV RX8 79 RX7 yX7_capIn wsX7_capIn) := goodIn_app (goodIn_of _ (by decide +kernel)) ggX8_issue_X7_capIn
set_option maxRecDepth 20000 in
theorem ggX8_issue_X5_hasRoomFor : GoodIn wsX8_issue wsX5_hasRoomFor := goodIn_r _ [38, 39, 165, 166, 167, 168, 169, 170, 171, 172, 173, 174, 175, 176] (by decide +kernel) (by decide +kernel)
set_option maxRecDepth 20000 in
theorem gX8_issue_X5_hasRoomFor : GoodIn wsX8_issue (wsV RX8 113 RX5 yX5_hasRoomFor wsX5_hasRoomFor) := goodIn_app (goodIn_of _ (by decide +kernel)) ggX8_issue_X5_hasRoomFor
set_option maxRecDepth 20000 in
theorem ggX8_issue_X7_shareIn : GoodIn wsX8_issue wsX7_shareIn := goodIn_r _ [43, 44, 23, 24, 25, 18, 26, 27, 21, 28, 29, 30, 31, 32, 33, 157, 158, 159, 160, 161, 162, 163, 164] (by decide +kernel) (by decide +kernel)
set_option maxRecDepth 20000 in
theorem gX8_issue_X7_shareIn : GoodIn wsX8_issue (wsV RX8 83 RX7 yX7_shareIn wsX7_shareIn) := goodIn_app (goodIn_of _ (by decide +kernel)) ggX8_issue_X7_shareIn
set_option maxRecDepth 20000 in
theorem ggX8_issue_X0_share : GoodIn wsX8_issue wsX0_share := goodIn_r _ [49, 50, 51, 52, 53, 54, 55, 48, 56, 57, 58, 59, 60, 61, 62, 63, 64, 65, 66, 67, 68, 69, 70, 71, 72, 73, 74, 75, 76, 77, 78, 29, 30, 31, 32, 33, 79, 80, 81, 82, 83, 84, 85, 86, 87, 88, 89, 90, 91, 92, 93, 94, 95, 96, 97, 177, 178, 179, 180, 164] (by decide +kernel) (by decide +kernel)
set_option maxRecDepth 20000 in
theorem gX8_issue_X0_share : GoodIn wsX8_issue (wsV RX8 116 RX0 yX0_share wsX0_share) := goodIn_app (goodIn_of _ (by decide +kernel)) ggX8_issue_X0_share
set_option maxRecDepth 20000 in
theorem ggX8_issue_X0_partOf : GoodIn wsX8_issue wsX0_partOf := goodIn_r _ [101, 51, 83, 29, 30, 31, 32, 33, 177, 178, 179, 164] (by decide +kernel) (by decide +kernel)
set_option maxRecDepth 20000 in
theorem gX8_issue_X0_partOf : GoodIn wsX8_issue (wsV RX8 120 RX0 yX0_partOf wsX0_partOf) := goodIn_app (goodIn_of _ (by decide +kernel)) ggX8_issue_X0_partOf
set_option maxRecDepth 20000 in
theorem ggX8_issue_X5_come : GoodIn wsX8_issue wsX5_come := goodIn_r _ [105, 39, 106, 107, 108, 109, 110, 111, 112, 113, 114, 115, 37, 116, 117, 118, 68, 69, 70, 119, 120, 121, 122, 123, 124, 31, 125, 33, 126, 127, 128, 129, 130, 131, 132, 133, 134, 135, 136, 137, 138, 139, 140, 141, 142, 80, 81, 82, 143, 93, 94, 95, 96, 29, 30, 32, 97, 165, 166, 167, 168, 169, 170, 171, 172, 173, 174, 175, 176, 164] (by decide +kernel) (by decide +kernel)
set_option maxRecDepth 20000 in
theorem gX8_issue_X5_come : GoodIn wsX8_issue (wsV RX8 123 RX5 yX5_come wsX5_come) := goodIn_app (goodIn_of _ (by decide +kernel)) ggX8_issue_X5_come
theorem dX8_issue_0 : decode cX8_issue 0 = .ok (.aload_n 0, 1) := by decide +kernel
theorem dX8_issue_1 : decode cX8_issue 1 = .ok (.getfield 95, 3) := by decide +kernel
theorem dX8_issue_4 : decode cX8_issue 4 = .ok (.invokestatic 71, 3) := by decide +kernel
theorem dX8_issue_7 : decode cX8_issue 7 = .ok (.ifCond .eq 10, 3) := by decide +kernel
theorem dX8_issue_10 : decode cX8_issue 10 = .ok (.aload_n 0, 1) := by decide +kernel
theorem dX8_issue_11 : decode cX8_issue 11 = .ok (.getfield 109, 3) := by decide +kernel
theorem dX8_issue_14 : decode cX8_issue 14 = .ok (.ifCond .eq 5, 3) := by decide +kernel
theorem dX8_issue_17 : decode cX8_issue 17 = .ok (.iconst (-1), 1) := by decide +kernel
theorem dX8_issue_18 : decode cX8_issue 18 = .ok (.ireturn, 1) := by decide +kernel
theorem dX8_issue_19 : decode cX8_issue 19 = .ok (.aload_n 0, 1) := by decide +kernel
theorem dX8_issue_20 : decode cX8_issue 20 = .ok (.getfield 10, 3) := by decide +kernel
theorem dX8_issue_23 : decode cX8_issue 23 = .ok (.aload_n 0, 1) := by decide +kernel
theorem dX8_issue_24 : decode cX8_issue 24 = .ok (.getfield 95, 3) := by decide +kernel
theorem dX8_issue_27 : decode cX8_issue 27 = .ok (.invokevirtual 79, 3) := by decide +kernel
theorem dX8_issue_30 : decode cX8_issue 30 = .ok (.istore_n 1, 1) := by decide +kernel
theorem dX8_issue_31 : decode cX8_issue 31 = .ok (.aload_n 0, 1) := by decide +kernel
theorem dX8_issue_32 : decode cX8_issue 32 = .ok (.getfield 26, 3) := by decide +kernel
theorem dX8_issue_35 : decode cX8_issue 35 = .ok (.iload_n 1, 1) := by decide +kernel
theorem dX8_issue_36 : decode cX8_issue 36 = .ok (.invokevirtual 113, 3) := by decide +kernel
theorem dX8_issue_39 : decode cX8_issue 39 = .ok (.ifCond .ne 5, 3) := by decide +kernel
theorem dX8_issue_42 : decode cX8_issue 42 = .ok (.iconst (-1), 1) := by decide +kernel
theorem dX8_issue_43 : decode cX8_issue 43 = .ok (.ireturn, 1) := by decide +kernel
theorem dX8_issue_44 : decode cX8_issue 44 = .ok (.aload_n 0, 1) := by decide +kernel
theorem dX8_issue_45 : decode cX8_issue 45 = .ok (.getfield 33, 3) := by decide +kernel
theorem dX8_issue_48 : decode cX8_issue 48 = .ok (.iload_n 1, 1) := by decide +kernel
theorem dX8_issue_49 : decode cX8_issue 49 = .ok (.aload_n 0, 1) := by decide +kernel
theorem dX8_issue_50 : decode cX8_issue 50 = .ok (.getfield 10, 3) := by decide +kernel
theorem dX8_issue_53 : decode cX8_issue 53 = .ok (.aload_n 0, 1) := by decide +kernel
theorem dX8_issue_54 : decode cX8_issue 54 = .ok (.getfield 95, 3) := by decide +kernel
theorem dX8_issue_57 : decode cX8_issue 57 = .ok (.invokevirtual 83, 3) := by decide +kernel
theorem dX8_issue_60 : decode cX8_issue 60 = .ok (.imul, 1) := by decide +kernel
theorem dX8_issue_61 : decode cX8_issue 61 = .ok (.bipush 100, 2) := by decide +kernel
theorem dX8_issue_63 : decode cX8_issue 63 = .ok (.idiv, 1) := by decide +kernel
theorem dX8_issue_64 : decode cX8_issue 64 = .ok (.aload_n 0, 1) := by decide +kernel
theorem dX8_issue_65 : decode cX8_issue 65 = .ok (.getfield 19, 3) := by decide +kernel
theorem dX8_issue_68 : decode cX8_issue 68 = .ok (.aload_n 0, 1) := by decide +kernel
theorem dX8_issue_69 : decode cX8_issue 69 = .ok (.getfield 67, 3) := by decide +kernel
theorem dX8_issue_72 : decode cX8_issue 72 = .ok (.aload_n 0, 1) := by decide +kernel
theorem dX8_issue_73 : decode cX8_issue 73 = .ok (.getfield 95, 3) := by decide +kernel
theorem dX8_issue_76 : decode cX8_issue 76 = .ok (.invokevirtual 116, 3) := by decide +kernel
theorem dX8_issue_79 : decode cX8_issue 79 = .ok (.istore_n 2, 1) := by decide +kernel
theorem dX8_issue_80 : decode cX8_issue 80 = .ok (.iconst 0, 1) := by decide +kernel
theorem dX8_issue_81 : decode cX8_issue 81 = .ok (.istore_n 3, 1) := by decide +kernel
theorem dX8_issue_82 : decode cX8_issue 82 = .ok (.iload_n 3, 1) := by decide +kernel
theorem dX8_issue_83 : decode cX8_issue 83 = .ok (.aload_n 0, 1) := by decide +kernel
theorem dX8_issue_84 : decode cX8_issue 84 = .ok (.getfield 67, 3) := by decide +kernel
theorem dX8_issue_87 : decode cX8_issue 87 = .ok (.if_icmp .ge 30, 3) := by decide +kernel
theorem dX8_issue_90 : decode cX8_issue 90 = .ok (.aload_n 0, 1) := by decide +kernel
theorem dX8_issue_91 : decode cX8_issue 91 = .ok (.getfield 26, 3) := by decide +kernel
theorem dX8_issue_94 : decode cX8_issue 94 = .ok (.aload_n 0, 1) := by decide +kernel
theorem dX8_issue_95 : decode cX8_issue 95 = .ok (.getfield 33, 3) := by decide +kernel
theorem dX8_issue_98 : decode cX8_issue 98 = .ok (.iload_n 3, 1) := by decide +kernel
theorem dX8_issue_99 : decode cX8_issue 99 = .ok (.invokevirtual 120, 3) := by decide +kernel
theorem dX8_issue_102 : decode cX8_issue 102 = .ok (.iload_n 3, 1) := by decide +kernel
theorem dX8_issue_103 : decode cX8_issue 103 = .ok (.aload_n 0, 1) := by decide +kernel
theorem dX8_issue_104 : decode cX8_issue 104 = .ok (.getfield 95, 3) := by decide +kernel
theorem dX8_issue_107 : decode cX8_issue 107 = .ok (.iconst (-1), 1) := by decide +kernel
theorem dX8_issue_108 : decode cX8_issue 108 = .ok (.invokevirtual 123, 3) := by decide +kernel
theorem dX8_issue_111 : decode cX8_issue 111 = .ok (.iinc 3 1, 3) := by decide +kernel
theorem dX8_issue_114 : decode cX8_issue 114 = .ok (.goto (-32), 3) := by decide +kernel
theorem dX8_issue_117 : decode cX8_issue 117 = .ok (.aload_n 0, 1) := by decide +kernel
theorem dX8_issue_118 : decode cX8_issue 118 = .ok (.getfield 26, 3) := by decide +kernel
theorem dX8_issue_121 : decode cX8_issue 121 = .ok (.iload_n 1, 1) := by decide +kernel
theorem dX8_issue_122 : decode cX8_issue 122 = .ok (.iload_n 2, 1) := by decide +kernel
theorem dX8_issue_123 : decode cX8_issue 123 = .ok (.isub, 1) := by decide +kernel
theorem dX8_issue_124 : decode cX8_issue 124 = .ok (.iconst (-1), 1) := by decide +kernel
theorem dX8_issue_125 : decode cX8_issue 125 = .ok (.aload_n 0, 1) := by decide +kernel
theorem dX8_issue_126 : decode cX8_issue 126 = .ok (.getfield 95, 3) := by decide +kernel
theorem dX8_issue_129 : decode cX8_issue 129 = .ok (.iconst (-1), 1) := by decide +kernel
theorem dX8_issue_130 : decode cX8_issue 130 = .ok (.invokevirtual 123, 3) := by decide +kernel
theorem dX8_issue_133 : decode cX8_issue 133 = .ok (.aload_n 0, 1) := by decide +kernel
theorem dX8_issue_134 : decode cX8_issue 134 = .ok (.iconst 1, 1) := by decide +kernel
theorem dX8_issue_135 : decode cX8_issue 135 = .ok (.putfield 109, 3) := by decide +kernel
theorem dX8_issue_138 : decode cX8_issue 138 = .ok (.iload_n 1, 1) := by decide +kernel
theorem dX8_issue_139 : decode cX8_issue 139 = .ok (.ireturn, 1) := by decide +kernel
set_option maxRecDepth 20000 in
theorem ggX8_bid_X8_isWorks : GoodIn wsX8_bid wsX8_isWorks := goodIn_r _ [6, 7, 8, 9, 5, 10, 41, 42, 43, 44, 45, 46, 47, 48, 49, 50, 51, 52, 53] (by decide +kernel) (by decide +kernel)
set_option maxRecDepth 20000 in
theorem gX8_bid_X8_isWorks : GoodIn wsX8_bid (wsV RX8 92 RX8 yX8_isWorks wsX8_isWorks) := goodIn_app (goodIn_of _ (by decide +kernel)) ggX8_bid_X8_isWorks
set_option maxRecDepth 20000 in
theorem ggX8_bid_X8_isWithin : GoodIn wsX8_bid wsX8_isWithin := goodIn_r _ [10] (by decide +kernel) (by decide +kernel)
set_option maxRecDepth 20000 in
theorem gX8_bid_X8_isWithin : GoodIn wsX8_bid (va_wsS RX8 98 yX8_isWithin wsX8_isWithin) := goodIn_app (goodIn_of _ (by decide +kernel)) ggX8_bid_X8_isWithin
set_option maxRecDepth 20000 in
theorem ggX8_bid_X1_areFull : GoodIn wsX8_bid wsX1_areFull := goodIn_r _ [15, 16, 54, 55, 56, 57, 58] (by decide +kernel) (by decide +kernel)
set_option maxRecDepth 20000 in
theorem gX8_bid_X1_areFull : GoodIn wsX8_bid (wsV RX8 126 RX1 yX1_areFull wsX1_areFull) := goodIn_app (goodIn_of _ (by decide +kernel)) ggX8_bid_X1_areFull
set_option maxRecDepth 20000 in
theorem ggX8_bid_X1_enter : GoodIn wsX8_bid wsX1_enter := goodIn_r _ [20, 16, 21, 22, 23, 24, 25, 26, 27, 28, 29, 30, 31, 32, 33, 34, 35, 36, 37, 38, 39, 40, 54, 55, 56, 57, 58, 59] (by decide +kernel) (by decide +kernel)
set_option maxRecDepth 20000 in
theorem gX8_bid_X1_enter : GoodIn wsX8_bid (wsV RX8 130 RX1 yX1_enter wsX1_enter) := goodIn_app (goodIn_of _ (by decide +kernel)) ggX8_bid_X1_enter
theorem dX8_bid_0 : decode cX8_bid 0 = .ok (.aload_n 0, 1) := by decide +kernel
theorem dX8_bid_1 : decode cX8_bid 1 = .ok (.iload_n 1, 1) := by decide +kernel
theorem dX8_bid_2 : decode cX8_bid 2 = .ok (.invokevirtual 92, 3) := by decide +kernel
theorem dX8_bid_5 : decode cX8_bid 5 = .ok (.ifCond .eq 35, 3) := by decide +kernel
theorem dX8_bid_8 : decode cX8_bid 8 = .ok (.iload_n 2, 1) := by decide +kernel
theorem dX8_bid_9 : decode cX8_bid 9 = .ok (.iconst 1, 1) := by decide +kernel
theorem dX8_bid_10 : decode cX8_bid 10 = .ok (.sipush 400, 3) := by decide +kernel
theorem dX8_bid_13 : decode cX8_bid 13 = .ok (.invokestatic 98, 3) := by decide +kernel
theorem dX8_bid_16 : decode cX8_bid 16 = .ok (.ifCond .eq 24, 3) := by decide +kernel
theorem dX8_bid_19 : decode cX8_bid 19 = .ok (.iload_n 3, 1) := by decide +kernel
theorem dX8_bid_20 : decode cX8_bid 20 = .ok (.iconst 0, 1) := by decide +kernel
theorem dX8_bid_21 : decode cX8_bid 21 = .ok (.sipush 999, 3) := by decide +kernel
theorem dX8_bid_24 : decode cX8_bid 24 = .ok (.invokestatic 98, 3) := by decide +kernel
theorem dX8_bid_27 : decode cX8_bid 27 = .ok (.ifCond .eq 13, 3) := by decide +kernel
theorem dX8_bid_30 : decode cX8_bid 30 = .ok (.aload_n 0, 1) := by decide +kernel
theorem dX8_bid_31 : decode cX8_bid 31 = .ok (.getfield 40, 3) := by decide +kernel
theorem dX8_bid_34 : decode cX8_bid 34 = .ok (.invokevirtual 126, 3) := by decide +kernel
theorem dX8_bid_37 : decode cX8_bid 37 = .ok (.ifCond .eq 5, 3) := by decide +kernel
theorem dX8_bid_40 : decode cX8_bid 40 = .ok (.iconst (-1), 1) := by decide +kernel
theorem dX8_bid_41 : decode cX8_bid 41 = .ok (.ireturn, 1) := by decide +kernel
theorem dX8_bid_42 : decode cX8_bid 42 = .ok (.aload_n 0, 1) := by decide +kernel
theorem dX8_bid_43 : decode cX8_bid 43 = .ok (.getfield 40, 3) := by decide +kernel
theorem dX8_bid_46 : decode cX8_bid 46 = .ok (.iload_n 1, 1) := by decide +kernel
theorem dX8_bid_47 : decode cX8_bid 47 = .ok (.iload_n 2, 1) := by decide +kernel
theorem dX8_bid_48 : decode cX8_bid 48 = .ok (.iload_n 3, 1) := by decide +kernel
theorem dX8_bid_49 : decode cX8_bid 49 = .ok (.invokevirtual 130, 3) := by decide +kernel
theorem dX8_bid_52 : decode cX8_bid 52 = .ok (.ireturn, 1) := by decide +kernel
set_option maxRecDepth 20000 in
theorem ggX8_auction_X5_heldBy : GoodIn wsX8_auction wsX5_heldBy := goodIn_r _ [11, 12, 13, 14, 15, 16, 17, 18, 125, 126, 127, 128, 129, 130, 131, 132, 133, 134, 135, 136, 137] (by decide +kernel) (by decide +kernel)
set_option maxRecDepth 20000 in
theorem gX8_auction_X5_heldBy : GoodIn wsX8_auction (wsV RX8 134 RX5 yX5_heldBy wsX5_heldBy) := goodIn_app (goodIn_of _ (by decide +kernel)) ggX8_auction_X5_heldBy
set_option maxRecDepth 20000 in
theorem ggX8_auction_X7_floorIn : GoodIn wsX8_auction wsX7_floorIn := goodIn_r _ [23, 24, 25, 26, 27, 22, 28, 29, 30, 31, 14, 15, 16, 17, 18, 138, 139, 140, 141, 142, 143, 144, 137] (by decide +kernel) (by decide +kernel)
set_option maxRecDepth 20000 in
theorem gX8_auction_X7_floorIn : GoodIn wsX8_auction (wsV RX8 89 RX7 yX7_floorIn wsX7_floorIn) := goodIn_app (goodIn_of _ (by decide +kernel)) ggX8_auction_X7_floorIn
set_option maxRecDepth 20000 in
theorem ggX8_auction_X8_hammer : GoodIn wsX8_auction wsX8_hammer := goodIn_r _ [36, 4, 1, 37, 38, 39, 40, 41, 42, 43, 44, 45, 46, 47, 48, 49, 50, 51, 52, 14, 15, 16, 17, 18, 53, 54, 55, 56, 57, 7, 8, 9, 10, 11, 12, 13, 58, 59, 60, 61, 62, 63, 64, 65, 66, 67, 68, 69, 70, 71, 72, 73, 74, 75, 76, 77, 78, 79, 80, 81, 82, 83, 84, 85, 86, 87, 88, 89, 90, 91, 92, 93, 94, 95, 96, 112, 113, 114, 115, 116, 117, 118, 119, 120, 121, 122, 123, 124, 145, 146, 147, 148, 149, 137, 125, 126, 127, 128, 129, 130, 131, 132, 133, 134, 135, 136] (by decide +kernel) (by decide +kernel)
set_option maxRecDepth 20000 in
theorem gX8_auction_X8_hammer : GoodIn wsX8_auction (wsV RX8 137 RX8 yX8_hammer wsX8_hammer) := goodIn_app (goodIn_of _ (by decide +kernel)) ggX8_auction_X8_hammer
set_option maxRecDepth 20000 in
theorem ggX8_auction_X1_many : GoodIn wsX8_auction wsX1_many := goodIn_r _ [45, 46, 145, 146, 147, 148, 149] (by decide +kernel) (by decide +kernel)
set_option maxRecDepth 20000 in
theorem gX8_auction_X1_many : GoodIn wsX8_auction (wsV RX8 140 RX1 yX1_many wsX1_many) := goodIn_app (goodIn_of _ (by decide +kernel)) ggX8_auction_X1_many
set_option maxRecDepth 20000 in
theorem ggX8_auction_X1_got : GoodIn wsX8_auction wsX1_got := goodIn_r _ [100, 95, 52, 14, 15, 16, 17, 18, 145, 146, 147, 148, 149, 137] (by decide +kernel) (by decide +kernel)
set_option maxRecDepth 20000 in
theorem gX8_auction_X1_got : GoodIn wsX8_auction (wsV RX8 144 RX1 yX1_got wsX1_got) := goodIn_app (goodIn_of _ (by decide +kernel)) ggX8_auction_X1_got
set_option maxRecDepth 20000 in
theorem ggX8_auction_X1_who : GoodIn wsX8_auction wsX1_who := goodIn_r _ [61, 62, 52, 14, 15, 16, 17, 18, 145, 146, 147, 148, 149, 137] (by decide +kernel) (by decide +kernel)
set_option maxRecDepth 20000 in
theorem gX8_auction_X1_who : GoodIn wsX8_auction (wsV RX8 147 RX1 yX1_who wsX1_who) := goodIn_app (goodIn_of _ (by decide +kernel)) ggX8_auction_X1_who
set_option maxRecDepth 20000 in
theorem ggX8_auction_X3_earn : GoodIn wsX8_auction wsX3_earn := goodIn_r _ [105, 106, 107, 86, 87, 16, 88, 89, 14, 15, 17, 18, 90, 82, 83, 84, 150, 151, 152, 153, 154, 137] (by decide +kernel) (by decide +kernel)
set_option maxRecDepth 20000 in
theorem gX8_auction_X3_earn : GoodIn wsX8_auction (wsV RX8 150 RX3 yX3_earn wsX3_earn) := goodIn_app (goodIn_of _ (by decide +kernel)) ggX8_auction_X3_earn
set_option maxRecDepth 20000 in
theorem ggX8_auction_X1_forget : GoodIn wsX8_auction wsX1_forget := goodIn_r _ [111, 46, 145, 146, 147, 148, 149] (by decide +kernel) (by decide +kernel)
set_option maxRecDepth 20000 in
theorem gX8_auction_X1_forget : GoodIn wsX8_auction (wsV RX8 156 RX1 yX1_forget wsX1_forget) := goodIn_app (goodIn_of _ (by decide +kernel)) ggX8_auction_X1_forget
theorem dX8_auction_0 : decode cX8_auction 0 = .ok (.aload_n 0, 1) := by decide +kernel
theorem dX8_auction_1 : decode cX8_auction 1 = .ok (.getfield 26, 3) := by decide +kernel
theorem dX8_auction_4 : decode cX8_auction 4 = .ok (.iconst (-1), 1) := by decide +kernel
theorem dX8_auction_5 : decode cX8_auction 5 = .ok (.invokevirtual 134, 3) := by decide +kernel
theorem dX8_auction_8 : decode cX8_auction 8 = .ok (.ifCond .ne 5, 3) := by decide +kernel
theorem dX8_auction_11 : decode cX8_auction 11 = .ok (.iconst (-1), 1) := by decide +kernel
theorem dX8_auction_12 : decode cX8_auction 12 = .ok (.ireturn, 1) := by decide +kernel
theorem dX8_auction_13 : decode cX8_auction 13 = .ok (.aload_n 0, 1) := by decide +kernel
theorem dX8_auction_14 : decode cX8_auction 14 = .ok (.getfield 10, 3) := by decide +kernel
theorem dX8_auction_17 : decode cX8_auction 17 = .ok (.aload_n 0, 1) := by decide +kernel
theorem dX8_auction_18 : decode cX8_auction 18 = .ok (.getfield 95, 3) := by decide +kernel
theorem dX8_auction_21 : decode cX8_auction 21 = .ok (.invokevirtual 89, 3) := by decide +kernel
theorem dX8_auction_24 : decode cX8_auction 24 = .ok (.istore_n 1, 1) := by decide +kernel
theorem dX8_auction_25 : decode cX8_auction 25 = .ok (.aload_n 0, 1) := by decide +kernel
theorem dX8_auction_26 : decode cX8_auction 26 = .ok (.iload_n 1, 1) := by decide +kernel
theorem dX8_auction_27 : decode cX8_auction 27 = .ok (.invokevirtual 137, 3) := by decide +kernel
theorem dX8_auction_30 : decode cX8_auction 30 = .ok (.istore_n 2, 1) := by decide +kernel
theorem dX8_auction_31 : decode cX8_auction 31 = .ok (.iconst 0, 1) := by decide +kernel
theorem dX8_auction_32 : decode cX8_auction 32 = .ok (.istore_n 3, 1) := by decide +kernel
theorem dX8_auction_33 : decode cX8_auction 33 = .ok (.iload_n 3, 1) := by decide +kernel
theorem dX8_auction_34 : decode cX8_auction 34 = .ok (.aload_n 0, 1) := by decide +kernel
theorem dX8_auction_35 : decode cX8_auction 35 = .ok (.getfield 40, 3) := by decide +kernel
theorem dX8_auction_38 : decode cX8_auction 38 = .ok (.invokevirtual 140, 3) := by decide +kernel
theorem dX8_auction_41 : decode cX8_auction 41 = .ok (.if_icmp .ge 50, 3) := by decide +kernel
theorem dX8_auction_44 : decode cX8_auction 44 = .ok (.aload_n 0, 1) := by decide +kernel
theorem dX8_auction_45 : decode cX8_auction 45 = .ok (.getfield 40, 3) := by decide +kernel
theorem dX8_auction_48 : decode cX8_auction 48 = .ok (.iload_n 3, 1) := by decide +kernel
theorem dX8_auction_49 : decode cX8_auction 49 = .ok (.invokevirtual 144, 3) := by decide +kernel
theorem dX8_auction_52 : decode cX8_auction 52 = .ok (.iload_n 2, 1) := by decide +kernel
theorem dX8_auction_53 : decode cX8_auction 53 = .ok (.imul, 1) := by decide +kernel
theorem dX8_auction_54 : decode cX8_auction 54 = .ok (.istore 4, 2) := by decide +kernel
theorem dX8_auction_56 : decode cX8_auction 56 = .ok (.aload_n 0, 1) := by decide +kernel
theorem dX8_auction_57 : decode cX8_auction 57 = .ok (.getfield 54, 3) := by decide +kernel
theorem dX8_auction_60 : decode cX8_auction 60 = .ok (.aload_n 0, 1) := by decide +kernel
theorem dX8_auction_61 : decode cX8_auction 61 = .ok (.getfield 40, 3) := by decide +kernel
theorem dX8_auction_64 : decode cX8_auction 64 = .ok (.iload_n 3, 1) := by decide +kernel
theorem dX8_auction_65 : decode cX8_auction 65 = .ok (.invokevirtual 147, 3) := by decide +kernel
theorem dX8_auction_68 : decode cX8_auction 68 = .ok (.iload 4, 2) := by decide +kernel
theorem dX8_auction_70 : decode cX8_auction 70 = .ok (.ineg, 1) := by decide +kernel
theorem dX8_auction_71 : decode cX8_auction 71 = .ok (.invokevirtual 150, 3) := by decide +kernel
theorem dX8_auction_74 : decode cX8_auction 74 = .ok (.aload_n 0, 1) := by decide +kernel
theorem dX8_auction_75 : decode cX8_auction 75 = .ok (.dup, 1) := by decide +kernel
theorem dX8_auction_76 : decode cX8_auction 76 = .ok (.getfield 153, 3) := by decide +kernel
theorem dX8_auction_79 : decode cX8_auction 79 = .ok (.iload 4, 2) := by decide +kernel
theorem dX8_auction_81 : decode cX8_auction 81 = .ok (.iadd, 1) := by decide +kernel
theorem dX8_auction_82 : decode cX8_auction 82 = .ok (.putfield 153, 3) := by decide +kernel
theorem dX8_auction_85 : decode cX8_auction 85 = .ok (.iinc 3 1, 3) := by decide +kernel
theorem dX8_auction_88 : decode cX8_auction 88 = .ok (.goto (-55), 3) := by decide +kernel
theorem dX8_auction_91 : decode cX8_auction 91 = .ok (.aload_n 0, 1) := by decide +kernel
theorem dX8_auction_92 : decode cX8_auction 92 = .ok (.getfield 40, 3) := by decide +kernel
theorem dX8_auction_95 : decode cX8_auction 95 = .ok (.invokevirtual 156, 3) := by decide +kernel
theorem dX8_auction_98 : decode cX8_auction 98 = .ok (.iload_n 2, 1) := by decide +kernel
theorem dX8_auction_99 : decode cX8_auction 99 = .ok (.ireturn, 1) := by decide +kernel
set_option maxRecDepth 20000 in
theorem ggX8_trade_X8_isWorks : GoodIn wsX8_trade wsX8_isWorks := goodIn_r _ [8, 9, 10, 11, 7, 12, 67, 68, 69, 70, 71, 72, 73, 74, 75, 76, 77, 78, 79] (by decide +kernel) (by decide +kernel)
set_option maxRecDepth 20000 in
theorem gX8_trade_X8_isWorks : GoodIn wsX8_trade (wsV RX8 92 RX8 yX8_isWorks wsX8_isWorks) := goodIn_app (goodIn_of _ (by decide +kernel)) ggX8_trade_X8_isWorks
set_option maxRecDepth 20000 in
theorem ggX8_trade_X8_isWithin : GoodIn wsX8_trade wsX8_isWithin := goodIn_r _ [12] (by decide +kernel) (by decide +kernel)
set_option maxRecDepth 20000 in
theorem gX8_trade_X8_isWithin : GoodIn wsX8_trade (va_wsS RX8 98 yX8_isWithin wsX8_isWithin) := goodIn_app (goodIn_of _ (by decide +kernel)) ggX8_trade_X8_isWithin
set_option maxRecDepth 20000 in
theorem ggX8_trade_X8_holdsAsMany : GoodIn wsX8_trade wsX8_holdsAsMany := goodIn_r _ [16, 2, 4, 5, 6, 7, 8, 9, 10, 11, 12, 17, 18, 19, 20, 21, 22, 23, 24, 25, 26, 27, 28, 67, 68, 69, 70, 71, 72, 73, 74, 75, 76, 77, 78, 79, 80, 81, 82, 83, 84, 85, 86, 87, 88, 89, 90, 91, 92] (by decide +kernel) (by decide +kernel)
set_option maxRecDepth 20000 in
theorem gX8_trade_X8_holdsAsMany : GoodIn wsX8_trade (wsV RX8 160 RX8 yX8_holdsAsMany wsX8_holdsAsMany) := goodIn_app (goodIn_of _ (by decide +kernel)) ggX8_trade_X8_holdsAsMany
set_option maxRecDepth 20000 in
theorem ggX8_trade_X5_pass : GoodIn wsX8_trade wsX5_pass := goodIn_r _ [32, 33, 34, 35, 36, 37, 38, 39, 22, 40, 41, 42, 20, 43, 44, 23, 24, 25, 26, 27, 28, 45, 46, 47, 48, 49, 50, 51, 52, 53, 54, 55, 56, 57, 58, 59, 80, 81, 82, 83, 84, 85, 86, 87, 88, 89, 90, 91, 92] (by decide +kernel) (by decide +kernel)
set_option maxRecDepth 20000 in
theorem gX8_trade_X5_pass : GoodIn wsX8_trade (wsV RX8 164 RX5 yX5_pass wsX5_pass) := goodIn_app (goodIn_of _ (by decide +kernel)) ggX8_trade_X5_pass
set_option maxRecDepth 20000 in
theorem ggX8_trade_X3_earn : GoodIn wsX8_trade wsX3_earn := goodIn_r _ [64, 65, 66, 55, 56, 26, 57, 58, 24, 25, 27, 28, 59, 51, 52, 53, 93, 94, 95, 96, 97, 92] (by decide +kernel) (by decide +kernel)
set_option maxRecDepth 20000 in
theorem gX8_trade_X3_earn : GoodIn wsX8_trade (wsV RX8 150 RX3 yX3_earn wsX3_earn) := goodIn_app (goodIn_of _ (by decide +kernel)) ggX8_trade_X3_earn
theorem dX8_trade_0 : decode cX8_trade 0 = .ok (.aload_n 0, 1) := by decide +kernel
theorem dX8_trade_1 : decode cX8_trade 1 = .ok (.iload_n 2, 1) := by decide +kernel
theorem dX8_trade_2 : decode cX8_trade 2 = .ok (.invokevirtual 92, 3) := by decide +kernel
theorem dX8_trade_5 : decode cX8_trade 5 = .ok (.ifCond .eq 28, 3) := by decide +kernel
theorem dX8_trade_8 : decode cX8_trade 8 = .ok (.iload_n 1, 1) := by decide +kernel
theorem dX8_trade_9 : decode cX8_trade 9 = .ok (.iload_n 2, 1) := by decide +kernel
theorem dX8_trade_10 : decode cX8_trade 10 = .ok (.if_icmp .eq 23, 3) := by decide +kernel
theorem dX8_trade_13 : decode cX8_trade 13 = .ok (.iload 4, 2) := by decide +kernel
theorem dX8_trade_15 : decode cX8_trade 15 = .ok (.iconst 0, 1) := by decide +kernel
theorem dX8_trade_16 : decode cX8_trade 16 = .ok (.ldc 159, 2) := by decide +kernel
theorem dX8_trade_18 : decode cX8_trade 18 = .ok (.invokestatic 98, 3) := by decide +kernel
theorem dX8_trade_21 : decode cX8_trade 21 = .ok (.ifCond .eq 12, 3) := by decide +kernel
theorem dX8_trade_24 : decode cX8_trade 24 = .ok (.aload_n 0, 1) := by decide +kernel
theorem dX8_trade_25 : decode cX8_trade 25 = .ok (.iload_n 1, 1) := by decide +kernel
theorem dX8_trade_26 : decode cX8_trade 26 = .ok (.iload_n 3, 1) := by decide +kernel
theorem dX8_trade_27 : decode cX8_trade 27 = .ok (.invokevirtual 160, 3) := by decide +kernel
theorem dX8_trade_30 : decode cX8_trade 30 = .ok (.ifCond .ne 5, 3) := by decide +kernel
theorem dX8_trade_33 : decode cX8_trade 33 = .ok (.iconst 0, 1) := by decide +kernel
theorem dX8_trade_34 : decode cX8_trade 34 = .ok (.ireturn, 1) := by decide +kernel
theorem dX8_trade_35 : decode cX8_trade 35 = .ok (.aload_n 0, 1) := by decide +kernel
theorem dX8_trade_36 : decode cX8_trade 36 = .ok (.getfield 26, 3) := by decide +kernel
theorem dX8_trade_39 : decode cX8_trade 39 = .ok (.iload_n 1, 1) := by decide +kernel
theorem dX8_trade_40 : decode cX8_trade 40 = .ok (.iload_n 2, 1) := by decide +kernel
theorem dX8_trade_41 : decode cX8_trade 41 = .ok (.iload_n 3, 1) := by decide +kernel
theorem dX8_trade_42 : decode cX8_trade 42 = .ok (.invokevirtual 164, 3) := by decide +kernel
theorem dX8_trade_45 : decode cX8_trade 45 = .ok (.aload_n 0, 1) := by decide +kernel
theorem dX8_trade_46 : decode cX8_trade 46 = .ok (.getfield 54, 3) := by decide +kernel
theorem dX8_trade_49 : decode cX8_trade 49 = .ok (.iload_n 1, 1) := by decide +kernel
theorem dX8_trade_50 : decode cX8_trade 50 = .ok (.iload 4, 2) := by decide +kernel
theorem dX8_trade_52 : decode cX8_trade 52 = .ok (.invokevirtual 150, 3) := by decide +kernel
theorem dX8_trade_55 : decode cX8_trade 55 = .ok (.aload_n 0, 1) := by decide +kernel
theorem dX8_trade_56 : decode cX8_trade 56 = .ok (.getfield 54, 3) := by decide +kernel
theorem dX8_trade_59 : decode cX8_trade 59 = .ok (.iload_n 2, 1) := by decide +kernel
theorem dX8_trade_60 : decode cX8_trade 60 = .ok (.iload 4, 2) := by decide +kernel
theorem dX8_trade_62 : decode cX8_trade 62 = .ok (.ineg, 1) := by decide +kernel
theorem dX8_trade_63 : decode cX8_trade 63 = .ok (.invokevirtual 150, 3) := by decide +kernel
theorem dX8_trade_66 : decode cX8_trade 66 = .ok (.iconst 1, 1) := by decide +kernel
theorem dX8_trade_67 : decode cX8_trade 67 = .ok (.ireturn, 1) := by decide +kernel
set_option maxRecDepth 20000 in
theorem ggX8_offset_X8_isWorks : GoodIn wsX8_offset wsX8_isWorks := goodIn_r _ [8, 9, 10, 11, 7, 12, 80, 81, 82, 83, 84, 85, 86, 87, 88, 89, 90, 91, 92] (by decide +kernel) (by decide +kernel)
set_option maxRecDepth 20000 in
theorem gX8_offset_X8_isWorks : GoodIn wsX8_offset (wsV RX8 92 RX8 yX8_isWorks wsX8_isWorks) := goodIn_app (goodIn_of _ (by decide +kernel)) ggX8_offset_X8_isWorks
set_option maxRecDepth 20000 in
theorem ggX8_offset_X8_isWithin : GoodIn wsX8_offset wsX8_isWithin := goodIn_r _ [12] (by decide +kernel) (by decide +kernel)
set_option maxRecDepth 20000 in
theorem gX8_offset_X8_isWithin : GoodIn wsX8_offset (va_wsS RX8 98 yX8_isWithin wsX8_isWithin) := goodIn_app (goodIn_of _ (by decide +kernel)) ggX8_offset_X8_isWithin
set_option maxRecDepth 20000 in
theorem ggX8_offset_X8_isYear : GoodIn wsX8_offset wsX8_isYear := goodIn_r _ [15, 10, 11, 7, 12] (by decide +kernel) (by decide +kernel)
set_option maxRecDepth 20000 in
theorem gX8_offset_X8_isYear : GoodIn wsX8_offset (va_wsS RX8 71 yX8_isYear wsX8_isYear) := goodIn_app (goodIn_of _ (by decide +kernel)) ggX8_offset_X8_isYear
set_option maxRecDepth 20000 in
theorem ggX8_offset_X5_hasRoomFor : GoodIn wsX8_offset wsX5_hasRoomFor := goodIn_r _ [20, 21, 93, 94, 95, 96, 97, 98, 99, 100, 101, 102, 103, 104] (by decide +kernel) (by decide +kernel)
set_option maxRecDepth 20000 in
theorem gX8_offset_X5_hasRoomFor : GoodIn wsX8_offset (wsV RX8 113 RX5 yX5_hasRoomFor wsX5_hasRoomFor) := goodIn_app (goodIn_of _ (by decide +kernel)) ggX8_offset_X5_hasRoomFor
set_option maxRecDepth 20000 in
theorem ggX8_offset_X5_come : GoodIn wsX8_offset wsX5_come := goodIn_r _ [25, 21, 26, 27, 28, 29, 30, 31, 32, 33, 34, 35, 19, 36, 37, 38, 39, 40, 41, 42, 43, 44, 45, 46, 47, 48, 49, 50, 51, 52, 53, 54, 55, 56, 57, 58, 59, 60, 61, 62, 63, 64, 65, 66, 67, 68, 69, 70, 71, 72, 73, 74, 75, 76, 77, 78, 79, 93, 94, 95, 96, 97, 98, 99, 100, 101, 102, 103, 104, 105] (by decide +kernel) (by decide +kernel)
set_option maxRecDepth 20000 in
theorem gX8_offset_X5_come : GoodIn wsX8_offset (wsV RX8 123 RX5 yX5_come wsX5_come) := goodIn_app (goodIn_of _ (by decide +kernel)) ggX8_offset_X5_come
theorem dX8_offset_0 : decode cX8_offset 0 = .ok (.aload_n 0, 1) := by decide +kernel
theorem dX8_offset_1 : decode cX8_offset 1 = .ok (.iload_n 1, 1) := by decide +kernel
theorem dX8_offset_2 : decode cX8_offset 2 = .ok (.invokevirtual 92, 3) := by decide +kernel
theorem dX8_offset_5 : decode cX8_offset 5 = .ok (.ifCond .eq 22, 3) := by decide +kernel
theorem dX8_offset_8 : decode cX8_offset 8 = .ok (.iload_n 2, 1) := by decide +kernel
theorem dX8_offset_9 : decode cX8_offset 9 = .ok (.iconst 1, 1) := by decide +kernel
theorem dX8_offset_10 : decode cX8_offset 10 = .ok (.bipush 100, 2) := by decide +kernel
theorem dX8_offset_12 : decode cX8_offset 12 = .ok (.invokestatic 98, 3) := by decide +kernel
theorem dX8_offset_15 : decode cX8_offset 15 = .ok (.ifCond .eq 12, 3) := by decide +kernel
theorem dX8_offset_18 : decode cX8_offset 18 = .ok (.aload_n 0, 1) := by decide +kernel
theorem dX8_offset_19 : decode cX8_offset 19 = .ok (.getfield 168, 3) := by decide +kernel
theorem dX8_offset_22 : decode cX8_offset 22 = .ok (.bipush 20, 2) := by decide +kernel
theorem dX8_offset_24 : decode cX8_offset 24 = .ok (.if_icmp .lt 5, 3) := by decide +kernel
theorem dX8_offset_27 : decode cX8_offset 27 = .ok (.iconst (-1), 1) := by decide +kernel
theorem dX8_offset_28 : decode cX8_offset 28 = .ok (.ireturn, 1) := by decide +kernel
theorem dX8_offset_29 : decode cX8_offset 29 = .ok (.aload_n 0, 1) := by decide +kernel
theorem dX8_offset_30 : decode cX8_offset 30 = .ok (.getfield 95, 3) := by decide +kernel
theorem dX8_offset_33 : decode cX8_offset 33 = .ok (.invokestatic 71, 3) := by decide +kernel
theorem dX8_offset_36 : decode cX8_offset 36 = .ok (.ifCond .eq 14, 3) := by decide +kernel
theorem dX8_offset_39 : decode cX8_offset 39 = .ok (.aload_n 0, 1) := by decide +kernel
theorem dX8_offset_40 : decode cX8_offset 40 = .ok (.getfield 26, 3) := by decide +kernel
theorem dX8_offset_43 : decode cX8_offset 43 = .ok (.iload_n 2, 1) := by decide +kernel
theorem dX8_offset_44 : decode cX8_offset 44 = .ok (.invokevirtual 113, 3) := by decide +kernel
theorem dX8_offset_47 : decode cX8_offset 47 = .ok (.ifCond .ne 5, 3) := by decide +kernel
theorem dX8_offset_50 : decode cX8_offset 50 = .ok (.iconst (-1), 1) := by decide +kernel
theorem dX8_offset_51 : decode cX8_offset 51 = .ok (.ireturn, 1) := by decide +kernel
theorem dX8_offset_52 : decode cX8_offset 52 = .ok (.aload_n 0, 1) := by decide +kernel
theorem dX8_offset_53 : decode cX8_offset 53 = .ok (.getfield 168, 3) := by decide +kernel
theorem dX8_offset_56 : decode cX8_offset 56 = .ok (.istore_n 3, 1) := by decide +kernel
theorem dX8_offset_57 : decode cX8_offset 57 = .ok (.aload_n 0, 1) := by decide +kernel
theorem dX8_offset_58 : decode cX8_offset 58 = .ok (.getfield 26, 3) := by decide +kernel
theorem dX8_offset_61 : decode cX8_offset 61 = .ok (.iload_n 2, 1) := by decide +kernel
theorem dX8_offset_62 : decode cX8_offset 62 = .ok (.iload_n 1, 1) := by decide +kernel
theorem dX8_offset_63 : decode cX8_offset 63 = .ok (.aload_n 0, 1) := by decide +kernel
theorem dX8_offset_64 : decode cX8_offset 64 = .ok (.getfield 95, 3) := by decide +kernel
theorem dX8_offset_67 : decode cX8_offset 67 = .ok (.iload_n 3, 1) := by decide +kernel
theorem dX8_offset_68 : decode cX8_offset 68 = .ok (.invokevirtual 123, 3) := by decide +kernel
theorem dX8_offset_71 : decode cX8_offset 71 = .ok (.aload_n 0, 1) := by decide +kernel
theorem dX8_offset_72 : decode cX8_offset 72 = .ok (.dup, 1) := by decide +kernel
theorem dX8_offset_73 : decode cX8_offset 73 = .ok (.getfield 168, 3) := by decide +kernel
theorem dX8_offset_76 : decode cX8_offset 76 = .ok (.iconst 1, 1) := by decide +kernel
theorem dX8_offset_77 : decode cX8_offset 77 = .ok (.iadd, 1) := by decide +kernel
theorem dX8_offset_78 : decode cX8_offset 78 = .ok (.putfield 168, 3) := by decide +kernel
theorem dX8_offset_81 : decode cX8_offset 81 = .ok (.iload_n 3, 1) := by decide +kernel
theorem dX8_offset_82 : decode cX8_offset 82 = .ok (.ireturn, 1) := by decide +kernel
set_option maxRecDepth 20000 in
theorem ggX8_falses_X8_isWithin : GoodIn wsX8_falses wsX8_isWithin := goodIn_r _ [7] (by decide +kernel) (by decide +kernel)
set_option maxRecDepth 20000 in
theorem gX8_falses_X8_isWithin : GoodIn wsX8_falses (va_wsS RX8 98 yX8_isWithin wsX8_isWithin) := goodIn_app (goodIn_of _ (by decide +kernel)) ggX8_falses_X8_isWithin
set_option maxRecDepth 20000 in
theorem ggX8_falses_X6_at : GoodIn wsX8_falses wsX6_at := goodIn_r _ [12, 13, 78] (by decide +kernel) (by decide +kernel)
set_option maxRecDepth 20000 in
theorem gX8_falses_X6_at : GoodIn wsX8_falses (wsV RX8 171 RX6 yX6_at wsX6_at) := goodIn_app (goodIn_of _ (by decide +kernel)) ggX8_falses_X6_at
set_option maxRecDepth 20000 in
theorem ggX8_falses_X6_put : GoodIn wsX8_falses wsX6_put := goodIn_r _ [17, 13, 78] (by decide +kernel) (by decide +kernel)
set_option maxRecDepth 20000 in
theorem gX8_falses_X6_put : GoodIn wsX8_falses (wsV RX8 174 RX6 yX6_put wsX6_put) := goodIn_app (goodIn_of _ (by decide +kernel)) ggX8_falses_X6_put
set_option maxRecDepth 20000 in
theorem ggX8_falses_X5_cameSoFar : GoodIn wsX8_falses wsX5_cameSoFar := goodIn_r _ [22, 23, 79, 80, 81, 82, 83, 84, 85, 86, 87, 88, 89, 90] (by decide +kernel) (by decide +kernel)
set_option maxRecDepth 20000 in
theorem gX8_falses_X5_cameSoFar : GoodIn wsX8_falses (wsV RX8 177 RX5 yX5_cameSoFar wsX5_cameSoFar) := goodIn_app (goodIn_of _ (by decide +kernel)) ggX8_falses_X5_cameSoFar
set_option maxRecDepth 20000 in
theorem ggX8_falses_X5_projectOf : GoodIn wsX8_falses wsX5_projectOf := goodIn_r _ [27, 28, 29, 9, 10, 11, 12, 13, 79, 80, 81, 82, 83, 84, 85, 86, 87, 88, 89, 90, 78] (by decide +kernel) (by decide +kernel)
set_option maxRecDepth 20000 in
theorem gX8_falses_X5_projectOf : GoodIn wsX8_falses (wsV RX8 180 RX5 yX5_projectOf wsX5_projectOf) := goodIn_app (goodIn_of _ (by decide +kernel)) ggX8_falses_X5_projectOf
set_option maxRecDepth 20000 in
theorem ggX8_falses_X8_undo : GoodIn wsX8_falses wsX8_undo := goodIn_r _ [33, 3, 34, 35, 36, 37, 21, 38, 39, 29, 9, 10, 11, 12, 13, 40, 41, 42, 43, 44, 45, 46, 47, 15, 16, 17, 48, 49, 50, 51, 52, 53, 54, 55, 56, 57, 58, 59, 60, 61, 62, 63, 64, 65, 66, 67, 68, 69, 70, 71, 72, 73, 74, 75, 76, 77, 79, 80, 81, 82, 83, 84, 85, 86, 87, 88, 89, 90, 78, 91, 92, 93, 94, 95] (by decide +kernel) (by decide +kernel)
set_option maxRecDepth 20000 in
theorem gX8_falses_X8_undo : GoodIn wsX8_falses (wsV RX8 183 RX8 yX8_undo wsX8_undo) := goodIn_app (goodIn_of _ (by decide +kernel)) ggX8_falses_X8_undo
theorem dX8_falses_0 : decode cX8_falses 0 = .ok (.iload_n 1, 1) := by decide +kernel
theorem dX8_falses_1 : decode cX8_falses 1 = .ok (.iconst 0, 1) := by decide +kernel
theorem dX8_falses_2 : decode cX8_falses 2 = .ok (.aload_n 0, 1) := by decide +kernel
theorem dX8_falses_3 : decode cX8_falses 3 = .ok (.getfield 168, 3) := by decide +kernel
theorem dX8_falses_6 : decode cX8_falses 6 = .ok (.iconst 1, 1) := by decide +kernel
theorem dX8_falses_7 : decode cX8_falses 7 = .ok (.isub, 1) := by decide +kernel
theorem dX8_falses_8 : decode cX8_falses 8 = .ok (.invokestatic 98, 3) := by decide +kernel
theorem dX8_falses_11 : decode cX8_falses 11 = .ok (.ifCond .eq 14, 3) := by decide +kernel
theorem dX8_falses_14 : decode cX8_falses 14 = .ok (.aload_n 0, 1) := by decide +kernel
theorem dX8_falses_15 : decode cX8_falses 15 = .ok (.getfield 63, 3) := by decide +kernel
theorem dX8_falses_18 : decode cX8_falses 18 = .ok (.iload_n 1, 1) := by decide +kernel
theorem dX8_falses_19 : decode cX8_falses 19 = .ok (.invokevirtual 171, 3) := by decide +kernel
theorem dX8_falses_22 : decode cX8_falses 22 = .ok (.ifCond .eq 5, 3) := by decide +kernel
theorem dX8_falses_25 : decode cX8_falses 25 = .ok (.iconst (-1), 1) := by decide +kernel
theorem dX8_falses_26 : decode cX8_falses 26 = .ok (.ireturn, 1) := by decide +kernel
theorem dX8_falses_27 : decode cX8_falses 27 = .ok (.aload_n 0, 1) := by decide +kernel
theorem dX8_falses_28 : decode cX8_falses 28 = .ok (.getfield 63, 3) := by decide +kernel
theorem dX8_falses_31 : decode cX8_falses 31 = .ok (.iload_n 1, 1) := by decide +kernel
theorem dX8_falses_32 : decode cX8_falses 32 = .ok (.iconst 1, 1) := by decide +kernel
theorem dX8_falses_33 : decode cX8_falses 33 = .ok (.invokevirtual 174, 3) := by decide +kernel
theorem dX8_falses_36 : decode cX8_falses 36 = .ok (.iconst 0, 1) := by decide +kernel
theorem dX8_falses_37 : decode cX8_falses 37 = .ok (.istore_n 2, 1) := by decide +kernel
theorem dX8_falses_38 : decode cX8_falses 38 = .ok (.iconst 0, 1) := by decide +kernel
theorem dX8_falses_39 : decode cX8_falses 39 = .ok (.istore_n 3, 1) := by decide +kernel
theorem dX8_falses_40 : decode cX8_falses 40 = .ok (.iload_n 3, 1) := by decide +kernel
theorem dX8_falses_41 : decode cX8_falses 41 = .ok (.aload_n 0, 1) := by decide +kernel
theorem dX8_falses_42 : decode cX8_falses 42 = .ok (.getfield 26, 3) := by decide +kernel
theorem dX8_falses_45 : decode cX8_falses 45 = .ok (.invokevirtual 177, 3) := by decide +kernel
theorem dX8_falses_48 : decode cX8_falses 48 = .ok (.if_icmp .ge 29, 3) := by decide +kernel
theorem dX8_falses_51 : decode cX8_falses 51 = .ok (.aload_n 0, 1) := by decide +kernel
theorem dX8_falses_52 : decode cX8_falses 52 = .ok (.getfield 26, 3) := by decide +kernel
theorem dX8_falses_55 : decode cX8_falses 55 = .ok (.iload_n 3, 1) := by decide +kernel
theorem dX8_falses_56 : decode cX8_falses 56 = .ok (.invokevirtual 180, 3) := by decide +kernel
theorem dX8_falses_59 : decode cX8_falses 59 = .ok (.iload_n 1, 1) := by decide +kernel
theorem dX8_falses_60 : decode cX8_falses 60 = .ok (.if_icmp .ne 11, 3) := by decide +kernel
theorem dX8_falses_63 : decode cX8_falses 63 = .ok (.iload_n 2, 1) := by decide +kernel
theorem dX8_falses_64 : decode cX8_falses 64 = .ok (.aload_n 0, 1) := by decide +kernel
theorem dX8_falses_65 : decode cX8_falses 65 = .ok (.iload_n 3, 1) := by decide +kernel
theorem dX8_falses_66 : decode cX8_falses 66 = .ok (.invokevirtual 183, 3) := by decide +kernel
theorem dX8_falses_69 : decode cX8_falses 69 = .ok (.iadd, 1) := by decide +kernel
theorem dX8_falses_70 : decode cX8_falses 70 = .ok (.istore_n 2, 1) := by decide +kernel
theorem dX8_falses_71 : decode cX8_falses 71 = .ok (.iinc 3 1, 3) := by decide +kernel
theorem dX8_falses_74 : decode cX8_falses 74 = .ok (.goto (-34), 3) := by decide +kernel
theorem dX8_falses_77 : decode cX8_falses 77 = .ok (.iload_n 2, 1) := by decide +kernel
theorem dX8_falses_78 : decode cX8_falses 78 = .ok (.ireturn, 1) := by decide +kernel
set_option maxRecDepth 20000 in
theorem ggX8_cancel_X8_holdsAsMany : GoodIn wsX8_cancel wsX8_holdsAsMany := goodIn_r _ [6, 1, 7, 8, 9, 5, 10, 11, 12, 13, 14, 15, 16, 17, 18, 19, 20, 21, 22, 23, 24, 25, 26, 58, 59, 60, 61, 62, 63, 64, 65, 66, 67, 68, 69, 70, 71, 72, 73, 74, 75, 76, 77, 78, 79, 80, 81, 82, 83] (by decide +kernel) (by decide +kernel)
set_option maxRecDepth 20000 in
theorem gX8_cancel_X8_holdsAsMany : GoodIn wsX8_cancel (wsV RX8 160 RX8 yX8_holdsAsMany wsX8_holdsAsMany) := goodIn_app (goodIn_of _ (by decide +kernel)) ggX8_cancel_X8_holdsAsMany
set_option maxRecDepth 20000 in
theorem ggX8_cancel_X5_strike : GoodIn wsX8_cancel wsX5_strike := goodIn_r _ [30, 31, 32, 33, 18, 34, 35, 36, 37, 21, 22, 23, 24, 25, 26, 38, 39, 40, 41, 42, 43, 44, 45, 46, 47, 48, 49, 50, 20, 51, 52, 53, 54, 55, 56, 57, 71, 72, 73, 74, 75, 76, 77, 78, 79, 80, 81, 82, 83] (by decide +kernel) (by decide +kernel)
set_option maxRecDepth 20000 in
theorem gX8_cancel_X5_strike : GoodIn wsX8_cancel (wsV RX8 186 RX5 yX5_strike wsX5_strike) := goodIn_app (goodIn_of _ (by decide +kernel)) ggX8_cancel_X5_strike
theorem dX8_cancel_0 : decode cX8_cancel 0 = .ok (.aload_n 0, 1) := by decide +kernel
theorem dX8_cancel_1 : decode cX8_cancel 1 = .ok (.iload_n 1, 1) := by decide +kernel
theorem dX8_cancel_2 : decode cX8_cancel 2 = .ok (.iload_n 2, 1) := by decide +kernel
theorem dX8_cancel_3 : decode cX8_cancel 3 = .ok (.invokevirtual 160, 3) := by decide +kernel
theorem dX8_cancel_6 : decode cX8_cancel 6 = .ok (.ifCond .ne 5, 3) := by decide +kernel
theorem dX8_cancel_9 : decode cX8_cancel 9 = .ok (.iconst 0, 1) := by decide +kernel
theorem dX8_cancel_10 : decode cX8_cancel 10 = .ok (.ireturn, 1) := by decide +kernel
theorem dX8_cancel_11 : decode cX8_cancel 11 = .ok (.aload_n 0, 1) := by decide +kernel
theorem dX8_cancel_12 : decode cX8_cancel 12 = .ok (.getfield 26, 3) := by decide +kernel
theorem dX8_cancel_15 : decode cX8_cancel 15 = .ok (.iload_n 1, 1) := by decide +kernel
theorem dX8_cancel_16 : decode cX8_cancel 16 = .ok (.iload_n 2, 1) := by decide +kernel
theorem dX8_cancel_17 : decode cX8_cancel 17 = .ok (.invokevirtual 186, 3) := by decide +kernel
theorem dX8_cancel_20 : decode cX8_cancel 20 = .ok (.iconst 1, 1) := by decide +kernel
theorem dX8_cancel_21 : decode cX8_cancel 21 = .ok (.ireturn, 1) := by decide +kernel
set_option maxRecDepth 20000 in
theorem ggX8_end_X8_isYear : GoodIn wsX8_end wsX8_isYear := goodIn_r _ [7, 8, 9, 6, 10] (by decide +kernel) (by decide +kernel)
set_option maxRecDepth 20000 in
theorem gX8_end_X8_isYear : GoodIn wsX8_end (va_wsS RX8 71 yX8_isYear wsX8_isYear) := goodIn_app (goodIn_of _ (by decide +kernel)) ggX8_end_X8_isYear
set_option maxRecDepth 20000 in
theorem ggX8_end_X8_settle : GoodIn wsX8_end wsX8_settle := goodIn_r _ [14, 15, 1, 16, 17, 18, 19, 20, 21, 22, 23, 24, 25, 26, 27, 28, 29, 30, 31, 32, 33, 34, 35, 36, 37, 38, 39, 40, 41, 42, 43, 44, 45, 46, 47, 48, 49, 50, 51, 52, 53, 54, 55, 56, 57, 58, 59, 60, 61, 62, 63, 64, 65, 66, 67, 68, 69, 70, 71, 72, 73, 74, 75, 76, 77, 78, 79, 80, 81, 82, 83, 84, 85, 86, 87, 88, 89, 90, 91, 92, 93, 94, 95, 96, 97, 98, 99, 100, 101, 102, 103, 104, 105, 106, 107, 108, 109, 110, 111, 112, 113, 114, 115, 116, 117, 118, 119, 120, 121, 122, 123, 124, 125, 126, 127, 128, 129, 130, 131, 132, 133, 134, 135, 136, 137, 138, 139, 140, 141, 142, 143, 144, 145, 146, 147, 148, 149, 150, 151, 152] (by decide +kernel) (by decide +kernel)
set_option maxRecDepth 20000 in
theorem gX8_end_X8_settle : GoodIn wsX8_end (wsV RX8 189 RX8 yX8_settle wsX8_settle) := goodIn_app (goodIn_of _ (by decide +kernel)) ggX8_end_X8_settle
theorem dX8_end_0 : decode cX8_end 0 = .ok (.aload_n 0, 1) := by decide +kernel
theorem dX8_end_1 : decode cX8_end 1 = .ok (.getfield 95, 3) := by decide +kernel
theorem dX8_end_4 : decode cX8_end 4 = .ok (.invokestatic 71, 3) := by decide +kernel
theorem dX8_end_7 : decode cX8_end 7 = .ok (.ifCond .ne 5, 3) := by decide +kernel
theorem dX8_end_10 : decode cX8_end 10 = .ok (.iconst (-1), 1) := by decide +kernel
theorem dX8_end_11 : decode cX8_end 11 = .ok (.ireturn, 1) := by decide +kernel
theorem dX8_end_12 : decode cX8_end 12 = .ok (.iconst 0, 1) := by decide +kernel
theorem dX8_end_13 : decode cX8_end 13 = .ok (.istore_n 1, 1) := by decide +kernel
theorem dX8_end_14 : decode cX8_end 14 = .ok (.iconst 0, 1) := by decide +kernel
theorem dX8_end_15 : decode cX8_end 15 = .ok (.istore_n 2, 1) := by decide +kernel
theorem dX8_end_16 : decode cX8_end 16 = .ok (.iload_n 2, 1) := by decide +kernel
theorem dX8_end_17 : decode cX8_end 17 = .ok (.aload_n 0, 1) := by decide +kernel
theorem dX8_end_18 : decode cX8_end 18 = .ok (.getfield 67, 3) := by decide +kernel
theorem dX8_end_21 : decode cX8_end 21 = .ok (.if_icmp .ge 17, 3) := by decide +kernel
theorem dX8_end_24 : decode cX8_end 24 = .ok (.iload_n 1, 1) := by decide +kernel
theorem dX8_end_25 : decode cX8_end 25 = .ok (.aload_n 0, 1) := by decide +kernel
theorem dX8_end_26 : decode cX8_end 26 = .ok (.iload_n 2, 1) := by decide +kernel
theorem dX8_end_27 : decode cX8_end 27 = .ok (.invokevirtual 189, 3) := by decide +kernel
theorem dX8_end_30 : decode cX8_end 30 = .ok (.iadd, 1) := by decide +kernel
theorem dX8_end_31 : decode cX8_end 31 = .ok (.istore_n 1, 1) := by decide +kernel
theorem dX8_end_32 : decode cX8_end 32 = .ok (.iinc 2 1, 3) := by decide +kernel
theorem dX8_end_35 : decode cX8_end 35 = .ok (.goto (-19), 3) := by decide +kernel
theorem dX8_end_38 : decode cX8_end 38 = .ok (.aload_n 0, 1) := by decide +kernel
theorem dX8_end_39 : decode cX8_end 39 = .ok (.dup, 1) := by decide +kernel
theorem dX8_end_40 : decode cX8_end 40 = .ok (.getfield 95, 3) := by decide +kernel
theorem dX8_end_43 : decode cX8_end 43 = .ok (.iconst 1, 1) := by decide +kernel
theorem dX8_end_44 : decode cX8_end 44 = .ok (.iadd, 1) := by decide +kernel
theorem dX8_end_45 : decode cX8_end 45 = .ok (.putfield 95, 3) := by decide +kernel
theorem dX8_end_48 : decode cX8_end 48 = .ok (.aload_n 0, 1) := by decide +kernel
theorem dX8_end_49 : decode cX8_end 49 = .ok (.iconst 0, 1) := by decide +kernel
theorem dX8_end_50 : decode cX8_end 50 = .ok (.putfield 109, 3) := by decide +kernel
theorem dX8_end_53 : decode cX8_end 53 = .ok (.iload_n 1, 1) := by decide +kernel
theorem dX8_end_54 : decode cX8_end 54 = .ok (.ireturn, 1) := by decide +kernel
set_option maxRecDepth 20000 in
theorem ggX8_permit_X5_cameSoFar : GoodIn wsX8_permit wsX5_cameSoFar := goodIn_r _ [7, 8, 43, 44, 45, 46, 47, 48, 49, 50, 51, 52, 53, 54] (by decide +kernel) (by decide +kernel)
set_option maxRecDepth 20000 in
theorem gX8_permit_X5_cameSoFar : GoodIn wsX8_permit (wsV RX8 177 RX5 yX5_cameSoFar wsX5_cameSoFar) := goodIn_app (goodIn_of _ (by decide +kernel)) ggX8_permit_X5_cameSoFar
set_option maxRecDepth 20000 in
theorem ggX8_permit_X8_isWithin : GoodIn wsX8_permit wsX8_isWithin := goodIn_r _ [12] (by decide +kernel) (by decide +kernel)
set_option maxRecDepth 20000 in
theorem gX8_permit_X8_isWithin : GoodIn wsX8_permit (va_wsS RX8 98 yX8_isWithin wsX8_isWithin) := goodIn_app (goodIn_of _ (by decide +kernel)) ggX8_permit_X8_isWithin
set_option maxRecDepth 20000 in
theorem ggX8_permit_X5_fact : GoodIn wsX8_permit wsX5_fact := goodIn_r _ [16, 17, 18, 19, 20, 21, 22, 23, 24, 25, 26, 27, 28, 29, 43, 44, 45, 46, 47, 48, 49, 50, 51, 52, 53, 54, 55] (by decide +kernel) (by decide +kernel)
set_option maxRecDepth 20000 in
theorem gX8_permit_X5_fact : GoodIn wsX8_permit (wsV RX8 192 RX5 yX5_fact wsX5_fact) := goodIn_app (goodIn_of _ (by decide +kernel)) ggX8_permit_X5_fact
theorem dX8_permit_0 : decode cX8_permit 0 = .ok (.iload_n 1, 1) := by decide +kernel
theorem dX8_permit_1 : decode cX8_permit 1 = .ok (.iconst 0, 1) := by decide +kernel
theorem dX8_permit_2 : decode cX8_permit 2 = .ok (.aload_n 0, 1) := by decide +kernel
theorem dX8_permit_3 : decode cX8_permit 3 = .ok (.getfield 26, 3) := by decide +kernel
theorem dX8_permit_6 : decode cX8_permit 6 = .ok (.invokevirtual 177, 3) := by decide +kernel
theorem dX8_permit_9 : decode cX8_permit 9 = .ok (.iconst 1, 1) := by decide +kernel
theorem dX8_permit_10 : decode cX8_permit 10 = .ok (.isub, 1) := by decide +kernel
theorem dX8_permit_11 : decode cX8_permit 11 = .ok (.invokestatic 98, 3) := by decide +kernel
theorem dX8_permit_14 : decode cX8_permit 14 = .ok (.ifCond .eq 15, 3) := by decide +kernel
theorem dX8_permit_17 : decode cX8_permit 17 = .ok (.aload_n 0, 1) := by decide +kernel
theorem dX8_permit_18 : decode cX8_permit 18 = .ok (.getfield 26, 3) := by decide +kernel
theorem dX8_permit_21 : decode cX8_permit 21 = .ok (.iload_n 1, 1) := by decide +kernel
theorem dX8_permit_22 : decode cX8_permit 22 = .ok (.iload_n 2, 1) := by decide +kernel
theorem dX8_permit_23 : decode cX8_permit 23 = .ok (.invokevirtual 192, 3) := by decide +kernel
theorem dX8_permit_26 : decode cX8_permit 26 = .ok (.goto 5, 3) := by decide +kernel
theorem dX8_permit_29 : decode cX8_permit 29 = .ok (.ldc 195, 2) := by decide +kernel
theorem dX8_permit_31 : decode cX8_permit 31 = .ok (.ireturn, 1) := by decide +kernel
set_option maxRecDepth 20000 in
theorem ggX8_told_X8_isWorks : GoodIn wsX8_told wsX8_isWorks := goodIn_r _ [8, 9, 10, 11, 7, 12, 36, 37, 38, 39, 40, 41, 42, 43, 44, 45, 46, 47, 48] (by decide +kernel) (by decide +kernel)
set_option maxRecDepth 20000 in
theorem gX8_told_X8_isWorks : GoodIn wsX8_told (wsV RX8 92 RX8 yX8_isWorks wsX8_isWorks) := goodIn_app (goodIn_of _ (by decide +kernel)) ggX8_told_X8_isWorks
set_option maxRecDepth 20000 in
theorem ggX8_told_X5_heldBy : GoodIn wsX8_told wsX5_heldBy := goodIn_r _ [17, 18, 19, 20, 21, 22, 23, 24, 49, 50, 51, 52, 53, 54, 55, 56, 57, 58, 59, 60, 61] (by decide +kernel) (by decide +kernel)
set_option maxRecDepth 20000 in
theorem gX8_told_X5_heldBy : GoodIn wsX8_told (wsV RX8 134 RX5 yX5_heldBy wsX5_heldBy) := goodIn_app (goodIn_of _ (by decide +kernel)) ggX8_told_X5_heldBy
set_option maxRecDepth 20000 in
theorem ggX8_told_X3_fact : GoodIn wsX8_told wsX3_fact := goodIn_r _ [29, 30, 31, 32, 33, 34, 35, 20, 21, 22, 23, 24, 62, 63, 64, 65, 66, 61] (by decide +kernel) (by decide +kernel)
set_option maxRecDepth 20000 in
theorem gX8_told_X3_fact : GoodIn wsX8_told (wsV RX8 196 RX3 yX3_fact wsX3_fact) := goodIn_app (goodIn_of _ (by decide +kernel)) ggX8_told_X3_fact
theorem dX8_told_0 : decode cX8_told 0 = .ok (.aload_n 0, 1) := by decide +kernel
theorem dX8_told_1 : decode cX8_told 1 = .ok (.iload_n 1, 1) := by decide +kernel
theorem dX8_told_2 : decode cX8_told 2 = .ok (.invokevirtual 92, 3) := by decide +kernel
theorem dX8_told_5 : decode cX8_told 5 = .ok (.ifCond .ne 6, 3) := by decide +kernel
theorem dX8_told_8 : decode cX8_told 8 = .ok (.ldc 195, 2) := by decide +kernel
theorem dX8_told_10 : decode cX8_told 10 = .ok (.ireturn, 1) := by decide +kernel
theorem dX8_told_11 : decode cX8_told 11 = .ok (.iload_n 2, 1) := by decide +kernel
theorem dX8_told_12 : decode cX8_told 12 = .ok (.iconst 2, 1) := by decide +kernel
theorem dX8_told_13 : decode cX8_told 13 = .ok (.if_icmp .ne 14, 3) := by decide +kernel
theorem dX8_told_16 : decode cX8_told 16 = .ok (.aload_n 0, 1) := by decide +kernel
theorem dX8_told_17 : decode cX8_told 17 = .ok (.getfield 26, 3) := by decide +kernel
theorem dX8_told_20 : decode cX8_told 20 = .ok (.iload_n 1, 1) := by decide +kernel
theorem dX8_told_21 : decode cX8_told 21 = .ok (.invokevirtual 134, 3) := by decide +kernel
theorem dX8_told_24 : decode cX8_told 24 = .ok (.goto 12, 3) := by decide +kernel
theorem dX8_told_27 : decode cX8_told 27 = .ok (.aload_n 0, 1) := by decide +kernel
theorem dX8_told_28 : decode cX8_told 28 = .ok (.getfield 54, 3) := by decide +kernel
theorem dX8_told_31 : decode cX8_told 31 = .ok (.iload_n 1, 1) := by decide +kernel
theorem dX8_told_32 : decode cX8_told 32 = .ok (.iload_n 2, 1) := by decide +kernel
theorem dX8_told_33 : decode cX8_told 33 = .ok (.invokevirtual 196, 3) := by decide +kernel
theorem dX8_told_36 : decode cX8_told 36 = .ok (.ireturn, 1) := by decide +kernel
set_option maxRecDepth 20000 in
theorem ggX8_cut_X8_isWorks : GoodIn wsX8_cut wsX8_isWorks := goodIn_r _ [6, 7, 8, 9, 5, 10, 45, 46, 47, 48, 49, 50, 51, 52, 53, 54, 55, 56, 57] (by decide +kernel) (by decide +kernel)
set_option maxRecDepth 20000 in
theorem gX8_cut_X8_isWorks : GoodIn wsX8_cut (wsV RX8 92 RX8 yX8_isWorks wsX8_isWorks) := goodIn_app (goodIn_of _ (by decide +kernel)) ggX8_cut_X8_isWorks
set_option maxRecDepth 20000 in
theorem ggX8_cut_X8_isWithin : GoodIn wsX8_cut wsX8_isWithin := goodIn_r _ [10] (by decide +kernel) (by decide +kernel)
set_option maxRecDepth 20000 in
theorem gX8_cut_X8_isWithin : GoodIn wsX8_cut (va_wsS RX8 98 yX8_isWithin wsX8_isWithin) := goodIn_app (goodIn_of _ (by decide +kernel)) ggX8_cut_X8_isWithin
set_option maxRecDepth 20000 in
theorem ggX8_cut_X2_offer : GoodIn wsX8_cut wsX2_offer := goodIn_r _ [15, 16, 17, 18, 19, 20, 21, 22, 23, 24, 25, 26, 27, 28, 29, 30, 14, 31, 32, 33, 34, 35, 36, 37, 38, 39, 40, 41, 42, 43, 44, 58, 59, 60, 61, 62, 63, 64] (by decide +kernel) (by decide +kernel)
set_option maxRecDepth 20000 in
theorem gX8_cut_X2_offer : GoodIn wsX8_cut (wsV RX8 197 RX2 yX2_offer wsX2_offer) := goodIn_app (goodIn_of _ (by decide +kernel)) ggX8_cut_X2_offer
theorem dX8_cut_0 : decode cX8_cut 0 = .ok (.aload_n 0, 1) := by decide +kernel
theorem dX8_cut_1 : decode cX8_cut 1 = .ok (.iload_n 1, 1) := by decide +kernel
theorem dX8_cut_2 : decode cX8_cut 2 = .ok (.invokevirtual 92, 3) := by decide +kernel
theorem dX8_cut_5 : decode cX8_cut 5 = .ok (.ifCond .eq 24, 3) := by decide +kernel
theorem dX8_cut_8 : decode cX8_cut 8 = .ok (.iload_n 2, 1) := by decide +kernel
theorem dX8_cut_9 : decode cX8_cut 9 = .ok (.iconst 1, 1) := by decide +kernel
theorem dX8_cut_10 : decode cX8_cut 10 = .ok (.bipush 99, 2) := by decide +kernel
theorem dX8_cut_12 : decode cX8_cut 12 = .ok (.invokestatic 98, 3) := by decide +kernel
theorem dX8_cut_15 : decode cX8_cut 15 = .ok (.ifCond .eq 14, 3) := by decide +kernel
theorem dX8_cut_18 : decode cX8_cut 18 = .ok (.iload_n 3, 1) := by decide +kernel
theorem dX8_cut_19 : decode cX8_cut 19 = .ok (.iconst 0, 1) := by decide +kernel
theorem dX8_cut_20 : decode cX8_cut 20 = .ok (.sipush 999, 3) := by decide +kernel
theorem dX8_cut_23 : decode cX8_cut 23 = .ok (.invokestatic 98, 3) := by decide +kernel
theorem dX8_cut_26 : decode cX8_cut 26 = .ok (.ifCond .ne 5, 3) := by decide +kernel
theorem dX8_cut_29 : decode cX8_cut 29 = .ok (.iconst (-1), 1) := by decide +kernel
theorem dX8_cut_30 : decode cX8_cut 30 = .ok (.ireturn, 1) := by decide +kernel
theorem dX8_cut_31 : decode cX8_cut 31 = .ok (.aload_n 0, 1) := by decide +kernel
theorem dX8_cut_32 : decode cX8_cut 32 = .ok (.getfield 47, 3) := by decide +kernel
theorem dX8_cut_35 : decode cX8_cut 35 = .ok (.iload_n 1, 1) := by decide +kernel
theorem dX8_cut_36 : decode cX8_cut 36 = .ok (.iload_n 2, 1) := by decide +kernel
theorem dX8_cut_37 : decode cX8_cut 37 = .ok (.iload_n 3, 1) := by decide +kernel
theorem dX8_cut_38 : decode cX8_cut 38 = .ok (.invokevirtual 197, 3) := by decide +kernel
theorem dX8_cut_41 : decode cX8_cut 41 = .ok (.ireturn, 1) := by decide +kernel
set_option maxRecDepth 20000 in
theorem ggX8_least_X2_canBe : GoodIn wsX8_least wsX2_canBe := goodIn_r _ [6, 7, 38, 39, 40, 41, 42, 43] (by decide +kernel) (by decide +kernel)
set_option maxRecDepth 20000 in
theorem gX8_least_X2_canBe : GoodIn wsX8_least (wsV RX8 200 RX2 yX2_canBe wsX2_canBe) := goodIn_app (goodIn_of _ (by decide +kernel)) ggX8_least_X2_canBe
set_option maxRecDepth 20000 in
theorem ggX8_least_X2_costOf : GoodIn wsX8_least wsX2_costOf := goodIn_r _ [11, 12, 13, 14, 15, 16, 17, 18, 19, 20, 21, 22, 23, 24, 38, 39, 40, 41, 42, 43, 44] (by decide +kernel) (by decide +kernel)
set_option maxRecDepth 20000 in
theorem gX8_least_X2_costOf : GoodIn wsX8_least (wsV RX8 203 RX2 yX2_costOf wsX2_costOf) := goodIn_app (goodIn_of _ (by decide +kernel)) ggX8_least_X2_costOf
theorem dX8_least_0 : decode cX8_least 0 = .ok (.aload_n 0, 1) := by decide +kernel
theorem dX8_least_1 : decode cX8_least 1 = .ok (.getfield 47, 3) := by decide +kernel
theorem dX8_least_4 : decode cX8_least 4 = .ok (.iload_n 1, 1) := by decide +kernel
theorem dX8_least_5 : decode cX8_least 5 = .ok (.invokevirtual 200, 3) := by decide +kernel
theorem dX8_least_8 : decode cX8_least 8 = .ok (.ifCond .eq 14, 3) := by decide +kernel
theorem dX8_least_11 : decode cX8_least 11 = .ok (.aload_n 0, 1) := by decide +kernel
theorem dX8_least_12 : decode cX8_least 12 = .ok (.getfield 47, 3) := by decide +kernel
theorem dX8_least_15 : decode cX8_least 15 = .ok (.iload_n 1, 1) := by decide +kernel
theorem dX8_least_16 : decode cX8_least 16 = .ok (.invokevirtual 203, 3) := by decide +kernel
theorem dX8_least_19 : decode cX8_least 19 = .ok (.goto 4, 3) := by decide +kernel
theorem dX8_least_22 : decode cX8_least 22 = .ok (.iconst (-1), 1) := by decide +kernel
theorem dX8_least_23 : decode cX8_least 23 = .ok (.ireturn, 1) := by decide +kernel
set_option maxRecDepth 20000 in
theorem ggX8_margin_X2_canBe : GoodIn wsX8_margin wsX2_canBe := goodIn_r _ [6, 7, 34, 35, 36, 37, 38, 39] (by decide +kernel) (by decide +kernel)
set_option maxRecDepth 20000 in
theorem gX8_margin_X2_canBe : GoodIn wsX8_margin (wsV RX8 200 RX2 yX2_canBe wsX2_canBe) := goodIn_app (goodIn_of _ (by decide +kernel)) ggX8_margin_X2_canBe
set_option maxRecDepth 20000 in
theorem ggX8_margin_X2_dearestOf : GoodIn wsX8_margin wsX2_dearestOf := goodIn_r _ [11, 12, 13, 14, 15, 16, 17, 18, 19, 20, 34, 35, 36, 37, 38, 39, 40] (by decide +kernel) (by decide +kernel)
set_option maxRecDepth 20000 in
theorem gX8_margin_X2_dearestOf : GoodIn wsX8_margin (wsV RX8 206 RX2 yX2_dearestOf wsX2_dearestOf) := goodIn_app (goodIn_of _ (by decide +kernel)) ggX8_margin_X2_dearestOf
theorem dX8_margin_0 : decode cX8_margin 0 = .ok (.aload_n 0, 1) := by decide +kernel
theorem dX8_margin_1 : decode cX8_margin 1 = .ok (.getfield 47, 3) := by decide +kernel
theorem dX8_margin_4 : decode cX8_margin 4 = .ok (.iload_n 1, 1) := by decide +kernel
theorem dX8_margin_5 : decode cX8_margin 5 = .ok (.invokevirtual 200, 3) := by decide +kernel
theorem dX8_margin_8 : decode cX8_margin 8 = .ok (.ifCond .eq 14, 3) := by decide +kernel
theorem dX8_margin_11 : decode cX8_margin 11 = .ok (.aload_n 0, 1) := by decide +kernel
theorem dX8_margin_12 : decode cX8_margin 12 = .ok (.getfield 47, 3) := by decide +kernel
theorem dX8_margin_15 : decode cX8_margin 15 = .ok (.iload_n 1, 1) := by decide +kernel
theorem dX8_margin_16 : decode cX8_margin 16 = .ok (.invokevirtual 206, 3) := by decide +kernel
theorem dX8_margin_19 : decode cX8_margin 19 = .ok (.goto 4, 3) := by decide +kernel
theorem dX8_margin_22 : decode cX8_margin 22 = .ok (.iconst (-1), 1) := by decide +kernel
theorem dX8_margin_23 : decode cX8_margin 23 = .ok (.ireturn, 1) := by decide +kernel
set_option maxRecDepth 20000 in
theorem ggX8_cuts_X8_isWorks : GoodIn wsX8_cuts wsX8_isWorks := goodIn_r _ [6, 7, 8, 9, 5, 10, 34, 35, 36, 37, 38, 39, 40, 41, 42, 43, 44, 45, 46] (by decide +kernel) (by decide +kernel)
set_option maxRecDepth 20000 in
theorem gX8_cuts_X8_isWorks : GoodIn wsX8_cuts (wsV RX8 92 RX8 yX8_isWorks wsX8_isWorks) := goodIn_app (goodIn_of _ (by decide +kernel)) ggX8_cuts_X8_isWorks
set_option maxRecDepth 20000 in
theorem ggX8_cuts_X2_canBe : GoodIn wsX8_cuts wsX2_canBe := goodIn_r _ [15, 16, 47, 48, 49, 50, 51, 52] (by decide +kernel) (by decide +kernel)
set_option maxRecDepth 20000 in
theorem gX8_cuts_X2_canBe : GoodIn wsX8_cuts (wsV RX8 200 RX2 yX2_canBe wsX2_canBe) := goodIn_app (goodIn_of _ (by decide +kernel)) ggX8_cuts_X2_canBe
set_option maxRecDepth 20000 in
theorem ggX8_cuts_X2_partOf : GoodIn wsX8_cuts wsX2_partOf := goodIn_r _ [20, 21, 22, 23, 24, 25, 26, 27, 28, 29, 30, 31, 32, 33, 47, 48, 49, 50, 51, 52, 53] (by decide +kernel) (by decide +kernel)
set_option maxRecDepth 20000 in
theorem gX8_cuts_X2_partOf : GoodIn wsX8_cuts (wsV RX8 209 RX2 yX2_partOf wsX2_partOf) := goodIn_app (goodIn_of _ (by decide +kernel)) ggX8_cuts_X2_partOf
theorem dX8_cuts_0 : decode cX8_cuts 0 = .ok (.aload_n 0, 1) := by decide +kernel
theorem dX8_cuts_1 : decode cX8_cuts 1 = .ok (.iload_n 2, 1) := by decide +kernel
theorem dX8_cuts_2 : decode cX8_cuts 2 = .ok (.invokevirtual 92, 3) := by decide +kernel
theorem dX8_cuts_5 : decode cX8_cuts 5 = .ok (.ifCond .eq 26, 3) := by decide +kernel
theorem dX8_cuts_8 : decode cX8_cuts 8 = .ok (.aload_n 0, 1) := by decide +kernel
theorem dX8_cuts_9 : decode cX8_cuts 9 = .ok (.getfield 47, 3) := by decide +kernel
theorem dX8_cuts_12 : decode cX8_cuts 12 = .ok (.iload_n 1, 1) := by decide +kernel
theorem dX8_cuts_13 : decode cX8_cuts 13 = .ok (.invokevirtual 200, 3) := by decide +kernel
theorem dX8_cuts_16 : decode cX8_cuts 16 = .ok (.ifCond .eq 15, 3) := by decide +kernel
theorem dX8_cuts_19 : decode cX8_cuts 19 = .ok (.aload_n 0, 1) := by decide +kernel
theorem dX8_cuts_20 : decode cX8_cuts 20 = .ok (.getfield 47, 3) := by decide +kernel
theorem dX8_cuts_23 : decode cX8_cuts 23 = .ok (.iload_n 1, 1) := by decide +kernel
theorem dX8_cuts_24 : decode cX8_cuts 24 = .ok (.iload_n 2, 1) := by decide +kernel
theorem dX8_cuts_25 : decode cX8_cuts 25 = .ok (.invokevirtual 209, 3) := by decide +kernel
theorem dX8_cuts_28 : decode cX8_cuts 28 = .ok (.goto 4, 3) := by decide +kernel
theorem dX8_cuts_31 : decode cX8_cuts 31 = .ok (.iconst (-1), 1) := by decide +kernel
theorem dX8_cuts_32 : decode cX8_cuts 32 = .ok (.ireturn, 1) := by decide +kernel
set_option maxRecDepth 20000 in
theorem ggX8_count_X5_cameSoFar : GoodIn wsX8_count wsX5_cameSoFar := goodIn_r _ [12, 13, 65, 66, 67, 68, 69, 70, 71, 72, 73, 74, 75, 76] (by decide +kernel) (by decide +kernel)
set_option maxRecDepth 20000 in
theorem gX8_count_X5_cameSoFar : GoodIn wsX8_count (wsV RX8 177 RX5 yX5_cameSoFar wsX5_cameSoFar) := goodIn_app (goodIn_of _ (by decide +kernel)) ggX8_count_X5_cameSoFar
set_option maxRecDepth 20000 in
theorem ggX8_count_X5_heldByWorks : GoodIn wsX8_count wsX5_heldByWorks := goodIn_r _ [17, 13, 18, 19, 20, 21, 22, 11, 23, 24, 25, 26, 27, 28, 29, 30, 65, 66, 67, 68, 69, 70, 71, 72, 73, 74, 75, 76, 77] (by decide +kernel) (by decide +kernel)
set_option maxRecDepth 20000 in
theorem gX8_count_X5_heldByWorks : GoodIn wsX8_count (wsV RX8 211 RX5 yX5_heldByWorks wsX5_heldByWorks) := goodIn_app (goodIn_of _ (by decide +kernel)) ggX8_count_X5_heldByWorks
set_option maxRecDepth 20000 in
theorem ggX8_count_X5_heldBy : GoodIn wsX8_count wsX5_heldBy := goodIn_r _ [23, 24, 25, 26, 27, 28, 29, 30, 65, 66, 67, 68, 69, 70, 71, 72, 73, 74, 75, 76, 77] (by decide +kernel) (by decide +kernel)
set_option maxRecDepth 20000 in
theorem gX8_count_X5_heldBy : GoodIn wsX8_count (wsV RX8 134 RX5 yX5_heldBy wsX5_heldBy) := goodIn_app (goodIn_of _ (by decide +kernel)) ggX8_count_X5_heldBy
set_option maxRecDepth 20000 in
theorem ggX8_count_X5_usedSoFar : GoodIn wsX8_count wsX5_usedSoFar := goodIn_r _ [35, 18, 65, 66, 67, 68, 69, 70, 71, 72, 73, 74, 75, 76] (by decide +kernel) (by decide +kernel)
set_option maxRecDepth 20000 in
theorem gX8_count_X5_usedSoFar : GoodIn wsX8_count (wsV RX8 214 RX5 yX5_usedSoFar wsX5_usedSoFar) := goodIn_app (goodIn_of _ (by decide +kernel)) ggX8_count_X5_usedSoFar
set_option maxRecDepth 20000 in
theorem ggX8_count_X5_cancelledSoFar : GoodIn wsX8_count wsX5_cancelledSoFar := goodIn_r _ [39, 19, 65, 66, 67, 68, 69, 70, 71, 72, 73, 74, 75, 76] (by decide +kernel) (by decide +kernel)
set_option maxRecDepth 20000 in
theorem gX8_count_X5_cancelledSoFar : GoodIn wsX8_count (wsV RX8 217 RX5 yX5_cancelledSoFar wsX5_cancelledSoFar) := goodIn_app (goodIn_of _ (by decide +kernel)) ggX8_count_X5_cancelledSoFar
set_option maxRecDepth 20000 in
theorem ggX8_count_X1_many : GoodIn wsX8_count wsX1_many := goodIn_r _ [44, 45, 78, 79, 80, 81, 82] (by decide +kernel) (by decide +kernel)
set_option maxRecDepth 20000 in
theorem gX8_count_X1_many : GoodIn wsX8_count (wsV RX8 140 RX1 yX1_many wsX1_many) := goodIn_app (goodIn_of _ (by decide +kernel)) ggX8_count_X1_many
set_option maxRecDepth 20000 in
theorem ggX8_count_X3_allFines : GoodIn wsX8_count wsX3_allFines := goodIn_r _ [50, 51, 83, 84, 85, 86, 87] (by decide +kernel) (by decide +kernel)
set_option maxRecDepth 20000 in
theorem gX8_count_X3_allFines : GoodIn wsX8_count (wsV RX8 220 RX3 yX3_allFines wsX3_allFines) := goodIn_app (goodIn_of _ (by decide +kernel)) ggX8_count_X3_allFines
theorem dX8_count_0 : decode cX8_count 0 = .ok (.iload_n 1, 1) := by decide +kernel
theorem dX8_count_1 : decode cX8_count 1 = .ok (.tableswitch 136 0 10 #[59, 64, 69, 77, 85, 94, 102, 110, 118, 123, 131], 59) := by decide +kernel
theorem dX8_count_60 : decode cX8_count 60 = .ok (.aload_n 0, 1) := by decide +kernel
theorem dX8_count_61 : decode cX8_count 61 = .ok (.getfield 95, 3) := by decide +kernel
theorem dX8_count_64 : decode cX8_count 64 = .ok (.ireturn, 1) := by decide +kernel
theorem dX8_count_65 : decode cX8_count 65 = .ok (.aload_n 0, 1) := by decide +kernel
theorem dX8_count_66 : decode cX8_count 66 = .ok (.getfield 67, 3) := by decide +kernel
theorem dX8_count_69 : decode cX8_count 69 = .ok (.ireturn, 1) := by decide +kernel
theorem dX8_count_70 : decode cX8_count 70 = .ok (.aload_n 0, 1) := by decide +kernel
theorem dX8_count_71 : decode cX8_count 71 = .ok (.getfield 26, 3) := by decide +kernel
theorem dX8_count_74 : decode cX8_count 74 = .ok (.invokevirtual 177, 3) := by decide +kernel
theorem dX8_count_77 : decode cX8_count 77 = .ok (.ireturn, 1) := by decide +kernel
theorem dX8_count_78 : decode cX8_count 78 = .ok (.aload_n 0, 1) := by decide +kernel
theorem dX8_count_79 : decode cX8_count 79 = .ok (.getfield 26, 3) := by decide +kernel
theorem dX8_count_82 : decode cX8_count 82 = .ok (.invokevirtual 211, 3) := by decide +kernel
theorem dX8_count_85 : decode cX8_count 85 = .ok (.ireturn, 1) := by decide +kernel
theorem dX8_count_86 : decode cX8_count 86 = .ok (.aload_n 0, 1) := by decide +kernel
theorem dX8_count_87 : decode cX8_count 87 = .ok (.getfield 26, 3) := by decide +kernel
theorem dX8_count_90 : decode cX8_count 90 = .ok (.iconst (-1), 1) := by decide +kernel
theorem dX8_count_91 : decode cX8_count 91 = .ok (.invokevirtual 134, 3) := by decide +kernel
theorem dX8_count_94 : decode cX8_count 94 = .ok (.ireturn, 1) := by decide +kernel
theorem dX8_count_95 : decode cX8_count 95 = .ok (.aload_n 0, 1) := by decide +kernel
theorem dX8_count_96 : decode cX8_count 96 = .ok (.getfield 26, 3) := by decide +kernel
theorem dX8_count_99 : decode cX8_count 99 = .ok (.invokevirtual 214, 3) := by decide +kernel
theorem dX8_count_102 : decode cX8_count 102 = .ok (.ireturn, 1) := by decide +kernel
theorem dX8_count_103 : decode cX8_count 103 = .ok (.aload_n 0, 1) := by decide +kernel
theorem dX8_count_104 : decode cX8_count 104 = .ok (.getfield 26, 3) := by decide +kernel
theorem dX8_count_107 : decode cX8_count 107 = .ok (.invokevirtual 217, 3) := by decide +kernel
theorem dX8_count_110 : decode cX8_count 110 = .ok (.ireturn, 1) := by decide +kernel
theorem dX8_count_111 : decode cX8_count 111 = .ok (.aload_n 0, 1) := by decide +kernel
theorem dX8_count_112 : decode cX8_count 112 = .ok (.getfield 40, 3) := by decide +kernel
theorem dX8_count_115 : decode cX8_count 115 = .ok (.invokevirtual 140, 3) := by decide +kernel
theorem dX8_count_118 : decode cX8_count 118 = .ok (.ireturn, 1) := by decide +kernel
theorem dX8_count_119 : decode cX8_count 119 = .ok (.aload_n 0, 1) := by decide +kernel
theorem dX8_count_120 : decode cX8_count 120 = .ok (.getfield 153, 3) := by decide +kernel
theorem dX8_count_123 : decode cX8_count 123 = .ok (.ireturn, 1) := by decide +kernel
theorem dX8_count_124 : decode cX8_count 124 = .ok (.aload_n 0, 1) := by decide +kernel
theorem dX8_count_125 : decode cX8_count 125 = .ok (.getfield 54, 3) := by decide +kernel
theorem dX8_count_128 : decode cX8_count 128 = .ok (.invokevirtual 220, 3) := by decide +kernel
theorem dX8_count_131 : decode cX8_count 131 = .ok (.ireturn, 1) := by decide +kernel
theorem dX8_count_132 : decode cX8_count 132 = .ok (.aload_n 0, 1) := by decide +kernel
theorem dX8_count_133 : decode cX8_count 133 = .ok (.getfield 168, 3) := by decide +kernel
theorem dX8_count_136 : decode cX8_count 136 = .ok (.ireturn, 1) := by decide +kernel
theorem dX8_count_137 : decode cX8_count 137 = .ok (.iconst (-1), 1) := by decide +kernel
theorem dX8_count_138 : decode cX8_count 138 = .ok (.ireturn, 1) := by decide +kernel
theorem dX8_isWithin_0 : decode cX8_isWithin 0 = .ok (.iload_n 0, 1) := by decide +kernel
theorem dX8_isWithin_1 : decode cX8_isWithin 1 = .ok (.iload_n 1, 1) := by decide +kernel
theorem dX8_isWithin_2 : decode cX8_isWithin 2 = .ok (.if_icmp .lt 12, 3) := by decide +kernel
theorem dX8_isWithin_5 : decode cX8_isWithin 5 = .ok (.iload_n 0, 1) := by decide +kernel
theorem dX8_isWithin_6 : decode cX8_isWithin 6 = .ok (.iload_n 2, 1) := by decide +kernel
theorem dX8_isWithin_7 : decode cX8_isWithin 7 = .ok (.if_icmp .gt 7, 3) := by decide +kernel
theorem dX8_isWithin_10 : decode cX8_isWithin 10 = .ok (.iconst 1, 1) := by decide +kernel
theorem dX8_isWithin_11 : decode cX8_isWithin 11 = .ok (.goto 4, 3) := by decide +kernel
theorem dX8_isWithin_14 : decode cX8_isWithin 14 = .ok (.iconst 0, 1) := by decide +kernel
theorem dX8_isWithin_15 : decode cX8_isWithin 15 = .ok (.ireturn, 1) := by decide +kernel
set_option maxRecDepth 20000 in
theorem ggX8_isYear_X8_isWithin : GoodIn wsX8_isYear wsX8_isWithin := goodIn_r _ [4] (by decide +kernel) (by decide +kernel)
set_option maxRecDepth 20000 in
theorem gX8_isYear_X8_isWithin : GoodIn wsX8_isYear (va_wsS RX8 98 yX8_isWithin wsX8_isWithin) := goodIn_app (goodIn_of _ (by decide +kernel)) ggX8_isYear_X8_isWithin
theorem dX8_isYear_0 : decode cX8_isYear 0 = .ok (.iload_n 0, 1) := by decide +kernel
theorem dX8_isYear_1 : decode cX8_isYear 1 = .ok (.iconst 0, 1) := by decide +kernel
theorem dX8_isYear_2 : decode cX8_isYear 2 = .ok (.bipush 19, 2) := by decide +kernel
theorem dX8_isYear_4 : decode cX8_isYear 4 = .ok (.invokestatic 98, 3) := by decide +kernel
theorem dX8_isYear_7 : decode cX8_isYear 7 = .ok (.ireturn, 1) := by decide +kernel
set_option maxRecDepth 20000 in
theorem ggX8_isWorks_X8_isWithin : GoodIn wsX8_isWorks wsX8_isWithin := goodIn_r _ [5] (by decide +kernel) (by decide +kernel)
set_option maxRecDepth 20000 in
theorem gX8_isWorks_X8_isWithin : GoodIn wsX8_isWorks (va_wsS RX8 98 yX8_isWithin wsX8_isWithin) := goodIn_app (goodIn_of _ (by decide +kernel)) ggX8_isWorks_X8_isWithin
theorem dX8_isWorks_0 : decode cX8_isWorks 0 = .ok (.iload_n 1, 1) := by decide +kernel
theorem dX8_isWorks_1 : decode cX8_isWorks 1 = .ok (.iconst 0, 1) := by decide +kernel
theorem dX8_isWorks_2 : decode cX8_isWorks 2 = .ok (.aload_n 0, 1) := by decide +kernel
theorem dX8_isWorks_3 : decode cX8_isWorks 3 = .ok (.getfield 67, 3) := by decide +kernel
theorem dX8_isWorks_6 : decode cX8_isWorks 6 = .ok (.iconst 1, 1) := by decide +kernel
theorem dX8_isWorks_7 : decode cX8_isWorks 7 = .ok (.isub, 1) := by decide +kernel
theorem dX8_isWorks_8 : decode cX8_isWorks 8 = .ok (.invokestatic 98, 3) := by decide +kernel
theorem dX8_isWorks_11 : decode cX8_isWorks 11 = .ok (.ireturn, 1) := by decide +kernel
set_option maxRecDepth 20000 in
theorem ggX8_holdsAsMany_X8_isWorks : GoodIn wsX8_holdsAsMany wsX8_isWorks := goodIn_r _ [6, 7, 8, 9, 5, 10, 23, 24, 25, 26, 27, 28, 29, 30, 31, 32, 33, 34, 35] (by decide +kernel) (by decide +kernel)
set_option maxRecDepth 20000 in
theorem gX8_holdsAsMany_X8_isWorks : GoodIn wsX8_holdsAsMany (wsV RX8 92 RX8 yX8_isWorks wsX8_isWorks) := goodIn_app (goodIn_of _ (by decide +kernel)) ggX8_holdsAsMany_X8_isWorks
set_option maxRecDepth 20000 in
theorem ggX8_holdsAsMany_X5_heldBy : GoodIn wsX8_holdsAsMany wsX5_heldBy := goodIn_r _ [15, 16, 17, 18, 19, 20, 21, 22, 36, 37, 38, 39, 40, 41, 42, 43, 44, 45, 46, 47, 48] (by decide +kernel) (by decide +kernel)
set_option maxRecDepth 20000 in
theorem gX8_holdsAsMany_X5_heldBy : GoodIn wsX8_holdsAsMany (wsV RX8 134 RX5 yX5_heldBy wsX5_heldBy) := goodIn_app (goodIn_of _ (by decide +kernel)) ggX8_holdsAsMany_X5_heldBy
set_option maxRecDepth 20000 in
theorem ggX8_holdsAsMany_X8_isWithin : GoodIn wsX8_holdsAsMany wsX8_isWithin := goodIn_r _ [10] (by decide +kernel) (by decide +kernel)
set_option maxRecDepth 20000 in
theorem gX8_holdsAsMany_X8_isWithin : GoodIn wsX8_holdsAsMany (va_wsS RX8 98 yX8_isWithin wsX8_isWithin) := goodIn_app (goodIn_of _ (by decide +kernel)) ggX8_holdsAsMany_X8_isWithin
theorem dX8_holdsAsMany_0 : decode cX8_holdsAsMany 0 = .ok (.aload_n 0, 1) := by decide +kernel
theorem dX8_holdsAsMany_1 : decode cX8_holdsAsMany 1 = .ok (.iload_n 1, 1) := by decide +kernel
theorem dX8_holdsAsMany_2 : decode cX8_holdsAsMany 2 = .ok (.invokevirtual 92, 3) := by decide +kernel
theorem dX8_holdsAsMany_5 : decode cX8_holdsAsMany 5 = .ok (.ifCond .eq 23, 3) := by decide +kernel
theorem dX8_holdsAsMany_8 : decode cX8_holdsAsMany 8 = .ok (.iload_n 2, 1) := by decide +kernel
theorem dX8_holdsAsMany_9 : decode cX8_holdsAsMany 9 = .ok (.iconst 1, 1) := by decide +kernel
theorem dX8_holdsAsMany_10 : decode cX8_holdsAsMany 10 = .ok (.aload_n 0, 1) := by decide +kernel
theorem dX8_holdsAsMany_11 : decode cX8_holdsAsMany 11 = .ok (.getfield 26, 3) := by decide +kernel
theorem dX8_holdsAsMany_14 : decode cX8_holdsAsMany 14 = .ok (.iload_n 1, 1) := by decide +kernel
theorem dX8_holdsAsMany_15 : decode cX8_holdsAsMany 15 = .ok (.invokevirtual 134, 3) := by decide +kernel
theorem dX8_holdsAsMany_18 : decode cX8_holdsAsMany 18 = .ok (.invokestatic 98, 3) := by decide +kernel
theorem dX8_holdsAsMany_21 : decode cX8_holdsAsMany 21 = .ok (.ifCond .eq 7, 3) := by decide +kernel
theorem dX8_holdsAsMany_24 : decode cX8_holdsAsMany 24 = .ok (.iconst 1, 1) := by decide +kernel
theorem dX8_holdsAsMany_25 : decode cX8_holdsAsMany 25 = .ok (.goto 4, 3) := by decide +kernel
theorem dX8_holdsAsMany_28 : decode cX8_holdsAsMany 28 = .ok (.iconst 0, 1) := by decide +kernel
theorem dX8_holdsAsMany_29 : decode cX8_holdsAsMany 29 = .ok (.ireturn, 1) := by decide +kernel
set_option maxRecDepth 20000 in
theorem ggX8_hammer_X1_many : GoodIn wsX8_hammer wsX1_many := goodIn_r _ [11, 12, 88, 89, 90, 91, 92] (by decide +kernel) (by decide +kernel)
set_option maxRecDepth 20000 in
theorem gX8_hammer_X1_many : GoodIn wsX8_hammer (wsV RX8 140 RX1 yX1_many wsX1_many) := goodIn_app (goodIn_of _ (by decide +kernel)) ggX8_hammer_X1_many
set_option maxRecDepth 20000 in
theorem ggX8_hammer_X1_price : GoodIn wsX8_hammer wsX1_price := goodIn_r _ [16, 17, 18, 19, 20, 21, 22, 23, 88, 89, 90, 91, 92, 93] (by decide +kernel) (by decide +kernel)
set_option maxRecDepth 20000 in
theorem gX8_hammer_X1_price : GoodIn wsX8_hammer (wsV RX8 223 RX1 yX1_price wsX1_price) := goodIn_app (goodIn_of _ (by decide +kernel)) ggX8_hammer_X1_price
set_option maxRecDepth 20000 in
theorem ggX8_hammer_X1_wanted : GoodIn wsX8_hammer wsX1_wanted := goodIn_r _ [27, 28, 18, 19, 20, 21, 22, 23, 88, 89, 90, 91, 92, 93] (by decide +kernel) (by decide +kernel)
set_option maxRecDepth 20000 in
theorem gX8_hammer_X1_wanted : GoodIn wsX8_hammer (wsV RX8 226 RX1 yX1_wanted wsX1_wanted) := goodIn_app (goodIn_of _ (by decide +kernel)) ggX8_hammer_X1_wanted
set_option maxRecDepth 20000 in
theorem ggX8_hammer_X5_heldBy : GoodIn wsX8_hammer wsX5_heldBy := goodIn_r _ [33, 34, 35, 19, 20, 21, 22, 23, 94, 95, 96, 97, 98, 99, 100, 101, 102, 103, 104, 105, 93] (by decide +kernel) (by decide +kernel)
set_option maxRecDepth 20000 in
theorem gX8_hammer_X5_heldBy : GoodIn wsX8_hammer (wsV RX8 134 RX5 yX5_heldBy wsX5_heldBy) := goodIn_app (goodIn_of _ (by decide +kernel)) ggX8_hammer_X5_heldBy
set_option maxRecDepth 20000 in
theorem ggX8_hammer_X1_who : GoodIn wsX8_hammer wsX1_who := goodIn_r _ [39, 40, 18, 19, 20, 21, 22, 23, 88, 89, 90, 91, 92, 93] (by decide +kernel) (by decide +kernel)
set_option maxRecDepth 20000 in
theorem gX8_hammer_X1_who : GoodIn wsX8_hammer (wsV RX8 147 RX1 yX1_who wsX1_who) := goodIn_app (goodIn_of _ (by decide +kernel)) ggX8_hammer_X1_who
set_option maxRecDepth 20000 in
theorem ggX8_hammer_X5_pass : GoodIn wsX8_hammer wsX5_pass := goodIn_r _ [44, 45, 46, 47, 48, 4, 5, 6, 34, 49, 50, 51, 32, 52, 53, 35, 19, 20, 21, 22, 23, 54, 55, 56, 57, 58, 59, 60, 61, 62, 63, 64, 65, 66, 67, 68, 94, 95, 96, 97, 98, 99, 100, 101, 102, 103, 104, 105, 93] (by decide +kernel) (by decide +kernel)
set_option maxRecDepth 20000 in
theorem gX8_hammer_X5_pass : GoodIn wsX8_hammer (wsV RX8 164 RX5 yX5_pass wsX5_pass) := goodIn_app (goodIn_of _ (by decide +kernel)) ggX8_hammer_X5_pass
set_option maxRecDepth 20000 in
theorem ggX8_hammer_X1_grant : GoodIn wsX8_hammer wsX1_grant := goodIn_r _ [72, 73, 74, 60, 61, 21, 62, 23, 88, 89, 90, 91, 92, 93] (by decide +kernel) (by decide +kernel)
set_option maxRecDepth 20000 in
theorem gX8_hammer_X1_grant : GoodIn wsX8_hammer (wsV RX8 234 RX1 yX1_grant wsX1_grant) := goodIn_app (goodIn_of _ (by decide +kernel)) ggX8_hammer_X1_grant
theorem dX8_hammer_0 : decode cX8_hammer 0 = .ok (.iload_n 1, 1) := by decide +kernel
theorem dX8_hammer_1 : decode cX8_hammer 1 = .ok (.istore_n 2, 1) := by decide +kernel
theorem dX8_hammer_2 : decode cX8_hammer 2 = .ok (.iconst 0, 1) := by decide +kernel
theorem dX8_hammer_3 : decode cX8_hammer 3 = .ok (.istore_n 3, 1) := by decide +kernel
theorem dX8_hammer_4 : decode cX8_hammer 4 = .ok (.iload_n 3, 1) := by decide +kernel
theorem dX8_hammer_5 : decode cX8_hammer 5 = .ok (.aload_n 0, 1) := by decide +kernel
theorem dX8_hammer_6 : decode cX8_hammer 6 = .ok (.getfield 40, 3) := by decide +kernel
theorem dX8_hammer_9 : decode cX8_hammer 9 = .ok (.invokevirtual 140, 3) := by decide +kernel
theorem dX8_hammer_12 : decode cX8_hammer 12 = .ok (.if_icmp .ge 84, 3) := by decide +kernel
theorem dX8_hammer_15 : decode cX8_hammer 15 = .ok (.aload_n 0, 1) := by decide +kernel
theorem dX8_hammer_16 : decode cX8_hammer 16 = .ok (.getfield 40, 3) := by decide +kernel
theorem dX8_hammer_19 : decode cX8_hammer 19 = .ok (.iload_n 3, 1) := by decide +kernel
theorem dX8_hammer_20 : decode cX8_hammer 20 = .ok (.invokevirtual 223, 3) := by decide +kernel
theorem dX8_hammer_23 : decode cX8_hammer 23 = .ok (.iload_n 1, 1) := by decide +kernel
theorem dX8_hammer_24 : decode cX8_hammer 24 = .ok (.if_icmp .lt 72, 3) := by decide +kernel
theorem dX8_hammer_27 : decode cX8_hammer 27 = .ok (.aload_n 0, 1) := by decide +kernel
theorem dX8_hammer_28 : decode cX8_hammer 28 = .ok (.getfield 40, 3) := by decide +kernel
theorem dX8_hammer_31 : decode cX8_hammer 31 = .ok (.iload_n 3, 1) := by decide +kernel
theorem dX8_hammer_32 : decode cX8_hammer 32 = .ok (.invokevirtual 226, 3) := by decide +kernel
theorem dX8_hammer_35 : decode cX8_hammer 35 = .ok (.aload_n 0, 1) := by decide +kernel
theorem dX8_hammer_36 : decode cX8_hammer 36 = .ok (.getfield 26, 3) := by decide +kernel
theorem dX8_hammer_39 : decode cX8_hammer 39 = .ok (.iconst (-1), 1) := by decide +kernel
theorem dX8_hammer_40 : decode cX8_hammer 40 = .ok (.invokevirtual 134, 3) := by decide +kernel
theorem dX8_hammer_43 : decode cX8_hammer 43 = .ok (.invokestatic 229, 3) := by decide +kernel
theorem dX8_hammer_46 : decode cX8_hammer 46 = .ok (.istore 4, 2) := by decide +kernel
theorem dX8_hammer_48 : decode cX8_hammer 48 = .ok (.iload 4, 2) := by decide +kernel
theorem dX8_hammer_50 : decode cX8_hammer 50 = .ok (.ifCond .le 40, 3) := by decide +kernel
theorem dX8_hammer_53 : decode cX8_hammer 53 = .ok (.aload_n 0, 1) := by decide +kernel
theorem dX8_hammer_54 : decode cX8_hammer 54 = .ok (.getfield 26, 3) := by decide +kernel
theorem dX8_hammer_57 : decode cX8_hammer 57 = .ok (.iconst (-1), 1) := by decide +kernel
theorem dX8_hammer_58 : decode cX8_hammer 58 = .ok (.aload_n 0, 1) := by decide +kernel
theorem dX8_hammer_59 : decode cX8_hammer 59 = .ok (.getfield 40, 3) := by decide +kernel
theorem dX8_hammer_62 : decode cX8_hammer 62 = .ok (.iload_n 3, 1) := by decide +kernel
theorem dX8_hammer_63 : decode cX8_hammer 63 = .ok (.invokevirtual 147, 3) := by decide +kernel
theorem dX8_hammer_66 : decode cX8_hammer 66 = .ok (.iload 4, 2) := by decide +kernel
theorem dX8_hammer_68 : decode cX8_hammer 68 = .ok (.invokevirtual 164, 3) := by decide +kernel
theorem dX8_hammer_71 : decode cX8_hammer 71 = .ok (.aload_n 0, 1) := by decide +kernel
theorem dX8_hammer_72 : decode cX8_hammer 72 = .ok (.getfield 40, 3) := by decide +kernel
theorem dX8_hammer_75 : decode cX8_hammer 75 = .ok (.iload_n 3, 1) := by decide +kernel
theorem dX8_hammer_76 : decode cX8_hammer 76 = .ok (.iload 4, 2) := by decide +kernel
theorem dX8_hammer_78 : decode cX8_hammer 78 = .ok (.invokevirtual 234, 3) := by decide +kernel
theorem dX8_hammer_81 : decode cX8_hammer 81 = .ok (.aload_n 0, 1) := by decide +kernel
theorem dX8_hammer_82 : decode cX8_hammer 82 = .ok (.getfield 40, 3) := by decide +kernel
theorem dX8_hammer_85 : decode cX8_hammer 85 = .ok (.iload_n 3, 1) := by decide +kernel
theorem dX8_hammer_86 : decode cX8_hammer 86 = .ok (.invokevirtual 223, 3) := by decide +kernel
theorem dX8_hammer_89 : decode cX8_hammer 89 = .ok (.istore_n 2, 1) := by decide +kernel
theorem dX8_hammer_90 : decode cX8_hammer 90 = .ok (.iinc 3 1, 3) := by decide +kernel
theorem dX8_hammer_93 : decode cX8_hammer 93 = .ok (.goto (-89), 3) := by decide +kernel
theorem dX8_hammer_96 : decode cX8_hammer 96 = .ok (.aload_n 0, 1) := by decide +kernel
theorem dX8_hammer_97 : decode cX8_hammer 97 = .ok (.getfield 26, 3) := by decide +kernel
theorem dX8_hammer_100 : decode cX8_hammer 100 = .ok (.iconst (-1), 1) := by decide +kernel
theorem dX8_hammer_101 : decode cX8_hammer 101 = .ok (.invokevirtual 134, 3) := by decide +kernel
theorem dX8_hammer_104 : decode cX8_hammer 104 = .ok (.ifCond .ne 7, 3) := by decide +kernel
theorem dX8_hammer_107 : decode cX8_hammer 107 = .ok (.iload_n 2, 1) := by decide +kernel
theorem dX8_hammer_108 : decode cX8_hammer 108 = .ok (.goto 4, 3) := by decide +kernel
theorem dX8_hammer_111 : decode cX8_hammer 111 = .ok (.iload_n 1, 1) := by decide +kernel
theorem dX8_hammer_112 : decode cX8_hammer 112 = .ok (.ireturn, 1) := by decide +kernel
set_option maxRecDepth 20000 in
theorem ggX8_undo_X5_isHeld : GoodIn wsX8_undo wsX5_isHeld := goodIn_r _ [7, 8, 9, 10, 11, 12, 13, 14, 56, 57, 58, 59, 60, 61, 62, 63, 64, 65, 66, 67, 68] (by decide +kernel) (by decide +kernel)
set_option maxRecDepth 20000 in
theorem gX8_undo_X5_isHeld : GoodIn wsX8_undo (wsV RX8 237 RX5 yX5_isHeld wsX5_isHeld) := goodIn_app (goodIn_of _ (by decide +kernel)) ggX8_undo_X5_isHeld
set_option maxRecDepth 20000 in
theorem ggX8_undo_X5_strikeOne : GoodIn wsX8_undo wsX5_strikeOne := goodIn_r _ [18, 8, 19, 20, 21, 22, 23, 24, 12, 25, 14, 9, 10, 11, 13, 26, 27, 28, 29, 30, 31, 56, 57, 58, 59, 60, 61, 62, 63, 64, 65, 66, 67, 68] (by decide +kernel) (by decide +kernel)
set_option maxRecDepth 20000 in
theorem gX8_undo_X5_strikeOne : GoodIn wsX8_undo (wsV RX8 240 RX5 yX5_strikeOne wsX5_strikeOne) := goodIn_app (goodIn_of _ (by decide +kernel)) ggX8_undo_X5_strikeOne
set_option maxRecDepth 20000 in
theorem ggX8_undo_X5_holderOf : GoodIn wsX8_undo wsX5_holderOf := goodIn_r _ [35, 20, 9, 10, 11, 12, 13, 14, 56, 57, 58, 59, 60, 61, 62, 63, 64, 65, 66, 67, 68] (by decide +kernel) (by decide +kernel)
set_option maxRecDepth 20000 in
theorem gX8_undo_X5_holderOf : GoodIn wsX8_undo (wsV RX8 244 RX5 yX5_holderOf wsX5_holderOf) := goodIn_app (goodIn_of _ (by decide +kernel)) ggX8_undo_X5_holderOf
set_option maxRecDepth 20000 in
theorem ggX8_undo_X3_owe : GoodIn wsX8_undo wsX3_owe := goodIn_r _ [40, 41, 42, 27, 28, 12, 29, 30, 10, 11, 13, 14, 31, 23, 24, 25, 69, 70, 71, 72, 73, 68] (by decide +kernel) (by decide +kernel)
set_option maxRecDepth 20000 in
theorem gX8_undo_X3_owe : GoodIn wsX8_undo (wsV RX8 247 RX3 yX3_owe wsX3_owe) := goodIn_app (goodIn_of _ (by decide +kernel)) ggX8_undo_X3_owe
theorem dX8_undo_0 : decode cX8_undo 0 = .ok (.aload_n 0, 1) := by decide +kernel
theorem dX8_undo_1 : decode cX8_undo 1 = .ok (.getfield 26, 3) := by decide +kernel
theorem dX8_undo_4 : decode cX8_undo 4 = .ok (.iload_n 1, 1) := by decide +kernel
theorem dX8_undo_5 : decode cX8_undo 5 = .ok (.invokevirtual 237, 3) := by decide +kernel
theorem dX8_undo_8 : decode cX8_undo 8 = .ok (.ifCond .eq 13, 3) := by decide +kernel
theorem dX8_undo_11 : decode cX8_undo 11 = .ok (.aload_n 0, 1) := by decide +kernel
theorem dX8_undo_12 : decode cX8_undo 12 = .ok (.getfield 26, 3) := by decide +kernel
theorem dX8_undo_15 : decode cX8_undo 15 = .ok (.iload_n 1, 1) := by decide +kernel
theorem dX8_undo_16 : decode cX8_undo 16 = .ok (.invokevirtual 240, 3) := by decide +kernel
theorem dX8_undo_19 : decode cX8_undo 19 = .ok (.iconst 0, 1) := by decide +kernel
theorem dX8_undo_20 : decode cX8_undo 20 = .ok (.ireturn, 1) := by decide +kernel
theorem dX8_undo_21 : decode cX8_undo 21 = .ok (.aload_n 0, 1) := by decide +kernel
theorem dX8_undo_22 : decode cX8_undo 22 = .ok (.getfield 54, 3) := by decide +kernel
theorem dX8_undo_25 : decode cX8_undo 25 = .ok (.aload_n 0, 1) := by decide +kernel
theorem dX8_undo_26 : decode cX8_undo 26 = .ok (.getfield 26, 3) := by decide +kernel
theorem dX8_undo_29 : decode cX8_undo 29 = .ok (.iload_n 1, 1) := by decide +kernel
theorem dX8_undo_30 : decode cX8_undo 30 = .ok (.invokevirtual 244, 3) := by decide +kernel
theorem dX8_undo_33 : decode cX8_undo 33 = .ok (.iconst 1, 1) := by decide +kernel
theorem dX8_undo_34 : decode cX8_undo 34 = .ok (.invokevirtual 247, 3) := by decide +kernel
theorem dX8_undo_37 : decode cX8_undo 37 = .ok (.iconst 1, 1) := by decide +kernel
theorem dX8_undo_38 : decode cX8_undo 38 = .ok (.ireturn, 1) := by decide +kernel
set_option maxRecDepth 20000 in
theorem ggX8_settle_X4_fouledIn : GoodIn wsX8_settle wsX4_fouledIn := goodIn_r _ [14, 15, 16, 17, 18, 13, 19, 20, 21, 7, 22, 23, 24, 25, 26, 27, 28, 29, 30, 31, 32, 33, 34, 35, 114, 115] (by decide +kernel) (by decide +kernel)
set_option maxRecDepth 20000 in
theorem gX8_settle_X4_fouledIn : GoodIn wsX8_settle (wsV RX8 105 RX4 yX4_fouledIn wsX4_fouledIn) := goodIn_app (goodIn_of _ (by decide +kernel)) ggX8_settle_X4_fouledIn
set_option maxRecDepth 20000 in
theorem ggX8_settle_X3_debtOf : GoodIn wsX8_settle wsX3_debtOf := goodIn_r _ [40, 41, 42, 31, 32, 33, 34, 35, 116, 117, 118, 119, 120, 115] (by decide +kernel) (by decide +kernel)
set_option maxRecDepth 20000 in
theorem gX8_settle_X3_debtOf : GoodIn wsX8_settle (wsV RX8 250 RX3 yX3_debtOf wsX3_debtOf) := goodIn_app (goodIn_of _ (by decide +kernel)) ggX8_settle_X3_debtOf
set_option maxRecDepth 20000 in
theorem ggX8_settle_X5_heldBy : GoodIn wsX8_settle wsX5_heldBy := goodIn_r _ [47, 48, 49, 31, 32, 33, 34, 35, 121, 122, 123, 124, 125, 126, 127, 128, 129, 130, 131, 132, 115] (by decide +kernel) (by decide +kernel)
set_option maxRecDepth 20000 in
theorem gX8_settle_X5_heldBy : GoodIn wsX8_settle (wsV RX8 134 RX5 yX5_heldBy wsX5_heldBy) := goodIn_app (goodIn_of _ (by decide +kernel)) ggX8_settle_X5_heldBy
set_option maxRecDepth 20000 in
theorem ggX8_settle_X5_use : GoodIn wsX8_settle wsX5_use := goodIn_r _ [53, 54, 55, 48, 56, 57, 58, 59, 46, 60, 61, 62, 63, 49, 31, 32, 33, 34, 35, 64, 65, 66, 67, 68, 69, 70, 71, 72, 73, 74, 75, 76, 77, 121, 122, 123, 124, 125, 126, 127, 128, 129, 130, 131, 132, 115] (by decide +kernel) (by decide +kernel)
set_option maxRecDepth 20000 in
theorem gX8_settle_X5_use : GoodIn wsX8_settle (wsV RX8 253 RX5 yX5_use wsX5_use) := goodIn_app (goodIn_of _ (by decide +kernel)) ggX8_settle_X5_use
set_option maxRecDepth 20000 in
theorem ggX8_settle_X7_fineIn : GoodIn wsX8_settle wsX7_fineIn := goodIn_r _ [82, 83, 84, 85, 86, 81, 87, 88, 89, 90, 31, 32, 33, 34, 35, 133, 134, 135, 136, 137, 138, 139, 115] (by decide +kernel) (by decide +kernel)
set_option maxRecDepth 20000 in
theorem gX8_settle_X7_fineIn : GoodIn wsX8_settle (wsV RX8 86 RX7 yX7_fineIn wsX7_fineIn) := goodIn_app (goodIn_of _ (by decide +kernel)) ggX8_settle_X7_fineIn
set_option maxRecDepth 20000 in
theorem ggX8_settle_X3_close : GoodIn wsX8_settle wsX3_close := goodIn_r _ [94, 95, 96, 97, 98, 41, 99, 73, 74, 33, 75, 76, 31, 32, 34, 35, 77, 69, 70, 71, 100, 116, 117, 118, 119, 120, 115] (by decide +kernel) (by decide +kernel)
set_option maxRecDepth 20000 in
theorem gX8_settle_X3_close : GoodIn wsX8_settle (wsV RX8 256 RX3 yX3_close wsX3_close) := goodIn_app (goodIn_of _ (by decide +kernel)) ggX8_settle_X3_close
theorem dX8_settle_0 : decode cX8_settle 0 = .ok (.aload_n 0, 1) := by decide +kernel
theorem dX8_settle_1 : decode cX8_settle 1 = .ok (.getfield 19, 3) := by decide +kernel
theorem dX8_settle_4 : decode cX8_settle 4 = .ok (.iload_n 1, 1) := by decide +kernel
theorem dX8_settle_5 : decode cX8_settle 5 = .ok (.aload_n 0, 1) := by decide +kernel
theorem dX8_settle_6 : decode cX8_settle 6 = .ok (.getfield 95, 3) := by decide +kernel
theorem dX8_settle_9 : decode cX8_settle 9 = .ok (.invokevirtual 105, 3) := by decide +kernel
theorem dX8_settle_12 : decode cX8_settle 12 = .ok (.aload_n 0, 1) := by decide +kernel
theorem dX8_settle_13 : decode cX8_settle 13 = .ok (.getfield 54, 3) := by decide +kernel
theorem dX8_settle_16 : decode cX8_settle 16 = .ok (.iload_n 1, 1) := by decide +kernel
theorem dX8_settle_17 : decode cX8_settle 17 = .ok (.invokevirtual 250, 3) := by decide +kernel
theorem dX8_settle_20 : decode cX8_settle 20 = .ok (.iadd, 1) := by decide +kernel
theorem dX8_settle_21 : decode cX8_settle 21 = .ok (.istore_n 2, 1) := by decide +kernel
theorem dX8_settle_22 : decode cX8_settle 22 = .ok (.iload_n 2, 1) := by decide +kernel
theorem dX8_settle_23 : decode cX8_settle 23 = .ok (.aload_n 0, 1) := by decide +kernel
theorem dX8_settle_24 : decode cX8_settle 24 = .ok (.getfield 26, 3) := by decide +kernel
theorem dX8_settle_27 : decode cX8_settle 27 = .ok (.iload_n 1, 1) := by decide +kernel
theorem dX8_settle_28 : decode cX8_settle 28 = .ok (.invokevirtual 134, 3) := by decide +kernel
theorem dX8_settle_31 : decode cX8_settle 31 = .ok (.invokestatic 229, 3) := by decide +kernel
theorem dX8_settle_34 : decode cX8_settle 34 = .ok (.istore_n 3, 1) := by decide +kernel
theorem dX8_settle_35 : decode cX8_settle 35 = .ok (.aload_n 0, 1) := by decide +kernel
theorem dX8_settle_36 : decode cX8_settle 36 = .ok (.getfield 26, 3) := by decide +kernel
theorem dX8_settle_39 : decode cX8_settle 39 = .ok (.iload_n 1, 1) := by decide +kernel
theorem dX8_settle_40 : decode cX8_settle 40 = .ok (.iload_n 3, 1) := by decide +kernel
theorem dX8_settle_41 : decode cX8_settle 41 = .ok (.aload_n 0, 1) := by decide +kernel
theorem dX8_settle_42 : decode cX8_settle 42 = .ok (.getfield 95, 3) := by decide +kernel
theorem dX8_settle_45 : decode cX8_settle 45 = .ok (.invokevirtual 253, 3) := by decide +kernel
theorem dX8_settle_48 : decode cX8_settle 48 = .ok (.aload_n 0, 1) := by decide +kernel
theorem dX8_settle_49 : decode cX8_settle 49 = .ok (.getfield 54, 3) := by decide +kernel
theorem dX8_settle_52 : decode cX8_settle 52 = .ok (.iload_n 1, 1) := by decide +kernel
theorem dX8_settle_53 : decode cX8_settle 53 = .ok (.iload_n 3, 1) := by decide +kernel
theorem dX8_settle_54 : decode cX8_settle 54 = .ok (.iload_n 2, 1) := by decide +kernel
theorem dX8_settle_55 : decode cX8_settle 55 = .ok (.iload_n 3, 1) := by decide +kernel
theorem dX8_settle_56 : decode cX8_settle 56 = .ok (.isub, 1) := by decide +kernel
theorem dX8_settle_57 : decode cX8_settle 57 = .ok (.aload_n 0, 1) := by decide +kernel
theorem dX8_settle_58 : decode cX8_settle 58 = .ok (.getfield 10, 3) := by decide +kernel
theorem dX8_settle_61 : decode cX8_settle 61 = .ok (.aload_n 0, 1) := by decide +kernel
theorem dX8_settle_62 : decode cX8_settle 62 = .ok (.getfield 95, 3) := by decide +kernel
theorem dX8_settle_65 : decode cX8_settle 65 = .ok (.invokevirtual 86, 3) := by decide +kernel
theorem dX8_settle_68 : decode cX8_settle 68 = .ok (.invokevirtual 256, 3) := by decide +kernel
theorem dX8_settle_71 : decode cX8_settle 71 = .ok (.iload_n 2, 1) := by decide +kernel
theorem dX8_settle_72 : decode cX8_settle 72 = .ok (.iload_n 3, 1) := by decide +kernel
theorem dX8_settle_73 : decode cX8_settle 73 = .ok (.isub, 1) := by decide +kernel
theorem dX8_settle_74 : decode cX8_settle 74 = .ok (.ireturn, 1) := by decide +kernel
theorem dX9_init_0 : decode cX9_init 0 = .ok (.aload_n 0, 1) := by decide +kernel
theorem dX9_init_1 : decode cX9_init 1 = .ok (.invokespecial 1, 3) := by decide +kernel
theorem dX9_init_4 : decode cX9_init 4 = .ok (.aload_n 0, 1) := by decide +kernel
theorem dX9_init_5 : decode cX9_init 5 = .ok (.bipush 10, 2) := by decide +kernel
theorem dX9_init_7 : decode cX9_init 7 = .ok (.newarray .int, 2) := by decide +kernel
theorem dX9_init_9 : decode cX9_init 9 = .ok (.putfield 9, 3) := by decide +kernel
theorem dX9_init_12 : decode cX9_init 12 = .ok (.aload_n 0, 1) := by decide +kernel
theorem dX9_init_13 : decode cX9_init 13 = .ok (.bipush 10, 2) := by decide +kernel
theorem dX9_init_15 : decode cX9_init 15 = .ok (.newarray .int, 2) := by decide +kernel
theorem dX9_init_17 : decode cX9_init 17 = .ok (.putfield 13, 3) := by decide +kernel
theorem dX9_init_20 : decode cX9_init 20 = .ok (.aload_n 0, 1) := by decide +kernel
theorem dX9_init_21 : decode cX9_init 21 = .ok (.bipush 10, 2) := by decide +kernel
theorem dX9_init_23 : decode cX9_init 23 = .ok (.newarray .int, 2) := by decide +kernel
theorem dX9_init_25 : decode cX9_init 25 = .ok (.putfield 16, 3) := by decide +kernel
theorem dX9_init_28 : decode cX9_init 28 = .ok (.aload_n 0, 1) := by decide +kernel
theorem dX9_init_29 : decode cX9_init 29 = .ok (.sipush 800, 3) := by decide +kernel
theorem dX9_init_32 : decode cX9_init 32 = .ok (.newarray .int, 2) := by decide +kernel
theorem dX9_init_34 : decode cX9_init 34 = .ok (.putfield 19, 3) := by decide +kernel
theorem dX9_init_37 : decode cX9_init 37 = .ok (.aload_n 0, 1) := by decide +kernel
theorem dX9_init_38 : decode cX9_init 38 = .ok (.bipush 30, 2) := by decide +kernel
theorem dX9_init_40 : decode cX9_init 40 = .ok (.newarray .int, 2) := by decide +kernel
theorem dX9_init_42 : decode cX9_init 42 = .ok (.putfield 22, 3) := by decide +kernel
theorem dX9_init_45 : decode cX9_init 45 = .ok (.aload_n 0, 1) := by decide +kernel
theorem dX9_init_46 : decode cX9_init 46 = .ok (.bipush 30, 2) := by decide +kernel
theorem dX9_init_48 : decode cX9_init 48 = .ok (.newarray .int, 2) := by decide +kernel
theorem dX9_init_50 : decode cX9_init 50 = .ok (.putfield 25, 3) := by decide +kernel
theorem dX9_init_53 : decode cX9_init 53 = .ok (.aload_n 0, 1) := by decide +kernel
theorem dX9_init_54 : decode cX9_init 54 = .ok (.bipush 30, 2) := by decide +kernel
theorem dX9_init_56 : decode cX9_init 56 = .ok (.newarray .int, 2) := by decide +kernel
theorem dX9_init_58 : decode cX9_init 58 = .ok (.putfield 28, 3) := by decide +kernel
theorem dX9_init_61 : decode cX9_init 61 = .ok (.aload_n 0, 1) := by decide +kernel
theorem dX9_init_62 : decode cX9_init 62 = .ok (.sipush 4000, 3) := by decide +kernel
theorem dX9_init_65 : decode cX9_init 65 = .ok (.newarray .int, 2) := by decide +kernel
theorem dX9_init_67 : decode cX9_init 67 = .ok (.putfield 31, 3) := by decide +kernel
theorem dX9_init_70 : decode cX9_init 70 = .ok (.aload_n 0, 1) := by decide +kernel
theorem dX9_init_71 : decode cX9_init 71 = .ok (.sipush 4000, 3) := by decide +kernel
theorem dX9_init_74 : decode cX9_init 74 = .ok (.newarray .int, 2) := by decide +kernel
theorem dX9_init_76 : decode cX9_init 76 = .ok (.putfield 34, 3) := by decide +kernel
theorem dX9_init_79 : decode cX9_init 79 = .ok (.aload_n 0, 1) := by decide +kernel
theorem dX9_init_80 : decode cX9_init 80 = .ok (.sipush 4000, 3) := by decide +kernel
theorem dX9_init_83 : decode cX9_init 83 = .ok (.newarray .int, 2) := by decide +kernel
theorem dX9_init_85 : decode cX9_init 85 = .ok (.putfield 37, 3) := by decide +kernel
theorem dX9_init_88 : decode cX9_init 88 = .ok (.aload_n 0, 1) := by decide +kernel
theorem dX9_init_89 : decode cX9_init 89 = .ok (.sipush 4000, 3) := by decide +kernel
theorem dX9_init_92 : decode cX9_init 92 = .ok (.newarray .int, 2) := by decide +kernel
theorem dX9_init_94 : decode cX9_init 94 = .ok (.putfield 40, 3) := by decide +kernel
theorem dX9_init_97 : decode cX9_init 97 = .ok (.aload_n 0, 1) := by decide +kernel
theorem dX9_init_98 : decode cX9_init 98 = .ok (.sipush 4000, 3) := by decide +kernel
theorem dX9_init_101 : decode cX9_init 101 = .ok (.newarray .int, 2) := by decide +kernel
theorem dX9_init_103 : decode cX9_init 103 = .ok (.putfield 43, 3) := by decide +kernel
theorem dX9_init_106 : decode cX9_init 106 = .ok (.aload_n 0, 1) := by decide +kernel
theorem dX9_init_107 : decode cX9_init 107 = .ok (.sipush 4000, 3) := by decide +kernel
theorem dX9_init_110 : decode cX9_init 110 = .ok (.newarray .int, 2) := by decide +kernel
theorem dX9_init_112 : decode cX9_init 112 = .ok (.putfield 46, 3) := by decide +kernel
theorem dX9_init_115 : decode cX9_init 115 = .ok (.aload_n 0, 1) := by decide +kernel
theorem dX9_init_116 : decode cX9_init 116 = .ok (.iconst (-1), 1) := by decide +kernel
theorem dX9_init_117 : decode cX9_init 117 = .ok (.putfield 49, 3) := by decide +kernel
theorem dX9_init_120 : decode cX9_init 120 = .ok (.aload_n 0, 1) := by decide +kernel
theorem dX9_init_121 : decode cX9_init 121 = .ok (.bipush 40, 2) := by decide +kernel
theorem dX9_init_123 : decode cX9_init 123 = .ok (.newarray .int, 2) := by decide +kernel
theorem dX9_init_125 : decode cX9_init 125 = .ok (.putfield 53, 3) := by decide +kernel
theorem dX9_init_128 : decode cX9_init 128 = .ok (.aload_n 0, 1) := by decide +kernel
theorem dX9_init_129 : decode cX9_init 129 = .ok (.bipush 40, 2) := by decide +kernel
theorem dX9_init_131 : decode cX9_init 131 = .ok (.newarray .int, 2) := by decide +kernel
theorem dX9_init_133 : decode cX9_init 133 = .ok (.putfield 56, 3) := by decide +kernel
theorem dX9_init_136 : decode cX9_init 136 = .ok (.aload_n 0, 1) := by decide +kernel
theorem dX9_init_137 : decode cX9_init 137 = .ok (.bipush 40, 2) := by decide +kernel
theorem dX9_init_139 : decode cX9_init 139 = .ok (.newarray .int, 2) := by decide +kernel
theorem dX9_init_141 : decode cX9_init 141 = .ok (.putfield 59, 3) := by decide +kernel
theorem dX9_init_144 : decode cX9_init 144 = .ok (.aload_n 0, 1) := by decide +kernel
theorem dX9_init_145 : decode cX9_init 145 = .ok (.bipush 20, 2) := by decide +kernel
theorem dX9_init_147 : decode cX9_init 147 = .ok (.newarray .boolean, 2) := by decide +kernel
theorem dX9_init_149 : decode cX9_init 149 = .ok (.putfield 62, 3) := by decide +kernel
theorem dX9_init_152 : decode cX9_init 152 = .ok (.aload_n 0, 1) := by decide +kernel
theorem dX9_init_153 : decode cX9_init 153 = .ok (.bipush 10, 2) := by decide +kernel
theorem dX9_init_155 : decode cX9_init 155 = .ok (.newarray .int, 2) := by decide +kernel
theorem dX9_init_157 : decode cX9_init 157 = .ok (.putfield 66, 3) := by decide +kernel
theorem dX9_init_160 : decode cX9_init 160 = .ok (.aload_n 0, 1) := by decide +kernel
theorem dX9_init_161 : decode cX9_init 161 = .ok (.bipush 40, 2) := by decide +kernel
theorem dX9_init_163 : decode cX9_init 163 = .ok (.newarray .int, 2) := by decide +kernel
theorem dX9_init_165 : decode cX9_init 165 = .ok (.putfield 69, 3) := by decide +kernel
theorem dX9_init_168 : decode cX9_init 168 = .ok (.aload_n 0, 1) := by decide +kernel
theorem dX9_init_169 : decode cX9_init 169 = .ok (.bipush 40, 2) := by decide +kernel
theorem dX9_init_171 : decode cX9_init 171 = .ok (.newarray .int, 2) := by decide +kernel
theorem dX9_init_173 : decode cX9_init 173 = .ok (.putfield 72, 3) := by decide +kernel
theorem dX9_init_176 : decode cX9_init 176 = .ok (.aload_n 0, 1) := by decide +kernel
theorem dX9_init_177 : decode cX9_init 177 = .ok (.bipush 10, 2) := by decide +kernel
theorem dX9_init_179 : decode cX9_init 179 = .ok (.newarray .int, 2) := by decide +kernel
theorem dX9_init_181 : decode cX9_init 181 = .ok (.putfield 75, 3) := by decide +kernel
theorem dX9_init_184 : decode cX9_init 184 = .ok (.aload_n 0, 1) := by decide +kernel
theorem dX9_init_185 : decode cX9_init 185 = .ok (.bipush 10, 2) := by decide +kernel
theorem dX9_init_187 : decode cX9_init 187 = .ok (.newarray .int, 2) := by decide +kernel
theorem dX9_init_189 : decode cX9_init 189 = .ok (.putfield 78, 3) := by decide +kernel
theorem dX9_init_192 : decode cX9_init 192 = .ok (.aload_n 0, 1) := by decide +kernel
theorem dX9_init_193 : decode cX9_init 193 = .ok (.bipush 40, 2) := by decide +kernel
theorem dX9_init_195 : decode cX9_init 195 = .ok (.newarray .int, 2) := by decide +kernel
theorem dX9_init_197 : decode cX9_init 197 = .ok (.putfield 81, 3) := by decide +kernel
theorem dX9_init_200 : decode cX9_init 200 = .ok (.aload_n 0, 1) := by decide +kernel
theorem dX9_init_201 : decode cX9_init 201 = .ok (.bipush 10, 2) := by decide +kernel
theorem dX9_init_203 : decode cX9_init 203 = .ok (.newarray .int, 2) := by decide +kernel
theorem dX9_init_205 : decode cX9_init 205 = .ok (.putfield 84, 3) := by decide +kernel
theorem dX9_init_208 : decode cX9_init 208 = .ok (.iconst 0, 1) := by decide +kernel
theorem dX9_init_209 : decode cX9_init 209 = .ok (.istore_n 1, 1) := by decide +kernel
theorem dX9_init_210 : decode cX9_init 210 = .ok (.iload_n 1, 1) := by decide +kernel
theorem dX9_init_211 : decode cX9_init 211 = .ok (.sipush 800, 3) := by decide +kernel
theorem dX9_init_214 : decode cX9_init 214 = .ok (.if_icmp .ge 16, 3) := by decide +kernel
theorem dX9_init_217 : decode cX9_init 217 = .ok (.aload_n 0, 1) := by decide +kernel
theorem dX9_init_218 : decode cX9_init 218 = .ok (.getfield 19, 3) := by decide +kernel
theorem dX9_init_221 : decode cX9_init 221 = .ok (.iload_n 1, 1) := by decide +kernel
theorem dX9_init_222 : decode cX9_init 222 = .ok (.iconst (-1), 1) := by decide +kernel
theorem dX9_init_223 : decode cX9_init 223 = .ok (.iastore, 1) := by decide +kernel
theorem dX9_init_224 : decode cX9_init 224 = .ok (.iinc 1 1, 3) := by decide +kernel
theorem dX9_init_227 : decode cX9_init 227 = .ok (.goto (-17), 3) := by decide +kernel
theorem dX9_init_230 : decode cX9_init 230 = .ok (.return_, 1) := by decide +kernel
theorem dX9_in_0 : decode cX9_in 0 = .ok (.iload_n 0, 1) := by decide +kernel
theorem dX9_in_1 : decode cX9_in 1 = .ok (.iload_n 1, 1) := by decide +kernel
theorem dX9_in_2 : decode cX9_in 2 = .ok (.if_icmp .lt 12, 3) := by decide +kernel
theorem dX9_in_5 : decode cX9_in 5 = .ok (.iload_n 0, 1) := by decide +kernel
theorem dX9_in_6 : decode cX9_in 6 = .ok (.iload_n 2, 1) := by decide +kernel
theorem dX9_in_7 : decode cX9_in 7 = .ok (.if_icmp .gt 7, 3) := by decide +kernel
theorem dX9_in_10 : decode cX9_in 10 = .ok (.iconst 1, 1) := by decide +kernel
theorem dX9_in_11 : decode cX9_in 11 = .ok (.goto 4, 3) := by decide +kernel
theorem dX9_in_14 : decode cX9_in 14 = .ok (.iconst 0, 1) := by decide +kernel
theorem dX9_in_15 : decode cX9_in 15 = .ok (.ireturn, 1) := by decide +kernel
set_option maxRecDepth 20000 in
theorem ggX9_isWorks_X9_in : GoodIn wsX9_isWorks wsX9_in := goodIn_r _ [5] (by decide +kernel) (by decide +kernel)
set_option maxRecDepth 20000 in
theorem gX9_isWorks_X9_in : GoodIn wsX9_isWorks (va_wsS RX9 90 yX9_in wsX9_in) := goodIn_app (goodIn_of _ (by decide +kernel)) ggX9_isWorks_X9_in
theorem dX9_isWorks_0 : decode cX9_isWorks 0 = .ok (.iload_n 1, 1) := by decide +kernel
theorem dX9_isWorks_1 : decode cX9_isWorks 1 = .ok (.iconst 0, 1) := by decide +kernel
theorem dX9_isWorks_2 : decode cX9_isWorks 2 = .ok (.aload_n 0, 1) := by decide +kernel
theorem dX9_isWorks_3 : decode cX9_isWorks 3 = .ok (.getfield 87, 3) := by decide +kernel
theorem dX9_isWorks_6 : decode cX9_isWorks 6 = .ok (.iconst 1, 1) := by decide +kernel
theorem dX9_isWorks_7 : decode cX9_isWorks 7 = .ok (.isub, 1) := by decide +kernel
theorem dX9_isWorks_8 : decode cX9_isWorks 8 = .ok (.invokestatic 90, 3) := by decide +kernel
theorem dX9_isWorks_11 : decode cX9_isWorks 11 = .ok (.ireturn, 1) := by decide +kernel
theorem dX9_works_0 : decode cX9_works 0 = .ok (.aload_n 0, 1) := by decide +kernel
theorem dX9_works_1 : decode cX9_works 1 = .ok (.getfield 87, 3) := by decide +kernel
theorem dX9_works_4 : decode cX9_works 4 = .ok (.bipush 10, 2) := by decide +kernel
theorem dX9_works_6 : decode cX9_works 6 = .ok (.if_icmp .ne 5, 3) := by decide +kernel
theorem dX9_works_9 : decode cX9_works 9 = .ok (.iconst (-1), 1) := by decide +kernel
theorem dX9_works_10 : decode cX9_works 10 = .ok (.ireturn, 1) := by decide +kernel
theorem dX9_works_11 : decode cX9_works 11 = .ok (.aload_n 0, 1) := by decide +kernel
theorem dX9_works_12 : decode cX9_works 12 = .ok (.dup, 1) := by decide +kernel
theorem dX9_works_13 : decode cX9_works 13 = .ok (.getfield 87, 3) := by decide +kernel
theorem dX9_works_16 : decode cX9_works 16 = .ok (.iconst 1, 1) := by decide +kernel
theorem dX9_works_17 : decode cX9_works 17 = .ok (.iadd, 1) := by decide +kernel
theorem dX9_works_18 : decode cX9_works 18 = .ok (.putfield 87, 3) := by decide +kernel
theorem dX9_works_21 : decode cX9_works 21 = .ok (.aload_n 0, 1) := by decide +kernel
theorem dX9_works_22 : decode cX9_works 22 = .ok (.getfield 87, 3) := by decide +kernel
theorem dX9_works_25 : decode cX9_works 25 = .ok (.iconst 1, 1) := by decide +kernel
theorem dX9_works_26 : decode cX9_works 26 = .ok (.isub, 1) := by decide +kernel
theorem dX9_works_27 : decode cX9_works 27 = .ok (.ireturn, 1) := by decide +kernel
set_option maxRecDepth 20000 in
theorem ggX9_rule_X9_in : GoodIn wsX9_rule wsX9_in := goodIn_r _ [9] (by decide +kernel) (by decide +kernel)
set_option maxRecDepth 20000 in
theorem gX9_rule_X9_in : GoodIn wsX9_rule (va_wsS RX9 90 yX9_in wsX9_in) := goodIn_app (goodIn_of _ (by decide +kernel)) ggX9_rule_X9_in
theorem dX9_rule_0 : decode cX9_rule 0 = .ok (.iload_n 1, 1) := by decide +kernel
theorem dX9_rule_1 : decode cX9_rule 1 = .ok (.iconst 0, 1) := by decide +kernel
theorem dX9_rule_2 : decode cX9_rule 2 = .ok (.bipush 19, 2) := by decide +kernel
theorem dX9_rule_4 : decode cX9_rule 4 = .ok (.invokestatic 90, 3) := by decide +kernel
theorem dX9_rule_7 : decode cX9_rule 7 = .ok (.ifCond .eq 64, 3) := by decide +kernel
theorem dX9_rule_10 : decode cX9_rule 10 = .ok (.iload_n 2, 1) := by decide +kernel
theorem dX9_rule_11 : decode cX9_rule 11 = .ok (.ifCond .lt 60, 3) := by decide +kernel
theorem dX9_rule_14 : decode cX9_rule 14 = .ok (.iload_n 3, 1) := by decide +kernel
theorem dX9_rule_15 : decode cX9_rule 15 = .ok (.ifCond .lt 56, 3) := by decide +kernel
theorem dX9_rule_18 : decode cX9_rule 18 = .ok (.iload_n 2, 1) := by decide +kernel
theorem dX9_rule_19 : decode cX9_rule 19 = .ok (.sipush 1000, 3) := by decide +kernel
theorem dX9_rule_22 : decode cX9_rule 22 = .ok (.idiv, 1) := by decide +kernel
theorem dX9_rule_23 : decode cX9_rule 23 = .ok (.sipush 400, 3) := by decide +kernel
theorem dX9_rule_26 : decode cX9_rule 26 = .ok (.if_icmp .gt 45, 3) := by decide +kernel
theorem dX9_rule_29 : decode cX9_rule 29 = .ok (.iload_n 2, 1) := by decide +kernel
theorem dX9_rule_30 : decode cX9_rule 30 = .ok (.sipush 1000, 3) := by decide +kernel
theorem dX9_rule_33 : decode cX9_rule 33 = .ok (.irem, 1) := by decide +kernel
theorem dX9_rule_34 : decode cX9_rule 34 = .ok (.bipush 100, 2) := by decide +kernel
theorem dX9_rule_36 : decode cX9_rule 36 = .ok (.if_icmp .gt 35, 3) := by decide +kernel
theorem dX9_rule_39 : decode cX9_rule 39 = .ok (.iload_n 3, 1) := by decide +kernel
theorem dX9_rule_40 : decode cX9_rule 40 = .ok (.ldc 94, 2) := by decide +kernel
theorem dX9_rule_42 : decode cX9_rule 42 = .ok (.idiv, 1) := by decide +kernel
theorem dX9_rule_43 : decode cX9_rule 43 = .ok (.bipush 100, 2) := by decide +kernel
theorem dX9_rule_45 : decode cX9_rule 45 = .ok (.if_icmp .gt 26, 3) := by decide +kernel
theorem dX9_rule_48 : decode cX9_rule 48 = .ok (.iload_n 3, 1) := by decide +kernel
theorem dX9_rule_49 : decode cX9_rule 49 = .ok (.bipush 100, 2) := by decide +kernel
theorem dX9_rule_51 : decode cX9_rule 51 = .ok (.idiv, 1) := by decide +kernel
theorem dX9_rule_52 : decode cX9_rule 52 = .ok (.sipush 1000, 3) := by decide +kernel
theorem dX9_rule_55 : decode cX9_rule 55 = .ok (.irem, 1) := by decide +kernel
theorem dX9_rule_56 : decode cX9_rule 56 = .ok (.sipush 999, 3) := by decide +kernel
theorem dX9_rule_59 : decode cX9_rule 59 = .ok (.if_icmp .gt 12, 3) := by decide +kernel
theorem dX9_rule_62 : decode cX9_rule 62 = .ok (.aload_n 0, 1) := by decide +kernel
theorem dX9_rule_63 : decode cX9_rule 63 = .ok (.getfield 95, 3) := by decide +kernel
theorem dX9_rule_66 : decode cX9_rule 66 = .ok (.bipush 30, 2) := by decide +kernel
theorem dX9_rule_68 : decode cX9_rule 68 = .ok (.if_icmp .ne 5, 3) := by decide +kernel
theorem dX9_rule_71 : decode cX9_rule 71 = .ok (.iconst 0, 1) := by decide +kernel
theorem dX9_rule_72 : decode cX9_rule 72 = .ok (.ireturn, 1) := by decide +kernel
theorem dX9_rule_73 : decode cX9_rule 73 = .ok (.aload_n 0, 1) := by decide +kernel
theorem dX9_rule_74 : decode cX9_rule 74 = .ok (.getfield 22, 3) := by decide +kernel
theorem dX9_rule_77 : decode cX9_rule 77 = .ok (.aload_n 0, 1) := by decide +kernel
theorem dX9_rule_78 : decode cX9_rule 78 = .ok (.getfield 95, 3) := by decide +kernel
theorem dX9_rule_81 : decode cX9_rule 81 = .ok (.iload_n 1, 1) := by decide +kernel
theorem dX9_rule_82 : decode cX9_rule 82 = .ok (.iastore, 1) := by decide +kernel
theorem dX9_rule_83 : decode cX9_rule 83 = .ok (.aload_n 0, 1) := by decide +kernel
theorem dX9_rule_84 : decode cX9_rule 84 = .ok (.getfield 25, 3) := by decide +kernel
theorem dX9_rule_87 : decode cX9_rule 87 = .ok (.aload_n 0, 1) := by decide +kernel
theorem dX9_rule_88 : decode cX9_rule 88 = .ok (.getfield 95, 3) := by decide +kernel
theorem dX9_rule_91 : decode cX9_rule 91 = .ok (.iload_n 2, 1) := by decide +kernel
theorem dX9_rule_92 : decode cX9_rule 92 = .ok (.iastore, 1) := by decide +kernel
theorem dX9_rule_93 : decode cX9_rule 93 = .ok (.aload_n 0, 1) := by decide +kernel
theorem dX9_rule_94 : decode cX9_rule 94 = .ok (.getfield 28, 3) := by decide +kernel
theorem dX9_rule_97 : decode cX9_rule 97 = .ok (.aload_n 0, 1) := by decide +kernel
theorem dX9_rule_98 : decode cX9_rule 98 = .ok (.getfield 95, 3) := by decide +kernel
theorem dX9_rule_101 : decode cX9_rule 101 = .ok (.iload_n 3, 1) := by decide +kernel
theorem dX9_rule_102 : decode cX9_rule 102 = .ok (.iastore, 1) := by decide +kernel
theorem dX9_rule_103 : decode cX9_rule 103 = .ok (.aload_n 0, 1) := by decide +kernel
theorem dX9_rule_104 : decode cX9_rule 104 = .ok (.dup, 1) := by decide +kernel
theorem dX9_rule_105 : decode cX9_rule 105 = .ok (.getfield 95, 3) := by decide +kernel
theorem dX9_rule_108 : decode cX9_rule 108 = .ok (.iconst 1, 1) := by decide +kernel
theorem dX9_rule_109 : decode cX9_rule 109 = .ok (.iadd, 1) := by decide +kernel
theorem dX9_rule_110 : decode cX9_rule 110 = .ok (.putfield 95, 3) := by decide +kernel
theorem dX9_rule_113 : decode cX9_rule 113 = .ok (.iconst 1, 1) := by decide +kernel
theorem dX9_rule_114 : decode cX9_rule 114 = .ok (.ireturn, 1) := by decide +kernel
theorem dX9_ruleOf_0 : decode cX9_ruleOf 0 = .ok (.iconst (-1), 1) := by decide +kernel
theorem dX9_ruleOf_1 : decode cX9_ruleOf 1 = .ok (.istore_n 2, 1) := by decide +kernel
theorem dX9_ruleOf_2 : decode cX9_ruleOf 2 = .ok (.iconst 0, 1) := by decide +kernel
theorem dX9_ruleOf_3 : decode cX9_ruleOf 3 = .ok (.istore_n 3, 1) := by decide +kernel
theorem dX9_ruleOf_4 : decode cX9_ruleOf 4 = .ok (.iload_n 3, 1) := by decide +kernel
theorem dX9_ruleOf_5 : decode cX9_ruleOf 5 = .ok (.aload_n 0, 1) := by decide +kernel
theorem dX9_ruleOf_6 : decode cX9_ruleOf 6 = .ok (.getfield 95, 3) := by decide +kernel
theorem dX9_ruleOf_9 : decode cX9_ruleOf 9 = .ok (.if_icmp .ge 41, 3) := by decide +kernel
theorem dX9_ruleOf_12 : decode cX9_ruleOf 12 = .ok (.aload_n 0, 1) := by decide +kernel
theorem dX9_ruleOf_13 : decode cX9_ruleOf 13 = .ok (.getfield 22, 3) := by decide +kernel
theorem dX9_ruleOf_16 : decode cX9_ruleOf 16 = .ok (.iload_n 3, 1) := by decide +kernel
theorem dX9_ruleOf_17 : decode cX9_ruleOf 17 = .ok (.iaload, 1) := by decide +kernel
theorem dX9_ruleOf_18 : decode cX9_ruleOf 18 = .ok (.iload_n 1, 1) := by decide +kernel
theorem dX9_ruleOf_19 : decode cX9_ruleOf 19 = .ok (.if_icmp .gt 25, 3) := by decide +kernel
theorem dX9_ruleOf_22 : decode cX9_ruleOf 22 = .ok (.iload_n 2, 1) := by decide +kernel
theorem dX9_ruleOf_23 : decode cX9_ruleOf 23 = .ok (.iconst (-1), 1) := by decide +kernel
theorem dX9_ruleOf_24 : decode cX9_ruleOf 24 = .ok (.if_icmp .eq 18, 3) := by decide +kernel
theorem dX9_ruleOf_27 : decode cX9_ruleOf 27 = .ok (.aload_n 0, 1) := by decide +kernel
theorem dX9_ruleOf_28 : decode cX9_ruleOf 28 = .ok (.getfield 22, 3) := by decide +kernel
theorem dX9_ruleOf_31 : decode cX9_ruleOf 31 = .ok (.iload_n 3, 1) := by decide +kernel
theorem dX9_ruleOf_32 : decode cX9_ruleOf 32 = .ok (.iaload, 1) := by decide +kernel
theorem dX9_ruleOf_33 : decode cX9_ruleOf 33 = .ok (.aload_n 0, 1) := by decide +kernel
theorem dX9_ruleOf_34 : decode cX9_ruleOf 34 = .ok (.getfield 22, 3) := by decide +kernel
theorem dX9_ruleOf_37 : decode cX9_ruleOf 37 = .ok (.iload_n 2, 1) := by decide +kernel
theorem dX9_ruleOf_38 : decode cX9_ruleOf 38 = .ok (.iaload, 1) := by decide +kernel
theorem dX9_ruleOf_39 : decode cX9_ruleOf 39 = .ok (.if_icmp .lt 5, 3) := by decide +kernel
theorem dX9_ruleOf_42 : decode cX9_ruleOf 42 = .ok (.iload_n 3, 1) := by decide +kernel
theorem dX9_ruleOf_43 : decode cX9_ruleOf 43 = .ok (.istore_n 2, 1) := by decide +kernel
theorem dX9_ruleOf_44 : decode cX9_ruleOf 44 = .ok (.iinc 3 1, 3) := by decide +kernel
theorem dX9_ruleOf_47 : decode cX9_ruleOf 47 = .ok (.goto (-43), 3) := by decide +kernel
theorem dX9_ruleOf_50 : decode cX9_ruleOf 50 = .ok (.iload_n 2, 1) := by decide +kernel
theorem dX9_ruleOf_51 : decode cX9_ruleOf 51 = .ok (.ireturn, 1) := by decide +kernel
set_option maxRecDepth 20000 in
theorem ggX9_capOf_X9_ruleOf : GoodIn wsX9_capOf wsX9_ruleOf := goodIn_r _ [7, 8, 2, 9, 10, 11, 12, 13, 14, 15, 16, 17, 18, 19, 20, 21, 22, 23, 24, 25, 26, 27, 28, 29, 30, 31, 32, 33, 34, 35, 36, 37, 38, 39, 40, 41, 42] (by decide +kernel) (by decide +kernel)
set_option maxRecDepth 20000 in
theorem gX9_capOf_X9_ruleOf : GoodIn wsX9_capOf (wsV RX9 98 RX9 yX9_ruleOf wsX9_ruleOf) := goodIn_app (goodIn_of _ (by decide +kernel)) ggX9_capOf_X9_ruleOf
theorem dX9_capOf_0 : decode cX9_capOf 0 = .ok (.aload_n 0, 1) := by decide +kernel
theorem dX9_capOf_1 : decode cX9_capOf 1 = .ok (.iload_n 1, 1) := by decide +kernel
theorem dX9_capOf_2 : decode cX9_capOf 2 = .ok (.invokevirtual 98, 3) := by decide +kernel
theorem dX9_capOf_5 : decode cX9_capOf 5 = .ok (.istore_n 2, 1) := by decide +kernel
theorem dX9_capOf_6 : decode cX9_capOf 6 = .ok (.iload_n 2, 1) := by decide +kernel
theorem dX9_capOf_7 : decode cX9_capOf 7 = .ok (.iconst (-1), 1) := by decide +kernel
theorem dX9_capOf_8 : decode cX9_capOf 8 = .ok (.if_icmp .ne 7, 3) := by decide +kernel
theorem dX9_capOf_11 : decode cX9_capOf 11 = .ok (.iconst 0, 1) := by decide +kernel
theorem dX9_capOf_12 : decode cX9_capOf 12 = .ok (.goto 13, 3) := by decide +kernel
theorem dX9_capOf_15 : decode cX9_capOf 15 = .ok (.aload_n 0, 1) := by decide +kernel
theorem dX9_capOf_16 : decode cX9_capOf 16 = .ok (.getfield 25, 3) := by decide +kernel
theorem dX9_capOf_19 : decode cX9_capOf 19 = .ok (.iload_n 2, 1) := by decide +kernel
theorem dX9_capOf_20 : decode cX9_capOf 20 = .ok (.iaload, 1) := by decide +kernel
theorem dX9_capOf_21 : decode cX9_capOf 21 = .ok (.sipush 1000, 3) := by decide +kernel
theorem dX9_capOf_24 : decode cX9_capOf 24 = .ok (.idiv, 1) := by decide +kernel
theorem dX9_capOf_25 : decode cX9_capOf 25 = .ok (.istore_n 3, 1) := by decide +kernel
theorem dX9_capOf_26 : decode cX9_capOf 26 = .ok (.iload_n 2, 1) := by decide +kernel
theorem dX9_capOf_27 : decode cX9_capOf 27 = .ok (.iconst (-1), 1) := by decide +kernel
theorem dX9_capOf_28 : decode cX9_capOf 28 = .ok (.if_icmp .ne 7, 3) := by decide +kernel
theorem dX9_capOf_31 : decode cX9_capOf 31 = .ok (.iload_n 1, 1) := by decide +kernel
theorem dX9_capOf_32 : decode cX9_capOf 32 = .ok (.goto 9, 3) := by decide +kernel
theorem dX9_capOf_35 : decode cX9_capOf 35 = .ok (.aload_n 0, 1) := by decide +kernel
theorem dX9_capOf_36 : decode cX9_capOf 36 = .ok (.getfield 22, 3) := by decide +kernel
theorem dX9_capOf_39 : decode cX9_capOf 39 = .ok (.iload_n 2, 1) := by decide +kernel
theorem dX9_capOf_40 : decode cX9_capOf 40 = .ok (.iaload, 1) := by decide +kernel
theorem dX9_capOf_41 : decode cX9_capOf 41 = .ok (.istore 4, 2) := by decide +kernel
theorem dX9_capOf_43 : decode cX9_capOf 43 = .ok (.iload 4, 2) := by decide +kernel
theorem dX9_capOf_45 : decode cX9_capOf 45 = .ok (.iload_n 1, 1) := by decide +kernel
theorem dX9_capOf_46 : decode cX9_capOf 46 = .ok (.if_icmp .ge 27, 3) := by decide +kernel
theorem dX9_capOf_49 : decode cX9_capOf 49 = .ok (.iload_n 3, 1) := by decide +kernel
theorem dX9_capOf_50 : decode cX9_capOf 50 = .ok (.iload_n 3, 1) := by decide +kernel
theorem dX9_capOf_51 : decode cX9_capOf 51 = .ok (.aload_n 0, 1) := by decide +kernel
theorem dX9_capOf_52 : decode cX9_capOf 52 = .ok (.getfield 25, 3) := by decide +kernel
theorem dX9_capOf_55 : decode cX9_capOf 55 = .ok (.iload_n 2, 1) := by decide +kernel
theorem dX9_capOf_56 : decode cX9_capOf 56 = .ok (.iaload, 1) := by decide +kernel
theorem dX9_capOf_57 : decode cX9_capOf 57 = .ok (.sipush 1000, 3) := by decide +kernel
theorem dX9_capOf_60 : decode cX9_capOf 60 = .ok (.irem, 1) := by decide +kernel
theorem dX9_capOf_61 : decode cX9_capOf 61 = .ok (.imul, 1) := by decide +kernel
theorem dX9_capOf_62 : decode cX9_capOf 62 = .ok (.bipush 100, 2) := by decide +kernel
theorem dX9_capOf_64 : decode cX9_capOf 64 = .ok (.idiv, 1) := by decide +kernel
theorem dX9_capOf_65 : decode cX9_capOf 65 = .ok (.isub, 1) := by decide +kernel
theorem dX9_capOf_66 : decode cX9_capOf 66 = .ok (.istore_n 3, 1) := by decide +kernel
theorem dX9_capOf_67 : decode cX9_capOf 67 = .ok (.iinc 4 1, 3) := by decide +kernel
theorem dX9_capOf_70 : decode cX9_capOf 70 = .ok (.goto (-27), 3) := by decide +kernel
theorem dX9_capOf_73 : decode cX9_capOf 73 = .ok (.iload_n 3, 1) := by decide +kernel
theorem dX9_capOf_74 : decode cX9_capOf 74 = .ok (.ireturn, 1) := by decide +kernel
set_option maxRecDepth 20000 in
theorem ggX9_partOf_X9_ruleOf : GoodIn wsX9_partOf wsX9_ruleOf := goodIn_r _ [6, 7, 8, 9, 10, 11, 12, 13, 14, 15, 16, 17, 18, 19, 20, 21, 22, 23, 24, 25, 26, 27, 28, 29, 30, 31, 32, 33, 34, 35, 36, 37, 38, 39, 40, 41, 42] (by decide +kernel) (by decide +kernel)
set_option maxRecDepth 20000 in
theorem gX9_partOf_X9_ruleOf : GoodIn wsX9_partOf (wsV RX9 98 RX9 yX9_ruleOf wsX9_ruleOf) := goodIn_app (goodIn_of _ (by decide +kernel)) ggX9_partOf_X9_ruleOf
theorem dX9_partOf_0 : decode cX9_partOf 0 = .ok (.aload_n 0, 1) := by decide +kernel
theorem dX9_partOf_1 : decode cX9_partOf 1 = .ok (.iload_n 1, 1) := by decide +kernel
theorem dX9_partOf_2 : decode cX9_partOf 2 = .ok (.invokevirtual 98, 3) := by decide +kernel
theorem dX9_partOf_5 : decode cX9_partOf 5 = .ok (.istore 4, 2) := by decide +kernel
theorem dX9_partOf_7 : decode cX9_partOf 7 = .ok (.iload 4, 2) := by decide +kernel
theorem dX9_partOf_9 : decode cX9_partOf 9 = .ok (.iconst (-1), 1) := by decide +kernel
theorem dX9_partOf_10 : decode cX9_partOf 10 = .ok (.if_icmp .ne 7, 3) := by decide +kernel
theorem dX9_partOf_13 : decode cX9_partOf 13 = .ok (.iconst 0, 1) := by decide +kernel
theorem dX9_partOf_14 : decode cX9_partOf 14 = .ok (.goto 14, 3) := by decide +kernel
theorem dX9_partOf_17 : decode cX9_partOf 17 = .ok (.aload_n 0, 1) := by decide +kernel
theorem dX9_partOf_18 : decode cX9_partOf 18 = .ok (.getfield 28, 3) := by decide +kernel
theorem dX9_partOf_21 : decode cX9_partOf 21 = .ok (.iload 4, 2) := by decide +kernel
theorem dX9_partOf_23 : decode cX9_partOf 23 = .ok (.iaload, 1) := by decide +kernel
theorem dX9_partOf_24 : decode cX9_partOf 24 = .ok (.iload_n 2, 1) := by decide +kernel
theorem dX9_partOf_25 : decode cX9_partOf 25 = .ok (.idiv, 1) := by decide +kernel
theorem dX9_partOf_26 : decode cX9_partOf 26 = .ok (.iload_n 3, 1) := by decide +kernel
theorem dX9_partOf_27 : decode cX9_partOf 27 = .ok (.irem, 1) := by decide +kernel
theorem dX9_partOf_28 : decode cX9_partOf 28 = .ok (.ireturn, 1) := by decide +kernel
set_option maxRecDepth 20000 in
theorem ggX9_ruled_X9_in : GoodIn wsX9_ruled wsX9_in := goodIn_r _ [5] (by decide +kernel) (by decide +kernel)
set_option maxRecDepth 20000 in
theorem gX9_ruled_X9_in : GoodIn wsX9_ruled (va_wsS RX9 90 yX9_in wsX9_in) := goodIn_app (goodIn_of _ (by decide +kernel)) ggX9_ruled_X9_in
set_option maxRecDepth 20000 in
theorem ggX9_ruled_X9_capOf : GoodIn wsX9_ruled wsX9_capOf := goodIn_r _ [9, 10, 11, 12, 13, 14, 4, 15, 16, 22, 23, 24, 25, 26, 27, 28, 29, 30, 31, 32, 33, 34, 35, 36, 37, 38, 39, 40, 41, 42, 43, 44, 45, 46, 47, 48, 49, 50, 51, 52, 53, 54, 55] (by decide +kernel) (by decide +kernel)
set_option maxRecDepth 20000 in
theorem gX9_ruled_X9_capOf : GoodIn wsX9_ruled (wsV RX9 102 RX9 yX9_capOf wsX9_capOf) := goodIn_app (goodIn_of _ (by decide +kernel)) ggX9_ruled_X9_capOf
set_option maxRecDepth 20000 in
theorem ggX9_ruled_X9_partOf : GoodIn wsX9_ruled wsX9_partOf := goodIn_r _ [20, 21, 12, 13, 14, 4, 15, 16, 11, 22, 23, 24, 25, 26, 27, 28, 29, 30, 31, 32, 33, 34, 35, 36, 37, 38, 39, 40, 41, 42, 43, 44, 45, 46, 47, 48, 49, 50, 51, 52, 53, 54, 55] (by decide +kernel) (by decide +kernel)
set_option maxRecDepth 20000 in
theorem gX9_ruled_X9_partOf : GoodIn wsX9_ruled (wsV RX9 105 RX9 yX9_partOf wsX9_partOf) := goodIn_app (goodIn_of _ (by decide +kernel)) ggX9_ruled_X9_partOf
theorem dX9_ruled_0 : decode cX9_ruled 0 = .ok (.iload_n 1, 1) := by decide +kernel
theorem dX9_ruled_1 : decode cX9_ruled 1 = .ok (.iconst 0, 1) := by decide +kernel
theorem dX9_ruled_2 : decode cX9_ruled 2 = .ok (.bipush 19, 2) := by decide +kernel
theorem dX9_ruled_4 : decode cX9_ruled 4 = .ok (.invokestatic 90, 3) := by decide +kernel
theorem dX9_ruled_7 : decode cX9_ruled 7 = .ok (.ifCond .ne 5, 3) := by decide +kernel
theorem dX9_ruled_10 : decode cX9_ruled 10 = .ok (.iconst (-1), 1) := by decide +kernel
theorem dX9_ruled_11 : decode cX9_ruled 11 = .ok (.ireturn, 1) := by decide +kernel
theorem dX9_ruled_12 : decode cX9_ruled 12 = .ok (.iload_n 2, 1) := by decide +kernel
theorem dX9_ruled_13 : decode cX9_ruled 13 = .ok (.tableswitch 68 0 3 #[31, 37, 48, 59], 31) := by decide +kernel
theorem dX9_ruled_44 : decode cX9_ruled 44 = .ok (.aload_n 0, 1) := by decide +kernel
theorem dX9_ruled_45 : decode cX9_ruled 45 = .ok (.iload_n 1, 1) := by decide +kernel
theorem dX9_ruled_46 : decode cX9_ruled 46 = .ok (.invokevirtual 102, 3) := by decide +kernel
theorem dX9_ruled_49 : decode cX9_ruled 49 = .ok (.ireturn, 1) := by decide +kernel
theorem dX9_ruled_50 : decode cX9_ruled 50 = .ok (.aload_n 0, 1) := by decide +kernel
theorem dX9_ruled_51 : decode cX9_ruled 51 = .ok (.iload_n 1, 1) := by decide +kernel
theorem dX9_ruled_52 : decode cX9_ruled 52 = .ok (.ldc 94, 2) := by decide +kernel
theorem dX9_ruled_54 : decode cX9_ruled 54 = .ok (.sipush 1000, 3) := by decide +kernel
theorem dX9_ruled_57 : decode cX9_ruled 57 = .ok (.invokevirtual 105, 3) := by decide +kernel
theorem dX9_ruled_60 : decode cX9_ruled 60 = .ok (.ireturn, 1) := by decide +kernel
theorem dX9_ruled_61 : decode cX9_ruled 61 = .ok (.aload_n 0, 1) := by decide +kernel
theorem dX9_ruled_62 : decode cX9_ruled 62 = .ok (.iload_n 1, 1) := by decide +kernel
theorem dX9_ruled_63 : decode cX9_ruled 63 = .ok (.bipush 100, 2) := by decide +kernel
theorem dX9_ruled_65 : decode cX9_ruled 65 = .ok (.sipush 1000, 3) := by decide +kernel
theorem dX9_ruled_68 : decode cX9_ruled 68 = .ok (.invokevirtual 105, 3) := by decide +kernel
theorem dX9_ruled_71 : decode cX9_ruled 71 = .ok (.ireturn, 1) := by decide +kernel
theorem dX9_ruled_72 : decode cX9_ruled 72 = .ok (.aload_n 0, 1) := by decide +kernel
theorem dX9_ruled_73 : decode cX9_ruled 73 = .ok (.iload_n 1, 1) := by decide +kernel
theorem dX9_ruled_74 : decode cX9_ruled 74 = .ok (.iconst 1, 1) := by decide +kernel
theorem dX9_ruled_75 : decode cX9_ruled 75 = .ok (.bipush 100, 2) := by decide +kernel
theorem dX9_ruled_77 : decode cX9_ruled 77 = .ok (.invokevirtual 105, 3) := by decide +kernel
end
section
theorem dX9_ruled_80 : decode cX9_ruled 80 = .ok (.ireturn, 1) := by decide +kernel
theorem dX9_ruled_81 : decode cX9_ruled 81 = .ok (.iconst (-1), 1) := by decide +kernel
theorem dX9_ruled_82 : decode cX9_ruled 82 = .ok (.ireturn, 1) := by decide +kernel
set_option maxRecDepth 20000 in
theorem ggX9_meter_X9_isWorks : GoodIn wsX9_meter wsX9_isWorks := goodIn_r _ [7, 8, 9, 10, 6, 11, 12, 13, 14, 15, 16, 17, 18, 19, 20, 21, 22, 23, 24, 25, 26, 27, 28, 29, 30, 31, 32, 33, 34, 35, 36, 37, 38, 39, 40, 41, 42, 43, 44, 45] (by decide +kernel) (by decide +kernel)
set_option maxRecDepth 20000 in
theorem gX9_meter_X9_isWorks : GoodIn wsX9_meter (wsV RX9 109 RX9 yX9_isWorks wsX9_isWorks) := goodIn_app (goodIn_of _ (by decide +kernel)) ggX9_meter_X9_isWorks
set_option maxRecDepth 20000 in
theorem ggX9_meter_X9_in : GoodIn wsX9_meter wsX9_in := goodIn_r _ [11] (by decide +kernel) (by decide +kernel)
set_option maxRecDepth 20000 in
theorem gX9_meter_X9_in : GoodIn wsX9_meter (va_wsS RX9 90 yX9_in wsX9_in) := goodIn_app (goodIn_of _ (by decide +kernel)) ggX9_meter_X9_in
theorem dX9_meter_0 : decode cX9_meter 0 = .ok (.aload_n 0, 1) := by decide +kernel
theorem dX9_meter_1 : decode cX9_meter 1 = .ok (.iload_n 1, 1) := by decide +kernel
theorem dX9_meter_2 : decode cX9_meter 2 = .ok (.invokevirtual 109, 3) := by decide +kernel
theorem dX9_meter_5 : decode cX9_meter 5 = .ok (.ifCond .eq 49, 3) := by decide +kernel
theorem dX9_meter_8 : decode cX9_meter 8 = .ok (.iload_n 2, 1) := by decide +kernel
theorem dX9_meter_9 : decode cX9_meter 9 = .ok (.iconst 0, 1) := by decide +kernel
theorem dX9_meter_10 : decode cX9_meter 10 = .ok (.aload_n 0, 1) := by decide +kernel
theorem dX9_meter_11 : decode cX9_meter 11 = .ok (.getfield 113, 3) := by decide +kernel
theorem dX9_meter_14 : decode cX9_meter 14 = .ok (.bipush 20, 2) := by decide +kernel
theorem dX9_meter_16 : decode cX9_meter 16 = .ok (.if_icmp .ge 10, 3) := by decide +kernel
theorem dX9_meter_19 : decode cX9_meter 19 = .ok (.aload_n 0, 1) := by decide +kernel
theorem dX9_meter_20 : decode cX9_meter 20 = .ok (.getfield 113, 3) := by decide +kernel
theorem dX9_meter_23 : decode cX9_meter 23 = .ok (.goto 5, 3) := by decide +kernel
theorem dX9_meter_26 : decode cX9_meter 26 = .ok (.bipush 19, 2) := by decide +kernel
theorem dX9_meter_28 : decode cX9_meter 28 = .ok (.invokestatic 90, 3) := by decide +kernel
theorem dX9_meter_31 : decode cX9_meter 31 = .ok (.ifCond .eq 23, 3) := by decide +kernel
theorem dX9_meter_34 : decode cX9_meter 34 = .ok (.iload_n 3, 1) := by decide +kernel
theorem dX9_meter_35 : decode cX9_meter 35 = .ok (.iconst 0, 1) := by decide +kernel
theorem dX9_meter_36 : decode cX9_meter 36 = .ok (.iconst 3, 1) := by decide +kernel
theorem dX9_meter_37 : decode cX9_meter 37 = .ok (.invokestatic 90, 3) := by decide +kernel
theorem dX9_meter_40 : decode cX9_meter 40 = .ok (.ifCond .eq 14, 3) := by decide +kernel
theorem dX9_meter_43 : decode cX9_meter 43 = .ok (.iload 4, 2) := by decide +kernel
theorem dX9_meter_45 : decode cX9_meter 45 = .ok (.iconst (-1), 1) := by decide +kernel
theorem dX9_meter_46 : decode cX9_meter 46 = .ok (.bipush 99, 2) := by decide +kernel
theorem dX9_meter_48 : decode cX9_meter 48 = .ok (.invokestatic 90, 3) := by decide +kernel
theorem dX9_meter_51 : decode cX9_meter 51 = .ok (.ifCond .ne 5, 3) := by decide +kernel
theorem dX9_meter_54 : decode cX9_meter 54 = .ok (.iconst 0, 1) := by decide +kernel
theorem dX9_meter_55 : decode cX9_meter 55 = .ok (.ireturn, 1) := by decide +kernel
theorem dX9_meter_56 : decode cX9_meter 56 = .ok (.aload_n 0, 1) := by decide +kernel
theorem dX9_meter_57 : decode cX9_meter 57 = .ok (.getfield 19, 3) := by decide +kernel
theorem dX9_meter_60 : decode cX9_meter 60 = .ok (.iconst 4, 1) := by decide +kernel
theorem dX9_meter_61 : decode cX9_meter 61 = .ok (.bipush 20, 2) := by decide +kernel
theorem dX9_meter_63 : decode cX9_meter 63 = .ok (.iload_n 1, 1) := by decide +kernel
theorem dX9_meter_64 : decode cX9_meter 64 = .ok (.imul, 1) := by decide +kernel
theorem dX9_meter_65 : decode cX9_meter 65 = .ok (.iload_n 2, 1) := by decide +kernel
theorem dX9_meter_66 : decode cX9_meter 66 = .ok (.iadd, 1) := by decide +kernel
theorem dX9_meter_67 : decode cX9_meter 67 = .ok (.imul, 1) := by decide +kernel
theorem dX9_meter_68 : decode cX9_meter 68 = .ok (.iload_n 3, 1) := by decide +kernel
theorem dX9_meter_69 : decode cX9_meter 69 = .ok (.iadd, 1) := by decide +kernel
theorem dX9_meter_70 : decode cX9_meter 70 = .ok (.iload 4, 2) := by decide +kernel
theorem dX9_meter_72 : decode cX9_meter 72 = .ok (.iastore, 1) := by decide +kernel
theorem dX9_meter_73 : decode cX9_meter 73 = .ok (.iconst 1, 1) := by decide +kernel
theorem dX9_meter_74 : decode cX9_meter 74 = .ok (.ireturn, 1) := by decide +kernel
theorem dX9_greatest_0 : decode cX9_greatest 0 = .ok (.iconst (-1), 1) := by decide +kernel
theorem dX9_greatest_1 : decode cX9_greatest 1 = .ok (.istore_n 3, 1) := by decide +kernel
theorem dX9_greatest_2 : decode cX9_greatest 2 = .ok (.iload_n 2, 1) := by decide +kernel
theorem dX9_greatest_3 : decode cX9_greatest 3 = .ok (.ifCond .le 9, 3) := by decide +kernel
theorem dX9_greatest_6 : decode cX9_greatest 6 = .ok (.iload_n 2, 1) := by decide +kernel
theorem dX9_greatest_7 : decode cX9_greatest 7 = .ok (.iconst 1, 1) := by decide +kernel
theorem dX9_greatest_8 : decode cX9_greatest 8 = .ok (.isub, 1) := by decide +kernel
theorem dX9_greatest_9 : decode cX9_greatest 9 = .ok (.goto 4, 3) := by decide +kernel
theorem dX9_greatest_12 : decode cX9_greatest 12 = .ok (.iconst 0, 1) := by decide +kernel
theorem dX9_greatest_13 : decode cX9_greatest 13 = .ok (.istore 4, 2) := by decide +kernel
theorem dX9_greatest_15 : decode cX9_greatest 15 = .ok (.iload 4, 2) := by decide +kernel
theorem dX9_greatest_17 : decode cX9_greatest 17 = .ok (.iload_n 2, 1) := by decide +kernel
theorem dX9_greatest_18 : decode cX9_greatest 18 = .ok (.if_icmp .gt 63, 3) := by decide +kernel
theorem dX9_greatest_21 : decode cX9_greatest 21 = .ok (.iconst 0, 1) := by decide +kernel
theorem dX9_greatest_22 : decode cX9_greatest 22 = .ok (.istore 5, 2) := by decide +kernel
theorem dX9_greatest_24 : decode cX9_greatest 24 = .ok (.iload 5, 2) := by decide +kernel
theorem dX9_greatest_26 : decode cX9_greatest 26 = .ok (.iconst 4, 1) := by decide +kernel
theorem dX9_greatest_27 : decode cX9_greatest 27 = .ok (.if_icmp .ge 48, 3) := by decide +kernel
theorem dX9_greatest_30 : decode cX9_greatest 30 = .ok (.aload_n 0, 1) := by decide +kernel
theorem dX9_greatest_31 : decode cX9_greatest 31 = .ok (.getfield 19, 3) := by decide +kernel
theorem dX9_greatest_34 : decode cX9_greatest 34 = .ok (.iconst 4, 1) := by decide +kernel
theorem dX9_greatest_35 : decode cX9_greatest 35 = .ok (.bipush 20, 2) := by decide +kernel
theorem dX9_greatest_37 : decode cX9_greatest 37 = .ok (.iload_n 1, 1) := by decide +kernel
theorem dX9_greatest_38 : decode cX9_greatest 38 = .ok (.imul, 1) := by decide +kernel
theorem dX9_greatest_39 : decode cX9_greatest 39 = .ok (.iload 4, 2) := by decide +kernel
theorem dX9_greatest_41 : decode cX9_greatest 41 = .ok (.iadd, 1) := by decide +kernel
theorem dX9_greatest_42 : decode cX9_greatest 42 = .ok (.imul, 1) := by decide +kernel
theorem dX9_greatest_43 : decode cX9_greatest 43 = .ok (.iload 5, 2) := by decide +kernel
theorem dX9_greatest_45 : decode cX9_greatest 45 = .ok (.iadd, 1) := by decide +kernel
theorem dX9_greatest_46 : decode cX9_greatest 46 = .ok (.iaload, 1) := by decide +kernel
theorem dX9_greatest_47 : decode cX9_greatest 47 = .ok (.iload_n 3, 1) := by decide +kernel
theorem dX9_greatest_48 : decode cX9_greatest 48 = .ok (.if_icmp .le 21, 3) := by decide +kernel
theorem dX9_greatest_51 : decode cX9_greatest 51 = .ok (.aload_n 0, 1) := by decide +kernel
theorem dX9_greatest_52 : decode cX9_greatest 52 = .ok (.getfield 19, 3) := by decide +kernel
theorem dX9_greatest_55 : decode cX9_greatest 55 = .ok (.iconst 4, 1) := by decide +kernel
theorem dX9_greatest_56 : decode cX9_greatest 56 = .ok (.bipush 20, 2) := by decide +kernel
theorem dX9_greatest_58 : decode cX9_greatest 58 = .ok (.iload_n 1, 1) := by decide +kernel
theorem dX9_greatest_59 : decode cX9_greatest 59 = .ok (.imul, 1) := by decide +kernel
theorem dX9_greatest_60 : decode cX9_greatest 60 = .ok (.iload 4, 2) := by decide +kernel
theorem dX9_greatest_62 : decode cX9_greatest 62 = .ok (.iadd, 1) := by decide +kernel
theorem dX9_greatest_63 : decode cX9_greatest 63 = .ok (.imul, 1) := by decide +kernel
theorem dX9_greatest_64 : decode cX9_greatest 64 = .ok (.iload 5, 2) := by decide +kernel
theorem dX9_greatest_66 : decode cX9_greatest 66 = .ok (.iadd, 1) := by decide +kernel
theorem dX9_greatest_67 : decode cX9_greatest 67 = .ok (.iaload, 1) := by decide +kernel
theorem dX9_greatest_68 : decode cX9_greatest 68 = .ok (.istore_n 3, 1) := by decide +kernel
theorem dX9_greatest_69 : decode cX9_greatest 69 = .ok (.iinc 5 1, 3) := by decide +kernel
theorem dX9_greatest_72 : decode cX9_greatest 72 = .ok (.goto (-48), 3) := by decide +kernel
theorem dX9_greatest_75 : decode cX9_greatest 75 = .ok (.iinc 4 1, 3) := by decide +kernel
theorem dX9_greatest_78 : decode cX9_greatest 78 = .ok (.goto (-63), 3) := by decide +kernel
theorem dX9_greatest_81 : decode cX9_greatest 81 = .ok (.iload_n 3, 1) := by decide +kernel
theorem dX9_greatest_82 : decode cX9_greatest 82 = .ok (.ireturn, 1) := by decide +kernel
set_option maxRecDepth 20000 in
theorem ggX9_fouled_X9_isWorks : GoodIn wsX9_fouled wsX9_isWorks := goodIn_r _ [6, 7, 8, 9, 5, 10, 15, 16, 17, 18, 19, 20, 21, 22, 23, 24, 25, 26, 27, 28, 29, 30, 31, 32, 33, 34, 35, 36, 37, 38, 39, 40, 41, 42, 43, 44, 45, 46, 47, 48] (by decide +kernel) (by decide +kernel)
set_option maxRecDepth 20000 in
theorem gX9_fouled_X9_isWorks : GoodIn wsX9_fouled (wsV RX9 109 RX9 yX9_isWorks wsX9_isWorks) := goodIn_app (goodIn_of _ (by decide +kernel)) ggX9_fouled_X9_isWorks
set_option maxRecDepth 20000 in
theorem ggX9_fouled_X9_in : GoodIn wsX9_fouled wsX9_in := goodIn_r _ [10] (by decide +kernel) (by decide +kernel)
set_option maxRecDepth 20000 in
theorem gX9_fouled_X9_in : GoodIn wsX9_fouled (va_wsS RX9 90 yX9_in wsX9_in) := goodIn_app (goodIn_of _ (by decide +kernel)) ggX9_fouled_X9_in
set_option maxRecDepth 20000 in
theorem ggX9_fouled_X9_greatest : GoodIn wsX9_fouled wsX9_greatest := goodIn_r _ [14, 1, 15, 16, 17, 18, 19, 20, 21, 22, 23, 24, 25, 26, 27, 28, 29, 30, 31, 32, 33, 34, 35, 36, 37, 38, 39, 40, 41, 42, 43, 44, 45, 46, 47, 48] (by decide +kernel) (by decide +kernel)
set_option maxRecDepth 20000 in
theorem gX9_fouled_X9_greatest : GoodIn wsX9_fouled (wsV RX9 116 RX9 yX9_greatest wsX9_greatest) := goodIn_app (goodIn_of _ (by decide +kernel)) ggX9_fouled_X9_greatest
theorem dX9_fouled_0 : decode cX9_fouled 0 = .ok (.aload_n 0, 1) := by decide +kernel
theorem dX9_fouled_1 : decode cX9_fouled 1 = .ok (.iload_n 1, 1) := by decide +kernel
theorem dX9_fouled_2 : decode cX9_fouled 2 = .ok (.invokevirtual 109, 3) := by decide +kernel
theorem dX9_fouled_5 : decode cX9_fouled 5 = .ok (.ifCond .eq 13, 3) := by decide +kernel
theorem dX9_fouled_8 : decode cX9_fouled 8 = .ok (.iload_n 2, 1) := by decide +kernel
theorem dX9_fouled_9 : decode cX9_fouled 9 = .ok (.iconst 0, 1) := by decide +kernel
theorem dX9_fouled_10 : decode cX9_fouled 10 = .ok (.bipush 19, 2) := by decide +kernel
theorem dX9_fouled_12 : decode cX9_fouled 12 = .ok (.invokestatic 90, 3) := by decide +kernel
theorem dX9_fouled_15 : decode cX9_fouled 15 = .ok (.ifCond .ne 5, 3) := by decide +kernel
theorem dX9_fouled_18 : decode cX9_fouled 18 = .ok (.iconst (-1), 1) := by decide +kernel
theorem dX9_fouled_19 : decode cX9_fouled 19 = .ok (.ireturn, 1) := by decide +kernel
theorem dX9_fouled_20 : decode cX9_fouled 20 = .ok (.aload_n 0, 1) := by decide +kernel
theorem dX9_fouled_21 : decode cX9_fouled 21 = .ok (.iload_n 1, 1) := by decide +kernel
theorem dX9_fouled_22 : decode cX9_fouled 22 = .ok (.iload_n 2, 1) := by decide +kernel
theorem dX9_fouled_23 : decode cX9_fouled 23 = .ok (.invokevirtual 116, 3) := by decide +kernel
theorem dX9_fouled_26 : decode cX9_fouled 26 = .ok (.istore_n 3, 1) := by decide +kernel
theorem dX9_fouled_27 : decode cX9_fouled 27 = .ok (.iload_n 3, 1) := by decide +kernel
theorem dX9_fouled_28 : decode cX9_fouled 28 = .ok (.iconst (-1), 1) := by decide +kernel
theorem dX9_fouled_29 : decode cX9_fouled 29 = .ok (.if_icmp .ne 8, 3) := by decide +kernel
theorem dX9_fouled_32 : decode cX9_fouled 32 = .ok (.bipush 10, 2) := by decide +kernel
theorem dX9_fouled_34 : decode cX9_fouled 34 = .ok (.goto 13, 3) := by decide +kernel
theorem dX9_fouled_37 : decode cX9_fouled 37 = .ok (.iload_n 3, 1) := by decide +kernel
theorem dX9_fouled_38 : decode cX9_fouled 38 = .ok (.bipush 110, 2) := by decide +kernel
theorem dX9_fouled_40 : decode cX9_fouled 40 = .ok (.imul, 1) := by decide +kernel
theorem dX9_fouled_41 : decode cX9_fouled 41 = .ok (.bipush 99, 2) := by decide +kernel
theorem dX9_fouled_43 : decode cX9_fouled 43 = .ok (.iadd, 1) := by decide +kernel
theorem dX9_fouled_44 : decode cX9_fouled 44 = .ok (.bipush 100, 2) := by decide +kernel
theorem dX9_fouled_46 : decode cX9_fouled 46 = .ok (.idiv, 1) := by decide +kernel
theorem dX9_fouled_47 : decode cX9_fouled 47 = .ok (.istore 4, 2) := by decide +kernel
theorem dX9_fouled_49 : decode cX9_fouled 49 = .ok (.iload 4, 2) := by decide +kernel
theorem dX9_fouled_51 : decode cX9_fouled 51 = .ok (.ifCond .ne 6, 3) := by decide +kernel
theorem dX9_fouled_54 : decode cX9_fouled 54 = .ok (.iconst 1, 1) := by decide +kernel
theorem dX9_fouled_55 : decode cX9_fouled 55 = .ok (.istore 4, 2) := by decide +kernel
theorem dX9_fouled_57 : decode cX9_fouled 57 = .ok (.iconst 0, 1) := by decide +kernel
theorem dX9_fouled_58 : decode cX9_fouled 58 = .ok (.istore 5, 2) := by decide +kernel
theorem dX9_fouled_60 : decode cX9_fouled 60 = .ok (.iconst 0, 1) := by decide +kernel
theorem dX9_fouled_61 : decode cX9_fouled 61 = .ok (.istore 6, 2) := by decide +kernel
theorem dX9_fouled_63 : decode cX9_fouled 63 = .ok (.iload 6, 2) := by decide +kernel
theorem dX9_fouled_65 : decode cX9_fouled 65 = .ok (.iconst 4, 1) := by decide +kernel
theorem dX9_fouled_66 : decode cX9_fouled 66 = .ok (.if_icmp .ge 45, 3) := by decide +kernel
theorem dX9_fouled_69 : decode cX9_fouled 69 = .ok (.aload_n 0, 1) := by decide +kernel
theorem dX9_fouled_70 : decode cX9_fouled 70 = .ok (.getfield 19, 3) := by decide +kernel
theorem dX9_fouled_73 : decode cX9_fouled 73 = .ok (.iconst 4, 1) := by decide +kernel
theorem dX9_fouled_74 : decode cX9_fouled 74 = .ok (.bipush 20, 2) := by decide +kernel
theorem dX9_fouled_76 : decode cX9_fouled 76 = .ok (.iload_n 1, 1) := by decide +kernel
theorem dX9_fouled_77 : decode cX9_fouled 77 = .ok (.imul, 1) := by decide +kernel
theorem dX9_fouled_78 : decode cX9_fouled 78 = .ok (.iload_n 2, 1) := by decide +kernel
theorem dX9_fouled_79 : decode cX9_fouled 79 = .ok (.iadd, 1) := by decide +kernel
theorem dX9_fouled_80 : decode cX9_fouled 80 = .ok (.imul, 1) := by decide +kernel
theorem dX9_fouled_81 : decode cX9_fouled 81 = .ok (.iload 6, 2) := by decide +kernel
theorem dX9_fouled_83 : decode cX9_fouled 83 = .ok (.iadd, 1) := by decide +kernel
theorem dX9_fouled_84 : decode cX9_fouled 84 = .ok (.iaload, 1) := by decide +kernel
theorem dX9_fouled_85 : decode cX9_fouled 85 = .ok (.istore 7, 2) := by decide +kernel
theorem dX9_fouled_87 : decode cX9_fouled 87 = .ok (.iload 5, 2) := by decide +kernel
theorem dX9_fouled_89 : decode cX9_fouled 89 = .ok (.iload 7, 2) := by decide +kernel
theorem dX9_fouled_91 : decode cX9_fouled 91 = .ok (.iconst (-1), 1) := by decide +kernel
theorem dX9_fouled_92 : decode cX9_fouled 92 = .ok (.if_icmp .ne 8, 3) := by decide +kernel
theorem dX9_fouled_95 : decode cX9_fouled 95 = .ok (.iload 4, 2) := by decide +kernel
theorem dX9_fouled_97 : decode cX9_fouled 97 = .ok (.goto 5, 3) := by decide +kernel
theorem dX9_fouled_100 : decode cX9_fouled 100 = .ok (.iload 7, 2) := by decide +kernel
theorem dX9_fouled_102 : decode cX9_fouled 102 = .ok (.iadd, 1) := by decide +kernel
theorem dX9_fouled_103 : decode cX9_fouled 103 = .ok (.istore 5, 2) := by decide +kernel
theorem dX9_fouled_105 : decode cX9_fouled 105 = .ok (.iinc 6 1, 3) := by decide +kernel
theorem dX9_fouled_108 : decode cX9_fouled 108 = .ok (.goto (-45), 3) := by decide +kernel
theorem dX9_fouled_111 : decode cX9_fouled 111 = .ok (.iload 5, 2) := by decide +kernel
theorem dX9_fouled_113 : decode cX9_fouled 113 = .ok (.ireturn, 1) := by decide +kernel
theorem dX9_comes_0 : decode cX9_comes 0 = .ok (.aload_n 0, 1) := by decide +kernel
theorem dX9_comes_1 : decode cX9_comes 1 = .ok (.getfield 31, 3) := by decide +kernel
theorem dX9_comes_4 : decode cX9_comes 4 = .ok (.aload_n 0, 1) := by decide +kernel
theorem dX9_comes_5 : decode cX9_comes 5 = .ok (.getfield 120, 3) := by decide +kernel
theorem dX9_comes_8 : decode cX9_comes 8 = .ok (.iconst 0, 1) := by decide +kernel
theorem dX9_comes_9 : decode cX9_comes 9 = .ok (.iastore, 1) := by decide +kernel
theorem dX9_comes_10 : decode cX9_comes 10 = .ok (.aload_n 0, 1) := by decide +kernel
theorem dX9_comes_11 : decode cX9_comes 11 = .ok (.getfield 34, 3) := by decide +kernel
theorem dX9_comes_14 : decode cX9_comes 14 = .ok (.aload_n 0, 1) := by decide +kernel
theorem dX9_comes_15 : decode cX9_comes 15 = .ok (.getfield 120, 3) := by decide +kernel
theorem dX9_comes_18 : decode cX9_comes 18 = .ok (.iload_n 1, 1) := by decide +kernel
theorem dX9_comes_19 : decode cX9_comes 19 = .ok (.iastore, 1) := by decide +kernel
theorem dX9_comes_20 : decode cX9_comes 20 = .ok (.aload_n 0, 1) := by decide +kernel
theorem dX9_comes_21 : decode cX9_comes 21 = .ok (.getfield 37, 3) := by decide +kernel
theorem dX9_comes_24 : decode cX9_comes 24 = .ok (.aload_n 0, 1) := by decide +kernel
theorem dX9_comes_25 : decode cX9_comes 25 = .ok (.getfield 120, 3) := by decide +kernel
theorem dX9_comes_28 : decode cX9_comes 28 = .ok (.aload_n 0, 1) := by decide +kernel
theorem dX9_comes_29 : decode cX9_comes 29 = .ok (.getfield 113, 3) := by decide +kernel
theorem dX9_comes_32 : decode cX9_comes 32 = .ok (.iastore, 1) := by decide +kernel
theorem dX9_comes_33 : decode cX9_comes 33 = .ok (.aload_n 0, 1) := by decide +kernel
theorem dX9_comes_34 : decode cX9_comes 34 = .ok (.getfield 40, 3) := by decide +kernel
theorem dX9_comes_37 : decode cX9_comes 37 = .ok (.aload_n 0, 1) := by decide +kernel
theorem dX9_comes_38 : decode cX9_comes 38 = .ok (.getfield 120, 3) := by decide +kernel
theorem dX9_comes_41 : decode cX9_comes 41 = .ok (.iconst (-1), 1) := by decide +kernel
theorem dX9_comes_42 : decode cX9_comes 42 = .ok (.iastore, 1) := by decide +kernel
theorem dX9_comes_43 : decode cX9_comes 43 = .ok (.aload_n 0, 1) := by decide +kernel
theorem dX9_comes_44 : decode cX9_comes 44 = .ok (.getfield 43, 3) := by decide +kernel
theorem dX9_comes_47 : decode cX9_comes 47 = .ok (.aload_n 0, 1) := by decide +kernel
theorem dX9_comes_48 : decode cX9_comes 48 = .ok (.getfield 120, 3) := by decide +kernel
theorem dX9_comes_51 : decode cX9_comes 51 = .ok (.iload_n 2, 1) := by decide +kernel
theorem dX9_comes_52 : decode cX9_comes 52 = .ok (.iastore, 1) := by decide +kernel
theorem dX9_comes_53 : decode cX9_comes 53 = .ok (.aload_n 0, 1) := by decide +kernel
theorem dX9_comes_54 : decode cX9_comes 54 = .ok (.dup, 1) := by decide +kernel
theorem dX9_comes_55 : decode cX9_comes 55 = .ok (.getfield 120, 3) := by decide +kernel
theorem dX9_comes_58 : decode cX9_comes 58 = .ok (.iconst 1, 1) := by decide +kernel
theorem dX9_comes_59 : decode cX9_comes 59 = .ok (.iadd, 1) := by decide +kernel
theorem dX9_comes_60 : decode cX9_comes 60 = .ok (.putfield 120, 3) := by decide +kernel
theorem dX9_comes_63 : decode cX9_comes 63 = .ok (.return_, 1) := by decide +kernel
set_option maxRecDepth 20000 in
theorem ggX9_gives_X9_fouled : GoodIn wsX9_gives wsX9_fouled := goodIn_r _ [9, 10, 11, 12, 13, 8, 14, 2, 15, 16, 17, 18, 19, 20, 21, 22, 23, 24, 25, 26, 27, 28, 29, 30, 31, 32, 33, 34, 35, 36, 37, 38, 39, 40, 41, 42, 43, 44, 45, 46, 47, 48, 49, 50, 51, 52, 53, 54, 55] (by decide +kernel) (by decide +kernel)
set_option maxRecDepth 20000 in
theorem gX9_gives_X9_fouled : GoodIn wsX9_gives (wsV RX9 123 RX9 yX9_fouled wsX9_fouled) := goodIn_app (goodIn_of _ (by decide +kernel)) ggX9_gives_X9_fouled
theorem dX9_gives_0 : decode cX9_gives 0 = .ok (.iconst 0, 1) := by decide +kernel
theorem dX9_gives_1 : decode cX9_gives 1 = .ok (.istore_n 2, 1) := by decide +kernel
theorem dX9_gives_2 : decode cX9_gives 2 = .ok (.iconst 0, 1) := by decide +kernel
theorem dX9_gives_3 : decode cX9_gives 3 = .ok (.istore_n 3, 1) := by decide +kernel
theorem dX9_gives_4 : decode cX9_gives 4 = .ok (.iload_n 3, 1) := by decide +kernel
theorem dX9_gives_5 : decode cX9_gives 5 = .ok (.bipush 10, 2) := by decide +kernel
theorem dX9_gives_7 : decode cX9_gives 7 = .ok (.if_icmp .ge 16, 3) := by decide +kernel
theorem dX9_gives_10 : decode cX9_gives 10 = .ok (.aload_n 0, 1) := by decide +kernel
theorem dX9_gives_11 : decode cX9_gives 11 = .ok (.getfield 75, 3) := by decide +kernel
theorem dX9_gives_14 : decode cX9_gives 14 = .ok (.iload_n 3, 1) := by decide +kernel
theorem dX9_gives_15 : decode cX9_gives 15 = .ok (.iconst 0, 1) := by decide +kernel
theorem dX9_gives_16 : decode cX9_gives 16 = .ok (.iastore, 1) := by decide +kernel
theorem dX9_gives_17 : decode cX9_gives 17 = .ok (.iinc 3 1, 3) := by decide +kernel
theorem dX9_gives_20 : decode cX9_gives 20 = .ok (.goto (-16), 3) := by decide +kernel
theorem dX9_gives_23 : decode cX9_gives 23 = .ok (.iconst 0, 1) := by decide +kernel
theorem dX9_gives_24 : decode cX9_gives 24 = .ok (.istore_n 3, 1) := by decide +kernel
theorem dX9_gives_25 : decode cX9_gives 25 = .ok (.iload_n 3, 1) := by decide +kernel
theorem dX9_gives_26 : decode cX9_gives 26 = .ok (.aload_n 0, 1) := by decide +kernel
theorem dX9_gives_27 : decode cX9_gives 27 = .ok (.getfield 87, 3) := by decide +kernel
theorem dX9_gives_30 : decode cX9_gives 30 = .ok (.if_icmp .ge 30, 3) := by decide +kernel
theorem dX9_gives_33 : decode cX9_gives 33 = .ok (.aload_n 0, 1) := by decide +kernel
theorem dX9_gives_34 : decode cX9_gives 34 = .ok (.getfield 113, 3) := by decide +kernel
theorem dX9_gives_37 : decode cX9_gives 37 = .ok (.ifCond .le 23, 3) := by decide +kernel
theorem dX9_gives_40 : decode cX9_gives 40 = .ok (.iload_n 2, 1) := by decide +kernel
theorem dX9_gives_41 : decode cX9_gives 41 = .ok (.aload_n 0, 1) := by decide +kernel
theorem dX9_gives_42 : decode cX9_gives 42 = .ok (.iload_n 3, 1) := by decide +kernel
theorem dX9_gives_43 : decode cX9_gives 43 = .ok (.aload_n 0, 1) := by decide +kernel
theorem dX9_gives_44 : decode cX9_gives 44 = .ok (.getfield 113, 3) := by decide +kernel
theorem dX9_gives_47 : decode cX9_gives 47 = .ok (.iconst 1, 1) := by decide +kernel
theorem dX9_gives_48 : decode cX9_gives 48 = .ok (.isub, 1) := by decide +kernel
theorem dX9_gives_49 : decode cX9_gives 49 = .ok (.invokevirtual 123, 3) := by decide +kernel
theorem dX9_gives_52 : decode cX9_gives 52 = .ok (.iadd, 1) := by decide +kernel
theorem dX9_gives_53 : decode cX9_gives 53 = .ok (.istore_n 2, 1) := by decide +kernel
theorem dX9_gives_54 : decode cX9_gives 54 = .ok (.iinc 3 1, 3) := by decide +kernel
theorem dX9_gives_57 : decode cX9_gives 57 = .ok (.goto (-32), 3) := by decide +kernel
theorem dX9_gives_60 : decode cX9_gives 60 = .ok (.iload_n 2, 1) := by decide +kernel
theorem dX9_gives_61 : decode cX9_gives 61 = .ok (.ifCond .ne 4, 3) := by decide +kernel
theorem dX9_gives_64 : decode cX9_gives 64 = .ok (.return_, 1) := by decide +kernel
theorem dX9_gives_65 : decode cX9_gives 65 = .ok (.iload_n 1, 1) := by decide +kernel
theorem dX9_gives_66 : decode cX9_gives 66 = .ok (.istore_n 3, 1) := by decide +kernel
theorem dX9_gives_67 : decode cX9_gives 67 = .ok (.iconst 0, 1) := by decide +kernel
theorem dX9_gives_68 : decode cX9_gives 68 = .ok (.istore 4, 2) := by decide +kernel
theorem dX9_gives_70 : decode cX9_gives 70 = .ok (.iload 4, 2) := by decide +kernel
theorem dX9_gives_72 : decode cX9_gives 72 = .ok (.aload_n 0, 1) := by decide +kernel
theorem dX9_gives_73 : decode cX9_gives 73 = .ok (.getfield 87, 3) := by decide +kernel
theorem dX9_gives_76 : decode cX9_gives 76 = .ok (.if_icmp .ge 65, 3) := by decide +kernel
theorem dX9_gives_79 : decode cX9_gives 79 = .ok (.aload_n 0, 1) := by decide +kernel
theorem dX9_gives_80 : decode cX9_gives 80 = .ok (.getfield 75, 3) := by decide +kernel
theorem dX9_gives_83 : decode cX9_gives 83 = .ok (.iload 4, 2) := by decide +kernel
theorem dX9_gives_85 : decode cX9_gives 85 = .ok (.iload_n 1, 1) := by decide +kernel
theorem dX9_gives_86 : decode cX9_gives 86 = .ok (.aload_n 0, 1) := by decide +kernel
theorem dX9_gives_87 : decode cX9_gives 87 = .ok (.iload 4, 2) := by decide +kernel
theorem dX9_gives_89 : decode cX9_gives 89 = .ok (.aload_n 0, 1) := by decide +kernel
theorem dX9_gives_90 : decode cX9_gives 90 = .ok (.getfield 113, 3) := by decide +kernel
theorem dX9_gives_93 : decode cX9_gives 93 = .ok (.iconst 1, 1) := by decide +kernel
theorem dX9_gives_94 : decode cX9_gives 94 = .ok (.isub, 1) := by decide +kernel
theorem dX9_gives_95 : decode cX9_gives 95 = .ok (.invokevirtual 123, 3) := by decide +kernel
theorem dX9_gives_98 : decode cX9_gives 98 = .ok (.imul, 1) := by decide +kernel
theorem dX9_gives_99 : decode cX9_gives 99 = .ok (.iload_n 2, 1) := by decide +kernel
theorem dX9_gives_100 : decode cX9_gives 100 = .ok (.idiv, 1) := by decide +kernel
theorem dX9_gives_101 : decode cX9_gives 101 = .ok (.iastore, 1) := by decide +kernel
theorem dX9_gives_102 : decode cX9_gives 102 = .ok (.aload_n 0, 1) := by decide +kernel
theorem dX9_gives_103 : decode cX9_gives 103 = .ok (.getfield 78, 3) := by decide +kernel
theorem dX9_gives_106 : decode cX9_gives 106 = .ok (.iload 4, 2) := by decide +kernel
theorem dX9_gives_108 : decode cX9_gives 108 = .ok (.iload_n 1, 1) := by decide +kernel
theorem dX9_gives_109 : decode cX9_gives 109 = .ok (.aload_n 0, 1) := by decide +kernel
theorem dX9_gives_110 : decode cX9_gives 110 = .ok (.iload 4, 2) := by decide +kernel
theorem dX9_gives_112 : decode cX9_gives 112 = .ok (.aload_n 0, 1) := by decide +kernel
theorem dX9_gives_113 : decode cX9_gives 113 = .ok (.getfield 113, 3) := by decide +kernel
theorem dX9_gives_116 : decode cX9_gives 116 = .ok (.iconst 1, 1) := by decide +kernel
theorem dX9_gives_117 : decode cX9_gives 117 = .ok (.isub, 1) := by decide +kernel
theorem dX9_gives_118 : decode cX9_gives 118 = .ok (.invokevirtual 123, 3) := by decide +kernel
theorem dX9_gives_121 : decode cX9_gives 121 = .ok (.imul, 1) := by decide +kernel
theorem dX9_gives_122 : decode cX9_gives 122 = .ok (.iload_n 2, 1) := by decide +kernel
theorem dX9_gives_123 : decode cX9_gives 123 = .ok (.irem, 1) := by decide +kernel
theorem dX9_gives_124 : decode cX9_gives 124 = .ok (.iastore, 1) := by decide +kernel
theorem dX9_gives_125 : decode cX9_gives 125 = .ok (.iload_n 3, 1) := by decide +kernel
theorem dX9_gives_126 : decode cX9_gives 126 = .ok (.aload_n 0, 1) := by decide +kernel
theorem dX9_gives_127 : decode cX9_gives 127 = .ok (.getfield 75, 3) := by decide +kernel
theorem dX9_gives_130 : decode cX9_gives 130 = .ok (.iload 4, 2) := by decide +kernel
theorem dX9_gives_132 : decode cX9_gives 132 = .ok (.iaload, 1) := by decide +kernel
theorem dX9_gives_133 : decode cX9_gives 133 = .ok (.isub, 1) := by decide +kernel
theorem dX9_gives_134 : decode cX9_gives 134 = .ok (.istore_n 3, 1) := by decide +kernel
theorem dX9_gives_135 : decode cX9_gives 135 = .ok (.iinc 4 1, 3) := by decide +kernel
theorem dX9_gives_138 : decode cX9_gives 138 = .ok (.goto (-68), 3) := by decide +kernel
theorem dX9_gives_141 : decode cX9_gives 141 = .ok (.iload_n 3, 1) := by decide +kernel
theorem dX9_gives_142 : decode cX9_gives 142 = .ok (.ifCond .le 70, 3) := by decide +kernel
theorem dX9_gives_145 : decode cX9_gives 145 = .ok (.iconst 0, 1) := by decide +kernel
theorem dX9_gives_146 : decode cX9_gives 146 = .ok (.istore 4, 2) := by decide +kernel
theorem dX9_gives_148 : decode cX9_gives 148 = .ok (.iconst 1, 1) := by decide +kernel
theorem dX9_gives_149 : decode cX9_gives 149 = .ok (.istore 5, 2) := by decide +kernel
theorem dX9_gives_151 : decode cX9_gives 151 = .ok (.iload 5, 2) := by decide +kernel
theorem dX9_gives_153 : decode cX9_gives 153 = .ok (.aload_n 0, 1) := by decide +kernel
theorem dX9_gives_154 : decode cX9_gives 154 = .ok (.getfield 87, 3) := by decide +kernel
theorem dX9_gives_157 : decode cX9_gives 157 = .ok (.if_icmp .ge 30, 3) := by decide +kernel
theorem dX9_gives_160 : decode cX9_gives 160 = .ok (.aload_n 0, 1) := by decide +kernel
theorem dX9_gives_161 : decode cX9_gives 161 = .ok (.getfield 78, 3) := by decide +kernel
theorem dX9_gives_164 : decode cX9_gives 164 = .ok (.iload 5, 2) := by decide +kernel
theorem dX9_gives_166 : decode cX9_gives 166 = .ok (.iaload, 1) := by decide +kernel
theorem dX9_gives_167 : decode cX9_gives 167 = .ok (.aload_n 0, 1) := by decide +kernel
theorem dX9_gives_168 : decode cX9_gives 168 = .ok (.getfield 78, 3) := by decide +kernel
theorem dX9_gives_171 : decode cX9_gives 171 = .ok (.iload 4, 2) := by decide +kernel
theorem dX9_gives_173 : decode cX9_gives 173 = .ok (.iaload, 1) := by decide +kernel
theorem dX9_gives_174 : decode cX9_gives 174 = .ok (.if_icmp .le 7, 3) := by decide +kernel
theorem dX9_gives_177 : decode cX9_gives 177 = .ok (.iload 5, 2) := by decide +kernel
theorem dX9_gives_179 : decode cX9_gives 179 = .ok (.istore 4, 2) := by decide +kernel
theorem dX9_gives_181 : decode cX9_gives 181 = .ok (.iinc 5 1, 3) := by decide +kernel
theorem dX9_gives_184 : decode cX9_gives 184 = .ok (.goto (-33), 3) := by decide +kernel
theorem dX9_gives_187 : decode cX9_gives 187 = .ok (.aload_n 0, 1) := by decide +kernel
theorem dX9_gives_188 : decode cX9_gives 188 = .ok (.getfield 75, 3) := by decide +kernel
theorem dX9_gives_191 : decode cX9_gives 191 = .ok (.iload 4, 2) := by decide +kernel
theorem dX9_gives_193 : decode cX9_gives 193 = .ok (.dup2, 1) := by decide +kernel
theorem dX9_gives_194 : decode cX9_gives 194 = .ok (.iaload, 1) := by decide +kernel
theorem dX9_gives_195 : decode cX9_gives 195 = .ok (.iconst 1, 1) := by decide +kernel
theorem dX9_gives_196 : decode cX9_gives 196 = .ok (.iadd, 1) := by decide +kernel
theorem dX9_gives_197 : decode cX9_gives 197 = .ok (.iastore, 1) := by decide +kernel
theorem dX9_gives_198 : decode cX9_gives 198 = .ok (.aload_n 0, 1) := by decide +kernel
theorem dX9_gives_199 : decode cX9_gives 199 = .ok (.getfield 78, 3) := by decide +kernel
theorem dX9_gives_202 : decode cX9_gives 202 = .ok (.iload 4, 2) := by decide +kernel
theorem dX9_gives_204 : decode cX9_gives 204 = .ok (.iconst (-1), 1) := by decide +kernel
theorem dX9_gives_205 : decode cX9_gives 205 = .ok (.iastore, 1) := by decide +kernel
theorem dX9_gives_206 : decode cX9_gives 206 = .ok (.iinc 3 (-1), 3) := by decide +kernel
theorem dX9_gives_209 : decode cX9_gives 209 = .ok (.goto (-68), 3) := by decide +kernel
theorem dX9_gives_212 : decode cX9_gives 212 = .ok (.return_, 1) := by decide +kernel
set_option maxRecDepth 20000 in
theorem ggX9_issue_X9_capOf : GoodIn wsX9_issue wsX9_capOf := goodIn_r _ [11, 12, 13, 14, 15, 16, 10, 17, 18, 54, 55, 56, 57, 58, 59, 60, 61, 62, 63, 64, 65, 66, 67, 68, 69, 70, 71, 72, 73, 74, 75, 76, 77, 78, 79, 80, 81, 82, 83, 84, 85, 86, 87] (by decide +kernel) (by decide +kernel)
set_option maxRecDepth 20000 in
theorem gX9_issue_X9_capOf : GoodIn wsX9_issue (wsV RX9 102 RX9 yX9_capOf wsX9_capOf) := goodIn_app (goodIn_of _ (by decide +kernel)) ggX9_issue_X9_capOf
set_option maxRecDepth 20000 in
theorem ggX9_issue_X9_partOf : GoodIn wsX9_issue wsX9_partOf := goodIn_r _ [22, 23, 14, 15, 16, 10, 17, 18, 13, 54, 55, 56, 57, 58, 59, 60, 61, 62, 63, 64, 65, 66, 67, 68, 69, 70, 71, 72, 73, 74, 75, 76, 77, 78, 79, 80, 81, 82, 83, 84, 85, 86, 87] (by decide +kernel) (by decide +kernel)
set_option maxRecDepth 20000 in
theorem gX9_issue_X9_partOf : GoodIn wsX9_issue (wsV RX9 105 RX9 yX9_partOf wsX9_partOf) := goodIn_app (goodIn_of _ (by decide +kernel)) ggX9_issue_X9_partOf
set_option maxRecDepth 20000 in
theorem ggX9_issue_X9_gives : GoodIn wsX9_issue wsX9_gives := goodIn_r _ [27, 6, 5, 1, 28, 29, 30, 31, 10, 32, 33, 34, 35, 36, 37, 38, 39, 40, 41, 42, 43, 44, 54, 55, 56, 57, 58, 59, 60, 61, 62, 63, 64, 65, 66, 67, 68, 69, 70, 71, 72, 73, 74, 75, 76, 77, 78, 79, 80, 81, 82, 83, 84, 85, 86, 87] (by decide +kernel) (by decide +kernel)
set_option maxRecDepth 20000 in
theorem gX9_issue_X9_gives : GoodIn wsX9_issue (wsV RX9 126 RX9 yX9_gives wsX9_gives) := goodIn_app (goodIn_of _ (by decide +kernel)) ggX9_issue_X9_gives
set_option maxRecDepth 20000 in
theorem ggX9_issue_X9_comes : GoodIn wsX9_issue wsX9_comes := goodIn_r _ [48, 49, 3, 50, 51, 1, 52, 53, 54, 55, 56, 57, 58, 59, 60, 61, 62, 63, 64, 65, 66, 67, 68, 69, 70, 71, 72, 73, 74, 75, 76, 77, 78, 79, 80, 81, 82, 83, 84, 85, 86, 87] (by decide +kernel) (by decide +kernel)
set_option maxRecDepth 20000 in
theorem gX9_issue_X9_comes : GoodIn wsX9_issue (wsV RX9 130 RX9 yX9_comes wsX9_comes) := goodIn_app (goodIn_of _ (by decide +kernel)) ggX9_issue_X9_comes
theorem dX9_issue_0 : decode cX9_issue 0 = .ok (.aload_n 0, 1) := by decide +kernel
theorem dX9_issue_1 : decode cX9_issue 1 = .ok (.getfield 113, 3) := by decide +kernel
theorem dX9_issue_4 : decode cX9_issue 4 = .ok (.bipush 20, 2) := by decide +kernel
theorem dX9_issue_6 : decode cX9_issue 6 = .ok (.if_icmp .eq 14, 3) := by decide +kernel
theorem dX9_issue_9 : decode cX9_issue 9 = .ok (.aload_n 0, 1) := by decide +kernel
theorem dX9_issue_10 : decode cX9_issue 10 = .ok (.getfield 49, 3) := by decide +kernel
theorem dX9_issue_13 : decode cX9_issue 13 = .ok (.aload_n 0, 1) := by decide +kernel
theorem dX9_issue_14 : decode cX9_issue 14 = .ok (.getfield 113, 3) := by decide +kernel
theorem dX9_issue_17 : decode cX9_issue 17 = .ok (.if_icmp .ne 5, 3) := by decide +kernel
theorem dX9_issue_20 : decode cX9_issue 20 = .ok (.iconst (-1), 1) := by decide +kernel
theorem dX9_issue_21 : decode cX9_issue 21 = .ok (.ireturn, 1) := by decide +kernel
theorem dX9_issue_22 : decode cX9_issue 22 = .ok (.aload_n 0, 1) := by decide +kernel
theorem dX9_issue_23 : decode cX9_issue 23 = .ok (.aload_n 0, 1) := by decide +kernel
theorem dX9_issue_24 : decode cX9_issue 24 = .ok (.getfield 113, 3) := by decide +kernel
theorem dX9_issue_27 : decode cX9_issue 27 = .ok (.invokevirtual 102, 3) := by decide +kernel
theorem dX9_issue_30 : decode cX9_issue 30 = .ok (.istore_n 1, 1) := by decide +kernel
theorem dX9_issue_31 : decode cX9_issue 31 = .ok (.aload_n 0, 1) := by decide +kernel
theorem dX9_issue_32 : decode cX9_issue 32 = .ok (.getfield 120, 3) := by decide +kernel
theorem dX9_issue_35 : decode cX9_issue 35 = .ok (.iload_n 1, 1) := by decide +kernel
theorem dX9_issue_36 : decode cX9_issue 36 = .ok (.iadd, 1) := by decide +kernel
theorem dX9_issue_37 : decode cX9_issue 37 = .ok (.sipush 4000, 3) := by decide +kernel
theorem dX9_issue_40 : decode cX9_issue 40 = .ok (.if_icmp .le 5, 3) := by decide +kernel
theorem dX9_issue_43 : decode cX9_issue 43 = .ok (.iconst (-1), 1) := by decide +kernel
theorem dX9_issue_44 : decode cX9_issue 44 = .ok (.ireturn, 1) := by decide +kernel
theorem dX9_issue_45 : decode cX9_issue 45 = .ok (.aload_n 0, 1) := by decide +kernel
theorem dX9_issue_46 : decode cX9_issue 46 = .ok (.iload_n 1, 1) := by decide +kernel
theorem dX9_issue_47 : decode cX9_issue 47 = .ok (.aload_n 0, 1) := by decide +kernel
theorem dX9_issue_48 : decode cX9_issue 48 = .ok (.aload_n 0, 1) := by decide +kernel
theorem dX9_issue_49 : decode cX9_issue 49 = .ok (.getfield 113, 3) := by decide +kernel
theorem dX9_issue_52 : decode cX9_issue 52 = .ok (.ldc 94, 2) := by decide +kernel
theorem dX9_issue_54 : decode cX9_issue 54 = .ok (.sipush 1000, 3) := by decide +kernel
theorem dX9_issue_57 : decode cX9_issue 57 = .ok (.invokevirtual 105, 3) := by decide +kernel
theorem dX9_issue_60 : decode cX9_issue 60 = .ok (.imul, 1) := by decide +kernel
theorem dX9_issue_61 : decode cX9_issue 61 = .ok (.bipush 100, 2) := by decide +kernel
theorem dX9_issue_63 : decode cX9_issue 63 = .ok (.idiv, 1) := by decide +kernel
theorem dX9_issue_64 : decode cX9_issue 64 = .ok (.invokevirtual 126, 3) := by decide +kernel
theorem dX9_issue_67 : decode cX9_issue 67 = .ok (.iload_n 1, 1) := by decide +kernel
theorem dX9_issue_68 : decode cX9_issue 68 = .ok (.istore_n 2, 1) := by decide +kernel
theorem dX9_issue_69 : decode cX9_issue 69 = .ok (.iconst 0, 1) := by decide +kernel
theorem dX9_issue_70 : decode cX9_issue 70 = .ok (.istore_n 3, 1) := by decide +kernel
theorem dX9_issue_71 : decode cX9_issue 71 = .ok (.iload_n 3, 1) := by decide +kernel
theorem dX9_issue_72 : decode cX9_issue 72 = .ok (.aload_n 0, 1) := by decide +kernel
theorem dX9_issue_73 : decode cX9_issue 73 = .ok (.getfield 87, 3) := by decide +kernel
theorem dX9_issue_76 : decode cX9_issue 76 = .ok (.if_icmp .ge 44, 3) := by decide +kernel
theorem dX9_issue_79 : decode cX9_issue 79 = .ok (.iconst 0, 1) := by decide +kernel
theorem dX9_issue_80 : decode cX9_issue 80 = .ok (.istore 4, 2) := by decide +kernel
theorem dX9_issue_82 : decode cX9_issue 82 = .ok (.iload 4, 2) := by decide +kernel
theorem dX9_issue_84 : decode cX9_issue 84 = .ok (.aload_n 0, 1) := by decide +kernel
theorem dX9_issue_85 : decode cX9_issue 85 = .ok (.getfield 75, 3) := by decide +kernel
theorem dX9_issue_88 : decode cX9_issue 88 = .ok (.iload_n 3, 1) := by decide +kernel
theorem dX9_issue_89 : decode cX9_issue 89 = .ok (.iaload, 1) := by decide +kernel
theorem dX9_issue_90 : decode cX9_issue 90 = .ok (.if_icmp .ge 15, 3) := by decide +kernel
theorem dX9_issue_93 : decode cX9_issue 93 = .ok (.aload_n 0, 1) := by decide +kernel
theorem dX9_issue_94 : decode cX9_issue 94 = .ok (.iload_n 3, 1) := by decide +kernel
theorem dX9_issue_95 : decode cX9_issue 95 = .ok (.iconst (-1), 1) := by decide +kernel
theorem dX9_issue_96 : decode cX9_issue 96 = .ok (.invokevirtual 130, 3) := by decide +kernel
theorem dX9_issue_99 : decode cX9_issue 99 = .ok (.iinc 4 1, 3) := by decide +kernel
theorem dX9_issue_102 : decode cX9_issue 102 = .ok (.goto (-20), 3) := by decide +kernel
theorem dX9_issue_105 : decode cX9_issue 105 = .ok (.iload_n 2, 1) := by decide +kernel
theorem dX9_issue_106 : decode cX9_issue 106 = .ok (.aload_n 0, 1) := by decide +kernel
theorem dX9_issue_107 : decode cX9_issue 107 = .ok (.getfield 75, 3) := by decide +kernel
theorem dX9_issue_110 : decode cX9_issue 110 = .ok (.iload_n 3, 1) := by decide +kernel
theorem dX9_issue_111 : decode cX9_issue 111 = .ok (.iaload, 1) := by decide +kernel
theorem dX9_issue_112 : decode cX9_issue 112 = .ok (.isub, 1) := by decide +kernel
theorem dX9_issue_113 : decode cX9_issue 113 = .ok (.istore_n 2, 1) := by decide +kernel
theorem dX9_issue_114 : decode cX9_issue 114 = .ok (.iinc 3 1, 3) := by decide +kernel
theorem dX9_issue_117 : decode cX9_issue 117 = .ok (.goto (-46), 3) := by decide +kernel
theorem dX9_issue_120 : decode cX9_issue 120 = .ok (.iconst 0, 1) := by decide +kernel
theorem dX9_issue_121 : decode cX9_issue 121 = .ok (.istore_n 3, 1) := by decide +kernel
theorem dX9_issue_122 : decode cX9_issue 122 = .ok (.iload_n 3, 1) := by decide +kernel
theorem dX9_issue_123 : decode cX9_issue 123 = .ok (.iload_n 2, 1) := by decide +kernel
theorem dX9_issue_124 : decode cX9_issue 124 = .ok (.if_icmp .ge 15, 3) := by decide +kernel
theorem dX9_issue_127 : decode cX9_issue 127 = .ok (.aload_n 0, 1) := by decide +kernel
theorem dX9_issue_128 : decode cX9_issue 128 = .ok (.iconst (-1), 1) := by decide +kernel
theorem dX9_issue_129 : decode cX9_issue 129 = .ok (.iconst (-1), 1) := by decide +kernel
theorem dX9_issue_130 : decode cX9_issue 130 = .ok (.invokevirtual 130, 3) := by decide +kernel
theorem dX9_issue_133 : decode cX9_issue 133 = .ok (.iinc 3 1, 3) := by decide +kernel
theorem dX9_issue_136 : decode cX9_issue 136 = .ok (.goto (-14), 3) := by decide +kernel
theorem dX9_issue_139 : decode cX9_issue 139 = .ok (.aload_n 0, 1) := by decide +kernel
theorem dX9_issue_140 : decode cX9_issue 140 = .ok (.aload_n 0, 1) := by decide +kernel
theorem dX9_issue_141 : decode cX9_issue 141 = .ok (.getfield 113, 3) := by decide +kernel
theorem dX9_issue_144 : decode cX9_issue 144 = .ok (.putfield 49, 3) := by decide +kernel
theorem dX9_issue_147 : decode cX9_issue 147 = .ok (.iload_n 1, 1) := by decide +kernel
theorem dX9_issue_148 : decode cX9_issue 148 = .ok (.ireturn, 1) := by decide +kernel
theorem dX9_holds_0 : decode cX9_holds 0 = .ok (.iconst 0, 1) := by decide +kernel
theorem dX9_holds_1 : decode cX9_holds 1 = .ok (.istore_n 2, 1) := by decide +kernel
theorem dX9_holds_2 : decode cX9_holds 2 = .ok (.iconst 0, 1) := by decide +kernel
theorem dX9_holds_3 : decode cX9_holds 3 = .ok (.istore_n 3, 1) := by decide +kernel
theorem dX9_holds_4 : decode cX9_holds 4 = .ok (.iload_n 3, 1) := by decide +kernel
theorem dX9_holds_5 : decode cX9_holds 5 = .ok (.aload_n 0, 1) := by decide +kernel
theorem dX9_holds_6 : decode cX9_holds 6 = .ok (.getfield 120, 3) := by decide +kernel
theorem dX9_holds_9 : decode cX9_holds 9 = .ok (.if_icmp .ge 36, 3) := by decide +kernel
theorem dX9_holds_12 : decode cX9_holds 12 = .ok (.iload_n 2, 1) := by decide +kernel
theorem dX9_holds_13 : decode cX9_holds 13 = .ok (.aload_n 0, 1) := by decide +kernel
theorem dX9_holds_14 : decode cX9_holds 14 = .ok (.getfield 31, 3) := by decide +kernel
theorem dX9_holds_17 : decode cX9_holds 17 = .ok (.iload_n 3, 1) := by decide +kernel
theorem dX9_holds_18 : decode cX9_holds 18 = .ok (.iaload, 1) := by decide +kernel
theorem dX9_holds_19 : decode cX9_holds 19 = .ok (.ifCond .ne 17, 3) := by decide +kernel
theorem dX9_holds_22 : decode cX9_holds 22 = .ok (.aload_n 0, 1) := by decide +kernel
theorem dX9_holds_23 : decode cX9_holds 23 = .ok (.getfield 34, 3) := by decide +kernel
theorem dX9_holds_26 : decode cX9_holds 26 = .ok (.iload_n 3, 1) := by decide +kernel
theorem dX9_holds_27 : decode cX9_holds 27 = .ok (.iaload, 1) := by decide +kernel
theorem dX9_holds_28 : decode cX9_holds 28 = .ok (.iload_n 1, 1) := by decide +kernel
theorem dX9_holds_29 : decode cX9_holds 29 = .ok (.if_icmp .ne 7, 3) := by decide +kernel
theorem dX9_holds_32 : decode cX9_holds 32 = .ok (.iconst 1, 1) := by decide +kernel
theorem dX9_holds_33 : decode cX9_holds 33 = .ok (.goto 4, 3) := by decide +kernel
theorem dX9_holds_36 : decode cX9_holds 36 = .ok (.iconst 0, 1) := by decide +kernel
theorem dX9_holds_37 : decode cX9_holds 37 = .ok (.iadd, 1) := by decide +kernel
theorem dX9_holds_38 : decode cX9_holds 38 = .ok (.istore_n 2, 1) := by decide +kernel
theorem dX9_holds_39 : decode cX9_holds 39 = .ok (.iinc 3 1, 3) := by decide +kernel
theorem dX9_holds_42 : decode cX9_holds 42 = .ok (.goto (-38), 3) := by decide +kernel
theorem dX9_holds_45 : decode cX9_holds 45 = .ok (.iload_n 2, 1) := by decide +kernel
theorem dX9_holds_46 : decode cX9_holds 46 = .ok (.ireturn, 1) := by decide +kernel
theorem dX9_goes_0 : decode cX9_goes 0 = .ok (.iload_n 3, 1) := by decide +kernel
theorem dX9_goes_1 : decode cX9_goes 1 = .ok (.istore 4, 2) := by decide +kernel
theorem dX9_goes_3 : decode cX9_goes 3 = .ok (.iconst 0, 1) := by decide +kernel
theorem dX9_goes_4 : decode cX9_goes 4 = .ok (.istore 5, 2) := by decide +kernel
theorem dX9_goes_6 : decode cX9_goes 6 = .ok (.iload 5, 2) := by decide +kernel
theorem dX9_goes_8 : decode cX9_goes 8 = .ok (.aload_n 0, 1) := by decide +kernel
theorem dX9_goes_9 : decode cX9_goes 9 = .ok (.getfield 120, 3) := by decide +kernel
theorem dX9_goes_12 : decode cX9_goes 12 = .ok (.if_icmp .ge 60, 3) := by decide +kernel
theorem dX9_goes_15 : decode cX9_goes 15 = .ok (.iload 4, 2) := by decide +kernel
theorem dX9_goes_17 : decode cX9_goes 17 = .ok (.ifCond .le 55, 3) := by decide +kernel
theorem dX9_goes_20 : decode cX9_goes 20 = .ok (.aload_n 0, 1) := by decide +kernel
theorem dX9_goes_21 : decode cX9_goes 21 = .ok (.getfield 31, 3) := by decide +kernel
theorem dX9_goes_24 : decode cX9_goes 24 = .ok (.iload 5, 2) := by decide +kernel
theorem dX9_goes_26 : decode cX9_goes 26 = .ok (.iaload, 1) := by decide +kernel
theorem dX9_goes_27 : decode cX9_goes 27 = .ok (.ifCond .ne 39, 3) := by decide +kernel
theorem dX9_goes_30 : decode cX9_goes 30 = .ok (.aload_n 0, 1) := by decide +kernel
theorem dX9_goes_31 : decode cX9_goes 31 = .ok (.getfield 34, 3) := by decide +kernel
theorem dX9_goes_34 : decode cX9_goes 34 = .ok (.iload 5, 2) := by decide +kernel
theorem dX9_goes_36 : decode cX9_goes 36 = .ok (.iaload, 1) := by decide +kernel
theorem dX9_goes_37 : decode cX9_goes 37 = .ok (.iload_n 1, 1) := by decide +kernel
theorem dX9_goes_38 : decode cX9_goes 38 = .ok (.if_icmp .eq 6, 3) := by decide +kernel
theorem dX9_goes_41 : decode cX9_goes 41 = .ok (.goto 25, 3) := by decide +kernel
theorem dX9_goes_44 : decode cX9_goes 44 = .ok (.aload_n 0, 1) := by decide +kernel
theorem dX9_goes_45 : decode cX9_goes 45 = .ok (.getfield 34, 3) := by decide +kernel
theorem dX9_goes_48 : decode cX9_goes 48 = .ok (.iload 5, 2) := by decide +kernel
theorem dX9_goes_50 : decode cX9_goes 50 = .ok (.iload_n 2, 1) := by decide +kernel
theorem dX9_goes_51 : decode cX9_goes 51 = .ok (.iastore, 1) := by decide +kernel
theorem dX9_goes_52 : decode cX9_goes 52 = .ok (.aload_n 0, 1) := by decide +kernel
theorem dX9_goes_53 : decode cX9_goes 53 = .ok (.getfield 46, 3) := by decide +kernel
theorem dX9_goes_56 : decode cX9_goes 56 = .ok (.iload 5, 2) := by decide +kernel
theorem dX9_goes_58 : decode cX9_goes 58 = .ok (.dup2, 1) := by decide +kernel
theorem dX9_goes_59 : decode cX9_goes 59 = .ok (.iaload, 1) := by decide +kernel
theorem dX9_goes_60 : decode cX9_goes 60 = .ok (.iconst 1, 1) := by decide +kernel
theorem dX9_goes_61 : decode cX9_goes 61 = .ok (.iadd, 1) := by decide +kernel
theorem dX9_goes_62 : decode cX9_goes 62 = .ok (.iastore, 1) := by decide +kernel
theorem dX9_goes_63 : decode cX9_goes 63 = .ok (.iinc 4 (-1), 3) := by decide +kernel
theorem dX9_goes_66 : decode cX9_goes 66 = .ok (.iinc 5 1, 3) := by decide +kernel
theorem dX9_goes_69 : decode cX9_goes 69 = .ok (.goto (-63), 3) := by decide +kernel
theorem dX9_goes_72 : decode cX9_goes 72 = .ok (.return_, 1) := by decide +kernel
theorem dX9_ends_0 : decode cX9_ends 0 = .ok (.iload_n 2, 1) := by decide +kernel
theorem dX9_ends_1 : decode cX9_ends 1 = .ok (.istore 4, 2) := by decide +kernel
theorem dX9_ends_3 : decode cX9_ends 3 = .ok (.iconst 0, 1) := by decide +kernel
theorem dX9_ends_4 : decode cX9_ends 4 = .ok (.istore 5, 2) := by decide +kernel
theorem dX9_ends_6 : decode cX9_ends 6 = .ok (.iload 5, 2) := by decide +kernel
theorem dX9_ends_8 : decode cX9_ends 8 = .ok (.aload_n 0, 1) := by decide +kernel
theorem dX9_ends_9 : decode cX9_ends 9 = .ok (.getfield 120, 3) := by decide +kernel
theorem dX9_ends_12 : decode cX9_ends 12 = .ok (.if_icmp .ge 65, 3) := by decide +kernel
theorem dX9_ends_15 : decode cX9_ends 15 = .ok (.iload 4, 2) := by decide +kernel
theorem dX9_ends_17 : decode cX9_ends 17 = .ok (.ifCond .le 60, 3) := by decide +kernel
theorem dX9_ends_20 : decode cX9_ends 20 = .ok (.aload_n 0, 1) := by decide +kernel
theorem dX9_ends_21 : decode cX9_ends 21 = .ok (.getfield 31, 3) := by decide +kernel
theorem dX9_ends_24 : decode cX9_ends 24 = .ok (.iload 5, 2) := by decide +kernel
theorem dX9_ends_26 : decode cX9_ends 26 = .ok (.iaload, 1) := by decide +kernel
theorem dX9_ends_27 : decode cX9_ends 27 = .ok (.ifCond .ne 44, 3) := by decide +kernel
theorem dX9_ends_30 : decode cX9_ends 30 = .ok (.aload_n 0, 1) := by decide +kernel
theorem dX9_ends_31 : decode cX9_ends 31 = .ok (.getfield 34, 3) := by decide +kernel
theorem dX9_ends_34 : decode cX9_ends 34 = .ok (.iload 5, 2) := by decide +kernel
theorem dX9_ends_36 : decode cX9_ends 36 = .ok (.iaload, 1) := by decide +kernel
theorem dX9_ends_37 : decode cX9_ends 37 = .ok (.iload_n 1, 1) := by decide +kernel
theorem dX9_ends_38 : decode cX9_ends 38 = .ok (.if_icmp .eq 6, 3) := by decide +kernel
theorem dX9_ends_41 : decode cX9_ends 41 = .ok (.goto 30, 3) := by decide +kernel
theorem dX9_ends_44 : decode cX9_ends 44 = .ok (.aload_n 0, 1) := by decide +kernel
theorem dX9_ends_45 : decode cX9_ends 45 = .ok (.getfield 31, 3) := by decide +kernel
theorem dX9_ends_48 : decode cX9_ends 48 = .ok (.iload 5, 2) := by decide +kernel
theorem dX9_ends_50 : decode cX9_ends 50 = .ok (.iload_n 3, 1) := by decide +kernel
theorem dX9_ends_51 : decode cX9_ends 51 = .ok (.iastore, 1) := by decide +kernel
theorem dX9_ends_52 : decode cX9_ends 52 = .ok (.iload_n 3, 1) := by decide +kernel
theorem dX9_ends_53 : decode cX9_ends 53 = .ok (.iconst 1, 1) := by decide +kernel
theorem dX9_ends_54 : decode cX9_ends 54 = .ok (.if_icmp .ne 14, 3) := by decide +kernel
theorem dX9_ends_57 : decode cX9_ends 57 = .ok (.aload_n 0, 1) := by decide +kernel
theorem dX9_ends_58 : decode cX9_ends 58 = .ok (.getfield 40, 3) := by decide +kernel
theorem dX9_ends_61 : decode cX9_ends 61 = .ok (.iload 5, 2) := by decide +kernel
theorem dX9_ends_63 : decode cX9_ends 63 = .ok (.aload_n 0, 1) := by decide +kernel
theorem dX9_ends_64 : decode cX9_ends 64 = .ok (.getfield 113, 3) := by decide +kernel
theorem dX9_ends_67 : decode cX9_ends 67 = .ok (.iastore, 1) := by decide +kernel
theorem dX9_ends_68 : decode cX9_ends 68 = .ok (.iinc 4 (-1), 3) := by decide +kernel
theorem dX9_ends_71 : decode cX9_ends 71 = .ok (.iinc 5 1, 3) := by decide +kernel
theorem dX9_ends_74 : decode cX9_ends 74 = .ok (.goto (-68), 3) := by decide +kernel
theorem dX9_ends_77 : decode cX9_ends 77 = .ok (.return_, 1) := by decide +kernel
set_option maxRecDepth 20000 in
theorem ggX9_bid_X9_isWorks : GoodIn wsX9_bid wsX9_isWorks := goodIn_r _ [9, 10, 11, 12, 8, 13, 14, 15, 16, 17, 18, 19, 20, 21, 22, 23, 24, 25, 26, 27, 28, 29, 30, 31, 32, 33, 34, 35, 36, 37, 38, 39, 40, 41, 42, 43, 44, 45, 46, 47] (by decide +kernel) (by decide +kernel)
set_option maxRecDepth 20000 in
theorem gX9_bid_X9_isWorks : GoodIn wsX9_bid (wsV RX9 109 RX9 yX9_isWorks wsX9_isWorks) := goodIn_app (goodIn_of _ (by decide +kernel)) ggX9_bid_X9_isWorks
set_option maxRecDepth 20000 in
theorem ggX9_bid_X9_in : GoodIn wsX9_bid wsX9_in := goodIn_r _ [13] (by decide +kernel) (by decide +kernel)
set_option maxRecDepth 20000 in
theorem gX9_bid_X9_in : GoodIn wsX9_bid (va_wsS RX9 90 yX9_in wsX9_in) := goodIn_app (goodIn_of _ (by decide +kernel)) ggX9_bid_X9_in
theorem dX9_bid_0 : decode cX9_bid 0 = .ok (.aload_n 0, 1) := by decide +kernel
theorem dX9_bid_1 : decode cX9_bid 1 = .ok (.iload_n 1, 1) := by decide +kernel
theorem dX9_bid_2 : decode cX9_bid 2 = .ok (.invokevirtual 109, 3) := by decide +kernel
theorem dX9_bid_5 : decode cX9_bid 5 = .ok (.ifCond .eq 34, 3) := by decide +kernel
theorem dX9_bid_8 : decode cX9_bid 8 = .ok (.iload_n 2, 1) := by decide +kernel
theorem dX9_bid_9 : decode cX9_bid 9 = .ok (.iconst 1, 1) := by decide +kernel
theorem dX9_bid_10 : decode cX9_bid 10 = .ok (.sipush 400, 3) := by decide +kernel
theorem dX9_bid_13 : decode cX9_bid 13 = .ok (.invokestatic 90, 3) := by decide +kernel
theorem dX9_bid_16 : decode cX9_bid 16 = .ok (.ifCond .eq 23, 3) := by decide +kernel
theorem dX9_bid_19 : decode cX9_bid 19 = .ok (.iload_n 3, 1) := by decide +kernel
theorem dX9_bid_20 : decode cX9_bid 20 = .ok (.iconst 0, 1) := by decide +kernel
theorem dX9_bid_21 : decode cX9_bid 21 = .ok (.sipush 999, 3) := by decide +kernel
theorem dX9_bid_24 : decode cX9_bid 24 = .ok (.invokestatic 90, 3) := by decide +kernel
theorem dX9_bid_27 : decode cX9_bid 27 = .ok (.ifCond .eq 12, 3) := by decide +kernel
theorem dX9_bid_30 : decode cX9_bid 30 = .ok (.aload_n 0, 1) := by decide +kernel
theorem dX9_bid_31 : decode cX9_bid 31 = .ok (.getfield 134, 3) := by decide +kernel
theorem dX9_bid_34 : decode cX9_bid 34 = .ok (.bipush 40, 2) := by decide +kernel
theorem dX9_bid_36 : decode cX9_bid 36 = .ok (.if_icmp .ne 5, 3) := by decide +kernel
theorem dX9_bid_39 : decode cX9_bid 39 = .ok (.iconst (-1), 1) := by decide +kernel
theorem dX9_bid_40 : decode cX9_bid 40 = .ok (.ireturn, 1) := by decide +kernel
theorem dX9_bid_41 : decode cX9_bid 41 = .ok (.aload_n 0, 1) := by decide +kernel
theorem dX9_bid_42 : decode cX9_bid 42 = .ok (.getfield 53, 3) := by decide +kernel
theorem dX9_bid_45 : decode cX9_bid 45 = .ok (.aload_n 0, 1) := by decide +kernel
theorem dX9_bid_46 : decode cX9_bid 46 = .ok (.getfield 134, 3) := by decide +kernel
theorem dX9_bid_49 : decode cX9_bid 49 = .ok (.iload_n 1, 1) := by decide +kernel
theorem dX9_bid_50 : decode cX9_bid 50 = .ok (.iastore, 1) := by decide +kernel
theorem dX9_bid_51 : decode cX9_bid 51 = .ok (.aload_n 0, 1) := by decide +kernel
theorem dX9_bid_52 : decode cX9_bid 52 = .ok (.getfield 56, 3) := by decide +kernel
theorem dX9_bid_55 : decode cX9_bid 55 = .ok (.aload_n 0, 1) := by decide +kernel
theorem dX9_bid_56 : decode cX9_bid 56 = .ok (.getfield 134, 3) := by decide +kernel
theorem dX9_bid_59 : decode cX9_bid 59 = .ok (.iload_n 2, 1) := by decide +kernel
theorem dX9_bid_60 : decode cX9_bid 60 = .ok (.iastore, 1) := by decide +kernel
theorem dX9_bid_61 : decode cX9_bid 61 = .ok (.aload_n 0, 1) := by decide +kernel
theorem dX9_bid_62 : decode cX9_bid 62 = .ok (.getfield 59, 3) := by decide +kernel
theorem dX9_bid_65 : decode cX9_bid 65 = .ok (.aload_n 0, 1) := by decide +kernel
theorem dX9_bid_66 : decode cX9_bid 66 = .ok (.getfield 134, 3) := by decide +kernel
theorem dX9_bid_69 : decode cX9_bid 69 = .ok (.iload_n 3, 1) := by decide +kernel
theorem dX9_bid_70 : decode cX9_bid 70 = .ok (.iastore, 1) := by decide +kernel
theorem dX9_bid_71 : decode cX9_bid 71 = .ok (.aload_n 0, 1) := by decide +kernel
theorem dX9_bid_72 : decode cX9_bid 72 = .ok (.dup, 1) := by decide +kernel
theorem dX9_bid_73 : decode cX9_bid 73 = .ok (.getfield 134, 3) := by decide +kernel
theorem dX9_bid_76 : decode cX9_bid 76 = .ok (.iconst 1, 1) := by decide +kernel
theorem dX9_bid_77 : decode cX9_bid 77 = .ok (.iadd, 1) := by decide +kernel
theorem dX9_bid_78 : decode cX9_bid 78 = .ok (.putfield 134, 3) := by decide +kernel
theorem dX9_bid_81 : decode cX9_bid 81 = .ok (.aload_n 0, 1) := by decide +kernel
theorem dX9_bid_82 : decode cX9_bid 82 = .ok (.getfield 134, 3) := by decide +kernel
theorem dX9_bid_85 : decode cX9_bid 85 = .ok (.ireturn, 1) := by decide +kernel
set_option maxRecDepth 20000 in
theorem ggX9_auction_X9_holds : GoodIn wsX9_auction wsX9_holds := goodIn_r _ [13, 14, 15, 16, 33, 34, 35, 36, 37, 38, 39, 40, 41, 42, 43, 44, 45, 46, 47, 48, 49, 50, 51, 52, 53, 54, 55, 56, 57, 58, 59, 60, 61, 62, 63, 64, 65, 66] (by decide +kernel) (by decide +kernel)
set_option maxRecDepth 20000 in
theorem gX9_auction_X9_holds : GoodIn wsX9_auction (wsV RX9 137 RX9 yX9_holds wsX9_holds) := goodIn_app (goodIn_of _ (by decide +kernel)) ggX9_auction_X9_holds
set_option maxRecDepth 20000 in
theorem ggX9_auction_X9_partOf : GoodIn wsX9_auction wsX9_partOf := goodIn_r _ [20, 21, 22, 23, 24, 12, 25, 26, 27, 33, 34, 35, 36, 37, 38, 39, 40, 41, 42, 43, 44, 45, 46, 47, 48, 49, 50, 51, 52, 53, 54, 55, 56, 57, 58, 59, 60, 61, 62, 63, 64, 65, 66] (by decide +kernel) (by decide +kernel)
set_option maxRecDepth 20000 in
theorem gX9_auction_X9_partOf : GoodIn wsX9_auction (wsV RX9 105 RX9 yX9_partOf wsX9_partOf) := goodIn_app (goodIn_of _ (by decide +kernel)) ggX9_auction_X9_partOf
set_option maxRecDepth 20000 in
theorem ggX9_auction_X9_goes : GoodIn wsX9_auction wsX9_goes := goodIn_r _ [31, 14, 15, 16, 32, 33, 34, 35, 36, 37, 38, 39, 40, 41, 42, 43, 44, 45, 46, 47, 48, 49, 50, 51, 52, 53, 54, 55, 56, 57, 58, 59, 60, 61, 62, 63, 64, 65, 66] (by decide +kernel) (by decide +kernel)
set_option maxRecDepth 20000 in
theorem gX9_auction_X9_goes : GoodIn wsX9_auction (wsV RX9 140 RX9 yX9_goes wsX9_goes) := goodIn_app (goodIn_of _ (by decide +kernel)) ggX9_auction_X9_goes
theorem dX9_auction_0 : decode cX9_auction 0 = .ok (.aload_n 0, 1) := by decide +kernel
theorem dX9_auction_1 : decode cX9_auction 1 = .ok (.iconst (-1), 1) := by decide +kernel
theorem dX9_auction_2 : decode cX9_auction 2 = .ok (.invokevirtual 137, 3) := by decide +kernel
theorem dX9_auction_5 : decode cX9_auction 5 = .ok (.istore_n 1, 1) := by decide +kernel
theorem dX9_auction_6 : decode cX9_auction 6 = .ok (.iload_n 1, 1) := by decide +kernel
theorem dX9_auction_7 : decode cX9_auction 7 = .ok (.ifCond .ne 5, 3) := by decide +kernel
theorem dX9_auction_10 : decode cX9_auction 10 = .ok (.iconst (-1), 1) := by decide +kernel
theorem dX9_auction_11 : decode cX9_auction 11 = .ok (.ireturn, 1) := by decide +kernel
theorem dX9_auction_12 : decode cX9_auction 12 = .ok (.aload_n 0, 1) := by decide +kernel
theorem dX9_auction_13 : decode cX9_auction 13 = .ok (.aload_n 0, 1) := by decide +kernel
theorem dX9_auction_14 : decode cX9_auction 14 = .ok (.getfield 113, 3) := by decide +kernel
theorem dX9_auction_17 : decode cX9_auction 17 = .ok (.iconst 1, 1) := by decide +kernel
theorem dX9_auction_18 : decode cX9_auction 18 = .ok (.bipush 100, 2) := by decide +kernel
theorem dX9_auction_20 : decode cX9_auction 20 = .ok (.invokevirtual 105, 3) := by decide +kernel
theorem dX9_auction_23 : decode cX9_auction 23 = .ok (.istore_n 2, 1) := by decide +kernel
theorem dX9_auction_24 : decode cX9_auction 24 = .ok (.iload_n 2, 1) := by decide +kernel
theorem dX9_auction_25 : decode cX9_auction 25 = .ok (.istore_n 3, 1) := by decide +kernel
theorem dX9_auction_26 : decode cX9_auction 26 = .ok (.iconst 0, 1) := by decide +kernel
theorem dX9_auction_27 : decode cX9_auction 27 = .ok (.istore 4, 2) := by decide +kernel
theorem dX9_auction_29 : decode cX9_auction 29 = .ok (.iload 4, 2) := by decide +kernel
theorem dX9_auction_31 : decode cX9_auction 31 = .ok (.aload_n 0, 1) := by decide +kernel
theorem dX9_auction_32 : decode cX9_auction 32 = .ok (.getfield 134, 3) := by decide +kernel
theorem dX9_auction_35 : decode cX9_auction 35 = .ok (.if_icmp .ge 17, 3) := by decide +kernel
theorem dX9_auction_38 : decode cX9_auction 38 = .ok (.aload_n 0, 1) := by decide +kernel
theorem dX9_auction_39 : decode cX9_auction 39 = .ok (.getfield 81, 3) := by decide +kernel
theorem dX9_auction_42 : decode cX9_auction 42 = .ok (.iload 4, 2) := by decide +kernel
theorem dX9_auction_44 : decode cX9_auction 44 = .ok (.iconst 0, 1) := by decide +kernel
theorem dX9_auction_45 : decode cX9_auction 45 = .ok (.iastore, 1) := by decide +kernel
theorem dX9_auction_46 : decode cX9_auction 46 = .ok (.iinc 4 1, 3) := by decide +kernel
theorem dX9_auction_49 : decode cX9_auction 49 = .ok (.goto (-20), 3) := by decide +kernel
theorem dX9_auction_52 : decode cX9_auction 52 = .ok (.sipush 999, 3) := by decide +kernel
theorem dX9_auction_55 : decode cX9_auction 55 = .ok (.istore 4, 2) := by decide +kernel
theorem dX9_auction_57 : decode cX9_auction 57 = .ok (.iload 4, 2) := by decide +kernel
theorem dX9_auction_59 : decode cX9_auction 59 = .ok (.iload_n 2, 1) := by decide +kernel
theorem dX9_auction_60 : decode cX9_auction 60 = .ok (.if_icmp .lt 111, 3) := by decide +kernel
theorem dX9_auction_63 : decode cX9_auction 63 = .ok (.iconst 0, 1) := by decide +kernel
theorem dX9_auction_64 : decode cX9_auction 64 = .ok (.istore 5, 2) := by decide +kernel
theorem dX9_auction_66 : decode cX9_auction 66 = .ok (.iload 5, 2) := by decide +kernel
theorem dX9_auction_68 : decode cX9_auction 68 = .ok (.aload_n 0, 1) := by decide +kernel
theorem dX9_auction_69 : decode cX9_auction 69 = .ok (.getfield 134, 3) := by decide +kernel
theorem dX9_auction_72 : decode cX9_auction 72 = .ok (.if_icmp .ge 93, 3) := by decide +kernel
theorem dX9_auction_75 : decode cX9_auction 75 = .ok (.aload_n 0, 1) := by decide +kernel
theorem dX9_auction_76 : decode cX9_auction 76 = .ok (.getfield 59, 3) := by decide +kernel
theorem dX9_auction_79 : decode cX9_auction 79 = .ok (.iload 5, 2) := by decide +kernel
theorem dX9_auction_81 : decode cX9_auction 81 = .ok (.iaload, 1) := by decide +kernel
theorem dX9_auction_82 : decode cX9_auction 82 = .ok (.iload 4, 2) := by decide +kernel
theorem dX9_auction_84 : decode cX9_auction 84 = .ok (.if_icmp .ne 75, 3) := by decide +kernel
theorem dX9_auction_87 : decode cX9_auction 87 = .ok (.iload_n 1, 1) := by decide +kernel
theorem dX9_auction_88 : decode cX9_auction 88 = .ok (.ifCond .ne 6, 3) := by decide +kernel
theorem dX9_auction_91 : decode cX9_auction 91 = .ok (.goto 68, 3) := by decide +kernel
theorem dX9_auction_94 : decode cX9_auction 94 = .ok (.aload_n 0, 1) := by decide +kernel
theorem dX9_auction_95 : decode cX9_auction 95 = .ok (.getfield 81, 3) := by decide +kernel
theorem dX9_auction_98 : decode cX9_auction 98 = .ok (.iload 5, 2) := by decide +kernel
theorem dX9_auction_100 : decode cX9_auction 100 = .ok (.aload_n 0, 1) := by decide +kernel
theorem dX9_auction_101 : decode cX9_auction 101 = .ok (.getfield 56, 3) := by decide +kernel
theorem dX9_auction_104 : decode cX9_auction 104 = .ok (.iload 5, 2) := by decide +kernel
theorem dX9_auction_106 : decode cX9_auction 106 = .ok (.iaload, 1) := by decide +kernel
theorem dX9_auction_107 : decode cX9_auction 107 = .ok (.iload_n 1, 1) := by decide +kernel
theorem dX9_auction_108 : decode cX9_auction 108 = .ok (.if_icmp .ge 13, 3) := by decide +kernel
theorem dX9_auction_111 : decode cX9_auction 111 = .ok (.aload_n 0, 1) := by decide +kernel
theorem dX9_auction_112 : decode cX9_auction 112 = .ok (.getfield 56, 3) := by decide +kernel
theorem dX9_auction_115 : decode cX9_auction 115 = .ok (.iload 5, 2) := by decide +kernel
theorem dX9_auction_117 : decode cX9_auction 117 = .ok (.iaload, 1) := by decide +kernel
theorem dX9_auction_118 : decode cX9_auction 118 = .ok (.goto 4, 3) := by decide +kernel
theorem dX9_auction_121 : decode cX9_auction 121 = .ok (.iload_n 1, 1) := by decide +kernel
theorem dX9_auction_122 : decode cX9_auction 122 = .ok (.iastore, 1) := by decide +kernel
theorem dX9_auction_123 : decode cX9_auction 123 = .ok (.iload_n 1, 1) := by decide +kernel
theorem dX9_auction_124 : decode cX9_auction 124 = .ok (.aload_n 0, 1) := by decide +kernel
theorem dX9_auction_125 : decode cX9_auction 125 = .ok (.getfield 81, 3) := by decide +kernel
theorem dX9_auction_128 : decode cX9_auction 128 = .ok (.iload 5, 2) := by decide +kernel
theorem dX9_auction_130 : decode cX9_auction 130 = .ok (.iaload, 1) := by decide +kernel
theorem dX9_auction_131 : decode cX9_auction 131 = .ok (.isub, 1) := by decide +kernel
theorem dX9_auction_132 : decode cX9_auction 132 = .ok (.istore_n 1, 1) := by decide +kernel
theorem dX9_auction_133 : decode cX9_auction 133 = .ok (.aload_n 0, 1) := by decide +kernel
theorem dX9_auction_134 : decode cX9_auction 134 = .ok (.iconst (-1), 1) := by decide +kernel
theorem dX9_auction_135 : decode cX9_auction 135 = .ok (.aload_n 0, 1) := by decide +kernel
theorem dX9_auction_136 : decode cX9_auction 136 = .ok (.getfield 53, 3) := by decide +kernel
theorem dX9_auction_139 : decode cX9_auction 139 = .ok (.iload 5, 2) := by decide +kernel
theorem dX9_auction_141 : decode cX9_auction 141 = .ok (.iaload, 1) := by decide +kernel
theorem dX9_auction_142 : decode cX9_auction 142 = .ok (.aload_n 0, 1) := by decide +kernel
theorem dX9_auction_143 : decode cX9_auction 143 = .ok (.getfield 81, 3) := by decide +kernel
theorem dX9_auction_146 : decode cX9_auction 146 = .ok (.iload 5, 2) := by decide +kernel
theorem dX9_auction_148 : decode cX9_auction 148 = .ok (.iaload, 1) := by decide +kernel
theorem dX9_auction_149 : decode cX9_auction 149 = .ok (.invokevirtual 140, 3) := by decide +kernel
theorem dX9_auction_152 : decode cX9_auction 152 = .ok (.iload_n 1, 1) := by decide +kernel
theorem dX9_auction_153 : decode cX9_auction 153 = .ok (.ifCond .ne 6, 3) := by decide +kernel
theorem dX9_auction_156 : decode cX9_auction 156 = .ok (.iload 4, 2) := by decide +kernel
theorem dX9_auction_158 : decode cX9_auction 158 = .ok (.istore_n 3, 1) := by decide +kernel
theorem dX9_auction_159 : decode cX9_auction 159 = .ok (.iinc 5 1, 3) := by decide +kernel
theorem dX9_auction_162 : decode cX9_auction 162 = .ok (.goto (-96), 3) := by decide +kernel
theorem dX9_auction_165 : decode cX9_auction 165 = .ok (.iinc 4 (-1), 3) := by decide +kernel
theorem dX9_auction_168 : decode cX9_auction 168 = .ok (.goto (-111), 3) := by decide +kernel
theorem dX9_auction_171 : decode cX9_auction 171 = .ok (.iconst 0, 1) := by decide +kernel
theorem dX9_auction_172 : decode cX9_auction 172 = .ok (.istore 4, 2) := by decide +kernel
theorem dX9_auction_174 : decode cX9_auction 174 = .ok (.iload 4, 2) := by decide +kernel
theorem dX9_auction_176 : decode cX9_auction 176 = .ok (.aload_n 0, 1) := by decide +kernel
theorem dX9_auction_177 : decode cX9_auction 177 = .ok (.getfield 134, 3) := by decide +kernel
theorem dX9_auction_180 : decode cX9_auction 180 = .ok (.if_icmp .ge 51, 3) := by decide +kernel
theorem dX9_auction_183 : decode cX9_auction 183 = .ok (.aload_n 0, 1) := by decide +kernel
theorem dX9_auction_184 : decode cX9_auction 184 = .ok (.getfield 9, 3) := by decide +kernel
theorem dX9_auction_187 : decode cX9_auction 187 = .ok (.aload_n 0, 1) := by decide +kernel
theorem dX9_auction_188 : decode cX9_auction 188 = .ok (.getfield 53, 3) := by decide +kernel
theorem dX9_auction_191 : decode cX9_auction 191 = .ok (.iload 4, 2) := by decide +kernel
theorem dX9_auction_193 : decode cX9_auction 193 = .ok (.iaload, 1) := by decide +kernel
theorem dX9_auction_194 : decode cX9_auction 194 = .ok (.dup2, 1) := by decide +kernel
theorem dX9_auction_195 : decode cX9_auction 195 = .ok (.iaload, 1) := by decide +kernel
theorem dX9_auction_196 : decode cX9_auction 196 = .ok (.aload_n 0, 1) := by decide +kernel
theorem dX9_auction_197 : decode cX9_auction 197 = .ok (.getfield 81, 3) := by decide +kernel
theorem dX9_auction_200 : decode cX9_auction 200 = .ok (.iload 4, 2) := by decide +kernel
theorem dX9_auction_202 : decode cX9_auction 202 = .ok (.iaload, 1) := by decide +kernel
theorem dX9_auction_203 : decode cX9_auction 203 = .ok (.iload_n 3, 1) := by decide +kernel
theorem dX9_auction_204 : decode cX9_auction 204 = .ok (.imul, 1) := by decide +kernel
theorem dX9_auction_205 : decode cX9_auction 205 = .ok (.isub, 1) := by decide +kernel
theorem dX9_auction_206 : decode cX9_auction 206 = .ok (.iastore, 1) := by decide +kernel
theorem dX9_auction_207 : decode cX9_auction 207 = .ok (.aload_n 0, 1) := by decide +kernel
theorem dX9_auction_208 : decode cX9_auction 208 = .ok (.dup, 1) := by decide +kernel
theorem dX9_auction_209 : decode cX9_auction 209 = .ok (.getfield 144, 3) := by decide +kernel
theorem dX9_auction_212 : decode cX9_auction 212 = .ok (.aload_n 0, 1) := by decide +kernel
theorem dX9_auction_213 : decode cX9_auction 213 = .ok (.getfield 81, 3) := by decide +kernel
theorem dX9_auction_216 : decode cX9_auction 216 = .ok (.iload 4, 2) := by decide +kernel
theorem dX9_auction_218 : decode cX9_auction 218 = .ok (.iaload, 1) := by decide +kernel
theorem dX9_auction_219 : decode cX9_auction 219 = .ok (.iload_n 3, 1) := by decide +kernel
theorem dX9_auction_220 : decode cX9_auction 220 = .ok (.imul, 1) := by decide +kernel
theorem dX9_auction_221 : decode cX9_auction 221 = .ok (.iadd, 1) := by decide +kernel
theorem dX9_auction_222 : decode cX9_auction 222 = .ok (.putfield 144, 3) := by decide +kernel
theorem dX9_auction_225 : decode cX9_auction 225 = .ok (.iinc 4 1, 3) := by decide +kernel
theorem dX9_auction_228 : decode cX9_auction 228 = .ok (.goto (-54), 3) := by decide +kernel
theorem dX9_auction_231 : decode cX9_auction 231 = .ok (.aload_n 0, 1) := by decide +kernel
theorem dX9_auction_232 : decode cX9_auction 232 = .ok (.iconst 0, 1) := by decide +kernel
theorem dX9_auction_233 : decode cX9_auction 233 = .ok (.putfield 134, 3) := by decide +kernel
theorem dX9_auction_236 : decode cX9_auction 236 = .ok (.iload_n 3, 1) := by decide +kernel
theorem dX9_auction_237 : decode cX9_auction 237 = .ok (.ireturn, 1) := by decide +kernel
set_option maxRecDepth 20000 in
theorem ggX9_trade_X9_isWorks : GoodIn wsX9_trade wsX9_isWorks := goodIn_r _ [7, 8, 9, 10, 6, 11, 24, 25, 26, 27, 28, 29, 30, 31, 32, 33, 34, 35, 36, 37, 38, 39, 40, 41, 42, 43, 44, 45, 46, 47, 48, 49, 50, 51, 52, 53, 54, 55, 56, 57] (by decide +kernel) (by decide +kernel)
set_option maxRecDepth 20000 in
theorem gX9_trade_X9_isWorks : GoodIn wsX9_trade (wsV RX9 109 RX9 yX9_isWorks wsX9_isWorks) := goodIn_app (goodIn_of _ (by decide +kernel)) ggX9_trade_X9_isWorks
set_option maxRecDepth 20000 in
theorem ggX9_trade_X9_holds : GoodIn wsX9_trade wsX9_holds := goodIn_r _ [15, 16, 17, 18, 24, 25, 26, 27, 28, 29, 30, 31, 32, 33, 34, 35, 36, 37, 38, 39, 40, 41, 42, 43, 44, 45, 46, 47, 48, 49, 50, 51, 52, 53, 54, 55, 56, 57] (by decide +kernel) (by decide +kernel)
set_option maxRecDepth 20000 in
theorem gX9_trade_X9_holds : GoodIn wsX9_trade (wsV RX9 137 RX9 yX9_holds wsX9_holds) := goodIn_app (goodIn_of _ (by decide +kernel)) ggX9_trade_X9_holds
set_option maxRecDepth 20000 in
theorem ggX9_trade_X9_in : GoodIn wsX9_trade wsX9_in := goodIn_r _ [11] (by decide +kernel) (by decide +kernel)
set_option maxRecDepth 20000 in
theorem gX9_trade_X9_in : GoodIn wsX9_trade (va_wsS RX9 90 yX9_in wsX9_in) := goodIn_app (goodIn_of _ (by decide +kernel)) ggX9_trade_X9_in
set_option maxRecDepth 20000 in
theorem ggX9_trade_X9_goes : GoodIn wsX9_trade wsX9_goes := goodIn_r _ [22, 16, 17, 18, 23, 24, 25, 26, 27, 28, 29, 30, 31, 32, 33, 34, 35, 36, 37, 38, 39, 40, 41, 42, 43, 44, 45, 46, 47, 48, 49, 50, 51, 52, 53, 54, 55, 56, 57] (by decide +kernel) (by decide +kernel)
set_option maxRecDepth 20000 in
theorem gX9_trade_X9_goes : GoodIn wsX9_trade (wsV RX9 140 RX9 yX9_goes wsX9_goes) := goodIn_app (goodIn_of _ (by decide +kernel)) ggX9_trade_X9_goes
theorem dX9_trade_0 : decode cX9_trade 0 = .ok (.aload_n 0, 1) := by decide +kernel
theorem dX9_trade_1 : decode cX9_trade 1 = .ok (.iload_n 1, 1) := by decide +kernel
theorem dX9_trade_2 : decode cX9_trade 2 = .ok (.invokevirtual 109, 3) := by decide +kernel
theorem dX9_trade_5 : decode cX9_trade 5 = .ok (.ifCond .eq 41, 3) := by decide +kernel
theorem dX9_trade_8 : decode cX9_trade 8 = .ok (.aload_n 0, 1) := by decide +kernel
theorem dX9_trade_9 : decode cX9_trade 9 = .ok (.iload_n 2, 1) := by decide +kernel
theorem dX9_trade_10 : decode cX9_trade 10 = .ok (.invokevirtual 109, 3) := by decide +kernel
theorem dX9_trade_13 : decode cX9_trade 13 = .ok (.ifCond .eq 33, 3) := by decide +kernel
theorem dX9_trade_16 : decode cX9_trade 16 = .ok (.iload_n 1, 1) := by decide +kernel
theorem dX9_trade_17 : decode cX9_trade 17 = .ok (.iload_n 2, 1) := by decide +kernel
theorem dX9_trade_18 : decode cX9_trade 18 = .ok (.if_icmp .eq 28, 3) := by decide +kernel
theorem dX9_trade_21 : decode cX9_trade 21 = .ok (.iload_n 3, 1) := by decide +kernel
theorem dX9_trade_22 : decode cX9_trade 22 = .ok (.iconst 1, 1) := by decide +kernel
theorem dX9_trade_23 : decode cX9_trade 23 = .ok (.if_icmp .lt 23, 3) := by decide +kernel
theorem dX9_trade_26 : decode cX9_trade 26 = .ok (.iload_n 3, 1) := by decide +kernel
theorem dX9_trade_27 : decode cX9_trade 27 = .ok (.aload_n 0, 1) := by decide +kernel
theorem dX9_trade_28 : decode cX9_trade 28 = .ok (.iload_n 1, 1) := by decide +kernel
theorem dX9_trade_29 : decode cX9_trade 29 = .ok (.invokevirtual 137, 3) := by decide +kernel
theorem dX9_trade_32 : decode cX9_trade 32 = .ok (.if_icmp .gt 14, 3) := by decide +kernel
theorem dX9_trade_35 : decode cX9_trade 35 = .ok (.iload 4, 2) := by decide +kernel
theorem dX9_trade_37 : decode cX9_trade 37 = .ok (.iconst 0, 1) := by decide +kernel
theorem dX9_trade_38 : decode cX9_trade 38 = .ok (.ldc 94, 2) := by decide +kernel
theorem dX9_trade_40 : decode cX9_trade 40 = .ok (.invokestatic 90, 3) := by decide +kernel
theorem dX9_trade_43 : decode cX9_trade 43 = .ok (.ifCond .ne 5, 3) := by decide +kernel
theorem dX9_trade_46 : decode cX9_trade 46 = .ok (.iconst 0, 1) := by decide +kernel
theorem dX9_trade_47 : decode cX9_trade 47 = .ok (.ireturn, 1) := by decide +kernel
theorem dX9_trade_48 : decode cX9_trade 48 = .ok (.aload_n 0, 1) := by decide +kernel
theorem dX9_trade_49 : decode cX9_trade 49 = .ok (.iload_n 1, 1) := by decide +kernel
theorem dX9_trade_50 : decode cX9_trade 50 = .ok (.iload_n 2, 1) := by decide +kernel
theorem dX9_trade_51 : decode cX9_trade 51 = .ok (.iload_n 3, 1) := by decide +kernel
theorem dX9_trade_52 : decode cX9_trade 52 = .ok (.invokevirtual 140, 3) := by decide +kernel
theorem dX9_trade_55 : decode cX9_trade 55 = .ok (.aload_n 0, 1) := by decide +kernel
theorem dX9_trade_56 : decode cX9_trade 56 = .ok (.getfield 9, 3) := by decide +kernel
theorem dX9_trade_59 : decode cX9_trade 59 = .ok (.iload_n 1, 1) := by decide +kernel
theorem dX9_trade_60 : decode cX9_trade 60 = .ok (.dup2, 1) := by decide +kernel
theorem dX9_trade_61 : decode cX9_trade 61 = .ok (.iaload, 1) := by decide +kernel
theorem dX9_trade_62 : decode cX9_trade 62 = .ok (.iload 4, 2) := by decide +kernel
theorem dX9_trade_64 : decode cX9_trade 64 = .ok (.iadd, 1) := by decide +kernel
theorem dX9_trade_65 : decode cX9_trade 65 = .ok (.iastore, 1) := by decide +kernel
theorem dX9_trade_66 : decode cX9_trade 66 = .ok (.aload_n 0, 1) := by decide +kernel
theorem dX9_trade_67 : decode cX9_trade 67 = .ok (.getfield 9, 3) := by decide +kernel
theorem dX9_trade_70 : decode cX9_trade 70 = .ok (.iload_n 2, 1) := by decide +kernel
theorem dX9_trade_71 : decode cX9_trade 71 = .ok (.dup2, 1) := by decide +kernel
theorem dX9_trade_72 : decode cX9_trade 72 = .ok (.iaload, 1) := by decide +kernel
theorem dX9_trade_73 : decode cX9_trade 73 = .ok (.iload 4, 2) := by decide +kernel
theorem dX9_trade_75 : decode cX9_trade 75 = .ok (.isub, 1) := by decide +kernel
theorem dX9_trade_76 : decode cX9_trade 76 = .ok (.iastore, 1) := by decide +kernel
theorem dX9_trade_77 : decode cX9_trade 77 = .ok (.iconst 1, 1) := by decide +kernel
theorem dX9_trade_78 : decode cX9_trade 78 = .ok (.ireturn, 1) := by decide +kernel
set_option maxRecDepth 20000 in
theorem ggX9_offset_X9_isWorks : GoodIn wsX9_offset wsX9_isWorks := goodIn_r _ [8, 9, 10, 11, 7, 12, 22, 23, 24, 25, 26, 27, 28, 29, 30, 31, 32, 33, 34, 35, 36, 37, 38, 39, 40, 41, 42, 43, 44, 45, 46, 47, 48, 49, 50, 51, 52, 53, 54, 55] (by decide +kernel) (by decide +kernel)
set_option maxRecDepth 20000 in
theorem gX9_offset_X9_isWorks : GoodIn wsX9_offset (wsV RX9 109 RX9 yX9_isWorks wsX9_isWorks) := goodIn_app (goodIn_of _ (by decide +kernel)) ggX9_offset_X9_isWorks
set_option maxRecDepth 20000 in
theorem ggX9_offset_X9_in : GoodIn wsX9_offset wsX9_in := goodIn_r _ [12] (by decide +kernel) (by decide +kernel)
set_option maxRecDepth 20000 in
theorem gX9_offset_X9_in : GoodIn wsX9_offset (va_wsS RX9 90 yX9_in wsX9_in) := goodIn_app (goodIn_of _ (by decide +kernel)) ggX9_offset_X9_in
set_option maxRecDepth 20000 in
theorem ggX9_offset_X9_comes : GoodIn wsX9_offset wsX9_comes := goodIn_r _ [16, 17, 2, 18, 19, 3, 20, 21, 22, 23, 24, 25, 26, 27, 28, 29, 30, 31, 32, 33, 34, 35, 36, 37, 38, 39, 40, 41, 42, 43, 44, 45, 46, 47, 48, 49, 50, 51, 52, 53, 54, 55] (by decide +kernel) (by decide +kernel)
set_option maxRecDepth 20000 in
theorem gX9_offset_X9_comes : GoodIn wsX9_offset (wsV RX9 130 RX9 yX9_comes wsX9_comes) := goodIn_app (goodIn_of _ (by decide +kernel)) ggX9_offset_X9_comes
theorem dX9_offset_0 : decode cX9_offset 0 = .ok (.aload_n 0, 1) := by decide +kernel
theorem dX9_offset_1 : decode cX9_offset 1 = .ok (.iload_n 1, 1) := by decide +kernel
theorem dX9_offset_2 : decode cX9_offset 2 = .ok (.invokevirtual 109, 3) := by decide +kernel
theorem dX9_offset_5 : decode cX9_offset 5 = .ok (.ifCond .eq 43, 3) := by decide +kernel
theorem dX9_offset_8 : decode cX9_offset 8 = .ok (.iload_n 2, 1) := by decide +kernel
theorem dX9_offset_9 : decode cX9_offset 9 = .ok (.iconst 1, 1) := by decide +kernel
theorem dX9_offset_10 : decode cX9_offset 10 = .ok (.bipush 100, 2) := by decide +kernel
theorem dX9_offset_12 : decode cX9_offset 12 = .ok (.invokestatic 90, 3) := by decide +kernel
theorem dX9_offset_15 : decode cX9_offset 15 = .ok (.ifCond .eq 33, 3) := by decide +kernel
theorem dX9_offset_18 : decode cX9_offset 18 = .ok (.aload_n 0, 1) := by decide +kernel
theorem dX9_offset_19 : decode cX9_offset 19 = .ok (.getfield 147, 3) := by decide +kernel
theorem dX9_offset_22 : decode cX9_offset 22 = .ok (.bipush 20, 2) := by decide +kernel
theorem dX9_offset_24 : decode cX9_offset 24 = .ok (.if_icmp .eq 24, 3) := by decide +kernel
theorem dX9_offset_27 : decode cX9_offset 27 = .ok (.aload_n 0, 1) := by decide +kernel
theorem dX9_offset_28 : decode cX9_offset 28 = .ok (.getfield 120, 3) := by decide +kernel
theorem dX9_offset_31 : decode cX9_offset 31 = .ok (.iload_n 2, 1) := by decide +kernel
theorem dX9_offset_32 : decode cX9_offset 32 = .ok (.iadd, 1) := by decide +kernel
theorem dX9_offset_33 : decode cX9_offset 33 = .ok (.sipush 4000, 3) := by decide +kernel
theorem dX9_offset_36 : decode cX9_offset 36 = .ok (.if_icmp .gt 12, 3) := by decide +kernel
theorem dX9_offset_39 : decode cX9_offset 39 = .ok (.aload_n 0, 1) := by decide +kernel
theorem dX9_offset_40 : decode cX9_offset 40 = .ok (.getfield 113, 3) := by decide +kernel
theorem dX9_offset_43 : decode cX9_offset 43 = .ok (.bipush 20, 2) := by decide +kernel
theorem dX9_offset_45 : decode cX9_offset 45 = .ok (.if_icmp .ne 5, 3) := by decide +kernel
theorem dX9_offset_48 : decode cX9_offset 48 = .ok (.iconst (-1), 1) := by decide +kernel
theorem dX9_offset_49 : decode cX9_offset 49 = .ok (.ireturn, 1) := by decide +kernel
theorem dX9_offset_50 : decode cX9_offset 50 = .ok (.iconst 0, 1) := by decide +kernel
theorem dX9_offset_51 : decode cX9_offset 51 = .ok (.istore_n 3, 1) := by decide +kernel
theorem dX9_offset_52 : decode cX9_offset 52 = .ok (.iload_n 3, 1) := by decide +kernel
theorem dX9_offset_53 : decode cX9_offset 53 = .ok (.iload_n 2, 1) := by decide +kernel
theorem dX9_offset_54 : decode cX9_offset 54 = .ok (.if_icmp .ge 18, 3) := by decide +kernel
theorem dX9_offset_57 : decode cX9_offset 57 = .ok (.aload_n 0, 1) := by decide +kernel
theorem dX9_offset_58 : decode cX9_offset 58 = .ok (.iload_n 1, 1) := by decide +kernel
theorem dX9_offset_59 : decode cX9_offset 59 = .ok (.aload_n 0, 1) := by decide +kernel
theorem dX9_offset_60 : decode cX9_offset 60 = .ok (.getfield 147, 3) := by decide +kernel
theorem dX9_offset_63 : decode cX9_offset 63 = .ok (.invokevirtual 130, 3) := by decide +kernel
theorem dX9_offset_66 : decode cX9_offset 66 = .ok (.iinc 3 1, 3) := by decide +kernel
theorem dX9_offset_69 : decode cX9_offset 69 = .ok (.goto (-17), 3) := by decide +kernel
theorem dX9_offset_72 : decode cX9_offset 72 = .ok (.aload_n 0, 1) := by decide +kernel
theorem dX9_offset_73 : decode cX9_offset 73 = .ok (.dup, 1) := by decide +kernel
theorem dX9_offset_74 : decode cX9_offset 74 = .ok (.getfield 147, 3) := by decide +kernel
theorem dX9_offset_77 : decode cX9_offset 77 = .ok (.iconst 1, 1) := by decide +kernel
theorem dX9_offset_78 : decode cX9_offset 78 = .ok (.iadd, 1) := by decide +kernel
theorem dX9_offset_79 : decode cX9_offset 79 = .ok (.putfield 147, 3) := by decide +kernel
theorem dX9_offset_82 : decode cX9_offset 82 = .ok (.aload_n 0, 1) := by decide +kernel
theorem dX9_offset_83 : decode cX9_offset 83 = .ok (.getfield 147, 3) := by decide +kernel
theorem dX9_offset_86 : decode cX9_offset 86 = .ok (.iconst 1, 1) := by decide +kernel
theorem dX9_offset_87 : decode cX9_offset 87 = .ok (.isub, 1) := by decide +kernel
theorem dX9_offset_88 : decode cX9_offset 88 = .ok (.ireturn, 1) := by decide +kernel
set_option maxRecDepth 20000 in
theorem ggX9_falses_X9_in : GoodIn wsX9_falses wsX9_in := goodIn_r _ [11] (by decide +kernel) (by decide +kernel)
set_option maxRecDepth 20000 in
theorem gX9_falses_X9_in : GoodIn wsX9_falses (va_wsS RX9 90 yX9_in wsX9_in) := goodIn_app (goodIn_of _ (by decide +kernel)) ggX9_falses_X9_in
theorem dX9_falses_0 : decode cX9_falses 0 = .ok (.iload_n 1, 1) := by decide +kernel
theorem dX9_falses_1 : decode cX9_falses 1 = .ok (.iconst 0, 1) := by decide +kernel
theorem dX9_falses_2 : decode cX9_falses 2 = .ok (.aload_n 0, 1) := by decide +kernel
theorem dX9_falses_3 : decode cX9_falses 3 = .ok (.getfield 147, 3) := by decide +kernel
theorem dX9_falses_6 : decode cX9_falses 6 = .ok (.iconst 1, 1) := by decide +kernel
theorem dX9_falses_7 : decode cX9_falses 7 = .ok (.isub, 1) := by decide +kernel
theorem dX9_falses_8 : decode cX9_falses 8 = .ok (.invokestatic 90, 3) := by decide +kernel
theorem dX9_falses_11 : decode cX9_falses 11 = .ok (.ifCond .eq 12, 3) := by decide +kernel
theorem dX9_falses_14 : decode cX9_falses 14 = .ok (.aload_n 0, 1) := by decide +kernel
theorem dX9_falses_15 : decode cX9_falses 15 = .ok (.getfield 62, 3) := by decide +kernel
theorem dX9_falses_18 : decode cX9_falses 18 = .ok (.iload_n 1, 1) := by decide +kernel
theorem dX9_falses_19 : decode cX9_falses 19 = .ok (.baload, 1) := by decide +kernel
theorem dX9_falses_20 : decode cX9_falses 20 = .ok (.ifCond .eq 5, 3) := by decide +kernel
theorem dX9_falses_23 : decode cX9_falses 23 = .ok (.iconst (-1), 1) := by decide +kernel
theorem dX9_falses_24 : decode cX9_falses 24 = .ok (.ireturn, 1) := by decide +kernel
theorem dX9_falses_25 : decode cX9_falses 25 = .ok (.aload_n 0, 1) := by decide +kernel
theorem dX9_falses_26 : decode cX9_falses 26 = .ok (.getfield 62, 3) := by decide +kernel
theorem dX9_falses_29 : decode cX9_falses 29 = .ok (.iload_n 1, 1) := by decide +kernel
theorem dX9_falses_30 : decode cX9_falses 30 = .ok (.iconst 1, 1) := by decide +kernel
theorem dX9_falses_31 : decode cX9_falses 31 = .ok (.bastore, 1) := by decide +kernel
theorem dX9_falses_32 : decode cX9_falses 32 = .ok (.iconst 0, 1) := by decide +kernel
theorem dX9_falses_33 : decode cX9_falses 33 = .ok (.istore_n 2, 1) := by decide +kernel
theorem dX9_falses_34 : decode cX9_falses 34 = .ok (.iconst 0, 1) := by decide +kernel
theorem dX9_falses_35 : decode cX9_falses 35 = .ok (.istore_n 3, 1) := by decide +kernel
theorem dX9_falses_36 : decode cX9_falses 36 = .ok (.iload_n 3, 1) := by decide +kernel
theorem dX9_falses_37 : decode cX9_falses 37 = .ok (.aload_n 0, 1) := by decide +kernel
theorem dX9_falses_38 : decode cX9_falses 38 = .ok (.getfield 120, 3) := by decide +kernel
theorem dX9_falses_41 : decode cX9_falses 41 = .ok (.if_icmp .ge 59, 3) := by decide +kernel
theorem dX9_falses_44 : decode cX9_falses 44 = .ok (.aload_n 0, 1) := by decide +kernel
theorem dX9_falses_45 : decode cX9_falses 45 = .ok (.getfield 43, 3) := by decide +kernel
theorem dX9_falses_48 : decode cX9_falses 48 = .ok (.iload_n 3, 1) := by decide +kernel
theorem dX9_falses_49 : decode cX9_falses 49 = .ok (.iaload, 1) := by decide +kernel
theorem dX9_falses_50 : decode cX9_falses 50 = .ok (.iload_n 1, 1) := by decide +kernel
theorem dX9_falses_51 : decode cX9_falses 51 = .ok (.if_icmp .eq 6, 3) := by decide +kernel
theorem dX9_falses_54 : decode cX9_falses 54 = .ok (.goto 40, 3) := by decide +kernel
theorem dX9_falses_57 : decode cX9_falses 57 = .ok (.aload_n 0, 1) := by decide +kernel
theorem dX9_falses_58 : decode cX9_falses 58 = .ok (.getfield 31, 3) := by decide +kernel
theorem dX9_falses_61 : decode cX9_falses 61 = .ok (.iload_n 3, 1) := by decide +kernel
theorem dX9_falses_62 : decode cX9_falses 62 = .ok (.iaload, 1) := by decide +kernel
theorem dX9_falses_63 : decode cX9_falses 63 = .ok (.ifCond .ne 13, 3) := by decide +kernel
theorem dX9_falses_66 : decode cX9_falses 66 = .ok (.aload_n 0, 1) := by decide +kernel
theorem dX9_falses_67 : decode cX9_falses 67 = .ok (.getfield 31, 3) := by decide +kernel
theorem dX9_falses_70 : decode cX9_falses 70 = .ok (.iload_n 3, 1) := by decide +kernel
theorem dX9_falses_71 : decode cX9_falses 71 = .ok (.iconst 3, 1) := by decide +kernel
theorem dX9_falses_72 : decode cX9_falses 72 = .ok (.iastore, 1) := by decide +kernel
theorem dX9_falses_73 : decode cX9_falses 73 = .ok (.goto 21, 3) := by decide +kernel
theorem dX9_falses_76 : decode cX9_falses 76 = .ok (.aload_n 0, 1) := by decide +kernel
theorem dX9_falses_77 : decode cX9_falses 77 = .ok (.getfield 13, 3) := by decide +kernel
theorem dX9_falses_80 : decode cX9_falses 80 = .ok (.aload_n 0, 1) := by decide +kernel
theorem dX9_falses_81 : decode cX9_falses 81 = .ok (.getfield 34, 3) := by decide +kernel
theorem dX9_falses_84 : decode cX9_falses 84 = .ok (.iload_n 3, 1) := by decide +kernel
theorem dX9_falses_85 : decode cX9_falses 85 = .ok (.iaload, 1) := by decide +kernel
theorem dX9_falses_86 : decode cX9_falses 86 = .ok (.dup2, 1) := by decide +kernel
theorem dX9_falses_87 : decode cX9_falses 87 = .ok (.iaload, 1) := by decide +kernel
theorem dX9_falses_88 : decode cX9_falses 88 = .ok (.iconst 1, 1) := by decide +kernel
theorem dX9_falses_89 : decode cX9_falses 89 = .ok (.iadd, 1) := by decide +kernel
theorem dX9_falses_90 : decode cX9_falses 90 = .ok (.iastore, 1) := by decide +kernel
theorem dX9_falses_91 : decode cX9_falses 91 = .ok (.iinc 2 1, 3) := by decide +kernel
theorem dX9_falses_94 : decode cX9_falses 94 = .ok (.iinc 3 1, 3) := by decide +kernel
theorem dX9_falses_97 : decode cX9_falses 97 = .ok (.goto (-61), 3) := by decide +kernel
theorem dX9_falses_100 : decode cX9_falses 100 = .ok (.iload_n 2, 1) := by decide +kernel
theorem dX9_falses_101 : decode cX9_falses 101 = .ok (.ireturn, 1) := by decide +kernel
set_option maxRecDepth 20000 in
theorem ggX9_cancel_X9_isWorks : GoodIn wsX9_cancel wsX9_isWorks := goodIn_r _ [5, 6, 7, 8, 4, 9, 23, 24, 25, 26, 27, 28, 29, 30, 31, 32, 33, 34, 35, 36, 37, 38, 39, 40, 41, 42, 43, 44, 45, 46, 47, 48, 49, 50, 51, 52, 53, 54, 55, 56] (by decide +kernel) (by decide +kernel)
set_option maxRecDepth 20000 in
theorem gX9_cancel_X9_isWorks : GoodIn wsX9_cancel (wsV RX9 109 RX9 yX9_isWorks wsX9_isWorks) := goodIn_app (goodIn_of _ (by decide +kernel)) ggX9_cancel_X9_isWorks
set_option maxRecDepth 20000 in
theorem ggX9_cancel_X9_holds : GoodIn wsX9_cancel wsX9_holds := goodIn_r _ [13, 14, 15, 16, 23, 24, 25, 26, 27, 28, 29, 30, 31, 32, 33, 34, 35, 36, 37, 38, 39, 40, 41, 42, 43, 44, 45, 46, 47, 48, 49, 50, 51, 52, 53, 54, 55, 56] (by decide +kernel) (by decide +kernel)
set_option maxRecDepth 20000 in
theorem gX9_cancel_X9_holds : GoodIn wsX9_cancel (wsV RX9 137 RX9 yX9_holds wsX9_holds) := goodIn_app (goodIn_of _ (by decide +kernel)) ggX9_cancel_X9_holds
set_option maxRecDepth 20000 in
theorem ggX9_cancel_X9_ends : GoodIn wsX9_cancel wsX9_ends := goodIn_r _ [20, 14, 15, 16, 21, 22, 23, 24, 25, 26, 27, 28, 29, 30, 31, 32, 33, 34, 35, 36, 37, 38, 39, 40, 41, 42, 43, 44, 45, 46, 47, 48, 49, 50, 51, 52, 53, 54, 55, 56] (by decide +kernel) (by decide +kernel)
set_option maxRecDepth 20000 in
theorem gX9_cancel_X9_ends : GoodIn wsX9_cancel (wsV RX9 150 RX9 yX9_ends wsX9_ends) := goodIn_app (goodIn_of _ (by decide +kernel)) ggX9_cancel_X9_ends
theorem dX9_cancel_0 : decode cX9_cancel 0 = .ok (.aload_n 0, 1) := by decide +kernel
theorem dX9_cancel_1 : decode cX9_cancel 1 = .ok (.iload_n 1, 1) := by decide +kernel
theorem dX9_cancel_2 : decode cX9_cancel 2 = .ok (.invokevirtual 109, 3) := by decide +kernel
theorem dX9_cancel_5 : decode cX9_cancel 5 = .ok (.ifCond .eq 17, 3) := by decide +kernel
theorem dX9_cancel_8 : decode cX9_cancel 8 = .ok (.iload_n 2, 1) := by decide +kernel
theorem dX9_cancel_9 : decode cX9_cancel 9 = .ok (.iconst 1, 1) := by decide +kernel
theorem dX9_cancel_10 : decode cX9_cancel 10 = .ok (.if_icmp .lt 12, 3) := by decide +kernel
theorem dX9_cancel_13 : decode cX9_cancel 13 = .ok (.iload_n 2, 1) := by decide +kernel
theorem dX9_cancel_14 : decode cX9_cancel 14 = .ok (.aload_n 0, 1) := by decide +kernel
theorem dX9_cancel_15 : decode cX9_cancel 15 = .ok (.iload_n 1, 1) := by decide +kernel
theorem dX9_cancel_16 : decode cX9_cancel 16 = .ok (.invokevirtual 137, 3) := by decide +kernel
theorem dX9_cancel_19 : decode cX9_cancel 19 = .ok (.if_icmp .le 5, 3) := by decide +kernel
theorem dX9_cancel_22 : decode cX9_cancel 22 = .ok (.iconst 0, 1) := by decide +kernel
theorem dX9_cancel_23 : decode cX9_cancel 23 = .ok (.ireturn, 1) := by decide +kernel
theorem dX9_cancel_24 : decode cX9_cancel 24 = .ok (.aload_n 0, 1) := by decide +kernel
theorem dX9_cancel_25 : decode cX9_cancel 25 = .ok (.iload_n 1, 1) := by decide +kernel
theorem dX9_cancel_26 : decode cX9_cancel 26 = .ok (.iload_n 2, 1) := by decide +kernel
theorem dX9_cancel_27 : decode cX9_cancel 27 = .ok (.iconst 2, 1) := by decide +kernel
theorem dX9_cancel_28 : decode cX9_cancel 28 = .ok (.invokevirtual 150, 3) := by decide +kernel
theorem dX9_cancel_31 : decode cX9_cancel 31 = .ok (.iconst 1, 1) := by decide +kernel
theorem dX9_cancel_32 : decode cX9_cancel 32 = .ok (.ireturn, 1) := by decide +kernel
set_option maxRecDepth 20000 in
theorem ggX9_end_X9_partOf : GoodIn wsX9_end wsX9_partOf := goodIn_r _ [10, 11, 12, 13, 14, 9, 15, 16, 17, 46, 47, 48, 49, 50, 51, 52, 53, 54, 55, 56, 57, 58, 59, 60, 61, 62, 63, 64, 65, 66, 67, 68, 69, 70, 71, 72, 73, 74, 75, 76, 77, 78, 79] (by decide +kernel) (by decide +kernel)
set_option maxRecDepth 20000 in
theorem gX9_end_X9_partOf : GoodIn wsX9_end (wsV RX9 105 RX9 yX9_partOf wsX9_partOf) := goodIn_app (goodIn_of _ (by decide +kernel)) ggX9_end_X9_partOf
set_option maxRecDepth 20000 in
theorem ggX9_end_X9_fouled : GoodIn wsX9_end wsX9_fouled := goodIn_r _ [21, 22, 23, 24, 25, 9, 26, 2, 27, 28, 29, 30, 31, 32, 33, 46, 47, 48, 49, 50, 51, 52, 53, 54, 55, 56, 57, 58, 59, 60, 61, 62, 63, 64, 65, 66, 67, 68, 69, 70, 71, 72, 73, 74, 75, 76, 77, 78, 79] (by decide +kernel) (by decide +kernel)
set_option maxRecDepth 20000 in
theorem gX9_end_X9_fouled : GoodIn wsX9_end (wsV RX9 123 RX9 yX9_fouled wsX9_fouled) := goodIn_app (goodIn_of _ (by decide +kernel)) ggX9_end_X9_fouled
set_option maxRecDepth 20000 in
theorem ggX9_end_X9_holds : GoodIn wsX9_end wsX9_holds := goodIn_r _ [37, 38, 39, 40, 46, 47, 48, 49, 50, 51, 52, 53, 54, 55, 56, 57, 58, 59, 60, 61, 62, 63, 64, 65, 66, 67, 68, 69, 70, 71, 72, 73, 74, 75, 76, 77, 78, 79] (by decide +kernel) (by decide +kernel)
set_option maxRecDepth 20000 in
theorem gX9_end_X9_holds : GoodIn wsX9_end (wsV RX9 137 RX9 yX9_holds wsX9_holds) := goodIn_app (goodIn_of _ (by decide +kernel)) ggX9_end_X9_holds
set_option maxRecDepth 20000 in
theorem ggX9_end_X9_ends : GoodIn wsX9_end wsX9_ends := goodIn_r _ [44, 38, 39, 40, 45, 1, 46, 47, 48, 49, 50, 51, 52, 53, 54, 55, 56, 57, 58, 59, 60, 61, 62, 63, 64, 65, 66, 67, 68, 69, 70, 71, 72, 73, 74, 75, 76, 77, 78, 79] (by decide +kernel) (by decide +kernel)
set_option maxRecDepth 20000 in
theorem gX9_end_X9_ends : GoodIn wsX9_end (wsV RX9 150 RX9 yX9_ends wsX9_ends) := goodIn_app (goodIn_of _ (by decide +kernel)) ggX9_end_X9_ends
theorem dX9_end_0 : decode cX9_end 0 = .ok (.aload_n 0, 1) := by decide +kernel
theorem dX9_end_1 : decode cX9_end 1 = .ok (.getfield 113, 3) := by decide +kernel
theorem dX9_end_4 : decode cX9_end 4 = .ok (.bipush 20, 2) := by decide +kernel
theorem dX9_end_6 : decode cX9_end 6 = .ok (.if_icmp .ne 5, 3) := by decide +kernel
theorem dX9_end_9 : decode cX9_end 9 = .ok (.iconst (-1), 1) := by decide +kernel
theorem dX9_end_10 : decode cX9_end 10 = .ok (.ireturn, 1) := by decide +kernel
theorem dX9_end_11 : decode cX9_end 11 = .ok (.aload_n 0, 1) := by decide +kernel
theorem dX9_end_12 : decode cX9_end 12 = .ok (.aload_n 0, 1) := by decide +kernel
theorem dX9_end_13 : decode cX9_end 13 = .ok (.getfield 113, 3) := by decide +kernel
theorem dX9_end_16 : decode cX9_end 16 = .ok (.bipush 100, 2) := by decide +kernel
theorem dX9_end_18 : decode cX9_end 18 = .ok (.sipush 1000, 3) := by decide +kernel
theorem dX9_end_21 : decode cX9_end 21 = .ok (.invokevirtual 105, 3) := by decide +kernel
theorem dX9_end_24 : decode cX9_end 24 = .ok (.istore_n 1, 1) := by decide +kernel
theorem dX9_end_25 : decode cX9_end 25 = .ok (.iconst 0, 1) := by decide +kernel
theorem dX9_end_26 : decode cX9_end 26 = .ok (.istore_n 2, 1) := by decide +kernel
theorem dX9_end_27 : decode cX9_end 27 = .ok (.iconst 0, 1) := by decide +kernel
theorem dX9_end_28 : decode cX9_end 28 = .ok (.istore_n 3, 1) := by decide +kernel
theorem dX9_end_29 : decode cX9_end 29 = .ok (.iload_n 3, 1) := by decide +kernel
theorem dX9_end_30 : decode cX9_end 30 = .ok (.aload_n 0, 1) := by decide +kernel
theorem dX9_end_31 : decode cX9_end 31 = .ok (.getfield 87, 3) := by decide +kernel
theorem dX9_end_34 : decode cX9_end 34 = .ok (.if_icmp .ge 112, 3) := by decide +kernel
theorem dX9_end_37 : decode cX9_end 37 = .ok (.aload_n 0, 1) := by decide +kernel
theorem dX9_end_38 : decode cX9_end 38 = .ok (.iload_n 3, 1) := by decide +kernel
theorem dX9_end_39 : decode cX9_end 39 = .ok (.aload_n 0, 1) := by decide +kernel
theorem dX9_end_40 : decode cX9_end 40 = .ok (.getfield 113, 3) := by decide +kernel
theorem dX9_end_43 : decode cX9_end 43 = .ok (.invokevirtual 123, 3) := by decide +kernel
theorem dX9_end_46 : decode cX9_end 46 = .ok (.aload_n 0, 1) := by decide +kernel
theorem dX9_end_47 : decode cX9_end 47 = .ok (.getfield 13, 3) := by decide +kernel
theorem dX9_end_50 : decode cX9_end 50 = .ok (.iload_n 3, 1) := by decide +kernel
theorem dX9_end_51 : decode cX9_end 51 = .ok (.iaload, 1) := by decide +kernel
theorem dX9_end_52 : decode cX9_end 52 = .ok (.iadd, 1) := by decide +kernel
theorem dX9_end_53 : decode cX9_end 53 = .ok (.istore 4, 2) := by decide +kernel
theorem dX9_end_55 : decode cX9_end 55 = .ok (.aload_n 0, 1) := by decide +kernel
theorem dX9_end_56 : decode cX9_end 56 = .ok (.iload_n 3, 1) := by decide +kernel
theorem dX9_end_57 : decode cX9_end 57 = .ok (.invokevirtual 137, 3) := by decide +kernel
theorem dX9_end_60 : decode cX9_end 60 = .ok (.istore 5, 2) := by decide +kernel
theorem dX9_end_62 : decode cX9_end 62 = .ok (.iload 4, 2) := by decide +kernel
theorem dX9_end_64 : decode cX9_end 64 = .ok (.iload 5, 2) := by decide +kernel
theorem dX9_end_66 : decode cX9_end 66 = .ok (.if_icmp .ge 8, 3) := by decide +kernel
theorem dX9_end_69 : decode cX9_end 69 = .ok (.iload 4, 2) := by decide +kernel
theorem dX9_end_71 : decode cX9_end 71 = .ok (.goto 5, 3) := by decide +kernel
theorem dX9_end_74 : decode cX9_end 74 = .ok (.iload 5, 2) := by decide +kernel
theorem dX9_end_76 : decode cX9_end 76 = .ok (.istore 6, 2) := by decide +kernel
theorem dX9_end_78 : decode cX9_end 78 = .ok (.aload_n 0, 1) := by decide +kernel
theorem dX9_end_79 : decode cX9_end 79 = .ok (.iload_n 3, 1) := by decide +kernel
theorem dX9_end_80 : decode cX9_end 80 = .ok (.iload 6, 2) := by decide +kernel
theorem dX9_end_82 : decode cX9_end 82 = .ok (.iconst 1, 1) := by decide +kernel
theorem dX9_end_83 : decode cX9_end 83 = .ok (.invokevirtual 150, 3) := by decide +kernel
theorem dX9_end_86 : decode cX9_end 86 = .ok (.aload_n 0, 1) := by decide +kernel
theorem dX9_end_87 : decode cX9_end 87 = .ok (.getfield 13, 3) := by decide +kernel
theorem dX9_end_90 : decode cX9_end 90 = .ok (.iload_n 3, 1) := by decide +kernel
theorem dX9_end_91 : decode cX9_end 91 = .ok (.iload 4, 2) := by decide +kernel
theorem dX9_end_93 : decode cX9_end 93 = .ok (.iload 6, 2) := by decide +kernel
theorem dX9_end_95 : decode cX9_end 95 = .ok (.isub, 1) := by decide +kernel
theorem dX9_end_96 : decode cX9_end 96 = .ok (.iastore, 1) := by decide +kernel
theorem dX9_end_97 : decode cX9_end 97 = .ok (.aload_n 0, 1) := by decide +kernel
theorem dX9_end_98 : decode cX9_end 98 = .ok (.getfield 9, 3) := by decide +kernel
theorem dX9_end_101 : decode cX9_end 101 = .ok (.iload_n 3, 1) := by decide +kernel
theorem dX9_end_102 : decode cX9_end 102 = .ok (.dup2, 1) := by decide +kernel
theorem dX9_end_103 : decode cX9_end 103 = .ok (.iaload, 1) := by decide +kernel
theorem dX9_end_104 : decode cX9_end 104 = .ok (.aload_n 0, 1) := by decide +kernel
theorem dX9_end_105 : decode cX9_end 105 = .ok (.getfield 13, 3) := by decide +kernel
theorem dX9_end_108 : decode cX9_end 108 = .ok (.iload_n 3, 1) := by decide +kernel
theorem dX9_end_109 : decode cX9_end 109 = .ok (.iaload, 1) := by decide +kernel
theorem dX9_end_110 : decode cX9_end 110 = .ok (.iload_n 1, 1) := by decide +kernel
theorem dX9_end_111 : decode cX9_end 111 = .ok (.imul, 1) := by decide +kernel
theorem dX9_end_112 : decode cX9_end 112 = .ok (.isub, 1) := by decide +kernel
theorem dX9_end_113 : decode cX9_end 113 = .ok (.iastore, 1) := by decide +kernel
theorem dX9_end_114 : decode cX9_end 114 = .ok (.aload_n 0, 1) := by decide +kernel
theorem dX9_end_115 : decode cX9_end 115 = .ok (.getfield 16, 3) := by decide +kernel
theorem dX9_end_118 : decode cX9_end 118 = .ok (.iload_n 3, 1) := by decide +kernel
theorem dX9_end_119 : decode cX9_end 119 = .ok (.dup2, 1) := by decide +kernel
theorem dX9_end_120 : decode cX9_end 120 = .ok (.iaload, 1) := by decide +kernel
theorem dX9_end_121 : decode cX9_end 121 = .ok (.aload_n 0, 1) := by decide +kernel
theorem dX9_end_122 : decode cX9_end 122 = .ok (.getfield 13, 3) := by decide +kernel
theorem dX9_end_125 : decode cX9_end 125 = .ok (.iload_n 3, 1) := by decide +kernel
theorem dX9_end_126 : decode cX9_end 126 = .ok (.iaload, 1) := by decide +kernel
theorem dX9_end_127 : decode cX9_end 127 = .ok (.iload_n 1, 1) := by decide +kernel
theorem dX9_end_128 : decode cX9_end 128 = .ok (.imul, 1) := by decide +kernel
theorem dX9_end_129 : decode cX9_end 129 = .ok (.iadd, 1) := by decide +kernel
theorem dX9_end_130 : decode cX9_end 130 = .ok (.iastore, 1) := by decide +kernel
theorem dX9_end_131 : decode cX9_end 131 = .ok (.iload_n 2, 1) := by decide +kernel
theorem dX9_end_132 : decode cX9_end 132 = .ok (.aload_n 0, 1) := by decide +kernel
theorem dX9_end_133 : decode cX9_end 133 = .ok (.getfield 13, 3) := by decide +kernel
theorem dX9_end_136 : decode cX9_end 136 = .ok (.iload_n 3, 1) := by decide +kernel
theorem dX9_end_137 : decode cX9_end 137 = .ok (.iaload, 1) := by decide +kernel
theorem dX9_end_138 : decode cX9_end 138 = .ok (.iadd, 1) := by decide +kernel
theorem dX9_end_139 : decode cX9_end 139 = .ok (.istore_n 2, 1) := by decide +kernel
theorem dX9_end_140 : decode cX9_end 140 = .ok (.iinc 3 1, 3) := by decide +kernel
theorem dX9_end_143 : decode cX9_end 143 = .ok (.goto (-114), 3) := by decide +kernel
theorem dX9_end_146 : decode cX9_end 146 = .ok (.aload_n 0, 1) := by decide +kernel
theorem dX9_end_147 : decode cX9_end 147 = .ok (.dup, 1) := by decide +kernel
theorem dX9_end_148 : decode cX9_end 148 = .ok (.getfield 113, 3) := by decide +kernel
theorem dX9_end_151 : decode cX9_end 151 = .ok (.iconst 1, 1) := by decide +kernel
theorem dX9_end_152 : decode cX9_end 152 = .ok (.iadd, 1) := by decide +kernel
theorem dX9_end_153 : decode cX9_end 153 = .ok (.putfield 113, 3) := by decide +kernel
theorem dX9_end_156 : decode cX9_end 156 = .ok (.iload_n 2, 1) := by decide +kernel
theorem dX9_end_157 : decode cX9_end 157 = .ok (.ireturn, 1) := by decide +kernel
set_option maxRecDepth 20000 in
theorem ggX9_permit_X9_in : GoodIn wsX9_permit wsX9_in := goodIn_r _ [12] (by decide +kernel) (by decide +kernel)
set_option maxRecDepth 20000 in
theorem gX9_permit_X9_in : GoodIn wsX9_permit (va_wsS RX9 90 yX9_in wsX9_in) := goodIn_app (goodIn_of _ (by decide +kernel)) ggX9_permit_X9_in
theorem dX9_permit_0 : decode cX9_permit 0 = .ok (.iload_n 1, 1) := by decide +kernel
theorem dX9_permit_1 : decode cX9_permit 1 = .ok (.iconst 0, 1) := by decide +kernel
theorem dX9_permit_2 : decode cX9_permit 2 = .ok (.aload_n 0, 1) := by decide +kernel
theorem dX9_permit_3 : decode cX9_permit 3 = .ok (.getfield 120, 3) := by decide +kernel
theorem dX9_permit_6 : decode cX9_permit 6 = .ok (.iconst 1, 1) := by decide +kernel
theorem dX9_permit_7 : decode cX9_permit 7 = .ok (.isub, 1) := by decide +kernel
theorem dX9_permit_8 : decode cX9_permit 8 = .ok (.invokestatic 90, 3) := by decide +kernel
theorem dX9_permit_11 : decode cX9_permit 11 = .ok (.ifCond .ne 6, 3) := by decide +kernel
theorem dX9_permit_14 : decode cX9_permit 14 = .ok (.ldc 153, 2) := by decide +kernel
theorem dX9_permit_16 : decode cX9_permit 16 = .ok (.ireturn, 1) := by decide +kernel
theorem dX9_permit_17 : decode cX9_permit 17 = .ok (.iload_n 2, 1) := by decide +kernel
theorem dX9_permit_18 : decode cX9_permit 18 = .ok (.tableswitch 94 0 5 #[38, 59, 66, 73, 80, 87], 38) := by decide +kernel
theorem dX9_permit_56 : decode cX9_permit 56 = .ok (.aload_n 0, 1) := by decide +kernel
theorem dX9_permit_57 : decode cX9_permit 57 = .ok (.getfield 31, 3) := by decide +kernel
theorem dX9_permit_60 : decode cX9_permit 60 = .ok (.iload_n 1, 1) := by decide +kernel
theorem dX9_permit_61 : decode cX9_permit 61 = .ok (.iaload, 1) := by decide +kernel
theorem dX9_permit_62 : decode cX9_permit 62 = .ok (.iconst 3, 1) := by decide +kernel
theorem dX9_permit_63 : decode cX9_permit 63 = .ok (.if_icmp .ne 7, 3) := by decide +kernel
theorem dX9_permit_66 : decode cX9_permit 66 = .ok (.iconst 2, 1) := by decide +kernel
theorem dX9_permit_67 : decode cX9_permit 67 = .ok (.goto 9, 3) := by decide +kernel
theorem dX9_permit_70 : decode cX9_permit 70 = .ok (.aload_n 0, 1) := by decide +kernel
theorem dX9_permit_71 : decode cX9_permit 71 = .ok (.getfield 31, 3) := by decide +kernel
theorem dX9_permit_74 : decode cX9_permit 74 = .ok (.iload_n 1, 1) := by decide +kernel
theorem dX9_permit_75 : decode cX9_permit 75 = .ok (.iaload, 1) := by decide +kernel
theorem dX9_permit_76 : decode cX9_permit 76 = .ok (.ireturn, 1) := by decide +kernel
theorem dX9_permit_77 : decode cX9_permit 77 = .ok (.aload_n 0, 1) := by decide +kernel
theorem dX9_permit_78 : decode cX9_permit 78 = .ok (.getfield 34, 3) := by decide +kernel
theorem dX9_permit_81 : decode cX9_permit 81 = .ok (.iload_n 1, 1) := by decide +kernel
theorem dX9_permit_82 : decode cX9_permit 82 = .ok (.iaload, 1) := by decide +kernel
theorem dX9_permit_83 : decode cX9_permit 83 = .ok (.ireturn, 1) := by decide +kernel
theorem dX9_permit_84 : decode cX9_permit 84 = .ok (.aload_n 0, 1) := by decide +kernel
theorem dX9_permit_85 : decode cX9_permit 85 = .ok (.getfield 37, 3) := by decide +kernel
theorem dX9_permit_88 : decode cX9_permit 88 = .ok (.iload_n 1, 1) := by decide +kernel
theorem dX9_permit_89 : decode cX9_permit 89 = .ok (.iaload, 1) := by decide +kernel
theorem dX9_permit_90 : decode cX9_permit 90 = .ok (.ireturn, 1) := by decide +kernel
theorem dX9_permit_91 : decode cX9_permit 91 = .ok (.aload_n 0, 1) := by decide +kernel
theorem dX9_permit_92 : decode cX9_permit 92 = .ok (.getfield 40, 3) := by decide +kernel
theorem dX9_permit_95 : decode cX9_permit 95 = .ok (.iload_n 1, 1) := by decide +kernel
theorem dX9_permit_96 : decode cX9_permit 96 = .ok (.iaload, 1) := by decide +kernel
theorem dX9_permit_97 : decode cX9_permit 97 = .ok (.ireturn, 1) := by decide +kernel
theorem dX9_permit_98 : decode cX9_permit 98 = .ok (.aload_n 0, 1) := by decide +kernel
theorem dX9_permit_99 : decode cX9_permit 99 = .ok (.getfield 43, 3) := by decide +kernel
theorem dX9_permit_102 : decode cX9_permit 102 = .ok (.iload_n 1, 1) := by decide +kernel
theorem dX9_permit_103 : decode cX9_permit 103 = .ok (.iaload, 1) := by decide +kernel
theorem dX9_permit_104 : decode cX9_permit 104 = .ok (.ireturn, 1) := by decide +kernel
theorem dX9_permit_105 : decode cX9_permit 105 = .ok (.aload_n 0, 1) := by decide +kernel
theorem dX9_permit_106 : decode cX9_permit 106 = .ok (.getfield 46, 3) := by decide +kernel
theorem dX9_permit_109 : decode cX9_permit 109 = .ok (.iload_n 1, 1) := by decide +kernel
theorem dX9_permit_110 : decode cX9_permit 110 = .ok (.iaload, 1) := by decide +kernel
theorem dX9_permit_111 : decode cX9_permit 111 = .ok (.ireturn, 1) := by decide +kernel
theorem dX9_permit_112 : decode cX9_permit 112 = .ok (.ldc 153, 2) := by decide +kernel
theorem dX9_permit_114 : decode cX9_permit 114 = .ok (.ireturn, 1) := by decide +kernel
theorem dX9_countOf_0 : decode cX9_countOf 0 = .ok (.iconst 0, 1) := by decide +kernel
theorem dX9_countOf_1 : decode cX9_countOf 1 = .ok (.istore_n 3, 1) := by decide +kernel
theorem dX9_countOf_2 : decode cX9_countOf 2 = .ok (.iconst 0, 1) := by decide +kernel
theorem dX9_countOf_3 : decode cX9_countOf 3 = .ok (.istore 4, 2) := by decide +kernel
theorem dX9_countOf_5 : decode cX9_countOf 5 = .ok (.iload 4, 2) := by decide +kernel
theorem dX9_countOf_7 : decode cX9_countOf 7 = .ok (.aload_n 0, 1) := by decide +kernel
theorem dX9_countOf_8 : decode cX9_countOf 8 = .ok (.getfield 120, 3) := by decide +kernel
theorem dX9_countOf_11 : decode cX9_countOf 11 = .ok (.if_icmp .ge 45, 3) := by decide +kernel
theorem dX9_countOf_14 : decode cX9_countOf 14 = .ok (.iload_n 3, 1) := by decide +kernel
theorem dX9_countOf_15 : decode cX9_countOf 15 = .ok (.aload_n 0, 1) := by decide +kernel
theorem dX9_countOf_16 : decode cX9_countOf 16 = .ok (.getfield 31, 3) := by decide +kernel
theorem dX9_countOf_19 : decode cX9_countOf 19 = .ok (.iload 4, 2) := by decide +kernel
theorem dX9_countOf_21 : decode cX9_countOf 21 = .ok (.iaload, 1) := by decide +kernel
theorem dX9_countOf_22 : decode cX9_countOf 22 = .ok (.iload_n 1, 1) := by decide +kernel
theorem dX9_countOf_23 : decode cX9_countOf 23 = .ok (.if_icmp .ne 24, 3) := by decide +kernel
theorem dX9_countOf_26 : decode cX9_countOf 26 = .ok (.iload_n 2, 1) := by decide +kernel
theorem dX9_countOf_27 : decode cX9_countOf 27 = .ok (.ldc 153, 2) := by decide +kernel
theorem dX9_countOf_29 : decode cX9_countOf 29 = .ok (.if_icmp .eq 14, 3) := by decide +kernel
theorem dX9_countOf_32 : decode cX9_countOf 32 = .ok (.aload_n 0, 1) := by decide +kernel
theorem dX9_countOf_33 : decode cX9_countOf 33 = .ok (.getfield 34, 3) := by decide +kernel
theorem dX9_countOf_36 : decode cX9_countOf 36 = .ok (.iload 4, 2) := by decide +kernel
theorem dX9_countOf_38 : decode cX9_countOf 38 = .ok (.iaload, 1) := by decide +kernel
theorem dX9_countOf_39 : decode cX9_countOf 39 = .ok (.iload_n 2, 1) := by decide +kernel
theorem dX9_countOf_40 : decode cX9_countOf 40 = .ok (.if_icmp .ne 7, 3) := by decide +kernel
theorem dX9_countOf_43 : decode cX9_countOf 43 = .ok (.iconst 1, 1) := by decide +kernel
theorem dX9_countOf_44 : decode cX9_countOf 44 = .ok (.goto 4, 3) := by decide +kernel
theorem dX9_countOf_47 : decode cX9_countOf 47 = .ok (.iconst 0, 1) := by decide +kernel
theorem dX9_countOf_48 : decode cX9_countOf 48 = .ok (.iadd, 1) := by decide +kernel
theorem dX9_countOf_49 : decode cX9_countOf 49 = .ok (.istore_n 3, 1) := by decide +kernel
theorem dX9_countOf_50 : decode cX9_countOf 50 = .ok (.iinc 4 1, 3) := by decide +kernel
theorem dX9_countOf_53 : decode cX9_countOf 53 = .ok (.goto (-48), 3) := by decide +kernel
theorem dX9_countOf_56 : decode cX9_countOf 56 = .ok (.iload_n 3, 1) := by decide +kernel
theorem dX9_countOf_57 : decode cX9_countOf 57 = .ok (.ireturn, 1) := by decide +kernel
set_option maxRecDepth 20000 in
theorem ggX9_told_X9_isWorks : GoodIn wsX9_told wsX9_isWorks := goodIn_r _ [9, 10, 11, 12, 8, 13, 25, 26, 27, 28, 29, 30, 31, 32, 33, 34, 35, 36, 37, 38, 39, 40, 41, 42, 43, 44, 45, 46, 47, 48, 49, 50, 51, 52, 53, 54, 55, 56, 57, 58] (by decide +kernel) (by decide +kernel)
set_option maxRecDepth 20000 in
theorem gX9_told_X9_isWorks : GoodIn wsX9_told (wsV RX9 109 RX9 yX9_isWorks wsX9_isWorks) := goodIn_app (goodIn_of _ (by decide +kernel)) ggX9_told_X9_isWorks
set_option maxRecDepth 20000 in
theorem ggX9_told_X9_holds : GoodIn wsX9_told wsX9_holds := goodIn_r _ [17, 18, 19, 20, 25, 26, 27, 28, 29, 30, 31, 32, 33, 34, 35, 36, 37, 38, 39, 40, 41, 42, 43, 44, 45, 46, 47, 48, 49, 50, 51, 52, 53, 54, 55, 56, 57, 58] (by decide +kernel) (by decide +kernel)
set_option maxRecDepth 20000 in
theorem gX9_told_X9_holds : GoodIn wsX9_told (wsV RX9 137 RX9 yX9_holds wsX9_holds) := goodIn_app (goodIn_of _ (by decide +kernel)) ggX9_told_X9_holds
set_option maxRecDepth 20000 in
theorem ggX9_told_X9_countOf : GoodIn wsX9_told wsX9_countOf := goodIn_r _ [24, 18, 19, 1, 20, 25, 26, 27, 28, 29, 30, 31, 32, 33, 34, 35, 36, 37, 38, 39, 40, 41, 42, 43, 44, 45, 46, 47, 48, 49, 50, 51, 52, 53, 54, 55, 56, 57, 58] (by decide +kernel) (by decide +kernel)
set_option maxRecDepth 20000 in
theorem gX9_told_X9_countOf : GoodIn wsX9_told (wsV RX9 154 RX9 yX9_countOf wsX9_countOf) := goodIn_app (goodIn_of _ (by decide +kernel)) ggX9_told_X9_countOf
theorem dX9_told_0 : decode cX9_told 0 = .ok (.aload_n 0, 1) := by decide +kernel
theorem dX9_told_1 : decode cX9_told 1 = .ok (.iload_n 1, 1) := by decide +kernel
theorem dX9_told_2 : decode cX9_told 2 = .ok (.invokevirtual 109, 3) := by decide +kernel
theorem dX9_told_5 : decode cX9_told 5 = .ok (.ifCond .ne 6, 3) := by decide +kernel
theorem dX9_told_8 : decode cX9_told 8 = .ok (.ldc 153, 2) := by decide +kernel
theorem dX9_told_10 : decode cX9_told 10 = .ok (.ireturn, 1) := by decide +kernel
theorem dX9_told_11 : decode cX9_told 11 = .ok (.iload_n 2, 1) := by decide +kernel
theorem dX9_told_12 : decode cX9_told 12 = .ok (.tableswitch 70 0 4 #[36, 43, 50, 56, 63], 36) := by decide +kernel
theorem dX9_told_48 : decode cX9_told 48 = .ok (.aload_n 0, 1) := by decide +kernel
theorem dX9_told_49 : decode cX9_told 49 = .ok (.getfield 9, 3) := by decide +kernel
theorem dX9_told_52 : decode cX9_told 52 = .ok (.iload_n 1, 1) := by decide +kernel
theorem dX9_told_53 : decode cX9_told 53 = .ok (.iaload, 1) := by decide +kernel
theorem dX9_told_54 : decode cX9_told 54 = .ok (.ireturn, 1) := by decide +kernel
theorem dX9_told_55 : decode cX9_told 55 = .ok (.aload_n 0, 1) := by decide +kernel
theorem dX9_told_56 : decode cX9_told 56 = .ok (.getfield 13, 3) := by decide +kernel
theorem dX9_told_59 : decode cX9_told 59 = .ok (.iload_n 1, 1) := by decide +kernel
theorem dX9_told_60 : decode cX9_told 60 = .ok (.iaload, 1) := by decide +kernel
theorem dX9_told_61 : decode cX9_told 61 = .ok (.ireturn, 1) := by decide +kernel
theorem dX9_told_62 : decode cX9_told 62 = .ok (.aload_n 0, 1) := by decide +kernel
theorem dX9_told_63 : decode cX9_told 63 = .ok (.iload_n 1, 1) := by decide +kernel
theorem dX9_told_64 : decode cX9_told 64 = .ok (.invokevirtual 137, 3) := by decide +kernel
theorem dX9_told_67 : decode cX9_told 67 = .ok (.ireturn, 1) := by decide +kernel
theorem dX9_told_68 : decode cX9_told 68 = .ok (.aload_n 0, 1) := by decide +kernel
theorem dX9_told_69 : decode cX9_told 69 = .ok (.iconst 1, 1) := by decide +kernel
theorem dX9_told_70 : decode cX9_told 70 = .ok (.iload_n 1, 1) := by decide +kernel
theorem dX9_told_71 : decode cX9_told 71 = .ok (.invokevirtual 154, 3) := by decide +kernel
theorem dX9_told_74 : decode cX9_told 74 = .ok (.ireturn, 1) := by decide +kernel
theorem dX9_told_75 : decode cX9_told 75 = .ok (.aload_n 0, 1) := by decide +kernel
theorem dX9_told_76 : decode cX9_told 76 = .ok (.getfield 16, 3) := by decide +kernel
theorem dX9_told_79 : decode cX9_told 79 = .ok (.iload_n 1, 1) := by decide +kernel
theorem dX9_told_80 : decode cX9_told 80 = .ok (.iaload, 1) := by decide +kernel
theorem dX9_told_81 : decode cX9_told 81 = .ok (.ireturn, 1) := by decide +kernel
theorem dX9_told_82 : decode cX9_told 82 = .ok (.ldc 153, 2) := by decide +kernel
theorem dX9_told_84 : decode cX9_told 84 = .ok (.ireturn, 1) := by decide +kernel
set_option maxRecDepth 20000 in
theorem ggX9_cut_X9_isWorks : GoodIn wsX9_cut wsX9_isWorks := goodIn_r _ [8, 9, 10, 11, 7, 12, 13, 14, 15, 16, 17, 18, 19, 20, 21, 22, 23, 24, 25, 26, 27, 28, 29, 30, 31, 32, 33, 34, 35, 36, 37, 38, 39, 40, 41, 42, 43, 44, 45, 46] (by decide +kernel) (by decide +kernel)
set_option maxRecDepth 20000 in
theorem gX9_cut_X9_isWorks : GoodIn wsX9_cut (wsV RX9 109 RX9 yX9_isWorks wsX9_isWorks) := goodIn_app (goodIn_of _ (by decide +kernel)) ggX9_cut_X9_isWorks
set_option maxRecDepth 20000 in
theorem ggX9_cut_X9_in : GoodIn wsX9_cut wsX9_in := goodIn_r _ [12] (by decide +kernel) (by decide +kernel)
set_option maxRecDepth 20000 in
theorem gX9_cut_X9_in : GoodIn wsX9_cut (va_wsS RX9 90 yX9_in wsX9_in) := goodIn_app (goodIn_of _ (by decide +kernel)) ggX9_cut_X9_in
theorem dX9_cut_0 : decode cX9_cut 0 = .ok (.aload_n 0, 1) := by decide +kernel
theorem dX9_cut_1 : decode cX9_cut 1 = .ok (.iload_n 1, 1) := by decide +kernel
theorem dX9_cut_2 : decode cX9_cut 2 = .ok (.invokevirtual 109, 3) := by decide +kernel
theorem dX9_cut_5 : decode cX9_cut 5 = .ok (.ifCond .eq 34, 3) := by decide +kernel
theorem dX9_cut_8 : decode cX9_cut 8 = .ok (.iload_n 2, 1) := by decide +kernel
theorem dX9_cut_9 : decode cX9_cut 9 = .ok (.iconst 1, 1) := by decide +kernel
theorem dX9_cut_10 : decode cX9_cut 10 = .ok (.bipush 99, 2) := by decide +kernel
theorem dX9_cut_12 : decode cX9_cut 12 = .ok (.invokestatic 90, 3) := by decide +kernel
theorem dX9_cut_15 : decode cX9_cut 15 = .ok (.ifCond .eq 24, 3) := by decide +kernel
theorem dX9_cut_18 : decode cX9_cut 18 = .ok (.iload_n 3, 1) := by decide +kernel
theorem dX9_cut_19 : decode cX9_cut 19 = .ok (.iconst 0, 1) := by decide +kernel
theorem dX9_cut_20 : decode cX9_cut 20 = .ok (.sipush 999, 3) := by decide +kernel
theorem dX9_cut_23 : decode cX9_cut 23 = .ok (.invokestatic 90, 3) := by decide +kernel
theorem dX9_cut_26 : decode cX9_cut 26 = .ok (.ifCond .eq 13, 3) := by decide +kernel
theorem dX9_cut_29 : decode cX9_cut 29 = .ok (.aload_n 0, 1) := by decide +kernel
theorem dX9_cut_30 : decode cX9_cut 30 = .ok (.getfield 66, 3) := by decide +kernel
theorem dX9_cut_33 : decode cX9_cut 33 = .ok (.iload_n 1, 1) := by decide +kernel
theorem dX9_cut_34 : decode cX9_cut 34 = .ok (.iaload, 1) := by decide +kernel
theorem dX9_cut_35 : decode cX9_cut 35 = .ok (.iconst 4, 1) := by decide +kernel
theorem dX9_cut_36 : decode cX9_cut 36 = .ok (.if_icmp .ne 5, 3) := by decide +kernel
theorem dX9_cut_39 : decode cX9_cut 39 = .ok (.iconst (-1), 1) := by decide +kernel
theorem dX9_cut_40 : decode cX9_cut 40 = .ok (.ireturn, 1) := by decide +kernel
theorem dX9_cut_41 : decode cX9_cut 41 = .ok (.aload_n 0, 1) := by decide +kernel
theorem dX9_cut_42 : decode cX9_cut 42 = .ok (.getfield 69, 3) := by decide +kernel
theorem dX9_cut_45 : decode cX9_cut 45 = .ok (.iconst 4, 1) := by decide +kernel
theorem dX9_cut_46 : decode cX9_cut 46 = .ok (.iload_n 1, 1) := by decide +kernel
theorem dX9_cut_47 : decode cX9_cut 47 = .ok (.imul, 1) := by decide +kernel
theorem dX9_cut_48 : decode cX9_cut 48 = .ok (.aload_n 0, 1) := by decide +kernel
theorem dX9_cut_49 : decode cX9_cut 49 = .ok (.getfield 66, 3) := by decide +kernel
theorem dX9_cut_52 : decode cX9_cut 52 = .ok (.iload_n 1, 1) := by decide +kernel
theorem dX9_cut_53 : decode cX9_cut 53 = .ok (.iaload, 1) := by decide +kernel
theorem dX9_cut_54 : decode cX9_cut 54 = .ok (.iadd, 1) := by decide +kernel
theorem dX9_cut_55 : decode cX9_cut 55 = .ok (.iload_n 2, 1) := by decide +kernel
theorem dX9_cut_56 : decode cX9_cut 56 = .ok (.iastore, 1) := by decide +kernel
theorem dX9_cut_57 : decode cX9_cut 57 = .ok (.aload_n 0, 1) := by decide +kernel
theorem dX9_cut_58 : decode cX9_cut 58 = .ok (.getfield 72, 3) := by decide +kernel
theorem dX9_cut_61 : decode cX9_cut 61 = .ok (.iconst 4, 1) := by decide +kernel
theorem dX9_cut_62 : decode cX9_cut 62 = .ok (.iload_n 1, 1) := by decide +kernel
theorem dX9_cut_63 : decode cX9_cut 63 = .ok (.imul, 1) := by decide +kernel
theorem dX9_cut_64 : decode cX9_cut 64 = .ok (.aload_n 0, 1) := by decide +kernel
theorem dX9_cut_65 : decode cX9_cut 65 = .ok (.getfield 66, 3) := by decide +kernel
theorem dX9_cut_68 : decode cX9_cut 68 = .ok (.iload_n 1, 1) := by decide +kernel
theorem dX9_cut_69 : decode cX9_cut 69 = .ok (.iaload, 1) := by decide +kernel
theorem dX9_cut_70 : decode cX9_cut 70 = .ok (.iadd, 1) := by decide +kernel
theorem dX9_cut_71 : decode cX9_cut 71 = .ok (.iload_n 3, 1) := by decide +kernel
theorem dX9_cut_72 : decode cX9_cut 72 = .ok (.iastore, 1) := by decide +kernel
theorem dX9_cut_73 : decode cX9_cut 73 = .ok (.aload_n 0, 1) := by decide +kernel
theorem dX9_cut_74 : decode cX9_cut 74 = .ok (.getfield 66, 3) := by decide +kernel
theorem dX9_cut_77 : decode cX9_cut 77 = .ok (.iload_n 1, 1) := by decide +kernel
theorem dX9_cut_78 : decode cX9_cut 78 = .ok (.dup2, 1) := by decide +kernel
theorem dX9_cut_79 : decode cX9_cut 79 = .ok (.iaload, 1) := by decide +kernel
theorem dX9_cut_80 : decode cX9_cut 80 = .ok (.iconst 1, 1) := by decide +kernel
theorem dX9_cut_81 : decode cX9_cut 81 = .ok (.iadd, 1) := by decide +kernel
theorem dX9_cut_82 : decode cX9_cut 82 = .ok (.iastore, 1) := by decide +kernel
theorem dX9_cut_83 : decode cX9_cut 83 = .ok (.aload_n 0, 1) := by decide +kernel
theorem dX9_cut_84 : decode cX9_cut 84 = .ok (.getfield 66, 3) := by decide +kernel
theorem dX9_cut_87 : decode cX9_cut 87 = .ok (.iload_n 1, 1) := by decide +kernel
theorem dX9_cut_88 : decode cX9_cut 88 = .ok (.iaload, 1) := by decide +kernel
theorem dX9_cut_89 : decode cX9_cut 89 = .ok (.ireturn, 1) := by decide +kernel
theorem dX9_cutsAll_0 : decode cX9_cutsAll 0 = .ok (.iload_n 1, 1) := by decide +kernel
theorem dX9_cutsAll_1 : decode cX9_cutsAll 1 = .ok (.istore_n 2, 1) := by decide +kernel
theorem dX9_cutsAll_2 : decode cX9_cutsAll 2 = .ok (.aload_n 0, 1) := by decide +kernel
theorem dX9_cutsAll_3 : decode cX9_cutsAll 3 = .ok (.iconst 0, 1) := by decide +kernel
theorem dX9_cutsAll_4 : decode cX9_cutsAll 4 = .ok (.putfield 157, 3) := by decide +kernel
theorem dX9_cutsAll_7 : decode cX9_cutsAll 7 = .ok (.aload_n 0, 1) := by decide +kernel
theorem dX9_cutsAll_8 : decode cX9_cutsAll 8 = .ok (.iconst 0, 1) := by decide +kernel
theorem dX9_cutsAll_9 : decode cX9_cutsAll 9 = .ok (.putfield 160, 3) := by decide +kernel
theorem dX9_cutsAll_12 : decode cX9_cutsAll 12 = .ok (.iconst 0, 1) := by decide +kernel
theorem dX9_cutsAll_13 : decode cX9_cutsAll 13 = .ok (.istore_n 3, 1) := by decide +kernel
theorem dX9_cutsAll_14 : decode cX9_cutsAll 14 = .ok (.iload_n 3, 1) := by decide +kernel
theorem dX9_cutsAll_15 : decode cX9_cutsAll 15 = .ok (.bipush 10, 2) := by decide +kernel
theorem dX9_cutsAll_17 : decode cX9_cutsAll 17 = .ok (.if_icmp .ge 16, 3) := by decide +kernel
theorem dX9_cutsAll_20 : decode cX9_cutsAll 20 = .ok (.aload_n 0, 1) := by decide +kernel
theorem dX9_cutsAll_21 : decode cX9_cutsAll 21 = .ok (.getfield 84, 3) := by decide +kernel
theorem dX9_cutsAll_24 : decode cX9_cutsAll 24 = .ok (.iload_n 3, 1) := by decide +kernel
theorem dX9_cutsAll_25 : decode cX9_cutsAll 25 = .ok (.iconst 0, 1) := by decide +kernel
theorem dX9_cutsAll_26 : decode cX9_cutsAll 26 = .ok (.iastore, 1) := by decide +kernel
theorem dX9_cutsAll_27 : decode cX9_cutsAll 27 = .ok (.iinc 3 1, 3) := by decide +kernel
theorem dX9_cutsAll_30 : decode cX9_cutsAll 30 = .ok (.goto (-16), 3) := by decide +kernel
theorem dX9_cutsAll_33 : decode cX9_cutsAll 33 = .ok (.iconst 0, 1) := by decide +kernel
theorem dX9_cutsAll_34 : decode cX9_cutsAll 34 = .ok (.istore_n 3, 1) := by decide +kernel
theorem dX9_cutsAll_35 : decode cX9_cutsAll 35 = .ok (.iload_n 3, 1) := by decide +kernel
theorem dX9_cutsAll_36 : decode cX9_cutsAll 36 = .ok (.sipush 999, 3) := by decide +kernel
theorem dX9_cutsAll_39 : decode cX9_cutsAll 39 = .ok (.if_icmp .gt 124, 3) := by decide +kernel
theorem dX9_cutsAll_42 : decode cX9_cutsAll 42 = .ok (.iload_n 2, 1) := by decide +kernel
theorem dX9_cutsAll_43 : decode cX9_cutsAll 43 = .ok (.ifCond .le 120, 3) := by decide +kernel
theorem dX9_cutsAll_46 : decode cX9_cutsAll 46 = .ok (.iconst 0, 1) := by decide +kernel
theorem dX9_cutsAll_47 : decode cX9_cutsAll 47 = .ok (.istore 4, 2) := by decide +kernel
theorem dX9_cutsAll_49 : decode cX9_cutsAll 49 = .ok (.iload 4, 2) := by decide +kernel
theorem dX9_cutsAll_51 : decode cX9_cutsAll 51 = .ok (.bipush 40, 2) := by decide +kernel
theorem dX9_cutsAll_53 : decode cX9_cutsAll 53 = .ok (.if_icmp .ge 104, 3) := by decide +kernel
theorem dX9_cutsAll_56 : decode cX9_cutsAll 56 = .ok (.iload 4, 2) := by decide +kernel
theorem dX9_cutsAll_58 : decode cX9_cutsAll 58 = .ok (.iconst 4, 1) := by decide +kernel
theorem dX9_cutsAll_59 : decode cX9_cutsAll 59 = .ok (.irem, 1) := by decide +kernel
theorem dX9_cutsAll_60 : decode cX9_cutsAll 60 = .ok (.aload_n 0, 1) := by decide +kernel
theorem dX9_cutsAll_61 : decode cX9_cutsAll 61 = .ok (.getfield 66, 3) := by decide +kernel
theorem dX9_cutsAll_64 : decode cX9_cutsAll 64 = .ok (.iload 4, 2) := by decide +kernel
theorem dX9_cutsAll_66 : decode cX9_cutsAll 66 = .ok (.iconst 4, 1) := by decide +kernel
theorem dX9_cutsAll_67 : decode cX9_cutsAll 67 = .ok (.idiv, 1) := by decide +kernel
theorem dX9_cutsAll_68 : decode cX9_cutsAll 68 = .ok (.iaload, 1) := by decide +kernel
theorem dX9_cutsAll_69 : decode cX9_cutsAll 69 = .ok (.if_icmp .ge 82, 3) := by decide +kernel
theorem dX9_cutsAll_72 : decode cX9_cutsAll 72 = .ok (.aload_n 0, 1) := by decide +kernel
theorem dX9_cutsAll_73 : decode cX9_cutsAll 73 = .ok (.getfield 72, 3) := by decide +kernel
theorem dX9_cutsAll_76 : decode cX9_cutsAll 76 = .ok (.iload 4, 2) := by decide +kernel
theorem dX9_cutsAll_78 : decode cX9_cutsAll 78 = .ok (.iaload, 1) := by decide +kernel
theorem dX9_cutsAll_79 : decode cX9_cutsAll 79 = .ok (.iload_n 3, 1) := by decide +kernel
theorem dX9_cutsAll_80 : decode cX9_cutsAll 80 = .ok (.if_icmp .ne 71, 3) := by decide +kernel
theorem dX9_cutsAll_83 : decode cX9_cutsAll 83 = .ok (.iload_n 2, 1) := by decide +kernel
theorem dX9_cutsAll_84 : decode cX9_cutsAll 84 = .ok (.ifCond .ne 6, 3) := by decide +kernel
theorem dX9_cutsAll_87 : decode cX9_cutsAll 87 = .ok (.goto 64, 3) := by decide +kernel
theorem dX9_cutsAll_90 : decode cX9_cutsAll 90 = .ok (.aload_n 0, 1) := by decide +kernel
theorem dX9_cutsAll_91 : decode cX9_cutsAll 91 = .ok (.getfield 69, 3) := by decide +kernel
theorem dX9_cutsAll_94 : decode cX9_cutsAll 94 = .ok (.iload 4, 2) := by decide +kernel
theorem dX9_cutsAll_96 : decode cX9_cutsAll 96 = .ok (.iaload, 1) := by decide +kernel
theorem dX9_cutsAll_97 : decode cX9_cutsAll 97 = .ok (.iload_n 2, 1) := by decide +kernel
theorem dX9_cutsAll_98 : decode cX9_cutsAll 98 = .ok (.if_icmp .ge 13, 3) := by decide +kernel
theorem dX9_cutsAll_101 : decode cX9_cutsAll 101 = .ok (.aload_n 0, 1) := by decide +kernel
theorem dX9_cutsAll_102 : decode cX9_cutsAll 102 = .ok (.getfield 69, 3) := by decide +kernel
theorem dX9_cutsAll_105 : decode cX9_cutsAll 105 = .ok (.iload 4, 2) := by decide +kernel
theorem dX9_cutsAll_107 : decode cX9_cutsAll 107 = .ok (.iaload, 1) := by decide +kernel
theorem dX9_cutsAll_108 : decode cX9_cutsAll 108 = .ok (.goto 4, 3) := by decide +kernel
theorem dX9_cutsAll_111 : decode cX9_cutsAll 111 = .ok (.iload_n 2, 1) := by decide +kernel
theorem dX9_cutsAll_112 : decode cX9_cutsAll 112 = .ok (.istore 5, 2) := by decide +kernel
theorem dX9_cutsAll_114 : decode cX9_cutsAll 114 = .ok (.aload_n 0, 1) := by decide +kernel
theorem dX9_cutsAll_115 : decode cX9_cutsAll 115 = .ok (.getfield 84, 3) := by decide +kernel
theorem dX9_cutsAll_118 : decode cX9_cutsAll 118 = .ok (.iload 4, 2) := by decide +kernel
theorem dX9_cutsAll_120 : decode cX9_cutsAll 120 = .ok (.iconst 4, 1) := by decide +kernel
theorem dX9_cutsAll_121 : decode cX9_cutsAll 121 = .ok (.idiv, 1) := by decide +kernel
theorem dX9_cutsAll_122 : decode cX9_cutsAll 122 = .ok (.dup2, 1) := by decide +kernel
theorem dX9_cutsAll_123 : decode cX9_cutsAll 123 = .ok (.iaload, 1) := by decide +kernel
theorem dX9_cutsAll_124 : decode cX9_cutsAll 124 = .ok (.iload 5, 2) := by decide +kernel
theorem dX9_cutsAll_126 : decode cX9_cutsAll 126 = .ok (.iadd, 1) := by decide +kernel
theorem dX9_cutsAll_127 : decode cX9_cutsAll 127 = .ok (.iastore, 1) := by decide +kernel
theorem dX9_cutsAll_128 : decode cX9_cutsAll 128 = .ok (.aload_n 0, 1) := by decide +kernel
theorem dX9_cutsAll_129 : decode cX9_cutsAll 129 = .ok (.dup, 1) := by decide +kernel
theorem dX9_cutsAll_130 : decode cX9_cutsAll 130 = .ok (.getfield 157, 3) := by decide +kernel
theorem dX9_cutsAll_133 : decode cX9_cutsAll 133 = .ok (.iload 5, 2) := by decide +kernel
theorem dX9_cutsAll_135 : decode cX9_cutsAll 135 = .ok (.iload_n 3, 1) := by decide +kernel
theorem dX9_cutsAll_136 : decode cX9_cutsAll 136 = .ok (.imul, 1) := by decide +kernel
theorem dX9_cutsAll_137 : decode cX9_cutsAll 137 = .ok (.iadd, 1) := by decide +kernel
theorem dX9_cutsAll_138 : decode cX9_cutsAll 138 = .ok (.putfield 157, 3) := by decide +kernel
theorem dX9_cutsAll_141 : decode cX9_cutsAll 141 = .ok (.aload_n 0, 1) := by decide +kernel
theorem dX9_cutsAll_142 : decode cX9_cutsAll 142 = .ok (.iload_n 3, 1) := by decide +kernel
theorem dX9_cutsAll_143 : decode cX9_cutsAll 143 = .ok (.putfield 160, 3) := by decide +kernel
theorem dX9_cutsAll_146 : decode cX9_cutsAll 146 = .ok (.iload_n 2, 1) := by decide +kernel
theorem dX9_cutsAll_147 : decode cX9_cutsAll 147 = .ok (.iload 5, 2) := by decide +kernel
theorem dX9_cutsAll_149 : decode cX9_cutsAll 149 = .ok (.isub, 1) := by decide +kernel
theorem dX9_cutsAll_150 : decode cX9_cutsAll 150 = .ok (.istore_n 2, 1) := by decide +kernel
theorem dX9_cutsAll_151 : decode cX9_cutsAll 151 = .ok (.iinc 4 1, 3) := by decide +kernel
theorem dX9_cutsAll_154 : decode cX9_cutsAll 154 = .ok (.goto (-105), 3) := by decide +kernel
theorem dX9_cutsAll_157 : decode cX9_cutsAll 157 = .ok (.iinc 3 1, 3) := by decide +kernel
theorem dX9_cutsAll_160 : decode cX9_cutsAll 160 = .ok (.goto (-125), 3) := by decide +kernel
theorem dX9_cutsAll_163 : decode cX9_cutsAll 163 = .ok (.iload_n 1, 1) := by decide +kernel
theorem dX9_cutsAll_164 : decode cX9_cutsAll 164 = .ok (.ifCond .lt 11, 3) := by decide +kernel
theorem dX9_cutsAll_167 : decode cX9_cutsAll 167 = .ok (.iload_n 2, 1) := by decide +kernel
theorem dX9_cutsAll_168 : decode cX9_cutsAll 168 = .ok (.ifCond .ne 7, 3) := by decide +kernel
theorem dX9_cutsAll_171 : decode cX9_cutsAll 171 = .ok (.iconst 1, 1) := by decide +kernel
theorem dX9_cutsAll_172 : decode cX9_cutsAll 172 = .ok (.goto 4, 3) := by decide +kernel
theorem dX9_cutsAll_175 : decode cX9_cutsAll 175 = .ok (.iconst 0, 1) := by decide +kernel
theorem dX9_cutsAll_176 : decode cX9_cutsAll 176 = .ok (.ireturn, 1) := by decide +kernel
set_option maxRecDepth 20000 in
theorem ggX9_least_X9_cutsAll : GoodIn wsX9_least wsX9_cutsAll := goodIn_r _ [6, 1, 7, 8, 9, 10, 11, 12, 13, 14, 15, 16, 17, 18, 19, 20, 21, 22, 23, 24, 25, 26, 27, 28, 29, 30, 31, 32, 33, 34, 35, 36, 37, 38, 39, 40, 41, 42, 43, 44, 45] (by decide +kernel) (by decide +kernel)
set_option maxRecDepth 20000 in
theorem gX9_least_X9_cutsAll : GoodIn wsX9_least (wsV RX9 163 RX9 yX9_cutsAll wsX9_cutsAll) := goodIn_app (goodIn_of _ (by decide +kernel)) ggX9_least_X9_cutsAll
theorem dX9_least_0 : decode cX9_least 0 = .ok (.iload_n 1, 1) := by decide +kernel
theorem dX9_least_1 : decode cX9_least 1 = .ok (.ifCond .lt 18, 3) := by decide +kernel
theorem dX9_least_4 : decode cX9_least 4 = .ok (.aload_n 0, 1) := by decide +kernel
theorem dX9_least_5 : decode cX9_least 5 = .ok (.iload_n 1, 1) := by decide +kernel
theorem dX9_least_6 : decode cX9_least 6 = .ok (.invokevirtual 163, 3) := by decide +kernel
theorem dX9_least_9 : decode cX9_least 9 = .ok (.ifCond .eq 10, 3) := by decide +kernel
theorem dX9_least_12 : decode cX9_least 12 = .ok (.aload_n 0, 1) := by decide +kernel
theorem dX9_least_13 : decode cX9_least 13 = .ok (.getfield 157, 3) := by decide +kernel
theorem dX9_least_16 : decode cX9_least 16 = .ok (.goto 4, 3) := by decide +kernel
theorem dX9_least_19 : decode cX9_least 19 = .ok (.iconst (-1), 1) := by decide +kernel
theorem dX9_least_20 : decode cX9_least 20 = .ok (.ireturn, 1) := by decide +kernel
set_option maxRecDepth 20000 in
theorem ggX9_margin_X9_cutsAll : GoodIn wsX9_margin wsX9_cutsAll := goodIn_r _ [6, 7, 1, 8, 9, 10, 11, 12, 13, 14, 15, 16, 17, 18, 19, 20, 21, 22, 23, 24, 25, 26, 27, 28, 29, 30, 31, 32, 33, 34, 35, 36, 37, 38, 39, 40, 41, 42, 43, 44, 45] (by decide +kernel) (by decide +kernel)
set_option maxRecDepth 20000 in
theorem gX9_margin_X9_cutsAll : GoodIn wsX9_margin (wsV RX9 163 RX9 yX9_cutsAll wsX9_cutsAll) := goodIn_app (goodIn_of _ (by decide +kernel)) ggX9_margin_X9_cutsAll
theorem dX9_margin_0 : decode cX9_margin 0 = .ok (.iload_n 1, 1) := by decide +kernel
theorem dX9_margin_1 : decode cX9_margin 1 = .ok (.ifCond .lt 18, 3) := by decide +kernel
theorem dX9_margin_4 : decode cX9_margin 4 = .ok (.aload_n 0, 1) := by decide +kernel
theorem dX9_margin_5 : decode cX9_margin 5 = .ok (.iload_n 1, 1) := by decide +kernel
theorem dX9_margin_6 : decode cX9_margin 6 = .ok (.invokevirtual 163, 3) := by decide +kernel
theorem dX9_margin_9 : decode cX9_margin 9 = .ok (.ifCond .eq 10, 3) := by decide +kernel
theorem dX9_margin_12 : decode cX9_margin 12 = .ok (.aload_n 0, 1) := by decide +kernel
theorem dX9_margin_13 : decode cX9_margin 13 = .ok (.getfield 160, 3) := by decide +kernel
theorem dX9_margin_16 : decode cX9_margin 16 = .ok (.goto 4, 3) := by decide +kernel
theorem dX9_margin_19 : decode cX9_margin 19 = .ok (.iconst (-1), 1) := by decide +kernel
theorem dX9_margin_20 : decode cX9_margin 20 = .ok (.ireturn, 1) := by decide +kernel
set_option maxRecDepth 20000 in
theorem ggX9_cuts_X9_isWorks : GoodIn wsX9_cuts wsX9_isWorks := goodIn_r _ [6, 7, 8, 9, 5, 10, 20, 21, 22, 23, 24, 25, 26, 27, 28, 29, 30, 31, 32, 33, 34, 35, 36, 37, 38, 39, 40, 41, 42, 43, 44, 45, 46, 47, 48, 49, 50, 51, 52, 53] (by decide +kernel) (by decide +kernel)
set_option maxRecDepth 20000 in
theorem gX9_cuts_X9_isWorks : GoodIn wsX9_cuts (wsV RX9 109 RX9 yX9_isWorks wsX9_isWorks) := goodIn_app (goodIn_of _ (by decide +kernel)) ggX9_cuts_X9_isWorks
set_option maxRecDepth 20000 in
theorem ggX9_cuts_X9_cutsAll : GoodIn wsX9_cuts wsX9_cutsAll := goodIn_r _ [14, 15, 16, 1, 17, 18, 19, 20, 21, 22, 23, 24, 25, 26, 27, 28, 29, 30, 31, 32, 33, 34, 35, 36, 37, 38, 39, 40, 41, 42, 43, 44, 45, 46, 47, 48, 49, 50, 51, 52, 53] (by decide +kernel) (by decide +kernel)
set_option maxRecDepth 20000 in
theorem gX9_cuts_X9_cutsAll : GoodIn wsX9_cuts (wsV RX9 163 RX9 yX9_cutsAll wsX9_cutsAll) := goodIn_app (goodIn_of _ (by decide +kernel)) ggX9_cuts_X9_cutsAll
theorem dX9_cuts_0 : decode cX9_cuts 0 = .ok (.iload_n 1, 1) := by decide +kernel
theorem dX9_cuts_1 : decode cX9_cuts 1 = .ok (.ifCond .lt 28, 3) := by decide +kernel
theorem dX9_cuts_4 : decode cX9_cuts 4 = .ok (.aload_n 0, 1) := by decide +kernel
theorem dX9_cuts_5 : decode cX9_cuts 5 = .ok (.iload_n 2, 1) := by decide +kernel
theorem dX9_cuts_6 : decode cX9_cuts 6 = .ok (.invokevirtual 109, 3) := by decide +kernel
theorem dX9_cuts_9 : decode cX9_cuts 9 = .ok (.ifCond .eq 20, 3) := by decide +kernel
theorem dX9_cuts_12 : decode cX9_cuts 12 = .ok (.aload_n 0, 1) := by decide +kernel
theorem dX9_cuts_13 : decode cX9_cuts 13 = .ok (.iload_n 1, 1) := by decide +kernel
theorem dX9_cuts_14 : decode cX9_cuts 14 = .ok (.invokevirtual 163, 3) := by decide +kernel
theorem dX9_cuts_17 : decode cX9_cuts 17 = .ok (.ifCond .eq 12, 3) := by decide +kernel
theorem dX9_cuts_20 : decode cX9_cuts 20 = .ok (.aload_n 0, 1) := by decide +kernel
theorem dX9_cuts_21 : decode cX9_cuts 21 = .ok (.getfield 84, 3) := by decide +kernel
theorem dX9_cuts_24 : decode cX9_cuts 24 = .ok (.iload_n 2, 1) := by decide +kernel
theorem dX9_cuts_25 : decode cX9_cuts 25 = .ok (.iaload, 1) := by decide +kernel
theorem dX9_cuts_26 : decode cX9_cuts 26 = .ok (.goto 4, 3) := by decide +kernel
theorem dX9_cuts_29 : decode cX9_cuts 29 = .ok (.iconst (-1), 1) := by decide +kernel
theorem dX9_cuts_30 : decode cX9_cuts 30 = .ok (.ireturn, 1) := by decide +kernel
set_option maxRecDepth 20000 in
theorem ggX9_count_X9_countOf : GoodIn wsX9_count wsX9_countOf := goodIn_r _ [13, 3, 14, 4, 15, 20, 21, 22, 23, 24, 25, 26, 27, 28, 29, 30, 31, 32, 33, 34, 35, 36, 37, 38, 39, 40, 41, 42, 43, 44, 45, 46, 47, 48, 49, 50, 51, 52, 53] (by decide +kernel) (by decide +kernel)
set_option maxRecDepth 20000 in
theorem gX9_count_X9_countOf : GoodIn wsX9_count (wsV RX9 154 RX9 yX9_countOf wsX9_countOf) := goodIn_app (goodIn_of _ (by decide +kernel)) ggX9_count_X9_countOf
set_option maxRecDepth 20000 in
theorem ggX9_count_X9_holds : GoodIn wsX9_count wsX9_holds := goodIn_r _ [19, 3, 14, 15, 20, 21, 22, 23, 24, 25, 26, 27, 28, 29, 30, 31, 32, 33, 34, 35, 36, 37, 38, 39, 40, 41, 42, 43, 44, 45, 46, 47, 48, 49, 50, 51, 52, 53] (by decide +kernel) (by decide +kernel)
set_option maxRecDepth 20000 in
theorem gX9_count_X9_holds : GoodIn wsX9_count (wsV RX9 137 RX9 yX9_holds wsX9_holds) := goodIn_app (goodIn_of _ (by decide +kernel)) ggX9_count_X9_holds
theorem dX9_count_0 : decode cX9_count 0 = .ok (.iconst 0, 1) := by decide +kernel
theorem dX9_count_1 : decode cX9_count 1 = .ok (.istore_n 2, 1) := by decide +kernel
theorem dX9_count_2 : decode cX9_count 2 = .ok (.iload_n 1, 1) := by decide +kernel
theorem dX9_count_3 : decode cX9_count 3 = .ok (.tableswitch 158 0 10 #[57, 62, 67, 72, 86, 92, 100, 116, 121, 126, 153], 57) := by decide +kernel
theorem dX9_count_60 : decode cX9_count 60 = .ok (.aload_n 0, 1) := by decide +kernel
theorem dX9_count_61 : decode cX9_count 61 = .ok (.getfield 113, 3) := by decide +kernel
theorem dX9_count_64 : decode cX9_count 64 = .ok (.ireturn, 1) := by decide +kernel
theorem dX9_count_65 : decode cX9_count 65 = .ok (.aload_n 0, 1) := by decide +kernel
theorem dX9_count_66 : decode cX9_count 66 = .ok (.getfield 87, 3) := by decide +kernel
theorem dX9_count_69 : decode cX9_count 69 = .ok (.ireturn, 1) := by decide +kernel
theorem dX9_count_70 : decode cX9_count 70 = .ok (.aload_n 0, 1) := by decide +kernel
theorem dX9_count_71 : decode cX9_count 71 = .ok (.getfield 120, 3) := by decide +kernel
theorem dX9_count_74 : decode cX9_count 74 = .ok (.ireturn, 1) := by decide +kernel
theorem dX9_count_75 : decode cX9_count 75 = .ok (.aload_n 0, 1) := by decide +kernel
theorem dX9_count_76 : decode cX9_count 76 = .ok (.iconst 0, 1) := by decide +kernel
theorem dX9_count_77 : decode cX9_count 77 = .ok (.ldc 153, 2) := by decide +kernel
theorem dX9_count_79 : decode cX9_count 79 = .ok (.invokevirtual 154, 3) := by decide +kernel
theorem dX9_count_82 : decode cX9_count 82 = .ok (.aload_n 0, 1) := by decide +kernel
theorem dX9_count_83 : decode cX9_count 83 = .ok (.iconst (-1), 1) := by decide +kernel
theorem dX9_count_84 : decode cX9_count 84 = .ok (.invokevirtual 137, 3) := by decide +kernel
theorem dX9_count_87 : decode cX9_count 87 = .ok (.isub, 1) := by decide +kernel
theorem dX9_count_88 : decode cX9_count 88 = .ok (.ireturn, 1) := by decide +kernel
theorem dX9_count_89 : decode cX9_count 89 = .ok (.aload_n 0, 1) := by decide +kernel
theorem dX9_count_90 : decode cX9_count 90 = .ok (.iconst (-1), 1) := by decide +kernel
theorem dX9_count_91 : decode cX9_count 91 = .ok (.invokevirtual 137, 3) := by decide +kernel
theorem dX9_count_94 : decode cX9_count 94 = .ok (.ireturn, 1) := by decide +kernel
theorem dX9_count_95 : decode cX9_count 95 = .ok (.aload_n 0, 1) := by decide +kernel
theorem dX9_count_96 : decode cX9_count 96 = .ok (.iconst 1, 1) := by decide +kernel
theorem dX9_count_97 : decode cX9_count 97 = .ok (.ldc 153, 2) := by decide +kernel
theorem dX9_count_99 : decode cX9_count 99 = .ok (.invokevirtual 154, 3) := by decide +kernel
theorem dX9_count_102 : decode cX9_count 102 = .ok (.ireturn, 1) := by decide +kernel
theorem dX9_count_103 : decode cX9_count 103 = .ok (.aload_n 0, 1) := by decide +kernel
theorem dX9_count_104 : decode cX9_count 104 = .ok (.iconst 2, 1) := by decide +kernel
theorem dX9_count_105 : decode cX9_count 105 = .ok (.ldc 153, 2) := by decide +kernel
theorem dX9_count_107 : decode cX9_count 107 = .ok (.invokevirtual 154, 3) := by decide +kernel
theorem dX9_count_110 : decode cX9_count 110 = .ok (.aload_n 0, 1) := by decide +kernel
theorem dX9_count_111 : decode cX9_count 111 = .ok (.iconst 3, 1) := by decide +kernel
theorem dX9_count_112 : decode cX9_count 112 = .ok (.ldc 153, 2) := by decide +kernel
theorem dX9_count_114 : decode cX9_count 114 = .ok (.invokevirtual 154, 3) := by decide +kernel
theorem dX9_count_117 : decode cX9_count 117 = .ok (.iadd, 1) := by decide +kernel
theorem dX9_count_118 : decode cX9_count 118 = .ok (.ireturn, 1) := by decide +kernel
theorem dX9_count_119 : decode cX9_count 119 = .ok (.aload_n 0, 1) := by decide +kernel
theorem dX9_count_120 : decode cX9_count 120 = .ok (.getfield 134, 3) := by decide +kernel
theorem dX9_count_123 : decode cX9_count 123 = .ok (.ireturn, 1) := by decide +kernel
theorem dX9_count_124 : decode cX9_count 124 = .ok (.aload_n 0, 1) := by decide +kernel
theorem dX9_count_125 : decode cX9_count 125 = .ok (.getfield 144, 3) := by decide +kernel
theorem dX9_count_128 : decode cX9_count 128 = .ok (.ireturn, 1) := by decide +kernel
theorem dX9_count_129 : decode cX9_count 129 = .ok (.iconst 0, 1) := by decide +kernel
theorem dX9_count_130 : decode cX9_count 130 = .ok (.istore_n 3, 1) := by decide +kernel
theorem dX9_count_131 : decode cX9_count 131 = .ok (.iload_n 3, 1) := by decide +kernel
theorem dX9_count_132 : decode cX9_count 132 = .ok (.aload_n 0, 1) := by decide +kernel
theorem dX9_count_133 : decode cX9_count 133 = .ok (.getfield 87, 3) := by decide +kernel
theorem dX9_count_136 : decode cX9_count 136 = .ok (.if_icmp .ge 18, 3) := by decide +kernel
theorem dX9_count_139 : decode cX9_count 139 = .ok (.iload_n 2, 1) := by decide +kernel
theorem dX9_count_140 : decode cX9_count 140 = .ok (.aload_n 0, 1) := by decide +kernel
theorem dX9_count_141 : decode cX9_count 141 = .ok (.getfield 16, 3) := by decide +kernel
theorem dX9_count_144 : decode cX9_count 144 = .ok (.iload_n 3, 1) := by decide +kernel
theorem dX9_count_145 : decode cX9_count 145 = .ok (.iaload, 1) := by decide +kernel
theorem dX9_count_146 : decode cX9_count 146 = .ok (.iadd, 1) := by decide +kernel
theorem dX9_count_147 : decode cX9_count 147 = .ok (.istore_n 2, 1) := by decide +kernel
theorem dX9_count_148 : decode cX9_count 148 = .ok (.iinc 3 1, 3) := by decide +kernel
theorem dX9_count_151 : decode cX9_count 151 = .ok (.goto (-20), 3) := by decide +kernel
theorem dX9_count_154 : decode cX9_count 154 = .ok (.iload_n 2, 1) := by decide +kernel
theorem dX9_count_155 : decode cX9_count 155 = .ok (.ireturn, 1) := by decide +kernel
theorem dX9_count_156 : decode cX9_count 156 = .ok (.aload_n 0, 1) := by decide +kernel
theorem dX9_count_157 : decode cX9_count 157 = .ok (.getfield 147, 3) := by decide +kernel
theorem dX9_count_160 : decode cX9_count 160 = .ok (.ireturn, 1) := by decide +kernel
theorem dX9_count_161 : decode cX9_count 161 = .ok (.iconst (-1), 1) := by decide +kernel
theorem dX9_count_162 : decode cX9_count 162 = .ok (.ireturn, 1) := by decide +kernel
theorem dJ9_max_7cf53_0 : decode cJ9_max_7cf53 0 = .ok (.iload_n 0, 1) := by decide +kernel
theorem dJ9_max_7cf53_1 : decode cJ9_max_7cf53 1 = .ok (.iload_n 1, 1) := by decide +kernel
theorem dJ9_max_7cf53_2 : decode cJ9_max_7cf53 2 = .ok (.if_icmp .lt 7, 3) := by decide +kernel
theorem dJ9_max_7cf53_5 : decode cJ9_max_7cf53 5 = .ok (.iload_n 0, 1) := by decide +kernel
theorem dJ9_max_7cf53_6 : decode cJ9_max_7cf53 6 = .ok (.goto 4, 3) := by decide +kernel
theorem dJ9_max_7cf53_9 : decode cJ9_max_7cf53 9 = .ok (.iload_n 1, 1) := by decide +kernel
theorem dJ9_max_7cf53_10 : decode cJ9_max_7cf53 10 = .ok (.ireturn, 1) := by decide +kernel
theorem dJ9_min_7cf53_0 : decode cJ9_min_7cf53 0 = .ok (.iload_n 0, 1) := by decide +kernel
theorem dJ9_min_7cf53_1 : decode cJ9_min_7cf53 1 = .ok (.iload_n 1, 1) := by decide +kernel
theorem dJ9_min_7cf53_2 : decode cJ9_min_7cf53 2 = .ok (.if_icmp .gt 7, 3) := by decide +kernel
theorem dJ9_min_7cf53_5 : decode cJ9_min_7cf53 5 = .ok (.iload_n 0, 1) := by decide +kernel
theorem dJ9_min_7cf53_6 : decode cJ9_min_7cf53 6 = .ok (.goto 4, 3) := by decide +kernel
theorem dJ9_min_7cf53_9 : decode cJ9_min_7cf53 9 = .ok (.iload_n 1, 1) := by decide +kernel
theorem dJ9_min_7cf53_10 : decode cJ9_min_7cf53 10 = .ok (.ireturn, 1) := by decide +kernel
theorem dJ7_fill_53178_0 : decode cJ7_fill_53178 0 = .ok (.iconst 0, 1) := by decide +kernel
theorem dJ7_fill_53178_1 : decode cJ7_fill_53178 1 = .ok (.istore_n 2, 1) := by decide +kernel
theorem dJ7_fill_53178_2 : decode cJ7_fill_53178 2 = .ok (.aload_n 0, 1) := by decide +kernel
theorem dJ7_fill_53178_3 : decode cJ7_fill_53178 3 = .ok (.arraylength, 1) := by decide +kernel
theorem dJ7_fill_53178_4 : decode cJ7_fill_53178 4 = .ok (.istore_n 3, 1) := by decide +kernel
theorem dJ7_fill_53178_5 : decode cJ7_fill_53178 5 = .ok (.iload_n 2, 1) := by decide +kernel
theorem dJ7_fill_53178_6 : decode cJ7_fill_53178 6 = .ok (.iload_n 3, 1) := by decide +kernel
theorem dJ7_fill_53178_7 : decode cJ7_fill_53178 7 = .ok (.if_icmp .ge 13, 3) := by decide +kernel
theorem dJ7_fill_53178_10 : decode cJ7_fill_53178 10 = .ok (.aload_n 0, 1) := by decide +kernel
theorem dJ7_fill_53178_11 : decode cJ7_fill_53178 11 = .ok (.iload_n 2, 1) := by decide +kernel
theorem dJ7_fill_53178_12 : decode cJ7_fill_53178 12 = .ok (.iload_n 1, 1) := by decide +kernel
theorem dJ7_fill_53178_13 : decode cJ7_fill_53178 13 = .ok (.iastore, 1) := by decide +kernel
theorem dJ7_fill_53178_14 : decode cJ7_fill_53178 14 = .ok (.iinc 2 1, 3) := by decide +kernel
theorem dJ7_fill_53178_17 : decode cJ7_fill_53178 17 = .ok (.goto (-12), 3) := by decide +kernel
theorem dJ7_fill_53178_20 : decode cJ7_fill_53178 20 = .ok (.return_, 1) := by decide +kernel
theorem dJ7_copyOf_59c91_0 : decode cJ7_copyOf_59c91 0 = .ok (.iload_n 1, 1) := by decide +kernel
theorem dJ7_copyOf_59c91_1 : decode cJ7_copyOf_59c91 1 = .ok (.aload_n 0, 1) := by decide +kernel
theorem dJ7_copyOf_59c91_2 : decode cJ7_copyOf_59c91 2 = .ok (.arraylength, 1) := by decide +kernel
theorem dJ7_copyOf_59c91_3 : decode cJ7_copyOf_59c91 3 = .ok (.if_icmp .ne 11, 3) := by decide +kernel
theorem dJ7_copyOf_59c91_6 : decode cJ7_copyOf_59c91 6 = .ok (.aload_n 0, 1) := by decide +kernel
theorem dJ7_copyOf_59c91_7 : decode cJ7_copyOf_59c91 7 = .ok (.invokevirtual 316, 3) := by decide +kernel
theorem dJ7_copyOf_59c91_10 : decode cJ7_copyOf_59c91 10 = .ok (.checkcast 317, 3) := by decide +kernel
theorem dJ7_copyOf_59c91_13 : decode cJ7_copyOf_59c91 13 = .ok (.areturn, 1) := by decide +kernel
theorem dJ7_copyOf_59c91_14 : decode cJ7_copyOf_59c91 14 = .ok (.iload_n 1, 1) := by decide +kernel
theorem dJ7_copyOf_59c91_15 : decode cJ7_copyOf_59c91 15 = .ok (.newarray .int, 2) := by decide +kernel
theorem dJ7_copyOf_59c91_17 : decode cJ7_copyOf_59c91 17 = .ok (.astore_n 2, 1) := by decide +kernel
theorem dJ7_copyOf_59c91_18 : decode cJ7_copyOf_59c91 18 = .ok (.aload_n 0, 1) := by decide +kernel
theorem dJ7_copyOf_59c91_19 : decode cJ7_copyOf_59c91 19 = .ok (.iconst 0, 1) := by decide +kernel
theorem dJ7_copyOf_59c91_20 : decode cJ7_copyOf_59c91 20 = .ok (.aload_n 2, 1) := by decide +kernel
theorem dJ7_copyOf_59c91_21 : decode cJ7_copyOf_59c91 21 = .ok (.iconst 0, 1) := by decide +kernel
theorem dJ7_copyOf_59c91_22 : decode cJ7_copyOf_59c91 22 = .ok (.aload_n 0, 1) := by decide +kernel
theorem dJ7_copyOf_59c91_23 : decode cJ7_copyOf_59c91 23 = .ok (.arraylength, 1) := by decide +kernel
theorem dJ7_copyOf_59c91_24 : decode cJ7_copyOf_59c91 24 = .ok (.iload_n 1, 1) := by decide +kernel
theorem dJ7_copyOf_59c91_25 : decode cJ7_copyOf_59c91 25 = .ok (.invokestatic 304, 3) := by decide +kernel
theorem dJ7_copyOf_59c91_28 : decode cJ7_copyOf_59c91 28 = .ok (.invokestatic 150, 3) := by decide +kernel
theorem dJ7_copyOf_59c91_31 : decode cJ7_copyOf_59c91 31 = .ok (.aload_n 2, 1) := by decide +kernel
theorem dJ7_copyOf_59c91_32 : decode cJ7_copyOf_59c91 32 = .ok (.areturn, 1) := by decide +kernel
end
section
/-! ===== the words of every contract here: a world before, a world behind, an answer ===== -/
abbrev fx_T (cI cZ : ClassId) : List (ClassId × FieldType) := [(cI, .int), (cZ, .boolean)]
def fx_pre (D : va_G) (cI cZ : ClassId) (w : va_W) (sz : Nat) (U : State) : Prop := U.heap.size = sz ∧ va_P D vwCl w U.heap ∧ va_K D vwCl (fx_T cI cZ) U ∧ va_D (fun _ => True) w
def fx_end (D : va_G) (cI cZ : ClassId) (A : Nat → Prop) (w : va_W) (t : State) : Prop := va_P D vwCl w t.heap ∧ va_K D vwCl (fx_T cI cZ) t ∧ va_D A w
/-- an int (or boolean) comes back -/
def fx_CI (l : Launch) (D : va_G) (cI cZ : ClassId) (y : MethodName) (wsl : List Cond) (rm : Room) (av : List Value) (w : va_W) {S : Type} (w' : S → va_W) (post : Int32 → S → Prop) : Prop :=
  ∀ sz : Nat, Met l y wsl rm (va_Pc av (fx_pre D cI cZ w sz)) (va_Qi post (fun u t => fx_end D cI cZ (va_A w sz) (w' u) t) (va_A w sz)) rm.cells rm.slots (va_A w sz)
/-- nothing comes back -/
def fx_CV (l : Launch) (D : va_G) (cI cZ : ClassId) (y : MethodName) (wsl : List Cond) (rm : Room) (av : List Value) (w : va_W) {S : Type} (w' : S → va_W) (post : S → Prop) : Prop :=
  ∀ sz : Nat, Met l y wsl rm (va_Pc av (fx_pre D cI cZ w sz)) (va_Qv post (fun u t => fx_end D cI cZ (va_A w sz) (w' u) t) (va_A w sz)) rm.cells rm.slots (va_A w sz)
/-- a reference comes back: its address is the first of what the world behind is told by -/
def fx_CR (l : Launch) (D : va_G) (cI cZ : ClassId) (y : MethodName) (wsl : List Cond) (rm : Room) (av : List Value) (w : va_W) {S : Type} (w' : S → Nat → va_W) (post : S → Prop) : Prop :=
  ∀ sz : Nat, Met l y wsl rm (va_Pc av (fx_pre D cI cZ w sz)) (va_Qr post (fun u a t => fx_end D cI cZ (va_A w sz) (w' u a) t) (va_A w sz)) rm.cells rm.slots (va_A w sz)
def fx_Cx (p : Program) (s : State) (m : MethodId) (args : Array Value) (c : Code) (cc : ByteArray) (nL : Nat) (Ts : List Cond) (own : String) (D : va_G) (cI cZ : ClassId) : Prop :=
  CallFix p m c cc nL s args Ts own ∧ va_K D vwCl (fx_T cI cZ) s
def fx_H (A : Nat → Prop) (H0 H : Heap) (locs : List Loc) (D : va_G) (w : va_W) : Prop := va_P D vwCl w H ∧ va_D A w ∧ va_S A H0 H locs
theorem fx_blind {D : va_G} {cI cZ : ClassId} {av : List Value} {w : va_W} {sz : Nat} : FrameBlind (va_Pc av (fx_pre D cI cZ w sz)) := by
  intro a U g mk q
  obtain ⟨q0, q1, qP, qK, qD⟩ := q
  exact ⟨q0, q1, qP, va_K.moved (u := U) (U := U.calling g mk a) (Vm.Alike.refl U.vm) qK, qD⟩
theorem fx_places {ws wc : va_W} {is : List Nat} (h : is.map (fun i => ws[i]?) = wc.map some) {k : Nat} {q : Nat × va_E} (hk : wc[k]? = some q) : ∃ i, is[k]? = some i ∧ ws[i]? = some q := by
  have h1 : (is.map (fun i => ws[i]?))[k]? = some (some q) := by rw [h, List.getElem?_map, hk]; rfl
  rw [List.getElem?_map] at h1
  cases hi : is[k]? with
  | none => rw [hi] at h1; simp at h1
  | some i => rw [hi] at h1; exact ⟨i, rfl, by simpa using h1⟩
theorem fx_subP {D : va_G} {cl : List vw_C} {ws wc : va_W} {H : Heap} (hP : va_P D cl ws H) {is : List Nat} (h : is.map (fun i => ws[i]?) = wc.map some) : va_P D cl wc H := by
  intro k q hk
  obtain ⟨i, -, hi⟩ := fx_places h hk
  exact hP i q hi
/-- the same cells in another order, or fewer -/
theorem fx_H.re {A : Nat → Prop} {H0 H : Heap} {locs : List Loc} {D : va_G} {ws ws2 : va_W} (h : fx_H A H0 H locs D ws) (is : List Nat) (hn : va_nd is = true) (hs : is.map (fun i => ws[i]?) = ws2.map some) : fx_H A H0 H locs D ws2 := ⟨fx_subP h.1 hs, h.2.1.sub is hn hs, h.2.2⟩
section FX
variable {p : Program} {l : Launch} {e : Env} {R : Room} {s : State} {m : MethodId} {args : Array Value} {below : List Frame} {meth : Method} {c : Code} {H : Heap} {locs : List Loc} {cells slots : Nat} {Q : State → Prop}
variable {cc : ByteArray} {pc nL : Nat} {ls : Array Slot} {rest st0 : List Value} {D : va_G} {cI cZ : ClassId} {A : Nat → Prop} {a : Nat} {ws wc wr : va_W} {H0 : Heap} {Ts : List Cond} {own : String}
theorem fx_CI.of {y : MethodName} {wsl ws' : List Cond} {rm : Room} {av : List Value} {w : va_W} {S : Type} {w' : S → va_W} {post : Int32 → S → Prop} {ret : Option FieldType} (cc : ByteArray) (nL : Nat) (hy : plainName y.cls = true) (hw : wsl = Cond.code y cc nL ret :: ws') (hlen : (lg_sl av).length ≤ nL)
    (body : ∀ (p : Program) (e : Env) (s : State) (m : MethodId) (args : Array Value) (below : List Frame) (meth : Method) (c : Code) (A : Nat → Prop) (ls : Array Slot) (Q : State → Prop), Q = MQ below (va_Qi post (fun u t => fx_end D cI cZ A (w' u) t) A) args s rm.cells rm.slots A → fx_Cx p s m args c cc nL wsl y.cls D cI cZ → meth.sig.returnType = ret → meth.locks = false → (∀ q : Nat, s.heap.size ≤ q → A q) → fx_H A s.heap s.heap [] D w → lv_has ls nL (lv_args 0 av) →
      W p l e rm s m args below meth c s.heap [] 0 0 Q (F0 m 0 ls [])) : fx_CI l D cI cZ y wsl rm av w w' post := by
  intro sz
  refine Met.ofW (cc := cc) (maxL := nL) (ret := ret) hy hw ?_
  intro p e s m args below meth c s₁ B hml hv
  obtain ⟨rfl, hsz, hP, hK, hD0⟩ := hv
  subst hsz
  have hD := hD0.self (sz := s.heap.size)
  have hl := lv_entry av (n := nL) hlen
  rw [lg_entry_eq]
  exact body p e s m _ below meth c (va_A w s.heap.size) _ _ rfl ⟨⟨B.exec, B.bytes, hml, findClass_of_methodNamed B.named, atoms_spec (ws := wsl) B.pre⟩, hK⟩ B.returns B.notSynchronized (fun q h => Or.inr h) ⟨hP, hD, va_S.rf⟩ hl
theorem fx_CV.of {y : MethodName} {wsl ws' : List Cond} {rm : Room} {av : List Value} {w : va_W} {S : Type} {w' : S → va_W} {post : S → Prop} (cc : ByteArray) (nL : Nat) (hy : plainName y.cls = true) (hw : wsl = Cond.code y cc nL none :: ws') (hlen : (lg_sl av).length ≤ nL)
    (body : ∀ (p : Program) (e : Env) (s : State) (m : MethodId) (args : Array Value) (below : List Frame) (meth : Method) (c : Code) (A : Nat → Prop) (ls : Array Slot) (Q : State → Prop), Q = MQ below (va_Qv post (fun u t => fx_end D cI cZ A (w' u) t) A) args s rm.cells rm.slots A → fx_Cx p s m args c cc nL wsl y.cls D cI cZ → meth.sig.returnType = none → meth.locks = false → meth.name = y.name → (∀ q : Nat, s.heap.size ≤ q → A q) → fx_H A s.heap s.heap [] D w → lv_has ls nL (lv_args 0 av) →
      W p l e rm s m args below meth c s.heap [] 0 0 Q (F0 m 0 ls [])) : fx_CV l D cI cZ y wsl rm av w w' post := by
  intro sz
  refine Met.ofW (cc := cc) (maxL := nL) (ret := none) hy hw ?_
  intro p e s m args below meth c s₁ B hml hv
  obtain ⟨rfl, hsz, hP, hK, hD0⟩ := hv
  subst hsz
  have hD := hD0.self (sz := s.heap.size)
  have hl := lv_entry av (n := nL) hlen
  rw [lg_entry_eq]
  exact body p e s m _ below meth c (va_A w s.heap.size) _ _ rfl ⟨⟨B.exec, B.bytes, hml, findClass_of_methodNamed B.named, atoms_spec (ws := wsl) B.pre⟩, hK⟩ B.returns B.notSynchronized (name_of_methodNamed B.named B.method).1 (fun q h => Or.inr h) ⟨hP, hD, va_S.rf⟩ hl
theorem fx_iret {S : Type} {w' : S → va_W} {post : Int32 → S → Prop} {v : Int32} {ty : FieldType} {mc ms : Nat} (hQ : Q = MQ below (va_Qi post (fun u t => fx_end D cI cZ A (w' u) t) A) args s mc ms A) (hC : fx_Cx p s m args c cc nL Ts own D cI cZ) (hr : meth.sig.returnType = some ty) (hlocks : meth.locks = false) (hH : fx_H A s.heap H locs D ws) (hdg : decode cc pc = .ok (.ireturn, 1)) (hn : narrow ty (.int v) = .int v) (hc : cells ≤ mc) (hs : slots ≤ ms) (u : S) (hw : ws = w' u) (hp : post v u) :
    W p l e R s m args below meth c H locs cells slots Q (F0 m pc ls [.int v]) := by
  subst hQ
  obtain ⟨⟨hx, hb, -, -, -⟩, hK⟩ := hC
  obtain ⟨hP, hD, hS⟩ := hH
  subst hw
  refine W.widen hc hs ?_
  exact W.zret (v := v) hx hb hr hn (fun t ht hW => ⟨⟨v, u, rfl, hp, by rw [ht]; exact hP, va_K.moved hW.alike hK, hD⟩, hS.F ht⟩) hS.2.2 hdg hlocks
theorem fx_vret {S : Type} {w' : S → va_W} {post : S → Prop} {mc ms : Nat} (hQ : Q = MQ below (va_Qv post (fun u t => fx_end D cI cZ A (w' u) t) A) args s mc ms A) (hC : fx_Cx p s m args c cc nL Ts own D cI cZ) (hr : meth.sig.returnType = none) (hlocks : meth.locks = false) (hH : fx_H A s.heap H locs D ws) (hdg : decode cc pc = .ok (.return_, 1)) (hc : cells ≤ mc) (hs : slots ≤ ms) (u : S) (hw : ws = w' u) (hp : post u) :
    W p l e R s m args below meth c H locs cells slots Q (F0 m pc ls []) := by
  subst hQ
  obtain ⟨⟨hx, hb, -, -, -⟩, hK⟩ := hC
  obtain ⟨hP, hD, hS⟩ := hH
  subst hw
  refine W.widen hc hs ?_
  exact W.vret hx hb hr (fun t ht hW => ⟨⟨u, rfl, hp, by rw [ht]; exact hP, va_K.moved hW.alike hK, hD⟩, hS.F ht⟩) hS.2.2 hdg hlocks
theorem fx_get {C : String} {T : u_T} {N ci index : Nat} {fs : List Value} {v : Value} (hC : fx_Cx p s m args c cc nL Ts own D cI cZ) (hin : ∀ w ∈ u_ws C T N, w ∈ Ts) (hH : fx_H A H0 H locs D ws) (q0 : Nat) (he : ws[q0]? = some (a, .inr (ci, fs))) (hc : vwCl[ci]? = some (C, T, N)) (k : Nat) (hk : k < N) (hlink : Cond.fieldLink own index (T k).1 (T k).2.1 (T k).2.2.1 ∈ Ts) (hv : fs[k]? = some v) (hdg : decode cc pc = .ok (.getfield index, 3))
    (kk : W p l e R s m args below meth c H locs cells slots Q (F0 m (pc + 3) ls (v :: rest))) : W p l e R s m args below meth c H locs cells slots Q (F0 m pc ls (.ref a :: rest)) := by
  obtain ⟨⟨hx, hb, -, hown, hts⟩, hK⟩ := hC
  exact va_get hx hb hts hin hown hK hH.1 q0 he hc k hk (hts _ hlink) (fun _ h9 => h9) hv hdg kk
theorem fx_put {C : String} {T : u_T} {N ci index : Nat} {fs : List Value} {v : Value} {ty : FieldType} {ty0 : Nat → FieldType} {ws2 : va_W} (hC : fx_Cx p s m args c cc nL Ts own D cI cZ) (hin : ∀ w ∈ u_ws C T N, w ∈ Ts) (hty : ∀ k, k < N → parseFieldDescriptor (T k).2.2.1 = some (ty0 k)) (hnm : ∀ a, a < N → ∀ b, b < N → a ≠ b → (T a).2.1 ≠ (T b).2.1) (hH : fx_H A H0 H locs D ws) (q0 : Nat) (he : ws[q0]? = some (a, .inr (ci, fs))) (hc : vwCl[ci]? = some (C, T, N)) (k : Nat) (hk : k < N) (hlink : Cond.fieldLink own index (T k).1 (T k).2.1 (T k).2.2.1 ∈ Ts) (hfin : (T k).2.2.2 = false) (hd : ty0 k = ty) (hn : narrow ty v = v) (hfit : fits ty v = true) (hl : k < fs.length) (hw : ws.set q0 (a, .inr (ci, fs.set k v)) = ws2) (hdg : decode cc pc = .ok (.putfield index, 3))
    (kk : ∀ (H1 : Heap) (locs1 : List Loc), fx_H A H0 H1 locs1 D ws2 → W p l e R s m args below meth c H1 locs1 cells slots Q (F0 m (pc + 3) ls rest)) : W p l e R s m args below meth c H locs cells slots Q (F0 m pc ls (v :: .ref a :: rest)) := by
  obtain ⟨⟨hx, hb, -, hown, hts⟩, hK⟩ := hC
  obtain ⟨hP, hD, hS⟩ := hH
  subst hw
  exact va_put hx hb hts hin ty0 hty hnm hown hK hP hD hS q0 he hc k hk (hts _ hlink) (fun _ h9 => h9) hfin ((hty k hk).trans (congrArg some hd)) hn hfit hl hdg (fun H1 locs1 h1 h2 h3 => kk H1 locs1 ⟨h1, h2, h3⟩)
theorem fx_putF {C : String} {T : u_T} {N ci index : Nat} {fs : List Value} {v : Value} {ty : FieldType} {ty0 : Nat → FieldType} {ws2 : va_W} (hC : fx_Cx p s m args c cc nL Ts own D cI cZ) (hin : ∀ w ∈ u_ws C T N, w ∈ Ts) (hty : ∀ k, k < N → parseFieldDescriptor (T k).2.2.1 = some (ty0 k)) (hnm : ∀ a, a < N → ∀ b, b < N → a ≠ b → (T a).2.1 ≠ (T b).2.1) (hH : fx_H A H0 H locs D ws) (hini : meth.name = "<init>") (q0 : Nat) (he : ws[q0]? = some (a, .inr (ci, fs))) (hc : vwCl[ci]? = some (C, T, N)) (k : Nat) (hk : k < N) (hlink : Cond.fieldLink own index (T k).1 (T k).2.1 (T k).2.2.1 ∈ Ts) (hfin : (T k).2.2.2 = true) (hdecl : (T k).1 = own) (hd : ty0 k = ty) (hn : narrow ty v = v) (hfit : fits ty v = true) (hl : k < fs.length) (hw : ws.set q0 (a, .inr (ci, fs.set k v)) = ws2) (hdg : decode cc pc = .ok (.putfield index, 3))
    (kk : ∀ (H1 : Heap) (locs1 : List Loc), fx_H A H0 H1 locs1 D ws2 → W p l e R s m args below meth c H1 locs1 cells slots Q (F0 m (pc + 3) ls rest)) : W p l e R s m args below meth c H locs cells slots Q (F0 m pc ls (v :: .ref a :: rest)) := by
  obtain ⟨⟨hx, hb, -, hown, hts⟩, hK⟩ := hC
  obtain ⟨hP, hD, hS⟩ := hH
  subst hw
  exact va_putF hx hb hts hin ty0 hty hnm hown hK hP hD hS q0 he hc k hk (hts _ hlink) (fun _ h9 => h9) hfin hini hdecl ((hty k hk).trans (congrArg some hd)) hn hfit hl hdg (fun H1 locs1 h1 h2 h3 => kk H1 locs1 ⟨h1, h2, h3⟩)
theorem fx_ild {n : Nat} {f : Nat → Int32} {i : Int32} (hC : fx_Cx p s m args c cc nL Ts own D cI cZ) (hH : fx_H A H0 H locs D ws) (q0 : Nat) (ha : ws[q0]? = some (a, .inl (cI, n, .inl f))) (hin : vp_in i n) (hdg : decode cc pc = .ok (.iaload, 1))
    (kk : W p l e R s m args below meth c H locs cells slots Q (F0 m (pc + 1) ls (.int (f i.toNatClampNeg) :: rest))) : W p l e R s m args below meth c H locs cells slots Q (F0 m pc ls (.int i :: .ref a :: rest)) := by
  obtain ⟨⟨hx, hb, -, -, -⟩, hK⟩ := hC
  exact va_iald hx hb hK hH.1 q0 0 ha rfl hin hdg kk
theorem fx_ist {n : Nat} {f : Nat → Int32} {i x : Int32} {ws2 : va_W} (hC : fx_Cx p s m args c cc nL Ts own D cI cZ) (hH : fx_H A H0 H locs D ws) (q0 : Nat) (ha : ws[q0]? = some (a, .inl (cI, n, .inl f))) (hin : vp_in i n) (hw : ws.set q0 (a, .inl (cI, n, .inl (upd f i.toNatClampNeg x))) = ws2) (hdg : decode cc pc = .ok (.iastore, 1))
    (kk : ∀ (H1 : Heap) (locs1 : List Loc), fx_H A H0 H1 locs1 D ws2 → W p l e R s m args below meth c H1 locs1 cells slots Q (F0 m (pc + 1) ls rest)) : W p l e R s m args below meth c H locs cells slots Q (F0 m pc ls (.int x :: .int i :: .ref a :: rest)) := by
  obtain ⟨⟨hx, hb, -, -, -⟩, hK⟩ := hC
  obtain ⟨hP, hD, hS⟩ := hH
  subst hw
  exact va_iast hx hb hK hP hD hS q0 0 ha rfl hin hdg (fun H1 locs1 h1 h2 h3 => kk H1 locs1 ⟨h1, h2, h3⟩)
theorem fx_zld {n : Nat} {f : Nat → Int32} {i : Int32} (hC : fx_Cx p s m args c cc nL Ts own D cI cZ) (hH : fx_H A H0 H locs D ws) (q0 : Nat) (ha : ws[q0]? = some (a, .inl (cZ, n, .inl f))) (hin : vp_in i n) (hdg : decode cc pc = .ok (.baload, 1))
    (kk : W p l e R s m args below meth c H locs cells slots Q (F0 m (pc + 1) ls (.int (f i.toNatClampNeg) :: rest))) : W p l e R s m args below meth c H locs cells slots Q (F0 m pc ls (.int i :: .ref a :: rest)) := by
  obtain ⟨⟨hx, hb, -, -, -⟩, hK⟩ := hC
  exact va_zald hx hb hK hH.1 q0 1 ha rfl hin hdg kk
theorem fx_zst {n : Nat} {f : Nat → Int32} {i x : Int32} {ws2 : va_W} (hC : fx_Cx p s m args c cc nL Ts own D cI cZ) (hH : fx_H A H0 H locs D ws) (q0 : Nat) (ha : ws[q0]? = some (a, .inl (cZ, n, .inl f))) (hin : vp_in i n) (hw : ws.set q0 (a, .inl (cZ, n, .inl (upd f i.toNatClampNeg (vp_nar .boolean x)))) = ws2) (hdg : decode cc pc = .ok (.bastore, 1))
    (kk : ∀ (H1 : Heap) (locs1 : List Loc), fx_H A H0 H1 locs1 D ws2 → W p l e R s m args below meth c H1 locs1 cells slots Q (F0 m (pc + 1) ls rest)) : W p l e R s m args below meth c H locs cells slots Q (F0 m pc ls (.int x :: .int i :: .ref a :: rest)) := by
  obtain ⟨⟨hx, hb, -, -, -⟩, hK⟩ := hC
  obtain ⟨hP, hD, hS⟩ := hH
  subst hw
  exact va_zast hx hb hK hP hD hS q0 1 ha rfl hin hdg (fun H1 locs1 h1 h2 h3 => kk H1 locs1 ⟨h1, h2, h3⟩)
theorem fx_len {x : vp_A} {v : Int32} (hC : fx_Cx p s m args c cc nL Ts own D cI cZ) (hH : fx_H A H0 H locs D ws) (q0 : Nat) (ha : ws[q0]? = some (a, .inl (cI, x))) (hv : Int32.ofNat x.1 = v) (hdg : decode cc pc = .ok (.arraylength, 1))
    (kk : W p l e R s m args below meth c H locs cells slots Q (F0 m (pc + 1) ls (.int v :: rest))) : W p l e R s m args below meth c H locs cells slots Q (F0 m pc ls (.ref a :: rest)) := by
  obtain ⟨⟨hx, hb, -, -, -⟩, hK⟩ := hC
  exact va_alen hx hb hK hH.1 q0 0 ha rfl hv hdg kk
theorem fx_max {x y : Int32} {index : Nat} (hC : fx_Cx p s m args c cc nL Ts own D cI cZ) (hl : ls.size = nL) (hm : ∀ w ∈ ([.methodLink own index Lib.Math.max.name, .static Lib.Math.max.name, .initialized "java/lang/Math", .code Lib.Math.max.name Lib.Math.max.code 2 (some .int)] : List Cond), w ∈ Ts) (hframes : 1 ≤ R.frames) (hlocals : (rest.map fun v => v.category).sum + 13 ≤ R.locals) (hc : cells ≤ R.cells) (hs : slots ≤ R.slots) (hdg : decode cc pc = .ok (.invokestatic index, 3))
    (kk : W p l e R s m args below meth c H locs cells slots Q (F0 m (pc + 3) ls (.int (if x < y then y else x) :: rest))) : W p l e R s m args below meth c H locs cells slots Q (F0 m pc ls (.int y :: .int x :: rest)) := by
  obtain ⟨⟨hx, hb, hml, hown, hts⟩, hK⟩ := hC
  exact va_mmax hx hb (hml.trans hl.symm) hown (hts _ (hm _ (by simp))) (hts _ (hm _ (by simp))) (hts _ (hm _ (by simp))) (hts _ (hm _ (by simp))) hframes hlocals hc hs hdg kk
theorem fx_min {x y : Int32} {index : Nat} (hC : fx_Cx p s m args c cc nL Ts own D cI cZ) (hl : ls.size = nL) (hm : ∀ w ∈ ([.methodLink own index Lib.Math.min.name, .static Lib.Math.min.name, .initialized "java/lang/Math", .code Lib.Math.min.name Lib.Math.min.code 2 (some .int)] : List Cond), w ∈ Ts) (hframes : 1 ≤ R.frames) (hlocals : (rest.map fun v => v.category).sum + 13 ≤ R.locals) (hc : cells ≤ R.cells) (hs : slots ≤ R.slots) (hdg : decode cc pc = .ok (.invokestatic index, 3))
    (kk : W p l e R s m args below meth c H locs cells slots Q (F0 m (pc + 3) ls (.int (if y < x then y else x) :: rest))) : W p l e R s m args below meth c H locs cells slots Q (F0 m pc ls (.int y :: .int x :: rest)) := by
  obtain ⟨⟨hx, hb, hml, hown, hts⟩, hK⟩ := hC
  exact va_mmin hx hb (hml.trans hl.symm) hown (hts _ (hm _ (by simp))) (hts _ (hm _ (by simp))) (hts _ (hm _ (by simp))) (hts _ (hm _ (by simp))) hframes hlocals hc hs hdg kk
theorem fx_cVi {S : Type} {post : Int32 → S → Prop} {w' : S → va_W} {y : MethodName} {wsl : List Cond} {rm : Room} {As : List Value} {b : Nat} {C : String} {bytes : ByteArray} {maxL n index ci : Nat} {ret : Option FieldType} {fs : List Value} {q : vw_C} (ws2 : S → va_W) (hC : fx_Cx p s m args c cc nL Ts own D cI cZ) (hA : ∀ q, H0.size ≤ q → A q) (hH : fx_H A H0 H locs D ws)
    (hM : fx_CI l D cI cZ y wsl rm (.ref b :: As) wc w' post) (isC isR isB : List Nat) (wr : va_W) (hc1 : isC.map (fun i => ws[i]?) = wc.map some) (hc2 : isR.map (fun i => ws[i]?) = wr.map some) (hnd : (va_nd isC && va_nd isR && va_nd isB) = true) (hdis : ∀ i ∈ isR, i ∉ isC) (hB : ∀ u, isB.map (fun i => (wr ++ w' u)[i]?) = (ws2 u).map some)
    (hw : wsl = Cond.code y bytes maxL ret :: wsl.tail) (hG : GoodIn Ts (wsV own index C y wsl)) (hd : y.cls = C ∧ y.cls ≠ "java/lang/invoke/MethodHandle" ∧ y.cls ≠ "java/lang/invoke/VarHandle" ∧ (parseMethodDescriptor y.desc).map (fun d => d.parameters.length) = some n) (hRm : rm.frames + 1 ≤ R.frames ∧ 8 + (maxL + 11) + rm.locals ≤ R.locals)
    (q0 : Nat) (he : wc[q0]? = some (b, .inr (ci, fs))) (hc : vwCl[ci]? = some q) (hq : q.1 = C) (hst : st0 = As.reverse ++ .ref b :: rest) (hlen : As.length = n) (hl : ls.size = nL) (hsum : (rest.map fun v => v.category).sum ≤ 8) (hf : cells + rm.cells ≤ R.cells ∧ slots + rm.slots ≤ R.slots) (hdg : decode cc pc = .ok (.invokevirtual index, 3))
    (kk : ∀ (r : Int32) (u : S) (H : Heap) (locs : List Loc), post r u → fx_H A H0 H locs D (ws2 u) → W p l e R s m args below meth c H locs (cells + rm.cells) (slots + rm.slots) Q (F0 m (pc + 3) ls (.int r :: rest))) : W p l e R s m args below meth c H locs cells slots Q (F0 m pc ls st0) := by
  obtain ⟨hF, hK⟩ := hC
  obtain ⟨hP, hD, hS⟩ := hH
  simp only [Bool.and_eq_true] at hnd
  obtain ⟨⟨hn1, hn2⟩, hn3⟩ := hnd
  have hPc := fx_subP hP hc1
  have hDc := hD.sub isC hn1 hc1
  have hFc := va_free (wc := wc) hD hS hA isC hc1
  subst hq
  refine va_calli (va_runV (As := As) (rest := rest) hF (hM H.size) (cwV n hF.2.2.2.2 hG hw rfl rfl hd hRm) ⟨fx_blind, va_recv hK hPc hc he, fun U hU hW => ⟨rfl, by rw [hU], by rw [hU]; exact hPc, va_K.moved hW.alike hK, hDc.weaken (fun _ _ _ _ => trivial)⟩⟩ rfl hlen hl hst (lv_room hsum) hdg hf) hS (fun q _ h => hFc q h) hFc (fun r u t H1 locs1 ht hvm hw2 hB1 hz1 hk1 hS1 => ?_)
  obtain ⟨hP1, hK1, hD1⟩ := hB1
  rw [ht] at hP1
  obtain ⟨hP2, hD2⟩ := va_join (wr := wr) (w1 := w' u) hP hD isC isR hc1 hc2 hn2 hdis hk1 hFc hP1 hD1
  exact kk r u H1 locs1 hw2 (fx_H.re (ws := wr ++ w' u) ⟨hP2, hD2, hS1⟩ isB hn3 (hB u))
theorem fx_cVv {S : Type} {post : S → Prop} {w' : S → va_W} {y : MethodName} {wsl : List Cond} {rm : Room} {As : List Value} {b : Nat} {C : String} {bytes : ByteArray} {maxL n index ci : Nat} {ret : Option FieldType} {fs : List Value} {q : vw_C} (ws2 : S → va_W) (hC : fx_Cx p s m args c cc nL Ts own D cI cZ) (hA : ∀ q, H0.size ≤ q → A q) (hH : fx_H A H0 H locs D ws)
    (hM : fx_CV l D cI cZ y wsl rm (.ref b :: As) wc w' post) (isC isR isB : List Nat) (wr : va_W) (hc1 : isC.map (fun i => ws[i]?) = wc.map some) (hc2 : isR.map (fun i => ws[i]?) = wr.map some) (hnd : (va_nd isC && va_nd isR && va_nd isB) = true) (hdis : ∀ i ∈ isR, i ∉ isC) (hB : ∀ u, isB.map (fun i => (wr ++ w' u)[i]?) = (ws2 u).map some)
    (hw : wsl = Cond.code y bytes maxL ret :: wsl.tail) (hG : GoodIn Ts (wsV own index C y wsl)) (hd : y.cls = C ∧ y.cls ≠ "java/lang/invoke/MethodHandle" ∧ y.cls ≠ "java/lang/invoke/VarHandle" ∧ (parseMethodDescriptor y.desc).map (fun d => d.parameters.length) = some n) (hRm : rm.frames + 1 ≤ R.frames ∧ 8 + (maxL + 11) + rm.locals ≤ R.locals)
    (q0 : Nat) (he : wc[q0]? = some (b, .inr (ci, fs))) (hc : vwCl[ci]? = some q) (hq : q.1 = C) (hst : st0 = As.reverse ++ .ref b :: rest) (hlen : As.length = n) (hl : ls.size = nL) (hsum : (rest.map fun v => v.category).sum ≤ 8) (hf : cells + rm.cells ≤ R.cells ∧ slots + rm.slots ≤ R.slots) (hdg : decode cc pc = .ok (.invokevirtual index, 3))
    (kk : ∀ (u : S) (H : Heap) (locs : List Loc), post u → fx_H A H0 H locs D (ws2 u) → W p l e R s m args below meth c H locs (cells + rm.cells) (slots + rm.slots) Q (F0 m (pc + 3) ls rest)) : W p l e R s m args below meth c H locs cells slots Q (F0 m pc ls st0) := by
  obtain ⟨hF, hK⟩ := hC
  obtain ⟨hP, hD, hS⟩ := hH
  simp only [Bool.and_eq_true] at hnd
  obtain ⟨⟨hn1, hn2⟩, hn3⟩ := hnd
  have hPc := fx_subP hP hc1
  have hDc := hD.sub isC hn1 hc1
  have hFc := va_free (wc := wc) hD hS hA isC hc1
  subst hq
  refine va_callv (va_runV (As := As) (rest := rest) hF (hM H.size) (cwV n hF.2.2.2.2 hG hw rfl rfl hd hRm) ⟨fx_blind, va_recv hK hPc hc he, fun U hU hW => ⟨rfl, by rw [hU], by rw [hU]; exact hPc, va_K.moved hW.alike hK, hDc.weaken (fun _ _ _ _ => trivial)⟩⟩ rfl hlen hl hst (lv_room hsum) hdg hf) hS (fun q _ h => hFc q h) hFc (fun u t H1 locs1 ht hvm hw2 hB1 hz1 hk1 hS1 => ?_)
  obtain ⟨hP1, hK1, hD1⟩ := hB1
  rw [ht] at hP1
  obtain ⟨hP2, hD2⟩ := va_join (wr := wr) (w1 := w' u) hP hD isC isR hc1 hc2 hn2 hdis hk1 hFc hP1 hD1
  exact kk u H1 locs1 hw2 (fx_H.re (ws := wr ++ w' u) ⟨hP2, hD2, hS1⟩ isB hn3 (hB u))
theorem fx_cIv {S : Type} {post : S → Prop} {w' : S → va_W} {y : MethodName} {wsl : List Cond} {rm : Room} {As : List Value} {b : Nat} {bytes : ByteArray} {maxL n index : Nat} (ws2 : S → va_W) (hC : fx_Cx p s m args c cc nL Ts own D cI cZ) (hA : ∀ q, H0.size ≤ q → A q) (hH : fx_H A H0 H locs D ws)
    (hM : fx_CV l D cI cZ y wsl rm (.ref b :: As) wc w' post) (isC isR isB : List Nat) (wr : va_W) (hc1 : isC.map (fun i => ws[i]?) = wc.map some) (hc2 : isR.map (fun i => ws[i]?) = wr.map some) (hnd : (va_nd isC && va_nd isR && va_nd isB) = true) (hdis : ∀ i ∈ isR, i ∉ isC) (hB : ∀ u, isB.map (fun i => (wr ++ w' u)[i]?) = (ws2 u).map some)
    (hw : wsl = Cond.code y bytes maxL none :: wsl.tail) (hG : GoodIn Ts wsl) (hini : Cond.initialized y.cls ∈ Ts) (hlk : Cond.methodLink own index y ∈ Ts) (hinst : Cond.instanceMethod y ∈ Ts) (hy1 : y.name = "<init>") (hd : y.cls ≠ "java/lang/invoke/MethodHandle" ∧ y.cls ≠ "java/lang/invoke/VarHandle" ∧ (parseMethodDescriptor y.desc).map (fun d => d.parameters.length) = some n) (hRm : rm.frames + 1 ≤ R.frames ∧ 8 + (maxL + 11) + rm.locals ≤ R.locals)
    (hst : st0 = As.reverse ++ .ref b :: rest) (hlen : As.length = n) (hl : ls.size = nL) (hsum : (rest.map fun v => v.category).sum ≤ 8) (hf : cells + rm.cells ≤ R.cells ∧ slots + rm.slots ≤ R.slots) (hdg : decode cc pc = .ok (.invokespecial index, 3))
    (kk : ∀ (u : S) (H : Heap) (locs : List Loc), post u → fx_H A H0 H locs D (ws2 u) → W p l e R s m args below meth c H locs (cells + rm.cells) (slots + rm.slots) Q (F0 m (pc + 3) ls rest)) : W p l e R s m args below meth c H locs cells slots Q (F0 m pc ls st0) := by
  obtain ⟨hF, hK⟩ := hC
  obtain ⟨hP, hD, hS⟩ := hH
  simp only [Bool.and_eq_true] at hnd
  obtain ⟨⟨hn1, hn2⟩, hn3⟩ := hnd
  have hPc := fx_subP hP hc1
  have hDc := hD.sub isC hn1 hc1
  have hFc := va_free (wc := wc) hD hS hA isC hc1
  have hts := hF.2.2.2.2
  refine va_callv (va_runI (As := As) (rest := rest) hF (hM H.size) (cwI n hts hG hw rfl rfl (hts _ hini) (hts _ hlk) (hts _ hinst) hy1 hd hRm) ⟨fx_blind, fun U hU hW => ⟨rfl, by rw [hU], by rw [hU]; exact hPc, va_K.moved hW.alike hK, hDc.weaken (fun _ _ _ _ => trivial)⟩⟩ rfl hlen hl hst (lv_room hsum) hdg hf) hS (fun q _ h => hFc q h) hFc (fun u t H1 locs1 ht hvm hw2 hB1 hz1 hk1 hS1 => ?_)
  obtain ⟨hP1, hK1, hD1⟩ := hB1
  rw [ht] at hP1
  obtain ⟨hP2, hD2⟩ := va_join (wr := wr) (w1 := w' u) hP hD isC isR hc1 hc2 hn2 hdis hk1 hFc hP1 hD1
  exact kk u H1 locs1 hw2 (fx_H.re (ws := wr ++ w' u) ⟨hP2, hD2, hS1⟩ isB hn3 (hB u))
/-- a static method of ints alone, which reads no cell -/
theorem fx_cSi {post : Int32 → Unit → Prop} {y : MethodName} {wsl : List Cond} {rm : Room} {As : List Value} {bytes : ByteArray} {maxL n index : Nat} {ret : Option FieldType} (hC : fx_Cx p s m args c cc nL Ts own D cI cZ) (hA : ∀ q, H0.size ≤ q → A q) (hH : fx_H A H0 H locs D ws)
    (hM : fx_CI l D cI cZ y wsl rm As [] (fun _ => []) post) (hz : rm.cells = 0 ∧ rm.slots = 0)
    (hw : wsl = Cond.code y bytes maxL ret :: wsl.tail) (hG : GoodIn Ts (va_wsS own index y wsl)) (hd : y.cls ≠ "java/lang/invoke/MethodHandle" ∧ y.cls ≠ "java/lang/invoke/VarHandle" ∧ (parseMethodDescriptor y.desc).map (fun d => d.parameters.length) = some n) (hRm : rm.frames + 1 ≤ R.frames ∧ 8 + (maxL + 11) + rm.locals ≤ R.locals)
    (hst : st0 = As.reverse ++ rest) (hlen : As.length = n) (hl : ls.size = nL) (hsum : (rest.map fun v => v.category).sum ≤ 8) (hf : cells ≤ R.cells ∧ slots ≤ R.slots) (hdg : decode cc pc = .ok (.invokestatic index, 3))
    (kk : ∀ (r : Int32) (H : Heap) (locs : List Loc), post r () → fx_H A H0 H locs D ws → W p l e R s m args below meth c H locs cells slots Q (F0 m (pc + 3) ls (.int r :: rest))) : W p l e R s m args below meth c H locs cells slots Q (F0 m pc ls st0) := by
  obtain ⟨hF, hK⟩ := hC
  obtain ⟨hP, hD, hS⟩ := hH
  have hPc : va_P D vwCl [] H := fun k q h => by simp at h
  have hDc : va_D A [] := ⟨fun i j p q h => by simp at h, fun k q h => by simp at h⟩
  have hFc := va_free (wc := []) hD hS hA [] rfl
  have hts := hF.2.2.2.2
  have hf2 : cells + rm.cells ≤ R.cells ∧ slots + rm.slots ≤ R.slots := by rw [hz.1, hz.2]; exact hf
  refine va_calli (va_runS (As := As) (rest := rest) hF (hM H.size) (va_cwS n hts hG hw rfl rfl hd hRm) ⟨fx_blind, fun U hU hW => ⟨rfl, by rw [hU], by rw [hU]; exact hPc, va_K.moved hW.alike hK, hDc.weaken (fun _ _ _ _ => trivial)⟩⟩ rfl hlen hl hst (lv_room hsum) hdg hf2) hS (fun q _ h => hFc q h) hFc (fun r u t H1 locs1 ht hvm hw2 hB1 hz1 hk1 hS1 => ?_)
  obtain ⟨hP1, hK1, hD1⟩ := hB1
  rw [ht] at hP1
  have hP2 : va_P D vwCl ws H1 := hP.kept (fun k q h => hk1 q.1 (hP k q h).lt (fun hq => by
    rcases hq with ⟨k2, e2, h2⟩ | h2
    · simp at h2
    · exact absurd (hP k q h).lt (Nat.not_lt.mpr h2)))
  rw [hz.1, hz.2]
  exact kk r H1 locs1 hw2 ⟨hP2, hD, hS1⟩
/-- a static method that answers nothing -/
theorem fx_cSv {S : Type} {post : S → Prop} {w' : S → va_W} {y : MethodName} {wsl : List Cond} {rm : Room} {As : List Value} {bytes : ByteArray} {maxL n index : Nat} {ret : Option FieldType} (ws2 : S → va_W) (hC : fx_Cx p s m args c cc nL Ts own D cI cZ) (hA : ∀ q, H0.size ≤ q → A q) (hH : fx_H A H0 H locs D ws)
    (hM : fx_CV l D cI cZ y wsl rm As wc w' post) (isC isR isB : List Nat) (wr : va_W) (hc1 : isC.map (fun i => ws[i]?) = wc.map some) (hc2 : isR.map (fun i => ws[i]?) = wr.map some) (hnd : (va_nd isC && va_nd isR && va_nd isB) = true) (hdis : ∀ i ∈ isR, i ∉ isC) (hB : ∀ u, isB.map (fun i => (wr ++ w' u)[i]?) = (ws2 u).map some)
    (hw : wsl = Cond.code y bytes maxL ret :: wsl.tail) (hG : GoodIn Ts (va_wsS own index y wsl)) (hd : y.cls ≠ "java/lang/invoke/MethodHandle" ∧ y.cls ≠ "java/lang/invoke/VarHandle" ∧ (parseMethodDescriptor y.desc).map (fun d => d.parameters.length) = some n) (hRm : rm.frames + 1 ≤ R.frames ∧ 8 + (maxL + 11) + rm.locals ≤ R.locals)
    (hst : st0 = As.reverse ++ rest) (hlen : As.length = n) (hl : ls.size = nL) (hsum : (rest.map fun v => v.category).sum ≤ 8) (hf : cells + rm.cells ≤ R.cells ∧ slots + rm.slots ≤ R.slots) (hdg : decode cc pc = .ok (.invokestatic index, 3))
    (kk : ∀ (u : S) (H : Heap) (locs : List Loc), post u → fx_H A H0 H locs D (ws2 u) → W p l e R s m args below meth c H locs (cells + rm.cells) (slots + rm.slots) Q (F0 m (pc + 3) ls rest)) : W p l e R s m args below meth c H locs cells slots Q (F0 m pc ls st0) := by
  obtain ⟨hF, hK⟩ := hC
  obtain ⟨hP, hD, hS⟩ := hH
  simp only [Bool.and_eq_true] at hnd
  obtain ⟨⟨hn1, hn2⟩, hn3⟩ := hnd
  have hPc := fx_subP hP hc1
  have hDc := hD.sub isC hn1 hc1
  have hFc := va_free (wc := wc) hD hS hA isC hc1
  refine va_callv (va_runS (As := As) (rest := rest) hF (hM H.size) (va_cwS n hF.2.2.2.2 hG hw rfl rfl hd hRm) ⟨fx_blind, fun U hU hW => ⟨rfl, by rw [hU], by rw [hU]; exact hPc, va_K.moved hW.alike hK, hDc.weaken (fun _ _ _ _ => trivial)⟩⟩ rfl hlen hl hst (lv_room hsum) hdg hf) hS (fun q _ h => hFc q h) hFc (fun u t H1 locs1 ht hvm hw2 hB1 hz1 hk1 hS1 => ?_)
  obtain ⟨hP1, hK1, hD1⟩ := hB1
  rw [ht] at hP1
  obtain ⟨hP2, hD2⟩ := va_join (wr := wr) (w1 := w' u) hP hD isC isR hc1 hc2 hn2 hdis hk1 hFc hP1 hD1
  exact kk u H1 locs1 hw2 (fx_H.re (ws := wr ++ w' u) ⟨hP2, hD2, hS1⟩ isB hn3 (hB u))
theorem fx_new {C : String} {T : u_T} {N ci index : Nat} {fs : List Value} {ty0 : Nat → FieldType} (hC : fx_Cx p s m args c cc nL Ts own D cI cZ) (hin : ∀ w ∈ u_ws C T N, w ∈ Ts) (hty : ∀ k, k < N → parseFieldDescriptor (T k).2.2.1 = some (ty0 k)) (hA : ∀ q, H0.size ≤ q → A q) (hH : fx_H A H0 H locs D ws) (hc : vwCl[ci]? = some (C, T, N)) (hcl : Cond.classLink own index C ∈ Ts) (hinst : Cond.instantiable C N ∈ Ts) (hini : Cond.initialized C ∈ Ts) (hfs : ∀ j, j < N → defaultValue (ty0 j) = vp_V fs j) (hcells : cells + 1 ≤ R.cells) (hslots : slots + N ≤ R.slots) (hdg : decode cc pc = .ok (.new index, 3))
    (kk : ∀ (q : Nat) (H1 : Heap), fx_H A H0 H1 locs D (ws ++ [(q, .inr (ci, fs))]) → W p l e R s m args below meth c H1 locs (cells + 1) (slots + N) Q (F0 m (pc + 3) ls (.ref q :: rest))) : W p l e R s m args below meth c H locs cells slots Q (F0 m pc ls rest) := by
  obtain ⟨⟨hx, hb, -, hown, hts⟩, hK⟩ := hC
  obtain ⟨hP, hD, hS⟩ := hH
  exact va_new hx hb hts hin ty0 hty hown (hts _ hcl) (hts _ hinst) (hts _ hini) hK hP hD hS hA hc hfs hcells hslots hdg (fun q H1 h1 h2 h3 => kk q H1 ⟨h1, h2, h3⟩)
theorem fx_newi {n : Int32} {N' : Nat} (hC : fx_Cx p s m args c cc nL Ts own D cI cZ) (hA : ∀ q, H0.size ≤ q → A q) (hH : fx_H A H0 H locs D ws) (harr : Cond.arrayClass .int ∈ Ts) (hn : ¬ n < 0) (hN : n.toNatClampNeg = N') (hbytes : N' * 4 ≤ 536870912) (hcells : cells + 1 ≤ R.cells) (hslots : slots + N' ≤ R.slots) (hdg : decode cc pc = .ok (.newarray .int, 2))
    (kk : ∀ (q : Nat) (H1 : Heap), fx_H A H0 H1 locs D (ws ++ [(q, .inl (cI, N', .inl (fun _ => 0)))]) → W p l e R s m args below meth c H1 locs (cells + 1) (slots + N') Q (F0 m (pc + 2) ls (.ref q :: rest))) : W p l e R s m args below meth c H locs cells slots Q (F0 m pc ls (.int n :: rest)) := by
  obtain ⟨⟨hx, hb, -, hown, hts⟩, hK⟩ := hC
  obtain ⟨hP, hD, hS⟩ := hH
  refine va_newa (atype := .int) (ty := .int) (N' := N') (a0 := (N', .inl (fun _ => 0))) hx hb (hts _ harr) rfl hK hP hD hS hA (fun cA => rfl) hn hN hbytes hcells hslots hdg (fun q cA H1 hK1 h1 h2 h3 => ?_)
  have e1 : cA = cI := Option.some.inj ((hK1.2 2 (cA, .int) rfl).2.symm.trans (hK.2 0 (cI, .int) rfl).2)
  subst e1
  exact kk q H1 ⟨h1, h2, h3⟩
theorem fx_newz {n : Int32} {N' : Nat} (hC : fx_Cx p s m args c cc nL Ts own D cI cZ) (hA : ∀ q, H0.size ≤ q → A q) (hH : fx_H A H0 H locs D ws) (harr : Cond.arrayClass .boolean ∈ Ts) (hn : ¬ n < 0) (hN : n.toNatClampNeg = N') (hbytes : N' * 1 ≤ 536870912) (hcells : cells + 1 ≤ R.cells) (hslots : slots + N' ≤ R.slots) (hdg : decode cc pc = .ok (.newarray .boolean, 2))
    (kk : ∀ (q : Nat) (H1 : Heap), fx_H A H0 H1 locs D (ws ++ [(q, .inl (cZ, N', .inl (fun _ => 0)))]) → W p l e R s m args below meth c H1 locs (cells + 1) (slots + N') Q (F0 m (pc + 2) ls (.ref q :: rest))) : W p l e R s m args below meth c H locs cells slots Q (F0 m pc ls (.int n :: rest)) := by
  obtain ⟨⟨hx, hb, -, hown, hts⟩, hK⟩ := hC
  obtain ⟨hP, hD, hS⟩ := hH
  refine va_newa (atype := .boolean) (ty := .boolean) (N' := N') (a0 := (N', .inl (fun _ => 0))) hx hb (hts _ harr) rfl hK hP hD hS hA (fun cA => rfl) hn hN hbytes hcells hslots hdg (fun q cA H1 hK1 h1 h2 h3 => ?_)
  have e1 : cA = cZ := Option.some.inj ((hK1.2 2 (cA, .boolean) rfl).2.symm.trans (hK.2 1 (cZ, .boolean) rfl).2)
  subst e1
  exact kk q H1 ⟨h1, h2, h3⟩
end FX
end
section
theorem fx_le_of {a b : Nat} (h : nI a ≤ nI b) (hb : b < 2 ^ 31) (ha : a < 2 ^ 31) : a ≤ b := (nI_leI ha hb).mp h
theorem fx_lt_of {a b : Nat} (h : ¬ nI b ≤ nI a) (ha : a < 2 ^ 31) : a < b := Nat.lt_of_not_le (fun q => h (nI_le q ha))
theorem fx_m1 {a : Nat} (h : 0 < a) : nI a - 1 = nI (a - 1) := by
  obtain ⟨b, rfl⟩ : ∃ b, a = b + 1 := ⟨a - 1, by omega⟩
  exact nI_pred b
theorem fx_fill {g : Nat → Int32} {i : Nat} {x : Int32} (h : ∀ j, j < i → g j = x) : ∀ j, j < i + 1 → upd g i x j = x := by
  intro j hj
  by_cases e : j = i
  · rw [e]; exact pk_us
  · rw [pk_un e]; exact h j (by omega)
def rAt (n : Nat) (f : Nat → Int32) (i : Int32) : Int32 := if i < 0 ∨ n ≤ i.toNatClampNeg then 0 else f i.toNatClampNeg
def rPut (n : Nat) (f : Nat → Int32) (i x : Int32) : Nat → Int32 := if i < 0 ∨ n ≤ i.toNatClampNeg then f else upd f i.toNatClampNeg x
theorem r_in {i : Int32} {n : Nat} (h1 : ¬ i < 0) (h2 : ¬ nI n ≤ i) (hn : n < 2 ^ 31) : vp_in i n := by
  rcases pk_ix i hn with h | h | ⟨j, hj, rfl⟩
  · exact absurd h h1
  · exact absurd h h2
  · exact vp_in_nI hj hn
theorem r_ge {i : Int32} {n : Nat} (h1 : ¬ i < 0) (h2 : nI n ≤ i) (hn : n < 2 ^ 31) : n ≤ i.toNatClampNeg := by
  obtain ⟨j, hj, rfl⟩ := nI_of h1
  rw [nI_clamp hj]
  exact (nI_leI hn hj).mp h2
theorem rAt_a {n : Nat} {f : Nat → Int32} {i : Int32} (h : i < 0) : rAt n f i = 0 := if_pos (Or.inl h)
theorem rAt_b {n : Nat} {f : Nat → Int32} {i : Int32} (h1 : ¬ i < 0) (h2 : nI n ≤ i) (hn : n < 2 ^ 31) : rAt n f i = 0 := if_pos (Or.inr (r_ge h1 h2 hn))
theorem rAt_c {n : Nat} {f : Nat → Int32} {i : Int32} (h : vp_in i n) : rAt n f i = f i.toNatClampNeg := if_neg h
theorem rPut_a {n : Nat} {f : Nat → Int32} {i x : Int32} (h : i < 0) : rPut n f i x = f := if_pos (Or.inl h)
theorem rPut_b {n : Nat} {f : Nat → Int32} {i x : Int32} (h1 : ¬ i < 0) (h2 : nI n ≤ i) (hn : n < 2 ^ 31) : rPut n f i x = f := if_pos (Or.inr (r_ge h1 h2 hn))
theorem rPut_c {n : Nat} {f : Nat → Int32} {i x : Int32} (h : vp_in i n) : rPut n f i x = upd f i.toNatClampNeg x := if_neg h
theorem rAt_nI {n : Nat} {f : Nat → Int32} {k : Nat} (h : k < n) (hn : n < 2 ^ 31) : rAt n f (nI k) = f k := by
  rw [rAt_c (vp_in_nI h hn), nI_clamp (by omega)]
theorem rPut_nI {n : Nat} {f : Nat → Int32} {k : Nat} {x : Int32} (h : k < n) (hn : n < 2 ^ 31) : rPut n f (nI k) x = upd f k x := by
  rw [rPut_c (vp_in_nI h hn), nI_clamp (by omega)]
theorem rAt_m1 {n : Nat} {f : Nat → Int32} : rAt n f (-1) = 0 := rAt_a (by decide)
/-- the places above i and up to q hold what stood one place lower -/
def rSqL (f : Nat → Int32) (i q : Nat) : Nat → Int32 := fun j => if i < j ∧ j ≤ q then f (j - 1) else f j
def rSq (f : Nat → Int32) (p q : Nat) (x : Int32) : Nat → Int32 := fun j => if j = p then x else if p < j ∧ j ≤ q then f (j - 1) else f j
theorem rSqL_0 (f : Nat → Int32) (q : Nat) : rSqL f q q = f := by
  funext j
  exact if_neg (by omega)
theorem rSq_step {f : Nat → Int32} {i q : Nat} (n : Nat) (hn : n < 2 ^ 31) (h0 : 0 < i) (hi : i ≤ q) (hq : q < n) : rPut n (rSqL f i q) (nI i) (rAt n (rSqL f i q) (nI (i - 1))) = rSqL f (i - 1) q := by
  rw [rPut_nI (by omega) hn, rAt_nI (by omega) hn]
  funext j
  simp only [upd, rSqL]
  by_cases e : j = i
  · subst e
    rw [if_pos rfl, if_neg (by omega), if_pos ⟨by omega, by omega⟩]
  · rw [if_neg e]
    by_cases e2 : i < j ∧ j ≤ q
    · rw [if_pos e2, if_pos ⟨by omega, by omega⟩]
    · rw [if_neg e2, if_neg (by omega)]
theorem rSq_end {f : Nat → Int32} {p q : Nat} {x : Int32} (n : Nat) (hn : n < 2 ^ 31) (hpq : p ≤ q) (hq : q < n) : rPut n (rSqL f p q) (nI p) x = rSq f p q x := by
  rw [rPut_nI (by omega) hn]
  rfl
set_option maxHeartbeats 4000000 in
set_option maxRecDepth 100000 in
/-- Arrays.fill(a, x) -/
theorem k_J7_fill_53178 (l : Launch) (D : va_G) (cI cZ : ClassId) (a : Nat) (n : Nat) (f : Nat → Int32) (x : Int32) (hn : n < 2 ^ 31) : fx_CV l D cI cZ yJ7_fill_53178 wsJ7_fill_53178 ({ frames := 0, cells := 0, slots := 0, locals := 0 }) [.ref a, .int x] [(a, .inl (cI, n, .inl f))] (fun (u : (Nat → Int32)) => [(a, .inl (cI, n, .inl u))]) (fun (u : (Nat → Int32)) => ∀ j, j < n → u j = x) := by
  refine fx_CV.of (ws' := (wsJ7_fill_53178).tail) cJ7_fill_53178 4 (by decide) rfl (Nat.le_of_ble_eq_true rfl) ?_
  intro zp ze zs zm za zb zt zc zA ls zQ hQ hC hr hlk hnm hA hH hl
  have zx := hC.1.1
  have zy := hC.1.2.1
  have hl : lv_has ls 4 [(0, .ref a), (1, .int x)] := hl
  refine lv_iconst (v := 0) zx zy dJ7_fill_53178_0 (by decide) ?_
  refine lv_topi (fun v1 ev1 => ?_)
  obtain rfl : v1 = nI 0 := ev1.trans (rfl)
  refine lv_istore_n (lv' := [(2, .int (nI 0)), (0, .ref a), (1, .int x)]) zx zy dJ7_fill_53178_1 rfl hl (by decide) rfl (fun ls hl => ?_)
  refine lv_aload_n zx zy dJ7_fill_53178_2 rfl (lv_at hl 1 rfl) ?_
  refine fx_len (v := nI n) hC hH 0 rfl rfl dJ7_fill_53178_3 ?_
  refine lv_istore_n (lv' := [(3, .int (nI n)), (2, .int (nI 0)), (0, .ref a), (1, .int x)]) zx zy dJ7_fill_53178_4 rfl hl (by decide) rfl (fun ls hl => ?_)
  have L5 : ∀ (fu : Nat) (i : Nat) (g : Nat → Int32) (hi : i ≤ n) (hg : ∀ j, j < i → g j = x) (H : Heap) (locs : List Loc) (ls : Array Slot), n - i < fu → fx_H zA zs.heap H locs D [(a, .inl (cI, n, .inl g))] → lv_has ls 4 [(0, .ref a), (1, .int x), (2, .int (nI i)), (3, .int (nI n))] → W zp l ze ({ frames := 0, cells := 0, slots := 0, locals := 0 }) zs zm za zb zt zc H locs (0) (0) zQ (F0 zm 5 ls []) := by
    intro fu
    induction fu with
    | zero => intro i g hi hg H locs ls hfu; exact absurd hfu (Nat.not_lt_zero _)
    | succ fu ih5 =>
      intro i g hi hg H locs ls hfu5 hH hl
      refine lv_iload_n zx zy dJ7_fill_53178_5 rfl (lv_at hl 2 rfl) ?_
      refine lv_iload_n zx zy dJ7_fill_53178_6 rfl (lv_at hl 3 rfl) ?_
      refine lv_icmp_ge (tgt := 20) zx zy dJ7_fill_53178_7 (by decide) (fun c7 => ?_) (fun c7 => ?_)
      · skip
        exact fx_vret hQ hC hr hlk hH dJ7_fill_53178_20 (Nat.le_of_ble_eq_true rfl) (Nat.le_of_ble_eq_true rfl) (g) rfl (fun j hj => hg j (Nat.lt_of_lt_of_le hj (fx_le_of c7 (by omega) hn)))
      · skip
        have hlt : i < n := Nat.lt_of_not_le (fun h => c7 (nI_le h (by omega)))
        have hin : vp_in (nI i) n := vp_in_nI hlt hn
        refine lv_aload_n zx zy dJ7_fill_53178_10 rfl (lv_at hl 0 rfl) ?_
        refine lv_iload_n zx zy dJ7_fill_53178_11 rfl (lv_at hl 2 rfl) ?_
        refine lv_iload_n zx zy dJ7_fill_53178_12 rfl (lv_at hl 1 rfl) ?_
        refine fx_ist (ws2 := [(a, .inl (cI, n, .inl (upd g (nI i).toNatClampNeg x)))]) hC hH 0 rfl (by assumption) rfl dJ7_fill_53178_13 (fun H locs hH => ?_)
        rw [show (upd g (nI i).toNatClampNeg x : Nat → Int32) = upd g i x from by rw [nI_clamp (by omega)]] at hH
        refine lv_iinc (v := nI (i + 1)) (lv' := [(2, .int (nI (i + 1))), (0, .ref a), (1, .int x), (3, .int (nI n))]) zx zy dJ7_fill_53178_14 hl (k := 2) rfl (nI_1 _) (by decide) rfl (fun ls hl => ?_)
        refine lv_goto (tgt := 5) zx zy dJ7_fill_53178_17 (by decide) ?_
        exact ih5 (i + 1) (upd g i x) (by first | assumption | omega) (fx_fill hg) _ _ _ (by omega) hH (lv_sub hl [1, 2, 0, 3] rfl)
  exact L5 _ 0 f (by first | assumption | omega) (fun j h => absurd h (Nat.not_lt_zero j)) _ _ _ (Nat.lt_succ_self _) hH (lv_sub hl [2, 3, 1, 0] rfl)
set_option maxHeartbeats 4000000 in
set_option maxRecDepth 100000 in
/-- Row.at -/
theorem k_X6_at (l : Launch) (D : va_G) (cI cZ : ClassId) (h : Nat) (a : Nat) (n : Nat) (f : Nat → Int32) (i : Int32) (hn : n < 2 ^ 31) : fx_CI l D cI cZ yX6_at wsX6_at ({ frames := 0, cells := 0, slots := 0, locals := 0 }) [.ref h, .int i] [(h, .inr (6, [.ref a])), (a, .inl (cI, n, .inl f))] (fun (u : Unit) => [(h, .inr (6, [.ref a])), (a, .inl (cI, n, .inl f))]) (fun (r : Int32) (u : Unit) => r = rAt n f i) := by
  refine fx_CI.of (ws' := (wsX6_at).tail) cX6_at 2 (by decide) rfl (Nat.le_of_ble_eq_true rfl) ?_
  intro zp ze zs zm za zb zt zc zA ls zQ hQ hC hr hlk hA hH hl
  have zx := hC.1.1
  have zy := hC.1.2.1
  have hl : lv_has ls 2 [(0, .ref h), (1, .int i)] := hl
  refine lv_iload_n zx zy dX6_at_0 rfl (lv_at hl 1 rfl) ?_
  refine lv_if_lt (tgt := 22) zx zy dX6_at_1 (by decide) (fun c1 => ?_) (fun c1 => ?_)
  · skip
    refine lv_iconst (v := 0) zx zy dX6_at_22 (by decide) ?_
    exact fx_iret (v := 0) hQ hC hr hlk hH dX6_at_23 rfl (Nat.le_of_ble_eq_true rfl) (Nat.le_of_ble_eq_true rfl) (()) rfl (by first | exact (rAt_a c1).symm | exact (rAt_b c1 c10 hn).symm | exact (rAt_c (r_in c1 c10 hn)).symm)
  · skip
    refine lv_iload_n zx zy dX6_at_4 rfl (lv_at hl 1 rfl) ?_
    refine lv_aload_n zx zy dX6_at_5 rfl (lv_at hl 0 rfl) ?_
    refine fx_get (C := RX6) (T := TX6) (N := 1) hC (fun _ h => List.mem_cons_of_mem _ (List.mem_append_right _ h)) hH 0 rfl rfl 0 (by decide) (by decide +kernel) rfl dX6_at_6 ?_
    refine fx_len (v := nI n) hC hH 1 rfl rfl dX6_at_9 ?_
    refine lv_icmp_ge (tgt := 22) zx zy dX6_at_10 (by decide) (fun c10 => ?_) (fun c10 => ?_)
    · skip
      refine lv_iconst (v := 0) zx zy dX6_at_22 (by decide) ?_
      exact fx_iret (v := 0) hQ hC hr hlk hH dX6_at_23 rfl (Nat.le_of_ble_eq_true rfl) (Nat.le_of_ble_eq_true rfl) (()) rfl (by first | exact (rAt_a c1).symm | exact (rAt_b c1 c10 hn).symm | exact (rAt_c (r_in c1 c10 hn)).symm)
    · skip
      refine lv_aload_n zx zy dX6_at_13 rfl (lv_at hl 0 rfl) ?_
      refine fx_get (C := RX6) (T := TX6) (N := 1) hC (fun _ h => List.mem_cons_of_mem _ (List.mem_append_right _ h)) hH 0 rfl rfl 0 (by decide) (by decide +kernel) rfl dX6_at_14 ?_
      refine lv_iload_n zx zy dX6_at_17 rfl (lv_at hl 1 rfl) ?_
      refine fx_ild hC hH 1 rfl (r_in c1 c10 hn) dX6_at_18 ?_
      refine lv_goto (tgt := 23) zx zy dX6_at_19 (by decide) ?_
      exact fx_iret (v := f (i).toNatClampNeg) hQ hC hr hlk hH dX6_at_23 rfl (Nat.le_of_ble_eq_true rfl) (Nat.le_of_ble_eq_true rfl) (()) rfl (by first | exact (rAt_a c1).symm | exact (rAt_b c1 c10 hn).symm | exact (rAt_c (r_in c1 c10 hn)).symm)
set_option maxHeartbeats 4000000 in
set_option maxRecDepth 100000 in
/-- Row.put -/
theorem k_X6_put (l : Launch) (D : va_G) (cI cZ : ClassId) (h : Nat) (a : Nat) (n : Nat) (f : Nat → Int32) (i : Int32) (x : Int32) (hn : n < 2 ^ 31) : fx_CV l D cI cZ yX6_put wsX6_put ({ frames := 0, cells := 0, slots := 0, locals := 0 }) [.ref h, .int i, .int x] [(h, .inr (6, [.ref a])), (a, .inl (cI, n, .inl f))] (fun (u : (Nat → Int32)) => [(h, .inr (6, [.ref a])), (a, .inl (cI, n, .inl u))]) (fun (u : (Nat → Int32)) => u = rPut n f i x) := by
  refine fx_CV.of (ws' := (wsX6_put).tail) cX6_put 3 (by decide) rfl (Nat.le_of_ble_eq_true rfl) ?_
  intro zp ze zs zm za zb zt zc zA ls zQ hQ hC hr hlk hnm hA hH hl
  have zx := hC.1.1
  have zy := hC.1.2.1
  have hl : lv_has ls 3 [(0, .ref h), (1, .int i), (2, .int x)] := hl
  refine lv_iload_n zx zy dX6_put_0 rfl (lv_at hl 1 rfl) ?_
  refine lv_if_lt (tgt := 20) zx zy dX6_put_1 (by decide) (fun c1 => ?_) (fun c1 => ?_)
  · skip
    exact fx_vret hQ hC hr hlk hH dX6_put_20 (Nat.le_of_ble_eq_true rfl) (Nat.le_of_ble_eq_true rfl) (f) rfl (by first | exact (rPut_a c1).symm | exact (rPut_b c1 c10 hn).symm | exact (rPut_c (r_in c1 c10 hn)).symm)
  · skip
    refine lv_iload_n zx zy dX6_put_4 rfl (lv_at hl 1 rfl) ?_
    refine lv_aload_n zx zy dX6_put_5 rfl (lv_at hl 0 rfl) ?_
    refine fx_get (C := RX6) (T := TX6) (N := 1) hC (fun _ h => List.mem_cons_of_mem _ (List.mem_append_right _ h)) hH 0 rfl rfl 0 (by decide) (by decide +kernel) rfl dX6_put_6 ?_
    refine fx_len (v := nI n) hC hH 1 rfl rfl dX6_put_9 ?_
    refine lv_icmp_ge (tgt := 20) zx zy dX6_put_10 (by decide) (fun c10 => ?_) (fun c10 => ?_)
    · skip
      exact fx_vret hQ hC hr hlk hH dX6_put_20 (Nat.le_of_ble_eq_true rfl) (Nat.le_of_ble_eq_true rfl) (f) rfl (by first | exact (rPut_a c1).symm | exact (rPut_b c1 c10 hn).symm | exact (rPut_c (r_in c1 c10 hn)).symm)
    · skip
      refine lv_aload_n zx zy dX6_put_13 rfl (lv_at hl 0 rfl) ?_
      refine fx_get (C := RX6) (T := TX6) (N := 1) hC (fun _ h => List.mem_cons_of_mem _ (List.mem_append_right _ h)) hH 0 rfl rfl 0 (by decide) (by decide +kernel) rfl dX6_put_14 ?_
      refine lv_iload_n zx zy dX6_put_17 rfl (lv_at hl 1 rfl) ?_
      refine lv_iload_n zx zy dX6_put_18 rfl (lv_at hl 2 rfl) ?_
      refine fx_ist (ws2 := [(h, .inr (6, [.ref a])), (a, .inl (cI, n, .inl (upd f (i).toNatClampNeg x)))]) hC hH 1 rfl (r_in c1 c10 hn) rfl dX6_put_19 (fun H locs hH => ?_)
      exact fx_vret hQ hC hr hlk hH dX6_put_20 (Nat.le_of_ble_eq_true rfl) (Nat.le_of_ble_eq_true rfl) (upd f (i).toNatClampNeg x) rfl (by first | exact (rPut_a c1).symm | exact (rPut_b c1 c10 hn).symm | exact (rPut_c (r_in c1 c10 hn)).symm)
set_option maxHeartbeats 4000000 in
set_option maxRecDepth 100000 in
/-- Row.add -/
theorem k_X6_add (l : Launch) (D : va_G) (cI cZ : ClassId) (h : Nat) (a : Nat) (n : Nat) (f : Nat → Int32) (i : Int32) (x : Int32) (hn : n < 2 ^ 31) : fx_CV l D cI cZ yX6_add wsX6_add ({ frames := 1, cells := 0, slots := 0, locals := 22 }) [.ref h, .int i, .int x] [(h, .inr (6, [.ref a])), (a, .inl (cI, n, .inl f))] (fun (u : (Nat → Int32)) => [(h, .inr (6, [.ref a])), (a, .inl (cI, n, .inl u))]) (fun (u : (Nat → Int32)) => u = rPut n f i (rAt n f i + x)) := by
  refine fx_CV.of (ws' := (wsX6_add).tail) cX6_add 3 (by decide) rfl (Nat.le_of_ble_eq_true rfl) ?_
  intro zp ze zs zm za zb zt zc zA ls zQ hQ hC hr hlk hnm hA hH hl
  have zx := hC.1.1
  have zy := hC.1.2.1
  have hl : lv_has ls 3 [(0, .ref h), (1, .int i), (2, .int x)] := hl
  refine lv_aload_n zx zy dX6_add_0 rfl (lv_at hl 0 rfl) ?_
  refine lv_iload_n zx zy dX6_add_1 rfl (lv_at hl 1 rfl) ?_
  refine lv_aload_n zx zy dX6_add_2 rfl (lv_at hl 0 rfl) ?_
  refine lv_iload_n zx zy dX6_add_3 rfl (lv_at hl 1 rfl) ?_
  refine fx_cVi (n := 1) (As := [.int i]) (b := h) (rest := [.int i, .ref h]) (fun (u : Unit) => [(h, .inr (6, [.ref a])), (a, .inl (cI, n, .inl f))]) hC hA hH (k_X6_at l D cI cZ h a n f i (by first | assumption | omega)) [0, 1] [] [0, 1] [] rfl rfl (by decide) (by decide) (fun _ => rfl) rfl gX6_add_X6_at (by decide +kernel) ⟨Nat.le_of_ble_eq_true rfl, Nat.le_of_ble_eq_true rfl⟩ 0 rfl rfl rfl rfl rfl hl.1 (Nat.le_of_ble_eq_true rfl) ⟨Nat.le_of_ble_eq_true rfl, Nat.le_of_ble_eq_true rfl⟩ dX6_add_4 (fun r1 u H locs hw4 hH => ?_)
  obtain rfl : r1 = rAt n f i := hw4
  have hH := (hH : fx_H zA zs.heap H locs D [(h, .inr (6, [.ref a])), (a, .inl (cI, n, .inl f))])
  refine lv_iload_n zx zy dX6_add_7 rfl (lv_at hl 2 rfl) ?_
  refine lv_iadd zx zy dX6_add_8 ?_
  refine fx_cVv (n := 2) (As := [.int i, .int ((rAt n f i) + x)]) (b := h) (rest := []) (fun (u : (Nat → Int32)) => [(h, .inr (6, [.ref a])), (a, .inl (cI, n, .inl u))]) hC hA hH (k_X6_put l D cI cZ h a n f i ((rAt n f i) + x) (by first | assumption | omega)) [0, 1] [] [0, 1] [] rfl rfl (by decide) (by decide) (fun _ => rfl) rfl gX6_add_X6_put (by decide +kernel) ⟨Nat.le_of_ble_eq_true rfl, Nat.le_of_ble_eq_true rfl⟩ 0 rfl rfl rfl rfl rfl hl.1 (Nat.le_of_ble_eq_true rfl) ⟨Nat.le_of_ble_eq_true rfl, Nat.le_of_ble_eq_true rfl⟩ dX6_add_9 (fun u H locs hw9 hH => ?_)
  obtain ⟨u3, rfl⟩ : ∃ z, z = u := ⟨_, rfl⟩
  obtain rfl : u3 = rPut n f i ((rAt n f i) + x) := hw9
  have hH := (hH : fx_H zA zs.heap H locs D [(h, .inr (6, [.ref a])), (a, .inl (cI, n, .inl (rPut n f i ((rAt n f i) + x))))])
  exact fx_vret hQ hC hr hlk hH dX6_add_12 (Nat.le_of_ble_eq_true rfl) (Nat.le_of_ble_eq_true rfl) (rPut n f i ((rAt n f i) + x)) rfl (rfl)
set_option maxHeartbeats 4000000 in
set_option maxRecDepth 100000 in
/-- Row.squeeze -/
theorem k_X6_squeeze (l : Launch) (D : va_G) (cI cZ : ClassId) (h : Nat) (a : Nat) (n : Nat) (f : Nat → Int32) (p : Nat) (q : Nat) (x : Int32) (hn : n < 2 ^ 31) (hpq : p ≤ q) (hqn : q < n) : fx_CV l D cI cZ yX6_squeeze wsX6_squeeze ({ frames := 1, cells := 0, slots := 0, locals := 22 }) [.ref h, .int (nI p), .int (nI q), .int x] [(h, .inr (6, [.ref a])), (a, .inl (cI, n, .inl f))] (fun (u : (Nat → Int32)) => [(h, .inr (6, [.ref a])), (a, .inl (cI, n, .inl u))]) (fun (u : (Nat → Int32)) => u = rSq f p q x) := by
  refine fx_CV.of (ws' := (wsX6_squeeze).tail) cX6_squeeze 5 (by decide) rfl (Nat.le_of_ble_eq_true rfl) ?_
  intro zp ze zs zm za zb zt zc zA ls zQ hQ hC hr hlk hnm hA hH hl
  have zx := hC.1.1
  have zy := hC.1.2.1
  have hl : lv_has ls 5 [(0, .ref h), (1, .int (nI p)), (2, .int (nI q)), (3, .int x)] := hl
  refine lv_iload_n zx zy dX6_squeeze_0 rfl (lv_at hl 2 rfl) ?_
  refine lv_istore (lv' := [(4, .int (nI q)), (0, .ref h), (1, .int (nI p)), (2, .int (nI q)), (3, .int x)]) zx zy dX6_squeeze_1 hl (by decide) rfl (fun ls hl => ?_)
  have L3 : ∀ (fu : Nat) (i : Nat) (hpi : p ≤ i) (hiq : i ≤ q) (H : Heap) (locs : List Loc) (ls : Array Slot), i < fu → fx_H zA zs.heap H locs D [(h, .inr (6, [.ref a])), (a, .inl (cI, n, .inl (rSqL f i q)))] → lv_has ls 5 [(0, .ref h), (1, .int (nI p)), (2, .int (nI q)), (3, .int x), (4, .int (nI i))] → W zp l ze ({ frames := 1, cells := 0, slots := 0, locals := 22 }) zs zm za zb zt zc H locs (0) (0) zQ (F0 zm 3 ls []) := by
    intro fu
    induction fu with
    | zero => intro i hpi hiq H locs ls hfu; exact absurd hfu (Nat.not_lt_zero _)
    | succ fu ih3 =>
      intro i hpi hiq H locs ls hfu3 hH hl
      refine lv_iload zx zy dX6_squeeze_3 (lv_at hl 4 rfl) ?_
      refine lv_iload_n zx zy dX6_squeeze_5 rfl (lv_at hl 1 rfl) ?_
      refine lv_icmp_le (tgt := 29) zx zy dX6_squeeze_6 (by decide) (fun c6 => ?_) (fun c6 => ?_)
      · skip
        have hip : i = p := Nat.le_antisymm (fx_le_of c6 (by omega) (by omega)) hpi
        refine lv_aload_n zx zy dX6_squeeze_29 rfl (lv_at hl 0 rfl) ?_
        refine lv_iload_n zx zy dX6_squeeze_30 rfl (lv_at hl 1 rfl) ?_
        refine lv_iload_n zx zy dX6_squeeze_31 rfl (lv_at hl 3 rfl) ?_
        refine fx_cVv (n := 2) (As := [.int (nI p), .int x]) (b := h) (rest := []) (fun (u : (Nat → Int32)) => [(h, .inr (6, [.ref a])), (a, .inl (cI, n, .inl u))]) hC hA hH (k_X6_put l D cI cZ h a n (rSqL f i q) (nI p) x (by first | assumption | omega)) [0, 1] [] [0, 1] [] rfl rfl (by decide) (by decide) (fun _ => rfl) rfl gX6_squeeze_X6_put (by decide +kernel) ⟨Nat.le_of_ble_eq_true rfl, Nat.le_of_ble_eq_true rfl⟩ 0 rfl rfl rfl rfl rfl hl.1 (Nat.le_of_ble_eq_true rfl) ⟨Nat.le_of_ble_eq_true rfl, Nat.le_of_ble_eq_true rfl⟩ dX6_squeeze_32 (fun u H locs hw32 hH => ?_)
        obtain ⟨u2, rfl⟩ : ∃ z, z = u := ⟨_, rfl⟩
        obtain rfl : u2 = rPut n (rSqL f i q) (nI p) x := hw32
        have hH := (hH : fx_H zA zs.heap H locs D [(h, .inr (6, [.ref a])), (a, .inl (cI, n, .inl (rPut n (rSqL f i q) (nI p) x)))])
        exact fx_vret hQ hC hr hlk hH dX6_squeeze_35 (Nat.le_of_ble_eq_true rfl) (Nat.le_of_ble_eq_true rfl) (rPut n (rSqL f i q) (nI p) x) rfl (by rw [hip]; exact rSq_end n hn hpq hqn)
      · skip
        have hlt : p < i := Nat.lt_of_not_le (fun h => c6 (nI_le h (by omega)))
        refine lv_aload_n zx zy dX6_squeeze_9 rfl (lv_at hl 0 rfl) ?_
        refine lv_iload zx zy dX6_squeeze_10 (lv_at hl 4 rfl) ?_
        refine lv_aload_n zx zy dX6_squeeze_12 rfl (lv_at hl 0 rfl) ?_
        refine lv_iload zx zy dX6_squeeze_13 (lv_at hl 4 rfl) ?_
        refine lv_iconst (v := 1) zx zy dX6_squeeze_15 (by decide) ?_
        refine lv_isub zx zy dX6_squeeze_16 ?_
        refine lv_topi (fun v3 ev3 => ?_)
        obtain rfl : v3 = nI (i - 1) := ev3.trans (fx_m1 (by omega))
        refine fx_cVi (n := 1) (As := [.int (nI (i - 1))]) (b := h) (rest := [.int (nI i), .ref h]) (fun (u : Unit) => [(h, .inr (6, [.ref a])), (a, .inl (cI, n, .inl (rSqL f i q)))]) hC hA hH (k_X6_at l D cI cZ h a n (rSqL f i q) (nI (i - 1)) (by first | assumption | omega)) [0, 1] [] [0, 1] [] rfl rfl (by decide) (by decide) (fun _ => rfl) rfl gX6_squeeze_X6_at (by decide +kernel) ⟨Nat.le_of_ble_eq_true rfl, Nat.le_of_ble_eq_true rfl⟩ 0 rfl rfl rfl rfl rfl hl.1 (Nat.le_of_ble_eq_true rfl) ⟨Nat.le_of_ble_eq_true rfl, Nat.le_of_ble_eq_true rfl⟩ dX6_squeeze_17 (fun r4 u H locs hw17 hH => ?_)
        obtain rfl : r4 = rAt n (rSqL f i q) (nI (i - 1)) := hw17
        have hH := (hH : fx_H zA zs.heap H locs D [(h, .inr (6, [.ref a])), (a, .inl (cI, n, .inl (rSqL f i q)))])
        refine fx_cVv (n := 2) (As := [.int (nI i), .int (rAt n (rSqL f i q) (nI (i - 1)))]) (b := h) (rest := []) (fun (u : (Nat → Int32)) => [(h, .inr (6, [.ref a])), (a, .inl (cI, n, .inl u))]) hC hA hH (k_X6_put l D cI cZ h a n (rSqL f i q) (nI i) (rAt n (rSqL f i q) (nI (i - 1))) (by first | assumption | omega)) [0, 1] [] [0, 1] [] rfl rfl (by decide) (by decide) (fun _ => rfl) rfl gX6_squeeze_X6_put (by decide +kernel) ⟨Nat.le_of_ble_eq_true rfl, Nat.le_of_ble_eq_true rfl⟩ 0 rfl rfl rfl rfl rfl hl.1 (Nat.le_of_ble_eq_true rfl) ⟨Nat.le_of_ble_eq_true rfl, Nat.le_of_ble_eq_true rfl⟩ dX6_squeeze_20 (fun u H locs hw20 hH => ?_)
        obtain ⟨u6, rfl⟩ : ∃ z, z = u := ⟨_, rfl⟩
        obtain rfl : u6 = rPut n (rSqL f i q) (nI i) (rAt n (rSqL f i q) (nI (i - 1))) := hw20
        have hH := (hH : fx_H zA zs.heap H locs D [(h, .inr (6, [.ref a])), (a, .inl (cI, n, .inl (rPut n (rSqL f i q) (nI i) (rAt n (rSqL f i q) (nI (i - 1))))))])
        rw [show (rPut n (rSqL f i q) (nI i) (rAt n (rSqL f i q) (nI (i - 1))) : Nat → Int32) = rSqL f (i - 1) q from rSq_step n hn (by omega) hiq hqn] at hH
        refine lv_iinc (v := nI (i - 1)) (lv' := [(4, .int (nI (i - 1))), (0, .ref h), (1, .int (nI p)), (2, .int (nI q)), (3, .int x)]) zx zy dX6_squeeze_23 hl (k := 4) rfl (sb_m1 (by omega)) (by decide) rfl (fun ls hl => ?_)
        refine lv_goto (tgt := 3) zx zy dX6_squeeze_26 (by decide) ?_
        exact ih3 (i - 1) (by first | assumption | omega) (by first | assumption | omega) _ _ _ (by omega) hH (lv_sub hl [1, 2, 3, 4, 0] rfl)
  exact L3 _ q (by first | assumption | omega) (by first | assumption | omega) _ _ _ (Nat.lt_succ_self _) (by rw [rSqL_0]; exact hH) (lv_sub hl [1, 2, 3, 4, 0] rfl)
end
section
theorem w_in {x : Int32} {N : Nat} (hN : N < 2 ^ 31) (h1 : ¬ x < 0) (h2 : ¬ nI N < x) : ∃ j, j < N + 1 ∧ x = nI j := by
  obtain ⟨j, hj, rfl⟩ := nI_of h1
  exact ⟨j, Nat.lt_succ_of_le (Nat.le_of_not_lt (fun h => h2 (nI_lt h hj))), rfl⟩
theorem w_out {x : Int32} {N : Nat} (hN : N < 2 ^ 31) (h : x < 0 ∨ nI N < x) : ¬ ∃ j, j < N + 1 ∧ x = nI j := by
  rintro ⟨j, hj, rfl⟩
  rcases h with h | h
  · exact nI_pos (by omega) h
  · exact nI_nlt (by omega : j ≤ N) hN h
theorem w_inK {x : Int32} {k : Nat} (hk : k < 2 ^ 31) (h1 : ¬ x < 0) (h2 : ¬ nI k - 1 < x) : ∃ j, j < k ∧ x = nI j := by
  obtain ⟨j, hj, rfl⟩ := nI_of h1
  cases k with
  | zero => exact absurd (by
      have e : nI 0 - 1 = (-1 : Int32) := by decide
      rw [e]
      exact Int32.lt_iff_toInt_lt.mpr (by rw [nI_toInt hj]; show (-1 : Int) < _; omega)) h2
  | succ k =>
    rw [nI_pred] at h2
    exact ⟨j, Nat.lt_succ_of_le (Nat.le_of_not_lt (fun h => h2 (nI_lt h hj))), rfl⟩
theorem w_outK {x : Int32} {k : Nat} (hk : k < 2 ^ 31) (h : x < 0 ∨ nI k - 1 < x) : ¬ ∃ j, j < k ∧ x = nI j := by
  rintro ⟨j, hj, rfl⟩
  rcases h with h | h
  · exact nI_pos (by omega) h
  · cases k with
    | zero => omega
    | succ k =>
      rw [nI_pred] at h
      exact nI_nlt (by omega : j ≤ k) (by omega) h
/-- the rule in force among the first k: the last of the greatest years that aren't above y -/
def inF (f : Nat → Int32) (y : Int32) : Nat → Int32
  | 0 => -1
  | k + 1 => if y < f k then inF f y k else if inF f y k = -1 then nI k else if f k < rAt 30 f (inF f y k) then inF f y k else nI k
def capGo (fall : Int32) : Nat → Int32 → Int32
  | 0, c => c
  | d + 1, c => capGo fall d (c - c * fall / 100)
def capV (f0 f1 f2 : Nat → Int32) (k y : Nat) : Int32 := capGo (rAt 30 f2 (inF f0 (nI y) k)) (y - (rAt 30 f0 (inF f0 (nI y) k)).toNatClampNeg) (rAt 30 f1 (inF f0 (nI y) k))
theorem inF_ix (f : Nat → Int32) (y : Int32) : ∀ k, inF f y k = -1 ∨ ∃ j, j < k ∧ inF f y k = nI j
  | 0 => Or.inl rfl
  | k + 1 => by
    have ih := inF_ix f y k
    have up : (inF f y k = -1 ∨ ∃ j, j < k + 1 ∧ inF f y k = nI j) := ih.imp id (fun ⟨j, h, e⟩ => ⟨j, by omega, e⟩)
    simp only [inF]
    split
    · exact up
    · split
      · exact Or.inr ⟨k, by omega, rfl⟩
      · split
        · exact up
        · exact Or.inr ⟨k, by omega, rfl⟩
theorem inF_at {f g : Nat → Int32} {y : Int32} {k : Nat} (hk : k ≤ 30) {P : Int32 → Prop} (h0 : P 0) (h : ∀ j, j < k → P (g j)) : P (rAt 30 g (inF f y k)) := by
  rcases inF_ix f y k with e | ⟨j, hj, e⟩
  · rw [e, rAt_m1]; exact h0
  · rw [e, rAt_nI (by omega) (by omega)]; exact h j hj
theorem capGo_s {fall c : Int32} {y v : Nat} (h : v < y) : capGo fall (y - v) c = capGo fall (y - (v + 1)) (c - c * fall / 100) := by
  obtain ⟨d, e⟩ : ∃ d, y - v = d + 1 := ⟨y - v - 1, by omega⟩
  rw [e, show y - (v + 1) = d by omega]
  rfl
def tlOk (k : Nat) (w s : Int32) : Prop := k < 30 ∧ ¬ 400 < w / 1000 ∧ ¬ 100 < w - w / 1000 * 1000 ∧ s / 100000 ≤ 100
theorem fx_ge30 {k : Nat} (hk : k < 2 ^ 31) {N : Nat} (h : nI N ≤ nI k) (hN : N < 2 ^ 31) : N ≤ k := fx_le_of h hk hN
set_option maxHeartbeats 4000000 in
set_option maxRecDepth 100000 in
theorem k_X8_isWithin (l : Launch) (D : va_G) (cI cZ : ClassId) (x : Int32) (lo : Int32) (hi : Int32) : fx_CI l D cI cZ yX8_isWithin wsX8_isWithin ({ frames := 0, cells := 0, slots := 0, locals := 0 }) [.int x, .int lo, .int hi] [] (fun (u : Unit) => []) (fun (r : Int32) (u : Unit) => ((¬ x < lo ∧ ¬ hi < x) ∧ r = 1) ∨ ((x < lo ∨ hi < x) ∧ r = 0)) := by
  refine fx_CI.of (ws' := (wsX8_isWithin).tail) cX8_isWithin 3 (by decide) rfl (Nat.le_of_ble_eq_true rfl) ?_
  intro zp ze zs zm za zb zt zc zA ls zQ hQ hC hr hlk hA hH hl
  have zx := hC.1.1
  have zy := hC.1.2.1
  have hl : lv_has ls 3 [(0, .int x), (1, .int lo), (2, .int hi)] := hl
  refine lv_iload_n zx zy dX8_isWithin_0 rfl (lv_at hl 0 rfl) ?_
  refine lv_iload_n zx zy dX8_isWithin_1 rfl (lv_at hl 1 rfl) ?_
  refine lv_icmp_lt (tgt := 14) zx zy dX8_isWithin_2 (by decide) (fun c2 => ?_) (fun c2 => ?_)
  · skip
    refine lv_iconst (v := 0) zx zy dX8_isWithin_14 (by decide) ?_
    exact fx_iret (v := 0) hQ hC hr hlk hH dX8_isWithin_15 rfl (Nat.le_of_ble_eq_true rfl) (Nat.le_of_ble_eq_true rfl) (()) rfl (by first | exact Or.inl ⟨⟨c2, c7⟩, rfl⟩ | exact Or.inr ⟨Or.inl c2, rfl⟩ | exact Or.inr ⟨Or.inr c7, rfl⟩)
  · skip
    refine lv_iload_n zx zy dX8_isWithin_5 rfl (lv_at hl 0 rfl) ?_
    refine lv_iload_n zx zy dX8_isWithin_6 rfl (lv_at hl 2 rfl) ?_
    refine lv_icmp_gt (tgt := 14) zx zy dX8_isWithin_7 (by decide) (fun c7 => ?_) (fun c7 => ?_)
    · skip
      refine lv_iconst (v := 0) zx zy dX8_isWithin_14 (by decide) ?_
      exact fx_iret (v := 0) hQ hC hr hlk hH dX8_isWithin_15 rfl (Nat.le_of_ble_eq_true rfl) (Nat.le_of_ble_eq_true rfl) (()) rfl (by first | exact Or.inl ⟨⟨c2, c7⟩, rfl⟩ | exact Or.inr ⟨Or.inl c2, rfl⟩ | exact Or.inr ⟨Or.inr c7, rfl⟩)
    · skip
      refine lv_iconst (v := 1) zx zy dX8_isWithin_10 (by decide) ?_
      refine lv_goto (tgt := 15) zx zy dX8_isWithin_11 (by decide) ?_
      exact fx_iret (v := 1) hQ hC hr hlk hH dX8_isWithin_15 rfl (Nat.le_of_ble_eq_true rfl) (Nat.le_of_ble_eq_true rfl) (()) rfl (by first | exact Or.inl ⟨⟨c2, c7⟩, rfl⟩ | exact Or.inr ⟨Or.inl c2, rfl⟩ | exact Or.inr ⟨Or.inr c7, rfl⟩)
set_option maxHeartbeats 4000000 in
set_option maxRecDepth 100000 in
theorem k_X9_in (l : Launch) (D : va_G) (cI cZ : ClassId) (x : Int32) (lo : Int32) (hi : Int32) : fx_CI l D cI cZ yX9_in wsX9_in ({ frames := 0, cells := 0, slots := 0, locals := 0 }) [.int x, .int lo, .int hi] [] (fun (u : Unit) => []) (fun (r : Int32) (u : Unit) => ((¬ x < lo ∧ ¬ hi < x) ∧ r = 1) ∨ ((x < lo ∨ hi < x) ∧ r = 0)) := by
  refine fx_CI.of (ws' := (wsX9_in).tail) cX9_in 3 (by decide) rfl (Nat.le_of_ble_eq_true rfl) ?_
  intro zp ze zs zm za zb zt zc zA ls zQ hQ hC hr hlk hA hH hl
  have zx := hC.1.1
  have zy := hC.1.2.1
  have hl : lv_has ls 3 [(0, .int x), (1, .int lo), (2, .int hi)] := hl
  refine lv_iload_n zx zy dX9_in_0 rfl (lv_at hl 0 rfl) ?_
  refine lv_iload_n zx zy dX9_in_1 rfl (lv_at hl 1 rfl) ?_
  refine lv_icmp_lt (tgt := 14) zx zy dX9_in_2 (by decide) (fun c2 => ?_) (fun c2 => ?_)
  · skip
    refine lv_iconst (v := 0) zx zy dX9_in_14 (by decide) ?_
    exact fx_iret (v := 0) hQ hC hr hlk hH dX9_in_15 rfl (Nat.le_of_ble_eq_true rfl) (Nat.le_of_ble_eq_true rfl) (()) rfl (by first | exact Or.inl ⟨⟨c2, c7⟩, rfl⟩ | exact Or.inr ⟨Or.inl c2, rfl⟩ | exact Or.inr ⟨Or.inr c7, rfl⟩)
  · skip
    refine lv_iload_n zx zy dX9_in_5 rfl (lv_at hl 0 rfl) ?_
    refine lv_iload_n zx zy dX9_in_6 rfl (lv_at hl 2 rfl) ?_
    refine lv_icmp_gt (tgt := 14) zx zy dX9_in_7 (by decide) (fun c7 => ?_) (fun c7 => ?_)
    · skip
      refine lv_iconst (v := 0) zx zy dX9_in_14 (by decide) ?_
      exact fx_iret (v := 0) hQ hC hr hlk hH dX9_in_15 rfl (Nat.le_of_ble_eq_true rfl) (Nat.le_of_ble_eq_true rfl) (()) rfl (by first | exact Or.inl ⟨⟨c2, c7⟩, rfl⟩ | exact Or.inr ⟨Or.inl c2, rfl⟩ | exact Or.inr ⟨Or.inr c7, rfl⟩)
    · skip
      refine lv_iconst (v := 1) zx zy dX9_in_10 (by decide) ?_
      refine lv_goto (tgt := 15) zx zy dX9_in_11 (by decide) ?_
      exact fx_iret (v := 1) hQ hC hr hlk hH dX9_in_15 rfl (Nat.le_of_ble_eq_true rfl) (Nat.le_of_ble_eq_true rfl) (()) rfl (by first | exact Or.inl ⟨⟨c2, c7⟩, rfl⟩ | exact Or.inr ⟨Or.inl c2, rfl⟩ | exact Or.inr ⟨Or.inr c7, rfl⟩)
set_option maxHeartbeats 4000000 in
set_option maxRecDepth 100000 in
theorem k_X8_isYear (l : Launch) (D : va_G) (cI cZ : ClassId) (x : Int32) : fx_CI l D cI cZ yX8_isYear wsX8_isYear ({ frames := 1, cells := 0, slots := 0, locals := 22 }) [.int x] [] (fun (u : Unit) => []) (fun (r : Int32) (u : Unit) => ((∃ j, j < 20 ∧ x = nI j) ∧ r = 1) ∨ ((¬ ∃ j, j < 20 ∧ x = nI j) ∧ r = 0)) := by
  refine fx_CI.of (ws' := (wsX8_isYear).tail) cX8_isYear 1 (by decide) rfl (Nat.le_of_ble_eq_true rfl) ?_
  intro zp ze zs zm za zb zt zc zA ls zQ hQ hC hr hlk hA hH hl
  have zx := hC.1.1
  have zy := hC.1.2.1
  have hl : lv_has ls 1 [(0, .int x)] := hl
  refine lv_iload_n zx zy dX8_isYear_0 rfl (lv_at hl 0 rfl) ?_
  refine lv_iconst (v := 0) zx zy dX8_isYear_1 (by decide) ?_
  refine lv_bipush (v := 19) zx zy dX8_isYear_2 (by decide) ?_
  refine fx_cSi (n := 3) (As := [.int x, .int 0, .int 19]) (rest := []) hC hA hH (k_X8_isWithin l D cI cZ x 0 19) ⟨rfl, rfl⟩ rfl gX8_isYear_X8_isWithin (by decide +kernel) ⟨Nat.le_of_ble_eq_true rfl, Nat.le_of_ble_eq_true rfl⟩ rfl rfl hl.1 (Nat.le_of_ble_eq_true rfl) ⟨(Nat.le_of_ble_eq_true rfl), (Nat.le_of_ble_eq_true rfl)⟩ dX8_isYear_4 (fun r1 H locs hw4 hH => ?_)
  rcases hw4 with ⟨hg4, rfl⟩ | ⟨hg4, rfl⟩
  · skip
    have hH := (hH : fx_H zA zs.heap H locs D [])
    exact fx_iret (v := 1) hQ hC hr hlk hH dX8_isYear_7 rfl (Nat.le_of_ble_eq_true rfl) (Nat.le_of_ble_eq_true rfl) (()) rfl (by first | exact Or.inl ⟨w_in (N := 19) (by omega) hg4.1 hg4.2, rfl⟩ | exact Or.inr ⟨w_out (N := 19) (by omega) hg4, rfl⟩)
  · skip
    have hH := (hH : fx_H zA zs.heap H locs D [])
    exact fx_iret (v := 0) hQ hC hr hlk hH dX8_isYear_7 rfl (Nat.le_of_ble_eq_true rfl) (Nat.le_of_ble_eq_true rfl) (()) rfl (by first | exact Or.inl ⟨w_in (N := 19) (by omega) hg4.1 hg4.2, rfl⟩ | exact Or.inr ⟨w_out (N := 19) (by omega) hg4, rfl⟩)
set_option maxHeartbeats 4000000 in
set_option maxRecDepth 100000 in
theorem k_X8_isWorks (l : Launch) (D : va_G) (cI cZ : ClassId) (h : Nat) (rl : Nat) (mt : Nat) (pm : Nat) (al : Nat) (bd : Nat) (ct : Nat) (lg : Nat) (fp : Nat) (now : Nat) (wk : Nat) (pj : Nat) (ac : Int32) (iy : Int32) (x : Int32) (hwk : wk ≤ 10) : fx_CI l D cI cZ yX8_isWorks wsX8_isWorks ({ frames := 1, cells := 0, slots := 0, locals := 22 }) [.ref h, .int x] [(h, .inr (8, [.ref rl, .ref mt, .ref pm, .ref al, .ref bd, .ref ct, .ref lg, .ref fp, .int (nI now), .int (nI wk), .int (nI pj), .int ac, .int iy]))] (fun (u : Unit) => [(h, .inr (8, [.ref rl, .ref mt, .ref pm, .ref al, .ref bd, .ref ct, .ref lg, .ref fp, .int (nI now), .int (nI wk), .int (nI pj), .int ac, .int iy]))]) (fun (r : Int32) (u : Unit) => ((∃ j, j < wk ∧ x = nI j) ∧ r = 1) ∨ ((¬ ∃ j, j < wk ∧ x = nI j) ∧ r = 0)) := by
  refine fx_CI.of (ws' := (wsX8_isWorks).tail) cX8_isWorks 2 (by decide) rfl (Nat.le_of_ble_eq_true rfl) ?_
  intro zp ze zs zm za zb zt zc zA ls zQ hQ hC hr hlk hA hH hl
  have zx := hC.1.1
  have zy := hC.1.2.1
  have hl : lv_has ls 2 [(0, .ref h), (1, .int x)] := hl
  refine lv_iload_n zx zy dX8_isWorks_0 rfl (lv_at hl 1 rfl) ?_
  refine lv_iconst (v := 0) zx zy dX8_isWorks_1 (by decide) ?_
  refine lv_aload_n zx zy dX8_isWorks_2 rfl (lv_at hl 0 rfl) ?_
  refine fx_get (C := RX8) (T := TX8) (N := 13) hC (fun _ h => List.mem_cons_of_mem _ (List.mem_append_right _ h)) hH 0 rfl rfl 9 (by decide) (by decide +kernel) rfl dX8_isWorks_3 ?_
  refine lv_iconst (v := 1) zx zy dX8_isWorks_6 (by decide) ?_
  refine lv_isub zx zy dX8_isWorks_7 ?_
  refine fx_cSi (n := 3) (As := [.int x, .int 0, .int ((nI wk) - 1)]) (rest := []) hC hA hH (k_X8_isWithin l D cI cZ x 0 ((nI wk) - 1)) ⟨rfl, rfl⟩ rfl gX8_isWorks_X8_isWithin (by decide +kernel) ⟨Nat.le_of_ble_eq_true rfl, Nat.le_of_ble_eq_true rfl⟩ rfl rfl hl.1 (Nat.le_of_ble_eq_true rfl) ⟨(Nat.le_of_ble_eq_true rfl), (Nat.le_of_ble_eq_true rfl)⟩ dX8_isWorks_8 (fun r1 H locs hw8 hH => ?_)
  rcases hw8 with ⟨hg8, rfl⟩ | ⟨hg8, rfl⟩
  · skip
    have hH := (hH : fx_H zA zs.heap H locs D [(h, .inr (8, [.ref rl, .ref mt, .ref pm, .ref al, .ref bd, .ref ct, .ref lg, .ref fp, .int (nI now), .int (nI wk), .int (nI pj), .int ac, .int iy]))])
    exact fx_iret (v := 1) hQ hC hr hlk hH dX8_isWorks_11 rfl (Nat.le_of_ble_eq_true rfl) (Nat.le_of_ble_eq_true rfl) (()) rfl (by first | exact Or.inl ⟨w_inK (by omega) hg8.1 hg8.2, rfl⟩ | exact Or.inr ⟨w_outK (by omega) hg8, rfl⟩)
  · skip
    have hH := (hH : fx_H zA zs.heap H locs D [(h, .inr (8, [.ref rl, .ref mt, .ref pm, .ref al, .ref bd, .ref ct, .ref lg, .ref fp, .int (nI now), .int (nI wk), .int (nI pj), .int ac, .int iy]))])
    exact fx_iret (v := 0) hQ hC hr hlk hH dX8_isWorks_11 rfl (Nat.le_of_ble_eq_true rfl) (Nat.le_of_ble_eq_true rfl) (()) rfl (by first | exact Or.inl ⟨w_inK (by omega) hg8.1 hg8.2, rfl⟩ | exact Or.inr ⟨w_outK (by omega) hg8, rfl⟩)
set_option maxHeartbeats 4000000 in
set_option maxRecDepth 100000 in
theorem k_X7_inForce (l : Launch) (D : va_G) (cI cZ : ClassId) (h : Nat) (r0 : Nat) (r1 : Nat) (r2 : Nat) (r3 : Nat) (r4 : Nat) (r5 : Nat) (k : Nat) (a0 : Nat) (f0 : Nat → Int32) (y : Int32) (hk : k ≤ 30) : fx_CI l D cI cZ yX7_inForce wsX7_inForce ({ frames := 1, cells := 0, slots := 0, locals := 21 }) [.ref h, .int y] [(h, .inr (7, [.ref r0, .ref r1, .ref r2, .ref r3, .ref r4, .ref r5, .int (nI k)])), (r0, .inr (6, [.ref a0])), (a0, .inl (cI, 30, .inl f0))] (fun (u : Unit) => [(h, .inr (7, [.ref r0, .ref r1, .ref r2, .ref r3, .ref r4, .ref r5, .int (nI k)])), (r0, .inr (6, [.ref a0])), (a0, .inl (cI, 30, .inl f0))]) (fun (r : Int32) (u : Unit) => r = inF f0 y k) := by
  refine fx_CI.of (ws' := (wsX7_inForce).tail) cX7_inForce 4 (by decide) rfl (Nat.le_of_ble_eq_true rfl) ?_
  intro zp ze zs zm za zb zt zc zA ls zQ hQ hC hr hlk hA hH hl
  have zx := hC.1.1
  have zy := hC.1.2.1
  have hl : lv_has ls 4 [(0, .ref h), (1, .int y)] := hl
  refine lv_iconst (v := (-1)) zx zy dX7_inForce_0 (by decide) ?_
  refine lv_istore_n (lv' := [(2, .int (-1)), (0, .ref h), (1, .int y)]) zx zy dX7_inForce_1 rfl hl (by decide) rfl (fun ls hl => ?_)
  refine lv_iconst (v := 0) zx zy dX7_inForce_2 (by decide) ?_
  refine lv_topi (fun v1 ev1 => ?_)
  obtain rfl : v1 = nI 0 := ev1.trans (rfl)
  refine lv_istore_n (lv' := [(3, .int (nI 0)), (2, .int (-1)), (0, .ref h), (1, .int y)]) zx zy dX7_inForce_3 rfl hl (by decide) rfl (fun ls hl => ?_)
  have L4 : ∀ (fu : Nat) (i : Nat) (b : Int32) (hi : i ≤ k) (hb : b = inF f0 y i) (H : Heap) (locs : List Loc) (ls : Array Slot), k - i < fu → fx_H zA zs.heap H locs D [(h, .inr (7, [.ref r0, .ref r1, .ref r2, .ref r3, .ref r4, .ref r5, .int (nI k)])), (r0, .inr (6, [.ref a0])), (a0, .inl (cI, 30, .inl f0))] → lv_has ls 4 [(0, .ref h), (1, .int y), (2, .int b), (3, .int (nI i))] → W zp l ze ({ frames := 1, cells := 0, slots := 0, locals := 21 }) zs zm za zb zt zc H locs (0) (0) zQ (F0 zm 4 ls []) := by
    intro fu
    induction fu with
    | zero => intro i b hi hb H locs ls hfu; exact absurd hfu (Nat.not_lt_zero _)
    | succ fu ih4 =>
      intro i b hi hb H locs ls hfu4 hH hl
      refine lv_iload_n zx zy dX7_inForce_4 rfl (lv_at hl 3 rfl) ?_
      refine lv_aload_n zx zy dX7_inForce_5 rfl (lv_at hl 0 rfl) ?_
      refine fx_get (C := RX7) (T := TX7) (N := 7) hC (fun _ h => List.mem_cons_of_mem _ (List.mem_append_left _ (List.mem_append_right _ h))) hH 0 rfl rfl 6 (by decide) (by decide +kernel) rfl dX7_inForce_6 ?_
      refine lv_icmp_ge (tgt := 56) zx zy dX7_inForce_9 (by decide) (fun c9 => ?_) (fun c9 => ?_)
      · skip
        refine lv_iload_n zx zy dX7_inForce_56 rfl (lv_at hl 2 rfl) ?_
        exact fx_iret (v := b) hQ hC hr hlk hH dX7_inForce_57 rfl (Nat.le_of_ble_eq_true rfl) (Nat.le_of_ble_eq_true rfl) (()) rfl (by rw [hb, Nat.le_antisymm hi (fx_le_of c9 (by omega) (by omega))])
      · skip
        have hlt : i < k := fx_lt_of c9 (by omega)
        refine lv_aload_n zx zy dX7_inForce_12 rfl (lv_at hl 0 rfl) ?_
        refine fx_get (C := RX7) (T := TX7) (N := 7) hC (fun _ h => List.mem_cons_of_mem _ (List.mem_append_left _ (List.mem_append_right _ h))) hH 0 rfl rfl 0 (by decide) (by decide +kernel) rfl dX7_inForce_13 ?_
        refine lv_iload_n zx zy dX7_inForce_16 rfl (lv_at hl 3 rfl) ?_
        refine fx_cVi (n := 1) (As := [.int (nI i)]) (b := r0) (rest := []) (fun (u : Unit) => [(h, .inr (7, [.ref r0, .ref r1, .ref r2, .ref r3, .ref r4, .ref r5, .int (nI k)])), (r0, .inr (6, [.ref a0])), (a0, .inl (cI, 30, .inl f0))]) hC hA hH (k_X6_at l D cI cZ r0 a0 30 f0 (nI i) (by first | assumption | omega)) [1, 2] [0] [0, 1, 2] [(h, .inr (7, [.ref r0, .ref r1, .ref r2, .ref r3, .ref r4, .ref r5, .int (nI k)]))] rfl rfl (by decide) (by decide) (fun _ => rfl) rfl gX7_inForce_X6_at (by decide +kernel) ⟨Nat.le_of_ble_eq_true rfl, Nat.le_of_ble_eq_true rfl⟩ 0 rfl rfl rfl rfl rfl hl.1 (Nat.le_of_ble_eq_true rfl) ⟨Nat.le_of_ble_eq_true rfl, Nat.le_of_ble_eq_true rfl⟩ dX7_inForce_17 (fun r2 u H locs hw17 hH => ?_)
        obtain rfl : r2 = rAt 30 f0 (nI i) := hw17
        have hH := (hH : fx_H zA zs.heap H locs D [(h, .inr (7, [.ref r0, .ref r1, .ref r2, .ref r3, .ref r4, .ref r5, .int (nI k)])), (r0, .inr (6, [.ref a0])), (a0, .inl (cI, 30, .inl f0))])
        refine lv_topi (fun v3 ev3 => ?_)
        obtain rfl : v3 = f0 i := ev3.trans (rAt_nI (by omega) (by omega))
        refine lv_iload_n zx zy dX7_inForce_20 rfl (lv_at hl 1 rfl) ?_
        refine lv_icmp_gt (tgt := 50) zx zy dX7_inForce_21 (by decide) (fun c21 => ?_) (fun c21 => ?_)
        · skip
          refine lv_iinc (v := nI (i + 1)) (lv' := [(3, .int (nI (i + 1))), (0, .ref h), (1, .int y), (2, .int b)]) zx zy dX7_inForce_50 hl (k := 3) rfl (nI_1 _) (by decide) rfl (fun ls hl => ?_)
          refine lv_goto (tgt := 4) zx zy dX7_inForce_53 (by decide) ?_
          exact ih4 (i + 1) b (by first | assumption | omega) (by subst hb; first | exact (if_pos c21).symm | exact ((if_neg c21).trans (if_pos c26)).symm | exact ((if_neg c21).trans ((if_neg c26).trans (if_pos c45))).symm | exact ((if_neg c21).trans ((if_neg c26).trans (if_neg c45))).symm) _ _ _ (by omega) hH (lv_sub hl [1, 2, 3, 0] rfl)
        · skip
          refine lv_iload_n zx zy dX7_inForce_24 rfl (lv_at hl 2 rfl) ?_
          refine lv_iconst (v := (-1)) zx zy dX7_inForce_25 (by decide) ?_
          refine lv_icmp_eq (tgt := 48) zx zy dX7_inForce_26 (by decide) (fun c26 => ?_) (fun c26 => ?_)
          · skip
            refine lv_iload_n zx zy dX7_inForce_48 rfl (lv_at hl 3 rfl) ?_
            refine lv_istore_n (lv' := [(2, .int (nI i)), (0, .ref h), (1, .int y), (3, .int (nI i))]) zx zy dX7_inForce_49 rfl hl (by decide) rfl (fun ls hl => ?_)
            refine lv_iinc (v := nI (i + 1)) (lv' := [(3, .int (nI (i + 1))), (2, .int (nI i)), (0, .ref h), (1, .int y)]) zx zy dX7_inForce_50 hl (k := 3) rfl (nI_1 _) (by decide) rfl (fun ls hl => ?_)
            refine lv_goto (tgt := 4) zx zy dX7_inForce_53 (by decide) ?_
            exact ih4 (i + 1) (nI i) (by first | assumption | omega) (by subst hb; first | exact (if_pos c21).symm | exact ((if_neg c21).trans (if_pos c26)).symm | exact ((if_neg c21).trans ((if_neg c26).trans (if_pos c45))).symm | exact ((if_neg c21).trans ((if_neg c26).trans (if_neg c45))).symm) _ _ _ (by omega) hH (lv_sub hl [2, 3, 1, 0] rfl)
          · skip
            refine lv_aload_n zx zy dX7_inForce_29 rfl (lv_at hl 0 rfl) ?_
            refine fx_get (C := RX7) (T := TX7) (N := 7) hC (fun _ h => List.mem_cons_of_mem _ (List.mem_append_left _ (List.mem_append_right _ h))) hH 0 rfl rfl 0 (by decide) (by decide +kernel) rfl dX7_inForce_30 ?_
            refine lv_iload_n zx zy dX7_inForce_33 rfl (lv_at hl 3 rfl) ?_
            refine fx_cVi (n := 1) (As := [.int (nI i)]) (b := r0) (rest := []) (fun (u : Unit) => [(h, .inr (7, [.ref r0, .ref r1, .ref r2, .ref r3, .ref r4, .ref r5, .int (nI k)])), (r0, .inr (6, [.ref a0])), (a0, .inl (cI, 30, .inl f0))]) hC hA hH (k_X6_at l D cI cZ r0 a0 30 f0 (nI i) (by first | assumption | omega)) [1, 2] [0] [0, 1, 2] [(h, .inr (7, [.ref r0, .ref r1, .ref r2, .ref r3, .ref r4, .ref r5, .int (nI k)]))] rfl rfl (by decide) (by decide) (fun _ => rfl) rfl gX7_inForce_X6_at (by decide +kernel) ⟨Nat.le_of_ble_eq_true rfl, Nat.le_of_ble_eq_true rfl⟩ 0 rfl rfl rfl rfl rfl hl.1 (Nat.le_of_ble_eq_true rfl) ⟨Nat.le_of_ble_eq_true rfl, Nat.le_of_ble_eq_true rfl⟩ dX7_inForce_34 (fun r4 u H locs hw34 hH => ?_)
            obtain rfl : r4 = rAt 30 f0 (nI i) := hw34
            have hH := (hH : fx_H zA zs.heap H locs D [(h, .inr (7, [.ref r0, .ref r1, .ref r2, .ref r3, .ref r4, .ref r5, .int (nI k)])), (r0, .inr (6, [.ref a0])), (a0, .inl (cI, 30, .inl f0))])
            refine lv_topi (fun v5 ev5 => ?_)
            obtain rfl : v5 = f0 i := ev5.trans (rAt_nI (by omega) (by omega))
            refine lv_aload_n zx zy dX7_inForce_37 rfl (lv_at hl 0 rfl) ?_
            refine fx_get (C := RX7) (T := TX7) (N := 7) hC (fun _ h => List.mem_cons_of_mem _ (List.mem_append_left _ (List.mem_append_right _ h))) hH 0 rfl rfl 0 (by decide) (by decide +kernel) rfl dX7_inForce_38 ?_
            refine lv_iload_n zx zy dX7_inForce_41 rfl (lv_at hl 2 rfl) ?_
            refine fx_cVi (n := 1) (As := [.int b]) (b := r0) (rest := [.int (f0 i)]) (fun (u : Unit) => [(h, .inr (7, [.ref r0, .ref r1, .ref r2, .ref r3, .ref r4, .ref r5, .int (nI k)])), (r0, .inr (6, [.ref a0])), (a0, .inl (cI, 30, .inl f0))]) hC hA hH (k_X6_at l D cI cZ r0 a0 30 f0 b (by first | assumption | omega)) [1, 2] [0] [0, 1, 2] [(h, .inr (7, [.ref r0, .ref r1, .ref r2, .ref r3, .ref r4, .ref r5, .int (nI k)]))] rfl rfl (by decide) (by decide) (fun _ => rfl) rfl gX7_inForce_X6_at (by decide +kernel) ⟨Nat.le_of_ble_eq_true rfl, Nat.le_of_ble_eq_true rfl⟩ 0 rfl rfl rfl rfl rfl hl.1 (Nat.le_of_ble_eq_true rfl) ⟨Nat.le_of_ble_eq_true rfl, Nat.le_of_ble_eq_true rfl⟩ dX7_inForce_42 (fun r6 u H locs hw42 hH => ?_)
            obtain rfl : r6 = rAt 30 f0 b := hw42
            have hH := (hH : fx_H zA zs.heap H locs D [(h, .inr (7, [.ref r0, .ref r1, .ref r2, .ref r3, .ref r4, .ref r5, .int (nI k)])), (r0, .inr (6, [.ref a0])), (a0, .inl (cI, 30, .inl f0))])
            refine lv_icmp_lt (tgt := 50) zx zy dX7_inForce_45 (by decide) (fun c45 => ?_) (fun c45 => ?_)
            · skip
              refine lv_iinc (v := nI (i + 1)) (lv' := [(3, .int (nI (i + 1))), (0, .ref h), (1, .int y), (2, .int b)]) zx zy dX7_inForce_50 hl (k := 3) rfl (nI_1 _) (by decide) rfl (fun ls hl => ?_)
              refine lv_goto (tgt := 4) zx zy dX7_inForce_53 (by decide) ?_
              exact ih4 (i + 1) b (by first | assumption | omega) (by subst hb; first | exact (if_pos c21).symm | exact ((if_neg c21).trans (if_pos c26)).symm | exact ((if_neg c21).trans ((if_neg c26).trans (if_pos c45))).symm | exact ((if_neg c21).trans ((if_neg c26).trans (if_neg c45))).symm) _ _ _ (by omega) hH (lv_sub hl [1, 2, 3, 0] rfl)
            · skip
              refine lv_iload_n zx zy dX7_inForce_48 rfl (lv_at hl 3 rfl) ?_
              refine lv_istore_n (lv' := [(2, .int (nI i)), (0, .ref h), (1, .int y), (3, .int (nI i))]) zx zy dX7_inForce_49 rfl hl (by decide) rfl (fun ls hl => ?_)
              refine lv_iinc (v := nI (i + 1)) (lv' := [(3, .int (nI (i + 1))), (2, .int (nI i)), (0, .ref h), (1, .int y)]) zx zy dX7_inForce_50 hl (k := 3) rfl (nI_1 _) (by decide) rfl (fun ls hl => ?_)
              refine lv_goto (tgt := 4) zx zy dX7_inForce_53 (by decide) ?_
              exact ih4 (i + 1) (nI i) (by first | assumption | omega) (by subst hb; first | exact (if_pos c21).symm | exact ((if_neg c21).trans (if_pos c26)).symm | exact ((if_neg c21).trans ((if_neg c26).trans (if_pos c45))).symm | exact ((if_neg c21).trans ((if_neg c26).trans (if_neg c45))).symm) _ _ _ (by omega) hH (lv_sub hl [2, 3, 1, 0] rfl)
  exact L4 _ 0 (-1) (by first | assumption | omega) (rfl) _ _ _ (Nat.lt_succ_self _) hH (lv_sub hl [2, 3, 1, 0] rfl)
set_option maxHeartbeats 4000000 in
set_option maxRecDepth 100000 in
theorem k_X7_shareIn (l : Launch) (D : va_G) (cI cZ : ClassId) (h : Nat) (r0 : Nat) (r1 : Nat) (r2 : Nat) (r3 : Nat) (r4 : Nat) (r5 : Nat) (k : Nat) (a0 : Nat) (a3 : Nat) (f0 : Nat → Int32) (f3 : Nat → Int32) (y : Int32) (hk : k ≤ 30) : fx_CI l D cI cZ yX7_shareIn wsX7_shareIn ({ frames := 2, cells := 0, slots := 0, locals := 44 }) [.ref h, .int y] [(h, .inr (7, [.ref r0, .ref r1, .ref r2, .ref r3, .ref r4, .ref r5, .int (nI k)])), (r0, .inr (6, [.ref a0])), (a0, .inl (cI, 30, .inl f0)), (r3, .inr (6, [.ref a3])), (a3, .inl (cI, 30, .inl f3))] (fun (u : Unit) => [(h, .inr (7, [.ref r0, .ref r1, .ref r2, .ref r3, .ref r4, .ref r5, .int (nI k)])), (r0, .inr (6, [.ref a0])), (a0, .inl (cI, 30, .inl f0)), (r3, .inr (6, [.ref a3])), (a3, .inl (cI, 30, .inl f3))]) (fun (r : Int32) (u : Unit) => r = rAt 30 f3 (inF f0 y k)) := by
  refine fx_CI.of (ws' := (wsX7_shareIn).tail) cX7_shareIn 2 (by decide) rfl (Nat.le_of_ble_eq_true rfl) ?_
  intro zp ze zs zm za zb zt zc zA ls zQ hQ hC hr hlk hA hH hl
  have zx := hC.1.1
  have zy := hC.1.2.1
  have hl : lv_has ls 2 [(0, .ref h), (1, .int y)] := hl
  refine lv_aload_n zx zy dX7_shareIn_0 rfl (lv_at hl 0 rfl) ?_
  refine fx_get (C := RX7) (T := TX7) (N := 7) hC (fun _ h => List.mem_cons_of_mem _ (List.mem_append_left _ (List.mem_append_right _ h))) hH 0 rfl rfl 3 (by decide) (by decide +kernel) rfl dX7_shareIn_1 ?_
  refine lv_aload_n zx zy dX7_shareIn_4 rfl (lv_at hl 0 rfl) ?_
  refine lv_iload_n zx zy dX7_shareIn_5 rfl (lv_at hl 1 rfl) ?_
  refine fx_cVi (n := 1) (As := [.int y]) (b := h) (rest := [.ref r3]) (fun (u : Unit) => [(h, .inr (7, [.ref r0, .ref r1, .ref r2, .ref r3, .ref r4, .ref r5, .int (nI k)])), (r0, .inr (6, [.ref a0])), (a0, .inl (cI, 30, .inl f0)), (r3, .inr (6, [.ref a3])), (a3, .inl (cI, 30, .inl f3))]) hC hA hH (k_X7_inForce l D cI cZ h r0 r1 r2 r3 r4 r5 k a0 f0 y (by first | assumption | omega)) [0, 1, 2] [3, 4] [2, 3, 4, 0, 1] [(r3, .inr (6, [.ref a3])), (a3, .inl (cI, 30, .inl f3))] rfl rfl (by decide) (by decide) (fun _ => rfl) rfl gX7_shareIn_X7_inForce (by decide +kernel) ⟨Nat.le_of_ble_eq_true rfl, Nat.le_of_ble_eq_true rfl⟩ 0 rfl rfl rfl rfl rfl hl.1 (Nat.le_of_ble_eq_true rfl) ⟨Nat.le_of_ble_eq_true rfl, Nat.le_of_ble_eq_true rfl⟩ dX7_shareIn_6 (fun r1 u H locs hw6 hH => ?_)
  obtain rfl : r1 = inF f0 y k := hw6
  have hH := (hH : fx_H zA zs.heap H locs D [(h, .inr (7, [.ref r0, .ref r1, .ref r2, .ref r3, .ref r4, .ref r5, .int (nI k)])), (r0, .inr (6, [.ref a0])), (a0, .inl (cI, 30, .inl f0)), (r3, .inr (6, [.ref a3])), (a3, .inl (cI, 30, .inl f3))])
  refine fx_cVi (n := 1) (As := [.int (inF f0 y k)]) (b := r3) (rest := []) (fun (u : Unit) => [(h, .inr (7, [.ref r0, .ref r1, .ref r2, .ref r3, .ref r4, .ref r5, .int (nI k)])), (r0, .inr (6, [.ref a0])), (a0, .inl (cI, 30, .inl f0)), (r3, .inr (6, [.ref a3])), (a3, .inl (cI, 30, .inl f3))]) hC hA hH (k_X6_at l D cI cZ r3 a3 30 f3 (inF f0 y k) (by first | assumption | omega)) [3, 4] [0, 1, 2] [0, 1, 2, 3, 4] [(h, .inr (7, [.ref r0, .ref r1, .ref r2, .ref r3, .ref r4, .ref r5, .int (nI k)])), (r0, .inr (6, [.ref a0])), (a0, .inl (cI, 30, .inl f0))] rfl rfl (by decide) (by decide) (fun _ => rfl) rfl gX7_shareIn_X6_at (by decide +kernel) ⟨Nat.le_of_ble_eq_true rfl, Nat.le_of_ble_eq_true rfl⟩ 0 rfl rfl rfl rfl rfl hl.1 (Nat.le_of_ble_eq_true rfl) ⟨Nat.le_of_ble_eq_true rfl, Nat.le_of_ble_eq_true rfl⟩ dX7_shareIn_9 (fun r2 u H locs hw9 hH => ?_)
  obtain rfl : r2 = rAt 30 f3 (inF f0 y k) := hw9
  have hH := (hH : fx_H zA zs.heap H locs D [(h, .inr (7, [.ref r0, .ref r1, .ref r2, .ref r3, .ref r4, .ref r5, .int (nI k)])), (r0, .inr (6, [.ref a0])), (a0, .inl (cI, 30, .inl f0)), (r3, .inr (6, [.ref a3])), (a3, .inl (cI, 30, .inl f3))])
  exact fx_iret (v := rAt 30 f3 (inF f0 y k)) hQ hC hr hlk hH dX7_shareIn_12 rfl (Nat.le_of_ble_eq_true rfl) (Nat.le_of_ble_eq_true rfl) (()) rfl (rfl)
set_option maxHeartbeats 4000000 in
set_option maxRecDepth 100000 in
theorem k_X7_fineIn (l : Launch) (D : va_G) (cI cZ : ClassId) (h : Nat) (r0 : Nat) (r1 : Nat) (r2 : Nat) (r3 : Nat) (r4 : Nat) (r5 : Nat) (k : Nat) (a0 : Nat) (a4 : Nat) (f0 : Nat → Int32) (f4 : Nat → Int32) (y : Int32) (hk : k ≤ 30) : fx_CI l D cI cZ yX7_fineIn wsX7_fineIn ({ frames := 2, cells := 0, slots := 0, locals := 44 }) [.ref h, .int y] [(h, .inr (7, [.ref r0, .ref r1, .ref r2, .ref r3, .ref r4, .ref r5, .int (nI k)])), (r0, .inr (6, [.ref a0])), (a0, .inl (cI, 30, .inl f0)), (r4, .inr (6, [.ref a4])), (a4, .inl (cI, 30, .inl f4))] (fun (u : Unit) => [(h, .inr (7, [.ref r0, .ref r1, .ref r2, .ref r3, .ref r4, .ref r5, .int (nI k)])), (r0, .inr (6, [.ref a0])), (a0, .inl (cI, 30, .inl f0)), (r4, .inr (6, [.ref a4])), (a4, .inl (cI, 30, .inl f4))]) (fun (r : Int32) (u : Unit) => r = rAt 30 f4 (inF f0 y k)) := by
  refine fx_CI.of (ws' := (wsX7_fineIn).tail) cX7_fineIn 2 (by decide) rfl (Nat.le_of_ble_eq_true rfl) ?_
  intro zp ze zs zm za zb zt zc zA ls zQ hQ hC hr hlk hA hH hl
  have zx := hC.1.1
  have zy := hC.1.2.1
  have hl : lv_has ls 2 [(0, .ref h), (1, .int y)] := hl
  refine lv_aload_n zx zy dX7_fineIn_0 rfl (lv_at hl 0 rfl) ?_
  refine fx_get (C := RX7) (T := TX7) (N := 7) hC (fun _ h => List.mem_cons_of_mem _ (List.mem_append_left _ (List.mem_append_right _ h))) hH 0 rfl rfl 4 (by decide) (by decide +kernel) rfl dX7_fineIn_1 ?_
  refine lv_aload_n zx zy dX7_fineIn_4 rfl (lv_at hl 0 rfl) ?_
  refine lv_iload_n zx zy dX7_fineIn_5 rfl (lv_at hl 1 rfl) ?_
  refine fx_cVi (n := 1) (As := [.int y]) (b := h) (rest := [.ref r4]) (fun (u : Unit) => [(h, .inr (7, [.ref r0, .ref r1, .ref r2, .ref r3, .ref r4, .ref r5, .int (nI k)])), (r0, .inr (6, [.ref a0])), (a0, .inl (cI, 30, .inl f0)), (r4, .inr (6, [.ref a4])), (a4, .inl (cI, 30, .inl f4))]) hC hA hH (k_X7_inForce l D cI cZ h r0 r1 r2 r3 r4 r5 k a0 f0 y (by first | assumption | omega)) [0, 1, 2] [3, 4] [2, 3, 4, 0, 1] [(r4, .inr (6, [.ref a4])), (a4, .inl (cI, 30, .inl f4))] rfl rfl (by decide) (by decide) (fun _ => rfl) rfl gX7_fineIn_X7_inForce (by decide +kernel) ⟨Nat.le_of_ble_eq_true rfl, Nat.le_of_ble_eq_true rfl⟩ 0 rfl rfl rfl rfl rfl hl.1 (Nat.le_of_ble_eq_true rfl) ⟨Nat.le_of_ble_eq_true rfl, Nat.le_of_ble_eq_true rfl⟩ dX7_fineIn_6 (fun r1 u H locs hw6 hH => ?_)
  obtain rfl : r1 = inF f0 y k := hw6
  have hH := (hH : fx_H zA zs.heap H locs D [(h, .inr (7, [.ref r0, .ref r1, .ref r2, .ref r3, .ref r4, .ref r5, .int (nI k)])), (r0, .inr (6, [.ref a0])), (a0, .inl (cI, 30, .inl f0)), (r4, .inr (6, [.ref a4])), (a4, .inl (cI, 30, .inl f4))])
  refine fx_cVi (n := 1) (As := [.int (inF f0 y k)]) (b := r4) (rest := []) (fun (u : Unit) => [(h, .inr (7, [.ref r0, .ref r1, .ref r2, .ref r3, .ref r4, .ref r5, .int (nI k)])), (r0, .inr (6, [.ref a0])), (a0, .inl (cI, 30, .inl f0)), (r4, .inr (6, [.ref a4])), (a4, .inl (cI, 30, .inl f4))]) hC hA hH (k_X6_at l D cI cZ r4 a4 30 f4 (inF f0 y k) (by first | assumption | omega)) [3, 4] [0, 1, 2] [0, 1, 2, 3, 4] [(h, .inr (7, [.ref r0, .ref r1, .ref r2, .ref r3, .ref r4, .ref r5, .int (nI k)])), (r0, .inr (6, [.ref a0])), (a0, .inl (cI, 30, .inl f0))] rfl rfl (by decide) (by decide) (fun _ => rfl) rfl gX7_fineIn_X6_at (by decide +kernel) ⟨Nat.le_of_ble_eq_true rfl, Nat.le_of_ble_eq_true rfl⟩ 0 rfl rfl rfl rfl rfl hl.1 (Nat.le_of_ble_eq_true rfl) ⟨Nat.le_of_ble_eq_true rfl, Nat.le_of_ble_eq_true rfl⟩ dX7_fineIn_9 (fun r2 u H locs hw9 hH => ?_)
  obtain rfl : r2 = rAt 30 f4 (inF f0 y k) := hw9
  have hH := (hH : fx_H zA zs.heap H locs D [(h, .inr (7, [.ref r0, .ref r1, .ref r2, .ref r3, .ref r4, .ref r5, .int (nI k)])), (r0, .inr (6, [.ref a0])), (a0, .inl (cI, 30, .inl f0)), (r4, .inr (6, [.ref a4])), (a4, .inl (cI, 30, .inl f4))])
  exact fx_iret (v := rAt 30 f4 (inF f0 y k)) hQ hC hr hlk hH dX7_fineIn_12 rfl (Nat.le_of_ble_eq_true rfl) (Nat.le_of_ble_eq_true rfl) (()) rfl (rfl)
set_option maxHeartbeats 4000000 in
set_option maxRecDepth 100000 in
theorem k_X7_floorIn (l : Launch) (D : va_G) (cI cZ : ClassId) (h : Nat) (r0 : Nat) (r1 : Nat) (r2 : Nat) (r3 : Nat) (r4 : Nat) (r5 : Nat) (k : Nat) (a0 : Nat) (a5 : Nat) (f0 : Nat → Int32) (f5 : Nat → Int32) (y : Int32) (hk : k ≤ 30) : fx_CI l D cI cZ yX7_floorIn wsX7_floorIn ({ frames := 2, cells := 0, slots := 0, locals := 44 }) [.ref h, .int y] [(h, .inr (7, [.ref r0, .ref r1, .ref r2, .ref r3, .ref r4, .ref r5, .int (nI k)])), (r0, .inr (6, [.ref a0])), (a0, .inl (cI, 30, .inl f0)), (r5, .inr (6, [.ref a5])), (a5, .inl (cI, 30, .inl f5))] (fun (u : Unit) => [(h, .inr (7, [.ref r0, .ref r1, .ref r2, .ref r3, .ref r4, .ref r5, .int (nI k)])), (r0, .inr (6, [.ref a0])), (a0, .inl (cI, 30, .inl f0)), (r5, .inr (6, [.ref a5])), (a5, .inl (cI, 30, .inl f5))]) (fun (r : Int32) (u : Unit) => r = rAt 30 f5 (inF f0 y k)) := by
  refine fx_CI.of (ws' := (wsX7_floorIn).tail) cX7_floorIn 2 (by decide) rfl (Nat.le_of_ble_eq_true rfl) ?_
  intro zp ze zs zm za zb zt zc zA ls zQ hQ hC hr hlk hA hH hl
  have zx := hC.1.1
  have zy := hC.1.2.1
  have hl : lv_has ls 2 [(0, .ref h), (1, .int y)] := hl
  refine lv_aload_n zx zy dX7_floorIn_0 rfl (lv_at hl 0 rfl) ?_
  refine fx_get (C := RX7) (T := TX7) (N := 7) hC (fun _ h => List.mem_cons_of_mem _ (List.mem_append_left _ (List.mem_append_right _ h))) hH 0 rfl rfl 5 (by decide) (by decide +kernel) rfl dX7_floorIn_1 ?_
  refine lv_aload_n zx zy dX7_floorIn_4 rfl (lv_at hl 0 rfl) ?_
  refine lv_iload_n zx zy dX7_floorIn_5 rfl (lv_at hl 1 rfl) ?_
  refine fx_cVi (n := 1) (As := [.int y]) (b := h) (rest := [.ref r5]) (fun (u : Unit) => [(h, .inr (7, [.ref r0, .ref r1, .ref r2, .ref r3, .ref r4, .ref r5, .int (nI k)])), (r0, .inr (6, [.ref a0])), (a0, .inl (cI, 30, .inl f0)), (r5, .inr (6, [.ref a5])), (a5, .inl (cI, 30, .inl f5))]) hC hA hH (k_X7_inForce l D cI cZ h r0 r1 r2 r3 r4 r5 k a0 f0 y (by first | assumption | omega)) [0, 1, 2] [3, 4] [2, 3, 4, 0, 1] [(r5, .inr (6, [.ref a5])), (a5, .inl (cI, 30, .inl f5))] rfl rfl (by decide) (by decide) (fun _ => rfl) rfl gX7_floorIn_X7_inForce (by decide +kernel) ⟨Nat.le_of_ble_eq_true rfl, Nat.le_of_ble_eq_true rfl⟩ 0 rfl rfl rfl rfl rfl hl.1 (Nat.le_of_ble_eq_true rfl) ⟨Nat.le_of_ble_eq_true rfl, Nat.le_of_ble_eq_true rfl⟩ dX7_floorIn_6 (fun r1 u H locs hw6 hH => ?_)
  obtain rfl : r1 = inF f0 y k := hw6
  have hH := (hH : fx_H zA zs.heap H locs D [(h, .inr (7, [.ref r0, .ref r1, .ref r2, .ref r3, .ref r4, .ref r5, .int (nI k)])), (r0, .inr (6, [.ref a0])), (a0, .inl (cI, 30, .inl f0)), (r5, .inr (6, [.ref a5])), (a5, .inl (cI, 30, .inl f5))])
  refine fx_cVi (n := 1) (As := [.int (inF f0 y k)]) (b := r5) (rest := []) (fun (u : Unit) => [(h, .inr (7, [.ref r0, .ref r1, .ref r2, .ref r3, .ref r4, .ref r5, .int (nI k)])), (r0, .inr (6, [.ref a0])), (a0, .inl (cI, 30, .inl f0)), (r5, .inr (6, [.ref a5])), (a5, .inl (cI, 30, .inl f5))]) hC hA hH (k_X6_at l D cI cZ r5 a5 30 f5 (inF f0 y k) (by first | assumption | omega)) [3, 4] [0, 1, 2] [0, 1, 2, 3, 4] [(h, .inr (7, [.ref r0, .ref r1, .ref r2, .ref r3, .ref r4, .ref r5, .int (nI k)])), (r0, .inr (6, [.ref a0])), (a0, .inl (cI, 30, .inl f0))] rfl rfl (by decide) (by decide) (fun _ => rfl) rfl gX7_floorIn_X6_at (by decide +kernel) ⟨Nat.le_of_ble_eq_true rfl, Nat.le_of_ble_eq_true rfl⟩ 0 rfl rfl rfl rfl rfl hl.1 (Nat.le_of_ble_eq_true rfl) ⟨Nat.le_of_ble_eq_true rfl, Nat.le_of_ble_eq_true rfl⟩ dX7_floorIn_9 (fun r2 u H locs hw9 hH => ?_)
  obtain rfl : r2 = rAt 30 f5 (inF f0 y k) := hw9
  have hH := (hH : fx_H zA zs.heap H locs D [(h, .inr (7, [.ref r0, .ref r1, .ref r2, .ref r3, .ref r4, .ref r5, .int (nI k)])), (r0, .inr (6, [.ref a0])), (a0, .inl (cI, 30, .inl f0)), (r5, .inr (6, [.ref a5])), (a5, .inl (cI, 30, .inl f5))])
  exact fx_iret (v := rAt 30 f5 (inF f0 y k)) hQ hC hr hlk hH dX7_floorIn_12 rfl (Nat.le_of_ble_eq_true rfl) (Nat.le_of_ble_eq_true rfl) (()) rfl (rfl)
set_option maxHeartbeats 4000000 in
set_option maxRecDepth 100000 in
theorem k_X7_capIn (l : Launch) (D : va_G) (cI cZ : ClassId) (h : Nat) (r0 : Nat) (r1 : Nat) (r2 : Nat) (r3 : Nat) (r4 : Nat) (r5 : Nat) (k : Nat) (a0 : Nat) (a1 : Nat) (a2 : Nat) (f0 : Nat → Int32) (f1 : Nat → Int32) (f2 : Nat → Int32) (y : Nat) (hk : k ≤ 30) (hy : y ≤ 20) (hF : ∀ j, j < k → ∃ v, v < 20 ∧ f0 j = nI v) : fx_CI l D cI cZ yX7_capIn wsX7_capIn ({ frames := 2, cells := 0, slots := 0, locals := 44 }) [.ref h, .int (nI y)] [(h, .inr (7, [.ref r0, .ref r1, .ref r2, .ref r3, .ref r4, .ref r5, .int (nI k)])), (r0, .inr (6, [.ref a0])), (a0, .inl (cI, 30, .inl f0)), (r1, .inr (6, [.ref a1])), (a1, .inl (cI, 30, .inl f1)), (r2, .inr (6, [.ref a2])), (a2, .inl (cI, 30, .inl f2))] (fun (u : Unit) => [(h, .inr (7, [.ref r0, .ref r1, .ref r2, .ref r3, .ref r4, .ref r5, .int (nI k)])), (r0, .inr (6, [.ref a0])), (a0, .inl (cI, 30, .inl f0)), (r1, .inr (6, [.ref a1])), (a1, .inl (cI, 30, .inl f1)), (r2, .inr (6, [.ref a2])), (a2, .inl (cI, 30, .inl f2))]) (fun (r : Int32) (u : Unit) => r = capV f0 f1 f2 k y) := by
  refine fx_CI.of (ws' := (wsX7_capIn).tail) cX7_capIn 5 (by decide) rfl (Nat.le_of_ble_eq_true rfl) ?_
  intro zp ze zs zm za zb zt zc zA ls zQ hQ hC hr hlk hA hH hl
  have zx := hC.1.1
  have zy := hC.1.2.1
  have hl : lv_has ls 5 [(0, .ref h), (1, .int (nI y))] := hl
  obtain ⟨v0, hv0, ev0⟩ : ∃ v, v < 20 ∧ rAt 30 f0 (inF f0 (nI y) k) = nI v := inF_at (P := fun z => ∃ v, v < 20 ∧ z = nI v) hk ⟨0, by omega, rfl⟩ hF
  refine lv_aload_n zx zy dX7_capIn_0 rfl (lv_at hl 0 rfl) ?_
  refine lv_iload_n zx zy dX7_capIn_1 rfl (lv_at hl 1 rfl) ?_
  refine fx_cVi (n := 1) (As := [.int (nI y)]) (b := h) (rest := []) (fun (u : Unit) => [(h, .inr (7, [.ref r0, .ref r1, .ref r2, .ref r3, .ref r4, .ref r5, .int (nI k)])), (r0, .inr (6, [.ref a0])), (a0, .inl (cI, 30, .inl f0)), (r1, .inr (6, [.ref a1])), (a1, .inl (cI, 30, .inl f1)), (r2, .inr (6, [.ref a2])), (a2, .inl (cI, 30, .inl f2))]) hC hA hH (k_X7_inForce l D cI cZ h r0 r1 r2 r3 r4 r5 k a0 f0 (nI y) (by first | assumption | omega)) [0, 1, 2] [3, 4, 5, 6] [4, 5, 6, 0, 1, 2, 3] [(r1, .inr (6, [.ref a1])), (a1, .inl (cI, 30, .inl f1)), (r2, .inr (6, [.ref a2])), (a2, .inl (cI, 30, .inl f2))] rfl rfl (by decide) (by decide) (fun _ => rfl) rfl gX7_capIn_X7_inForce (by decide +kernel) ⟨Nat.le_of_ble_eq_true rfl, Nat.le_of_ble_eq_true rfl⟩ 0 rfl rfl rfl rfl rfl hl.1 (Nat.le_of_ble_eq_true rfl) ⟨Nat.le_of_ble_eq_true rfl, Nat.le_of_ble_eq_true rfl⟩ dX7_capIn_2 (fun r1 u H locs hw2 hH => ?_)
  obtain rfl : r1 = inF f0 (nI y) k := hw2
  have hH := (hH : fx_H zA zs.heap H locs D [(h, .inr (7, [.ref r0, .ref r1, .ref r2, .ref r3, .ref r4, .ref r5, .int (nI k)])), (r0, .inr (6, [.ref a0])), (a0, .inl (cI, 30, .inl f0)), (r1, .inr (6, [.ref a1])), (a1, .inl (cI, 30, .inl f1)), (r2, .inr (6, [.ref a2])), (a2, .inl (cI, 30, .inl f2))])
  refine lv_istore_n (lv' := [(2, .int (inF f0 (nI y) k)), (0, .ref h), (1, .int (nI y))]) zx zy dX7_capIn_5 rfl hl (by decide) rfl (fun ls hl => ?_)
  refine lv_aload_n zx zy dX7_capIn_6 rfl (lv_at hl 1 rfl) ?_
  refine fx_get (C := RX7) (T := TX7) (N := 7) hC (fun _ h => List.mem_cons_of_mem _ (List.mem_append_left _ (List.mem_append_right _ h))) hH 0 rfl rfl 1 (by decide) (by decide +kernel) rfl dX7_capIn_7 ?_
  refine lv_iload_n zx zy dX7_capIn_10 rfl (lv_at hl 0 rfl) ?_
  refine fx_cVi (n := 1) (As := [.int (inF f0 (nI y) k)]) (b := r1) (rest := []) (fun (u : Unit) => [(h, .inr (7, [.ref r0, .ref r1, .ref r2, .ref r3, .ref r4, .ref r5, .int (nI k)])), (r0, .inr (6, [.ref a0])), (a0, .inl (cI, 30, .inl f0)), (r1, .inr (6, [.ref a1])), (a1, .inl (cI, 30, .inl f1)), (r2, .inr (6, [.ref a2])), (a2, .inl (cI, 30, .inl f2))]) hC hA hH (k_X6_at l D cI cZ r1 a1 30 f1 (inF f0 (nI y) k) (by first | assumption | omega)) [3, 4] [0, 1, 2, 5, 6] [0, 1, 2, 5, 6, 3, 4] [(h, .inr (7, [.ref r0, .ref r1, .ref r2, .ref r3, .ref r4, .ref r5, .int (nI k)])), (r0, .inr (6, [.ref a0])), (a0, .inl (cI, 30, .inl f0)), (r2, .inr (6, [.ref a2])), (a2, .inl (cI, 30, .inl f2))] rfl rfl (by decide) (by decide) (fun _ => rfl) rfl gX7_capIn_X6_at (by decide +kernel) ⟨Nat.le_of_ble_eq_true rfl, Nat.le_of_ble_eq_true rfl⟩ 0 rfl rfl rfl rfl rfl hl.1 (Nat.le_of_ble_eq_true rfl) ⟨Nat.le_of_ble_eq_true rfl, Nat.le_of_ble_eq_true rfl⟩ dX7_capIn_11 (fun r2 u H locs hw11 hH => ?_)
  obtain rfl : r2 = rAt 30 f1 (inF f0 (nI y) k) := hw11
  have hH := (hH : fx_H zA zs.heap H locs D [(h, .inr (7, [.ref r0, .ref r1, .ref r2, .ref r3, .ref r4, .ref r5, .int (nI k)])), (r0, .inr (6, [.ref a0])), (a0, .inl (cI, 30, .inl f0)), (r1, .inr (6, [.ref a1])), (a1, .inl (cI, 30, .inl f1)), (r2, .inr (6, [.ref a2])), (a2, .inl (cI, 30, .inl f2))])
  refine lv_istore_n (lv' := [(3, .int (rAt 30 f1 (inF f0 (nI y) k))), (2, .int (inF f0 (nI y) k)), (0, .ref h), (1, .int (nI y))]) zx zy dX7_capIn_14 rfl hl (by decide) rfl (fun ls hl => ?_)
  refine lv_aload_n zx zy dX7_capIn_15 rfl (lv_at hl 2 rfl) ?_
  refine fx_get (C := RX7) (T := TX7) (N := 7) hC (fun _ h => List.mem_cons_of_mem _ (List.mem_append_left _ (List.mem_append_right _ h))) hH 0 rfl rfl 0 (by decide) (by decide +kernel) rfl dX7_capIn_16 ?_
  refine lv_iload_n zx zy dX7_capIn_19 rfl (lv_at hl 1 rfl) ?_
  refine fx_cVi (n := 1) (As := [.int (inF f0 (nI y) k)]) (b := r0) (rest := []) (fun (u : Unit) => [(h, .inr (7, [.ref r0, .ref r1, .ref r2, .ref r3, .ref r4, .ref r5, .int (nI k)])), (r0, .inr (6, [.ref a0])), (a0, .inl (cI, 30, .inl f0)), (r1, .inr (6, [.ref a1])), (a1, .inl (cI, 30, .inl f1)), (r2, .inr (6, [.ref a2])), (a2, .inl (cI, 30, .inl f2))]) hC hA hH (k_X6_at l D cI cZ r0 a0 30 f0 (inF f0 (nI y) k) (by first | assumption | omega)) [1, 2] [0, 3, 4, 5, 6] [0, 5, 6, 1, 2, 3, 4] [(h, .inr (7, [.ref r0, .ref r1, .ref r2, .ref r3, .ref r4, .ref r5, .int (nI k)])), (r1, .inr (6, [.ref a1])), (a1, .inl (cI, 30, .inl f1)), (r2, .inr (6, [.ref a2])), (a2, .inl (cI, 30, .inl f2))] rfl rfl (by decide) (by decide) (fun _ => rfl) rfl gX7_capIn_X6_at (by decide +kernel) ⟨Nat.le_of_ble_eq_true rfl, Nat.le_of_ble_eq_true rfl⟩ 0 rfl rfl rfl rfl rfl hl.1 (Nat.le_of_ble_eq_true rfl) ⟨Nat.le_of_ble_eq_true rfl, Nat.le_of_ble_eq_true rfl⟩ dX7_capIn_20 (fun r3 u H locs hw20 hH => ?_)
  obtain rfl : r3 = rAt 30 f0 (inF f0 (nI y) k) := hw20
  have hH := (hH : fx_H zA zs.heap H locs D [(h, .inr (7, [.ref r0, .ref r1, .ref r2, .ref r3, .ref r4, .ref r5, .int (nI k)])), (r0, .inr (6, [.ref a0])), (a0, .inl (cI, 30, .inl f0)), (r1, .inr (6, [.ref a1])), (a1, .inl (cI, 30, .inl f1)), (r2, .inr (6, [.ref a2])), (a2, .inl (cI, 30, .inl f2))])
  refine lv_topi (fun v4 ev4 => ?_)
  obtain rfl : v4 = nI v0 := ev4.trans (ev0)
  refine lv_istore (lv' := [(4, .int (nI v0)), (3, .int (rAt 30 f1 (inF f0 (nI y) k))), (2, .int (inF f0 (nI y) k)), (0, .ref h), (1, .int (nI y))]) zx zy dX7_capIn_23 hl (by decide) rfl (fun ls hl => ?_)
  have L25 : ∀ (fu : Nat) (v : Nat) (c : Int32) (hv : v < 21) (hc : capGo (rAt 30 f2 (inF f0 (nI y) k)) (y - v) c = capV f0 f1 f2 k y) (H : Heap) (locs : List Loc) (ls : Array Slot), y - v < fu → fx_H zA zs.heap H locs D [(h, .inr (7, [.ref r0, .ref r1, .ref r2, .ref r3, .ref r4, .ref r5, .int (nI k)])), (r0, .inr (6, [.ref a0])), (a0, .inl (cI, 30, .inl f0)), (r1, .inr (6, [.ref a1])), (a1, .inl (cI, 30, .inl f1)), (r2, .inr (6, [.ref a2])), (a2, .inl (cI, 30, .inl f2))] → lv_has ls 5 [(0, .ref h), (1, .int (nI y)), (2, .int (inF f0 (nI y) k)), (3, .int c), (4, .int (nI v))] → W zp l ze ({ frames := 2, cells := 0, slots := 0, locals := 44 }) zs zm za zb zt zc H locs (0) (0) zQ (F0 zm 25 ls []) := by
    intro fu
    induction fu with
    | zero => intro v c hv hc H locs ls hfu; exact absurd hfu (Nat.not_lt_zero _)
    | succ fu ih25 =>
      intro v c hv hc H locs ls hfu25 hH hl
      refine lv_iload zx zy dX7_capIn_25 (lv_at hl 4 rfl) ?_
      refine lv_iload_n zx zy dX7_capIn_27 rfl (lv_at hl 1 rfl) ?_
      refine lv_icmp_ge (tgt := 53) zx zy dX7_capIn_28 (by decide) (fun c28 => ?_) (fun c28 => ?_)
      · skip
        refine lv_iload_n zx zy dX7_capIn_53 rfl (lv_at hl 3 rfl) ?_
        exact fx_iret (v := c) hQ hC hr hlk hH dX7_capIn_54 rfl (Nat.le_of_ble_eq_true rfl) (Nat.le_of_ble_eq_true rfl) (()) rfl (by rw [← hc, show y - v = 0 from Nat.sub_eq_zero_of_le (fx_le_of c28 (by omega) (by omega))]; rfl)
      · skip
        have hlt : v < y := fx_lt_of c28 (by omega)
        refine lv_iload_n zx zy dX7_capIn_31 rfl (lv_at hl 3 rfl) ?_
        refine lv_iload_n zx zy dX7_capIn_32 rfl (lv_at hl 3 rfl) ?_
        refine lv_aload_n zx zy dX7_capIn_33 rfl (lv_at hl 0 rfl) ?_
        refine fx_get (C := RX7) (T := TX7) (N := 7) hC (fun _ h => List.mem_cons_of_mem _ (List.mem_append_left _ (List.mem_append_right _ h))) hH 0 rfl rfl 2 (by decide) (by decide +kernel) rfl dX7_capIn_34 ?_
        refine lv_iload_n zx zy dX7_capIn_37 rfl (lv_at hl 2 rfl) ?_
        refine fx_cVi (n := 1) (As := [.int (inF f0 (nI y) k)]) (b := r2) (rest := [.int c, .int c]) (fun (u : Unit) => [(h, .inr (7, [.ref r0, .ref r1, .ref r2, .ref r3, .ref r4, .ref r5, .int (nI k)])), (r0, .inr (6, [.ref a0])), (a0, .inl (cI, 30, .inl f0)), (r1, .inr (6, [.ref a1])), (a1, .inl (cI, 30, .inl f1)), (r2, .inr (6, [.ref a2])), (a2, .inl (cI, 30, .inl f2))]) hC hA hH (k_X6_at l D cI cZ r2 a2 30 f2 (inF f0 (nI y) k) (by first | assumption | omega)) [5, 6] [0, 1, 2, 3, 4] [0, 1, 2, 3, 4, 5, 6] [(h, .inr (7, [.ref r0, .ref r1, .ref r2, .ref r3, .ref r4, .ref r5, .int (nI k)])), (r0, .inr (6, [.ref a0])), (a0, .inl (cI, 30, .inl f0)), (r1, .inr (6, [.ref a1])), (a1, .inl (cI, 30, .inl f1))] rfl rfl (by decide) (by decide) (fun _ => rfl) rfl gX7_capIn_X6_at (by decide +kernel) ⟨Nat.le_of_ble_eq_true rfl, Nat.le_of_ble_eq_true rfl⟩ 0 rfl rfl rfl rfl rfl hl.1 (Nat.le_of_ble_eq_true rfl) ⟨Nat.le_of_ble_eq_true rfl, Nat.le_of_ble_eq_true rfl⟩ dX7_capIn_38 (fun r5 u H locs hw38 hH => ?_)
        obtain rfl : r5 = rAt 30 f2 (inF f0 (nI y) k) := hw38
        have hH := (hH : fx_H zA zs.heap H locs D [(h, .inr (7, [.ref r0, .ref r1, .ref r2, .ref r3, .ref r4, .ref r5, .int (nI k)])), (r0, .inr (6, [.ref a0])), (a0, .inl (cI, 30, .inl f0)), (r1, .inr (6, [.ref a1])), (a1, .inl (cI, 30, .inl f1)), (r2, .inr (6, [.ref a2])), (a2, .inl (cI, 30, .inl f2))])
        refine lv_imul zx zy dX7_capIn_41 ?_
        refine lv_bipush (v := 100) zx zy dX7_capIn_42 (by decide) ?_
        refine lv_idiv zx zy dX7_capIn_44 (by decide) ?_
        refine lv_isub zx zy dX7_capIn_45 ?_
        refine lv_istore_n (lv' := [(3, .int (c - ((c * (rAt 30 f2 (inF f0 (nI y) k))) / 100))), (0, .ref h), (1, .int (nI y)), (2, .int (inF f0 (nI y) k)), (4, .int (nI v))]) zx zy dX7_capIn_46 rfl hl (by decide) rfl (fun ls hl => ?_)
        refine lv_iinc (v := nI (v + 1)) (lv' := [(4, .int (nI (v + 1))), (3, .int (c - ((c * (rAt 30 f2 (inF f0 (nI y) k))) / 100))), (0, .ref h), (1, .int (nI y)), (2, .int (inF f0 (nI y) k))]) zx zy dX7_capIn_47 hl (k := 4) rfl (nI_1 _) (by decide) rfl (fun ls hl => ?_)
        refine lv_goto (tgt := 25) zx zy dX7_capIn_50 (by decide) ?_
        exact ih25 (v + 1) (c - ((c * (rAt 30 f2 (inF f0 (nI y) k))) / 100)) (by first | assumption | omega) (by rw [← hc]; exact (capGo_s hlt).symm) _ _ _ (by omega) hH (lv_sub hl [2, 3, 4, 1, 0] rfl)
  exact L25 _ v0 (rAt 30 f1 (inF f0 (nI y) k)) (by first | assumption | omega) (by unfold capV; rw [ev0, nI_clamp (by omega)]) _ _ _ (Nat.lt_succ_self _) hH (lv_sub hl [3, 4, 2, 1, 0] rfl)
set_option maxHeartbeats 4000000 in
set_option maxRecDepth 100000 in
theorem k_X7_tell (l : Launch) (D : va_G) (cI cZ : ClassId) (h : Nat) (r0 : Nat) (r1 : Nat) (r2 : Nat) (r3 : Nat) (r4 : Nat) (r5 : Nat) (k : Nat) (a0 : Nat) (a1 : Nat) (a2 : Nat) (a3 : Nat) (a4 : Nat) (a5 : Nat) (f0 : Nat → Int32) (f1 : Nat → Int32) (f2 : Nat → Int32) (f3 : Nat → Int32) (f4 : Nat → Int32) (f5 : Nat → Int32) (y : Int32) (w : Int32) (s : Int32) (hk : k ≤ 30) : fx_CI l D cI cZ yX7_tell wsX7_tell ({ frames := 1, cells := 0, slots := 0, locals := 22 }) [.ref h, .int y, .int w, .int s] [(h, .inr (7, [.ref r0, .ref r1, .ref r2, .ref r3, .ref r4, .ref r5, .int (nI k)])), (r0, .inr (6, [.ref a0])), (a0, .inl (cI, 30, .inl f0)), (r1, .inr (6, [.ref a1])), (a1, .inl (cI, 30, .inl f1)), (r2, .inr (6, [.ref a2])), (a2, .inl (cI, 30, .inl f2)), (r3, .inr (6, [.ref a3])), (a3, .inl (cI, 30, .inl f3)), (r4, .inr (6, [.ref a4])), (a4, .inl (cI, 30, .inl f4)), (r5, .inr (6, [.ref a5])), (a5, .inl (cI, 30, .inl f5))] (fun (u : (Nat) × (Nat → Int32) × (Nat → Int32) × (Nat → Int32) × (Nat → Int32) × (Nat → Int32) × (Nat → Int32)) => [(h, .inr (7, [.ref r0, .ref r1, .ref r2, .ref r3, .ref r4, .ref r5, .int (nI u.1)])), (r0, .inr (6, [.ref a0])), (a0, .inl (cI, 30, .inl u.2.1)), (r1, .inr (6, [.ref a1])), (a1, .inl (cI, 30, .inl u.2.2.1)), (r2, .inr (6, [.ref a2])), (a2, .inl (cI, 30, .inl u.2.2.2.1)), (r3, .inr (6, [.ref a3])), (a3, .inl (cI, 30, .inl u.2.2.2.2.1)), (r4, .inr (6, [.ref a4])), (a4, .inl (cI, 30, .inl u.2.2.2.2.2.1)), (r5, .inr (6, [.ref a5])), (a5, .inl (cI, 30, .inl u.2.2.2.2.2.2))]) (fun (r : Int32) (u : (Nat) × (Nat → Int32) × (Nat → Int32) × (Nat → Int32) × (Nat → Int32) × (Nat → Int32) × (Nat → Int32)) => ((tlOk k w s) ∧ r = 1 ∧ u.1 = k + 1 ∧ u.2.1 = upd f0 k y ∧ u.2.2.1 = upd f1 k (w / 1000) ∧ u.2.2.2.1 = upd f2 k (w - w / 1000 * 1000) ∧ u.2.2.2.2.1 = upd f3 k (s / 100000) ∧ u.2.2.2.2.2.1 = upd f4 k (s / 100 - s / 100 / 1000 * 1000) ∧ u.2.2.2.2.2.2 = upd f5 k (s - s / 100 * 100)) ∨ ((¬ tlOk k w s) ∧ r = 0 ∧ u.1 = k ∧ u.2.1 = f0 ∧ u.2.2.1 = f1 ∧ u.2.2.2.1 = f2 ∧ u.2.2.2.2.1 = f3 ∧ u.2.2.2.2.2.1 = f4 ∧ u.2.2.2.2.2.2 = f5)) := by
  refine fx_CI.of (ws' := (wsX7_tell).tail) cX7_tell 7 (by decide) rfl (Nat.le_of_ble_eq_true rfl) ?_
  intro zp ze zs zm za zb zt zc zA ls zQ hQ hC hr hlk hA hH hl
  have zx := hC.1.1
  have zy := hC.1.2.1
  have hl : lv_has ls 7 [(0, .ref h), (1, .int y), (2, .int w), (3, .int s)] := hl
  refine lv_iload_n zx zy dX7_tell_0 rfl (lv_at hl 2 rfl) ?_
  refine lv_sipush (v := 1000) zx zy dX7_tell_1 (by decide) ?_
  refine lv_idiv zx zy dX7_tell_4 (by decide) ?_
  refine lv_istore (lv' := [(4, .int (w / 1000)), (0, .ref h), (1, .int y), (2, .int w), (3, .int s)]) zx zy dX7_tell_5 hl (by decide) rfl (fun ls hl => ?_)
  refine lv_iload_n zx zy dX7_tell_7 rfl (lv_at hl 3 rfl) ?_
  refine lv_sipush (v := 1000) zx zy dX7_tell_8 (by decide) ?_
  refine lv_irem zx zy dX7_tell_11 (by decide) ?_
  refine lv_istore (lv' := [(5, .int (w - w / 1000 * 1000)), (4, .int (w / 1000)), (0, .ref h), (1, .int y), (2, .int w), (3, .int s)]) zx zy dX7_tell_12 hl (by decide) rfl (fun ls hl => ?_)
  refine lv_iload_n zx zy dX7_tell_14 rfl (lv_at hl 5 rfl) ?_
  refine lv_ldc (own := RX7) (v := 100000) zx zy hC.1.2.2.2.1 (hC.1.2.2.2.2 _ (by decide +kernel)) dX7_tell_15 ?_
  refine lv_idiv zx zy dX7_tell_17 (by decide) ?_
  refine lv_istore (lv' := [(6, .int (s / 100000)), (5, .int (w - w / 1000 * 1000)), (4, .int (w / 1000)), (0, .ref h), (1, .int y), (2, .int w), (3, .int s)]) zx zy dX7_tell_18 hl (by decide) rfl (fun ls hl => ?_)
  refine lv_aload_n zx zy dX7_tell_20 rfl (lv_at hl 3 rfl) ?_
  refine fx_get (C := RX7) (T := TX7) (N := 7) hC (fun _ h => List.mem_cons_of_mem _ (List.mem_append_left _ (List.mem_append_right _ h))) hH 0 rfl rfl 6 (by decide) (by decide +kernel) rfl dX7_tell_21 ?_
  refine lv_bipush (v := 30) zx zy dX7_tell_24 (by decide) ?_
  refine lv_icmp_ge (tgt := 51) zx zy dX7_tell_26 (by decide) (fun c26 => ?_) (fun c26 => ?_)
  · skip
    refine lv_iconst (v := 0) zx zy dX7_tell_51 (by decide) ?_
    exact fx_iret (v := 0) hQ hC hr hlk hH dX7_tell_52 rfl (Nat.le_of_ble_eq_true rfl) (Nat.le_of_ble_eq_true rfl) ((k, f0, f1, f2, f3, f4, f5)) rfl (Or.inr ⟨fun q => by first | exact c34 |> q.2.1 | exact q.2.2.1 c41 | exact c48 q.2.2.2 | exact absurd q.1 (Nat.not_lt.mpr (fx_le_of (a := 30) c26 (by omega) (by omega))), rfl, rfl, rfl, rfl, rfl, rfl, rfl, rfl⟩)
  · skip
    have hlt : k < 30 := fx_lt_of (b := 30) c26 (by omega)
    refine lv_iload zx zy dX7_tell_29 (lv_at hl 2 rfl) ?_
    refine lv_sipush (v := 400) zx zy dX7_tell_31 (by decide) ?_
    refine lv_icmp_gt (tgt := 51) zx zy dX7_tell_34 (by decide) (fun c34 => ?_) (fun c34 => ?_)
    · skip
      refine lv_iconst (v := 0) zx zy dX7_tell_51 (by decide) ?_
      exact fx_iret (v := 0) hQ hC hr hlk hH dX7_tell_52 rfl (Nat.le_of_ble_eq_true rfl) (Nat.le_of_ble_eq_true rfl) ((k, f0, f1, f2, f3, f4, f5)) rfl (Or.inr ⟨fun q => by first | exact c34 |> q.2.1 | exact q.2.2.1 c41 | exact c48 q.2.2.2 | exact absurd q.1 (Nat.not_lt.mpr (fx_le_of (a := 30) c26 (by omega) (by omega))), rfl, rfl, rfl, rfl, rfl, rfl, rfl, rfl⟩)
    · skip
      refine lv_iload zx zy dX7_tell_37 (lv_at hl 1 rfl) ?_
      refine lv_bipush (v := 100) zx zy dX7_tell_39 (by decide) ?_
      refine lv_icmp_gt (tgt := 51) zx zy dX7_tell_41 (by decide) (fun c41 => ?_) (fun c41 => ?_)
      · skip
        refine lv_iconst (v := 0) zx zy dX7_tell_51 (by decide) ?_
        exact fx_iret (v := 0) hQ hC hr hlk hH dX7_tell_52 rfl (Nat.le_of_ble_eq_true rfl) (Nat.le_of_ble_eq_true rfl) ((k, f0, f1, f2, f3, f4, f5)) rfl (Or.inr ⟨fun q => by first | exact c34 |> q.2.1 | exact q.2.2.1 c41 | exact c48 q.2.2.2 | exact absurd q.1 (Nat.not_lt.mpr (fx_le_of (a := 30) c26 (by omega) (by omega))), rfl, rfl, rfl, rfl, rfl, rfl, rfl, rfl⟩)
      · skip
        refine lv_iload zx zy dX7_tell_44 (lv_at hl 0 rfl) ?_
        refine lv_bipush (v := 100) zx zy dX7_tell_46 (by decide) ?_
        refine lv_icmp_le (tgt := 53) zx zy dX7_tell_48 (by decide) (fun c48 => ?_) (fun c48 => ?_)
        · skip
          refine lv_aload_n zx zy dX7_tell_53 rfl (lv_at hl 3 rfl) ?_
          refine fx_get (C := RX7) (T := TX7) (N := 7) hC (fun _ h => List.mem_cons_of_mem _ (List.mem_append_left _ (List.mem_append_right _ h))) hH 0 rfl rfl 0 (by decide) (by decide +kernel) rfl dX7_tell_54 ?_
          refine lv_aload_n zx zy dX7_tell_57 rfl (lv_at hl 3 rfl) ?_
          refine fx_get (C := RX7) (T := TX7) (N := 7) hC (fun _ h => List.mem_cons_of_mem _ (List.mem_append_left _ (List.mem_append_right _ h))) hH 0 rfl rfl 6 (by decide) (by decide +kernel) rfl dX7_tell_58 ?_
          refine lv_iload_n zx zy dX7_tell_61 rfl (lv_at hl 4 rfl) ?_
          refine fx_cVv (n := 2) (As := [.int (nI k), .int y]) (b := r0) (rest := []) (fun (u : (Nat → Int32)) => [(h, .inr (7, [.ref r0, .ref r1, .ref r2, .ref r3, .ref r4, .ref r5, .int (nI k)])), (r0, .inr (6, [.ref a0])), (a0, .inl (cI, 30, .inl u)), (r1, .inr (6, [.ref a1])), (a1, .inl (cI, 30, .inl f1)), (r2, .inr (6, [.ref a2])), (a2, .inl (cI, 30, .inl f2)), (r3, .inr (6, [.ref a3])), (a3, .inl (cI, 30, .inl f3)), (r4, .inr (6, [.ref a4])), (a4, .inl (cI, 30, .inl f4)), (r5, .inr (6, [.ref a5])), (a5, .inl (cI, 30, .inl f5))]) hC hA hH (k_X6_put l D cI cZ r0 a0 30 f0 (nI k) y (by first | assumption | omega)) [1, 2] [0, 3, 4, 5, 6, 7, 8, 9, 10, 11, 12] [0, 11, 12, 1, 2, 3, 4, 5, 6, 7, 8, 9, 10] [(h, .inr (7, [.ref r0, .ref r1, .ref r2, .ref r3, .ref r4, .ref r5, .int (nI k)])), (r1, .inr (6, [.ref a1])), (a1, .inl (cI, 30, .inl f1)), (r2, .inr (6, [.ref a2])), (a2, .inl (cI, 30, .inl f2)), (r3, .inr (6, [.ref a3])), (a3, .inl (cI, 30, .inl f3)), (r4, .inr (6, [.ref a4])), (a4, .inl (cI, 30, .inl f4)), (r5, .inr (6, [.ref a5])), (a5, .inl (cI, 30, .inl f5))] rfl rfl (by decide) (by decide) (fun _ => rfl) rfl gX7_tell_X6_put (by decide +kernel) ⟨Nat.le_of_ble_eq_true rfl, Nat.le_of_ble_eq_true rfl⟩ 0 rfl rfl rfl rfl rfl hl.1 (Nat.le_of_ble_eq_true rfl) ⟨Nat.le_of_ble_eq_true rfl, Nat.le_of_ble_eq_true rfl⟩ dX7_tell_62 (fun u H locs hw62 hH => ?_)
          obtain ⟨u2, rfl⟩ : ∃ z, z = u := ⟨_, rfl⟩
          obtain rfl : u2 = rPut 30 f0 (nI k) y := hw62
          have hH := (hH : fx_H zA zs.heap H locs D [(h, .inr (7, [.ref r0, .ref r1, .ref r2, .ref r3, .ref r4, .ref r5, .int (nI k)])), (r0, .inr (6, [.ref a0])), (a0, .inl (cI, 30, .inl (rPut 30 f0 (nI k) y))), (r1, .inr (6, [.ref a1])), (a1, .inl (cI, 30, .inl f1)), (r2, .inr (6, [.ref a2])), (a2, .inl (cI, 30, .inl f2)), (r3, .inr (6, [.ref a3])), (a3, .inl (cI, 30, .inl f3)), (r4, .inr (6, [.ref a4])), (a4, .inl (cI, 30, .inl f4)), (r5, .inr (6, [.ref a5])), (a5, .inl (cI, 30, .inl f5))])
          rw [show (rPut 30 f0 (nI k) y : Nat → Int32) = upd f0 k y from rPut_nI hlt (by omega)] at hH
          refine lv_aload_n zx zy dX7_tell_65 rfl (lv_at hl 3 rfl) ?_
          refine fx_get (C := RX7) (T := TX7) (N := 7) hC (fun _ h => List.mem_cons_of_mem _ (List.mem_append_left _ (List.mem_append_right _ h))) hH 0 rfl rfl 1 (by decide) (by decide +kernel) rfl dX7_tell_66 ?_
          refine lv_aload_n zx zy dX7_tell_69 rfl (lv_at hl 3 rfl) ?_
          refine fx_get (C := RX7) (T := TX7) (N := 7) hC (fun _ h => List.mem_cons_of_mem _ (List.mem_append_left _ (List.mem_append_right _ h))) hH 0 rfl rfl 6 (by decide) (by decide +kernel) rfl dX7_tell_70 ?_
          refine lv_iload zx zy dX7_tell_73 (lv_at hl 2 rfl) ?_
          refine fx_cVv (n := 2) (As := [.int (nI k), .int (w / 1000)]) (b := r1) (rest := []) (fun (u : (Nat → Int32)) => [(h, .inr (7, [.ref r0, .ref r1, .ref r2, .ref r3, .ref r4, .ref r5, .int (nI k)])), (r0, .inr (6, [.ref a0])), (a0, .inl (cI, 30, .inl (upd f0 k y))), (r1, .inr (6, [.ref a1])), (a1, .inl (cI, 30, .inl u)), (r2, .inr (6, [.ref a2])), (a2, .inl (cI, 30, .inl f2)), (r3, .inr (6, [.ref a3])), (a3, .inl (cI, 30, .inl f3)), (r4, .inr (6, [.ref a4])), (a4, .inl (cI, 30, .inl f4)), (r5, .inr (6, [.ref a5])), (a5, .inl (cI, 30, .inl f5))]) hC hA hH (k_X6_put l D cI cZ r1 a1 30 f1 (nI k) (w / 1000) (by first | assumption | omega)) [3, 4] [0, 1, 2, 5, 6, 7, 8, 9, 10, 11, 12] [0, 1, 2, 11, 12, 3, 4, 5, 6, 7, 8, 9, 10] [(h, .inr (7, [.ref r0, .ref r1, .ref r2, .ref r3, .ref r4, .ref r5, .int (nI k)])), (r0, .inr (6, [.ref a0])), (a0, .inl (cI, 30, .inl (upd f0 k y))), (r2, .inr (6, [.ref a2])), (a2, .inl (cI, 30, .inl f2)), (r3, .inr (6, [.ref a3])), (a3, .inl (cI, 30, .inl f3)), (r4, .inr (6, [.ref a4])), (a4, .inl (cI, 30, .inl f4)), (r5, .inr (6, [.ref a5])), (a5, .inl (cI, 30, .inl f5))] rfl rfl (by decide) (by decide) (fun _ => rfl) rfl gX7_tell_X6_put (by decide +kernel) ⟨Nat.le_of_ble_eq_true rfl, Nat.le_of_ble_eq_true rfl⟩ 0 rfl rfl rfl rfl rfl hl.1 (Nat.le_of_ble_eq_true rfl) ⟨Nat.le_of_ble_eq_true rfl, Nat.le_of_ble_eq_true rfl⟩ dX7_tell_75 (fun u H locs hw75 hH => ?_)
          obtain ⟨u4, rfl⟩ : ∃ z, z = u := ⟨_, rfl⟩
          obtain rfl : u4 = rPut 30 f1 (nI k) (w / 1000) := hw75
          have hH := (hH : fx_H zA zs.heap H locs D [(h, .inr (7, [.ref r0, .ref r1, .ref r2, .ref r3, .ref r4, .ref r5, .int (nI k)])), (r0, .inr (6, [.ref a0])), (a0, .inl (cI, 30, .inl (upd f0 k y))), (r1, .inr (6, [.ref a1])), (a1, .inl (cI, 30, .inl (rPut 30 f1 (nI k) (w / 1000)))), (r2, .inr (6, [.ref a2])), (a2, .inl (cI, 30, .inl f2)), (r3, .inr (6, [.ref a3])), (a3, .inl (cI, 30, .inl f3)), (r4, .inr (6, [.ref a4])), (a4, .inl (cI, 30, .inl f4)), (r5, .inr (6, [.ref a5])), (a5, .inl (cI, 30, .inl f5))])
          rw [show (rPut 30 f1 (nI k) (w / 1000) : Nat → Int32) = upd f1 k (w / 1000) from rPut_nI hlt (by omega)] at hH
          refine lv_aload_n zx zy dX7_tell_78 rfl (lv_at hl 3 rfl) ?_
          refine fx_get (C := RX7) (T := TX7) (N := 7) hC (fun _ h => List.mem_cons_of_mem _ (List.mem_append_left _ (List.mem_append_right _ h))) hH 0 rfl rfl 2 (by decide) (by decide +kernel) rfl dX7_tell_79 ?_
          refine lv_aload_n zx zy dX7_tell_82 rfl (lv_at hl 3 rfl) ?_
          refine fx_get (C := RX7) (T := TX7) (N := 7) hC (fun _ h => List.mem_cons_of_mem _ (List.mem_append_left _ (List.mem_append_right _ h))) hH 0 rfl rfl 6 (by decide) (by decide +kernel) rfl dX7_tell_83 ?_
          refine lv_iload zx zy dX7_tell_86 (lv_at hl 1 rfl) ?_
          refine fx_cVv (n := 2) (As := [.int (nI k), .int (w - w / 1000 * 1000)]) (b := r2) (rest := []) (fun (u : (Nat → Int32)) => [(h, .inr (7, [.ref r0, .ref r1, .ref r2, .ref r3, .ref r4, .ref r5, .int (nI k)])), (r0, .inr (6, [.ref a0])), (a0, .inl (cI, 30, .inl (upd f0 k y))), (r1, .inr (6, [.ref a1])), (a1, .inl (cI, 30, .inl (upd f1 k (w / 1000)))), (r2, .inr (6, [.ref a2])), (a2, .inl (cI, 30, .inl u)), (r3, .inr (6, [.ref a3])), (a3, .inl (cI, 30, .inl f3)), (r4, .inr (6, [.ref a4])), (a4, .inl (cI, 30, .inl f4)), (r5, .inr (6, [.ref a5])), (a5, .inl (cI, 30, .inl f5))]) hC hA hH (k_X6_put l D cI cZ r2 a2 30 f2 (nI k) (w - w / 1000 * 1000) (by first | assumption | omega)) [5, 6] [0, 1, 2, 3, 4, 7, 8, 9, 10, 11, 12] [0, 1, 2, 3, 4, 11, 12, 5, 6, 7, 8, 9, 10] [(h, .inr (7, [.ref r0, .ref r1, .ref r2, .ref r3, .ref r4, .ref r5, .int (nI k)])), (r0, .inr (6, [.ref a0])), (a0, .inl (cI, 30, .inl (upd f0 k y))), (r1, .inr (6, [.ref a1])), (a1, .inl (cI, 30, .inl (upd f1 k (w / 1000)))), (r3, .inr (6, [.ref a3])), (a3, .inl (cI, 30, .inl f3)), (r4, .inr (6, [.ref a4])), (a4, .inl (cI, 30, .inl f4)), (r5, .inr (6, [.ref a5])), (a5, .inl (cI, 30, .inl f5))] rfl rfl (by decide) (by decide) (fun _ => rfl) rfl gX7_tell_X6_put (by decide +kernel) ⟨Nat.le_of_ble_eq_true rfl, Nat.le_of_ble_eq_true rfl⟩ 0 rfl rfl rfl rfl rfl hl.1 (Nat.le_of_ble_eq_true rfl) ⟨Nat.le_of_ble_eq_true rfl, Nat.le_of_ble_eq_true rfl⟩ dX7_tell_88 (fun u H locs hw88 hH => ?_)
          obtain ⟨u6, rfl⟩ : ∃ z, z = u := ⟨_, rfl⟩
          obtain rfl : u6 = rPut 30 f2 (nI k) (w - w / 1000 * 1000) := hw88
          have hH := (hH : fx_H zA zs.heap H locs D [(h, .inr (7, [.ref r0, .ref r1, .ref r2, .ref r3, .ref r4, .ref r5, .int (nI k)])), (r0, .inr (6, [.ref a0])), (a0, .inl (cI, 30, .inl (upd f0 k y))), (r1, .inr (6, [.ref a1])), (a1, .inl (cI, 30, .inl (upd f1 k (w / 1000)))), (r2, .inr (6, [.ref a2])), (a2, .inl (cI, 30, .inl (rPut 30 f2 (nI k) (w - w / 1000 * 1000)))), (r3, .inr (6, [.ref a3])), (a3, .inl (cI, 30, .inl f3)), (r4, .inr (6, [.ref a4])), (a4, .inl (cI, 30, .inl f4)), (r5, .inr (6, [.ref a5])), (a5, .inl (cI, 30, .inl f5))])
          rw [show (rPut 30 f2 (nI k) (w - w / 1000 * 1000) : Nat → Int32) = upd f2 k (w - w / 1000 * 1000) from rPut_nI hlt (by omega)] at hH
          refine lv_aload_n zx zy dX7_tell_91 rfl (lv_at hl 3 rfl) ?_
          refine fx_get (C := RX7) (T := TX7) (N := 7) hC (fun _ h => List.mem_cons_of_mem _ (List.mem_append_left _ (List.mem_append_right _ h))) hH 0 rfl rfl 3 (by decide) (by decide +kernel) rfl dX7_tell_92 ?_
          refine lv_aload_n zx zy dX7_tell_95 rfl (lv_at hl 3 rfl) ?_
          refine fx_get (C := RX7) (T := TX7) (N := 7) hC (fun _ h => List.mem_cons_of_mem _ (List.mem_append_left _ (List.mem_append_right _ h))) hH 0 rfl rfl 6 (by decide) (by decide +kernel) rfl dX7_tell_96 ?_
          refine lv_iload zx zy dX7_tell_99 (lv_at hl 0 rfl) ?_
          refine fx_cVv (n := 2) (As := [.int (nI k), .int (s / 100000)]) (b := r3) (rest := []) (fun (u : (Nat → Int32)) => [(h, .inr (7, [.ref r0, .ref r1, .ref r2, .ref r3, .ref r4, .ref r5, .int (nI k)])), (r0, .inr (6, [.ref a0])), (a0, .inl (cI, 30, .inl (upd f0 k y))), (r1, .inr (6, [.ref a1])), (a1, .inl (cI, 30, .inl (upd f1 k (w / 1000)))), (r2, .inr (6, [.ref a2])), (a2, .inl (cI, 30, .inl (upd f2 k (w - w / 1000 * 1000)))), (r3, .inr (6, [.ref a3])), (a3, .inl (cI, 30, .inl u)), (r4, .inr (6, [.ref a4])), (a4, .inl (cI, 30, .inl f4)), (r5, .inr (6, [.ref a5])), (a5, .inl (cI, 30, .inl f5))]) hC hA hH (k_X6_put l D cI cZ r3 a3 30 f3 (nI k) (s / 100000) (by first | assumption | omega)) [7, 8] [0, 1, 2, 3, 4, 5, 6, 9, 10, 11, 12] [0, 1, 2, 3, 4, 5, 6, 11, 12, 7, 8, 9, 10] [(h, .inr (7, [.ref r0, .ref r1, .ref r2, .ref r3, .ref r4, .ref r5, .int (nI k)])), (r0, .inr (6, [.ref a0])), (a0, .inl (cI, 30, .inl (upd f0 k y))), (r1, .inr (6, [.ref a1])), (a1, .inl (cI, 30, .inl (upd f1 k (w / 1000)))), (r2, .inr (6, [.ref a2])), (a2, .inl (cI, 30, .inl (upd f2 k (w - w / 1000 * 1000)))), (r4, .inr (6, [.ref a4])), (a4, .inl (cI, 30, .inl f4)), (r5, .inr (6, [.ref a5])), (a5, .inl (cI, 30, .inl f5))] rfl rfl (by decide) (by decide) (fun _ => rfl) rfl gX7_tell_X6_put (by decide +kernel) ⟨Nat.le_of_ble_eq_true rfl, Nat.le_of_ble_eq_true rfl⟩ 0 rfl rfl rfl rfl rfl hl.1 (Nat.le_of_ble_eq_true rfl) ⟨Nat.le_of_ble_eq_true rfl, Nat.le_of_ble_eq_true rfl⟩ dX7_tell_101 (fun u H locs hw101 hH => ?_)
          obtain ⟨u8, rfl⟩ : ∃ z, z = u := ⟨_, rfl⟩
          obtain rfl : u8 = rPut 30 f3 (nI k) (s / 100000) := hw101
          have hH := (hH : fx_H zA zs.heap H locs D [(h, .inr (7, [.ref r0, .ref r1, .ref r2, .ref r3, .ref r4, .ref r5, .int (nI k)])), (r0, .inr (6, [.ref a0])), (a0, .inl (cI, 30, .inl (upd f0 k y))), (r1, .inr (6, [.ref a1])), (a1, .inl (cI, 30, .inl (upd f1 k (w / 1000)))), (r2, .inr (6, [.ref a2])), (a2, .inl (cI, 30, .inl (upd f2 k (w - w / 1000 * 1000)))), (r3, .inr (6, [.ref a3])), (a3, .inl (cI, 30, .inl (rPut 30 f3 (nI k) (s / 100000)))), (r4, .inr (6, [.ref a4])), (a4, .inl (cI, 30, .inl f4)), (r5, .inr (6, [.ref a5])), (a5, .inl (cI, 30, .inl f5))])
          rw [show (rPut 30 f3 (nI k) (s / 100000) : Nat → Int32) = upd f3 k (s / 100000) from rPut_nI hlt (by omega)] at hH
          refine lv_aload_n zx zy dX7_tell_104 rfl (lv_at hl 3 rfl) ?_
          refine fx_get (C := RX7) (T := TX7) (N := 7) hC (fun _ h => List.mem_cons_of_mem _ (List.mem_append_left _ (List.mem_append_right _ h))) hH 0 rfl rfl 4 (by decide) (by decide +kernel) rfl dX7_tell_105 ?_
          refine lv_aload_n zx zy dX7_tell_108 rfl (lv_at hl 3 rfl) ?_
          refine fx_get (C := RX7) (T := TX7) (N := 7) hC (fun _ h => List.mem_cons_of_mem _ (List.mem_append_left _ (List.mem_append_right _ h))) hH 0 rfl rfl 6 (by decide) (by decide +kernel) rfl dX7_tell_109 ?_
          refine lv_iload_n zx zy dX7_tell_112 rfl (lv_at hl 6 rfl) ?_
          refine lv_bipush (v := 100) zx zy dX7_tell_113 (by decide) ?_
          refine lv_idiv zx zy dX7_tell_115 (by decide) ?_
          refine lv_sipush (v := 1000) zx zy dX7_tell_116 (by decide) ?_
          refine lv_irem zx zy dX7_tell_119 (by decide) ?_
          refine fx_cVv (n := 2) (As := [.int (nI k), .int ((s / 100) - (s / 100) / 1000 * 1000)]) (b := r4) (rest := []) (fun (u : (Nat → Int32)) => [(h, .inr (7, [.ref r0, .ref r1, .ref r2, .ref r3, .ref r4, .ref r5, .int (nI k)])), (r0, .inr (6, [.ref a0])), (a0, .inl (cI, 30, .inl (upd f0 k y))), (r1, .inr (6, [.ref a1])), (a1, .inl (cI, 30, .inl (upd f1 k (w / 1000)))), (r2, .inr (6, [.ref a2])), (a2, .inl (cI, 30, .inl (upd f2 k (w - w / 1000 * 1000)))), (r3, .inr (6, [.ref a3])), (a3, .inl (cI, 30, .inl (upd f3 k (s / 100000)))), (r4, .inr (6, [.ref a4])), (a4, .inl (cI, 30, .inl u)), (r5, .inr (6, [.ref a5])), (a5, .inl (cI, 30, .inl f5))]) hC hA hH (k_X6_put l D cI cZ r4 a4 30 f4 (nI k) ((s / 100) - (s / 100) / 1000 * 1000) (by first | assumption | omega)) [9, 10] [0, 1, 2, 3, 4, 5, 6, 7, 8, 11, 12] [0, 1, 2, 3, 4, 5, 6, 7, 8, 11, 12, 9, 10] [(h, .inr (7, [.ref r0, .ref r1, .ref r2, .ref r3, .ref r4, .ref r5, .int (nI k)])), (r0, .inr (6, [.ref a0])), (a0, .inl (cI, 30, .inl (upd f0 k y))), (r1, .inr (6, [.ref a1])), (a1, .inl (cI, 30, .inl (upd f1 k (w / 1000)))), (r2, .inr (6, [.ref a2])), (a2, .inl (cI, 30, .inl (upd f2 k (w - w / 1000 * 1000)))), (r3, .inr (6, [.ref a3])), (a3, .inl (cI, 30, .inl (upd f3 k (s / 100000)))), (r5, .inr (6, [.ref a5])), (a5, .inl (cI, 30, .inl f5))] rfl rfl (by decide) (by decide) (fun _ => rfl) rfl gX7_tell_X6_put (by decide +kernel) ⟨Nat.le_of_ble_eq_true rfl, Nat.le_of_ble_eq_true rfl⟩ 0 rfl rfl rfl rfl rfl hl.1 (Nat.le_of_ble_eq_true rfl) ⟨Nat.le_of_ble_eq_true rfl, Nat.le_of_ble_eq_true rfl⟩ dX7_tell_120 (fun u H locs hw120 hH => ?_)
          obtain ⟨u10, rfl⟩ : ∃ z, z = u := ⟨_, rfl⟩
          obtain rfl : u10 = rPut 30 f4 (nI k) ((s / 100) - (s / 100) / 1000 * 1000) := hw120
          have hH := (hH : fx_H zA zs.heap H locs D [(h, .inr (7, [.ref r0, .ref r1, .ref r2, .ref r3, .ref r4, .ref r5, .int (nI k)])), (r0, .inr (6, [.ref a0])), (a0, .inl (cI, 30, .inl (upd f0 k y))), (r1, .inr (6, [.ref a1])), (a1, .inl (cI, 30, .inl (upd f1 k (w / 1000)))), (r2, .inr (6, [.ref a2])), (a2, .inl (cI, 30, .inl (upd f2 k (w - w / 1000 * 1000)))), (r3, .inr (6, [.ref a3])), (a3, .inl (cI, 30, .inl (upd f3 k (s / 100000)))), (r4, .inr (6, [.ref a4])), (a4, .inl (cI, 30, .inl (rPut 30 f4 (nI k) ((s / 100) - (s / 100) / 1000 * 1000)))), (r5, .inr (6, [.ref a5])), (a5, .inl (cI, 30, .inl f5))])
          rw [show (rPut 30 f4 (nI k) ((s / 100) - (s / 100) / 1000 * 1000) : Nat → Int32) = upd f4 k (s / 100 - s / 100 / 1000 * 1000) from rPut_nI hlt (by omega)] at hH
          refine lv_aload_n zx zy dX7_tell_123 rfl (lv_at hl 3 rfl) ?_
          refine fx_get (C := RX7) (T := TX7) (N := 7) hC (fun _ h => List.mem_cons_of_mem _ (List.mem_append_left _ (List.mem_append_right _ h))) hH 0 rfl rfl 5 (by decide) (by decide +kernel) rfl dX7_tell_124 ?_
          refine lv_aload_n zx zy dX7_tell_127 rfl (lv_at hl 3 rfl) ?_
          refine fx_get (C := RX7) (T := TX7) (N := 7) hC (fun _ h => List.mem_cons_of_mem _ (List.mem_append_left _ (List.mem_append_right _ h))) hH 0 rfl rfl 6 (by decide) (by decide +kernel) rfl dX7_tell_128 ?_
          refine lv_iload_n zx zy dX7_tell_131 rfl (lv_at hl 6 rfl) ?_
          refine lv_bipush (v := 100) zx zy dX7_tell_132 (by decide) ?_
          refine lv_irem zx zy dX7_tell_134 (by decide) ?_
          refine fx_cVv (n := 2) (As := [.int (nI k), .int (s - s / 100 * 100)]) (b := r5) (rest := []) (fun (u : (Nat → Int32)) => [(h, .inr (7, [.ref r0, .ref r1, .ref r2, .ref r3, .ref r4, .ref r5, .int (nI k)])), (r0, .inr (6, [.ref a0])), (a0, .inl (cI, 30, .inl (upd f0 k y))), (r1, .inr (6, [.ref a1])), (a1, .inl (cI, 30, .inl (upd f1 k (w / 1000)))), (r2, .inr (6, [.ref a2])), (a2, .inl (cI, 30, .inl (upd f2 k (w - w / 1000 * 1000)))), (r3, .inr (6, [.ref a3])), (a3, .inl (cI, 30, .inl (upd f3 k (s / 100000)))), (r4, .inr (6, [.ref a4])), (a4, .inl (cI, 30, .inl (upd f4 k (s / 100 - s / 100 / 1000 * 1000)))), (r5, .inr (6, [.ref a5])), (a5, .inl (cI, 30, .inl u))]) hC hA hH (k_X6_put l D cI cZ r5 a5 30 f5 (nI k) (s - s / 100 * 100) (by first | assumption | omega)) [11, 12] [0, 1, 2, 3, 4, 5, 6, 7, 8, 9, 10] [0, 1, 2, 3, 4, 5, 6, 7, 8, 9, 10, 11, 12] [(h, .inr (7, [.ref r0, .ref r1, .ref r2, .ref r3, .ref r4, .ref r5, .int (nI k)])), (r0, .inr (6, [.ref a0])), (a0, .inl (cI, 30, .inl (upd f0 k y))), (r1, .inr (6, [.ref a1])), (a1, .inl (cI, 30, .inl (upd f1 k (w / 1000)))), (r2, .inr (6, [.ref a2])), (a2, .inl (cI, 30, .inl (upd f2 k (w - w / 1000 * 1000)))), (r3, .inr (6, [.ref a3])), (a3, .inl (cI, 30, .inl (upd f3 k (s / 100000)))), (r4, .inr (6, [.ref a4])), (a4, .inl (cI, 30, .inl (upd f4 k (s / 100 - s / 100 / 1000 * 1000))))] rfl rfl (by decide) (by decide) (fun _ => rfl) rfl gX7_tell_X6_put (by decide +kernel) ⟨Nat.le_of_ble_eq_true rfl, Nat.le_of_ble_eq_true rfl⟩ 0 rfl rfl rfl rfl rfl hl.1 (Nat.le_of_ble_eq_true rfl) ⟨Nat.le_of_ble_eq_true rfl, Nat.le_of_ble_eq_true rfl⟩ dX7_tell_135 (fun u H locs hw135 hH => ?_)
          obtain ⟨u12, rfl⟩ : ∃ z, z = u := ⟨_, rfl⟩
          obtain rfl : u12 = rPut 30 f5 (nI k) (s - s / 100 * 100) := hw135
          have hH := (hH : fx_H zA zs.heap H locs D [(h, .inr (7, [.ref r0, .ref r1, .ref r2, .ref r3, .ref r4, .ref r5, .int (nI k)])), (r0, .inr (6, [.ref a0])), (a0, .inl (cI, 30, .inl (upd f0 k y))), (r1, .inr (6, [.ref a1])), (a1, .inl (cI, 30, .inl (upd f1 k (w / 1000)))), (r2, .inr (6, [.ref a2])), (a2, .inl (cI, 30, .inl (upd f2 k (w - w / 1000 * 1000)))), (r3, .inr (6, [.ref a3])), (a3, .inl (cI, 30, .inl (upd f3 k (s / 100000)))), (r4, .inr (6, [.ref a4])), (a4, .inl (cI, 30, .inl (upd f4 k (s / 100 - s / 100 / 1000 * 1000)))), (r5, .inr (6, [.ref a5])), (a5, .inl (cI, 30, .inl (rPut 30 f5 (nI k) (s - s / 100 * 100))))])
          rw [show (rPut 30 f5 (nI k) (s - s / 100 * 100) : Nat → Int32) = upd f5 k (s - s / 100 * 100) from rPut_nI hlt (by omega)] at hH
          refine lv_aload_n zx zy dX7_tell_138 rfl (lv_at hl 3 rfl) ?_
          refine lv_dup zx zy dX7_tell_139 rfl ?_
          refine fx_get (C := RX7) (T := TX7) (N := 7) hC (fun _ h => List.mem_cons_of_mem _ (List.mem_append_left _ (List.mem_append_right _ h))) hH 0 rfl rfl 6 (by decide) (by decide +kernel) rfl dX7_tell_140 ?_
          refine lv_iconst (v := 1) zx zy dX7_tell_143 (by decide) ?_
          refine lv_iadd zx zy dX7_tell_144 ?_
          refine lv_topi (fun v13 ev13 => ?_)
          obtain rfl : v13 = nI (k + 1) := ev13.trans (nI_1 k)
          refine fx_put (C := RX7) (T := TX7) (N := 7) (ty := .int) (ws2 := [(h, .inr (7, [.ref r0, .ref r1, .ref r2, .ref r3, .ref r4, .ref r5, .int (nI (k + 1))])), (r0, .inr (6, [.ref a0])), (a0, .inl (cI, 30, .inl (upd f0 k y))), (r1, .inr (6, [.ref a1])), (a1, .inl (cI, 30, .inl (upd f1 k (w / 1000)))), (r2, .inr (6, [.ref a2])), (a2, .inl (cI, 30, .inl (upd f2 k (w - w / 1000 * 1000)))), (r3, .inr (6, [.ref a3])), (a3, .inl (cI, 30, .inl (upd f3 k (s / 100000)))), (r4, .inr (6, [.ref a4])), (a4, .inl (cI, 30, .inl (upd f4 k (s / 100 - s / 100 / 1000 * 1000)))), (r5, .inr (6, [.ref a5])), (a5, .inl (cI, 30, .inl (upd f5 k (s - s / 100 * 100))))]) hC (fun _ h => List.mem_cons_of_mem _ (List.mem_append_left _ (List.mem_append_right _ h))) tyX7_ok nmX7 hH 0 rfl rfl 6 (by decide) (by decide +kernel) rfl rfl rfl rfl (Nat.le_of_ble_eq_true rfl) rfl dX7_tell_145 (fun H locs hH => ?_)
          refine lv_iconst (v := 1) zx zy dX7_tell_148 (by decide) ?_
          exact fx_iret (v := 1) hQ hC hr hlk hH dX7_tell_149 rfl (Nat.le_of_ble_eq_true rfl) (Nat.le_of_ble_eq_true rfl) (((k + 1), upd f0 k y, upd f1 k (w / 1000), upd f2 k (w - w / 1000 * 1000), upd f3 k (s / 100000), upd f4 k (s / 100 - s / 100 / 1000 * 1000), upd f5 k (s - s / 100 * 100))) rfl (Or.inl ⟨⟨hlt, c34, c41, c48⟩, rfl, rfl, rfl, rfl, rfl, rfl, rfl, rfl⟩)
        · skip
          refine lv_iconst (v := 0) zx zy dX7_tell_51 (by decide) ?_
          exact fx_iret (v := 0) hQ hC hr hlk hH dX7_tell_52 rfl (Nat.le_of_ble_eq_true rfl) (Nat.le_of_ble_eq_true rfl) ((k, f0, f1, f2, f3, f4, f5)) rfl (Or.inr ⟨fun q => by first | exact c34 |> q.2.1 | exact q.2.2.1 c41 | exact c48 q.2.2.2 | exact absurd q.1 (Nat.not_lt.mpr (fx_le_of (a := 30) c26 (by omega) (by omega))), rfl, rfl, rfl, rfl, rfl, rfl, rfl, rfl⟩)
end
section
def grQ (f : Nat → Int32) (b : Nat) : Nat → Int32
  | 0 => -1
  | q + 1 => if grQ f b q < f (b + q) then f (b + q) else grQ f b q
def grV (f : Nat → Int32) (w : Nat) (y : Int32) : Int32 := if y < 0 then -1 else grQ f ((w * 20 + y.toNatClampNeg) * 4) 4
def gapT (f : Nat → Int32) (w y : Nat) : Int32 := if grV f w (nI y) < grV f w (nI y - 1) then grV f w (nI y - 1) else grV f w (nI y)
def gapV (f : Nat → Int32) (w y : Nat) : Int32 := if gapT f w y = -1 then 10 else if 1 < (gapT f w y * 110 + 99) / 100 then (gapT f w y * 110 + 99) / 100 else 1
def fouS (f : Nat → Int32) (g : Int32) (b : Nat) : Nat → Int32
  | 0 => 0
  | q + 1 => fouS f g b q + (if f (b + q) = -1 then g else f (b + q))
/-- what a works fouled in a year -/
def fouV (f : Nat → Int32) (w y : Nat) : Int32 := fouS f (gapV f w y) ((w * 20 + y) * 4) 4
theorem pl_nI (w y q : Nat) : (nI w * 20 + nI y) * 4 + nI q = nI ((w * 20 + y) * 4 + q) := by
  show (nI w * nI 20 + nI y) * nI 4 + nI q = _
  rw [pk_mul, nI_add, pk_mul, nI_add]
theorem pl_y {y : Int32} (h : ¬ y < 0) (w q : Nat) : (nI w * 20 + y) * 4 + nI q = nI ((w * 20 + y.toNatClampNeg) * 4 + q) := by
  obtain ⟨j, hj, rfl⟩ := nI_of h
  rw [nI_clamp hj]
  exact pl_nI w j q
theorem ym1_lt {y : Nat} (h : y < 20) : (nI y - 1).toNatClampNeg < 20 := by
  cases y with
  | zero => decide
  | succ y => rw [nI_pred, nI_clamp (by omega)]; omega
theorem rAdd_nI {n : Nat} {f : Nat → Int32} {k : Nat} {x : Int32} (h : k < n) (hn : n < 2 ^ 31) : rPut n f (nI k) (rAt n f (nI k) + x) = upd f k (f k + x) := by
  rw [rPut_nI h hn, rAt_nI h hn]
set_option maxHeartbeats 4000000 in
set_option maxRecDepth 100000 in
theorem k_X4_place (l : Launch) (D : va_G) (cI cZ : ClassId) (w : Int32) (y : Int32) (q : Int32) : fx_CI l D cI cZ yX4_place wsX4_place ({ frames := 0, cells := 0, slots := 0, locals := 0 }) [.int w, .int y, .int q] [] (fun (u : Unit) => []) (fun (r : Int32) (u : Unit) => r = (w * 20 + y) * 4 + q) := by
  refine fx_CI.of (ws' := (wsX4_place).tail) cX4_place 3 (by decide) rfl (Nat.le_of_ble_eq_true rfl) ?_
  intro zp ze zs zm za zb zt zc zA ls zQ hQ hC hr hlk hA hH hl
  have zx := hC.1.1
  have zy := hC.1.2.1
  have hl : lv_has ls 3 [(0, .int w), (1, .int y), (2, .int q)] := hl
  refine lv_iload_n zx zy dX4_place_0 rfl (lv_at hl 0 rfl) ?_
  refine lv_bipush (v := 20) zx zy dX4_place_1 (by decide) ?_
  refine lv_imul zx zy dX4_place_3 ?_
  refine lv_iload_n zx zy dX4_place_4 rfl (lv_at hl 1 rfl) ?_
  refine lv_iadd zx zy dX4_place_5 ?_
  refine lv_iconst (v := 4) zx zy dX4_place_6 (by decide) ?_
  refine lv_imul zx zy dX4_place_7 ?_
  refine lv_iload_n zx zy dX4_place_8 rfl (lv_at hl 2 rfl) ?_
  refine lv_iadd zx zy dX4_place_9 ?_
  exact fx_iret (v := (((w * 20) + y) * 4) + q) hQ hC hr hlk hH dX4_place_10 rfl (Nat.le_of_ble_eq_true rfl) (Nat.le_of_ble_eq_true rfl) (()) rfl (rfl)
set_option maxHeartbeats 4000000 in
set_option maxRecDepth 100000 in
theorem k_X4_read (l : Launch) (D : va_G) (cI cZ : ClassId) (h : Nat) (r : Nat) (a : Nat) (f : Nat → Int32) (w : Nat) (y : Nat) (q : Nat) (x : Int32) (hw : w < 10) (hy : y < 20) (hq : q < 4) : fx_CV l D cI cZ yX4_read wsX4_read ({ frames := 1, cells := 0, slots := 0, locals := 22 }) [.ref h, .int (nI w), .int (nI y), .int (nI q), .int x] [(h, .inr (4, [.ref r])), (r, .inr (6, [.ref a])), (a, .inl (cI, 800, .inl f))] (fun (u : (Nat → Int32)) => [(h, .inr (4, [.ref r])), (r, .inr (6, [.ref a])), (a, .inl (cI, 800, .inl u))]) (fun (u : (Nat → Int32)) => u = upd f ((w * 20 + y) * 4 + q) x) := by
  refine fx_CV.of (ws' := (wsX4_read).tail) cX4_read 5 (by decide) rfl (Nat.le_of_ble_eq_true rfl) ?_
  intro zp ze zs zm za zb zt zc zA ls zQ hQ hC hr hlk hnm hA hH hl
  have zx := hC.1.1
  have zy := hC.1.2.1
  have hl : lv_has ls 5 [(0, .ref h), (1, .int (nI w)), (2, .int (nI y)), (3, .int (nI q)), (4, .int x)] := hl
  refine lv_aload_n zx zy dX4_read_0 rfl (lv_at hl 0 rfl) ?_
  refine fx_get (C := RX4) (T := TX4) (N := 1) hC (fun _ h => List.mem_cons_of_mem _ (List.mem_append_left _ (List.mem_append_right _ h))) hH 0 rfl rfl 0 (by decide) (by decide +kernel) rfl dX4_read_1 ?_
  refine lv_iload_n zx zy dX4_read_4 rfl (lv_at hl 1 rfl) ?_
  refine lv_iload_n zx zy dX4_read_5 rfl (lv_at hl 2 rfl) ?_
  refine lv_iload_n zx zy dX4_read_6 rfl (lv_at hl 3 rfl) ?_
  refine fx_cSi (n := 3) (As := [.int (nI w), .int (nI y), .int (nI q)]) (rest := [.ref r]) hC hA hH (k_X4_place l D cI cZ (nI w) (nI y) (nI q)) ⟨rfl, rfl⟩ rfl gX4_read_X4_place (by decide +kernel) ⟨Nat.le_of_ble_eq_true rfl, Nat.le_of_ble_eq_true rfl⟩ rfl rfl hl.1 (Nat.le_of_ble_eq_true rfl) ⟨(Nat.le_of_ble_eq_true rfl), (Nat.le_of_ble_eq_true rfl)⟩ dX4_read_7 (fun r1 H locs hw7 hH => ?_)
  obtain rfl : r1 = ((nI w) * 20 + (nI y)) * 4 + (nI q) := hw7
  refine lv_topi (fun v2 ev2 => ?_)
  obtain rfl : v2 = nI ((w * 20 + y) * 4 + q) := ev2.trans (pl_nI w y q)
  refine lv_iload zx zy dX4_read_10 (lv_at hl 4 rfl) ?_
  refine fx_cVv (n := 2) (As := [.int (nI ((w * 20 + y) * 4 + q)), .int x]) (b := r) (rest := []) (fun (u : (Nat → Int32)) => [(h, .inr (4, [.ref r])), (r, .inr (6, [.ref a])), (a, .inl (cI, 800, .inl u))]) hC hA hH (k_X6_put l D cI cZ r a 800 f (nI ((w * 20 + y) * 4 + q)) x (by first | assumption | omega)) [1, 2] [0] [0, 1, 2] [(h, .inr (4, [.ref r]))] rfl rfl (by decide) (by decide) (fun _ => rfl) rfl gX4_read_X6_put (by decide +kernel) ⟨Nat.le_of_ble_eq_true rfl, Nat.le_of_ble_eq_true rfl⟩ 0 rfl rfl rfl rfl rfl hl.1 (Nat.le_of_ble_eq_true rfl) ⟨Nat.le_of_ble_eq_true rfl, Nat.le_of_ble_eq_true rfl⟩ dX4_read_12 (fun u H locs hw12 hH => ?_)
  obtain ⟨u4, rfl⟩ : ∃ z, z = u := ⟨_, rfl⟩
  obtain rfl : u4 = rPut 800 f (nI ((w * 20 + y) * 4 + q)) x := hw12
  have hH := (hH : fx_H zA zs.heap H locs D [(h, .inr (4, [.ref r])), (r, .inr (6, [.ref a])), (a, .inl (cI, 800, .inl (rPut 800 f (nI ((w * 20 + y) * 4 + q)) x)))])
  rw [show (rPut 800 f (nI ((w * 20 + y) * 4 + q)) x : Nat → Int32) = upd f ((w * 20 + y) * 4 + q) x from rPut_nI (by omega) (by omega)] at hH
  exact fx_vret hQ hC hr hlk hH dX4_read_15 (Nat.le_of_ble_eq_true rfl) (Nat.le_of_ble_eq_true rfl) (upd f ((w * 20 + y) * 4 + q) x) rfl (rfl)
set_option maxHeartbeats 4000000 in
set_option maxRecDepth 100000 in
theorem k_X4_greatest (l : Launch) (D : va_G) (cI cZ : ClassId) (h : Nat) (r : Nat) (a : Nat) (f : Nat → Int32) (w : Nat) (y : Int32) (hw : w < 10) (hy : y.toNatClampNeg < 20) : fx_CI l D cI cZ yX4_greatest wsX4_greatest ({ frames := 1, cells := 0, slots := 0, locals := 24 }) [.ref h, .int (nI w), .int y] [(h, .inr (4, [.ref r])), (r, .inr (6, [.ref a])), (a, .inl (cI, 800, .inl f))] (fun (u : Unit) => [(h, .inr (4, [.ref r])), (r, .inr (6, [.ref a])), (a, .inl (cI, 800, .inl f))]) (fun (r : Int32) (u : Unit) => r = grV f w y) := by
  refine fx_CI.of (ws' := (wsX4_greatest).tail) cX4_greatest 5 (by decide) rfl (Nat.le_of_ble_eq_true rfl) ?_
  intro zp ze zs zm za zb zt zc zA ls zQ hQ hC hr hlk hA hH hl
  have zx := hC.1.1
  have zy := hC.1.2.1
  have hl : lv_has ls 5 [(0, .ref h), (1, .int (nI w)), (2, .int y)] := hl
  refine lv_iconst (v := (-1)) zx zy dX4_greatest_0 (by decide) ?_
  refine lv_istore_n (lv' := [(3, .int (-1)), (0, .ref h), (1, .int (nI w)), (2, .int y)]) zx zy dX4_greatest_1 rfl hl (by decide) rfl (fun ls hl => ?_)
  refine lv_iconst (v := 0) zx zy dX4_greatest_2 (by decide) ?_
  refine lv_topi (fun v1 ev1 => ?_)
  obtain rfl : v1 = nI 0 := ev1.trans (rfl)
  refine lv_istore (lv' := [(4, .int (nI 0)), (3, .int (-1)), (0, .ref h), (1, .int (nI w)), (2, .int y)]) zx zy dX4_greatest_3 hl (by decide) rfl (fun ls hl => ?_)
  have L5 : ∀ (fu : Nat) (q : Nat) (t : Int32) (hq : q ≤ 4) (ht : t = grQ f ((w * 20 + y.toNatClampNeg) * 4) q) (hy0 : y < 0 → q = 0) (H : Heap) (locs : List Loc) (ls : Array Slot), 4 - q < fu → fx_H zA zs.heap H locs D [(h, .inr (4, [.ref r])), (r, .inr (6, [.ref a])), (a, .inl (cI, 800, .inl f))] → lv_has ls 5 [(0, .ref h), (1, .int (nI w)), (2, .int y), (3, .int t), (4, .int (nI q))] → W zp l ze ({ frames := 1, cells := 0, slots := 0, locals := 24 }) zs zm za zb zt zc H locs (0) (0) zQ (F0 zm 5 ls []) := by
    intro fu
    induction fu with
    | zero => intro q t hq ht hy0 H locs ls hfu; exact absurd hfu (Nat.not_lt_zero _)
    | succ fu ih5 =>
      intro q t hq ht hy0 H locs ls hfu5 hH hl
      refine lv_iload zx zy dX4_greatest_5 (lv_at hl 4 rfl) ?_
      refine lv_iconst (v := 4) zx zy dX4_greatest_7 (by decide) ?_
      refine lv_icmp_ge (tgt := 40) zx zy dX4_greatest_8 (by decide) (fun c8 => ?_) (fun c8 => ?_)
      · skip
        have hq4 : q = 4 := Nat.le_antisymm hq (fx_le_of (a := 4) c8 (by omega) (by omega))
        refine lv_iload_n zx zy dX4_greatest_40 rfl (lv_at hl 3 rfl) ?_
        exact fx_iret (v := t) hQ hC hr hlk hH dX4_greatest_41 rfl (Nat.le_of_ble_eq_true rfl) (Nat.le_of_ble_eq_true rfl) (()) rfl (by first | exact (by rw [ht, hy0 c12]; exact (if_pos c12).symm) | exact (by rw [ht, hq4]; exact (if_neg (fun h => absurd (hy0 h) (by omega))).symm))
      · skip
        have hlt : q < 4 := fx_lt_of (b := 4) c8 (by omega)
        refine lv_iload_n zx zy dX4_greatest_11 rfl (lv_at hl 2 rfl) ?_
        refine lv_if_lt (tgt := 40) zx zy dX4_greatest_12 (by decide) (fun c12 => ?_) (fun c12 => ?_)
        · skip
          refine lv_iload_n zx zy dX4_greatest_40 rfl (lv_at hl 3 rfl) ?_
          exact fx_iret (v := t) hQ hC hr hlk hH dX4_greatest_41 rfl (Nat.le_of_ble_eq_true rfl) (Nat.le_of_ble_eq_true rfl) (()) rfl (by first | exact (by rw [ht, hy0 c12]; exact (if_pos c12).symm) | exact (by rw [ht, hq4]; exact (if_neg (fun h => absurd (hy0 h) (by omega))).symm))
        · skip
          refine lv_iload_n zx zy dX4_greatest_15 rfl (lv_at hl 3 rfl) ?_
          refine lv_aload_n zx zy dX4_greatest_16 rfl (lv_at hl 0 rfl) ?_
          refine fx_get (C := RX4) (T := TX4) (N := 1) hC (fun _ h => List.mem_cons_of_mem _ (List.mem_append_left _ (List.mem_append_right _ h))) hH 0 rfl rfl 0 (by decide) (by decide +kernel) rfl dX4_greatest_17 ?_
          refine lv_iload_n zx zy dX4_greatest_20 rfl (lv_at hl 1 rfl) ?_
          refine lv_iload_n zx zy dX4_greatest_21 rfl (lv_at hl 2 rfl) ?_
          refine lv_iload zx zy dX4_greatest_22 (lv_at hl 4 rfl) ?_
          refine fx_cSi (n := 3) (As := [.int (nI w), .int y, .int (nI q)]) (rest := [.ref r, .int t]) hC hA hH (k_X4_place l D cI cZ (nI w) y (nI q)) ⟨rfl, rfl⟩ rfl gX4_greatest_X4_place (by decide +kernel) ⟨Nat.le_of_ble_eq_true rfl, Nat.le_of_ble_eq_true rfl⟩ rfl rfl hl.1 (Nat.le_of_ble_eq_true rfl) ⟨(Nat.le_of_ble_eq_true rfl), (Nat.le_of_ble_eq_true rfl)⟩ dX4_greatest_24 (fun r2 H locs hw24 hH => ?_)
          obtain rfl : r2 = ((nI w) * 20 + y) * 4 + (nI q) := hw24
          refine lv_topi (fun v3 ev3 => ?_)
          obtain rfl : v3 = nI ((w * 20 + y.toNatClampNeg) * 4 + q) := ev3.trans (pl_y c12 w q)
          refine fx_cVi (n := 1) (As := [.int (nI ((w * 20 + y.toNatClampNeg) * 4 + q))]) (b := r) (rest := [.int t]) (fun (u : Unit) => [(h, .inr (4, [.ref r])), (r, .inr (6, [.ref a])), (a, .inl (cI, 800, .inl f))]) hC hA hH (k_X6_at l D cI cZ r a 800 f (nI ((w * 20 + y.toNatClampNeg) * 4 + q)) (by first | assumption | omega)) [1, 2] [0] [0, 1, 2] [(h, .inr (4, [.ref r]))] rfl rfl (by decide) (by decide) (fun _ => rfl) rfl gX4_greatest_X6_at (by decide +kernel) ⟨Nat.le_of_ble_eq_true rfl, Nat.le_of_ble_eq_true rfl⟩ 0 rfl rfl rfl rfl rfl hl.1 (Nat.le_of_ble_eq_true rfl) ⟨Nat.le_of_ble_eq_true rfl, Nat.le_of_ble_eq_true rfl⟩ dX4_greatest_27 (fun r4 u H locs hw27 hH => ?_)
          obtain rfl : r4 = rAt 800 f (nI ((w * 20 + y.toNatClampNeg) * 4 + q)) := hw27
          have hH := (hH : fx_H zA zs.heap H locs D [(h, .inr (4, [.ref r])), (r, .inr (6, [.ref a])), (a, .inl (cI, 800, .inl f))])
          refine lv_topi (fun v5 ev5 => ?_)
          obtain rfl : v5 = f ((w * 20 + y.toNatClampNeg) * 4 + q) := ev5.trans (rAt_nI (by omega) (by omega))
          refine fx_max hC hl.1 (by decide +kernel) (Nat.le_of_ble_eq_true rfl) (Nat.le_of_ble_eq_true rfl) (Nat.le_of_ble_eq_true rfl) (Nat.le_of_ble_eq_true rfl) dX4_greatest_30 ?_
          refine lv_istore_n (lv' := [(3, .int (if t < f ((w * 20 + y.toNatClampNeg) * 4 + q) then f ((w * 20 + y.toNatClampNeg) * 4 + q) else t)), (0, .ref h), (1, .int (nI w)), (2, .int y), (4, .int (nI q))]) zx zy dX4_greatest_33 rfl hl (by decide) rfl (fun ls hl => ?_)
          refine lv_iinc (v := nI (q + 1)) (lv' := [(4, .int (nI (q + 1))), (3, .int (if t < f ((w * 20 + y.toNatClampNeg) * 4 + q) then f ((w * 20 + y.toNatClampNeg) * 4 + q) else t)), (0, .ref h), (1, .int (nI w)), (2, .int y)]) zx zy dX4_greatest_34 hl (k := 4) rfl (nI_1 _) (by decide) rfl (fun ls hl => ?_)
          refine lv_goto (tgt := 5) zx zy dX4_greatest_37 (by decide) ?_
          exact ih5 (q + 1) (if t < f ((w * 20 + y.toNatClampNeg) * 4 + q) then f ((w * 20 + y.toNatClampNeg) * 4 + q) else t) (by first | assumption | omega) (by subst ht; rfl) (fun h => absurd h c12) _ _ _ (by omega) hH (lv_sub hl [2, 3, 4, 1, 0] rfl)
  exact L5 _ 0 (-1) (by first | assumption | omega) (rfl) (fun _ => rfl) _ _ _ (Nat.lt_succ_self _) hH (lv_sub hl [2, 3, 4, 1, 0] rfl)
set_option maxHeartbeats 4000000 in
set_option maxRecDepth 100000 in
theorem k_X4_gapIn (l : Launch) (D : va_G) (cI cZ : ClassId) (h : Nat) (r : Nat) (a : Nat) (f : Nat → Int32) (w : Nat) (y : Nat) (hw : w < 10) (hy : y < 20) : fx_CI l D cI cZ yX4_gapIn wsX4_gapIn ({ frames := 2, cells := 0, slots := 0, locals := 48 }) [.ref h, .int (nI w), .int (nI y)] [(h, .inr (4, [.ref r])), (r, .inr (6, [.ref a])), (a, .inl (cI, 800, .inl f))] (fun (u : Unit) => [(h, .inr (4, [.ref r])), (r, .inr (6, [.ref a])), (a, .inl (cI, 800, .inl f))]) (fun (r : Int32) (u : Unit) => r = gapV f w y) := by
  refine fx_CI.of (ws' := (wsX4_gapIn).tail) cX4_gapIn 4 (by decide) rfl (Nat.le_of_ble_eq_true rfl) ?_
  intro zp ze zs zm za zb zt zc zA ls zQ hQ hC hr hlk hA hH hl
  have zx := hC.1.1
  have zy := hC.1.2.1
  have hl : lv_has ls 4 [(0, .ref h), (1, .int (nI w)), (2, .int (nI y))] := hl
  refine lv_aload_n zx zy dX4_gapIn_0 rfl (lv_at hl 0 rfl) ?_
  refine lv_iload_n zx zy dX4_gapIn_1 rfl (lv_at hl 1 rfl) ?_
  refine lv_iload_n zx zy dX4_gapIn_2 rfl (lv_at hl 2 rfl) ?_
  refine fx_cVi (n := 2) (As := [.int (nI w), .int (nI y)]) (b := h) (rest := []) (fun (u : Unit) => [(h, .inr (4, [.ref r])), (r, .inr (6, [.ref a])), (a, .inl (cI, 800, .inl f))]) hC hA hH (k_X4_greatest l D cI cZ h r a f w (nI y) (by first | assumption | omega) (by rw [nI_clamp (by omega)]; omega)) [0, 1, 2] [] [0, 1, 2] [] rfl rfl (by decide) (by decide) (fun _ => rfl) rfl gX4_gapIn_X4_greatest (by decide +kernel) ⟨Nat.le_of_ble_eq_true rfl, Nat.le_of_ble_eq_true rfl⟩ 0 rfl rfl rfl rfl rfl hl.1 (Nat.le_of_ble_eq_true rfl) ⟨Nat.le_of_ble_eq_true rfl, Nat.le_of_ble_eq_true rfl⟩ dX4_gapIn_3 (fun r1 u H locs hw3 hH => ?_)
  obtain rfl : r1 = grV f w (nI y) := hw3
  have hH := (hH : fx_H zA zs.heap H locs D [(h, .inr (4, [.ref r])), (r, .inr (6, [.ref a])), (a, .inl (cI, 800, .inl f))])
  refine lv_aload_n zx zy dX4_gapIn_6 rfl (lv_at hl 0 rfl) ?_
  refine lv_iload_n zx zy dX4_gapIn_7 rfl (lv_at hl 1 rfl) ?_
  refine lv_iload_n zx zy dX4_gapIn_8 rfl (lv_at hl 2 rfl) ?_
  refine lv_iconst (v := 1) zx zy dX4_gapIn_9 (by decide) ?_
  refine lv_isub zx zy dX4_gapIn_10 ?_
  refine fx_cVi (n := 2) (As := [.int (nI w), .int ((nI y) - 1)]) (b := h) (rest := [.int (grV f w (nI y))]) (fun (u : Unit) => [(h, .inr (4, [.ref r])), (r, .inr (6, [.ref a])), (a, .inl (cI, 800, .inl f))]) hC hA hH (k_X4_greatest l D cI cZ h r a f w ((nI y) - 1) (by first | assumption | omega) (ym1_lt hy)) [0, 1, 2] [] [0, 1, 2] [] rfl rfl (by decide) (by decide) (fun _ => rfl) rfl gX4_gapIn_X4_greatest (by decide +kernel) ⟨Nat.le_of_ble_eq_true rfl, Nat.le_of_ble_eq_true rfl⟩ 0 rfl rfl rfl rfl rfl hl.1 (Nat.le_of_ble_eq_true rfl) ⟨Nat.le_of_ble_eq_true rfl, Nat.le_of_ble_eq_true rfl⟩ dX4_gapIn_11 (fun r2 u H locs hw11 hH => ?_)
  obtain rfl : r2 = grV f w ((nI y) - 1) := hw11
  have hH := (hH : fx_H zA zs.heap H locs D [(h, .inr (4, [.ref r])), (r, .inr (6, [.ref a])), (a, .inl (cI, 800, .inl f))])
  refine fx_max hC hl.1 (by decide +kernel) (Nat.le_of_ble_eq_true rfl) (Nat.le_of_ble_eq_true rfl) (Nat.le_of_ble_eq_true rfl) (Nat.le_of_ble_eq_true rfl) dX4_gapIn_14 ?_
  refine lv_topi (fun v3 ev3 => ?_)
  obtain rfl : v3 = gapT f w y := ev3.trans (rfl)
  refine lv_istore_n (lv' := [(3, .int (gapT f w y)), (0, .ref h), (1, .int (nI w)), (2, .int (nI y))]) zx zy dX4_gapIn_17 rfl hl (by decide) rfl (fun ls hl => ?_)
  refine lv_iload_n zx zy dX4_gapIn_18 rfl (lv_at hl 0 rfl) ?_
  refine lv_iconst (v := (-1)) zx zy dX4_gapIn_19 (by decide) ?_
  refine lv_icmp_ne (tgt := 28) zx zy dX4_gapIn_20 (by decide) (fun c20 => ?_) (fun c20 => ?_)
  · skip
    refine lv_iconst (v := 1) zx zy dX4_gapIn_28 (by decide) ?_
    refine lv_iload_n zx zy dX4_gapIn_29 rfl (lv_at hl 0 rfl) ?_
    refine lv_bipush (v := 110) zx zy dX4_gapIn_30 (by decide) ?_
    refine lv_imul zx zy dX4_gapIn_32 ?_
    refine lv_bipush (v := 99) zx zy dX4_gapIn_33 (by decide) ?_
    refine lv_iadd zx zy dX4_gapIn_35 ?_
    refine lv_bipush (v := 100) zx zy dX4_gapIn_36 (by decide) ?_
    refine lv_idiv zx zy dX4_gapIn_38 (by decide) ?_
    refine fx_max hC hl.1 (by decide +kernel) (Nat.le_of_ble_eq_true rfl) (Nat.le_of_ble_eq_true rfl) (Nat.le_of_ble_eq_true rfl) (Nat.le_of_ble_eq_true rfl) dX4_gapIn_39 ?_
    exact fx_iret (v := if 1 < (((gapT f w y) * 110) + 99) / 100 then (((gapT f w y) * 110) + 99) / 100 else 1) hQ hC hr hlk hH dX4_gapIn_42 rfl (Nat.le_of_ble_eq_true rfl) (Nat.le_of_ble_eq_true rfl) (()) rfl (by first | exact (if_pos c20).symm | exact (if_neg c20).symm)
  · skip
    refine lv_bipush (v := 10) zx zy dX4_gapIn_23 (by decide) ?_
    refine lv_goto (tgt := 42) zx zy dX4_gapIn_25 (by decide) ?_
    exact fx_iret (v := 10) hQ hC hr hlk hH dX4_gapIn_42 rfl (Nat.le_of_ble_eq_true rfl) (Nat.le_of_ble_eq_true rfl) (()) rfl (by first | exact (if_pos c20).symm | exact (if_neg c20).symm)
set_option maxHeartbeats 4000000 in
set_option maxRecDepth 100000 in
theorem k_X4_fouledIn (l : Launch) (D : va_G) (cI cZ : ClassId) (h : Nat) (r : Nat) (a : Nat) (f : Nat → Int32) (w : Nat) (y : Nat) (hw : w < 10) (hy : y < 20) : fx_CI l D cI cZ yX4_fouledIn wsX4_fouledIn ({ frames := 3, cells := 0, slots := 0, locals := 71 }) [.ref h, .int (nI w), .int (nI y)] [(h, .inr (4, [.ref r])), (r, .inr (6, [.ref a])), (a, .inl (cI, 800, .inl f))] (fun (u : Unit) => [(h, .inr (4, [.ref r])), (r, .inr (6, [.ref a])), (a, .inl (cI, 800, .inl f))]) (fun (r : Int32) (u : Unit) => r = fouV f w y) := by
  refine fx_CI.of (ws' := (wsX4_fouledIn).tail) cX4_fouledIn 7 (by decide) rfl (Nat.le_of_ble_eq_true rfl) ?_
  intro zp ze zs zm za zb zt zc zA ls zQ hQ hC hr hlk hA hH hl
  have zx := hC.1.1
  have zy := hC.1.2.1
  have hl : lv_has ls 7 [(0, .ref h), (1, .int (nI w)), (2, .int (nI y))] := hl
  refine lv_aload_n zx zy dX4_fouledIn_0 rfl (lv_at hl 0 rfl) ?_
  refine lv_iload_n zx zy dX4_fouledIn_1 rfl (lv_at hl 1 rfl) ?_
  refine lv_iload_n zx zy dX4_fouledIn_2 rfl (lv_at hl 2 rfl) ?_
  refine fx_cVi (n := 2) (As := [.int (nI w), .int (nI y)]) (b := h) (rest := []) (fun (u : Unit) => [(h, .inr (4, [.ref r])), (r, .inr (6, [.ref a])), (a, .inl (cI, 800, .inl f))]) hC hA hH (k_X4_gapIn l D cI cZ h r a f w y (by first | assumption | omega) (by first | assumption | omega)) [0, 1, 2] [] [0, 1, 2] [] rfl rfl (by decide) (by decide) (fun _ => rfl) rfl gX4_fouledIn_X4_gapIn (by decide +kernel) ⟨Nat.le_of_ble_eq_true rfl, Nat.le_of_ble_eq_true rfl⟩ 0 rfl rfl rfl rfl rfl hl.1 (Nat.le_of_ble_eq_true rfl) ⟨Nat.le_of_ble_eq_true rfl, Nat.le_of_ble_eq_true rfl⟩ dX4_fouledIn_3 (fun r1 u H locs hw3 hH => ?_)
  obtain rfl : r1 = gapV f w y := hw3
  have hH := (hH : fx_H zA zs.heap H locs D [(h, .inr (4, [.ref r])), (r, .inr (6, [.ref a])), (a, .inl (cI, 800, .inl f))])
  refine lv_istore_n (lv' := [(3, .int (gapV f w y)), (0, .ref h), (1, .int (nI w)), (2, .int (nI y))]) zx zy dX4_fouledIn_6 rfl hl (by decide) rfl (fun ls hl => ?_)
  refine lv_iconst (v := 0) zx zy dX4_fouledIn_7 (by decide) ?_
  refine lv_istore (lv' := [(4, .int 0), (3, .int (gapV f w y)), (0, .ref h), (1, .int (nI w)), (2, .int (nI y))]) zx zy dX4_fouledIn_8 hl (by decide) rfl (fun ls hl => ?_)
  refine lv_iconst (v := 0) zx zy dX4_fouledIn_10 (by decide) ?_
  refine lv_topi (fun v2 ev2 => ?_)
  obtain rfl : v2 = nI 0 := ev2.trans (rfl)
  refine lv_istore (lv' := [(5, .int (nI 0)), (4, .int 0), (3, .int (gapV f w y)), (0, .ref h), (1, .int (nI w)), (2, .int (nI y))]) zx zy dX4_fouledIn_11 hl (by decide) rfl (fun ls hl => ?_)
  have L13 : ∀ (fu : Nat) (q : Nat) (sm : Int32) (hq : q ≤ 4) (hs : sm = fouS f (gapV f w y) ((w * 20 + y) * 4) q) (H : Heap) (locs : List Loc) (ls : Array Slot), 4 - q < fu → fx_H zA zs.heap H locs D [(h, .inr (4, [.ref r])), (r, .inr (6, [.ref a])), (a, .inl (cI, 800, .inl f))] → lv_has ls 7 [(0, .ref h), (1, .int (nI w)), (2, .int (nI y)), (3, .int (gapV f w y)), (4, .int sm), (5, .int (nI q))] → W zp l ze ({ frames := 3, cells := 0, slots := 0, locals := 71 }) zs zm za zb zt zc H locs (0) (0) zQ (F0 zm 13 ls []) := by
    intro fu
    induction fu with
    | zero => intro q sm hq hs H locs ls hfu; exact absurd hfu (Nat.not_lt_zero _)
    | succ fu ih13 =>
      intro q sm hq hs H locs ls hfu13 hH hl
      refine lv_iload zx zy dX4_fouledIn_13 (lv_at hl 5 rfl) ?_
      refine lv_iconst (v := 4) zx zy dX4_fouledIn_15 (by decide) ?_
      refine lv_icmp_ge (tgt := 58) zx zy dX4_fouledIn_16 (by decide) (fun c16 => ?_) (fun c16 => ?_)
      · skip
        have hq4 : q = 4 := Nat.le_antisymm hq (fx_le_of (a := 4) c16 (by omega) (by omega))
        refine lv_iload zx zy dX4_fouledIn_58 (lv_at hl 4 rfl) ?_
        exact fx_iret (v := sm) hQ hC hr hlk hH dX4_fouledIn_60 rfl (Nat.le_of_ble_eq_true rfl) (Nat.le_of_ble_eq_true rfl) (()) rfl (by rw [hs, hq4]; rfl)
      · skip
        have hlt : q < 4 := fx_lt_of (b := 4) c16 (by omega)
        refine lv_aload_n zx zy dX4_fouledIn_19 rfl (lv_at hl 0 rfl) ?_
        refine fx_get (C := RX4) (T := TX4) (N := 1) hC (fun _ h => List.mem_cons_of_mem _ (List.mem_append_left _ (List.mem_append_right _ h))) hH 0 rfl rfl 0 (by decide) (by decide +kernel) rfl dX4_fouledIn_20 ?_
        refine lv_iload_n zx zy dX4_fouledIn_23 rfl (lv_at hl 1 rfl) ?_
        refine lv_iload_n zx zy dX4_fouledIn_24 rfl (lv_at hl 2 rfl) ?_
        refine lv_iload zx zy dX4_fouledIn_25 (lv_at hl 5 rfl) ?_
        refine fx_cSi (n := 3) (As := [.int (nI w), .int (nI y), .int (nI q)]) (rest := [.ref r]) hC hA hH (k_X4_place l D cI cZ (nI w) (nI y) (nI q)) ⟨rfl, rfl⟩ rfl gX4_fouledIn_X4_place (by decide +kernel) ⟨Nat.le_of_ble_eq_true rfl, Nat.le_of_ble_eq_true rfl⟩ rfl rfl hl.1 (Nat.le_of_ble_eq_true rfl) ⟨(Nat.le_of_ble_eq_true rfl), (Nat.le_of_ble_eq_true rfl)⟩ dX4_fouledIn_27 (fun r3 H locs hw27 hH => ?_)
        obtain rfl : r3 = ((nI w) * 20 + (nI y)) * 4 + (nI q) := hw27
        refine lv_topi (fun v4 ev4 => ?_)
        obtain rfl : v4 = nI ((w * 20 + y) * 4 + q) := ev4.trans (pl_nI w y q)
        refine fx_cVi (n := 1) (As := [.int (nI ((w * 20 + y) * 4 + q))]) (b := r) (rest := []) (fun (u : Unit) => [(h, .inr (4, [.ref r])), (r, .inr (6, [.ref a])), (a, .inl (cI, 800, .inl f))]) hC hA hH (k_X6_at l D cI cZ r a 800 f (nI ((w * 20 + y) * 4 + q)) (by first | assumption | omega)) [1, 2] [0] [0, 1, 2] [(h, .inr (4, [.ref r]))] rfl rfl (by decide) (by decide) (fun _ => rfl) rfl gX4_fouledIn_X6_at (by decide +kernel) ⟨Nat.le_of_ble_eq_true rfl, Nat.le_of_ble_eq_true rfl⟩ 0 rfl rfl rfl rfl rfl hl.1 (Nat.le_of_ble_eq_true rfl) ⟨Nat.le_of_ble_eq_true rfl, Nat.le_of_ble_eq_true rfl⟩ dX4_fouledIn_30 (fun r5 u H locs hw30 hH => ?_)
        obtain rfl : r5 = rAt 800 f (nI ((w * 20 + y) * 4 + q)) := hw30
        have hH := (hH : fx_H zA zs.heap H locs D [(h, .inr (4, [.ref r])), (r, .inr (6, [.ref a])), (a, .inl (cI, 800, .inl f))])
        refine lv_topi (fun v6 ev6 => ?_)
        obtain rfl : v6 = f ((w * 20 + y) * 4 + q) := ev6.trans (rAt_nI (by omega) (by omega))
        refine lv_istore (lv' := [(6, .int (f ((w * 20 + y) * 4 + q))), (0, .ref h), (1, .int (nI w)), (2, .int (nI y)), (3, .int (gapV f w y)), (4, .int sm), (5, .int (nI q))]) zx zy dX4_fouledIn_33 hl (by decide) rfl (fun ls hl => ?_)
        refine lv_iload zx zy dX4_fouledIn_35 (lv_at hl 5 rfl) ?_
        refine lv_iload zx zy dX4_fouledIn_37 (lv_at hl 0 rfl) ?_
        refine lv_iconst (v := (-1)) zx zy dX4_fouledIn_39 (by decide) ?_
        refine lv_icmp_ne (tgt := 47) zx zy dX4_fouledIn_40 (by decide) (fun c40 => ?_) (fun c40 => ?_)
        · skip
          refine lv_iload zx zy dX4_fouledIn_47 (lv_at hl 0 rfl) ?_
          refine lv_iadd zx zy dX4_fouledIn_49 ?_
          refine lv_istore (lv' := [(4, .int (sm + (f ((w * 20 + y) * 4 + q)))), (6, .int (f ((w * 20 + y) * 4 + q))), (0, .ref h), (1, .int (nI w)), (2, .int (nI y)), (3, .int (gapV f w y)), (5, .int (nI q))]) zx zy dX4_fouledIn_50 hl (by decide) rfl (fun ls hl => ?_)
          refine lv_iinc (v := nI (q + 1)) (lv' := [(5, .int (nI (q + 1))), (4, .int (sm + (f ((w * 20 + y) * 4 + q)))), (6, .int (f ((w * 20 + y) * 4 + q))), (0, .ref h), (1, .int (nI w)), (2, .int (nI y)), (3, .int (gapV f w y))]) zx zy dX4_fouledIn_52 hl (k := 6) rfl (nI_1 _) (by decide) rfl (fun ls hl => ?_)
          refine lv_goto (tgt := 13) zx zy dX4_fouledIn_55 (by decide) ?_
          exact ih13 (q + 1) (sm + (f ((w * 20 + y) * 4 + q))) (by first | assumption | omega) (by subst hs; first | (simp only [fouS, if_pos c40]; done) | (simp only [fouS, if_neg c40]; done)) _ _ _ (by omega) hH (lv_sub hl [3, 4, 5, 6, 1, 0] rfl)
        · skip
          refine lv_iload_n zx zy dX4_fouledIn_43 rfl (lv_at hl 4 rfl) ?_
          refine lv_goto (tgt := 49) zx zy dX4_fouledIn_44 (by decide) ?_
          refine lv_iadd zx zy dX4_fouledIn_49 ?_
          refine lv_istore (lv' := [(4, .int (sm + (gapV f w y))), (6, .int (f ((w * 20 + y) * 4 + q))), (0, .ref h), (1, .int (nI w)), (2, .int (nI y)), (3, .int (gapV f w y)), (5, .int (nI q))]) zx zy dX4_fouledIn_50 hl (by decide) rfl (fun ls hl => ?_)
          refine lv_iinc (v := nI (q + 1)) (lv' := [(5, .int (nI (q + 1))), (4, .int (sm + (gapV f w y))), (6, .int (f ((w * 20 + y) * 4 + q))), (0, .ref h), (1, .int (nI w)), (2, .int (nI y)), (3, .int (gapV f w y))]) zx zy dX4_fouledIn_52 hl (k := 6) rfl (nI_1 _) (by decide) rfl (fun ls hl => ?_)
          refine lv_goto (tgt := 13) zx zy dX4_fouledIn_55 (by decide) ?_
          exact ih13 (q + 1) (sm + (gapV f w y)) (by first | assumption | omega) (by subst hs; first | (simp only [fouS, if_pos c40]; done) | (simp only [fouS, if_neg c40]; done)) _ _ _ (by omega) hH (lv_sub hl [3, 4, 5, 6, 1, 0] rfl)
  exact L13 _ 0 0 (by first | assumption | omega) (rfl) _ _ _ (Nat.lt_succ_self _) hH (lv_sub hl [3, 4, 5, 2, 1, 0] rfl)
end
section
def lgF (c d u f t : Int32) : Int32 := if t = 0 then c else if t = 1 then d else if t = 3 then u else if t = 4 then f else -2147483648
theorem lgF_else {c d u f t : Int32} (h0 : ¬ t = 0) (h1 : ¬ t = 1) (h3 : ¬ t = 3) (h4 : ¬ t = 4) : lgF c d u f t = -2147483648 := by
  unfold lgF; rw [if_neg h0, if_neg h1, if_neg h3, if_neg h4]
set_option maxHeartbeats 4000000 in
set_option maxRecDepth 100000 in
theorem k_X3_earn (l : Launch) (D : va_G) (cI cZ : ClassId) (h : Nat) (r0 : Nat) (r1 : Nat) (r2 : Nat) (r3 : Nat) (fa : Int32) (a0 : Nat) (f0 : Nat → Int32) (w : Nat) (x : Int32) (hw : w < 10) : fx_CV l D cI cZ yX3_earn wsX3_earn ({ frames := 2, cells := 0, slots := 0, locals := 44 }) [.ref h, .int (nI w), .int x] [(h, .inr (3, [.ref r0, .ref r1, .ref r2, .ref r3, .int fa])), (r0, .inr (6, [.ref a0])), (a0, .inl (cI, 10, .inl f0))] (fun (u : (Nat → Int32)) => [(h, .inr (3, [.ref r0, .ref r1, .ref r2, .ref r3, .int fa])), (r0, .inr (6, [.ref a0])), (a0, .inl (cI, 10, .inl u))]) (fun (u : (Nat → Int32)) => u = upd f0 w (f0 w + x)) := by
  refine fx_CV.of (ws' := (wsX3_earn).tail) cX3_earn 3 (by decide) rfl (Nat.le_of_ble_eq_true rfl) ?_
  intro zp ze zs zm za zb zt zc zA ls zQ hQ hC hr hlk hnm hA hH hl
  have zx := hC.1.1
  have zy := hC.1.2.1
  have hl : lv_has ls 3 [(0, .ref h), (1, .int (nI w)), (2, .int x)] := hl
  refine lv_aload_n zx zy dX3_earn_0 rfl (lv_at hl 0 rfl) ?_
  refine fx_get (C := RX3) (T := TX3) (N := 5) hC (fun _ h => List.mem_cons_of_mem _ (List.mem_append_left _ (List.mem_append_right _ h))) hH 0 rfl rfl 0 (by decide) (by decide +kernel) rfl dX3_earn_1 ?_
  refine lv_iload_n zx zy dX3_earn_4 rfl (lv_at hl 1 rfl) ?_
  refine lv_iload_n zx zy dX3_earn_5 rfl (lv_at hl 2 rfl) ?_
  refine fx_cVv (n := 2) (As := [.int (nI w), .int x]) (b := r0) (rest := []) (fun (u : (Nat → Int32)) => [(h, .inr (3, [.ref r0, .ref r1, .ref r2, .ref r3, .int fa])), (r0, .inr (6, [.ref a0])), (a0, .inl (cI, 10, .inl u))]) hC hA hH (k_X6_add l D cI cZ r0 a0 10 f0 (nI w) x (by first | assumption | omega)) [1, 2] [0] [0, 1, 2] [(h, .inr (3, [.ref r0, .ref r1, .ref r2, .ref r3, .int fa]))] rfl rfl (by decide) (by decide) (fun _ => rfl) rfl gX3_earn_X6_add (by decide +kernel) ⟨Nat.le_of_ble_eq_true rfl, Nat.le_of_ble_eq_true rfl⟩ 0 rfl rfl rfl rfl rfl hl.1 (Nat.le_of_ble_eq_true rfl) ⟨Nat.le_of_ble_eq_true rfl, Nat.le_of_ble_eq_true rfl⟩ dX3_earn_6 (fun u H locs hw6 hH => ?_)
  obtain ⟨u2, rfl⟩ : ∃ z, z = u := ⟨_, rfl⟩
  obtain rfl : u2 = rPut 10 f0 (nI w) (rAt 10 f0 (nI w) + x) := hw6
  have hH := (hH : fx_H zA zs.heap H locs D [(h, .inr (3, [.ref r0, .ref r1, .ref r2, .ref r3, .int fa])), (r0, .inr (6, [.ref a0])), (a0, .inl (cI, 10, .inl (rPut 10 f0 (nI w) (rAt 10 f0 (nI w) + x))))])
  rw [show (rPut 10 f0 (nI w) (rAt 10 f0 (nI w) + x) : Nat → Int32) = upd f0 w (f0 w + x) from rAdd_nI hw (by omega)] at hH
  exact fx_vret hQ hC hr hlk hH dX3_earn_9 (Nat.le_of_ble_eq_true rfl) (Nat.le_of_ble_eq_true rfl) (upd f0 w (f0 w + x)) rfl (rfl)
set_option maxHeartbeats 4000000 in
set_option maxRecDepth 100000 in
theorem k_X3_owe (l : Launch) (D : va_G) (cI cZ : ClassId) (h : Nat) (r0 : Nat) (r1 : Nat) (r2 : Nat) (r3 : Nat) (fa : Int32) (a1 : Nat) (f1 : Nat → Int32) (w : Nat) (x : Int32) (hw : w < 10) : fx_CV l D cI cZ yX3_owe wsX3_owe ({ frames := 2, cells := 0, slots := 0, locals := 44 }) [.ref h, .int (nI w), .int x] [(h, .inr (3, [.ref r0, .ref r1, .ref r2, .ref r3, .int fa])), (r1, .inr (6, [.ref a1])), (a1, .inl (cI, 10, .inl f1))] (fun (u : (Nat → Int32)) => [(h, .inr (3, [.ref r0, .ref r1, .ref r2, .ref r3, .int fa])), (r1, .inr (6, [.ref a1])), (a1, .inl (cI, 10, .inl u))]) (fun (u : (Nat → Int32)) => u = upd f1 w (f1 w + x)) := by
  refine fx_CV.of (ws' := (wsX3_owe).tail) cX3_owe 3 (by decide) rfl (Nat.le_of_ble_eq_true rfl) ?_
  intro zp ze zs zm za zb zt zc zA ls zQ hQ hC hr hlk hnm hA hH hl
  have zx := hC.1.1
  have zy := hC.1.2.1
  have hl : lv_has ls 3 [(0, .ref h), (1, .int (nI w)), (2, .int x)] := hl
  refine lv_aload_n zx zy dX3_owe_0 rfl (lv_at hl 0 rfl) ?_
  refine fx_get (C := RX3) (T := TX3) (N := 5) hC (fun _ h => List.mem_cons_of_mem _ (List.mem_append_left _ (List.mem_append_right _ h))) hH 0 rfl rfl 1 (by decide) (by decide +kernel) rfl dX3_owe_1 ?_
  refine lv_iload_n zx zy dX3_owe_4 rfl (lv_at hl 1 rfl) ?_
  refine lv_iload_n zx zy dX3_owe_5 rfl (lv_at hl 2 rfl) ?_
  refine fx_cVv (n := 2) (As := [.int (nI w), .int x]) (b := r1) (rest := []) (fun (u : (Nat → Int32)) => [(h, .inr (3, [.ref r0, .ref r1, .ref r2, .ref r3, .int fa])), (r1, .inr (6, [.ref a1])), (a1, .inl (cI, 10, .inl u))]) hC hA hH (k_X6_add l D cI cZ r1 a1 10 f1 (nI w) x (by first | assumption | omega)) [1, 2] [0] [0, 1, 2] [(h, .inr (3, [.ref r0, .ref r1, .ref r2, .ref r3, .int fa]))] rfl rfl (by decide) (by decide) (fun _ => rfl) rfl gX3_owe_X6_add (by decide +kernel) ⟨Nat.le_of_ble_eq_true rfl, Nat.le_of_ble_eq_true rfl⟩ 0 rfl rfl rfl rfl rfl hl.1 (Nat.le_of_ble_eq_true rfl) ⟨Nat.le_of_ble_eq_true rfl, Nat.le_of_ble_eq_true rfl⟩ dX3_owe_6 (fun u H locs hw6 hH => ?_)
  obtain ⟨u2, rfl⟩ : ∃ z, z = u := ⟨_, rfl⟩
  obtain rfl : u2 = rPut 10 f1 (nI w) (rAt 10 f1 (nI w) + x) := hw6
  have hH := (hH : fx_H zA zs.heap H locs D [(h, .inr (3, [.ref r0, .ref r1, .ref r2, .ref r3, .int fa])), (r1, .inr (6, [.ref a1])), (a1, .inl (cI, 10, .inl (rPut 10 f1 (nI w) (rAt 10 f1 (nI w) + x))))])
  rw [show (rPut 10 f1 (nI w) (rAt 10 f1 (nI w) + x) : Nat → Int32) = upd f1 w (f1 w + x) from rAdd_nI hw (by omega)] at hH
  exact fx_vret hQ hC hr hlk hH dX3_owe_9 (Nat.le_of_ble_eq_true rfl) (Nat.le_of_ble_eq_true rfl) (upd f1 w (f1 w + x)) rfl (rfl)
set_option maxHeartbeats 4000000 in
set_option maxRecDepth 100000 in
theorem k_X3_close (l : Launch) (D : va_G) (cI cZ : ClassId) (h : Nat) (r0 : Nat) (r1 : Nat) (r2 : Nat) (r3 : Nat) (fa : Int32) (a0 : Nat) (a1 : Nat) (a2 : Nat) (a3 : Nat) (f0 : Nat → Int32) (f1 : Nat → Int32) (f2 : Nat → Int32) (f3 : Nat → Int32) (w : Nat) (us : Int32) (la : Int32) (fi : Int32) (hw : w < 10) : fx_CV l D cI cZ yX3_close wsX3_close ({ frames := 2, cells := 0, slots := 0, locals := 44 }) [.ref h, .int (nI w), .int us, .int la, .int fi] [(h, .inr (3, [.ref r0, .ref r1, .ref r2, .ref r3, .int fa])), (r0, .inr (6, [.ref a0])), (a0, .inl (cI, 10, .inl f0)), (r1, .inr (6, [.ref a1])), (a1, .inl (cI, 10, .inl f1)), (r2, .inr (6, [.ref a2])), (a2, .inl (cI, 10, .inl f2)), (r3, .inr (6, [.ref a3])), (a3, .inl (cI, 10, .inl f3))] (fun (u : (Nat → Int32) × (Nat → Int32) × (Nat → Int32) × (Nat → Int32) × (Int32)) => [(h, .inr (3, [.ref r0, .ref r1, .ref r2, .ref r3, .int u.2.2.2.2])), (r0, .inr (6, [.ref a0])), (a0, .inl (cI, 10, .inl u.1)), (r1, .inr (6, [.ref a1])), (a1, .inl (cI, 10, .inl u.2.1)), (r2, .inr (6, [.ref a2])), (a2, .inl (cI, 10, .inl u.2.2.1)), (r3, .inr (6, [.ref a3])), (a3, .inl (cI, 10, .inl u.2.2.2.1))]) (fun (u : (Nat → Int32) × (Nat → Int32) × (Nat → Int32) × (Nat → Int32) × (Int32)) => u.1 = upd f0 w (f0 w + (-la) * fi) ∧ u.2.1 = upd f1 w la ∧ u.2.2.1 = upd f2 w (f2 w + us) ∧ u.2.2.2.1 = upd f3 w (f3 w + la * fi) ∧ u.2.2.2.2 = fa + la * fi) := by
  refine fx_CV.of (ws' := (wsX3_close).tail) cX3_close 5 (by decide) rfl (Nat.le_of_ble_eq_true rfl) ?_
  intro zp ze zs zm za zb zt zc zA ls zQ hQ hC hr hlk hnm hA hH hl
  have zx := hC.1.1
  have zy := hC.1.2.1
  have hl : lv_has ls 5 [(0, .ref h), (1, .int (nI w)), (2, .int us), (3, .int la), (4, .int fi)] := hl
  refine lv_aload_n zx zy dX3_close_0 rfl (lv_at hl 0 rfl) ?_
  refine fx_get (C := RX3) (T := TX3) (N := 5) hC (fun _ h => List.mem_cons_of_mem _ (List.mem_append_left _ (List.mem_append_right _ h))) hH 0 rfl rfl 0 (by decide) (by decide +kernel) rfl dX3_close_1 ?_
  refine lv_iload_n zx zy dX3_close_4 rfl (lv_at hl 1 rfl) ?_
  refine lv_iload_n zx zy dX3_close_5 rfl (lv_at hl 3 rfl) ?_
  refine lv_ineg zx zy dX3_close_6 ?_
  refine lv_iload zx zy dX3_close_7 (lv_at hl 4 rfl) ?_
  refine lv_imul zx zy dX3_close_9 ?_
  refine fx_cVv (n := 2) (As := [.int (nI w), .int ((-la) * fi)]) (b := r0) (rest := []) (fun (u : (Nat → Int32)) => [(h, .inr (3, [.ref r0, .ref r1, .ref r2, .ref r3, .int fa])), (r0, .inr (6, [.ref a0])), (a0, .inl (cI, 10, .inl u)), (r1, .inr (6, [.ref a1])), (a1, .inl (cI, 10, .inl f1)), (r2, .inr (6, [.ref a2])), (a2, .inl (cI, 10, .inl f2)), (r3, .inr (6, [.ref a3])), (a3, .inl (cI, 10, .inl f3))]) hC hA hH (k_X6_add l D cI cZ r0 a0 10 f0 (nI w) ((-la) * fi) (by first | assumption | omega)) [1, 2] [0, 3, 4, 5, 6, 7, 8] [0, 7, 8, 1, 2, 3, 4, 5, 6] [(h, .inr (3, [.ref r0, .ref r1, .ref r2, .ref r3, .int fa])), (r1, .inr (6, [.ref a1])), (a1, .inl (cI, 10, .inl f1)), (r2, .inr (6, [.ref a2])), (a2, .inl (cI, 10, .inl f2)), (r3, .inr (6, [.ref a3])), (a3, .inl (cI, 10, .inl f3))] rfl rfl (by decide) (by decide) (fun _ => rfl) rfl gX3_close_X6_add (by decide +kernel) ⟨Nat.le_of_ble_eq_true rfl, Nat.le_of_ble_eq_true rfl⟩ 0 rfl rfl rfl rfl rfl hl.1 (Nat.le_of_ble_eq_true rfl) ⟨Nat.le_of_ble_eq_true rfl, Nat.le_of_ble_eq_true rfl⟩ dX3_close_10 (fun u H locs hw10 hH => ?_)
  obtain ⟨u2, rfl⟩ : ∃ z, z = u := ⟨_, rfl⟩
  obtain rfl : u2 = rPut 10 f0 (nI w) (rAt 10 f0 (nI w) + ((-la) * fi)) := hw10
  have hH := (hH : fx_H zA zs.heap H locs D [(h, .inr (3, [.ref r0, .ref r1, .ref r2, .ref r3, .int fa])), (r0, .inr (6, [.ref a0])), (a0, .inl (cI, 10, .inl (rPut 10 f0 (nI w) (rAt 10 f0 (nI w) + ((-la) * fi))))), (r1, .inr (6, [.ref a1])), (a1, .inl (cI, 10, .inl f1)), (r2, .inr (6, [.ref a2])), (a2, .inl (cI, 10, .inl f2)), (r3, .inr (6, [.ref a3])), (a3, .inl (cI, 10, .inl f3))])
  rw [show (rPut 10 f0 (nI w) (rAt 10 f0 (nI w) + ((-la) * fi)) : Nat → Int32) = upd f0 w (f0 w + (-la) * fi) from rAdd_nI hw (by omega)] at hH
  refine lv_aload_n zx zy dX3_close_13 rfl (lv_at hl 0 rfl) ?_
  refine fx_get (C := RX3) (T := TX3) (N := 5) hC (fun _ h => List.mem_cons_of_mem _ (List.mem_append_left _ (List.mem_append_right _ h))) hH 0 rfl rfl 3 (by decide) (by decide +kernel) rfl dX3_close_14 ?_
  refine lv_iload_n zx zy dX3_close_17 rfl (lv_at hl 1 rfl) ?_
  refine lv_iload_n zx zy dX3_close_18 rfl (lv_at hl 3 rfl) ?_
  refine lv_iload zx zy dX3_close_19 (lv_at hl 4 rfl) ?_
  refine lv_imul zx zy dX3_close_21 ?_
  refine fx_cVv (n := 2) (As := [.int (nI w), .int (la * fi)]) (b := r3) (rest := []) (fun (u : (Nat → Int32)) => [(h, .inr (3, [.ref r0, .ref r1, .ref r2, .ref r3, .int fa])), (r0, .inr (6, [.ref a0])), (a0, .inl (cI, 10, .inl (upd f0 w (f0 w + (-la) * fi)))), (r1, .inr (6, [.ref a1])), (a1, .inl (cI, 10, .inl f1)), (r2, .inr (6, [.ref a2])), (a2, .inl (cI, 10, .inl f2)), (r3, .inr (6, [.ref a3])), (a3, .inl (cI, 10, .inl u))]) hC hA hH (k_X6_add l D cI cZ r3 a3 10 f3 (nI w) (la * fi) (by first | assumption | omega)) [7, 8] [0, 1, 2, 3, 4, 5, 6] [0, 1, 2, 3, 4, 5, 6, 7, 8] [(h, .inr (3, [.ref r0, .ref r1, .ref r2, .ref r3, .int fa])), (r0, .inr (6, [.ref a0])), (a0, .inl (cI, 10, .inl (upd f0 w (f0 w + (-la) * fi)))), (r1, .inr (6, [.ref a1])), (a1, .inl (cI, 10, .inl f1)), (r2, .inr (6, [.ref a2])), (a2, .inl (cI, 10, .inl f2))] rfl rfl (by decide) (by decide) (fun _ => rfl) rfl gX3_close_X6_add (by decide +kernel) ⟨Nat.le_of_ble_eq_true rfl, Nat.le_of_ble_eq_true rfl⟩ 0 rfl rfl rfl rfl rfl hl.1 (Nat.le_of_ble_eq_true rfl) ⟨Nat.le_of_ble_eq_true rfl, Nat.le_of_ble_eq_true rfl⟩ dX3_close_22 (fun u H locs hw22 hH => ?_)
  obtain ⟨u4, rfl⟩ : ∃ z, z = u := ⟨_, rfl⟩
  obtain rfl : u4 = rPut 10 f3 (nI w) (rAt 10 f3 (nI w) + (la * fi)) := hw22
  have hH := (hH : fx_H zA zs.heap H locs D [(h, .inr (3, [.ref r0, .ref r1, .ref r2, .ref r3, .int fa])), (r0, .inr (6, [.ref a0])), (a0, .inl (cI, 10, .inl (upd f0 w (f0 w + (-la) * fi)))), (r1, .inr (6, [.ref a1])), (a1, .inl (cI, 10, .inl f1)), (r2, .inr (6, [.ref a2])), (a2, .inl (cI, 10, .inl f2)), (r3, .inr (6, [.ref a3])), (a3, .inl (cI, 10, .inl (rPut 10 f3 (nI w) (rAt 10 f3 (nI w) + (la * fi)))))])
  rw [show (rPut 10 f3 (nI w) (rAt 10 f3 (nI w) + (la * fi)) : Nat → Int32) = upd f3 w (f3 w + la * fi) from rAdd_nI hw (by omega)] at hH
  refine lv_aload_n zx zy dX3_close_25 rfl (lv_at hl 0 rfl) ?_
  refine lv_dup zx zy dX3_close_26 rfl ?_
  refine fx_get (C := RX3) (T := TX3) (N := 5) hC (fun _ h => List.mem_cons_of_mem _ (List.mem_append_left _ (List.mem_append_right _ h))) hH 0 rfl rfl 4 (by decide) (by decide +kernel) rfl dX3_close_27 ?_
  refine lv_iload_n zx zy dX3_close_30 rfl (lv_at hl 3 rfl) ?_
  refine lv_iload zx zy dX3_close_31 (lv_at hl 4 rfl) ?_
  refine lv_imul zx zy dX3_close_33 ?_
  refine lv_iadd zx zy dX3_close_34 ?_
  refine fx_put (C := RX3) (T := TX3) (N := 5) (ty := .int) (ws2 := [(h, .inr (3, [.ref r0, .ref r1, .ref r2, .ref r3, .int (fa + (la * fi))])), (r0, .inr (6, [.ref a0])), (a0, .inl (cI, 10, .inl (upd f0 w (f0 w + (-la) * fi)))), (r1, .inr (6, [.ref a1])), (a1, .inl (cI, 10, .inl f1)), (r2, .inr (6, [.ref a2])), (a2, .inl (cI, 10, .inl f2)), (r3, .inr (6, [.ref a3])), (a3, .inl (cI, 10, .inl (upd f3 w (f3 w + la * fi))))]) hC (fun _ h => List.mem_cons_of_mem _ (List.mem_append_left _ (List.mem_append_right _ h))) tyX3_ok nmX3 hH 0 rfl rfl 4 (by decide) (by decide +kernel) rfl rfl rfl rfl (Nat.le_of_ble_eq_true rfl) rfl dX3_close_35 (fun H locs hH => ?_)
  refine lv_aload_n zx zy dX3_close_38 rfl (lv_at hl 0 rfl) ?_
  refine fx_get (C := RX3) (T := TX3) (N := 5) hC (fun _ h => List.mem_cons_of_mem _ (List.mem_append_left _ (List.mem_append_right _ h))) hH 0 rfl rfl 2 (by decide) (by decide +kernel) rfl dX3_close_39 ?_
  refine lv_iload_n zx zy dX3_close_42 rfl (lv_at hl 1 rfl) ?_
  refine lv_iload_n zx zy dX3_close_43 rfl (lv_at hl 2 rfl) ?_
  refine fx_cVv (n := 2) (As := [.int (nI w), .int us]) (b := r2) (rest := []) (fun (u : (Nat → Int32)) => [(h, .inr (3, [.ref r0, .ref r1, .ref r2, .ref r3, .int (fa + (la * fi))])), (r0, .inr (6, [.ref a0])), (a0, .inl (cI, 10, .inl (upd f0 w (f0 w + (-la) * fi)))), (r1, .inr (6, [.ref a1])), (a1, .inl (cI, 10, .inl f1)), (r2, .inr (6, [.ref a2])), (a2, .inl (cI, 10, .inl u)), (r3, .inr (6, [.ref a3])), (a3, .inl (cI, 10, .inl (upd f3 w (f3 w + la * fi))))]) hC hA hH (k_X6_add l D cI cZ r2 a2 10 f2 (nI w) us (by first | assumption | omega)) [5, 6] [0, 1, 2, 3, 4, 7, 8] [0, 1, 2, 3, 4, 7, 8, 5, 6] [(h, .inr (3, [.ref r0, .ref r1, .ref r2, .ref r3, .int (fa + (la * fi))])), (r0, .inr (6, [.ref a0])), (a0, .inl (cI, 10, .inl (upd f0 w (f0 w + (-la) * fi)))), (r1, .inr (6, [.ref a1])), (a1, .inl (cI, 10, .inl f1)), (r3, .inr (6, [.ref a3])), (a3, .inl (cI, 10, .inl (upd f3 w (f3 w + la * fi))))] rfl rfl (by decide) (by decide) (fun _ => rfl) rfl gX3_close_X6_add (by decide +kernel) ⟨Nat.le_of_ble_eq_true rfl, Nat.le_of_ble_eq_true rfl⟩ 0 rfl rfl rfl rfl rfl hl.1 (Nat.le_of_ble_eq_true rfl) ⟨Nat.le_of_ble_eq_true rfl, Nat.le_of_ble_eq_true rfl⟩ dX3_close_44 (fun u H locs hw44 hH => ?_)
  obtain ⟨u6, rfl⟩ : ∃ z, z = u := ⟨_, rfl⟩
  obtain rfl : u6 = rPut 10 f2 (nI w) (rAt 10 f2 (nI w) + us) := hw44
  have hH := (hH : fx_H zA zs.heap H locs D [(h, .inr (3, [.ref r0, .ref r1, .ref r2, .ref r3, .int (fa + (la * fi))])), (r0, .inr (6, [.ref a0])), (a0, .inl (cI, 10, .inl (upd f0 w (f0 w + (-la) * fi)))), (r1, .inr (6, [.ref a1])), (a1, .inl (cI, 10, .inl f1)), (r2, .inr (6, [.ref a2])), (a2, .inl (cI, 10, .inl (rPut 10 f2 (nI w) (rAt 10 f2 (nI w) + us)))), (r3, .inr (6, [.ref a3])), (a3, .inl (cI, 10, .inl (upd f3 w (f3 w + la * fi))))])
  rw [show (rPut 10 f2 (nI w) (rAt 10 f2 (nI w) + us) : Nat → Int32) = upd f2 w (f2 w + us) from rAdd_nI hw (by omega)] at hH
  refine lv_aload_n zx zy dX3_close_47 rfl (lv_at hl 0 rfl) ?_
  refine fx_get (C := RX3) (T := TX3) (N := 5) hC (fun _ h => List.mem_cons_of_mem _ (List.mem_append_left _ (List.mem_append_right _ h))) hH 0 rfl rfl 1 (by decide) (by decide +kernel) rfl dX3_close_48 ?_
  refine lv_iload_n zx zy dX3_close_51 rfl (lv_at hl 1 rfl) ?_
  refine lv_iload_n zx zy dX3_close_52 rfl (lv_at hl 3 rfl) ?_
  refine fx_cVv (n := 2) (As := [.int (nI w), .int la]) (b := r1) (rest := []) (fun (u : (Nat → Int32)) => [(h, .inr (3, [.ref r0, .ref r1, .ref r2, .ref r3, .int (fa + (la * fi))])), (r0, .inr (6, [.ref a0])), (a0, .inl (cI, 10, .inl (upd f0 w (f0 w + (-la) * fi)))), (r1, .inr (6, [.ref a1])), (a1, .inl (cI, 10, .inl u)), (r2, .inr (6, [.ref a2])), (a2, .inl (cI, 10, .inl (upd f2 w (f2 w + us)))), (r3, .inr (6, [.ref a3])), (a3, .inl (cI, 10, .inl (upd f3 w (f3 w + la * fi))))]) hC hA hH (k_X6_put l D cI cZ r1 a1 10 f1 (nI w) la (by first | assumption | omega)) [3, 4] [0, 1, 2, 5, 6, 7, 8] [0, 1, 2, 7, 8, 3, 4, 5, 6] [(h, .inr (3, [.ref r0, .ref r1, .ref r2, .ref r3, .int (fa + (la * fi))])), (r0, .inr (6, [.ref a0])), (a0, .inl (cI, 10, .inl (upd f0 w (f0 w + (-la) * fi)))), (r2, .inr (6, [.ref a2])), (a2, .inl (cI, 10, .inl (upd f2 w (f2 w + us)))), (r3, .inr (6, [.ref a3])), (a3, .inl (cI, 10, .inl (upd f3 w (f3 w + la * fi))))] rfl rfl (by decide) (by decide) (fun _ => rfl) rfl gX3_close_X6_put (by decide +kernel) ⟨Nat.le_of_ble_eq_true rfl, Nat.le_of_ble_eq_true rfl⟩ 0 rfl rfl rfl rfl rfl hl.1 (Nat.le_of_ble_eq_true rfl) ⟨Nat.le_of_ble_eq_true rfl, Nat.le_of_ble_eq_true rfl⟩ dX3_close_53 (fun u H locs hw53 hH => ?_)
  obtain ⟨u8, rfl⟩ : ∃ z, z = u := ⟨_, rfl⟩
  obtain rfl : u8 = rPut 10 f1 (nI w) la := hw53
  have hH := (hH : fx_H zA zs.heap H locs D [(h, .inr (3, [.ref r0, .ref r1, .ref r2, .ref r3, .int (fa + (la * fi))])), (r0, .inr (6, [.ref a0])), (a0, .inl (cI, 10, .inl (upd f0 w (f0 w + (-la) * fi)))), (r1, .inr (6, [.ref a1])), (a1, .inl (cI, 10, .inl (rPut 10 f1 (nI w) la))), (r2, .inr (6, [.ref a2])), (a2, .inl (cI, 10, .inl (upd f2 w (f2 w + us)))), (r3, .inr (6, [.ref a3])), (a3, .inl (cI, 10, .inl (upd f3 w (f3 w + la * fi))))])
  rw [show (rPut 10 f1 (nI w) la : Nat → Int32) = upd f1 w la from rPut_nI hw (by omega)] at hH
  exact fx_vret hQ hC hr hlk hH dX3_close_56 (Nat.le_of_ble_eq_true rfl) (Nat.le_of_ble_eq_true rfl) ((upd f0 w (f0 w + (-la) * fi), upd f1 w la, upd f2 w (f2 w + us), upd f3 w (f3 w + la * fi), fa + (la * fi))) rfl (⟨rfl, rfl, rfl, rfl, rfl⟩)
set_option maxHeartbeats 4000000 in
set_option maxRecDepth 100000 in
theorem k_X3_debtOf (l : Launch) (D : va_G) (cI cZ : ClassId) (h : Nat) (r0 : Nat) (r1 : Nat) (r2 : Nat) (r3 : Nat) (fa : Int32) (a1 : Nat) (f1 : Nat → Int32) (w : Nat) (hw : w < 10) : fx_CI l D cI cZ yX3_debtOf wsX3_debtOf ({ frames := 1, cells := 0, slots := 0, locals := 21 }) [.ref h, .int (nI w)] [(h, .inr (3, [.ref r0, .ref r1, .ref r2, .ref r3, .int fa])), (r1, .inr (6, [.ref a1])), (a1, .inl (cI, 10, .inl f1))] (fun (u : Unit) => [(h, .inr (3, [.ref r0, .ref r1, .ref r2, .ref r3, .int fa])), (r1, .inr (6, [.ref a1])), (a1, .inl (cI, 10, .inl f1))]) (fun (r : Int32) (u : Unit) => r = f1 w) := by
  refine fx_CI.of (ws' := (wsX3_debtOf).tail) cX3_debtOf 2 (by decide) rfl (Nat.le_of_ble_eq_true rfl) ?_
  intro zp ze zs zm za zb zt zc zA ls zQ hQ hC hr hlk hA hH hl
  have zx := hC.1.1
  have zy := hC.1.2.1
  have hl : lv_has ls 2 [(0, .ref h), (1, .int (nI w))] := hl
  refine lv_aload_n zx zy dX3_debtOf_0 rfl (lv_at hl 0 rfl) ?_
  refine fx_get (C := RX3) (T := TX3) (N := 5) hC (fun _ h => List.mem_cons_of_mem _ (List.mem_append_left _ (List.mem_append_right _ h))) hH 0 rfl rfl 1 (by decide) (by decide +kernel) rfl dX3_debtOf_1 ?_
  refine lv_iload_n zx zy dX3_debtOf_4 rfl (lv_at hl 1 rfl) ?_
  refine fx_cVi (n := 1) (As := [.int (nI w)]) (b := r1) (rest := []) (fun (u : Unit) => [(h, .inr (3, [.ref r0, .ref r1, .ref r2, .ref r3, .int fa])), (r1, .inr (6, [.ref a1])), (a1, .inl (cI, 10, .inl f1))]) hC hA hH (k_X6_at l D cI cZ r1 a1 10 f1 (nI w) (by first | assumption | omega)) [1, 2] [0] [0, 1, 2] [(h, .inr (3, [.ref r0, .ref r1, .ref r2, .ref r3, .int fa]))] rfl rfl (by decide) (by decide) (fun _ => rfl) rfl gX3_debtOf_X6_at (by decide +kernel) ⟨Nat.le_of_ble_eq_true rfl, Nat.le_of_ble_eq_true rfl⟩ 0 rfl rfl rfl rfl rfl hl.1 (Nat.le_of_ble_eq_true rfl) ⟨Nat.le_of_ble_eq_true rfl, Nat.le_of_ble_eq_true rfl⟩ dX3_debtOf_5 (fun r1 u H locs hw5 hH => ?_)
  obtain rfl : r1 = rAt 10 f1 (nI w) := hw5
  have hH := (hH : fx_H zA zs.heap H locs D [(h, .inr (3, [.ref r0, .ref r1, .ref r2, .ref r3, .int fa])), (r1, .inr (6, [.ref a1])), (a1, .inl (cI, 10, .inl f1))])
  refine lv_topi (fun v2 ev2 => ?_)
  obtain rfl : v2 = f1 w := ev2.trans (rAt_nI hw (by omega))
  exact fx_iret (v := f1 w) hQ hC hr hlk hH dX3_debtOf_8 rfl (Nat.le_of_ble_eq_true rfl) (Nat.le_of_ble_eq_true rfl) (()) rfl (rfl)
set_option maxHeartbeats 4000000 in
set_option maxRecDepth 100000 in
theorem k_X3_allFines (l : Launch) (D : va_G) (cI cZ : ClassId) (h : Nat) (r0 : Nat) (r1 : Nat) (r2 : Nat) (r3 : Nat) (fa : Int32) : fx_CI l D cI cZ yX3_allFines wsX3_allFines ({ frames := 0, cells := 0, slots := 0, locals := 0 }) [.ref h] [(h, .inr (3, [.ref r0, .ref r1, .ref r2, .ref r3, .int fa]))] (fun (u : Unit) => [(h, .inr (3, [.ref r0, .ref r1, .ref r2, .ref r3, .int fa]))]) (fun (r : Int32) (u : Unit) => r = fa) := by
  refine fx_CI.of (ws' := (wsX3_allFines).tail) cX3_allFines 1 (by decide) rfl (Nat.le_of_ble_eq_true rfl) ?_
  intro zp ze zs zm za zb zt zc zA ls zQ hQ hC hr hlk hA hH hl
  have zx := hC.1.1
  have zy := hC.1.2.1
  have hl : lv_has ls 1 [(0, .ref h)] := hl
  refine lv_aload_n zx zy dX3_allFines_0 rfl (lv_at hl 0 rfl) ?_
  refine fx_get (C := RX3) (T := TX3) (N := 5) hC (fun _ h => List.mem_cons_of_mem _ (List.mem_append_right _ h)) hH 0 rfl rfl 4 (by decide) (by decide +kernel) rfl dX3_allFines_1 ?_
  exact fx_iret (v := fa) hQ hC hr hlk hH dX3_allFines_4 rfl (Nat.le_of_ble_eq_true rfl) (Nat.le_of_ble_eq_true rfl) (()) rfl (rfl)
set_option maxHeartbeats 4000000 in
set_option maxRecDepth 100000 in
theorem k_X3_fact (l : Launch) (D : va_G) (cI cZ : ClassId) (h : Nat) (r0 : Nat) (r1 : Nat) (r2 : Nat) (r3 : Nat) (fa : Int32) (a0 : Nat) (a1 : Nat) (a2 : Nat) (a3 : Nat) (f0 : Nat → Int32) (f1 : Nat → Int32) (f2 : Nat → Int32) (f3 : Nat → Int32) (w : Nat) (t : Int32) (hw : w < 10) : fx_CI l D cI cZ yX3_fact wsX3_fact ({ frames := 1, cells := 0, slots := 0, locals := 21 }) [.ref h, .int (nI w), .int t] [(h, .inr (3, [.ref r0, .ref r1, .ref r2, .ref r3, .int fa])), (r0, .inr (6, [.ref a0])), (a0, .inl (cI, 10, .inl f0)), (r1, .inr (6, [.ref a1])), (a1, .inl (cI, 10, .inl f1)), (r2, .inr (6, [.ref a2])), (a2, .inl (cI, 10, .inl f2)), (r3, .inr (6, [.ref a3])), (a3, .inl (cI, 10, .inl f3))] (fun (u : Unit) => [(h, .inr (3, [.ref r0, .ref r1, .ref r2, .ref r3, .int fa])), (r0, .inr (6, [.ref a0])), (a0, .inl (cI, 10, .inl f0)), (r1, .inr (6, [.ref a1])), (a1, .inl (cI, 10, .inl f1)), (r2, .inr (6, [.ref a2])), (a2, .inl (cI, 10, .inl f2)), (r3, .inr (6, [.ref a3])), (a3, .inl (cI, 10, .inl f3))]) (fun (r : Int32) (u : Unit) => r = lgF (f0 w) (f1 w) (f2 w) (f3 w) t) := by
  refine fx_CI.of (ws' := (wsX3_fact).tail) cX3_fact 3 (by decide) rfl (Nat.le_of_ble_eq_true rfl) ?_
  intro zp ze zs zm za zb zt zc zA ls zQ hQ hC hr hlk hA hH hl
  have zx := hC.1.1
  have zy := hC.1.2.1
  have hl : lv_has ls 3 [(0, .ref h), (1, .int (nI w)), (2, .int t)] := hl
  refine lv_iload_n zx zy dX3_fact_0 rfl (lv_at hl 2 rfl) ?_
  by_cases t1_0 : t = 0
  · refine lv_tableIn (off := 35) (tgt := 36) zx zy dX3_fact_1 (by rw [t1_0]; decide) (by rw [t1_0]; decide) (by rw [t1_0]; rfl) (by decide) ?_
    refine lv_aload_n zx zy dX3_fact_36 rfl (lv_at hl 0 rfl) ?_
    refine fx_get (C := RX3) (T := TX3) (N := 5) hC (fun _ h => List.mem_cons_of_mem _ (List.mem_append_left _ (List.mem_append_right _ h))) hH 0 rfl rfl 0 (by decide) (by decide +kernel) rfl dX3_fact_37 ?_
    refine lv_iload_n zx zy dX3_fact_40 rfl (lv_at hl 1 rfl) ?_
    refine fx_cVi (n := 1) (As := [.int (nI w)]) (b := r0) (rest := []) (fun (u : Unit) => [(h, .inr (3, [.ref r0, .ref r1, .ref r2, .ref r3, .int fa])), (r0, .inr (6, [.ref a0])), (a0, .inl (cI, 10, .inl f0)), (r1, .inr (6, [.ref a1])), (a1, .inl (cI, 10, .inl f1)), (r2, .inr (6, [.ref a2])), (a2, .inl (cI, 10, .inl f2)), (r3, .inr (6, [.ref a3])), (a3, .inl (cI, 10, .inl f3))]) hC hA hH (k_X6_at l D cI cZ r0 a0 10 f0 (nI w) (by first | assumption | omega)) [1, 2] [0, 3, 4, 5, 6, 7, 8] [0, 7, 8, 1, 2, 3, 4, 5, 6] [(h, .inr (3, [.ref r0, .ref r1, .ref r2, .ref r3, .int fa])), (r1, .inr (6, [.ref a1])), (a1, .inl (cI, 10, .inl f1)), (r2, .inr (6, [.ref a2])), (a2, .inl (cI, 10, .inl f2)), (r3, .inr (6, [.ref a3])), (a3, .inl (cI, 10, .inl f3))] rfl rfl (by decide) (by decide) (fun _ => rfl) rfl gX3_fact_X6_at (by decide +kernel) ⟨Nat.le_of_ble_eq_true rfl, Nat.le_of_ble_eq_true rfl⟩ 0 rfl rfl rfl rfl rfl hl.1 (Nat.le_of_ble_eq_true rfl) ⟨Nat.le_of_ble_eq_true rfl, Nat.le_of_ble_eq_true rfl⟩ dX3_fact_41 (fun r1 u H locs hw41 hH => ?_)
    obtain rfl : r1 = rAt 10 f0 (nI w) := hw41
    have hH := (hH : fx_H zA zs.heap H locs D [(h, .inr (3, [.ref r0, .ref r1, .ref r2, .ref r3, .int fa])), (r0, .inr (6, [.ref a0])), (a0, .inl (cI, 10, .inl f0)), (r1, .inr (6, [.ref a1])), (a1, .inl (cI, 10, .inl f1)), (r2, .inr (6, [.ref a2])), (a2, .inl (cI, 10, .inl f2)), (r3, .inr (6, [.ref a3])), (a3, .inl (cI, 10, .inl f3))])
    refine lv_topi (fun v2 ev2 => ?_)
    obtain rfl : v2 = f0 w := ev2.trans (rAt_nI hw (by omega))
    exact fx_iret (v := f0 w) hQ hC hr hlk hH dX3_fact_44 rfl (Nat.le_of_ble_eq_true rfl) (Nat.le_of_ble_eq_true rfl) (()) rfl (by rw [t1_0]; rfl)
  by_cases t1_1 : t = 1
  · refine lv_tableIn (off := 44) (tgt := 45) zx zy dX3_fact_1 (by rw [t1_1]; decide) (by rw [t1_1]; decide) (by rw [t1_1]; rfl) (by decide) ?_
    refine lv_aload_n zx zy dX3_fact_45 rfl (lv_at hl 0 rfl) ?_
    refine fx_get (C := RX3) (T := TX3) (N := 5) hC (fun _ h => List.mem_cons_of_mem _ (List.mem_append_left _ (List.mem_append_right _ h))) hH 0 rfl rfl 1 (by decide) (by decide +kernel) rfl dX3_fact_46 ?_
    refine lv_iload_n zx zy dX3_fact_49 rfl (lv_at hl 1 rfl) ?_
    refine fx_cVi (n := 1) (As := [.int (nI w)]) (b := r1) (rest := []) (fun (u : Unit) => [(h, .inr (3, [.ref r0, .ref r1, .ref r2, .ref r3, .int fa])), (r0, .inr (6, [.ref a0])), (a0, .inl (cI, 10, .inl f0)), (r1, .inr (6, [.ref a1])), (a1, .inl (cI, 10, .inl f1)), (r2, .inr (6, [.ref a2])), (a2, .inl (cI, 10, .inl f2)), (r3, .inr (6, [.ref a3])), (a3, .inl (cI, 10, .inl f3))]) hC hA hH (k_X6_at l D cI cZ r1 a1 10 f1 (nI w) (by first | assumption | omega)) [3, 4] [0, 1, 2, 5, 6, 7, 8] [0, 1, 2, 7, 8, 3, 4, 5, 6] [(h, .inr (3, [.ref r0, .ref r1, .ref r2, .ref r3, .int fa])), (r0, .inr (6, [.ref a0])), (a0, .inl (cI, 10, .inl f0)), (r2, .inr (6, [.ref a2])), (a2, .inl (cI, 10, .inl f2)), (r3, .inr (6, [.ref a3])), (a3, .inl (cI, 10, .inl f3))] rfl rfl (by decide) (by decide) (fun _ => rfl) rfl gX3_fact_X6_at (by decide +kernel) ⟨Nat.le_of_ble_eq_true rfl, Nat.le_of_ble_eq_true rfl⟩ 0 rfl rfl rfl rfl rfl hl.1 (Nat.le_of_ble_eq_true rfl) ⟨Nat.le_of_ble_eq_true rfl, Nat.le_of_ble_eq_true rfl⟩ dX3_fact_50 (fun r3 u H locs hw50 hH => ?_)
    obtain rfl : r3 = rAt 10 f1 (nI w) := hw50
    have hH := (hH : fx_H zA zs.heap H locs D [(h, .inr (3, [.ref r0, .ref r1, .ref r2, .ref r3, .int fa])), (r0, .inr (6, [.ref a0])), (a0, .inl (cI, 10, .inl f0)), (r1, .inr (6, [.ref a1])), (a1, .inl (cI, 10, .inl f1)), (r2, .inr (6, [.ref a2])), (a2, .inl (cI, 10, .inl f2)), (r3, .inr (6, [.ref a3])), (a3, .inl (cI, 10, .inl f3))])
    refine lv_topi (fun v4 ev4 => ?_)
    obtain rfl : v4 = f1 w := ev4.trans (rAt_nI hw (by omega))
    exact fx_iret (v := f1 w) hQ hC hr hlk hH dX3_fact_53 rfl (Nat.le_of_ble_eq_true rfl) (Nat.le_of_ble_eq_true rfl) (()) rfl (by rw [t1_1]; rfl)
  by_cases t1_2 : t = 2
  · refine lv_tableIn (off := 71) (tgt := 72) zx zy dX3_fact_1 (by rw [t1_2]; decide) (by rw [t1_2]; decide) (by rw [t1_2]; rfl) (by decide) ?_
    refine lv_ldc (own := RX3) (v := (-2147483648)) zx zy hC.1.2.2.2.1 (hC.1.2.2.2.2 _ (by decide +kernel)) dX3_fact_72 ?_
    exact fx_iret (v := (-2147483648)) hQ hC hr hlk hH dX3_fact_74 rfl (Nat.le_of_ble_eq_true rfl) (Nat.le_of_ble_eq_true rfl) (()) rfl (by first | (rw [t1_2]; rfl) | exact (lgF_else t1_0 t1_1 t1_3 t1_4).symm)
  by_cases t1_3 : t = 3
  · refine lv_tableIn (off := 53) (tgt := 54) zx zy dX3_fact_1 (by rw [t1_3]; decide) (by rw [t1_3]; decide) (by rw [t1_3]; rfl) (by decide) ?_
    refine lv_aload_n zx zy dX3_fact_54 rfl (lv_at hl 0 rfl) ?_
    refine fx_get (C := RX3) (T := TX3) (N := 5) hC (fun _ h => List.mem_cons_of_mem _ (List.mem_append_left _ (List.mem_append_right _ h))) hH 0 rfl rfl 2 (by decide) (by decide +kernel) rfl dX3_fact_55 ?_
    refine lv_iload_n zx zy dX3_fact_58 rfl (lv_at hl 1 rfl) ?_
    refine fx_cVi (n := 1) (As := [.int (nI w)]) (b := r2) (rest := []) (fun (u : Unit) => [(h, .inr (3, [.ref r0, .ref r1, .ref r2, .ref r3, .int fa])), (r0, .inr (6, [.ref a0])), (a0, .inl (cI, 10, .inl f0)), (r1, .inr (6, [.ref a1])), (a1, .inl (cI, 10, .inl f1)), (r2, .inr (6, [.ref a2])), (a2, .inl (cI, 10, .inl f2)), (r3, .inr (6, [.ref a3])), (a3, .inl (cI, 10, .inl f3))]) hC hA hH (k_X6_at l D cI cZ r2 a2 10 f2 (nI w) (by first | assumption | omega)) [5, 6] [0, 1, 2, 3, 4, 7, 8] [0, 1, 2, 3, 4, 7, 8, 5, 6] [(h, .inr (3, [.ref r0, .ref r1, .ref r2, .ref r3, .int fa])), (r0, .inr (6, [.ref a0])), (a0, .inl (cI, 10, .inl f0)), (r1, .inr (6, [.ref a1])), (a1, .inl (cI, 10, .inl f1)), (r3, .inr (6, [.ref a3])), (a3, .inl (cI, 10, .inl f3))] rfl rfl (by decide) (by decide) (fun _ => rfl) rfl gX3_fact_X6_at (by decide +kernel) ⟨Nat.le_of_ble_eq_true rfl, Nat.le_of_ble_eq_true rfl⟩ 0 rfl rfl rfl rfl rfl hl.1 (Nat.le_of_ble_eq_true rfl) ⟨Nat.le_of_ble_eq_true rfl, Nat.le_of_ble_eq_true rfl⟩ dX3_fact_59 (fun r5 u H locs hw59 hH => ?_)
    obtain rfl : r5 = rAt 10 f2 (nI w) := hw59
    have hH := (hH : fx_H zA zs.heap H locs D [(h, .inr (3, [.ref r0, .ref r1, .ref r2, .ref r3, .int fa])), (r0, .inr (6, [.ref a0])), (a0, .inl (cI, 10, .inl f0)), (r1, .inr (6, [.ref a1])), (a1, .inl (cI, 10, .inl f1)), (r2, .inr (6, [.ref a2])), (a2, .inl (cI, 10, .inl f2)), (r3, .inr (6, [.ref a3])), (a3, .inl (cI, 10, .inl f3))])
    refine lv_topi (fun v6 ev6 => ?_)
    obtain rfl : v6 = f2 w := ev6.trans (rAt_nI hw (by omega))
    exact fx_iret (v := f2 w) hQ hC hr hlk hH dX3_fact_62 rfl (Nat.le_of_ble_eq_true rfl) (Nat.le_of_ble_eq_true rfl) (()) rfl (by rw [t1_3]; rfl)
  by_cases t1_4 : t = 4
  · refine lv_tableIn (off := 62) (tgt := 63) zx zy dX3_fact_1 (by rw [t1_4]; decide) (by rw [t1_4]; decide) (by rw [t1_4]; rfl) (by decide) ?_
    refine lv_aload_n zx zy dX3_fact_63 rfl (lv_at hl 0 rfl) ?_
    refine fx_get (C := RX3) (T := TX3) (N := 5) hC (fun _ h => List.mem_cons_of_mem _ (List.mem_append_left _ (List.mem_append_right _ h))) hH 0 rfl rfl 3 (by decide) (by decide +kernel) rfl dX3_fact_64 ?_
    refine lv_iload_n zx zy dX3_fact_67 rfl (lv_at hl 1 rfl) ?_
    refine fx_cVi (n := 1) (As := [.int (nI w)]) (b := r3) (rest := []) (fun (u : Unit) => [(h, .inr (3, [.ref r0, .ref r1, .ref r2, .ref r3, .int fa])), (r0, .inr (6, [.ref a0])), (a0, .inl (cI, 10, .inl f0)), (r1, .inr (6, [.ref a1])), (a1, .inl (cI, 10, .inl f1)), (r2, .inr (6, [.ref a2])), (a2, .inl (cI, 10, .inl f2)), (r3, .inr (6, [.ref a3])), (a3, .inl (cI, 10, .inl f3))]) hC hA hH (k_X6_at l D cI cZ r3 a3 10 f3 (nI w) (by first | assumption | omega)) [7, 8] [0, 1, 2, 3, 4, 5, 6] [0, 1, 2, 3, 4, 5, 6, 7, 8] [(h, .inr (3, [.ref r0, .ref r1, .ref r2, .ref r3, .int fa])), (r0, .inr (6, [.ref a0])), (a0, .inl (cI, 10, .inl f0)), (r1, .inr (6, [.ref a1])), (a1, .inl (cI, 10, .inl f1)), (r2, .inr (6, [.ref a2])), (a2, .inl (cI, 10, .inl f2))] rfl rfl (by decide) (by decide) (fun _ => rfl) rfl gX3_fact_X6_at (by decide +kernel) ⟨Nat.le_of_ble_eq_true rfl, Nat.le_of_ble_eq_true rfl⟩ 0 rfl rfl rfl rfl rfl hl.1 (Nat.le_of_ble_eq_true rfl) ⟨Nat.le_of_ble_eq_true rfl, Nat.le_of_ble_eq_true rfl⟩ dX3_fact_68 (fun r7 u H locs hw68 hH => ?_)
    obtain rfl : r7 = rAt 10 f3 (nI w) := hw68
    have hH := (hH : fx_H zA zs.heap H locs D [(h, .inr (3, [.ref r0, .ref r1, .ref r2, .ref r3, .int fa])), (r0, .inr (6, [.ref a0])), (a0, .inl (cI, 10, .inl f0)), (r1, .inr (6, [.ref a1])), (a1, .inl (cI, 10, .inl f1)), (r2, .inr (6, [.ref a2])), (a2, .inl (cI, 10, .inl f2)), (r3, .inr (6, [.ref a3])), (a3, .inl (cI, 10, .inl f3))])
    refine lv_topi (fun v8 ev8 => ?_)
    obtain rfl : v8 = f3 w := ev8.trans (rAt_nI hw (by omega))
    exact fx_iret (v := f3 w) hQ hC hr hlk hH dX3_fact_71 rfl (Nat.le_of_ble_eq_true rfl) (Nat.le_of_ble_eq_true rfl) (()) rfl (by rw [t1_4]; rfl)
  refine lv_tableOut (tgt := 72) zx zy dX3_fact_1 (by have n0 := lv_neT (a := 0) t1_0 rfl; have n1 := lv_neT (a := 1) t1_1 rfl; have n2 := lv_neT (a := 2) t1_2 rfl; have n3 := lv_neT (a := 3) t1_3 rfl; have n4 := lv_neT (a := 4) t1_4 rfl; omega) (by decide) ?_
  refine lv_ldc (own := RX3) (v := (-2147483648)) zx zy hC.1.2.2.2.1 (hC.1.2.2.2.2 _ (by decide +kernel)) dX3_fact_72 ?_
  exact fx_iret (v := (-2147483648)) hQ hC hr hlk hH dX3_fact_74 rfl (Nat.le_of_ble_eq_true rfl) (Nat.le_of_ble_eq_true rfl) (()) rfl (by first | (rw [t1_2]; rfl) | exact (lgF_else t1_0 t1_1 t1_3 t1_4).symm)
end
section
/-- where a bid of price x comes to stand among the first k -/
def enP (f : Nat → Int32) (x : Int32) : Nat → Nat
  | 0 => 0
  | p + 1 => if x ≤ f p then p + 1 else enP f x p
theorem enP_le (f : Nat → Int32) (x : Int32) : ∀ k, enP f x k ≤ k
  | 0 => Nat.le_refl _
  | k + 1 => by
    have := enP_le f x k
    unfold enP
    split <;> omega
theorem enP_s {f : Nat → Int32} {x : Int32} {p : Nat} (hp : 0 < p) (h : ¬ x ≤ f (p - 1)) : enP f x p = enP f x (p - 1) := by
  obtain ⟨q, rfl⟩ : ∃ q, p = q + 1 := ⟨p - 1, by omega⟩
  exact if_neg h
theorem enP_e {f : Nat → Int32} {x : Int32} {p : Nat} (hp : 0 < p) (h : x ≤ f (p - 1)) : enP f x p = p := by
  obtain ⟨q, rfl⟩ : ∃ q, p = q + 1 := ⟨p - 1, by omega⟩
  exact if_pos h
theorem fx_pos_of {p : Nat} (h : ¬ nI p ≤ 0) (hp : p < 2 ^ 31) : 0 < p := by
  rcases Nat.eq_zero_or_pos p with e | e
  · exact absurd (by rw [e]; decide) h
  · exact e
theorem fx_zero_of {p : Nat} (h : nI p ≤ 0) (hp : p < 2 ^ 31) : p = 0 := Nat.le_zero.mp (fx_le_of (b := 0) h (by omega) hp)
set_option maxHeartbeats 4000000 in
set_option maxRecDepth 100000 in
theorem k_X1_areFull (l : Launch) (D : va_G) (cI cZ : ClassId) (h : Nat) (r0 : Nat) (r1 : Nat) (r2 : Nat) (r3 : Nat) (k : Nat) (hk : k ≤ 40) : fx_CI l D cI cZ yX1_areFull wsX1_areFull ({ frames := 0, cells := 0, slots := 0, locals := 0 }) [.ref h] [(h, .inr (1, [.ref r0, .ref r1, .ref r2, .ref r3, .int (nI k)]))] (fun (u : Unit) => [(h, .inr (1, [.ref r0, .ref r1, .ref r2, .ref r3, .int (nI k)]))]) (fun (r : Int32) (u : Unit) => ((¬ k < 40) ∧ r = 1) ∨ ((k < 40) ∧ r = 0)) := by
  refine fx_CI.of (ws' := (wsX1_areFull).tail) cX1_areFull 1 (by decide) rfl (Nat.le_of_ble_eq_true rfl) ?_
  intro zp ze zs zm za zb zt zc zA ls zQ hQ hC hr hlk hA hH hl
  have zx := hC.1.1
  have zy := hC.1.2.1
  have hl : lv_has ls 1 [(0, .ref h)] := hl
  refine lv_aload_n zx zy dX1_areFull_0 rfl (lv_at hl 0 rfl) ?_
  refine fx_get (C := RX1) (T := TX1) (N := 5) hC (fun _ h => List.mem_cons_of_mem _ (List.mem_append_right _ h)) hH 0 rfl rfl 4 (by decide) (by decide +kernel) rfl dX1_areFull_1 ?_
  refine lv_bipush (v := 40) zx zy dX1_areFull_4 (by decide) ?_
  refine lv_icmp_lt (tgt := 13) zx zy dX1_areFull_6 (by decide) (fun c6 => ?_) (fun c6 => ?_)
  · skip
    refine lv_iconst (v := 0) zx zy dX1_areFull_13 (by decide) ?_
    exact fx_iret (v := 0) hQ hC hr hlk hH dX1_areFull_14 rfl (Nat.le_of_ble_eq_true rfl) (Nat.le_of_ble_eq_true rfl) (()) rfl (by first | exact Or.inl ⟨fun h => c6 (nI_lt (b := 40) h (by omega)), rfl⟩ | exact Or.inr ⟨(nI_ltI (b := 40) (by omega) (by omega)).mp c6, rfl⟩)
  · skip
    refine lv_iconst (v := 1) zx zy dX1_areFull_9 (by decide) ?_
    refine lv_goto (tgt := 14) zx zy dX1_areFull_10 (by decide) ?_
    exact fx_iret (v := 1) hQ hC hr hlk hH dX1_areFull_14 rfl (Nat.le_of_ble_eq_true rfl) (Nat.le_of_ble_eq_true rfl) (()) rfl (by first | exact Or.inl ⟨fun h => c6 (nI_lt (b := 40) h (by omega)), rfl⟩ | exact Or.inr ⟨(nI_ltI (b := 40) (by omega) (by omega)).mp c6, rfl⟩)
set_option maxHeartbeats 4000000 in
set_option maxRecDepth 100000 in
theorem k_X1_enter (l : Launch) (D : va_G) (cI cZ : ClassId) (h : Nat) (r0 : Nat) (r1 : Nat) (r2 : Nat) (r3 : Nat) (k : Nat) (a0 : Nat) (a1 : Nat) (a2 : Nat) (a3 : Nat) (f0 : Nat → Int32) (f1 : Nat → Int32) (f2 : Nat → Int32) (f3 : Nat → Int32) (w : Int32) (n : Int32) (x : Int32) (hk : k < 40) : fx_CI l D cI cZ yX1_enter wsX1_enter ({ frames := 2, cells := 0, slots := 0, locals := 46 }) [.ref h, .int w, .int n, .int x] [(h, .inr (1, [.ref r0, .ref r1, .ref r2, .ref r3, .int (nI k)])), (r0, .inr (6, [.ref a0])), (a0, .inl (cI, 40, .inl f0)), (r1, .inr (6, [.ref a1])), (a1, .inl (cI, 40, .inl f1)), (r2, .inr (6, [.ref a2])), (a2, .inl (cI, 40, .inl f2)), (r3, .inr (6, [.ref a3])), (a3, .inl (cI, 40, .inl f3))] (fun (u : (Nat) × (Nat → Int32) × (Nat → Int32) × (Nat → Int32) × (Nat → Int32)) => [(h, .inr (1, [.ref r0, .ref r1, .ref r2, .ref r3, .int (nI u.1)])), (r0, .inr (6, [.ref a0])), (a0, .inl (cI, 40, .inl u.2.1)), (r1, .inr (6, [.ref a1])), (a1, .inl (cI, 40, .inl u.2.2.1)), (r2, .inr (6, [.ref a2])), (a2, .inl (cI, 40, .inl u.2.2.2.1)), (r3, .inr (6, [.ref a3])), (a3, .inl (cI, 40, .inl u.2.2.2.2))]) (fun (r : Int32) (u : (Nat) × (Nat → Int32) × (Nat → Int32) × (Nat → Int32) × (Nat → Int32)) => r = nI (k + 1) ∧ u.1 = k + 1 ∧ u.2.1 = rSq f0 (enP f2 x k) k w ∧ u.2.2.1 = rSq f1 (enP f2 x k) k n ∧ u.2.2.2.1 = rSq f2 (enP f2 x k) k x ∧ u.2.2.2.2 = upd f3 k 0) := by
  refine fx_CI.of (ws' := (wsX1_enter).tail) cX1_enter 5 (by decide) rfl (Nat.le_of_ble_eq_true rfl) ?_
  intro zp ze zs zm za zb zt zc zA ls zQ hQ hC hr hlk hA hH hl
  have zx := hC.1.1
  have zy := hC.1.2.1
  have hl : lv_has ls 5 [(0, .ref h), (1, .int w), (2, .int n), (3, .int x)] := hl
  refine lv_aload_n zx zy dX1_enter_0 rfl (lv_at hl 0 rfl) ?_
  refine fx_get (C := RX1) (T := TX1) (N := 5) hC (fun _ h => List.mem_cons_of_mem _ (List.mem_append_left _ (List.mem_append_right _ h))) hH 0 rfl rfl 4 (by decide) (by decide +kernel) rfl dX1_enter_1 ?_
  refine lv_istore (lv' := [(4, .int (nI k)), (0, .ref h), (1, .int w), (2, .int n), (3, .int x)]) zx zy dX1_enter_4 hl (by decide) rfl (fun ls hl => ?_)
  have L6 : ∀ (fu : Nat) (p : Nat) (hp : p ≤ k) (he : enP f2 x p = enP f2 x k) (H : Heap) (locs : List Loc) (ls : Array Slot), p < fu → fx_H zA zs.heap H locs D [(h, .inr (1, [.ref r0, .ref r1, .ref r2, .ref r3, .int (nI k)])), (r0, .inr (6, [.ref a0])), (a0, .inl (cI, 40, .inl f0)), (r1, .inr (6, [.ref a1])), (a1, .inl (cI, 40, .inl f1)), (r2, .inr (6, [.ref a2])), (a2, .inl (cI, 40, .inl f2)), (r3, .inr (6, [.ref a3])), (a3, .inl (cI, 40, .inl f3))] → lv_has ls 5 [(0, .ref h), (1, .int w), (2, .int n), (3, .int x), (4, .int (nI p))] → W zp l ze ({ frames := 2, cells := 0, slots := 0, locals := 46 }) zs zm za zb zt zc H locs (0) (0) zQ (F0 zm 6 ls []) := by
    intro fu
    induction fu with
    | zero => intro p hp he H locs ls hfu; exact absurd hfu (Nat.not_lt_zero _)
    | succ fu ih6 =>
      intro p hp he H locs ls hfu6 hH hl
      refine lv_iload zx zy dX1_enter_6 (lv_at hl 4 rfl) ?_
      refine lv_if_le (tgt := 32) zx zy dX1_enter_8 (by decide) (fun c8 => ?_) (fun c8 => ?_)
      · skip
        have hpe : p = enP f2 x k := by rw [← he, fx_zero_of c8 (by omega)]; rfl
        refine lv_aload_n zx zy dX1_enter_32 rfl (lv_at hl 0 rfl) ?_
        refine fx_get (C := RX1) (T := TX1) (N := 5) hC (fun _ h => List.mem_cons_of_mem _ (List.mem_append_left _ (List.mem_append_right _ h))) hH 0 rfl rfl 0 (by decide) (by decide +kernel) rfl dX1_enter_33 ?_
        refine lv_iload zx zy dX1_enter_36 (lv_at hl 4 rfl) ?_
        refine lv_aload_n zx zy dX1_enter_38 rfl (lv_at hl 0 rfl) ?_
        refine fx_get (C := RX1) (T := TX1) (N := 5) hC (fun _ h => List.mem_cons_of_mem _ (List.mem_append_left _ (List.mem_append_right _ h))) hH 0 rfl rfl 4 (by decide) (by decide +kernel) rfl dX1_enter_39 ?_
        refine lv_iload_n zx zy dX1_enter_42 rfl (lv_at hl 1 rfl) ?_
        refine fx_cVv (n := 3) (As := [.int (nI p), .int (nI k), .int w]) (b := r0) (rest := []) (fun (u : (Nat → Int32)) => [(h, .inr (1, [.ref r0, .ref r1, .ref r2, .ref r3, .int (nI k)])), (r0, .inr (6, [.ref a0])), (a0, .inl (cI, 40, .inl u)), (r1, .inr (6, [.ref a1])), (a1, .inl (cI, 40, .inl f1)), (r2, .inr (6, [.ref a2])), (a2, .inl (cI, 40, .inl f2)), (r3, .inr (6, [.ref a3])), (a3, .inl (cI, 40, .inl f3))]) hC hA hH (k_X6_squeeze l D cI cZ r0 a0 40 f0 p k w (by first | assumption | omega) (by first | assumption | omega) (by first | assumption | omega)) [1, 2] [0, 3, 4, 5, 6, 7, 8] [0, 7, 8, 1, 2, 3, 4, 5, 6] [(h, .inr (1, [.ref r0, .ref r1, .ref r2, .ref r3, .int (nI k)])), (r1, .inr (6, [.ref a1])), (a1, .inl (cI, 40, .inl f1)), (r2, .inr (6, [.ref a2])), (a2, .inl (cI, 40, .inl f2)), (r3, .inr (6, [.ref a3])), (a3, .inl (cI, 40, .inl f3))] rfl rfl (by decide) (by decide) (fun _ => rfl) rfl gX1_enter_X6_squeeze (by decide +kernel) ⟨Nat.le_of_ble_eq_true rfl, Nat.le_of_ble_eq_true rfl⟩ 0 rfl rfl rfl rfl rfl hl.1 (Nat.le_of_ble_eq_true rfl) ⟨Nat.le_of_ble_eq_true rfl, Nat.le_of_ble_eq_true rfl⟩ dX1_enter_43 (fun u H locs hw43 hH => ?_)
        obtain ⟨u2, rfl⟩ : ∃ z, z = u := ⟨_, rfl⟩
        obtain rfl : u2 = rSq f0 p k w := hw43
        have hH := (hH : fx_H zA zs.heap H locs D [(h, .inr (1, [.ref r0, .ref r1, .ref r2, .ref r3, .int (nI k)])), (r0, .inr (6, [.ref a0])), (a0, .inl (cI, 40, .inl (rSq f0 p k w))), (r1, .inr (6, [.ref a1])), (a1, .inl (cI, 40, .inl f1)), (r2, .inr (6, [.ref a2])), (a2, .inl (cI, 40, .inl f2)), (r3, .inr (6, [.ref a3])), (a3, .inl (cI, 40, .inl f3))])
        refine lv_aload_n zx zy dX1_enter_46 rfl (lv_at hl 0 rfl) ?_
        refine fx_get (C := RX1) (T := TX1) (N := 5) hC (fun _ h => List.mem_cons_of_mem _ (List.mem_append_left _ (List.mem_append_right _ h))) hH 0 rfl rfl 1 (by decide) (by decide +kernel) rfl dX1_enter_47 ?_
        refine lv_iload zx zy dX1_enter_50 (lv_at hl 4 rfl) ?_
        refine lv_aload_n zx zy dX1_enter_52 rfl (lv_at hl 0 rfl) ?_
        refine fx_get (C := RX1) (T := TX1) (N := 5) hC (fun _ h => List.mem_cons_of_mem _ (List.mem_append_left _ (List.mem_append_right _ h))) hH 0 rfl rfl 4 (by decide) (by decide +kernel) rfl dX1_enter_53 ?_
        refine lv_iload_n zx zy dX1_enter_56 rfl (lv_at hl 2 rfl) ?_
        refine fx_cVv (n := 3) (As := [.int (nI p), .int (nI k), .int n]) (b := r1) (rest := []) (fun (u : (Nat → Int32)) => [(h, .inr (1, [.ref r0, .ref r1, .ref r2, .ref r3, .int (nI k)])), (r0, .inr (6, [.ref a0])), (a0, .inl (cI, 40, .inl (rSq f0 p k w))), (r1, .inr (6, [.ref a1])), (a1, .inl (cI, 40, .inl u)), (r2, .inr (6, [.ref a2])), (a2, .inl (cI, 40, .inl f2)), (r3, .inr (6, [.ref a3])), (a3, .inl (cI, 40, .inl f3))]) hC hA hH (k_X6_squeeze l D cI cZ r1 a1 40 f1 p k n (by first | assumption | omega) (by first | assumption | omega) (by first | assumption | omega)) [3, 4] [0, 1, 2, 5, 6, 7, 8] [0, 1, 2, 7, 8, 3, 4, 5, 6] [(h, .inr (1, [.ref r0, .ref r1, .ref r2, .ref r3, .int (nI k)])), (r0, .inr (6, [.ref a0])), (a0, .inl (cI, 40, .inl (rSq f0 p k w))), (r2, .inr (6, [.ref a2])), (a2, .inl (cI, 40, .inl f2)), (r3, .inr (6, [.ref a3])), (a3, .inl (cI, 40, .inl f3))] rfl rfl (by decide) (by decide) (fun _ => rfl) rfl gX1_enter_X6_squeeze (by decide +kernel) ⟨Nat.le_of_ble_eq_true rfl, Nat.le_of_ble_eq_true rfl⟩ 0 rfl rfl rfl rfl rfl hl.1 (Nat.le_of_ble_eq_true rfl) ⟨Nat.le_of_ble_eq_true rfl, Nat.le_of_ble_eq_true rfl⟩ dX1_enter_57 (fun u H locs hw57 hH => ?_)
        obtain ⟨u4, rfl⟩ : ∃ z, z = u := ⟨_, rfl⟩
        obtain rfl : u4 = rSq f1 p k n := hw57
        have hH := (hH : fx_H zA zs.heap H locs D [(h, .inr (1, [.ref r0, .ref r1, .ref r2, .ref r3, .int (nI k)])), (r0, .inr (6, [.ref a0])), (a0, .inl (cI, 40, .inl (rSq f0 p k w))), (r1, .inr (6, [.ref a1])), (a1, .inl (cI, 40, .inl (rSq f1 p k n))), (r2, .inr (6, [.ref a2])), (a2, .inl (cI, 40, .inl f2)), (r3, .inr (6, [.ref a3])), (a3, .inl (cI, 40, .inl f3))])
        refine lv_aload_n zx zy dX1_enter_60 rfl (lv_at hl 0 rfl) ?_
        refine fx_get (C := RX1) (T := TX1) (N := 5) hC (fun _ h => List.mem_cons_of_mem _ (List.mem_append_left _ (List.mem_append_right _ h))) hH 0 rfl rfl 2 (by decide) (by decide +kernel) rfl dX1_enter_61 ?_
        refine lv_iload zx zy dX1_enter_64 (lv_at hl 4 rfl) ?_
        refine lv_aload_n zx zy dX1_enter_66 rfl (lv_at hl 0 rfl) ?_
        refine fx_get (C := RX1) (T := TX1) (N := 5) hC (fun _ h => List.mem_cons_of_mem _ (List.mem_append_left _ (List.mem_append_right _ h))) hH 0 rfl rfl 4 (by decide) (by decide +kernel) rfl dX1_enter_67 ?_
        refine lv_iload_n zx zy dX1_enter_70 rfl (lv_at hl 3 rfl) ?_
        refine fx_cVv (n := 3) (As := [.int (nI p), .int (nI k), .int x]) (b := r2) (rest := []) (fun (u : (Nat → Int32)) => [(h, .inr (1, [.ref r0, .ref r1, .ref r2, .ref r3, .int (nI k)])), (r0, .inr (6, [.ref a0])), (a0, .inl (cI, 40, .inl (rSq f0 p k w))), (r1, .inr (6, [.ref a1])), (a1, .inl (cI, 40, .inl (rSq f1 p k n))), (r2, .inr (6, [.ref a2])), (a2, .inl (cI, 40, .inl u)), (r3, .inr (6, [.ref a3])), (a3, .inl (cI, 40, .inl f3))]) hC hA hH (k_X6_squeeze l D cI cZ r2 a2 40 f2 p k x (by first | assumption | omega) (by first | assumption | omega) (by first | assumption | omega)) [5, 6] [0, 1, 2, 3, 4, 7, 8] [0, 1, 2, 3, 4, 7, 8, 5, 6] [(h, .inr (1, [.ref r0, .ref r1, .ref r2, .ref r3, .int (nI k)])), (r0, .inr (6, [.ref a0])), (a0, .inl (cI, 40, .inl (rSq f0 p k w))), (r1, .inr (6, [.ref a1])), (a1, .inl (cI, 40, .inl (rSq f1 p k n))), (r3, .inr (6, [.ref a3])), (a3, .inl (cI, 40, .inl f3))] rfl rfl (by decide) (by decide) (fun _ => rfl) rfl gX1_enter_X6_squeeze (by decide +kernel) ⟨Nat.le_of_ble_eq_true rfl, Nat.le_of_ble_eq_true rfl⟩ 0 rfl rfl rfl rfl rfl hl.1 (Nat.le_of_ble_eq_true rfl) ⟨Nat.le_of_ble_eq_true rfl, Nat.le_of_ble_eq_true rfl⟩ dX1_enter_71 (fun u H locs hw71 hH => ?_)
        obtain ⟨u6, rfl⟩ : ∃ z, z = u := ⟨_, rfl⟩
        obtain rfl : u6 = rSq f2 p k x := hw71
        have hH := (hH : fx_H zA zs.heap H locs D [(h, .inr (1, [.ref r0, .ref r1, .ref r2, .ref r3, .int (nI k)])), (r0, .inr (6, [.ref a0])), (a0, .inl (cI, 40, .inl (rSq f0 p k w))), (r1, .inr (6, [.ref a1])), (a1, .inl (cI, 40, .inl (rSq f1 p k n))), (r2, .inr (6, [.ref a2])), (a2, .inl (cI, 40, .inl (rSq f2 p k x))), (r3, .inr (6, [.ref a3])), (a3, .inl (cI, 40, .inl f3))])
        refine lv_aload_n zx zy dX1_enter_74 rfl (lv_at hl 0 rfl) ?_
        refine fx_get (C := RX1) (T := TX1) (N := 5) hC (fun _ h => List.mem_cons_of_mem _ (List.mem_append_left _ (List.mem_append_right _ h))) hH 0 rfl rfl 3 (by decide) (by decide +kernel) rfl dX1_enter_75 ?_
        refine lv_aload_n zx zy dX1_enter_78 rfl (lv_at hl 0 rfl) ?_
        refine fx_get (C := RX1) (T := TX1) (N := 5) hC (fun _ h => List.mem_cons_of_mem _ (List.mem_append_left _ (List.mem_append_right _ h))) hH 0 rfl rfl 4 (by decide) (by decide +kernel) rfl dX1_enter_79 ?_
        refine lv_iconst (v := 0) zx zy dX1_enter_82 (by decide) ?_
        refine fx_cVv (n := 2) (As := [.int (nI k), .int 0]) (b := r3) (rest := []) (fun (u : (Nat → Int32)) => [(h, .inr (1, [.ref r0, .ref r1, .ref r2, .ref r3, .int (nI k)])), (r0, .inr (6, [.ref a0])), (a0, .inl (cI, 40, .inl (rSq f0 p k w))), (r1, .inr (6, [.ref a1])), (a1, .inl (cI, 40, .inl (rSq f1 p k n))), (r2, .inr (6, [.ref a2])), (a2, .inl (cI, 40, .inl (rSq f2 p k x))), (r3, .inr (6, [.ref a3])), (a3, .inl (cI, 40, .inl u))]) hC hA hH (k_X6_put l D cI cZ r3 a3 40 f3 (nI k) 0 (by first | assumption | omega)) [7, 8] [0, 1, 2, 3, 4, 5, 6] [0, 1, 2, 3, 4, 5, 6, 7, 8] [(h, .inr (1, [.ref r0, .ref r1, .ref r2, .ref r3, .int (nI k)])), (r0, .inr (6, [.ref a0])), (a0, .inl (cI, 40, .inl (rSq f0 p k w))), (r1, .inr (6, [.ref a1])), (a1, .inl (cI, 40, .inl (rSq f1 p k n))), (r2, .inr (6, [.ref a2])), (a2, .inl (cI, 40, .inl (rSq f2 p k x)))] rfl rfl (by decide) (by decide) (fun _ => rfl) rfl gX1_enter_X6_put (by decide +kernel) ⟨Nat.le_of_ble_eq_true rfl, Nat.le_of_ble_eq_true rfl⟩ 0 rfl rfl rfl rfl rfl hl.1 (Nat.le_of_ble_eq_true rfl) ⟨Nat.le_of_ble_eq_true rfl, Nat.le_of_ble_eq_true rfl⟩ dX1_enter_83 (fun u H locs hw83 hH => ?_)
        obtain ⟨u8, rfl⟩ : ∃ z, z = u := ⟨_, rfl⟩
        obtain rfl : u8 = rPut 40 f3 (nI k) 0 := hw83
        have hH := (hH : fx_H zA zs.heap H locs D [(h, .inr (1, [.ref r0, .ref r1, .ref r2, .ref r3, .int (nI k)])), (r0, .inr (6, [.ref a0])), (a0, .inl (cI, 40, .inl (rSq f0 p k w))), (r1, .inr (6, [.ref a1])), (a1, .inl (cI, 40, .inl (rSq f1 p k n))), (r2, .inr (6, [.ref a2])), (a2, .inl (cI, 40, .inl (rSq f2 p k x))), (r3, .inr (6, [.ref a3])), (a3, .inl (cI, 40, .inl (rPut 40 f3 (nI k) 0)))])
        rw [show (rPut 40 f3 (nI k) 0 : Nat → Int32) = upd f3 k 0 from rPut_nI hk (by omega)] at hH
        refine lv_aload_n zx zy dX1_enter_86 rfl (lv_at hl 0 rfl) ?_
        refine lv_dup zx zy dX1_enter_87 rfl ?_
        refine fx_get (C := RX1) (T := TX1) (N := 5) hC (fun _ h => List.mem_cons_of_mem _ (List.mem_append_left _ (List.mem_append_right _ h))) hH 0 rfl rfl 4 (by decide) (by decide +kernel) rfl dX1_enter_88 ?_
        refine lv_iconst (v := 1) zx zy dX1_enter_91 (by decide) ?_
        refine lv_iadd zx zy dX1_enter_92 ?_
        refine lv_topi (fun v9 ev9 => ?_)
        obtain rfl : v9 = nI (k + 1) := ev9.trans (nI_1 k)
        refine fx_put (C := RX1) (T := TX1) (N := 5) (ty := .int) (ws2 := [(h, .inr (1, [.ref r0, .ref r1, .ref r2, .ref r3, .int (nI (k + 1))])), (r0, .inr (6, [.ref a0])), (a0, .inl (cI, 40, .inl (rSq f0 p k w))), (r1, .inr (6, [.ref a1])), (a1, .inl (cI, 40, .inl (rSq f1 p k n))), (r2, .inr (6, [.ref a2])), (a2, .inl (cI, 40, .inl (rSq f2 p k x))), (r3, .inr (6, [.ref a3])), (a3, .inl (cI, 40, .inl (upd f3 k 0)))]) hC (fun _ h => List.mem_cons_of_mem _ (List.mem_append_left _ (List.mem_append_right _ h))) tyX1_ok nmX1 hH 0 rfl rfl 4 (by decide) (by decide +kernel) rfl rfl rfl rfl (Nat.le_of_ble_eq_true rfl) rfl dX1_enter_93 (fun H locs hH => ?_)
        refine lv_aload_n zx zy dX1_enter_96 rfl (lv_at hl 0 rfl) ?_
        refine fx_get (C := RX1) (T := TX1) (N := 5) hC (fun _ h => List.mem_cons_of_mem _ (List.mem_append_left _ (List.mem_append_right _ h))) hH 0 rfl rfl 4 (by decide) (by decide +kernel) rfl dX1_enter_97 ?_
        exact fx_iret (v := nI (k + 1)) hQ hC hr hlk hH dX1_enter_100 rfl (Nat.le_of_ble_eq_true rfl) (Nat.le_of_ble_eq_true rfl) (((k + 1), rSq f0 p k w, rSq f1 p k n, rSq f2 p k x, upd f3 k 0)) rfl (by subst hpe; exact ⟨rfl, rfl, rfl, rfl, rfl, rfl⟩)
      · skip
        have hp0 : 0 < p := fx_pos_of c8 (by omega)
        refine lv_aload_n zx zy dX1_enter_11 rfl (lv_at hl 0 rfl) ?_
        refine fx_get (C := RX1) (T := TX1) (N := 5) hC (fun _ h => List.mem_cons_of_mem _ (List.mem_append_left _ (List.mem_append_right _ h))) hH 0 rfl rfl 2 (by decide) (by decide +kernel) rfl dX1_enter_12 ?_
        refine lv_iload zx zy dX1_enter_15 (lv_at hl 4 rfl) ?_
        refine lv_iconst (v := 1) zx zy dX1_enter_17 (by decide) ?_
        refine lv_isub zx zy dX1_enter_18 ?_
        refine lv_topi (fun v10 ev10 => ?_)
        obtain rfl : v10 = nI (p - 1) := ev10.trans (fx_m1 hp0)
        refine fx_cVi (n := 1) (As := [.int (nI (p - 1))]) (b := r2) (rest := []) (fun (u : Unit) => [(h, .inr (1, [.ref r0, .ref r1, .ref r2, .ref r3, .int (nI k)])), (r0, .inr (6, [.ref a0])), (a0, .inl (cI, 40, .inl f0)), (r1, .inr (6, [.ref a1])), (a1, .inl (cI, 40, .inl f1)), (r2, .inr (6, [.ref a2])), (a2, .inl (cI, 40, .inl f2)), (r3, .inr (6, [.ref a3])), (a3, .inl (cI, 40, .inl f3))]) hC hA hH (k_X6_at l D cI cZ r2 a2 40 f2 (nI (p - 1)) (by first | assumption | omega)) [5, 6] [0, 1, 2, 3, 4, 7, 8] [0, 1, 2, 3, 4, 7, 8, 5, 6] [(h, .inr (1, [.ref r0, .ref r1, .ref r2, .ref r3, .int (nI k)])), (r0, .inr (6, [.ref a0])), (a0, .inl (cI, 40, .inl f0)), (r1, .inr (6, [.ref a1])), (a1, .inl (cI, 40, .inl f1)), (r3, .inr (6, [.ref a3])), (a3, .inl (cI, 40, .inl f3))] rfl rfl (by decide) (by decide) (fun _ => rfl) rfl gX1_enter_X6_at (by decide +kernel) ⟨Nat.le_of_ble_eq_true rfl, Nat.le_of_ble_eq_true rfl⟩ 0 rfl rfl rfl rfl rfl hl.1 (Nat.le_of_ble_eq_true rfl) ⟨Nat.le_of_ble_eq_true rfl, Nat.le_of_ble_eq_true rfl⟩ dX1_enter_19 (fun r11 u H locs hw19 hH => ?_)
        obtain rfl : r11 = rAt 40 f2 (nI (p - 1)) := hw19
        have hH := (hH : fx_H zA zs.heap H locs D [(h, .inr (1, [.ref r0, .ref r1, .ref r2, .ref r3, .int (nI k)])), (r0, .inr (6, [.ref a0])), (a0, .inl (cI, 40, .inl f0)), (r1, .inr (6, [.ref a1])), (a1, .inl (cI, 40, .inl f1)), (r2, .inr (6, [.ref a2])), (a2, .inl (cI, 40, .inl f2)), (r3, .inr (6, [.ref a3])), (a3, .inl (cI, 40, .inl f3))])
        refine lv_topi (fun v12 ev12 => ?_)
        obtain rfl : v12 = f2 (p - 1) := ev12.trans (rAt_nI (by omega) (by omega))
        refine lv_iload_n zx zy dX1_enter_22 rfl (lv_at hl 3 rfl) ?_
        refine lv_icmp_ge (tgt := 32) zx zy dX1_enter_23 (by decide) (fun c23 => ?_) (fun c23 => ?_)
        · skip
          have hpe : p = enP f2 x k := by rw [← he, enP_e hp0 c23]
          refine lv_aload_n zx zy dX1_enter_32 rfl (lv_at hl 0 rfl) ?_
          refine fx_get (C := RX1) (T := TX1) (N := 5) hC (fun _ h => List.mem_cons_of_mem _ (List.mem_append_left _ (List.mem_append_right _ h))) hH 0 rfl rfl 0 (by decide) (by decide +kernel) rfl dX1_enter_33 ?_
          refine lv_iload zx zy dX1_enter_36 (lv_at hl 4 rfl) ?_
          refine lv_aload_n zx zy dX1_enter_38 rfl (lv_at hl 0 rfl) ?_
          refine fx_get (C := RX1) (T := TX1) (N := 5) hC (fun _ h => List.mem_cons_of_mem _ (List.mem_append_left _ (List.mem_append_right _ h))) hH 0 rfl rfl 4 (by decide) (by decide +kernel) rfl dX1_enter_39 ?_
          refine lv_iload_n zx zy dX1_enter_42 rfl (lv_at hl 1 rfl) ?_
          refine fx_cVv (n := 3) (As := [.int (nI p), .int (nI k), .int w]) (b := r0) (rest := []) (fun (u : (Nat → Int32)) => [(h, .inr (1, [.ref r0, .ref r1, .ref r2, .ref r3, .int (nI k)])), (r0, .inr (6, [.ref a0])), (a0, .inl (cI, 40, .inl u)), (r1, .inr (6, [.ref a1])), (a1, .inl (cI, 40, .inl f1)), (r2, .inr (6, [.ref a2])), (a2, .inl (cI, 40, .inl f2)), (r3, .inr (6, [.ref a3])), (a3, .inl (cI, 40, .inl f3))]) hC hA hH (k_X6_squeeze l D cI cZ r0 a0 40 f0 p k w (by first | assumption | omega) (by first | assumption | omega) (by first | assumption | omega)) [1, 2] [0, 3, 4, 5, 6, 7, 8] [0, 7, 8, 1, 2, 3, 4, 5, 6] [(h, .inr (1, [.ref r0, .ref r1, .ref r2, .ref r3, .int (nI k)])), (r1, .inr (6, [.ref a1])), (a1, .inl (cI, 40, .inl f1)), (r2, .inr (6, [.ref a2])), (a2, .inl (cI, 40, .inl f2)), (r3, .inr (6, [.ref a3])), (a3, .inl (cI, 40, .inl f3))] rfl rfl (by decide) (by decide) (fun _ => rfl) rfl gX1_enter_X6_squeeze (by decide +kernel) ⟨Nat.le_of_ble_eq_true rfl, Nat.le_of_ble_eq_true rfl⟩ 0 rfl rfl rfl rfl rfl hl.1 (Nat.le_of_ble_eq_true rfl) ⟨Nat.le_of_ble_eq_true rfl, Nat.le_of_ble_eq_true rfl⟩ dX1_enter_43 (fun u H locs hw43 hH => ?_)
          obtain ⟨u14, rfl⟩ : ∃ z, z = u := ⟨_, rfl⟩
          obtain rfl : u14 = rSq f0 p k w := hw43
          have hH := (hH : fx_H zA zs.heap H locs D [(h, .inr (1, [.ref r0, .ref r1, .ref r2, .ref r3, .int (nI k)])), (r0, .inr (6, [.ref a0])), (a0, .inl (cI, 40, .inl (rSq f0 p k w))), (r1, .inr (6, [.ref a1])), (a1, .inl (cI, 40, .inl f1)), (r2, .inr (6, [.ref a2])), (a2, .inl (cI, 40, .inl f2)), (r3, .inr (6, [.ref a3])), (a3, .inl (cI, 40, .inl f3))])
          refine lv_aload_n zx zy dX1_enter_46 rfl (lv_at hl 0 rfl) ?_
          refine fx_get (C := RX1) (T := TX1) (N := 5) hC (fun _ h => List.mem_cons_of_mem _ (List.mem_append_left _ (List.mem_append_right _ h))) hH 0 rfl rfl 1 (by decide) (by decide +kernel) rfl dX1_enter_47 ?_
          refine lv_iload zx zy dX1_enter_50 (lv_at hl 4 rfl) ?_
          refine lv_aload_n zx zy dX1_enter_52 rfl (lv_at hl 0 rfl) ?_
          refine fx_get (C := RX1) (T := TX1) (N := 5) hC (fun _ h => List.mem_cons_of_mem _ (List.mem_append_left _ (List.mem_append_right _ h))) hH 0 rfl rfl 4 (by decide) (by decide +kernel) rfl dX1_enter_53 ?_
          refine lv_iload_n zx zy dX1_enter_56 rfl (lv_at hl 2 rfl) ?_
          refine fx_cVv (n := 3) (As := [.int (nI p), .int (nI k), .int n]) (b := r1) (rest := []) (fun (u : (Nat → Int32)) => [(h, .inr (1, [.ref r0, .ref r1, .ref r2, .ref r3, .int (nI k)])), (r0, .inr (6, [.ref a0])), (a0, .inl (cI, 40, .inl (rSq f0 p k w))), (r1, .inr (6, [.ref a1])), (a1, .inl (cI, 40, .inl u)), (r2, .inr (6, [.ref a2])), (a2, .inl (cI, 40, .inl f2)), (r3, .inr (6, [.ref a3])), (a3, .inl (cI, 40, .inl f3))]) hC hA hH (k_X6_squeeze l D cI cZ r1 a1 40 f1 p k n (by first | assumption | omega) (by first | assumption | omega) (by first | assumption | omega)) [3, 4] [0, 1, 2, 5, 6, 7, 8] [0, 1, 2, 7, 8, 3, 4, 5, 6] [(h, .inr (1, [.ref r0, .ref r1, .ref r2, .ref r3, .int (nI k)])), (r0, .inr (6, [.ref a0])), (a0, .inl (cI, 40, .inl (rSq f0 p k w))), (r2, .inr (6, [.ref a2])), (a2, .inl (cI, 40, .inl f2)), (r3, .inr (6, [.ref a3])), (a3, .inl (cI, 40, .inl f3))] rfl rfl (by decide) (by decide) (fun _ => rfl) rfl gX1_enter_X6_squeeze (by decide +kernel) ⟨Nat.le_of_ble_eq_true rfl, Nat.le_of_ble_eq_true rfl⟩ 0 rfl rfl rfl rfl rfl hl.1 (Nat.le_of_ble_eq_true rfl) ⟨Nat.le_of_ble_eq_true rfl, Nat.le_of_ble_eq_true rfl⟩ dX1_enter_57 (fun u H locs hw57 hH => ?_)
          obtain ⟨u16, rfl⟩ : ∃ z, z = u := ⟨_, rfl⟩
          obtain rfl : u16 = rSq f1 p k n := hw57
          have hH := (hH : fx_H zA zs.heap H locs D [(h, .inr (1, [.ref r0, .ref r1, .ref r2, .ref r3, .int (nI k)])), (r0, .inr (6, [.ref a0])), (a0, .inl (cI, 40, .inl (rSq f0 p k w))), (r1, .inr (6, [.ref a1])), (a1, .inl (cI, 40, .inl (rSq f1 p k n))), (r2, .inr (6, [.ref a2])), (a2, .inl (cI, 40, .inl f2)), (r3, .inr (6, [.ref a3])), (a3, .inl (cI, 40, .inl f3))])
          refine lv_aload_n zx zy dX1_enter_60 rfl (lv_at hl 0 rfl) ?_
          refine fx_get (C := RX1) (T := TX1) (N := 5) hC (fun _ h => List.mem_cons_of_mem _ (List.mem_append_left _ (List.mem_append_right _ h))) hH 0 rfl rfl 2 (by decide) (by decide +kernel) rfl dX1_enter_61 ?_
          refine lv_iload zx zy dX1_enter_64 (lv_at hl 4 rfl) ?_
          refine lv_aload_n zx zy dX1_enter_66 rfl (lv_at hl 0 rfl) ?_
          refine fx_get (C := RX1) (T := TX1) (N := 5) hC (fun _ h => List.mem_cons_of_mem _ (List.mem_append_left _ (List.mem_append_right _ h))) hH 0 rfl rfl 4 (by decide) (by decide +kernel) rfl dX1_enter_67 ?_
          refine lv_iload_n zx zy dX1_enter_70 rfl (lv_at hl 3 rfl) ?_
          refine fx_cVv (n := 3) (As := [.int (nI p), .int (nI k), .int x]) (b := r2) (rest := []) (fun (u : (Nat → Int32)) => [(h, .inr (1, [.ref r0, .ref r1, .ref r2, .ref r3, .int (nI k)])), (r0, .inr (6, [.ref a0])), (a0, .inl (cI, 40, .inl (rSq f0 p k w))), (r1, .inr (6, [.ref a1])), (a1, .inl (cI, 40, .inl (rSq f1 p k n))), (r2, .inr (6, [.ref a2])), (a2, .inl (cI, 40, .inl u)), (r3, .inr (6, [.ref a3])), (a3, .inl (cI, 40, .inl f3))]) hC hA hH (k_X6_squeeze l D cI cZ r2 a2 40 f2 p k x (by first | assumption | omega) (by first | assumption | omega) (by first | assumption | omega)) [5, 6] [0, 1, 2, 3, 4, 7, 8] [0, 1, 2, 3, 4, 7, 8, 5, 6] [(h, .inr (1, [.ref r0, .ref r1, .ref r2, .ref r3, .int (nI k)])), (r0, .inr (6, [.ref a0])), (a0, .inl (cI, 40, .inl (rSq f0 p k w))), (r1, .inr (6, [.ref a1])), (a1, .inl (cI, 40, .inl (rSq f1 p k n))), (r3, .inr (6, [.ref a3])), (a3, .inl (cI, 40, .inl f3))] rfl rfl (by decide) (by decide) (fun _ => rfl) rfl gX1_enter_X6_squeeze (by decide +kernel) ⟨Nat.le_of_ble_eq_true rfl, Nat.le_of_ble_eq_true rfl⟩ 0 rfl rfl rfl rfl rfl hl.1 (Nat.le_of_ble_eq_true rfl) ⟨Nat.le_of_ble_eq_true rfl, Nat.le_of_ble_eq_true rfl⟩ dX1_enter_71 (fun u H locs hw71 hH => ?_)
          obtain ⟨u18, rfl⟩ : ∃ z, z = u := ⟨_, rfl⟩
          obtain rfl : u18 = rSq f2 p k x := hw71
          have hH := (hH : fx_H zA zs.heap H locs D [(h, .inr (1, [.ref r0, .ref r1, .ref r2, .ref r3, .int (nI k)])), (r0, .inr (6, [.ref a0])), (a0, .inl (cI, 40, .inl (rSq f0 p k w))), (r1, .inr (6, [.ref a1])), (a1, .inl (cI, 40, .inl (rSq f1 p k n))), (r2, .inr (6, [.ref a2])), (a2, .inl (cI, 40, .inl (rSq f2 p k x))), (r3, .inr (6, [.ref a3])), (a3, .inl (cI, 40, .inl f3))])
          refine lv_aload_n zx zy dX1_enter_74 rfl (lv_at hl 0 rfl) ?_
          refine fx_get (C := RX1) (T := TX1) (N := 5) hC (fun _ h => List.mem_cons_of_mem _ (List.mem_append_left _ (List.mem_append_right _ h))) hH 0 rfl rfl 3 (by decide) (by decide +kernel) rfl dX1_enter_75 ?_
          refine lv_aload_n zx zy dX1_enter_78 rfl (lv_at hl 0 rfl) ?_
          refine fx_get (C := RX1) (T := TX1) (N := 5) hC (fun _ h => List.mem_cons_of_mem _ (List.mem_append_left _ (List.mem_append_right _ h))) hH 0 rfl rfl 4 (by decide) (by decide +kernel) rfl dX1_enter_79 ?_
          refine lv_iconst (v := 0) zx zy dX1_enter_82 (by decide) ?_
          refine fx_cVv (n := 2) (As := [.int (nI k), .int 0]) (b := r3) (rest := []) (fun (u : (Nat → Int32)) => [(h, .inr (1, [.ref r0, .ref r1, .ref r2, .ref r3, .int (nI k)])), (r0, .inr (6, [.ref a0])), (a0, .inl (cI, 40, .inl (rSq f0 p k w))), (r1, .inr (6, [.ref a1])), (a1, .inl (cI, 40, .inl (rSq f1 p k n))), (r2, .inr (6, [.ref a2])), (a2, .inl (cI, 40, .inl (rSq f2 p k x))), (r3, .inr (6, [.ref a3])), (a3, .inl (cI, 40, .inl u))]) hC hA hH (k_X6_put l D cI cZ r3 a3 40 f3 (nI k) 0 (by first | assumption | omega)) [7, 8] [0, 1, 2, 3, 4, 5, 6] [0, 1, 2, 3, 4, 5, 6, 7, 8] [(h, .inr (1, [.ref r0, .ref r1, .ref r2, .ref r3, .int (nI k)])), (r0, .inr (6, [.ref a0])), (a0, .inl (cI, 40, .inl (rSq f0 p k w))), (r1, .inr (6, [.ref a1])), (a1, .inl (cI, 40, .inl (rSq f1 p k n))), (r2, .inr (6, [.ref a2])), (a2, .inl (cI, 40, .inl (rSq f2 p k x)))] rfl rfl (by decide) (by decide) (fun _ => rfl) rfl gX1_enter_X6_put (by decide +kernel) ⟨Nat.le_of_ble_eq_true rfl, Nat.le_of_ble_eq_true rfl⟩ 0 rfl rfl rfl rfl rfl hl.1 (Nat.le_of_ble_eq_true rfl) ⟨Nat.le_of_ble_eq_true rfl, Nat.le_of_ble_eq_true rfl⟩ dX1_enter_83 (fun u H locs hw83 hH => ?_)
          obtain ⟨u20, rfl⟩ : ∃ z, z = u := ⟨_, rfl⟩
          obtain rfl : u20 = rPut 40 f3 (nI k) 0 := hw83
          have hH := (hH : fx_H zA zs.heap H locs D [(h, .inr (1, [.ref r0, .ref r1, .ref r2, .ref r3, .int (nI k)])), (r0, .inr (6, [.ref a0])), (a0, .inl (cI, 40, .inl (rSq f0 p k w))), (r1, .inr (6, [.ref a1])), (a1, .inl (cI, 40, .inl (rSq f1 p k n))), (r2, .inr (6, [.ref a2])), (a2, .inl (cI, 40, .inl (rSq f2 p k x))), (r3, .inr (6, [.ref a3])), (a3, .inl (cI, 40, .inl (rPut 40 f3 (nI k) 0)))])
          rw [show (rPut 40 f3 (nI k) 0 : Nat → Int32) = upd f3 k 0 from rPut_nI hk (by omega)] at hH
          refine lv_aload_n zx zy dX1_enter_86 rfl (lv_at hl 0 rfl) ?_
          refine lv_dup zx zy dX1_enter_87 rfl ?_
          refine fx_get (C := RX1) (T := TX1) (N := 5) hC (fun _ h => List.mem_cons_of_mem _ (List.mem_append_left _ (List.mem_append_right _ h))) hH 0 rfl rfl 4 (by decide) (by decide +kernel) rfl dX1_enter_88 ?_
          refine lv_iconst (v := 1) zx zy dX1_enter_91 (by decide) ?_
          refine lv_iadd zx zy dX1_enter_92 ?_
          refine lv_topi (fun v21 ev21 => ?_)
          obtain rfl : v21 = nI (k + 1) := ev21.trans (nI_1 k)
          refine fx_put (C := RX1) (T := TX1) (N := 5) (ty := .int) (ws2 := [(h, .inr (1, [.ref r0, .ref r1, .ref r2, .ref r3, .int (nI (k + 1))])), (r0, .inr (6, [.ref a0])), (a0, .inl (cI, 40, .inl (rSq f0 p k w))), (r1, .inr (6, [.ref a1])), (a1, .inl (cI, 40, .inl (rSq f1 p k n))), (r2, .inr (6, [.ref a2])), (a2, .inl (cI, 40, .inl (rSq f2 p k x))), (r3, .inr (6, [.ref a3])), (a3, .inl (cI, 40, .inl (upd f3 k 0)))]) hC (fun _ h => List.mem_cons_of_mem _ (List.mem_append_left _ (List.mem_append_right _ h))) tyX1_ok nmX1 hH 0 rfl rfl 4 (by decide) (by decide +kernel) rfl rfl rfl rfl (Nat.le_of_ble_eq_true rfl) rfl dX1_enter_93 (fun H locs hH => ?_)
          refine lv_aload_n zx zy dX1_enter_96 rfl (lv_at hl 0 rfl) ?_
          refine fx_get (C := RX1) (T := TX1) (N := 5) hC (fun _ h => List.mem_cons_of_mem _ (List.mem_append_left _ (List.mem_append_right _ h))) hH 0 rfl rfl 4 (by decide) (by decide +kernel) rfl dX1_enter_97 ?_
          exact fx_iret (v := nI (k + 1)) hQ hC hr hlk hH dX1_enter_100 rfl (Nat.le_of_ble_eq_true rfl) (Nat.le_of_ble_eq_true rfl) (((k + 1), rSq f0 p k w, rSq f1 p k n, rSq f2 p k x, upd f3 k 0)) rfl (by subst hpe; exact ⟨rfl, rfl, rfl, rfl, rfl, rfl⟩)
        · skip
          refine lv_iinc (v := nI (p - 1)) (lv' := [(4, .int (nI (p - 1))), (0, .ref h), (1, .int w), (2, .int n), (3, .int x)]) zx zy dX1_enter_26 hl (k := 4) rfl (sb_m1 hp0) (by decide) rfl (fun ls hl => ?_)
          refine lv_goto (tgt := 6) zx zy dX1_enter_29 (by decide) ?_
          exact ih6 (p - 1) (by first | assumption | omega) ((enP_s hp0 c23).symm.trans he) _ _ _ (by omega) hH (lv_sub hl [1, 2, 3, 4, 0] rfl)
  exact L6 _ k (by first | assumption | omega) (rfl) _ _ _ (Nat.lt_succ_self _) hH (lv_sub hl [1, 2, 3, 4, 0] rfl)
set_option maxHeartbeats 4000000 in
set_option maxRecDepth 100000 in
theorem k_X1_grant (l : Launch) (D : va_G) (cI cZ : ClassId) (h : Nat) (r0 : Nat) (r1 : Nat) (r2 : Nat) (r3 : Nat) (k : Nat) (a3 : Nat) (f3 : Nat → Int32) (i : Nat) (n : Int32) (hi : i < 40) : fx_CV l D cI cZ yX1_grant wsX1_grant ({ frames := 1, cells := 0, slots := 0, locals := 22 }) [.ref h, .int (nI i), .int n] [(h, .inr (1, [.ref r0, .ref r1, .ref r2, .ref r3, .int (nI k)])), (r3, .inr (6, [.ref a3])), (a3, .inl (cI, 40, .inl f3))] (fun (u : (Nat → Int32)) => [(h, .inr (1, [.ref r0, .ref r1, .ref r2, .ref r3, .int (nI k)])), (r3, .inr (6, [.ref a3])), (a3, .inl (cI, 40, .inl u))]) (fun (u : (Nat → Int32)) => u = upd f3 i n) := by
  refine fx_CV.of (ws' := (wsX1_grant).tail) cX1_grant 3 (by decide) rfl (Nat.le_of_ble_eq_true rfl) ?_
  intro zp ze zs zm za zb zt zc zA ls zQ hQ hC hr hlk hnm hA hH hl
  have zx := hC.1.1
  have zy := hC.1.2.1
  have hl : lv_has ls 3 [(0, .ref h), (1, .int (nI i)), (2, .int n)] := hl
  refine lv_aload_n zx zy dX1_grant_0 rfl (lv_at hl 0 rfl) ?_
  refine fx_get (C := RX1) (T := TX1) (N := 5) hC (fun _ h => List.mem_cons_of_mem _ (List.mem_append_left _ (List.mem_append_right _ h))) hH 0 rfl rfl 3 (by decide) (by decide +kernel) rfl dX1_grant_1 ?_
  refine lv_iload_n zx zy dX1_grant_4 rfl (lv_at hl 1 rfl) ?_
  refine lv_iload_n zx zy dX1_grant_5 rfl (lv_at hl 2 rfl) ?_
  refine fx_cVv (n := 2) (As := [.int (nI i), .int n]) (b := r3) (rest := []) (fun (u : (Nat → Int32)) => [(h, .inr (1, [.ref r0, .ref r1, .ref r2, .ref r3, .int (nI k)])), (r3, .inr (6, [.ref a3])), (a3, .inl (cI, 40, .inl u))]) hC hA hH (k_X6_put l D cI cZ r3 a3 40 f3 (nI i) n (by first | assumption | omega)) [1, 2] [0] [0, 1, 2] [(h, .inr (1, [.ref r0, .ref r1, .ref r2, .ref r3, .int (nI k)]))] rfl rfl (by decide) (by decide) (fun _ => rfl) rfl gX1_grant_X6_put (by decide +kernel) ⟨Nat.le_of_ble_eq_true rfl, Nat.le_of_ble_eq_true rfl⟩ 0 rfl rfl rfl rfl rfl hl.1 (Nat.le_of_ble_eq_true rfl) ⟨Nat.le_of_ble_eq_true rfl, Nat.le_of_ble_eq_true rfl⟩ dX1_grant_6 (fun u H locs hw6 hH => ?_)
  obtain ⟨u2, rfl⟩ : ∃ z, z = u := ⟨_, rfl⟩
  obtain rfl : u2 = rPut 40 f3 (nI i) n := hw6
  have hH := (hH : fx_H zA zs.heap H locs D [(h, .inr (1, [.ref r0, .ref r1, .ref r2, .ref r3, .int (nI k)])), (r3, .inr (6, [.ref a3])), (a3, .inl (cI, 40, .inl (rPut 40 f3 (nI i) n)))])
  rw [show (rPut 40 f3 (nI i) n : Nat → Int32) = upd f3 i n from rPut_nI hi (by omega)] at hH
  exact fx_vret hQ hC hr hlk hH dX1_grant_9 (Nat.le_of_ble_eq_true rfl) (Nat.le_of_ble_eq_true rfl) (upd f3 i n) rfl (rfl)
set_option maxHeartbeats 4000000 in
set_option maxRecDepth 100000 in
theorem k_X1_forget (l : Launch) (D : va_G) (cI cZ : ClassId) (h : Nat) (r0 : Nat) (r1 : Nat) (r2 : Nat) (r3 : Nat) (k : Nat) : fx_CV l D cI cZ yX1_forget wsX1_forget ({ frames := 0, cells := 0, slots := 0, locals := 0 }) [.ref h] [(h, .inr (1, [.ref r0, .ref r1, .ref r2, .ref r3, .int (nI k)]))] (fun (u : (Nat)) => [(h, .inr (1, [.ref r0, .ref r1, .ref r2, .ref r3, .int (nI u)]))]) (fun (u : (Nat)) => u = 0) := by
  refine fx_CV.of (ws' := (wsX1_forget).tail) cX1_forget 1 (by decide) rfl (Nat.le_of_ble_eq_true rfl) ?_
  intro zp ze zs zm za zb zt zc zA ls zQ hQ hC hr hlk hnm hA hH hl
  have zx := hC.1.1
  have zy := hC.1.2.1
  have hl : lv_has ls 1 [(0, .ref h)] := hl
  refine lv_aload_n zx zy dX1_forget_0 rfl (lv_at hl 0 rfl) ?_
  refine lv_iconst (v := 0) zx zy dX1_forget_1 (by decide) ?_
  refine lv_topi (fun v1 ev1 => ?_)
  obtain rfl : v1 = nI 0 := ev1.trans (rfl)
  refine fx_put (C := RX1) (T := TX1) (N := 5) (ty := .int) (ws2 := [(h, .inr (1, [.ref r0, .ref r1, .ref r2, .ref r3, .int (nI 0)]))]) hC (fun _ h => List.mem_cons_of_mem _ (List.mem_append_right _ h)) tyX1_ok nmX1 hH 0 rfl rfl 4 (by decide) (by decide +kernel) rfl rfl rfl rfl (Nat.le_of_ble_eq_true rfl) rfl dX1_forget_2 (fun H locs hH => ?_)
  exact fx_vret hQ hC hr hlk hH dX1_forget_5 (Nat.le_of_ble_eq_true rfl) (Nat.le_of_ble_eq_true rfl) (0) rfl (rfl)
set_option maxHeartbeats 4000000 in
set_option maxRecDepth 100000 in
theorem k_X1_many (l : Launch) (D : va_G) (cI cZ : ClassId) (h : Nat) (r0 : Nat) (r1 : Nat) (r2 : Nat) (r3 : Nat) (k : Nat) : fx_CI l D cI cZ yX1_many wsX1_many ({ frames := 0, cells := 0, slots := 0, locals := 0 }) [.ref h] [(h, .inr (1, [.ref r0, .ref r1, .ref r2, .ref r3, .int (nI k)]))] (fun (u : Unit) => [(h, .inr (1, [.ref r0, .ref r1, .ref r2, .ref r3, .int (nI k)]))]) (fun (r : Int32) (u : Unit) => r = nI k) := by
  refine fx_CI.of (ws' := (wsX1_many).tail) cX1_many 1 (by decide) rfl (Nat.le_of_ble_eq_true rfl) ?_
  intro zp ze zs zm za zb zt zc zA ls zQ hQ hC hr hlk hA hH hl
  have zx := hC.1.1
  have zy := hC.1.2.1
  have hl : lv_has ls 1 [(0, .ref h)] := hl
  refine lv_aload_n zx zy dX1_many_0 rfl (lv_at hl 0 rfl) ?_
  refine fx_get (C := RX1) (T := TX1) (N := 5) hC (fun _ h => List.mem_cons_of_mem _ (List.mem_append_right _ h)) hH 0 rfl rfl 4 (by decide) (by decide +kernel) rfl dX1_many_1 ?_
  exact fx_iret (v := nI k) hQ hC hr hlk hH dX1_many_4 rfl (Nat.le_of_ble_eq_true rfl) (Nat.le_of_ble_eq_true rfl) (()) rfl (rfl)
set_option maxHeartbeats 4000000 in
set_option maxRecDepth 100000 in
theorem k_X1_who (l : Launch) (D : va_G) (cI cZ : ClassId) (h : Nat) (r0 : Nat) (r1 : Nat) (r2 : Nat) (r3 : Nat) (k : Nat) (a0 : Nat) (f0 : Nat → Int32) (i : Nat) (hi : i < 40) : fx_CI l D cI cZ yX1_who wsX1_who ({ frames := 1, cells := 0, slots := 0, locals := 21 }) [.ref h, .int (nI i)] [(h, .inr (1, [.ref r0, .ref r1, .ref r2, .ref r3, .int (nI k)])), (r0, .inr (6, [.ref a0])), (a0, .inl (cI, 40, .inl f0))] (fun (u : Unit) => [(h, .inr (1, [.ref r0, .ref r1, .ref r2, .ref r3, .int (nI k)])), (r0, .inr (6, [.ref a0])), (a0, .inl (cI, 40, .inl f0))]) (fun (r : Int32) (u : Unit) => r = f0 i) := by
  refine fx_CI.of (ws' := (wsX1_who).tail) cX1_who 2 (by decide) rfl (Nat.le_of_ble_eq_true rfl) ?_
  intro zp ze zs zm za zb zt zc zA ls zQ hQ hC hr hlk hA hH hl
  have zx := hC.1.1
  have zy := hC.1.2.1
  have hl : lv_has ls 2 [(0, .ref h), (1, .int (nI i))] := hl
  refine lv_aload_n zx zy dX1_who_0 rfl (lv_at hl 0 rfl) ?_
  refine fx_get (C := RX1) (T := TX1) (N := 5) hC (fun _ h => List.mem_cons_of_mem _ (List.mem_append_left _ (List.mem_append_right _ h))) hH 0 rfl rfl 0 (by decide) (by decide +kernel) rfl dX1_who_1 ?_
  refine lv_iload_n zx zy dX1_who_4 rfl (lv_at hl 1 rfl) ?_
  refine fx_cVi (n := 1) (As := [.int (nI i)]) (b := r0) (rest := []) (fun (u : Unit) => [(h, .inr (1, [.ref r0, .ref r1, .ref r2, .ref r3, .int (nI k)])), (r0, .inr (6, [.ref a0])), (a0, .inl (cI, 40, .inl f0))]) hC hA hH (k_X6_at l D cI cZ r0 a0 40 f0 (nI i) (by first | assumption | omega)) [1, 2] [0] [0, 1, 2] [(h, .inr (1, [.ref r0, .ref r1, .ref r2, .ref r3, .int (nI k)]))] rfl rfl (by decide) (by decide) (fun _ => rfl) rfl gX1_who_X6_at (by decide +kernel) ⟨Nat.le_of_ble_eq_true rfl, Nat.le_of_ble_eq_true rfl⟩ 0 rfl rfl rfl rfl rfl hl.1 (Nat.le_of_ble_eq_true rfl) ⟨Nat.le_of_ble_eq_true rfl, Nat.le_of_ble_eq_true rfl⟩ dX1_who_5 (fun r1 u H locs hw5 hH => ?_)
  obtain rfl : r1 = rAt 40 f0 (nI i) := hw5
  have hH := (hH : fx_H zA zs.heap H locs D [(h, .inr (1, [.ref r0, .ref r1, .ref r2, .ref r3, .int (nI k)])), (r0, .inr (6, [.ref a0])), (a0, .inl (cI, 40, .inl f0))])
  refine lv_topi (fun v2 ev2 => ?_)
  obtain rfl : v2 = f0 i := ev2.trans (rAt_nI hi (by omega))
  exact fx_iret (v := f0 i) hQ hC hr hlk hH dX1_who_8 rfl (Nat.le_of_ble_eq_true rfl) (Nat.le_of_ble_eq_true rfl) (()) rfl (rfl)
set_option maxHeartbeats 4000000 in
set_option maxRecDepth 100000 in
theorem k_X1_wanted (l : Launch) (D : va_G) (cI cZ : ClassId) (h : Nat) (r0 : Nat) (r1 : Nat) (r2 : Nat) (r3 : Nat) (k : Nat) (a1 : Nat) (f1 : Nat → Int32) (i : Nat) (hi : i < 40) : fx_CI l D cI cZ yX1_wanted wsX1_wanted ({ frames := 1, cells := 0, slots := 0, locals := 21 }) [.ref h, .int (nI i)] [(h, .inr (1, [.ref r0, .ref r1, .ref r2, .ref r3, .int (nI k)])), (r1, .inr (6, [.ref a1])), (a1, .inl (cI, 40, .inl f1))] (fun (u : Unit) => [(h, .inr (1, [.ref r0, .ref r1, .ref r2, .ref r3, .int (nI k)])), (r1, .inr (6, [.ref a1])), (a1, .inl (cI, 40, .inl f1))]) (fun (r : Int32) (u : Unit) => r = f1 i) := by
  refine fx_CI.of (ws' := (wsX1_wanted).tail) cX1_wanted 2 (by decide) rfl (Nat.le_of_ble_eq_true rfl) ?_
  intro zp ze zs zm za zb zt zc zA ls zQ hQ hC hr hlk hA hH hl
  have zx := hC.1.1
  have zy := hC.1.2.1
  have hl : lv_has ls 2 [(0, .ref h), (1, .int (nI i))] := hl
  refine lv_aload_n zx zy dX1_wanted_0 rfl (lv_at hl 0 rfl) ?_
  refine fx_get (C := RX1) (T := TX1) (N := 5) hC (fun _ h => List.mem_cons_of_mem _ (List.mem_append_left _ (List.mem_append_right _ h))) hH 0 rfl rfl 1 (by decide) (by decide +kernel) rfl dX1_wanted_1 ?_
  refine lv_iload_n zx zy dX1_wanted_4 rfl (lv_at hl 1 rfl) ?_
  refine fx_cVi (n := 1) (As := [.int (nI i)]) (b := r1) (rest := []) (fun (u : Unit) => [(h, .inr (1, [.ref r0, .ref r1, .ref r2, .ref r3, .int (nI k)])), (r1, .inr (6, [.ref a1])), (a1, .inl (cI, 40, .inl f1))]) hC hA hH (k_X6_at l D cI cZ r1 a1 40 f1 (nI i) (by first | assumption | omega)) [1, 2] [0] [0, 1, 2] [(h, .inr (1, [.ref r0, .ref r1, .ref r2, .ref r3, .int (nI k)]))] rfl rfl (by decide) (by decide) (fun _ => rfl) rfl gX1_wanted_X6_at (by decide +kernel) ⟨Nat.le_of_ble_eq_true rfl, Nat.le_of_ble_eq_true rfl⟩ 0 rfl rfl rfl rfl rfl hl.1 (Nat.le_of_ble_eq_true rfl) ⟨Nat.le_of_ble_eq_true rfl, Nat.le_of_ble_eq_true rfl⟩ dX1_wanted_5 (fun r1 u H locs hw5 hH => ?_)
  obtain rfl : r1 = rAt 40 f1 (nI i) := hw5
  have hH := (hH : fx_H zA zs.heap H locs D [(h, .inr (1, [.ref r0, .ref r1, .ref r2, .ref r3, .int (nI k)])), (r1, .inr (6, [.ref a1])), (a1, .inl (cI, 40, .inl f1))])
  refine lv_topi (fun v2 ev2 => ?_)
  obtain rfl : v2 = f1 i := ev2.trans (rAt_nI hi (by omega))
  exact fx_iret (v := f1 i) hQ hC hr hlk hH dX1_wanted_8 rfl (Nat.le_of_ble_eq_true rfl) (Nat.le_of_ble_eq_true rfl) (()) rfl (rfl)
set_option maxHeartbeats 4000000 in
set_option maxRecDepth 100000 in
theorem k_X1_price (l : Launch) (D : va_G) (cI cZ : ClassId) (h : Nat) (r0 : Nat) (r1 : Nat) (r2 : Nat) (r3 : Nat) (k : Nat) (a2 : Nat) (f2 : Nat → Int32) (i : Nat) (hi : i < 40) : fx_CI l D cI cZ yX1_price wsX1_price ({ frames := 1, cells := 0, slots := 0, locals := 21 }) [.ref h, .int (nI i)] [(h, .inr (1, [.ref r0, .ref r1, .ref r2, .ref r3, .int (nI k)])), (r2, .inr (6, [.ref a2])), (a2, .inl (cI, 40, .inl f2))] (fun (u : Unit) => [(h, .inr (1, [.ref r0, .ref r1, .ref r2, .ref r3, .int (nI k)])), (r2, .inr (6, [.ref a2])), (a2, .inl (cI, 40, .inl f2))]) (fun (r : Int32) (u : Unit) => r = f2 i) := by
  refine fx_CI.of (ws' := (wsX1_price).tail) cX1_price 2 (by decide) rfl (Nat.le_of_ble_eq_true rfl) ?_
  intro zp ze zs zm za zb zt zc zA ls zQ hQ hC hr hlk hA hH hl
  have zx := hC.1.1
  have zy := hC.1.2.1
  have hl : lv_has ls 2 [(0, .ref h), (1, .int (nI i))] := hl
  refine lv_aload_n zx zy dX1_price_0 rfl (lv_at hl 0 rfl) ?_
  refine fx_get (C := RX1) (T := TX1) (N := 5) hC (fun _ h => List.mem_cons_of_mem _ (List.mem_append_left _ (List.mem_append_right _ h))) hH 0 rfl rfl 2 (by decide) (by decide +kernel) rfl dX1_price_1 ?_
  refine lv_iload_n zx zy dX1_price_4 rfl (lv_at hl 1 rfl) ?_
  refine fx_cVi (n := 1) (As := [.int (nI i)]) (b := r2) (rest := []) (fun (u : Unit) => [(h, .inr (1, [.ref r0, .ref r1, .ref r2, .ref r3, .int (nI k)])), (r2, .inr (6, [.ref a2])), (a2, .inl (cI, 40, .inl f2))]) hC hA hH (k_X6_at l D cI cZ r2 a2 40 f2 (nI i) (by first | assumption | omega)) [1, 2] [0] [0, 1, 2] [(h, .inr (1, [.ref r0, .ref r1, .ref r2, .ref r3, .int (nI k)]))] rfl rfl (by decide) (by decide) (fun _ => rfl) rfl gX1_price_X6_at (by decide +kernel) ⟨Nat.le_of_ble_eq_true rfl, Nat.le_of_ble_eq_true rfl⟩ 0 rfl rfl rfl rfl rfl hl.1 (Nat.le_of_ble_eq_true rfl) ⟨Nat.le_of_ble_eq_true rfl, Nat.le_of_ble_eq_true rfl⟩ dX1_price_5 (fun r1 u H locs hw5 hH => ?_)
  obtain rfl : r1 = rAt 40 f2 (nI i) := hw5
  have hH := (hH : fx_H zA zs.heap H locs D [(h, .inr (1, [.ref r0, .ref r1, .ref r2, .ref r3, .int (nI k)])), (r2, .inr (6, [.ref a2])), (a2, .inl (cI, 40, .inl f2))])
  refine lv_topi (fun v2 ev2 => ?_)
  obtain rfl : v2 = f2 i := ev2.trans (rAt_nI hi (by omega))
  exact fx_iret (v := f2 i) hQ hC hr hlk hH dX1_price_8 rfl (Nat.le_of_ble_eq_true rfl) (Nat.le_of_ble_eq_true rfl) (()) rfl (rfl)
set_option maxHeartbeats 4000000 in
set_option maxRecDepth 100000 in
theorem k_X1_got (l : Launch) (D : va_G) (cI cZ : ClassId) (h : Nat) (r0 : Nat) (r1 : Nat) (r2 : Nat) (r3 : Nat) (k : Nat) (a3 : Nat) (f3 : Nat → Int32) (i : Nat) (hi : i < 40) : fx_CI l D cI cZ yX1_got wsX1_got ({ frames := 1, cells := 0, slots := 0, locals := 21 }) [.ref h, .int (nI i)] [(h, .inr (1, [.ref r0, .ref r1, .ref r2, .ref r3, .int (nI k)])), (r3, .inr (6, [.ref a3])), (a3, .inl (cI, 40, .inl f3))] (fun (u : Unit) => [(h, .inr (1, [.ref r0, .ref r1, .ref r2, .ref r3, .int (nI k)])), (r3, .inr (6, [.ref a3])), (a3, .inl (cI, 40, .inl f3))]) (fun (r : Int32) (u : Unit) => r = f3 i) := by
  refine fx_CI.of (ws' := (wsX1_got).tail) cX1_got 2 (by decide) rfl (Nat.le_of_ble_eq_true rfl) ?_
  intro zp ze zs zm za zb zt zc zA ls zQ hQ hC hr hlk hA hH hl
  have zx := hC.1.1
  have zy := hC.1.2.1
  have hl : lv_has ls 2 [(0, .ref h), (1, .int (nI i))] := hl
  refine lv_aload_n zx zy dX1_got_0 rfl (lv_at hl 0 rfl) ?_
  refine fx_get (C := RX1) (T := TX1) (N := 5) hC (fun _ h => List.mem_cons_of_mem _ (List.mem_append_left _ (List.mem_append_right _ h))) hH 0 rfl rfl 3 (by decide) (by decide +kernel) rfl dX1_got_1 ?_
  refine lv_iload_n zx zy dX1_got_4 rfl (lv_at hl 1 rfl) ?_
  refine fx_cVi (n := 1) (As := [.int (nI i)]) (b := r3) (rest := []) (fun (u : Unit) => [(h, .inr (1, [.ref r0, .ref r1, .ref r2, .ref r3, .int (nI k)])), (r3, .inr (6, [.ref a3])), (a3, .inl (cI, 40, .inl f3))]) hC hA hH (k_X6_at l D cI cZ r3 a3 40 f3 (nI i) (by first | assumption | omega)) [1, 2] [0] [0, 1, 2] [(h, .inr (1, [.ref r0, .ref r1, .ref r2, .ref r3, .int (nI k)]))] rfl rfl (by decide) (by decide) (fun _ => rfl) rfl gX1_got_X6_at (by decide +kernel) ⟨Nat.le_of_ble_eq_true rfl, Nat.le_of_ble_eq_true rfl⟩ 0 rfl rfl rfl rfl rfl hl.1 (Nat.le_of_ble_eq_true rfl) ⟨Nat.le_of_ble_eq_true rfl, Nat.le_of_ble_eq_true rfl⟩ dX1_got_5 (fun r1 u H locs hw5 hH => ?_)
  obtain rfl : r1 = rAt 40 f3 (nI i) := hw5
  have hH := (hH : fx_H zA zs.heap H locs D [(h, .inr (1, [.ref r0, .ref r1, .ref r2, .ref r3, .int (nI k)])), (r3, .inr (6, [.ref a3])), (a3, .inl (cI, 40, .inl f3))])
  refine lv_topi (fun v2 ev2 => ?_)
  obtain rfl : v2 = f3 i := ev2.trans (rAt_nI hi (by omega))
  exact fx_iret (v := f3 i) hQ hC hr hlk hH dX1_got_8 rfl (Nat.le_of_ble_eq_true rfl) (Nat.le_of_ble_eq_true rfl) (()) rfl (rfl)
end
section
abbrev cbB (f0 f2 : Nat → Int32) (i : Nat) (w c : Int32) : Prop := c < f2 i ∨ (f2 i = c ∧ ¬ f0 i ≤ w)
def ofP (f0 f2 : Nat → Int32) (w c : Int32) : Nat → Nat
  | 0 => 0
  | p + 1 => if cbB f0 f2 p w c then ofP f0 f2 w c p else p + 1
theorem ofP_le (f0 f2 : Nat → Int32) (w c : Int32) : ∀ k, ofP f0 f2 w c k ≤ k
  | 0 => Nat.le_refl _
  | k + 1 => by
    have := ofP_le f0 f2 w c k
    unfold ofP
    split <;> omega
theorem ofP_s {f0 f2 : Nat → Int32} {w c : Int32} {p : Nat} (hp : 0 < p) (h : cbB f0 f2 (p - 1) w c) : ofP f0 f2 w c p = ofP f0 f2 w c (p - 1) := by
  obtain ⟨q, rfl⟩ : ∃ q, p = q + 1 := ⟨p - 1, by omega⟩
  exact if_pos h
theorem ofP_e {f0 f2 : Nat → Int32} {w c : Int32} {p : Nat} (hp : 0 < p) (h : ¬ cbB f0 f2 (p - 1) w c) : ofP f0 f2 w c p = p := by
  obtain ⟨q, rfl⟩ : ∃ q, p = q + 1 := ⟨p - 1, by omega⟩
  exact if_neg h
def csL (f1 : Nat → Int32) (n : Int32) : Nat → Int32
  | 0 => n
  | i + 1 => csL f1 n i - (if f1 i < csL f1 n i then f1 i else csL f1 n i)
def csM (f1 : Nat → Int32) (n : Int32) (i : Nat) : Int32 := if f1 i < csL f1 n i then f1 i else csL f1 n i
def csS (f1 f2 : Nat → Int32) (n : Int32) : Nat → Int32
  | 0 => 0
  | i + 1 => csS f1 f2 n i + csM f1 n i * f2 i
def csP (f0 f1 : Nat → Int32) (n w : Int32) : Nat → Int32
  | 0 => 0
  | i + 1 => csP f0 f1 n w i + (if f0 i = w then csM f1 n i else 0)
def deG (f1 f2 : Nat → Int32) : Nat → Nat → Int32 → Int32 → Int32
  | 0, _, _, d => d
  | fu + 1, i, l, d => if l ≤ 0 then d else deG f1 f2 fu (i + 1) (l - f1 i) (f2 i)
theorem deG_s {f1 f2 : Nat → Int32} {k i : Nat} {l d : Int32} (hi : i < k) (h : ¬ l ≤ 0) : deG f1 f2 (k - i) i l d = deG f1 f2 (k - (i + 1)) (i + 1) (l - f1 i) (f2 i) := by
  obtain ⟨e, h2⟩ : ∃ e, k - i = e + 1 := ⟨k - i - 1, by omega⟩
  rw [h2, show k - (i + 1) = e by omega]
  exact if_neg h
theorem deG_e {f1 f2 : Nat → Int32} {k i : Nat} {l d : Int32} (h : l ≤ 0) : deG f1 f2 (k - i) i l d = d := by
  cases k - i with
  | zero => rfl
  | succ e => exact if_pos h
set_option maxHeartbeats 4000000 in
set_option maxRecDepth 100000 in
theorem k_X2_canBe (l : Launch) (D : va_G) (cI cZ : ClassId) (h : Nat) (r0 : Nat) (r1 : Nat) (r2 : Nat) (r3 : Nat) (k : Nat) (al : Int32) (n : Int32) : fx_CI l D cI cZ yX2_canBe wsX2_canBe ({ frames := 0, cells := 0, slots := 0, locals := 0 }) [.ref h, .int n] [(h, .inr (2, [.ref r0, .ref r1, .ref r2, .ref r3, .int (nI k), .int al]))] (fun (u : Unit) => [(h, .inr (2, [.ref r0, .ref r1, .ref r2, .ref r3, .int (nI k), .int al]))]) (fun (r : Int32) (u : Unit) => ((¬ n < 0 ∧ ¬ al < n) ∧ r = 1) ∨ ((n < 0 ∨ al < n) ∧ r = 0)) := by
  refine fx_CI.of (ws' := (wsX2_canBe).tail) cX2_canBe 2 (by decide) rfl (Nat.le_of_ble_eq_true rfl) ?_
  intro zp ze zs zm za zb zt zc zA ls zQ hQ hC hr hlk hA hH hl
  have zx := hC.1.1
  have zy := hC.1.2.1
  have hl : lv_has ls 2 [(0, .ref h), (1, .int n)] := hl
  refine lv_iload_n zx zy dX2_canBe_0 rfl (lv_at hl 1 rfl) ?_
  refine lv_if_lt (tgt := 16) zx zy dX2_canBe_1 (by decide) (fun c1 => ?_) (fun c1 => ?_)
  · skip
    refine lv_iconst (v := 0) zx zy dX2_canBe_16 (by decide) ?_
    exact fx_iret (v := 0) hQ hC hr hlk hH dX2_canBe_17 rfl (Nat.le_of_ble_eq_true rfl) (Nat.le_of_ble_eq_true rfl) (()) rfl (by first | exact Or.inl ⟨⟨c1, c9⟩, rfl⟩ | exact Or.inr ⟨Or.inl c1, rfl⟩ | exact Or.inr ⟨Or.inr c9, rfl⟩)
  · skip
    refine lv_iload_n zx zy dX2_canBe_4 rfl (lv_at hl 1 rfl) ?_
    refine lv_aload_n zx zy dX2_canBe_5 rfl (lv_at hl 0 rfl) ?_
    refine fx_get (C := RX2) (T := TX2) (N := 6) hC (fun _ h => List.mem_cons_of_mem _ (List.mem_append_right _ h)) hH 0 rfl rfl 5 (by decide) (by decide +kernel) rfl dX2_canBe_6 ?_
    refine lv_icmp_gt (tgt := 16) zx zy dX2_canBe_9 (by decide) (fun c9 => ?_) (fun c9 => ?_)
    · skip
      refine lv_iconst (v := 0) zx zy dX2_canBe_16 (by decide) ?_
      exact fx_iret (v := 0) hQ hC hr hlk hH dX2_canBe_17 rfl (Nat.le_of_ble_eq_true rfl) (Nat.le_of_ble_eq_true rfl) (()) rfl (by first | exact Or.inl ⟨⟨c1, c9⟩, rfl⟩ | exact Or.inr ⟨Or.inl c1, rfl⟩ | exact Or.inr ⟨Or.inr c9, rfl⟩)
    · skip
      refine lv_iconst (v := 1) zx zy dX2_canBe_12 (by decide) ?_
      refine lv_goto (tgt := 17) zx zy dX2_canBe_13 (by decide) ?_
      exact fx_iret (v := 1) hQ hC hr hlk hH dX2_canBe_17 rfl (Nat.le_of_ble_eq_true rfl) (Nat.le_of_ble_eq_true rfl) (()) rfl (by first | exact Or.inl ⟨⟨c1, c9⟩, rfl⟩ | exact Or.inr ⟨Or.inl c1, rfl⟩ | exact Or.inr ⟨Or.inr c9, rfl⟩)
set_option maxHeartbeats 4000000 in
set_option maxRecDepth 100000 in
theorem k_X2_comesBehind (l : Launch) (D : va_G) (cI cZ : ClassId) (h : Nat) (r0 : Nat) (r1 : Nat) (r2 : Nat) (r3 : Nat) (k : Nat) (al : Int32) (a0 : Nat) (a2 : Nat) (f0 : Nat → Int32) (f2 : Nat → Int32) (i : Nat) (w : Int32) (c : Int32) (hi : i < 40) : fx_CI l D cI cZ yX2_comesBehind wsX2_comesBehind ({ frames := 1, cells := 0, slots := 0, locals := 21 }) [.ref h, .int (nI i), .int w, .int c] [(h, .inr (2, [.ref r0, .ref r1, .ref r2, .ref r3, .int (nI k), .int al])), (r0, .inr (6, [.ref a0])), (a0, .inl (cI, 40, .inl f0)), (r2, .inr (6, [.ref a2])), (a2, .inl (cI, 40, .inl f2))] (fun (u : Unit) => [(h, .inr (2, [.ref r0, .ref r1, .ref r2, .ref r3, .int (nI k), .int al])), (r0, .inr (6, [.ref a0])), (a0, .inl (cI, 40, .inl f0)), (r2, .inr (6, [.ref a2])), (a2, .inl (cI, 40, .inl f2))]) (fun (r : Int32) (u : Unit) => ((cbB f0 f2 i w c) ∧ r = 1) ∨ ((¬ cbB f0 f2 i w c) ∧ r = 0)) := by
  refine fx_CI.of (ws' := (wsX2_comesBehind).tail) cX2_comesBehind 4 (by decide) rfl (Nat.le_of_ble_eq_true rfl) ?_
  intro zp ze zs zm za zb zt zc zA ls zQ hQ hC hr hlk hA hH hl
  have zx := hC.1.1
  have zy := hC.1.2.1
  have hl : lv_has ls 4 [(0, .ref h), (1, .int (nI i)), (2, .int w), (3, .int c)] := hl
  refine lv_aload_n zx zy dX2_comesBehind_0 rfl (lv_at hl 0 rfl) ?_
  refine fx_get (C := RX2) (T := TX2) (N := 6) hC (fun _ h => List.mem_cons_of_mem _ (List.mem_append_left _ (List.mem_append_right _ h))) hH 0 rfl rfl 2 (by decide) (by decide +kernel) rfl dX2_comesBehind_1 ?_
  refine lv_iload_n zx zy dX2_comesBehind_4 rfl (lv_at hl 1 rfl) ?_
  refine fx_cVi (n := 1) (As := [.int (nI i)]) (b := r2) (rest := []) (fun (u : Unit) => [(h, .inr (2, [.ref r0, .ref r1, .ref r2, .ref r3, .int (nI k), .int al])), (r0, .inr (6, [.ref a0])), (a0, .inl (cI, 40, .inl f0)), (r2, .inr (6, [.ref a2])), (a2, .inl (cI, 40, .inl f2))]) hC hA hH (k_X6_at l D cI cZ r2 a2 40 f2 (nI i) (by first | assumption | omega)) [3, 4] [0, 1, 2] [0, 1, 2, 3, 4] [(h, .inr (2, [.ref r0, .ref r1, .ref r2, .ref r3, .int (nI k), .int al])), (r0, .inr (6, [.ref a0])), (a0, .inl (cI, 40, .inl f0))] rfl rfl (by decide) (by decide) (fun _ => rfl) rfl gX2_comesBehind_X6_at (by decide +kernel) ⟨Nat.le_of_ble_eq_true rfl, Nat.le_of_ble_eq_true rfl⟩ 0 rfl rfl rfl rfl rfl hl.1 (Nat.le_of_ble_eq_true rfl) ⟨Nat.le_of_ble_eq_true rfl, Nat.le_of_ble_eq_true rfl⟩ dX2_comesBehind_5 (fun r1 u H locs hw5 hH => ?_)
  obtain rfl : r1 = rAt 40 f2 (nI i) := hw5
  have hH := (hH : fx_H zA zs.heap H locs D [(h, .inr (2, [.ref r0, .ref r1, .ref r2, .ref r3, .int (nI k), .int al])), (r0, .inr (6, [.ref a0])), (a0, .inl (cI, 40, .inl f0)), (r2, .inr (6, [.ref a2])), (a2, .inl (cI, 40, .inl f2))])
  refine lv_topi (fun v2 ev2 => ?_)
  obtain rfl : v2 = f2 i := ev2.trans (rAt_nI hi (by omega))
  refine lv_iload_n zx zy dX2_comesBehind_8 rfl (lv_at hl 3 rfl) ?_
  refine lv_icmp_gt (tgt := 36) zx zy dX2_comesBehind_9 (by decide) (fun c9 => ?_) (fun c9 => ?_)
  · skip
    refine lv_iconst (v := 1) zx zy dX2_comesBehind_36 (by decide) ?_
    refine lv_goto (tgt := 41) zx zy dX2_comesBehind_37 (by decide) ?_
    exact fx_iret (v := 1) hQ hC hr hlk hH dX2_comesBehind_41 rfl (Nat.le_of_ble_eq_true rfl) (Nat.le_of_ble_eq_true rfl) (()) rfl (by first | exact Or.inl ⟨Or.inl c9, rfl⟩ | exact Or.inl ⟨Or.inr ⟨c21, c33⟩, rfl⟩ | exact Or.inr ⟨fun q => q.elim c9 (fun z => c21 z.1), rfl⟩ | exact Or.inr ⟨fun q => q.elim c9 (fun z => z.2 c33), rfl⟩)
  · skip
    refine lv_aload_n zx zy dX2_comesBehind_12 rfl (lv_at hl 0 rfl) ?_
    refine fx_get (C := RX2) (T := TX2) (N := 6) hC (fun _ h => List.mem_cons_of_mem _ (List.mem_append_left _ (List.mem_append_right _ h))) hH 0 rfl rfl 2 (by decide) (by decide +kernel) rfl dX2_comesBehind_13 ?_
    refine lv_iload_n zx zy dX2_comesBehind_16 rfl (lv_at hl 1 rfl) ?_
    refine fx_cVi (n := 1) (As := [.int (nI i)]) (b := r2) (rest := []) (fun (u : Unit) => [(h, .inr (2, [.ref r0, .ref r1, .ref r2, .ref r3, .int (nI k), .int al])), (r0, .inr (6, [.ref a0])), (a0, .inl (cI, 40, .inl f0)), (r2, .inr (6, [.ref a2])), (a2, .inl (cI, 40, .inl f2))]) hC hA hH (k_X6_at l D cI cZ r2 a2 40 f2 (nI i) (by first | assumption | omega)) [3, 4] [0, 1, 2] [0, 1, 2, 3, 4] [(h, .inr (2, [.ref r0, .ref r1, .ref r2, .ref r3, .int (nI k), .int al])), (r0, .inr (6, [.ref a0])), (a0, .inl (cI, 40, .inl f0))] rfl rfl (by decide) (by decide) (fun _ => rfl) rfl gX2_comesBehind_X6_at (by decide +kernel) ⟨Nat.le_of_ble_eq_true rfl, Nat.le_of_ble_eq_true rfl⟩ 0 rfl rfl rfl rfl rfl hl.1 (Nat.le_of_ble_eq_true rfl) ⟨Nat.le_of_ble_eq_true rfl, Nat.le_of_ble_eq_true rfl⟩ dX2_comesBehind_17 (fun r3 u H locs hw17 hH => ?_)
    obtain rfl : r3 = rAt 40 f2 (nI i) := hw17
    have hH := (hH : fx_H zA zs.heap H locs D [(h, .inr (2, [.ref r0, .ref r1, .ref r2, .ref r3, .int (nI k), .int al])), (r0, .inr (6, [.ref a0])), (a0, .inl (cI, 40, .inl f0)), (r2, .inr (6, [.ref a2])), (a2, .inl (cI, 40, .inl f2))])
    refine lv_topi (fun v4 ev4 => ?_)
    obtain rfl : v4 = f2 i := ev4.trans (rAt_nI hi (by omega))
    refine lv_iload_n zx zy dX2_comesBehind_20 rfl (lv_at hl 3 rfl) ?_
    refine lv_icmp_ne (tgt := 40) zx zy dX2_comesBehind_21 (by decide) (fun c21 => ?_) (fun c21 => ?_)
    · skip
      refine lv_iconst (v := 0) zx zy dX2_comesBehind_40 (by decide) ?_
      exact fx_iret (v := 0) hQ hC hr hlk hH dX2_comesBehind_41 rfl (Nat.le_of_ble_eq_true rfl) (Nat.le_of_ble_eq_true rfl) (()) rfl (by first | exact Or.inl ⟨Or.inl c9, rfl⟩ | exact Or.inl ⟨Or.inr ⟨c21, c33⟩, rfl⟩ | exact Or.inr ⟨fun q => q.elim c9 (fun z => c21 z.1), rfl⟩ | exact Or.inr ⟨fun q => q.elim c9 (fun z => z.2 c33), rfl⟩)
    · skip
      refine lv_aload_n zx zy dX2_comesBehind_24 rfl (lv_at hl 0 rfl) ?_
      refine fx_get (C := RX2) (T := TX2) (N := 6) hC (fun _ h => List.mem_cons_of_mem _ (List.mem_append_left _ (List.mem_append_right _ h))) hH 0 rfl rfl 0 (by decide) (by decide +kernel) rfl dX2_comesBehind_25 ?_
      refine lv_iload_n zx zy dX2_comesBehind_28 rfl (lv_at hl 1 rfl) ?_
      refine fx_cVi (n := 1) (As := [.int (nI i)]) (b := r0) (rest := []) (fun (u : Unit) => [(h, .inr (2, [.ref r0, .ref r1, .ref r2, .ref r3, .int (nI k), .int al])), (r0, .inr (6, [.ref a0])), (a0, .inl (cI, 40, .inl f0)), (r2, .inr (6, [.ref a2])), (a2, .inl (cI, 40, .inl f2))]) hC hA hH (k_X6_at l D cI cZ r0 a0 40 f0 (nI i) (by first | assumption | omega)) [1, 2] [0, 3, 4] [0, 3, 4, 1, 2] [(h, .inr (2, [.ref r0, .ref r1, .ref r2, .ref r3, .int (nI k), .int al])), (r2, .inr (6, [.ref a2])), (a2, .inl (cI, 40, .inl f2))] rfl rfl (by decide) (by decide) (fun _ => rfl) rfl gX2_comesBehind_X6_at (by decide +kernel) ⟨Nat.le_of_ble_eq_true rfl, Nat.le_of_ble_eq_true rfl⟩ 0 rfl rfl rfl rfl rfl hl.1 (Nat.le_of_ble_eq_true rfl) ⟨Nat.le_of_ble_eq_true rfl, Nat.le_of_ble_eq_true rfl⟩ dX2_comesBehind_29 (fun r5 u H locs hw29 hH => ?_)
      obtain rfl : r5 = rAt 40 f0 (nI i) := hw29
      have hH := (hH : fx_H zA zs.heap H locs D [(h, .inr (2, [.ref r0, .ref r1, .ref r2, .ref r3, .int (nI k), .int al])), (r0, .inr (6, [.ref a0])), (a0, .inl (cI, 40, .inl f0)), (r2, .inr (6, [.ref a2])), (a2, .inl (cI, 40, .inl f2))])
      refine lv_topi (fun v6 ev6 => ?_)
      obtain rfl : v6 = f0 i := ev6.trans (rAt_nI hi (by omega))
      refine lv_iload_n zx zy dX2_comesBehind_32 rfl (lv_at hl 2 rfl) ?_
      refine lv_icmp_le (tgt := 40) zx zy dX2_comesBehind_33 (by decide) (fun c33 => ?_) (fun c33 => ?_)
      · skip
        refine lv_iconst (v := 0) zx zy dX2_comesBehind_40 (by decide) ?_
        exact fx_iret (v := 0) hQ hC hr hlk hH dX2_comesBehind_41 rfl (Nat.le_of_ble_eq_true rfl) (Nat.le_of_ble_eq_true rfl) (()) rfl (by first | exact Or.inl ⟨Or.inl c9, rfl⟩ | exact Or.inl ⟨Or.inr ⟨c21, c33⟩, rfl⟩ | exact Or.inr ⟨fun q => q.elim c9 (fun z => c21 z.1), rfl⟩ | exact Or.inr ⟨fun q => q.elim c9 (fun z => z.2 c33), rfl⟩)
      · skip
        refine lv_iconst (v := 1) zx zy dX2_comesBehind_36 (by decide) ?_
        refine lv_goto (tgt := 41) zx zy dX2_comesBehind_37 (by decide) ?_
        exact fx_iret (v := 1) hQ hC hr hlk hH dX2_comesBehind_41 rfl (Nat.le_of_ble_eq_true rfl) (Nat.le_of_ble_eq_true rfl) (()) rfl (by first | exact Or.inl ⟨Or.inl c9, rfl⟩ | exact Or.inl ⟨Or.inr ⟨c21, c33⟩, rfl⟩ | exact Or.inr ⟨fun q => q.elim c9 (fun z => c21 z.1), rfl⟩ | exact Or.inr ⟨fun q => q.elim c9 (fun z => z.2 c33), rfl⟩)
set_option maxHeartbeats 4000000 in
set_option maxRecDepth 100000 in
theorem k_X2_offer (l : Launch) (D : va_G) (cI cZ : ClassId) (h : Nat) (r0 : Nat) (r1 : Nat) (r2 : Nat) (r3 : Nat) (k : Nat) (al : Int32) (a0 : Nat) (a1 : Nat) (a2 : Nat) (a3 : Nat) (f0 : Nat → Int32) (f1 : Nat → Int32) (f2 : Nat → Int32) (f3 : Nat → Int32) (w : Nat) (t : Int32) (c : Int32) (hw : w < 10) (hk4 : k ≤ 40) (hk : f3 w < 4 → k < 40) : fx_CI l D cI cZ yX2_offer wsX2_offer ({ frames := 2, cells := 0, slots := 0, locals := 46 }) [.ref h, .int (nI w), .int t, .int c] [(h, .inr (2, [.ref r0, .ref r1, .ref r2, .ref r3, .int (nI k), .int al])), (r0, .inr (6, [.ref a0])), (a0, .inl (cI, 40, .inl f0)), (r1, .inr (6, [.ref a1])), (a1, .inl (cI, 40, .inl f1)), (r2, .inr (6, [.ref a2])), (a2, .inl (cI, 40, .inl f2)), (r3, .inr (6, [.ref a3])), (a3, .inl (cI, 10, .inl f3))] (fun (u : (Nat) × (Int32) × (Nat → Int32) × (Nat → Int32) × (Nat → Int32) × (Nat → Int32)) => [(h, .inr (2, [.ref r0, .ref r1, .ref r2, .ref r3, .int (nI u.1), .int u.2.1])), (r0, .inr (6, [.ref a0])), (a0, .inl (cI, 40, .inl u.2.2.1)), (r1, .inr (6, [.ref a1])), (a1, .inl (cI, 40, .inl u.2.2.2.1)), (r2, .inr (6, [.ref a2])), (a2, .inl (cI, 40, .inl u.2.2.2.2.1)), (r3, .inr (6, [.ref a3])), (a3, .inl (cI, 10, .inl u.2.2.2.2.2))]) (fun (r : Int32) (u : (Nat) × (Int32) × (Nat → Int32) × (Nat → Int32) × (Nat → Int32) × (Nat → Int32)) => ((f3 w < 4) ∧ r = f3 w + 1 ∧ u.1 = k + 1 ∧ u.2.1 = al + t ∧ u.2.2.1 = rSq f0 (ofP f0 f2 (nI w) c k) k (nI w) ∧ u.2.2.2.1 = rSq f1 (ofP f0 f2 (nI w) c k) k t ∧ u.2.2.2.2.1 = rSq f2 (ofP f0 f2 (nI w) c k) k c ∧ u.2.2.2.2.2 = upd f3 w (f3 w + 1)) ∨ ((¬ f3 w < 4) ∧ r = -1 ∧ u.1 = k ∧ u.2.1 = al ∧ u.2.2.1 = f0 ∧ u.2.2.2.1 = f1 ∧ u.2.2.2.2.1 = f2 ∧ u.2.2.2.2.2 = f3)) := by
  refine fx_CI.of (ws' := (wsX2_offer).tail) cX2_offer 5 (by decide) rfl (Nat.le_of_ble_eq_true rfl) ?_
  intro zp ze zs zm za zb zt zc zA ls zQ hQ hC hr hlk hA hH hl
  have zx := hC.1.1
  have zy := hC.1.2.1
  have hl : lv_has ls 5 [(0, .ref h), (1, .int (nI w)), (2, .int t), (3, .int c)] := hl
  refine lv_aload_n zx zy dX2_offer_0 rfl (lv_at hl 0 rfl) ?_
  refine fx_get (C := RX2) (T := TX2) (N := 6) hC (fun _ h => List.mem_cons_of_mem _ (List.mem_append_left _ (List.mem_append_right _ h))) hH 0 rfl rfl 3 (by decide) (by decide +kernel) rfl dX2_offer_1 ?_
  refine lv_iload_n zx zy dX2_offer_4 rfl (lv_at hl 1 rfl) ?_
  refine fx_cVi (n := 1) (As := [.int (nI w)]) (b := r3) (rest := []) (fun (u : Unit) => [(h, .inr (2, [.ref r0, .ref r1, .ref r2, .ref r3, .int (nI k), .int al])), (r0, .inr (6, [.ref a0])), (a0, .inl (cI, 40, .inl f0)), (r1, .inr (6, [.ref a1])), (a1, .inl (cI, 40, .inl f1)), (r2, .inr (6, [.ref a2])), (a2, .inl (cI, 40, .inl f2)), (r3, .inr (6, [.ref a3])), (a3, .inl (cI, 10, .inl f3))]) hC hA hH (k_X6_at l D cI cZ r3 a3 10 f3 (nI w) (by first | assumption | omega)) [7, 8] [0, 1, 2, 3, 4, 5, 6] [0, 1, 2, 3, 4, 5, 6, 7, 8] [(h, .inr (2, [.ref r0, .ref r1, .ref r2, .ref r3, .int (nI k), .int al])), (r0, .inr (6, [.ref a0])), (a0, .inl (cI, 40, .inl f0)), (r1, .inr (6, [.ref a1])), (a1, .inl (cI, 40, .inl f1)), (r2, .inr (6, [.ref a2])), (a2, .inl (cI, 40, .inl f2))] rfl rfl (by decide) (by decide) (fun _ => rfl) rfl gX2_offer_X6_at (by decide +kernel) ⟨Nat.le_of_ble_eq_true rfl, Nat.le_of_ble_eq_true rfl⟩ 0 rfl rfl rfl rfl rfl hl.1 (Nat.le_of_ble_eq_true rfl) ⟨Nat.le_of_ble_eq_true rfl, Nat.le_of_ble_eq_true rfl⟩ dX2_offer_5 (fun r1 u H locs hw5 hH => ?_)
  obtain rfl : r1 = rAt 10 f3 (nI w) := hw5
  have hH := (hH : fx_H zA zs.heap H locs D [(h, .inr (2, [.ref r0, .ref r1, .ref r2, .ref r3, .int (nI k), .int al])), (r0, .inr (6, [.ref a0])), (a0, .inl (cI, 40, .inl f0)), (r1, .inr (6, [.ref a1])), (a1, .inl (cI, 40, .inl f1)), (r2, .inr (6, [.ref a2])), (a2, .inl (cI, 40, .inl f2)), (r3, .inr (6, [.ref a3])), (a3, .inl (cI, 10, .inl f3))])
  refine lv_topi (fun v2 ev2 => ?_)
  obtain rfl : v2 = f3 w := ev2.trans (rAt_nI hw (by omega))
  refine lv_iconst (v := 4) zx zy dX2_offer_8 (by decide) ?_
  refine lv_icmp_lt (tgt := 14) zx zy dX2_offer_9 (by decide) (fun c9 => ?_) (fun c9 => ?_)
  · skip
    have hk40 := hk c9
    refine lv_aload_n zx zy dX2_offer_14 rfl (lv_at hl 0 rfl) ?_
    refine fx_get (C := RX2) (T := TX2) (N := 6) hC (fun _ h => List.mem_cons_of_mem _ (List.mem_append_left _ (List.mem_append_right _ h))) hH 0 rfl rfl 4 (by decide) (by decide +kernel) rfl dX2_offer_15 ?_
    refine lv_istore (lv' := [(4, .int (nI k)), (0, .ref h), (1, .int (nI w)), (2, .int t), (3, .int c)]) zx zy dX2_offer_18 hl (by decide) rfl (fun ls hl => ?_)
    have L20 : ∀ (fu : Nat) (p : Nat) (hp : p ≤ k) (he : ofP f0 f2 (nI w) c p = ofP f0 f2 (nI w) c k) (H : Heap) (locs : List Loc) (ls : Array Slot), p < fu → fx_H zA zs.heap H locs D [(h, .inr (2, [.ref r0, .ref r1, .ref r2, .ref r3, .int (nI k), .int al])), (r0, .inr (6, [.ref a0])), (a0, .inl (cI, 40, .inl f0)), (r1, .inr (6, [.ref a1])), (a1, .inl (cI, 40, .inl f1)), (r2, .inr (6, [.ref a2])), (a2, .inl (cI, 40, .inl f2)), (r3, .inr (6, [.ref a3])), (a3, .inl (cI, 10, .inl f3))] → lv_has ls 5 [(0, .ref h), (1, .int (nI w)), (2, .int t), (3, .int c), (4, .int (nI p))] → W zp l ze ({ frames := 2, cells := 0, slots := 0, locals := 46 }) zs zm za zb zt zc H locs (0) (0) zQ (F0 zm 20 ls []) := by
      intro fu
      induction fu with
      | zero => intro p hp he H locs ls hfu; exact absurd hfu (Nat.not_lt_zero _)
      | succ fu ih20 =>
        intro p hp he H locs ls hfu20 hH hl
        refine lv_iload zx zy dX2_offer_20 (lv_at hl 4 rfl) ?_
        refine lv_if_le (tgt := 44) zx zy dX2_offer_22 (by decide) (fun c22 => ?_) (fun c22 => ?_)
        · skip
          have hpe : p = ofP f0 f2 (nI w) c k := by rw [← he, fx_zero_of c22 (by omega)]; rfl
          refine lv_aload_n zx zy dX2_offer_44 rfl (lv_at hl 0 rfl) ?_
          refine fx_get (C := RX2) (T := TX2) (N := 6) hC (fun _ h => List.mem_cons_of_mem _ (List.mem_append_left _ (List.mem_append_right _ h))) hH 0 rfl rfl 0 (by decide) (by decide +kernel) rfl dX2_offer_45 ?_
          refine lv_iload zx zy dX2_offer_48 (lv_at hl 4 rfl) ?_
          refine lv_aload_n zx zy dX2_offer_50 rfl (lv_at hl 0 rfl) ?_
          refine fx_get (C := RX2) (T := TX2) (N := 6) hC (fun _ h => List.mem_cons_of_mem _ (List.mem_append_left _ (List.mem_append_right _ h))) hH 0 rfl rfl 4 (by decide) (by decide +kernel) rfl dX2_offer_51 ?_
          refine lv_iload_n zx zy dX2_offer_54 rfl (lv_at hl 1 rfl) ?_
          refine fx_cVv (n := 3) (As := [.int (nI p), .int (nI k), .int (nI w)]) (b := r0) (rest := []) (fun (u : (Nat → Int32)) => [(h, .inr (2, [.ref r0, .ref r1, .ref r2, .ref r3, .int (nI k), .int al])), (r0, .inr (6, [.ref a0])), (a0, .inl (cI, 40, .inl u)), (r1, .inr (6, [.ref a1])), (a1, .inl (cI, 40, .inl f1)), (r2, .inr (6, [.ref a2])), (a2, .inl (cI, 40, .inl f2)), (r3, .inr (6, [.ref a3])), (a3, .inl (cI, 10, .inl f3))]) hC hA hH (k_X6_squeeze l D cI cZ r0 a0 40 f0 p k (nI w) (by first | assumption | omega) (by first | assumption | omega) (by first | assumption | omega)) [1, 2] [0, 3, 4, 5, 6, 7, 8] [0, 7, 8, 1, 2, 3, 4, 5, 6] [(h, .inr (2, [.ref r0, .ref r1, .ref r2, .ref r3, .int (nI k), .int al])), (r1, .inr (6, [.ref a1])), (a1, .inl (cI, 40, .inl f1)), (r2, .inr (6, [.ref a2])), (a2, .inl (cI, 40, .inl f2)), (r3, .inr (6, [.ref a3])), (a3, .inl (cI, 10, .inl f3))] rfl rfl (by decide) (by decide) (fun _ => rfl) rfl gX2_offer_X6_squeeze (by decide +kernel) ⟨Nat.le_of_ble_eq_true rfl, Nat.le_of_ble_eq_true rfl⟩ 0 rfl rfl rfl rfl rfl hl.1 (Nat.le_of_ble_eq_true rfl) ⟨Nat.le_of_ble_eq_true rfl, Nat.le_of_ble_eq_true rfl⟩ dX2_offer_55 (fun u H locs hw55 hH => ?_)
          obtain ⟨u4, rfl⟩ : ∃ z, z = u := ⟨_, rfl⟩
          obtain rfl : u4 = rSq f0 p k (nI w) := hw55
          have hH := (hH : fx_H zA zs.heap H locs D [(h, .inr (2, [.ref r0, .ref r1, .ref r2, .ref r3, .int (nI k), .int al])), (r0, .inr (6, [.ref a0])), (a0, .inl (cI, 40, .inl (rSq f0 p k (nI w)))), (r1, .inr (6, [.ref a1])), (a1, .inl (cI, 40, .inl f1)), (r2, .inr (6, [.ref a2])), (a2, .inl (cI, 40, .inl f2)), (r3, .inr (6, [.ref a3])), (a3, .inl (cI, 10, .inl f3))])
          refine lv_aload_n zx zy dX2_offer_58 rfl (lv_at hl 0 rfl) ?_
          refine fx_get (C := RX2) (T := TX2) (N := 6) hC (fun _ h => List.mem_cons_of_mem _ (List.mem_append_left _ (List.mem_append_right _ h))) hH 0 rfl rfl 1 (by decide) (by decide +kernel) rfl dX2_offer_59 ?_
          refine lv_iload zx zy dX2_offer_62 (lv_at hl 4 rfl) ?_
          refine lv_aload_n zx zy dX2_offer_64 rfl (lv_at hl 0 rfl) ?_
          refine fx_get (C := RX2) (T := TX2) (N := 6) hC (fun _ h => List.mem_cons_of_mem _ (List.mem_append_left _ (List.mem_append_right _ h))) hH 0 rfl rfl 4 (by decide) (by decide +kernel) rfl dX2_offer_65 ?_
          refine lv_iload_n zx zy dX2_offer_68 rfl (lv_at hl 2 rfl) ?_
          refine fx_cVv (n := 3) (As := [.int (nI p), .int (nI k), .int t]) (b := r1) (rest := []) (fun (u : (Nat → Int32)) => [(h, .inr (2, [.ref r0, .ref r1, .ref r2, .ref r3, .int (nI k), .int al])), (r0, .inr (6, [.ref a0])), (a0, .inl (cI, 40, .inl (rSq f0 p k (nI w)))), (r1, .inr (6, [.ref a1])), (a1, .inl (cI, 40, .inl u)), (r2, .inr (6, [.ref a2])), (a2, .inl (cI, 40, .inl f2)), (r3, .inr (6, [.ref a3])), (a3, .inl (cI, 10, .inl f3))]) hC hA hH (k_X6_squeeze l D cI cZ r1 a1 40 f1 p k t (by first | assumption | omega) (by first | assumption | omega) (by first | assumption | omega)) [3, 4] [0, 1, 2, 5, 6, 7, 8] [0, 1, 2, 7, 8, 3, 4, 5, 6] [(h, .inr (2, [.ref r0, .ref r1, .ref r2, .ref r3, .int (nI k), .int al])), (r0, .inr (6, [.ref a0])), (a0, .inl (cI, 40, .inl (rSq f0 p k (nI w)))), (r2, .inr (6, [.ref a2])), (a2, .inl (cI, 40, .inl f2)), (r3, .inr (6, [.ref a3])), (a3, .inl (cI, 10, .inl f3))] rfl rfl (by decide) (by decide) (fun _ => rfl) rfl gX2_offer_X6_squeeze (by decide +kernel) ⟨Nat.le_of_ble_eq_true rfl, Nat.le_of_ble_eq_true rfl⟩ 0 rfl rfl rfl rfl rfl hl.1 (Nat.le_of_ble_eq_true rfl) ⟨Nat.le_of_ble_eq_true rfl, Nat.le_of_ble_eq_true rfl⟩ dX2_offer_69 (fun u H locs hw69 hH => ?_)
          obtain ⟨u6, rfl⟩ : ∃ z, z = u := ⟨_, rfl⟩
          obtain rfl : u6 = rSq f1 p k t := hw69
          have hH := (hH : fx_H zA zs.heap H locs D [(h, .inr (2, [.ref r0, .ref r1, .ref r2, .ref r3, .int (nI k), .int al])), (r0, .inr (6, [.ref a0])), (a0, .inl (cI, 40, .inl (rSq f0 p k (nI w)))), (r1, .inr (6, [.ref a1])), (a1, .inl (cI, 40, .inl (rSq f1 p k t))), (r2, .inr (6, [.ref a2])), (a2, .inl (cI, 40, .inl f2)), (r3, .inr (6, [.ref a3])), (a3, .inl (cI, 10, .inl f3))])
          refine lv_aload_n zx zy dX2_offer_72 rfl (lv_at hl 0 rfl) ?_
          refine fx_get (C := RX2) (T := TX2) (N := 6) hC (fun _ h => List.mem_cons_of_mem _ (List.mem_append_left _ (List.mem_append_right _ h))) hH 0 rfl rfl 2 (by decide) (by decide +kernel) rfl dX2_offer_73 ?_
          refine lv_iload zx zy dX2_offer_76 (lv_at hl 4 rfl) ?_
          refine lv_aload_n zx zy dX2_offer_78 rfl (lv_at hl 0 rfl) ?_
          refine fx_get (C := RX2) (T := TX2) (N := 6) hC (fun _ h => List.mem_cons_of_mem _ (List.mem_append_left _ (List.mem_append_right _ h))) hH 0 rfl rfl 4 (by decide) (by decide +kernel) rfl dX2_offer_79 ?_
          refine lv_iload_n zx zy dX2_offer_82 rfl (lv_at hl 3 rfl) ?_
          refine fx_cVv (n := 3) (As := [.int (nI p), .int (nI k), .int c]) (b := r2) (rest := []) (fun (u : (Nat → Int32)) => [(h, .inr (2, [.ref r0, .ref r1, .ref r2, .ref r3, .int (nI k), .int al])), (r0, .inr (6, [.ref a0])), (a0, .inl (cI, 40, .inl (rSq f0 p k (nI w)))), (r1, .inr (6, [.ref a1])), (a1, .inl (cI, 40, .inl (rSq f1 p k t))), (r2, .inr (6, [.ref a2])), (a2, .inl (cI, 40, .inl u)), (r3, .inr (6, [.ref a3])), (a3, .inl (cI, 10, .inl f3))]) hC hA hH (k_X6_squeeze l D cI cZ r2 a2 40 f2 p k c (by first | assumption | omega) (by first | assumption | omega) (by first | assumption | omega)) [5, 6] [0, 1, 2, 3, 4, 7, 8] [0, 1, 2, 3, 4, 7, 8, 5, 6] [(h, .inr (2, [.ref r0, .ref r1, .ref r2, .ref r3, .int (nI k), .int al])), (r0, .inr (6, [.ref a0])), (a0, .inl (cI, 40, .inl (rSq f0 p k (nI w)))), (r1, .inr (6, [.ref a1])), (a1, .inl (cI, 40, .inl (rSq f1 p k t))), (r3, .inr (6, [.ref a3])), (a3, .inl (cI, 10, .inl f3))] rfl rfl (by decide) (by decide) (fun _ => rfl) rfl gX2_offer_X6_squeeze (by decide +kernel) ⟨Nat.le_of_ble_eq_true rfl, Nat.le_of_ble_eq_true rfl⟩ 0 rfl rfl rfl rfl rfl hl.1 (Nat.le_of_ble_eq_true rfl) ⟨Nat.le_of_ble_eq_true rfl, Nat.le_of_ble_eq_true rfl⟩ dX2_offer_83 (fun u H locs hw83 hH => ?_)
          obtain ⟨u8, rfl⟩ : ∃ z, z = u := ⟨_, rfl⟩
          obtain rfl : u8 = rSq f2 p k c := hw83
          have hH := (hH : fx_H zA zs.heap H locs D [(h, .inr (2, [.ref r0, .ref r1, .ref r2, .ref r3, .int (nI k), .int al])), (r0, .inr (6, [.ref a0])), (a0, .inl (cI, 40, .inl (rSq f0 p k (nI w)))), (r1, .inr (6, [.ref a1])), (a1, .inl (cI, 40, .inl (rSq f1 p k t))), (r2, .inr (6, [.ref a2])), (a2, .inl (cI, 40, .inl (rSq f2 p k c))), (r3, .inr (6, [.ref a3])), (a3, .inl (cI, 10, .inl f3))])
          refine lv_aload_n zx zy dX2_offer_86 rfl (lv_at hl 0 rfl) ?_
          refine lv_dup zx zy dX2_offer_87 rfl ?_
          refine fx_get (C := RX2) (T := TX2) (N := 6) hC (fun _ h => List.mem_cons_of_mem _ (List.mem_append_left _ (List.mem_append_right _ h))) hH 0 rfl rfl 4 (by decide) (by decide +kernel) rfl dX2_offer_88 ?_
          refine lv_iconst (v := 1) zx zy dX2_offer_91 (by decide) ?_
          refine lv_iadd zx zy dX2_offer_92 ?_
          refine lv_topi (fun v9 ev9 => ?_)
          obtain rfl : v9 = nI (k + 1) := ev9.trans (nI_1 k)
          refine fx_put (C := RX2) (T := TX2) (N := 6) (ty := .int) (ws2 := [(h, .inr (2, [.ref r0, .ref r1, .ref r2, .ref r3, .int (nI (k + 1)), .int al])), (r0, .inr (6, [.ref a0])), (a0, .inl (cI, 40, .inl (rSq f0 p k (nI w)))), (r1, .inr (6, [.ref a1])), (a1, .inl (cI, 40, .inl (rSq f1 p k t))), (r2, .inr (6, [.ref a2])), (a2, .inl (cI, 40, .inl (rSq f2 p k c))), (r3, .inr (6, [.ref a3])), (a3, .inl (cI, 10, .inl f3))]) hC (fun _ h => List.mem_cons_of_mem _ (List.mem_append_left _ (List.mem_append_right _ h))) tyX2_ok nmX2 hH 0 rfl rfl 4 (by decide) (by decide +kernel) rfl rfl rfl rfl (Nat.le_of_ble_eq_true rfl) rfl dX2_offer_93 (fun H locs hH => ?_)
          refine lv_aload_n zx zy dX2_offer_96 rfl (lv_at hl 0 rfl) ?_
          refine lv_dup zx zy dX2_offer_97 rfl ?_
          refine fx_get (C := RX2) (T := TX2) (N := 6) hC (fun _ h => List.mem_cons_of_mem _ (List.mem_append_left _ (List.mem_append_right _ h))) hH 0 rfl rfl 5 (by decide) (by decide +kernel) rfl dX2_offer_98 ?_
          refine lv_iload_n zx zy dX2_offer_101 rfl (lv_at hl 2 rfl) ?_
          refine lv_iadd zx zy dX2_offer_102 ?_
          refine fx_put (C := RX2) (T := TX2) (N := 6) (ty := .int) (ws2 := [(h, .inr (2, [.ref r0, .ref r1, .ref r2, .ref r3, .int (nI (k + 1)), .int (al + t)])), (r0, .inr (6, [.ref a0])), (a0, .inl (cI, 40, .inl (rSq f0 p k (nI w)))), (r1, .inr (6, [.ref a1])), (a1, .inl (cI, 40, .inl (rSq f1 p k t))), (r2, .inr (6, [.ref a2])), (a2, .inl (cI, 40, .inl (rSq f2 p k c))), (r3, .inr (6, [.ref a3])), (a3, .inl (cI, 10, .inl f3))]) hC (fun _ h => List.mem_cons_of_mem _ (List.mem_append_left _ (List.mem_append_right _ h))) tyX2_ok nmX2 hH 0 rfl rfl 5 (by decide) (by decide +kernel) rfl rfl rfl rfl (Nat.le_of_ble_eq_true rfl) rfl dX2_offer_103 (fun H locs hH => ?_)
          refine lv_aload_n zx zy dX2_offer_106 rfl (lv_at hl 0 rfl) ?_
          refine fx_get (C := RX2) (T := TX2) (N := 6) hC (fun _ h => List.mem_cons_of_mem _ (List.mem_append_left _ (List.mem_append_right _ h))) hH 0 rfl rfl 3 (by decide) (by decide +kernel) rfl dX2_offer_107 ?_
          refine lv_iload_n zx zy dX2_offer_110 rfl (lv_at hl 1 rfl) ?_
          refine lv_iconst (v := 1) zx zy dX2_offer_111 (by decide) ?_
          refine fx_cVv (n := 2) (As := [.int (nI w), .int 1]) (b := r3) (rest := []) (fun (u : (Nat → Int32)) => [(h, .inr (2, [.ref r0, .ref r1, .ref r2, .ref r3, .int (nI (k + 1)), .int (al + t)])), (r0, .inr (6, [.ref a0])), (a0, .inl (cI, 40, .inl (rSq f0 p k (nI w)))), (r1, .inr (6, [.ref a1])), (a1, .inl (cI, 40, .inl (rSq f1 p k t))), (r2, .inr (6, [.ref a2])), (a2, .inl (cI, 40, .inl (rSq f2 p k c))), (r3, .inr (6, [.ref a3])), (a3, .inl (cI, 10, .inl u))]) hC hA hH (k_X6_add l D cI cZ r3 a3 10 f3 (nI w) 1 (by first | assumption | omega)) [7, 8] [0, 1, 2, 3, 4, 5, 6] [0, 1, 2, 3, 4, 5, 6, 7, 8] [(h, .inr (2, [.ref r0, .ref r1, .ref r2, .ref r3, .int (nI (k + 1)), .int (al + t)])), (r0, .inr (6, [.ref a0])), (a0, .inl (cI, 40, .inl (rSq f0 p k (nI w)))), (r1, .inr (6, [.ref a1])), (a1, .inl (cI, 40, .inl (rSq f1 p k t))), (r2, .inr (6, [.ref a2])), (a2, .inl (cI, 40, .inl (rSq f2 p k c)))] rfl rfl (by decide) (by decide) (fun _ => rfl) rfl gX2_offer_X6_add (by decide +kernel) ⟨Nat.le_of_ble_eq_true rfl, Nat.le_of_ble_eq_true rfl⟩ 0 rfl rfl rfl rfl rfl hl.1 (Nat.le_of_ble_eq_true rfl) ⟨Nat.le_of_ble_eq_true rfl, Nat.le_of_ble_eq_true rfl⟩ dX2_offer_112 (fun u H locs hw112 hH => ?_)
          obtain ⟨u11, rfl⟩ : ∃ z, z = u := ⟨_, rfl⟩
          obtain rfl : u11 = rPut 10 f3 (nI w) (rAt 10 f3 (nI w) + 1) := hw112
          have hH := (hH : fx_H zA zs.heap H locs D [(h, .inr (2, [.ref r0, .ref r1, .ref r2, .ref r3, .int (nI (k + 1)), .int (al + t)])), (r0, .inr (6, [.ref a0])), (a0, .inl (cI, 40, .inl (rSq f0 p k (nI w)))), (r1, .inr (6, [.ref a1])), (a1, .inl (cI, 40, .inl (rSq f1 p k t))), (r2, .inr (6, [.ref a2])), (a2, .inl (cI, 40, .inl (rSq f2 p k c))), (r3, .inr (6, [.ref a3])), (a3, .inl (cI, 10, .inl (rPut 10 f3 (nI w) (rAt 10 f3 (nI w) + 1))))])
          rw [show (rPut 10 f3 (nI w) (rAt 10 f3 (nI w) + 1) : Nat → Int32) = upd f3 w (f3 w + 1) from rAdd_nI hw (by omega)] at hH
          refine lv_aload_n zx zy dX2_offer_115 rfl (lv_at hl 0 rfl) ?_
          refine fx_get (C := RX2) (T := TX2) (N := 6) hC (fun _ h => List.mem_cons_of_mem _ (List.mem_append_left _ (List.mem_append_right _ h))) hH 0 rfl rfl 3 (by decide) (by decide +kernel) rfl dX2_offer_116 ?_
          refine lv_iload_n zx zy dX2_offer_119 rfl (lv_at hl 1 rfl) ?_
          refine fx_cVi (n := 1) (As := [.int (nI w)]) (b := r3) (rest := []) (fun (u : Unit) => [(h, .inr (2, [.ref r0, .ref r1, .ref r2, .ref r3, .int (nI (k + 1)), .int (al + t)])), (r0, .inr (6, [.ref a0])), (a0, .inl (cI, 40, .inl (rSq f0 p k (nI w)))), (r1, .inr (6, [.ref a1])), (a1, .inl (cI, 40, .inl (rSq f1 p k t))), (r2, .inr (6, [.ref a2])), (a2, .inl (cI, 40, .inl (rSq f2 p k c))), (r3, .inr (6, [.ref a3])), (a3, .inl (cI, 10, .inl (upd f3 w (f3 w + 1))))]) hC hA hH (k_X6_at l D cI cZ r3 a3 10 (upd f3 w (f3 w + 1)) (nI w) (by first | assumption | omega)) [7, 8] [0, 1, 2, 3, 4, 5, 6] [0, 1, 2, 3, 4, 5, 6, 7, 8] [(h, .inr (2, [.ref r0, .ref r1, .ref r2, .ref r3, .int (nI (k + 1)), .int (al + t)])), (r0, .inr (6, [.ref a0])), (a0, .inl (cI, 40, .inl (rSq f0 p k (nI w)))), (r1, .inr (6, [.ref a1])), (a1, .inl (cI, 40, .inl (rSq f1 p k t))), (r2, .inr (6, [.ref a2])), (a2, .inl (cI, 40, .inl (rSq f2 p k c)))] rfl rfl (by decide) (by decide) (fun _ => rfl) rfl gX2_offer_X6_at (by decide +kernel) ⟨Nat.le_of_ble_eq_true rfl, Nat.le_of_ble_eq_true rfl⟩ 0 rfl rfl rfl rfl rfl hl.1 (Nat.le_of_ble_eq_true rfl) ⟨Nat.le_of_ble_eq_true rfl, Nat.le_of_ble_eq_true rfl⟩ dX2_offer_120 (fun r12 u H locs hw120 hH => ?_)
          obtain rfl : r12 = rAt 10 (upd f3 w (f3 w + 1)) (nI w) := hw120
          have hH := (hH : fx_H zA zs.heap H locs D [(h, .inr (2, [.ref r0, .ref r1, .ref r2, .ref r3, .int (nI (k + 1)), .int (al + t)])), (r0, .inr (6, [.ref a0])), (a0, .inl (cI, 40, .inl (rSq f0 p k (nI w)))), (r1, .inr (6, [.ref a1])), (a1, .inl (cI, 40, .inl (rSq f1 p k t))), (r2, .inr (6, [.ref a2])), (a2, .inl (cI, 40, .inl (rSq f2 p k c))), (r3, .inr (6, [.ref a3])), (a3, .inl (cI, 10, .inl (upd f3 w (f3 w + 1))))])
          refine lv_topi (fun v13 ev13 => ?_)
          obtain rfl : v13 = f3 w + 1 := ev13.trans ((rAt_nI hw (by omega)).trans pk_us)
          exact fx_iret (v := f3 w + 1) hQ hC hr hlk hH dX2_offer_123 rfl (Nat.le_of_ble_eq_true rfl) (Nat.le_of_ble_eq_true rfl) (((k + 1), al + t, rSq f0 p k (nI w), rSq f1 p k t, rSq f2 p k c, upd f3 w (f3 w + 1))) rfl (Or.inl ⟨c9, by subst hpe; exact ⟨rfl, rfl, rfl, rfl, rfl, rfl, rfl⟩⟩)
        · skip
          have hp0 : 0 < p := fx_pos_of c22 (by omega)
          refine lv_aload_n zx zy dX2_offer_25 rfl (lv_at hl 0 rfl) ?_
          refine lv_iload zx zy dX2_offer_26 (lv_at hl 4 rfl) ?_
          refine lv_iconst (v := 1) zx zy dX2_offer_28 (by decide) ?_
          refine lv_isub zx zy dX2_offer_29 ?_
          refine lv_topi (fun v14 ev14 => ?_)
          obtain rfl : v14 = nI (p - 1) := ev14.trans (fx_m1 hp0)
          refine lv_iload_n zx zy dX2_offer_30 rfl (lv_at hl 1 rfl) ?_
          refine lv_iload_n zx zy dX2_offer_31 rfl (lv_at hl 3 rfl) ?_
          refine fx_cVi (n := 3) (As := [.int (nI (p - 1)), .int (nI w), .int c]) (b := h) (rest := []) (fun (u : Unit) => [(h, .inr (2, [.ref r0, .ref r1, .ref r2, .ref r3, .int (nI k), .int al])), (r0, .inr (6, [.ref a0])), (a0, .inl (cI, 40, .inl f0)), (r1, .inr (6, [.ref a1])), (a1, .inl (cI, 40, .inl f1)), (r2, .inr (6, [.ref a2])), (a2, .inl (cI, 40, .inl f2)), (r3, .inr (6, [.ref a3])), (a3, .inl (cI, 10, .inl f3))]) hC hA hH (k_X2_comesBehind l D cI cZ h r0 r1 r2 r3 k al a0 a2 f0 f2 (p - 1) (nI w) c (by first | assumption | omega)) [0, 1, 2, 5, 6] [3, 4, 7, 8] [4, 5, 6, 0, 1, 7, 8, 2, 3] [(r1, .inr (6, [.ref a1])), (a1, .inl (cI, 40, .inl f1)), (r3, .inr (6, [.ref a3])), (a3, .inl (cI, 10, .inl f3))] rfl rfl (by decide) (by decide) (fun _ => rfl) rfl gX2_offer_X2_comesBehind (by decide +kernel) ⟨Nat.le_of_ble_eq_true rfl, Nat.le_of_ble_eq_true rfl⟩ 0 rfl rfl rfl rfl rfl hl.1 (Nat.le_of_ble_eq_true rfl) ⟨Nat.le_of_ble_eq_true rfl, Nat.le_of_ble_eq_true rfl⟩ dX2_offer_32 (fun r15 u H locs hw32 hH => ?_)
          rcases hw32 with ⟨hg32, rfl⟩ | ⟨hg32, rfl⟩
          · skip
            have hH := (hH : fx_H zA zs.heap H locs D [(h, .inr (2, [.ref r0, .ref r1, .ref r2, .ref r3, .int (nI k), .int al])), (r0, .inr (6, [.ref a0])), (a0, .inl (cI, 40, .inl f0)), (r1, .inr (6, [.ref a1])), (a1, .inl (cI, 40, .inl f1)), (r2, .inr (6, [.ref a2])), (a2, .inl (cI, 40, .inl f2)), (r3, .inr (6, [.ref a3])), (a3, .inl (cI, 10, .inl f3))])
            refine lv_if_eq (tgt := 44) zx zy dX2_offer_35 (by decide) (fun c35 => ?_) (fun c35 => ?_)
            · exact absurd c35 (by decide)
            · skip
              refine lv_iinc (v := nI (p - 1)) (lv' := [(4, .int (nI (p - 1))), (0, .ref h), (1, .int (nI w)), (2, .int t), (3, .int c)]) zx zy dX2_offer_38 hl (k := 4) rfl (sb_m1 hp0) (by decide) rfl (fun ls hl => ?_)
              refine lv_goto (tgt := 20) zx zy dX2_offer_41 (by decide) ?_
              exact ih20 (p - 1) (by first | assumption | omega) ((ofP_s hp0 hg32).symm.trans he) _ _ _ (by omega) hH (lv_sub hl [1, 2, 3, 4, 0] rfl)
          · skip
            have hH := (hH : fx_H zA zs.heap H locs D [(h, .inr (2, [.ref r0, .ref r1, .ref r2, .ref r3, .int (nI k), .int al])), (r0, .inr (6, [.ref a0])), (a0, .inl (cI, 40, .inl f0)), (r1, .inr (6, [.ref a1])), (a1, .inl (cI, 40, .inl f1)), (r2, .inr (6, [.ref a2])), (a2, .inl (cI, 40, .inl f2)), (r3, .inr (6, [.ref a3])), (a3, .inl (cI, 10, .inl f3))])
            have hpe : p = ofP f0 f2 (nI w) c k := by rw [← he, ofP_e hp0 hg32]
            refine lv_if_eq (tgt := 44) zx zy dX2_offer_35 (by decide) (fun c35 => ?_) (fun c35 => ?_)
            · skip
              refine lv_aload_n zx zy dX2_offer_44 rfl (lv_at hl 0 rfl) ?_
              refine fx_get (C := RX2) (T := TX2) (N := 6) hC (fun _ h => List.mem_cons_of_mem _ (List.mem_append_left _ (List.mem_append_right _ h))) hH 0 rfl rfl 0 (by decide) (by decide +kernel) rfl dX2_offer_45 ?_
              refine lv_iload zx zy dX2_offer_48 (lv_at hl 4 rfl) ?_
              refine lv_aload_n zx zy dX2_offer_50 rfl (lv_at hl 0 rfl) ?_
              refine fx_get (C := RX2) (T := TX2) (N := 6) hC (fun _ h => List.mem_cons_of_mem _ (List.mem_append_left _ (List.mem_append_right _ h))) hH 0 rfl rfl 4 (by decide) (by decide +kernel) rfl dX2_offer_51 ?_
              refine lv_iload_n zx zy dX2_offer_54 rfl (lv_at hl 1 rfl) ?_
              refine fx_cVv (n := 3) (As := [.int (nI p), .int (nI k), .int (nI w)]) (b := r0) (rest := []) (fun (u : (Nat → Int32)) => [(h, .inr (2, [.ref r0, .ref r1, .ref r2, .ref r3, .int (nI k), .int al])), (r0, .inr (6, [.ref a0])), (a0, .inl (cI, 40, .inl u)), (r1, .inr (6, [.ref a1])), (a1, .inl (cI, 40, .inl f1)), (r2, .inr (6, [.ref a2])), (a2, .inl (cI, 40, .inl f2)), (r3, .inr (6, [.ref a3])), (a3, .inl (cI, 10, .inl f3))]) hC hA hH (k_X6_squeeze l D cI cZ r0 a0 40 f0 p k (nI w) (by first | assumption | omega) (by first | assumption | omega) (by first | assumption | omega)) [1, 2] [0, 3, 4, 5, 6, 7, 8] [0, 7, 8, 1, 2, 3, 4, 5, 6] [(h, .inr (2, [.ref r0, .ref r1, .ref r2, .ref r3, .int (nI k), .int al])), (r1, .inr (6, [.ref a1])), (a1, .inl (cI, 40, .inl f1)), (r2, .inr (6, [.ref a2])), (a2, .inl (cI, 40, .inl f2)), (r3, .inr (6, [.ref a3])), (a3, .inl (cI, 10, .inl f3))] rfl rfl (by decide) (by decide) (fun _ => rfl) rfl gX2_offer_X6_squeeze (by decide +kernel) ⟨Nat.le_of_ble_eq_true rfl, Nat.le_of_ble_eq_true rfl⟩ 0 rfl rfl rfl rfl rfl hl.1 (Nat.le_of_ble_eq_true rfl) ⟨Nat.le_of_ble_eq_true rfl, Nat.le_of_ble_eq_true rfl⟩ dX2_offer_55 (fun u H locs hw55 hH => ?_)
              obtain ⟨u17, rfl⟩ : ∃ z, z = u := ⟨_, rfl⟩
              obtain rfl : u17 = rSq f0 p k (nI w) := hw55
              have hH := (hH : fx_H zA zs.heap H locs D [(h, .inr (2, [.ref r0, .ref r1, .ref r2, .ref r3, .int (nI k), .int al])), (r0, .inr (6, [.ref a0])), (a0, .inl (cI, 40, .inl (rSq f0 p k (nI w)))), (r1, .inr (6, [.ref a1])), (a1, .inl (cI, 40, .inl f1)), (r2, .inr (6, [.ref a2])), (a2, .inl (cI, 40, .inl f2)), (r3, .inr (6, [.ref a3])), (a3, .inl (cI, 10, .inl f3))])
              refine lv_aload_n zx zy dX2_offer_58 rfl (lv_at hl 0 rfl) ?_
              refine fx_get (C := RX2) (T := TX2) (N := 6) hC (fun _ h => List.mem_cons_of_mem _ (List.mem_append_left _ (List.mem_append_right _ h))) hH 0 rfl rfl 1 (by decide) (by decide +kernel) rfl dX2_offer_59 ?_
              refine lv_iload zx zy dX2_offer_62 (lv_at hl 4 rfl) ?_
              refine lv_aload_n zx zy dX2_offer_64 rfl (lv_at hl 0 rfl) ?_
              refine fx_get (C := RX2) (T := TX2) (N := 6) hC (fun _ h => List.mem_cons_of_mem _ (List.mem_append_left _ (List.mem_append_right _ h))) hH 0 rfl rfl 4 (by decide) (by decide +kernel) rfl dX2_offer_65 ?_
              refine lv_iload_n zx zy dX2_offer_68 rfl (lv_at hl 2 rfl) ?_
              refine fx_cVv (n := 3) (As := [.int (nI p), .int (nI k), .int t]) (b := r1) (rest := []) (fun (u : (Nat → Int32)) => [(h, .inr (2, [.ref r0, .ref r1, .ref r2, .ref r3, .int (nI k), .int al])), (r0, .inr (6, [.ref a0])), (a0, .inl (cI, 40, .inl (rSq f0 p k (nI w)))), (r1, .inr (6, [.ref a1])), (a1, .inl (cI, 40, .inl u)), (r2, .inr (6, [.ref a2])), (a2, .inl (cI, 40, .inl f2)), (r3, .inr (6, [.ref a3])), (a3, .inl (cI, 10, .inl f3))]) hC hA hH (k_X6_squeeze l D cI cZ r1 a1 40 f1 p k t (by first | assumption | omega) (by first | assumption | omega) (by first | assumption | omega)) [3, 4] [0, 1, 2, 5, 6, 7, 8] [0, 1, 2, 7, 8, 3, 4, 5, 6] [(h, .inr (2, [.ref r0, .ref r1, .ref r2, .ref r3, .int (nI k), .int al])), (r0, .inr (6, [.ref a0])), (a0, .inl (cI, 40, .inl (rSq f0 p k (nI w)))), (r2, .inr (6, [.ref a2])), (a2, .inl (cI, 40, .inl f2)), (r3, .inr (6, [.ref a3])), (a3, .inl (cI, 10, .inl f3))] rfl rfl (by decide) (by decide) (fun _ => rfl) rfl gX2_offer_X6_squeeze (by decide +kernel) ⟨Nat.le_of_ble_eq_true rfl, Nat.le_of_ble_eq_true rfl⟩ 0 rfl rfl rfl rfl rfl hl.1 (Nat.le_of_ble_eq_true rfl) ⟨Nat.le_of_ble_eq_true rfl, Nat.le_of_ble_eq_true rfl⟩ dX2_offer_69 (fun u H locs hw69 hH => ?_)
              obtain ⟨u19, rfl⟩ : ∃ z, z = u := ⟨_, rfl⟩
              obtain rfl : u19 = rSq f1 p k t := hw69
              have hH := (hH : fx_H zA zs.heap H locs D [(h, .inr (2, [.ref r0, .ref r1, .ref r2, .ref r3, .int (nI k), .int al])), (r0, .inr (6, [.ref a0])), (a0, .inl (cI, 40, .inl (rSq f0 p k (nI w)))), (r1, .inr (6, [.ref a1])), (a1, .inl (cI, 40, .inl (rSq f1 p k t))), (r2, .inr (6, [.ref a2])), (a2, .inl (cI, 40, .inl f2)), (r3, .inr (6, [.ref a3])), (a3, .inl (cI, 10, .inl f3))])
              refine lv_aload_n zx zy dX2_offer_72 rfl (lv_at hl 0 rfl) ?_
              refine fx_get (C := RX2) (T := TX2) (N := 6) hC (fun _ h => List.mem_cons_of_mem _ (List.mem_append_left _ (List.mem_append_right _ h))) hH 0 rfl rfl 2 (by decide) (by decide +kernel) rfl dX2_offer_73 ?_
              refine lv_iload zx zy dX2_offer_76 (lv_at hl 4 rfl) ?_
              refine lv_aload_n zx zy dX2_offer_78 rfl (lv_at hl 0 rfl) ?_
              refine fx_get (C := RX2) (T := TX2) (N := 6) hC (fun _ h => List.mem_cons_of_mem _ (List.mem_append_left _ (List.mem_append_right _ h))) hH 0 rfl rfl 4 (by decide) (by decide +kernel) rfl dX2_offer_79 ?_
              refine lv_iload_n zx zy dX2_offer_82 rfl (lv_at hl 3 rfl) ?_
              refine fx_cVv (n := 3) (As := [.int (nI p), .int (nI k), .int c]) (b := r2) (rest := []) (fun (u : (Nat → Int32)) => [(h, .inr (2, [.ref r0, .ref r1, .ref r2, .ref r3, .int (nI k), .int al])), (r0, .inr (6, [.ref a0])), (a0, .inl (cI, 40, .inl (rSq f0 p k (nI w)))), (r1, .inr (6, [.ref a1])), (a1, .inl (cI, 40, .inl (rSq f1 p k t))), (r2, .inr (6, [.ref a2])), (a2, .inl (cI, 40, .inl u)), (r3, .inr (6, [.ref a3])), (a3, .inl (cI, 10, .inl f3))]) hC hA hH (k_X6_squeeze l D cI cZ r2 a2 40 f2 p k c (by first | assumption | omega) (by first | assumption | omega) (by first | assumption | omega)) [5, 6] [0, 1, 2, 3, 4, 7, 8] [0, 1, 2, 3, 4, 7, 8, 5, 6] [(h, .inr (2, [.ref r0, .ref r1, .ref r2, .ref r3, .int (nI k), .int al])), (r0, .inr (6, [.ref a0])), (a0, .inl (cI, 40, .inl (rSq f0 p k (nI w)))), (r1, .inr (6, [.ref a1])), (a1, .inl (cI, 40, .inl (rSq f1 p k t))), (r3, .inr (6, [.ref a3])), (a3, .inl (cI, 10, .inl f3))] rfl rfl (by decide) (by decide) (fun _ => rfl) rfl gX2_offer_X6_squeeze (by decide +kernel) ⟨Nat.le_of_ble_eq_true rfl, Nat.le_of_ble_eq_true rfl⟩ 0 rfl rfl rfl rfl rfl hl.1 (Nat.le_of_ble_eq_true rfl) ⟨Nat.le_of_ble_eq_true rfl, Nat.le_of_ble_eq_true rfl⟩ dX2_offer_83 (fun u H locs hw83 hH => ?_)
              obtain ⟨u21, rfl⟩ : ∃ z, z = u := ⟨_, rfl⟩
              obtain rfl : u21 = rSq f2 p k c := hw83
              have hH := (hH : fx_H zA zs.heap H locs D [(h, .inr (2, [.ref r0, .ref r1, .ref r2, .ref r3, .int (nI k), .int al])), (r0, .inr (6, [.ref a0])), (a0, .inl (cI, 40, .inl (rSq f0 p k (nI w)))), (r1, .inr (6, [.ref a1])), (a1, .inl (cI, 40, .inl (rSq f1 p k t))), (r2, .inr (6, [.ref a2])), (a2, .inl (cI, 40, .inl (rSq f2 p k c))), (r3, .inr (6, [.ref a3])), (a3, .inl (cI, 10, .inl f3))])
              refine lv_aload_n zx zy dX2_offer_86 rfl (lv_at hl 0 rfl) ?_
              refine lv_dup zx zy dX2_offer_87 rfl ?_
              refine fx_get (C := RX2) (T := TX2) (N := 6) hC (fun _ h => List.mem_cons_of_mem _ (List.mem_append_left _ (List.mem_append_right _ h))) hH 0 rfl rfl 4 (by decide) (by decide +kernel) rfl dX2_offer_88 ?_
              refine lv_iconst (v := 1) zx zy dX2_offer_91 (by decide) ?_
              refine lv_iadd zx zy dX2_offer_92 ?_
              refine lv_topi (fun v22 ev22 => ?_)
              obtain rfl : v22 = nI (k + 1) := ev22.trans (nI_1 k)
              refine fx_put (C := RX2) (T := TX2) (N := 6) (ty := .int) (ws2 := [(h, .inr (2, [.ref r0, .ref r1, .ref r2, .ref r3, .int (nI (k + 1)), .int al])), (r0, .inr (6, [.ref a0])), (a0, .inl (cI, 40, .inl (rSq f0 p k (nI w)))), (r1, .inr (6, [.ref a1])), (a1, .inl (cI, 40, .inl (rSq f1 p k t))), (r2, .inr (6, [.ref a2])), (a2, .inl (cI, 40, .inl (rSq f2 p k c))), (r3, .inr (6, [.ref a3])), (a3, .inl (cI, 10, .inl f3))]) hC (fun _ h => List.mem_cons_of_mem _ (List.mem_append_left _ (List.mem_append_right _ h))) tyX2_ok nmX2 hH 0 rfl rfl 4 (by decide) (by decide +kernel) rfl rfl rfl rfl (Nat.le_of_ble_eq_true rfl) rfl dX2_offer_93 (fun H locs hH => ?_)
              refine lv_aload_n zx zy dX2_offer_96 rfl (lv_at hl 0 rfl) ?_
              refine lv_dup zx zy dX2_offer_97 rfl ?_
              refine fx_get (C := RX2) (T := TX2) (N := 6) hC (fun _ h => List.mem_cons_of_mem _ (List.mem_append_left _ (List.mem_append_right _ h))) hH 0 rfl rfl 5 (by decide) (by decide +kernel) rfl dX2_offer_98 ?_
              refine lv_iload_n zx zy dX2_offer_101 rfl (lv_at hl 2 rfl) ?_
              refine lv_iadd zx zy dX2_offer_102 ?_
              refine fx_put (C := RX2) (T := TX2) (N := 6) (ty := .int) (ws2 := [(h, .inr (2, [.ref r0, .ref r1, .ref r2, .ref r3, .int (nI (k + 1)), .int (al + t)])), (r0, .inr (6, [.ref a0])), (a0, .inl (cI, 40, .inl (rSq f0 p k (nI w)))), (r1, .inr (6, [.ref a1])), (a1, .inl (cI, 40, .inl (rSq f1 p k t))), (r2, .inr (6, [.ref a2])), (a2, .inl (cI, 40, .inl (rSq f2 p k c))), (r3, .inr (6, [.ref a3])), (a3, .inl (cI, 10, .inl f3))]) hC (fun _ h => List.mem_cons_of_mem _ (List.mem_append_left _ (List.mem_append_right _ h))) tyX2_ok nmX2 hH 0 rfl rfl 5 (by decide) (by decide +kernel) rfl rfl rfl rfl (Nat.le_of_ble_eq_true rfl) rfl dX2_offer_103 (fun H locs hH => ?_)
              refine lv_aload_n zx zy dX2_offer_106 rfl (lv_at hl 0 rfl) ?_
              refine fx_get (C := RX2) (T := TX2) (N := 6) hC (fun _ h => List.mem_cons_of_mem _ (List.mem_append_left _ (List.mem_append_right _ h))) hH 0 rfl rfl 3 (by decide) (by decide +kernel) rfl dX2_offer_107 ?_
              refine lv_iload_n zx zy dX2_offer_110 rfl (lv_at hl 1 rfl) ?_
              refine lv_iconst (v := 1) zx zy dX2_offer_111 (by decide) ?_
              refine fx_cVv (n := 2) (As := [.int (nI w), .int 1]) (b := r3) (rest := []) (fun (u : (Nat → Int32)) => [(h, .inr (2, [.ref r0, .ref r1, .ref r2, .ref r3, .int (nI (k + 1)), .int (al + t)])), (r0, .inr (6, [.ref a0])), (a0, .inl (cI, 40, .inl (rSq f0 p k (nI w)))), (r1, .inr (6, [.ref a1])), (a1, .inl (cI, 40, .inl (rSq f1 p k t))), (r2, .inr (6, [.ref a2])), (a2, .inl (cI, 40, .inl (rSq f2 p k c))), (r3, .inr (6, [.ref a3])), (a3, .inl (cI, 10, .inl u))]) hC hA hH (k_X6_add l D cI cZ r3 a3 10 f3 (nI w) 1 (by first | assumption | omega)) [7, 8] [0, 1, 2, 3, 4, 5, 6] [0, 1, 2, 3, 4, 5, 6, 7, 8] [(h, .inr (2, [.ref r0, .ref r1, .ref r2, .ref r3, .int (nI (k + 1)), .int (al + t)])), (r0, .inr (6, [.ref a0])), (a0, .inl (cI, 40, .inl (rSq f0 p k (nI w)))), (r1, .inr (6, [.ref a1])), (a1, .inl (cI, 40, .inl (rSq f1 p k t))), (r2, .inr (6, [.ref a2])), (a2, .inl (cI, 40, .inl (rSq f2 p k c)))] rfl rfl (by decide) (by decide) (fun _ => rfl) rfl gX2_offer_X6_add (by decide +kernel) ⟨Nat.le_of_ble_eq_true rfl, Nat.le_of_ble_eq_true rfl⟩ 0 rfl rfl rfl rfl rfl hl.1 (Nat.le_of_ble_eq_true rfl) ⟨Nat.le_of_ble_eq_true rfl, Nat.le_of_ble_eq_true rfl⟩ dX2_offer_112 (fun u H locs hw112 hH => ?_)
              obtain ⟨u24, rfl⟩ : ∃ z, z = u := ⟨_, rfl⟩
              obtain rfl : u24 = rPut 10 f3 (nI w) (rAt 10 f3 (nI w) + 1) := hw112
              have hH := (hH : fx_H zA zs.heap H locs D [(h, .inr (2, [.ref r0, .ref r1, .ref r2, .ref r3, .int (nI (k + 1)), .int (al + t)])), (r0, .inr (6, [.ref a0])), (a0, .inl (cI, 40, .inl (rSq f0 p k (nI w)))), (r1, .inr (6, [.ref a1])), (a1, .inl (cI, 40, .inl (rSq f1 p k t))), (r2, .inr (6, [.ref a2])), (a2, .inl (cI, 40, .inl (rSq f2 p k c))), (r3, .inr (6, [.ref a3])), (a3, .inl (cI, 10, .inl (rPut 10 f3 (nI w) (rAt 10 f3 (nI w) + 1))))])
              rw [show (rPut 10 f3 (nI w) (rAt 10 f3 (nI w) + 1) : Nat → Int32) = upd f3 w (f3 w + 1) from rAdd_nI hw (by omega)] at hH
              refine lv_aload_n zx zy dX2_offer_115 rfl (lv_at hl 0 rfl) ?_
              refine fx_get (C := RX2) (T := TX2) (N := 6) hC (fun _ h => List.mem_cons_of_mem _ (List.mem_append_left _ (List.mem_append_right _ h))) hH 0 rfl rfl 3 (by decide) (by decide +kernel) rfl dX2_offer_116 ?_
              refine lv_iload_n zx zy dX2_offer_119 rfl (lv_at hl 1 rfl) ?_
              refine fx_cVi (n := 1) (As := [.int (nI w)]) (b := r3) (rest := []) (fun (u : Unit) => [(h, .inr (2, [.ref r0, .ref r1, .ref r2, .ref r3, .int (nI (k + 1)), .int (al + t)])), (r0, .inr (6, [.ref a0])), (a0, .inl (cI, 40, .inl (rSq f0 p k (nI w)))), (r1, .inr (6, [.ref a1])), (a1, .inl (cI, 40, .inl (rSq f1 p k t))), (r2, .inr (6, [.ref a2])), (a2, .inl (cI, 40, .inl (rSq f2 p k c))), (r3, .inr (6, [.ref a3])), (a3, .inl (cI, 10, .inl (upd f3 w (f3 w + 1))))]) hC hA hH (k_X6_at l D cI cZ r3 a3 10 (upd f3 w (f3 w + 1)) (nI w) (by first | assumption | omega)) [7, 8] [0, 1, 2, 3, 4, 5, 6] [0, 1, 2, 3, 4, 5, 6, 7, 8] [(h, .inr (2, [.ref r0, .ref r1, .ref r2, .ref r3, .int (nI (k + 1)), .int (al + t)])), (r0, .inr (6, [.ref a0])), (a0, .inl (cI, 40, .inl (rSq f0 p k (nI w)))), (r1, .inr (6, [.ref a1])), (a1, .inl (cI, 40, .inl (rSq f1 p k t))), (r2, .inr (6, [.ref a2])), (a2, .inl (cI, 40, .inl (rSq f2 p k c)))] rfl rfl (by decide) (by decide) (fun _ => rfl) rfl gX2_offer_X6_at (by decide +kernel) ⟨Nat.le_of_ble_eq_true rfl, Nat.le_of_ble_eq_true rfl⟩ 0 rfl rfl rfl rfl rfl hl.1 (Nat.le_of_ble_eq_true rfl) ⟨Nat.le_of_ble_eq_true rfl, Nat.le_of_ble_eq_true rfl⟩ dX2_offer_120 (fun r25 u H locs hw120 hH => ?_)
              obtain rfl : r25 = rAt 10 (upd f3 w (f3 w + 1)) (nI w) := hw120
              have hH := (hH : fx_H zA zs.heap H locs D [(h, .inr (2, [.ref r0, .ref r1, .ref r2, .ref r3, .int (nI (k + 1)), .int (al + t)])), (r0, .inr (6, [.ref a0])), (a0, .inl (cI, 40, .inl (rSq f0 p k (nI w)))), (r1, .inr (6, [.ref a1])), (a1, .inl (cI, 40, .inl (rSq f1 p k t))), (r2, .inr (6, [.ref a2])), (a2, .inl (cI, 40, .inl (rSq f2 p k c))), (r3, .inr (6, [.ref a3])), (a3, .inl (cI, 10, .inl (upd f3 w (f3 w + 1))))])
              refine lv_topi (fun v26 ev26 => ?_)
              obtain rfl : v26 = f3 w + 1 := ev26.trans ((rAt_nI hw (by omega)).trans pk_us)
              exact fx_iret (v := f3 w + 1) hQ hC hr hlk hH dX2_offer_123 rfl (Nat.le_of_ble_eq_true rfl) (Nat.le_of_ble_eq_true rfl) (((k + 1), al + t, rSq f0 p k (nI w), rSq f1 p k t, rSq f2 p k c, upd f3 w (f3 w + 1))) rfl (Or.inl ⟨c9, by subst hpe; exact ⟨rfl, rfl, rfl, rfl, rfl, rfl, rfl⟩⟩)
            · exact absurd c35 (by decide)
    exact L20 _ k (by first | assumption | omega) (rfl) _ _ _ (Nat.lt_succ_self _) hH (lv_sub hl [1, 2, 3, 4, 0] rfl)
  · skip
    refine lv_iconst (v := (-1)) zx zy dX2_offer_12 (by decide) ?_
    exact fx_iret (v := (-1)) hQ hC hr hlk hH dX2_offer_13 rfl (Nat.le_of_ble_eq_true rfl) (Nat.le_of_ble_eq_true rfl) ((k, al, f0, f1, f2, f3)) rfl (Or.inr ⟨c9, rfl, rfl, rfl, rfl, rfl, rfl, rfl⟩)
set_option maxHeartbeats 4000000 in
set_option maxRecDepth 100000 in
theorem k_X2_costOf (l : Launch) (D : va_G) (cI cZ : ClassId) (h : Nat) (r0 : Nat) (r1 : Nat) (r2 : Nat) (r3 : Nat) (k : Nat) (al : Int32) (a1 : Nat) (a2 : Nat) (f1 : Nat → Int32) (f2 : Nat → Int32) (n : Int32) (hk : k ≤ 40) : fx_CI l D cI cZ yX2_costOf wsX2_costOf ({ frames := 1, cells := 0, slots := 0, locals := 24 }) [.ref h, .int n] [(h, .inr (2, [.ref r0, .ref r1, .ref r2, .ref r3, .int (nI k), .int al])), (r1, .inr (6, [.ref a1])), (a1, .inl (cI, 40, .inl f1)), (r2, .inr (6, [.ref a2])), (a2, .inl (cI, 40, .inl f2))] (fun (u : Unit) => [(h, .inr (2, [.ref r0, .ref r1, .ref r2, .ref r3, .int (nI k), .int al])), (r1, .inr (6, [.ref a1])), (a1, .inl (cI, 40, .inl f1)), (r2, .inr (6, [.ref a2])), (a2, .inl (cI, 40, .inl f2))]) (fun (r : Int32) (u : Unit) => r = csS f1 f2 n k) := by
  refine fx_CI.of (ws' := (wsX2_costOf).tail) cX2_costOf 6 (by decide) rfl (Nat.le_of_ble_eq_true rfl) ?_
  intro zp ze zs zm za zb zt zc zA ls zQ hQ hC hr hlk hA hH hl
  have zx := hC.1.1
  have zy := hC.1.2.1
  have hl : lv_has ls 6 [(0, .ref h), (1, .int n)] := hl
  refine lv_iload_n zx zy dX2_costOf_0 rfl (lv_at hl 1 rfl) ?_
  refine lv_istore_n (lv' := [(2, .int n), (0, .ref h), (1, .int n)]) zx zy dX2_costOf_1 rfl hl (by decide) rfl (fun ls hl => ?_)
  refine lv_iconst (v := 0) zx zy dX2_costOf_2 (by decide) ?_
  refine lv_istore_n (lv' := [(3, .int 0), (2, .int n), (0, .ref h), (1, .int n)]) zx zy dX2_costOf_3 rfl hl (by decide) rfl (fun ls hl => ?_)
  refine lv_iconst (v := 0) zx zy dX2_costOf_4 (by decide) ?_
  refine lv_topi (fun v1 ev1 => ?_)
  obtain rfl : v1 = nI 0 := ev1.trans (rfl)
  refine lv_istore (lv' := [(4, .int (nI 0)), (3, .int 0), (2, .int n), (0, .ref h), (1, .int n)]) zx zy dX2_costOf_5 hl (by decide) rfl (fun ls hl => ?_)
  have L7 : ∀ (fu : Nat) (i : Nat) (lf : Int32) (sm : Int32) (hi : i ≤ k) (hl2 : lf = csL f1 n i) (hs : sm = csS f1 f2 n i) (H : Heap) (locs : List Loc) (ls : Array Slot), k - i < fu → fx_H zA zs.heap H locs D [(h, .inr (2, [.ref r0, .ref r1, .ref r2, .ref r3, .int (nI k), .int al])), (r1, .inr (6, [.ref a1])), (a1, .inl (cI, 40, .inl f1)), (r2, .inr (6, [.ref a2])), (a2, .inl (cI, 40, .inl f2))] → lv_has ls 6 [(0, .ref h), (1, .int n), (2, .int lf), (3, .int sm), (4, .int (nI i))] → W zp l ze ({ frames := 1, cells := 0, slots := 0, locals := 24 }) zs zm za zb zt zc H locs (0) (0) zQ (F0 zm 7 ls []) := by
    intro fu
    induction fu with
    | zero => intro i lf sm hi hl2 hs H locs ls hfu; exact absurd hfu (Nat.not_lt_zero _)
    | succ fu ih7 =>
      intro i lf sm hi hl2 hs H locs ls hfu7 hH hl
      refine lv_iload zx zy dX2_costOf_7 (lv_at hl 4 rfl) ?_
      refine lv_aload_n zx zy dX2_costOf_9 rfl (lv_at hl 0 rfl) ?_
      refine fx_get (C := RX2) (T := TX2) (N := 6) hC (fun _ h => List.mem_cons_of_mem _ (List.mem_append_left _ (List.mem_append_right _ h))) hH 0 rfl rfl 4 (by decide) (by decide +kernel) rfl dX2_costOf_10 ?_
      refine lv_icmp_ge (tgt := 57) zx zy dX2_costOf_13 (by decide) (fun c13 => ?_) (fun c13 => ?_)
      · skip
        refine lv_iload_n zx zy dX2_costOf_57 rfl (lv_at hl 3 rfl) ?_
        exact fx_iret (v := sm) hQ hC hr hlk hH dX2_costOf_58 rfl (Nat.le_of_ble_eq_true rfl) (Nat.le_of_ble_eq_true rfl) (()) rfl (by rw [hs, Nat.le_antisymm hi (fx_le_of c13 (by omega) (by omega))])
      · skip
        have hlt : i < k := fx_lt_of c13 (by omega)
        refine lv_iload_n zx zy dX2_costOf_16 rfl (lv_at hl 2 rfl) ?_
        refine lv_aload_n zx zy dX2_costOf_17 rfl (lv_at hl 0 rfl) ?_
        refine fx_get (C := RX2) (T := TX2) (N := 6) hC (fun _ h => List.mem_cons_of_mem _ (List.mem_append_left _ (List.mem_append_right _ h))) hH 0 rfl rfl 1 (by decide) (by decide +kernel) rfl dX2_costOf_18 ?_
        refine lv_iload zx zy dX2_costOf_21 (lv_at hl 4 rfl) ?_
        refine fx_cVi (n := 1) (As := [.int (nI i)]) (b := r1) (rest := [.int lf]) (fun (u : Unit) => [(h, .inr (2, [.ref r0, .ref r1, .ref r2, .ref r3, .int (nI k), .int al])), (r1, .inr (6, [.ref a1])), (a1, .inl (cI, 40, .inl f1)), (r2, .inr (6, [.ref a2])), (a2, .inl (cI, 40, .inl f2))]) hC hA hH (k_X6_at l D cI cZ r1 a1 40 f1 (nI i) (by first | assumption | omega)) [1, 2] [0, 3, 4] [0, 3, 4, 1, 2] [(h, .inr (2, [.ref r0, .ref r1, .ref r2, .ref r3, .int (nI k), .int al])), (r2, .inr (6, [.ref a2])), (a2, .inl (cI, 40, .inl f2))] rfl rfl (by decide) (by decide) (fun _ => rfl) rfl gX2_costOf_X6_at (by decide +kernel) ⟨Nat.le_of_ble_eq_true rfl, Nat.le_of_ble_eq_true rfl⟩ 0 rfl rfl rfl rfl rfl hl.1 (Nat.le_of_ble_eq_true rfl) ⟨Nat.le_of_ble_eq_true rfl, Nat.le_of_ble_eq_true rfl⟩ dX2_costOf_23 (fun r2 u H locs hw23 hH => ?_)
        obtain rfl : r2 = rAt 40 f1 (nI i) := hw23
        have hH := (hH : fx_H zA zs.heap H locs D [(h, .inr (2, [.ref r0, .ref r1, .ref r2, .ref r3, .int (nI k), .int al])), (r1, .inr (6, [.ref a1])), (a1, .inl (cI, 40, .inl f1)), (r2, .inr (6, [.ref a2])), (a2, .inl (cI, 40, .inl f2))])
        refine lv_topi (fun v3 ev3 => ?_)
        obtain rfl : v3 = f1 i := ev3.trans (rAt_nI (by omega) (by omega))
        refine fx_min hC hl.1 (by decide +kernel) (Nat.le_of_ble_eq_true rfl) (Nat.le_of_ble_eq_true rfl) (Nat.le_of_ble_eq_true rfl) (Nat.le_of_ble_eq_true rfl) dX2_costOf_26 ?_
        refine lv_istore (lv' := [(5, .int (if f1 i < lf then f1 i else lf)), (0, .ref h), (1, .int n), (2, .int lf), (3, .int sm), (4, .int (nI i))]) zx zy dX2_costOf_29 hl (by decide) rfl (fun ls hl => ?_)
        refine lv_iload_n zx zy dX2_costOf_31 rfl (lv_at hl 4 rfl) ?_
        refine lv_iload zx zy dX2_costOf_32 (lv_at hl 0 rfl) ?_
        refine lv_aload_n zx zy dX2_costOf_34 rfl (lv_at hl 1 rfl) ?_
        refine fx_get (C := RX2) (T := TX2) (N := 6) hC (fun _ h => List.mem_cons_of_mem _ (List.mem_append_left _ (List.mem_append_right _ h))) hH 0 rfl rfl 2 (by decide) (by decide +kernel) rfl dX2_costOf_35 ?_
        refine lv_iload zx zy dX2_costOf_38 (lv_at hl 5 rfl) ?_
        refine fx_cVi (n := 1) (As := [.int (nI i)]) (b := r2) (rest := [.int (if f1 i < lf then f1 i else lf), .int sm]) (fun (u : Unit) => [(h, .inr (2, [.ref r0, .ref r1, .ref r2, .ref r3, .int (nI k), .int al])), (r1, .inr (6, [.ref a1])), (a1, .inl (cI, 40, .inl f1)), (r2, .inr (6, [.ref a2])), (a2, .inl (cI, 40, .inl f2))]) hC hA hH (k_X6_at l D cI cZ r2 a2 40 f2 (nI i) (by first | assumption | omega)) [3, 4] [0, 1, 2] [0, 1, 2, 3, 4] [(h, .inr (2, [.ref r0, .ref r1, .ref r2, .ref r3, .int (nI k), .int al])), (r1, .inr (6, [.ref a1])), (a1, .inl (cI, 40, .inl f1))] rfl rfl (by decide) (by decide) (fun _ => rfl) rfl gX2_costOf_X6_at (by decide +kernel) ⟨Nat.le_of_ble_eq_true rfl, Nat.le_of_ble_eq_true rfl⟩ 0 rfl rfl rfl rfl rfl hl.1 (Nat.le_of_ble_eq_true rfl) ⟨Nat.le_of_ble_eq_true rfl, Nat.le_of_ble_eq_true rfl⟩ dX2_costOf_40 (fun r4 u H locs hw40 hH => ?_)
        obtain rfl : r4 = rAt 40 f2 (nI i) := hw40
        have hH := (hH : fx_H zA zs.heap H locs D [(h, .inr (2, [.ref r0, .ref r1, .ref r2, .ref r3, .int (nI k), .int al])), (r1, .inr (6, [.ref a1])), (a1, .inl (cI, 40, .inl f1)), (r2, .inr (6, [.ref a2])), (a2, .inl (cI, 40, .inl f2))])
        refine lv_topi (fun v5 ev5 => ?_)
        obtain rfl : v5 = f2 i := ev5.trans (rAt_nI (by omega) (by omega))
        refine lv_imul zx zy dX2_costOf_43 ?_
        refine lv_iadd zx zy dX2_costOf_44 ?_
        refine lv_istore_n (lv' := [(3, .int (sm + ((if f1 i < lf then f1 i else lf) * (f2 i)))), (5, .int (if f1 i < lf then f1 i else lf)), (0, .ref h), (1, .int n), (2, .int lf), (4, .int (nI i))]) zx zy dX2_costOf_45 rfl hl (by decide) rfl (fun ls hl => ?_)
        refine lv_iload_n zx zy dX2_costOf_46 rfl (lv_at hl 4 rfl) ?_
        refine lv_iload zx zy dX2_costOf_47 (lv_at hl 1 rfl) ?_
        refine lv_isub zx zy dX2_costOf_49 ?_
        refine lv_istore_n (lv' := [(2, .int (lf - (if f1 i < lf then f1 i else lf))), (3, .int (sm + ((if f1 i < lf then f1 i else lf) * (f2 i)))), (5, .int (if f1 i < lf then f1 i else lf)), (0, .ref h), (1, .int n), (4, .int (nI i))]) zx zy dX2_costOf_50 rfl hl (by decide) rfl (fun ls hl => ?_)
        refine lv_iinc (v := nI (i + 1)) (lv' := [(4, .int (nI (i + 1))), (2, .int (lf - (if f1 i < lf then f1 i else lf))), (3, .int (sm + ((if f1 i < lf then f1 i else lf) * (f2 i)))), (5, .int (if f1 i < lf then f1 i else lf)), (0, .ref h), (1, .int n)]) zx zy dX2_costOf_51 hl (k := 5) rfl (nI_1 _) (by decide) rfl (fun ls hl => ?_)
        refine lv_goto (tgt := 7) zx zy dX2_costOf_54 (by decide) ?_
        exact ih7 (i + 1) (lf - (if f1 i < lf then f1 i else lf)) (sm + ((if f1 i < lf then f1 i else lf) * (f2 i))) (by first | assumption | omega) (by subst hl2; rfl) (by subst hl2; subst hs; rfl) _ _ _ (by omega) hH (lv_sub hl [4, 5, 1, 2, 0] rfl)
  exact L7 _ 0 n 0 (by first | assumption | omega) (rfl) (rfl) _ _ _ (Nat.lt_succ_self _) hH (lv_sub hl [3, 4, 2, 1, 0] rfl)
set_option maxHeartbeats 4000000 in
set_option maxRecDepth 100000 in
theorem k_X2_dearestOf (l : Launch) (D : va_G) (cI cZ : ClassId) (h : Nat) (r0 : Nat) (r1 : Nat) (r2 : Nat) (r3 : Nat) (k : Nat) (al : Int32) (a1 : Nat) (a2 : Nat) (f1 : Nat → Int32) (f2 : Nat → Int32) (n : Int32) (hk : k ≤ 40) : fx_CI l D cI cZ yX2_dearestOf wsX2_dearestOf ({ frames := 1, cells := 0, slots := 0, locals := 21 }) [.ref h, .int n] [(h, .inr (2, [.ref r0, .ref r1, .ref r2, .ref r3, .int (nI k), .int al])), (r1, .inr (6, [.ref a1])), (a1, .inl (cI, 40, .inl f1)), (r2, .inr (6, [.ref a2])), (a2, .inl (cI, 40, .inl f2))] (fun (u : Unit) => [(h, .inr (2, [.ref r0, .ref r1, .ref r2, .ref r3, .int (nI k), .int al])), (r1, .inr (6, [.ref a1])), (a1, .inl (cI, 40, .inl f1)), (r2, .inr (6, [.ref a2])), (a2, .inl (cI, 40, .inl f2))]) (fun (r : Int32) (u : Unit) => r = deG f1 f2 k 0 n 0) := by
  refine fx_CI.of (ws' := (wsX2_dearestOf).tail) cX2_dearestOf 5 (by decide) rfl (Nat.le_of_ble_eq_true rfl) ?_
  intro zp ze zs zm za zb zt zc zA ls zQ hQ hC hr hlk hA hH hl
  have zx := hC.1.1
  have zy := hC.1.2.1
  have hl : lv_has ls 5 [(0, .ref h), (1, .int n)] := hl
  refine lv_iload_n zx zy dX2_dearestOf_0 rfl (lv_at hl 1 rfl) ?_
  refine lv_istore_n (lv' := [(2, .int n), (0, .ref h), (1, .int n)]) zx zy dX2_dearestOf_1 rfl hl (by decide) rfl (fun ls hl => ?_)
  refine lv_iconst (v := 0) zx zy dX2_dearestOf_2 (by decide) ?_
  refine lv_istore_n (lv' := [(3, .int 0), (2, .int n), (0, .ref h), (1, .int n)]) zx zy dX2_dearestOf_3 rfl hl (by decide) rfl (fun ls hl => ?_)
  refine lv_iconst (v := 0) zx zy dX2_dearestOf_4 (by decide) ?_
  refine lv_topi (fun v1 ev1 => ?_)
  obtain rfl : v1 = nI 0 := ev1.trans (rfl)
  refine lv_istore (lv' := [(4, .int (nI 0)), (3, .int 0), (2, .int n), (0, .ref h), (1, .int n)]) zx zy dX2_dearestOf_5 hl (by decide) rfl (fun ls hl => ?_)
  have L7 : ∀ (fu : Nat) (i : Nat) (lf : Int32) (d : Int32) (hi : i ≤ k) (hd : deG f1 f2 (k - i) i lf d = deG f1 f2 k 0 n 0) (H : Heap) (locs : List Loc) (ls : Array Slot), k - i < fu → fx_H zA zs.heap H locs D [(h, .inr (2, [.ref r0, .ref r1, .ref r2, .ref r3, .int (nI k), .int al])), (r1, .inr (6, [.ref a1])), (a1, .inl (cI, 40, .inl f1)), (r2, .inr (6, [.ref a2])), (a2, .inl (cI, 40, .inl f2))] → lv_has ls 5 [(0, .ref h), (1, .int n), (2, .int lf), (3, .int d), (4, .int (nI i))] → W zp l ze ({ frames := 1, cells := 0, slots := 0, locals := 21 }) zs zm za zb zt zc H locs (0) (0) zQ (F0 zm 7 ls []) := by
    intro fu
    induction fu with
    | zero => intro i lf d hi hd H locs ls hfu; exact absurd hfu (Nat.not_lt_zero _)
    | succ fu ih7 =>
      intro i lf d hi hd H locs ls hfu7 hH hl
      refine lv_iload zx zy dX2_dearestOf_7 (lv_at hl 4 rfl) ?_
      refine lv_aload_n zx zy dX2_dearestOf_9 rfl (lv_at hl 0 rfl) ?_
      refine fx_get (C := RX2) (T := TX2) (N := 6) hC (fun _ h => List.mem_cons_of_mem _ (List.mem_append_left _ (List.mem_append_right _ h))) hH 0 rfl rfl 4 (by decide) (by decide +kernel) rfl dX2_dearestOf_10 ?_
      refine lv_icmp_ge (tgt := 48) zx zy dX2_dearestOf_13 (by decide) (fun c13 => ?_) (fun c13 => ?_)
      · skip
        refine lv_iload_n zx zy dX2_dearestOf_48 rfl (lv_at hl 3 rfl) ?_
        exact fx_iret (v := d) hQ hC hr hlk hH dX2_dearestOf_49 rfl (Nat.le_of_ble_eq_true rfl) (Nat.le_of_ble_eq_true rfl) (()) rfl (by first | exact ((deG_e c17).symm.trans hd) | exact (by rw [← hd, show k - i = 0 from Nat.sub_eq_zero_of_le (fx_le_of c13 (by omega) (by omega))]; rfl))
      · skip
        have hlt : i < k := fx_lt_of c13 (by omega)
        refine lv_iload_n zx zy dX2_dearestOf_16 rfl (lv_at hl 2 rfl) ?_
        refine lv_if_le (tgt := 48) zx zy dX2_dearestOf_17 (by decide) (fun c17 => ?_) (fun c17 => ?_)
        · skip
          refine lv_iload_n zx zy dX2_dearestOf_48 rfl (lv_at hl 3 rfl) ?_
          exact fx_iret (v := d) hQ hC hr hlk hH dX2_dearestOf_49 rfl (Nat.le_of_ble_eq_true rfl) (Nat.le_of_ble_eq_true rfl) (()) rfl (by first | exact ((deG_e c17).symm.trans hd) | exact (by rw [← hd, show k - i = 0 from Nat.sub_eq_zero_of_le (fx_le_of c13 (by omega) (by omega))]; rfl))
        · skip
          refine lv_aload_n zx zy dX2_dearestOf_20 rfl (lv_at hl 0 rfl) ?_
          refine fx_get (C := RX2) (T := TX2) (N := 6) hC (fun _ h => List.mem_cons_of_mem _ (List.mem_append_left _ (List.mem_append_right _ h))) hH 0 rfl rfl 2 (by decide) (by decide +kernel) rfl dX2_dearestOf_21 ?_
          refine lv_iload zx zy dX2_dearestOf_24 (lv_at hl 4 rfl) ?_
          refine fx_cVi (n := 1) (As := [.int (nI i)]) (b := r2) (rest := []) (fun (u : Unit) => [(h, .inr (2, [.ref r0, .ref r1, .ref r2, .ref r3, .int (nI k), .int al])), (r1, .inr (6, [.ref a1])), (a1, .inl (cI, 40, .inl f1)), (r2, .inr (6, [.ref a2])), (a2, .inl (cI, 40, .inl f2))]) hC hA hH (k_X6_at l D cI cZ r2 a2 40 f2 (nI i) (by first | assumption | omega)) [3, 4] [0, 1, 2] [0, 1, 2, 3, 4] [(h, .inr (2, [.ref r0, .ref r1, .ref r2, .ref r3, .int (nI k), .int al])), (r1, .inr (6, [.ref a1])), (a1, .inl (cI, 40, .inl f1))] rfl rfl (by decide) (by decide) (fun _ => rfl) rfl gX2_dearestOf_X6_at (by decide +kernel) ⟨Nat.le_of_ble_eq_true rfl, Nat.le_of_ble_eq_true rfl⟩ 0 rfl rfl rfl rfl rfl hl.1 (Nat.le_of_ble_eq_true rfl) ⟨Nat.le_of_ble_eq_true rfl, Nat.le_of_ble_eq_true rfl⟩ dX2_dearestOf_26 (fun r2 u H locs hw26 hH => ?_)
          obtain rfl : r2 = rAt 40 f2 (nI i) := hw26
          have hH := (hH : fx_H zA zs.heap H locs D [(h, .inr (2, [.ref r0, .ref r1, .ref r2, .ref r3, .int (nI k), .int al])), (r1, .inr (6, [.ref a1])), (a1, .inl (cI, 40, .inl f1)), (r2, .inr (6, [.ref a2])), (a2, .inl (cI, 40, .inl f2))])
          refine lv_topi (fun v3 ev3 => ?_)
          obtain rfl : v3 = f2 i := ev3.trans (rAt_nI (by omega) (by omega))
          refine lv_istore_n (lv' := [(3, .int (f2 i)), (0, .ref h), (1, .int n), (2, .int lf), (4, .int (nI i))]) zx zy dX2_dearestOf_29 rfl hl (by decide) rfl (fun ls hl => ?_)
          refine lv_iload_n zx zy dX2_dearestOf_30 rfl (lv_at hl 3 rfl) ?_
          refine lv_aload_n zx zy dX2_dearestOf_31 rfl (lv_at hl 1 rfl) ?_
          refine fx_get (C := RX2) (T := TX2) (N := 6) hC (fun _ h => List.mem_cons_of_mem _ (List.mem_append_left _ (List.mem_append_right _ h))) hH 0 rfl rfl 1 (by decide) (by decide +kernel) rfl dX2_dearestOf_32 ?_
          refine lv_iload zx zy dX2_dearestOf_35 (lv_at hl 4 rfl) ?_
          refine fx_cVi (n := 1) (As := [.int (nI i)]) (b := r1) (rest := [.int lf]) (fun (u : Unit) => [(h, .inr (2, [.ref r0, .ref r1, .ref r2, .ref r3, .int (nI k), .int al])), (r1, .inr (6, [.ref a1])), (a1, .inl (cI, 40, .inl f1)), (r2, .inr (6, [.ref a2])), (a2, .inl (cI, 40, .inl f2))]) hC hA hH (k_X6_at l D cI cZ r1 a1 40 f1 (nI i) (by first | assumption | omega)) [1, 2] [0, 3, 4] [0, 3, 4, 1, 2] [(h, .inr (2, [.ref r0, .ref r1, .ref r2, .ref r3, .int (nI k), .int al])), (r2, .inr (6, [.ref a2])), (a2, .inl (cI, 40, .inl f2))] rfl rfl (by decide) (by decide) (fun _ => rfl) rfl gX2_dearestOf_X6_at (by decide +kernel) ⟨Nat.le_of_ble_eq_true rfl, Nat.le_of_ble_eq_true rfl⟩ 0 rfl rfl rfl rfl rfl hl.1 (Nat.le_of_ble_eq_true rfl) ⟨Nat.le_of_ble_eq_true rfl, Nat.le_of_ble_eq_true rfl⟩ dX2_dearestOf_37 (fun r4 u H locs hw37 hH => ?_)
          obtain rfl : r4 = rAt 40 f1 (nI i) := hw37
          have hH := (hH : fx_H zA zs.heap H locs D [(h, .inr (2, [.ref r0, .ref r1, .ref r2, .ref r3, .int (nI k), .int al])), (r1, .inr (6, [.ref a1])), (a1, .inl (cI, 40, .inl f1)), (r2, .inr (6, [.ref a2])), (a2, .inl (cI, 40, .inl f2))])
          refine lv_topi (fun v5 ev5 => ?_)
          obtain rfl : v5 = f1 i := ev5.trans (rAt_nI (by omega) (by omega))
          refine lv_isub zx zy dX2_dearestOf_40 ?_
          refine lv_istore_n (lv' := [(2, .int (lf - (f1 i))), (3, .int (f2 i)), (0, .ref h), (1, .int n), (4, .int (nI i))]) zx zy dX2_dearestOf_41 rfl hl (by decide) rfl (fun ls hl => ?_)
          refine lv_iinc (v := nI (i + 1)) (lv' := [(4, .int (nI (i + 1))), (2, .int (lf - (f1 i))), (3, .int (f2 i)), (0, .ref h), (1, .int n)]) zx zy dX2_dearestOf_42 hl (k := 4) rfl (nI_1 _) (by decide) rfl (fun ls hl => ?_)
          refine lv_goto (tgt := 7) zx zy dX2_dearestOf_45 (by decide) ?_
          exact ih7 (i + 1) (lf - (f1 i)) (f2 i) (by first | assumption | omega) ((deG_s hlt c17).symm.trans hd) _ _ _ (by omega) hH (lv_sub hl [3, 4, 1, 2, 0] rfl)
  exact L7 _ 0 n 0 (by first | assumption | omega) (rfl) _ _ _ (Nat.lt_succ_self _) hH (lv_sub hl [3, 4, 2, 1, 0] rfl)
set_option maxHeartbeats 4000000 in
set_option maxRecDepth 100000 in
theorem k_X2_partOf (l : Launch) (D : va_G) (cI cZ : ClassId) (h : Nat) (r0 : Nat) (r1 : Nat) (r2 : Nat) (r3 : Nat) (k : Nat) (al : Int32) (a0 : Nat) (a1 : Nat) (f0 : Nat → Int32) (f1 : Nat → Int32) (n : Int32) (w : Int32) (hk : k ≤ 40) : fx_CI l D cI cZ yX2_partOf wsX2_partOf ({ frames := 1, cells := 0, slots := 0, locals := 24 }) [.ref h, .int n, .int w] [(h, .inr (2, [.ref r0, .ref r1, .ref r2, .ref r3, .int (nI k), .int al])), (r0, .inr (6, [.ref a0])), (a0, .inl (cI, 40, .inl f0)), (r1, .inr (6, [.ref a1])), (a1, .inl (cI, 40, .inl f1))] (fun (u : Unit) => [(h, .inr (2, [.ref r0, .ref r1, .ref r2, .ref r3, .int (nI k), .int al])), (r0, .inr (6, [.ref a0])), (a0, .inl (cI, 40, .inl f0)), (r1, .inr (6, [.ref a1])), (a1, .inl (cI, 40, .inl f1))]) (fun (r : Int32) (u : Unit) => r = csP f0 f1 n w k) := by
  refine fx_CI.of (ws' := (wsX2_partOf).tail) cX2_partOf 7 (by decide) rfl (Nat.le_of_ble_eq_true rfl) ?_
  intro zp ze zs zm za zb zt zc zA ls zQ hQ hC hr hlk hA hH hl
  have zx := hC.1.1
  have zy := hC.1.2.1
  have hl : lv_has ls 7 [(0, .ref h), (1, .int n), (2, .int w)] := hl
  refine lv_iload_n zx zy dX2_partOf_0 rfl (lv_at hl 1 rfl) ?_
  refine lv_istore_n (lv' := [(3, .int n), (0, .ref h), (1, .int n), (2, .int w)]) zx zy dX2_partOf_1 rfl hl (by decide) rfl (fun ls hl => ?_)
  refine lv_iconst (v := 0) zx zy dX2_partOf_2 (by decide) ?_
  refine lv_istore (lv' := [(4, .int 0), (3, .int n), (0, .ref h), (1, .int n), (2, .int w)]) zx zy dX2_partOf_3 hl (by decide) rfl (fun ls hl => ?_)
  refine lv_iconst (v := 0) zx zy dX2_partOf_5 (by decide) ?_
  refine lv_topi (fun v1 ev1 => ?_)
  obtain rfl : v1 = nI 0 := ev1.trans (rfl)
  refine lv_istore (lv' := [(5, .int (nI 0)), (4, .int 0), (3, .int n), (0, .ref h), (1, .int n), (2, .int w)]) zx zy dX2_partOf_6 hl (by decide) rfl (fun ls hl => ?_)
  have L8 : ∀ (fu : Nat) (i : Nat) (lf : Int32) (sm : Int32) (hi : i ≤ k) (hl2 : lf = csL f1 n i) (hs : sm = csP f0 f1 n w i) (H : Heap) (locs : List Loc) (ls : Array Slot), k - i < fu → fx_H zA zs.heap H locs D [(h, .inr (2, [.ref r0, .ref r1, .ref r2, .ref r3, .int (nI k), .int al])), (r0, .inr (6, [.ref a0])), (a0, .inl (cI, 40, .inl f0)), (r1, .inr (6, [.ref a1])), (a1, .inl (cI, 40, .inl f1))] → lv_has ls 7 [(0, .ref h), (1, .int n), (2, .int w), (3, .int lf), (4, .int sm), (5, .int (nI i))] → W zp l ze ({ frames := 1, cells := 0, slots := 0, locals := 24 }) zs zm za zb zt zc H locs (0) (0) zQ (F0 zm 8 ls []) := by
    intro fu
    induction fu with
    | zero => intro i lf sm hi hl2 hs H locs ls hfu; exact absurd hfu (Nat.not_lt_zero _)
    | succ fu ih8 =>
      intro i lf sm hi hl2 hs H locs ls hfu8 hH hl
      refine lv_iload zx zy dX2_partOf_8 (lv_at hl 5 rfl) ?_
      refine lv_aload_n zx zy dX2_partOf_10 rfl (lv_at hl 0 rfl) ?_
      refine fx_get (C := RX2) (T := TX2) (N := 6) hC (fun _ h => List.mem_cons_of_mem _ (List.mem_append_left _ (List.mem_append_right _ h))) hH 0 rfl rfl 4 (by decide) (by decide +kernel) rfl dX2_partOf_11 ?_
      refine lv_icmp_ge (tgt := 67) zx zy dX2_partOf_14 (by decide) (fun c14 => ?_) (fun c14 => ?_)
      · skip
        refine lv_iload zx zy dX2_partOf_67 (lv_at hl 4 rfl) ?_
        exact fx_iret (v := sm) hQ hC hr hlk hH dX2_partOf_69 rfl (Nat.le_of_ble_eq_true rfl) (Nat.le_of_ble_eq_true rfl) (()) rfl (by rw [hs, Nat.le_antisymm hi (fx_le_of c14 (by omega) (by omega))])
      · skip
        have hlt : i < k := fx_lt_of c14 (by omega)
        refine lv_iload_n zx zy dX2_partOf_17 rfl (lv_at hl 3 rfl) ?_
        refine lv_aload_n zx zy dX2_partOf_18 rfl (lv_at hl 0 rfl) ?_
        refine fx_get (C := RX2) (T := TX2) (N := 6) hC (fun _ h => List.mem_cons_of_mem _ (List.mem_append_left _ (List.mem_append_right _ h))) hH 0 rfl rfl 1 (by decide) (by decide +kernel) rfl dX2_partOf_19 ?_
        refine lv_iload zx zy dX2_partOf_22 (lv_at hl 5 rfl) ?_
        refine fx_cVi (n := 1) (As := [.int (nI i)]) (b := r1) (rest := [.int lf]) (fun (u : Unit) => [(h, .inr (2, [.ref r0, .ref r1, .ref r2, .ref r3, .int (nI k), .int al])), (r0, .inr (6, [.ref a0])), (a0, .inl (cI, 40, .inl f0)), (r1, .inr (6, [.ref a1])), (a1, .inl (cI, 40, .inl f1))]) hC hA hH (k_X6_at l D cI cZ r1 a1 40 f1 (nI i) (by first | assumption | omega)) [3, 4] [0, 1, 2] [0, 1, 2, 3, 4] [(h, .inr (2, [.ref r0, .ref r1, .ref r2, .ref r3, .int (nI k), .int al])), (r0, .inr (6, [.ref a0])), (a0, .inl (cI, 40, .inl f0))] rfl rfl (by decide) (by decide) (fun _ => rfl) rfl gX2_partOf_X6_at (by decide +kernel) ⟨Nat.le_of_ble_eq_true rfl, Nat.le_of_ble_eq_true rfl⟩ 0 rfl rfl rfl rfl rfl hl.1 (Nat.le_of_ble_eq_true rfl) ⟨Nat.le_of_ble_eq_true rfl, Nat.le_of_ble_eq_true rfl⟩ dX2_partOf_24 (fun r2 u H locs hw24 hH => ?_)
        obtain rfl : r2 = rAt 40 f1 (nI i) := hw24
        have hH := (hH : fx_H zA zs.heap H locs D [(h, .inr (2, [.ref r0, .ref r1, .ref r2, .ref r3, .int (nI k), .int al])), (r0, .inr (6, [.ref a0])), (a0, .inl (cI, 40, .inl f0)), (r1, .inr (6, [.ref a1])), (a1, .inl (cI, 40, .inl f1))])
        refine lv_topi (fun v3 ev3 => ?_)
        obtain rfl : v3 = f1 i := ev3.trans (rAt_nI (by omega) (by omega))
        refine fx_min hC hl.1 (by decide +kernel) (Nat.le_of_ble_eq_true rfl) (Nat.le_of_ble_eq_true rfl) (Nat.le_of_ble_eq_true rfl) (Nat.le_of_ble_eq_true rfl) dX2_partOf_27 ?_
        refine lv_istore (lv' := [(6, .int (if f1 i < lf then f1 i else lf)), (0, .ref h), (1, .int n), (2, .int w), (3, .int lf), (4, .int sm), (5, .int (nI i))]) zx zy dX2_partOf_30 hl (by decide) rfl (fun ls hl => ?_)
        refine lv_iload zx zy dX2_partOf_32 (lv_at hl 5 rfl) ?_
        refine lv_aload_n zx zy dX2_partOf_34 rfl (lv_at hl 1 rfl) ?_
        refine fx_get (C := RX2) (T := TX2) (N := 6) hC (fun _ h => List.mem_cons_of_mem _ (List.mem_append_left _ (List.mem_append_right _ h))) hH 0 rfl rfl 0 (by decide) (by decide +kernel) rfl dX2_partOf_35 ?_
        refine lv_iload zx zy dX2_partOf_38 (lv_at hl 6 rfl) ?_
        refine fx_cVi (n := 1) (As := [.int (nI i)]) (b := r0) (rest := [.int sm]) (fun (u : Unit) => [(h, .inr (2, [.ref r0, .ref r1, .ref r2, .ref r3, .int (nI k), .int al])), (r0, .inr (6, [.ref a0])), (a0, .inl (cI, 40, .inl f0)), (r1, .inr (6, [.ref a1])), (a1, .inl (cI, 40, .inl f1))]) hC hA hH (k_X6_at l D cI cZ r0 a0 40 f0 (nI i) (by first | assumption | omega)) [1, 2] [0, 3, 4] [0, 3, 4, 1, 2] [(h, .inr (2, [.ref r0, .ref r1, .ref r2, .ref r3, .int (nI k), .int al])), (r1, .inr (6, [.ref a1])), (a1, .inl (cI, 40, .inl f1))] rfl rfl (by decide) (by decide) (fun _ => rfl) rfl gX2_partOf_X6_at (by decide +kernel) ⟨Nat.le_of_ble_eq_true rfl, Nat.le_of_ble_eq_true rfl⟩ 0 rfl rfl rfl rfl rfl hl.1 (Nat.le_of_ble_eq_true rfl) ⟨Nat.le_of_ble_eq_true rfl, Nat.le_of_ble_eq_true rfl⟩ dX2_partOf_40 (fun r4 u H locs hw40 hH => ?_)
        obtain rfl : r4 = rAt 40 f0 (nI i) := hw40
        have hH := (hH : fx_H zA zs.heap H locs D [(h, .inr (2, [.ref r0, .ref r1, .ref r2, .ref r3, .int (nI k), .int al])), (r0, .inr (6, [.ref a0])), (a0, .inl (cI, 40, .inl f0)), (r1, .inr (6, [.ref a1])), (a1, .inl (cI, 40, .inl f1))])
        refine lv_topi (fun v5 ev5 => ?_)
        obtain rfl : v5 = f0 i := ev5.trans (rAt_nI (by omega) (by omega))
        refine lv_iload_n zx zy dX2_partOf_43 rfl (lv_at hl 3 rfl) ?_
        refine lv_icmp_ne (tgt := 52) zx zy dX2_partOf_44 (by decide) (fun c44 => ?_) (fun c44 => ?_)
        · skip
          refine lv_iconst (v := 0) zx zy dX2_partOf_52 (by decide) ?_
          refine lv_iadd zx zy dX2_partOf_53 ?_
          refine lv_istore (lv' := [(4, .int (sm + 0)), (6, .int (if f1 i < lf then f1 i else lf)), (0, .ref h), (1, .int n), (2, .int w), (3, .int lf), (5, .int (nI i))]) zx zy dX2_partOf_54 hl (by decide) rfl (fun ls hl => ?_)
          refine lv_iload_n zx zy dX2_partOf_56 rfl (lv_at hl 5 rfl) ?_
          refine lv_iload zx zy dX2_partOf_57 (lv_at hl 1 rfl) ?_
          refine lv_isub zx zy dX2_partOf_59 ?_
          refine lv_istore_n (lv' := [(3, .int (lf - (if f1 i < lf then f1 i else lf))), (4, .int (sm + 0)), (6, .int (if f1 i < lf then f1 i else lf)), (0, .ref h), (1, .int n), (2, .int w), (5, .int (nI i))]) zx zy dX2_partOf_60 rfl hl (by decide) rfl (fun ls hl => ?_)
          refine lv_iinc (v := nI (i + 1)) (lv' := [(5, .int (nI (i + 1))), (3, .int (lf - (if f1 i < lf then f1 i else lf))), (4, .int (sm + 0)), (6, .int (if f1 i < lf then f1 i else lf)), (0, .ref h), (1, .int n), (2, .int w)]) zx zy dX2_partOf_61 hl (k := 6) rfl (nI_1 _) (by decide) rfl (fun ls hl => ?_)
          refine lv_goto (tgt := 8) zx zy dX2_partOf_64 (by decide) ?_
          exact ih8 (i + 1) (lf - (if f1 i < lf then f1 i else lf)) (sm + 0) (by first | assumption | omega) (by subst hl2; rfl) (by subst hl2; subst hs; first | (simp only [csP, if_pos c44]; rfl) | (simp only [csP, if_neg c44]; done)) _ _ _ (by omega) hH (lv_sub hl [4, 5, 6, 1, 2, 0] rfl)
        · skip
          refine lv_iload zx zy dX2_partOf_47 (lv_at hl 0 rfl) ?_
          refine lv_goto (tgt := 53) zx zy dX2_partOf_49 (by decide) ?_
          refine lv_iadd zx zy dX2_partOf_53 ?_
          refine lv_istore (lv' := [(4, .int (sm + (if f1 i < lf then f1 i else lf))), (6, .int (if f1 i < lf then f1 i else lf)), (0, .ref h), (1, .int n), (2, .int w), (3, .int lf), (5, .int (nI i))]) zx zy dX2_partOf_54 hl (by decide) rfl (fun ls hl => ?_)
          refine lv_iload_n zx zy dX2_partOf_56 rfl (lv_at hl 5 rfl) ?_
          refine lv_iload zx zy dX2_partOf_57 (lv_at hl 1 rfl) ?_
          refine lv_isub zx zy dX2_partOf_59 ?_
          refine lv_istore_n (lv' := [(3, .int (lf - (if f1 i < lf then f1 i else lf))), (4, .int (sm + (if f1 i < lf then f1 i else lf))), (6, .int (if f1 i < lf then f1 i else lf)), (0, .ref h), (1, .int n), (2, .int w), (5, .int (nI i))]) zx zy dX2_partOf_60 rfl hl (by decide) rfl (fun ls hl => ?_)
          refine lv_iinc (v := nI (i + 1)) (lv' := [(5, .int (nI (i + 1))), (3, .int (lf - (if f1 i < lf then f1 i else lf))), (4, .int (sm + (if f1 i < lf then f1 i else lf))), (6, .int (if f1 i < lf then f1 i else lf)), (0, .ref h), (1, .int n), (2, .int w)]) zx zy dX2_partOf_61 hl (k := 6) rfl (nI_1 _) (by decide) rfl (fun ls hl => ?_)
          refine lv_goto (tgt := 8) zx zy dX2_partOf_64 (by decide) ?_
          exact ih8 (i + 1) (lf - (if f1 i < lf then f1 i else lf)) (sm + (if f1 i < lf then f1 i else lf)) (by first | assumption | omega) (by subst hl2; rfl) (by subst hl2; subst hs; first | (simp only [csP, if_pos c44]; rfl) | (simp only [csP, if_neg c44]; done)) _ _ _ (by omega) hH (lv_sub hl [4, 5, 6, 1, 2, 0] rfl)
  exact L8 _ 0 n 0 (by first | assumption | omega) (rfl) (rfl) _ _ _ (Nat.lt_succ_self _) hH (lv_sub hl [3, 4, 5, 2, 1, 0] rfl)
end
section
theorem zz_last : True := trivial
end
