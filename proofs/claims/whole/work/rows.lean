section
-- ===== PART A: goes FIRST, ahead of the names: the tables' words, and 'selects' of the private methods out of them =====
/-- a private method of a class that the tables say can be made, by its rows of tables_1 -/
def lw_okq (q : MethodName × Nat) : Prop := (q.1.cls ≠ "java/lang/invoke/MethodHandle" ∧ q.1.cls ≠ "java/lang/invoke/VarHandle") ∧ Cond.instantiable q.1.cls q.2 ∈ tables_1 ∧ Cond.privateMethod q.1 ∈ tables_1 ∧ Cond.instanceMethod q.1 ∈ tables_1
theorem lw_p0 : lw_okq (⟨"LightestRules$People", "pocketWeight", "(I)I"⟩, 4) := ⟨⟨by decide +kernel, by decide +kernel⟩, List.mem_of_getElem? (i := 38) (by decide +kernel), List.mem_of_getElem? (i := 288) (by decide +kernel), List.mem_of_getElem? (i := 289) (by decide +kernel)⟩
theorem lw_p1 : lw_okq (⟨"LightestRules", "refusalOf", "(II)I"⟩, 9) := ⟨⟨by decide +kernel, by decide +kernel⟩, List.mem_of_getElem? (i := 16) (by decide +kernel), List.mem_of_getElem? (i := 307) (by decide +kernel), List.mem_of_getElem? (i := 308) (by decide +kernel)⟩
theorem lw_p2 : lw_okq (⟨"LightestRules$People", "lightestBut", "(I)I"⟩, 4) := ⟨⟨by decide +kernel, by decide +kernel⟩, List.mem_of_getElem? (i := 38) (by decide +kernel), List.mem_of_getElem? (i := 368) (by decide +kernel), List.mem_of_getElem? (i := 369) (by decide +kernel)⟩
theorem lw_p3 : lw_okq (⟨"LightestRules", "refusalOfSure", "(III)I"⟩, 9) := ⟨⟨by decide +kernel, by decide +kernel⟩, List.mem_of_getElem? (i := 16) (by decide +kernel), List.mem_of_getElem? (i := 397) (by decide +kernel), List.mem_of_getElem? (i := 398) (by decide +kernel)⟩
theorem lw_p4 : lw_okq (⟨"LightestRules", "leastSureToil", "(III)I"⟩, 9) := ⟨⟨by decide +kernel, by decide +kernel⟩, List.mem_of_getElem? (i := 16) (by decide +kernel), List.mem_of_getElem? (i := 401) (by decide +kernel), List.mem_of_getElem? (i := 402) (by decide +kernel)⟩
theorem lw_p5 : lw_okq (⟨"LightestRules$People", "noonWeightBehind", "(III)I"⟩, 4) := ⟨⟨by decide +kernel, by decide +kernel⟩, List.mem_of_getElem? (i := 38) (by decide +kernel), List.mem_of_getElem? (i := 409) (by decide +kernel), List.mem_of_getElem? (i := 410) (by decide +kernel)⟩
theorem lw_p6 : lw_okq (⟨"LightestRules$Weighings", "suspectsBy", "(IZ)I"⟩, 4) := ⟨⟨by decide +kernel, by decide +kernel⟩, List.mem_of_getElem? (i := 86) (by decide +kernel), List.mem_of_getElem? (i := 465) (by decide +kernel), List.mem_of_getElem? (i := 466) (by decide +kernel)⟩
theorem lw_p7 : lw_okq (⟨"LightestRules$Searches", "fewestFor", "(I)I"⟩, 7) := ⟨⟨by decide +kernel, by decide +kernel⟩, List.mem_of_getElem? (i := 105) (by decide +kernel), List.mem_of_getElem? (i := 501) (by decide +kernel), List.mem_of_getElem? (i := 502) (by decide +kernel)⟩
theorem lw_p8 : lw_okq (⟨"LightestRules$Searches", "isIn", "(II)Z"⟩, 7) := ⟨⟨by decide +kernel, by decide +kernel⟩, List.mem_of_getElem? (i := 105) (by decide +kernel), List.mem_of_getElem? (i := 505) (by decide +kernel), List.mem_of_getElem? (i := 506) (by decide +kernel)⟩
theorem lw_p9 : lw_okq (⟨"LightestRules$Searches", "greatestFor", "(I)I"⟩, 7) := ⟨⟨by decide +kernel, by decide +kernel⟩, List.mem_of_getElem? (i := 105) (by decide +kernel), List.mem_of_getElem? (i := 511) (by decide +kernel), List.mem_of_getElem? (i := 512) (by decide +kernel)⟩
theorem lw_p10 : lw_okq (⟨"LightestRules$Searches", "anySearched", "(I)Z"⟩, 7) := ⟨⟨by decide +kernel, by decide +kernel⟩, List.mem_of_getElem? (i := 105) (by decide +kernel), List.mem_of_getElem? (i := 516) (by decide +kernel), List.mem_of_getElem? (i := 517) (by decide +kernel)⟩
theorem lw_p11 : lw_okq (⟨"LightestRules$Searches", "noted", "(IIII)I"⟩, 7) := ⟨⟨by decide +kernel, by decide +kernel⟩, List.mem_of_getElem? (i := 105) (by decide +kernel), List.mem_of_getElem? (i := 520) (by decide +kernel), List.mem_of_getElem? (i := 521) (by decide +kernel)⟩
theorem lw_p12 : lw_okq (⟨"LightestRules$Searches", "give", "(II)V"⟩, 7) := ⟨⟨by decide +kernel, by decide +kernel⟩, List.mem_of_getElem? (i := 105) (by decide +kernel), List.mem_of_getElem? (i := 524) (by decide +kernel), List.mem_of_getElem? (i := 525) (by decide +kernel)⟩
theorem lw_p13 : lw_okq (⟨"LightestRules$RulersLine", "letEat", "(II)V"⟩, 4) := ⟨⟨by decide +kernel, by decide +kernel⟩, List.mem_of_getElem? (i := 133) (by decide +kernel), List.mem_of_getElem? (i := 577) (by decide +kernel), List.mem_of_getElem? (i := 578) (by decide +kernel)⟩
theorem lw_p14 : lw_okq (⟨"LightestRules$RulersLine", "strikeOut", "(III)V"⟩, 4) := ⟨⟨by decide +kernel, by decide +kernel⟩, List.mem_of_getElem? (i := 133) (by decide +kernel), List.mem_of_getElem? (i := 581) (by decide +kernel), List.mem_of_getElem? (i := 582) (by decide +kernel)⟩
theorem lw_p15 : lw_okq (⟨"LightestRules$RulersLine", "lightestAt", "(II)I"⟩, 4) := ⟨⟨by decide +kernel, by decide +kernel⟩, List.mem_of_getElem? (i := 133) (by decide +kernel), List.mem_of_getElem? (i := 585) (by decide +kernel), List.mem_of_getElem? (i := 586) (by decide +kernel)⟩
def lw_privs_1 : List (MethodName × Nat) := [(⟨"LightestRules$People", "pocketWeight", "(I)I"⟩, 4), (⟨"LightestRules", "refusalOf", "(II)I"⟩, 9), (⟨"LightestRules$People", "lightestBut", "(I)I"⟩, 4), (⟨"LightestRules", "refusalOfSure", "(III)I"⟩, 9), (⟨"LightestRules", "leastSureToil", "(III)I"⟩, 9), (⟨"LightestRules$People", "noonWeightBehind", "(III)I"⟩, 4), (⟨"LightestRules$Weighings", "suspectsBy", "(IZ)I"⟩, 4), (⟨"LightestRules$Searches", "fewestFor", "(I)I"⟩, 7), (⟨"LightestRules$Searches", "isIn", "(II)Z"⟩, 7), (⟨"LightestRules$Searches", "greatestFor", "(I)I"⟩, 7), (⟨"LightestRules$Searches", "anySearched", "(I)Z"⟩, 7), (⟨"LightestRules$Searches", "noted", "(IIII)I"⟩, 7), (⟨"LightestRules$Searches", "give", "(II)V"⟩, 7), (⟨"LightestRules$RulersLine", "letEat", "(II)V"⟩, 4), (⟨"LightestRules$RulersLine", "strikeOut", "(III)V"⟩, 4), (⟨"LightestRules$RulersLine", "lightestAt", "(II)I"⟩, 4)]
theorem lw_r1 : ∀ q ∈ lw_privs_1, lw_okq q := List.forall_mem_cons.mpr ⟨lw_p0, List.forall_mem_cons.mpr ⟨lw_p1, List.forall_mem_cons.mpr ⟨lw_p2, List.forall_mem_cons.mpr ⟨lw_p3, List.forall_mem_cons.mpr ⟨lw_p4, List.forall_mem_cons.mpr ⟨lw_p5, List.forall_mem_cons.mpr ⟨lw_p6, List.forall_mem_cons.mpr ⟨lw_p7, List.forall_mem_cons.mpr ⟨lw_p8, List.forall_mem_cons.mpr ⟨lw_p9, List.forall_mem_cons.mpr ⟨lw_p10, List.forall_mem_cons.mpr ⟨lw_p11, List.forall_mem_cons.mpr ⟨lw_p12, List.forall_mem_cons.mpr ⟨lw_p13, List.forall_mem_cons.mpr ⟨lw_p14, List.forall_mem_cons.mpr ⟨lw_p15, fun _ h => absurd h List.not_mem_nil⟩⟩⟩⟩⟩⟩⟩⟩⟩⟩⟩⟩⟩⟩⟩⟩
theorem lw_p16 : lw_okq (⟨"LightestRules$RulersLine", "sumOfWays", "(I)J"⟩, 4) := ⟨⟨by decide +kernel, by decide +kernel⟩, List.mem_of_getElem? (i := 133) (by decide +kernel), List.mem_of_getElem? (i := 589) (by decide +kernel), List.mem_of_getElem? (i := 590) (by decide +kernel)⟩
theorem lw_p17 : lw_okq (⟨"LightestRules$Year", "nextOunces", "()I"⟩, 2) := ⟨⟨by decide +kernel, by decide +kernel⟩, List.mem_of_getElem? (i := 153) (by decide +kernel), List.mem_of_getElem? (i := 614) (by decide +kernel), List.mem_of_getElem? (i := 615) (by decide +kernel)⟩
theorem lw_p18 : lw_okq (⟨"LightestRulesModel", "readText", "()I"⟩, 34) := ⟨⟨by decide +kernel, by decide +kernel⟩, List.mem_of_getElem? (i := 658) (by decide +kernel), List.mem_of_getElem? (i := 785) (by decide +kernel), List.mem_of_getElem? (i := 786) (by decide +kernel)⟩
theorem lw_p19 : lw_okq (⟨"LightestRulesModel", "figure", "(II)I"⟩, 34) := ⟨⟨by decide +kernel, by decide +kernel⟩, List.mem_of_getElem? (i := 658) (by decide +kernel), List.mem_of_getElem? (i := 789) (by decide +kernel), List.mem_of_getElem? (i := 790) (by decide +kernel)⟩
theorem lw_p20 : lw_okq (⟨"LightestRulesModel", "isPerson", "(I)Z"⟩, 34) := ⟨⟨by decide +kernel, by decide +kernel⟩, List.mem_of_getElem? (i := 658) (by decide +kernel), List.mem_of_getElem? (i := 801) (by decide +kernel), List.mem_of_getElem? (i := 802) (by decide +kernel)⟩
theorem lw_p21 : lw_okq (⟨"LightestRulesModel", "noonOf", "(I)I"⟩, 34) := ⟨⟨by decide +kernel, by decide +kernel⟩, List.mem_of_getElem? (i := 658) (by decide +kernel), List.mem_of_getElem? (i := 805) (by decide +kernel), List.mem_of_getElem? (i := 806) (by decide +kernel)⟩
theorem lw_p22 : lw_okq (⟨"LightestRulesModel", "isIll", "(I)Z"⟩, 34) := ⟨⟨by decide +kernel, by decide +kernel⟩, List.mem_of_getElem? (i := 658) (by decide +kernel), List.mem_of_getElem? (i := 809) (by decide +kernel), List.mem_of_getElem? (i := 810) (by decide +kernel)⟩
theorem lw_p23 : lw_okq (⟨"LightestRulesModel", "keepAct", "()V"⟩, 34) := ⟨⟨by decide +kernel, by decide +kernel⟩, List.mem_of_getElem? (i := 658) (by decide +kernel), List.mem_of_getElem? (i := 823) (by decide +kernel), List.mem_of_getElem? (i := 824) (by decide +kernel)⟩
theorem lw_p24 : lw_okq (⟨"LightestRulesModel", "crownBy", "(I)I"⟩, 34) := ⟨⟨by decide +kernel, by decide +kernel⟩, List.mem_of_getElem? (i := 658) (by decide +kernel), List.mem_of_getElem? (i := 850) (by decide +kernel), List.mem_of_getElem? (i := 851) (by decide +kernel)⟩
theorem lw_p25 : lw_okq (⟨"LightestRulesModel", "least", "(III)I"⟩, 34) := ⟨⟨by decide +kernel, by decide +kernel⟩, List.mem_of_getElem? (i := 658) (by decide +kernel), List.mem_of_getElem? (i := 870) (by decide +kernel), List.mem_of_getElem? (i := 871) (by decide +kernel)⟩
theorem lw_p26 : lw_okq (⟨"LightestRulesModel", "later", "(III)I"⟩, 34) := ⟨⟨by decide +kernel, by decide +kernel⟩, List.mem_of_getElem? (i := 658) (by decide +kernel), List.mem_of_getElem? (i := 874) (by decide +kernel), List.mem_of_getElem? (i := 875) (by decide +kernel)⟩
theorem lw_p27 : lw_okq (⟨"LightestRulesModel", "layRows", "()I"⟩, 34) := ⟨⟨by decide +kernel, by decide +kernel⟩, List.mem_of_getElem? (i := 658) (by decide +kernel), List.mem_of_getElem? (i := 919) (by decide +kernel), List.mem_of_getElem? (i := 920) (by decide +kernel)⟩
theorem lw_p28 : lw_okq (⟨"LightestRulesModel", "fits", "(I)Z"⟩, 34) := ⟨⟨by decide +kernel, by decide +kernel⟩, List.mem_of_getElem? (i := 658) (by decide +kernel), List.mem_of_getElem? (i := 924) (by decide +kernel), List.mem_of_getElem? (i := 925) (by decide +kernel)⟩
theorem lw_p29 : lw_okq (⟨"LightestRulesModel", "goMonth", "(I)V"⟩, 34) := ⟨⟨by decide +kernel, by decide +kernel⟩, List.mem_of_getElem? (i := 658) (by decide +kernel), List.mem_of_getElem? (i := 950) (by decide +kernel), List.mem_of_getElem? (i := 951) (by decide +kernel)⟩
theorem lw_p30 : lw_okq (⟨"LightestRulesModel", "isRuler", "(II)Z"⟩, 34) := ⟨⟨by decide +kernel, by decide +kernel⟩, List.mem_of_getElem? (i := 658) (by decide +kernel), List.mem_of_getElem? (i := 954) (by decide +kernel), List.mem_of_getElem? (i := 955) (by decide +kernel)⟩
def lw_privs_2 : List (MethodName × Nat) := [(⟨"LightestRules$RulersLine", "sumOfWays", "(I)J"⟩, 4), (⟨"LightestRules$Year", "nextOunces", "()I"⟩, 2), (⟨"LightestRulesModel", "readText", "()I"⟩, 34), (⟨"LightestRulesModel", "figure", "(II)I"⟩, 34), (⟨"LightestRulesModel", "isPerson", "(I)Z"⟩, 34), (⟨"LightestRulesModel", "noonOf", "(I)I"⟩, 34), (⟨"LightestRulesModel", "isIll", "(I)Z"⟩, 34), (⟨"LightestRulesModel", "keepAct", "()V"⟩, 34), (⟨"LightestRulesModel", "crownBy", "(I)I"⟩, 34), (⟨"LightestRulesModel", "least", "(III)I"⟩, 34), (⟨"LightestRulesModel", "later", "(III)I"⟩, 34), (⟨"LightestRulesModel", "layRows", "()I"⟩, 34), (⟨"LightestRulesModel", "fits", "(I)Z"⟩, 34), (⟨"LightestRulesModel", "goMonth", "(I)V"⟩, 34), (⟨"LightestRulesModel", "isRuler", "(II)Z"⟩, 34)]
theorem lw_r2 : ∀ q ∈ lw_privs_2, lw_okq q := List.forall_mem_cons.mpr ⟨lw_p16, List.forall_mem_cons.mpr ⟨lw_p17, List.forall_mem_cons.mpr ⟨lw_p18, List.forall_mem_cons.mpr ⟨lw_p19, List.forall_mem_cons.mpr ⟨lw_p20, List.forall_mem_cons.mpr ⟨lw_p21, List.forall_mem_cons.mpr ⟨lw_p22, List.forall_mem_cons.mpr ⟨lw_p23, List.forall_mem_cons.mpr ⟨lw_p24, List.forall_mem_cons.mpr ⟨lw_p25, List.forall_mem_cons.mpr ⟨lw_p26, List.forall_mem_cons.mpr ⟨lw_p27, List.forall_mem_cons.mpr ⟨lw_p28, List.forall_mem_cons.mpr ⟨lw_p29, List.forall_mem_cons.mpr ⟨lw_p30, fun _ h => absurd h List.not_mem_nil⟩⟩⟩⟩⟩⟩⟩⟩⟩⟩⟩⟩⟩⟩⟩
def lw_privs : List (MethodName × Nat) := lw_privs_1 ++ (lw_privs_2)
def lw_tbl : List Cond := k2_sels lw_privs ++ tables_1
theorem lw_privs_ok : ∀ q ∈ lw_privs, lw_okq q := by
  show ∀ q ∈ lw_privs_1 ++ (lw_privs_2), lw_okq q
  exact List.forall_mem_append.mpr ⟨lw_r1, lw_r2⟩
end
section
/-! ===== BEGIN words of one list among another's, by their places ===== -/
theorem goodIn_r {big : List Cond} (ws : List Cond) (ps : List Nat) (hp : ws = ps.filterMap (fun i => big[i]?)) (h : ws.all goodWord = true) : GoodIn big ws := by
  intro w hw
  have h1 := List.all_eq_true.mp h w hw
  rw [hp] at hw
  obtain ⟨i, -, hi⟩ := List.mem_filterMap.mp hw
  have hm : w ∈ big := by first | exact List.mem_of_getElem? hi | exact List.getElem?_mem hi
  exact ⟨hm, good_of_word h1⟩
theorem goodIn_app {big a b : List Cond} (ha : GoodIn big a) (hb : GoodIn big b) : GoodIn big (a ++ b) := fun w h => (List.mem_append.mp h).elim (ha w) (hb w)
theorem goodIn_ca {big a b : List Cond} {c : Cond} (ha : GoodIn big (c :: a)) (hb : GoodIn big b) : GoodIn big (c :: (a ++ b)) := fun w h => (List.mem_cons.mp h).elim (fun e => ha w (List.mem_cons.mpr (Or.inl e))) (fun h => (List.mem_append.mp h).elim (fun h => ha w (List.mem_cons.mpr (Or.inr h))) (hb w))
theorem goodIn_sub {big ws : List Cond} (hm : ∀ w ∈ ws, w ∈ big) (h : ws.all goodWord = true) : GoodIn big ws := fun w hw => ⟨hm w hw, good_of_word (List.all_eq_true.mp h w hw)⟩
/-! ===== END ===== -/

/-! ===== BEGIN printed: names, fields, word lists, decode rows ===== -/
def RX0 : String := "LightestRules$ActRow"
def TX0 : u_T := fun k => match k with
  | 0 => ("LightestRules$ActRow", "before", "[I", true)
  | 1 => ("LightestRules$ActRow", "first", "I", false)
  | _ => ("LightestRules$ActRow", "length", "I", false)
def tyX0 : Nat → FieldType := fun k => match k with
  | 0 => .array .int
  | 1 => .int
  | _ => .int
abbrev wsX00 : List Cond := u_ws RX0 TX0 3
theorem nmX0 : ∀ a, a < 3 → ∀ b, b < 3 → a ≠ b → (TX0 a).2.1 ≠ (TX0 b).2.1 := by decide +kernel
theorem tyX0_ok : ∀ k, k < 3 → parseFieldDescriptor (TX0 k).2.2.1 = some (tyX0 k) := by decide +kernel
abbrev cX0_init : ByteArray := prog_2_method_1_code
def yX0_init : MethodName := ⟨RX0, "<init>", "()V"⟩
abbrev cX0_length : ByteArray := prog_2_method_2_code
def yX0_length : MethodName := ⟨RX0, "length", "()I"⟩
abbrev cX0_clear : ByteArray := prog_2_method_3_code
def yX0_clear : MethodName := ⟨RX0, "clear", "()V"⟩
abbrev cX0_remember : ByteArray := prog_2_method_4_code
def yX0_remember : MethodName := ⟨RX0, "remember", "(LLightestRules$People;)V"⟩
abbrev cX0_takeBack : ByteArray := prog_2_method_5_code
def yX0_takeBack : MethodName := ⟨RX0, "takeBack", "(LLightestRules$People;)V"⟩
def RX1 : String := "LightestRules$LandText"
def TX1 : u_T := fun k => match k with
  | 0 => ("LightestRules$LandText", "bytes", "[I", true)
  | _ => ("LightestRules$LandText", "length", "I", false)
def tyX1 : Nat → FieldType := fun k => match k with
  | 0 => .array .int
  | _ => .int
abbrev wsX10 : List Cond := u_ws RX1 TX1 2
theorem nmX1 : ∀ a, a < 2 → ∀ b, b < 2 → a ≠ b → (TX1 a).2.1 ≠ (TX1 b).2.1 := by decide +kernel
theorem tyX1_ok : ∀ k, k < 2 → parseFieldDescriptor (TX1 k).2.2.1 = some (tyX1 k) := by decide +kernel
abbrev cX1_init : ByteArray := prog_3_method_1_code
def yX1_init : MethodName := ⟨RX1, "<init>", "()V"⟩
abbrev cX1_length : ByteArray := prog_3_method_2_code
def yX1_length : MethodName := ⟨RX1, "length", "()I"⟩
abbrev cX1_clear : ByteArray := prog_3_method_3_code
def yX1_clear : MethodName := ⟨RX1, "clear", "()V"⟩
abbrev cX1_append : ByteArray := prog_3_method_4_code
def yX1_append : MethodName := ⟨RX1, "append", "(IJ)Z"⟩
abbrev cX1_firstFault : ByteArray := prog_3_method_5_code
def yX1_firstFault : MethodName := ⟨RX1, "firstFault", "()I"⟩
abbrev cX1_mayStandAt : ByteArray := prog_3_method_6_code
def yX1_mayStandAt : MethodName := ⟨RX1, "mayStandAt", "(II)Z"⟩
abbrev cX1_parts : ByteArray := prog_3_method_7_code
def yX1_parts : MethodName := ⟨RX1, "parts", "()I"⟩
abbrev cX1_figure : ByteArray := prog_3_method_8_code
def yX1_figure : MethodName := ⟨RX1, "figure", "(I)I"⟩
abbrev cX1_partFigure : ByteArray := prog_3_method_9_code
def yX1_partFigure : MethodName := ⟨RX1, "partFigure", "(II)I"⟩
def RX2 : String := "LightestRules$People"
def TX2 : u_T := fun k => match k with
  | 0 => ("LightestRules$People", "cells", "[I", true)
  | 1 => ("LightestRules$People", "size", "I", false)
  | 2 => ("LightestRules$People", "burn", "I", false)
  | _ => ("LightestRules$People", "ill", "I", false)
def tyX2 : Nat → FieldType := fun k => match k with
  | 0 => .array .int
  | 1 => .int
  | 2 => .int
  | _ => .int
abbrev wsX20 : List Cond := u_ws RX2 TX2 4
theorem nmX2 : ∀ a, a < 4 → ∀ b, b < 4 → a ≠ b → (TX2 a).2.1 ≠ (TX2 b).2.1 := by decide +kernel
theorem tyX2_ok : ∀ k, k < 4 → parseFieldDescriptor (TX2 k).2.2.1 = some (tyX2 k) := by decide +kernel
abbrev cX2_init : ByteArray := prog_4_method_1_code
def yX2_init : MethodName := ⟨RX2, "<init>", "()V"⟩
abbrev cX2_settle : ByteArray := prog_4_method_2_code
def yX2_settle : MethodName := ⟨RX2, "settle", "(LLightestRules$LandText;)V"⟩
abbrev cX2_becomeLike : ByteArray := prog_4_method_3_code
def yX2_becomeLike : MethodName := ⟨RX2, "becomeLike", "(LLightestRules$People;)V"⟩
abbrev cX2_copyTo : ByteArray := prog_4_method_4_code
def yX2_copyTo : MethodName := ⟨RX2, "copyTo", "([II)V"⟩
abbrev cX2_copyFrom : ByteArray := prog_4_method_5_code
def yX2_copyFrom : MethodName := ⟨RX2, "copyFrom", "([II)V"⟩
abbrev cX2_size : ByteArray := prog_4_method_6_code
def yX2_size : MethodName := ⟨RX2, "size", "()I"⟩
abbrev cX2_has : ByteArray := prog_4_method_7_code
def yX2_has : MethodName := ⟨RX2, "has", "(I)Z"⟩
abbrev cX2_get : ByteArray := prog_4_method_8_code
def yX2_get : MethodName := ⟨RX2, "get", "(II)I"⟩
abbrev cX2_add : ByteArray := prog_4_method_9_code
def yX2_add : MethodName := ⟨RX2, "add", "(III)V"⟩
abbrev cX2_gain : ByteArray := prog_4_method_10_code
def yX2_gain : MethodName := ⟨RX2, "gain", "(II)I"⟩
abbrev cX2_today : ByteArray := prog_4_method_11_code
def yX2_today : MethodName := ⟨RX2, "today", "()I"⟩
abbrev cX2_passDay : ByteArray := prog_4_method_12_code
def yX2_passDay : MethodName := ⟨RX2, "passDay", "()V"⟩
abbrev cX2_pocketWeight : ByteArray := prog_4_method_13_code
def yX2_pocketWeight : MethodName := ⟨RX2, "pocketWeight", "(I)I"⟩
abbrev cX2_noonWeight : ByteArray := prog_4_method_14_code
def yX2_noonWeight : MethodName := ⟨RX2, "noonWeight", "(I)I"⟩
abbrev cX2_isIll : ByteArray := prog_4_method_15_code
def yX2_isIll : MethodName := ⟨RX2, "isIll", "(I)Z"⟩
abbrev cX2_illBits : ByteArray := prog_4_method_16_code
def yX2_illBits : MethodName := ⟨RX2, "illBits", "()I"⟩
abbrev cX2_crownings : ByteArray := prog_4_method_17_code
def yX2_crownings : MethodName := ⟨RX2, "crownings", "()I"⟩
abbrev cX2_crownedBy : ByteArray := prog_4_method_18_code
def yX2_crownedBy : MethodName := ⟨RX2, "crownedBy", "(I)I"⟩
abbrev cX2_lightestBut : ByteArray := prog_4_method_19_code
def yX2_lightestBut : MethodName := ⟨RX2, "lightestBut", "(I)I"⟩
abbrev cX2_winsWith : ByteArray := prog_4_method_20_code
def yX2_winsWith : MethodName := ⟨RX2, "winsWith", "(IIII)Z"⟩
abbrev cX2_noonWeightBehind : ByteArray := prog_4_method_21_code
def yX2_noonWeightBehind : MethodName := ⟨RX2, "noonWeightBehind", "(III)I"⟩
abbrev cX2_loavesToWin : ByteArray := prog_4_method_22_code
def yX2_loavesToWin : MethodName := ⟨RX2, "loavesToWin", "(I)I"⟩
def RX3 : String := "LightestRules$RulersLine"
def TX3 : u_T := fun k => match k with
  | 0 => ("LightestRules$RulersLine", "rulers", "[I", true)
  | 1 => ("LightestRules$RulersLine", "weights", "[I", true)
  | 2 => ("LightestRules$RulersLine", "ways", "[J", true)
  | _ => ("LightestRules$RulersLine", "length", "I", false)
def tyX3 : Nat → FieldType := fun k => match k with
  | 0 => .array .int
  | 1 => .array .int
  | 2 => .array .long
  | _ => .int
abbrev wsX30 : List Cond := u_ws RX3 TX3 4
theorem nmX3 : ∀ a, a < 4 → ∀ b, b < 4 → a ≠ b → (TX3 a).2.1 ≠ (TX3 b).2.1 := by decide +kernel
theorem tyX3_ok : ∀ k, k < 4 → parseFieldDescriptor (TX3 k).2.2.1 = some (tyX3 k) := by decide +kernel
abbrev cX3_init : ByteArray := prog_5_method_1_code
def yX3_init : MethodName := ⟨RX3, "<init>", "()V"⟩
abbrev cX3_length : ByteArray := prog_5_method_2_code
def yX3_length : MethodName := ⟨RX3, "length", "()I"⟩
abbrev cX3_clear : ByteArray := prog_5_method_3_code
def yX3_clear : MethodName := ⟨RX3, "clear", "()V"⟩
abbrev cX3_append : ByteArray := prog_5_method_4_code
def yX3_append : MethodName := ⟨RX3, "append", "(I)Z"⟩
abbrev cX3_fittingMeals : ByteArray := prog_5_method_5_code
def yX3_fittingMeals : MethodName := ⟨RX3, "fittingMeals", "(LLightestRules$People;)J"⟩
abbrev cX3_letEat : ByteArray := prog_5_method_6_code
def yX3_letEat : MethodName := ⟨RX3, "letEat", "(II)V"⟩
abbrev cX3_strikeOut : ByteArray := prog_5_method_7_code
def yX3_strikeOut : MethodName := ⟨RX3, "strikeOut", "(III)V"⟩
abbrev cX3_lightestAt : ByteArray := prog_5_method_8_code
def yX3_lightestAt : MethodName := ⟨RX3, "lightestAt", "(II)I"⟩
abbrev cX3_sumOfWays : ByteArray := prog_5_method_9_code
def yX3_sumOfWays : MethodName := ⟨RX3, "sumOfWays", "(I)J"⟩
def RX4 : String := "LightestRules$Searches"
def TX4 : u_T := fun k => match k with
  | 0 => ("LightestRules$Searches", "searched", "[I", true)
  | 1 => ("LightestRules$Searches", "missing", "[I", true)
  | 2 => ("LightestRules$Searches", "least", "[I", true)
  | 3 => ("LightestRules$Searches", "most", "[I", true)
  | 4 => ("LightestRules$Searches", "length", "I", false)
  | 5 => ("LightestRules$Searches", "found", "I", false)
  | _ => ("LightestRules$Searches", "fresh", "Z", false)
def tyX4 : Nat → FieldType := fun k => match k with
  | 0 => .array .int
  | 1 => .array .int
  | 2 => .array .int
  | 3 => .array .int
  | 4 => .int
  | 5 => .int
  | _ => .boolean
abbrev wsX40 : List Cond := u_ws RX4 TX4 7
theorem nmX4 : ∀ a, a < 7 → ∀ b, b < 7 → a ≠ b → (TX4 a).2.1 ≠ (TX4 b).2.1 := by decide +kernel
theorem tyX4_ok : ∀ k, k < 7 → parseFieldDescriptor (TX4 k).2.2.1 = some (tyX4 k) := by decide +kernel
abbrev cX4_init : ByteArray := prog_6_method_1_code
def yX4_init : MethodName := ⟨RX4, "<init>", "()V"⟩
abbrev cX4_length : ByteArray := prog_6_method_2_code
def yX4_length : MethodName := ⟨RX4, "length", "()I"⟩
abbrev cX4_clear : ByteArray := prog_6_method_3_code
def yX4_clear : MethodName := ⟨RX4, "clear", "()V"⟩
abbrev cX4_append : ByteArray := prog_6_method_4_code
def yX4_append : MethodName := ⟨RX4, "append", "(II)Z"⟩
abbrev cX4_leastOf : ByteArray := prog_6_method_5_code
def yX4_leastOf : MethodName := ⟨RX4, "leastOf", "(I)I"⟩
abbrev cX4_mostOf : ByteArray := prog_6_method_6_code
def yX4_mostOf : MethodName := ⟨RX4, "mostOf", "(I)I"⟩
abbrev cX4_fittingRows : ByteArray := prog_6_method_7_code
def yX4_fittingRows : MethodName := ⟨RX4, "fittingRows", "()I"⟩
abbrev cX4_rowsFrom : ByteArray := prog_6_method_8_code
def yX4_rowsFrom : MethodName := ⟨RX4, "rowsFrom", "(LLightestRules$Searches;I)I"⟩
abbrev cX4_isIn : ByteArray := prog_6_method_9_code
def yX4_isIn : MethodName := ⟨RX4, "isIn", "(II)Z"⟩
abbrev cX4_anySearched : ByteArray := prog_6_method_10_code
def yX4_anySearched : MethodName := ⟨RX4, "anySearched", "(I)Z"⟩
abbrev cX4_fewestFor : ByteArray := prog_6_method_11_code
def yX4_fewestFor : MethodName := ⟨RX4, "fewestFor", "(I)I"⟩
abbrev cX4_greatestFor : ByteArray := prog_6_method_12_code
def yX4_greatestFor : MethodName := ⟨RX4, "greatestFor", "(I)I"⟩
abbrev cX4_give : ByteArray := prog_6_method_13_code
def yX4_give : MethodName := ⟨RX4, "give", "(II)V"⟩
abbrev cX4_noted : ByteArray := prog_6_method_14_code
def yX4_noted : MethodName := ⟨RX4, "noted", "(IIII)I"⟩
def RX5 : String := "LightestRules$Slots"
def TX5 : u_T := fun k => match k with
  | 0 => ("LightestRules$Slots", "kept", "[I", true)
  | _ => ("LightestRules$Slots", "filledBits", "I", false)
def tyX5 : Nat → FieldType := fun k => match k with
  | 0 => .array .int
  | _ => .int
abbrev wsX50 : List Cond := u_ws RX5 TX5 2
theorem nmX5 : ∀ a, a < 2 → ∀ b, b < 2 → a ≠ b → (TX5 a).2.1 ≠ (TX5 b).2.1 := by decide +kernel
theorem tyX5_ok : ∀ k, k < 2 → parseFieldDescriptor (TX5 k).2.2.1 = some (tyX5 k) := by decide +kernel
abbrev cX5_init : ByteArray := prog_7_method_1_code
def yX5_init : MethodName := ⟨RX5, "<init>", "()V"⟩
abbrev cX5_isSlot : ByteArray := prog_7_method_2_code
def yX5_isSlot : MethodName := ⟨RX5, "isSlot", "(I)Z"⟩
abbrev cX5_clear : ByteArray := prog_7_method_3_code
def yX5_clear : MethodName := ⟨RX5, "clear", "()V"⟩
abbrev cX5_holds : ByteArray := prog_7_method_4_code
def yX5_holds : MethodName := ⟨RX5, "holds", "(I)Z"⟩
abbrev cX5_put : ByteArray := prog_7_method_5_code
def yX5_put : MethodName := ⟨RX5, "put", "(ILLightestRules$People;)V"⟩
abbrev cX5_bring : ByteArray := prog_7_method_6_code
def yX5_bring : MethodName := ⟨RX5, "bring", "(ILLightestRules$People;)V"⟩
def RX6 : String := "LightestRules$Weighings"
def TX6 : u_T := fun k => match k with
  | 0 => ("LightestRules$Weighings", "lefts", "[I", true)
  | 1 => ("LightestRules$Weighings", "rights", "[I", true)
  | 2 => ("LightestRules$Weighings", "results", "[I", true)
  | _ => ("LightestRules$Weighings", "length", "I", false)
def tyX6 : Nat → FieldType := fun k => match k with
  | 0 => .array .int
  | 1 => .array .int
  | 2 => .array .int
  | _ => .int
abbrev wsX60 : List Cond := u_ws RX6 TX6 4
theorem nmX6 : ∀ a, a < 4 → ∀ b, b < 4 → a ≠ b → (TX6 a).2.1 ≠ (TX6 b).2.1 := by decide +kernel
theorem tyX6_ok : ∀ k, k < 4 → parseFieldDescriptor (TX6 k).2.2.1 = some (tyX6 k) := by decide +kernel
abbrev cX6_init : ByteArray := prog_8_method_1_code
def yX6_init : MethodName := ⟨RX6, "<init>", "()V"⟩
abbrev cX6_mayStand : ByteArray := prog_8_method_2_code
def yX6_mayStand : MethodName := ⟨RX6, "mayStand", "(II)Z"⟩
abbrev cX6_length : ByteArray := prog_8_method_3_code
def yX6_length : MethodName := ⟨RX6, "length", "()I"⟩
abbrev cX6_clear : ByteArray := prog_8_method_4_code
def yX6_clear : MethodName := ⟨RX6, "clear", "()V"⟩
abbrev cX6_append : ByteArray := prog_8_method_5_code
def yX6_append : MethodName := ⟨RX6, "append", "(III)Z"⟩
abbrev cX6_suspects : ByteArray := prog_8_method_6_code
def yX6_suspects : MethodName := ⟨RX6, "suspects", "(Z)I"⟩
abbrev cX6_suspectsBy : ByteArray := prog_8_method_7_code
def yX6_suspectsBy : MethodName := ⟨RX6, "suspectsBy", "(IZ)I"⟩
def RX7 : String := "LightestRules$Year"
def TX7 : u_T := fun k => match k with
  | 0 => ("LightestRules$Year", "lookalikes", "LLightestRules$People;", true)
  | _ => ("LightestRules$Year", "grown", "J", false)
def tyX7 : Nat → FieldType := fun k => match k with
  | 0 => .object "LightestRules$People"
  | _ => .long
abbrev wsX70 : List Cond := u_ws RX7 TX7 2
theorem nmX7 : ∀ a, a < 2 → ∀ b, b < 2 → a ≠ b → (TX7 a).2.1 ≠ (TX7 b).2.1 := by decide +kernel
theorem tyX7_ok : ∀ k, k < 2 → parseFieldDescriptor (TX7 k).2.2.1 = some (tyX7 k) := by decide +kernel
abbrev cX7_init : ByteArray := prog_9_method_1_code
def yX7_init : MethodName := ⟨RX7, "<init>", "()V"⟩
abbrev cX7_sow : ByteArray := prog_9_method_2_code
def yX7_sow : MethodName := ⟨RX7, "sow", "(J)J"⟩
abbrev cX7_monthsOf : ByteArray := prog_9_method_3_code
def yX7_monthsOf : MethodName := ⟨RX7, "monthsOf", "(IILLightestRules$People;)I"⟩
abbrev cX7_nextOunces : ByteArray := prog_9_method_4_code
def yX7_nextOunces : MethodName := ⟨RX7, "nextOunces", "()I"⟩
def RX8 : String := "LightestRules"
def TX8 : u_T := fun k => match k with
  | 0 => ("LightestRules", "text", "LLightestRules$LandText;", true)
  | 1 => ("LightestRules", "folk", "LLightestRules$People;", true)
  | 2 => ("LightestRules", "acts", "LLightestRules$ActRow;", true)
  | 3 => ("LightestRules", "slots", "LLightestRules$Slots;", true)
  | 4 => ("LightestRules", "weighings", "LLightestRules$Weighings;", true)
  | 5 => ("LightestRules", "searches", "LLightestRules$Searches;", true)
  | 6 => ("LightestRules", "told", "LLightestRules$RulersLine;", true)
  | 7 => ("LightestRules", "year", "LLightestRules$Year;", true)
  | _ => ("LightestRules", "lawNow", "I", false)
def tyX8 : Nat → FieldType := fun k => match k with
  | 0 => .object "LightestRules$LandText"
  | 1 => .object "LightestRules$People"
  | 2 => .object "LightestRules$ActRow"
  | 3 => .object "LightestRules$Slots"
  | 4 => .object "LightestRules$Weighings"
  | 5 => .object "LightestRules$Searches"
  | 6 => .object "LightestRules$RulersLine"
  | 7 => .object "LightestRules$Year"
  | _ => .int
abbrev wsX80 : List Cond := u_ws RX8 TX8 9
theorem nmX8 : ∀ a, a < 9 → ∀ b, b < 9 → a ≠ b → (TX8 a).2.1 ≠ (TX8 b).2.1 := by decide +kernel
theorem tyX8_ok : ∀ k, k < 9 → parseFieldDescriptor (TX8 k).2.2.1 = some (tyX8 k) := by decide +kernel
abbrev cX8_init : ByteArray := prog_1_method_1_code
def yX8_init : MethodName := ⟨RX8, "<init>", "()V"⟩
abbrev cX8_write : ByteArray := prog_1_method_2_code
def yX8_write : MethodName := ⟨RX8, "write", "(IJ)I"⟩
abbrev cX8_wipe : ByteArray := prog_1_method_3_code
def yX8_wipe : MethodName := ⟨RX8, "wipe", "()I"⟩
abbrev cX8_fault : ByteArray := prog_1_method_4_code
def yX8_fault : MethodName := ⟨RX8, "fault", "()I"⟩
abbrev cX8_land : ByteArray := prog_1_method_5_code
def yX8_land : MethodName := ⟨RX8, "land", "()I"⟩
abbrev cX8_person : ByteArray := prog_1_method_6_code
def yX8_person : MethodName := ⟨RX8, "person", "(II)I"⟩
abbrev cX8_law : ByteArray := prog_1_method_7_code
def yX8_law : MethodName := ⟨RX8, "law", "(I)I"⟩
abbrev cX8_isLaw : ByteArray := prog_1_method_8_code
def yX8_isLaw : MethodName := ⟨RX8, "isLaw", "(I)Z"⟩
abbrev cX8_eat : ByteArray := prog_1_method_9_code
def yX8_eat : MethodName := ⟨RX8, "eat", "(II)I"⟩
abbrev cX8_toil : ByteArray := prog_1_method_10_code
def yX8_toil : MethodName := ⟨RX8, "toil", "(II)I"⟩
abbrev cX8_drink : ByteArray := prog_1_method_11_code
def yX8_drink : MethodName := ⟨RX8, "drink", "(II)I"⟩
abbrev cX8_refusalOf : ByteArray := prog_1_method_12_code
def yX8_refusalOf : MethodName := ⟨RX8, "refusalOf", "(II)I"⟩
abbrev cX8_hand : ByteArray := prog_1_method_13_code
def yX8_hand : MethodName := ⟨RX8, "hand", "(IIZ)I"⟩
abbrev cX8_day : ByteArray := prog_1_method_14_code
def yX8_day : MethodName := ⟨RX8, "day", "()I"⟩
abbrev cX8_crown : ByteArray := prog_1_method_15_code
def yX8_crown : MethodName := ⟨RX8, "crown", "()I"⟩
abbrev cX8_noon : ByteArray := prog_1_method_16_code
def yX8_noon : MethodName := ⟨RX8, "noon", "()I"⟩
abbrev cX8_undo : ByteArray := prog_1_method_17_code
def yX8_undo : MethodName := ⟨RX8, "undo", "()I"⟩
abbrev cX8_sure : ByteArray := prog_1_method_18_code
def yX8_sure : MethodName := ⟨RX8, "sure", "(III)I"⟩
abbrev cX8_sureAt : ByteArray := prog_1_method_19_code
def yX8_sureAt : MethodName := ⟨RX8, "sureAt", "(IIII)I"⟩
abbrev cX8_refusalOfSure : ByteArray := prog_1_method_20_code
def yX8_refusalOfSure : MethodName := ⟨RX8, "refusalOfSure", "(III)I"⟩
abbrev cX8_leastSureToil : ByteArray := prog_1_method_21_code
def yX8_leastSureToil : MethodName := ⟨RX8, "leastSureToil", "(III)I"⟩
abbrev cX8_toilOnDay : ByteArray := prog_1_method_22_code
def yX8_toilOnDay : MethodName := ⟨RX8, "toilOnDay", "(III)I"⟩
abbrev cX8_feed : ByteArray := prog_1_method_23_code
def yX8_feed : MethodName := ⟨RX8, "feed", "(I)I"⟩
abbrev cX8_weigh : ByteArray := prog_1_method_24_code
def yX8_weigh : MethodName := ⟨RX8, "weigh", "(III)I"⟩
abbrev cX8_unweigh : ByteArray := prog_1_method_25_code
def yX8_unweigh : MethodName := ⟨RX8, "unweigh", "()I"⟩
abbrev cX8_mayBe : ByteArray := prog_1_method_26_code
def yX8_mayBe : MethodName := ⟨RX8, "mayBe", "(Z)I"⟩
abbrev cX8_search : ByteArray := prog_1_method_27_code
def yX8_search : MethodName := ⟨RX8, "search", "(II)I"⟩
abbrev cX8_unsearch : ByteArray := prog_1_method_28_code
def yX8_unsearch : MethodName := ⟨RX8, "unsearch", "()I"⟩
abbrev cX8_rows : ByteArray := prog_1_method_29_code
def yX8_rows : MethodName := ⟨RX8, "rows", "()I"⟩
abbrev cX8_stones : ByteArray := prog_1_method_30_code
def yX8_stones : MethodName := ⟨RX8, "stones", "(IZ)I"⟩
abbrev cX8_ruled : ByteArray := prog_1_method_31_code
def yX8_ruled : MethodName := ⟨RX8, "ruled", "(I)I"⟩
abbrev cX8_unrule : ByteArray := prog_1_method_32_code
def yX8_unrule : MethodName := ⟨RX8, "unrule", "()I"⟩
abbrev cX8_line : ByteArray := prog_1_method_33_code
def yX8_line : MethodName := ⟨RX8, "line", "()J"⟩
abbrev cX8_seed : ByteArray := prog_1_method_34_code
def yX8_seed : MethodName := ⟨RX8, "seed", "(J)J"⟩
abbrev cX8_reign : ByteArray := prog_1_method_35_code
def yX8_reign : MethodName := ⟨RX8, "reign", "(II)I"⟩
abbrev cX8_keep : ByteArray := prog_1_method_36_code
def yX8_keep : MethodName := ⟨RX8, "keep", "(I)I"⟩
abbrev cX8_again : ByteArray := prog_1_method_37_code
def yX8_again : MethodName := ⟨RX8, "again", "(I)I"⟩
abbrev cX8_count : ByteArray := prog_1_method_38_code
def yX8_count : MethodName := ⟨RX8, "count", "(I)I"⟩
def RX9 : String := "LightestRulesModel"
def TX9 : u_T := fun k => match k with
  | 0 => ("LightestRulesModel", "read", "[I", true)
  | 1 => ("LightestRulesModel", "readMany", "I", false)
  | 2 => ("LightestRulesModel", "readRule", "I", false)
  | 3 => ("LightestRulesModel", "readBurn", "I", false)
  | 4 => ("LightestRulesModel", "readIll", "I", false)
  | 5 => ("LightestRulesModel", "now", "[I", true)
  | 6 => ("LightestRulesModel", "many", "I", false)
  | 7 => ("LightestRulesModel", "rule", "I", false)
  | 8 => ("LightestRulesModel", "burn", "I", false)
  | 9 => ("LightestRulesModel", "ill", "I", false)
  | 10 => ("LightestRulesModel", "text", "[I", true)
  | 11 => ("LightestRulesModel", "length", "I", false)
  | 12 => ("LightestRulesModel", "at", "I", false)
  | 13 => ("LightestRulesModel", "faultAt", "I", false)
  | 14 => ("LightestRulesModel", "acts", "I", false)
  | 15 => ("LightestRulesModel", "next", "I", false)
  | 16 => ("LightestRulesModel", "row", "[I", true)
  | 17 => ("LightestRulesModel", "weighings", "I", false)
  | 18 => ("LightestRulesModel", "lefts", "[I", true)
  | 19 => ("LightestRulesModel", "rights", "[I", true)
  | 20 => ("LightestRulesModel", "comes", "[I", true)
  | 21 => ("LightestRulesModel", "searches", "I", false)
  | 22 => ("LightestRulesModel", "searched", "[I", true)
  | 23 => ("LightestRulesModel", "together", "[I", true)
  | 24 => ("LightestRulesModel", "leastOf", "[I", true)
  | 25 => ("LightestRulesModel", "mostOf", "[I", true)
  | 26 => ("LightestRulesModel", "months", "I", false)
  | 27 => ("LightestRulesModel", "rulers", "[I", true)
  | 28 => ("LightestRulesModel", "ways", "[J", true)
  | 29 => ("LightestRulesModel", "then", "[J", true)
  | 30 => ("LightestRulesModel", "seed", "J", false)
  | 31 => ("LightestRulesModel", "spare", "[I", true)
  | 32 => ("LightestRulesModel", "isKept", "[Z", true)
  | _ => ("LightestRulesModel", "kept", "[I", true)
def tyX9 : Nat → FieldType := fun k => match k with
  | 0 => .array .int
  | 1 => .int
  | 2 => .int
  | 3 => .int
  | 4 => .int
  | 5 => .array .int
  | 6 => .int
  | 7 => .int
  | 8 => .int
  | 9 => .int
  | 10 => .array .int
  | 11 => .int
  | 12 => .int
  | 13 => .int
  | 14 => .int
  | 15 => .int
  | 16 => .array .int
  | 17 => .int
  | 18 => .array .int
  | 19 => .array .int
  | 20 => .array .int
  | 21 => .int
  | 22 => .array .int
  | 23 => .array .int
  | 24 => .array .int
  | 25 => .array .int
  | 26 => .int
  | 27 => .array .int
  | 28 => .array .long
  | 29 => .array .long
  | 30 => .long
  | 31 => .array .int
  | 32 => .array .boolean
  | _ => .array .int
abbrev wsX90 : List Cond := u_ws RX9 TX9 34
theorem nmX9 : ∀ a, a < 34 → ∀ b, b < 34 → a ≠ b → (TX9 a).2.1 ≠ (TX9 b).2.1 := by decide +kernel
theorem tyX9_ok : ∀ k, k < 34 → parseFieldDescriptor (TX9 k).2.2.1 = some (tyX9 k) := by decide +kernel
abbrev cX9_init : ByteArray := prog_11_method_1_code
def yX9_init : MethodName := ⟨RX9, "<init>", "()V"⟩
abbrev cX9_in : ByteArray := prog_11_method_3_code
def yX9_in : MethodName := ⟨RX9, "in", "(JJJ)Z"⟩
abbrev cX9_write : ByteArray := prog_11_method_4_code
def yX9_write : MethodName := ⟨RX9, "write", "(IJ)I"⟩
abbrev cX9_wipe : ByteArray := prog_11_method_5_code
def yX9_wipe : MethodName := ⟨RX9, "wipe", "()I"⟩
abbrev cX9_figure : ByteArray := prog_11_method_6_code
def yX9_figure : MethodName := ⟨RX9, "figure", "(II)I"⟩
abbrev cX9_readText : ByteArray := prog_11_method_7_code
def yX9_readText : MethodName := ⟨RX9, "readText", "()I"⟩
abbrev cX9_fault : ByteArray := prog_11_method_8_code
def yX9_fault : MethodName := ⟨RX9, "fault", "()I"⟩
abbrev cX9_land : ByteArray := prog_11_method_9_code
def yX9_land : MethodName := ⟨RX9, "land", "()I"⟩
abbrev cX9_isPerson : ByteArray := prog_11_method_10_code
def yX9_isPerson : MethodName := ⟨RX9, "isPerson", "(I)Z"⟩
abbrev cX9_noonOf : ByteArray := prog_11_method_11_code
def yX9_noonOf : MethodName := ⟨RX9, "noonOf", "(I)I"⟩
abbrev cX9_isIll : ByteArray := prog_11_method_12_code
def yX9_isIll : MethodName := ⟨RX9, "isIll", "(I)Z"⟩
abbrev cX9_person : ByteArray := prog_11_method_13_code
def yX9_person : MethodName := ⟨RX9, "person", "(II)I"⟩
abbrev cX9_law : ByteArray := prog_11_method_14_code
def yX9_law : MethodName := ⟨RX9, "law", "(I)I"⟩
abbrev cX9_keepAct : ByteArray := prog_11_method_15_code
def yX9_keepAct : MethodName := ⟨RX9, "keepAct", "()V"⟩
abbrev cX9_eat : ByteArray := prog_11_method_16_code
def yX9_eat : MethodName := ⟨RX9, "eat", "(II)I"⟩
abbrev cX9_left : ByteArray := prog_11_method_17_code
def yX9_left : MethodName := ⟨RX9, "left", "(I)I"⟩
abbrev cX9_toil : ByteArray := prog_11_method_18_code
def yX9_toil : MethodName := ⟨RX9, "toil", "(II)I"⟩
abbrev cX9_drink : ByteArray := prog_11_method_19_code
def yX9_drink : MethodName := ⟨RX9, "drink", "(II)I"⟩
abbrev cX9_hand : ByteArray := prog_11_method_20_code
def yX9_hand : MethodName := ⟨RX9, "hand", "(IIZ)I"⟩
abbrev cX9_day : ByteArray := prog_11_method_21_code
def yX9_day : MethodName := ⟨RX9, "day", "()I"⟩
abbrev cX9_isLighter : ByteArray := prog_11_method_22_code
def yX9_isLighter : MethodName := ⟨RX9, "isLighter", "(IIII)Z"⟩
abbrev cX9_crownBy : ByteArray := prog_11_method_23_code
def yX9_crownBy : MethodName := ⟨RX9, "crownBy", "(I)I"⟩
abbrev cX9_crown : ByteArray := prog_11_method_24_code
def yX9_crown : MethodName := ⟨RX9, "crown", "()I"⟩
abbrev cX9_noon : ByteArray := prog_11_method_25_code
def yX9_noon : MethodName := ⟨RX9, "noon", "()I"⟩
abbrev cX9_undo : ByteArray := prog_11_method_26_code
def yX9_undo : MethodName := ⟨RX9, "undo", "()I"⟩
abbrev cX9_later : ByteArray := prog_11_method_27_code
def yX9_later : MethodName := ⟨RX9, "later", "(III)I"⟩
abbrev cX9_least : ByteArray := prog_11_method_28_code
def yX9_least : MethodName := ⟨RX9, "least", "(III)I"⟩
abbrev cX9_share : ByteArray := prog_11_method_29_code
def yX9_share : MethodName := ⟨RX9, "share", "(III)I"⟩
abbrev cX9_sure : ByteArray := prog_11_method_30_code
def yX9_sure : MethodName := ⟨RX9, "sure", "(III)I"⟩
abbrev cX9_sureAt : ByteArray := prog_11_method_31_code
def yX9_sureAt : MethodName := ⟨RX9, "sureAt", "(IIII)I"⟩
abbrev cX9_feed : ByteArray := prog_11_method_32_code
def yX9_feed : MethodName := ⟨RX9, "feed", "(I)I"⟩
abbrev cX9_ones : ByteArray := prog_11_method_33_code
def yX9_ones : MethodName := ⟨RX9, "ones", "(I)I"⟩
abbrev cX9_weigh : ByteArray := prog_11_method_34_code
def yX9_weigh : MethodName := ⟨RX9, "weigh", "(III)I"⟩
abbrev cX9_unweigh : ByteArray := prog_11_method_35_code
def yX9_unweigh : MethodName := ⟨RX9, "unweigh", "()I"⟩
abbrev cX9_mayBe : ByteArray := prog_11_method_36_code
def yX9_mayBe : MethodName := ⟨RX9, "mayBe", "(Z)I"⟩
abbrev cX9_search : ByteArray := prog_11_method_37_code
def yX9_search : MethodName := ⟨RX9, "search", "(II)I"⟩
abbrev cX9_unsearch : ByteArray := prog_11_method_38_code
def yX9_unsearch : MethodName := ⟨RX9, "unsearch", "()I"⟩
abbrev cX9_tenTo : ByteArray := prog_11_method_39_code
def yX9_tenTo : MethodName := ⟨RX9, "tenTo", "(I)I"⟩
abbrev cX9_fits : ByteArray := prog_11_method_40_code
def yX9_fits : MethodName := ⟨RX9, "fits", "(I)Z"⟩
abbrev cX9_layRows : ByteArray := prog_11_method_41_code
def yX9_layRows : MethodName := ⟨RX9, "layRows", "()I"⟩
abbrev cX9_rows : ByteArray := prog_11_method_42_code
def yX9_rows : MethodName := ⟨RX9, "rows", "()I"⟩
abbrev cX9_stones : ByteArray := prog_11_method_43_code
def yX9_stones : MethodName := ⟨RX9, "stones", "(IZ)I"⟩
abbrev cX9_ruled : ByteArray := prog_11_method_44_code
def yX9_ruled : MethodName := ⟨RX9, "ruled", "(I)I"⟩
abbrev cX9_unrule : ByteArray := prog_11_method_45_code
def yX9_unrule : MethodName := ⟨RX9, "unrule", "()I"⟩
abbrev cX9_ate : ByteArray := prog_11_method_46_code
def yX9_ate : MethodName := ⟨RX9, "ate", "(II)I"⟩
abbrev cX9_isRuler : ByteArray := prog_11_method_47_code
def yX9_isRuler : MethodName := ⟨RX9, "isRuler", "(II)Z"⟩
abbrev cX9_goMonth : ByteArray := prog_11_method_48_code
def yX9_goMonth : MethodName := ⟨RX9, "goMonth", "(I)V"⟩
abbrev cX9_line : ByteArray := prog_11_method_49_code
def yX9_line : MethodName := ⟨RX9, "line", "()J"⟩
abbrev cX9_seed : ByteArray := prog_11_method_50_code
def yX9_seed : MethodName := ⟨RX9, "seed", "(J)J"⟩
abbrev cX9_reign : ByteArray := prog_11_method_51_code
def yX9_reign : MethodName := ⟨RX9, "reign", "(II)I"⟩
abbrev cX9_keep : ByteArray := prog_11_method_52_code
def yX9_keep : MethodName := ⟨RX9, "keep", "(I)I"⟩
abbrev cX9_again : ByteArray := prog_11_method_53_code
def yX9_again : MethodName := ⟨RX9, "again", "(I)I"⟩
abbrev cX9_count : ByteArray := prog_11_method_54_code
def yX9_count : MethodName := ⟨RX9, "count", "(I)I"⟩
def RJ6 : String := "java/lang/Integer"
def TJ6 : u_T := fun k => match k with
  | _ => ("", "", "", false)
def tyJ6 : Nat → FieldType := fun k => match k with
  | _ => .int
abbrev wsJ60 : List Cond := u_ws RJ6 TJ6 0
theorem nmJ6 : ∀ a, a < 0 → ∀ b, b < 0 → a ≠ b → (TJ6 a).2.1 ≠ (TJ6 b).2.1 := by decide +kernel
theorem tyJ6_ok : ∀ k, k < 0 → parseFieldDescriptor (TJ6 k).2.2.1 = some (tyJ6 k) := by decide +kernel
abbrev cJ6_bitCount_0f7a4 : ByteArray := prog_12_method_49_code
def yJ6_bitCount_0f7a4 : MethodName := ⟨RJ6, "bitCount", "(I)I"⟩
def RJ9 : String := "java/lang/Math"
def TJ9 : u_T := fun k => match k with
  | _ => ("", "", "", false)
def tyJ9 : Nat → FieldType := fun k => match k with
  | _ => .int
abbrev wsJ90 : List Cond := u_ws RJ9 TJ9 0
theorem nmJ9 : ∀ a, a < 0 → ∀ b, b < 0 → a ≠ b → (TJ9 a).2.1 ≠ (TJ9 b).2.1 := by decide +kernel
theorem tyJ9_ok : ∀ k, k < 0 → parseFieldDescriptor (TJ9 k).2.2.1 = some (tyJ9 k) := by decide +kernel
abbrev cJ9_max_7cf53 : ByteArray := prog_13_method_65_code
def yJ9_max_7cf53 : MethodName := ⟨RJ9, "max", "(II)I"⟩
abbrev cJ9_min_7cf53 : ByteArray := prog_13_method_69_code
def yJ9_min_7cf53 : MethodName := ⟨RJ9, "min", "(II)I"⟩
def RJ10 : String := "java/lang/System"
def TJ10 : u_T := fun k => match k with
  | _ => ("", "", "", false)
def tyJ10 : Nat → FieldType := fun k => match k with
  | _ => .int
abbrev wsJ100 : List Cond := u_ws RJ10 TJ10 0
theorem nmJ10 : ∀ a, a < 0 → ∀ b, b < 0 → a ≠ b → (TJ10 a).2.1 ≠ (TJ10 b).2.1 := by decide +kernel
theorem tyJ10_ok : ∀ k, k < 0 → parseFieldDescriptor (TJ10 k).2.2.1 = some (tyJ10 k) := by decide +kernel
def RJ7 : String := "java/util/Arrays"
def TJ7 : u_T := fun k => match k with
  | _ => ("", "", "", false)
def tyJ7 : Nat → FieldType := fun k => match k with
  | _ => .int
abbrev wsJ70 : List Cond := u_ws RJ7 TJ7 0
theorem nmJ7 : ∀ a, a < 0 → ∀ b, b < 0 → a ≠ b → (TJ7 a).2.1 ≠ (TJ7 b).2.1 := by decide +kernel
theorem tyJ7_ok : ∀ k, k < 0 → parseFieldDescriptor (TJ7 k).2.2.1 = some (tyJ7 k) := by decide +kernel
abbrev cJ7_fill_d0a16 : ByteArray := prog_15_method_101_code
def yJ7_fill_d0a16 : MethodName := ⟨RJ7, "fill", "([JJ)V"⟩
abbrev cJ7_fill_53178 : ByteArray := prog_15_method_103_code
def yJ7_fill_53178 : MethodName := ⟨RJ7, "fill", "([II)V"⟩
def RL : String := "LightestRulesLaw"
abbrev cL_law : ByteArray := code
def yL_law : MethodName := ⟨RL, "law", "([I)Z"⟩
def wsX0_init : List Cond := .code yX0_init cX0_init 1 none :: ([.methodLink RX0 1 objectInit, .instanceMethod objectInit, .code objectInit ⟨#[0xb1]⟩ 1 none, .arrayClass .int, .fieldLink RX0 11 "LightestRules$ActRow" "before" "[I", .fieldLink RX0 15 "LightestRules$ActRow" "first" "I", .fieldLink RX0 19 "LightestRules$ActRow" "length" "I"] ++ wsX00)
def wsX0_length : List Cond := .code yX0_length cX0_length 1 (some .int) :: ([.fieldLink RX0 19 "LightestRules$ActRow" "length" "I"] ++ wsX00)
def wsX0_clear : List Cond := .code yX0_clear cX0_clear 1 none :: ([.fieldLink RX0 19 "LightestRules$ActRow" "length" "I"] ++ wsX00)
def wsX2_copyTo : List Cond := .code yX2_copyTo cX2_copyTo 3 none :: ([.fieldLink RX2 11 "LightestRules$People" "cells" "[I", .methodLink RX2 54 arraycopyName, .native arraycopyName, .static arraycopyName, .initialized "java/lang/System"] ++ wsX20)
def wsX0_remember : List Cond := .code yX0_remember cX0_remember 2 none :: ([.fieldLink RX0 19 "LightestRules$ActRow" "length" "I", .fieldLink RX0 15 "LightestRules$ActRow" "first" "I", .fieldLink RX0 11 "LightestRules$ActRow" "before" "[I", .methodLink RX0 22 yX2_copyTo, .instanceMethod yX2_copyTo, .selects RX2 yX2_copyTo yX2_copyTo, .initialized RX2, .code yX2_copyTo cX2_copyTo 3 none, .fieldLink RX2 11 "LightestRules$People" "cells" "[I", .methodLink RX2 54 arraycopyName, .native arraycopyName, .static arraycopyName, .initialized "java/lang/System"] ++ wsX00 ++ wsX20)
def wsX2_copyFrom : List Cond := .code yX2_copyFrom cX2_copyFrom 3 none :: ([.fieldLink RX2 11 "LightestRules$People" "cells" "[I", .methodLink RX2 54 arraycopyName, .native arraycopyName, .static arraycopyName, .initialized "java/lang/System"] ++ wsX20)
def wsX0_takeBack : List Cond := .code yX0_takeBack cX0_takeBack 2 none :: ([.fieldLink RX0 19 "LightestRules$ActRow" "length" "I", .fieldLink RX0 11 "LightestRules$ActRow" "before" "[I", .fieldLink RX0 15 "LightestRules$ActRow" "first" "I", .methodLink RX0 26 yX2_copyFrom, .instanceMethod yX2_copyFrom, .selects RX2 yX2_copyFrom yX2_copyFrom, .initialized RX2, .code yX2_copyFrom cX2_copyFrom 3 none, .fieldLink RX2 11 "LightestRules$People" "cells" "[I", .methodLink RX2 54 arraycopyName, .native arraycopyName, .static arraycopyName, .initialized "java/lang/System"] ++ wsX00 ++ wsX20)
def wsX1_init : List Cond := .code yX1_init cX1_init 1 none :: ([.methodLink RX1 3 objectInit, .instanceMethod objectInit, .code objectInit ⟨#[0xb1]⟩ 1 none, .arrayClass .int, .fieldLink RX1 11 "LightestRules$LandText" "bytes" "[I", .fieldLink RX1 15 "LightestRules$LandText" "length" "I"] ++ wsX10)
def wsX1_length : List Cond := .code yX1_length cX1_length 1 (some .int) :: ([.fieldLink RX1 15 "LightestRules$LandText" "length" "I"] ++ wsX10)
def wsX1_clear : List Cond := .code yX1_clear cX1_clear 1 none :: ([.fieldLink RX1 15 "LightestRules$LandText" "length" "I"] ++ wsX10)
def wsX1_append : List Cond := .code yX1_append cX1_append 5 (some .boolean) :: ([.fieldLink RX1 15 "LightestRules$LandText" "length" "I", .fieldLink RX1 11 "LightestRules$LandText" "bytes" "[I"] ++ wsX10)
def wsX1_mayStandAt : List Cond := .code yX1_mayStandAt cX1_mayStandAt 3 (some .boolean) :: ([])
def wsX1_firstFault : List Cond := .code yX1_firstFault cX1_firstFault 2 (some .int) :: ([.fieldLink RX1 15 "LightestRules$LandText" "length" "I", .fieldLink RX1 11 "LightestRules$LandText" "bytes" "[I", .methodLink RX1 19 yX1_mayStandAt, .static yX1_mayStandAt, .initialized RX1, .code yX1_mayStandAt cX1_mayStandAt 3 (some .boolean)] ++ wsX10)
def wsX1_parts : List Cond := .code yX1_parts cX1_parts 1 (some .int) :: ([.fieldLink RX1 15 "LightestRules$LandText" "length" "I"] ++ wsX10)
def wsX1_figure : List Cond := .code yX1_figure cX1_figure 2 (some .int) :: ([.fieldLink RX1 15 "LightestRules$LandText" "length" "I", .fieldLink RX1 11 "LightestRules$LandText" "bytes" "[I"] ++ wsX10)
def wsX1_partFigure : List Cond := .code yX1_partFigure cX1_partFigure 3 (some .int) :: ([.methodLink RX1 25 yX1_figure, .instanceMethod yX1_figure, .selects RX1 yX1_figure yX1_figure, .initialized RX1, .code yX1_figure cX1_figure 2 (some .int), .fieldLink RX1 15 "LightestRules$LandText" "length" "I", .fieldLink RX1 11 "LightestRules$LandText" "bytes" "[I"] ++ wsX10)
def wsX2_init : List Cond := .code yX2_init cX2_init 1 none :: ([.methodLink RX2 5 objectInit, .instanceMethod objectInit, .code objectInit ⟨#[0xb1]⟩ 1 none, .arrayClass .int, .fieldLink RX2 11 "LightestRules$People" "cells" "[I", .fieldLink RX2 15 "LightestRules$People" "size" "I", .fieldLink RX2 19 "LightestRules$People" "burn" "I", .fieldLink RX2 22 "LightestRules$People" "ill" "I"] ++ wsX20)
def wsJ7_fill_53178 : List Cond := .code yJ7_fill_53178 cJ7_fill_53178 4 none :: ([])
def wsX2_add : List Cond := .code yX2_add cX2_add 5 none :: ([.fieldLink RX2 11 "LightestRules$People" "cells" "[I"] ++ wsX20)
def wsX2_settle_r1 : List Cond := [Cond.fieldLink RX2 11 "LightestRules$People" "cells" "[I", Cond.fieldLink RX2 19 "LightestRules$People" "burn" "I", Cond.fieldLink RX2 22 "LightestRules$People" "ill" "I", Cond.methodLink RX2 41 Lib.Math.min.name, Cond.static Lib.Math.min.name, Cond.initialized "java/lang/Math", Cond.code Lib.Math.min.name Lib.Math.min.code 2 (some .int), Cond.fieldLink RX2 15 "LightestRules$People" "size" "I", Cond.methodLink RX2 25 yJ7_fill_53178, Cond.static yJ7_fill_53178, Cond.initialized RJ7, Cond.code yJ7_fill_53178 cJ7_fill_53178 4 none, Cond.methodLink RX2 31 yX1_figure, Cond.instanceMethod yX1_figure, Cond.selects RX1 yX1_figure yX1_figure, Cond.initialized RX1, Cond.code yX1_figure cX1_figure 2 (some .int), Cond.fieldLink RX1 15 "LightestRules$LandText" "length" "I", Cond.fieldLink RX1 11 "LightestRules$LandText" "bytes" "[I", Cond.methodLink RX2 37 yX1_parts, Cond.instanceMethod yX1_parts, Cond.selects RX1 yX1_parts yX1_parts, Cond.code yX1_parts cX1_parts 1 (some .int), Cond.methodLink RX2 47 yX1_partFigure]
def wsX2_settle_r2 : List Cond := [Cond.instanceMethod yX1_partFigure, Cond.selects RX1 yX1_partFigure yX1_partFigure, Cond.code yX1_partFigure cX1_partFigure 3 (some .int), Cond.methodLink RX1 25 yX1_figure, Cond.methodLink RX2 50 yX2_add, Cond.instanceMethod yX2_add, Cond.selects RX2 yX2_add yX2_add, Cond.initialized RX2, Cond.code yX2_add cX2_add 5 none]
def wsX2_settle : List Cond := .code yX2_settle cX2_settle 3 none :: ((wsX2_settle_r1 ++ wsX2_settle_r2) ++ wsX20 ++ wsX10)
def wsX2_becomeLike : List Cond := .code yX2_becomeLike cX2_becomeLike 2 none :: ([.fieldLink RX2 11 "LightestRules$People" "cells" "[I", .methodLink RX2 54 arraycopyName, .native arraycopyName, .static arraycopyName, .initialized "java/lang/System", .fieldLink RX2 15 "LightestRules$People" "size" "I", .fieldLink RX2 19 "LightestRules$People" "burn" "I", .fieldLink RX2 22 "LightestRules$People" "ill" "I"] ++ wsX20)
def wsX2_size : List Cond := .code yX2_size cX2_size 1 (some .int) :: ([.fieldLink RX2 15 "LightestRules$People" "size" "I"] ++ wsX20)
def wsX2_has : List Cond := .code yX2_has cX2_has 2 (some .boolean) :: ([.fieldLink RX2 15 "LightestRules$People" "size" "I"] ++ wsX20)
def wsX2_get : List Cond := .code yX2_get cX2_get 4 (some .int) :: ([.fieldLink RX2 11 "LightestRules$People" "cells" "[I"] ++ wsX20)
def wsX2_gain : List Cond := .code yX2_gain cX2_gain 4 (some .int) :: ([.methodLink RX2 63 Lib.Math.max.name, .static Lib.Math.max.name, .initialized "java/lang/Math", .code Lib.Math.max.name Lib.Math.max.code 2 (some .int), .methodLink RX2 60 yX2_get, .instanceMethod yX2_get, .selects RX2 yX2_get yX2_get, .initialized RX2, .code yX2_get cX2_get 4 (some .int), .fieldLink RX2 11 "LightestRules$People" "cells" "[I", .methodLink RX2 50 yX2_add, .instanceMethod yX2_add, .selects RX2 yX2_add yX2_add, .code yX2_add cX2_add 5 none] ++ wsX20)
def wsX2_today : List Cond := .code yX2_today cX2_today 1 (some .int) :: ([.fieldLink RX2 11 "LightestRules$People" "cells" "[I"] ++ wsX20)
def wsX2_passDay : List Cond := .code yX2_passDay cX2_passDay 3 none :: ([.fieldLink RX2 11 "LightestRules$People" "cells" "[I", .fieldLink RX2 15 "LightestRules$People" "size" "I", .fieldLink RX2 19 "LightestRules$People" "burn" "I", .methodLink RX2 60 yX2_get, .instanceMethod yX2_get, .selects RX2 yX2_get yX2_get, .initialized RX2, .code yX2_get cX2_get 4 (some .int), .methodLink RX2 66 yX2_gain, .instanceMethod yX2_gain, .selects RX2 yX2_gain yX2_gain, .code yX2_gain cX2_gain 4 (some .int), .methodLink RX2 63 Lib.Math.max.name, .static Lib.Math.max.name, .initialized "java/lang/Math", .code Lib.Math.max.name Lib.Math.max.code 2 (some .int), .methodLink RX2 50 yX2_add, .instanceMethod yX2_add, .selects RX2 yX2_add yX2_add, .code yX2_add cX2_add 5 none] ++ wsX20)
def wsX2_pocketWeight : List Cond := .code yX2_pocketWeight cX2_pocketWeight 2 (some .int) :: ([.methodLink RX2 60 yX2_get, .instanceMethod yX2_get, .selects RX2 yX2_get yX2_get, .initialized RX2, .code yX2_get cX2_get 4 (some .int), .fieldLink RX2 11 "LightestRules$People" "cells" "[I"] ++ wsX20)
def wsX2_noonWeight : List Cond := .code yX2_noonWeight cX2_noonWeight 2 (some .int) :: ([.methodLink RX2 60 yX2_get, .instanceMethod yX2_get, .selects RX2 yX2_get yX2_get, .initialized RX2, .code yX2_get cX2_get 4 (some .int), .fieldLink RX2 11 "LightestRules$People" "cells" "[I", .methodLink RX2 69 yX2_pocketWeight, .instanceMethod yX2_pocketWeight, .selects RX2 yX2_pocketWeight yX2_pocketWeight, .code yX2_pocketWeight cX2_pocketWeight 2 (some .int)] ++ wsX20)
def wsX2_isIll : List Cond := .code yX2_isIll cX2_isIll 2 (some .boolean) :: ([.fieldLink RX2 22 "LightestRules$People" "ill" "I", .methodLink RX2 60 yX2_get, .instanceMethod yX2_get, .selects RX2 yX2_get yX2_get, .initialized RX2, .code yX2_get cX2_get 4 (some .int), .fieldLink RX2 11 "LightestRules$People" "cells" "[I"] ++ wsX20)
def wsX2_illBits : List Cond := .code yX2_illBits cX2_illBits 3 (some .int) :: ([.fieldLink RX2 15 "LightestRules$People" "size" "I", .methodLink RX2 72 yX2_isIll, .instanceMethod yX2_isIll, .selects RX2 yX2_isIll yX2_isIll, .initialized RX2, .code yX2_isIll cX2_isIll 2 (some .boolean), .fieldLink RX2 22 "LightestRules$People" "ill" "I", .methodLink RX2 60 yX2_get, .instanceMethod yX2_get, .selects RX2 yX2_get yX2_get, .code yX2_get cX2_get 4 (some .int), .fieldLink RX2 11 "LightestRules$People" "cells" "[I"] ++ wsX20)
def wsX2_crownings : List Cond := .code yX2_crownings cX2_crownings 3 (some .int) :: ([.fieldLink RX2 15 "LightestRules$People" "size" "I", .methodLink RX2 60 yX2_get, .instanceMethod yX2_get, .selects RX2 yX2_get yX2_get, .initialized RX2, .code yX2_get cX2_get 4 (some .int), .fieldLink RX2 11 "LightestRules$People" "cells" "[I"] ++ wsX20)
def wsX2_lightestBut : List Cond := .code yX2_lightestBut cX2_lightestBut 5 (some .int) :: ([.fieldLink RX2 15 "LightestRules$People" "size" "I", .methodLink RX2 82 yX2_noonWeight, .instanceMethod yX2_noonWeight, .selects RX2 yX2_noonWeight yX2_noonWeight, .initialized RX2, .code yX2_noonWeight cX2_noonWeight 2 (some .int), .methodLink RX2 60 yX2_get, .instanceMethod yX2_get, .selects RX2 yX2_get yX2_get, .code yX2_get cX2_get 4 (some .int), .fieldLink RX2 11 "LightestRules$People" "cells" "[I", .methodLink RX2 69 yX2_pocketWeight, .instanceMethod yX2_pocketWeight, .selects RX2 yX2_pocketWeight yX2_pocketWeight, .code yX2_pocketWeight cX2_pocketWeight 2 (some .int)] ++ wsX20)
def wsX2_crownedBy_r1 : List Cond := [Cond.methodLink RX2 76 yX2_illBits, Cond.instanceMethod yX2_illBits, Cond.selects RX2 yX2_illBits yX2_illBits, Cond.initialized RX2, Cond.code yX2_illBits cX2_illBits 3 (some .int), Cond.fieldLink RX2 15 "LightestRules$People" "size" "I", Cond.methodLink RX2 72 yX2_isIll, Cond.instanceMethod yX2_isIll, Cond.selects RX2 yX2_isIll yX2_isIll, Cond.code yX2_isIll cX2_isIll 2 (some .boolean), Cond.fieldLink RX2 22 "LightestRules$People" "ill" "I", Cond.methodLink RX2 60 yX2_get, Cond.instanceMethod yX2_get, Cond.selects RX2 yX2_get yX2_get, Cond.code yX2_get cX2_get 4 (some .int), Cond.fieldLink RX2 11 "LightestRules$People" "cells" "[I", Cond.methodLink RX2 79 yX2_lightestBut, Cond.instanceMethod yX2_lightestBut, Cond.selects RX2 yX2_lightestBut yX2_lightestBut, Cond.code yX2_lightestBut cX2_lightestBut 5 (some .int), Cond.methodLink RX2 82 yX2_noonWeight, Cond.instanceMethod yX2_noonWeight, Cond.selects RX2 yX2_noonWeight yX2_noonWeight, Cond.code yX2_noonWeight cX2_noonWeight 2 (some .int)]
def wsX2_crownedBy_r2 : List Cond := [Cond.methodLink RX2 69 yX2_pocketWeight, Cond.instanceMethod yX2_pocketWeight, Cond.selects RX2 yX2_pocketWeight yX2_pocketWeight, Cond.code yX2_pocketWeight cX2_pocketWeight 2 (some .int)]
def wsX2_crownedBy : List Cond := .code yX2_crownedBy cX2_crownedBy 3 (some .int) :: ((wsX2_crownedBy_r1 ++ wsX2_crownedBy_r2) ++ wsX20)
def wsX2_noonWeightBehind : List Cond := .code yX2_noonWeightBehind cX2_noonWeightBehind 5 (some .int) :: ([.fieldLink RX2 19 "LightestRules$People" "burn" "I", .methodLink RX2 63 Lib.Math.max.name, .static Lib.Math.max.name, .initialized "java/lang/Math", .code Lib.Math.max.name Lib.Math.max.code 2 (some .int), .methodLink RX2 60 yX2_get, .instanceMethod yX2_get, .selects RX2 yX2_get yX2_get, .initialized RX2, .code yX2_get cX2_get 4 (some .int), .fieldLink RX2 11 "LightestRules$People" "cells" "[I", .methodLink RX2 69 yX2_pocketWeight, .instanceMethod yX2_pocketWeight, .selects RX2 yX2_pocketWeight yX2_pocketWeight, .code yX2_pocketWeight cX2_pocketWeight 2 (some .int)] ++ wsX20)
def wsX2_winsWith : List Cond := .code yX2_winsWith cX2_winsWith 8 (some .boolean) :: ([.fieldLink RX2 15 "LightestRules$People" "size" "I", .methodLink RX2 85 yX2_noonWeightBehind, .instanceMethod yX2_noonWeightBehind, .selects RX2 yX2_noonWeightBehind yX2_noonWeightBehind, .initialized RX2, .code yX2_noonWeightBehind cX2_noonWeightBehind 5 (some .int), .fieldLink RX2 19 "LightestRules$People" "burn" "I", .methodLink RX2 63 Lib.Math.max.name, .static Lib.Math.max.name, .initialized "java/lang/Math", .code Lib.Math.max.name Lib.Math.max.code 2 (some .int), .methodLink RX2 60 yX2_get, .instanceMethod yX2_get, .selects RX2 yX2_get yX2_get, .code yX2_get cX2_get 4 (some .int), .fieldLink RX2 11 "LightestRules$People" "cells" "[I", .methodLink RX2 69 yX2_pocketWeight, .instanceMethod yX2_pocketWeight, .selects RX2 yX2_pocketWeight yX2_pocketWeight, .code yX2_pocketWeight cX2_pocketWeight 2 (some .int)] ++ wsX20)
def wsX2_loavesToWin : List Cond := .code yX2_loavesToWin cX2_loavesToWin 5 (some .int) :: ([.fieldLink RX2 15 "LightestRules$People" "size" "I", .methodLink RX2 82 yX2_noonWeight, .instanceMethod yX2_noonWeight, .selects RX2 yX2_noonWeight yX2_noonWeight, .initialized RX2, .code yX2_noonWeight cX2_noonWeight 2 (some .int), .methodLink RX2 60 yX2_get, .instanceMethod yX2_get, .selects RX2 yX2_get yX2_get, .code yX2_get cX2_get 4 (some .int), .fieldLink RX2 11 "LightestRules$People" "cells" "[I", .methodLink RX2 69 yX2_pocketWeight, .instanceMethod yX2_pocketWeight, .selects RX2 yX2_pocketWeight yX2_pocketWeight, .code yX2_pocketWeight cX2_pocketWeight 2 (some .int)] ++ wsX20)
def wsX3_init : List Cond := .code yX3_init cX3_init 1 none :: ([.methodLink RX3 5 objectInit, .instanceMethod objectInit, .code objectInit ⟨#[0xb1]⟩ 1 none, .arrayClass .int, .fieldLink RX3 11 "LightestRules$RulersLine" "rulers" "[I", .fieldLink RX3 15 "LightestRules$RulersLine" "weights" "[I", .arrayClass .long, .fieldLink RX3 18 "LightestRules$RulersLine" "ways" "[J", .fieldLink RX3 22 "LightestRules$RulersLine" "length" "I"] ++ wsX30)
def wsX3_length : List Cond := .code yX3_length cX3_length 1 (some .int) :: ([.fieldLink RX3 22 "LightestRules$RulersLine" "length" "I"] ++ wsX30)
def wsX3_clear : List Cond := .code yX3_clear cX3_clear 1 none :: ([.fieldLink RX3 22 "LightestRules$RulersLine" "length" "I"] ++ wsX30)
def wsX3_append : List Cond := .code yX3_append cX3_append 2 (some .boolean) :: ([.fieldLink RX3 22 "LightestRules$RulersLine" "length" "I", .fieldLink RX3 11 "LightestRules$RulersLine" "rulers" "[I"] ++ wsX30)
def wsJ7_fill_d0a16 : List Cond := .code yJ7_fill_d0a16 cJ7_fill_d0a16 5 none :: ([])
def wsX3_letEat : List Cond := .code yX3_letEat cX3_letEat 6 none :: ([.methodLink RX3 32 Lib.Math.min.name, .static Lib.Math.min.name, .initialized "java/lang/Math", .code Lib.Math.min.name Lib.Math.min.code 2 (some .int), .fieldLink RX3 18 "LightestRules$RulersLine" "ways" "[J"] ++ wsX30)
def wsX3_lightestAt : List Cond := .code yX3_lightestAt cX3_lightestAt 8 (some .int) :: ([.fieldLink RX3 15 "LightestRules$RulersLine" "weights" "[I"] ++ wsX30)
def wsX3_strikeOut : List Cond := .code yX3_strikeOut cX3_strikeOut 5 none :: ([.fieldLink RX3 18 "LightestRules$RulersLine" "ways" "[J", .methodLink RX3 63 yX3_lightestAt, .instanceMethod yX3_lightestAt, .selects RX3 yX3_lightestAt yX3_lightestAt, .initialized RX3, .code yX3_lightestAt cX3_lightestAt 8 (some .int), .fieldLink RX3 15 "LightestRules$RulersLine" "weights" "[I"] ++ wsX30)
def wsX3_sumOfWays : List Cond := .code yX3_sumOfWays cX3_sumOfWays 5 (some .long) :: ([.fieldLink RX3 18 "LightestRules$RulersLine" "ways" "[J"] ++ wsX30)
def wsX3_fittingMeals_r1 : List Cond := [Cond.methodLink RX3 32 Lib.Math.min.name, Cond.static Lib.Math.min.name, Cond.initialized "java/lang/Math", Cond.code Lib.Math.min.name Lib.Math.min.code 2 (some .int), Cond.fieldLink RX3 15 "LightestRules$RulersLine" "weights" "[I", Cond.fieldLink RX3 18 "LightestRules$RulersLine" "ways" "[J", Cond.fieldLink RX3 22 "LightestRules$RulersLine" "length" "I", Cond.fieldLink RX3 48 "LightestRules$RulersLine" "STRIDES" "[I", Cond.fieldLink RX3 11 "LightestRules$RulersLine" "rulers" "[I", Cond.methodLink RX3 26 yX2_size, Cond.instanceMethod yX2_size, Cond.selects RX2 yX2_size yX2_size, Cond.initialized RX2, Cond.code yX2_size cX2_size 1 (some .int), Cond.fieldLink RX2 15 "LightestRules$People" "size" "I", Cond.methodLink RX3 38 yX2_noonWeight, Cond.instanceMethod yX2_noonWeight, Cond.selects RX2 yX2_noonWeight yX2_noonWeight, Cond.code yX2_noonWeight cX2_noonWeight 2 (some .int), Cond.methodLink RX2 60 yX2_get, Cond.instanceMethod yX2_get, Cond.selects RX2 yX2_get yX2_get, Cond.code yX2_get cX2_get 4 (some .int), Cond.fieldLink RX2 11 "LightestRules$People" "cells" "[I"]
def wsX3_fittingMeals_r2 : List Cond := [Cond.methodLink RX2 69 yX2_pocketWeight, Cond.instanceMethod yX2_pocketWeight, Cond.selects RX2 yX2_pocketWeight yX2_pocketWeight, Cond.code yX2_pocketWeight cX2_pocketWeight 2 (some .int), Cond.methodLink RX3 42 yJ7_fill_d0a16, Cond.static yJ7_fill_d0a16, Cond.initialized RJ7, Cond.code yJ7_fill_d0a16 cJ7_fill_d0a16 5 none, Cond.methodLink RX3 51 yX3_letEat, Cond.instanceMethod yX3_letEat, Cond.selects RX3 yX3_letEat yX3_letEat, Cond.initialized RX3, Cond.code yX3_letEat cX3_letEat 6 none, Cond.methodLink RX3 55 yX3_strikeOut, Cond.instanceMethod yX3_strikeOut, Cond.selects RX3 yX3_strikeOut yX3_strikeOut, Cond.code yX3_strikeOut cX3_strikeOut 5 none, Cond.methodLink RX3 63 yX3_lightestAt, Cond.instanceMethod yX3_lightestAt, Cond.selects RX3 yX3_lightestAt yX3_lightestAt, Cond.code yX3_lightestAt cX3_lightestAt 8 (some .int), Cond.methodLink RX3 59 yX3_sumOfWays, Cond.instanceMethod yX3_sumOfWays, Cond.selects RX3 yX3_sumOfWays yX3_sumOfWays]
def wsX3_fittingMeals_r3 : List Cond := [Cond.code yX3_sumOfWays cX3_sumOfWays 5 (some .long)]
def wsX3_fittingMeals : List Cond := .code yX3_fittingMeals cX3_fittingMeals 6 (some .long) :: ((wsX3_fittingMeals_r1 ++ (wsX3_fittingMeals_r2 ++ wsX3_fittingMeals_r3)) ++ wsX30 ++ wsX20)
def wsX4_init : List Cond := .code yX4_init cX4_init 1 none :: ([.methodLink RX4 3 objectInit, .instanceMethod objectInit, .code objectInit ⟨#[0xb1]⟩ 1 none, .arrayClass .int, .fieldLink RX4 11 "LightestRules$Searches" "searched" "[I", .fieldLink RX4 15 "LightestRules$Searches" "missing" "[I", .fieldLink RX4 20 "LightestRules$Searches" "least" "[I", .fieldLink RX4 23 "LightestRules$Searches" "most" "[I", .fieldLink RX4 26 "LightestRules$Searches" "length" "I", .fieldLink RX4 30 "LightestRules$Searches" "found" "I", .fieldLink RX4 33 "LightestRules$Searches" "fresh" "Z"] ++ wsX40)
def wsX4_length : List Cond := .code yX4_length cX4_length 1 (some .int) :: ([.fieldLink RX4 26 "LightestRules$Searches" "length" "I"] ++ wsX40)
def wsX4_clear : List Cond := .code yX4_clear cX4_clear 1 none :: ([.fieldLink RX4 26 "LightestRules$Searches" "length" "I", .fieldLink RX4 33 "LightestRules$Searches" "fresh" "Z"] ++ wsX40)
def wsX4_append : List Cond := .code yX4_append cX4_append 3 (some .boolean) :: ([.fieldLink RX4 26 "LightestRules$Searches" "length" "I", .fieldLink RX4 11 "LightestRules$Searches" "searched" "[I", .fieldLink RX4 15 "LightestRules$Searches" "missing" "[I", .fieldLink RX4 33 "LightestRules$Searches" "fresh" "Z"] ++ wsX40)
def wsX4_leastOf : List Cond := .code yX4_leastOf cX4_leastOf 2 (some .int) :: ([.fieldLink RX4 20 "LightestRules$Searches" "least" "[I"] ++ wsX40)
def wsX4_mostOf : List Cond := .code yX4_mostOf cX4_mostOf 2 (some .int) :: ([.fieldLink RX4 23 "LightestRules$Searches" "most" "[I"] ++ wsX40)
def wsX4_isIn : List Cond := .code yX4_isIn cX4_isIn 3 (some .boolean) :: ([.fieldLink RX4 11 "LightestRules$Searches" "searched" "[I"] ++ wsX40)
def wsJ6_bitCount_0f7a4 : List Cond := .code yJ6_bitCount_0f7a4 cJ6_bitCount_0f7a4 1 (some .int) :: ([.constant RJ6 265 (1431655765), .constant RJ6 266 (858993459), .constant RJ6 267 (252645135)])
def wsX4_fewestFor : List Cond := .code yX4_fewestFor cX4_fewestFor 5 (some .int) :: ([.fieldLink RX4 26 "LightestRules$Searches" "length" "I", .fieldLink RX4 11 "LightestRules$Searches" "searched" "[I", .fieldLink RX4 15 "LightestRules$Searches" "missing" "[I", .methodLink RX4 75 Lib.Math.max.name, .static Lib.Math.max.name, .initialized "java/lang/Math", .code Lib.Math.max.name Lib.Math.max.code 2 (some .int), .methodLink RX4 66 yX4_isIn, .instanceMethod yX4_isIn, .selects RX4 yX4_isIn yX4_isIn, .initialized RX4, .code yX4_isIn cX4_isIn 3 (some .boolean), .methodLink RX4 70 yJ6_bitCount_0f7a4, .static yJ6_bitCount_0f7a4, .initialized RJ6, .code yJ6_bitCount_0f7a4 cJ6_bitCount_0f7a4 1 (some .int), .constant RJ6 265 (1431655765), .constant RJ6 266 (858993459), .constant RJ6 267 (252645135)] ++ wsX40)
def wsX4_greatestFor : List Cond := .code yX4_greatestFor cX4_greatestFor 4 (some .int) :: ([.fieldLink RX4 26 "LightestRules$Searches" "length" "I", .fieldLink RX4 15 "LightestRules$Searches" "missing" "[I", .methodLink RX4 81 Lib.Math.min.name, .static Lib.Math.min.name, .initialized "java/lang/Math", .code Lib.Math.min.name Lib.Math.min.code 2 (some .int), .methodLink RX4 66 yX4_isIn, .instanceMethod yX4_isIn, .selects RX4 yX4_isIn yX4_isIn, .initialized RX4, .code yX4_isIn cX4_isIn 3 (some .boolean), .fieldLink RX4 11 "LightestRules$Searches" "searched" "[I"] ++ wsX40)
def wsX4_anySearched : List Cond := .code yX4_anySearched cX4_anySearched 3 (some .boolean) :: ([.fieldLink RX4 26 "LightestRules$Searches" "length" "I", .methodLink RX4 66 yX4_isIn, .instanceMethod yX4_isIn, .selects RX4 yX4_isIn yX4_isIn, .initialized RX4, .code yX4_isIn cX4_isIn 3 (some .boolean), .fieldLink RX4 11 "LightestRules$Searches" "searched" "[I"] ++ wsX40)
def wsX4_noted : List Cond := .code yX4_noted cX4_noted 5 (some .int) :: ([.fieldLink RX4 20 "LightestRules$Searches" "least" "[I", .methodLink RX4 81 Lib.Math.min.name, .static Lib.Math.min.name, .initialized "java/lang/Math", .code Lib.Math.min.name Lib.Math.min.code 2 (some .int), .fieldLink RX4 23 "LightestRules$Searches" "most" "[I", .methodLink RX4 75 Lib.Math.max.name, .static Lib.Math.max.name, .code Lib.Math.max.name Lib.Math.max.code 2 (some .int)] ++ wsX40)
def wsX4_give : List Cond := .code yX4_give cX4_give 4 none :: ([.fieldLink RX4 26 "LightestRules$Searches" "length" "I", .fieldLink RX4 15 "LightestRules$Searches" "missing" "[I", .methodLink RX4 66 yX4_isIn, .instanceMethod yX4_isIn, .selects RX4 yX4_isIn yX4_isIn, .initialized RX4, .code yX4_isIn cX4_isIn 3 (some .boolean), .fieldLink RX4 11 "LightestRules$Searches" "searched" "[I"] ++ wsX40)
def wsX4_rowsFrom_r1 : List Cond := [Cond.methodLink RX4 47 yX4_fewestFor, Cond.instanceMethod yX4_fewestFor, Cond.selects RX4 yX4_fewestFor yX4_fewestFor, Cond.initialized RX4, Cond.code yX4_fewestFor cX4_fewestFor 5 (some .int), Cond.fieldLink RX4 26 "LightestRules$Searches" "length" "I", Cond.fieldLink RX4 11 "LightestRules$Searches" "searched" "[I", Cond.fieldLink RX4 15 "LightestRules$Searches" "missing" "[I", Cond.methodLink RX4 75 Lib.Math.max.name, Cond.static Lib.Math.max.name, Cond.initialized "java/lang/Math", Cond.code Lib.Math.max.name Lib.Math.max.code 2 (some .int), Cond.methodLink RX4 66 yX4_isIn, Cond.instanceMethod yX4_isIn, Cond.selects RX4 yX4_isIn yX4_isIn, Cond.code yX4_isIn cX4_isIn 3 (some .boolean), Cond.methodLink RX4 70 yJ6_bitCount_0f7a4, Cond.static yJ6_bitCount_0f7a4, Cond.initialized RJ6, Cond.code yJ6_bitCount_0f7a4 cJ6_bitCount_0f7a4 1 (some .int), Cond.constant RJ6 265 (1431655765), Cond.constant RJ6 266 (858993459), Cond.constant RJ6 267 (252645135), Cond.methodLink RX4 51 yX4_greatestFor]
def wsX4_rowsFrom_r2 : List Cond := [Cond.instanceMethod yX4_greatestFor, Cond.selects RX4 yX4_greatestFor yX4_greatestFor, Cond.code yX4_greatestFor cX4_greatestFor 4 (some .int), Cond.methodLink RX4 81 Lib.Math.min.name, Cond.static Lib.Math.min.name, Cond.code Lib.Math.min.name Lib.Math.min.code 2 (some .int), Cond.methodLink RX4 54 yX4_anySearched, Cond.instanceMethod yX4_anySearched, Cond.selects RX4 yX4_anySearched yX4_anySearched, Cond.code yX4_anySearched cX4_anySearched 3 (some .boolean), Cond.methodLink RX4 43 yX4_rowsFrom, Cond.static yX4_rowsFrom, Cond.methodLink RX4 58 yX4_noted, Cond.instanceMethod yX4_noted, Cond.selects RX4 yX4_noted yX4_noted, Cond.code yX4_noted cX4_noted 5 (some .int), Cond.fieldLink RX4 20 "LightestRules$Searches" "least" "[I", Cond.fieldLink RX4 23 "LightestRules$Searches" "most" "[I", Cond.methodLink RX4 62 yX4_give, Cond.instanceMethod yX4_give, Cond.selects RX4 yX4_give yX4_give, Cond.code yX4_give cX4_give 4 none]
def wsX4_rowsFrom : List Cond := .code yX4_rowsFrom cX4_rowsFrom 6 (some .int) :: ((wsX4_rowsFrom_r1 ++ wsX4_rowsFrom_r2) ++ wsX40)
def wsX4_fittingRows_r1 : List Cond := [Cond.fieldLink RX4 33 "LightestRules$Searches" "fresh" "Z", Cond.fieldLink RX4 20 "LightestRules$Searches" "least" "[I", Cond.fieldLink RX4 23 "LightestRules$Searches" "most" "[I", Cond.fieldLink RX4 30 "LightestRules$Searches" "found" "I", Cond.methodLink RX4 37 yJ7_fill_53178, Cond.static yJ7_fill_53178, Cond.initialized RJ7, Cond.code yJ7_fill_53178 cJ7_fill_53178 4 none, Cond.methodLink RX4 43 yX4_rowsFrom, Cond.static yX4_rowsFrom, Cond.initialized RX4, Cond.code yX4_rowsFrom cX4_rowsFrom 6 (some .int), Cond.methodLink RX4 47 yX4_fewestFor, Cond.instanceMethod yX4_fewestFor, Cond.selects RX4 yX4_fewestFor yX4_fewestFor, Cond.code yX4_fewestFor cX4_fewestFor 5 (some .int), Cond.fieldLink RX4 26 "LightestRules$Searches" "length" "I", Cond.fieldLink RX4 11 "LightestRules$Searches" "searched" "[I", Cond.fieldLink RX4 15 "LightestRules$Searches" "missing" "[I", Cond.methodLink RX4 75 Lib.Math.max.name, Cond.static Lib.Math.max.name, Cond.initialized "java/lang/Math", Cond.code Lib.Math.max.name Lib.Math.max.code 2 (some .int), Cond.methodLink RX4 66 yX4_isIn]
def wsX4_fittingRows_r2 : List Cond := [Cond.instanceMethod yX4_isIn, Cond.selects RX4 yX4_isIn yX4_isIn, Cond.code yX4_isIn cX4_isIn 3 (some .boolean), Cond.methodLink RX4 70 yJ6_bitCount_0f7a4, Cond.static yJ6_bitCount_0f7a4, Cond.initialized RJ6, Cond.code yJ6_bitCount_0f7a4 cJ6_bitCount_0f7a4 1 (some .int), Cond.constant RJ6 265 (1431655765), Cond.constant RJ6 266 (858993459), Cond.constant RJ6 267 (252645135), Cond.methodLink RX4 51 yX4_greatestFor, Cond.instanceMethod yX4_greatestFor, Cond.selects RX4 yX4_greatestFor yX4_greatestFor, Cond.code yX4_greatestFor cX4_greatestFor 4 (some .int), Cond.methodLink RX4 81 Lib.Math.min.name, Cond.static Lib.Math.min.name, Cond.code Lib.Math.min.name Lib.Math.min.code 2 (some .int), Cond.methodLink RX4 54 yX4_anySearched, Cond.instanceMethod yX4_anySearched, Cond.selects RX4 yX4_anySearched yX4_anySearched, Cond.code yX4_anySearched cX4_anySearched 3 (some .boolean), Cond.methodLink RX4 58 yX4_noted, Cond.instanceMethod yX4_noted, Cond.selects RX4 yX4_noted yX4_noted]
def wsX4_fittingRows_r3 : List Cond := [Cond.code yX4_noted cX4_noted 5 (some .int), Cond.methodLink RX4 62 yX4_give, Cond.instanceMethod yX4_give, Cond.selects RX4 yX4_give yX4_give, Cond.code yX4_give cX4_give 4 none]
def wsX4_fittingRows : List Cond := .code yX4_fittingRows cX4_fittingRows 1 (some .int) :: ((wsX4_fittingRows_r1 ++ (wsX4_fittingRows_r2 ++ wsX4_fittingRows_r3)) ++ wsX40)
def wsX5_init : List Cond := .code yX5_init cX5_init 1 none :: ([.methodLink RX5 1 objectInit, .instanceMethod objectInit, .code objectInit ⟨#[0xb1]⟩ 1 none, .arrayClass .int, .fieldLink RX5 11 "LightestRules$Slots" "kept" "[I", .fieldLink RX5 15 "LightestRules$Slots" "filledBits" "I"] ++ wsX50)
def wsX5_isSlot : List Cond := .code yX5_isSlot cX5_isSlot 1 (some .boolean) :: ([])
def wsX5_clear : List Cond := .code yX5_clear cX5_clear 1 none :: ([.fieldLink RX5 15 "LightestRules$Slots" "filledBits" "I"] ++ wsX50)
def wsX5_holds : List Cond := .code yX5_holds cX5_holds 2 (some .boolean) :: ([.fieldLink RX5 15 "LightestRules$Slots" "filledBits" "I", .methodLink RX5 19 yX5_isSlot, .static yX5_isSlot, .initialized RX5, .code yX5_isSlot cX5_isSlot 1 (some .boolean)] ++ wsX50)
def wsX5_put : List Cond := .code yX5_put cX5_put 3 none :: ([.fieldLink RX5 11 "LightestRules$Slots" "kept" "[I", .fieldLink RX5 15 "LightestRules$Slots" "filledBits" "I", .methodLink RX5 19 yX5_isSlot, .static yX5_isSlot, .initialized RX5, .code yX5_isSlot cX5_isSlot 1 (some .boolean), .methodLink RX5 23 yX2_copyTo, .instanceMethod yX2_copyTo, .selects RX2 yX2_copyTo yX2_copyTo, .initialized RX2, .code yX2_copyTo cX2_copyTo 3 none, .fieldLink RX2 11 "LightestRules$People" "cells" "[I", .methodLink RX2 54 arraycopyName, .native arraycopyName, .static arraycopyName, .initialized "java/lang/System"] ++ wsX50 ++ wsX20)
def wsX5_bring : List Cond := .code yX5_bring cX5_bring 3 none :: ([.fieldLink RX5 11 "LightestRules$Slots" "kept" "[I", .methodLink RX5 27 yX5_holds, .instanceMethod yX5_holds, .selects RX5 yX5_holds yX5_holds, .initialized RX5, .code yX5_holds cX5_holds 2 (some .boolean), .fieldLink RX5 15 "LightestRules$Slots" "filledBits" "I", .methodLink RX5 19 yX5_isSlot, .static yX5_isSlot, .code yX5_isSlot cX5_isSlot 1 (some .boolean), .methodLink RX5 30 yX2_copyFrom, .instanceMethod yX2_copyFrom, .selects RX2 yX2_copyFrom yX2_copyFrom, .initialized RX2, .code yX2_copyFrom cX2_copyFrom 3 none, .fieldLink RX2 11 "LightestRules$People" "cells" "[I", .methodLink RX2 54 arraycopyName, .native arraycopyName, .static arraycopyName, .initialized "java/lang/System"] ++ wsX50 ++ wsX20)
def wsX6_init : List Cond := .code yX6_init cX6_init 1 none :: ([.methodLink RX6 3 objectInit, .instanceMethod objectInit, .code objectInit ⟨#[0xb1]⟩ 1 none, .arrayClass .int, .fieldLink RX6 9 "LightestRules$Weighings" "lefts" "[I", .fieldLink RX6 13 "LightestRules$Weighings" "rights" "[I", .fieldLink RX6 16 "LightestRules$Weighings" "results" "[I", .fieldLink RX6 19 "LightestRules$Weighings" "length" "I"] ++ wsX60)
def wsX6_mayStand : List Cond := .code yX6_mayStand cX6_mayStand 3 (some .boolean) :: ([.methodLink RX6 23 yJ6_bitCount_0f7a4, .static yJ6_bitCount_0f7a4, .initialized RJ6, .code yJ6_bitCount_0f7a4 cJ6_bitCount_0f7a4 1 (some .int), .constant RJ6 265 (1431655765), .constant RJ6 266 (858993459), .constant RJ6 267 (252645135)])
def wsX6_length : List Cond := .code yX6_length cX6_length 1 (some .int) :: ([.fieldLink RX6 19 "LightestRules$Weighings" "length" "I"] ++ wsX60)
def wsX6_clear : List Cond := .code yX6_clear cX6_clear 1 none :: ([.fieldLink RX6 19 "LightestRules$Weighings" "length" "I"] ++ wsX60)
def wsX6_append : List Cond := .code yX6_append cX6_append 4 (some .boolean) :: ([.fieldLink RX6 19 "LightestRules$Weighings" "length" "I", .fieldLink RX6 9 "LightestRules$Weighings" "lefts" "[I", .fieldLink RX6 13 "LightestRules$Weighings" "rights" "[I", .fieldLink RX6 16 "LightestRules$Weighings" "results" "[I"] ++ wsX60)
def wsX6_suspectsBy : List Cond := .code yX6_suspectsBy cX6_suspectsBy 4 (some .int) :: ([.fieldLink RX6 16 "LightestRules$Weighings" "results" "[I", .fieldLink RX6 9 "LightestRules$Weighings" "lefts" "[I", .fieldLink RX6 13 "LightestRules$Weighings" "rights" "[I"] ++ wsX60)
def wsX6_suspects : List Cond := .code yX6_suspects cX6_suspects 4 (some .int) :: ([.fieldLink RX6 19 "LightestRules$Weighings" "length" "I", .methodLink RX6 29 yX6_suspectsBy, .instanceMethod yX6_suspectsBy, .selects RX6 yX6_suspectsBy yX6_suspectsBy, .initialized RX6, .code yX6_suspectsBy cX6_suspectsBy 4 (some .int), .fieldLink RX6 16 "LightestRules$Weighings" "results" "[I", .fieldLink RX6 9 "LightestRules$Weighings" "lefts" "[I", .fieldLink RX6 13 "LightestRules$Weighings" "rights" "[I"] ++ wsX60)
def wsX7_init : List Cond := .code yX7_init cX7_init 1 none :: ([.methodLink RX7 1 objectInit, .instanceMethod objectInit, .code objectInit ⟨#[0xb1]⟩ 1 none, .classLink RX7 7 RX2, .instantiable RX2 4, .initialized RX2, .fieldLink RX7 10 "LightestRules$Year" "lookalikes" "LLightestRules$People;", .fieldLink RX7 16 "LightestRules$Year" "grown" "J", .methodLink RX7 9 yX2_init, .instanceMethod yX2_init, .code yX2_init cX2_init 1 none, .methodLink RX2 5 objectInit, .arrayClass .int, .fieldLink RX2 11 "LightestRules$People" "cells" "[I", .fieldLink RX2 15 "LightestRules$People" "size" "I", .fieldLink RX2 19 "LightestRules$People" "burn" "I", .fieldLink RX2 22 "LightestRules$People" "ill" "I"] ++ wsX20 ++ wsX70)
def wsX7_sow : List Cond := .code yX7_sow cX7_sow 5 (some .long) :: ([.fieldLink RX7 16 "LightestRules$Year" "grown" "J"] ++ wsX70)
def wsX7_nextOunces : List Cond := .code yX7_nextOunces cX7_nextOunces 2 (some .int) :: ([.fieldLink RX7 16 "LightestRules$Year" "grown" "J", .constantLong RX7 39 (6364136223846793005), .constantLong RX7 41 (1442695040888963407)] ++ wsX70)
def wsX7_monthsOf_r1 : List Cond := [Cond.fieldLink RX7 10 "LightestRules$Year" "lookalikes" "LLightestRules$People;", Cond.methodLink RX7 20 yX2_becomeLike, Cond.instanceMethod yX2_becomeLike, Cond.selects RX2 yX2_becomeLike yX2_becomeLike, Cond.initialized RX2, Cond.code yX2_becomeLike cX2_becomeLike 2 none, Cond.fieldLink RX2 11 "LightestRules$People" "cells" "[I", Cond.methodLink RX2 54 arraycopyName, Cond.native arraycopyName, Cond.static arraycopyName, Cond.initialized "java/lang/System", Cond.fieldLink RX2 15 "LightestRules$People" "size" "I", Cond.fieldLink RX2 19 "LightestRules$People" "burn" "I", Cond.fieldLink RX2 22 "LightestRules$People" "ill" "I", Cond.methodLink RX7 24 yX2_size, Cond.instanceMethod yX2_size, Cond.selects RX2 yX2_size yX2_size, Cond.code yX2_size cX2_size 1 (some .int), Cond.methodLink RX7 28 yX7_nextOunces, Cond.instanceMethod yX7_nextOunces, Cond.selects RX7 yX7_nextOunces yX7_nextOunces, Cond.initialized RX7, Cond.code yX7_nextOunces cX7_nextOunces 2 (some .int), Cond.fieldLink RX7 16 "LightestRules$Year" "grown" "J"]
def wsX7_monthsOf_r2 : List Cond := [Cond.constantLong RX7 39 (6364136223846793005), Cond.constantLong RX7 41 (1442695040888963407), Cond.methodLink RX7 31 yX2_gain, Cond.instanceMethod yX2_gain, Cond.selects RX2 yX2_gain yX2_gain, Cond.code yX2_gain cX2_gain 4 (some .int), Cond.methodLink RX2 63 Lib.Math.max.name, Cond.static Lib.Math.max.name, Cond.initialized "java/lang/Math", Cond.code Lib.Math.max.name Lib.Math.max.code 2 (some .int), Cond.methodLink RX2 60 yX2_get, Cond.instanceMethod yX2_get, Cond.selects RX2 yX2_get yX2_get, Cond.code yX2_get cX2_get 4 (some .int), Cond.methodLink RX2 50 yX2_add, Cond.instanceMethod yX2_add, Cond.selects RX2 yX2_add yX2_add, Cond.code yX2_add cX2_add 5 none, Cond.methodLink RX7 35 yX2_crownedBy, Cond.instanceMethod yX2_crownedBy, Cond.selects RX2 yX2_crownedBy yX2_crownedBy, Cond.code yX2_crownedBy cX2_crownedBy 3 (some .int), Cond.methodLink RX2 76 yX2_illBits, Cond.instanceMethod yX2_illBits]
def wsX7_monthsOf_r3 : List Cond := [Cond.selects RX2 yX2_illBits yX2_illBits, Cond.code yX2_illBits cX2_illBits 3 (some .int), Cond.methodLink RX2 72 yX2_isIll, Cond.instanceMethod yX2_isIll, Cond.selects RX2 yX2_isIll yX2_isIll, Cond.code yX2_isIll cX2_isIll 2 (some .boolean), Cond.methodLink RX2 79 yX2_lightestBut, Cond.instanceMethod yX2_lightestBut, Cond.selects RX2 yX2_lightestBut yX2_lightestBut, Cond.code yX2_lightestBut cX2_lightestBut 5 (some .int), Cond.methodLink RX2 82 yX2_noonWeight, Cond.instanceMethod yX2_noonWeight, Cond.selects RX2 yX2_noonWeight yX2_noonWeight, Cond.code yX2_noonWeight cX2_noonWeight 2 (some .int), Cond.methodLink RX2 69 yX2_pocketWeight, Cond.instanceMethod yX2_pocketWeight, Cond.selects RX2 yX2_pocketWeight yX2_pocketWeight, Cond.code yX2_pocketWeight cX2_pocketWeight 2 (some .int)]
def wsX7_monthsOf : List Cond := .code yX7_monthsOf cX7_monthsOf 7 (some .int) :: ((wsX7_monthsOf_r1 ++ (wsX7_monthsOf_r2 ++ wsX7_monthsOf_r3)) ++ wsX70 ++ wsX20)
def wsX8_init_r1 : List Cond := [Cond.methodLink RX8 1 objectInit, Cond.instanceMethod objectInit, Cond.code objectInit ⟨#[0xb1]⟩ 1 none, Cond.classLink RX8 7 RX1, Cond.instantiable RX1 2, Cond.initialized RX1, Cond.fieldLink RX8 10 "LightestRules" "text" "LLightestRules$LandText;", Cond.classLink RX8 16 RX2, Cond.instantiable RX2 4, Cond.initialized RX2, Cond.fieldLink RX8 19 "LightestRules" "folk" "LLightestRules$People;", Cond.classLink RX8 23 RX0, Cond.instantiable RX0 3, Cond.initialized RX0, Cond.fieldLink RX8 26 "LightestRules" "acts" "LLightestRules$ActRow;", Cond.classLink RX8 30 RX5, Cond.instantiable RX5 2, Cond.initialized RX5, Cond.fieldLink RX8 33 "LightestRules" "slots" "LLightestRules$Slots;", Cond.classLink RX8 37 RX6, Cond.instantiable RX6 4, Cond.initialized RX6, Cond.fieldLink RX8 40 "LightestRules" "weighings" "LLightestRules$Weighings;", Cond.classLink RX8 44 RX4]
def wsX8_init_r2 : List Cond := [Cond.instantiable RX4 7, Cond.initialized RX4, Cond.fieldLink RX8 47 "LightestRules" "searches" "LLightestRules$Searches;", Cond.classLink RX8 51 RX3, Cond.instantiable RX3 4, Cond.initialized RX3, Cond.fieldLink RX8 54 "LightestRules" "told" "LLightestRules$RulersLine;", Cond.classLink RX8 58 RX7, Cond.instantiable RX7 2, Cond.initialized RX7, Cond.fieldLink RX8 61 "LightestRules" "year" "LLightestRules$Year;", Cond.fieldLink RX8 65 "LightestRules" "lawNow" "I", Cond.methodLink RX8 9 yX1_init, Cond.instanceMethod yX1_init, Cond.code yX1_init cX1_init 1 none, Cond.methodLink RX1 3 objectInit, Cond.arrayClass .int, Cond.fieldLink RX1 11 "LightestRules$LandText" "bytes" "[I", Cond.fieldLink RX1 15 "LightestRules$LandText" "length" "I", Cond.methodLink RX8 18 yX2_init, Cond.instanceMethod yX2_init, Cond.code yX2_init cX2_init 1 none, Cond.methodLink RX2 5 objectInit, Cond.fieldLink RX2 11 "LightestRules$People" "cells" "[I"]
def wsX8_init_r3 : List Cond := [Cond.fieldLink RX2 15 "LightestRules$People" "size" "I", Cond.fieldLink RX2 19 "LightestRules$People" "burn" "I", Cond.fieldLink RX2 22 "LightestRules$People" "ill" "I", Cond.methodLink RX8 25 yX0_init, Cond.instanceMethod yX0_init, Cond.code yX0_init cX0_init 1 none, Cond.methodLink RX0 1 objectInit, Cond.fieldLink RX0 11 "LightestRules$ActRow" "before" "[I", Cond.fieldLink RX0 15 "LightestRules$ActRow" "first" "I", Cond.fieldLink RX0 19 "LightestRules$ActRow" "length" "I", Cond.methodLink RX8 32 yX5_init, Cond.instanceMethod yX5_init, Cond.code yX5_init cX5_init 1 none, Cond.methodLink RX5 1 objectInit, Cond.fieldLink RX5 11 "LightestRules$Slots" "kept" "[I", Cond.fieldLink RX5 15 "LightestRules$Slots" "filledBits" "I", Cond.methodLink RX8 39 yX6_init, Cond.instanceMethod yX6_init, Cond.code yX6_init cX6_init 1 none, Cond.methodLink RX6 3 objectInit, Cond.fieldLink RX6 9 "LightestRules$Weighings" "lefts" "[I", Cond.fieldLink RX6 13 "LightestRules$Weighings" "rights" "[I", Cond.fieldLink RX6 16 "LightestRules$Weighings" "results" "[I", Cond.fieldLink RX6 19 "LightestRules$Weighings" "length" "I"]
def wsX8_init_r4 : List Cond := [Cond.methodLink RX8 46 yX4_init, Cond.instanceMethod yX4_init, Cond.code yX4_init cX4_init 1 none, Cond.methodLink RX4 3 objectInit, Cond.fieldLink RX4 11 "LightestRules$Searches" "searched" "[I", Cond.fieldLink RX4 15 "LightestRules$Searches" "missing" "[I", Cond.fieldLink RX4 20 "LightestRules$Searches" "least" "[I", Cond.fieldLink RX4 23 "LightestRules$Searches" "most" "[I", Cond.fieldLink RX4 26 "LightestRules$Searches" "length" "I", Cond.fieldLink RX4 30 "LightestRules$Searches" "found" "I", Cond.fieldLink RX4 33 "LightestRules$Searches" "fresh" "Z", Cond.methodLink RX8 53 yX3_init, Cond.instanceMethod yX3_init, Cond.code yX3_init cX3_init 1 none, Cond.methodLink RX3 5 objectInit, Cond.fieldLink RX3 11 "LightestRules$RulersLine" "rulers" "[I", Cond.fieldLink RX3 15 "LightestRules$RulersLine" "weights" "[I", Cond.arrayClass .long, Cond.fieldLink RX3 18 "LightestRules$RulersLine" "ways" "[J", Cond.fieldLink RX3 22 "LightestRules$RulersLine" "length" "I", Cond.methodLink RX8 60 yX7_init, Cond.instanceMethod yX7_init, Cond.code yX7_init cX7_init 1 none, Cond.methodLink RX7 1 objectInit]
def wsX8_init_r5 : List Cond := [Cond.classLink RX7 7 RX2, Cond.fieldLink RX7 10 "LightestRules$Year" "lookalikes" "LLightestRules$People;", Cond.fieldLink RX7 16 "LightestRules$Year" "grown" "J", Cond.methodLink RX7 9 yX2_init]
def wsX8_init : List Cond := .code yX8_init cX8_init 1 none :: ((wsX8_init_r1 ++ (wsX8_init_r2 ++ (wsX8_init_r3 ++ (wsX8_init_r4 ++ wsX8_init_r5)))) ++ wsX10 ++ wsX80 ++ wsX20 ++ wsX00 ++ wsX50 ++ wsX60 ++ wsX40 ++ wsX30 ++ wsX70)
def wsX8_write : List Cond := .code yX8_write cX8_write 4 (some .int) :: ([.fieldLink RX8 10 "LightestRules" "text" "LLightestRules$LandText;", .methodLink RX8 69 yX1_append, .instanceMethod yX1_append, .selects RX1 yX1_append yX1_append, .initialized RX1, .code yX1_append cX1_append 5 (some .boolean), .fieldLink RX1 15 "LightestRules$LandText" "length" "I", .fieldLink RX1 11 "LightestRules$LandText" "bytes" "[I", .methodLink RX8 73 yX1_length, .instanceMethod yX1_length, .selects RX1 yX1_length yX1_length, .code yX1_length cX1_length 1 (some .int)] ++ wsX80 ++ wsX10)
def wsX8_wipe : List Cond := .code yX8_wipe cX8_wipe 2 (some .int) :: ([.fieldLink RX8 10 "LightestRules" "text" "LLightestRules$LandText;", .methodLink RX8 73 yX1_length, .instanceMethod yX1_length, .selects RX1 yX1_length yX1_length, .initialized RX1, .code yX1_length cX1_length 1 (some .int), .fieldLink RX1 15 "LightestRules$LandText" "length" "I", .methodLink RX8 77 yX1_clear, .instanceMethod yX1_clear, .selects RX1 yX1_clear yX1_clear, .code yX1_clear cX1_clear 1 none] ++ wsX80 ++ wsX10)
def wsX8_fault : List Cond := .code yX8_fault cX8_fault 1 (some .int) :: ([.fieldLink RX8 10 "LightestRules" "text" "LLightestRules$LandText;", .methodLink RX8 80 yX1_firstFault, .instanceMethod yX1_firstFault, .selects RX1 yX1_firstFault yX1_firstFault, .initialized RX1, .code yX1_firstFault cX1_firstFault 2 (some .int), .fieldLink RX1 15 "LightestRules$LandText" "length" "I", .fieldLink RX1 11 "LightestRules$LandText" "bytes" "[I", .methodLink RX1 19 yX1_mayStandAt, .static yX1_mayStandAt, .code yX1_mayStandAt cX1_mayStandAt 3 (some .boolean)] ++ wsX80 ++ wsX10)
def wsX8_land_r1 : List Cond := [Cond.fieldLink RX8 10 "LightestRules" "text" "LLightestRules$LandText;", Cond.fieldLink RX8 65 "LightestRules" "lawNow" "I", Cond.fieldLink RX8 19 "LightestRules" "folk" "LLightestRules$People;", Cond.fieldLink RX8 26 "LightestRules" "acts" "LLightestRules$ActRow;", Cond.fieldLink RX8 33 "LightestRules" "slots" "LLightestRules$Slots;", Cond.methodLink RX8 80 yX1_firstFault, Cond.instanceMethod yX1_firstFault, Cond.selects RX1 yX1_firstFault yX1_firstFault, Cond.initialized RX1, Cond.code yX1_firstFault cX1_firstFault 2 (some .int), Cond.fieldLink RX1 15 "LightestRules$LandText" "length" "I", Cond.fieldLink RX1 11 "LightestRules$LandText" "bytes" "[I", Cond.methodLink RX1 19 yX1_mayStandAt, Cond.static yX1_mayStandAt, Cond.code yX1_mayStandAt cX1_mayStandAt 3 (some .boolean), Cond.methodLink RX8 83 yX1_figure, Cond.instanceMethod yX1_figure, Cond.selects RX1 yX1_figure yX1_figure, Cond.code yX1_figure cX1_figure 2 (some .int), Cond.methodLink RX8 87 yX2_settle, Cond.instanceMethod yX2_settle, Cond.selects RX2 yX2_settle yX2_settle, Cond.initialized RX2, Cond.code yX2_settle cX2_settle 3 none]
def wsX8_land_r2 : List Cond := [Cond.fieldLink RX2 11 "LightestRules$People" "cells" "[I", Cond.fieldLink RX2 19 "LightestRules$People" "burn" "I", Cond.fieldLink RX2 22 "LightestRules$People" "ill" "I", Cond.methodLink RX2 41 Lib.Math.min.name, Cond.static Lib.Math.min.name, Cond.initialized "java/lang/Math", Cond.code Lib.Math.min.name Lib.Math.min.code 2 (some .int), Cond.fieldLink RX2 15 "LightestRules$People" "size" "I", Cond.methodLink RX2 25 yJ7_fill_53178, Cond.static yJ7_fill_53178, Cond.initialized RJ7, Cond.code yJ7_fill_53178 cJ7_fill_53178 4 none, Cond.methodLink RX2 31 yX1_figure, Cond.methodLink RX2 37 yX1_parts, Cond.instanceMethod yX1_parts, Cond.selects RX1 yX1_parts yX1_parts, Cond.code yX1_parts cX1_parts 1 (some .int), Cond.methodLink RX2 47 yX1_partFigure, Cond.instanceMethod yX1_partFigure, Cond.selects RX1 yX1_partFigure yX1_partFigure, Cond.code yX1_partFigure cX1_partFigure 3 (some .int), Cond.methodLink RX1 25 yX1_figure, Cond.methodLink RX2 50 yX2_add, Cond.instanceMethod yX2_add]
def wsX8_land_r3 : List Cond := [Cond.selects RX2 yX2_add yX2_add, Cond.code yX2_add cX2_add 5 none, Cond.methodLink RX8 91 yX0_clear, Cond.instanceMethod yX0_clear, Cond.selects RX0 yX0_clear yX0_clear, Cond.initialized RX0, Cond.code yX0_clear cX0_clear 1 none, Cond.fieldLink RX0 19 "LightestRules$ActRow" "length" "I", Cond.methodLink RX8 92 yX5_clear, Cond.instanceMethod yX5_clear, Cond.selects RX5 yX5_clear yX5_clear, Cond.initialized RX5, Cond.code yX5_clear cX5_clear 1 none, Cond.fieldLink RX5 15 "LightestRules$Slots" "filledBits" "I", Cond.methodLink RX8 93 yX2_size, Cond.instanceMethod yX2_size, Cond.selects RX2 yX2_size yX2_size, Cond.code yX2_size cX2_size 1 (some .int)]
def wsX8_land : List Cond := .code yX8_land cX8_land 1 (some .int) :: ((wsX8_land_r1 ++ (wsX8_land_r2 ++ wsX8_land_r3)) ++ wsX80 ++ wsX10 ++ wsX20 ++ wsX00 ++ wsX50)
def wsX8_person_r1 : List Cond := [Cond.fieldLink RX8 19 "LightestRules" "folk" "LLightestRules$People;", Cond.methodLink RX8 96 yX2_has, Cond.instanceMethod yX2_has, Cond.selects RX2 yX2_has yX2_has, Cond.initialized RX2, Cond.code yX2_has cX2_has 2 (some .boolean), Cond.fieldLink RX2 15 "LightestRules$People" "size" "I", Cond.methodLink RX8 100 yX2_get, Cond.instanceMethod yX2_get, Cond.selects RX2 yX2_get yX2_get, Cond.code yX2_get cX2_get 4 (some .int), Cond.fieldLink RX2 11 "LightestRules$People" "cells" "[I", Cond.methodLink RX8 104 yX2_noonWeight, Cond.instanceMethod yX2_noonWeight, Cond.selects RX2 yX2_noonWeight yX2_noonWeight, Cond.code yX2_noonWeight cX2_noonWeight 2 (some .int), Cond.methodLink RX2 60 yX2_get, Cond.methodLink RX2 69 yX2_pocketWeight, Cond.instanceMethod yX2_pocketWeight, Cond.selects RX2 yX2_pocketWeight yX2_pocketWeight, Cond.code yX2_pocketWeight cX2_pocketWeight 2 (some .int), Cond.methodLink RX8 107 yX2_isIll, Cond.instanceMethod yX2_isIll, Cond.selects RX2 yX2_isIll yX2_isIll]
def wsX8_person_r2 : List Cond := [Cond.code yX2_isIll cX2_isIll 2 (some .boolean), Cond.fieldLink RX2 22 "LightestRules$People" "ill" "I"]
def wsX8_person : List Cond := .code yX8_person cX8_person 3 (some .int) :: ((wsX8_person_r1 ++ wsX8_person_r2) ++ wsX80 ++ wsX20)
def wsX8_isLaw : List Cond := .code yX8_isLaw cX8_isLaw 1 (some .boolean) :: ([])
def wsX8_law : List Cond := .code yX8_law cX8_law 3 (some .int) :: ([.fieldLink RX8 65 "LightestRules" "lawNow" "I", .methodLink RX8 110 yX8_isLaw, .static yX8_isLaw, .initialized RX8, .code yX8_isLaw cX8_isLaw 1 (some .boolean)] ++ wsX80)
def wsX8_refusalOf : List Cond := .code yX8_refusalOf cX8_refusalOf 3 (some .int) :: ([.fieldLink RX8 19 "LightestRules" "folk" "LLightestRules$People;", .methodLink RX8 96 yX2_has, .instanceMethod yX2_has, .selects RX2 yX2_has yX2_has, .initialized RX2, .code yX2_has cX2_has 2 (some .boolean), .fieldLink RX2 15 "LightestRules$People" "size" "I"] ++ wsX80 ++ wsX20)
def wsX8_eat_r1 : List Cond := [Cond.fieldLink RX8 19 "LightestRules" "folk" "LLightestRules$People;", Cond.fieldLink RX8 26 "LightestRules" "acts" "LLightestRules$ActRow;", Cond.methodLink RX8 113 yX8_refusalOf, Cond.instanceMethod yX8_refusalOf, Cond.selects RX8 yX8_refusalOf yX8_refusalOf, Cond.initialized RX8, Cond.code yX8_refusalOf cX8_refusalOf 3 (some .int), Cond.methodLink RX8 96 yX2_has, Cond.instanceMethod yX2_has, Cond.selects RX2 yX2_has yX2_has, Cond.initialized RX2, Cond.code yX2_has cX2_has 2 (some .boolean), Cond.fieldLink RX2 15 "LightestRules$People" "size" "I", Cond.methodLink RX8 100 yX2_get, Cond.instanceMethod yX2_get, Cond.selects RX2 yX2_get yX2_get, Cond.code yX2_get cX2_get 4 (some .int), Cond.fieldLink RX2 11 "LightestRules$People" "cells" "[I", Cond.methodLink RX8 116 yX0_remember, Cond.instanceMethod yX0_remember, Cond.selects RX0 yX0_remember yX0_remember, Cond.initialized RX0, Cond.code yX0_remember cX0_remember 2 none, Cond.fieldLink RX0 19 "LightestRules$ActRow" "length" "I"]
def wsX8_eat_r2 : List Cond := [Cond.fieldLink RX0 15 "LightestRules$ActRow" "first" "I", Cond.fieldLink RX0 11 "LightestRules$ActRow" "before" "[I", Cond.methodLink RX0 22 yX2_copyTo, Cond.instanceMethod yX2_copyTo, Cond.selects RX2 yX2_copyTo yX2_copyTo, Cond.code yX2_copyTo cX2_copyTo 3 none, Cond.methodLink RX2 54 arraycopyName, Cond.native arraycopyName, Cond.static arraycopyName, Cond.initialized "java/lang/System", Cond.methodLink RX8 120 yX2_add, Cond.instanceMethod yX2_add, Cond.selects RX2 yX2_add yX2_add, Cond.code yX2_add cX2_add 5 none, Cond.methodLink RX8 124 yX2_gain, Cond.instanceMethod yX2_gain, Cond.selects RX2 yX2_gain yX2_gain, Cond.code yX2_gain cX2_gain 4 (some .int), Cond.methodLink RX2 63 Lib.Math.max.name, Cond.static Lib.Math.max.name, Cond.initialized "java/lang/Math", Cond.code Lib.Math.max.name Lib.Math.max.code 2 (some .int), Cond.methodLink RX2 60 yX2_get, Cond.methodLink RX2 50 yX2_add]
def wsX8_eat : List Cond := .code yX8_eat cX8_eat 4 (some .int) :: ((wsX8_eat_r1 ++ wsX8_eat_r2) ++ wsX80 ++ wsX20 ++ wsX00)
def wsX8_toil_r1 : List Cond := [Cond.fieldLink RX8 26 "LightestRules" "acts" "LLightestRules$ActRow;", Cond.fieldLink RX8 19 "LightestRules" "folk" "LLightestRules$People;", Cond.methodLink RX8 113 yX8_refusalOf, Cond.instanceMethod yX8_refusalOf, Cond.selects RX8 yX8_refusalOf yX8_refusalOf, Cond.initialized RX8, Cond.code yX8_refusalOf cX8_refusalOf 3 (some .int), Cond.methodLink RX8 96 yX2_has, Cond.instanceMethod yX2_has, Cond.selects RX2 yX2_has yX2_has, Cond.initialized RX2, Cond.code yX2_has cX2_has 2 (some .boolean), Cond.fieldLink RX2 15 "LightestRules$People" "size" "I", Cond.methodLink RX8 116 yX0_remember, Cond.instanceMethod yX0_remember, Cond.selects RX0 yX0_remember yX0_remember, Cond.initialized RX0, Cond.code yX0_remember cX0_remember 2 none, Cond.fieldLink RX0 19 "LightestRules$ActRow" "length" "I", Cond.fieldLink RX0 15 "LightestRules$ActRow" "first" "I", Cond.fieldLink RX0 11 "LightestRules$ActRow" "before" "[I", Cond.methodLink RX0 22 yX2_copyTo, Cond.instanceMethod yX2_copyTo, Cond.selects RX2 yX2_copyTo yX2_copyTo]
def wsX8_toil_r2 : List Cond := [Cond.code yX2_copyTo cX2_copyTo 3 none, Cond.fieldLink RX2 11 "LightestRules$People" "cells" "[I", Cond.methodLink RX2 54 arraycopyName, Cond.native arraycopyName, Cond.static arraycopyName, Cond.initialized "java/lang/System", Cond.methodLink RX8 124 yX2_gain, Cond.instanceMethod yX2_gain, Cond.selects RX2 yX2_gain yX2_gain, Cond.code yX2_gain cX2_gain 4 (some .int), Cond.methodLink RX2 63 Lib.Math.max.name, Cond.static Lib.Math.max.name, Cond.initialized "java/lang/Math", Cond.code Lib.Math.max.name Lib.Math.max.code 2 (some .int), Cond.methodLink RX2 60 yX2_get, Cond.instanceMethod yX2_get, Cond.selects RX2 yX2_get yX2_get, Cond.code yX2_get cX2_get 4 (some .int), Cond.methodLink RX2 50 yX2_add, Cond.instanceMethod yX2_add, Cond.selects RX2 yX2_add yX2_add, Cond.code yX2_add cX2_add 5 none]
def wsX8_toil : List Cond := .code yX8_toil cX8_toil 4 (some .int) :: ((wsX8_toil_r1 ++ wsX8_toil_r2) ++ wsX80 ++ wsX20 ++ wsX00)
def wsX8_drink_r1 : List Cond := [Cond.fieldLink RX8 19 "LightestRules" "folk" "LLightestRules$People;", Cond.fieldLink RX8 26 "LightestRules" "acts" "LLightestRules$ActRow;", Cond.methodLink RX8 113 yX8_refusalOf, Cond.instanceMethod yX8_refusalOf, Cond.selects RX8 yX8_refusalOf yX8_refusalOf, Cond.initialized RX8, Cond.code yX8_refusalOf cX8_refusalOf 3 (some .int), Cond.methodLink RX8 96 yX2_has, Cond.instanceMethod yX2_has, Cond.selects RX2 yX2_has yX2_has, Cond.initialized RX2, Cond.code yX2_has cX2_has 2 (some .boolean), Cond.fieldLink RX2 15 "LightestRules$People" "size" "I", Cond.methodLink RX8 100 yX2_get, Cond.instanceMethod yX2_get, Cond.selects RX2 yX2_get yX2_get, Cond.code yX2_get cX2_get 4 (some .int), Cond.fieldLink RX2 11 "LightestRules$People" "cells" "[I", Cond.methodLink RX8 116 yX0_remember, Cond.instanceMethod yX0_remember, Cond.selects RX0 yX0_remember yX0_remember, Cond.initialized RX0, Cond.code yX0_remember cX0_remember 2 none, Cond.fieldLink RX0 19 "LightestRules$ActRow" "length" "I"]
def wsX8_drink_r2 : List Cond := [Cond.fieldLink RX0 15 "LightestRules$ActRow" "first" "I", Cond.fieldLink RX0 11 "LightestRules$ActRow" "before" "[I", Cond.methodLink RX0 22 yX2_copyTo, Cond.instanceMethod yX2_copyTo, Cond.selects RX2 yX2_copyTo yX2_copyTo, Cond.code yX2_copyTo cX2_copyTo 3 none, Cond.methodLink RX2 54 arraycopyName, Cond.native arraycopyName, Cond.static arraycopyName, Cond.initialized "java/lang/System", Cond.methodLink RX8 120 yX2_add, Cond.instanceMethod yX2_add, Cond.selects RX2 yX2_add yX2_add, Cond.code yX2_add cX2_add 5 none, Cond.methodLink RX8 124 yX2_gain, Cond.instanceMethod yX2_gain, Cond.selects RX2 yX2_gain yX2_gain, Cond.code yX2_gain cX2_gain 4 (some .int), Cond.methodLink RX2 63 Lib.Math.max.name, Cond.static Lib.Math.max.name, Cond.initialized "java/lang/Math", Cond.code Lib.Math.max.name Lib.Math.max.code 2 (some .int), Cond.methodLink RX2 60 yX2_get, Cond.methodLink RX2 50 yX2_add]
def wsX8_drink : List Cond := .code yX8_drink cX8_drink 5 (some .int) :: ((wsX8_drink_r1 ++ wsX8_drink_r2) ++ wsX80 ++ wsX20 ++ wsX00)
def wsX8_hand_r1 : List Cond := [Cond.fieldLink RX8 19 "LightestRules" "folk" "LLightestRules$People;", Cond.fieldLink RX8 26 "LightestRules" "acts" "LLightestRules$ActRow;", Cond.methodLink RX8 96 yX2_has, Cond.instanceMethod yX2_has, Cond.selects RX2 yX2_has yX2_has, Cond.initialized RX2, Cond.code yX2_has cX2_has 2 (some .boolean), Cond.fieldLink RX2 15 "LightestRules$People" "size" "I", Cond.methodLink RX8 100 yX2_get, Cond.instanceMethod yX2_get, Cond.selects RX2 yX2_get yX2_get, Cond.code yX2_get cX2_get 4 (some .int), Cond.fieldLink RX2 11 "LightestRules$People" "cells" "[I", Cond.methodLink RX8 116 yX0_remember, Cond.instanceMethod yX0_remember, Cond.selects RX0 yX0_remember yX0_remember, Cond.initialized RX0, Cond.code yX0_remember cX0_remember 2 none, Cond.fieldLink RX0 19 "LightestRules$ActRow" "length" "I", Cond.fieldLink RX0 15 "LightestRules$ActRow" "first" "I", Cond.fieldLink RX0 11 "LightestRules$ActRow" "before" "[I", Cond.methodLink RX0 22 yX2_copyTo, Cond.instanceMethod yX2_copyTo, Cond.selects RX2 yX2_copyTo yX2_copyTo]
def wsX8_hand_r2 : List Cond := [Cond.code yX2_copyTo cX2_copyTo 3 none, Cond.methodLink RX2 54 arraycopyName, Cond.native arraycopyName, Cond.static arraycopyName, Cond.initialized "java/lang/System", Cond.methodLink RX8 120 yX2_add, Cond.instanceMethod yX2_add, Cond.selects RX2 yX2_add yX2_add, Cond.code yX2_add cX2_add 5 none]
def wsX8_hand : List Cond := .code yX8_hand cX8_hand 5 (some .int) :: ((wsX8_hand_r1 ++ wsX8_hand_r2) ++ wsX80 ++ wsX20 ++ wsX00)
def wsX8_day_r1 : List Cond := [Cond.fieldLink RX8 26 "LightestRules" "acts" "LLightestRules$ActRow;", Cond.fieldLink RX8 19 "LightestRules" "folk" "LLightestRules$People;", Cond.methodLink RX8 116 yX0_remember, Cond.instanceMethod yX0_remember, Cond.selects RX0 yX0_remember yX0_remember, Cond.initialized RX0, Cond.code yX0_remember cX0_remember 2 none, Cond.fieldLink RX0 19 "LightestRules$ActRow" "length" "I", Cond.fieldLink RX0 15 "LightestRules$ActRow" "first" "I", Cond.fieldLink RX0 11 "LightestRules$ActRow" "before" "[I", Cond.methodLink RX0 22 yX2_copyTo, Cond.instanceMethod yX2_copyTo, Cond.selects RX2 yX2_copyTo yX2_copyTo, Cond.initialized RX2, Cond.code yX2_copyTo cX2_copyTo 3 none, Cond.fieldLink RX2 11 "LightestRules$People" "cells" "[I", Cond.methodLink RX2 54 arraycopyName, Cond.native arraycopyName, Cond.static arraycopyName, Cond.initialized "java/lang/System", Cond.methodLink RX8 127 yX2_passDay, Cond.instanceMethod yX2_passDay, Cond.selects RX2 yX2_passDay yX2_passDay, Cond.code yX2_passDay cX2_passDay 3 none]
def wsX8_day_r2 : List Cond := [Cond.fieldLink RX2 15 "LightestRules$People" "size" "I", Cond.fieldLink RX2 19 "LightestRules$People" "burn" "I", Cond.methodLink RX2 60 yX2_get, Cond.instanceMethod yX2_get, Cond.selects RX2 yX2_get yX2_get, Cond.code yX2_get cX2_get 4 (some .int), Cond.methodLink RX2 66 yX2_gain, Cond.instanceMethod yX2_gain, Cond.selects RX2 yX2_gain yX2_gain, Cond.code yX2_gain cX2_gain 4 (some .int), Cond.methodLink RX2 63 Lib.Math.max.name, Cond.static Lib.Math.max.name, Cond.initialized "java/lang/Math", Cond.code Lib.Math.max.name Lib.Math.max.code 2 (some .int), Cond.methodLink RX2 50 yX2_add, Cond.instanceMethod yX2_add, Cond.selects RX2 yX2_add yX2_add, Cond.code yX2_add cX2_add 5 none, Cond.methodLink RX8 130 yX2_today, Cond.instanceMethod yX2_today, Cond.selects RX2 yX2_today yX2_today, Cond.code yX2_today cX2_today 1 (some .int)]
def wsX8_day : List Cond := .code yX8_day cX8_day 1 (some .int) :: ((wsX8_day_r1 ++ wsX8_day_r2) ++ wsX80 ++ wsX00 ++ wsX20)
def wsX8_crown_r1 : List Cond := [Cond.fieldLink RX8 19 "LightestRules" "folk" "LLightestRules$People;", Cond.fieldLink RX8 65 "LightestRules" "lawNow" "I", Cond.methodLink RX8 133 yX2_crownedBy, Cond.instanceMethod yX2_crownedBy, Cond.selects RX2 yX2_crownedBy yX2_crownedBy, Cond.initialized RX2, Cond.code yX2_crownedBy cX2_crownedBy 3 (some .int), Cond.methodLink RX2 76 yX2_illBits, Cond.instanceMethod yX2_illBits, Cond.selects RX2 yX2_illBits yX2_illBits, Cond.code yX2_illBits cX2_illBits 3 (some .int), Cond.fieldLink RX2 15 "LightestRules$People" "size" "I", Cond.methodLink RX2 72 yX2_isIll, Cond.instanceMethod yX2_isIll, Cond.selects RX2 yX2_isIll yX2_isIll, Cond.code yX2_isIll cX2_isIll 2 (some .boolean), Cond.fieldLink RX2 22 "LightestRules$People" "ill" "I", Cond.methodLink RX2 60 yX2_get, Cond.instanceMethod yX2_get, Cond.selects RX2 yX2_get yX2_get, Cond.code yX2_get cX2_get 4 (some .int), Cond.fieldLink RX2 11 "LightestRules$People" "cells" "[I", Cond.methodLink RX2 79 yX2_lightestBut, Cond.instanceMethod yX2_lightestBut]
def wsX8_crown_r2 : List Cond := [Cond.selects RX2 yX2_lightestBut yX2_lightestBut, Cond.code yX2_lightestBut cX2_lightestBut 5 (some .int), Cond.methodLink RX2 82 yX2_noonWeight, Cond.instanceMethod yX2_noonWeight, Cond.selects RX2 yX2_noonWeight yX2_noonWeight, Cond.code yX2_noonWeight cX2_noonWeight 2 (some .int), Cond.methodLink RX2 69 yX2_pocketWeight, Cond.instanceMethod yX2_pocketWeight, Cond.selects RX2 yX2_pocketWeight yX2_pocketWeight, Cond.code yX2_pocketWeight cX2_pocketWeight 2 (some .int)]
def wsX8_crown : List Cond := .code yX8_crown cX8_crown 1 (some .int) :: ((wsX8_crown_r1 ++ wsX8_crown_r2) ++ wsX80 ++ wsX20)
def wsX8_noon_r1 : List Cond := [Cond.fieldLink RX8 19 "LightestRules" "folk" "LLightestRules$People;", Cond.fieldLink RX8 65 "LightestRules" "lawNow" "I", Cond.fieldLink RX8 26 "LightestRules" "acts" "LLightestRules$ActRow;", Cond.methodLink RX8 133 yX2_crownedBy, Cond.instanceMethod yX2_crownedBy, Cond.selects RX2 yX2_crownedBy yX2_crownedBy, Cond.initialized RX2, Cond.code yX2_crownedBy cX2_crownedBy 3 (some .int), Cond.methodLink RX2 76 yX2_illBits, Cond.instanceMethod yX2_illBits, Cond.selects RX2 yX2_illBits yX2_illBits, Cond.code yX2_illBits cX2_illBits 3 (some .int), Cond.fieldLink RX2 15 "LightestRules$People" "size" "I", Cond.methodLink RX2 72 yX2_isIll, Cond.instanceMethod yX2_isIll, Cond.selects RX2 yX2_isIll yX2_isIll, Cond.code yX2_isIll cX2_isIll 2 (some .boolean), Cond.fieldLink RX2 22 "LightestRules$People" "ill" "I", Cond.methodLink RX2 60 yX2_get, Cond.instanceMethod yX2_get, Cond.selects RX2 yX2_get yX2_get, Cond.code yX2_get cX2_get 4 (some .int), Cond.fieldLink RX2 11 "LightestRules$People" "cells" "[I", Cond.methodLink RX2 79 yX2_lightestBut]
def wsX8_noon_r2 : List Cond := [Cond.instanceMethod yX2_lightestBut, Cond.selects RX2 yX2_lightestBut yX2_lightestBut, Cond.code yX2_lightestBut cX2_lightestBut 5 (some .int), Cond.methodLink RX2 82 yX2_noonWeight, Cond.instanceMethod yX2_noonWeight, Cond.selects RX2 yX2_noonWeight yX2_noonWeight, Cond.code yX2_noonWeight cX2_noonWeight 2 (some .int), Cond.methodLink RX2 69 yX2_pocketWeight, Cond.instanceMethod yX2_pocketWeight, Cond.selects RX2 yX2_pocketWeight yX2_pocketWeight, Cond.code yX2_pocketWeight cX2_pocketWeight 2 (some .int), Cond.methodLink RX8 116 yX0_remember, Cond.instanceMethod yX0_remember, Cond.selects RX0 yX0_remember yX0_remember, Cond.initialized RX0, Cond.code yX0_remember cX0_remember 2 none, Cond.fieldLink RX0 19 "LightestRules$ActRow" "length" "I", Cond.fieldLink RX0 15 "LightestRules$ActRow" "first" "I", Cond.fieldLink RX0 11 "LightestRules$ActRow" "before" "[I", Cond.methodLink RX0 22 yX2_copyTo, Cond.instanceMethod yX2_copyTo, Cond.selects RX2 yX2_copyTo yX2_copyTo, Cond.code yX2_copyTo cX2_copyTo 3 none, Cond.methodLink RX2 54 arraycopyName]
def wsX8_noon_r3 : List Cond := [Cond.native arraycopyName, Cond.static arraycopyName, Cond.initialized "java/lang/System", Cond.methodLink RX8 120 yX2_add, Cond.instanceMethod yX2_add, Cond.selects RX2 yX2_add yX2_add, Cond.code yX2_add cX2_add 5 none]
def wsX8_noon : List Cond := .code yX8_noon cX8_noon 2 (some .int) :: ((wsX8_noon_r1 ++ (wsX8_noon_r2 ++ wsX8_noon_r3)) ++ wsX80 ++ wsX20 ++ wsX00)
def wsX8_undo : List Cond := .code yX8_undo cX8_undo 1 (some .int) :: ([.fieldLink RX8 26 "LightestRules" "acts" "LLightestRules$ActRow;", .fieldLink RX8 19 "LightestRules" "folk" "LLightestRules$People;", .methodLink RX8 136 yX0_length, .instanceMethod yX0_length, .selects RX0 yX0_length yX0_length, .initialized RX0, .code yX0_length cX0_length 1 (some .int), .fieldLink RX0 19 "LightestRules$ActRow" "length" "I", .methodLink RX8 137 yX0_takeBack, .instanceMethod yX0_takeBack, .selects RX0 yX0_takeBack yX0_takeBack, .code yX0_takeBack cX0_takeBack 2 none, .fieldLink RX0 11 "LightestRules$ActRow" "before" "[I", .fieldLink RX0 15 "LightestRules$ActRow" "first" "I", .methodLink RX0 26 yX2_copyFrom, .instanceMethod yX2_copyFrom, .selects RX2 yX2_copyFrom yX2_copyFrom, .initialized RX2, .code yX2_copyFrom cX2_copyFrom 3 none, .fieldLink RX2 11 "LightestRules$People" "cells" "[I", .methodLink RX2 54 arraycopyName, .native arraycopyName, .static arraycopyName, .initialized "java/lang/System"] ++ wsX80 ++ wsX00 ++ wsX20)
def wsX8_refusalOfSure : List Cond := .code yX8_refusalOfSure cX8_refusalOfSure 4 (some .int) :: ([.fieldLink RX8 19 "LightestRules" "folk" "LLightestRules$People;", .methodLink RX8 96 yX2_has, .instanceMethod yX2_has, .selects RX2 yX2_has yX2_has, .initialized RX2, .code yX2_has cX2_has 2 (some .boolean), .fieldLink RX2 15 "LightestRules$People" "size" "I", .methodLink RX8 93 yX2_size, .instanceMethod yX2_size, .selects RX2 yX2_size yX2_size, .code yX2_size cX2_size 1 (some .int)] ++ wsX80 ++ wsX20)
def wsX8_leastSureToil_r1 : List Cond := [Cond.fieldLink RX8 19 "LightestRules" "folk" "LLightestRules$People;", Cond.methodLink RX8 150 yX2_winsWith, Cond.instanceMethod yX2_winsWith, Cond.selects RX2 yX2_winsWith yX2_winsWith, Cond.initialized RX2, Cond.code yX2_winsWith cX2_winsWith 8 (some .boolean), Cond.fieldLink RX2 15 "LightestRules$People" "size" "I", Cond.methodLink RX2 85 yX2_noonWeightBehind, Cond.instanceMethod yX2_noonWeightBehind, Cond.selects RX2 yX2_noonWeightBehind yX2_noonWeightBehind, Cond.code yX2_noonWeightBehind cX2_noonWeightBehind 5 (some .int), Cond.fieldLink RX2 19 "LightestRules$People" "burn" "I", Cond.methodLink RX2 63 Lib.Math.max.name, Cond.static Lib.Math.max.name, Cond.initialized "java/lang/Math", Cond.code Lib.Math.max.name Lib.Math.max.code 2 (some .int), Cond.methodLink RX2 60 yX2_get, Cond.instanceMethod yX2_get, Cond.selects RX2 yX2_get yX2_get, Cond.code yX2_get cX2_get 4 (some .int), Cond.fieldLink RX2 11 "LightestRules$People" "cells" "[I", Cond.methodLink RX2 69 yX2_pocketWeight, Cond.instanceMethod yX2_pocketWeight, Cond.selects RX2 yX2_pocketWeight yX2_pocketWeight]
def wsX8_leastSureToil_r2 : List Cond := [Cond.code yX2_pocketWeight cX2_pocketWeight 2 (some .int)]
def wsX8_leastSureToil : List Cond := .code yX8_leastSureToil cX8_leastSureToil 5 (some .int) :: ((wsX8_leastSureToil_r1 ++ wsX8_leastSureToil_r2) ++ wsX80 ++ wsX20)
def wsX8_toilOnDay : List Cond := .code yX8_toilOnDay cX8_toilOnDay 3 (some .int) :: ([])
def wsX8_sure_r1 : List Cond := [Cond.methodLink RX8 140 yX8_refusalOfSure, Cond.instanceMethod yX8_refusalOfSure, Cond.selects RX8 yX8_refusalOfSure yX8_refusalOfSure, Cond.initialized RX8, Cond.code yX8_refusalOfSure cX8_refusalOfSure 4 (some .int), Cond.fieldLink RX8 19 "LightestRules" "folk" "LLightestRules$People;", Cond.methodLink RX8 96 yX2_has, Cond.instanceMethod yX2_has, Cond.selects RX2 yX2_has yX2_has, Cond.initialized RX2, Cond.code yX2_has cX2_has 2 (some .boolean), Cond.fieldLink RX2 15 "LightestRules$People" "size" "I", Cond.methodLink RX8 93 yX2_size, Cond.instanceMethod yX2_size, Cond.selects RX2 yX2_size yX2_size, Cond.code yX2_size cX2_size 1 (some .int), Cond.methodLink RX8 144 yX8_leastSureToil, Cond.instanceMethod yX8_leastSureToil, Cond.selects RX8 yX8_leastSureToil yX8_leastSureToil, Cond.code yX8_leastSureToil cX8_leastSureToil 5 (some .int), Cond.methodLink RX8 150 yX2_winsWith, Cond.instanceMethod yX2_winsWith, Cond.selects RX2 yX2_winsWith yX2_winsWith, Cond.code yX2_winsWith cX2_winsWith 8 (some .boolean)]
def wsX8_sure_r2 : List Cond := [Cond.methodLink RX2 85 yX2_noonWeightBehind, Cond.instanceMethod yX2_noonWeightBehind, Cond.selects RX2 yX2_noonWeightBehind yX2_noonWeightBehind, Cond.code yX2_noonWeightBehind cX2_noonWeightBehind 5 (some .int), Cond.fieldLink RX2 19 "LightestRules$People" "burn" "I", Cond.methodLink RX2 63 Lib.Math.max.name, Cond.static Lib.Math.max.name, Cond.initialized "java/lang/Math", Cond.code Lib.Math.max.name Lib.Math.max.code 2 (some .int), Cond.methodLink RX2 60 yX2_get, Cond.instanceMethod yX2_get, Cond.selects RX2 yX2_get yX2_get, Cond.code yX2_get cX2_get 4 (some .int), Cond.fieldLink RX2 11 "LightestRules$People" "cells" "[I", Cond.methodLink RX2 69 yX2_pocketWeight, Cond.instanceMethod yX2_pocketWeight, Cond.selects RX2 yX2_pocketWeight yX2_pocketWeight, Cond.code yX2_pocketWeight cX2_pocketWeight 2 (some .int), Cond.methodLink RX8 147 yX8_toilOnDay, Cond.static yX8_toilOnDay, Cond.code yX8_toilOnDay cX8_toilOnDay 3 (some .int)]
def wsX8_sure : List Cond := .code yX8_sure cX8_sure 8 (some .int) :: ((wsX8_sure_r1 ++ wsX8_sure_r2) ++ wsX80 ++ wsX20)
def wsX8_sureAt_r1 : List Cond := [Cond.methodLink RX8 140 yX8_refusalOfSure, Cond.instanceMethod yX8_refusalOfSure, Cond.selects RX8 yX8_refusalOfSure yX8_refusalOfSure, Cond.initialized RX8, Cond.code yX8_refusalOfSure cX8_refusalOfSure 4 (some .int), Cond.fieldLink RX8 19 "LightestRules" "folk" "LLightestRules$People;", Cond.methodLink RX8 96 yX2_has, Cond.instanceMethod yX2_has, Cond.selects RX2 yX2_has yX2_has, Cond.initialized RX2, Cond.code yX2_has cX2_has 2 (some .boolean), Cond.fieldLink RX2 15 "LightestRules$People" "size" "I", Cond.methodLink RX8 93 yX2_size, Cond.instanceMethod yX2_size, Cond.selects RX2 yX2_size yX2_size, Cond.code yX2_size cX2_size 1 (some .int), Cond.methodLink RX8 144 yX8_leastSureToil, Cond.instanceMethod yX8_leastSureToil, Cond.selects RX8 yX8_leastSureToil yX8_leastSureToil, Cond.code yX8_leastSureToil cX8_leastSureToil 5 (some .int), Cond.methodLink RX8 150 yX2_winsWith, Cond.instanceMethod yX2_winsWith, Cond.selects RX2 yX2_winsWith yX2_winsWith, Cond.code yX2_winsWith cX2_winsWith 8 (some .boolean)]
def wsX8_sureAt_r2 : List Cond := [Cond.methodLink RX2 85 yX2_noonWeightBehind, Cond.instanceMethod yX2_noonWeightBehind, Cond.selects RX2 yX2_noonWeightBehind yX2_noonWeightBehind, Cond.code yX2_noonWeightBehind cX2_noonWeightBehind 5 (some .int), Cond.fieldLink RX2 19 "LightestRules$People" "burn" "I", Cond.methodLink RX2 63 Lib.Math.max.name, Cond.static Lib.Math.max.name, Cond.initialized "java/lang/Math", Cond.code Lib.Math.max.name Lib.Math.max.code 2 (some .int), Cond.methodLink RX2 60 yX2_get, Cond.instanceMethod yX2_get, Cond.selects RX2 yX2_get yX2_get, Cond.code yX2_get cX2_get 4 (some .int), Cond.fieldLink RX2 11 "LightestRules$People" "cells" "[I", Cond.methodLink RX2 69 yX2_pocketWeight, Cond.instanceMethod yX2_pocketWeight, Cond.selects RX2 yX2_pocketWeight yX2_pocketWeight, Cond.code yX2_pocketWeight cX2_pocketWeight 2 (some .int), Cond.methodLink RX8 147 yX8_toilOnDay, Cond.static yX8_toilOnDay, Cond.code yX8_toilOnDay cX8_toilOnDay 3 (some .int)]
def wsX8_sureAt : List Cond := .code yX8_sureAt cX8_sureAt 7 (some .int) :: ((wsX8_sureAt_r1 ++ wsX8_sureAt_r2) ++ wsX80 ++ wsX20)
def wsX8_feed : List Cond := .code yX8_feed cX8_feed 2 (some .int) :: ([.fieldLink RX8 19 "LightestRules" "folk" "LLightestRules$People;", .methodLink RX8 96 yX2_has, .instanceMethod yX2_has, .selects RX2 yX2_has yX2_has, .initialized RX2, .code yX2_has cX2_has 2 (some .boolean), .fieldLink RX2 15 "LightestRules$People" "size" "I", .methodLink RX8 154 yX2_loavesToWin, .instanceMethod yX2_loavesToWin, .selects RX2 yX2_loavesToWin yX2_loavesToWin, .code yX2_loavesToWin cX2_loavesToWin 5 (some .int), .methodLink RX2 82 yX2_noonWeight, .instanceMethod yX2_noonWeight, .selects RX2 yX2_noonWeight yX2_noonWeight, .code yX2_noonWeight cX2_noonWeight 2 (some .int), .methodLink RX2 60 yX2_get, .instanceMethod yX2_get, .selects RX2 yX2_get yX2_get, .code yX2_get cX2_get 4 (some .int), .fieldLink RX2 11 "LightestRules$People" "cells" "[I", .methodLink RX2 69 yX2_pocketWeight, .instanceMethod yX2_pocketWeight, .selects RX2 yX2_pocketWeight yX2_pocketWeight, .code yX2_pocketWeight cX2_pocketWeight 2 (some .int)] ++ wsX80 ++ wsX20)
def wsX8_weigh : List Cond := .code yX8_weigh cX8_weigh 4 (some .int) :: ([.fieldLink RX8 40 "LightestRules" "weighings" "LLightestRules$Weighings;", .methodLink RX8 157 yX6_mayStand, .static yX6_mayStand, .initialized RX6, .code yX6_mayStand cX6_mayStand 3 (some .boolean), .methodLink RX6 23 yJ6_bitCount_0f7a4, .static yJ6_bitCount_0f7a4, .initialized RJ6, .code yJ6_bitCount_0f7a4 cJ6_bitCount_0f7a4 1 (some .int), .constant RJ6 265 (1431655765), .constant RJ6 266 (858993459), .constant RJ6 267 (252645135), .methodLink RX8 161 yX6_append, .instanceMethod yX6_append, .selects RX6 yX6_append yX6_append, .code yX6_append cX6_append 4 (some .boolean), .fieldLink RX6 19 "LightestRules$Weighings" "length" "I", .fieldLink RX6 9 "LightestRules$Weighings" "lefts" "[I", .fieldLink RX6 13 "LightestRules$Weighings" "rights" "[I", .fieldLink RX6 16 "LightestRules$Weighings" "results" "[I", .methodLink RX8 164 yX6_length, .instanceMethod yX6_length, .selects RX6 yX6_length yX6_length, .code yX6_length cX6_length 1 (some .int)] ++ wsX80 ++ wsX60)
def wsX8_unweigh : List Cond := .code yX8_unweigh cX8_unweigh 2 (some .int) :: ([.fieldLink RX8 40 "LightestRules" "weighings" "LLightestRules$Weighings;", .methodLink RX8 164 yX6_length, .instanceMethod yX6_length, .selects RX6 yX6_length yX6_length, .initialized RX6, .code yX6_length cX6_length 1 (some .int), .fieldLink RX6 19 "LightestRules$Weighings" "length" "I", .methodLink RX8 165 yX6_clear, .instanceMethod yX6_clear, .selects RX6 yX6_clear yX6_clear, .code yX6_clear cX6_clear 1 none] ++ wsX80 ++ wsX60)
def wsX8_mayBe : List Cond := .code yX8_mayBe cX8_mayBe 2 (some .int) :: ([.fieldLink RX8 40 "LightestRules" "weighings" "LLightestRules$Weighings;", .methodLink RX8 166 yX6_suspects, .instanceMethod yX6_suspects, .selects RX6 yX6_suspects yX6_suspects, .initialized RX6, .code yX6_suspects cX6_suspects 4 (some .int), .fieldLink RX6 19 "LightestRules$Weighings" "length" "I", .methodLink RX6 29 yX6_suspectsBy, .instanceMethod yX6_suspectsBy, .selects RX6 yX6_suspectsBy yX6_suspectsBy, .code yX6_suspectsBy cX6_suspectsBy 4 (some .int), .fieldLink RX6 16 "LightestRules$Weighings" "results" "[I", .fieldLink RX6 9 "LightestRules$Weighings" "lefts" "[I", .fieldLink RX6 13 "LightestRules$Weighings" "rights" "[I"] ++ wsX80 ++ wsX60)
def wsX8_search : List Cond := .code yX8_search cX8_search 3 (some .int) :: ([.fieldLink RX8 47 "LightestRules" "searches" "LLightestRules$Searches;", .methodLink RX8 170 yX4_append, .instanceMethod yX4_append, .selects RX4 yX4_append yX4_append, .initialized RX4, .code yX4_append cX4_append 3 (some .boolean), .fieldLink RX4 26 "LightestRules$Searches" "length" "I", .fieldLink RX4 11 "LightestRules$Searches" "searched" "[I", .fieldLink RX4 15 "LightestRules$Searches" "missing" "[I", .fieldLink RX4 33 "LightestRules$Searches" "fresh" "Z", .methodLink RX8 172 yX4_length, .instanceMethod yX4_length, .selects RX4 yX4_length yX4_length, .code yX4_length cX4_length 1 (some .int)] ++ wsX80 ++ wsX40)
def wsX8_unsearch : List Cond := .code yX8_unsearch cX8_unsearch 2 (some .int) :: ([.fieldLink RX8 47 "LightestRules" "searches" "LLightestRules$Searches;", .methodLink RX8 172 yX4_length, .instanceMethod yX4_length, .selects RX4 yX4_length yX4_length, .initialized RX4, .code yX4_length cX4_length 1 (some .int), .fieldLink RX4 26 "LightestRules$Searches" "length" "I", .methodLink RX8 173 yX4_clear, .instanceMethod yX4_clear, .selects RX4 yX4_clear yX4_clear, .code yX4_clear cX4_clear 1 none, .fieldLink RX4 33 "LightestRules$Searches" "fresh" "Z"] ++ wsX80 ++ wsX40)
def wsX8_rows_r1 : List Cond := [Cond.fieldLink RX8 47 "LightestRules" "searches" "LLightestRules$Searches;", Cond.methodLink RX8 174 yX4_fittingRows, Cond.instanceMethod yX4_fittingRows, Cond.selects RX4 yX4_fittingRows yX4_fittingRows, Cond.initialized RX4, Cond.code yX4_fittingRows cX4_fittingRows 1 (some .int), Cond.fieldLink RX4 33 "LightestRules$Searches" "fresh" "Z", Cond.fieldLink RX4 20 "LightestRules$Searches" "least" "[I", Cond.fieldLink RX4 23 "LightestRules$Searches" "most" "[I", Cond.fieldLink RX4 30 "LightestRules$Searches" "found" "I", Cond.methodLink RX4 37 yJ7_fill_53178, Cond.static yJ7_fill_53178, Cond.initialized RJ7, Cond.code yJ7_fill_53178 cJ7_fill_53178 4 none, Cond.methodLink RX4 43 yX4_rowsFrom, Cond.static yX4_rowsFrom, Cond.code yX4_rowsFrom cX4_rowsFrom 6 (some .int), Cond.methodLink RX4 47 yX4_fewestFor, Cond.instanceMethod yX4_fewestFor, Cond.selects RX4 yX4_fewestFor yX4_fewestFor, Cond.code yX4_fewestFor cX4_fewestFor 5 (some .int), Cond.fieldLink RX4 26 "LightestRules$Searches" "length" "I", Cond.fieldLink RX4 11 "LightestRules$Searches" "searched" "[I", Cond.fieldLink RX4 15 "LightestRules$Searches" "missing" "[I"]
def wsX8_rows_r2 : List Cond := [Cond.methodLink RX4 75 Lib.Math.max.name, Cond.static Lib.Math.max.name, Cond.initialized "java/lang/Math", Cond.code Lib.Math.max.name Lib.Math.max.code 2 (some .int), Cond.methodLink RX4 66 yX4_isIn, Cond.instanceMethod yX4_isIn, Cond.selects RX4 yX4_isIn yX4_isIn, Cond.code yX4_isIn cX4_isIn 3 (some .boolean), Cond.methodLink RX4 70 yJ6_bitCount_0f7a4, Cond.static yJ6_bitCount_0f7a4, Cond.initialized RJ6, Cond.code yJ6_bitCount_0f7a4 cJ6_bitCount_0f7a4 1 (some .int), Cond.constant RJ6 265 (1431655765), Cond.constant RJ6 266 (858993459), Cond.constant RJ6 267 (252645135), Cond.methodLink RX4 51 yX4_greatestFor, Cond.instanceMethod yX4_greatestFor, Cond.selects RX4 yX4_greatestFor yX4_greatestFor, Cond.code yX4_greatestFor cX4_greatestFor 4 (some .int), Cond.methodLink RX4 81 Lib.Math.min.name, Cond.static Lib.Math.min.name, Cond.code Lib.Math.min.name Lib.Math.min.code 2 (some .int), Cond.methodLink RX4 54 yX4_anySearched, Cond.instanceMethod yX4_anySearched]
def wsX8_rows_r3 : List Cond := [Cond.selects RX4 yX4_anySearched yX4_anySearched, Cond.code yX4_anySearched cX4_anySearched 3 (some .boolean), Cond.methodLink RX4 58 yX4_noted, Cond.instanceMethod yX4_noted, Cond.selects RX4 yX4_noted yX4_noted, Cond.code yX4_noted cX4_noted 5 (some .int), Cond.methodLink RX4 62 yX4_give, Cond.instanceMethod yX4_give, Cond.selects RX4 yX4_give yX4_give, Cond.code yX4_give cX4_give 4 none]
def wsX8_rows : List Cond := .code yX8_rows cX8_rows 1 (some .int) :: ((wsX8_rows_r1 ++ (wsX8_rows_r2 ++ wsX8_rows_r3)) ++ wsX80 ++ wsX40)
def wsX8_stones_r1 : List Cond := [Cond.fieldLink RX8 47 "LightestRules" "searches" "LLightestRules$Searches;", Cond.methodLink RX8 174 yX4_fittingRows, Cond.instanceMethod yX4_fittingRows, Cond.selects RX4 yX4_fittingRows yX4_fittingRows, Cond.initialized RX4, Cond.code yX4_fittingRows cX4_fittingRows 1 (some .int), Cond.fieldLink RX4 33 "LightestRules$Searches" "fresh" "Z", Cond.fieldLink RX4 20 "LightestRules$Searches" "least" "[I", Cond.fieldLink RX4 23 "LightestRules$Searches" "most" "[I", Cond.fieldLink RX4 30 "LightestRules$Searches" "found" "I", Cond.methodLink RX4 37 yJ7_fill_53178, Cond.static yJ7_fill_53178, Cond.initialized RJ7, Cond.code yJ7_fill_53178 cJ7_fill_53178 4 none, Cond.methodLink RX4 43 yX4_rowsFrom, Cond.static yX4_rowsFrom, Cond.code yX4_rowsFrom cX4_rowsFrom 6 (some .int), Cond.methodLink RX4 47 yX4_fewestFor, Cond.instanceMethod yX4_fewestFor, Cond.selects RX4 yX4_fewestFor yX4_fewestFor, Cond.code yX4_fewestFor cX4_fewestFor 5 (some .int), Cond.fieldLink RX4 26 "LightestRules$Searches" "length" "I", Cond.fieldLink RX4 11 "LightestRules$Searches" "searched" "[I", Cond.fieldLink RX4 15 "LightestRules$Searches" "missing" "[I"]
def wsX8_stones_r2 : List Cond := [Cond.methodLink RX4 75 Lib.Math.max.name, Cond.static Lib.Math.max.name, Cond.initialized "java/lang/Math", Cond.code Lib.Math.max.name Lib.Math.max.code 2 (some .int), Cond.methodLink RX4 66 yX4_isIn, Cond.instanceMethod yX4_isIn, Cond.selects RX4 yX4_isIn yX4_isIn, Cond.code yX4_isIn cX4_isIn 3 (some .boolean), Cond.methodLink RX4 70 yJ6_bitCount_0f7a4, Cond.static yJ6_bitCount_0f7a4, Cond.initialized RJ6, Cond.code yJ6_bitCount_0f7a4 cJ6_bitCount_0f7a4 1 (some .int), Cond.constant RJ6 265 (1431655765), Cond.constant RJ6 266 (858993459), Cond.constant RJ6 267 (252645135), Cond.methodLink RX4 51 yX4_greatestFor, Cond.instanceMethod yX4_greatestFor, Cond.selects RX4 yX4_greatestFor yX4_greatestFor, Cond.code yX4_greatestFor cX4_greatestFor 4 (some .int), Cond.methodLink RX4 81 Lib.Math.min.name, Cond.static Lib.Math.min.name, Cond.code Lib.Math.min.name Lib.Math.min.code 2 (some .int), Cond.methodLink RX4 54 yX4_anySearched, Cond.instanceMethod yX4_anySearched]
def wsX8_stones_r3 : List Cond := [Cond.selects RX4 yX4_anySearched yX4_anySearched, Cond.code yX4_anySearched cX4_anySearched 3 (some .boolean), Cond.methodLink RX4 58 yX4_noted, Cond.instanceMethod yX4_noted, Cond.selects RX4 yX4_noted yX4_noted, Cond.code yX4_noted cX4_noted 5 (some .int), Cond.methodLink RX4 62 yX4_give, Cond.instanceMethod yX4_give, Cond.selects RX4 yX4_give yX4_give, Cond.code yX4_give cX4_give 4 none, Cond.methodLink RX8 177 yX4_mostOf, Cond.instanceMethod yX4_mostOf, Cond.selects RX4 yX4_mostOf yX4_mostOf, Cond.code yX4_mostOf cX4_mostOf 2 (some .int), Cond.methodLink RX8 180 yX4_leastOf, Cond.instanceMethod yX4_leastOf, Cond.selects RX4 yX4_leastOf yX4_leastOf, Cond.code yX4_leastOf cX4_leastOf 2 (some .int)]
def wsX8_stones : List Cond := .code yX8_stones cX8_stones 3 (some .int) :: ((wsX8_stones_r1 ++ (wsX8_stones_r2 ++ wsX8_stones_r3)) ++ wsX80 ++ wsX40)
def wsX8_ruled : List Cond := .code yX8_ruled cX8_ruled 2 (some .int) :: ([.fieldLink RX8 19 "LightestRules" "folk" "LLightestRules$People;", .fieldLink RX8 54 "LightestRules" "told" "LLightestRules$RulersLine;", .methodLink RX8 96 yX2_has, .instanceMethod yX2_has, .selects RX2 yX2_has yX2_has, .initialized RX2, .code yX2_has cX2_has 2 (some .boolean), .fieldLink RX2 15 "LightestRules$People" "size" "I", .methodLink RX8 183 yX3_append, .instanceMethod yX3_append, .selects RX3 yX3_append yX3_append, .initialized RX3, .code yX3_append cX3_append 2 (some .boolean), .fieldLink RX3 22 "LightestRules$RulersLine" "length" "I", .fieldLink RX3 11 "LightestRules$RulersLine" "rulers" "[I", .methodLink RX8 185 yX3_length, .instanceMethod yX3_length, .selects RX3 yX3_length yX3_length, .code yX3_length cX3_length 1 (some .int)] ++ wsX80 ++ wsX20 ++ wsX30)
def wsX8_unrule : List Cond := .code yX8_unrule cX8_unrule 2 (some .int) :: ([.fieldLink RX8 54 "LightestRules" "told" "LLightestRules$RulersLine;", .methodLink RX8 185 yX3_length, .instanceMethod yX3_length, .selects RX3 yX3_length yX3_length, .initialized RX3, .code yX3_length cX3_length 1 (some .int), .fieldLink RX3 22 "LightestRules$RulersLine" "length" "I", .methodLink RX8 186 yX3_clear, .instanceMethod yX3_clear, .selects RX3 yX3_clear yX3_clear, .code yX3_clear cX3_clear 1 none] ++ wsX80 ++ wsX30)
def wsX8_line_r1 : List Cond := [Cond.fieldLink RX8 19 "LightestRules" "folk" "LLightestRules$People;", Cond.constantLong RX8 187 (-3), Cond.fieldLink RX8 54 "LightestRules" "told" "LLightestRules$RulersLine;", Cond.methodLink RX8 93 yX2_size, Cond.instanceMethod yX2_size, Cond.selects RX2 yX2_size yX2_size, Cond.initialized RX2, Cond.code yX2_size cX2_size 1 (some .int), Cond.fieldLink RX2 15 "LightestRules$People" "size" "I", Cond.methodLink RX8 189 yX3_fittingMeals, Cond.instanceMethod yX3_fittingMeals, Cond.selects RX3 yX3_fittingMeals yX3_fittingMeals, Cond.initialized RX3, Cond.code yX3_fittingMeals cX3_fittingMeals 6 (some .long), Cond.methodLink RX3 32 Lib.Math.min.name, Cond.static Lib.Math.min.name, Cond.initialized "java/lang/Math", Cond.code Lib.Math.min.name Lib.Math.min.code 2 (some .int), Cond.fieldLink RX3 15 "LightestRules$RulersLine" "weights" "[I", Cond.fieldLink RX3 18 "LightestRules$RulersLine" "ways" "[J", Cond.fieldLink RX3 22 "LightestRules$RulersLine" "length" "I", Cond.fieldLink RX3 48 "LightestRules$RulersLine" "STRIDES" "[I", Cond.fieldLink RX3 11 "LightestRules$RulersLine" "rulers" "[I", Cond.methodLink RX3 26 yX2_size]
def wsX8_line_r2 : List Cond := [Cond.methodLink RX3 38 yX2_noonWeight, Cond.instanceMethod yX2_noonWeight, Cond.selects RX2 yX2_noonWeight yX2_noonWeight, Cond.code yX2_noonWeight cX2_noonWeight 2 (some .int), Cond.methodLink RX2 60 yX2_get, Cond.instanceMethod yX2_get, Cond.selects RX2 yX2_get yX2_get, Cond.code yX2_get cX2_get 4 (some .int), Cond.fieldLink RX2 11 "LightestRules$People" "cells" "[I", Cond.methodLink RX2 69 yX2_pocketWeight, Cond.instanceMethod yX2_pocketWeight, Cond.selects RX2 yX2_pocketWeight yX2_pocketWeight, Cond.code yX2_pocketWeight cX2_pocketWeight 2 (some .int), Cond.methodLink RX3 42 yJ7_fill_d0a16, Cond.static yJ7_fill_d0a16, Cond.initialized RJ7, Cond.code yJ7_fill_d0a16 cJ7_fill_d0a16 5 none, Cond.methodLink RX3 51 yX3_letEat, Cond.instanceMethod yX3_letEat, Cond.selects RX3 yX3_letEat yX3_letEat, Cond.code yX3_letEat cX3_letEat 6 none, Cond.methodLink RX3 55 yX3_strikeOut, Cond.instanceMethod yX3_strikeOut, Cond.selects RX3 yX3_strikeOut yX3_strikeOut]
def wsX8_line_r3 : List Cond := [Cond.code yX3_strikeOut cX3_strikeOut 5 none, Cond.methodLink RX3 63 yX3_lightestAt, Cond.instanceMethod yX3_lightestAt, Cond.selects RX3 yX3_lightestAt yX3_lightestAt, Cond.code yX3_lightestAt cX3_lightestAt 8 (some .int), Cond.methodLink RX3 59 yX3_sumOfWays, Cond.instanceMethod yX3_sumOfWays, Cond.selects RX3 yX3_sumOfWays yX3_sumOfWays, Cond.code yX3_sumOfWays cX3_sumOfWays 5 (some .long)]
def wsX8_line : List Cond := .code yX8_line cX8_line 1 (some .long) :: ((wsX8_line_r1 ++ (wsX8_line_r2 ++ wsX8_line_r3)) ++ wsX80 ++ wsX20 ++ wsX30)
def wsX8_seed : List Cond := .code yX8_seed cX8_seed 3 (some .long) :: ([.fieldLink RX8 61 "LightestRules" "year" "LLightestRules$Year;", .methodLink RX8 193 yX7_sow, .instanceMethod yX7_sow, .selects RX7 yX7_sow yX7_sow, .initialized RX7, .code yX7_sow cX7_sow 5 (some .long), .fieldLink RX7 16 "LightestRules$Year" "grown" "J"] ++ wsX80 ++ wsX70)
def wsX8_reign_r1 : List Cond := [Cond.fieldLink RX8 19 "LightestRules" "folk" "LLightestRules$People;", Cond.fieldLink RX8 61 "LightestRules" "year" "LLightestRules$Year;", Cond.methodLink RX8 96 yX2_has, Cond.instanceMethod yX2_has, Cond.selects RX2 yX2_has yX2_has, Cond.initialized RX2, Cond.code yX2_has cX2_has 2 (some .boolean), Cond.fieldLink RX2 15 "LightestRules$People" "size" "I", Cond.methodLink RX8 110 yX8_isLaw, Cond.static yX8_isLaw, Cond.initialized RX8, Cond.code yX8_isLaw cX8_isLaw 1 (some .boolean), Cond.methodLink RX8 197 yX7_monthsOf, Cond.instanceMethod yX7_monthsOf, Cond.selects RX7 yX7_monthsOf yX7_monthsOf, Cond.initialized RX7, Cond.code yX7_monthsOf cX7_monthsOf 7 (some .int), Cond.fieldLink RX7 10 "LightestRules$Year" "lookalikes" "LLightestRules$People;", Cond.methodLink RX7 20 yX2_becomeLike, Cond.instanceMethod yX2_becomeLike, Cond.selects RX2 yX2_becomeLike yX2_becomeLike, Cond.code yX2_becomeLike cX2_becomeLike 2 none, Cond.fieldLink RX2 11 "LightestRules$People" "cells" "[I", Cond.methodLink RX2 54 arraycopyName]
def wsX8_reign_r2 : List Cond := [Cond.native arraycopyName, Cond.static arraycopyName, Cond.initialized "java/lang/System", Cond.fieldLink RX2 19 "LightestRules$People" "burn" "I", Cond.fieldLink RX2 22 "LightestRules$People" "ill" "I", Cond.methodLink RX7 24 yX2_size, Cond.instanceMethod yX2_size, Cond.selects RX2 yX2_size yX2_size, Cond.code yX2_size cX2_size 1 (some .int), Cond.methodLink RX7 28 yX7_nextOunces, Cond.instanceMethod yX7_nextOunces, Cond.selects RX7 yX7_nextOunces yX7_nextOunces, Cond.code yX7_nextOunces cX7_nextOunces 2 (some .int), Cond.fieldLink RX7 16 "LightestRules$Year" "grown" "J", Cond.constantLong RX7 39 (6364136223846793005), Cond.constantLong RX7 41 (1442695040888963407), Cond.methodLink RX7 31 yX2_gain, Cond.instanceMethod yX2_gain, Cond.selects RX2 yX2_gain yX2_gain, Cond.code yX2_gain cX2_gain 4 (some .int), Cond.methodLink RX2 63 Lib.Math.max.name, Cond.static Lib.Math.max.name, Cond.initialized "java/lang/Math", Cond.code Lib.Math.max.name Lib.Math.max.code 2 (some .int)]
def wsX8_reign_r3 : List Cond := [Cond.methodLink RX2 60 yX2_get, Cond.instanceMethod yX2_get, Cond.selects RX2 yX2_get yX2_get, Cond.code yX2_get cX2_get 4 (some .int), Cond.methodLink RX2 50 yX2_add, Cond.instanceMethod yX2_add, Cond.selects RX2 yX2_add yX2_add, Cond.code yX2_add cX2_add 5 none, Cond.methodLink RX7 35 yX2_crownedBy, Cond.instanceMethod yX2_crownedBy, Cond.selects RX2 yX2_crownedBy yX2_crownedBy, Cond.code yX2_crownedBy cX2_crownedBy 3 (some .int), Cond.methodLink RX2 76 yX2_illBits, Cond.instanceMethod yX2_illBits, Cond.selects RX2 yX2_illBits yX2_illBits, Cond.code yX2_illBits cX2_illBits 3 (some .int), Cond.methodLink RX2 72 yX2_isIll, Cond.instanceMethod yX2_isIll, Cond.selects RX2 yX2_isIll yX2_isIll, Cond.code yX2_isIll cX2_isIll 2 (some .boolean), Cond.methodLink RX2 79 yX2_lightestBut, Cond.instanceMethod yX2_lightestBut, Cond.selects RX2 yX2_lightestBut yX2_lightestBut, Cond.code yX2_lightestBut cX2_lightestBut 5 (some .int)]
def wsX8_reign_r4 : List Cond := [Cond.methodLink RX2 82 yX2_noonWeight, Cond.instanceMethod yX2_noonWeight, Cond.selects RX2 yX2_noonWeight yX2_noonWeight, Cond.code yX2_noonWeight cX2_noonWeight 2 (some .int), Cond.methodLink RX2 69 yX2_pocketWeight, Cond.instanceMethod yX2_pocketWeight, Cond.selects RX2 yX2_pocketWeight yX2_pocketWeight, Cond.code yX2_pocketWeight cX2_pocketWeight 2 (some .int)]
def wsX8_reign : List Cond := .code yX8_reign cX8_reign 3 (some .int) :: ((wsX8_reign_r1 ++ (wsX8_reign_r2 ++ (wsX8_reign_r3 ++ wsX8_reign_r4))) ++ wsX80 ++ wsX20 ++ wsX70)
def wsX8_keep_r1 : List Cond := [Cond.fieldLink RX8 33 "LightestRules" "slots" "LLightestRules$Slots;", Cond.fieldLink RX8 19 "LightestRules" "folk" "LLightestRules$People;", Cond.methodLink RX8 201 yX5_isSlot, Cond.static yX5_isSlot, Cond.initialized RX5, Cond.code yX5_isSlot cX5_isSlot 1 (some .boolean), Cond.methodLink RX8 204 yX5_put, Cond.instanceMethod yX5_put, Cond.selects RX5 yX5_put yX5_put, Cond.code yX5_put cX5_put 3 none, Cond.fieldLink RX5 11 "LightestRules$Slots" "kept" "[I", Cond.fieldLink RX5 15 "LightestRules$Slots" "filledBits" "I", Cond.methodLink RX5 19 yX5_isSlot, Cond.methodLink RX5 23 yX2_copyTo, Cond.instanceMethod yX2_copyTo, Cond.selects RX2 yX2_copyTo yX2_copyTo, Cond.initialized RX2, Cond.code yX2_copyTo cX2_copyTo 3 none, Cond.fieldLink RX2 11 "LightestRules$People" "cells" "[I", Cond.methodLink RX2 54 arraycopyName, Cond.native arraycopyName, Cond.static arraycopyName, Cond.initialized "java/lang/System", Cond.methodLink RX8 130 yX2_today]
def wsX8_keep_r2 : List Cond := [Cond.instanceMethod yX2_today, Cond.selects RX2 yX2_today yX2_today, Cond.code yX2_today cX2_today 1 (some .int)]
def wsX8_keep : List Cond := .code yX8_keep cX8_keep 2 (some .int) :: ((wsX8_keep_r1 ++ wsX8_keep_r2) ++ wsX80 ++ wsX50 ++ wsX20)
def wsX8_again_r1 : List Cond := [Cond.fieldLink RX8 33 "LightestRules" "slots" "LLightestRules$Slots;", Cond.fieldLink RX8 19 "LightestRules" "folk" "LLightestRules$People;", Cond.fieldLink RX8 26 "LightestRules" "acts" "LLightestRules$ActRow;", Cond.methodLink RX8 201 yX5_isSlot, Cond.static yX5_isSlot, Cond.initialized RX5, Cond.code yX5_isSlot cX5_isSlot 1 (some .boolean), Cond.methodLink RX8 208 yX5_holds, Cond.instanceMethod yX5_holds, Cond.selects RX5 yX5_holds yX5_holds, Cond.code yX5_holds cX5_holds 2 (some .boolean), Cond.fieldLink RX5 15 "LightestRules$Slots" "filledBits" "I", Cond.methodLink RX5 19 yX5_isSlot, Cond.methodLink RX8 211 yX5_bring, Cond.instanceMethod yX5_bring, Cond.selects RX5 yX5_bring yX5_bring, Cond.code yX5_bring cX5_bring 3 none, Cond.fieldLink RX5 11 "LightestRules$Slots" "kept" "[I", Cond.methodLink RX5 27 yX5_holds, Cond.methodLink RX5 30 yX2_copyFrom, Cond.instanceMethod yX2_copyFrom, Cond.selects RX2 yX2_copyFrom yX2_copyFrom, Cond.initialized RX2, Cond.code yX2_copyFrom cX2_copyFrom 3 none]
def wsX8_again_r2 : List Cond := [Cond.fieldLink RX2 11 "LightestRules$People" "cells" "[I", Cond.methodLink RX2 54 arraycopyName, Cond.native arraycopyName, Cond.static arraycopyName, Cond.initialized "java/lang/System", Cond.methodLink RX8 91 yX0_clear, Cond.instanceMethod yX0_clear, Cond.selects RX0 yX0_clear yX0_clear, Cond.initialized RX0, Cond.code yX0_clear cX0_clear 1 none, Cond.fieldLink RX0 19 "LightestRules$ActRow" "length" "I", Cond.methodLink RX8 130 yX2_today, Cond.instanceMethod yX2_today, Cond.selects RX2 yX2_today yX2_today, Cond.code yX2_today cX2_today 1 (some .int)]
def wsX8_again : List Cond := .code yX8_again cX8_again 2 (some .int) :: ((wsX8_again_r1 ++ wsX8_again_r2) ++ wsX80 ++ wsX50 ++ wsX20 ++ wsX00)
def wsX8_count_r1 : List Cond := [Cond.fieldLink RX8 10 "LightestRules" "text" "LLightestRules$LandText;", Cond.fieldLink RX8 19 "LightestRules" "folk" "LLightestRules$People;", Cond.fieldLink RX8 26 "LightestRules" "acts" "LLightestRules$ActRow;", Cond.fieldLink RX8 40 "LightestRules" "weighings" "LLightestRules$Weighings;", Cond.fieldLink RX8 47 "LightestRules" "searches" "LLightestRules$Searches;", Cond.fieldLink RX8 54 "LightestRules" "told" "LLightestRules$RulersLine;", Cond.fieldLink RX8 65 "LightestRules" "lawNow" "I", Cond.methodLink RX8 73 yX1_length, Cond.instanceMethod yX1_length, Cond.selects RX1 yX1_length yX1_length, Cond.initialized RX1, Cond.code yX1_length cX1_length 1 (some .int), Cond.fieldLink RX1 15 "LightestRules$LandText" "length" "I", Cond.methodLink RX8 93 yX2_size, Cond.instanceMethod yX2_size, Cond.selects RX2 yX2_size yX2_size, Cond.initialized RX2, Cond.code yX2_size cX2_size 1 (some .int), Cond.fieldLink RX2 15 "LightestRules$People" "size" "I", Cond.methodLink RX8 130 yX2_today, Cond.instanceMethod yX2_today, Cond.selects RX2 yX2_today yX2_today, Cond.code yX2_today cX2_today 1 (some .int), Cond.fieldLink RX2 11 "LightestRules$People" "cells" "[I"]
def wsX8_count_r2 : List Cond := [Cond.methodLink RX8 136 yX0_length, Cond.instanceMethod yX0_length, Cond.selects RX0 yX0_length yX0_length, Cond.initialized RX0, Cond.code yX0_length cX0_length 1 (some .int), Cond.fieldLink RX0 19 "LightestRules$ActRow" "length" "I", Cond.methodLink RX8 164 yX6_length, Cond.instanceMethod yX6_length, Cond.selects RX6 yX6_length yX6_length, Cond.initialized RX6, Cond.code yX6_length cX6_length 1 (some .int), Cond.fieldLink RX6 19 "LightestRules$Weighings" "length" "I", Cond.methodLink RX8 172 yX4_length, Cond.instanceMethod yX4_length, Cond.selects RX4 yX4_length yX4_length, Cond.initialized RX4, Cond.code yX4_length cX4_length 1 (some .int), Cond.fieldLink RX4 26 "LightestRules$Searches" "length" "I", Cond.methodLink RX8 185 yX3_length, Cond.instanceMethod yX3_length, Cond.selects RX3 yX3_length yX3_length, Cond.initialized RX3, Cond.code yX3_length cX3_length 1 (some .int), Cond.fieldLink RX3 22 "LightestRules$RulersLine" "length" "I"]
def wsX8_count_r3 : List Cond := [Cond.methodLink RX8 214 yX2_illBits, Cond.instanceMethod yX2_illBits, Cond.selects RX2 yX2_illBits yX2_illBits, Cond.code yX2_illBits cX2_illBits 3 (some .int), Cond.methodLink RX2 72 yX2_isIll, Cond.instanceMethod yX2_isIll, Cond.selects RX2 yX2_isIll yX2_isIll, Cond.code yX2_isIll cX2_isIll 2 (some .boolean), Cond.fieldLink RX2 22 "LightestRules$People" "ill" "I", Cond.methodLink RX2 60 yX2_get, Cond.instanceMethod yX2_get, Cond.selects RX2 yX2_get yX2_get, Cond.code yX2_get cX2_get 4 (some .int), Cond.methodLink RX8 217 yX2_crownings, Cond.instanceMethod yX2_crownings, Cond.selects RX2 yX2_crownings yX2_crownings, Cond.code yX2_crownings cX2_crownings 3 (some .int)]
def wsX8_count : List Cond := .code yX8_count cX8_count 2 (some .int) :: ((wsX8_count_r1 ++ (wsX8_count_r2 ++ wsX8_count_r3)) ++ wsX80 ++ wsX10 ++ wsX20 ++ wsX00 ++ wsX60 ++ wsX40 ++ wsX30)
def wsX9_init : List Cond := .code yX9_init cX9_init 1 none :: ([.methodLink RX9 1 objectInit, .instanceMethod objectInit, .code objectInit ⟨#[0xb1]⟩ 1 none, .arrayClass .int, .fieldLink RX9 7 "LightestRulesModel" "read" "[I", .fieldLink RX9 13 "LightestRulesModel" "now" "[I", .fieldLink RX9 16 "LightestRulesModel" "text" "[I", .fieldLink RX9 19 "LightestRulesModel" "row" "[I", .fieldLink RX9 22 "LightestRulesModel" "lefts" "[I", .fieldLink RX9 25 "LightestRulesModel" "rights" "[I", .fieldLink RX9 28 "LightestRulesModel" "comes" "[I", .fieldLink RX9 31 "LightestRulesModel" "searched" "[I", .fieldLink RX9 34 "LightestRulesModel" "together" "[I", .fieldLink RX9 37 "LightestRulesModel" "leastOf" "[I", .fieldLink RX9 40 "LightestRulesModel" "mostOf" "[I", .fieldLink RX9 43 "LightestRulesModel" "rulers" "[I", .arrayClass .long, .fieldLink RX9 46 "LightestRulesModel" "ways" "[J", .fieldLink RX9 50 "LightestRulesModel" "then" "[J", .fieldLink RX9 53 "LightestRulesModel" "spare" "[I", .arrayClass .boolean, .fieldLink RX9 56 "LightestRulesModel" "isKept" "[Z", .fieldLink RX9 60 "LightestRulesModel" "kept" "[I", .fieldLink RX9 63 "LightestRulesModel" "rule" "I"] ++ wsX90)
def wsX9_in : List Cond := .code yX9_in cX9_in 6 (some .boolean) :: ([])
def wsX9_write : List Cond := .code yX9_write cX9_write 5 (some .int) :: ([.constantLong RX9 67 (8), .fieldLink RX9 73 "LightestRulesModel" "length" "I", .fieldLink RX9 16 "LightestRulesModel" "text" "[I", .constantLong RX9 76 (255), .methodLink RX9 69 yX9_in, .static yX9_in, .initialized RX9, .code yX9_in cX9_in 6 (some .boolean)] ++ wsX90)
def wsX9_wipe : List Cond := .code yX9_wipe cX9_wipe 2 (some .int) :: ([.fieldLink RX9 73 "LightestRulesModel" "length" "I"] ++ wsX90)
def wsX9_figure : List Cond := .code yX9_figure cX9_figure 4 (some .int) :: ([.fieldLink RX9 78 "LightestRulesModel" "faultAt" "I", .fieldLink RX9 81 "LightestRulesModel" "at" "I", .fieldLink RX9 73 "LightestRulesModel" "length" "I", .fieldLink RX9 16 "LightestRulesModel" "text" "[I", .methodLink RX9 69 yX9_in, .static yX9_in, .initialized RX9, .code yX9_in cX9_in 6 (some .boolean)] ++ wsX90)
def wsX9_readText : List Cond := .code yX9_readText cX9_readText 4 (some .int) :: ([.fieldLink RX9 81 "LightestRulesModel" "at" "I", .fieldLink RX9 78 "LightestRulesModel" "faultAt" "I", .fieldLink RX9 84 "LightestRulesModel" "readMany" "I", .fieldLink RX9 73 "LightestRulesModel" "length" "I", .fieldLink RX9 16 "LightestRulesModel" "text" "[I", .fieldLink RX9 91 "LightestRulesModel" "readRule" "I", .fieldLink RX9 94 "LightestRulesModel" "readBurn" "I", .fieldLink RX9 97 "LightestRulesModel" "readIll" "I", .fieldLink RX9 7 "LightestRulesModel" "read" "[I", .methodLink RX9 87 yX9_figure, .instanceMethod yX9_figure, .selects RX9 yX9_figure yX9_figure, .initialized RX9, .code yX9_figure cX9_figure 4 (some .int), .methodLink RX9 69 yX9_in, .static yX9_in, .code yX9_in cX9_in 6 (some .boolean)] ++ wsX90)
def wsX9_fault : List Cond := .code yX9_fault cX9_fault 1 (some .int) :: ([.methodLink RX9 100 yX9_readText, .instanceMethod yX9_readText, .selects RX9 yX9_readText yX9_readText, .initialized RX9, .code yX9_readText cX9_readText 4 (some .int), .fieldLink RX9 81 "LightestRulesModel" "at" "I", .fieldLink RX9 78 "LightestRulesModel" "faultAt" "I", .fieldLink RX9 84 "LightestRulesModel" "readMany" "I", .fieldLink RX9 73 "LightestRulesModel" "length" "I", .fieldLink RX9 16 "LightestRulesModel" "text" "[I", .fieldLink RX9 91 "LightestRulesModel" "readRule" "I", .fieldLink RX9 94 "LightestRulesModel" "readBurn" "I", .fieldLink RX9 97 "LightestRulesModel" "readIll" "I", .fieldLink RX9 7 "LightestRulesModel" "read" "[I", .methodLink RX9 87 yX9_figure, .instanceMethod yX9_figure, .selects RX9 yX9_figure yX9_figure, .code yX9_figure cX9_figure 4 (some .int), .methodLink RX9 69 yX9_in, .static yX9_in, .code yX9_in cX9_in 6 (some .boolean)] ++ wsX90)
def wsX9_land_r1 : List Cond := [Cond.fieldLink RX9 84 "LightestRulesModel" "readMany" "I", Cond.fieldLink RX9 104 "LightestRulesModel" "many" "I", Cond.fieldLink RX9 91 "LightestRulesModel" "readRule" "I", Cond.fieldLink RX9 63 "LightestRulesModel" "rule" "I", Cond.fieldLink RX9 94 "LightestRulesModel" "readBurn" "I", Cond.fieldLink RX9 107 "LightestRulesModel" "burn" "I", Cond.fieldLink RX9 97 "LightestRulesModel" "readIll" "I", Cond.fieldLink RX9 110 "LightestRulesModel" "ill" "I", Cond.fieldLink RX9 13 "LightestRulesModel" "now" "[I", Cond.fieldLink RX9 7 "LightestRulesModel" "read" "[I", Cond.fieldLink RX9 113 "LightestRulesModel" "acts" "I", Cond.fieldLink RX9 56 "LightestRulesModel" "isKept" "[Z", Cond.methodLink RX9 100 yX9_readText, Cond.instanceMethod yX9_readText, Cond.selects RX9 yX9_readText yX9_readText, Cond.initialized RX9, Cond.code yX9_readText cX9_readText 4 (some .int), Cond.fieldLink RX9 81 "LightestRulesModel" "at" "I", Cond.fieldLink RX9 78 "LightestRulesModel" "faultAt" "I", Cond.fieldLink RX9 73 "LightestRulesModel" "length" "I", Cond.fieldLink RX9 16 "LightestRulesModel" "text" "[I", Cond.methodLink RX9 87 yX9_figure, Cond.instanceMethod yX9_figure, Cond.selects RX9 yX9_figure yX9_figure]
def wsX9_land_r2 : List Cond := [Cond.code yX9_figure cX9_figure 4 (some .int), Cond.methodLink RX9 69 yX9_in, Cond.static yX9_in, Cond.code yX9_in cX9_in 6 (some .boolean)]
def wsX9_land : List Cond := .code yX9_land cX9_land 2 (some .int) :: ((wsX9_land_r1 ++ wsX9_land_r2) ++ wsX90)
def wsX9_isPerson : List Cond := .code yX9_isPerson cX9_isPerson 2 (some .boolean) :: ([.fieldLink RX9 104 "LightestRulesModel" "many" "I", .methodLink RX9 69 yX9_in, .static yX9_in, .initialized RX9, .code yX9_in cX9_in 6 (some .boolean)] ++ wsX90)
def wsX9_noonOf : List Cond := .code yX9_noonOf cX9_noonOf 2 (some .int) :: ([.fieldLink RX9 13 "LightestRulesModel" "now" "[I"] ++ wsX90)
def wsX9_isIll : List Cond := .code yX9_isIll cX9_isIll 2 (some .boolean) :: ([.fieldLink RX9 13 "LightestRulesModel" "now" "[I", .fieldLink RX9 110 "LightestRulesModel" "ill" "I"] ++ wsX90)
def wsX9_person : List Cond := .code yX9_person cX9_person 3 (some .int) :: ([.fieldLink RX9 13 "LightestRulesModel" "now" "[I", .methodLink RX9 116 yX9_isPerson, .instanceMethod yX9_isPerson, .selects RX9 yX9_isPerson yX9_isPerson, .initialized RX9, .code yX9_isPerson cX9_isPerson 2 (some .boolean), .fieldLink RX9 104 "LightestRulesModel" "many" "I", .methodLink RX9 69 yX9_in, .static yX9_in, .code yX9_in cX9_in 6 (some .boolean), .methodLink RX9 120 yX9_noonOf, .instanceMethod yX9_noonOf, .selects RX9 yX9_noonOf yX9_noonOf, .code yX9_noonOf cX9_noonOf 2 (some .int), .methodLink RX9 124 yX9_isIll, .instanceMethod yX9_isIll, .selects RX9 yX9_isIll yX9_isIll, .code yX9_isIll cX9_isIll 2 (some .boolean), .fieldLink RX9 110 "LightestRulesModel" "ill" "I"] ++ wsX90)
def wsX9_law : List Cond := .code yX9_law cX9_law 3 (some .int) :: ([.constantLong RX9 127 (2), .fieldLink RX9 63 "LightestRulesModel" "rule" "I", .methodLink RX9 69 yX9_in, .static yX9_in, .initialized RX9, .code yX9_in cX9_in 6 (some .boolean)] ++ wsX90)
def wsX9_keepAct : List Cond := .code yX9_keepAct cX9_keepAct 2 none :: ([.fieldLink RX9 19 "LightestRulesModel" "row" "[I", .fieldLink RX9 129 "LightestRulesModel" "next" "I", .fieldLink RX9 13 "LightestRulesModel" "now" "[I", .fieldLink RX9 113 "LightestRulesModel" "acts" "I"] ++ wsX90)
def wsX9_eat : List Cond := .code yX9_eat cX9_eat 3 (some .int) :: ([.constantLong RX9 132 (9), .fieldLink RX9 13 "LightestRulesModel" "now" "[I", .methodLink RX9 116 yX9_isPerson, .instanceMethod yX9_isPerson, .selects RX9 yX9_isPerson yX9_isPerson, .initialized RX9, .code yX9_isPerson cX9_isPerson 2 (some .boolean), .fieldLink RX9 104 "LightestRulesModel" "many" "I", .methodLink RX9 69 yX9_in, .static yX9_in, .code yX9_in cX9_in 6 (some .boolean), .methodLink RX9 134 yX9_keepAct, .instanceMethod yX9_keepAct, .selects RX9 yX9_keepAct yX9_keepAct, .code yX9_keepAct cX9_keepAct 2 none, .fieldLink RX9 19 "LightestRulesModel" "row" "[I", .fieldLink RX9 129 "LightestRulesModel" "next" "I", .fieldLink RX9 113 "LightestRulesModel" "acts" "I"] ++ wsX90)
def wsX9_left : List Cond := .code yX9_left cX9_left 1 (some .int) :: ([])
def wsX9_toil : List Cond := .code yX9_toil cX9_toil 3 (some .int) :: ([.constantLong RX9 132 (9), .fieldLink RX9 13 "LightestRulesModel" "now" "[I", .methodLink RX9 116 yX9_isPerson, .instanceMethod yX9_isPerson, .selects RX9 yX9_isPerson yX9_isPerson, .initialized RX9, .code yX9_isPerson cX9_isPerson 2 (some .boolean), .fieldLink RX9 104 "LightestRulesModel" "many" "I", .methodLink RX9 69 yX9_in, .static yX9_in, .code yX9_in cX9_in 6 (some .boolean), .methodLink RX9 134 yX9_keepAct, .instanceMethod yX9_keepAct, .selects RX9 yX9_keepAct yX9_keepAct, .code yX9_keepAct cX9_keepAct 2 none, .fieldLink RX9 19 "LightestRulesModel" "row" "[I", .fieldLink RX9 129 "LightestRulesModel" "next" "I", .fieldLink RX9 113 "LightestRulesModel" "acts" "I", .methodLink RX9 137 yX9_left, .static yX9_left, .code yX9_left cX9_left 1 (some .int)] ++ wsX90)
def wsX9_drink : List Cond := .code yX9_drink cX9_drink 3 (some .int) :: ([.constantLong RX9 132 (9), .fieldLink RX9 13 "LightestRulesModel" "now" "[I", .methodLink RX9 116 yX9_isPerson, .instanceMethod yX9_isPerson, .selects RX9 yX9_isPerson yX9_isPerson, .initialized RX9, .code yX9_isPerson cX9_isPerson 2 (some .boolean), .fieldLink RX9 104 "LightestRulesModel" "many" "I", .methodLink RX9 69 yX9_in, .static yX9_in, .code yX9_in cX9_in 6 (some .boolean), .methodLink RX9 134 yX9_keepAct, .instanceMethod yX9_keepAct, .selects RX9 yX9_keepAct yX9_keepAct, .code yX9_keepAct cX9_keepAct 2 none, .fieldLink RX9 19 "LightestRulesModel" "row" "[I", .fieldLink RX9 129 "LightestRulesModel" "next" "I", .fieldLink RX9 113 "LightestRulesModel" "acts" "I"] ++ wsX90)
def wsX9_hand : List Cond := .code yX9_hand cX9_hand 5 (some .int) :: ([.fieldLink RX9 13 "LightestRulesModel" "now" "[I", .methodLink RX9 116 yX9_isPerson, .instanceMethod yX9_isPerson, .selects RX9 yX9_isPerson yX9_isPerson, .initialized RX9, .code yX9_isPerson cX9_isPerson 2 (some .boolean), .fieldLink RX9 104 "LightestRulesModel" "many" "I", .methodLink RX9 69 yX9_in, .static yX9_in, .code yX9_in cX9_in 6 (some .boolean), .methodLink RX9 134 yX9_keepAct, .instanceMethod yX9_keepAct, .selects RX9 yX9_keepAct yX9_keepAct, .code yX9_keepAct cX9_keepAct 2 none, .fieldLink RX9 19 "LightestRulesModel" "row" "[I", .fieldLink RX9 129 "LightestRulesModel" "next" "I", .fieldLink RX9 113 "LightestRulesModel" "acts" "I"] ++ wsX90)
def wsX9_day : List Cond := .code yX9_day cX9_day 2 (some .int) :: ([.fieldLink RX9 104 "LightestRulesModel" "many" "I", .fieldLink RX9 13 "LightestRulesModel" "now" "[I", .fieldLink RX9 107 "LightestRulesModel" "burn" "I", .methodLink RX9 134 yX9_keepAct, .instanceMethod yX9_keepAct, .selects RX9 yX9_keepAct yX9_keepAct, .initialized RX9, .code yX9_keepAct cX9_keepAct 2 none, .fieldLink RX9 19 "LightestRulesModel" "row" "[I", .fieldLink RX9 129 "LightestRulesModel" "next" "I", .fieldLink RX9 113 "LightestRulesModel" "acts" "I", .methodLink RX9 137 yX9_left, .static yX9_left, .code yX9_left cX9_left 1 (some .int)] ++ wsX90)
def wsX9_isLighter : List Cond := .code yX9_isLighter cX9_isLighter 4 (some .boolean) :: ([])
def wsX9_crownBy : List Cond := .code yX9_crownBy cX9_crownBy 6 (some .int) :: ([.fieldLink RX9 104 "LightestRulesModel" "many" "I", .methodLink RX9 124 yX9_isIll, .instanceMethod yX9_isIll, .selects RX9 yX9_isIll yX9_isIll, .initialized RX9, .code yX9_isIll cX9_isIll 2 (some .boolean), .fieldLink RX9 13 "LightestRulesModel" "now" "[I", .fieldLink RX9 110 "LightestRulesModel" "ill" "I", .methodLink RX9 120 yX9_noonOf, .instanceMethod yX9_noonOf, .selects RX9 yX9_noonOf yX9_noonOf, .code yX9_noonOf cX9_noonOf 2 (some .int), .methodLink RX9 140 yX9_isLighter, .static yX9_isLighter, .code yX9_isLighter cX9_isLighter 4 (some .boolean)] ++ wsX90)
def wsX9_crown : List Cond := .code yX9_crown cX9_crown 1 (some .int) :: ([.fieldLink RX9 63 "LightestRulesModel" "rule" "I", .methodLink RX9 144 yX9_crownBy, .instanceMethod yX9_crownBy, .selects RX9 yX9_crownBy yX9_crownBy, .initialized RX9, .code yX9_crownBy cX9_crownBy 6 (some .int), .fieldLink RX9 104 "LightestRulesModel" "many" "I", .methodLink RX9 124 yX9_isIll, .instanceMethod yX9_isIll, .selects RX9 yX9_isIll yX9_isIll, .code yX9_isIll cX9_isIll 2 (some .boolean), .fieldLink RX9 13 "LightestRulesModel" "now" "[I", .fieldLink RX9 110 "LightestRulesModel" "ill" "I", .methodLink RX9 120 yX9_noonOf, .instanceMethod yX9_noonOf, .selects RX9 yX9_noonOf yX9_noonOf, .code yX9_noonOf cX9_noonOf 2 (some .int), .methodLink RX9 140 yX9_isLighter, .static yX9_isLighter, .code yX9_isLighter cX9_isLighter 4 (some .boolean)] ++ wsX90)
def wsX9_noon_r1 : List Cond := [Cond.fieldLink RX9 63 "LightestRulesModel" "rule" "I", Cond.fieldLink RX9 13 "LightestRulesModel" "now" "[I", Cond.methodLink RX9 134 yX9_keepAct, Cond.instanceMethod yX9_keepAct, Cond.selects RX9 yX9_keepAct yX9_keepAct, Cond.initialized RX9, Cond.code yX9_keepAct cX9_keepAct 2 none, Cond.fieldLink RX9 19 "LightestRulesModel" "row" "[I", Cond.fieldLink RX9 129 "LightestRulesModel" "next" "I", Cond.fieldLink RX9 113 "LightestRulesModel" "acts" "I", Cond.methodLink RX9 144 yX9_crownBy, Cond.instanceMethod yX9_crownBy, Cond.selects RX9 yX9_crownBy yX9_crownBy, Cond.code yX9_crownBy cX9_crownBy 6 (some .int), Cond.fieldLink RX9 104 "LightestRulesModel" "many" "I", Cond.methodLink RX9 124 yX9_isIll, Cond.instanceMethod yX9_isIll, Cond.selects RX9 yX9_isIll yX9_isIll, Cond.code yX9_isIll cX9_isIll 2 (some .boolean), Cond.fieldLink RX9 110 "LightestRulesModel" "ill" "I", Cond.methodLink RX9 120 yX9_noonOf, Cond.instanceMethod yX9_noonOf, Cond.selects RX9 yX9_noonOf yX9_noonOf, Cond.code yX9_noonOf cX9_noonOf 2 (some .int)]
def wsX9_noon_r2 : List Cond := [Cond.methodLink RX9 140 yX9_isLighter, Cond.static yX9_isLighter, Cond.code yX9_isLighter cX9_isLighter 4 (some .boolean)]
def wsX9_noon : List Cond := .code yX9_noon cX9_noon 2 (some .int) :: ((wsX9_noon_r1 ++ wsX9_noon_r2) ++ wsX90)
def wsX9_undo : List Cond := .code yX9_undo cX9_undo 2 (some .int) :: ([.fieldLink RX9 113 "LightestRulesModel" "acts" "I", .fieldLink RX9 129 "LightestRulesModel" "next" "I", .fieldLink RX9 13 "LightestRulesModel" "now" "[I", .fieldLink RX9 19 "LightestRulesModel" "row" "[I"] ++ wsX90)
def wsX9_later : List Cond := .code yX9_later cX9_later 4 (some .int) :: ([.fieldLink RX9 13 "LightestRulesModel" "now" "[I", .fieldLink RX9 107 "LightestRulesModel" "burn" "I", .methodLink RX9 137 yX9_left, .static yX9_left, .initialized RX9, .code yX9_left cX9_left 1 (some .int), .methodLink RX9 120 yX9_noonOf, .instanceMethod yX9_noonOf, .selects RX9 yX9_noonOf yX9_noonOf, .code yX9_noonOf cX9_noonOf 2 (some .int)] ++ wsX90)
def wsX9_least : List Cond := .code yX9_least cX9_least 7 (some .int) :: ([.fieldLink RX9 104 "LightestRulesModel" "many" "I", .methodLink RX9 147 yX9_later, .instanceMethod yX9_later, .selects RX9 yX9_later yX9_later, .initialized RX9, .code yX9_later cX9_later 4 (some .int), .fieldLink RX9 13 "LightestRulesModel" "now" "[I", .fieldLink RX9 107 "LightestRulesModel" "burn" "I", .methodLink RX9 137 yX9_left, .static yX9_left, .code yX9_left cX9_left 1 (some .int), .methodLink RX9 120 yX9_noonOf, .instanceMethod yX9_noonOf, .selects RX9 yX9_noonOf yX9_noonOf, .code yX9_noonOf cX9_noonOf 2 (some .int), .methodLink RX9 140 yX9_isLighter, .static yX9_isLighter, .code yX9_isLighter cX9_isLighter 4 (some .boolean)] ++ wsX90)
def wsX9_share : List Cond := .code yX9_share cX9_share 3 (some .int) :: ([])
def wsX9_sure_r1 : List Cond := [Cond.constantLong RX9 151 (5), Cond.constantLong RX9 132 (9), Cond.fieldLink RX9 104 "LightestRulesModel" "many" "I", Cond.methodLink RX9 116 yX9_isPerson, Cond.instanceMethod yX9_isPerson, Cond.selects RX9 yX9_isPerson yX9_isPerson, Cond.initialized RX9, Cond.code yX9_isPerson cX9_isPerson 2 (some .boolean), Cond.methodLink RX9 69 yX9_in, Cond.static yX9_in, Cond.code yX9_in cX9_in 6 (some .boolean), Cond.methodLink RX9 153 yX9_least, Cond.instanceMethod yX9_least, Cond.selects RX9 yX9_least yX9_least, Cond.code yX9_least cX9_least 7 (some .int), Cond.methodLink RX9 147 yX9_later, Cond.instanceMethod yX9_later, Cond.selects RX9 yX9_later yX9_later, Cond.code yX9_later cX9_later 4 (some .int), Cond.fieldLink RX9 13 "LightestRulesModel" "now" "[I", Cond.fieldLink RX9 107 "LightestRulesModel" "burn" "I", Cond.methodLink RX9 137 yX9_left, Cond.static yX9_left, Cond.code yX9_left cX9_left 1 (some .int)]
def wsX9_sure_r2 : List Cond := [Cond.methodLink RX9 120 yX9_noonOf, Cond.instanceMethod yX9_noonOf, Cond.selects RX9 yX9_noonOf yX9_noonOf, Cond.code yX9_noonOf cX9_noonOf 2 (some .int), Cond.methodLink RX9 140 yX9_isLighter, Cond.static yX9_isLighter, Cond.code yX9_isLighter cX9_isLighter 4 (some .boolean), Cond.methodLink RX9 156 yX9_share, Cond.static yX9_share, Cond.code yX9_share cX9_share 3 (some .int)]
def wsX9_sure : List Cond := .code yX9_sure cX9_sure 7 (some .int) :: ((wsX9_sure_r1 ++ wsX9_sure_r2) ++ wsX90)
def wsX9_sureAt_r1 : List Cond := [Cond.constantLong RX9 151 (5), Cond.constantLong RX9 132 (9), Cond.fieldLink RX9 104 "LightestRulesModel" "many" "I", Cond.methodLink RX9 116 yX9_isPerson, Cond.instanceMethod yX9_isPerson, Cond.selects RX9 yX9_isPerson yX9_isPerson, Cond.initialized RX9, Cond.code yX9_isPerson cX9_isPerson 2 (some .boolean), Cond.methodLink RX9 69 yX9_in, Cond.static yX9_in, Cond.code yX9_in cX9_in 6 (some .boolean), Cond.methodLink RX9 153 yX9_least, Cond.instanceMethod yX9_least, Cond.selects RX9 yX9_least yX9_least, Cond.code yX9_least cX9_least 7 (some .int), Cond.methodLink RX9 147 yX9_later, Cond.instanceMethod yX9_later, Cond.selects RX9 yX9_later yX9_later, Cond.code yX9_later cX9_later 4 (some .int), Cond.fieldLink RX9 13 "LightestRulesModel" "now" "[I", Cond.fieldLink RX9 107 "LightestRulesModel" "burn" "I", Cond.methodLink RX9 137 yX9_left, Cond.static yX9_left, Cond.code yX9_left cX9_left 1 (some .int)]
def wsX9_sureAt_r2 : List Cond := [Cond.methodLink RX9 120 yX9_noonOf, Cond.instanceMethod yX9_noonOf, Cond.selects RX9 yX9_noonOf yX9_noonOf, Cond.code yX9_noonOf cX9_noonOf 2 (some .int), Cond.methodLink RX9 140 yX9_isLighter, Cond.static yX9_isLighter, Cond.code yX9_isLighter cX9_isLighter 4 (some .boolean), Cond.methodLink RX9 156 yX9_share, Cond.static yX9_share, Cond.code yX9_share cX9_share 3 (some .int)]
def wsX9_sureAt : List Cond := .code yX9_sureAt cX9_sureAt 6 (some .int) :: ((wsX9_sureAt_r1 ++ wsX9_sureAt_r2) ++ wsX90)
def wsX9_feed : List Cond := .code yX9_feed cX9_feed 5 (some .int) :: ([.fieldLink RX9 104 "LightestRulesModel" "many" "I", .methodLink RX9 116 yX9_isPerson, .instanceMethod yX9_isPerson, .selects RX9 yX9_isPerson yX9_isPerson, .initialized RX9, .code yX9_isPerson cX9_isPerson 2 (some .boolean), .methodLink RX9 69 yX9_in, .static yX9_in, .code yX9_in cX9_in 6 (some .boolean), .methodLink RX9 120 yX9_noonOf, .instanceMethod yX9_noonOf, .selects RX9 yX9_noonOf yX9_noonOf, .code yX9_noonOf cX9_noonOf 2 (some .int), .fieldLink RX9 13 "LightestRulesModel" "now" "[I", .methodLink RX9 140 yX9_isLighter, .static yX9_isLighter, .code yX9_isLighter cX9_isLighter 4 (some .boolean)] ++ wsX90)
def wsX9_ones : List Cond := .code yX9_ones cX9_ones 3 (some .int) :: ([])
def wsX9_weigh : List Cond := .code yX9_weigh cX9_weigh 4 (some .int) :: ([.constantLong RX9 159 (511), .constantLong RX9 127 (2), .fieldLink RX9 164 "LightestRulesModel" "weighings" "I", .fieldLink RX9 22 "LightestRulesModel" "lefts" "[I", .fieldLink RX9 25 "LightestRulesModel" "rights" "[I", .fieldLink RX9 28 "LightestRulesModel" "comes" "[I", .methodLink RX9 69 yX9_in, .static yX9_in, .initialized RX9, .code yX9_in cX9_in 6 (some .boolean), .methodLink RX9 161 yX9_ones, .static yX9_ones, .code yX9_ones cX9_ones 3 (some .int)] ++ wsX90)
def wsX9_unweigh : List Cond := .code yX9_unweigh cX9_unweigh 2 (some .int) :: ([.fieldLink RX9 164 "LightestRulesModel" "weighings" "I"] ++ wsX90)
def wsX9_mayBe : List Cond := .code yX9_mayBe cX9_mayBe 9 (some .int) :: ([.fieldLink RX9 164 "LightestRulesModel" "weighings" "I", .fieldLink RX9 22 "LightestRulesModel" "lefts" "[I", .fieldLink RX9 25 "LightestRulesModel" "rights" "[I", .fieldLink RX9 28 "LightestRulesModel" "comes" "[I"] ++ wsX90)
def wsX9_search : List Cond := .code yX9_search cX9_search 3 (some .int) :: ([.constantLong RX9 167 (31), .constantLong RX9 169 (45), .fieldLink RX9 171 "LightestRulesModel" "searches" "I", .fieldLink RX9 31 "LightestRulesModel" "searched" "[I", .fieldLink RX9 34 "LightestRulesModel" "together" "[I", .methodLink RX9 69 yX9_in, .static yX9_in, .initialized RX9, .code yX9_in cX9_in 6 (some .boolean)] ++ wsX90)
def wsX9_unsearch : List Cond := .code yX9_unsearch cX9_unsearch 2 (some .int) :: ([.fieldLink RX9 171 "LightestRulesModel" "searches" "I"] ++ wsX90)
def wsX9_tenTo : List Cond := .code yX9_tenTo cX9_tenTo 3 (some .int) :: ([])
def wsX9_fits : List Cond := .code yX9_fits cX9_fits 7 (some .boolean) :: ([.fieldLink RX9 171 "LightestRulesModel" "searches" "I", .fieldLink RX9 31 "LightestRulesModel" "searched" "[I", .fieldLink RX9 34 "LightestRulesModel" "together" "[I"] ++ wsX90)
def wsX9_layRows : List Cond := .code yX9_layRows cX9_layRows 5 (some .int) :: ([.fieldLink RX9 37 "LightestRulesModel" "leastOf" "[I", .fieldLink RX9 40 "LightestRulesModel" "mostOf" "[I", .constant RX9 174 (100000), .methodLink RX9 175 yX9_fits, .instanceMethod yX9_fits, .selects RX9 yX9_fits yX9_fits, .initialized RX9, .code yX9_fits cX9_fits 7 (some .boolean), .fieldLink RX9 171 "LightestRulesModel" "searches" "I", .fieldLink RX9 31 "LightestRulesModel" "searched" "[I", .fieldLink RX9 34 "LightestRulesModel" "together" "[I", .methodLink RX9 178 yX9_tenTo, .static yX9_tenTo, .code yX9_tenTo cX9_tenTo 3 (some .int)] ++ wsX90)
def wsX9_rows : List Cond := .code yX9_rows cX9_rows 1 (some .int) :: ([.methodLink RX9 181 yX9_layRows, .instanceMethod yX9_layRows, .selects RX9 yX9_layRows yX9_layRows, .initialized RX9, .code yX9_layRows cX9_layRows 5 (some .int), .fieldLink RX9 37 "LightestRulesModel" "leastOf" "[I", .fieldLink RX9 40 "LightestRulesModel" "mostOf" "[I", .constant RX9 174 (100000), .methodLink RX9 175 yX9_fits, .instanceMethod yX9_fits, .selects RX9 yX9_fits yX9_fits, .code yX9_fits cX9_fits 7 (some .boolean), .fieldLink RX9 171 "LightestRulesModel" "searches" "I", .fieldLink RX9 31 "LightestRulesModel" "searched" "[I", .fieldLink RX9 34 "LightestRulesModel" "together" "[I", .methodLink RX9 178 yX9_tenTo, .static yX9_tenTo, .code yX9_tenTo cX9_tenTo 3 (some .int)] ++ wsX90)
def wsX9_stones : List Cond := .code yX9_stones cX9_stones 3 (some .int) :: ([.constantLong RX9 184 (4), .fieldLink RX9 40 "LightestRulesModel" "mostOf" "[I", .fieldLink RX9 37 "LightestRulesModel" "leastOf" "[I", .methodLink RX9 69 yX9_in, .static yX9_in, .initialized RX9, .code yX9_in cX9_in 6 (some .boolean), .methodLink RX9 181 yX9_layRows, .instanceMethod yX9_layRows, .selects RX9 yX9_layRows yX9_layRows, .code yX9_layRows cX9_layRows 5 (some .int), .constant RX9 174 (100000), .methodLink RX9 175 yX9_fits, .instanceMethod yX9_fits, .selects RX9 yX9_fits yX9_fits, .code yX9_fits cX9_fits 7 (some .boolean), .fieldLink RX9 171 "LightestRulesModel" "searches" "I", .fieldLink RX9 31 "LightestRulesModel" "searched" "[I", .fieldLink RX9 34 "LightestRulesModel" "together" "[I", .methodLink RX9 178 yX9_tenTo, .static yX9_tenTo, .code yX9_tenTo cX9_tenTo 3 (some .int)] ++ wsX90)
def wsX9_ruled : List Cond := .code yX9_ruled cX9_ruled 2 (some .int) :: ([.fieldLink RX9 186 "LightestRulesModel" "months" "I", .fieldLink RX9 43 "LightestRulesModel" "rulers" "[I", .methodLink RX9 116 yX9_isPerson, .instanceMethod yX9_isPerson, .selects RX9 yX9_isPerson yX9_isPerson, .initialized RX9, .code yX9_isPerson cX9_isPerson 2 (some .boolean), .fieldLink RX9 104 "LightestRulesModel" "many" "I", .methodLink RX9 69 yX9_in, .static yX9_in, .code yX9_in cX9_in 6 (some .boolean)] ++ wsX90)
def wsX9_unrule : List Cond := .code yX9_unrule cX9_unrule 2 (some .int) :: ([.fieldLink RX9 186 "LightestRulesModel" "months" "I"] ++ wsX90)
def wsX9_ate : List Cond := .code yX9_ate cX9_ate 2 (some .int) :: ([])
def wsX9_isRuler : List Cond := .code yX9_isRuler cX9_isRuler 5 (some .boolean) :: ([.fieldLink RX9 104 "LightestRulesModel" "many" "I", .methodLink RX9 120 yX9_noonOf, .instanceMethod yX9_noonOf, .selects RX9 yX9_noonOf yX9_noonOf, .initialized RX9, .code yX9_noonOf cX9_noonOf 2 (some .int), .fieldLink RX9 13 "LightestRulesModel" "now" "[I", .methodLink RX9 189 yX9_ate, .static yX9_ate, .code yX9_ate cX9_ate 2 (some .int), .methodLink RX9 140 yX9_isLighter, .static yX9_isLighter, .code yX9_isLighter cX9_isLighter 4 (some .boolean)] ++ wsX90)
def wsX9_goMonth : List Cond := .code yX9_goMonth cX9_goMonth 6 none :: ([.fieldLink RX9 50 "LightestRulesModel" "then" "[J", .fieldLink RX9 46 "LightestRulesModel" "ways" "[J", .fieldLink RX9 104 "LightestRulesModel" "many" "I", .methodLink RX9 192 yX9_isRuler, .instanceMethod yX9_isRuler, .selects RX9 yX9_isRuler yX9_isRuler, .initialized RX9, .code yX9_isRuler cX9_isRuler 5 (some .boolean), .methodLink RX9 120 yX9_noonOf, .instanceMethod yX9_noonOf, .selects RX9 yX9_noonOf yX9_noonOf, .code yX9_noonOf cX9_noonOf 2 (some .int), .fieldLink RX9 13 "LightestRulesModel" "now" "[I", .methodLink RX9 189 yX9_ate, .static yX9_ate, .code yX9_ate cX9_ate 2 (some .int), .methodLink RX9 140 yX9_isLighter, .static yX9_isLighter, .code yX9_isLighter cX9_isLighter 4 (some .boolean)] ++ wsX90)
def wsX9_line_r1 : List Cond := [Cond.fieldLink RX9 104 "LightestRulesModel" "many" "I", Cond.constantLong RX9 196 (3), Cond.constantLong RX9 198 (-3), Cond.fieldLink RX9 46 "LightestRulesModel" "ways" "[J", Cond.fieldLink RX9 186 "LightestRulesModel" "months" "I", Cond.fieldLink RX9 43 "LightestRulesModel" "rulers" "[I", Cond.methodLink RX9 69 yX9_in, Cond.static yX9_in, Cond.initialized RX9, Cond.code yX9_in cX9_in 6 (some .boolean), Cond.methodLink RX9 200 yX9_goMonth, Cond.instanceMethod yX9_goMonth, Cond.selects RX9 yX9_goMonth yX9_goMonth, Cond.code yX9_goMonth cX9_goMonth 6 none, Cond.fieldLink RX9 50 "LightestRulesModel" "then" "[J", Cond.methodLink RX9 192 yX9_isRuler, Cond.instanceMethod yX9_isRuler, Cond.selects RX9 yX9_isRuler yX9_isRuler, Cond.code yX9_isRuler cX9_isRuler 5 (some .boolean), Cond.methodLink RX9 120 yX9_noonOf, Cond.instanceMethod yX9_noonOf, Cond.selects RX9 yX9_noonOf yX9_noonOf, Cond.code yX9_noonOf cX9_noonOf 2 (some .int), Cond.fieldLink RX9 13 "LightestRulesModel" "now" "[I"]
def wsX9_line_r2 : List Cond := [Cond.methodLink RX9 189 yX9_ate, Cond.static yX9_ate, Cond.code yX9_ate cX9_ate 2 (some .int), Cond.methodLink RX9 140 yX9_isLighter, Cond.static yX9_isLighter, Cond.code yX9_isLighter cX9_isLighter 4 (some .boolean)]
def wsX9_line : List Cond := .code yX9_line cX9_line 4 (some .long) :: ((wsX9_line_r1 ++ wsX9_line_r2) ++ wsX90)
def wsX9_seed : List Cond := .code yX9_seed cX9_seed 5 (some .long) :: ([.fieldLink RX9 204 "LightestRulesModel" "seed" "J"] ++ wsX90)
def wsX9_reign_r1 : List Cond := [Cond.constantLong RX9 127 (2), Cond.fieldLink RX9 53 "LightestRulesModel" "spare" "[I", Cond.fieldLink RX9 13 "LightestRulesModel" "now" "[I", Cond.fieldLink RX9 104 "LightestRulesModel" "many" "I", Cond.fieldLink RX9 204 "LightestRulesModel" "seed" "J", Cond.constantLong RX9 208 (6364136223846793005), Cond.constantLong RX9 210 (1442695040888963407), Cond.constantLong RX9 212 (7), Cond.methodLink RX9 116 yX9_isPerson, Cond.instanceMethod yX9_isPerson, Cond.selects RX9 yX9_isPerson yX9_isPerson, Cond.initialized RX9, Cond.code yX9_isPerson cX9_isPerson 2 (some .boolean), Cond.methodLink RX9 69 yX9_in, Cond.static yX9_in, Cond.code yX9_in cX9_in 6 (some .boolean), Cond.methodLink RX9 137 yX9_left, Cond.static yX9_left, Cond.code yX9_left cX9_left 1 (some .int), Cond.methodLink RX9 144 yX9_crownBy, Cond.instanceMethod yX9_crownBy, Cond.selects RX9 yX9_crownBy yX9_crownBy, Cond.code yX9_crownBy cX9_crownBy 6 (some .int), Cond.methodLink RX9 124 yX9_isIll]
def wsX9_reign_r2 : List Cond := [Cond.instanceMethod yX9_isIll, Cond.selects RX9 yX9_isIll yX9_isIll, Cond.code yX9_isIll cX9_isIll 2 (some .boolean), Cond.fieldLink RX9 110 "LightestRulesModel" "ill" "I", Cond.methodLink RX9 120 yX9_noonOf, Cond.instanceMethod yX9_noonOf, Cond.selects RX9 yX9_noonOf yX9_noonOf, Cond.code yX9_noonOf cX9_noonOf 2 (some .int), Cond.methodLink RX9 140 yX9_isLighter, Cond.static yX9_isLighter, Cond.code yX9_isLighter cX9_isLighter 4 (some .boolean)]
def wsX9_reign : List Cond := .code yX9_reign cX9_reign 7 (some .int) :: ((wsX9_reign_r1 ++ wsX9_reign_r2) ++ wsX90)
def wsX9_keep : List Cond := .code yX9_keep cX9_keep 3 (some .int) :: ([.fieldLink RX9 56 "LightestRulesModel" "isKept" "[Z", .fieldLink RX9 60 "LightestRulesModel" "kept" "[I", .fieldLink RX9 13 "LightestRulesModel" "now" "[I", .methodLink RX9 69 yX9_in, .static yX9_in, .initialized RX9, .code yX9_in cX9_in 6 (some .boolean)] ++ wsX90)
def wsX9_again : List Cond := .code yX9_again cX9_again 3 (some .int) :: ([.fieldLink RX9 56 "LightestRulesModel" "isKept" "[Z", .fieldLink RX9 13 "LightestRulesModel" "now" "[I", .fieldLink RX9 60 "LightestRulesModel" "kept" "[I", .fieldLink RX9 113 "LightestRulesModel" "acts" "I", .methodLink RX9 69 yX9_in, .static yX9_in, .initialized RX9, .code yX9_in cX9_in 6 (some .boolean)] ++ wsX90)
def wsX9_count : List Cond := .code yX9_count cX9_count 5 (some .int) :: ([.fieldLink RX9 104 "LightestRulesModel" "many" "I", .fieldLink RX9 13 "LightestRulesModel" "now" "[I", .fieldLink RX9 73 "LightestRulesModel" "length" "I", .fieldLink RX9 113 "LightestRulesModel" "acts" "I", .fieldLink RX9 164 "LightestRulesModel" "weighings" "I", .fieldLink RX9 171 "LightestRulesModel" "searches" "I", .fieldLink RX9 186 "LightestRulesModel" "months" "I", .fieldLink RX9 63 "LightestRulesModel" "rule" "I", .methodLink RX9 124 yX9_isIll, .instanceMethod yX9_isIll, .selects RX9 yX9_isIll yX9_isIll, .initialized RX9, .code yX9_isIll cX9_isIll 2 (some .boolean), .fieldLink RX9 110 "LightestRulesModel" "ill" "I"] ++ wsX90)
def wsJ9_max_7cf53 : List Cond := .code yJ9_max_7cf53 cJ9_max_7cf53 2 (some .int) :: ([])
def wsJ9_min_7cf53 : List Cond := .code yJ9_min_7cf53 cJ9_min_7cf53 2 (some .int) :: ([])
def wsL_law_r1 : List Cond := [Cond.classLink RL 7 RX8, Cond.instantiable RX8 9, Cond.initialized RX8, Cond.classLink RL 10 RX9, Cond.instantiable RX9 34, Cond.initialized RX9, Cond.constantLong RL 13 (4294967295), Cond.methodLink RL 9 yX8_init, Cond.instanceMethod yX8_init, Cond.code yX8_init cX8_init 1 none, Cond.methodLink RX8 1 objectInit, Cond.instanceMethod objectInit, Cond.code objectInit ⟨#[0xb1]⟩ 1 none, Cond.classLink RX8 7 RX1, Cond.instantiable RX1 2, Cond.initialized RX1, Cond.fieldLink RX8 10 "LightestRules" "text" "LLightestRules$LandText;", Cond.classLink RX8 16 RX2, Cond.instantiable RX2 4, Cond.initialized RX2, Cond.fieldLink RX8 19 "LightestRules" "folk" "LLightestRules$People;", Cond.classLink RX8 23 RX0, Cond.instantiable RX0 3, Cond.initialized RX0]
def wsL_law_r2 : List Cond := [Cond.fieldLink RX8 26 "LightestRules" "acts" "LLightestRules$ActRow;", Cond.classLink RX8 30 RX5, Cond.instantiable RX5 2, Cond.initialized RX5, Cond.fieldLink RX8 33 "LightestRules" "slots" "LLightestRules$Slots;", Cond.classLink RX8 37 RX6, Cond.instantiable RX6 4, Cond.initialized RX6, Cond.fieldLink RX8 40 "LightestRules" "weighings" "LLightestRules$Weighings;", Cond.classLink RX8 44 RX4, Cond.instantiable RX4 7, Cond.initialized RX4, Cond.fieldLink RX8 47 "LightestRules" "searches" "LLightestRules$Searches;", Cond.classLink RX8 51 RX3, Cond.instantiable RX3 4, Cond.initialized RX3, Cond.fieldLink RX8 54 "LightestRules" "told" "LLightestRules$RulersLine;", Cond.classLink RX8 58 RX7, Cond.instantiable RX7 2, Cond.initialized RX7, Cond.fieldLink RX8 61 "LightestRules" "year" "LLightestRules$Year;", Cond.fieldLink RX8 65 "LightestRules" "lawNow" "I", Cond.methodLink RX8 9 yX1_init, Cond.instanceMethod yX1_init]
def wsL_law_r3 : List Cond := [Cond.code yX1_init cX1_init 1 none, Cond.methodLink RX1 3 objectInit, Cond.arrayClass .int, Cond.fieldLink RX1 11 "LightestRules$LandText" "bytes" "[I", Cond.fieldLink RX1 15 "LightestRules$LandText" "length" "I", Cond.methodLink RX8 18 yX2_init, Cond.instanceMethod yX2_init, Cond.code yX2_init cX2_init 1 none, Cond.methodLink RX2 5 objectInit, Cond.fieldLink RX2 11 "LightestRules$People" "cells" "[I", Cond.fieldLink RX2 15 "LightestRules$People" "size" "I", Cond.fieldLink RX2 19 "LightestRules$People" "burn" "I", Cond.fieldLink RX2 22 "LightestRules$People" "ill" "I", Cond.methodLink RX8 25 yX0_init, Cond.instanceMethod yX0_init, Cond.code yX0_init cX0_init 1 none, Cond.methodLink RX0 1 objectInit, Cond.fieldLink RX0 11 "LightestRules$ActRow" "before" "[I", Cond.fieldLink RX0 15 "LightestRules$ActRow" "first" "I", Cond.fieldLink RX0 19 "LightestRules$ActRow" "length" "I", Cond.methodLink RX8 32 yX5_init, Cond.instanceMethod yX5_init, Cond.code yX5_init cX5_init 1 none, Cond.methodLink RX5 1 objectInit]
def wsL_law_r4 : List Cond := [Cond.fieldLink RX5 11 "LightestRules$Slots" "kept" "[I", Cond.fieldLink RX5 15 "LightestRules$Slots" "filledBits" "I", Cond.methodLink RX8 39 yX6_init, Cond.instanceMethod yX6_init, Cond.code yX6_init cX6_init 1 none, Cond.methodLink RX6 3 objectInit, Cond.fieldLink RX6 9 "LightestRules$Weighings" "lefts" "[I", Cond.fieldLink RX6 13 "LightestRules$Weighings" "rights" "[I", Cond.fieldLink RX6 16 "LightestRules$Weighings" "results" "[I", Cond.fieldLink RX6 19 "LightestRules$Weighings" "length" "I", Cond.methodLink RX8 46 yX4_init, Cond.instanceMethod yX4_init, Cond.code yX4_init cX4_init 1 none, Cond.methodLink RX4 3 objectInit, Cond.fieldLink RX4 11 "LightestRules$Searches" "searched" "[I", Cond.fieldLink RX4 15 "LightestRules$Searches" "missing" "[I", Cond.fieldLink RX4 20 "LightestRules$Searches" "least" "[I", Cond.fieldLink RX4 23 "LightestRules$Searches" "most" "[I", Cond.fieldLink RX4 26 "LightestRules$Searches" "length" "I", Cond.fieldLink RX4 30 "LightestRules$Searches" "found" "I", Cond.fieldLink RX4 33 "LightestRules$Searches" "fresh" "Z", Cond.methodLink RX8 53 yX3_init, Cond.instanceMethod yX3_init, Cond.code yX3_init cX3_init 1 none]
def wsL_law_r5 : List Cond := [Cond.methodLink RX3 5 objectInit, Cond.fieldLink RX3 11 "LightestRules$RulersLine" "rulers" "[I", Cond.fieldLink RX3 15 "LightestRules$RulersLine" "weights" "[I", Cond.arrayClass .long, Cond.fieldLink RX3 18 "LightestRules$RulersLine" "ways" "[J", Cond.fieldLink RX3 22 "LightestRules$RulersLine" "length" "I", Cond.methodLink RX8 60 yX7_init, Cond.instanceMethod yX7_init, Cond.code yX7_init cX7_init 1 none, Cond.methodLink RX7 1 objectInit, Cond.classLink RX7 7 RX2, Cond.fieldLink RX7 10 "LightestRules$Year" "lookalikes" "LLightestRules$People;", Cond.fieldLink RX7 16 "LightestRules$Year" "grown" "J", Cond.methodLink RX7 9 yX2_init, Cond.methodLink RL 12 yX9_init, Cond.instanceMethod yX9_init, Cond.code yX9_init cX9_init 1 none, Cond.methodLink RX9 1 objectInit, Cond.fieldLink RX9 7 "LightestRulesModel" "read" "[I", Cond.fieldLink RX9 13 "LightestRulesModel" "now" "[I", Cond.fieldLink RX9 16 "LightestRulesModel" "text" "[I", Cond.fieldLink RX9 19 "LightestRulesModel" "row" "[I", Cond.fieldLink RX9 22 "LightestRulesModel" "lefts" "[I", Cond.fieldLink RX9 25 "LightestRulesModel" "rights" "[I"]
def wsL_law_r6 : List Cond := [Cond.fieldLink RX9 28 "LightestRulesModel" "comes" "[I", Cond.fieldLink RX9 31 "LightestRulesModel" "searched" "[I", Cond.fieldLink RX9 34 "LightestRulesModel" "together" "[I", Cond.fieldLink RX9 37 "LightestRulesModel" "leastOf" "[I", Cond.fieldLink RX9 40 "LightestRulesModel" "mostOf" "[I", Cond.fieldLink RX9 43 "LightestRulesModel" "rulers" "[I", Cond.fieldLink RX9 46 "LightestRulesModel" "ways" "[J", Cond.fieldLink RX9 50 "LightestRulesModel" "then" "[J", Cond.fieldLink RX9 53 "LightestRulesModel" "spare" "[I", Cond.arrayClass .boolean, Cond.fieldLink RX9 56 "LightestRulesModel" "isKept" "[Z", Cond.fieldLink RX9 60 "LightestRulesModel" "kept" "[I", Cond.fieldLink RX9 63 "LightestRulesModel" "rule" "I", Cond.methodLink RL 15 yX8_write, Cond.instanceMethod yX8_write, Cond.selects RX8 yX8_write yX8_write, Cond.code yX8_write cX8_write 4 (some .int), Cond.methodLink RX8 69 yX1_append, Cond.instanceMethod yX1_append, Cond.selects RX1 yX1_append yX1_append, Cond.code yX1_append cX1_append 5 (some .boolean), Cond.methodLink RX8 73 yX1_length, Cond.instanceMethod yX1_length, Cond.selects RX1 yX1_length yX1_length]
def wsL_law_r7 : List Cond := [Cond.code yX1_length cX1_length 1 (some .int), Cond.methodLink RL 19 yX9_write, Cond.instanceMethod yX9_write, Cond.selects RX9 yX9_write yX9_write, Cond.code yX9_write cX9_write 5 (some .int), Cond.constantLong RX9 67 (8), Cond.fieldLink RX9 73 "LightestRulesModel" "length" "I", Cond.constantLong RX9 76 (255), Cond.methodLink RX9 69 yX9_in, Cond.static yX9_in, Cond.code yX9_in cX9_in 6 (some .boolean), Cond.methodLink RL 20 yX8_wipe, Cond.instanceMethod yX8_wipe, Cond.selects RX8 yX8_wipe yX8_wipe, Cond.code yX8_wipe cX8_wipe 2 (some .int), Cond.methodLink RX8 77 yX1_clear, Cond.instanceMethod yX1_clear, Cond.selects RX1 yX1_clear yX1_clear, Cond.code yX1_clear cX1_clear 1 none, Cond.methodLink RL 24 yX9_wipe, Cond.instanceMethod yX9_wipe, Cond.selects RX9 yX9_wipe yX9_wipe, Cond.code yX9_wipe cX9_wipe 2 (some .int), Cond.methodLink RL 25 yX8_fault]
def wsL_law_r8 : List Cond := [Cond.instanceMethod yX8_fault, Cond.selects RX8 yX8_fault yX8_fault, Cond.code yX8_fault cX8_fault 1 (some .int), Cond.methodLink RX8 80 yX1_firstFault, Cond.instanceMethod yX1_firstFault, Cond.selects RX1 yX1_firstFault yX1_firstFault, Cond.code yX1_firstFault cX1_firstFault 2 (some .int), Cond.methodLink RX1 19 yX1_mayStandAt, Cond.static yX1_mayStandAt, Cond.code yX1_mayStandAt cX1_mayStandAt 3 (some .boolean), Cond.methodLink RL 28 yX9_fault, Cond.instanceMethod yX9_fault, Cond.selects RX9 yX9_fault yX9_fault, Cond.code yX9_fault cX9_fault 1 (some .int), Cond.methodLink RX9 100 yX9_readText, Cond.instanceMethod yX9_readText, Cond.selects RX9 yX9_readText yX9_readText, Cond.code yX9_readText cX9_readText 4 (some .int), Cond.fieldLink RX9 81 "LightestRulesModel" "at" "I", Cond.fieldLink RX9 78 "LightestRulesModel" "faultAt" "I", Cond.fieldLink RX9 84 "LightestRulesModel" "readMany" "I", Cond.fieldLink RX9 91 "LightestRulesModel" "readRule" "I", Cond.fieldLink RX9 94 "LightestRulesModel" "readBurn" "I", Cond.fieldLink RX9 97 "LightestRulesModel" "readIll" "I"]
def wsL_law_r9 : List Cond := [Cond.methodLink RX9 87 yX9_figure, Cond.instanceMethod yX9_figure, Cond.selects RX9 yX9_figure yX9_figure, Cond.code yX9_figure cX9_figure 4 (some .int), Cond.methodLink RL 29 yX8_land, Cond.instanceMethod yX8_land, Cond.selects RX8 yX8_land yX8_land, Cond.code yX8_land cX8_land 1 (some .int), Cond.methodLink RX8 83 yX1_figure, Cond.instanceMethod yX1_figure, Cond.selects RX1 yX1_figure yX1_figure, Cond.code yX1_figure cX1_figure 2 (some .int), Cond.methodLink RX8 87 yX2_settle, Cond.instanceMethod yX2_settle, Cond.selects RX2 yX2_settle yX2_settle, Cond.code yX2_settle cX2_settle 3 none, Cond.methodLink RX2 41 Lib.Math.min.name, Cond.static Lib.Math.min.name, Cond.initialized "java/lang/Math", Cond.code Lib.Math.min.name Lib.Math.min.code 2 (some .int), Cond.methodLink RX2 25 yJ7_fill_53178, Cond.static yJ7_fill_53178, Cond.initialized RJ7, Cond.code yJ7_fill_53178 cJ7_fill_53178 4 none]
def wsL_law_r10 : List Cond := [Cond.methodLink RX2 31 yX1_figure, Cond.methodLink RX2 37 yX1_parts, Cond.instanceMethod yX1_parts, Cond.selects RX1 yX1_parts yX1_parts, Cond.code yX1_parts cX1_parts 1 (some .int), Cond.methodLink RX2 47 yX1_partFigure, Cond.instanceMethod yX1_partFigure, Cond.selects RX1 yX1_partFigure yX1_partFigure, Cond.code yX1_partFigure cX1_partFigure 3 (some .int), Cond.methodLink RX1 25 yX1_figure, Cond.methodLink RX2 50 yX2_add, Cond.instanceMethod yX2_add, Cond.selects RX2 yX2_add yX2_add, Cond.code yX2_add cX2_add 5 none, Cond.methodLink RX8 91 yX0_clear, Cond.instanceMethod yX0_clear, Cond.selects RX0 yX0_clear yX0_clear, Cond.code yX0_clear cX0_clear 1 none, Cond.methodLink RX8 92 yX5_clear, Cond.instanceMethod yX5_clear, Cond.selects RX5 yX5_clear yX5_clear, Cond.code yX5_clear cX5_clear 1 none, Cond.methodLink RX8 93 yX2_size, Cond.instanceMethod yX2_size]
def wsL_law_r11 : List Cond := [Cond.selects RX2 yX2_size yX2_size, Cond.code yX2_size cX2_size 1 (some .int), Cond.methodLink RL 32 yX9_land, Cond.instanceMethod yX9_land, Cond.selects RX9 yX9_land yX9_land, Cond.code yX9_land cX9_land 2 (some .int), Cond.fieldLink RX9 104 "LightestRulesModel" "many" "I", Cond.fieldLink RX9 107 "LightestRulesModel" "burn" "I", Cond.fieldLink RX9 110 "LightestRulesModel" "ill" "I", Cond.fieldLink RX9 113 "LightestRulesModel" "acts" "I", Cond.methodLink RL 33 yX8_person, Cond.instanceMethod yX8_person, Cond.selects RX8 yX8_person yX8_person, Cond.code yX8_person cX8_person 3 (some .int), Cond.methodLink RX8 96 yX2_has, Cond.instanceMethod yX2_has, Cond.selects RX2 yX2_has yX2_has, Cond.code yX2_has cX2_has 2 (some .boolean), Cond.methodLink RX8 100 yX2_get, Cond.instanceMethod yX2_get, Cond.selects RX2 yX2_get yX2_get, Cond.code yX2_get cX2_get 4 (some .int), Cond.methodLink RX8 104 yX2_noonWeight, Cond.instanceMethod yX2_noonWeight]
def wsL_law_r12 : List Cond := [Cond.selects RX2 yX2_noonWeight yX2_noonWeight, Cond.code yX2_noonWeight cX2_noonWeight 2 (some .int), Cond.methodLink RX2 60 yX2_get, Cond.methodLink RX2 69 yX2_pocketWeight, Cond.instanceMethod yX2_pocketWeight, Cond.selects RX2 yX2_pocketWeight yX2_pocketWeight, Cond.code yX2_pocketWeight cX2_pocketWeight 2 (some .int), Cond.methodLink RX8 107 yX2_isIll, Cond.instanceMethod yX2_isIll, Cond.selects RX2 yX2_isIll yX2_isIll, Cond.code yX2_isIll cX2_isIll 2 (some .boolean), Cond.methodLink RL 37 yX9_person, Cond.instanceMethod yX9_person, Cond.selects RX9 yX9_person yX9_person, Cond.code yX9_person cX9_person 3 (some .int), Cond.methodLink RX9 116 yX9_isPerson, Cond.instanceMethod yX9_isPerson, Cond.selects RX9 yX9_isPerson yX9_isPerson, Cond.code yX9_isPerson cX9_isPerson 2 (some .boolean), Cond.methodLink RX9 120 yX9_noonOf, Cond.instanceMethod yX9_noonOf, Cond.selects RX9 yX9_noonOf yX9_noonOf, Cond.code yX9_noonOf cX9_noonOf 2 (some .int), Cond.methodLink RX9 124 yX9_isIll]
def wsL_law_r13 : List Cond := [Cond.instanceMethod yX9_isIll, Cond.selects RX9 yX9_isIll yX9_isIll, Cond.code yX9_isIll cX9_isIll 2 (some .boolean), Cond.methodLink RL 38 yX8_law, Cond.instanceMethod yX8_law, Cond.selects RX8 yX8_law yX8_law, Cond.code yX8_law cX8_law 3 (some .int), Cond.methodLink RX8 110 yX8_isLaw, Cond.static yX8_isLaw, Cond.code yX8_isLaw cX8_isLaw 1 (some .boolean), Cond.methodLink RL 42 yX9_law, Cond.instanceMethod yX9_law, Cond.selects RX9 yX9_law yX9_law, Cond.code yX9_law cX9_law 3 (some .int), Cond.constantLong RX9 127 (2), Cond.methodLink RL 43 yX8_eat, Cond.instanceMethod yX8_eat, Cond.selects RX8 yX8_eat yX8_eat, Cond.code yX8_eat cX8_eat 4 (some .int), Cond.methodLink RX8 113 yX8_refusalOf, Cond.instanceMethod yX8_refusalOf, Cond.selects RX8 yX8_refusalOf yX8_refusalOf, Cond.code yX8_refusalOf cX8_refusalOf 3 (some .int), Cond.methodLink RX8 116 yX0_remember]
def wsL_law_r14 : List Cond := [Cond.instanceMethod yX0_remember, Cond.selects RX0 yX0_remember yX0_remember, Cond.code yX0_remember cX0_remember 2 none, Cond.methodLink RX0 22 yX2_copyTo, Cond.instanceMethod yX2_copyTo, Cond.selects RX2 yX2_copyTo yX2_copyTo, Cond.code yX2_copyTo cX2_copyTo 3 none, Cond.methodLink RX2 54 arraycopyName, Cond.native arraycopyName, Cond.static arraycopyName, Cond.initialized "java/lang/System", Cond.methodLink RX8 120 yX2_add, Cond.methodLink RX8 124 yX2_gain, Cond.instanceMethod yX2_gain, Cond.selects RX2 yX2_gain yX2_gain, Cond.code yX2_gain cX2_gain 4 (some .int), Cond.methodLink RX2 63 Lib.Math.max.name, Cond.static Lib.Math.max.name, Cond.code Lib.Math.max.name Lib.Math.max.code 2 (some .int), Cond.methodLink RL 46 yX9_eat, Cond.instanceMethod yX9_eat, Cond.selects RX9 yX9_eat yX9_eat, Cond.code yX9_eat cX9_eat 3 (some .int), Cond.constantLong RX9 132 (9)]
def wsL_law_r15 : List Cond := [Cond.methodLink RX9 134 yX9_keepAct, Cond.instanceMethod yX9_keepAct, Cond.selects RX9 yX9_keepAct yX9_keepAct, Cond.code yX9_keepAct cX9_keepAct 2 none, Cond.fieldLink RX9 129 "LightestRulesModel" "next" "I", Cond.methodLink RL 47 yX8_toil, Cond.instanceMethod yX8_toil, Cond.selects RX8 yX8_toil yX8_toil, Cond.code yX8_toil cX8_toil 4 (some .int), Cond.methodLink RL 50 yX9_toil, Cond.instanceMethod yX9_toil, Cond.selects RX9 yX9_toil yX9_toil, Cond.code yX9_toil cX9_toil 3 (some .int), Cond.methodLink RX9 137 yX9_left, Cond.static yX9_left, Cond.code yX9_left cX9_left 1 (some .int), Cond.methodLink RL 51 yX8_drink, Cond.instanceMethod yX8_drink, Cond.selects RX8 yX8_drink yX8_drink, Cond.code yX8_drink cX8_drink 5 (some .int), Cond.methodLink RL 54 yX9_drink, Cond.instanceMethod yX9_drink, Cond.selects RX9 yX9_drink yX9_drink, Cond.code yX9_drink cX9_drink 3 (some .int)]
def wsL_law_r16 : List Cond := [Cond.methodLink RL 55 yX8_hand, Cond.instanceMethod yX8_hand, Cond.selects RX8 yX8_hand yX8_hand, Cond.code yX8_hand cX8_hand 5 (some .int), Cond.methodLink RL 59 yX9_hand, Cond.instanceMethod yX9_hand, Cond.selects RX9 yX9_hand yX9_hand, Cond.code yX9_hand cX9_hand 5 (some .int), Cond.methodLink RL 60 yX8_day, Cond.instanceMethod yX8_day, Cond.selects RX8 yX8_day yX8_day, Cond.code yX8_day cX8_day 1 (some .int), Cond.methodLink RX8 127 yX2_passDay, Cond.instanceMethod yX2_passDay, Cond.selects RX2 yX2_passDay yX2_passDay, Cond.code yX2_passDay cX2_passDay 3 none, Cond.methodLink RX2 66 yX2_gain, Cond.methodLink RX8 130 yX2_today, Cond.instanceMethod yX2_today, Cond.selects RX2 yX2_today yX2_today, Cond.code yX2_today cX2_today 1 (some .int), Cond.methodLink RL 63 yX9_day, Cond.instanceMethod yX9_day, Cond.selects RX9 yX9_day yX9_day]
def wsL_law_r17 : List Cond := [Cond.code yX9_day cX9_day 2 (some .int), Cond.methodLink RL 64 yX8_crown, Cond.instanceMethod yX8_crown, Cond.selects RX8 yX8_crown yX8_crown, Cond.code yX8_crown cX8_crown 1 (some .int), Cond.methodLink RX8 133 yX2_crownedBy, Cond.instanceMethod yX2_crownedBy, Cond.selects RX2 yX2_crownedBy yX2_crownedBy, Cond.code yX2_crownedBy cX2_crownedBy 3 (some .int), Cond.methodLink RX2 76 yX2_illBits, Cond.instanceMethod yX2_illBits, Cond.selects RX2 yX2_illBits yX2_illBits, Cond.code yX2_illBits cX2_illBits 3 (some .int), Cond.methodLink RX2 72 yX2_isIll, Cond.methodLink RX2 79 yX2_lightestBut, Cond.instanceMethod yX2_lightestBut, Cond.selects RX2 yX2_lightestBut yX2_lightestBut, Cond.code yX2_lightestBut cX2_lightestBut 5 (some .int), Cond.methodLink RX2 82 yX2_noonWeight, Cond.methodLink RL 67 yX9_crown, Cond.instanceMethod yX9_crown, Cond.selects RX9 yX9_crown yX9_crown, Cond.code yX9_crown cX9_crown 1 (some .int), Cond.methodLink RX9 144 yX9_crownBy]
def wsL_law_r18 : List Cond := [Cond.instanceMethod yX9_crownBy, Cond.selects RX9 yX9_crownBy yX9_crownBy, Cond.code yX9_crownBy cX9_crownBy 6 (some .int), Cond.methodLink RX9 140 yX9_isLighter, Cond.static yX9_isLighter, Cond.code yX9_isLighter cX9_isLighter 4 (some .boolean), Cond.methodLink RL 68 yX8_noon, Cond.instanceMethod yX8_noon, Cond.selects RX8 yX8_noon yX8_noon, Cond.code yX8_noon cX8_noon 2 (some .int), Cond.methodLink RL 71 yX9_noon, Cond.instanceMethod yX9_noon, Cond.selects RX9 yX9_noon yX9_noon, Cond.code yX9_noon cX9_noon 2 (some .int), Cond.methodLink RL 72 yX8_undo, Cond.instanceMethod yX8_undo, Cond.selects RX8 yX8_undo yX8_undo, Cond.code yX8_undo cX8_undo 1 (some .int), Cond.methodLink RX8 136 yX0_length, Cond.instanceMethod yX0_length, Cond.selects RX0 yX0_length yX0_length, Cond.code yX0_length cX0_length 1 (some .int), Cond.methodLink RX8 137 yX0_takeBack, Cond.instanceMethod yX0_takeBack]
def wsL_law_r19 : List Cond := [Cond.selects RX0 yX0_takeBack yX0_takeBack, Cond.code yX0_takeBack cX0_takeBack 2 none, Cond.methodLink RX0 26 yX2_copyFrom, Cond.instanceMethod yX2_copyFrom, Cond.selects RX2 yX2_copyFrom yX2_copyFrom, Cond.code yX2_copyFrom cX2_copyFrom 3 none, Cond.methodLink RL 75 yX9_undo, Cond.instanceMethod yX9_undo, Cond.selects RX9 yX9_undo yX9_undo, Cond.code yX9_undo cX9_undo 2 (some .int), Cond.methodLink RL 76 yX8_sure, Cond.instanceMethod yX8_sure, Cond.selects RX8 yX8_sure yX8_sure, Cond.code yX8_sure cX8_sure 8 (some .int), Cond.methodLink RX8 140 yX8_refusalOfSure, Cond.instanceMethod yX8_refusalOfSure, Cond.selects RX8 yX8_refusalOfSure yX8_refusalOfSure, Cond.code yX8_refusalOfSure cX8_refusalOfSure 4 (some .int), Cond.methodLink RX8 144 yX8_leastSureToil, Cond.instanceMethod yX8_leastSureToil, Cond.selects RX8 yX8_leastSureToil yX8_leastSureToil, Cond.code yX8_leastSureToil cX8_leastSureToil 5 (some .int), Cond.methodLink RX8 150 yX2_winsWith, Cond.instanceMethod yX2_winsWith]
def wsL_law_r20 : List Cond := [Cond.selects RX2 yX2_winsWith yX2_winsWith, Cond.code yX2_winsWith cX2_winsWith 8 (some .boolean), Cond.methodLink RX2 85 yX2_noonWeightBehind, Cond.instanceMethod yX2_noonWeightBehind, Cond.selects RX2 yX2_noonWeightBehind yX2_noonWeightBehind, Cond.code yX2_noonWeightBehind cX2_noonWeightBehind 5 (some .int), Cond.methodLink RX8 147 yX8_toilOnDay, Cond.static yX8_toilOnDay, Cond.code yX8_toilOnDay cX8_toilOnDay 3 (some .int), Cond.methodLink RL 80 yX9_sure, Cond.instanceMethod yX9_sure, Cond.selects RX9 yX9_sure yX9_sure, Cond.code yX9_sure cX9_sure 7 (some .int), Cond.constantLong RX9 151 (5), Cond.methodLink RX9 153 yX9_least, Cond.instanceMethod yX9_least, Cond.selects RX9 yX9_least yX9_least, Cond.code yX9_least cX9_least 7 (some .int), Cond.methodLink RX9 147 yX9_later, Cond.instanceMethod yX9_later, Cond.selects RX9 yX9_later yX9_later, Cond.code yX9_later cX9_later 4 (some .int), Cond.methodLink RX9 156 yX9_share, Cond.static yX9_share]
def wsL_law_r21 : List Cond := [Cond.code yX9_share cX9_share 3 (some .int), Cond.methodLink RL 81 yX8_sureAt, Cond.instanceMethod yX8_sureAt, Cond.selects RX8 yX8_sureAt yX8_sureAt, Cond.code yX8_sureAt cX8_sureAt 7 (some .int), Cond.methodLink RL 85 yX9_sureAt, Cond.instanceMethod yX9_sureAt, Cond.selects RX9 yX9_sureAt yX9_sureAt, Cond.code yX9_sureAt cX9_sureAt 6 (some .int), Cond.methodLink RL 86 yX8_feed, Cond.instanceMethod yX8_feed, Cond.selects RX8 yX8_feed yX8_feed, Cond.code yX8_feed cX8_feed 2 (some .int), Cond.methodLink RX8 154 yX2_loavesToWin, Cond.instanceMethod yX2_loavesToWin, Cond.selects RX2 yX2_loavesToWin yX2_loavesToWin, Cond.code yX2_loavesToWin cX2_loavesToWin 5 (some .int), Cond.methodLink RL 89 yX9_feed, Cond.instanceMethod yX9_feed, Cond.selects RX9 yX9_feed yX9_feed, Cond.code yX9_feed cX9_feed 5 (some .int), Cond.methodLink RL 90 yX8_weigh, Cond.instanceMethod yX8_weigh, Cond.selects RX8 yX8_weigh yX8_weigh]
def wsL_law_r22 : List Cond := [Cond.code yX8_weigh cX8_weigh 4 (some .int), Cond.methodLink RX8 157 yX6_mayStand, Cond.static yX6_mayStand, Cond.code yX6_mayStand cX6_mayStand 3 (some .boolean), Cond.methodLink RX6 23 yJ6_bitCount_0f7a4, Cond.static yJ6_bitCount_0f7a4, Cond.initialized RJ6, Cond.code yJ6_bitCount_0f7a4 cJ6_bitCount_0f7a4 1 (some .int), Cond.constant RJ6 265 (1431655765), Cond.constant RJ6 266 (858993459), Cond.constant RJ6 267 (252645135), Cond.methodLink RX8 161 yX6_append, Cond.instanceMethod yX6_append, Cond.selects RX6 yX6_append yX6_append, Cond.code yX6_append cX6_append 4 (some .boolean), Cond.methodLink RX8 164 yX6_length, Cond.instanceMethod yX6_length, Cond.selects RX6 yX6_length yX6_length, Cond.code yX6_length cX6_length 1 (some .int), Cond.methodLink RL 93 yX9_weigh, Cond.instanceMethod yX9_weigh, Cond.selects RX9 yX9_weigh yX9_weigh, Cond.code yX9_weigh cX9_weigh 4 (some .int), Cond.constantLong RX9 159 (511)]
def wsL_law_r23 : List Cond := [Cond.fieldLink RX9 164 "LightestRulesModel" "weighings" "I", Cond.methodLink RX9 161 yX9_ones, Cond.static yX9_ones, Cond.code yX9_ones cX9_ones 3 (some .int), Cond.methodLink RL 94 yX8_unweigh, Cond.instanceMethod yX8_unweigh, Cond.selects RX8 yX8_unweigh yX8_unweigh, Cond.code yX8_unweigh cX8_unweigh 2 (some .int), Cond.methodLink RX8 165 yX6_clear, Cond.instanceMethod yX6_clear, Cond.selects RX6 yX6_clear yX6_clear, Cond.code yX6_clear cX6_clear 1 none, Cond.methodLink RL 97 yX9_unweigh, Cond.instanceMethod yX9_unweigh, Cond.selects RX9 yX9_unweigh yX9_unweigh, Cond.code yX9_unweigh cX9_unweigh 2 (some .int), Cond.methodLink RL 98 yX8_mayBe, Cond.instanceMethod yX8_mayBe, Cond.selects RX8 yX8_mayBe yX8_mayBe, Cond.code yX8_mayBe cX8_mayBe 2 (some .int), Cond.methodLink RX8 166 yX6_suspects, Cond.instanceMethod yX6_suspects, Cond.selects RX6 yX6_suspects yX6_suspects, Cond.code yX6_suspects cX6_suspects 4 (some .int)]
def wsL_law_r24 : List Cond := [Cond.methodLink RX6 29 yX6_suspectsBy, Cond.instanceMethod yX6_suspectsBy, Cond.selects RX6 yX6_suspectsBy yX6_suspectsBy, Cond.code yX6_suspectsBy cX6_suspectsBy 4 (some .int), Cond.methodLink RL 102 yX9_mayBe, Cond.instanceMethod yX9_mayBe, Cond.selects RX9 yX9_mayBe yX9_mayBe, Cond.code yX9_mayBe cX9_mayBe 9 (some .int), Cond.methodLink RL 103 yX8_search, Cond.instanceMethod yX8_search, Cond.selects RX8 yX8_search yX8_search, Cond.code yX8_search cX8_search 3 (some .int), Cond.methodLink RX8 170 yX4_append, Cond.instanceMethod yX4_append, Cond.selects RX4 yX4_append yX4_append, Cond.code yX4_append cX4_append 3 (some .boolean), Cond.methodLink RX8 172 yX4_length, Cond.instanceMethod yX4_length, Cond.selects RX4 yX4_length yX4_length, Cond.code yX4_length cX4_length 1 (some .int), Cond.methodLink RL 106 yX9_search, Cond.instanceMethod yX9_search, Cond.selects RX9 yX9_search yX9_search, Cond.code yX9_search cX9_search 3 (some .int)]
def wsL_law_r25 : List Cond := [Cond.constantLong RX9 167 (31), Cond.constantLong RX9 169 (45), Cond.fieldLink RX9 171 "LightestRulesModel" "searches" "I", Cond.methodLink RL 107 yX8_unsearch, Cond.instanceMethod yX8_unsearch, Cond.selects RX8 yX8_unsearch yX8_unsearch, Cond.code yX8_unsearch cX8_unsearch 2 (some .int), Cond.methodLink RX8 173 yX4_clear, Cond.instanceMethod yX4_clear, Cond.selects RX4 yX4_clear yX4_clear, Cond.code yX4_clear cX4_clear 1 none, Cond.methodLink RL 110 yX9_unsearch, Cond.instanceMethod yX9_unsearch, Cond.selects RX9 yX9_unsearch yX9_unsearch, Cond.code yX9_unsearch cX9_unsearch 2 (some .int), Cond.methodLink RL 111 yX8_rows, Cond.instanceMethod yX8_rows, Cond.selects RX8 yX8_rows yX8_rows, Cond.code yX8_rows cX8_rows 1 (some .int), Cond.methodLink RX8 174 yX4_fittingRows, Cond.instanceMethod yX4_fittingRows, Cond.selects RX4 yX4_fittingRows yX4_fittingRows, Cond.code yX4_fittingRows cX4_fittingRows 1 (some .int), Cond.methodLink RX4 37 yJ7_fill_53178]
def wsL_law_r26 : List Cond := [Cond.methodLink RX4 43 yX4_rowsFrom, Cond.static yX4_rowsFrom, Cond.code yX4_rowsFrom cX4_rowsFrom 6 (some .int), Cond.methodLink RX4 47 yX4_fewestFor, Cond.instanceMethod yX4_fewestFor, Cond.selects RX4 yX4_fewestFor yX4_fewestFor, Cond.code yX4_fewestFor cX4_fewestFor 5 (some .int), Cond.methodLink RX4 75 Lib.Math.max.name, Cond.methodLink RX4 66 yX4_isIn, Cond.instanceMethod yX4_isIn, Cond.selects RX4 yX4_isIn yX4_isIn, Cond.code yX4_isIn cX4_isIn 3 (some .boolean), Cond.methodLink RX4 70 yJ6_bitCount_0f7a4, Cond.methodLink RX4 51 yX4_greatestFor, Cond.instanceMethod yX4_greatestFor, Cond.selects RX4 yX4_greatestFor yX4_greatestFor, Cond.code yX4_greatestFor cX4_greatestFor 4 (some .int), Cond.methodLink RX4 81 Lib.Math.min.name, Cond.methodLink RX4 54 yX4_anySearched, Cond.instanceMethod yX4_anySearched, Cond.selects RX4 yX4_anySearched yX4_anySearched, Cond.code yX4_anySearched cX4_anySearched 3 (some .boolean), Cond.methodLink RX4 58 yX4_noted, Cond.instanceMethod yX4_noted]
def wsL_law_r27 : List Cond := [Cond.selects RX4 yX4_noted yX4_noted, Cond.code yX4_noted cX4_noted 5 (some .int), Cond.methodLink RX4 62 yX4_give, Cond.instanceMethod yX4_give, Cond.selects RX4 yX4_give yX4_give, Cond.code yX4_give cX4_give 4 none, Cond.methodLink RL 114 yX9_rows, Cond.instanceMethod yX9_rows, Cond.selects RX9 yX9_rows yX9_rows, Cond.code yX9_rows cX9_rows 1 (some .int), Cond.methodLink RX9 181 yX9_layRows, Cond.instanceMethod yX9_layRows, Cond.selects RX9 yX9_layRows yX9_layRows, Cond.code yX9_layRows cX9_layRows 5 (some .int), Cond.constant RX9 174 (100000), Cond.methodLink RX9 175 yX9_fits, Cond.instanceMethod yX9_fits, Cond.selects RX9 yX9_fits yX9_fits, Cond.code yX9_fits cX9_fits 7 (some .boolean), Cond.methodLink RX9 178 yX9_tenTo, Cond.static yX9_tenTo, Cond.code yX9_tenTo cX9_tenTo 3 (some .int), Cond.methodLink RL 115 yX8_stones, Cond.instanceMethod yX8_stones]
def wsL_law_r28 : List Cond := [Cond.selects RX8 yX8_stones yX8_stones, Cond.code yX8_stones cX8_stones 3 (some .int), Cond.methodLink RX8 177 yX4_mostOf, Cond.instanceMethod yX4_mostOf, Cond.selects RX4 yX4_mostOf yX4_mostOf, Cond.code yX4_mostOf cX4_mostOf 2 (some .int), Cond.methodLink RX8 180 yX4_leastOf, Cond.instanceMethod yX4_leastOf, Cond.selects RX4 yX4_leastOf yX4_leastOf, Cond.code yX4_leastOf cX4_leastOf 2 (some .int), Cond.methodLink RL 119 yX9_stones, Cond.instanceMethod yX9_stones, Cond.selects RX9 yX9_stones yX9_stones, Cond.code yX9_stones cX9_stones 3 (some .int), Cond.constantLong RX9 184 (4), Cond.methodLink RL 120 yX8_ruled, Cond.instanceMethod yX8_ruled, Cond.selects RX8 yX8_ruled yX8_ruled, Cond.code yX8_ruled cX8_ruled 2 (some .int), Cond.methodLink RX8 183 yX3_append, Cond.instanceMethod yX3_append, Cond.selects RX3 yX3_append yX3_append, Cond.code yX3_append cX3_append 2 (some .boolean), Cond.methodLink RX8 185 yX3_length]
def wsL_law_r29 : List Cond := [Cond.instanceMethod yX3_length, Cond.selects RX3 yX3_length yX3_length, Cond.code yX3_length cX3_length 1 (some .int), Cond.methodLink RL 123 yX9_ruled, Cond.instanceMethod yX9_ruled, Cond.selects RX9 yX9_ruled yX9_ruled, Cond.code yX9_ruled cX9_ruled 2 (some .int), Cond.fieldLink RX9 186 "LightestRulesModel" "months" "I", Cond.methodLink RL 124 yX8_unrule, Cond.instanceMethod yX8_unrule, Cond.selects RX8 yX8_unrule yX8_unrule, Cond.code yX8_unrule cX8_unrule 2 (some .int), Cond.methodLink RX8 186 yX3_clear, Cond.instanceMethod yX3_clear, Cond.selects RX3 yX3_clear yX3_clear, Cond.code yX3_clear cX3_clear 1 none, Cond.methodLink RL 127 yX9_unrule, Cond.instanceMethod yX9_unrule, Cond.selects RX9 yX9_unrule yX9_unrule, Cond.code yX9_unrule cX9_unrule 2 (some .int), Cond.methodLink RL 128 yX8_line, Cond.instanceMethod yX8_line, Cond.selects RX8 yX8_line yX8_line, Cond.code yX8_line cX8_line 1 (some .long)]
def wsL_law_r30 : List Cond := [Cond.constantLong RX8 187 (-3), Cond.methodLink RX8 189 yX3_fittingMeals, Cond.instanceMethod yX3_fittingMeals, Cond.selects RX3 yX3_fittingMeals yX3_fittingMeals, Cond.code yX3_fittingMeals cX3_fittingMeals 6 (some .long), Cond.methodLink RX3 32 Lib.Math.min.name, Cond.fieldLink RX3 48 "LightestRules$RulersLine" "STRIDES" "[I", Cond.methodLink RX3 26 yX2_size, Cond.methodLink RX3 38 yX2_noonWeight, Cond.methodLink RX3 42 yJ7_fill_d0a16, Cond.static yJ7_fill_d0a16, Cond.code yJ7_fill_d0a16 cJ7_fill_d0a16 5 none, Cond.methodLink RX3 51 yX3_letEat, Cond.instanceMethod yX3_letEat, Cond.selects RX3 yX3_letEat yX3_letEat, Cond.code yX3_letEat cX3_letEat 6 none, Cond.methodLink RX3 55 yX3_strikeOut, Cond.instanceMethod yX3_strikeOut, Cond.selects RX3 yX3_strikeOut yX3_strikeOut, Cond.code yX3_strikeOut cX3_strikeOut 5 none, Cond.methodLink RX3 63 yX3_lightestAt, Cond.instanceMethod yX3_lightestAt, Cond.selects RX3 yX3_lightestAt yX3_lightestAt, Cond.code yX3_lightestAt cX3_lightestAt 8 (some .int)]
def wsL_law_r31 : List Cond := [Cond.methodLink RX3 59 yX3_sumOfWays, Cond.instanceMethod yX3_sumOfWays, Cond.selects RX3 yX3_sumOfWays yX3_sumOfWays, Cond.code yX3_sumOfWays cX3_sumOfWays 5 (some .long), Cond.methodLink RL 132 yX9_line, Cond.instanceMethod yX9_line, Cond.selects RX9 yX9_line yX9_line, Cond.code yX9_line cX9_line 4 (some .long), Cond.constantLong RX9 196 (3), Cond.constantLong RX9 198 (-3), Cond.methodLink RX9 200 yX9_goMonth, Cond.instanceMethod yX9_goMonth, Cond.selects RX9 yX9_goMonth yX9_goMonth, Cond.code yX9_goMonth cX9_goMonth 6 none, Cond.methodLink RX9 192 yX9_isRuler, Cond.instanceMethod yX9_isRuler, Cond.selects RX9 yX9_isRuler yX9_isRuler, Cond.code yX9_isRuler cX9_isRuler 5 (some .boolean), Cond.methodLink RX9 189 yX9_ate, Cond.static yX9_ate, Cond.code yX9_ate cX9_ate 2 (some .int), Cond.methodLink RL 133 yX8_seed, Cond.instanceMethod yX8_seed, Cond.selects RX8 yX8_seed yX8_seed]
def wsL_law_r32 : List Cond := [Cond.code yX8_seed cX8_seed 3 (some .long), Cond.methodLink RX8 193 yX7_sow, Cond.instanceMethod yX7_sow, Cond.selects RX7 yX7_sow yX7_sow, Cond.code yX7_sow cX7_sow 5 (some .long), Cond.methodLink RL 137 yX9_seed, Cond.instanceMethod yX9_seed, Cond.selects RX9 yX9_seed yX9_seed, Cond.code yX9_seed cX9_seed 5 (some .long), Cond.fieldLink RX9 204 "LightestRulesModel" "seed" "J", Cond.methodLink RL 138 yX8_reign, Cond.instanceMethod yX8_reign, Cond.selects RX8 yX8_reign yX8_reign, Cond.code yX8_reign cX8_reign 3 (some .int), Cond.methodLink RX8 197 yX7_monthsOf, Cond.instanceMethod yX7_monthsOf, Cond.selects RX7 yX7_monthsOf yX7_monthsOf, Cond.code yX7_monthsOf cX7_monthsOf 7 (some .int), Cond.methodLink RX7 20 yX2_becomeLike, Cond.instanceMethod yX2_becomeLike, Cond.selects RX2 yX2_becomeLike yX2_becomeLike, Cond.code yX2_becomeLike cX2_becomeLike 2 none, Cond.methodLink RX7 24 yX2_size, Cond.methodLink RX7 28 yX7_nextOunces]
def wsL_law_r33 : List Cond := [Cond.instanceMethod yX7_nextOunces, Cond.selects RX7 yX7_nextOunces yX7_nextOunces, Cond.code yX7_nextOunces cX7_nextOunces 2 (some .int), Cond.constantLong RX7 39 (6364136223846793005), Cond.constantLong RX7 41 (1442695040888963407), Cond.methodLink RX7 31 yX2_gain, Cond.methodLink RX7 35 yX2_crownedBy, Cond.methodLink RL 141 yX9_reign, Cond.instanceMethod yX9_reign, Cond.selects RX9 yX9_reign yX9_reign, Cond.code yX9_reign cX9_reign 7 (some .int), Cond.constantLong RX9 208 (6364136223846793005), Cond.constantLong RX9 210 (1442695040888963407), Cond.constantLong RX9 212 (7), Cond.methodLink RL 142 yX8_keep, Cond.instanceMethod yX8_keep, Cond.selects RX8 yX8_keep yX8_keep, Cond.code yX8_keep cX8_keep 2 (some .int), Cond.methodLink RX8 201 yX5_isSlot, Cond.static yX5_isSlot, Cond.code yX5_isSlot cX5_isSlot 1 (some .boolean), Cond.methodLink RX8 204 yX5_put, Cond.instanceMethod yX5_put, Cond.selects RX5 yX5_put yX5_put]
def wsL_law_r34 : List Cond := [Cond.code yX5_put cX5_put 3 none, Cond.methodLink RX5 19 yX5_isSlot, Cond.methodLink RX5 23 yX2_copyTo, Cond.methodLink RL 145 yX9_keep, Cond.instanceMethod yX9_keep, Cond.selects RX9 yX9_keep yX9_keep, Cond.code yX9_keep cX9_keep 3 (some .int), Cond.methodLink RL 146 yX8_again, Cond.instanceMethod yX8_again, Cond.selects RX8 yX8_again yX8_again, Cond.code yX8_again cX8_again 2 (some .int), Cond.methodLink RX8 208 yX5_holds, Cond.instanceMethod yX5_holds, Cond.selects RX5 yX5_holds yX5_holds, Cond.code yX5_holds cX5_holds 2 (some .boolean), Cond.methodLink RX8 211 yX5_bring, Cond.instanceMethod yX5_bring, Cond.selects RX5 yX5_bring yX5_bring, Cond.code yX5_bring cX5_bring 3 none, Cond.methodLink RX5 27 yX5_holds, Cond.methodLink RX5 30 yX2_copyFrom, Cond.methodLink RL 149 yX9_again, Cond.instanceMethod yX9_again, Cond.selects RX9 yX9_again yX9_again]
def wsL_law_r35 : List Cond := [Cond.code yX9_again cX9_again 3 (some .int), Cond.methodLink RL 150 yX8_count, Cond.instanceMethod yX8_count, Cond.selects RX8 yX8_count yX8_count, Cond.code yX8_count cX8_count 2 (some .int), Cond.methodLink RX8 214 yX2_illBits, Cond.methodLink RX8 217 yX2_crownings, Cond.instanceMethod yX2_crownings, Cond.selects RX2 yX2_crownings yX2_crownings, Cond.code yX2_crownings cX2_crownings 3 (some .int), Cond.methodLink RL 153 yX9_count, Cond.instanceMethod yX9_count, Cond.selects RX9 yX9_count yX9_count, Cond.code yX9_count cX9_count 5 (some .int)]
def wsL_law : List Cond := (wsL_law_r1 ++ (wsL_law_r2 ++ (wsL_law_r3 ++ (wsL_law_r4 ++ (wsL_law_r5 ++ (wsL_law_r6 ++ (wsL_law_r7 ++ (wsL_law_r8 ++ (wsL_law_r9 ++ (wsL_law_r10 ++ (wsL_law_r11 ++ (wsL_law_r12 ++ (wsL_law_r13 ++ (wsL_law_r14 ++ (wsL_law_r15 ++ (wsL_law_r16 ++ (wsL_law_r17 ++ (wsL_law_r18 ++ (wsL_law_r19 ++ (wsL_law_r20 ++ (wsL_law_r21 ++ (wsL_law_r22 ++ (wsL_law_r23 ++ (wsL_law_r24 ++ (wsL_law_r25 ++ (wsL_law_r26 ++ (wsL_law_r27 ++ (wsL_law_r28 ++ (wsL_law_r29 ++ (wsL_law_r30 ++ (wsL_law_r31 ++ (wsL_law_r32 ++ (wsL_law_r33 ++ (wsL_law_r34 ++ wsL_law_r35)))))))))))))))))))))))))))))))))) ++ wsX80 ++ wsX90 ++ wsX10 ++ wsX20 ++ wsX00 ++ wsX50 ++ wsX60 ++ wsX40 ++ wsX30 ++ wsX70 ++ ([] : List Cond)
set_option maxRecDepth 20000 in
theorem inlX0 : ∀ w ∈ wsX00, w ∈ wsL_law := fun _ h => List.mem_append_left _ (List.mem_append_left _ (List.mem_append_left _ (List.mem_append_left _ (List.mem_append_left _ (List.mem_append_left _ (List.mem_append_right _ h))))))
theorem inlX1 : ∀ w ∈ wsX10, w ∈ wsL_law := fun _ h => List.mem_append_left _ (List.mem_append_left _ (List.mem_append_left _ (List.mem_append_left _ (List.mem_append_left _ (List.mem_append_left _ (List.mem_append_left _ (List.mem_append_left _ (List.mem_append_right _ h))))))))
theorem inlX2 : ∀ w ∈ wsX20, w ∈ wsL_law := fun _ h => List.mem_append_left _ (List.mem_append_left _ (List.mem_append_left _ (List.mem_append_left _ (List.mem_append_left _ (List.mem_append_left _ (List.mem_append_left _ (List.mem_append_right _ h)))))))
theorem inlX3 : ∀ w ∈ wsX30, w ∈ wsL_law := fun _ h => List.mem_append_left _ (List.mem_append_left _ (List.mem_append_right _ h))
theorem inlX4 : ∀ w ∈ wsX40, w ∈ wsL_law := fun _ h => List.mem_append_left _ (List.mem_append_left _ (List.mem_append_left _ (List.mem_append_right _ h)))
theorem inlX5 : ∀ w ∈ wsX50, w ∈ wsL_law := fun _ h => List.mem_append_left _ (List.mem_append_left _ (List.mem_append_left _ (List.mem_append_left _ (List.mem_append_left _ (List.mem_append_right _ h)))))
theorem inlX6 : ∀ w ∈ wsX60, w ∈ wsL_law := fun _ h => List.mem_append_left _ (List.mem_append_left _ (List.mem_append_left _ (List.mem_append_left _ (List.mem_append_right _ h))))
theorem inlX7 : ∀ w ∈ wsX70, w ∈ wsL_law := fun _ h => List.mem_append_left _ (List.mem_append_right _ h)
theorem inlX8 : ∀ w ∈ wsX80, w ∈ wsL_law := fun _ h => List.mem_append_left _ (List.mem_append_left _ (List.mem_append_left _ (List.mem_append_left _ (List.mem_append_left _ (List.mem_append_left _ (List.mem_append_left _ (List.mem_append_left _ (List.mem_append_left _ (List.mem_append_left _ (List.mem_append_right _ h))))))))))
theorem inlX9 : ∀ w ∈ wsX90, w ∈ wsL_law := fun _ h => List.mem_append_left _ (List.mem_append_left _ (List.mem_append_left _ (List.mem_append_left _ (List.mem_append_left _ (List.mem_append_left _ (List.mem_append_left _ (List.mem_append_left _ (List.mem_append_left _ (List.mem_append_right _ h)))))))))
end
section
theorem dX0_init_0 : decode cX0_init 0 = .ok (.aload_n 0, 1) := by decide +kernel
theorem dX0_init_1 : decode cX0_init 1 = .ok (.invokespecial 1, 3) := by decide +kernel
theorem dX0_init_4 : decode cX0_init 4 = .ok (.aload_n 0, 1) := by decide +kernel
theorem dX0_init_5 : decode cX0_init 5 = .ok (.sipush 416, 3) := by decide +kernel
theorem dX0_init_8 : decode cX0_init 8 = .ok (.newarray .int, 2) := by decide +kernel
theorem dX0_init_10 : decode cX0_init 10 = .ok (.putfield 11, 3) := by decide +kernel
theorem dX0_init_13 : decode cX0_init 13 = .ok (.aload_n 0, 1) := by decide +kernel
theorem dX0_init_14 : decode cX0_init 14 = .ok (.iconst 0, 1) := by decide +kernel
theorem dX0_init_15 : decode cX0_init 15 = .ok (.putfield 15, 3) := by decide +kernel
theorem dX0_init_18 : decode cX0_init 18 = .ok (.aload_n 0, 1) := by decide +kernel
theorem dX0_init_19 : decode cX0_init 19 = .ok (.iconst 0, 1) := by decide +kernel
theorem dX0_init_20 : decode cX0_init 20 = .ok (.putfield 19, 3) := by decide +kernel
theorem dX0_init_23 : decode cX0_init 23 = .ok (.return_, 1) := by decide +kernel
theorem dX0_length_0 : decode cX0_length 0 = .ok (.aload_n 0, 1) := by decide +kernel
theorem dX0_length_1 : decode cX0_length 1 = .ok (.getfield 19, 3) := by decide +kernel
theorem dX0_length_4 : decode cX0_length 4 = .ok (.ireturn, 1) := by decide +kernel
theorem dX0_clear_0 : decode cX0_clear 0 = .ok (.aload_n 0, 1) := by decide +kernel
theorem dX0_clear_1 : decode cX0_clear 1 = .ok (.iconst 0, 1) := by decide +kernel
theorem dX0_clear_2 : decode cX0_clear 2 = .ok (.putfield 19, 3) := by decide +kernel
theorem dX0_clear_5 : decode cX0_clear 5 = .ok (.return_, 1) := by decide +kernel
set_option maxRecDepth 20000 in
theorem ggX0_remember_X2_copyTo : GoodIn wsX0_remember wsX2_copyTo := goodIn_r _ [8, 9, 10, 11, 12, 13, 17, 18, 19, 20] (by decide +kernel) (by decide +kernel)
set_option maxRecDepth 20000 in
theorem gX0_remember_X2_copyTo : GoodIn wsX0_remember (wsV RX0 22 RX2 yX2_copyTo wsX2_copyTo) := goodIn_app (goodIn_of _ (by decide +kernel)) ggX0_remember_X2_copyTo
theorem dX0_remember_0 : decode cX0_remember 0 = .ok (.aload_n 0, 1) := by decide +kernel
theorem dX0_remember_1 : decode cX0_remember 1 = .ok (.getfield 19, 3) := by decide +kernel
theorem dX0_remember_4 : decode cX0_remember 4 = .ok (.bipush 16, 2) := by decide +kernel
theorem dX0_remember_6 : decode cX0_remember 6 = .ok (.if_icmp .ne 26, 3) := by decide +kernel
theorem dX0_remember_9 : decode cX0_remember 9 = .ok (.aload_n 0, 1) := by decide +kernel
theorem dX0_remember_10 : decode cX0_remember 10 = .ok (.aload_n 0, 1) := by decide +kernel
theorem dX0_remember_11 : decode cX0_remember 11 = .ok (.getfield 15, 3) := by decide +kernel
theorem dX0_remember_14 : decode cX0_remember 14 = .ok (.iconst 1, 1) := by decide +kernel
theorem dX0_remember_15 : decode cX0_remember 15 = .ok (.iadd, 1) := by decide +kernel
theorem dX0_remember_16 : decode cX0_remember 16 = .ok (.bipush 16, 2) := by decide +kernel
theorem dX0_remember_18 : decode cX0_remember 18 = .ok (.irem, 1) := by decide +kernel
theorem dX0_remember_19 : decode cX0_remember 19 = .ok (.putfield 15, 3) := by decide +kernel
theorem dX0_remember_22 : decode cX0_remember 22 = .ok (.aload_n 0, 1) := by decide +kernel
theorem dX0_remember_23 : decode cX0_remember 23 = .ok (.dup, 1) := by decide +kernel
theorem dX0_remember_24 : decode cX0_remember 24 = .ok (.getfield 19, 3) := by decide +kernel
theorem dX0_remember_27 : decode cX0_remember 27 = .ok (.iconst 1, 1) := by decide +kernel
theorem dX0_remember_28 : decode cX0_remember 28 = .ok (.isub, 1) := by decide +kernel
theorem dX0_remember_29 : decode cX0_remember 29 = .ok (.putfield 19, 3) := by decide +kernel
theorem dX0_remember_32 : decode cX0_remember 32 = .ok (.aload_n 1, 1) := by decide +kernel
theorem dX0_remember_33 : decode cX0_remember 33 = .ok (.aload_n 0, 1) := by decide +kernel
theorem dX0_remember_34 : decode cX0_remember 34 = .ok (.getfield 11, 3) := by decide +kernel
theorem dX0_remember_37 : decode cX0_remember 37 = .ok (.aload_n 0, 1) := by decide +kernel
theorem dX0_remember_38 : decode cX0_remember 38 = .ok (.getfield 15, 3) := by decide +kernel
theorem dX0_remember_41 : decode cX0_remember 41 = .ok (.aload_n 0, 1) := by decide +kernel
theorem dX0_remember_42 : decode cX0_remember 42 = .ok (.getfield 19, 3) := by decide +kernel
theorem dX0_remember_45 : decode cX0_remember 45 = .ok (.iadd, 1) := by decide +kernel
theorem dX0_remember_46 : decode cX0_remember 46 = .ok (.bipush 16, 2) := by decide +kernel
theorem dX0_remember_48 : decode cX0_remember 48 = .ok (.irem, 1) := by decide +kernel
theorem dX0_remember_49 : decode cX0_remember 49 = .ok (.invokevirtual 22, 3) := by decide +kernel
theorem dX0_remember_52 : decode cX0_remember 52 = .ok (.aload_n 0, 1) := by decide +kernel
theorem dX0_remember_53 : decode cX0_remember 53 = .ok (.dup, 1) := by decide +kernel
theorem dX0_remember_54 : decode cX0_remember 54 = .ok (.getfield 19, 3) := by decide +kernel
theorem dX0_remember_57 : decode cX0_remember 57 = .ok (.iconst 1, 1) := by decide +kernel
theorem dX0_remember_58 : decode cX0_remember 58 = .ok (.iadd, 1) := by decide +kernel
theorem dX0_remember_59 : decode cX0_remember 59 = .ok (.putfield 19, 3) := by decide +kernel
theorem dX0_remember_62 : decode cX0_remember 62 = .ok (.return_, 1) := by decide +kernel
set_option maxRecDepth 20000 in
theorem ggX0_takeBack_X2_copyFrom : GoodIn wsX0_takeBack wsX2_copyFrom := goodIn_r _ [8, 9, 10, 11, 12, 13, 17, 18, 19, 20] (by decide +kernel) (by decide +kernel)
set_option maxRecDepth 20000 in
theorem gX0_takeBack_X2_copyFrom : GoodIn wsX0_takeBack (wsV RX0 26 RX2 yX2_copyFrom wsX2_copyFrom) := goodIn_app (goodIn_of _ (by decide +kernel)) ggX0_takeBack_X2_copyFrom
theorem dX0_takeBack_0 : decode cX0_takeBack 0 = .ok (.aload_n 0, 1) := by decide +kernel
theorem dX0_takeBack_1 : decode cX0_takeBack 1 = .ok (.getfield 19, 3) := by decide +kernel
theorem dX0_takeBack_4 : decode cX0_takeBack 4 = .ok (.ifCond .le 33, 3) := by decide +kernel
theorem dX0_takeBack_7 : decode cX0_takeBack 7 = .ok (.aload_n 0, 1) := by decide +kernel
theorem dX0_takeBack_8 : decode cX0_takeBack 8 = .ok (.dup, 1) := by decide +kernel
theorem dX0_takeBack_9 : decode cX0_takeBack 9 = .ok (.getfield 19, 3) := by decide +kernel
theorem dX0_takeBack_12 : decode cX0_takeBack 12 = .ok (.iconst 1, 1) := by decide +kernel
theorem dX0_takeBack_13 : decode cX0_takeBack 13 = .ok (.isub, 1) := by decide +kernel
theorem dX0_takeBack_14 : decode cX0_takeBack 14 = .ok (.putfield 19, 3) := by decide +kernel
theorem dX0_takeBack_17 : decode cX0_takeBack 17 = .ok (.aload_n 1, 1) := by decide +kernel
theorem dX0_takeBack_18 : decode cX0_takeBack 18 = .ok (.aload_n 0, 1) := by decide +kernel
theorem dX0_takeBack_19 : decode cX0_takeBack 19 = .ok (.getfield 11, 3) := by decide +kernel
theorem dX0_takeBack_22 : decode cX0_takeBack 22 = .ok (.aload_n 0, 1) := by decide +kernel
theorem dX0_takeBack_23 : decode cX0_takeBack 23 = .ok (.getfield 15, 3) := by decide +kernel
theorem dX0_takeBack_26 : decode cX0_takeBack 26 = .ok (.aload_n 0, 1) := by decide +kernel
theorem dX0_takeBack_27 : decode cX0_takeBack 27 = .ok (.getfield 19, 3) := by decide +kernel
theorem dX0_takeBack_30 : decode cX0_takeBack 30 = .ok (.iadd, 1) := by decide +kernel
theorem dX0_takeBack_31 : decode cX0_takeBack 31 = .ok (.bipush 16, 2) := by decide +kernel
theorem dX0_takeBack_33 : decode cX0_takeBack 33 = .ok (.irem, 1) := by decide +kernel
theorem dX0_takeBack_34 : decode cX0_takeBack 34 = .ok (.invokevirtual 26, 3) := by decide +kernel
theorem dX0_takeBack_37 : decode cX0_takeBack 37 = .ok (.return_, 1) := by decide +kernel
theorem dX1_init_0 : decode cX1_init 0 = .ok (.aload_n 0, 1) := by decide +kernel
theorem dX1_init_1 : decode cX1_init 1 = .ok (.invokespecial 3, 3) := by decide +kernel
theorem dX1_init_4 : decode cX1_init 4 = .ok (.aload_n 0, 1) := by decide +kernel
theorem dX1_init_5 : decode cX1_init 5 = .ok (.bipush 48, 2) := by decide +kernel
theorem dX1_init_7 : decode cX1_init 7 = .ok (.newarray .int, 2) := by decide +kernel
theorem dX1_init_9 : decode cX1_init 9 = .ok (.putfield 11, 3) := by decide +kernel
theorem dX1_init_12 : decode cX1_init 12 = .ok (.aload_n 0, 1) := by decide +kernel
theorem dX1_init_13 : decode cX1_init 13 = .ok (.iconst 0, 1) := by decide +kernel
theorem dX1_init_14 : decode cX1_init 14 = .ok (.putfield 15, 3) := by decide +kernel
theorem dX1_init_17 : decode cX1_init 17 = .ok (.return_, 1) := by decide +kernel
theorem dX1_length_0 : decode cX1_length 0 = .ok (.aload_n 0, 1) := by decide +kernel
theorem dX1_length_1 : decode cX1_length 1 = .ok (.getfield 15, 3) := by decide +kernel
theorem dX1_length_4 : decode cX1_length 4 = .ok (.ireturn, 1) := by decide +kernel
theorem dX1_clear_0 : decode cX1_clear 0 = .ok (.aload_n 0, 1) := by decide +kernel
theorem dX1_clear_1 : decode cX1_clear 1 = .ok (.iconst 0, 1) := by decide +kernel
theorem dX1_clear_2 : decode cX1_clear 2 = .ok (.putfield 15, 3) := by decide +kernel
theorem dX1_clear_5 : decode cX1_clear 5 = .ok (.return_, 1) := by decide +kernel
theorem dX1_append_0 : decode cX1_append 0 = .ok (.iload_n 1, 1) := by decide +kernel
theorem dX1_append_1 : decode cX1_append 1 = .ok (.bipush 48, 2) := by decide +kernel
theorem dX1_append_3 : decode cX1_append 3 = .ok (.aload_n 0, 1) := by decide +kernel
theorem dX1_append_4 : decode cX1_append 4 = .ok (.getfield 15, 3) := by decide +kernel
theorem dX1_append_7 : decode cX1_append 7 = .ok (.isub, 1) := by decide +kernel
theorem dX1_append_8 : decode cX1_append 8 = .ok (.if_icmp .le 5, 3) := by decide +kernel
theorem dX1_append_11 : decode cX1_append 11 = .ok (.iconst 0, 1) := by decide +kernel
theorem dX1_append_12 : decode cX1_append 12 = .ok (.ireturn, 1) := by decide +kernel
theorem dX1_append_13 : decode cX1_append 13 = .ok (.iload_n 1, 1) := by decide +kernel
theorem dX1_append_14 : decode cX1_append 14 = .ok (.iconst 1, 1) := by decide +kernel
theorem dX1_append_15 : decode cX1_append 15 = .ok (.isub, 1) := by decide +kernel
theorem dX1_append_16 : decode cX1_append 16 = .ok (.istore 4, 2) := by decide +kernel
theorem dX1_append_18 : decode cX1_append 18 = .ok (.iload 4, 2) := by decide +kernel
theorem dX1_append_20 : decode cX1_append 20 = .ok (.ifCond .lt 40, 3) := by decide +kernel
theorem dX1_append_23 : decode cX1_append 23 = .ok (.aload_n 0, 1) := by decide +kernel
theorem dX1_append_24 : decode cX1_append 24 = .ok (.getfield 11, 3) := by decide +kernel
theorem dX1_append_27 : decode cX1_append 27 = .ok (.aload_n 0, 1) := by decide +kernel
theorem dX1_append_28 : decode cX1_append 28 = .ok (.getfield 15, 3) := by decide +kernel
theorem dX1_append_31 : decode cX1_append 31 = .ok (.lload_n 2, 1) := by decide +kernel
theorem dX1_append_32 : decode cX1_append 32 = .ok (.bipush 8, 2) := by decide +kernel
theorem dX1_append_34 : decode cX1_append 34 = .ok (.iload 4, 2) := by decide +kernel
theorem dX1_append_36 : decode cX1_append 36 = .ok (.imul, 1) := by decide +kernel
theorem dX1_append_37 : decode cX1_append 37 = .ok (.lushr, 1) := by decide +kernel
theorem dX1_append_38 : decode cX1_append 38 = .ok (.l2i, 1) := by decide +kernel
theorem dX1_append_39 : decode cX1_append 39 = .ok (.sipush 255, 3) := by decide +kernel
theorem dX1_append_42 : decode cX1_append 42 = .ok (.iand, 1) := by decide +kernel
theorem dX1_append_43 : decode cX1_append 43 = .ok (.iastore, 1) := by decide +kernel
theorem dX1_append_44 : decode cX1_append 44 = .ok (.aload_n 0, 1) := by decide +kernel
theorem dX1_append_45 : decode cX1_append 45 = .ok (.dup, 1) := by decide +kernel
theorem dX1_append_46 : decode cX1_append 46 = .ok (.getfield 15, 3) := by decide +kernel
theorem dX1_append_49 : decode cX1_append 49 = .ok (.iconst 1, 1) := by decide +kernel
theorem dX1_append_50 : decode cX1_append 50 = .ok (.iadd, 1) := by decide +kernel
theorem dX1_append_51 : decode cX1_append 51 = .ok (.putfield 15, 3) := by decide +kernel
theorem dX1_append_54 : decode cX1_append 54 = .ok (.iinc 4 (-1), 3) := by decide +kernel
theorem dX1_append_57 : decode cX1_append 57 = .ok (.goto (-39), 3) := by decide +kernel
theorem dX1_append_60 : decode cX1_append 60 = .ok (.iconst 1, 1) := by decide +kernel
theorem dX1_append_61 : decode cX1_append 61 = .ok (.ireturn, 1) := by decide +kernel
set_option maxRecDepth 20000 in
theorem ggX1_firstFault_X1_mayStandAt : GoodIn wsX1_firstFault wsX1_mayStandAt := goodIn_r _ [6] (by decide +kernel) (by decide +kernel)
set_option maxRecDepth 20000 in
theorem gX1_firstFault_X1_mayStandAt : GoodIn wsX1_firstFault (va_wsS RX1 19 yX1_mayStandAt wsX1_mayStandAt) := goodIn_app (goodIn_of _ (by decide +kernel)) ggX1_firstFault_X1_mayStandAt
theorem dX1_firstFault_0 : decode cX1_firstFault 0 = .ok (.iconst 0, 1) := by decide +kernel
theorem dX1_firstFault_1 : decode cX1_firstFault 1 = .ok (.istore_n 1, 1) := by decide +kernel
theorem dX1_firstFault_2 : decode cX1_firstFault 2 = .ok (.iload_n 1, 1) := by decide +kernel
theorem dX1_firstFault_3 : decode cX1_firstFault 3 = .ok (.aload_n 0, 1) := by decide +kernel
theorem dX1_firstFault_4 : decode cX1_firstFault 4 = .ok (.getfield 15, 3) := by decide +kernel
theorem dX1_firstFault_7 : decode cX1_firstFault 7 = .ok (.if_icmp .ge 24, 3) := by decide +kernel
theorem dX1_firstFault_10 : decode cX1_firstFault 10 = .ok (.iload_n 1, 1) := by decide +kernel
theorem dX1_firstFault_11 : decode cX1_firstFault 11 = .ok (.aload_n 0, 1) := by decide +kernel
theorem dX1_firstFault_12 : decode cX1_firstFault 12 = .ok (.getfield 11, 3) := by decide +kernel
theorem dX1_firstFault_15 : decode cX1_firstFault 15 = .ok (.iload_n 1, 1) := by decide +kernel
theorem dX1_firstFault_16 : decode cX1_firstFault 16 = .ok (.iaload, 1) := by decide +kernel
theorem dX1_firstFault_17 : decode cX1_firstFault 17 = .ok (.invokestatic 19, 3) := by decide +kernel
theorem dX1_firstFault_20 : decode cX1_firstFault 20 = .ok (.ifCond .ne 5, 3) := by decide +kernel
theorem dX1_firstFault_23 : decode cX1_firstFault 23 = .ok (.iload_n 1, 1) := by decide +kernel
theorem dX1_firstFault_24 : decode cX1_firstFault 24 = .ok (.ireturn, 1) := by decide +kernel
theorem dX1_firstFault_25 : decode cX1_firstFault 25 = .ok (.iinc 1 1, 3) := by decide +kernel
theorem dX1_firstFault_28 : decode cX1_firstFault 28 = .ok (.goto (-26), 3) := by decide +kernel
theorem dX1_firstFault_31 : decode cX1_firstFault 31 = .ok (.aload_n 0, 1) := by decide +kernel
theorem dX1_firstFault_32 : decode cX1_firstFault 32 = .ok (.getfield 15, 3) := by decide +kernel
theorem dX1_firstFault_35 : decode cX1_firstFault 35 = .ok (.iconst 4, 1) := by decide +kernel
theorem dX1_firstFault_36 : decode cX1_firstFault 36 = .ok (.if_icmp .lt 20, 3) := by decide +kernel
theorem dX1_firstFault_39 : decode cX1_firstFault 39 = .ok (.aload_n 0, 1) := by decide +kernel
theorem dX1_firstFault_40 : decode cX1_firstFault 40 = .ok (.getfield 15, 3) := by decide +kernel
theorem dX1_firstFault_43 : decode cX1_firstFault 43 = .ok (.iconst 4, 1) := by decide +kernel
theorem dX1_firstFault_44 : decode cX1_firstFault 44 = .ok (.isub, 1) := by decide +kernel
theorem dX1_firstFault_45 : decode cX1_firstFault 45 = .ok (.bipush 6, 2) := by decide +kernel
theorem dX1_firstFault_47 : decode cX1_firstFault 47 = .ok (.irem, 1) := by decide +kernel
theorem dX1_firstFault_48 : decode cX1_firstFault 48 = .ok (.ifCond .ne 8, 3) := by decide +kernel
theorem dX1_firstFault_51 : decode cX1_firstFault 51 = .ok (.bipush (-9), 2) := by decide +kernel
theorem dX1_firstFault_53 : decode cX1_firstFault 53 = .ok (.goto 7, 3) := by decide +kernel
theorem dX1_firstFault_56 : decode cX1_firstFault 56 = .ok (.aload_n 0, 1) := by decide +kernel
theorem dX1_firstFault_57 : decode cX1_firstFault 57 = .ok (.getfield 15, 3) := by decide +kernel
theorem dX1_firstFault_60 : decode cX1_firstFault 60 = .ok (.ireturn, 1) := by decide +kernel
theorem dX1_mayStandAt_0 : decode cX1_mayStandAt 0 = .ok (.iload_n 0, 1) := by decide +kernel
theorem dX1_mayStandAt_1 : decode cX1_mayStandAt 1 = .ok (.ifCond .ne 15, 3) := by decide +kernel
theorem dX1_mayStandAt_4 : decode cX1_mayStandAt 4 = .ok (.iload_n 1, 1) := by decide +kernel
theorem dX1_mayStandAt_5 : decode cX1_mayStandAt 5 = .ok (.bipush 82, 2) := by decide +kernel
theorem dX1_mayStandAt_7 : decode cX1_mayStandAt 7 = .ok (.if_icmp .ne 7, 3) := by decide +kernel
theorem dX1_mayStandAt_10 : decode cX1_mayStandAt 10 = .ok (.iconst 1, 1) := by decide +kernel
theorem dX1_mayStandAt_11 : decode cX1_mayStandAt 11 = .ok (.goto 4, 3) := by decide +kernel
theorem dX1_mayStandAt_14 : decode cX1_mayStandAt 14 = .ok (.iconst 0, 1) := by decide +kernel
theorem dX1_mayStandAt_15 : decode cX1_mayStandAt 15 = .ok (.ireturn, 1) := by decide +kernel
theorem dX1_mayStandAt_16 : decode cX1_mayStandAt 16 = .ok (.iload_n 0, 1) := by decide +kernel
theorem dX1_mayStandAt_17 : decode cX1_mayStandAt 17 = .ok (.iconst 1, 1) := by decide +kernel
theorem dX1_mayStandAt_18 : decode cX1_mayStandAt 18 = .ok (.if_icmp .ne 21, 3) := by decide +kernel
theorem dX1_mayStandAt_21 : decode cX1_mayStandAt 21 = .ok (.iload_n 1, 1) := by decide +kernel
theorem dX1_mayStandAt_22 : decode cX1_mayStandAt 22 = .ok (.bipush 48, 2) := by decide +kernel
theorem dX1_mayStandAt_24 : decode cX1_mayStandAt 24 = .ok (.if_icmp .lt 13, 3) := by decide +kernel
theorem dX1_mayStandAt_27 : decode cX1_mayStandAt 27 = .ok (.iload_n 1, 1) := by decide +kernel
theorem dX1_mayStandAt_28 : decode cX1_mayStandAt 28 = .ok (.bipush 51, 2) := by decide +kernel
theorem dX1_mayStandAt_30 : decode cX1_mayStandAt 30 = .ok (.if_icmp .ge 7, 3) := by decide +kernel
theorem dX1_mayStandAt_33 : decode cX1_mayStandAt 33 = .ok (.iconst 1, 1) := by decide +kernel
theorem dX1_mayStandAt_34 : decode cX1_mayStandAt 34 = .ok (.goto 4, 3) := by decide +kernel
theorem dX1_mayStandAt_37 : decode cX1_mayStandAt 37 = .ok (.iconst 0, 1) := by decide +kernel
theorem dX1_mayStandAt_38 : decode cX1_mayStandAt 38 = .ok (.ireturn, 1) := by decide +kernel
theorem dX1_mayStandAt_39 : decode cX1_mayStandAt 39 = .ok (.iload_n 0, 1) := by decide +kernel
theorem dX1_mayStandAt_40 : decode cX1_mayStandAt 40 = .ok (.iconst 4, 1) := by decide +kernel
theorem dX1_mayStandAt_41 : decode cX1_mayStandAt 41 = .ok (.if_icmp .lt 34, 3) := by decide +kernel
theorem dX1_mayStandAt_44 : decode cX1_mayStandAt 44 = .ok (.iload_n 0, 1) := by decide +kernel
theorem dX1_mayStandAt_45 : decode cX1_mayStandAt 45 = .ok (.iconst 4, 1) := by decide +kernel
theorem dX1_mayStandAt_46 : decode cX1_mayStandAt 46 = .ok (.isub, 1) := by decide +kernel
theorem dX1_mayStandAt_47 : decode cX1_mayStandAt 47 = .ok (.bipush 6, 2) := by decide +kernel
theorem dX1_mayStandAt_49 : decode cX1_mayStandAt 49 = .ok (.irem, 1) := by decide +kernel
theorem dX1_mayStandAt_50 : decode cX1_mayStandAt 50 = .ok (.ifCond .ne 25, 3) := by decide +kernel
theorem dX1_mayStandAt_53 : decode cX1_mayStandAt 53 = .ok (.iload_n 1, 1) := by decide +kernel
theorem dX1_mayStandAt_54 : decode cX1_mayStandAt 54 = .ok (.bipush 80, 2) := by decide +kernel
theorem dX1_mayStandAt_56 : decode cX1_mayStandAt 56 = .ok (.if_icmp .ne 17, 3) := by decide +kernel
theorem dX1_mayStandAt_59 : decode cX1_mayStandAt 59 = .ok (.iload_n 0, 1) := by decide +kernel
theorem dX1_mayStandAt_60 : decode cX1_mayStandAt 60 = .ok (.iconst 4, 1) := by decide +kernel
theorem dX1_mayStandAt_61 : decode cX1_mayStandAt 61 = .ok (.isub, 1) := by decide +kernel
theorem dX1_mayStandAt_62 : decode cX1_mayStandAt 62 = .ok (.bipush 6, 2) := by decide +kernel
theorem dX1_mayStandAt_64 : decode cX1_mayStandAt 64 = .ok (.idiv, 1) := by decide +kernel
theorem dX1_mayStandAt_65 : decode cX1_mayStandAt 65 = .ok (.iconst 5, 1) := by decide +kernel
theorem dX1_mayStandAt_66 : decode cX1_mayStandAt 66 = .ok (.if_icmp .ge 7, 3) := by decide +kernel
theorem dX1_mayStandAt_69 : decode cX1_mayStandAt 69 = .ok (.iconst 1, 1) := by decide +kernel
theorem dX1_mayStandAt_70 : decode cX1_mayStandAt 70 = .ok (.goto 4, 3) := by decide +kernel
theorem dX1_mayStandAt_73 : decode cX1_mayStandAt 73 = .ok (.iconst 0, 1) := by decide +kernel
theorem dX1_mayStandAt_74 : decode cX1_mayStandAt 74 = .ok (.ireturn, 1) := by decide +kernel
theorem dX1_mayStandAt_75 : decode cX1_mayStandAt 75 = .ok (.iload_n 0, 1) := by decide +kernel
theorem dX1_mayStandAt_76 : decode cX1_mayStandAt 76 = .ok (.iconst 4, 1) := by decide +kernel
theorem dX1_mayStandAt_77 : decode cX1_mayStandAt 77 = .ok (.if_icmp .lt 17, 3) := by decide +kernel
theorem dX1_mayStandAt_80 : decode cX1_mayStandAt 80 = .ok (.iload_n 0, 1) := by decide +kernel
theorem dX1_mayStandAt_81 : decode cX1_mayStandAt 81 = .ok (.iconst 4, 1) := by decide +kernel
theorem dX1_mayStandAt_82 : decode cX1_mayStandAt 82 = .ok (.isub, 1) := by decide +kernel
theorem dX1_mayStandAt_83 : decode cX1_mayStandAt 83 = .ok (.bipush 6, 2) := by decide +kernel
theorem dX1_mayStandAt_85 : decode cX1_mayStandAt 85 = .ok (.irem, 1) := by decide +kernel
theorem dX1_mayStandAt_86 : decode cX1_mayStandAt 86 = .ok (.iconst 1, 1) := by decide +kernel
theorem dX1_mayStandAt_87 : decode cX1_mayStandAt 87 = .ok (.if_icmp .ne 7, 3) := by decide +kernel
theorem dX1_mayStandAt_90 : decode cX1_mayStandAt 90 = .ok (.iconst 1, 1) := by decide +kernel
theorem dX1_mayStandAt_91 : decode cX1_mayStandAt 91 = .ok (.goto 4, 3) := by decide +kernel
theorem dX1_mayStandAt_94 : decode cX1_mayStandAt 94 = .ok (.iconst 0, 1) := by decide +kernel
theorem dX1_mayStandAt_95 : decode cX1_mayStandAt 95 = .ok (.istore_n 2, 1) := by decide +kernel
theorem dX1_mayStandAt_96 : decode cX1_mayStandAt 96 = .ok (.iload_n 1, 1) := by decide +kernel
theorem dX1_mayStandAt_97 : decode cX1_mayStandAt 97 = .ok (.iload_n 2, 1) := by decide +kernel
theorem dX1_mayStandAt_98 : decode cX1_mayStandAt 98 = .ok (.ifCond .eq 8, 3) := by decide +kernel
theorem dX1_mayStandAt_101 : decode cX1_mayStandAt 101 = .ok (.bipush 49, 2) := by decide +kernel
theorem dX1_mayStandAt_103 : decode cX1_mayStandAt 103 = .ok (.goto 5, 3) := by decide +kernel
theorem dX1_mayStandAt_106 : decode cX1_mayStandAt 106 = .ok (.bipush 48, 2) := by decide +kernel
theorem dX1_mayStandAt_108 : decode cX1_mayStandAt 108 = .ok (.if_icmp .lt 13, 3) := by decide +kernel
theorem dX1_mayStandAt_111 : decode cX1_mayStandAt 111 = .ok (.iload_n 1, 1) := by decide +kernel
theorem dX1_mayStandAt_112 : decode cX1_mayStandAt 112 = .ok (.bipush 57, 2) := by decide +kernel
theorem dX1_mayStandAt_114 : decode cX1_mayStandAt 114 = .ok (.if_icmp .gt 7, 3) := by decide +kernel
theorem dX1_mayStandAt_117 : decode cX1_mayStandAt 117 = .ok (.iconst 1, 1) := by decide +kernel
theorem dX1_mayStandAt_118 : decode cX1_mayStandAt 118 = .ok (.goto 4, 3) := by decide +kernel
theorem dX1_mayStandAt_121 : decode cX1_mayStandAt 121 = .ok (.iconst 0, 1) := by decide +kernel
theorem dX1_mayStandAt_122 : decode cX1_mayStandAt 122 = .ok (.ireturn, 1) := by decide +kernel
theorem dX1_parts_0 : decode cX1_parts 0 = .ok (.aload_n 0, 1) := by decide +kernel
theorem dX1_parts_1 : decode cX1_parts 1 = .ok (.getfield 15, 3) := by decide +kernel
theorem dX1_parts_4 : decode cX1_parts 4 = .ok (.iconst 4, 1) := by decide +kernel
theorem dX1_parts_5 : decode cX1_parts 5 = .ok (.if_icmp .ge 7, 3) := by decide +kernel
theorem dX1_parts_8 : decode cX1_parts 8 = .ok (.iconst 0, 1) := by decide +kernel
theorem dX1_parts_9 : decode cX1_parts 9 = .ok (.goto 12, 3) := by decide +kernel
theorem dX1_parts_12 : decode cX1_parts 12 = .ok (.aload_n 0, 1) := by decide +kernel
theorem dX1_parts_13 : decode cX1_parts 13 = .ok (.getfield 15, 3) := by decide +kernel
theorem dX1_parts_16 : decode cX1_parts 16 = .ok (.iconst 4, 1) := by decide +kernel
theorem dX1_parts_17 : decode cX1_parts 17 = .ok (.isub, 1) := by decide +kernel
theorem dX1_parts_18 : decode cX1_parts 18 = .ok (.bipush 6, 2) := by decide +kernel
theorem dX1_parts_20 : decode cX1_parts 20 = .ok (.idiv, 1) := by decide +kernel
theorem dX1_parts_21 : decode cX1_parts 21 = .ok (.ireturn, 1) := by decide +kernel
theorem dX1_figure_0 : decode cX1_figure 0 = .ok (.iload_n 1, 1) := by decide +kernel
theorem dX1_figure_1 : decode cX1_figure 1 = .ok (.ifCond .lt 11, 3) := by decide +kernel
theorem dX1_figure_4 : decode cX1_figure 4 = .ok (.iload_n 1, 1) := by decide +kernel
theorem dX1_figure_5 : decode cX1_figure 5 = .ok (.aload_n 0, 1) := by decide +kernel
theorem dX1_figure_6 : decode cX1_figure 6 = .ok (.getfield 15, 3) := by decide +kernel
theorem dX1_figure_9 : decode cX1_figure 9 = .ok (.if_icmp .lt 7, 3) := by decide +kernel
theorem dX1_figure_12 : decode cX1_figure 12 = .ok (.iconst 0, 1) := by decide +kernel
theorem dX1_figure_13 : decode cX1_figure 13 = .ok (.goto 12, 3) := by decide +kernel
theorem dX1_figure_16 : decode cX1_figure 16 = .ok (.aload_n 0, 1) := by decide +kernel
theorem dX1_figure_17 : decode cX1_figure 17 = .ok (.getfield 11, 3) := by decide +kernel
theorem dX1_figure_20 : decode cX1_figure 20 = .ok (.iload_n 1, 1) := by decide +kernel
theorem dX1_figure_21 : decode cX1_figure 21 = .ok (.iaload, 1) := by decide +kernel
theorem dX1_figure_22 : decode cX1_figure 22 = .ok (.bipush 48, 2) := by decide +kernel
theorem dX1_figure_24 : decode cX1_figure 24 = .ok (.isub, 1) := by decide +kernel
theorem dX1_figure_25 : decode cX1_figure 25 = .ok (.ireturn, 1) := by decide +kernel
set_option maxRecDepth 20000 in
theorem ggX1_partFigure_X1_figure : GoodIn wsX1_partFigure wsX1_figure := goodIn_r _ [5, 6, 7, 8, 9] (by decide +kernel) (by decide +kernel)
set_option maxRecDepth 20000 in
theorem gX1_partFigure_X1_figure : GoodIn wsX1_partFigure (wsV RX1 25 RX1 yX1_figure wsX1_figure) := goodIn_app (goodIn_of _ (by decide +kernel)) ggX1_partFigure_X1_figure
theorem dX1_partFigure_0 : decode cX1_partFigure 0 = .ok (.aload_n 0, 1) := by decide +kernel
theorem dX1_partFigure_1 : decode cX1_partFigure 1 = .ok (.iconst 4, 1) := by decide +kernel
theorem dX1_partFigure_2 : decode cX1_partFigure 2 = .ok (.bipush 6, 2) := by decide +kernel
theorem dX1_partFigure_4 : decode cX1_partFigure 4 = .ok (.iload_n 1, 1) := by decide +kernel
theorem dX1_partFigure_5 : decode cX1_partFigure 5 = .ok (.imul, 1) := by decide +kernel
theorem dX1_partFigure_6 : decode cX1_partFigure 6 = .ok (.iadd, 1) := by decide +kernel
theorem dX1_partFigure_7 : decode cX1_partFigure 7 = .ok (.iconst 1, 1) := by decide +kernel
theorem dX1_partFigure_8 : decode cX1_partFigure 8 = .ok (.iadd, 1) := by decide +kernel
theorem dX1_partFigure_9 : decode cX1_partFigure 9 = .ok (.iload_n 2, 1) := by decide +kernel
theorem dX1_partFigure_10 : decode cX1_partFigure 10 = .ok (.iadd, 1) := by decide +kernel
theorem dX1_partFigure_11 : decode cX1_partFigure 11 = .ok (.invokevirtual 25, 3) := by decide +kernel
theorem dX1_partFigure_14 : decode cX1_partFigure 14 = .ok (.ireturn, 1) := by decide +kernel
theorem dX2_init_0 : decode cX2_init 0 = .ok (.aload_n 0, 1) := by decide +kernel
theorem dX2_init_1 : decode cX2_init 1 = .ok (.invokespecial 5, 3) := by decide +kernel
theorem dX2_init_4 : decode cX2_init 4 = .ok (.aload_n 0, 1) := by decide +kernel
theorem dX2_init_5 : decode cX2_init 5 = .ok (.bipush 26, 2) := by decide +kernel
theorem dX2_init_7 : decode cX2_init 7 = .ok (.newarray .int, 2) := by decide +kernel
theorem dX2_init_9 : decode cX2_init 9 = .ok (.putfield 11, 3) := by decide +kernel
theorem dX2_init_12 : decode cX2_init 12 = .ok (.aload_n 0, 1) := by decide +kernel
theorem dX2_init_13 : decode cX2_init 13 = .ok (.iconst 0, 1) := by decide +kernel
theorem dX2_init_14 : decode cX2_init 14 = .ok (.putfield 15, 3) := by decide +kernel
theorem dX2_init_17 : decode cX2_init 17 = .ok (.aload_n 0, 1) := by decide +kernel
theorem dX2_init_18 : decode cX2_init 18 = .ok (.iconst 0, 1) := by decide +kernel
theorem dX2_init_19 : decode cX2_init 19 = .ok (.putfield 19, 3) := by decide +kernel
theorem dX2_init_22 : decode cX2_init 22 = .ok (.aload_n 0, 1) := by decide +kernel
theorem dX2_init_23 : decode cX2_init 23 = .ok (.iconst 0, 1) := by decide +kernel
theorem dX2_init_24 : decode cX2_init 24 = .ok (.putfield 22, 3) := by decide +kernel
theorem dX2_init_27 : decode cX2_init 27 = .ok (.return_, 1) := by decide +kernel
set_option maxRecDepth 20000 in
theorem ggX2_settle_J7_fill_53178 : GoodIn wsX2_settle wsJ7_fill_53178 := goodIn_r _ [12] (by decide +kernel) (by decide +kernel)
set_option maxRecDepth 20000 in
theorem gX2_settle_J7_fill_53178 : GoodIn wsX2_settle (va_wsS RX2 25 yJ7_fill_53178 wsJ7_fill_53178) := goodIn_app (goodIn_of _ (by decide +kernel)) ggX2_settle_J7_fill_53178
set_option maxRecDepth 20000 in
theorem ggX2_settle_X1_figure : GoodIn wsX2_settle wsX1_figure := goodIn_r _ [17, 18, 19, 38, 39] (by decide +kernel) (by decide +kernel)
set_option maxRecDepth 20000 in
theorem gX2_settle_X1_figure : GoodIn wsX2_settle (wsV RX2 31 RX1 yX1_figure wsX1_figure) := goodIn_app (goodIn_of _ (by decide +kernel)) ggX2_settle_X1_figure
set_option maxRecDepth 20000 in
theorem ggX2_settle_X1_parts : GoodIn wsX2_settle wsX1_parts := goodIn_r _ [23, 18, 38, 39] (by decide +kernel) (by decide +kernel)
set_option maxRecDepth 20000 in
theorem gX2_settle_X1_parts : GoodIn wsX2_settle (wsV RX2 37 RX1 yX1_parts wsX1_parts) := goodIn_app (goodIn_of _ (by decide +kernel)) ggX2_settle_X1_parts
set_option maxRecDepth 20000 in
theorem ggX2_settle_X1_partFigure : GoodIn wsX2_settle wsX1_partFigure := goodIn_r _ [27, 28, 14, 15, 16, 17, 18, 19, 38, 39] (by decide +kernel) (by decide +kernel)
set_option maxRecDepth 20000 in
theorem gX2_settle_X1_partFigure : GoodIn wsX2_settle (wsV RX2 47 RX1 yX1_partFigure wsX1_partFigure) := goodIn_app (goodIn_of _ (by decide +kernel)) ggX2_settle_X1_partFigure
set_option maxRecDepth 20000 in
theorem ggX2_settle_X2_add : GoodIn wsX2_settle wsX2_add := goodIn_r _ [33, 1, 34, 35, 36, 37] (by decide +kernel) (by decide +kernel)
set_option maxRecDepth 20000 in
theorem gX2_settle_X2_add : GoodIn wsX2_settle (wsV RX2 50 RX2 yX2_add wsX2_add) := goodIn_app (goodIn_of _ (by decide +kernel)) ggX2_settle_X2_add
theorem dX2_settle_0 : decode cX2_settle 0 = .ok (.aload_n 0, 1) := by decide +kernel
theorem dX2_settle_1 : decode cX2_settle 1 = .ok (.getfield 11, 3) := by decide +kernel
theorem dX2_settle_4 : decode cX2_settle 4 = .ok (.iconst 0, 1) := by decide +kernel
theorem dX2_settle_5 : decode cX2_settle 5 = .ok (.invokestatic 25, 3) := by decide +kernel
theorem dX2_settle_8 : decode cX2_settle 8 = .ok (.aload_n 0, 1) := by decide +kernel
theorem dX2_settle_9 : decode cX2_settle 9 = .ok (.aload_n 1, 1) := by decide +kernel
theorem dX2_settle_10 : decode cX2_settle 10 = .ok (.iconst 2, 1) := by decide +kernel
theorem dX2_settle_11 : decode cX2_settle 11 = .ok (.invokevirtual 31, 3) := by decide +kernel
theorem dX2_settle_14 : decode cX2_settle 14 = .ok (.putfield 19, 3) := by decide +kernel
theorem dX2_settle_17 : decode cX2_settle 17 = .ok (.aload_n 0, 1) := by decide +kernel
theorem dX2_settle_18 : decode cX2_settle 18 = .ok (.aload_n 1, 1) := by decide +kernel
theorem dX2_settle_19 : decode cX2_settle 19 = .ok (.iconst 3, 1) := by decide +kernel
theorem dX2_settle_20 : decode cX2_settle 20 = .ok (.invokevirtual 31, 3) := by decide +kernel
theorem dX2_settle_23 : decode cX2_settle 23 = .ok (.putfield 22, 3) := by decide +kernel
theorem dX2_settle_26 : decode cX2_settle 26 = .ok (.aload_n 0, 1) := by decide +kernel
theorem dX2_settle_27 : decode cX2_settle 27 = .ok (.aload_n 1, 1) := by decide +kernel
theorem dX2_settle_28 : decode cX2_settle 28 = .ok (.invokevirtual 37, 3) := by decide +kernel
theorem dX2_settle_31 : decode cX2_settle 31 = .ok (.iconst 5, 1) := by decide +kernel
theorem dX2_settle_32 : decode cX2_settle 32 = .ok (.invokestatic 41, 3) := by decide +kernel
theorem dX2_settle_35 : decode cX2_settle 35 = .ok (.putfield 15, 3) := by decide +kernel
theorem dX2_settle_38 : decode cX2_settle 38 = .ok (.iconst 0, 1) := by decide +kernel
theorem dX2_settle_39 : decode cX2_settle 39 = .ok (.istore_n 2, 1) := by decide +kernel
theorem dX2_settle_40 : decode cX2_settle 40 = .ok (.iload_n 2, 1) := by decide +kernel
theorem dX2_settle_41 : decode cX2_settle 41 = .ok (.aload_n 0, 1) := by decide +kernel
theorem dX2_settle_42 : decode cX2_settle 42 = .ok (.getfield 15, 3) := by decide +kernel
theorem dX2_settle_45 : decode cX2_settle 45 = .ok (.if_icmp .ge 65, 3) := by decide +kernel
theorem dX2_settle_48 : decode cX2_settle 48 = .ok (.aload_n 0, 1) := by decide +kernel
theorem dX2_settle_49 : decode cX2_settle 49 = .ok (.iload_n 2, 1) := by decide +kernel
theorem dX2_settle_50 : decode cX2_settle 50 = .ok (.iconst 0, 1) := by decide +kernel
theorem dX2_settle_51 : decode cX2_settle 51 = .ok (.bipush 100, 2) := by decide +kernel
theorem dX2_settle_53 : decode cX2_settle 53 = .ok (.aload_n 1, 1) := by decide +kernel
theorem dX2_settle_54 : decode cX2_settle 54 = .ok (.iload_n 2, 1) := by decide +kernel
theorem dX2_settle_55 : decode cX2_settle 55 = .ok (.iconst 0, 1) := by decide +kernel
theorem dX2_settle_56 : decode cX2_settle 56 = .ok (.invokevirtual 47, 3) := by decide +kernel
theorem dX2_settle_59 : decode cX2_settle 59 = .ok (.imul, 1) := by decide +kernel
theorem dX2_settle_60 : decode cX2_settle 60 = .ok (.bipush 10, 2) := by decide +kernel
theorem dX2_settle_62 : decode cX2_settle 62 = .ok (.aload_n 1, 1) := by decide +kernel
theorem dX2_settle_63 : decode cX2_settle 63 = .ok (.iload_n 2, 1) := by decide +kernel
theorem dX2_settle_64 : decode cX2_settle 64 = .ok (.iconst 1, 1) := by decide +kernel
theorem dX2_settle_65 : decode cX2_settle 65 = .ok (.invokevirtual 47, 3) := by decide +kernel
theorem dX2_settle_68 : decode cX2_settle 68 = .ok (.imul, 1) := by decide +kernel
theorem dX2_settle_69 : decode cX2_settle 69 = .ok (.iadd, 1) := by decide +kernel
theorem dX2_settle_70 : decode cX2_settle 70 = .ok (.aload_n 1, 1) := by decide +kernel
theorem dX2_settle_71 : decode cX2_settle 71 = .ok (.iload_n 2, 1) := by decide +kernel
theorem dX2_settle_72 : decode cX2_settle 72 = .ok (.iconst 2, 1) := by decide +kernel
theorem dX2_settle_73 : decode cX2_settle 73 = .ok (.invokevirtual 47, 3) := by decide +kernel
theorem dX2_settle_76 : decode cX2_settle 76 = .ok (.iadd, 1) := by decide +kernel
theorem dX2_settle_77 : decode cX2_settle 77 = .ok (.invokevirtual 50, 3) := by decide +kernel
theorem dX2_settle_80 : decode cX2_settle 80 = .ok (.aload_n 0, 1) := by decide +kernel
theorem dX2_settle_81 : decode cX2_settle 81 = .ok (.iload_n 2, 1) := by decide +kernel
theorem dX2_settle_82 : decode cX2_settle 82 = .ok (.iconst 1, 1) := by decide +kernel
theorem dX2_settle_83 : decode cX2_settle 83 = .ok (.aload_n 1, 1) := by decide +kernel
theorem dX2_settle_84 : decode cX2_settle 84 = .ok (.iload_n 2, 1) := by decide +kernel
theorem dX2_settle_85 : decode cX2_settle 85 = .ok (.iconst 3, 1) := by decide +kernel
theorem dX2_settle_86 : decode cX2_settle 86 = .ok (.invokevirtual 47, 3) := by decide +kernel
theorem dX2_settle_89 : decode cX2_settle 89 = .ok (.invokevirtual 50, 3) := by decide +kernel
theorem dX2_settle_92 : decode cX2_settle 92 = .ok (.aload_n 0, 1) := by decide +kernel
theorem dX2_settle_93 : decode cX2_settle 93 = .ok (.iload_n 2, 1) := by decide +kernel
theorem dX2_settle_94 : decode cX2_settle 94 = .ok (.iconst 2, 1) := by decide +kernel
theorem dX2_settle_95 : decode cX2_settle 95 = .ok (.aload_n 1, 1) := by decide +kernel
theorem dX2_settle_96 : decode cX2_settle 96 = .ok (.iload_n 2, 1) := by decide +kernel
theorem dX2_settle_97 : decode cX2_settle 97 = .ok (.iconst 4, 1) := by decide +kernel
theorem dX2_settle_98 : decode cX2_settle 98 = .ok (.invokevirtual 47, 3) := by decide +kernel
theorem dX2_settle_101 : decode cX2_settle 101 = .ok (.invokevirtual 50, 3) := by decide +kernel
theorem dX2_settle_104 : decode cX2_settle 104 = .ok (.iinc 2 1, 3) := by decide +kernel
theorem dX2_settle_107 : decode cX2_settle 107 = .ok (.goto (-67), 3) := by decide +kernel
theorem dX2_settle_110 : decode cX2_settle 110 = .ok (.return_, 1) := by decide +kernel
theorem dX2_becomeLike_0 : decode cX2_becomeLike 0 = .ok (.aload_n 1, 1) := by decide +kernel
theorem dX2_becomeLike_1 : decode cX2_becomeLike 1 = .ok (.getfield 11, 3) := by decide +kernel
theorem dX2_becomeLike_4 : decode cX2_becomeLike 4 = .ok (.iconst 0, 1) := by decide +kernel
theorem dX2_becomeLike_5 : decode cX2_becomeLike 5 = .ok (.aload_n 0, 1) := by decide +kernel
theorem dX2_becomeLike_6 : decode cX2_becomeLike 6 = .ok (.getfield 11, 3) := by decide +kernel
theorem dX2_becomeLike_9 : decode cX2_becomeLike 9 = .ok (.iconst 0, 1) := by decide +kernel
theorem dX2_becomeLike_10 : decode cX2_becomeLike 10 = .ok (.bipush 26, 2) := by decide +kernel
theorem dX2_becomeLike_12 : decode cX2_becomeLike 12 = .ok (.invokestatic 54, 3) := by decide +kernel
theorem dX2_becomeLike_15 : decode cX2_becomeLike 15 = .ok (.aload_n 0, 1) := by decide +kernel
theorem dX2_becomeLike_16 : decode cX2_becomeLike 16 = .ok (.aload_n 1, 1) := by decide +kernel
theorem dX2_becomeLike_17 : decode cX2_becomeLike 17 = .ok (.getfield 15, 3) := by decide +kernel
theorem dX2_becomeLike_20 : decode cX2_becomeLike 20 = .ok (.putfield 15, 3) := by decide +kernel
theorem dX2_becomeLike_23 : decode cX2_becomeLike 23 = .ok (.aload_n 0, 1) := by decide +kernel
theorem dX2_becomeLike_24 : decode cX2_becomeLike 24 = .ok (.aload_n 1, 1) := by decide +kernel
theorem dX2_becomeLike_25 : decode cX2_becomeLike 25 = .ok (.getfield 19, 3) := by decide +kernel
theorem dX2_becomeLike_28 : decode cX2_becomeLike 28 = .ok (.putfield 19, 3) := by decide +kernel
theorem dX2_becomeLike_31 : decode cX2_becomeLike 31 = .ok (.aload_n 0, 1) := by decide +kernel
theorem dX2_becomeLike_32 : decode cX2_becomeLike 32 = .ok (.aload_n 1, 1) := by decide +kernel
theorem dX2_becomeLike_33 : decode cX2_becomeLike 33 = .ok (.getfield 22, 3) := by decide +kernel
theorem dX2_becomeLike_36 : decode cX2_becomeLike 36 = .ok (.putfield 22, 3) := by decide +kernel
theorem dX2_becomeLike_39 : decode cX2_becomeLike 39 = .ok (.return_, 1) := by decide +kernel
theorem dX2_copyTo_0 : decode cX2_copyTo 0 = .ok (.iload_n 2, 1) := by decide +kernel
theorem dX2_copyTo_1 : decode cX2_copyTo 1 = .ok (.ifCond .lt 27, 3) := by decide +kernel
theorem dX2_copyTo_4 : decode cX2_copyTo 4 = .ok (.iload_n 2, 1) := by decide +kernel
theorem dX2_copyTo_5 : decode cX2_copyTo 5 = .ok (.aload_n 1, 1) := by decide +kernel
theorem dX2_copyTo_6 : decode cX2_copyTo 6 = .ok (.arraylength, 1) := by decide +kernel
theorem dX2_copyTo_7 : decode cX2_copyTo 7 = .ok (.bipush 26, 2) := by decide +kernel
theorem dX2_copyTo_9 : decode cX2_copyTo 9 = .ok (.idiv, 1) := by decide +kernel
theorem dX2_copyTo_10 : decode cX2_copyTo 10 = .ok (.if_icmp .ge 18, 3) := by decide +kernel
theorem dX2_copyTo_13 : decode cX2_copyTo 13 = .ok (.aload_n 0, 1) := by decide +kernel
theorem dX2_copyTo_14 : decode cX2_copyTo 14 = .ok (.getfield 11, 3) := by decide +kernel
theorem dX2_copyTo_17 : decode cX2_copyTo 17 = .ok (.iconst 0, 1) := by decide +kernel
theorem dX2_copyTo_18 : decode cX2_copyTo 18 = .ok (.aload_n 1, 1) := by decide +kernel
theorem dX2_copyTo_19 : decode cX2_copyTo 19 = .ok (.iload_n 2, 1) := by decide +kernel
theorem dX2_copyTo_20 : decode cX2_copyTo 20 = .ok (.bipush 26, 2) := by decide +kernel
theorem dX2_copyTo_22 : decode cX2_copyTo 22 = .ok (.imul, 1) := by decide +kernel
theorem dX2_copyTo_23 : decode cX2_copyTo 23 = .ok (.bipush 26, 2) := by decide +kernel
theorem dX2_copyTo_25 : decode cX2_copyTo 25 = .ok (.invokestatic 54, 3) := by decide +kernel
theorem dX2_copyTo_28 : decode cX2_copyTo 28 = .ok (.return_, 1) := by decide +kernel
theorem dX2_copyFrom_0 : decode cX2_copyFrom 0 = .ok (.iload_n 2, 1) := by decide +kernel
theorem dX2_copyFrom_1 : decode cX2_copyFrom 1 = .ok (.ifCond .lt 27, 3) := by decide +kernel
theorem dX2_copyFrom_4 : decode cX2_copyFrom 4 = .ok (.iload_n 2, 1) := by decide +kernel
theorem dX2_copyFrom_5 : decode cX2_copyFrom 5 = .ok (.aload_n 1, 1) := by decide +kernel
theorem dX2_copyFrom_6 : decode cX2_copyFrom 6 = .ok (.arraylength, 1) := by decide +kernel
theorem dX2_copyFrom_7 : decode cX2_copyFrom 7 = .ok (.bipush 26, 2) := by decide +kernel
theorem dX2_copyFrom_9 : decode cX2_copyFrom 9 = .ok (.idiv, 1) := by decide +kernel
theorem dX2_copyFrom_10 : decode cX2_copyFrom 10 = .ok (.if_icmp .ge 18, 3) := by decide +kernel
theorem dX2_copyFrom_13 : decode cX2_copyFrom 13 = .ok (.aload_n 1, 1) := by decide +kernel
theorem dX2_copyFrom_14 : decode cX2_copyFrom 14 = .ok (.iload_n 2, 1) := by decide +kernel
theorem dX2_copyFrom_15 : decode cX2_copyFrom 15 = .ok (.bipush 26, 2) := by decide +kernel
theorem dX2_copyFrom_17 : decode cX2_copyFrom 17 = .ok (.imul, 1) := by decide +kernel
theorem dX2_copyFrom_18 : decode cX2_copyFrom 18 = .ok (.aload_n 0, 1) := by decide +kernel
theorem dX2_copyFrom_19 : decode cX2_copyFrom 19 = .ok (.getfield 11, 3) := by decide +kernel
theorem dX2_copyFrom_22 : decode cX2_copyFrom 22 = .ok (.iconst 0, 1) := by decide +kernel
theorem dX2_copyFrom_23 : decode cX2_copyFrom 23 = .ok (.bipush 26, 2) := by decide +kernel
theorem dX2_copyFrom_25 : decode cX2_copyFrom 25 = .ok (.invokestatic 54, 3) := by decide +kernel
theorem dX2_copyFrom_28 : decode cX2_copyFrom 28 = .ok (.return_, 1) := by decide +kernel
theorem dX2_size_0 : decode cX2_size 0 = .ok (.aload_n 0, 1) := by decide +kernel
theorem dX2_size_1 : decode cX2_size 1 = .ok (.getfield 15, 3) := by decide +kernel
theorem dX2_size_4 : decode cX2_size 4 = .ok (.ireturn, 1) := by decide +kernel
theorem dX2_has_0 : decode cX2_has 0 = .ok (.iload_n 1, 1) := by decide +kernel
theorem dX2_has_1 : decode cX2_has 1 = .ok (.ifCond .lt 15, 3) := by decide +kernel
theorem dX2_has_4 : decode cX2_has 4 = .ok (.iload_n 1, 1) := by decide +kernel
theorem dX2_has_5 : decode cX2_has 5 = .ok (.aload_n 0, 1) := by decide +kernel
theorem dX2_has_6 : decode cX2_has 6 = .ok (.getfield 15, 3) := by decide +kernel
theorem dX2_has_9 : decode cX2_has 9 = .ok (.if_icmp .ge 7, 3) := by decide +kernel
theorem dX2_has_12 : decode cX2_has 12 = .ok (.iconst 1, 1) := by decide +kernel
theorem dX2_has_13 : decode cX2_has 13 = .ok (.goto 4, 3) := by decide +kernel
theorem dX2_has_16 : decode cX2_has 16 = .ok (.iconst 0, 1) := by decide +kernel
theorem dX2_has_17 : decode cX2_has 17 = .ok (.ireturn, 1) := by decide +kernel
theorem dX2_get_0 : decode cX2_get 0 = .ok (.iload_n 1, 1) := by decide +kernel
theorem dX2_get_1 : decode cX2_get 1 = .ok (.iconst 5, 1) := by decide +kernel
theorem dX2_get_2 : decode cX2_get 2 = .ok (.imul, 1) := by decide +kernel
theorem dX2_get_3 : decode cX2_get 3 = .ok (.iload_n 2, 1) := by decide +kernel
theorem dX2_get_4 : decode cX2_get 4 = .ok (.iadd, 1) := by decide +kernel
theorem dX2_get_5 : decode cX2_get 5 = .ok (.istore_n 3, 1) := by decide +kernel
theorem dX2_get_6 : decode cX2_get 6 = .ok (.iload_n 3, 1) := by decide +kernel
theorem dX2_get_7 : decode cX2_get 7 = .ok (.ifCond .lt 18, 3) := by decide +kernel
theorem dX2_get_10 : decode cX2_get 10 = .ok (.iload_n 3, 1) := by decide +kernel
theorem dX2_get_11 : decode cX2_get 11 = .ok (.bipush 25, 2) := by decide +kernel
theorem dX2_get_13 : decode cX2_get 13 = .ok (.if_icmp .ge 12, 3) := by decide +kernel
theorem dX2_get_16 : decode cX2_get 16 = .ok (.aload_n 0, 1) := by decide +kernel
theorem dX2_get_17 : decode cX2_get 17 = .ok (.getfield 11, 3) := by decide +kernel
theorem dX2_get_20 : decode cX2_get 20 = .ok (.iload_n 3, 1) := by decide +kernel
theorem dX2_get_21 : decode cX2_get 21 = .ok (.iaload, 1) := by decide +kernel
theorem dX2_get_22 : decode cX2_get 22 = .ok (.goto 4, 3) := by decide +kernel
theorem dX2_get_25 : decode cX2_get 25 = .ok (.iconst 0, 1) := by decide +kernel
theorem dX2_get_26 : decode cX2_get 26 = .ok (.ireturn, 1) := by decide +kernel
theorem dX2_add_0 : decode cX2_add 0 = .ok (.iload_n 1, 1) := by decide +kernel
theorem dX2_add_1 : decode cX2_add 1 = .ok (.iconst 5, 1) := by decide +kernel
theorem dX2_add_2 : decode cX2_add 2 = .ok (.imul, 1) := by decide +kernel
theorem dX2_add_3 : decode cX2_add 3 = .ok (.iload_n 2, 1) := by decide +kernel
theorem dX2_add_4 : decode cX2_add 4 = .ok (.iadd, 1) := by decide +kernel
theorem dX2_add_5 : decode cX2_add 5 = .ok (.istore 4, 2) := by decide +kernel
theorem dX2_add_7 : decode cX2_add 7 = .ok (.iload 4, 2) := by decide +kernel
theorem dX2_add_9 : decode cX2_add 9 = .ok (.ifCond .lt 21, 3) := by decide +kernel
theorem dX2_add_12 : decode cX2_add 12 = .ok (.iload 4, 2) := by decide +kernel
theorem dX2_add_14 : decode cX2_add 14 = .ok (.bipush 25, 2) := by decide +kernel
theorem dX2_add_16 : decode cX2_add 16 = .ok (.if_icmp .ge 14, 3) := by decide +kernel
theorem dX2_add_19 : decode cX2_add 19 = .ok (.aload_n 0, 1) := by decide +kernel
theorem dX2_add_20 : decode cX2_add 20 = .ok (.getfield 11, 3) := by decide +kernel
theorem dX2_add_23 : decode cX2_add 23 = .ok (.iload 4, 2) := by decide +kernel
theorem dX2_add_25 : decode cX2_add 25 = .ok (.dup2, 1) := by decide +kernel
theorem dX2_add_26 : decode cX2_add 26 = .ok (.iaload, 1) := by decide +kernel
theorem dX2_add_27 : decode cX2_add 27 = .ok (.iload_n 3, 1) := by decide +kernel
theorem dX2_add_28 : decode cX2_add 28 = .ok (.iadd, 1) := by decide +kernel
theorem dX2_add_29 : decode cX2_add 29 = .ok (.iastore, 1) := by decide +kernel
theorem dX2_add_30 : decode cX2_add 30 = .ok (.return_, 1) := by decide +kernel
set_option maxRecDepth 20000 in
theorem ggX2_gain_X2_get : GoodIn wsX2_gain wsX2_get := goodIn_r _ [9, 10, 15, 16, 17, 18] (by decide +kernel) (by decide +kernel)
set_option maxRecDepth 20000 in
theorem gX2_gain_X2_get : GoodIn wsX2_gain (wsV RX2 60 RX2 yX2_get wsX2_get) := goodIn_app (goodIn_of _ (by decide +kernel)) ggX2_gain_X2_get
set_option maxRecDepth 20000 in
theorem ggX2_gain_X2_add : GoodIn wsX2_gain wsX2_add := goodIn_r _ [14, 10, 15, 16, 17, 18] (by decide +kernel) (by decide +kernel)
set_option maxRecDepth 20000 in
theorem gX2_gain_X2_add : GoodIn wsX2_gain (wsV RX2 50 RX2 yX2_add wsX2_add) := goodIn_app (goodIn_of _ (by decide +kernel)) ggX2_gain_X2_add
theorem dX2_gain_0 : decode cX2_gain 0 = .ok (.aload_n 0, 1) := by decide +kernel
theorem dX2_gain_1 : decode cX2_gain 1 = .ok (.iload_n 1, 1) := by decide +kernel
theorem dX2_gain_2 : decode cX2_gain 2 = .ok (.iconst 0, 1) := by decide +kernel
theorem dX2_gain_3 : decode cX2_gain 3 = .ok (.invokevirtual 60, 3) := by decide +kernel
theorem dX2_gain_6 : decode cX2_gain 6 = .ok (.istore_n 3, 1) := by decide +kernel
theorem dX2_gain_7 : decode cX2_gain 7 = .ok (.aload_n 0, 1) := by decide +kernel
theorem dX2_gain_8 : decode cX2_gain 8 = .ok (.iload_n 1, 1) := by decide +kernel
theorem dX2_gain_9 : decode cX2_gain 9 = .ok (.iconst 0, 1) := by decide +kernel
theorem dX2_gain_10 : decode cX2_gain 10 = .ok (.iconst 1, 1) := by decide +kernel
theorem dX2_gain_11 : decode cX2_gain 11 = .ok (.iload_n 3, 1) := by decide +kernel
theorem dX2_gain_12 : decode cX2_gain 12 = .ok (.iload_n 2, 1) := by decide +kernel
theorem dX2_gain_13 : decode cX2_gain 13 = .ok (.iadd, 1) := by decide +kernel
theorem dX2_gain_14 : decode cX2_gain 14 = .ok (.invokestatic 63, 3) := by decide +kernel
theorem dX2_gain_17 : decode cX2_gain 17 = .ok (.iload_n 3, 1) := by decide +kernel
theorem dX2_gain_18 : decode cX2_gain 18 = .ok (.isub, 1) := by decide +kernel
theorem dX2_gain_19 : decode cX2_gain 19 = .ok (.invokevirtual 50, 3) := by decide +kernel
theorem dX2_gain_22 : decode cX2_gain 22 = .ok (.aload_n 0, 1) := by decide +kernel
theorem dX2_gain_23 : decode cX2_gain 23 = .ok (.iload_n 1, 1) := by decide +kernel
theorem dX2_gain_24 : decode cX2_gain 24 = .ok (.iconst 0, 1) := by decide +kernel
theorem dX2_gain_25 : decode cX2_gain 25 = .ok (.invokevirtual 60, 3) := by decide +kernel
theorem dX2_gain_28 : decode cX2_gain 28 = .ok (.ireturn, 1) := by decide +kernel
theorem dX2_today_0 : decode cX2_today 0 = .ok (.aload_n 0, 1) := by decide +kernel
theorem dX2_today_1 : decode cX2_today 1 = .ok (.getfield 11, 3) := by decide +kernel
theorem dX2_today_4 : decode cX2_today 4 = .ok (.bipush 25, 2) := by decide +kernel
theorem dX2_today_6 : decode cX2_today 6 = .ok (.iaload, 1) := by decide +kernel
theorem dX2_today_7 : decode cX2_today 7 = .ok (.ireturn, 1) := by decide +kernel
set_option maxRecDepth 20000 in
theorem ggX2_passDay_X2_get : GoodIn wsX2_passDay wsX2_get := goodIn_r _ [8, 1, 21, 22, 23, 24] (by decide +kernel) (by decide +kernel)
set_option maxRecDepth 20000 in
theorem gX2_passDay_X2_get : GoodIn wsX2_passDay (wsV RX2 60 RX2 yX2_get wsX2_get) := goodIn_app (goodIn_of _ (by decide +kernel)) ggX2_passDay_X2_get
set_option maxRecDepth 20000 in
theorem ggX2_passDay_X2_gain : GoodIn wsX2_passDay wsX2_gain := goodIn_r _ [12, 13, 14, 15, 16, 4, 5, 6, 7, 8, 1, 17, 18, 19, 20, 21, 22, 23, 24] (by decide +kernel) (by decide +kernel)
set_option maxRecDepth 20000 in
theorem gX2_passDay_X2_gain : GoodIn wsX2_passDay (wsV RX2 66 RX2 yX2_gain wsX2_gain) := goodIn_app (goodIn_of _ (by decide +kernel)) ggX2_passDay_X2_gain
set_option maxRecDepth 20000 in
theorem ggX2_passDay_X2_add : GoodIn wsX2_passDay wsX2_add := goodIn_r _ [20, 1, 21, 22, 23, 24] (by decide +kernel) (by decide +kernel)
set_option maxRecDepth 20000 in
theorem gX2_passDay_X2_add : GoodIn wsX2_passDay (wsV RX2 50 RX2 yX2_add wsX2_add) := goodIn_app (goodIn_of _ (by decide +kernel)) ggX2_passDay_X2_add
theorem dX2_passDay_0 : decode cX2_passDay 0 = .ok (.aload_n 0, 1) := by decide +kernel
theorem dX2_passDay_1 : decode cX2_passDay 1 = .ok (.getfield 11, 3) := by decide +kernel
theorem dX2_passDay_4 : decode cX2_passDay 4 = .ok (.bipush 25, 2) := by decide +kernel
theorem dX2_passDay_6 : decode cX2_passDay 6 = .ok (.dup2, 1) := by decide +kernel
theorem dX2_passDay_7 : decode cX2_passDay 7 = .ok (.iaload, 1) := by decide +kernel
theorem dX2_passDay_8 : decode cX2_passDay 8 = .ok (.iconst 1, 1) := by decide +kernel
theorem dX2_passDay_9 : decode cX2_passDay 9 = .ok (.iadd, 1) := by decide +kernel
theorem dX2_passDay_10 : decode cX2_passDay 10 = .ok (.iastore, 1) := by decide +kernel
theorem dX2_passDay_11 : decode cX2_passDay 11 = .ok (.iconst 0, 1) := by decide +kernel
theorem dX2_passDay_12 : decode cX2_passDay 12 = .ok (.istore_n 1, 1) := by decide +kernel
theorem dX2_passDay_13 : decode cX2_passDay 13 = .ok (.iload_n 1, 1) := by decide +kernel
theorem dX2_passDay_14 : decode cX2_passDay 14 = .ok (.aload_n 0, 1) := by decide +kernel
theorem dX2_passDay_15 : decode cX2_passDay 15 = .ok (.getfield 15, 3) := by decide +kernel
theorem dX2_passDay_18 : decode cX2_passDay 18 = .ok (.if_icmp .ge 39, 3) := by decide +kernel
theorem dX2_passDay_21 : decode cX2_passDay 21 = .ok (.aload_n 0, 1) := by decide +kernel
theorem dX2_passDay_22 : decode cX2_passDay 22 = .ok (.iload_n 1, 1) := by decide +kernel
theorem dX2_passDay_23 : decode cX2_passDay 23 = .ok (.iconst 3, 1) := by decide +kernel
theorem dX2_passDay_24 : decode cX2_passDay 24 = .ok (.invokevirtual 60, 3) := by decide +kernel
theorem dX2_passDay_27 : decode cX2_passDay 27 = .ok (.istore_n 2, 1) := by decide +kernel
theorem dX2_passDay_28 : decode cX2_passDay 28 = .ok (.aload_n 0, 1) := by decide +kernel
theorem dX2_passDay_29 : decode cX2_passDay 29 = .ok (.iload_n 1, 1) := by decide +kernel
theorem dX2_passDay_30 : decode cX2_passDay 30 = .ok (.iload_n 2, 1) := by decide +kernel
theorem dX2_passDay_31 : decode cX2_passDay 31 = .ok (.ineg, 1) := by decide +kernel
theorem dX2_passDay_32 : decode cX2_passDay 32 = .ok (.iconst 2, 1) := by decide +kernel
theorem dX2_passDay_33 : decode cX2_passDay 33 = .ok (.aload_n 0, 1) := by decide +kernel
theorem dX2_passDay_34 : decode cX2_passDay 34 = .ok (.getfield 19, 3) := by decide +kernel
theorem dX2_passDay_37 : decode cX2_passDay 37 = .ok (.imul, 1) := by decide +kernel
theorem dX2_passDay_38 : decode cX2_passDay 38 = .ok (.isub, 1) := by decide +kernel
theorem dX2_passDay_39 : decode cX2_passDay 39 = .ok (.invokevirtual 66, 3) := by decide +kernel
theorem dX2_passDay_42 : decode cX2_passDay 42 = .ok (.pop, 1) := by decide +kernel
theorem dX2_passDay_43 : decode cX2_passDay 43 = .ok (.aload_n 0, 1) := by decide +kernel
theorem dX2_passDay_44 : decode cX2_passDay 44 = .ok (.iload_n 1, 1) := by decide +kernel
theorem dX2_passDay_45 : decode cX2_passDay 45 = .ok (.iconst 3, 1) := by decide +kernel
theorem dX2_passDay_46 : decode cX2_passDay 46 = .ok (.iload_n 2, 1) := by decide +kernel
theorem dX2_passDay_47 : decode cX2_passDay 47 = .ok (.ineg, 1) := by decide +kernel
theorem dX2_passDay_48 : decode cX2_passDay 48 = .ok (.invokevirtual 50, 3) := by decide +kernel
theorem dX2_passDay_51 : decode cX2_passDay 51 = .ok (.iinc 1 1, 3) := by decide +kernel
theorem dX2_passDay_54 : decode cX2_passDay 54 = .ok (.goto (-41), 3) := by decide +kernel
theorem dX2_passDay_57 : decode cX2_passDay 57 = .ok (.return_, 1) := by decide +kernel
set_option maxRecDepth 20000 in
theorem ggX2_pocketWeight_X2_get : GoodIn wsX2_pocketWeight wsX2_get := goodIn_r _ [5, 6, 7, 8, 9, 10] (by decide +kernel) (by decide +kernel)
set_option maxRecDepth 20000 in
theorem gX2_pocketWeight_X2_get : GoodIn wsX2_pocketWeight (wsV RX2 60 RX2 yX2_get wsX2_get) := goodIn_app (goodIn_of _ (by decide +kernel)) ggX2_pocketWeight_X2_get
theorem dX2_pocketWeight_0 : decode cX2_pocketWeight 0 = .ok (.bipush 8, 2) := by decide +kernel
theorem dX2_pocketWeight_2 : decode cX2_pocketWeight 2 = .ok (.aload_n 0, 1) := by decide +kernel
theorem dX2_pocketWeight_3 : decode cX2_pocketWeight 3 = .ok (.iload_n 1, 1) := by decide +kernel
theorem dX2_pocketWeight_4 : decode cX2_pocketWeight 4 = .ok (.iconst 1, 1) := by decide +kernel
theorem dX2_pocketWeight_5 : decode cX2_pocketWeight 5 = .ok (.invokevirtual 60, 3) := by decide +kernel
theorem dX2_pocketWeight_8 : decode cX2_pocketWeight 8 = .ok (.imul, 1) := by decide +kernel
theorem dX2_pocketWeight_9 : decode cX2_pocketWeight 9 = .ok (.bipush 10, 2) := by decide +kernel
theorem dX2_pocketWeight_11 : decode cX2_pocketWeight 11 = .ok (.aload_n 0, 1) := by decide +kernel
theorem dX2_pocketWeight_12 : decode cX2_pocketWeight 12 = .ok (.iload_n 1, 1) := by decide +kernel
theorem dX2_pocketWeight_13 : decode cX2_pocketWeight 13 = .ok (.iconst 2, 1) := by decide +kernel
theorem dX2_pocketWeight_14 : decode cX2_pocketWeight 14 = .ok (.invokevirtual 60, 3) := by decide +kernel
theorem dX2_pocketWeight_17 : decode cX2_pocketWeight 17 = .ok (.imul, 1) := by decide +kernel
theorem dX2_pocketWeight_18 : decode cX2_pocketWeight 18 = .ok (.iadd, 1) := by decide +kernel
theorem dX2_pocketWeight_19 : decode cX2_pocketWeight 19 = .ok (.ireturn, 1) := by decide +kernel
set_option maxRecDepth 20000 in
theorem ggX2_noonWeight_X2_get : GoodIn wsX2_noonWeight wsX2_get := goodIn_r _ [5, 6, 11, 12, 13, 14] (by decide +kernel) (by decide +kernel)
set_option maxRecDepth 20000 in
theorem gX2_noonWeight_X2_get : GoodIn wsX2_noonWeight (wsV RX2 60 RX2 yX2_get wsX2_get) := goodIn_app (goodIn_of _ (by decide +kernel)) ggX2_noonWeight_X2_get
set_option maxRecDepth 20000 in
theorem ggX2_noonWeight_X2_pocketWeight : GoodIn wsX2_noonWeight wsX2_pocketWeight := goodIn_r _ [10, 1, 2, 3, 4, 5, 6, 11, 12, 13, 14] (by decide +kernel) (by decide +kernel)
set_option maxRecDepth 20000 in
theorem gX2_noonWeight_X2_pocketWeight : GoodIn wsX2_noonWeight (wsV RX2 69 RX2 yX2_pocketWeight wsX2_pocketWeight) := goodIn_app (goodIn_of _ (by decide +kernel)) ggX2_noonWeight_X2_pocketWeight
theorem dX2_noonWeight_0 : decode cX2_noonWeight 0 = .ok (.aload_n 0, 1) := by decide +kernel
theorem dX2_noonWeight_1 : decode cX2_noonWeight 1 = .ok (.iload_n 1, 1) := by decide +kernel
theorem dX2_noonWeight_2 : decode cX2_noonWeight 2 = .ok (.iconst 0, 1) := by decide +kernel
theorem dX2_noonWeight_3 : decode cX2_noonWeight 3 = .ok (.invokevirtual 60, 3) := by decide +kernel
theorem dX2_noonWeight_6 : decode cX2_noonWeight 6 = .ok (.aload_n 0, 1) := by decide +kernel
theorem dX2_noonWeight_7 : decode cX2_noonWeight 7 = .ok (.iload_n 1, 1) := by decide +kernel
theorem dX2_noonWeight_8 : decode cX2_noonWeight 8 = .ok (.invokevirtual 69, 3) := by decide +kernel
theorem dX2_noonWeight_11 : decode cX2_noonWeight 11 = .ok (.iadd, 1) := by decide +kernel
theorem dX2_noonWeight_12 : decode cX2_noonWeight 12 = .ok (.ireturn, 1) := by decide +kernel
set_option maxRecDepth 20000 in
theorem ggX2_isIll_X2_get : GoodIn wsX2_isIll wsX2_get := goodIn_r _ [6, 7, 8, 9, 10, 11] (by decide +kernel) (by decide +kernel)
set_option maxRecDepth 20000 in
theorem gX2_isIll_X2_get : GoodIn wsX2_isIll (wsV RX2 60 RX2 yX2_get wsX2_get) := goodIn_app (goodIn_of _ (by decide +kernel)) ggX2_isIll_X2_get
theorem dX2_isIll_0 : decode cX2_isIll 0 = .ok (.aload_n 0, 1) := by decide +kernel
theorem dX2_isIll_1 : decode cX2_isIll 1 = .ok (.iload_n 1, 1) := by decide +kernel
theorem dX2_isIll_2 : decode cX2_isIll 2 = .ok (.iconst 0, 1) := by decide +kernel
theorem dX2_isIll_3 : decode cX2_isIll 3 = .ok (.invokevirtual 60, 3) := by decide +kernel
theorem dX2_isIll_6 : decode cX2_isIll 6 = .ok (.bipush 40, 2) := by decide +kernel
theorem dX2_isIll_8 : decode cX2_isIll 8 = .ok (.aload_n 0, 1) := by decide +kernel
theorem dX2_isIll_9 : decode cX2_isIll 9 = .ok (.getfield 22, 3) := by decide +kernel
theorem dX2_isIll_12 : decode cX2_isIll 12 = .ok (.imul, 1) := by decide +kernel
theorem dX2_isIll_13 : decode cX2_isIll 13 = .ok (.if_icmp .ge 7, 3) := by decide +kernel
theorem dX2_isIll_16 : decode cX2_isIll 16 = .ok (.iconst 1, 1) := by decide +kernel
theorem dX2_isIll_17 : decode cX2_isIll 17 = .ok (.goto 4, 3) := by decide +kernel
theorem dX2_isIll_20 : decode cX2_isIll 20 = .ok (.iconst 0, 1) := by decide +kernel
theorem dX2_isIll_21 : decode cX2_isIll 21 = .ok (.ireturn, 1) := by decide +kernel
set_option maxRecDepth 20000 in
theorem ggX2_illBits_X2_isIll : GoodIn wsX2_illBits wsX2_isIll := goodIn_r _ [6, 7, 8, 9, 10, 5, 11, 12, 13, 14, 15, 16] (by decide +kernel) (by decide +kernel)
set_option maxRecDepth 20000 in
theorem gX2_illBits_X2_isIll : GoodIn wsX2_illBits (wsV RX2 72 RX2 yX2_isIll wsX2_isIll) := goodIn_app (goodIn_of _ (by decide +kernel)) ggX2_illBits_X2_isIll
theorem dX2_illBits_0 : decode cX2_illBits 0 = .ok (.iconst 0, 1) := by decide +kernel
theorem dX2_illBits_1 : decode cX2_illBits 1 = .ok (.istore_n 1, 1) := by decide +kernel
theorem dX2_illBits_2 : decode cX2_illBits 2 = .ok (.iconst 0, 1) := by decide +kernel
theorem dX2_illBits_3 : decode cX2_illBits 3 = .ok (.istore_n 2, 1) := by decide +kernel
theorem dX2_illBits_4 : decode cX2_illBits 4 = .ok (.iload_n 2, 1) := by decide +kernel
theorem dX2_illBits_5 : decode cX2_illBits 5 = .ok (.aload_n 0, 1) := by decide +kernel
theorem dX2_illBits_6 : decode cX2_illBits 6 = .ok (.getfield 15, 3) := by decide +kernel
theorem dX2_illBits_9 : decode cX2_illBits 9 = .ok (.if_icmp .ge 23, 3) := by decide +kernel
theorem dX2_illBits_12 : decode cX2_illBits 12 = .ok (.aload_n 0, 1) := by decide +kernel
theorem dX2_illBits_13 : decode cX2_illBits 13 = .ok (.iload_n 2, 1) := by decide +kernel
theorem dX2_illBits_14 : decode cX2_illBits 14 = .ok (.invokevirtual 72, 3) := by decide +kernel
theorem dX2_illBits_17 : decode cX2_illBits 17 = .ok (.ifCond .eq 9, 3) := by decide +kernel
theorem dX2_illBits_20 : decode cX2_illBits 20 = .ok (.iload_n 1, 1) := by decide +kernel
theorem dX2_illBits_21 : decode cX2_illBits 21 = .ok (.iconst 1, 1) := by decide +kernel
theorem dX2_illBits_22 : decode cX2_illBits 22 = .ok (.iload_n 2, 1) := by decide +kernel
theorem dX2_illBits_23 : decode cX2_illBits 23 = .ok (.ishl, 1) := by decide +kernel
theorem dX2_illBits_24 : decode cX2_illBits 24 = .ok (.ior, 1) := by decide +kernel
theorem dX2_illBits_25 : decode cX2_illBits 25 = .ok (.istore_n 1, 1) := by decide +kernel
theorem dX2_illBits_26 : decode cX2_illBits 26 = .ok (.iinc 2 1, 3) := by decide +kernel
theorem dX2_illBits_29 : decode cX2_illBits 29 = .ok (.goto (-25), 3) := by decide +kernel
theorem dX2_illBits_32 : decode cX2_illBits 32 = .ok (.iload_n 1, 1) := by decide +kernel
theorem dX2_illBits_33 : decode cX2_illBits 33 = .ok (.ireturn, 1) := by decide +kernel
set_option maxRecDepth 20000 in
theorem ggX2_crownings_X2_get : GoodIn wsX2_crownings wsX2_get := goodIn_r _ [6, 7, 8, 9, 10, 11] (by decide +kernel) (by decide +kernel)
set_option maxRecDepth 20000 in
theorem gX2_crownings_X2_get : GoodIn wsX2_crownings (wsV RX2 60 RX2 yX2_get wsX2_get) := goodIn_app (goodIn_of _ (by decide +kernel)) ggX2_crownings_X2_get
theorem dX2_crownings_0 : decode cX2_crownings 0 = .ok (.iconst 0, 1) := by decide +kernel
theorem dX2_crownings_1 : decode cX2_crownings 1 = .ok (.istore_n 1, 1) := by decide +kernel
theorem dX2_crownings_2 : decode cX2_crownings 2 = .ok (.iconst 0, 1) := by decide +kernel
theorem dX2_crownings_3 : decode cX2_crownings 3 = .ok (.istore_n 2, 1) := by decide +kernel
theorem dX2_crownings_4 : decode cX2_crownings 4 = .ok (.iload_n 2, 1) := by decide +kernel
theorem dX2_crownings_5 : decode cX2_crownings 5 = .ok (.aload_n 0, 1) := by decide +kernel
theorem dX2_crownings_6 : decode cX2_crownings 6 = .ok (.getfield 15, 3) := by decide +kernel
theorem dX2_crownings_9 : decode cX2_crownings 9 = .ok (.if_icmp .ge 18, 3) := by decide +kernel
theorem dX2_crownings_12 : decode cX2_crownings 12 = .ok (.iload_n 1, 1) := by decide +kernel
theorem dX2_crownings_13 : decode cX2_crownings 13 = .ok (.aload_n 0, 1) := by decide +kernel
theorem dX2_crownings_14 : decode cX2_crownings 14 = .ok (.iload_n 2, 1) := by decide +kernel
theorem dX2_crownings_15 : decode cX2_crownings 15 = .ok (.iconst 4, 1) := by decide +kernel
theorem dX2_crownings_16 : decode cX2_crownings 16 = .ok (.invokevirtual 60, 3) := by decide +kernel
theorem dX2_crownings_19 : decode cX2_crownings 19 = .ok (.iadd, 1) := by decide +kernel
theorem dX2_crownings_20 : decode cX2_crownings 20 = .ok (.istore_n 1, 1) := by decide +kernel
theorem dX2_crownings_21 : decode cX2_crownings 21 = .ok (.iinc 2 1, 3) := by decide +kernel
theorem dX2_crownings_24 : decode cX2_crownings 24 = .ok (.goto (-20), 3) := by decide +kernel
theorem dX2_crownings_27 : decode cX2_crownings 27 = .ok (.iload_n 1, 1) := by decide +kernel
theorem dX2_crownings_28 : decode cX2_crownings 28 = .ok (.ireturn, 1) := by decide +kernel
set_option maxRecDepth 20000 in
theorem ggX2_crownedBy_X2_illBits : GoodIn wsX2_crownedBy wsX2_illBits := goodIn_r _ [5, 6, 7, 8, 9, 4, 10, 11, 12, 13, 14, 15, 16, 29, 30, 31, 32] (by decide +kernel) (by decide +kernel)
set_option maxRecDepth 20000 in
theorem gX2_crownedBy_X2_illBits : GoodIn wsX2_crownedBy (wsV RX2 76 RX2 yX2_illBits wsX2_illBits) := goodIn_app (goodIn_of _ (by decide +kernel)) ggX2_crownedBy_X2_illBits
set_option maxRecDepth 20000 in
theorem ggX2_crownedBy_X2_lightestBut : GoodIn wsX2_crownedBy wsX2_lightestBut := goodIn_r _ [20, 6, 21, 22, 23, 4, 24, 12, 13, 14, 15, 16, 25, 26, 27, 28, 29, 30, 31, 32] (by decide +kernel) (by decide +kernel)
set_option maxRecDepth 20000 in
theorem gX2_crownedBy_X2_lightestBut : GoodIn wsX2_crownedBy (wsV RX2 79 RX2 yX2_lightestBut wsX2_lightestBut) := goodIn_app (goodIn_of _ (by decide +kernel)) ggX2_crownedBy_X2_lightestBut
theorem dX2_crownedBy_0 : decode cX2_crownedBy 0 = .ok (.iload_n 1, 1) := by decide +kernel
theorem dX2_crownedBy_1 : decode cX2_crownedBy 1 = .ok (.iconst 2, 1) := by decide +kernel
theorem dX2_crownedBy_2 : decode cX2_crownedBy 2 = .ok (.if_icmp .ne 12, 3) := by decide +kernel
theorem dX2_crownedBy_5 : decode cX2_crownedBy 5 = .ok (.aload_n 0, 1) := by decide +kernel
theorem dX2_crownedBy_6 : decode cX2_crownedBy 6 = .ok (.aload_n 0, 1) := by decide +kernel
theorem dX2_crownedBy_7 : decode cX2_crownedBy 7 = .ok (.invokevirtual 76, 3) := by decide +kernel
theorem dX2_crownedBy_10 : decode cX2_crownedBy 10 = .ok (.invokevirtual 79, 3) := by decide +kernel
theorem dX2_crownedBy_13 : decode cX2_crownedBy 13 = .ok (.ireturn, 1) := by decide +kernel
theorem dX2_crownedBy_14 : decode cX2_crownedBy 14 = .ok (.aload_n 0, 1) := by decide +kernel
theorem dX2_crownedBy_15 : decode cX2_crownedBy 15 = .ok (.iconst 0, 1) := by decide +kernel
theorem dX2_crownedBy_16 : decode cX2_crownedBy 16 = .ok (.invokevirtual 79, 3) := by decide +kernel
theorem dX2_crownedBy_19 : decode cX2_crownedBy 19 = .ok (.istore_n 2, 1) := by decide +kernel
theorem dX2_crownedBy_20 : decode cX2_crownedBy 20 = .ok (.iload_n 1, 1) := by decide +kernel
theorem dX2_crownedBy_21 : decode cX2_crownedBy 21 = .ok (.iconst 1, 1) := by decide +kernel
theorem dX2_crownedBy_22 : decode cX2_crownedBy 22 = .ok (.if_icmp .ne 19, 3) := by decide +kernel
theorem dX2_crownedBy_25 : decode cX2_crownedBy 25 = .ok (.iload_n 2, 1) := by decide +kernel
theorem dX2_crownedBy_26 : decode cX2_crownedBy 26 = .ok (.bipush (-9), 2) := by decide +kernel
theorem dX2_crownedBy_28 : decode cX2_crownedBy 28 = .ok (.if_icmp .eq 13, 3) := by decide +kernel
theorem dX2_crownedBy_31 : decode cX2_crownedBy 31 = .ok (.aload_n 0, 1) := by decide +kernel
theorem dX2_crownedBy_32 : decode cX2_crownedBy 32 = .ok (.iconst 1, 1) := by decide +kernel
theorem dX2_crownedBy_33 : decode cX2_crownedBy 33 = .ok (.iload_n 2, 1) := by decide +kernel
theorem dX2_crownedBy_34 : decode cX2_crownedBy 34 = .ok (.ishl, 1) := by decide +kernel
theorem dX2_crownedBy_35 : decode cX2_crownedBy 35 = .ok (.invokevirtual 79, 3) := by decide +kernel
theorem dX2_crownedBy_38 : decode cX2_crownedBy 38 = .ok (.goto 4, 3) := by decide +kernel
theorem dX2_crownedBy_41 : decode cX2_crownedBy 41 = .ok (.iload_n 2, 1) := by decide +kernel
theorem dX2_crownedBy_42 : decode cX2_crownedBy 42 = .ok (.ireturn, 1) := by decide +kernel
set_option maxRecDepth 20000 in
theorem ggX2_lightestBut_X2_noonWeight : GoodIn wsX2_lightestBut wsX2_noonWeight := goodIn_r _ [6, 7, 8, 9, 5, 10, 11, 12, 13, 14, 15, 16, 17, 18, 19] (by decide +kernel) (by decide +kernel)
set_option maxRecDepth 20000 in
theorem gX2_lightestBut_X2_noonWeight : GoodIn wsX2_lightestBut (wsV RX2 82 RX2 yX2_noonWeight wsX2_noonWeight) := goodIn_app (goodIn_of _ (by decide +kernel)) ggX2_lightestBut_X2_noonWeight
theorem dX2_lightestBut_0 : decode cX2_lightestBut 0 = .ok (.bipush (-9), 2) := by decide +kernel
theorem dX2_lightestBut_2 : decode cX2_lightestBut 2 = .ok (.istore_n 2, 1) := by decide +kernel
theorem dX2_lightestBut_3 : decode cX2_lightestBut 3 = .ok (.iconst 0, 1) := by decide +kernel
theorem dX2_lightestBut_4 : decode cX2_lightestBut 4 = .ok (.istore_n 3, 1) := by decide +kernel
theorem dX2_lightestBut_5 : decode cX2_lightestBut 5 = .ok (.iload_n 3, 1) := by decide +kernel
theorem dX2_lightestBut_6 : decode cX2_lightestBut 6 = .ok (.aload_n 0, 1) := by decide +kernel
theorem dX2_lightestBut_7 : decode cX2_lightestBut 7 = .ok (.getfield 15, 3) := by decide +kernel
theorem dX2_lightestBut_10 : decode cX2_lightestBut 10 = .ok (.if_icmp .ge 50, 3) := by decide +kernel
theorem dX2_lightestBut_13 : decode cX2_lightestBut 13 = .ok (.iload_n 1, 1) := by decide +kernel
theorem dX2_lightestBut_14 : decode cX2_lightestBut 14 = .ok (.iload_n 3, 1) := by decide +kernel
theorem dX2_lightestBut_15 : decode cX2_lightestBut 15 = .ok (.ishr, 1) := by decide +kernel
theorem dX2_lightestBut_16 : decode cX2_lightestBut 16 = .ok (.iconst 1, 1) := by decide +kernel
theorem dX2_lightestBut_17 : decode cX2_lightestBut 17 = .ok (.iand, 1) := by decide +kernel
theorem dX2_lightestBut_18 : decode cX2_lightestBut 18 = .ok (.ifCond .ne 7, 3) := by decide +kernel
theorem dX2_lightestBut_21 : decode cX2_lightestBut 21 = .ok (.iconst 1, 1) := by decide +kernel
theorem dX2_lightestBut_22 : decode cX2_lightestBut 22 = .ok (.goto 4, 3) := by decide +kernel
theorem dX2_lightestBut_25 : decode cX2_lightestBut 25 = .ok (.iconst 0, 1) := by decide +kernel
theorem dX2_lightestBut_26 : decode cX2_lightestBut 26 = .ok (.istore 4, 2) := by decide +kernel
theorem dX2_lightestBut_28 : decode cX2_lightestBut 28 = .ok (.iload 4, 2) := by decide +kernel
theorem dX2_lightestBut_30 : decode cX2_lightestBut 30 = .ok (.ifCond .eq 24, 3) := by decide +kernel
theorem dX2_lightestBut_33 : decode cX2_lightestBut 33 = .ok (.iload_n 2, 1) := by decide +kernel
theorem dX2_lightestBut_34 : decode cX2_lightestBut 34 = .ok (.bipush (-9), 2) := by decide +kernel
theorem dX2_lightestBut_36 : decode cX2_lightestBut 36 = .ok (.if_icmp .eq 16, 3) := by decide +kernel
theorem dX2_lightestBut_39 : decode cX2_lightestBut 39 = .ok (.aload_n 0, 1) := by decide +kernel
theorem dX2_lightestBut_40 : decode cX2_lightestBut 40 = .ok (.iload_n 3, 1) := by decide +kernel
theorem dX2_lightestBut_41 : decode cX2_lightestBut 41 = .ok (.invokevirtual 82, 3) := by decide +kernel
theorem dX2_lightestBut_44 : decode cX2_lightestBut 44 = .ok (.aload_n 0, 1) := by decide +kernel
theorem dX2_lightestBut_45 : decode cX2_lightestBut 45 = .ok (.iload_n 2, 1) := by decide +kernel
theorem dX2_lightestBut_46 : decode cX2_lightestBut 46 = .ok (.invokevirtual 82, 3) := by decide +kernel
theorem dX2_lightestBut_49 : decode cX2_lightestBut 49 = .ok (.if_icmp .ge 5, 3) := by decide +kernel
theorem dX2_lightestBut_52 : decode cX2_lightestBut 52 = .ok (.iload_n 3, 1) := by decide +kernel
theorem dX2_lightestBut_53 : decode cX2_lightestBut 53 = .ok (.istore_n 2, 1) := by decide +kernel
theorem dX2_lightestBut_54 : decode cX2_lightestBut 54 = .ok (.iinc 3 1, 3) := by decide +kernel
theorem dX2_lightestBut_57 : decode cX2_lightestBut 57 = .ok (.goto (-52), 3) := by decide +kernel
theorem dX2_lightestBut_60 : decode cX2_lightestBut 60 = .ok (.iload_n 2, 1) := by decide +kernel
theorem dX2_lightestBut_61 : decode cX2_lightestBut 61 = .ok (.ireturn, 1) := by decide +kernel
set_option maxRecDepth 20000 in
theorem ggX2_winsWith_X2_noonWeightBehind : GoodIn wsX2_winsWith wsX2_noonWeightBehind := goodIn_r _ [6, 7, 8, 9, 10, 11, 12, 13, 14, 5, 15, 16, 17, 18, 19, 20, 21, 22, 23, 24] (by decide +kernel) (by decide +kernel)
set_option maxRecDepth 20000 in
theorem gX2_winsWith_X2_noonWeightBehind : GoodIn wsX2_winsWith (wsV RX2 85 RX2 yX2_noonWeightBehind wsX2_noonWeightBehind) := goodIn_app (goodIn_of _ (by decide +kernel)) ggX2_winsWith_X2_noonWeightBehind
theorem dX2_winsWith_0 : decode cX2_winsWith 0 = .ok (.aload_n 0, 1) := by decide +kernel
theorem dX2_winsWith_1 : decode cX2_winsWith 1 = .ok (.iload_n 1, 1) := by decide +kernel
theorem dX2_winsWith_2 : decode cX2_winsWith 2 = .ok (.iload_n 2, 1) := by decide +kernel
theorem dX2_winsWith_3 : decode cX2_winsWith 3 = .ok (.iload_n 3, 1) := by decide +kernel
theorem dX2_winsWith_4 : decode cX2_winsWith 4 = .ok (.invokevirtual 85, 3) := by decide +kernel
theorem dX2_winsWith_7 : decode cX2_winsWith 7 = .ok (.istore 5, 2) := by decide +kernel
theorem dX2_winsWith_9 : decode cX2_winsWith 9 = .ok (.iconst 0, 1) := by decide +kernel
theorem dX2_winsWith_10 : decode cX2_winsWith 10 = .ok (.istore 6, 2) := by decide +kernel
theorem dX2_winsWith_12 : decode cX2_winsWith 12 = .ok (.iload 6, 2) := by decide +kernel
theorem dX2_winsWith_14 : decode cX2_winsWith 14 = .ok (.aload_n 0, 1) := by decide +kernel
theorem dX2_winsWith_15 : decode cX2_winsWith 15 = .ok (.getfield 15, 3) := by decide +kernel
theorem dX2_winsWith_18 : decode cX2_winsWith 18 = .ok (.if_icmp .ge 50, 3) := by decide +kernel
theorem dX2_winsWith_21 : decode cX2_winsWith 21 = .ok (.aload_n 0, 1) := by decide +kernel
theorem dX2_winsWith_22 : decode cX2_winsWith 22 = .ok (.iload 6, 2) := by decide +kernel
theorem dX2_winsWith_24 : decode cX2_winsWith 24 = .ok (.iload 4, 2) := by decide +kernel
theorem dX2_winsWith_26 : decode cX2_winsWith 26 = .ok (.iload_n 3, 1) := by decide +kernel
theorem dX2_winsWith_27 : decode cX2_winsWith 27 = .ok (.imul, 1) := by decide +kernel
theorem dX2_winsWith_28 : decode cX2_winsWith 28 = .ok (.iload_n 3, 1) := by decide +kernel
theorem dX2_winsWith_29 : decode cX2_winsWith 29 = .ok (.invokevirtual 85, 3) := by decide +kernel
theorem dX2_winsWith_32 : decode cX2_winsWith 32 = .ok (.istore 7, 2) := by decide +kernel
theorem dX2_winsWith_34 : decode cX2_winsWith 34 = .ok (.iload 6, 2) := by decide +kernel
theorem dX2_winsWith_36 : decode cX2_winsWith 36 = .ok (.iload_n 1, 1) := by decide +kernel
theorem dX2_winsWith_37 : decode cX2_winsWith 37 = .ok (.if_icmp .eq 25, 3) := by decide +kernel
theorem dX2_winsWith_40 : decode cX2_winsWith 40 = .ok (.iload 7, 2) := by decide +kernel
theorem dX2_winsWith_42 : decode cX2_winsWith 42 = .ok (.iload 5, 2) := by decide +kernel
theorem dX2_winsWith_44 : decode cX2_winsWith 44 = .ok (.if_icmp .lt 16, 3) := by decide +kernel
theorem dX2_winsWith_47 : decode cX2_winsWith 47 = .ok (.iload 7, 2) := by decide +kernel
theorem dX2_winsWith_49 : decode cX2_winsWith 49 = .ok (.iload 5, 2) := by decide +kernel
theorem dX2_winsWith_51 : decode cX2_winsWith 51 = .ok (.if_icmp .ne 11, 3) := by decide +kernel
theorem dX2_winsWith_54 : decode cX2_winsWith 54 = .ok (.iload 6, 2) := by decide +kernel
theorem dX2_winsWith_56 : decode cX2_winsWith 56 = .ok (.iload_n 1, 1) := by decide +kernel
theorem dX2_winsWith_57 : decode cX2_winsWith 57 = .ok (.if_icmp .ge 5, 3) := by decide +kernel
theorem dX2_winsWith_60 : decode cX2_winsWith 60 = .ok (.iconst 0, 1) := by decide +kernel
theorem dX2_winsWith_61 : decode cX2_winsWith 61 = .ok (.ireturn, 1) := by decide +kernel
theorem dX2_winsWith_62 : decode cX2_winsWith 62 = .ok (.iinc 6 1, 3) := by decide +kernel
theorem dX2_winsWith_65 : decode cX2_winsWith 65 = .ok (.goto (-53), 3) := by decide +kernel
theorem dX2_winsWith_68 : decode cX2_winsWith 68 = .ok (.iconst 1, 1) := by decide +kernel
theorem dX2_winsWith_69 : decode cX2_winsWith 69 = .ok (.ireturn, 1) := by decide +kernel
set_option maxRecDepth 20000 in
theorem ggX2_noonWeightBehind_X2_get : GoodIn wsX2_noonWeightBehind wsX2_get := goodIn_r _ [10, 11, 16, 17, 18, 19] (by decide +kernel) (by decide +kernel)
set_option maxRecDepth 20000 in
theorem gX2_noonWeightBehind_X2_get : GoodIn wsX2_noonWeightBehind (wsV RX2 60 RX2 yX2_get wsX2_get) := goodIn_app (goodIn_of _ (by decide +kernel)) ggX2_noonWeightBehind_X2_get
set_option maxRecDepth 20000 in
theorem ggX2_noonWeightBehind_X2_pocketWeight : GoodIn wsX2_noonWeightBehind wsX2_pocketWeight := goodIn_r _ [15, 6, 7, 8, 9, 10, 11, 16, 17, 18, 19] (by decide +kernel) (by decide +kernel)
set_option maxRecDepth 20000 in
theorem gX2_noonWeightBehind_X2_pocketWeight : GoodIn wsX2_noonWeightBehind (wsV RX2 69 RX2 yX2_pocketWeight wsX2_pocketWeight) := goodIn_app (goodIn_of _ (by decide +kernel)) ggX2_noonWeightBehind_X2_pocketWeight
theorem dX2_noonWeightBehind_0 : decode cX2_noonWeightBehind 0 = .ok (.aload_n 0, 1) := by decide +kernel
theorem dX2_noonWeightBehind_1 : decode cX2_noonWeightBehind 1 = .ok (.iload_n 1, 1) := by decide +kernel
theorem dX2_noonWeightBehind_2 : decode cX2_noonWeightBehind 2 = .ok (.iconst 0, 1) := by decide +kernel
theorem dX2_noonWeightBehind_3 : decode cX2_noonWeightBehind 3 = .ok (.invokevirtual 60, 3) := by decide +kernel
theorem dX2_noonWeightBehind_6 : decode cX2_noonWeightBehind 6 = .ok (.aload_n 0, 1) := by decide +kernel
theorem dX2_noonWeightBehind_7 : decode cX2_noonWeightBehind 7 = .ok (.iload_n 1, 1) := by decide +kernel
theorem dX2_noonWeightBehind_8 : decode cX2_noonWeightBehind 8 = .ok (.iconst 3, 1) := by decide +kernel
theorem dX2_noonWeightBehind_9 : decode cX2_noonWeightBehind 9 = .ok (.invokevirtual 60, 3) := by decide +kernel
theorem dX2_noonWeightBehind_12 : decode cX2_noonWeightBehind 12 = .ok (.isub, 1) := by decide +kernel
theorem dX2_noonWeightBehind_13 : decode cX2_noonWeightBehind 13 = .ok (.iconst 5, 1) := by decide +kernel
theorem dX2_noonWeightBehind_14 : decode cX2_noonWeightBehind 14 = .ok (.iload_n 2, 1) := by decide +kernel
theorem dX2_noonWeightBehind_15 : decode cX2_noonWeightBehind 15 = .ok (.imul, 1) := by decide +kernel
theorem dX2_noonWeightBehind_16 : decode cX2_noonWeightBehind 16 = .ok (.isub, 1) := by decide +kernel
theorem dX2_noonWeightBehind_17 : decode cX2_noonWeightBehind 17 = .ok (.iconst 2, 1) := by decide +kernel
theorem dX2_noonWeightBehind_18 : decode cX2_noonWeightBehind 18 = .ok (.aload_n 0, 1) := by decide +kernel
theorem dX2_noonWeightBehind_19 : decode cX2_noonWeightBehind 19 = .ok (.getfield 19, 3) := by decide +kernel
theorem dX2_noonWeightBehind_22 : decode cX2_noonWeightBehind 22 = .ok (.imul, 1) := by decide +kernel
theorem dX2_noonWeightBehind_23 : decode cX2_noonWeightBehind 23 = .ok (.iload_n 3, 1) := by decide +kernel
theorem dX2_noonWeightBehind_24 : decode cX2_noonWeightBehind 24 = .ok (.imul, 1) := by decide +kernel
theorem dX2_noonWeightBehind_25 : decode cX2_noonWeightBehind 25 = .ok (.isub, 1) := by decide +kernel
theorem dX2_noonWeightBehind_26 : decode cX2_noonWeightBehind 26 = .ok (.istore 4, 2) := by decide +kernel
theorem dX2_noonWeightBehind_28 : decode cX2_noonWeightBehind 28 = .ok (.iconst 1, 1) := by decide +kernel
theorem dX2_noonWeightBehind_29 : decode cX2_noonWeightBehind 29 = .ok (.iload 4, 2) := by decide +kernel
theorem dX2_noonWeightBehind_31 : decode cX2_noonWeightBehind 31 = .ok (.invokestatic 63, 3) := by decide +kernel
theorem dX2_noonWeightBehind_34 : decode cX2_noonWeightBehind 34 = .ok (.aload_n 0, 1) := by decide +kernel
theorem dX2_noonWeightBehind_35 : decode cX2_noonWeightBehind 35 = .ok (.iload_n 1, 1) := by decide +kernel
theorem dX2_noonWeightBehind_36 : decode cX2_noonWeightBehind 36 = .ok (.invokevirtual 69, 3) := by decide +kernel
theorem dX2_noonWeightBehind_39 : decode cX2_noonWeightBehind 39 = .ok (.iadd, 1) := by decide +kernel
theorem dX2_noonWeightBehind_40 : decode cX2_noonWeightBehind 40 = .ok (.ireturn, 1) := by decide +kernel
set_option maxRecDepth 20000 in
theorem ggX2_loavesToWin_X2_noonWeight : GoodIn wsX2_loavesToWin wsX2_noonWeight := goodIn_r _ [6, 7, 8, 9, 5, 10, 11, 12, 13, 14, 15, 16, 17, 18, 19] (by decide +kernel) (by decide +kernel)
set_option maxRecDepth 20000 in
theorem gX2_loavesToWin_X2_noonWeight : GoodIn wsX2_loavesToWin (wsV RX2 82 RX2 yX2_noonWeight wsX2_noonWeight) := goodIn_app (goodIn_of _ (by decide +kernel)) ggX2_loavesToWin_X2_noonWeight
theorem dX2_loavesToWin_0 : decode cX2_loavesToWin 0 = .ok (.iconst 0, 1) := by decide +kernel
theorem dX2_loavesToWin_1 : decode cX2_loavesToWin 1 = .ok (.istore_n 2, 1) := by decide +kernel
theorem dX2_loavesToWin_2 : decode cX2_loavesToWin 2 = .ok (.iconst 0, 1) := by decide +kernel
theorem dX2_loavesToWin_3 : decode cX2_loavesToWin 3 = .ok (.istore_n 3, 1) := by decide +kernel
theorem dX2_loavesToWin_4 : decode cX2_loavesToWin 4 = .ok (.iload_n 3, 1) := by decide +kernel
theorem dX2_loavesToWin_5 : decode cX2_loavesToWin 5 = .ok (.aload_n 0, 1) := by decide +kernel
theorem dX2_loavesToWin_6 : decode cX2_loavesToWin 6 = .ok (.getfield 15, 3) := by decide +kernel
theorem dX2_loavesToWin_9 : decode cX2_loavesToWin 9 = .ok (.if_icmp .ge 56, 3) := by decide +kernel
theorem dX2_loavesToWin_12 : decode cX2_loavesToWin 12 = .ok (.aload_n 0, 1) := by decide +kernel
theorem dX2_loavesToWin_13 : decode cX2_loavesToWin 13 = .ok (.iload_n 1, 1) := by decide +kernel
theorem dX2_loavesToWin_14 : decode cX2_loavesToWin 14 = .ok (.invokevirtual 82, 3) := by decide +kernel
theorem dX2_loavesToWin_17 : decode cX2_loavesToWin 17 = .ok (.aload_n 0, 1) := by decide +kernel
theorem dX2_loavesToWin_18 : decode cX2_loavesToWin 18 = .ok (.iload_n 3, 1) := by decide +kernel
theorem dX2_loavesToWin_19 : decode cX2_loavesToWin 19 = .ok (.invokevirtual 82, 3) := by decide +kernel
theorem dX2_loavesToWin_22 : decode cX2_loavesToWin 22 = .ok (.isub, 1) := by decide +kernel
theorem dX2_loavesToWin_23 : decode cX2_loavesToWin 23 = .ok (.iload_n 3, 1) := by decide +kernel
theorem dX2_loavesToWin_24 : decode cX2_loavesToWin 24 = .ok (.iload_n 1, 1) := by decide +kernel
theorem dX2_loavesToWin_25 : decode cX2_loavesToWin 25 = .ok (.if_icmp .ge 7, 3) := by decide +kernel
theorem dX2_loavesToWin_28 : decode cX2_loavesToWin 28 = .ok (.iconst 1, 1) := by decide +kernel
theorem dX2_loavesToWin_29 : decode cX2_loavesToWin 29 = .ok (.goto 4, 3) := by decide +kernel
theorem dX2_loavesToWin_32 : decode cX2_loavesToWin 32 = .ok (.iconst 0, 1) := by decide +kernel
theorem dX2_loavesToWin_33 : decode cX2_loavesToWin 33 = .ok (.iadd, 1) := by decide +kernel
theorem dX2_loavesToWin_34 : decode cX2_loavesToWin 34 = .ok (.istore 4, 2) := by decide +kernel
theorem dX2_loavesToWin_36 : decode cX2_loavesToWin 36 = .ok (.iload 4, 2) := by decide +kernel
theorem dX2_loavesToWin_38 : decode cX2_loavesToWin 38 = .ok (.ifCond .le 21, 3) := by decide +kernel
theorem dX2_loavesToWin_41 : decode cX2_loavesToWin 41 = .ok (.iload_n 3, 1) := by decide +kernel
theorem dX2_loavesToWin_42 : decode cX2_loavesToWin 42 = .ok (.iload_n 1, 1) := by decide +kernel
theorem dX2_loavesToWin_43 : decode cX2_loavesToWin 43 = .ok (.if_icmp .eq 16, 3) := by decide +kernel
theorem dX2_loavesToWin_46 : decode cX2_loavesToWin 46 = .ok (.iload_n 2, 1) := by decide +kernel
theorem dX2_loavesToWin_47 : decode cX2_loavesToWin 47 = .ok (.iload 4, 2) := by decide +kernel
theorem dX2_loavesToWin_49 : decode cX2_loavesToWin 49 = .ok (.bipush 8, 2) := by decide +kernel
theorem dX2_loavesToWin_51 : decode cX2_loavesToWin 51 = .ok (.iadd, 1) := by decide +kernel
theorem dX2_loavesToWin_52 : decode cX2_loavesToWin 52 = .ok (.iconst 1, 1) := by decide +kernel
theorem dX2_loavesToWin_53 : decode cX2_loavesToWin 53 = .ok (.isub, 1) := by decide +kernel
theorem dX2_loavesToWin_54 : decode cX2_loavesToWin 54 = .ok (.bipush 8, 2) := by decide +kernel
theorem dX2_loavesToWin_56 : decode cX2_loavesToWin 56 = .ok (.idiv, 1) := by decide +kernel
theorem dX2_loavesToWin_57 : decode cX2_loavesToWin 57 = .ok (.iadd, 1) := by decide +kernel
theorem dX2_loavesToWin_58 : decode cX2_loavesToWin 58 = .ok (.istore_n 2, 1) := by decide +kernel
theorem dX2_loavesToWin_59 : decode cX2_loavesToWin 59 = .ok (.iinc 3 1, 3) := by decide +kernel
theorem dX2_loavesToWin_62 : decode cX2_loavesToWin 62 = .ok (.goto (-58), 3) := by decide +kernel
theorem dX2_loavesToWin_65 : decode cX2_loavesToWin 65 = .ok (.iload_n 2, 1) := by decide +kernel
theorem dX2_loavesToWin_66 : decode cX2_loavesToWin 66 = .ok (.ireturn, 1) := by decide +kernel
theorem dX3_init_0 : decode cX3_init 0 = .ok (.aload_n 0, 1) := by decide +kernel
theorem dX3_init_1 : decode cX3_init 1 = .ok (.invokespecial 5, 3) := by decide +kernel
theorem dX3_init_4 : decode cX3_init 4 = .ok (.aload_n 0, 1) := by decide +kernel
theorem dX3_init_5 : decode cX3_init 5 = .ok (.iconst 4, 1) := by decide +kernel
theorem dX3_init_6 : decode cX3_init 6 = .ok (.newarray .int, 2) := by decide +kernel
theorem dX3_init_8 : decode cX3_init 8 = .ok (.putfield 11, 3) := by decide +kernel
theorem dX3_init_11 : decode cX3_init 11 = .ok (.aload_n 0, 1) := by decide +kernel
theorem dX3_init_12 : decode cX3_init 12 = .ok (.iconst 3, 1) := by decide +kernel
theorem dX3_init_13 : decode cX3_init 13 = .ok (.newarray .int, 2) := by decide +kernel
theorem dX3_init_15 : decode cX3_init 15 = .ok (.putfield 15, 3) := by decide +kernel
theorem dX3_init_18 : decode cX3_init 18 = .ok (.aload_n 0, 1) := by decide +kernel
theorem dX3_init_19 : decode cX3_init 19 = .ok (.sipush 2197, 3) := by decide +kernel
theorem dX3_init_22 : decode cX3_init 22 = .ok (.newarray .long, 2) := by decide +kernel
theorem dX3_init_24 : decode cX3_init 24 = .ok (.putfield 18, 3) := by decide +kernel
theorem dX3_init_27 : decode cX3_init 27 = .ok (.aload_n 0, 1) := by decide +kernel
theorem dX3_init_28 : decode cX3_init 28 = .ok (.iconst 0, 1) := by decide +kernel
theorem dX3_init_29 : decode cX3_init 29 = .ok (.putfield 22, 3) := by decide +kernel
theorem dX3_init_32 : decode cX3_init 32 = .ok (.return_, 1) := by decide +kernel
theorem dX3_length_0 : decode cX3_length 0 = .ok (.aload_n 0, 1) := by decide +kernel
theorem dX3_length_1 : decode cX3_length 1 = .ok (.getfield 22, 3) := by decide +kernel
theorem dX3_length_4 : decode cX3_length 4 = .ok (.ireturn, 1) := by decide +kernel
theorem dX3_clear_0 : decode cX3_clear 0 = .ok (.aload_n 0, 1) := by decide +kernel
theorem dX3_clear_1 : decode cX3_clear 1 = .ok (.iconst 0, 1) := by decide +kernel
theorem dX3_clear_2 : decode cX3_clear 2 = .ok (.putfield 22, 3) := by decide +kernel
theorem dX3_clear_5 : decode cX3_clear 5 = .ok (.return_, 1) := by decide +kernel
theorem dX3_append_0 : decode cX3_append 0 = .ok (.aload_n 0, 1) := by decide +kernel
theorem dX3_append_1 : decode cX3_append 1 = .ok (.getfield 22, 3) := by decide +kernel
theorem dX3_append_4 : decode cX3_append 4 = .ok (.iconst 4, 1) := by decide +kernel
theorem dX3_append_5 : decode cX3_append 5 = .ok (.if_icmp .ne 5, 3) := by decide +kernel
theorem dX3_append_8 : decode cX3_append 8 = .ok (.iconst 0, 1) := by decide +kernel
theorem dX3_append_9 : decode cX3_append 9 = .ok (.ireturn, 1) := by decide +kernel
theorem dX3_append_10 : decode cX3_append 10 = .ok (.aload_n 0, 1) := by decide +kernel
theorem dX3_append_11 : decode cX3_append 11 = .ok (.getfield 11, 3) := by decide +kernel
theorem dX3_append_14 : decode cX3_append 14 = .ok (.aload_n 0, 1) := by decide +kernel
theorem dX3_append_15 : decode cX3_append 15 = .ok (.getfield 22, 3) := by decide +kernel
theorem dX3_append_18 : decode cX3_append 18 = .ok (.iload_n 1, 1) := by decide +kernel
theorem dX3_append_19 : decode cX3_append 19 = .ok (.iastore, 1) := by decide +kernel
theorem dX3_append_20 : decode cX3_append 20 = .ok (.aload_n 0, 1) := by decide +kernel
theorem dX3_append_21 : decode cX3_append 21 = .ok (.dup, 1) := by decide +kernel
theorem dX3_append_22 : decode cX3_append 22 = .ok (.getfield 22, 3) := by decide +kernel
theorem dX3_append_25 : decode cX3_append 25 = .ok (.iconst 1, 1) := by decide +kernel
theorem dX3_append_26 : decode cX3_append 26 = .ok (.iadd, 1) := by decide +kernel
theorem dX3_append_27 : decode cX3_append 27 = .ok (.putfield 22, 3) := by decide +kernel
theorem dX3_append_30 : decode cX3_append 30 = .ok (.iconst 1, 1) := by decide +kernel
theorem dX3_append_31 : decode cX3_append 31 = .ok (.ireturn, 1) := by decide +kernel
set_option maxRecDepth 20000 in
theorem ggX3_fittingMeals_X2_size : GoodIn wsX3_fittingMeals wsX2_size := goodIn_r _ [14, 15, 54, 55, 56, 57] (by decide +kernel) (by decide +kernel)
set_option maxRecDepth 20000 in
theorem gX3_fittingMeals_X2_size : GoodIn wsX3_fittingMeals (wsV RX3 26 RX2 yX2_size wsX2_size) := goodIn_app (goodIn_of _ (by decide +kernel)) ggX3_fittingMeals_X2_size
set_option maxRecDepth 20000 in
theorem ggX3_fittingMeals_X2_noonWeight : GoodIn wsX3_fittingMeals wsX2_noonWeight := goodIn_r _ [19, 20, 21, 22, 13, 23, 24, 25, 26, 27, 28, 54, 55, 56, 57] (by decide +kernel) (by decide +kernel)
set_option maxRecDepth 20000 in
theorem gX3_fittingMeals_X2_noonWeight : GoodIn wsX3_fittingMeals (wsV RX3 38 RX2 yX2_noonWeight wsX2_noonWeight) := goodIn_app (goodIn_of _ (by decide +kernel)) ggX3_fittingMeals_X2_noonWeight
set_option maxRecDepth 20000 in
theorem ggX3_fittingMeals_J7_fill_d0a16 : GoodIn wsX3_fittingMeals wsJ7_fill_d0a16 := goodIn_r _ [32] (by decide +kernel) (by decide +kernel)
set_option maxRecDepth 20000 in
theorem gX3_fittingMeals_J7_fill_d0a16 : GoodIn wsX3_fittingMeals (va_wsS RX3 42 yJ7_fill_d0a16 wsJ7_fill_d0a16) := goodIn_app (goodIn_of _ (by decide +kernel)) ggX3_fittingMeals_J7_fill_d0a16
set_option maxRecDepth 20000 in
theorem ggX3_fittingMeals_X3_letEat : GoodIn wsX3_fittingMeals wsX3_letEat := goodIn_r _ [37, 1, 2, 3, 4, 6, 50, 51, 52, 53] (by decide +kernel) (by decide +kernel)
set_option maxRecDepth 20000 in
theorem gX3_fittingMeals_X3_letEat : GoodIn wsX3_fittingMeals (wsV RX3 51 RX3 yX3_letEat wsX3_letEat) := goodIn_app (goodIn_of _ (by decide +kernel)) ggX3_fittingMeals_X3_letEat
set_option maxRecDepth 20000 in
theorem ggX3_fittingMeals_X3_strikeOut : GoodIn wsX3_fittingMeals wsX3_strikeOut := goodIn_r _ [41, 6, 42, 43, 44, 36, 45, 5, 50, 51, 52, 53] (by decide +kernel) (by decide +kernel)
set_option maxRecDepth 20000 in
theorem gX3_fittingMeals_X3_strikeOut : GoodIn wsX3_fittingMeals (wsV RX3 55 RX3 yX3_strikeOut wsX3_strikeOut) := goodIn_app (goodIn_of _ (by decide +kernel)) ggX3_fittingMeals_X3_strikeOut
set_option maxRecDepth 20000 in
theorem ggX3_fittingMeals_X3_sumOfWays : GoodIn wsX3_fittingMeals wsX3_sumOfWays := goodIn_r _ [49, 6, 50, 51, 52, 53] (by decide +kernel) (by decide +kernel)
set_option maxRecDepth 20000 in
theorem gX3_fittingMeals_X3_sumOfWays : GoodIn wsX3_fittingMeals (wsV RX3 59 RX3 yX3_sumOfWays wsX3_sumOfWays) := goodIn_app (goodIn_of _ (by decide +kernel)) ggX3_fittingMeals_X3_sumOfWays
theorem dX3_fittingMeals_0 : decode cX3_fittingMeals 0 = .ok (.aload_n 1, 1) := by decide +kernel
theorem dX3_fittingMeals_1 : decode cX3_fittingMeals 1 = .ok (.invokevirtual 26, 3) := by decide +kernel
theorem dX3_fittingMeals_4 : decode cX3_fittingMeals 4 = .ok (.iconst 3, 1) := by decide +kernel
theorem dX3_fittingMeals_5 : decode cX3_fittingMeals 5 = .ok (.invokestatic 32, 3) := by decide +kernel
theorem dX3_fittingMeals_8 : decode cX3_fittingMeals 8 = .ok (.istore_n 2, 1) := by decide +kernel
theorem dX3_fittingMeals_9 : decode cX3_fittingMeals 9 = .ok (.iconst 0, 1) := by decide +kernel
theorem dX3_fittingMeals_10 : decode cX3_fittingMeals 10 = .ok (.istore_n 3, 1) := by decide +kernel
theorem dX3_fittingMeals_11 : decode cX3_fittingMeals 11 = .ok (.iload_n 3, 1) := by decide +kernel
theorem dX3_fittingMeals_12 : decode cX3_fittingMeals 12 = .ok (.iload_n 2, 1) := by decide +kernel
theorem dX3_fittingMeals_13 : decode cX3_fittingMeals 13 = .ok (.if_icmp .ge 20, 3) := by decide +kernel
theorem dX3_fittingMeals_16 : decode cX3_fittingMeals 16 = .ok (.aload_n 0, 1) := by decide +kernel
theorem dX3_fittingMeals_17 : decode cX3_fittingMeals 17 = .ok (.getfield 15, 3) := by decide +kernel
theorem dX3_fittingMeals_20 : decode cX3_fittingMeals 20 = .ok (.iload_n 3, 1) := by decide +kernel
theorem dX3_fittingMeals_21 : decode cX3_fittingMeals 21 = .ok (.aload_n 1, 1) := by decide +kernel
theorem dX3_fittingMeals_22 : decode cX3_fittingMeals 22 = .ok (.iload_n 3, 1) := by decide +kernel
theorem dX3_fittingMeals_23 : decode cX3_fittingMeals 23 = .ok (.invokevirtual 38, 3) := by decide +kernel
theorem dX3_fittingMeals_26 : decode cX3_fittingMeals 26 = .ok (.iastore, 1) := by decide +kernel
theorem dX3_fittingMeals_27 : decode cX3_fittingMeals 27 = .ok (.iinc 3 1, 3) := by decide +kernel
theorem dX3_fittingMeals_30 : decode cX3_fittingMeals 30 = .ok (.goto (-19), 3) := by decide +kernel
theorem dX3_fittingMeals_33 : decode cX3_fittingMeals 33 = .ok (.aload_n 0, 1) := by decide +kernel
theorem dX3_fittingMeals_34 : decode cX3_fittingMeals 34 = .ok (.getfield 18, 3) := by decide +kernel
theorem dX3_fittingMeals_37 : decode cX3_fittingMeals 37 = .ok (.lconst 0, 1) := by decide +kernel
theorem dX3_fittingMeals_38 : decode cX3_fittingMeals 38 = .ok (.invokestatic 42, 3) := by decide +kernel
theorem dX3_fittingMeals_41 : decode cX3_fittingMeals 41 = .ok (.aload_n 0, 1) := by decide +kernel
theorem dX3_fittingMeals_42 : decode cX3_fittingMeals 42 = .ok (.getfield 18, 3) := by decide +kernel
theorem dX3_fittingMeals_45 : decode cX3_fittingMeals 45 = .ok (.iconst 0, 1) := by decide +kernel
theorem dX3_fittingMeals_46 : decode cX3_fittingMeals 46 = .ok (.lconst 1, 1) := by decide +kernel
theorem dX3_fittingMeals_47 : decode cX3_fittingMeals 47 = .ok (.lastore, 1) := by decide +kernel
theorem dX3_fittingMeals_48 : decode cX3_fittingMeals 48 = .ok (.iconst 1, 1) := by decide +kernel
theorem dX3_fittingMeals_49 : decode cX3_fittingMeals 49 = .ok (.istore_n 3, 1) := by decide +kernel
theorem dX3_fittingMeals_50 : decode cX3_fittingMeals 50 = .ok (.iconst 0, 1) := by decide +kernel
theorem dX3_fittingMeals_51 : decode cX3_fittingMeals 51 = .ok (.istore 4, 2) := by decide +kernel
theorem dX3_fittingMeals_53 : decode cX3_fittingMeals 53 = .ok (.iload 4, 2) := by decide +kernel
theorem dX3_fittingMeals_55 : decode cX3_fittingMeals 55 = .ok (.aload_n 0, 1) := by decide +kernel
theorem dX3_fittingMeals_56 : decode cX3_fittingMeals 56 = .ok (.getfield 22, 3) := by decide +kernel
theorem dX3_fittingMeals_59 : decode cX3_fittingMeals 59 = .ok (.if_icmp .ge 74, 3) := by decide +kernel
theorem dX3_fittingMeals_62 : decode cX3_fittingMeals 62 = .ok (.iconst 0, 1) := by decide +kernel
theorem dX3_fittingMeals_63 : decode cX3_fittingMeals 63 = .ok (.istore 5, 2) := by decide +kernel
theorem dX3_fittingMeals_65 : decode cX3_fittingMeals 65 = .ok (.iload 5, 2) := by decide +kernel
theorem dX3_fittingMeals_67 : decode cX3_fittingMeals 67 = .ok (.iload_n 2, 1) := by decide +kernel
theorem dX3_fittingMeals_68 : decode cX3_fittingMeals 68 = .ok (.if_icmp .ge 20, 3) := by decide +kernel
theorem dX3_fittingMeals_71 : decode cX3_fittingMeals 71 = .ok (.iload_n 3, 1) := by decide +kernel
theorem dX3_fittingMeals_72 : decode cX3_fittingMeals 72 = .ok (.iconst 3, 1) := by decide +kernel
theorem dX3_fittingMeals_73 : decode cX3_fittingMeals 73 = .ok (.getstatic 48, 3) := by decide +kernel
theorem dX3_fittingMeals_76 : decode cX3_fittingMeals 76 = .ok (.iload 5, 2) := by decide +kernel
theorem dX3_fittingMeals_78 : decode cX3_fittingMeals 78 = .ok (.iaload, 1) := by decide +kernel
theorem dX3_fittingMeals_79 : decode cX3_fittingMeals 79 = .ok (.imul, 1) := by decide +kernel
theorem dX3_fittingMeals_80 : decode cX3_fittingMeals 80 = .ok (.iadd, 1) := by decide +kernel
theorem dX3_fittingMeals_81 : decode cX3_fittingMeals 81 = .ok (.istore_n 3, 1) := by decide +kernel
theorem dX3_fittingMeals_82 : decode cX3_fittingMeals 82 = .ok (.iinc 5 1, 3) := by decide +kernel
theorem dX3_fittingMeals_85 : decode cX3_fittingMeals 85 = .ok (.goto (-20), 3) := by decide +kernel
theorem dX3_fittingMeals_88 : decode cX3_fittingMeals 88 = .ok (.iconst 0, 1) := by decide +kernel
theorem dX3_fittingMeals_89 : decode cX3_fittingMeals 89 = .ok (.istore 5, 2) := by decide +kernel
theorem dX3_fittingMeals_91 : decode cX3_fittingMeals 91 = .ok (.iload 5, 2) := by decide +kernel
theorem dX3_fittingMeals_93 : decode cX3_fittingMeals 93 = .ok (.iload_n 2, 1) := by decide +kernel
theorem dX3_fittingMeals_94 : decode cX3_fittingMeals 94 = .ok (.if_icmp .ge 20, 3) := by decide +kernel
theorem dX3_fittingMeals_97 : decode cX3_fittingMeals 97 = .ok (.aload_n 0, 1) := by decide +kernel
theorem dX3_fittingMeals_98 : decode cX3_fittingMeals 98 = .ok (.getstatic 48, 3) := by decide +kernel
theorem dX3_fittingMeals_101 : decode cX3_fittingMeals 101 = .ok (.iload 5, 2) := by decide +kernel
theorem dX3_fittingMeals_103 : decode cX3_fittingMeals 103 = .ok (.iaload, 1) := by decide +kernel
theorem dX3_fittingMeals_104 : decode cX3_fittingMeals 104 = .ok (.iload_n 3, 1) := by decide +kernel
theorem dX3_fittingMeals_105 : decode cX3_fittingMeals 105 = .ok (.invokevirtual 51, 3) := by decide +kernel
theorem dX3_fittingMeals_108 : decode cX3_fittingMeals 108 = .ok (.iinc 5 1, 3) := by decide +kernel
theorem dX3_fittingMeals_111 : decode cX3_fittingMeals 111 = .ok (.goto (-20), 3) := by decide +kernel
theorem dX3_fittingMeals_114 : decode cX3_fittingMeals 114 = .ok (.aload_n 0, 1) := by decide +kernel
theorem dX3_fittingMeals_115 : decode cX3_fittingMeals 115 = .ok (.aload_n 0, 1) := by decide +kernel
theorem dX3_fittingMeals_116 : decode cX3_fittingMeals 116 = .ok (.getfield 11, 3) := by decide +kernel
theorem dX3_fittingMeals_119 : decode cX3_fittingMeals 119 = .ok (.iload 4, 2) := by decide +kernel
theorem dX3_fittingMeals_121 : decode cX3_fittingMeals 121 = .ok (.iaload, 1) := by decide +kernel
theorem dX3_fittingMeals_122 : decode cX3_fittingMeals 122 = .ok (.iload_n 2, 1) := by decide +kernel
theorem dX3_fittingMeals_123 : decode cX3_fittingMeals 123 = .ok (.iload_n 3, 1) := by decide +kernel
theorem dX3_fittingMeals_124 : decode cX3_fittingMeals 124 = .ok (.invokevirtual 55, 3) := by decide +kernel
theorem dX3_fittingMeals_127 : decode cX3_fittingMeals 127 = .ok (.iinc 4 1, 3) := by decide +kernel
theorem dX3_fittingMeals_130 : decode cX3_fittingMeals 130 = .ok (.goto (-77), 3) := by decide +kernel
theorem dX3_fittingMeals_133 : decode cX3_fittingMeals 133 = .ok (.aload_n 0, 1) := by decide +kernel
theorem dX3_fittingMeals_134 : decode cX3_fittingMeals 134 = .ok (.iload_n 3, 1) := by decide +kernel
theorem dX3_fittingMeals_135 : decode cX3_fittingMeals 135 = .ok (.invokevirtual 59, 3) := by decide +kernel
theorem dX3_fittingMeals_138 : decode cX3_fittingMeals 138 = .ok (.lreturn, 1) := by decide +kernel
theorem dX3_letEat_0 : decode cX3_letEat 0 = .ok (.iload_n 1, 1) := by decide +kernel
theorem dX3_letEat_1 : decode cX3_letEat 1 = .ok (.iconst 1, 1) := by decide +kernel
theorem dX3_letEat_2 : decode cX3_letEat 2 = .ok (.if_icmp .ge 4, 3) := by decide +kernel
theorem dX3_letEat_5 : decode cX3_letEat 5 = .ok (.return_, 1) := by decide +kernel
theorem dX3_letEat_6 : decode cX3_letEat 6 = .ok (.iload_n 2, 1) := by decide +kernel
theorem dX3_letEat_7 : decode cX3_letEat 7 = .ok (.sipush 2197, 3) := by decide +kernel
theorem dX3_letEat_10 : decode cX3_letEat 10 = .ok (.invokestatic 32, 3) := by decide +kernel
theorem dX3_letEat_13 : decode cX3_letEat 13 = .ok (.iconst 1, 1) := by decide +kernel
theorem dX3_letEat_14 : decode cX3_letEat 14 = .ok (.isub, 1) := by decide +kernel
theorem dX3_letEat_15 : decode cX3_letEat 15 = .ok (.istore_n 3, 1) := by decide +kernel
theorem dX3_letEat_16 : decode cX3_letEat 16 = .ok (.iload_n 3, 1) := by decide +kernel
theorem dX3_letEat_17 : decode cX3_letEat 17 = .ok (.iload_n 1, 1) := by decide +kernel
theorem dX3_letEat_18 : decode cX3_letEat 18 = .ok (.if_icmp .lt 57, 3) := by decide +kernel
theorem dX3_letEat_21 : decode cX3_letEat 21 = .ok (.iconst 3, 1) := by decide +kernel
theorem dX3_letEat_22 : decode cX3_letEat 22 = .ok (.iload_n 3, 1) := by decide +kernel
theorem dX3_letEat_23 : decode cX3_letEat 23 = .ok (.iload_n 1, 1) := by decide +kernel
theorem dX3_letEat_24 : decode cX3_letEat 24 = .ok (.idiv, 1) := by decide +kernel
theorem dX3_letEat_25 : decode cX3_letEat 25 = .ok (.bipush 13, 2) := by decide +kernel
theorem dX3_letEat_27 : decode cX3_letEat 27 = .ok (.irem, 1) := by decide +kernel
theorem dX3_letEat_28 : decode cX3_letEat 28 = .ok (.invokestatic 32, 3) := by decide +kernel
theorem dX3_letEat_31 : decode cX3_letEat 31 = .ok (.istore 4, 2) := by decide +kernel
theorem dX3_letEat_33 : decode cX3_letEat 33 = .ok (.iconst 1, 1) := by decide +kernel
theorem dX3_letEat_34 : decode cX3_letEat 34 = .ok (.istore 5, 2) := by decide +kernel
theorem dX3_letEat_36 : decode cX3_letEat 36 = .ok (.iload 5, 2) := by decide +kernel
theorem dX3_letEat_38 : decode cX3_letEat 38 = .ok (.iload 4, 2) := by decide +kernel
theorem dX3_letEat_40 : decode cX3_letEat 40 = .ok (.if_icmp .gt 29, 3) := by decide +kernel
theorem dX3_letEat_43 : decode cX3_letEat 43 = .ok (.aload_n 0, 1) := by decide +kernel
theorem dX3_letEat_44 : decode cX3_letEat 44 = .ok (.getfield 18, 3) := by decide +kernel
theorem dX3_letEat_47 : decode cX3_letEat 47 = .ok (.iload_n 3, 1) := by decide +kernel
theorem dX3_letEat_48 : decode cX3_letEat 48 = .ok (.dup2, 1) := by decide +kernel
theorem dX3_letEat_49 : decode cX3_letEat 49 = .ok (.laload, 1) := by decide +kernel
theorem dX3_letEat_50 : decode cX3_letEat 50 = .ok (.aload_n 0, 1) := by decide +kernel
theorem dX3_letEat_51 : decode cX3_letEat 51 = .ok (.getfield 18, 3) := by decide +kernel
theorem dX3_letEat_54 : decode cX3_letEat 54 = .ok (.iload_n 3, 1) := by decide +kernel
theorem dX3_letEat_55 : decode cX3_letEat 55 = .ok (.iload 5, 2) := by decide +kernel
theorem dX3_letEat_57 : decode cX3_letEat 57 = .ok (.iload_n 1, 1) := by decide +kernel
theorem dX3_letEat_58 : decode cX3_letEat 58 = .ok (.imul, 1) := by decide +kernel
theorem dX3_letEat_59 : decode cX3_letEat 59 = .ok (.isub, 1) := by decide +kernel
theorem dX3_letEat_60 : decode cX3_letEat 60 = .ok (.laload, 1) := by decide +kernel
theorem dX3_letEat_61 : decode cX3_letEat 61 = .ok (.ladd, 1) := by decide +kernel
theorem dX3_letEat_62 : decode cX3_letEat 62 = .ok (.lastore, 1) := by decide +kernel
theorem dX3_letEat_63 : decode cX3_letEat 63 = .ok (.iinc 5 1, 3) := by decide +kernel
theorem dX3_letEat_66 : decode cX3_letEat 66 = .ok (.goto (-30), 3) := by decide +kernel
theorem dX3_letEat_69 : decode cX3_letEat 69 = .ok (.iinc 3 (-1), 3) := by decide +kernel
theorem dX3_letEat_72 : decode cX3_letEat 72 = .ok (.goto (-56), 3) := by decide +kernel
theorem dX3_letEat_75 : decode cX3_letEat 75 = .ok (.return_, 1) := by decide +kernel
set_option maxRecDepth 20000 in
theorem ggX3_strikeOut_X3_lightestAt : GoodIn wsX3_strikeOut wsX3_lightestAt := goodIn_r _ [6, 7, 8, 9, 10, 11] (by decide +kernel) (by decide +kernel)
set_option maxRecDepth 20000 in
theorem gX3_strikeOut_X3_lightestAt : GoodIn wsX3_strikeOut (wsV RX3 63 RX3 yX3_lightestAt wsX3_lightestAt) := goodIn_app (goodIn_of _ (by decide +kernel)) ggX3_strikeOut_X3_lightestAt
theorem dX3_strikeOut_0 : decode cX3_strikeOut 0 = .ok (.iconst 0, 1) := by decide +kernel
theorem dX3_strikeOut_1 : decode cX3_strikeOut 1 = .ok (.istore 4, 2) := by decide +kernel
theorem dX3_strikeOut_3 : decode cX3_strikeOut 3 = .ok (.iload 4, 2) := by decide +kernel
theorem dX3_strikeOut_5 : decode cX3_strikeOut 5 = .ok (.iload_n 3, 1) := by decide +kernel
theorem dX3_strikeOut_6 : decode cX3_strikeOut 6 = .ok (.if_icmp .ge 48, 3) := by decide +kernel
theorem dX3_strikeOut_9 : decode cX3_strikeOut 9 = .ok (.iload 4, 2) := by decide +kernel
theorem dX3_strikeOut_11 : decode cX3_strikeOut 11 = .ok (.sipush 2197, 3) := by decide +kernel
theorem dX3_strikeOut_14 : decode cX3_strikeOut 14 = .ok (.if_icmp .ge 40, 3) := by decide +kernel
theorem dX3_strikeOut_17 : decode cX3_strikeOut 17 = .ok (.aload_n 0, 1) := by decide +kernel
theorem dX3_strikeOut_18 : decode cX3_strikeOut 18 = .ok (.getfield 18, 3) := by decide +kernel
theorem dX3_strikeOut_21 : decode cX3_strikeOut 21 = .ok (.iload 4, 2) := by decide +kernel
theorem dX3_strikeOut_23 : decode cX3_strikeOut 23 = .ok (.laload, 1) := by decide +kernel
theorem dX3_strikeOut_24 : decode cX3_strikeOut 24 = .ok (.lconst 0, 1) := by decide +kernel
theorem dX3_strikeOut_25 : decode cX3_strikeOut 25 = .ok (.lcmp, 1) := by decide +kernel
theorem dX3_strikeOut_26 : decode cX3_strikeOut 26 = .ok (.ifCond .eq 22, 3) := by decide +kernel
theorem dX3_strikeOut_29 : decode cX3_strikeOut 29 = .ok (.aload_n 0, 1) := by decide +kernel
theorem dX3_strikeOut_30 : decode cX3_strikeOut 30 = .ok (.iload 4, 2) := by decide +kernel
theorem dX3_strikeOut_32 : decode cX3_strikeOut 32 = .ok (.iload_n 2, 1) := by decide +kernel
theorem dX3_strikeOut_33 : decode cX3_strikeOut 33 = .ok (.invokevirtual 63, 3) := by decide +kernel
theorem dX3_strikeOut_36 : decode cX3_strikeOut 36 = .ok (.iload_n 1, 1) := by decide +kernel
theorem dX3_strikeOut_37 : decode cX3_strikeOut 37 = .ok (.if_icmp .eq 11, 3) := by decide +kernel
theorem dX3_strikeOut_40 : decode cX3_strikeOut 40 = .ok (.aload_n 0, 1) := by decide +kernel
theorem dX3_strikeOut_41 : decode cX3_strikeOut 41 = .ok (.getfield 18, 3) := by decide +kernel
theorem dX3_strikeOut_44 : decode cX3_strikeOut 44 = .ok (.iload 4, 2) := by decide +kernel
theorem dX3_strikeOut_46 : decode cX3_strikeOut 46 = .ok (.lconst 0, 1) := by decide +kernel
theorem dX3_strikeOut_47 : decode cX3_strikeOut 47 = .ok (.lastore, 1) := by decide +kernel
theorem dX3_strikeOut_48 : decode cX3_strikeOut 48 = .ok (.iinc 4 1, 3) := by decide +kernel
theorem dX3_strikeOut_51 : decode cX3_strikeOut 51 = .ok (.goto (-48), 3) := by decide +kernel
theorem dX3_strikeOut_54 : decode cX3_strikeOut 54 = .ok (.return_, 1) := by decide +kernel
theorem dX3_lightestAt_0 : decode cX3_lightestAt 0 = .ok (.bipush (-9), 2) := by decide +kernel
theorem dX3_lightestAt_2 : decode cX3_lightestAt 2 = .ok (.istore_n 3, 1) := by decide +kernel
theorem dX3_lightestAt_3 : decode cX3_lightestAt 3 = .ok (.iconst 0, 1) := by decide +kernel
theorem dX3_lightestAt_4 : decode cX3_lightestAt 4 = .ok (.istore 4, 2) := by decide +kernel
theorem dX3_lightestAt_6 : decode cX3_lightestAt 6 = .ok (.iload_n 1, 1) := by decide +kernel
theorem dX3_lightestAt_7 : decode cX3_lightestAt 7 = .ok (.istore 5, 2) := by decide +kernel
theorem dX3_lightestAt_9 : decode cX3_lightestAt 9 = .ok (.iconst 0, 1) := by decide +kernel
theorem dX3_lightestAt_10 : decode cX3_lightestAt 10 = .ok (.istore 6, 2) := by decide +kernel
theorem dX3_lightestAt_12 : decode cX3_lightestAt 12 = .ok (.iload 6, 2) := by decide +kernel
theorem dX3_lightestAt_14 : decode cX3_lightestAt 14 = .ok (.iload_n 2, 1) := by decide +kernel
theorem dX3_lightestAt_15 : decode cX3_lightestAt 15 = .ok (.if_icmp .ge 60, 3) := by decide +kernel
theorem dX3_lightestAt_18 : decode cX3_lightestAt 18 = .ok (.iload 6, 2) := by decide +kernel
theorem dX3_lightestAt_20 : decode cX3_lightestAt 20 = .ok (.iconst 3, 1) := by decide +kernel
theorem dX3_lightestAt_21 : decode cX3_lightestAt 21 = .ok (.if_icmp .ge 54, 3) := by decide +kernel
theorem dX3_lightestAt_24 : decode cX3_lightestAt 24 = .ok (.aload_n 0, 1) := by decide +kernel
theorem dX3_lightestAt_25 : decode cX3_lightestAt 25 = .ok (.getfield 15, 3) := by decide +kernel
theorem dX3_lightestAt_28 : decode cX3_lightestAt 28 = .ok (.iload 6, 2) := by decide +kernel
theorem dX3_lightestAt_30 : decode cX3_lightestAt 30 = .ok (.iaload, 1) := by decide +kernel
theorem dX3_lightestAt_31 : decode cX3_lightestAt 31 = .ok (.bipush 8, 2) := by decide +kernel
theorem dX3_lightestAt_33 : decode cX3_lightestAt 33 = .ok (.iload 5, 2) := by decide +kernel
theorem dX3_lightestAt_35 : decode cX3_lightestAt 35 = .ok (.bipush 13, 2) := by decide +kernel
theorem dX3_lightestAt_37 : decode cX3_lightestAt 37 = .ok (.irem, 1) := by decide +kernel
theorem dX3_lightestAt_38 : decode cX3_lightestAt 38 = .ok (.imul, 1) := by decide +kernel
theorem dX3_lightestAt_39 : decode cX3_lightestAt 39 = .ok (.iadd, 1) := by decide +kernel
theorem dX3_lightestAt_40 : decode cX3_lightestAt 40 = .ok (.istore 7, 2) := by decide +kernel
theorem dX3_lightestAt_42 : decode cX3_lightestAt 42 = .ok (.iload_n 3, 1) := by decide +kernel
theorem dX3_lightestAt_43 : decode cX3_lightestAt 43 = .ok (.bipush (-9), 2) := by decide +kernel
theorem dX3_lightestAt_45 : decode cX3_lightestAt 45 = .ok (.if_icmp .eq 10, 3) := by decide +kernel
theorem dX3_lightestAt_48 : decode cX3_lightestAt 48 = .ok (.iload 7, 2) := by decide +kernel
theorem dX3_lightestAt_50 : decode cX3_lightestAt 50 = .ok (.iload 4, 2) := by decide +kernel
theorem dX3_lightestAt_52 : decode cX3_lightestAt 52 = .ok (.if_icmp .ge 10, 3) := by decide +kernel
theorem dX3_lightestAt_55 : decode cX3_lightestAt 55 = .ok (.iload 6, 2) := by decide +kernel
theorem dX3_lightestAt_57 : decode cX3_lightestAt 57 = .ok (.istore_n 3, 1) := by decide +kernel
theorem dX3_lightestAt_58 : decode cX3_lightestAt 58 = .ok (.iload 7, 2) := by decide +kernel
theorem dX3_lightestAt_60 : decode cX3_lightestAt 60 = .ok (.istore 4, 2) := by decide +kernel
theorem dX3_lightestAt_62 : decode cX3_lightestAt 62 = .ok (.iload 5, 2) := by decide +kernel
theorem dX3_lightestAt_64 : decode cX3_lightestAt 64 = .ok (.bipush 13, 2) := by decide +kernel
theorem dX3_lightestAt_66 : decode cX3_lightestAt 66 = .ok (.idiv, 1) := by decide +kernel
theorem dX3_lightestAt_67 : decode cX3_lightestAt 67 = .ok (.istore 5, 2) := by decide +kernel
theorem dX3_lightestAt_69 : decode cX3_lightestAt 69 = .ok (.iinc 6 1, 3) := by decide +kernel
theorem dX3_lightestAt_72 : decode cX3_lightestAt 72 = .ok (.goto (-60), 3) := by decide +kernel
theorem dX3_lightestAt_75 : decode cX3_lightestAt 75 = .ok (.iload_n 3, 1) := by decide +kernel
theorem dX3_lightestAt_76 : decode cX3_lightestAt 76 = .ok (.ireturn, 1) := by decide +kernel
theorem dX3_sumOfWays_0 : decode cX3_sumOfWays 0 = .ok (.lconst 0, 1) := by decide +kernel
theorem dX3_sumOfWays_1 : decode cX3_sumOfWays 1 = .ok (.lstore_n 2, 1) := by decide +kernel
theorem dX3_sumOfWays_2 : decode cX3_sumOfWays 2 = .ok (.iconst 0, 1) := by decide +kernel
theorem dX3_sumOfWays_3 : decode cX3_sumOfWays 3 = .ok (.istore 4, 2) := by decide +kernel
theorem dX3_sumOfWays_5 : decode cX3_sumOfWays 5 = .ok (.iload 4, 2) := by decide +kernel
theorem dX3_sumOfWays_7 : decode cX3_sumOfWays 7 = .ok (.iload_n 1, 1) := by decide +kernel
theorem dX3_sumOfWays_8 : decode cX3_sumOfWays 8 = .ok (.if_icmp .ge 27, 3) := by decide +kernel
theorem dX3_sumOfWays_11 : decode cX3_sumOfWays 11 = .ok (.iload 4, 2) := by decide +kernel
theorem dX3_sumOfWays_13 : decode cX3_sumOfWays 13 = .ok (.sipush 2197, 3) := by decide +kernel
theorem dX3_sumOfWays_16 : decode cX3_sumOfWays 16 = .ok (.if_icmp .ge 19, 3) := by decide +kernel
theorem dX3_sumOfWays_19 : decode cX3_sumOfWays 19 = .ok (.lload_n 2, 1) := by decide +kernel
theorem dX3_sumOfWays_20 : decode cX3_sumOfWays 20 = .ok (.aload_n 0, 1) := by decide +kernel
theorem dX3_sumOfWays_21 : decode cX3_sumOfWays 21 = .ok (.getfield 18, 3) := by decide +kernel
theorem dX3_sumOfWays_24 : decode cX3_sumOfWays 24 = .ok (.iload 4, 2) := by decide +kernel
theorem dX3_sumOfWays_26 : decode cX3_sumOfWays 26 = .ok (.laload, 1) := by decide +kernel
theorem dX3_sumOfWays_27 : decode cX3_sumOfWays 27 = .ok (.ladd, 1) := by decide +kernel
theorem dX3_sumOfWays_28 : decode cX3_sumOfWays 28 = .ok (.lstore_n 2, 1) := by decide +kernel
theorem dX3_sumOfWays_29 : decode cX3_sumOfWays 29 = .ok (.iinc 4 1, 3) := by decide +kernel
theorem dX3_sumOfWays_32 : decode cX3_sumOfWays 32 = .ok (.goto (-27), 3) := by decide +kernel
theorem dX3_sumOfWays_35 : decode cX3_sumOfWays 35 = .ok (.lload_n 2, 1) := by decide +kernel
theorem dX3_sumOfWays_36 : decode cX3_sumOfWays 36 = .ok (.lreturn, 1) := by decide +kernel
theorem dX4_init_0 : decode cX4_init 0 = .ok (.aload_n 0, 1) := by decide +kernel
theorem dX4_init_1 : decode cX4_init 1 = .ok (.invokespecial 3, 3) := by decide +kernel
theorem dX4_init_4 : decode cX4_init 4 = .ok (.aload_n 0, 1) := by decide +kernel
theorem dX4_init_5 : decode cX4_init 5 = .ok (.bipush 8, 2) := by decide +kernel
theorem dX4_init_7 : decode cX4_init 7 = .ok (.newarray .int, 2) := by decide +kernel
theorem dX4_init_9 : decode cX4_init 9 = .ok (.putfield 11, 3) := by decide +kernel
theorem dX4_init_12 : decode cX4_init 12 = .ok (.aload_n 0, 1) := by decide +kernel
theorem dX4_init_13 : decode cX4_init 13 = .ok (.bipush 8, 2) := by decide +kernel
theorem dX4_init_15 : decode cX4_init 15 = .ok (.newarray .int, 2) := by decide +kernel
theorem dX4_init_17 : decode cX4_init 17 = .ok (.putfield 15, 3) := by decide +kernel
theorem dX4_init_20 : decode cX4_init 20 = .ok (.aload_n 0, 1) := by decide +kernel
theorem dX4_init_21 : decode cX4_init 21 = .ok (.iconst 5, 1) := by decide +kernel
theorem dX4_init_22 : decode cX4_init 22 = .ok (.newarray .int, 2) := by decide +kernel
theorem dX4_init_24 : decode cX4_init 24 = .ok (.putfield 20, 3) := by decide +kernel
theorem dX4_init_27 : decode cX4_init 27 = .ok (.aload_n 0, 1) := by decide +kernel
theorem dX4_init_28 : decode cX4_init 28 = .ok (.iconst 5, 1) := by decide +kernel
theorem dX4_init_29 : decode cX4_init 29 = .ok (.newarray .int, 2) := by decide +kernel
theorem dX4_init_31 : decode cX4_init 31 = .ok (.putfield 23, 3) := by decide +kernel
theorem dX4_init_34 : decode cX4_init 34 = .ok (.aload_n 0, 1) := by decide +kernel
theorem dX4_init_35 : decode cX4_init 35 = .ok (.iconst 0, 1) := by decide +kernel
theorem dX4_init_36 : decode cX4_init 36 = .ok (.putfield 26, 3) := by decide +kernel
theorem dX4_init_39 : decode cX4_init 39 = .ok (.aload_n 0, 1) := by decide +kernel
theorem dX4_init_40 : decode cX4_init 40 = .ok (.iconst 0, 1) := by decide +kernel
theorem dX4_init_41 : decode cX4_init 41 = .ok (.putfield 30, 3) := by decide +kernel
theorem dX4_init_44 : decode cX4_init 44 = .ok (.aload_n 0, 1) := by decide +kernel
theorem dX4_init_45 : decode cX4_init 45 = .ok (.iconst 0, 1) := by decide +kernel
theorem dX4_init_46 : decode cX4_init 46 = .ok (.putfield 33, 3) := by decide +kernel
theorem dX4_init_49 : decode cX4_init 49 = .ok (.return_, 1) := by decide +kernel
theorem dX4_length_0 : decode cX4_length 0 = .ok (.aload_n 0, 1) := by decide +kernel
theorem dX4_length_1 : decode cX4_length 1 = .ok (.getfield 26, 3) := by decide +kernel
theorem dX4_length_4 : decode cX4_length 4 = .ok (.ireturn, 1) := by decide +kernel
theorem dX4_clear_0 : decode cX4_clear 0 = .ok (.aload_n 0, 1) := by decide +kernel
theorem dX4_clear_1 : decode cX4_clear 1 = .ok (.iconst 0, 1) := by decide +kernel
theorem dX4_clear_2 : decode cX4_clear 2 = .ok (.putfield 26, 3) := by decide +kernel
theorem dX4_clear_5 : decode cX4_clear 5 = .ok (.aload_n 0, 1) := by decide +kernel
theorem dX4_clear_6 : decode cX4_clear 6 = .ok (.iconst 0, 1) := by decide +kernel
theorem dX4_clear_7 : decode cX4_clear 7 = .ok (.putfield 33, 3) := by decide +kernel
theorem dX4_clear_10 : decode cX4_clear 10 = .ok (.return_, 1) := by decide +kernel
theorem dX4_append_0 : decode cX4_append 0 = .ok (.aload_n 0, 1) := by decide +kernel
theorem dX4_append_1 : decode cX4_append 1 = .ok (.getfield 26, 3) := by decide +kernel
theorem dX4_append_4 : decode cX4_append 4 = .ok (.bipush 8, 2) := by decide +kernel
theorem dX4_append_6 : decode cX4_append 6 = .ok (.if_icmp .ne 5, 3) := by decide +kernel
theorem dX4_append_9 : decode cX4_append 9 = .ok (.iconst 0, 1) := by decide +kernel
theorem dX4_append_10 : decode cX4_append 10 = .ok (.ireturn, 1) := by decide +kernel
theorem dX4_append_11 : decode cX4_append 11 = .ok (.aload_n 0, 1) := by decide +kernel
theorem dX4_append_12 : decode cX4_append 12 = .ok (.getfield 11, 3) := by decide +kernel
theorem dX4_append_15 : decode cX4_append 15 = .ok (.aload_n 0, 1) := by decide +kernel
theorem dX4_append_16 : decode cX4_append 16 = .ok (.getfield 26, 3) := by decide +kernel
theorem dX4_append_19 : decode cX4_append 19 = .ok (.iload_n 1, 1) := by decide +kernel
theorem dX4_append_20 : decode cX4_append 20 = .ok (.iastore, 1) := by decide +kernel
theorem dX4_append_21 : decode cX4_append 21 = .ok (.aload_n 0, 1) := by decide +kernel
theorem dX4_append_22 : decode cX4_append 22 = .ok (.getfield 15, 3) := by decide +kernel
theorem dX4_append_25 : decode cX4_append 25 = .ok (.aload_n 0, 1) := by decide +kernel
theorem dX4_append_26 : decode cX4_append 26 = .ok (.getfield 26, 3) := by decide +kernel
theorem dX4_append_29 : decode cX4_append 29 = .ok (.iload_n 2, 1) := by decide +kernel
theorem dX4_append_30 : decode cX4_append 30 = .ok (.iastore, 1) := by decide +kernel
theorem dX4_append_31 : decode cX4_append 31 = .ok (.aload_n 0, 1) := by decide +kernel
theorem dX4_append_32 : decode cX4_append 32 = .ok (.dup, 1) := by decide +kernel
theorem dX4_append_33 : decode cX4_append 33 = .ok (.getfield 26, 3) := by decide +kernel
theorem dX4_append_36 : decode cX4_append 36 = .ok (.iconst 1, 1) := by decide +kernel
theorem dX4_append_37 : decode cX4_append 37 = .ok (.iadd, 1) := by decide +kernel
theorem dX4_append_38 : decode cX4_append 38 = .ok (.putfield 26, 3) := by decide +kernel
theorem dX4_append_41 : decode cX4_append 41 = .ok (.aload_n 0, 1) := by decide +kernel
theorem dX4_append_42 : decode cX4_append 42 = .ok (.iconst 0, 1) := by decide +kernel
theorem dX4_append_43 : decode cX4_append 43 = .ok (.putfield 33, 3) := by decide +kernel
theorem dX4_append_46 : decode cX4_append 46 = .ok (.iconst 1, 1) := by decide +kernel
theorem dX4_append_47 : decode cX4_append 47 = .ok (.ireturn, 1) := by decide +kernel
theorem dX4_leastOf_0 : decode cX4_leastOf 0 = .ok (.iload_n 1, 1) := by decide +kernel
theorem dX4_leastOf_1 : decode cX4_leastOf 1 = .ok (.ifCond .lt 8, 3) := by decide +kernel
theorem dX4_leastOf_4 : decode cX4_leastOf 4 = .ok (.iload_n 1, 1) := by decide +kernel
theorem dX4_leastOf_5 : decode cX4_leastOf 5 = .ok (.iconst 5, 1) := by decide +kernel
theorem dX4_leastOf_6 : decode cX4_leastOf 6 = .ok (.if_icmp .lt 8, 3) := by decide +kernel
theorem dX4_leastOf_9 : decode cX4_leastOf 9 = .ok (.bipush (-9), 2) := by decide +kernel
theorem dX4_leastOf_11 : decode cX4_leastOf 11 = .ok (.goto 9, 3) := by decide +kernel
theorem dX4_leastOf_14 : decode cX4_leastOf 14 = .ok (.aload_n 0, 1) := by decide +kernel
theorem dX4_leastOf_15 : decode cX4_leastOf 15 = .ok (.getfield 20, 3) := by decide +kernel
theorem dX4_leastOf_18 : decode cX4_leastOf 18 = .ok (.iload_n 1, 1) := by decide +kernel
theorem dX4_leastOf_19 : decode cX4_leastOf 19 = .ok (.iaload, 1) := by decide +kernel
theorem dX4_leastOf_20 : decode cX4_leastOf 20 = .ok (.ireturn, 1) := by decide +kernel
theorem dX4_mostOf_0 : decode cX4_mostOf 0 = .ok (.iload_n 1, 1) := by decide +kernel
theorem dX4_mostOf_1 : decode cX4_mostOf 1 = .ok (.ifCond .lt 8, 3) := by decide +kernel
theorem dX4_mostOf_4 : decode cX4_mostOf 4 = .ok (.iload_n 1, 1) := by decide +kernel
theorem dX4_mostOf_5 : decode cX4_mostOf 5 = .ok (.iconst 5, 1) := by decide +kernel
theorem dX4_mostOf_6 : decode cX4_mostOf 6 = .ok (.if_icmp .lt 8, 3) := by decide +kernel
theorem dX4_mostOf_9 : decode cX4_mostOf 9 = .ok (.bipush (-9), 2) := by decide +kernel
theorem dX4_mostOf_11 : decode cX4_mostOf 11 = .ok (.goto 9, 3) := by decide +kernel
theorem dX4_mostOf_14 : decode cX4_mostOf 14 = .ok (.aload_n 0, 1) := by decide +kernel
theorem dX4_mostOf_15 : decode cX4_mostOf 15 = .ok (.getfield 23, 3) := by decide +kernel
theorem dX4_mostOf_18 : decode cX4_mostOf 18 = .ok (.iload_n 1, 1) := by decide +kernel
theorem dX4_mostOf_19 : decode cX4_mostOf 19 = .ok (.iaload, 1) := by decide +kernel
theorem dX4_mostOf_20 : decode cX4_mostOf 20 = .ok (.ireturn, 1) := by decide +kernel
set_option maxRecDepth 20000 in
theorem ggX4_fittingRows_J7_fill_53178 : GoodIn wsX4_fittingRows wsJ7_fill_53178 := goodIn_r _ [8] (by decide +kernel) (by decide +kernel)
set_option maxRecDepth 20000 in
theorem gX4_fittingRows_J7_fill_53178 : GoodIn wsX4_fittingRows (va_wsS RX4 37 yJ7_fill_53178 wsJ7_fill_53178) := goodIn_app (goodIn_of _ (by decide +kernel)) ggX4_fittingRows_J7_fill_53178
set_option maxRecDepth 20000 in
theorem ggX4_fittingRows_X4_rowsFrom : GoodIn wsX4_fittingRows wsX4_rowsFrom := goodIn_r _ [12, 13, 14, 15, 11, 16, 17, 18, 19, 20, 21, 22, 23, 24, 25, 26, 27, 28, 29, 30, 31, 32, 33, 34, 35, 36, 37, 38, 39, 40, 41, 42, 43, 44, 45, 9, 10, 46, 47, 48, 49, 2, 3, 50, 51, 52, 53, 54, 55, 56, 57, 58, 59, 60] (by decide +kernel) (by decide +kernel)
set_option maxRecDepth 20000 in
theorem gX4_fittingRows_X4_rowsFrom : GoodIn wsX4_fittingRows (va_wsS RX4 43 yX4_rowsFrom wsX4_rowsFrom) := goodIn_app (goodIn_of _ (by decide +kernel)) ggX4_fittingRows_X4_rowsFrom
theorem dX4_fittingRows_0 : decode cX4_fittingRows 0 = .ok (.aload_n 0, 1) := by decide +kernel
theorem dX4_fittingRows_1 : decode cX4_fittingRows 1 = .ok (.getfield 33, 3) := by decide +kernel
theorem dX4_fittingRows_4 : decode cX4_fittingRows 4 = .ok (.ifCond .ne 35, 3) := by decide +kernel
theorem dX4_fittingRows_7 : decode cX4_fittingRows 7 = .ok (.aload_n 0, 1) := by decide +kernel
theorem dX4_fittingRows_8 : decode cX4_fittingRows 8 = .ok (.getfield 20, 3) := by decide +kernel
theorem dX4_fittingRows_11 : decode cX4_fittingRows 11 = .ok (.bipush 10, 2) := by decide +kernel
theorem dX4_fittingRows_13 : decode cX4_fittingRows 13 = .ok (.invokestatic 37, 3) := by decide +kernel
theorem dX4_fittingRows_16 : decode cX4_fittingRows 16 = .ok (.aload_n 0, 1) := by decide +kernel
theorem dX4_fittingRows_17 : decode cX4_fittingRows 17 = .ok (.getfield 23, 3) := by decide +kernel
theorem dX4_fittingRows_20 : decode cX4_fittingRows 20 = .ok (.bipush (-9), 2) := by decide +kernel
theorem dX4_fittingRows_22 : decode cX4_fittingRows 22 = .ok (.invokestatic 37, 3) := by decide +kernel
theorem dX4_fittingRows_25 : decode cX4_fittingRows 25 = .ok (.aload_n 0, 1) := by decide +kernel
theorem dX4_fittingRows_26 : decode cX4_fittingRows 26 = .ok (.aload_n 0, 1) := by decide +kernel
theorem dX4_fittingRows_27 : decode cX4_fittingRows 27 = .ok (.iconst 0, 1) := by decide +kernel
theorem dX4_fittingRows_28 : decode cX4_fittingRows 28 = .ok (.invokestatic 43, 3) := by decide +kernel
theorem dX4_fittingRows_31 : decode cX4_fittingRows 31 = .ok (.putfield 30, 3) := by decide +kernel
theorem dX4_fittingRows_34 : decode cX4_fittingRows 34 = .ok (.aload_n 0, 1) := by decide +kernel
theorem dX4_fittingRows_35 : decode cX4_fittingRows 35 = .ok (.iconst 1, 1) := by decide +kernel
theorem dX4_fittingRows_36 : decode cX4_fittingRows 36 = .ok (.putfield 33, 3) := by decide +kernel
theorem dX4_fittingRows_39 : decode cX4_fittingRows 39 = .ok (.aload_n 0, 1) := by decide +kernel
theorem dX4_fittingRows_40 : decode cX4_fittingRows 40 = .ok (.getfield 30, 3) := by decide +kernel
theorem dX4_fittingRows_43 : decode cX4_fittingRows 43 = .ok (.ireturn, 1) := by decide +kernel
set_option maxRecDepth 20000 in
theorem ggX4_rowsFrom_X4_fewestFor : GoodIn wsX4_rowsFrom wsX4_fewestFor := goodIn_r _ [5, 6, 7, 8, 9, 10, 11, 12, 13, 14, 15, 4, 16, 17, 18, 19, 20, 21, 22, 23, 47, 48, 49, 50, 51, 52, 53] (by decide +kernel) (by decide +kernel)
set_option maxRecDepth 20000 in
theorem gX4_rowsFrom_X4_fewestFor : GoodIn wsX4_rowsFrom (wsV RX4 47 RX4 yX4_fewestFor wsX4_fewestFor) := goodIn_app (goodIn_of _ (by decide +kernel)) ggX4_rowsFrom_X4_fewestFor
set_option maxRecDepth 20000 in
theorem ggX4_rowsFrom_X4_greatestFor : GoodIn wsX4_rowsFrom wsX4_greatestFor := goodIn_r _ [27, 6, 8, 28, 29, 11, 30, 13, 14, 15, 4, 16, 7, 47, 48, 49, 50, 51, 52, 53] (by decide +kernel) (by decide +kernel)
set_option maxRecDepth 20000 in
theorem gX4_rowsFrom_X4_greatestFor : GoodIn wsX4_rowsFrom (wsV RX4 51 RX4 yX4_greatestFor wsX4_greatestFor) := goodIn_app (goodIn_of _ (by decide +kernel)) ggX4_rowsFrom_X4_greatestFor
set_option maxRecDepth 20000 in
theorem ggX4_rowsFrom_X4_anySearched : GoodIn wsX4_rowsFrom wsX4_anySearched := goodIn_r _ [34, 6, 13, 14, 15, 4, 16, 7, 47, 48, 49, 50, 51, 52, 53] (by decide +kernel) (by decide +kernel)
set_option maxRecDepth 20000 in
theorem gX4_rowsFrom_X4_anySearched : GoodIn wsX4_rowsFrom (wsV RX4 54 RX4 yX4_anySearched wsX4_anySearched) := goodIn_app (goodIn_of _ (by decide +kernel)) ggX4_rowsFrom_X4_anySearched
set_option maxRecDepth 20000 in
theorem ggX4_rowsFrom_X4_rowsFrom : GoodIn wsX4_rowsFrom wsX4_rowsFrom := goodIn_r _ [0, 1, 2, 3, 4, 5, 6, 7, 8, 9, 10, 11, 12, 13, 14, 15, 16, 17, 18, 19, 20, 21, 22, 23, 24, 25, 26, 27, 28, 29, 30, 31, 32, 33, 34, 35, 36, 37, 38, 39, 40, 41, 42, 43, 44, 45, 46, 47, 48, 49, 50, 51, 52, 53] (by decide +kernel) (by decide +kernel)
set_option maxRecDepth 20000 in
theorem gX4_rowsFrom_X4_rowsFrom : GoodIn wsX4_rowsFrom (va_wsS RX4 43 yX4_rowsFrom wsX4_rowsFrom) := goodIn_app (goodIn_of _ (by decide +kernel)) ggX4_rowsFrom_X4_rowsFrom
set_option maxRecDepth 20000 in
theorem ggX4_rowsFrom_X4_noted : GoodIn wsX4_rowsFrom wsX4_noted := goodIn_r _ [40, 41, 28, 29, 11, 30, 42, 9, 10, 12, 47, 48, 49, 50, 51, 52, 53] (by decide +kernel) (by decide +kernel)
set_option maxRecDepth 20000 in
theorem gX4_rowsFrom_X4_noted : GoodIn wsX4_rowsFrom (wsV RX4 58 RX4 yX4_noted wsX4_noted) := goodIn_app (goodIn_of _ (by decide +kernel)) ggX4_rowsFrom_X4_noted
set_option maxRecDepth 20000 in
theorem ggX4_rowsFrom_X4_give : GoodIn wsX4_rowsFrom wsX4_give := goodIn_r _ [46, 6, 8, 13, 14, 15, 4, 16, 7, 47, 48, 49, 50, 51, 52, 53] (by decide +kernel) (by decide +kernel)
set_option maxRecDepth 20000 in
theorem gX4_rowsFrom_X4_give : GoodIn wsX4_rowsFrom (wsV RX4 62 RX4 yX4_give wsX4_give) := goodIn_app (goodIn_of _ (by decide +kernel)) ggX4_rowsFrom_X4_give
theorem dX4_rowsFrom_0 : decode cX4_rowsFrom 0 = .ok (.iload_n 1, 1) := by decide +kernel
theorem dX4_rowsFrom_1 : decode cX4_rowsFrom 1 = .ok (.ifCond .lt 8, 3) := by decide +kernel
theorem dX4_rowsFrom_4 : decode cX4_rowsFrom 4 = .ok (.iload_n 1, 1) := by decide +kernel
theorem dX4_rowsFrom_5 : decode cX4_rowsFrom 5 = .ok (.iconst 5, 1) := by decide +kernel
theorem dX4_rowsFrom_6 : decode cX4_rowsFrom 6 = .ok (.if_icmp .lt 5, 3) := by decide +kernel
theorem dX4_rowsFrom_9 : decode cX4_rowsFrom 9 = .ok (.iconst 1, 1) := by decide +kernel
theorem dX4_rowsFrom_10 : decode cX4_rowsFrom 10 = .ok (.ireturn, 1) := by decide +kernel
theorem dX4_rowsFrom_11 : decode cX4_rowsFrom 11 = .ok (.aload_n 0, 1) := by decide +kernel
theorem dX4_rowsFrom_12 : decode cX4_rowsFrom 12 = .ok (.iload_n 1, 1) := by decide +kernel
theorem dX4_rowsFrom_13 : decode cX4_rowsFrom 13 = .ok (.invokevirtual 47, 3) := by decide +kernel
theorem dX4_rowsFrom_16 : decode cX4_rowsFrom 16 = .ok (.istore_n 2, 1) := by decide +kernel
theorem dX4_rowsFrom_17 : decode cX4_rowsFrom 17 = .ok (.aload_n 0, 1) := by decide +kernel
theorem dX4_rowsFrom_18 : decode cX4_rowsFrom 18 = .ok (.iload_n 1, 1) := by decide +kernel
theorem dX4_rowsFrom_19 : decode cX4_rowsFrom 19 = .ok (.invokevirtual 51, 3) := by decide +kernel
theorem dX4_rowsFrom_22 : decode cX4_rowsFrom 22 = .ok (.istore_n 3, 1) := by decide +kernel
theorem dX4_rowsFrom_23 : decode cX4_rowsFrom 23 = .ok (.aload_n 0, 1) := by decide +kernel
theorem dX4_rowsFrom_24 : decode cX4_rowsFrom 24 = .ok (.iload_n 1, 1) := by decide +kernel
theorem dX4_rowsFrom_25 : decode cX4_rowsFrom 25 = .ok (.invokevirtual 54, 3) := by decide +kernel
theorem dX4_rowsFrom_28 : decode cX4_rowsFrom 28 = .ok (.ifCond .ne 21, 3) := by decide +kernel
theorem dX4_rowsFrom_31 : decode cX4_rowsFrom 31 = .ok (.bipush 10, 2) := by decide +kernel
theorem dX4_rowsFrom_33 : decode cX4_rowsFrom 33 = .ok (.aload_n 0, 1) := by decide +kernel
theorem dX4_rowsFrom_34 : decode cX4_rowsFrom 34 = .ok (.iload_n 1, 1) := by decide +kernel
theorem dX4_rowsFrom_35 : decode cX4_rowsFrom 35 = .ok (.iload_n 2, 1) := by decide +kernel
theorem dX4_rowsFrom_36 : decode cX4_rowsFrom 36 = .ok (.iload_n 3, 1) := by decide +kernel
theorem dX4_rowsFrom_37 : decode cX4_rowsFrom 37 = .ok (.aload_n 0, 1) := by decide +kernel
theorem dX4_rowsFrom_38 : decode cX4_rowsFrom 38 = .ok (.iload_n 1, 1) := by decide +kernel
theorem dX4_rowsFrom_39 : decode cX4_rowsFrom 39 = .ok (.iconst 1, 1) := by decide +kernel
theorem dX4_rowsFrom_40 : decode cX4_rowsFrom 40 = .ok (.iadd, 1) := by decide +kernel
theorem dX4_rowsFrom_41 : decode cX4_rowsFrom 41 = .ok (.invokestatic 43, 3) := by decide +kernel
theorem dX4_rowsFrom_44 : decode cX4_rowsFrom 44 = .ok (.invokevirtual 58, 3) := by decide +kernel
theorem dX4_rowsFrom_47 : decode cX4_rowsFrom 47 = .ok (.imul, 1) := by decide +kernel
theorem dX4_rowsFrom_48 : decode cX4_rowsFrom 48 = .ok (.ireturn, 1) := by decide +kernel
theorem dX4_rowsFrom_49 : decode cX4_rowsFrom 49 = .ok (.iconst 0, 1) := by decide +kernel
theorem dX4_rowsFrom_50 : decode cX4_rowsFrom 50 = .ok (.istore 4, 2) := by decide +kernel
theorem dX4_rowsFrom_52 : decode cX4_rowsFrom 52 = .ok (.iload_n 2, 1) := by decide +kernel
theorem dX4_rowsFrom_53 : decode cX4_rowsFrom 53 = .ok (.istore 5, 2) := by decide +kernel
theorem dX4_rowsFrom_55 : decode cX4_rowsFrom 55 = .ok (.iload 5, 2) := by decide +kernel
theorem dX4_rowsFrom_57 : decode cX4_rowsFrom 57 = .ok (.iload_n 3, 1) := by decide +kernel
theorem dX4_rowsFrom_58 : decode cX4_rowsFrom 58 = .ok (.if_icmp .gt 45, 3) := by decide +kernel
theorem dX4_rowsFrom_61 : decode cX4_rowsFrom 61 = .ok (.aload_n 0, 1) := by decide +kernel
theorem dX4_rowsFrom_62 : decode cX4_rowsFrom 62 = .ok (.iload_n 1, 1) := by decide +kernel
theorem dX4_rowsFrom_63 : decode cX4_rowsFrom 63 = .ok (.iload 5, 2) := by decide +kernel
theorem dX4_rowsFrom_65 : decode cX4_rowsFrom 65 = .ok (.invokevirtual 62, 3) := by decide +kernel
theorem dX4_rowsFrom_68 : decode cX4_rowsFrom 68 = .ok (.iload 4, 2) := by decide +kernel
theorem dX4_rowsFrom_70 : decode cX4_rowsFrom 70 = .ok (.aload_n 0, 1) := by decide +kernel
theorem dX4_rowsFrom_71 : decode cX4_rowsFrom 71 = .ok (.iload_n 1, 1) := by decide +kernel
theorem dX4_rowsFrom_72 : decode cX4_rowsFrom 72 = .ok (.iload 5, 2) := by decide +kernel
theorem dX4_rowsFrom_74 : decode cX4_rowsFrom 74 = .ok (.iload 5, 2) := by decide +kernel
theorem dX4_rowsFrom_76 : decode cX4_rowsFrom 76 = .ok (.aload_n 0, 1) := by decide +kernel
theorem dX4_rowsFrom_77 : decode cX4_rowsFrom 77 = .ok (.iload_n 1, 1) := by decide +kernel
theorem dX4_rowsFrom_78 : decode cX4_rowsFrom 78 = .ok (.iconst 1, 1) := by decide +kernel
theorem dX4_rowsFrom_79 : decode cX4_rowsFrom 79 = .ok (.iadd, 1) := by decide +kernel
theorem dX4_rowsFrom_80 : decode cX4_rowsFrom 80 = .ok (.invokestatic 43, 3) := by decide +kernel
theorem dX4_rowsFrom_83 : decode cX4_rowsFrom 83 = .ok (.invokevirtual 58, 3) := by decide +kernel
theorem dX4_rowsFrom_86 : decode cX4_rowsFrom 86 = .ok (.iadd, 1) := by decide +kernel
theorem dX4_rowsFrom_87 : decode cX4_rowsFrom 87 = .ok (.istore 4, 2) := by decide +kernel
theorem dX4_rowsFrom_89 : decode cX4_rowsFrom 89 = .ok (.aload_n 0, 1) := by decide +kernel
theorem dX4_rowsFrom_90 : decode cX4_rowsFrom 90 = .ok (.iload_n 1, 1) := by decide +kernel
theorem dX4_rowsFrom_91 : decode cX4_rowsFrom 91 = .ok (.iload 5, 2) := by decide +kernel
theorem dX4_rowsFrom_93 : decode cX4_rowsFrom 93 = .ok (.ineg, 1) := by decide +kernel
theorem dX4_rowsFrom_94 : decode cX4_rowsFrom 94 = .ok (.invokevirtual 62, 3) := by decide +kernel
theorem dX4_rowsFrom_97 : decode cX4_rowsFrom 97 = .ok (.iinc 5 1, 3) := by decide +kernel
theorem dX4_rowsFrom_100 : decode cX4_rowsFrom 100 = .ok (.goto (-45), 3) := by decide +kernel
theorem dX4_rowsFrom_103 : decode cX4_rowsFrom 103 = .ok (.iload 4, 2) := by decide +kernel
theorem dX4_rowsFrom_105 : decode cX4_rowsFrom 105 = .ok (.ireturn, 1) := by decide +kernel
theorem dX4_isIn_0 : decode cX4_isIn 0 = .ok (.aload_n 0, 1) := by decide +kernel
theorem dX4_isIn_1 : decode cX4_isIn 1 = .ok (.getfield 11, 3) := by decide +kernel
theorem dX4_isIn_4 : decode cX4_isIn 4 = .ok (.iload_n 2, 1) := by decide +kernel
theorem dX4_isIn_5 : decode cX4_isIn 5 = .ok (.iaload, 1) := by decide +kernel
theorem dX4_isIn_6 : decode cX4_isIn 6 = .ok (.iload_n 1, 1) := by decide +kernel
theorem dX4_isIn_7 : decode cX4_isIn 7 = .ok (.ishr, 1) := by decide +kernel
theorem dX4_isIn_8 : decode cX4_isIn 8 = .ok (.iconst 1, 1) := by decide +kernel
theorem dX4_isIn_9 : decode cX4_isIn 9 = .ok (.iand, 1) := by decide +kernel
theorem dX4_isIn_10 : decode cX4_isIn 10 = .ok (.iconst 1, 1) := by decide +kernel
theorem dX4_isIn_11 : decode cX4_isIn 11 = .ok (.if_icmp .ne 7, 3) := by decide +kernel
theorem dX4_isIn_14 : decode cX4_isIn 14 = .ok (.iconst 1, 1) := by decide +kernel
theorem dX4_isIn_15 : decode cX4_isIn 15 = .ok (.goto 4, 3) := by decide +kernel
theorem dX4_isIn_18 : decode cX4_isIn 18 = .ok (.iconst 0, 1) := by decide +kernel
theorem dX4_isIn_19 : decode cX4_isIn 19 = .ok (.ireturn, 1) := by decide +kernel
set_option maxRecDepth 20000 in
theorem ggX4_anySearched_X4_isIn : GoodIn wsX4_anySearched wsX4_isIn := goodIn_r _ [6, 7, 8, 9, 10, 11, 12, 13, 14] (by decide +kernel) (by decide +kernel)
set_option maxRecDepth 20000 in
theorem gX4_anySearched_X4_isIn : GoodIn wsX4_anySearched (wsV RX4 66 RX4 yX4_isIn wsX4_isIn) := goodIn_app (goodIn_of _ (by decide +kernel)) ggX4_anySearched_X4_isIn
theorem dX4_anySearched_0 : decode cX4_anySearched 0 = .ok (.iconst 0, 1) := by decide +kernel
theorem dX4_anySearched_1 : decode cX4_anySearched 1 = .ok (.istore_n 2, 1) := by decide +kernel
theorem dX4_anySearched_2 : decode cX4_anySearched 2 = .ok (.iload_n 2, 1) := by decide +kernel
theorem dX4_anySearched_3 : decode cX4_anySearched 3 = .ok (.aload_n 0, 1) := by decide +kernel
theorem dX4_anySearched_4 : decode cX4_anySearched 4 = .ok (.getfield 26, 3) := by decide +kernel
theorem dX4_anySearched_7 : decode cX4_anySearched 7 = .ok (.if_icmp .ge 20, 3) := by decide +kernel
theorem dX4_anySearched_10 : decode cX4_anySearched 10 = .ok (.aload_n 0, 1) := by decide +kernel
theorem dX4_anySearched_11 : decode cX4_anySearched 11 = .ok (.iload_n 1, 1) := by decide +kernel
theorem dX4_anySearched_12 : decode cX4_anySearched 12 = .ok (.iload_n 2, 1) := by decide +kernel
theorem dX4_anySearched_13 : decode cX4_anySearched 13 = .ok (.invokevirtual 66, 3) := by decide +kernel
theorem dX4_anySearched_16 : decode cX4_anySearched 16 = .ok (.ifCond .eq 5, 3) := by decide +kernel
theorem dX4_anySearched_19 : decode cX4_anySearched 19 = .ok (.iconst 1, 1) := by decide +kernel
theorem dX4_anySearched_20 : decode cX4_anySearched 20 = .ok (.ireturn, 1) := by decide +kernel
theorem dX4_anySearched_21 : decode cX4_anySearched 21 = .ok (.iinc 2 1, 3) := by decide +kernel
theorem dX4_anySearched_24 : decode cX4_anySearched 24 = .ok (.goto (-22), 3) := by decide +kernel
theorem dX4_anySearched_27 : decode cX4_anySearched 27 = .ok (.iconst 0, 1) := by decide +kernel
theorem dX4_anySearched_28 : decode cX4_anySearched 28 = .ok (.ireturn, 1) := by decide +kernel
set_option maxRecDepth 20000 in
theorem ggX4_fewestFor_X4_isIn : GoodIn wsX4_fewestFor wsX4_isIn := goodIn_r _ [12, 2, 20, 21, 22, 23, 24, 25, 26] (by decide +kernel) (by decide +kernel)
set_option maxRecDepth 20000 in
theorem gX4_fewestFor_X4_isIn : GoodIn wsX4_fewestFor (wsV RX4 66 RX4 yX4_isIn wsX4_isIn) := goodIn_app (goodIn_of _ (by decide +kernel)) ggX4_fewestFor_X4_isIn
set_option maxRecDepth 20000 in
theorem ggX4_fewestFor_J6_bitCount_0f7a4 : GoodIn wsX4_fewestFor wsJ6_bitCount_0f7a4 := goodIn_r _ [16, 17, 18, 19] (by decide +kernel) (by decide +kernel)
set_option maxRecDepth 20000 in
theorem gX4_fewestFor_J6_bitCount_0f7a4 : GoodIn wsX4_fewestFor (va_wsS RX4 70 yJ6_bitCount_0f7a4 wsJ6_bitCount_0f7a4) := goodIn_app (goodIn_of _ (by decide +kernel)) ggX4_fewestFor_J6_bitCount_0f7a4
theorem dX4_fewestFor_0 : decode cX4_fewestFor 0 = .ok (.iconst 0, 1) := by decide +kernel
theorem dX4_fewestFor_1 : decode cX4_fewestFor 1 = .ok (.istore_n 2, 1) := by decide +kernel
theorem dX4_fewestFor_2 : decode cX4_fewestFor 2 = .ok (.iconst 0, 1) := by decide +kernel
theorem dX4_fewestFor_3 : decode cX4_fewestFor 3 = .ok (.istore_n 3, 1) := by decide +kernel
theorem dX4_fewestFor_4 : decode cX4_fewestFor 4 = .ok (.iload_n 3, 1) := by decide +kernel
theorem dX4_fewestFor_5 : decode cX4_fewestFor 5 = .ok (.aload_n 0, 1) := by decide +kernel
theorem dX4_fewestFor_6 : decode cX4_fewestFor 6 = .ok (.getfield 26, 3) := by decide +kernel
theorem dX4_fewestFor_9 : decode cX4_fewestFor 9 = .ok (.if_icmp .ge 50, 3) := by decide +kernel
theorem dX4_fewestFor_12 : decode cX4_fewestFor 12 = .ok (.aload_n 0, 1) := by decide +kernel
theorem dX4_fewestFor_13 : decode cX4_fewestFor 13 = .ok (.iload_n 1, 1) := by decide +kernel
theorem dX4_fewestFor_14 : decode cX4_fewestFor 14 = .ok (.iload_n 3, 1) := by decide +kernel
theorem dX4_fewestFor_15 : decode cX4_fewestFor 15 = .ok (.invokevirtual 66, 3) := by decide +kernel
theorem dX4_fewestFor_18 : decode cX4_fewestFor 18 = .ok (.ifCond .eq 35, 3) := by decide +kernel
theorem dX4_fewestFor_21 : decode cX4_fewestFor 21 = .ok (.aload_n 0, 1) := by decide +kernel
theorem dX4_fewestFor_22 : decode cX4_fewestFor 22 = .ok (.getfield 11, 3) := by decide +kernel
theorem dX4_fewestFor_25 : decode cX4_fewestFor 25 = .ok (.iload_n 3, 1) := by decide +kernel
theorem dX4_fewestFor_26 : decode cX4_fewestFor 26 = .ok (.iaload, 1) := by decide +kernel
theorem dX4_fewestFor_27 : decode cX4_fewestFor 27 = .ok (.iload_n 1, 1) := by decide +kernel
theorem dX4_fewestFor_28 : decode cX4_fewestFor 28 = .ok (.iconst 1, 1) := by decide +kernel
theorem dX4_fewestFor_29 : decode cX4_fewestFor 29 = .ok (.iadd, 1) := by decide +kernel
theorem dX4_fewestFor_30 : decode cX4_fewestFor 30 = .ok (.ishr, 1) := by decide +kernel
theorem dX4_fewestFor_31 : decode cX4_fewestFor 31 = .ok (.invokestatic 70, 3) := by decide +kernel
theorem dX4_fewestFor_34 : decode cX4_fewestFor 34 = .ok (.istore 4, 2) := by decide +kernel
theorem dX4_fewestFor_36 : decode cX4_fewestFor 36 = .ok (.iload_n 2, 1) := by decide +kernel
theorem dX4_fewestFor_37 : decode cX4_fewestFor 37 = .ok (.aload_n 0, 1) := by decide +kernel
theorem dX4_fewestFor_38 : decode cX4_fewestFor 38 = .ok (.getfield 15, 3) := by decide +kernel
theorem dX4_fewestFor_41 : decode cX4_fewestFor 41 = .ok (.iload_n 3, 1) := by decide +kernel
theorem dX4_fewestFor_42 : decode cX4_fewestFor 42 = .ok (.iaload, 1) := by decide +kernel
theorem dX4_fewestFor_43 : decode cX4_fewestFor 43 = .ok (.bipush 9, 2) := by decide +kernel
theorem dX4_fewestFor_45 : decode cX4_fewestFor 45 = .ok (.iload 4, 2) := by decide +kernel
theorem dX4_fewestFor_47 : decode cX4_fewestFor 47 = .ok (.imul, 1) := by decide +kernel
theorem dX4_fewestFor_48 : decode cX4_fewestFor 48 = .ok (.isub, 1) := by decide +kernel
theorem dX4_fewestFor_49 : decode cX4_fewestFor 49 = .ok (.invokestatic 75, 3) := by decide +kernel
theorem dX4_fewestFor_52 : decode cX4_fewestFor 52 = .ok (.istore_n 2, 1) := by decide +kernel
theorem dX4_fewestFor_53 : decode cX4_fewestFor 53 = .ok (.iinc 3 1, 3) := by decide +kernel
theorem dX4_fewestFor_56 : decode cX4_fewestFor 56 = .ok (.goto (-52), 3) := by decide +kernel
theorem dX4_fewestFor_59 : decode cX4_fewestFor 59 = .ok (.iload_n 2, 1) := by decide +kernel
theorem dX4_fewestFor_60 : decode cX4_fewestFor 60 = .ok (.ireturn, 1) := by decide +kernel
set_option maxRecDepth 20000 in
theorem ggX4_greatestFor_X4_isIn : GoodIn wsX4_greatestFor wsX4_isIn := goodIn_r _ [11, 12, 13, 14, 15, 16, 17, 18, 19] (by decide +kernel) (by decide +kernel)
set_option maxRecDepth 20000 in
theorem gX4_greatestFor_X4_isIn : GoodIn wsX4_greatestFor (wsV RX4 66 RX4 yX4_isIn wsX4_isIn) := goodIn_app (goodIn_of _ (by decide +kernel)) ggX4_greatestFor_X4_isIn
theorem dX4_greatestFor_0 : decode cX4_greatestFor 0 = .ok (.bipush 9, 2) := by decide +kernel
theorem dX4_greatestFor_2 : decode cX4_greatestFor 2 = .ok (.istore_n 2, 1) := by decide +kernel
theorem dX4_greatestFor_3 : decode cX4_greatestFor 3 = .ok (.iconst 0, 1) := by decide +kernel
theorem dX4_greatestFor_4 : decode cX4_greatestFor 4 = .ok (.istore_n 3, 1) := by decide +kernel
theorem dX4_greatestFor_5 : decode cX4_greatestFor 5 = .ok (.iload_n 3, 1) := by decide +kernel
theorem dX4_greatestFor_6 : decode cX4_greatestFor 6 = .ok (.aload_n 0, 1) := by decide +kernel
theorem dX4_greatestFor_7 : decode cX4_greatestFor 7 = .ok (.getfield 26, 3) := by decide +kernel
theorem dX4_greatestFor_10 : decode cX4_greatestFor 10 = .ok (.if_icmp .ge 29, 3) := by decide +kernel
theorem dX4_greatestFor_13 : decode cX4_greatestFor 13 = .ok (.aload_n 0, 1) := by decide +kernel
theorem dX4_greatestFor_14 : decode cX4_greatestFor 14 = .ok (.iload_n 1, 1) := by decide +kernel
theorem dX4_greatestFor_15 : decode cX4_greatestFor 15 = .ok (.iload_n 3, 1) := by decide +kernel
theorem dX4_greatestFor_16 : decode cX4_greatestFor 16 = .ok (.invokevirtual 66, 3) := by decide +kernel
theorem dX4_greatestFor_19 : decode cX4_greatestFor 19 = .ok (.ifCond .eq 14, 3) := by decide +kernel
theorem dX4_greatestFor_22 : decode cX4_greatestFor 22 = .ok (.iload_n 2, 1) := by decide +kernel
theorem dX4_greatestFor_23 : decode cX4_greatestFor 23 = .ok (.aload_n 0, 1) := by decide +kernel
theorem dX4_greatestFor_24 : decode cX4_greatestFor 24 = .ok (.getfield 15, 3) := by decide +kernel
theorem dX4_greatestFor_27 : decode cX4_greatestFor 27 = .ok (.iload_n 3, 1) := by decide +kernel
theorem dX4_greatestFor_28 : decode cX4_greatestFor 28 = .ok (.iaload, 1) := by decide +kernel
theorem dX4_greatestFor_29 : decode cX4_greatestFor 29 = .ok (.invokestatic 81, 3) := by decide +kernel
theorem dX4_greatestFor_32 : decode cX4_greatestFor 32 = .ok (.istore_n 2, 1) := by decide +kernel
theorem dX4_greatestFor_33 : decode cX4_greatestFor 33 = .ok (.iinc 3 1, 3) := by decide +kernel
theorem dX4_greatestFor_36 : decode cX4_greatestFor 36 = .ok (.goto (-31), 3) := by decide +kernel
theorem dX4_greatestFor_39 : decode cX4_greatestFor 39 = .ok (.iload_n 2, 1) := by decide +kernel
theorem dX4_greatestFor_40 : decode cX4_greatestFor 40 = .ok (.ireturn, 1) := by decide +kernel
set_option maxRecDepth 20000 in
theorem ggX4_give_X4_isIn : GoodIn wsX4_give wsX4_isIn := goodIn_r _ [7, 8, 9, 10, 11, 12, 13, 14, 15] (by decide +kernel) (by decide +kernel)
set_option maxRecDepth 20000 in
theorem gX4_give_X4_isIn : GoodIn wsX4_give (wsV RX4 66 RX4 yX4_isIn wsX4_isIn) := goodIn_app (goodIn_of _ (by decide +kernel)) ggX4_give_X4_isIn
theorem dX4_give_0 : decode cX4_give 0 = .ok (.iconst 0, 1) := by decide +kernel
theorem dX4_give_1 : decode cX4_give 1 = .ok (.istore_n 3, 1) := by decide +kernel
theorem dX4_give_2 : decode cX4_give 2 = .ok (.iload_n 3, 1) := by decide +kernel
theorem dX4_give_3 : decode cX4_give 3 = .ok (.aload_n 0, 1) := by decide +kernel
theorem dX4_give_4 : decode cX4_give 4 = .ok (.getfield 26, 3) := by decide +kernel
theorem dX4_give_7 : decode cX4_give 7 = .ok (.if_icmp .ge 28, 3) := by decide +kernel
theorem dX4_give_10 : decode cX4_give 10 = .ok (.aload_n 0, 1) := by decide +kernel
theorem dX4_give_11 : decode cX4_give 11 = .ok (.iload_n 1, 1) := by decide +kernel
theorem dX4_give_12 : decode cX4_give 12 = .ok (.iload_n 3, 1) := by decide +kernel
theorem dX4_give_13 : decode cX4_give 13 = .ok (.invokevirtual 66, 3) := by decide +kernel
theorem dX4_give_16 : decode cX4_give 16 = .ok (.ifCond .eq 13, 3) := by decide +kernel
theorem dX4_give_19 : decode cX4_give 19 = .ok (.aload_n 0, 1) := by decide +kernel
theorem dX4_give_20 : decode cX4_give 20 = .ok (.getfield 15, 3) := by decide +kernel
theorem dX4_give_23 : decode cX4_give 23 = .ok (.iload_n 3, 1) := by decide +kernel
theorem dX4_give_24 : decode cX4_give 24 = .ok (.dup2, 1) := by decide +kernel
theorem dX4_give_25 : decode cX4_give 25 = .ok (.iaload, 1) := by decide +kernel
theorem dX4_give_26 : decode cX4_give 26 = .ok (.iload_n 2, 1) := by decide +kernel
theorem dX4_give_27 : decode cX4_give 27 = .ok (.isub, 1) := by decide +kernel
theorem dX4_give_28 : decode cX4_give 28 = .ok (.iastore, 1) := by decide +kernel
theorem dX4_give_29 : decode cX4_give 29 = .ok (.iinc 3 1, 3) := by decide +kernel
theorem dX4_give_32 : decode cX4_give 32 = .ok (.goto (-30), 3) := by decide +kernel
theorem dX4_give_35 : decode cX4_give 35 = .ok (.return_, 1) := by decide +kernel
theorem dX4_noted_0 : decode cX4_noted 0 = .ok (.iload 4, 2) := by decide +kernel
theorem dX4_noted_2 : decode cX4_noted 2 = .ok (.ifCond .le 44, 3) := by decide +kernel
theorem dX4_noted_5 : decode cX4_noted 5 = .ok (.iload_n 1, 1) := by decide +kernel
theorem dX4_noted_6 : decode cX4_noted 6 = .ok (.ifCond .lt 40, 3) := by decide +kernel
theorem dX4_noted_9 : decode cX4_noted 9 = .ok (.iload_n 1, 1) := by decide +kernel
theorem dX4_noted_10 : decode cX4_noted 10 = .ok (.iconst 5, 1) := by decide +kernel
theorem dX4_noted_11 : decode cX4_noted 11 = .ok (.if_icmp .ge 35, 3) := by decide +kernel
theorem dX4_noted_14 : decode cX4_noted 14 = .ok (.aload_n 0, 1) := by decide +kernel
theorem dX4_noted_15 : decode cX4_noted 15 = .ok (.getfield 20, 3) := by decide +kernel
theorem dX4_noted_18 : decode cX4_noted 18 = .ok (.iload_n 1, 1) := by decide +kernel
theorem dX4_noted_19 : decode cX4_noted 19 = .ok (.aload_n 0, 1) := by decide +kernel
theorem dX4_noted_20 : decode cX4_noted 20 = .ok (.getfield 20, 3) := by decide +kernel
theorem dX4_noted_23 : decode cX4_noted 23 = .ok (.iload_n 1, 1) := by decide +kernel
theorem dX4_noted_24 : decode cX4_noted 24 = .ok (.iaload, 1) := by decide +kernel
theorem dX4_noted_25 : decode cX4_noted 25 = .ok (.iload_n 2, 1) := by decide +kernel
theorem dX4_noted_26 : decode cX4_noted 26 = .ok (.invokestatic 81, 3) := by decide +kernel
theorem dX4_noted_29 : decode cX4_noted 29 = .ok (.iastore, 1) := by decide +kernel
theorem dX4_noted_30 : decode cX4_noted 30 = .ok (.aload_n 0, 1) := by decide +kernel
theorem dX4_noted_31 : decode cX4_noted 31 = .ok (.getfield 23, 3) := by decide +kernel
theorem dX4_noted_34 : decode cX4_noted 34 = .ok (.iload_n 1, 1) := by decide +kernel
theorem dX4_noted_35 : decode cX4_noted 35 = .ok (.aload_n 0, 1) := by decide +kernel
theorem dX4_noted_36 : decode cX4_noted 36 = .ok (.getfield 23, 3) := by decide +kernel
theorem dX4_noted_39 : decode cX4_noted 39 = .ok (.iload_n 1, 1) := by decide +kernel
theorem dX4_noted_40 : decode cX4_noted 40 = .ok (.iaload, 1) := by decide +kernel
theorem dX4_noted_41 : decode cX4_noted 41 = .ok (.iload_n 3, 1) := by decide +kernel
theorem dX4_noted_42 : decode cX4_noted 42 = .ok (.invokestatic 75, 3) := by decide +kernel
theorem dX4_noted_45 : decode cX4_noted 45 = .ok (.iastore, 1) := by decide +kernel
theorem dX4_noted_46 : decode cX4_noted 46 = .ok (.iload 4, 2) := by decide +kernel
theorem dX4_noted_48 : decode cX4_noted 48 = .ok (.ireturn, 1) := by decide +kernel
theorem dX5_init_0 : decode cX5_init 0 = .ok (.aload_n 0, 1) := by decide +kernel
theorem dX5_init_1 : decode cX5_init 1 = .ok (.invokespecial 1, 3) := by decide +kernel
theorem dX5_init_4 : decode cX5_init 4 = .ok (.aload_n 0, 1) := by decide +kernel
theorem dX5_init_5 : decode cX5_init 5 = .ok (.bipush 52, 2) := by decide +kernel
theorem dX5_init_7 : decode cX5_init 7 = .ok (.newarray .int, 2) := by decide +kernel
theorem dX5_init_9 : decode cX5_init 9 = .ok (.putfield 11, 3) := by decide +kernel
theorem dX5_init_12 : decode cX5_init 12 = .ok (.aload_n 0, 1) := by decide +kernel
theorem dX5_init_13 : decode cX5_init 13 = .ok (.iconst 0, 1) := by decide +kernel
theorem dX5_init_14 : decode cX5_init 14 = .ok (.putfield 15, 3) := by decide +kernel
theorem dX5_init_17 : decode cX5_init 17 = .ok (.return_, 1) := by decide +kernel
theorem dX5_isSlot_0 : decode cX5_isSlot 0 = .ok (.iload_n 0, 1) := by decide +kernel
theorem dX5_isSlot_1 : decode cX5_isSlot 1 = .ok (.ifCond .lt 12, 3) := by decide +kernel
theorem dX5_isSlot_4 : decode cX5_isSlot 4 = .ok (.iload_n 0, 1) := by decide +kernel
theorem dX5_isSlot_5 : decode cX5_isSlot 5 = .ok (.iconst 2, 1) := by decide +kernel
theorem dX5_isSlot_6 : decode cX5_isSlot 6 = .ok (.if_icmp .ge 7, 3) := by decide +kernel
theorem dX5_isSlot_9 : decode cX5_isSlot 9 = .ok (.iconst 1, 1) := by decide +kernel
theorem dX5_isSlot_10 : decode cX5_isSlot 10 = .ok (.goto 4, 3) := by decide +kernel
theorem dX5_isSlot_13 : decode cX5_isSlot 13 = .ok (.iconst 0, 1) := by decide +kernel
theorem dX5_isSlot_14 : decode cX5_isSlot 14 = .ok (.ireturn, 1) := by decide +kernel
theorem dX5_clear_0 : decode cX5_clear 0 = .ok (.aload_n 0, 1) := by decide +kernel
theorem dX5_clear_1 : decode cX5_clear 1 = .ok (.iconst 0, 1) := by decide +kernel
theorem dX5_clear_2 : decode cX5_clear 2 = .ok (.putfield 15, 3) := by decide +kernel
theorem dX5_clear_5 : decode cX5_clear 5 = .ok (.return_, 1) := by decide +kernel
set_option maxRecDepth 20000 in
theorem ggX5_holds_X5_isSlot : GoodIn wsX5_holds wsX5_isSlot := goodIn_r _ [5] (by decide +kernel) (by decide +kernel)
set_option maxRecDepth 20000 in
theorem gX5_holds_X5_isSlot : GoodIn wsX5_holds (va_wsS RX5 19 yX5_isSlot wsX5_isSlot) := goodIn_app (goodIn_of _ (by decide +kernel)) ggX5_holds_X5_isSlot
theorem dX5_holds_0 : decode cX5_holds 0 = .ok (.iload_n 1, 1) := by decide +kernel
theorem dX5_holds_1 : decode cX5_holds 1 = .ok (.invokestatic 19, 3) := by decide +kernel
theorem dX5_holds_4 : decode cX5_holds 4 = .ok (.ifCond .eq 19, 3) := by decide +kernel
theorem dX5_holds_7 : decode cX5_holds 7 = .ok (.aload_n 0, 1) := by decide +kernel
theorem dX5_holds_8 : decode cX5_holds 8 = .ok (.getfield 15, 3) := by decide +kernel
theorem dX5_holds_11 : decode cX5_holds 11 = .ok (.iload_n 1, 1) := by decide +kernel
theorem dX5_holds_12 : decode cX5_holds 12 = .ok (.ishr, 1) := by decide +kernel
theorem dX5_holds_13 : decode cX5_holds 13 = .ok (.iconst 1, 1) := by decide +kernel
theorem dX5_holds_14 : decode cX5_holds 14 = .ok (.iand, 1) := by decide +kernel
theorem dX5_holds_15 : decode cX5_holds 15 = .ok (.iconst 1, 1) := by decide +kernel
theorem dX5_holds_16 : decode cX5_holds 16 = .ok (.if_icmp .ne 7, 3) := by decide +kernel
theorem dX5_holds_19 : decode cX5_holds 19 = .ok (.iconst 1, 1) := by decide +kernel
theorem dX5_holds_20 : decode cX5_holds 20 = .ok (.goto 4, 3) := by decide +kernel
theorem dX5_holds_23 : decode cX5_holds 23 = .ok (.iconst 0, 1) := by decide +kernel
theorem dX5_holds_24 : decode cX5_holds 24 = .ok (.ireturn, 1) := by decide +kernel
set_option maxRecDepth 20000 in
theorem ggX5_put_X5_isSlot : GoodIn wsX5_put wsX5_isSlot := goodIn_r _ [6] (by decide +kernel) (by decide +kernel)
set_option maxRecDepth 20000 in
theorem gX5_put_X5_isSlot : GoodIn wsX5_put (va_wsS RX5 19 yX5_isSlot wsX5_isSlot) := goodIn_app (goodIn_of _ (by decide +kernel)) ggX5_put_X5_isSlot
set_option maxRecDepth 20000 in
theorem ggX5_put_X2_copyTo : GoodIn wsX5_put wsX2_copyTo := goodIn_r _ [11, 12, 13, 14, 15, 16, 19, 20, 21, 22] (by decide +kernel) (by decide +kernel)
set_option maxRecDepth 20000 in
theorem gX5_put_X2_copyTo : GoodIn wsX5_put (wsV RX5 23 RX2 yX2_copyTo wsX2_copyTo) := goodIn_app (goodIn_of _ (by decide +kernel)) ggX5_put_X2_copyTo
theorem dX5_put_0 : decode cX5_put 0 = .ok (.iload_n 1, 1) := by decide +kernel
theorem dX5_put_1 : decode cX5_put 1 = .ok (.invokestatic 19, 3) := by decide +kernel
theorem dX5_put_4 : decode cX5_put 4 = .ok (.ifCond .eq 24, 3) := by decide +kernel
theorem dX5_put_7 : decode cX5_put 7 = .ok (.aload_n 2, 1) := by decide +kernel
theorem dX5_put_8 : decode cX5_put 8 = .ok (.aload_n 0, 1) := by decide +kernel
theorem dX5_put_9 : decode cX5_put 9 = .ok (.getfield 11, 3) := by decide +kernel
theorem dX5_put_12 : decode cX5_put 12 = .ok (.iload_n 1, 1) := by decide +kernel
theorem dX5_put_13 : decode cX5_put 13 = .ok (.invokevirtual 23, 3) := by decide +kernel
theorem dX5_put_16 : decode cX5_put 16 = .ok (.aload_n 0, 1) := by decide +kernel
theorem dX5_put_17 : decode cX5_put 17 = .ok (.dup, 1) := by decide +kernel
theorem dX5_put_18 : decode cX5_put 18 = .ok (.getfield 15, 3) := by decide +kernel
theorem dX5_put_21 : decode cX5_put 21 = .ok (.iconst 1, 1) := by decide +kernel
theorem dX5_put_22 : decode cX5_put 22 = .ok (.iload_n 1, 1) := by decide +kernel
theorem dX5_put_23 : decode cX5_put 23 = .ok (.ishl, 1) := by decide +kernel
theorem dX5_put_24 : decode cX5_put 24 = .ok (.ior, 1) := by decide +kernel
theorem dX5_put_25 : decode cX5_put 25 = .ok (.putfield 15, 3) := by decide +kernel
theorem dX5_put_28 : decode cX5_put 28 = .ok (.return_, 1) := by decide +kernel
set_option maxRecDepth 20000 in
theorem ggX5_bring_X5_holds : GoodIn wsX5_bring wsX5_holds := goodIn_r _ [6, 7, 8, 9, 5, 10, 21, 22] (by decide +kernel) (by decide +kernel)
set_option maxRecDepth 20000 in
theorem gX5_bring_X5_holds : GoodIn wsX5_bring (wsV RX5 27 RX5 yX5_holds wsX5_holds) := goodIn_app (goodIn_of _ (by decide +kernel)) ggX5_bring_X5_holds
set_option maxRecDepth 20000 in
theorem ggX5_bring_X2_copyFrom : GoodIn wsX5_bring wsX2_copyFrom := goodIn_r _ [15, 16, 17, 18, 19, 20, 23, 24, 25, 26] (by decide +kernel) (by decide +kernel)
set_option maxRecDepth 20000 in
theorem gX5_bring_X2_copyFrom : GoodIn wsX5_bring (wsV RX5 30 RX2 yX2_copyFrom wsX2_copyFrom) := goodIn_app (goodIn_of _ (by decide +kernel)) ggX5_bring_X2_copyFrom
theorem dX5_bring_0 : decode cX5_bring 0 = .ok (.aload_n 0, 1) := by decide +kernel
theorem dX5_bring_1 : decode cX5_bring 1 = .ok (.iload_n 1, 1) := by decide +kernel
theorem dX5_bring_2 : decode cX5_bring 2 = .ok (.invokevirtual 27, 3) := by decide +kernel
theorem dX5_bring_5 : decode cX5_bring 5 = .ok (.ifCond .eq 12, 3) := by decide +kernel
theorem dX5_bring_8 : decode cX5_bring 8 = .ok (.aload_n 2, 1) := by decide +kernel
theorem dX5_bring_9 : decode cX5_bring 9 = .ok (.aload_n 0, 1) := by decide +kernel
theorem dX5_bring_10 : decode cX5_bring 10 = .ok (.getfield 11, 3) := by decide +kernel
theorem dX5_bring_13 : decode cX5_bring 13 = .ok (.iload_n 1, 1) := by decide +kernel
theorem dX5_bring_14 : decode cX5_bring 14 = .ok (.invokevirtual 30, 3) := by decide +kernel
theorem dX5_bring_17 : decode cX5_bring 17 = .ok (.return_, 1) := by decide +kernel
theorem dX6_init_0 : decode cX6_init 0 = .ok (.aload_n 0, 1) := by decide +kernel
theorem dX6_init_1 : decode cX6_init 1 = .ok (.invokespecial 3, 3) := by decide +kernel
theorem dX6_init_4 : decode cX6_init 4 = .ok (.aload_n 0, 1) := by decide +kernel
theorem dX6_init_5 : decode cX6_init 5 = .ok (.bipush 10, 2) := by decide +kernel
theorem dX6_init_7 : decode cX6_init 7 = .ok (.newarray .int, 2) := by decide +kernel
theorem dX6_init_9 : decode cX6_init 9 = .ok (.putfield 9, 3) := by decide +kernel
theorem dX6_init_12 : decode cX6_init 12 = .ok (.aload_n 0, 1) := by decide +kernel
theorem dX6_init_13 : decode cX6_init 13 = .ok (.bipush 10, 2) := by decide +kernel
theorem dX6_init_15 : decode cX6_init 15 = .ok (.newarray .int, 2) := by decide +kernel
theorem dX6_init_17 : decode cX6_init 17 = .ok (.putfield 13, 3) := by decide +kernel
theorem dX6_init_20 : decode cX6_init 20 = .ok (.aload_n 0, 1) := by decide +kernel
theorem dX6_init_21 : decode cX6_init 21 = .ok (.bipush 10, 2) := by decide +kernel
theorem dX6_init_23 : decode cX6_init 23 = .ok (.newarray .int, 2) := by decide +kernel
theorem dX6_init_25 : decode cX6_init 25 = .ok (.putfield 16, 3) := by decide +kernel
theorem dX6_init_28 : decode cX6_init 28 = .ok (.aload_n 0, 1) := by decide +kernel
theorem dX6_init_29 : decode cX6_init 29 = .ok (.iconst 0, 1) := by decide +kernel
theorem dX6_init_30 : decode cX6_init 30 = .ok (.putfield 19, 3) := by decide +kernel
theorem dX6_init_33 : decode cX6_init 33 = .ok (.return_, 1) := by decide +kernel
set_option maxRecDepth 20000 in
theorem ggX6_mayStand_J6_bitCount_0f7a4 : GoodIn wsX6_mayStand wsJ6_bitCount_0f7a4 := goodIn_r _ [4, 5, 6, 7] (by decide +kernel) (by decide +kernel)
set_option maxRecDepth 20000 in
theorem gX6_mayStand_J6_bitCount_0f7a4 : GoodIn wsX6_mayStand (va_wsS RX6 23 yJ6_bitCount_0f7a4 wsJ6_bitCount_0f7a4) := goodIn_app (goodIn_of _ (by decide +kernel)) ggX6_mayStand_J6_bitCount_0f7a4
theorem dX6_mayStand_0 : decode cX6_mayStand 0 = .ok (.iload_n 0, 1) := by decide +kernel
theorem dX6_mayStand_1 : decode cX6_mayStand 1 = .ok (.ifCond .le 25, 3) := by decide +kernel
theorem dX6_mayStand_4 : decode cX6_mayStand 4 = .ok (.iload_n 0, 1) := by decide +kernel
theorem dX6_mayStand_5 : decode cX6_mayStand 5 = .ok (.sipush 511, 3) := by decide +kernel
theorem dX6_mayStand_8 : decode cX6_mayStand 8 = .ok (.if_icmp .gt 18, 3) := by decide +kernel
theorem dX6_mayStand_11 : decode cX6_mayStand 11 = .ok (.iload_n 1, 1) := by decide +kernel
theorem dX6_mayStand_12 : decode cX6_mayStand 12 = .ok (.ifCond .le 14, 3) := by decide +kernel
theorem dX6_mayStand_15 : decode cX6_mayStand 15 = .ok (.iload_n 1, 1) := by decide +kernel
theorem dX6_mayStand_16 : decode cX6_mayStand 16 = .ok (.sipush 511, 3) := by decide +kernel
theorem dX6_mayStand_19 : decode cX6_mayStand 19 = .ok (.if_icmp .gt 7, 3) := by decide +kernel
theorem dX6_mayStand_22 : decode cX6_mayStand 22 = .ok (.iconst 1, 1) := by decide +kernel
theorem dX6_mayStand_23 : decode cX6_mayStand 23 = .ok (.goto 4, 3) := by decide +kernel
theorem dX6_mayStand_26 : decode cX6_mayStand 26 = .ok (.iconst 0, 1) := by decide +kernel
theorem dX6_mayStand_27 : decode cX6_mayStand 27 = .ok (.istore_n 2, 1) := by decide +kernel
theorem dX6_mayStand_28 : decode cX6_mayStand 28 = .ok (.iload_n 2, 1) := by decide +kernel
theorem dX6_mayStand_29 : decode cX6_mayStand 29 = .ok (.ifCond .eq 24, 3) := by decide +kernel
theorem dX6_mayStand_32 : decode cX6_mayStand 32 = .ok (.iload_n 0, 1) := by decide +kernel
theorem dX6_mayStand_33 : decode cX6_mayStand 33 = .ok (.iload_n 1, 1) := by decide +kernel
theorem dX6_mayStand_34 : decode cX6_mayStand 34 = .ok (.iand, 1) := by decide +kernel
theorem dX6_mayStand_35 : decode cX6_mayStand 35 = .ok (.ifCond .ne 18, 3) := by decide +kernel
theorem dX6_mayStand_38 : decode cX6_mayStand 38 = .ok (.iload_n 0, 1) := by decide +kernel
theorem dX6_mayStand_39 : decode cX6_mayStand 39 = .ok (.invokestatic 23, 3) := by decide +kernel
theorem dX6_mayStand_42 : decode cX6_mayStand 42 = .ok (.iload_n 1, 1) := by decide +kernel
theorem dX6_mayStand_43 : decode cX6_mayStand 43 = .ok (.invokestatic 23, 3) := by decide +kernel
theorem dX6_mayStand_46 : decode cX6_mayStand 46 = .ok (.if_icmp .ne 7, 3) := by decide +kernel
theorem dX6_mayStand_49 : decode cX6_mayStand 49 = .ok (.iconst 1, 1) := by decide +kernel
theorem dX6_mayStand_50 : decode cX6_mayStand 50 = .ok (.goto 4, 3) := by decide +kernel
theorem dX6_mayStand_53 : decode cX6_mayStand 53 = .ok (.iconst 0, 1) := by decide +kernel
theorem dX6_mayStand_54 : decode cX6_mayStand 54 = .ok (.ireturn, 1) := by decide +kernel
theorem dX6_length_0 : decode cX6_length 0 = .ok (.aload_n 0, 1) := by decide +kernel
theorem dX6_length_1 : decode cX6_length 1 = .ok (.getfield 19, 3) := by decide +kernel
theorem dX6_length_4 : decode cX6_length 4 = .ok (.ireturn, 1) := by decide +kernel
theorem dX6_clear_0 : decode cX6_clear 0 = .ok (.aload_n 0, 1) := by decide +kernel
theorem dX6_clear_1 : decode cX6_clear 1 = .ok (.iconst 0, 1) := by decide +kernel
theorem dX6_clear_2 : decode cX6_clear 2 = .ok (.putfield 19, 3) := by decide +kernel
theorem dX6_clear_5 : decode cX6_clear 5 = .ok (.return_, 1) := by decide +kernel
theorem dX6_append_0 : decode cX6_append 0 = .ok (.aload_n 0, 1) := by decide +kernel
theorem dX6_append_1 : decode cX6_append 1 = .ok (.getfield 19, 3) := by decide +kernel
theorem dX6_append_4 : decode cX6_append 4 = .ok (.bipush 10, 2) := by decide +kernel
theorem dX6_append_6 : decode cX6_append 6 = .ok (.if_icmp .ne 5, 3) := by decide +kernel
theorem dX6_append_9 : decode cX6_append 9 = .ok (.iconst 0, 1) := by decide +kernel
theorem dX6_append_10 : decode cX6_append 10 = .ok (.ireturn, 1) := by decide +kernel
theorem dX6_append_11 : decode cX6_append 11 = .ok (.aload_n 0, 1) := by decide +kernel
theorem dX6_append_12 : decode cX6_append 12 = .ok (.getfield 9, 3) := by decide +kernel
theorem dX6_append_15 : decode cX6_append 15 = .ok (.aload_n 0, 1) := by decide +kernel
theorem dX6_append_16 : decode cX6_append 16 = .ok (.getfield 19, 3) := by decide +kernel
theorem dX6_append_19 : decode cX6_append 19 = .ok (.iload_n 1, 1) := by decide +kernel
theorem dX6_append_20 : decode cX6_append 20 = .ok (.iastore, 1) := by decide +kernel
theorem dX6_append_21 : decode cX6_append 21 = .ok (.aload_n 0, 1) := by decide +kernel
theorem dX6_append_22 : decode cX6_append 22 = .ok (.getfield 13, 3) := by decide +kernel
theorem dX6_append_25 : decode cX6_append 25 = .ok (.aload_n 0, 1) := by decide +kernel
theorem dX6_append_26 : decode cX6_append 26 = .ok (.getfield 19, 3) := by decide +kernel
theorem dX6_append_29 : decode cX6_append 29 = .ok (.iload_n 2, 1) := by decide +kernel
theorem dX6_append_30 : decode cX6_append 30 = .ok (.iastore, 1) := by decide +kernel
theorem dX6_append_31 : decode cX6_append 31 = .ok (.aload_n 0, 1) := by decide +kernel
theorem dX6_append_32 : decode cX6_append 32 = .ok (.getfield 16, 3) := by decide +kernel
theorem dX6_append_35 : decode cX6_append 35 = .ok (.aload_n 0, 1) := by decide +kernel
theorem dX6_append_36 : decode cX6_append 36 = .ok (.getfield 19, 3) := by decide +kernel
theorem dX6_append_39 : decode cX6_append 39 = .ok (.iload_n 3, 1) := by decide +kernel
theorem dX6_append_40 : decode cX6_append 40 = .ok (.iastore, 1) := by decide +kernel
theorem dX6_append_41 : decode cX6_append 41 = .ok (.aload_n 0, 1) := by decide +kernel
theorem dX6_append_42 : decode cX6_append 42 = .ok (.dup, 1) := by decide +kernel
theorem dX6_append_43 : decode cX6_append 43 = .ok (.getfield 19, 3) := by decide +kernel
theorem dX6_append_46 : decode cX6_append 46 = .ok (.iconst 1, 1) := by decide +kernel
theorem dX6_append_47 : decode cX6_append 47 = .ok (.iadd, 1) := by decide +kernel
theorem dX6_append_48 : decode cX6_append 48 = .ok (.putfield 19, 3) := by decide +kernel
theorem dX6_append_51 : decode cX6_append 51 = .ok (.iconst 1, 1) := by decide +kernel
theorem dX6_append_52 : decode cX6_append 52 = .ok (.ireturn, 1) := by decide +kernel
set_option maxRecDepth 20000 in
theorem ggX6_suspects_X6_suspectsBy : GoodIn wsX6_suspects wsX6_suspectsBy := goodIn_r _ [6, 7, 8, 9, 10, 11, 12, 13] (by decide +kernel) (by decide +kernel)
set_option maxRecDepth 20000 in
theorem gX6_suspects_X6_suspectsBy : GoodIn wsX6_suspects (wsV RX6 29 RX6 yX6_suspectsBy wsX6_suspectsBy) := goodIn_app (goodIn_of _ (by decide +kernel)) ggX6_suspects_X6_suspectsBy
theorem dX6_suspects_0 : decode cX6_suspects 0 = .ok (.sipush 511, 3) := by decide +kernel
theorem dX6_suspects_3 : decode cX6_suspects 3 = .ok (.istore_n 2, 1) := by decide +kernel
theorem dX6_suspects_4 : decode cX6_suspects 4 = .ok (.iconst 0, 1) := by decide +kernel
theorem dX6_suspects_5 : decode cX6_suspects 5 = .ok (.istore_n 3, 1) := by decide +kernel
theorem dX6_suspects_6 : decode cX6_suspects 6 = .ok (.iload_n 3, 1) := by decide +kernel
theorem dX6_suspects_7 : decode cX6_suspects 7 = .ok (.aload_n 0, 1) := by decide +kernel
theorem dX6_suspects_8 : decode cX6_suspects 8 = .ok (.getfield 19, 3) := by decide +kernel
theorem dX6_suspects_11 : decode cX6_suspects 11 = .ok (.if_icmp .ge 18, 3) := by decide +kernel
theorem dX6_suspects_14 : decode cX6_suspects 14 = .ok (.iload_n 2, 1) := by decide +kernel
theorem dX6_suspects_15 : decode cX6_suspects 15 = .ok (.aload_n 0, 1) := by decide +kernel
theorem dX6_suspects_16 : decode cX6_suspects 16 = .ok (.iload_n 3, 1) := by decide +kernel
theorem dX6_suspects_17 : decode cX6_suspects 17 = .ok (.iload_n 1, 1) := by decide +kernel
theorem dX6_suspects_18 : decode cX6_suspects 18 = .ok (.invokevirtual 29, 3) := by decide +kernel
theorem dX6_suspects_21 : decode cX6_suspects 21 = .ok (.iand, 1) := by decide +kernel
theorem dX6_suspects_22 : decode cX6_suspects 22 = .ok (.istore_n 2, 1) := by decide +kernel
theorem dX6_suspects_23 : decode cX6_suspects 23 = .ok (.iinc 3 1, 3) := by decide +kernel
theorem dX6_suspects_26 : decode cX6_suspects 26 = .ok (.goto (-20), 3) := by decide +kernel
theorem dX6_suspects_29 : decode cX6_suspects 29 = .ok (.iload_n 2, 1) := by decide +kernel
theorem dX6_suspects_30 : decode cX6_suspects 30 = .ok (.ireturn, 1) := by decide +kernel
theorem dX6_suspectsBy_0 : decode cX6_suspectsBy 0 = .ok (.aload_n 0, 1) := by decide +kernel
theorem dX6_suspectsBy_1 : decode cX6_suspectsBy 1 = .ok (.getfield 16, 3) := by decide +kernel
theorem dX6_suspectsBy_4 : decode cX6_suspectsBy 4 = .ok (.iload_n 1, 1) := by decide +kernel
theorem dX6_suspectsBy_5 : decode cX6_suspectsBy 5 = .ok (.iaload, 1) := by decide +kernel
theorem dX6_suspectsBy_6 : decode cX6_suspectsBy 6 = .ok (.ifCond .ne 23, 3) := by decide +kernel
theorem dX6_suspectsBy_9 : decode cX6_suspectsBy 9 = .ok (.sipush 511, 3) := by decide +kernel
theorem dX6_suspectsBy_12 : decode cX6_suspectsBy 12 = .ok (.aload_n 0, 1) := by decide +kernel
theorem dX6_suspectsBy_13 : decode cX6_suspectsBy 13 = .ok (.getfield 9, 3) := by decide +kernel
theorem dX6_suspectsBy_16 : decode cX6_suspectsBy 16 = .ok (.iload_n 1, 1) := by decide +kernel
theorem dX6_suspectsBy_17 : decode cX6_suspectsBy 17 = .ok (.iaload, 1) := by decide +kernel
theorem dX6_suspectsBy_18 : decode cX6_suspectsBy 18 = .ok (.aload_n 0, 1) := by decide +kernel
theorem dX6_suspectsBy_19 : decode cX6_suspectsBy 19 = .ok (.getfield 13, 3) := by decide +kernel
theorem dX6_suspectsBy_22 : decode cX6_suspectsBy 22 = .ok (.iload_n 1, 1) := by decide +kernel
theorem dX6_suspectsBy_23 : decode cX6_suspectsBy 23 = .ok (.iaload, 1) := by decide +kernel
theorem dX6_suspectsBy_24 : decode cX6_suspectsBy 24 = .ok (.ior, 1) := by decide +kernel
theorem dX6_suspectsBy_25 : decode cX6_suspectsBy 25 = .ok (.iconst (-1), 1) := by decide +kernel
theorem dX6_suspectsBy_26 : decode cX6_suspectsBy 26 = .ok (.ixor, 1) := by decide +kernel
theorem dX6_suspectsBy_27 : decode cX6_suspectsBy 27 = .ok (.iand, 1) := by decide +kernel
theorem dX6_suspectsBy_28 : decode cX6_suspectsBy 28 = .ok (.ireturn, 1) := by decide +kernel
theorem dX6_suspectsBy_29 : decode cX6_suspectsBy 29 = .ok (.aload_n 0, 1) := by decide +kernel
theorem dX6_suspectsBy_30 : decode cX6_suspectsBy 30 = .ok (.getfield 16, 3) := by decide +kernel
theorem dX6_suspectsBy_33 : decode cX6_suspectsBy 33 = .ok (.iload_n 1, 1) := by decide +kernel
theorem dX6_suspectsBy_34 : decode cX6_suspectsBy 34 = .ok (.iaload, 1) := by decide +kernel
theorem dX6_suspectsBy_35 : decode cX6_suspectsBy 35 = .ok (.iconst 1, 1) := by decide +kernel
theorem dX6_suspectsBy_36 : decode cX6_suspectsBy 36 = .ok (.if_icmp .ne 7, 3) := by decide +kernel
theorem dX6_suspectsBy_39 : decode cX6_suspectsBy 39 = .ok (.iconst 1, 1) := by decide +kernel
theorem dX6_suspectsBy_40 : decode cX6_suspectsBy 40 = .ok (.goto 4, 3) := by decide +kernel
theorem dX6_suspectsBy_43 : decode cX6_suspectsBy 43 = .ok (.iconst 0, 1) := by decide +kernel
theorem dX6_suspectsBy_44 : decode cX6_suspectsBy 44 = .ok (.istore_n 3, 1) := by decide +kernel
theorem dX6_suspectsBy_45 : decode cX6_suspectsBy 45 = .ok (.iload_n 3, 1) := by decide +kernel
theorem dX6_suspectsBy_46 : decode cX6_suspectsBy 46 = .ok (.iload_n 2, 1) := by decide +kernel
theorem dX6_suspectsBy_47 : decode cX6_suspectsBy 47 = .ok (.if_icmp .ne 12, 3) := by decide +kernel
theorem dX6_suspectsBy_50 : decode cX6_suspectsBy 50 = .ok (.aload_n 0, 1) := by decide +kernel
theorem dX6_suspectsBy_51 : decode cX6_suspectsBy 51 = .ok (.getfield 9, 3) := by decide +kernel
theorem dX6_suspectsBy_54 : decode cX6_suspectsBy 54 = .ok (.iload_n 1, 1) := by decide +kernel
theorem dX6_suspectsBy_55 : decode cX6_suspectsBy 55 = .ok (.iaload, 1) := by decide +kernel
theorem dX6_suspectsBy_56 : decode cX6_suspectsBy 56 = .ok (.goto 9, 3) := by decide +kernel
theorem dX6_suspectsBy_59 : decode cX6_suspectsBy 59 = .ok (.aload_n 0, 1) := by decide +kernel
theorem dX6_suspectsBy_60 : decode cX6_suspectsBy 60 = .ok (.getfield 13, 3) := by decide +kernel
theorem dX6_suspectsBy_63 : decode cX6_suspectsBy 63 = .ok (.iload_n 1, 1) := by decide +kernel
theorem dX6_suspectsBy_64 : decode cX6_suspectsBy 64 = .ok (.iaload, 1) := by decide +kernel
theorem dX6_suspectsBy_65 : decode cX6_suspectsBy 65 = .ok (.ireturn, 1) := by decide +kernel
set_option maxRecDepth 20000 in
theorem ggX7_init_X2_init : GoodIn wsX7_init wsX2_init := goodIn_r _ [11, 12, 2, 3, 13, 14, 15, 16, 17, 18, 19, 20, 21] (by decide +kernel) (by decide +kernel)
set_option maxRecDepth 20000 in
theorem gX7_init_X2_init : GoodIn wsX7_init (wsX2_init) := ggX7_init_X2_init
theorem dX7_init_0 : decode cX7_init 0 = .ok (.aload_n 0, 1) := by decide +kernel
theorem dX7_init_1 : decode cX7_init 1 = .ok (.invokespecial 1, 3) := by decide +kernel
theorem dX7_init_4 : decode cX7_init 4 = .ok (.aload_n 0, 1) := by decide +kernel
theorem dX7_init_5 : decode cX7_init 5 = .ok (.new 7, 3) := by decide +kernel
theorem dX7_init_8 : decode cX7_init 8 = .ok (.dup, 1) := by decide +kernel
theorem dX7_init_9 : decode cX7_init 9 = .ok (.invokespecial 9, 3) := by decide +kernel
theorem dX7_init_12 : decode cX7_init 12 = .ok (.putfield 10, 3) := by decide +kernel
theorem dX7_init_15 : decode cX7_init 15 = .ok (.aload_n 0, 1) := by decide +kernel
theorem dX7_init_16 : decode cX7_init 16 = .ok (.lconst 0, 1) := by decide +kernel
theorem dX7_init_17 : decode cX7_init 17 = .ok (.putfield 16, 3) := by decide +kernel
theorem dX7_init_20 : decode cX7_init 20 = .ok (.return_, 1) := by decide +kernel
theorem dX7_sow_0 : decode cX7_sow 0 = .ok (.aload_n 0, 1) := by decide +kernel
theorem dX7_sow_1 : decode cX7_sow 1 = .ok (.getfield 16, 3) := by decide +kernel
theorem dX7_sow_4 : decode cX7_sow 4 = .ok (.lstore_n 3, 1) := by decide +kernel
theorem dX7_sow_5 : decode cX7_sow 5 = .ok (.aload_n 0, 1) := by decide +kernel
theorem dX7_sow_6 : decode cX7_sow 6 = .ok (.lload_n 1, 1) := by decide +kernel
theorem dX7_sow_7 : decode cX7_sow 7 = .ok (.putfield 16, 3) := by decide +kernel
theorem dX7_sow_10 : decode cX7_sow 10 = .ok (.lload_n 3, 1) := by decide +kernel
theorem dX7_sow_11 : decode cX7_sow 11 = .ok (.lreturn, 1) := by decide +kernel
set_option maxRecDepth 20000 in
theorem ggX7_monthsOf_X2_becomeLike : GoodIn wsX7_monthsOf wsX2_becomeLike := goodIn_r _ [6, 7, 8, 9, 10, 11, 12, 13, 14, 69, 70, 71, 72] (by decide +kernel) (by decide +kernel)
set_option maxRecDepth 20000 in
theorem gX7_monthsOf_X2_becomeLike : GoodIn wsX7_monthsOf (wsV RX7 20 RX2 yX2_becomeLike wsX2_becomeLike) := goodIn_app (goodIn_of _ (by decide +kernel)) ggX7_monthsOf_X2_becomeLike
set_option maxRecDepth 20000 in
theorem ggX7_monthsOf_X2_size : GoodIn wsX7_monthsOf wsX2_size := goodIn_r _ [18, 12, 69, 70, 71, 72] (by decide +kernel) (by decide +kernel)
set_option maxRecDepth 20000 in
theorem gX7_monthsOf_X2_size : GoodIn wsX7_monthsOf (wsV RX7 24 RX2 yX2_size wsX2_size) := goodIn_app (goodIn_of _ (by decide +kernel)) ggX7_monthsOf_X2_size
set_option maxRecDepth 20000 in
theorem ggX7_monthsOf_X7_nextOunces : GoodIn wsX7_monthsOf wsX7_nextOunces := goodIn_r _ [23, 24, 25, 26, 67, 68] (by decide +kernel) (by decide +kernel)
set_option maxRecDepth 20000 in
theorem gX7_monthsOf_X7_nextOunces : GoodIn wsX7_monthsOf (wsV RX7 28 RX7 yX7_nextOunces wsX7_nextOunces) := goodIn_app (goodIn_of _ (by decide +kernel)) ggX7_monthsOf_X7_nextOunces
set_option maxRecDepth 20000 in
theorem ggX7_monthsOf_X2_gain : GoodIn wsX7_monthsOf wsX2_gain := goodIn_r _ [30, 31, 32, 33, 34, 35, 36, 37, 5, 38, 7, 39, 40, 41, 42, 69, 70, 71, 72] (by decide +kernel) (by decide +kernel)
set_option maxRecDepth 20000 in
theorem gX7_monthsOf_X2_gain : GoodIn wsX7_monthsOf (wsV RX7 31 RX2 yX2_gain wsX2_gain) := goodIn_app (goodIn_of _ (by decide +kernel)) ggX7_monthsOf_X2_gain
set_option maxRecDepth 20000 in
theorem ggX7_monthsOf_X2_crownedBy : GoodIn wsX7_monthsOf wsX2_crownedBy := goodIn_r _ [46, 47, 48, 49, 5, 50, 12, 51, 52, 53, 54, 14, 35, 36, 37, 38, 7, 55, 56, 57, 58, 59, 60, 61, 62, 63, 64, 65, 66, 69, 70, 71, 72] (by decide +kernel) (by decide +kernel)
set_option maxRecDepth 20000 in
theorem gX7_monthsOf_X2_crownedBy : GoodIn wsX7_monthsOf (wsV RX7 35 RX2 yX2_crownedBy wsX2_crownedBy) := goodIn_app (goodIn_of _ (by decide +kernel)) ggX7_monthsOf_X2_crownedBy
theorem dX7_monthsOf_0 : decode cX7_monthsOf 0 = .ok (.aload_n 0, 1) := by decide +kernel
theorem dX7_monthsOf_1 : decode cX7_monthsOf 1 = .ok (.getfield 10, 3) := by decide +kernel
theorem dX7_monthsOf_4 : decode cX7_monthsOf 4 = .ok (.aload_n 3, 1) := by decide +kernel
theorem dX7_monthsOf_5 : decode cX7_monthsOf 5 = .ok (.invokevirtual 20, 3) := by decide +kernel
theorem dX7_monthsOf_8 : decode cX7_monthsOf 8 = .ok (.iconst 0, 1) := by decide +kernel
theorem dX7_monthsOf_9 : decode cX7_monthsOf 9 = .ok (.istore 4, 2) := by decide +kernel
theorem dX7_monthsOf_11 : decode cX7_monthsOf 11 = .ok (.iconst 0, 1) := by decide +kernel
theorem dX7_monthsOf_12 : decode cX7_monthsOf 12 = .ok (.istore 5, 2) := by decide +kernel
theorem dX7_monthsOf_14 : decode cX7_monthsOf 14 = .ok (.iload 5, 2) := by decide +kernel
theorem dX7_monthsOf_16 : decode cX7_monthsOf 16 = .ok (.bipush 12, 2) := by decide +kernel
theorem dX7_monthsOf_18 : decode cX7_monthsOf 18 = .ok (.if_icmp .ge 59, 3) := by decide +kernel
theorem dX7_monthsOf_21 : decode cX7_monthsOf 21 = .ok (.iconst 0, 1) := by decide +kernel
theorem dX7_monthsOf_22 : decode cX7_monthsOf 22 = .ok (.istore 6, 2) := by decide +kernel
theorem dX7_monthsOf_24 : decode cX7_monthsOf 24 = .ok (.iload 6, 2) := by decide +kernel
theorem dX7_monthsOf_26 : decode cX7_monthsOf 26 = .ok (.aload_n 0, 1) := by decide +kernel
theorem dX7_monthsOf_27 : decode cX7_monthsOf 27 = .ok (.getfield 10, 3) := by decide +kernel
theorem dX7_monthsOf_30 : decode cX7_monthsOf 30 = .ok (.invokevirtual 24, 3) := by decide +kernel
theorem dX7_monthsOf_33 : decode cX7_monthsOf 33 = .ok (.if_icmp .ge 23, 3) := by decide +kernel
theorem dX7_monthsOf_36 : decode cX7_monthsOf 36 = .ok (.aload_n 0, 1) := by decide +kernel
theorem dX7_monthsOf_37 : decode cX7_monthsOf 37 = .ok (.getfield 10, 3) := by decide +kernel
theorem dX7_monthsOf_40 : decode cX7_monthsOf 40 = .ok (.iload 6, 2) := by decide +kernel
theorem dX7_monthsOf_42 : decode cX7_monthsOf 42 = .ok (.aload_n 0, 1) := by decide +kernel
theorem dX7_monthsOf_43 : decode cX7_monthsOf 43 = .ok (.invokevirtual 28, 3) := by decide +kernel
theorem dX7_monthsOf_46 : decode cX7_monthsOf 46 = .ok (.invokevirtual 31, 3) := by decide +kernel
theorem dX7_monthsOf_49 : decode cX7_monthsOf 49 = .ok (.pop, 1) := by decide +kernel
theorem dX7_monthsOf_50 : decode cX7_monthsOf 50 = .ok (.iinc 6 1, 3) := by decide +kernel
theorem dX7_monthsOf_53 : decode cX7_monthsOf 53 = .ok (.goto (-29), 3) := by decide +kernel
theorem dX7_monthsOf_56 : decode cX7_monthsOf 56 = .ok (.aload_n 0, 1) := by decide +kernel
theorem dX7_monthsOf_57 : decode cX7_monthsOf 57 = .ok (.getfield 10, 3) := by decide +kernel
theorem dX7_monthsOf_60 : decode cX7_monthsOf 60 = .ok (.iload_n 2, 1) := by decide +kernel
theorem dX7_monthsOf_61 : decode cX7_monthsOf 61 = .ok (.invokevirtual 35, 3) := by decide +kernel
theorem dX7_monthsOf_64 : decode cX7_monthsOf 64 = .ok (.iload_n 1, 1) := by decide +kernel
theorem dX7_monthsOf_65 : decode cX7_monthsOf 65 = .ok (.if_icmp .ne 6, 3) := by decide +kernel
theorem dX7_monthsOf_68 : decode cX7_monthsOf 68 = .ok (.iinc 4 1, 3) := by decide +kernel
theorem dX7_monthsOf_71 : decode cX7_monthsOf 71 = .ok (.iinc 5 1, 3) := by decide +kernel
theorem dX7_monthsOf_74 : decode cX7_monthsOf 74 = .ok (.goto (-60), 3) := by decide +kernel
theorem dX7_monthsOf_77 : decode cX7_monthsOf 77 = .ok (.iload 4, 2) := by decide +kernel
theorem dX7_monthsOf_79 : decode cX7_monthsOf 79 = .ok (.ireturn, 1) := by decide +kernel
theorem dX7_nextOunces_0 : decode cX7_nextOunces 0 = .ok (.aload_n 0, 1) := by decide +kernel
theorem dX7_nextOunces_1 : decode cX7_nextOunces 1 = .ok (.aload_n 0, 1) := by decide +kernel
theorem dX7_nextOunces_2 : decode cX7_nextOunces 2 = .ok (.getfield 16, 3) := by decide +kernel
theorem dX7_nextOunces_5 : decode cX7_nextOunces 5 = .ok (.ldc2_w 39, 3) := by decide +kernel
theorem dX7_nextOunces_8 : decode cX7_nextOunces 8 = .ok (.lmul, 1) := by decide +kernel
theorem dX7_nextOunces_9 : decode cX7_nextOunces 9 = .ok (.ldc2_w 41, 3) := by decide +kernel
theorem dX7_nextOunces_12 : decode cX7_nextOunces 12 = .ok (.ladd, 1) := by decide +kernel
theorem dX7_nextOunces_13 : decode cX7_nextOunces 13 = .ok (.putfield 16, 3) := by decide +kernel
theorem dX7_nextOunces_16 : decode cX7_nextOunces 16 = .ok (.aload_n 0, 1) := by decide +kernel
theorem dX7_nextOunces_17 : decode cX7_nextOunces 17 = .ok (.getfield 16, 3) := by decide +kernel
theorem dX7_nextOunces_20 : decode cX7_nextOunces 20 = .ok (.bipush 33, 2) := by decide +kernel
theorem dX7_nextOunces_22 : decode cX7_nextOunces 22 = .ok (.lushr, 1) := by decide +kernel
theorem dX7_nextOunces_23 : decode cX7_nextOunces 23 = .ok (.l2i, 1) := by decide +kernel
theorem dX7_nextOunces_24 : decode cX7_nextOunces 24 = .ok (.istore_n 1, 1) := by decide +kernel
theorem dX7_nextOunces_25 : decode cX7_nextOunces 25 = .ok (.iload_n 1, 1) := by decide +kernel
theorem dX7_nextOunces_26 : decode cX7_nextOunces 26 = .ok (.bipush 7, 2) := by decide +kernel
theorem dX7_nextOunces_28 : decode cX7_nextOunces 28 = .ok (.irem, 1) := by decide +kernel
theorem dX7_nextOunces_29 : decode cX7_nextOunces 29 = .ok (.iconst 3, 1) := by decide +kernel
theorem dX7_nextOunces_30 : decode cX7_nextOunces 30 = .ok (.isub, 1) := by decide +kernel
theorem dX7_nextOunces_31 : decode cX7_nextOunces 31 = .ok (.iconst 5, 1) := by decide +kernel
theorem dX7_nextOunces_32 : decode cX7_nextOunces 32 = .ok (.imul, 1) := by decide +kernel
theorem dX7_nextOunces_33 : decode cX7_nextOunces 33 = .ok (.ireturn, 1) := by decide +kernel
set_option maxRecDepth 20000 in
theorem ggX8_init_X1_init : GoodIn wsX8_init wsX1_init := goodIn_r _ [39, 40, 2, 3, 41, 42, 43, 101, 102] (by decide +kernel) (by decide +kernel)
set_option maxRecDepth 20000 in
theorem gX8_init_X1_init : GoodIn wsX8_init (wsX1_init) := ggX8_init_X1_init
set_option maxRecDepth 20000 in
theorem ggX8_init_X2_init : GoodIn wsX8_init wsX2_init := goodIn_r _ [46, 47, 2, 3, 41, 48, 49, 50, 51, 112, 113, 114, 115] (by decide +kernel) (by decide +kernel)
set_option maxRecDepth 20000 in
theorem gX8_init_X2_init : GoodIn wsX8_init (wsX2_init) := ggX8_init_X2_init
set_option maxRecDepth 20000 in
theorem ggX8_init_X0_init : GoodIn wsX8_init wsX0_init := goodIn_r _ [54, 55, 2, 3, 41, 56, 57, 58, 116, 117, 118] (by decide +kernel) (by decide +kernel)
set_option maxRecDepth 20000 in
theorem gX8_init_X0_init : GoodIn wsX8_init (wsX0_init) := ggX8_init_X0_init
set_option maxRecDepth 20000 in
theorem ggX8_init_X5_init : GoodIn wsX8_init wsX5_init := goodIn_r _ [61, 62, 2, 3, 41, 63, 64, 119, 120] (by decide +kernel) (by decide +kernel)
set_option maxRecDepth 20000 in
theorem gX8_init_X5_init : GoodIn wsX8_init (wsX5_init) := ggX8_init_X5_init
set_option maxRecDepth 20000 in
theorem ggX8_init_X6_init : GoodIn wsX8_init wsX6_init := goodIn_r _ [67, 68, 2, 3, 41, 69, 70, 71, 72, 121, 122, 123, 124] (by decide +kernel) (by decide +kernel)
set_option maxRecDepth 20000 in
theorem gX8_init_X6_init : GoodIn wsX8_init (wsX6_init) := ggX8_init_X6_init
set_option maxRecDepth 20000 in
theorem ggX8_init_X4_init : GoodIn wsX8_init wsX4_init := goodIn_r _ [75, 76, 2, 3, 41, 77, 78, 79, 80, 81, 82, 83, 125, 126, 127, 128, 129, 130, 131] (by decide +kernel) (by decide +kernel)
set_option maxRecDepth 20000 in
theorem gX8_init_X4_init : GoodIn wsX8_init (wsX4_init) := ggX8_init_X4_init
set_option maxRecDepth 20000 in
theorem ggX8_init_X3_init : GoodIn wsX8_init wsX3_init := goodIn_r _ [86, 87, 2, 3, 41, 88, 89, 90, 91, 92, 132, 133, 134, 135] (by decide +kernel) (by decide +kernel)
set_option maxRecDepth 20000 in
theorem gX8_init_X3_init : GoodIn wsX8_init (wsX3_init) := ggX8_init_X3_init
set_option maxRecDepth 20000 in
theorem ggX8_init_X7_init : GoodIn wsX8_init wsX7_init := goodIn_r _ [95, 96, 2, 3, 97, 9, 10, 98, 99, 100, 45, 46, 47, 41, 48, 49, 50, 51, 112, 113, 114, 115, 136, 137] (by decide +kernel) (by decide +kernel)
set_option maxRecDepth 20000 in
theorem gX8_init_X7_init : GoodIn wsX8_init (wsX7_init) := ggX8_init_X7_init
end
section
theorem dX8_init_0 : decode cX8_init 0 = .ok (.aload_n 0, 1) := by decide +kernel
theorem dX8_init_1 : decode cX8_init 1 = .ok (.invokespecial 1, 3) := by decide +kernel
theorem dX8_init_4 : decode cX8_init 4 = .ok (.aload_n 0, 1) := by decide +kernel
theorem dX8_init_5 : decode cX8_init 5 = .ok (.new 7, 3) := by decide +kernel
theorem dX8_init_8 : decode cX8_init 8 = .ok (.dup, 1) := by decide +kernel
theorem dX8_init_9 : decode cX8_init 9 = .ok (.invokespecial 9, 3) := by decide +kernel
theorem dX8_init_12 : decode cX8_init 12 = .ok (.putfield 10, 3) := by decide +kernel
theorem dX8_init_15 : decode cX8_init 15 = .ok (.aload_n 0, 1) := by decide +kernel
theorem dX8_init_16 : decode cX8_init 16 = .ok (.new 16, 3) := by decide +kernel
theorem dX8_init_19 : decode cX8_init 19 = .ok (.dup, 1) := by decide +kernel
theorem dX8_init_20 : decode cX8_init 20 = .ok (.invokespecial 18, 3) := by decide +kernel
theorem dX8_init_23 : decode cX8_init 23 = .ok (.putfield 19, 3) := by decide +kernel
theorem dX8_init_26 : decode cX8_init 26 = .ok (.aload_n 0, 1) := by decide +kernel
theorem dX8_init_27 : decode cX8_init 27 = .ok (.new 23, 3) := by decide +kernel
theorem dX8_init_30 : decode cX8_init 30 = .ok (.dup, 1) := by decide +kernel
theorem dX8_init_31 : decode cX8_init 31 = .ok (.invokespecial 25, 3) := by decide +kernel
theorem dX8_init_34 : decode cX8_init 34 = .ok (.putfield 26, 3) := by decide +kernel
theorem dX8_init_37 : decode cX8_init 37 = .ok (.aload_n 0, 1) := by decide +kernel
theorem dX8_init_38 : decode cX8_init 38 = .ok (.new 30, 3) := by decide +kernel
theorem dX8_init_41 : decode cX8_init 41 = .ok (.dup, 1) := by decide +kernel
theorem dX8_init_42 : decode cX8_init 42 = .ok (.invokespecial 32, 3) := by decide +kernel
theorem dX8_init_45 : decode cX8_init 45 = .ok (.putfield 33, 3) := by decide +kernel
theorem dX8_init_48 : decode cX8_init 48 = .ok (.aload_n 0, 1) := by decide +kernel
theorem dX8_init_49 : decode cX8_init 49 = .ok (.new 37, 3) := by decide +kernel
theorem dX8_init_52 : decode cX8_init 52 = .ok (.dup, 1) := by decide +kernel
theorem dX8_init_53 : decode cX8_init 53 = .ok (.invokespecial 39, 3) := by decide +kernel
theorem dX8_init_56 : decode cX8_init 56 = .ok (.putfield 40, 3) := by decide +kernel
theorem dX8_init_59 : decode cX8_init 59 = .ok (.aload_n 0, 1) := by decide +kernel
theorem dX8_init_60 : decode cX8_init 60 = .ok (.new 44, 3) := by decide +kernel
theorem dX8_init_63 : decode cX8_init 63 = .ok (.dup, 1) := by decide +kernel
theorem dX8_init_64 : decode cX8_init 64 = .ok (.invokespecial 46, 3) := by decide +kernel
theorem dX8_init_67 : decode cX8_init 67 = .ok (.putfield 47, 3) := by decide +kernel
theorem dX8_init_70 : decode cX8_init 70 = .ok (.aload_n 0, 1) := by decide +kernel
theorem dX8_init_71 : decode cX8_init 71 = .ok (.new 51, 3) := by decide +kernel
theorem dX8_init_74 : decode cX8_init 74 = .ok (.dup, 1) := by decide +kernel
theorem dX8_init_75 : decode cX8_init 75 = .ok (.invokespecial 53, 3) := by decide +kernel
theorem dX8_init_78 : decode cX8_init 78 = .ok (.putfield 54, 3) := by decide +kernel
theorem dX8_init_81 : decode cX8_init 81 = .ok (.aload_n 0, 1) := by decide +kernel
theorem dX8_init_82 : decode cX8_init 82 = .ok (.new 58, 3) := by decide +kernel
theorem dX8_init_85 : decode cX8_init 85 = .ok (.dup, 1) := by decide +kernel
theorem dX8_init_86 : decode cX8_init 86 = .ok (.invokespecial 60, 3) := by decide +kernel
theorem dX8_init_89 : decode cX8_init 89 = .ok (.putfield 61, 3) := by decide +kernel
theorem dX8_init_92 : decode cX8_init 92 = .ok (.aload_n 0, 1) := by decide +kernel
theorem dX8_init_93 : decode cX8_init 93 = .ok (.iconst 0, 1) := by decide +kernel
theorem dX8_init_94 : decode cX8_init 94 = .ok (.putfield 65, 3) := by decide +kernel
theorem dX8_init_97 : decode cX8_init 97 = .ok (.return_, 1) := by decide +kernel
set_option maxRecDepth 20000 in
theorem ggX8_write_X1_append : GoodIn wsX8_write wsX1_append := goodIn_r _ [6, 7, 8, 22, 23] (by decide +kernel) (by decide +kernel)
set_option maxRecDepth 20000 in
theorem gX8_write_X1_append : GoodIn wsX8_write (wsV RX8 69 RX1 yX1_append wsX1_append) := goodIn_app (goodIn_of _ (by decide +kernel)) ggX8_write_X1_append
set_option maxRecDepth 20000 in
theorem ggX8_write_X1_length : GoodIn wsX8_write wsX1_length := goodIn_r _ [12, 7, 22, 23] (by decide +kernel) (by decide +kernel)
set_option maxRecDepth 20000 in
theorem gX8_write_X1_length : GoodIn wsX8_write (wsV RX8 73 RX1 yX1_length wsX1_length) := goodIn_app (goodIn_of _ (by decide +kernel)) ggX8_write_X1_length
theorem dX8_write_0 : decode cX8_write 0 = .ok (.iload_n 1, 1) := by decide +kernel
theorem dX8_write_1 : decode cX8_write 1 = .ok (.iconst 1, 1) := by decide +kernel
theorem dX8_write_2 : decode cX8_write 2 = .ok (.if_icmp .lt 9, 3) := by decide +kernel
theorem dX8_write_5 : decode cX8_write 5 = .ok (.iload_n 1, 1) := by decide +kernel
theorem dX8_write_6 : decode cX8_write 6 = .ok (.bipush 8, 2) := by decide +kernel
theorem dX8_write_8 : decode cX8_write 8 = .ok (.if_icmp .le 6, 3) := by decide +kernel
theorem dX8_write_11 : decode cX8_write 11 = .ok (.bipush (-2), 2) := by decide +kernel
theorem dX8_write_13 : decode cX8_write 13 = .ok (.ireturn, 1) := by decide +kernel
theorem dX8_write_14 : decode cX8_write 14 = .ok (.aload_n 0, 1) := by decide +kernel
theorem dX8_write_15 : decode cX8_write 15 = .ok (.getfield 10, 3) := by decide +kernel
theorem dX8_write_18 : decode cX8_write 18 = .ok (.iload_n 1, 1) := by decide +kernel
theorem dX8_write_19 : decode cX8_write 19 = .ok (.lload_n 2, 1) := by decide +kernel
theorem dX8_write_20 : decode cX8_write 20 = .ok (.invokevirtual 69, 3) := by decide +kernel
theorem dX8_write_23 : decode cX8_write 23 = .ok (.ifCond .eq 13, 3) := by decide +kernel
theorem dX8_write_26 : decode cX8_write 26 = .ok (.aload_n 0, 1) := by decide +kernel
theorem dX8_write_27 : decode cX8_write 27 = .ok (.getfield 10, 3) := by decide +kernel
theorem dX8_write_30 : decode cX8_write 30 = .ok (.invokevirtual 73, 3) := by decide +kernel
theorem dX8_write_33 : decode cX8_write 33 = .ok (.goto 5, 3) := by decide +kernel
theorem dX8_write_36 : decode cX8_write 36 = .ok (.bipush (-4), 2) := by decide +kernel
theorem dX8_write_38 : decode cX8_write 38 = .ok (.ireturn, 1) := by decide +kernel
set_option maxRecDepth 20000 in
theorem ggX8_wipe_X1_length : GoodIn wsX8_wipe wsX1_length := goodIn_r _ [6, 7, 21, 22] (by decide +kernel) (by decide +kernel)
set_option maxRecDepth 20000 in
theorem gX8_wipe_X1_length : GoodIn wsX8_wipe (wsV RX8 73 RX1 yX1_length wsX1_length) := goodIn_app (goodIn_of _ (by decide +kernel)) ggX8_wipe_X1_length
set_option maxRecDepth 20000 in
theorem ggX8_wipe_X1_clear : GoodIn wsX8_wipe wsX1_clear := goodIn_r _ [11, 7, 21, 22] (by decide +kernel) (by decide +kernel)
set_option maxRecDepth 20000 in
theorem gX8_wipe_X1_clear : GoodIn wsX8_wipe (wsV RX8 77 RX1 yX1_clear wsX1_clear) := goodIn_app (goodIn_of _ (by decide +kernel)) ggX8_wipe_X1_clear
theorem dX8_wipe_0 : decode cX8_wipe 0 = .ok (.aload_n 0, 1) := by decide +kernel
theorem dX8_wipe_1 : decode cX8_wipe 1 = .ok (.getfield 10, 3) := by decide +kernel
theorem dX8_wipe_4 : decode cX8_wipe 4 = .ok (.invokevirtual 73, 3) := by decide +kernel
theorem dX8_wipe_7 : decode cX8_wipe 7 = .ok (.istore_n 1, 1) := by decide +kernel
theorem dX8_wipe_8 : decode cX8_wipe 8 = .ok (.aload_n 0, 1) := by decide +kernel
theorem dX8_wipe_9 : decode cX8_wipe 9 = .ok (.getfield 10, 3) := by decide +kernel
theorem dX8_wipe_12 : decode cX8_wipe 12 = .ok (.invokevirtual 77, 3) := by decide +kernel
theorem dX8_wipe_15 : decode cX8_wipe 15 = .ok (.iload_n 1, 1) := by decide +kernel
theorem dX8_wipe_16 : decode cX8_wipe 16 = .ok (.ireturn, 1) := by decide +kernel
set_option maxRecDepth 20000 in
theorem ggX8_fault_X1_firstFault : GoodIn wsX8_fault wsX1_firstFault := goodIn_r _ [6, 7, 8, 9, 10, 5, 11, 21, 22] (by decide +kernel) (by decide +kernel)
set_option maxRecDepth 20000 in
theorem gX8_fault_X1_firstFault : GoodIn wsX8_fault (wsV RX8 80 RX1 yX1_firstFault wsX1_firstFault) := goodIn_app (goodIn_of _ (by decide +kernel)) ggX8_fault_X1_firstFault
theorem dX8_fault_0 : decode cX8_fault 0 = .ok (.aload_n 0, 1) := by decide +kernel
theorem dX8_fault_1 : decode cX8_fault 1 = .ok (.getfield 10, 3) := by decide +kernel
theorem dX8_fault_4 : decode cX8_fault 4 = .ok (.invokevirtual 80, 3) := by decide +kernel
theorem dX8_fault_7 : decode cX8_fault 7 = .ok (.ireturn, 1) := by decide +kernel
set_option maxRecDepth 20000 in
theorem ggX8_land_X1_firstFault : GoodIn wsX8_land wsX1_firstFault := goodIn_r _ [10, 11, 12, 13, 14, 9, 15, 76, 77] (by decide +kernel) (by decide +kernel)
set_option maxRecDepth 20000 in
theorem gX8_land_X1_firstFault : GoodIn wsX8_land (wsV RX8 80 RX1 yX1_firstFault wsX1_firstFault) := goodIn_app (goodIn_of _ (by decide +kernel)) ggX8_land_X1_firstFault
set_option maxRecDepth 20000 in
theorem ggX8_land_X1_figure : GoodIn wsX8_land wsX1_figure := goodIn_r _ [19, 11, 12, 76, 77] (by decide +kernel) (by decide +kernel)
set_option maxRecDepth 20000 in
theorem gX8_land_X1_figure : GoodIn wsX8_land (wsV RX8 83 RX1 yX1_figure wsX1_figure) := goodIn_app (goodIn_of _ (by decide +kernel)) ggX8_land_X1_figure
set_option maxRecDepth 20000 in
theorem ggX8_land_X2_settle : GoodIn wsX8_land wsX2_settle := goodIn_r _ [24, 25, 26, 27, 28, 29, 30, 31, 32, 33, 34, 35, 36, 37, 17, 18, 9, 19, 11, 12, 38, 39, 40, 41, 42, 43, 44, 45, 46, 47, 48, 49, 23, 50, 78, 79, 80, 81, 76, 77] (by decide +kernel) (by decide +kernel)
set_option maxRecDepth 20000 in
theorem gX8_land_X2_settle : GoodIn wsX8_land (wsV RX8 87 RX2 yX2_settle wsX2_settle) := goodIn_app (goodIn_of _ (by decide +kernel)) ggX8_land_X2_settle
set_option maxRecDepth 20000 in
theorem ggX8_land_X0_clear : GoodIn wsX8_land wsX0_clear := goodIn_r _ [55, 56, 82, 83, 84] (by decide +kernel) (by decide +kernel)
set_option maxRecDepth 20000 in
theorem gX8_land_X0_clear : GoodIn wsX8_land (wsV RX8 91 RX0 yX0_clear wsX0_clear) := goodIn_app (goodIn_of _ (by decide +kernel)) ggX8_land_X0_clear
set_option maxRecDepth 20000 in
theorem ggX8_land_X5_clear : GoodIn wsX8_land wsX5_clear := goodIn_r _ [61, 62, 85, 86] (by decide +kernel) (by decide +kernel)
set_option maxRecDepth 20000 in
theorem gX8_land_X5_clear : GoodIn wsX8_land (wsV RX8 92 RX5 yX5_clear wsX5_clear) := goodIn_app (goodIn_of _ (by decide +kernel)) ggX8_land_X5_clear
set_option maxRecDepth 20000 in
theorem ggX8_land_X2_size : GoodIn wsX8_land wsX2_size := goodIn_r _ [66, 32, 78, 79, 80, 81] (by decide +kernel) (by decide +kernel)
set_option maxRecDepth 20000 in
theorem gX8_land_X2_size : GoodIn wsX8_land (wsV RX8 93 RX2 yX2_size wsX2_size) := goodIn_app (goodIn_of _ (by decide +kernel)) ggX8_land_X2_size
theorem dX8_land_0 : decode cX8_land 0 = .ok (.aload_n 0, 1) := by decide +kernel
theorem dX8_land_1 : decode cX8_land 1 = .ok (.getfield 10, 3) := by decide +kernel
theorem dX8_land_4 : decode cX8_land 4 = .ok (.invokevirtual 80, 3) := by decide +kernel
theorem dX8_land_7 : decode cX8_land 7 = .ok (.bipush (-9), 2) := by decide +kernel
theorem dX8_land_9 : decode cX8_land 9 = .ok (.if_icmp .eq 6, 3) := by decide +kernel
theorem dX8_land_12 : decode cX8_land 12 = .ok (.bipush (-3), 2) := by decide +kernel
theorem dX8_land_14 : decode cX8_land 14 = .ok (.ireturn, 1) := by decide +kernel
theorem dX8_land_15 : decode cX8_land 15 = .ok (.aload_n 0, 1) := by decide +kernel
theorem dX8_land_16 : decode cX8_land 16 = .ok (.aload_n 0, 1) := by decide +kernel
theorem dX8_land_17 : decode cX8_land 17 = .ok (.getfield 10, 3) := by decide +kernel
theorem dX8_land_20 : decode cX8_land 20 = .ok (.iconst 1, 1) := by decide +kernel
theorem dX8_land_21 : decode cX8_land 21 = .ok (.invokevirtual 83, 3) := by decide +kernel
theorem dX8_land_24 : decode cX8_land 24 = .ok (.putfield 65, 3) := by decide +kernel
theorem dX8_land_27 : decode cX8_land 27 = .ok (.aload_n 0, 1) := by decide +kernel
theorem dX8_land_28 : decode cX8_land 28 = .ok (.getfield 19, 3) := by decide +kernel
theorem dX8_land_31 : decode cX8_land 31 = .ok (.aload_n 0, 1) := by decide +kernel
theorem dX8_land_32 : decode cX8_land 32 = .ok (.getfield 10, 3) := by decide +kernel
theorem dX8_land_35 : decode cX8_land 35 = .ok (.invokevirtual 87, 3) := by decide +kernel
theorem dX8_land_38 : decode cX8_land 38 = .ok (.aload_n 0, 1) := by decide +kernel
theorem dX8_land_39 : decode cX8_land 39 = .ok (.getfield 26, 3) := by decide +kernel
theorem dX8_land_42 : decode cX8_land 42 = .ok (.invokevirtual 91, 3) := by decide +kernel
theorem dX8_land_45 : decode cX8_land 45 = .ok (.aload_n 0, 1) := by decide +kernel
theorem dX8_land_46 : decode cX8_land 46 = .ok (.getfield 33, 3) := by decide +kernel
theorem dX8_land_49 : decode cX8_land 49 = .ok (.invokevirtual 92, 3) := by decide +kernel
theorem dX8_land_52 : decode cX8_land 52 = .ok (.aload_n 0, 1) := by decide +kernel
theorem dX8_land_53 : decode cX8_land 53 = .ok (.getfield 19, 3) := by decide +kernel
theorem dX8_land_56 : decode cX8_land 56 = .ok (.invokevirtual 93, 3) := by decide +kernel
theorem dX8_land_59 : decode cX8_land 59 = .ok (.ireturn, 1) := by decide +kernel
set_option maxRecDepth 20000 in
theorem ggX8_person_X2_has : GoodIn wsX8_person wsX2_has := goodIn_r _ [6, 7, 36, 37, 38, 39] (by decide +kernel) (by decide +kernel)
set_option maxRecDepth 20000 in
theorem gX8_person_X2_has : GoodIn wsX8_person (wsV RX8 96 RX2 yX2_has wsX2_has) := goodIn_app (goodIn_of _ (by decide +kernel)) ggX8_person_X2_has
set_option maxRecDepth 20000 in
theorem ggX8_person_X2_get : GoodIn wsX8_person wsX2_get := goodIn_r _ [11, 12, 36, 37, 38, 39] (by decide +kernel) (by decide +kernel)
set_option maxRecDepth 20000 in
theorem gX8_person_X2_get : GoodIn wsX8_person (wsV RX8 100 RX2 yX2_get wsX2_get) := goodIn_app (goodIn_of _ (by decide +kernel)) ggX8_person_X2_get
set_option maxRecDepth 20000 in
theorem ggX8_person_X2_noonWeight : GoodIn wsX8_person wsX2_noonWeight := goodIn_r _ [16, 17, 9, 10, 5, 11, 12, 18, 19, 20, 21, 36, 37, 38, 39] (by decide +kernel) (by decide +kernel)
set_option maxRecDepth 20000 in
theorem gX8_person_X2_noonWeight : GoodIn wsX8_person (wsV RX8 104 RX2 yX2_noonWeight wsX2_noonWeight) := goodIn_app (goodIn_of _ (by decide +kernel)) ggX8_person_X2_noonWeight
set_option maxRecDepth 20000 in
theorem ggX8_person_X2_isIll : GoodIn wsX8_person wsX2_isIll := goodIn_r _ [25, 26, 17, 9, 10, 5, 11, 12, 36, 37, 38, 39] (by decide +kernel) (by decide +kernel)
set_option maxRecDepth 20000 in
theorem gX8_person_X2_isIll : GoodIn wsX8_person (wsV RX8 107 RX2 yX2_isIll wsX2_isIll) := goodIn_app (goodIn_of _ (by decide +kernel)) ggX8_person_X2_isIll
theorem dX8_person_0 : decode cX8_person 0 = .ok (.aload_n 0, 1) := by decide +kernel
theorem dX8_person_1 : decode cX8_person 1 = .ok (.getfield 19, 3) := by decide +kernel
theorem dX8_person_4 : decode cX8_person 4 = .ok (.iload_n 1, 1) := by decide +kernel
theorem dX8_person_5 : decode cX8_person 5 = .ok (.invokevirtual 96, 3) := by decide +kernel
theorem dX8_person_8 : decode cX8_person 8 = .ok (.ifCond .ne 5, 3) := by decide +kernel
theorem dX8_person_11 : decode cX8_person 11 = .ok (.iconst (-1), 1) := by decide +kernel
theorem dX8_person_12 : decode cX8_person 12 = .ok (.ireturn, 1) := by decide +kernel
theorem dX8_person_13 : decode cX8_person 13 = .ok (.iload_n 2, 1) := by decide +kernel
theorem dX8_person_14 : decode cX8_person 14 = .ok (.tableswitch 118 0 6 #[42, 52, 62, 72, 82, 91, 108], 42) := by decide +kernel
theorem dX8_person_56 : decode cX8_person 56 = .ok (.aload_n 0, 1) := by decide +kernel
theorem dX8_person_57 : decode cX8_person 57 = .ok (.getfield 19, 3) := by decide +kernel
theorem dX8_person_60 : decode cX8_person 60 = .ok (.iload_n 1, 1) := by decide +kernel
theorem dX8_person_61 : decode cX8_person 61 = .ok (.iconst 0, 1) := by decide +kernel
theorem dX8_person_62 : decode cX8_person 62 = .ok (.invokevirtual 100, 3) := by decide +kernel
theorem dX8_person_65 : decode cX8_person 65 = .ok (.ireturn, 1) := by decide +kernel
theorem dX8_person_66 : decode cX8_person 66 = .ok (.aload_n 0, 1) := by decide +kernel
theorem dX8_person_67 : decode cX8_person 67 = .ok (.getfield 19, 3) := by decide +kernel
theorem dX8_person_70 : decode cX8_person 70 = .ok (.iload_n 1, 1) := by decide +kernel
theorem dX8_person_71 : decode cX8_person 71 = .ok (.iconst 1, 1) := by decide +kernel
theorem dX8_person_72 : decode cX8_person 72 = .ok (.invokevirtual 100, 3) := by decide +kernel
theorem dX8_person_75 : decode cX8_person 75 = .ok (.ireturn, 1) := by decide +kernel
theorem dX8_person_76 : decode cX8_person 76 = .ok (.aload_n 0, 1) := by decide +kernel
theorem dX8_person_77 : decode cX8_person 77 = .ok (.getfield 19, 3) := by decide +kernel
theorem dX8_person_80 : decode cX8_person 80 = .ok (.iload_n 1, 1) := by decide +kernel
theorem dX8_person_81 : decode cX8_person 81 = .ok (.iconst 2, 1) := by decide +kernel
theorem dX8_person_82 : decode cX8_person 82 = .ok (.invokevirtual 100, 3) := by decide +kernel
theorem dX8_person_85 : decode cX8_person 85 = .ok (.ireturn, 1) := by decide +kernel
theorem dX8_person_86 : decode cX8_person 86 = .ok (.aload_n 0, 1) := by decide +kernel
theorem dX8_person_87 : decode cX8_person 87 = .ok (.getfield 19, 3) := by decide +kernel
theorem dX8_person_90 : decode cX8_person 90 = .ok (.iload_n 1, 1) := by decide +kernel
theorem dX8_person_91 : decode cX8_person 91 = .ok (.iconst 3, 1) := by decide +kernel
theorem dX8_person_92 : decode cX8_person 92 = .ok (.invokevirtual 100, 3) := by decide +kernel
theorem dX8_person_95 : decode cX8_person 95 = .ok (.ireturn, 1) := by decide +kernel
theorem dX8_person_96 : decode cX8_person 96 = .ok (.aload_n 0, 1) := by decide +kernel
theorem dX8_person_97 : decode cX8_person 97 = .ok (.getfield 19, 3) := by decide +kernel
theorem dX8_person_100 : decode cX8_person 100 = .ok (.iload_n 1, 1) := by decide +kernel
theorem dX8_person_101 : decode cX8_person 101 = .ok (.invokevirtual 104, 3) := by decide +kernel
theorem dX8_person_104 : decode cX8_person 104 = .ok (.ireturn, 1) := by decide +kernel
theorem dX8_person_105 : decode cX8_person 105 = .ok (.aload_n 0, 1) := by decide +kernel
theorem dX8_person_106 : decode cX8_person 106 = .ok (.getfield 19, 3) := by decide +kernel
theorem dX8_person_109 : decode cX8_person 109 = .ok (.iload_n 1, 1) := by decide +kernel
theorem dX8_person_110 : decode cX8_person 110 = .ok (.invokevirtual 107, 3) := by decide +kernel
theorem dX8_person_113 : decode cX8_person 113 = .ok (.ifCond .eq 7, 3) := by decide +kernel
theorem dX8_person_116 : decode cX8_person 116 = .ok (.iconst 1, 1) := by decide +kernel
theorem dX8_person_117 : decode cX8_person 117 = .ok (.goto 4, 3) := by decide +kernel
theorem dX8_person_120 : decode cX8_person 120 = .ok (.iconst 0, 1) := by decide +kernel
theorem dX8_person_121 : decode cX8_person 121 = .ok (.ireturn, 1) := by decide +kernel
theorem dX8_person_122 : decode cX8_person 122 = .ok (.aload_n 0, 1) := by decide +kernel
theorem dX8_person_123 : decode cX8_person 123 = .ok (.getfield 19, 3) := by decide +kernel
theorem dX8_person_126 : decode cX8_person 126 = .ok (.iload_n 1, 1) := by decide +kernel
theorem dX8_person_127 : decode cX8_person 127 = .ok (.iconst 4, 1) := by decide +kernel
theorem dX8_person_128 : decode cX8_person 128 = .ok (.invokevirtual 100, 3) := by decide +kernel
theorem dX8_person_131 : decode cX8_person 131 = .ok (.ireturn, 1) := by decide +kernel
theorem dX8_person_132 : decode cX8_person 132 = .ok (.bipush (-2), 2) := by decide +kernel
theorem dX8_person_134 : decode cX8_person 134 = .ok (.ireturn, 1) := by decide +kernel
set_option maxRecDepth 20000 in
theorem ggX8_law_X8_isLaw : GoodIn wsX8_law wsX8_isLaw := goodIn_r _ [5] (by decide +kernel) (by decide +kernel)
set_option maxRecDepth 20000 in
theorem gX8_law_X8_isLaw : GoodIn wsX8_law (va_wsS RX8 110 yX8_isLaw wsX8_isLaw) := goodIn_app (goodIn_of _ (by decide +kernel)) ggX8_law_X8_isLaw
theorem dX8_law_0 : decode cX8_law 0 = .ok (.iload_n 1, 1) := by decide +kernel
theorem dX8_law_1 : decode cX8_law 1 = .ok (.invokestatic 110, 3) := by decide +kernel
theorem dX8_law_4 : decode cX8_law 4 = .ok (.ifCond .ne 6, 3) := by decide +kernel
theorem dX8_law_7 : decode cX8_law 7 = .ok (.bipush (-2), 2) := by decide +kernel
theorem dX8_law_9 : decode cX8_law 9 = .ok (.ireturn, 1) := by decide +kernel
theorem dX8_law_10 : decode cX8_law 10 = .ok (.aload_n 0, 1) := by decide +kernel
theorem dX8_law_11 : decode cX8_law 11 = .ok (.getfield 65, 3) := by decide +kernel
theorem dX8_law_14 : decode cX8_law 14 = .ok (.istore_n 2, 1) := by decide +kernel
theorem dX8_law_15 : decode cX8_law 15 = .ok (.aload_n 0, 1) := by decide +kernel
theorem dX8_law_16 : decode cX8_law 16 = .ok (.iload_n 1, 1) := by decide +kernel
theorem dX8_law_17 : decode cX8_law 17 = .ok (.putfield 65, 3) := by decide +kernel
theorem dX8_law_20 : decode cX8_law 20 = .ok (.iload_n 2, 1) := by decide +kernel
theorem dX8_law_21 : decode cX8_law 21 = .ok (.ireturn, 1) := by decide +kernel
theorem dX8_isLaw_0 : decode cX8_isLaw 0 = .ok (.iload_n 0, 1) := by decide +kernel
theorem dX8_isLaw_1 : decode cX8_isLaw 1 = .ok (.ifCond .lt 12, 3) := by decide +kernel
theorem dX8_isLaw_4 : decode cX8_isLaw 4 = .ok (.iload_n 0, 1) := by decide +kernel
theorem dX8_isLaw_5 : decode cX8_isLaw 5 = .ok (.iconst 3, 1) := by decide +kernel
theorem dX8_isLaw_6 : decode cX8_isLaw 6 = .ok (.if_icmp .ge 7, 3) := by decide +kernel
theorem dX8_isLaw_9 : decode cX8_isLaw 9 = .ok (.iconst 1, 1) := by decide +kernel
theorem dX8_isLaw_10 : decode cX8_isLaw 10 = .ok (.goto 4, 3) := by decide +kernel
theorem dX8_isLaw_13 : decode cX8_isLaw 13 = .ok (.iconst 0, 1) := by decide +kernel
theorem dX8_isLaw_14 : decode cX8_isLaw 14 = .ok (.ireturn, 1) := by decide +kernel
set_option maxRecDepth 20000 in
theorem ggX8_eat_X8_refusalOf : GoodIn wsX8_eat wsX8_refusalOf := goodIn_r _ [7, 1, 8, 9, 10, 11, 12, 13, 49, 50, 51, 52, 53, 54, 55, 56, 57, 58, 59, 60, 61] (by decide +kernel) (by decide +kernel)
set_option maxRecDepth 20000 in
theorem gX8_eat_X8_refusalOf : GoodIn wsX8_eat (wsV RX8 113 RX8 yX8_refusalOf wsX8_refusalOf) := goodIn_app (goodIn_of _ (by decide +kernel)) ggX8_eat_X8_refusalOf
set_option maxRecDepth 20000 in
theorem ggX8_eat_X2_get : GoodIn wsX8_eat wsX2_get := goodIn_r _ [17, 18, 58, 59, 60, 61] (by decide +kernel) (by decide +kernel)
set_option maxRecDepth 20000 in
theorem gX8_eat_X2_get : GoodIn wsX8_eat (wsV RX8 100 RX2 yX2_get wsX2_get) := goodIn_app (goodIn_of _ (by decide +kernel)) ggX8_eat_X2_get
set_option maxRecDepth 20000 in
theorem ggX8_eat_X0_remember : GoodIn wsX8_eat wsX0_remember := goodIn_r _ [23, 24, 25, 26, 27, 28, 29, 11, 30, 18, 31, 32, 33, 34, 62, 63, 64, 58, 59, 60, 61] (by decide +kernel) (by decide +kernel)
set_option maxRecDepth 20000 in
theorem gX8_eat_X0_remember : GoodIn wsX8_eat (wsV RX8 116 RX0 yX0_remember wsX0_remember) := goodIn_app (goodIn_of _ (by decide +kernel)) ggX8_eat_X0_remember
set_option maxRecDepth 20000 in
theorem ggX8_eat_X2_add : GoodIn wsX8_eat wsX2_add := goodIn_r _ [38, 18, 58, 59, 60, 61] (by decide +kernel) (by decide +kernel)
set_option maxRecDepth 20000 in
theorem gX8_eat_X2_add : GoodIn wsX8_eat (wsV RX8 120 RX2 yX2_add wsX2_add) := goodIn_app (goodIn_of _ (by decide +kernel)) ggX8_eat_X2_add
set_option maxRecDepth 20000 in
theorem ggX8_eat_X2_gain : GoodIn wsX8_eat wsX2_gain := goodIn_r _ [42, 43, 44, 45, 46, 47, 15, 16, 11, 17, 18, 48, 36, 37, 38, 58, 59, 60, 61] (by decide +kernel) (by decide +kernel)
set_option maxRecDepth 20000 in
theorem gX8_eat_X2_gain : GoodIn wsX8_eat (wsV RX8 124 RX2 yX2_gain wsX2_gain) := goodIn_app (goodIn_of _ (by decide +kernel)) ggX8_eat_X2_gain
theorem dX8_eat_0 : decode cX8_eat 0 = .ok (.aload_n 0, 1) := by decide +kernel
theorem dX8_eat_1 : decode cX8_eat 1 = .ok (.iload_n 1, 1) := by decide +kernel
theorem dX8_eat_2 : decode cX8_eat 2 = .ok (.iload_n 2, 1) := by decide +kernel
theorem dX8_eat_3 : decode cX8_eat 3 = .ok (.invokevirtual 113, 3) := by decide +kernel
theorem dX8_eat_6 : decode cX8_eat 6 = .ok (.istore_n 3, 1) := by decide +kernel
theorem dX8_eat_7 : decode cX8_eat 7 = .ok (.iload_n 3, 1) := by decide +kernel
theorem dX8_eat_8 : decode cX8_eat 8 = .ok (.ifCond .eq 5, 3) := by decide +kernel
theorem dX8_eat_11 : decode cX8_eat 11 = .ok (.iload_n 3, 1) := by decide +kernel
theorem dX8_eat_12 : decode cX8_eat 12 = .ok (.ireturn, 1) := by decide +kernel
theorem dX8_eat_13 : decode cX8_eat 13 = .ok (.aload_n 0, 1) := by decide +kernel
theorem dX8_eat_14 : decode cX8_eat 14 = .ok (.getfield 19, 3) := by decide +kernel
theorem dX8_eat_17 : decode cX8_eat 17 = .ok (.iload_n 1, 1) := by decide +kernel
theorem dX8_eat_18 : decode cX8_eat 18 = .ok (.iconst 1, 1) := by decide +kernel
theorem dX8_eat_19 : decode cX8_eat 19 = .ok (.invokevirtual 100, 3) := by decide +kernel
theorem dX8_eat_22 : decode cX8_eat 22 = .ok (.iload_n 2, 1) := by decide +kernel
theorem dX8_eat_23 : decode cX8_eat 23 = .ok (.if_icmp .ge 6, 3) := by decide +kernel
theorem dX8_eat_26 : decode cX8_eat 26 = .ok (.bipush (-3), 2) := by decide +kernel
theorem dX8_eat_28 : decode cX8_eat 28 = .ok (.ireturn, 1) := by decide +kernel
theorem dX8_eat_29 : decode cX8_eat 29 = .ok (.aload_n 0, 1) := by decide +kernel
theorem dX8_eat_30 : decode cX8_eat 30 = .ok (.getfield 26, 3) := by decide +kernel
theorem dX8_eat_33 : decode cX8_eat 33 = .ok (.aload_n 0, 1) := by decide +kernel
theorem dX8_eat_34 : decode cX8_eat 34 = .ok (.getfield 19, 3) := by decide +kernel
theorem dX8_eat_37 : decode cX8_eat 37 = .ok (.invokevirtual 116, 3) := by decide +kernel
theorem dX8_eat_40 : decode cX8_eat 40 = .ok (.aload_n 0, 1) := by decide +kernel
theorem dX8_eat_41 : decode cX8_eat 41 = .ok (.getfield 19, 3) := by decide +kernel
theorem dX8_eat_44 : decode cX8_eat 44 = .ok (.iload_n 1, 1) := by decide +kernel
theorem dX8_eat_45 : decode cX8_eat 45 = .ok (.iconst 1, 1) := by decide +kernel
theorem dX8_eat_46 : decode cX8_eat 46 = .ok (.iload_n 2, 1) := by decide +kernel
theorem dX8_eat_47 : decode cX8_eat 47 = .ok (.ineg, 1) := by decide +kernel
theorem dX8_eat_48 : decode cX8_eat 48 = .ok (.invokevirtual 120, 3) := by decide +kernel
theorem dX8_eat_51 : decode cX8_eat 51 = .ok (.aload_n 0, 1) := by decide +kernel
theorem dX8_eat_52 : decode cX8_eat 52 = .ok (.getfield 19, 3) := by decide +kernel
theorem dX8_eat_55 : decode cX8_eat 55 = .ok (.iload_n 1, 1) := by decide +kernel
theorem dX8_eat_56 : decode cX8_eat 56 = .ok (.bipush 8, 2) := by decide +kernel
theorem dX8_eat_58 : decode cX8_eat 58 = .ok (.iload_n 2, 1) := by decide +kernel
theorem dX8_eat_59 : decode cX8_eat 59 = .ok (.imul, 1) := by decide +kernel
theorem dX8_eat_60 : decode cX8_eat 60 = .ok (.invokevirtual 124, 3) := by decide +kernel
theorem dX8_eat_63 : decode cX8_eat 63 = .ok (.ireturn, 1) := by decide +kernel
set_option maxRecDepth 20000 in
theorem ggX8_toil_X8_refusalOf : GoodIn wsX8_toil wsX8_refusalOf := goodIn_r _ [7, 2, 8, 9, 10, 11, 12, 13, 47, 48, 49, 50, 51, 52, 53, 54, 55, 56, 57, 58, 59] (by decide +kernel) (by decide +kernel)
set_option maxRecDepth 20000 in
theorem gX8_toil_X8_refusalOf : GoodIn wsX8_toil (wsV RX8 113 RX8 yX8_refusalOf wsX8_refusalOf) := goodIn_app (goodIn_of _ (by decide +kernel)) ggX8_toil_X8_refusalOf
set_option maxRecDepth 20000 in
theorem ggX8_toil_X0_remember : GoodIn wsX8_toil wsX0_remember := goodIn_r _ [18, 19, 20, 21, 22, 23, 24, 11, 25, 26, 27, 28, 29, 30, 60, 61, 62, 56, 57, 58, 59] (by decide +kernel) (by decide +kernel)
set_option maxRecDepth 20000 in
theorem gX8_toil_X0_remember : GoodIn wsX8_toil (wsV RX8 116 RX0 yX0_remember wsX0_remember) := goodIn_app (goodIn_of _ (by decide +kernel)) ggX8_toil_X0_remember
set_option maxRecDepth 20000 in
theorem ggX8_toil_X2_gain : GoodIn wsX8_toil wsX2_gain := goodIn_r _ [34, 35, 36, 37, 38, 39, 40, 41, 11, 42, 26, 43, 44, 45, 46, 56, 57, 58, 59] (by decide +kernel) (by decide +kernel)
set_option maxRecDepth 20000 in
theorem gX8_toil_X2_gain : GoodIn wsX8_toil (wsV RX8 124 RX2 yX2_gain wsX2_gain) := goodIn_app (goodIn_of _ (by decide +kernel)) ggX8_toil_X2_gain
theorem dX8_toil_0 : decode cX8_toil 0 = .ok (.aload_n 0, 1) := by decide +kernel
theorem dX8_toil_1 : decode cX8_toil 1 = .ok (.iload_n 1, 1) := by decide +kernel
theorem dX8_toil_2 : decode cX8_toil 2 = .ok (.iload_n 2, 1) := by decide +kernel
theorem dX8_toil_3 : decode cX8_toil 3 = .ok (.invokevirtual 113, 3) := by decide +kernel
theorem dX8_toil_6 : decode cX8_toil 6 = .ok (.istore_n 3, 1) := by decide +kernel
theorem dX8_toil_7 : decode cX8_toil 7 = .ok (.iload_n 3, 1) := by decide +kernel
theorem dX8_toil_8 : decode cX8_toil 8 = .ok (.ifCond .eq 5, 3) := by decide +kernel
theorem dX8_toil_11 : decode cX8_toil 11 = .ok (.iload_n 3, 1) := by decide +kernel
theorem dX8_toil_12 : decode cX8_toil 12 = .ok (.ireturn, 1) := by decide +kernel
theorem dX8_toil_13 : decode cX8_toil 13 = .ok (.aload_n 0, 1) := by decide +kernel
theorem dX8_toil_14 : decode cX8_toil 14 = .ok (.getfield 26, 3) := by decide +kernel
theorem dX8_toil_17 : decode cX8_toil 17 = .ok (.aload_n 0, 1) := by decide +kernel
theorem dX8_toil_18 : decode cX8_toil 18 = .ok (.getfield 19, 3) := by decide +kernel
theorem dX8_toil_21 : decode cX8_toil 21 = .ok (.invokevirtual 116, 3) := by decide +kernel
theorem dX8_toil_24 : decode cX8_toil 24 = .ok (.aload_n 0, 1) := by decide +kernel
theorem dX8_toil_25 : decode cX8_toil 25 = .ok (.getfield 19, 3) := by decide +kernel
theorem dX8_toil_28 : decode cX8_toil 28 = .ok (.iload_n 1, 1) := by decide +kernel
theorem dX8_toil_29 : decode cX8_toil 29 = .ok (.bipush (-5), 2) := by decide +kernel
theorem dX8_toil_31 : decode cX8_toil 31 = .ok (.iload_n 2, 1) := by decide +kernel
theorem dX8_toil_32 : decode cX8_toil 32 = .ok (.imul, 1) := by decide +kernel
theorem dX8_toil_33 : decode cX8_toil 33 = .ok (.invokevirtual 124, 3) := by decide +kernel
theorem dX8_toil_36 : decode cX8_toil 36 = .ok (.ireturn, 1) := by decide +kernel
set_option maxRecDepth 20000 in
theorem ggX8_drink_X8_refusalOf : GoodIn wsX8_drink wsX8_refusalOf := goodIn_r _ [7, 1, 8, 9, 10, 11, 12, 13, 49, 50, 51, 52, 53, 54, 55, 56, 57, 58, 59, 60, 61] (by decide +kernel) (by decide +kernel)
set_option maxRecDepth 20000 in
theorem gX8_drink_X8_refusalOf : GoodIn wsX8_drink (wsV RX8 113 RX8 yX8_refusalOf wsX8_refusalOf) := goodIn_app (goodIn_of _ (by decide +kernel)) ggX8_drink_X8_refusalOf
set_option maxRecDepth 20000 in
theorem ggX8_drink_X2_get : GoodIn wsX8_drink wsX2_get := goodIn_r _ [17, 18, 58, 59, 60, 61] (by decide +kernel) (by decide +kernel)
set_option maxRecDepth 20000 in
theorem gX8_drink_X2_get : GoodIn wsX8_drink (wsV RX8 100 RX2 yX2_get wsX2_get) := goodIn_app (goodIn_of _ (by decide +kernel)) ggX8_drink_X2_get
set_option maxRecDepth 20000 in
theorem ggX8_drink_X0_remember : GoodIn wsX8_drink wsX0_remember := goodIn_r _ [23, 24, 25, 26, 27, 28, 29, 11, 30, 18, 31, 32, 33, 34, 62, 63, 64, 58, 59, 60, 61] (by decide +kernel) (by decide +kernel)
set_option maxRecDepth 20000 in
theorem gX8_drink_X0_remember : GoodIn wsX8_drink (wsV RX8 116 RX0 yX0_remember wsX0_remember) := goodIn_app (goodIn_of _ (by decide +kernel)) ggX8_drink_X0_remember
set_option maxRecDepth 20000 in
theorem ggX8_drink_X2_add : GoodIn wsX8_drink wsX2_add := goodIn_r _ [38, 18, 58, 59, 60, 61] (by decide +kernel) (by decide +kernel)
set_option maxRecDepth 20000 in
theorem gX8_drink_X2_add : GoodIn wsX8_drink (wsV RX8 120 RX2 yX2_add wsX2_add) := goodIn_app (goodIn_of _ (by decide +kernel)) ggX8_drink_X2_add
set_option maxRecDepth 20000 in
theorem ggX8_drink_X2_gain : GoodIn wsX8_drink wsX2_gain := goodIn_r _ [42, 43, 44, 45, 46, 47, 15, 16, 11, 17, 18, 48, 36, 37, 38, 58, 59, 60, 61] (by decide +kernel) (by decide +kernel)
set_option maxRecDepth 20000 in
theorem gX8_drink_X2_gain : GoodIn wsX8_drink (wsV RX8 124 RX2 yX2_gain wsX2_gain) := goodIn_app (goodIn_of _ (by decide +kernel)) ggX8_drink_X2_gain
theorem dX8_drink_0 : decode cX8_drink 0 = .ok (.aload_n 0, 1) := by decide +kernel
theorem dX8_drink_1 : decode cX8_drink 1 = .ok (.iload_n 1, 1) := by decide +kernel
theorem dX8_drink_2 : decode cX8_drink 2 = .ok (.iload_n 2, 1) := by decide +kernel
theorem dX8_drink_3 : decode cX8_drink 3 = .ok (.invokevirtual 113, 3) := by decide +kernel
theorem dX8_drink_6 : decode cX8_drink 6 = .ok (.istore_n 3, 1) := by decide +kernel
theorem dX8_drink_7 : decode cX8_drink 7 = .ok (.iload_n 3, 1) := by decide +kernel
theorem dX8_drink_8 : decode cX8_drink 8 = .ok (.ifCond .eq 5, 3) := by decide +kernel
theorem dX8_drink_11 : decode cX8_drink 11 = .ok (.iload_n 3, 1) := by decide +kernel
theorem dX8_drink_12 : decode cX8_drink 12 = .ok (.ireturn, 1) := by decide +kernel
theorem dX8_drink_13 : decode cX8_drink 13 = .ok (.iconst 3, 1) := by decide +kernel
theorem dX8_drink_14 : decode cX8_drink 14 = .ok (.iload_n 2, 1) := by decide +kernel
theorem dX8_drink_15 : decode cX8_drink 15 = .ok (.imul, 1) := by decide +kernel
theorem dX8_drink_16 : decode cX8_drink 16 = .ok (.istore 4, 2) := by decide +kernel
theorem dX8_drink_18 : decode cX8_drink 18 = .ok (.aload_n 0, 1) := by decide +kernel
theorem dX8_drink_19 : decode cX8_drink 19 = .ok (.getfield 19, 3) := by decide +kernel
theorem dX8_drink_22 : decode cX8_drink 22 = .ok (.iload_n 1, 1) := by decide +kernel
theorem dX8_drink_23 : decode cX8_drink 23 = .ok (.iconst 3, 1) := by decide +kernel
theorem dX8_drink_24 : decode cX8_drink 24 = .ok (.invokevirtual 100, 3) := by decide +kernel
theorem dX8_drink_27 : decode cX8_drink 27 = .ok (.iload 4, 2) := by decide +kernel
theorem dX8_drink_29 : decode cX8_drink 29 = .ok (.iadd, 1) := by decide +kernel
theorem dX8_drink_30 : decode cX8_drink 30 = .ok (.bipush 90, 2) := by decide +kernel
theorem dX8_drink_32 : decode cX8_drink 32 = .ok (.if_icmp .le 6, 3) := by decide +kernel
theorem dX8_drink_35 : decode cX8_drink 35 = .ok (.bipush (-3), 2) := by decide +kernel
theorem dX8_drink_37 : decode cX8_drink 37 = .ok (.ireturn, 1) := by decide +kernel
theorem dX8_drink_38 : decode cX8_drink 38 = .ok (.aload_n 0, 1) := by decide +kernel
theorem dX8_drink_39 : decode cX8_drink 39 = .ok (.getfield 26, 3) := by decide +kernel
theorem dX8_drink_42 : decode cX8_drink 42 = .ok (.aload_n 0, 1) := by decide +kernel
theorem dX8_drink_43 : decode cX8_drink 43 = .ok (.getfield 19, 3) := by decide +kernel
theorem dX8_drink_46 : decode cX8_drink 46 = .ok (.invokevirtual 116, 3) := by decide +kernel
theorem dX8_drink_49 : decode cX8_drink 49 = .ok (.aload_n 0, 1) := by decide +kernel
theorem dX8_drink_50 : decode cX8_drink 50 = .ok (.getfield 19, 3) := by decide +kernel
theorem dX8_drink_53 : decode cX8_drink 53 = .ok (.iload_n 1, 1) := by decide +kernel
theorem dX8_drink_54 : decode cX8_drink 54 = .ok (.iconst 3, 1) := by decide +kernel
theorem dX8_drink_55 : decode cX8_drink 55 = .ok (.iload 4, 2) := by decide +kernel
theorem dX8_drink_57 : decode cX8_drink 57 = .ok (.invokevirtual 120, 3) := by decide +kernel
theorem dX8_drink_60 : decode cX8_drink 60 = .ok (.aload_n 0, 1) := by decide +kernel
theorem dX8_drink_61 : decode cX8_drink 61 = .ok (.getfield 19, 3) := by decide +kernel
theorem dX8_drink_64 : decode cX8_drink 64 = .ok (.iload_n 1, 1) := by decide +kernel
theorem dX8_drink_65 : decode cX8_drink 65 = .ok (.iload 4, 2) := by decide +kernel
theorem dX8_drink_67 : decode cX8_drink 67 = .ok (.invokevirtual 124, 3) := by decide +kernel
theorem dX8_drink_70 : decode cX8_drink 70 = .ok (.ireturn, 1) := by decide +kernel
set_option maxRecDepth 20000 in
theorem ggX8_refusalOf_X2_has : GoodIn wsX8_refusalOf wsX2_has := goodIn_r _ [6, 7, 17, 18, 19, 20] (by decide +kernel) (by decide +kernel)
set_option maxRecDepth 20000 in
theorem gX8_refusalOf_X2_has : GoodIn wsX8_refusalOf (wsV RX8 96 RX2 yX2_has wsX2_has) := goodIn_app (goodIn_of _ (by decide +kernel)) ggX8_refusalOf_X2_has
theorem dX8_refusalOf_0 : decode cX8_refusalOf 0 = .ok (.aload_n 0, 1) := by decide +kernel
theorem dX8_refusalOf_1 : decode cX8_refusalOf 1 = .ok (.getfield 19, 3) := by decide +kernel
theorem dX8_refusalOf_4 : decode cX8_refusalOf 4 = .ok (.iload_n 1, 1) := by decide +kernel
theorem dX8_refusalOf_5 : decode cX8_refusalOf 5 = .ok (.invokevirtual 96, 3) := by decide +kernel
theorem dX8_refusalOf_8 : decode cX8_refusalOf 8 = .ok (.ifCond .ne 5, 3) := by decide +kernel
theorem dX8_refusalOf_11 : decode cX8_refusalOf 11 = .ok (.iconst (-1), 1) := by decide +kernel
theorem dX8_refusalOf_12 : decode cX8_refusalOf 12 = .ok (.ireturn, 1) := by decide +kernel
theorem dX8_refusalOf_13 : decode cX8_refusalOf 13 = .ok (.iload_n 2, 1) := by decide +kernel
theorem dX8_refusalOf_14 : decode cX8_refusalOf 14 = .ok (.iconst 1, 1) := by decide +kernel
theorem dX8_refusalOf_15 : decode cX8_refusalOf 15 = .ok (.if_icmp .lt 9, 3) := by decide +kernel
theorem dX8_refusalOf_18 : decode cX8_refusalOf 18 = .ok (.iload_n 2, 1) := by decide +kernel
theorem dX8_refusalOf_19 : decode cX8_refusalOf 19 = .ok (.bipush 9, 2) := by decide +kernel
theorem dX8_refusalOf_21 : decode cX8_refusalOf 21 = .ok (.if_icmp .le 8, 3) := by decide +kernel
theorem dX8_refusalOf_24 : decode cX8_refusalOf 24 = .ok (.bipush (-2), 2) := by decide +kernel
theorem dX8_refusalOf_26 : decode cX8_refusalOf 26 = .ok (.goto 4, 3) := by decide +kernel
theorem dX8_refusalOf_29 : decode cX8_refusalOf 29 = .ok (.iconst 0, 1) := by decide +kernel
theorem dX8_refusalOf_30 : decode cX8_refusalOf 30 = .ok (.ireturn, 1) := by decide +kernel
set_option maxRecDepth 20000 in
theorem ggX8_hand_X2_has : GoodIn wsX8_hand wsX2_has := goodIn_r _ [7, 8, 43, 44, 45, 46] (by decide +kernel) (by decide +kernel)
set_option maxRecDepth 20000 in
theorem gX8_hand_X2_has : GoodIn wsX8_hand (wsV RX8 96 RX2 yX2_has wsX2_has) := goodIn_app (goodIn_of _ (by decide +kernel)) ggX8_hand_X2_has
set_option maxRecDepth 20000 in
theorem ggX8_hand_X2_get : GoodIn wsX8_hand wsX2_get := goodIn_r _ [12, 13, 43, 44, 45, 46] (by decide +kernel) (by decide +kernel)
set_option maxRecDepth 20000 in
theorem gX8_hand_X2_get : GoodIn wsX8_hand (wsV RX8 100 RX2 yX2_get wsX2_get) := goodIn_app (goodIn_of _ (by decide +kernel)) ggX8_hand_X2_get
set_option maxRecDepth 20000 in
theorem ggX8_hand_X0_remember : GoodIn wsX8_hand wsX0_remember := goodIn_r _ [18, 19, 20, 21, 22, 23, 24, 6, 25, 13, 26, 27, 28, 29, 47, 48, 49, 43, 44, 45, 46] (by decide +kernel) (by decide +kernel)
set_option maxRecDepth 20000 in
theorem gX8_hand_X0_remember : GoodIn wsX8_hand (wsV RX8 116 RX0 yX0_remember wsX0_remember) := goodIn_app (goodIn_of _ (by decide +kernel)) ggX8_hand_X0_remember
set_option maxRecDepth 20000 in
theorem ggX8_hand_X2_add : GoodIn wsX8_hand wsX2_add := goodIn_r _ [33, 13, 43, 44, 45, 46] (by decide +kernel) (by decide +kernel)
set_option maxRecDepth 20000 in
theorem gX8_hand_X2_add : GoodIn wsX8_hand (wsV RX8 120 RX2 yX2_add wsX2_add) := goodIn_app (goodIn_of _ (by decide +kernel)) ggX8_hand_X2_add
theorem dX8_hand_0 : decode cX8_hand 0 = .ok (.aload_n 0, 1) := by decide +kernel
theorem dX8_hand_1 : decode cX8_hand 1 = .ok (.getfield 19, 3) := by decide +kernel
theorem dX8_hand_4 : decode cX8_hand 4 = .ok (.iload_n 1, 1) := by decide +kernel
theorem dX8_hand_5 : decode cX8_hand 5 = .ok (.invokevirtual 96, 3) := by decide +kernel
theorem dX8_hand_8 : decode cX8_hand 8 = .ok (.ifCond .eq 14, 3) := by decide +kernel
theorem dX8_hand_11 : decode cX8_hand 11 = .ok (.aload_n 0, 1) := by decide +kernel
theorem dX8_hand_12 : decode cX8_hand 12 = .ok (.getfield 19, 3) := by decide +kernel
theorem dX8_hand_15 : decode cX8_hand 15 = .ok (.iload_n 2, 1) := by decide +kernel
theorem dX8_hand_16 : decode cX8_hand 16 = .ok (.invokevirtual 96, 3) := by decide +kernel
theorem dX8_hand_19 : decode cX8_hand 19 = .ok (.ifCond .ne 5, 3) := by decide +kernel
theorem dX8_hand_22 : decode cX8_hand 22 = .ok (.iconst (-1), 1) := by decide +kernel
theorem dX8_hand_23 : decode cX8_hand 23 = .ok (.ireturn, 1) := by decide +kernel
theorem dX8_hand_24 : decode cX8_hand 24 = .ok (.iload_n 3, 1) := by decide +kernel
theorem dX8_hand_25 : decode cX8_hand 25 = .ok (.ifCond .eq 7, 3) := by decide +kernel
theorem dX8_hand_28 : decode cX8_hand 28 = .ok (.iconst 2, 1) := by decide +kernel
theorem dX8_hand_29 : decode cX8_hand 29 = .ok (.goto 4, 3) := by decide +kernel
theorem dX8_hand_32 : decode cX8_hand 32 = .ok (.iconst 1, 1) := by decide +kernel
theorem dX8_hand_33 : decode cX8_hand 33 = .ok (.istore 4, 2) := by decide +kernel
theorem dX8_hand_35 : decode cX8_hand 35 = .ok (.iload_n 1, 1) := by decide +kernel
theorem dX8_hand_36 : decode cX8_hand 36 = .ok (.iload_n 2, 1) := by decide +kernel
theorem dX8_hand_37 : decode cX8_hand 37 = .ok (.if_icmp .eq 16, 3) := by decide +kernel
theorem dX8_hand_40 : decode cX8_hand 40 = .ok (.aload_n 0, 1) := by decide +kernel
theorem dX8_hand_41 : decode cX8_hand 41 = .ok (.getfield 19, 3) := by decide +kernel
theorem dX8_hand_44 : decode cX8_hand 44 = .ok (.iload_n 1, 1) := by decide +kernel
theorem dX8_hand_45 : decode cX8_hand 45 = .ok (.iload 4, 2) := by decide +kernel
theorem dX8_hand_47 : decode cX8_hand 47 = .ok (.invokevirtual 100, 3) := by decide +kernel
theorem dX8_hand_50 : decode cX8_hand 50 = .ok (.ifCond .ne 6, 3) := by decide +kernel
theorem dX8_hand_53 : decode cX8_hand 53 = .ok (.bipush (-3), 2) := by decide +kernel
theorem dX8_hand_55 : decode cX8_hand 55 = .ok (.ireturn, 1) := by decide +kernel
theorem dX8_hand_56 : decode cX8_hand 56 = .ok (.aload_n 0, 1) := by decide +kernel
theorem dX8_hand_57 : decode cX8_hand 57 = .ok (.getfield 19, 3) := by decide +kernel
theorem dX8_hand_60 : decode cX8_hand 60 = .ok (.iload_n 2, 1) := by decide +kernel
theorem dX8_hand_61 : decode cX8_hand 61 = .ok (.iload 4, 2) := by decide +kernel
theorem dX8_hand_63 : decode cX8_hand 63 = .ok (.invokevirtual 100, 3) := by decide +kernel
theorem dX8_hand_66 : decode cX8_hand 66 = .ok (.bipush 9, 2) := by decide +kernel
theorem dX8_hand_68 : decode cX8_hand 68 = .ok (.if_icmp .lt 6, 3) := by decide +kernel
theorem dX8_hand_71 : decode cX8_hand 71 = .ok (.bipush (-4), 2) := by decide +kernel
theorem dX8_hand_73 : decode cX8_hand 73 = .ok (.ireturn, 1) := by decide +kernel
theorem dX8_hand_74 : decode cX8_hand 74 = .ok (.aload_n 0, 1) := by decide +kernel
theorem dX8_hand_75 : decode cX8_hand 75 = .ok (.getfield 26, 3) := by decide +kernel
theorem dX8_hand_78 : decode cX8_hand 78 = .ok (.aload_n 0, 1) := by decide +kernel
theorem dX8_hand_79 : decode cX8_hand 79 = .ok (.getfield 19, 3) := by decide +kernel
theorem dX8_hand_82 : decode cX8_hand 82 = .ok (.invokevirtual 116, 3) := by decide +kernel
theorem dX8_hand_85 : decode cX8_hand 85 = .ok (.aload_n 0, 1) := by decide +kernel
theorem dX8_hand_86 : decode cX8_hand 86 = .ok (.getfield 19, 3) := by decide +kernel
theorem dX8_hand_89 : decode cX8_hand 89 = .ok (.iload_n 1, 1) := by decide +kernel
theorem dX8_hand_90 : decode cX8_hand 90 = .ok (.iload 4, 2) := by decide +kernel
theorem dX8_hand_92 : decode cX8_hand 92 = .ok (.iconst (-1), 1) := by decide +kernel
theorem dX8_hand_93 : decode cX8_hand 93 = .ok (.invokevirtual 120, 3) := by decide +kernel
theorem dX8_hand_96 : decode cX8_hand 96 = .ok (.aload_n 0, 1) := by decide +kernel
theorem dX8_hand_97 : decode cX8_hand 97 = .ok (.getfield 19, 3) := by decide +kernel
theorem dX8_hand_100 : decode cX8_hand 100 = .ok (.iload_n 2, 1) := by decide +kernel
theorem dX8_hand_101 : decode cX8_hand 101 = .ok (.iload 4, 2) := by decide +kernel
theorem dX8_hand_103 : decode cX8_hand 103 = .ok (.iconst 1, 1) := by decide +kernel
theorem dX8_hand_104 : decode cX8_hand 104 = .ok (.invokevirtual 120, 3) := by decide +kernel
theorem dX8_hand_107 : decode cX8_hand 107 = .ok (.aload_n 0, 1) := by decide +kernel
theorem dX8_hand_108 : decode cX8_hand 108 = .ok (.getfield 19, 3) := by decide +kernel
theorem dX8_hand_111 : decode cX8_hand 111 = .ok (.iload_n 2, 1) := by decide +kernel
theorem dX8_hand_112 : decode cX8_hand 112 = .ok (.iload 4, 2) := by decide +kernel
theorem dX8_hand_114 : decode cX8_hand 114 = .ok (.invokevirtual 100, 3) := by decide +kernel
theorem dX8_hand_117 : decode cX8_hand 117 = .ok (.ireturn, 1) := by decide +kernel
set_option maxRecDepth 20000 in
theorem ggX8_day_X0_remember : GoodIn wsX8_day wsX0_remember := goodIn_r _ [7, 8, 9, 10, 11, 12, 13, 14, 15, 16, 17, 18, 19, 20, 56, 57, 58, 59, 60, 61, 62] (by decide +kernel) (by decide +kernel)
set_option maxRecDepth 20000 in
theorem gX8_day_X0_remember : GoodIn wsX8_day (wsV RX8 116 RX0 yX0_remember wsX0_remember) := goodIn_app (goodIn_of _ (by decide +kernel)) ggX8_day_X0_remember
set_option maxRecDepth 20000 in
theorem ggX8_day_X2_passDay : GoodIn wsX8_day wsX2_passDay := goodIn_r _ [24, 16, 25, 26, 27, 28, 29, 14, 30, 31, 32, 33, 34, 35, 36, 37, 38, 39, 40, 41, 42, 59, 60, 61, 62] (by decide +kernel) (by decide +kernel)
set_option maxRecDepth 20000 in
theorem gX8_day_X2_passDay : GoodIn wsX8_day (wsV RX8 127 RX2 yX2_passDay wsX2_passDay) := goodIn_app (goodIn_of _ (by decide +kernel)) ggX8_day_X2_passDay
set_option maxRecDepth 20000 in
theorem ggX8_day_X2_today : GoodIn wsX8_day wsX2_today := goodIn_r _ [46, 16, 59, 60, 61, 62] (by decide +kernel) (by decide +kernel)
set_option maxRecDepth 20000 in
theorem gX8_day_X2_today : GoodIn wsX8_day (wsV RX8 130 RX2 yX2_today wsX2_today) := goodIn_app (goodIn_of _ (by decide +kernel)) ggX8_day_X2_today
theorem dX8_day_0 : decode cX8_day 0 = .ok (.aload_n 0, 1) := by decide +kernel
theorem dX8_day_1 : decode cX8_day 1 = .ok (.getfield 26, 3) := by decide +kernel
theorem dX8_day_4 : decode cX8_day 4 = .ok (.aload_n 0, 1) := by decide +kernel
theorem dX8_day_5 : decode cX8_day 5 = .ok (.getfield 19, 3) := by decide +kernel
theorem dX8_day_8 : decode cX8_day 8 = .ok (.invokevirtual 116, 3) := by decide +kernel
theorem dX8_day_11 : decode cX8_day 11 = .ok (.aload_n 0, 1) := by decide +kernel
theorem dX8_day_12 : decode cX8_day 12 = .ok (.getfield 19, 3) := by decide +kernel
theorem dX8_day_15 : decode cX8_day 15 = .ok (.invokevirtual 127, 3) := by decide +kernel
theorem dX8_day_18 : decode cX8_day 18 = .ok (.aload_n 0, 1) := by decide +kernel
theorem dX8_day_19 : decode cX8_day 19 = .ok (.getfield 19, 3) := by decide +kernel
theorem dX8_day_22 : decode cX8_day 22 = .ok (.invokevirtual 130, 3) := by decide +kernel
theorem dX8_day_25 : decode cX8_day 25 = .ok (.ireturn, 1) := by decide +kernel
set_option maxRecDepth 20000 in
theorem ggX8_crown_X2_crownedBy : GoodIn wsX8_crown wsX2_crownedBy := goodIn_r _ [7, 8, 9, 10, 6, 11, 12, 13, 14, 15, 16, 17, 18, 19, 20, 21, 22, 23, 24, 25, 26, 27, 28, 29, 30, 31, 32, 33, 34, 44, 45, 46, 47] (by decide +kernel) (by decide +kernel)
set_option maxRecDepth 20000 in
theorem gX8_crown_X2_crownedBy : GoodIn wsX8_crown (wsV RX8 133 RX2 yX2_crownedBy wsX2_crownedBy) := goodIn_app (goodIn_of _ (by decide +kernel)) ggX8_crown_X2_crownedBy
theorem dX8_crown_0 : decode cX8_crown 0 = .ok (.aload_n 0, 1) := by decide +kernel
theorem dX8_crown_1 : decode cX8_crown 1 = .ok (.getfield 19, 3) := by decide +kernel
theorem dX8_crown_4 : decode cX8_crown 4 = .ok (.aload_n 0, 1) := by decide +kernel
theorem dX8_crown_5 : decode cX8_crown 5 = .ok (.getfield 65, 3) := by decide +kernel
theorem dX8_crown_8 : decode cX8_crown 8 = .ok (.invokevirtual 133, 3) := by decide +kernel
theorem dX8_crown_11 : decode cX8_crown 11 = .ok (.ireturn, 1) := by decide +kernel
set_option maxRecDepth 20000 in
theorem ggX8_noon_X2_crownedBy : GoodIn wsX8_noon wsX2_crownedBy := goodIn_r _ [8, 9, 10, 11, 7, 12, 13, 14, 15, 16, 17, 18, 19, 20, 21, 22, 23, 24, 25, 26, 27, 28, 29, 30, 31, 32, 33, 34, 35, 65, 66, 67, 68] (by decide +kernel) (by decide +kernel)
set_option maxRecDepth 20000 in
theorem gX8_noon_X2_crownedBy : GoodIn wsX8_noon (wsV RX8 133 RX2 yX2_crownedBy wsX2_crownedBy) := goodIn_app (goodIn_of _ (by decide +kernel)) ggX8_noon_X2_crownedBy
set_option maxRecDepth 20000 in
theorem ggX8_noon_X0_remember : GoodIn wsX8_noon wsX0_remember := goodIn_r _ [40, 41, 42, 43, 44, 45, 46, 7, 47, 23, 48, 49, 50, 51, 69, 70, 71, 65, 66, 67, 68] (by decide +kernel) (by decide +kernel)
set_option maxRecDepth 20000 in
theorem gX8_noon_X0_remember : GoodIn wsX8_noon (wsV RX8 116 RX0 yX0_remember wsX0_remember) := goodIn_app (goodIn_of _ (by decide +kernel)) ggX8_noon_X0_remember
set_option maxRecDepth 20000 in
theorem ggX8_noon_X2_add : GoodIn wsX8_noon wsX2_add := goodIn_r _ [55, 23, 65, 66, 67, 68] (by decide +kernel) (by decide +kernel)
set_option maxRecDepth 20000 in
theorem gX8_noon_X2_add : GoodIn wsX8_noon (wsV RX8 120 RX2 yX2_add wsX2_add) := goodIn_app (goodIn_of _ (by decide +kernel)) ggX8_noon_X2_add
theorem dX8_noon_0 : decode cX8_noon 0 = .ok (.aload_n 0, 1) := by decide +kernel
theorem dX8_noon_1 : decode cX8_noon 1 = .ok (.getfield 19, 3) := by decide +kernel
theorem dX8_noon_4 : decode cX8_noon 4 = .ok (.aload_n 0, 1) := by decide +kernel
theorem dX8_noon_5 : decode cX8_noon 5 = .ok (.getfield 65, 3) := by decide +kernel
theorem dX8_noon_8 : decode cX8_noon 8 = .ok (.invokevirtual 133, 3) := by decide +kernel
theorem dX8_noon_11 : decode cX8_noon 11 = .ok (.istore_n 1, 1) := by decide +kernel
theorem dX8_noon_12 : decode cX8_noon 12 = .ok (.aload_n 0, 1) := by decide +kernel
theorem dX8_noon_13 : decode cX8_noon 13 = .ok (.getfield 26, 3) := by decide +kernel
theorem dX8_noon_16 : decode cX8_noon 16 = .ok (.aload_n 0, 1) := by decide +kernel
theorem dX8_noon_17 : decode cX8_noon 17 = .ok (.getfield 19, 3) := by decide +kernel
theorem dX8_noon_20 : decode cX8_noon 20 = .ok (.invokevirtual 116, 3) := by decide +kernel
theorem dX8_noon_23 : decode cX8_noon 23 = .ok (.iload_n 1, 1) := by decide +kernel
theorem dX8_noon_24 : decode cX8_noon 24 = .ok (.bipush (-9), 2) := by decide +kernel
theorem dX8_noon_26 : decode cX8_noon 26 = .ok (.if_icmp .eq 13, 3) := by decide +kernel
theorem dX8_noon_29 : decode cX8_noon 29 = .ok (.aload_n 0, 1) := by decide +kernel
theorem dX8_noon_30 : decode cX8_noon 30 = .ok (.getfield 19, 3) := by decide +kernel
theorem dX8_noon_33 : decode cX8_noon 33 = .ok (.iload_n 1, 1) := by decide +kernel
theorem dX8_noon_34 : decode cX8_noon 34 = .ok (.iconst 4, 1) := by decide +kernel
theorem dX8_noon_35 : decode cX8_noon 35 = .ok (.iconst 1, 1) := by decide +kernel
theorem dX8_noon_36 : decode cX8_noon 36 = .ok (.invokevirtual 120, 3) := by decide +kernel
theorem dX8_noon_39 : decode cX8_noon 39 = .ok (.iload_n 1, 1) := by decide +kernel
theorem dX8_noon_40 : decode cX8_noon 40 = .ok (.ireturn, 1) := by decide +kernel
set_option maxRecDepth 20000 in
theorem ggX8_undo_X0_length : GoodIn wsX8_undo wsX0_length := goodIn_r _ [7, 8, 34, 35, 36] (by decide +kernel) (by decide +kernel)
set_option maxRecDepth 20000 in
theorem gX8_undo_X0_length : GoodIn wsX8_undo (wsV RX8 136 RX0 yX0_length wsX0_length) := goodIn_app (goodIn_of _ (by decide +kernel)) ggX8_undo_X0_length
set_option maxRecDepth 20000 in
theorem ggX8_undo_X0_takeBack : GoodIn wsX8_undo wsX0_takeBack := goodIn_r _ [12, 8, 13, 14, 15, 16, 17, 18, 19, 20, 21, 22, 23, 24, 34, 35, 36, 37, 38, 39, 40] (by decide +kernel) (by decide +kernel)
set_option maxRecDepth 20000 in
theorem gX8_undo_X0_takeBack : GoodIn wsX8_undo (wsV RX8 137 RX0 yX0_takeBack wsX0_takeBack) := goodIn_app (goodIn_of _ (by decide +kernel)) ggX8_undo_X0_takeBack
theorem dX8_undo_0 : decode cX8_undo 0 = .ok (.aload_n 0, 1) := by decide +kernel
theorem dX8_undo_1 : decode cX8_undo 1 = .ok (.getfield 26, 3) := by decide +kernel
theorem dX8_undo_4 : decode cX8_undo 4 = .ok (.invokevirtual 136, 3) := by decide +kernel
theorem dX8_undo_7 : decode cX8_undo 7 = .ok (.ifCond .ne 6, 3) := by decide +kernel
theorem dX8_undo_10 : decode cX8_undo 10 = .ok (.bipush (-3), 2) := by decide +kernel
theorem dX8_undo_12 : decode cX8_undo 12 = .ok (.ireturn, 1) := by decide +kernel
theorem dX8_undo_13 : decode cX8_undo 13 = .ok (.aload_n 0, 1) := by decide +kernel
theorem dX8_undo_14 : decode cX8_undo 14 = .ok (.getfield 26, 3) := by decide +kernel
theorem dX8_undo_17 : decode cX8_undo 17 = .ok (.aload_n 0, 1) := by decide +kernel
theorem dX8_undo_18 : decode cX8_undo 18 = .ok (.getfield 19, 3) := by decide +kernel
theorem dX8_undo_21 : decode cX8_undo 21 = .ok (.invokevirtual 137, 3) := by decide +kernel
theorem dX8_undo_24 : decode cX8_undo 24 = .ok (.aload_n 0, 1) := by decide +kernel
theorem dX8_undo_25 : decode cX8_undo 25 = .ok (.getfield 26, 3) := by decide +kernel
theorem dX8_undo_28 : decode cX8_undo 28 = .ok (.invokevirtual 136, 3) := by decide +kernel
theorem dX8_undo_31 : decode cX8_undo 31 = .ok (.ireturn, 1) := by decide +kernel
set_option maxRecDepth 20000 in
theorem ggX8_sure_X8_refusalOfSure : GoodIn wsX8_sure wsX8_refusalOfSure := goodIn_r _ [5, 6, 7, 8, 9, 10, 11, 12, 13, 14, 15, 16, 46, 47, 48, 49, 50, 51, 52, 53, 54, 55, 56, 57, 58] (by decide +kernel) (by decide +kernel)
set_option maxRecDepth 20000 in
theorem gX8_sure_X8_refusalOfSure : GoodIn wsX8_sure (wsV RX8 140 RX8 yX8_refusalOfSure wsX8_refusalOfSure) := goodIn_app (goodIn_of _ (by decide +kernel)) ggX8_sure_X8_refusalOfSure
set_option maxRecDepth 20000 in
theorem ggX8_sure_X8_leastSureToil : GoodIn wsX8_sure wsX8_leastSureToil := goodIn_r _ [20, 6, 21, 22, 23, 10, 24, 12, 25, 26, 27, 28, 29, 30, 31, 32, 33, 34, 35, 36, 37, 38, 39, 40, 41, 42, 46, 47, 48, 49, 50, 51, 52, 53, 54, 55, 56, 57, 58] (by decide +kernel) (by decide +kernel)
set_option maxRecDepth 20000 in
theorem gX8_sure_X8_leastSureToil : GoodIn wsX8_sure (wsV RX8 144 RX8 yX8_leastSureToil wsX8_leastSureToil) := goodIn_app (goodIn_of _ (by decide +kernel)) ggX8_sure_X8_leastSureToil
set_option maxRecDepth 20000 in
theorem ggX8_sure_X8_toilOnDay : GoodIn wsX8_sure wsX8_toilOnDay := goodIn_r _ [45] (by decide +kernel) (by decide +kernel)
set_option maxRecDepth 20000 in
theorem gX8_sure_X8_toilOnDay : GoodIn wsX8_sure (va_wsS RX8 147 yX8_toilOnDay wsX8_toilOnDay) := goodIn_app (goodIn_of _ (by decide +kernel)) ggX8_sure_X8_toilOnDay
theorem dX8_sure_0 : decode cX8_sure 0 = .ok (.aload_n 0, 1) := by decide +kernel
theorem dX8_sure_1 : decode cX8_sure 1 = .ok (.iload_n 1, 1) := by decide +kernel
theorem dX8_sure_2 : decode cX8_sure 2 = .ok (.iload_n 2, 1) := by decide +kernel
theorem dX8_sure_3 : decode cX8_sure 3 = .ok (.iload_n 3, 1) := by decide +kernel
theorem dX8_sure_4 : decode cX8_sure 4 = .ok (.invokevirtual 140, 3) := by decide +kernel
theorem dX8_sure_7 : decode cX8_sure 7 = .ok (.istore 4, 2) := by decide +kernel
theorem dX8_sure_9 : decode cX8_sure 9 = .ok (.iload 4, 2) := by decide +kernel
theorem dX8_sure_11 : decode cX8_sure 11 = .ok (.ifCond .eq 6, 3) := by decide +kernel
theorem dX8_sure_14 : decode cX8_sure 14 = .ok (.iload 4, 2) := by decide +kernel
theorem dX8_sure_16 : decode cX8_sure 16 = .ok (.ireturn, 1) := by decide +kernel
theorem dX8_sure_17 : decode cX8_sure 17 = .ok (.aload_n 0, 1) := by decide +kernel
theorem dX8_sure_18 : decode cX8_sure 18 = .ok (.iload_n 1, 1) := by decide +kernel
theorem dX8_sure_19 : decode cX8_sure 19 = .ok (.iload_n 2, 1) := by decide +kernel
theorem dX8_sure_20 : decode cX8_sure 20 = .ok (.iload_n 3, 1) := by decide +kernel
theorem dX8_sure_21 : decode cX8_sure 21 = .ok (.invokevirtual 144, 3) := by decide +kernel
theorem dX8_sure_24 : decode cX8_sure 24 = .ok (.istore 5, 2) := by decide +kernel
theorem dX8_sure_26 : decode cX8_sure 26 = .ok (.iload 5, 2) := by decide +kernel
theorem dX8_sure_28 : decode cX8_sure 28 = .ok (.bipush (-9), 2) := by decide +kernel
theorem dX8_sure_30 : decode cX8_sure 30 = .ok (.if_icmp .ne 6, 3) := by decide +kernel
theorem dX8_sure_33 : decode cX8_sure 33 = .ok (.bipush (-9), 2) := by decide +kernel
theorem dX8_sure_35 : decode cX8_sure 35 = .ok (.ireturn, 1) := by decide +kernel
theorem dX8_sure_36 : decode cX8_sure 36 = .ok (.iconst 0, 1) := by decide +kernel
theorem dX8_sure_37 : decode cX8_sure 37 = .ok (.istore 6, 2) := by decide +kernel
theorem dX8_sure_39 : decode cX8_sure 39 = .ok (.iconst 0, 1) := by decide +kernel
theorem dX8_sure_40 : decode cX8_sure 40 = .ok (.istore 7, 2) := by decide +kernel
theorem dX8_sure_42 : decode cX8_sure 42 = .ok (.iload 7, 2) := by decide +kernel
theorem dX8_sure_44 : decode cX8_sure 44 = .ok (.iload_n 2, 1) := by decide +kernel
theorem dX8_sure_45 : decode cX8_sure 45 = .ok (.if_icmp .ge 31, 3) := by decide +kernel
theorem dX8_sure_48 : decode cX8_sure 48 = .ok (.iload 6, 2) := by decide +kernel
theorem dX8_sure_50 : decode cX8_sure 50 = .ok (.iload 5, 2) := by decide +kernel
theorem dX8_sure_52 : decode cX8_sure 52 = .ok (.iload_n 2, 1) := by decide +kernel
theorem dX8_sure_53 : decode cX8_sure 53 = .ok (.iload 7, 2) := by decide +kernel
theorem dX8_sure_55 : decode cX8_sure 55 = .ok (.invokestatic 147, 3) := by decide +kernel
theorem dX8_sure_58 : decode cX8_sure 58 = .ok (.iload 5, 2) := by decide +kernel
theorem dX8_sure_60 : decode cX8_sure 60 = .ok (.iload_n 2, 1) := by decide +kernel
theorem dX8_sure_61 : decode cX8_sure 61 = .ok (.iload 7, 2) := by decide +kernel
theorem dX8_sure_63 : decode cX8_sure 63 = .ok (.invokestatic 147, 3) := by decide +kernel
theorem dX8_sure_66 : decode cX8_sure 66 = .ok (.imul, 1) := by decide +kernel
theorem dX8_sure_67 : decode cX8_sure 67 = .ok (.iadd, 1) := by decide +kernel
theorem dX8_sure_68 : decode cX8_sure 68 = .ok (.istore 6, 2) := by decide +kernel
theorem dX8_sure_70 : decode cX8_sure 70 = .ok (.iinc 7 1, 3) := by decide +kernel
theorem dX8_sure_73 : decode cX8_sure 73 = .ok (.goto (-31), 3) := by decide +kernel
theorem dX8_sure_76 : decode cX8_sure 76 = .ok (.iload 6, 2) := by decide +kernel
theorem dX8_sure_78 : decode cX8_sure 78 = .ok (.ireturn, 1) := by decide +kernel
set_option maxRecDepth 20000 in
theorem ggX8_sureAt_X8_refusalOfSure : GoodIn wsX8_sureAt wsX8_refusalOfSure := goodIn_r _ [5, 6, 7, 8, 9, 10, 11, 12, 13, 14, 15, 16, 46, 47, 48, 49, 50, 51, 52, 53, 54, 55, 56, 57, 58] (by decide +kernel) (by decide +kernel)
set_option maxRecDepth 20000 in
theorem gX8_sureAt_X8_refusalOfSure : GoodIn wsX8_sureAt (wsV RX8 140 RX8 yX8_refusalOfSure wsX8_refusalOfSure) := goodIn_app (goodIn_of _ (by decide +kernel)) ggX8_sureAt_X8_refusalOfSure
set_option maxRecDepth 20000 in
theorem ggX8_sureAt_X8_leastSureToil : GoodIn wsX8_sureAt wsX8_leastSureToil := goodIn_r _ [20, 6, 21, 22, 23, 10, 24, 12, 25, 26, 27, 28, 29, 30, 31, 32, 33, 34, 35, 36, 37, 38, 39, 40, 41, 42, 46, 47, 48, 49, 50, 51, 52, 53, 54, 55, 56, 57, 58] (by decide +kernel) (by decide +kernel)
set_option maxRecDepth 20000 in
theorem gX8_sureAt_X8_leastSureToil : GoodIn wsX8_sureAt (wsV RX8 144 RX8 yX8_leastSureToil wsX8_leastSureToil) := goodIn_app (goodIn_of _ (by decide +kernel)) ggX8_sureAt_X8_leastSureToil
set_option maxRecDepth 20000 in
theorem ggX8_sureAt_X8_toilOnDay : GoodIn wsX8_sureAt wsX8_toilOnDay := goodIn_r _ [45] (by decide +kernel) (by decide +kernel)
set_option maxRecDepth 20000 in
theorem gX8_sureAt_X8_toilOnDay : GoodIn wsX8_sureAt (va_wsS RX8 147 yX8_toilOnDay wsX8_toilOnDay) := goodIn_app (goodIn_of _ (by decide +kernel)) ggX8_sureAt_X8_toilOnDay
theorem dX8_sureAt_0 : decode cX8_sureAt 0 = .ok (.aload_n 0, 1) := by decide +kernel
theorem dX8_sureAt_1 : decode cX8_sureAt 1 = .ok (.iload_n 1, 1) := by decide +kernel
theorem dX8_sureAt_2 : decode cX8_sureAt 2 = .ok (.iload_n 2, 1) := by decide +kernel
theorem dX8_sureAt_3 : decode cX8_sureAt 3 = .ok (.iload_n 3, 1) := by decide +kernel
theorem dX8_sureAt_4 : decode cX8_sureAt 4 = .ok (.invokevirtual 140, 3) := by decide +kernel
theorem dX8_sureAt_7 : decode cX8_sureAt 7 = .ok (.istore 5, 2) := by decide +kernel
theorem dX8_sureAt_9 : decode cX8_sureAt 9 = .ok (.iload 5, 2) := by decide +kernel
theorem dX8_sureAt_11 : decode cX8_sureAt 11 = .ok (.ifCond .eq 6, 3) := by decide +kernel
theorem dX8_sureAt_14 : decode cX8_sureAt 14 = .ok (.iload 5, 2) := by decide +kernel
theorem dX8_sureAt_16 : decode cX8_sureAt 16 = .ok (.ireturn, 1) := by decide +kernel
theorem dX8_sureAt_17 : decode cX8_sureAt 17 = .ok (.aload_n 0, 1) := by decide +kernel
theorem dX8_sureAt_18 : decode cX8_sureAt 18 = .ok (.iload_n 1, 1) := by decide +kernel
theorem dX8_sureAt_19 : decode cX8_sureAt 19 = .ok (.iload_n 2, 1) := by decide +kernel
theorem dX8_sureAt_20 : decode cX8_sureAt 20 = .ok (.iload_n 3, 1) := by decide +kernel
theorem dX8_sureAt_21 : decode cX8_sureAt 21 = .ok (.invokevirtual 144, 3) := by decide +kernel
theorem dX8_sureAt_24 : decode cX8_sureAt 24 = .ok (.istore 6, 2) := by decide +kernel
theorem dX8_sureAt_26 : decode cX8_sureAt 26 = .ok (.iload 6, 2) := by decide +kernel
theorem dX8_sureAt_28 : decode cX8_sureAt 28 = .ok (.bipush (-9), 2) := by decide +kernel
theorem dX8_sureAt_30 : decode cX8_sureAt 30 = .ok (.if_icmp .eq 14, 3) := by decide +kernel
theorem dX8_sureAt_33 : decode cX8_sureAt 33 = .ok (.iload 4, 2) := by decide +kernel
theorem dX8_sureAt_35 : decode cX8_sureAt 35 = .ok (.ifCond .lt 9, 3) := by decide +kernel
theorem dX8_sureAt_38 : decode cX8_sureAt 38 = .ok (.iload 4, 2) := by decide +kernel
theorem dX8_sureAt_40 : decode cX8_sureAt 40 = .ok (.iload_n 2, 1) := by decide +kernel
theorem dX8_sureAt_41 : decode cX8_sureAt 41 = .ok (.if_icmp .lt 8, 3) := by decide +kernel
theorem dX8_sureAt_44 : decode cX8_sureAt 44 = .ok (.bipush (-9), 2) := by decide +kernel
theorem dX8_sureAt_46 : decode cX8_sureAt 46 = .ok (.goto 11, 3) := by decide +kernel
theorem dX8_sureAt_49 : decode cX8_sureAt 49 = .ok (.iload 6, 2) := by decide +kernel
theorem dX8_sureAt_51 : decode cX8_sureAt 51 = .ok (.iload_n 2, 1) := by decide +kernel
theorem dX8_sureAt_52 : decode cX8_sureAt 52 = .ok (.iload 4, 2) := by decide +kernel
theorem dX8_sureAt_54 : decode cX8_sureAt 54 = .ok (.invokestatic 147, 3) := by decide +kernel
theorem dX8_sureAt_57 : decode cX8_sureAt 57 = .ok (.ireturn, 1) := by decide +kernel
set_option maxRecDepth 20000 in
theorem ggX8_refusalOfSure_X2_has : GoodIn wsX8_refusalOfSure wsX2_has := goodIn_r _ [6, 7, 21, 22, 23, 24] (by decide +kernel) (by decide +kernel)
set_option maxRecDepth 20000 in
theorem gX8_refusalOfSure_X2_has : GoodIn wsX8_refusalOfSure (wsV RX8 96 RX2 yX2_has wsX2_has) := goodIn_app (goodIn_of _ (by decide +kernel)) ggX8_refusalOfSure_X2_has
set_option maxRecDepth 20000 in
theorem ggX8_refusalOfSure_X2_size : GoodIn wsX8_refusalOfSure wsX2_size := goodIn_r _ [11, 7, 21, 22, 23, 24] (by decide +kernel) (by decide +kernel)
set_option maxRecDepth 20000 in
theorem gX8_refusalOfSure_X2_size : GoodIn wsX8_refusalOfSure (wsV RX8 93 RX2 yX2_size wsX2_size) := goodIn_app (goodIn_of _ (by decide +kernel)) ggX8_refusalOfSure_X2_size
theorem dX8_refusalOfSure_0 : decode cX8_refusalOfSure 0 = .ok (.aload_n 0, 1) := by decide +kernel
theorem dX8_refusalOfSure_1 : decode cX8_refusalOfSure 1 = .ok (.getfield 19, 3) := by decide +kernel
theorem dX8_refusalOfSure_4 : decode cX8_refusalOfSure 4 = .ok (.iload_n 1, 1) := by decide +kernel
theorem dX8_refusalOfSure_5 : decode cX8_refusalOfSure 5 = .ok (.invokevirtual 96, 3) := by decide +kernel
theorem dX8_refusalOfSure_8 : decode cX8_refusalOfSure 8 = .ok (.ifCond .ne 5, 3) := by decide +kernel
theorem dX8_refusalOfSure_11 : decode cX8_refusalOfSure 11 = .ok (.iconst (-1), 1) := by decide +kernel
theorem dX8_refusalOfSure_12 : decode cX8_refusalOfSure 12 = .ok (.ireturn, 1) := by decide +kernel
theorem dX8_refusalOfSure_13 : decode cX8_refusalOfSure 13 = .ok (.iload_n 2, 1) := by decide +kernel
theorem dX8_refusalOfSure_14 : decode cX8_refusalOfSure 14 = .ok (.iconst 1, 1) := by decide +kernel
theorem dX8_refusalOfSure_15 : decode cX8_refusalOfSure 15 = .ok (.if_icmp .lt 18, 3) := by decide +kernel
theorem dX8_refusalOfSure_18 : decode cX8_refusalOfSure 18 = .ok (.iload_n 2, 1) := by decide +kernel
theorem dX8_refusalOfSure_19 : decode cX8_refusalOfSure 19 = .ok (.iconst 5, 1) := by decide +kernel
theorem dX8_refusalOfSure_20 : decode cX8_refusalOfSure 20 = .ok (.if_icmp .gt 13, 3) := by decide +kernel
theorem dX8_refusalOfSure_23 : decode cX8_refusalOfSure 23 = .ok (.iload_n 3, 1) := by decide +kernel
theorem dX8_refusalOfSure_24 : decode cX8_refusalOfSure 24 = .ok (.ifCond .lt 9, 3) := by decide +kernel
theorem dX8_refusalOfSure_27 : decode cX8_refusalOfSure 27 = .ok (.iload_n 3, 1) := by decide +kernel
theorem dX8_refusalOfSure_28 : decode cX8_refusalOfSure 28 = .ok (.bipush 9, 2) := by decide +kernel
theorem dX8_refusalOfSure_30 : decode cX8_refusalOfSure 30 = .ok (.if_icmp .le 6, 3) := by decide +kernel
theorem dX8_refusalOfSure_33 : decode cX8_refusalOfSure 33 = .ok (.bipush (-2), 2) := by decide +kernel
theorem dX8_refusalOfSure_35 : decode cX8_refusalOfSure 35 = .ok (.ireturn, 1) := by decide +kernel
theorem dX8_refusalOfSure_36 : decode cX8_refusalOfSure 36 = .ok (.aload_n 0, 1) := by decide +kernel
theorem dX8_refusalOfSure_37 : decode cX8_refusalOfSure 37 = .ok (.getfield 19, 3) := by decide +kernel
theorem dX8_refusalOfSure_40 : decode cX8_refusalOfSure 40 = .ok (.invokevirtual 93, 3) := by decide +kernel
theorem dX8_refusalOfSure_43 : decode cX8_refusalOfSure 43 = .ok (.iconst 1, 1) := by decide +kernel
theorem dX8_refusalOfSure_44 : decode cX8_refusalOfSure 44 = .ok (.if_icmp .ne 8, 3) := by decide +kernel
theorem dX8_refusalOfSure_47 : decode cX8_refusalOfSure 47 = .ok (.bipush (-3), 2) := by decide +kernel
theorem dX8_refusalOfSure_49 : decode cX8_refusalOfSure 49 = .ok (.goto 4, 3) := by decide +kernel
theorem dX8_refusalOfSure_52 : decode cX8_refusalOfSure 52 = .ok (.iconst 0, 1) := by decide +kernel
theorem dX8_refusalOfSure_53 : decode cX8_refusalOfSure 53 = .ok (.ireturn, 1) := by decide +kernel
set_option maxRecDepth 20000 in
theorem ggX8_leastSureToil_X2_winsWith : GoodIn wsX8_leastSureToil wsX2_winsWith := goodIn_r _ [6, 7, 8, 9, 10, 5, 11, 12, 13, 14, 15, 16, 17, 18, 19, 20, 21, 22, 23, 24, 25, 35, 36, 37, 38] (by decide +kernel) (by decide +kernel)
set_option maxRecDepth 20000 in
theorem gX8_leastSureToil_X2_winsWith : GoodIn wsX8_leastSureToil (wsV RX8 150 RX2 yX2_winsWith wsX2_winsWith) := goodIn_app (goodIn_of _ (by decide +kernel)) ggX8_leastSureToil_X2_winsWith
theorem dX8_leastSureToil_0 : decode cX8_leastSureToil 0 = .ok (.iconst 0, 1) := by decide +kernel
theorem dX8_leastSureToil_1 : decode cX8_leastSureToil 1 = .ok (.istore 4, 2) := by decide +kernel
theorem dX8_leastSureToil_3 : decode cX8_leastSureToil 3 = .ok (.iload 4, 2) := by decide +kernel
theorem dX8_leastSureToil_5 : decode cX8_leastSureToil 5 = .ok (.bipush 9, 2) := by decide +kernel
theorem dX8_leastSureToil_7 : decode cX8_leastSureToil 7 = .ok (.iload_n 2, 1) := by decide +kernel
theorem dX8_leastSureToil_8 : decode cX8_leastSureToil 8 = .ok (.imul, 1) := by decide +kernel
theorem dX8_leastSureToil_9 : decode cX8_leastSureToil 9 = .ok (.if_icmp .gt 27, 3) := by decide +kernel
theorem dX8_leastSureToil_12 : decode cX8_leastSureToil 12 = .ok (.aload_n 0, 1) := by decide +kernel
theorem dX8_leastSureToil_13 : decode cX8_leastSureToil 13 = .ok (.getfield 19, 3) := by decide +kernel
theorem dX8_leastSureToil_16 : decode cX8_leastSureToil 16 = .ok (.iload_n 1, 1) := by decide +kernel
theorem dX8_leastSureToil_17 : decode cX8_leastSureToil 17 = .ok (.iload 4, 2) := by decide +kernel
theorem dX8_leastSureToil_19 : decode cX8_leastSureToil 19 = .ok (.iload_n 2, 1) := by decide +kernel
theorem dX8_leastSureToil_20 : decode cX8_leastSureToil 20 = .ok (.iload_n 3, 1) := by decide +kernel
theorem dX8_leastSureToil_21 : decode cX8_leastSureToil 21 = .ok (.invokevirtual 150, 3) := by decide +kernel
theorem dX8_leastSureToil_24 : decode cX8_leastSureToil 24 = .ok (.ifCond .eq 6, 3) := by decide +kernel
theorem dX8_leastSureToil_27 : decode cX8_leastSureToil 27 = .ok (.iload 4, 2) := by decide +kernel
theorem dX8_leastSureToil_29 : decode cX8_leastSureToil 29 = .ok (.ireturn, 1) := by decide +kernel
theorem dX8_leastSureToil_30 : decode cX8_leastSureToil 30 = .ok (.iinc 4 1, 3) := by decide +kernel
theorem dX8_leastSureToil_33 : decode cX8_leastSureToil 33 = .ok (.goto (-30), 3) := by decide +kernel
theorem dX8_leastSureToil_36 : decode cX8_leastSureToil 36 = .ok (.bipush (-9), 2) := by decide +kernel
theorem dX8_leastSureToil_38 : decode cX8_leastSureToil 38 = .ok (.ireturn, 1) := by decide +kernel
theorem dX8_toilOnDay_0 : decode cX8_toilOnDay 0 = .ok (.iload_n 1, 1) := by decide +kernel
theorem dX8_toilOnDay_1 : decode cX8_toilOnDay 1 = .ok (.iconst 1, 1) := by decide +kernel
theorem dX8_toilOnDay_2 : decode cX8_toilOnDay 2 = .ok (.if_icmp .ge 7, 3) := by decide +kernel
theorem dX8_toilOnDay_5 : decode cX8_toilOnDay 5 = .ok (.iconst 0, 1) := by decide +kernel
theorem dX8_toilOnDay_6 : decode cX8_toilOnDay 6 = .ok (.goto 8, 3) := by decide +kernel
theorem dX8_toilOnDay_9 : decode cX8_toilOnDay 9 = .ok (.iload_n 0, 1) := by decide +kernel
theorem dX8_toilOnDay_10 : decode cX8_toilOnDay 10 = .ok (.iload_n 2, 1) := by decide +kernel
theorem dX8_toilOnDay_11 : decode cX8_toilOnDay 11 = .ok (.iadd, 1) := by decide +kernel
theorem dX8_toilOnDay_12 : decode cX8_toilOnDay 12 = .ok (.iload_n 1, 1) := by decide +kernel
theorem dX8_toilOnDay_13 : decode cX8_toilOnDay 13 = .ok (.idiv, 1) := by decide +kernel
theorem dX8_toilOnDay_14 : decode cX8_toilOnDay 14 = .ok (.ireturn, 1) := by decide +kernel
set_option maxRecDepth 20000 in
theorem ggX8_feed_X2_has : GoodIn wsX8_feed wsX2_has := goodIn_r _ [6, 7, 34, 35, 36, 37] (by decide +kernel) (by decide +kernel)
set_option maxRecDepth 20000 in
theorem gX8_feed_X2_has : GoodIn wsX8_feed (wsV RX8 96 RX2 yX2_has wsX2_has) := goodIn_app (goodIn_of _ (by decide +kernel)) ggX8_feed_X2_has
set_option maxRecDepth 20000 in
theorem ggX8_feed_X2_loavesToWin : GoodIn wsX8_feed wsX2_loavesToWin := goodIn_r _ [11, 7, 12, 13, 14, 5, 15, 16, 17, 18, 19, 20, 21, 22, 23, 24, 34, 35, 36, 37] (by decide +kernel) (by decide +kernel)
set_option maxRecDepth 20000 in
theorem gX8_feed_X2_loavesToWin : GoodIn wsX8_feed (wsV RX8 154 RX2 yX2_loavesToWin wsX2_loavesToWin) := goodIn_app (goodIn_of _ (by decide +kernel)) ggX8_feed_X2_loavesToWin
theorem dX8_feed_0 : decode cX8_feed 0 = .ok (.aload_n 0, 1) := by decide +kernel
theorem dX8_feed_1 : decode cX8_feed 1 = .ok (.getfield 19, 3) := by decide +kernel
theorem dX8_feed_4 : decode cX8_feed 4 = .ok (.iload_n 1, 1) := by decide +kernel
theorem dX8_feed_5 : decode cX8_feed 5 = .ok (.invokevirtual 96, 3) := by decide +kernel
theorem dX8_feed_8 : decode cX8_feed 8 = .ok (.ifCond .eq 14, 3) := by decide +kernel
theorem dX8_feed_11 : decode cX8_feed 11 = .ok (.aload_n 0, 1) := by decide +kernel
theorem dX8_feed_12 : decode cX8_feed 12 = .ok (.getfield 19, 3) := by decide +kernel
theorem dX8_feed_15 : decode cX8_feed 15 = .ok (.iload_n 1, 1) := by decide +kernel
theorem dX8_feed_16 : decode cX8_feed 16 = .ok (.invokevirtual 154, 3) := by decide +kernel
theorem dX8_feed_19 : decode cX8_feed 19 = .ok (.goto 4, 3) := by decide +kernel
theorem dX8_feed_22 : decode cX8_feed 22 = .ok (.iconst (-1), 1) := by decide +kernel
theorem dX8_feed_23 : decode cX8_feed 23 = .ok (.ireturn, 1) := by decide +kernel
set_option maxRecDepth 20000 in
theorem ggX8_weigh_X6_mayStand : GoodIn wsX8_weigh wsX6_mayStand := goodIn_r _ [5, 6, 7, 8, 9, 10, 11, 12] (by decide +kernel) (by decide +kernel)
set_option maxRecDepth 20000 in
theorem gX8_weigh_X6_mayStand : GoodIn wsX8_weigh (va_wsS RX8 157 yX6_mayStand wsX6_mayStand) := goodIn_app (goodIn_of _ (by decide +kernel)) ggX8_weigh_X6_mayStand
set_option maxRecDepth 20000 in
theorem ggX8_weigh_X6_append : GoodIn wsX8_weigh wsX6_append := goodIn_r _ [16, 17, 18, 19, 20, 34, 35, 36, 37] (by decide +kernel) (by decide +kernel)
set_option maxRecDepth 20000 in
theorem gX8_weigh_X6_append : GoodIn wsX8_weigh (wsV RX8 161 RX6 yX6_append wsX6_append) := goodIn_app (goodIn_of _ (by decide +kernel)) ggX8_weigh_X6_append
set_option maxRecDepth 20000 in
theorem ggX8_weigh_X6_length : GoodIn wsX8_weigh wsX6_length := goodIn_r _ [24, 17, 34, 35, 36, 37] (by decide +kernel) (by decide +kernel)
set_option maxRecDepth 20000 in
theorem gX8_weigh_X6_length : GoodIn wsX8_weigh (wsV RX8 164 RX6 yX6_length wsX6_length) := goodIn_app (goodIn_of _ (by decide +kernel)) ggX8_weigh_X6_length
theorem dX8_weigh_0 : decode cX8_weigh 0 = .ok (.iload_n 1, 1) := by decide +kernel
theorem dX8_weigh_1 : decode cX8_weigh 1 = .ok (.iload_n 2, 1) := by decide +kernel
theorem dX8_weigh_2 : decode cX8_weigh 2 = .ok (.invokestatic 157, 3) := by decide +kernel
theorem dX8_weigh_5 : decode cX8_weigh 5 = .ok (.ifCond .eq 12, 3) := by decide +kernel
theorem dX8_weigh_8 : decode cX8_weigh 8 = .ok (.iload_n 3, 1) := by decide +kernel
theorem dX8_weigh_9 : decode cX8_weigh 9 = .ok (.ifCond .lt 8, 3) := by decide +kernel
theorem dX8_weigh_12 : decode cX8_weigh 12 = .ok (.iload_n 3, 1) := by decide +kernel
theorem dX8_weigh_13 : decode cX8_weigh 13 = .ok (.iconst 2, 1) := by decide +kernel
theorem dX8_weigh_14 : decode cX8_weigh 14 = .ok (.if_icmp .le 6, 3) := by decide +kernel
theorem dX8_weigh_17 : decode cX8_weigh 17 = .ok (.bipush (-2), 2) := by decide +kernel
theorem dX8_weigh_19 : decode cX8_weigh 19 = .ok (.ireturn, 1) := by decide +kernel
theorem dX8_weigh_20 : decode cX8_weigh 20 = .ok (.aload_n 0, 1) := by decide +kernel
theorem dX8_weigh_21 : decode cX8_weigh 21 = .ok (.getfield 40, 3) := by decide +kernel
theorem dX8_weigh_24 : decode cX8_weigh 24 = .ok (.iload_n 1, 1) := by decide +kernel
theorem dX8_weigh_25 : decode cX8_weigh 25 = .ok (.iload_n 2, 1) := by decide +kernel
theorem dX8_weigh_26 : decode cX8_weigh 26 = .ok (.iload_n 3, 1) := by decide +kernel
theorem dX8_weigh_27 : decode cX8_weigh 27 = .ok (.invokevirtual 161, 3) := by decide +kernel
theorem dX8_weigh_30 : decode cX8_weigh 30 = .ok (.ifCond .eq 13, 3) := by decide +kernel
theorem dX8_weigh_33 : decode cX8_weigh 33 = .ok (.aload_n 0, 1) := by decide +kernel
theorem dX8_weigh_34 : decode cX8_weigh 34 = .ok (.getfield 40, 3) := by decide +kernel
theorem dX8_weigh_37 : decode cX8_weigh 37 = .ok (.invokevirtual 164, 3) := by decide +kernel
theorem dX8_weigh_40 : decode cX8_weigh 40 = .ok (.goto 5, 3) := by decide +kernel
theorem dX8_weigh_43 : decode cX8_weigh 43 = .ok (.bipush (-4), 2) := by decide +kernel
theorem dX8_weigh_45 : decode cX8_weigh 45 = .ok (.ireturn, 1) := by decide +kernel
set_option maxRecDepth 20000 in
theorem ggX8_unweigh_X6_length : GoodIn wsX8_unweigh wsX6_length := goodIn_r _ [6, 7, 21, 22, 23, 24] (by decide +kernel) (by decide +kernel)
set_option maxRecDepth 20000 in
theorem gX8_unweigh_X6_length : GoodIn wsX8_unweigh (wsV RX8 164 RX6 yX6_length wsX6_length) := goodIn_app (goodIn_of _ (by decide +kernel)) ggX8_unweigh_X6_length
set_option maxRecDepth 20000 in
theorem ggX8_unweigh_X6_clear : GoodIn wsX8_unweigh wsX6_clear := goodIn_r _ [11, 7, 21, 22, 23, 24] (by decide +kernel) (by decide +kernel)
set_option maxRecDepth 20000 in
theorem gX8_unweigh_X6_clear : GoodIn wsX8_unweigh (wsV RX8 165 RX6 yX6_clear wsX6_clear) := goodIn_app (goodIn_of _ (by decide +kernel)) ggX8_unweigh_X6_clear
theorem dX8_unweigh_0 : decode cX8_unweigh 0 = .ok (.aload_n 0, 1) := by decide +kernel
theorem dX8_unweigh_1 : decode cX8_unweigh 1 = .ok (.getfield 40, 3) := by decide +kernel
theorem dX8_unweigh_4 : decode cX8_unweigh 4 = .ok (.invokevirtual 164, 3) := by decide +kernel
theorem dX8_unweigh_7 : decode cX8_unweigh 7 = .ok (.istore_n 1, 1) := by decide +kernel
theorem dX8_unweigh_8 : decode cX8_unweigh 8 = .ok (.aload_n 0, 1) := by decide +kernel
theorem dX8_unweigh_9 : decode cX8_unweigh 9 = .ok (.getfield 40, 3) := by decide +kernel
theorem dX8_unweigh_12 : decode cX8_unweigh 12 = .ok (.invokevirtual 165, 3) := by decide +kernel
theorem dX8_unweigh_15 : decode cX8_unweigh 15 = .ok (.iload_n 1, 1) := by decide +kernel
theorem dX8_unweigh_16 : decode cX8_unweigh 16 = .ok (.ireturn, 1) := by decide +kernel
set_option maxRecDepth 20000 in
theorem ggX8_mayBe_X6_suspects : GoodIn wsX8_mayBe wsX6_suspects := goodIn_r _ [6, 7, 8, 9, 10, 5, 11, 12, 13, 14, 24, 25, 26, 27] (by decide +kernel) (by decide +kernel)
set_option maxRecDepth 20000 in
theorem gX8_mayBe_X6_suspects : GoodIn wsX8_mayBe (wsV RX8 166 RX6 yX6_suspects wsX6_suspects) := goodIn_app (goodIn_of _ (by decide +kernel)) ggX8_mayBe_X6_suspects
theorem dX8_mayBe_0 : decode cX8_mayBe 0 = .ok (.aload_n 0, 1) := by decide +kernel
theorem dX8_mayBe_1 : decode cX8_mayBe 1 = .ok (.getfield 40, 3) := by decide +kernel
theorem dX8_mayBe_4 : decode cX8_mayBe 4 = .ok (.iload_n 1, 1) := by decide +kernel
theorem dX8_mayBe_5 : decode cX8_mayBe 5 = .ok (.invokevirtual 166, 3) := by decide +kernel
theorem dX8_mayBe_8 : decode cX8_mayBe 8 = .ok (.ireturn, 1) := by decide +kernel
set_option maxRecDepth 20000 in
theorem ggX8_search_X4_append : GoodIn wsX8_search wsX4_append := goodIn_r _ [6, 7, 8, 9, 10, 24, 25, 26, 27, 28, 29, 30] (by decide +kernel) (by decide +kernel)
set_option maxRecDepth 20000 in
theorem gX8_search_X4_append : GoodIn wsX8_search (wsV RX8 170 RX4 yX4_append wsX4_append) := goodIn_app (goodIn_of _ (by decide +kernel)) ggX8_search_X4_append
set_option maxRecDepth 20000 in
theorem ggX8_search_X4_length : GoodIn wsX8_search wsX4_length := goodIn_r _ [14, 7, 24, 25, 26, 27, 28, 29, 30] (by decide +kernel) (by decide +kernel)
set_option maxRecDepth 20000 in
theorem gX8_search_X4_length : GoodIn wsX8_search (wsV RX8 172 RX4 yX4_length wsX4_length) := goodIn_app (goodIn_of _ (by decide +kernel)) ggX8_search_X4_length
theorem dX8_search_0 : decode cX8_search 0 = .ok (.iload_n 1, 1) := by decide +kernel
theorem dX8_search_1 : decode cX8_search 1 = .ok (.iconst 1, 1) := by decide +kernel
theorem dX8_search_2 : decode cX8_search 2 = .ok (.if_icmp .lt 19, 3) := by decide +kernel
theorem dX8_search_5 : decode cX8_search 5 = .ok (.iload_n 1, 1) := by decide +kernel
theorem dX8_search_6 : decode cX8_search 6 = .ok (.bipush 31, 2) := by decide +kernel
theorem dX8_search_8 : decode cX8_search 8 = .ok (.if_icmp .gt 13, 3) := by decide +kernel
theorem dX8_search_11 : decode cX8_search 11 = .ok (.iload_n 2, 1) := by decide +kernel
theorem dX8_search_12 : decode cX8_search 12 = .ok (.ifCond .lt 9, 3) := by decide +kernel
theorem dX8_search_15 : decode cX8_search 15 = .ok (.iload_n 2, 1) := by decide +kernel
theorem dX8_search_16 : decode cX8_search 16 = .ok (.bipush 45, 2) := by decide +kernel
theorem dX8_search_18 : decode cX8_search 18 = .ok (.if_icmp .le 6, 3) := by decide +kernel
theorem dX8_search_21 : decode cX8_search 21 = .ok (.bipush (-2), 2) := by decide +kernel
theorem dX8_search_23 : decode cX8_search 23 = .ok (.ireturn, 1) := by decide +kernel
theorem dX8_search_24 : decode cX8_search 24 = .ok (.aload_n 0, 1) := by decide +kernel
theorem dX8_search_25 : decode cX8_search 25 = .ok (.getfield 47, 3) := by decide +kernel
theorem dX8_search_28 : decode cX8_search 28 = .ok (.iload_n 1, 1) := by decide +kernel
theorem dX8_search_29 : decode cX8_search 29 = .ok (.iload_n 2, 1) := by decide +kernel
theorem dX8_search_30 : decode cX8_search 30 = .ok (.invokevirtual 170, 3) := by decide +kernel
theorem dX8_search_33 : decode cX8_search 33 = .ok (.ifCond .eq 13, 3) := by decide +kernel
theorem dX8_search_36 : decode cX8_search 36 = .ok (.aload_n 0, 1) := by decide +kernel
theorem dX8_search_37 : decode cX8_search 37 = .ok (.getfield 47, 3) := by decide +kernel
theorem dX8_search_40 : decode cX8_search 40 = .ok (.invokevirtual 172, 3) := by decide +kernel
theorem dX8_search_43 : decode cX8_search 43 = .ok (.goto 5, 3) := by decide +kernel
theorem dX8_search_46 : decode cX8_search 46 = .ok (.bipush (-4), 2) := by decide +kernel
theorem dX8_search_48 : decode cX8_search 48 = .ok (.ireturn, 1) := by decide +kernel
set_option maxRecDepth 20000 in
theorem ggX8_unsearch_X4_length : GoodIn wsX8_unsearch wsX4_length := goodIn_r _ [6, 7, 22, 23, 24, 25, 26, 27, 28] (by decide +kernel) (by decide +kernel)
set_option maxRecDepth 20000 in
theorem gX8_unsearch_X4_length : GoodIn wsX8_unsearch (wsV RX8 172 RX4 yX4_length wsX4_length) := goodIn_app (goodIn_of _ (by decide +kernel)) ggX8_unsearch_X4_length
set_option maxRecDepth 20000 in
theorem ggX8_unsearch_X4_clear : GoodIn wsX8_unsearch wsX4_clear := goodIn_r _ [11, 7, 12, 22, 23, 24, 25, 26, 27, 28] (by decide +kernel) (by decide +kernel)
set_option maxRecDepth 20000 in
theorem gX8_unsearch_X4_clear : GoodIn wsX8_unsearch (wsV RX8 173 RX4 yX4_clear wsX4_clear) := goodIn_app (goodIn_of _ (by decide +kernel)) ggX8_unsearch_X4_clear
theorem dX8_unsearch_0 : decode cX8_unsearch 0 = .ok (.aload_n 0, 1) := by decide +kernel
theorem dX8_unsearch_1 : decode cX8_unsearch 1 = .ok (.getfield 47, 3) := by decide +kernel
theorem dX8_unsearch_4 : decode cX8_unsearch 4 = .ok (.invokevirtual 172, 3) := by decide +kernel
theorem dX8_unsearch_7 : decode cX8_unsearch 7 = .ok (.istore_n 1, 1) := by decide +kernel
theorem dX8_unsearch_8 : decode cX8_unsearch 8 = .ok (.aload_n 0, 1) := by decide +kernel
theorem dX8_unsearch_9 : decode cX8_unsearch 9 = .ok (.getfield 47, 3) := by decide +kernel
theorem dX8_unsearch_12 : decode cX8_unsearch 12 = .ok (.invokevirtual 173, 3) := by decide +kernel
theorem dX8_unsearch_15 : decode cX8_unsearch 15 = .ok (.iload_n 1, 1) := by decide +kernel
theorem dX8_unsearch_16 : decode cX8_unsearch 16 = .ok (.ireturn, 1) := by decide +kernel
set_option maxRecDepth 20000 in
theorem ggX8_rows_X4_fittingRows : GoodIn wsX8_rows wsX4_fittingRows := goodIn_r _ [6, 7, 8, 9, 10, 11, 12, 13, 14, 15, 16, 5, 17, 18, 19, 20, 21, 22, 23, 24, 25, 26, 27, 28, 29, 30, 31, 32, 33, 34, 35, 36, 37, 38, 39, 40, 41, 42, 43, 44, 45, 46, 47, 48, 49, 50, 51, 52, 53, 54, 55, 56, 57, 58, 68, 69, 70, 71, 72, 73, 74] (by decide +kernel) (by decide +kernel)
set_option maxRecDepth 20000 in
theorem gX8_rows_X4_fittingRows : GoodIn wsX8_rows (wsV RX8 174 RX4 yX4_fittingRows wsX4_fittingRows) := goodIn_app (goodIn_of _ (by decide +kernel)) ggX8_rows_X4_fittingRows
theorem dX8_rows_0 : decode cX8_rows 0 = .ok (.aload_n 0, 1) := by decide +kernel
theorem dX8_rows_1 : decode cX8_rows 1 = .ok (.getfield 47, 3) := by decide +kernel
theorem dX8_rows_4 : decode cX8_rows 4 = .ok (.invokevirtual 174, 3) := by decide +kernel
theorem dX8_rows_7 : decode cX8_rows 7 = .ok (.ireturn, 1) := by decide +kernel
set_option maxRecDepth 20000 in
theorem ggX8_stones_X4_fittingRows : GoodIn wsX8_stones wsX4_fittingRows := goodIn_r _ [6, 7, 8, 9, 10, 11, 12, 13, 14, 15, 16, 5, 17, 18, 19, 20, 21, 22, 23, 24, 25, 26, 27, 28, 29, 30, 31, 32, 33, 34, 35, 36, 37, 38, 39, 40, 41, 42, 43, 44, 45, 46, 47, 48, 49, 50, 51, 52, 53, 54, 55, 56, 57, 58, 76, 77, 78, 79, 80, 81, 82] (by decide +kernel) (by decide +kernel)
set_option maxRecDepth 20000 in
theorem gX8_stones_X4_fittingRows : GoodIn wsX8_stones (wsV RX8 174 RX4 yX4_fittingRows wsX4_fittingRows) := goodIn_app (goodIn_of _ (by decide +kernel)) ggX8_stones_X4_fittingRows
set_option maxRecDepth 20000 in
theorem ggX8_stones_X4_mostOf : GoodIn wsX8_stones wsX4_mostOf := goodIn_r _ [62, 9, 76, 77, 78, 79, 80, 81, 82] (by decide +kernel) (by decide +kernel)
set_option maxRecDepth 20000 in
theorem gX8_stones_X4_mostOf : GoodIn wsX8_stones (wsV RX8 177 RX4 yX4_mostOf wsX4_mostOf) := goodIn_app (goodIn_of _ (by decide +kernel)) ggX8_stones_X4_mostOf
set_option maxRecDepth 20000 in
theorem ggX8_stones_X4_leastOf : GoodIn wsX8_stones wsX4_leastOf := goodIn_r _ [66, 8, 76, 77, 78, 79, 80, 81, 82] (by decide +kernel) (by decide +kernel)
set_option maxRecDepth 20000 in
theorem gX8_stones_X4_leastOf : GoodIn wsX8_stones (wsV RX8 180 RX4 yX4_leastOf wsX4_leastOf) := goodIn_app (goodIn_of _ (by decide +kernel)) ggX8_stones_X4_leastOf
theorem dX8_stones_0 : decode cX8_stones 0 = .ok (.iload_n 1, 1) := by decide +kernel
theorem dX8_stones_1 : decode cX8_stones 1 = .ok (.ifCond .lt 8, 3) := by decide +kernel
theorem dX8_stones_4 : decode cX8_stones 4 = .ok (.iload_n 1, 1) := by decide +kernel
theorem dX8_stones_5 : decode cX8_stones 5 = .ok (.iconst 5, 1) := by decide +kernel
theorem dX8_stones_6 : decode cX8_stones 6 = .ok (.if_icmp .lt 6, 3) := by decide +kernel
theorem dX8_stones_9 : decode cX8_stones 9 = .ok (.bipush (-2), 2) := by decide +kernel
theorem dX8_stones_11 : decode cX8_stones 11 = .ok (.ireturn, 1) := by decide +kernel
theorem dX8_stones_12 : decode cX8_stones 12 = .ok (.aload_n 0, 1) := by decide +kernel
theorem dX8_stones_13 : decode cX8_stones 13 = .ok (.getfield 47, 3) := by decide +kernel
theorem dX8_stones_16 : decode cX8_stones 16 = .ok (.invokevirtual 174, 3) := by decide +kernel
theorem dX8_stones_19 : decode cX8_stones 19 = .ok (.ifCond .ne 6, 3) := by decide +kernel
theorem dX8_stones_22 : decode cX8_stones 22 = .ok (.bipush (-9), 2) := by decide +kernel
theorem dX8_stones_24 : decode cX8_stones 24 = .ok (.ireturn, 1) := by decide +kernel
theorem dX8_stones_25 : decode cX8_stones 25 = .ok (.iload_n 2, 1) := by decide +kernel
theorem dX8_stones_26 : decode cX8_stones 26 = .ok (.ifCond .eq 14, 3) := by decide +kernel
theorem dX8_stones_29 : decode cX8_stones 29 = .ok (.aload_n 0, 1) := by decide +kernel
theorem dX8_stones_30 : decode cX8_stones 30 = .ok (.getfield 47, 3) := by decide +kernel
theorem dX8_stones_33 : decode cX8_stones 33 = .ok (.iload_n 1, 1) := by decide +kernel
theorem dX8_stones_34 : decode cX8_stones 34 = .ok (.invokevirtual 177, 3) := by decide +kernel
theorem dX8_stones_37 : decode cX8_stones 37 = .ok (.goto 11, 3) := by decide +kernel
theorem dX8_stones_40 : decode cX8_stones 40 = .ok (.aload_n 0, 1) := by decide +kernel
theorem dX8_stones_41 : decode cX8_stones 41 = .ok (.getfield 47, 3) := by decide +kernel
theorem dX8_stones_44 : decode cX8_stones 44 = .ok (.iload_n 1, 1) := by decide +kernel
theorem dX8_stones_45 : decode cX8_stones 45 = .ok (.invokevirtual 180, 3) := by decide +kernel
theorem dX8_stones_48 : decode cX8_stones 48 = .ok (.ireturn, 1) := by decide +kernel
set_option maxRecDepth 20000 in
theorem ggX8_ruled_X2_has : GoodIn wsX8_ruled wsX2_has := goodIn_r _ [7, 8, 29, 30, 31, 32] (by decide +kernel) (by decide +kernel)
set_option maxRecDepth 20000 in
theorem gX8_ruled_X2_has : GoodIn wsX8_ruled (wsV RX8 96 RX2 yX2_has wsX2_has) := goodIn_app (goodIn_of _ (by decide +kernel)) ggX8_ruled_X2_has
set_option maxRecDepth 20000 in
theorem ggX8_ruled_X3_append : GoodIn wsX8_ruled wsX3_append := goodIn_r _ [13, 14, 15, 33, 34, 35, 36] (by decide +kernel) (by decide +kernel)
set_option maxRecDepth 20000 in
theorem gX8_ruled_X3_append : GoodIn wsX8_ruled (wsV RX8 183 RX3 yX3_append wsX3_append) := goodIn_app (goodIn_of _ (by decide +kernel)) ggX8_ruled_X3_append
set_option maxRecDepth 20000 in
theorem ggX8_ruled_X3_length : GoodIn wsX8_ruled wsX3_length := goodIn_r _ [19, 14, 33, 34, 35, 36] (by decide +kernel) (by decide +kernel)
set_option maxRecDepth 20000 in
theorem gX8_ruled_X3_length : GoodIn wsX8_ruled (wsV RX8 185 RX3 yX3_length wsX3_length) := goodIn_app (goodIn_of _ (by decide +kernel)) ggX8_ruled_X3_length
theorem dX8_ruled_0 : decode cX8_ruled 0 = .ok (.aload_n 0, 1) := by decide +kernel
theorem dX8_ruled_1 : decode cX8_ruled 1 = .ok (.getfield 19, 3) := by decide +kernel
theorem dX8_ruled_4 : decode cX8_ruled 4 = .ok (.iload_n 1, 1) := by decide +kernel
theorem dX8_ruled_5 : decode cX8_ruled 5 = .ok (.invokevirtual 96, 3) := by decide +kernel
theorem dX8_ruled_8 : decode cX8_ruled 8 = .ok (.ifCond .ne 5, 3) := by decide +kernel
theorem dX8_ruled_11 : decode cX8_ruled 11 = .ok (.iconst (-1), 1) := by decide +kernel
theorem dX8_ruled_12 : decode cX8_ruled 12 = .ok (.ireturn, 1) := by decide +kernel
theorem dX8_ruled_13 : decode cX8_ruled 13 = .ok (.aload_n 0, 1) := by decide +kernel
theorem dX8_ruled_14 : decode cX8_ruled 14 = .ok (.getfield 54, 3) := by decide +kernel
theorem dX8_ruled_17 : decode cX8_ruled 17 = .ok (.iload_n 1, 1) := by decide +kernel
theorem dX8_ruled_18 : decode cX8_ruled 18 = .ok (.invokevirtual 183, 3) := by decide +kernel
theorem dX8_ruled_21 : decode cX8_ruled 21 = .ok (.ifCond .eq 13, 3) := by decide +kernel
theorem dX8_ruled_24 : decode cX8_ruled 24 = .ok (.aload_n 0, 1) := by decide +kernel
theorem dX8_ruled_25 : decode cX8_ruled 25 = .ok (.getfield 54, 3) := by decide +kernel
theorem dX8_ruled_28 : decode cX8_ruled 28 = .ok (.invokevirtual 185, 3) := by decide +kernel
theorem dX8_ruled_31 : decode cX8_ruled 31 = .ok (.goto 5, 3) := by decide +kernel
theorem dX8_ruled_34 : decode cX8_ruled 34 = .ok (.bipush (-4), 2) := by decide +kernel
theorem dX8_ruled_36 : decode cX8_ruled 36 = .ok (.ireturn, 1) := by decide +kernel
set_option maxRecDepth 20000 in
theorem ggX8_unrule_X3_length : GoodIn wsX8_unrule wsX3_length := goodIn_r _ [6, 7, 21, 22, 23, 24] (by decide +kernel) (by decide +kernel)
set_option maxRecDepth 20000 in
theorem gX8_unrule_X3_length : GoodIn wsX8_unrule (wsV RX8 185 RX3 yX3_length wsX3_length) := goodIn_app (goodIn_of _ (by decide +kernel)) ggX8_unrule_X3_length
set_option maxRecDepth 20000 in
theorem ggX8_unrule_X3_clear : GoodIn wsX8_unrule wsX3_clear := goodIn_r _ [11, 7, 21, 22, 23, 24] (by decide +kernel) (by decide +kernel)
set_option maxRecDepth 20000 in
theorem gX8_unrule_X3_clear : GoodIn wsX8_unrule (wsV RX8 186 RX3 yX3_clear wsX3_clear) := goodIn_app (goodIn_of _ (by decide +kernel)) ggX8_unrule_X3_clear
theorem dX8_unrule_0 : decode cX8_unrule 0 = .ok (.aload_n 0, 1) := by decide +kernel
theorem dX8_unrule_1 : decode cX8_unrule 1 = .ok (.getfield 54, 3) := by decide +kernel
theorem dX8_unrule_4 : decode cX8_unrule 4 = .ok (.invokevirtual 185, 3) := by decide +kernel
theorem dX8_unrule_7 : decode cX8_unrule 7 = .ok (.istore_n 1, 1) := by decide +kernel
theorem dX8_unrule_8 : decode cX8_unrule 8 = .ok (.aload_n 0, 1) := by decide +kernel
theorem dX8_unrule_9 : decode cX8_unrule 9 = .ok (.getfield 54, 3) := by decide +kernel
theorem dX8_unrule_12 : decode cX8_unrule 12 = .ok (.invokevirtual 186, 3) := by decide +kernel
theorem dX8_unrule_15 : decode cX8_unrule 15 = .ok (.iload_n 1, 1) := by decide +kernel
theorem dX8_unrule_16 : decode cX8_unrule 16 = .ok (.ireturn, 1) := by decide +kernel
set_option maxRecDepth 20000 in
theorem ggX8_line_X2_size : GoodIn wsX8_line wsX2_size := goodIn_r _ [8, 9, 67, 68, 69, 70] (by decide +kernel) (by decide +kernel)
set_option maxRecDepth 20000 in
theorem gX8_line_X2_size : GoodIn wsX8_line (wsV RX8 93 RX2 yX2_size wsX2_size) := goodIn_app (goodIn_of _ (by decide +kernel)) ggX8_line_X2_size
set_option maxRecDepth 20000 in
theorem ggX8_line_X3_fittingMeals : GoodIn wsX8_line wsX3_fittingMeals := goodIn_r _ [14, 15, 16, 17, 18, 19, 20, 21, 22, 23, 24, 5, 6, 7, 8, 9, 25, 26, 27, 28, 29, 30, 31, 32, 33, 34, 35, 36, 37, 38, 39, 40, 41, 42, 43, 44, 13, 45, 46, 47, 48, 49, 50, 51, 52, 53, 54, 55, 56, 57, 71, 72, 73, 74, 67, 68, 69, 70] (by decide +kernel) (by decide +kernel)
set_option maxRecDepth 20000 in
theorem gX8_line_X3_fittingMeals : GoodIn wsX8_line (wsV RX8 189 RX3 yX3_fittingMeals wsX3_fittingMeals) := goodIn_app (goodIn_of _ (by decide +kernel)) ggX8_line_X3_fittingMeals
theorem dX8_line_0 : decode cX8_line 0 = .ok (.aload_n 0, 1) := by decide +kernel
theorem dX8_line_1 : decode cX8_line 1 = .ok (.getfield 19, 3) := by decide +kernel
theorem dX8_line_4 : decode cX8_line 4 = .ok (.invokevirtual 93, 3) := by decide +kernel
theorem dX8_line_7 : decode cX8_line 7 = .ok (.iconst 1, 1) := by decide +kernel
theorem dX8_line_8 : decode cX8_line 8 = .ok (.if_icmp .lt 14, 3) := by decide +kernel
theorem dX8_line_11 : decode cX8_line 11 = .ok (.aload_n 0, 1) := by decide +kernel
theorem dX8_line_12 : decode cX8_line 12 = .ok (.getfield 19, 3) := by decide +kernel
theorem dX8_line_15 : decode cX8_line 15 = .ok (.invokevirtual 93, 3) := by decide +kernel
theorem dX8_line_18 : decode cX8_line 18 = .ok (.iconst 3, 1) := by decide +kernel
theorem dX8_line_19 : decode cX8_line 19 = .ok (.if_icmp .le 7, 3) := by decide +kernel
theorem dX8_line_22 : decode cX8_line 22 = .ok (.ldc2_w 187, 3) := by decide +kernel
theorem dX8_line_25 : decode cX8_line 25 = .ok (.lreturn, 1) := by decide +kernel
theorem dX8_line_26 : decode cX8_line 26 = .ok (.aload_n 0, 1) := by decide +kernel
theorem dX8_line_27 : decode cX8_line 27 = .ok (.getfield 54, 3) := by decide +kernel
theorem dX8_line_30 : decode cX8_line 30 = .ok (.aload_n 0, 1) := by decide +kernel
theorem dX8_line_31 : decode cX8_line 31 = .ok (.getfield 19, 3) := by decide +kernel
theorem dX8_line_34 : decode cX8_line 34 = .ok (.invokevirtual 189, 3) := by decide +kernel
theorem dX8_line_37 : decode cX8_line 37 = .ok (.lreturn, 1) := by decide +kernel
set_option maxRecDepth 20000 in
theorem ggX8_seed_X7_sow : GoodIn wsX8_seed wsX7_sow := goodIn_r _ [6, 7, 17, 18] (by decide +kernel) (by decide +kernel)
set_option maxRecDepth 20000 in
theorem gX8_seed_X7_sow : GoodIn wsX8_seed (wsV RX8 193 RX7 yX7_sow wsX7_sow) := goodIn_app (goodIn_of _ (by decide +kernel)) ggX8_seed_X7_sow
theorem dX8_seed_0 : decode cX8_seed 0 = .ok (.aload_n 0, 1) := by decide +kernel
theorem dX8_seed_1 : decode cX8_seed 1 = .ok (.getfield 61, 3) := by decide +kernel
theorem dX8_seed_4 : decode cX8_seed 4 = .ok (.lload_n 1, 1) := by decide +kernel
theorem dX8_seed_5 : decode cX8_seed 5 = .ok (.invokevirtual 193, 3) := by decide +kernel
theorem dX8_seed_8 : decode cX8_seed 8 = .ok (.lreturn, 1) := by decide +kernel
set_option maxRecDepth 20000 in
theorem ggX8_reign_X2_has : GoodIn wsX8_reign wsX2_has := goodIn_r _ [7, 8, 90, 91, 92, 93] (by decide +kernel) (by decide +kernel)
set_option maxRecDepth 20000 in
theorem gX8_reign_X2_has : GoodIn wsX8_reign (wsV RX8 96 RX2 yX2_has wsX2_has) := goodIn_app (goodIn_of _ (by decide +kernel)) ggX8_reign_X2_has
set_option maxRecDepth 20000 in
theorem ggX8_reign_X8_isLaw : GoodIn wsX8_reign wsX8_isLaw := goodIn_r _ [12] (by decide +kernel) (by decide +kernel)
set_option maxRecDepth 20000 in
theorem gX8_reign_X8_isLaw : GoodIn wsX8_reign (va_wsS RX8 110 yX8_isLaw wsX8_isLaw) := goodIn_app (goodIn_of _ (by decide +kernel)) ggX8_reign_X8_isLaw
set_option maxRecDepth 20000 in
theorem ggX8_reign_X7_monthsOf : GoodIn wsX8_reign wsX7_monthsOf := goodIn_r _ [17, 18, 19, 20, 21, 6, 22, 23, 24, 25, 26, 27, 8, 28, 29, 30, 31, 32, 33, 34, 35, 36, 16, 37, 38, 39, 40, 41, 42, 43, 44, 45, 46, 47, 48, 49, 50, 51, 52, 53, 54, 55, 56, 57, 58, 59, 60, 61, 62, 63, 64, 65, 66, 67, 68, 69, 70, 71, 72, 73, 74, 75, 76, 77, 78, 79, 80, 94, 95, 90, 91, 92, 93] (by decide +kernel) (by decide +kernel)
set_option maxRecDepth 20000 in
theorem gX8_reign_X7_monthsOf : GoodIn wsX8_reign (wsV RX8 197 RX7 yX7_monthsOf wsX7_monthsOf) := goodIn_app (goodIn_of _ (by decide +kernel)) ggX8_reign_X7_monthsOf
theorem dX8_reign_0 : decode cX8_reign 0 = .ok (.aload_n 0, 1) := by decide +kernel
theorem dX8_reign_1 : decode cX8_reign 1 = .ok (.getfield 19, 3) := by decide +kernel
theorem dX8_reign_4 : decode cX8_reign 4 = .ok (.iload_n 1, 1) := by decide +kernel
theorem dX8_reign_5 : decode cX8_reign 5 = .ok (.invokevirtual 96, 3) := by decide +kernel
theorem dX8_reign_8 : decode cX8_reign 8 = .ok (.ifCond .ne 5, 3) := by decide +kernel
theorem dX8_reign_11 : decode cX8_reign 11 = .ok (.iconst (-1), 1) := by decide +kernel
theorem dX8_reign_12 : decode cX8_reign 12 = .ok (.ireturn, 1) := by decide +kernel
theorem dX8_reign_13 : decode cX8_reign 13 = .ok (.iload_n 2, 1) := by decide +kernel
theorem dX8_reign_14 : decode cX8_reign 14 = .ok (.invokestatic 110, 3) := by decide +kernel
theorem dX8_reign_17 : decode cX8_reign 17 = .ok (.ifCond .eq 19, 3) := by decide +kernel
theorem dX8_reign_20 : decode cX8_reign 20 = .ok (.aload_n 0, 1) := by decide +kernel
theorem dX8_reign_21 : decode cX8_reign 21 = .ok (.getfield 61, 3) := by decide +kernel
theorem dX8_reign_24 : decode cX8_reign 24 = .ok (.iload_n 1, 1) := by decide +kernel
theorem dX8_reign_25 : decode cX8_reign 25 = .ok (.iload_n 2, 1) := by decide +kernel
theorem dX8_reign_26 : decode cX8_reign 26 = .ok (.aload_n 0, 1) := by decide +kernel
theorem dX8_reign_27 : decode cX8_reign 27 = .ok (.getfield 19, 3) := by decide +kernel
theorem dX8_reign_30 : decode cX8_reign 30 = .ok (.invokevirtual 197, 3) := by decide +kernel
theorem dX8_reign_33 : decode cX8_reign 33 = .ok (.goto 5, 3) := by decide +kernel
theorem dX8_reign_36 : decode cX8_reign 36 = .ok (.bipush (-2), 2) := by decide +kernel
theorem dX8_reign_38 : decode cX8_reign 38 = .ok (.ireturn, 1) := by decide +kernel
set_option maxRecDepth 20000 in
theorem ggX8_keep_X5_isSlot : GoodIn wsX8_keep wsX5_isSlot := goodIn_r _ [6] (by decide +kernel) (by decide +kernel)
set_option maxRecDepth 20000 in
theorem gX8_keep_X5_isSlot : GoodIn wsX8_keep (va_wsS RX8 201 yX5_isSlot wsX5_isSlot) := goodIn_app (goodIn_of _ (by decide +kernel)) ggX8_keep_X5_isSlot
set_option maxRecDepth 20000 in
theorem ggX8_keep_X5_put : GoodIn wsX8_keep wsX5_put := goodIn_r _ [10, 11, 12, 13, 4, 5, 6, 14, 15, 16, 17, 18, 19, 20, 21, 22, 23, 37, 38, 39, 40, 41, 42] (by decide +kernel) (by decide +kernel)
set_option maxRecDepth 20000 in
theorem gX8_keep_X5_put : GoodIn wsX8_keep (wsV RX8 204 RX5 yX5_put wsX5_put) := goodIn_app (goodIn_of _ (by decide +kernel)) ggX8_keep_X5_put
set_option maxRecDepth 20000 in
theorem ggX8_keep_X2_today : GoodIn wsX8_keep wsX2_today := goodIn_r _ [27, 19, 39, 40, 41, 42] (by decide +kernel) (by decide +kernel)
set_option maxRecDepth 20000 in
theorem gX8_keep_X2_today : GoodIn wsX8_keep (wsV RX8 130 RX2 yX2_today wsX2_today) := goodIn_app (goodIn_of _ (by decide +kernel)) ggX8_keep_X2_today
theorem dX8_keep_0 : decode cX8_keep 0 = .ok (.iload_n 1, 1) := by decide +kernel
theorem dX8_keep_1 : decode cX8_keep 1 = .ok (.invokestatic 201, 3) := by decide +kernel
theorem dX8_keep_4 : decode cX8_keep 4 = .ok (.ifCond .ne 5, 3) := by decide +kernel
theorem dX8_keep_7 : decode cX8_keep 7 = .ok (.iconst (-1), 1) := by decide +kernel
theorem dX8_keep_8 : decode cX8_keep 8 = .ok (.ireturn, 1) := by decide +kernel
theorem dX8_keep_9 : decode cX8_keep 9 = .ok (.aload_n 0, 1) := by decide +kernel
theorem dX8_keep_10 : decode cX8_keep 10 = .ok (.getfield 33, 3) := by decide +kernel
theorem dX8_keep_13 : decode cX8_keep 13 = .ok (.iload_n 1, 1) := by decide +kernel
theorem dX8_keep_14 : decode cX8_keep 14 = .ok (.aload_n 0, 1) := by decide +kernel
theorem dX8_keep_15 : decode cX8_keep 15 = .ok (.getfield 19, 3) := by decide +kernel
theorem dX8_keep_18 : decode cX8_keep 18 = .ok (.invokevirtual 204, 3) := by decide +kernel
theorem dX8_keep_21 : decode cX8_keep 21 = .ok (.aload_n 0, 1) := by decide +kernel
theorem dX8_keep_22 : decode cX8_keep 22 = .ok (.getfield 19, 3) := by decide +kernel
theorem dX8_keep_25 : decode cX8_keep 25 = .ok (.invokevirtual 130, 3) := by decide +kernel
theorem dX8_keep_28 : decode cX8_keep 28 = .ok (.ireturn, 1) := by decide +kernel
set_option maxRecDepth 20000 in
theorem ggX8_again_X5_isSlot : GoodIn wsX8_again wsX5_isSlot := goodIn_r _ [7] (by decide +kernel) (by decide +kernel)
set_option maxRecDepth 20000 in
theorem gX8_again_X5_isSlot : GoodIn wsX8_again (va_wsS RX8 201 yX5_isSlot wsX5_isSlot) := goodIn_app (goodIn_of _ (by decide +kernel)) ggX8_again_X5_isSlot
set_option maxRecDepth 20000 in
theorem ggX8_again_X5_holds : GoodIn wsX8_again wsX5_holds := goodIn_r _ [11, 12, 13, 5, 6, 7, 49, 50] (by decide +kernel) (by decide +kernel)
set_option maxRecDepth 20000 in
theorem gX8_again_X5_holds : GoodIn wsX8_again (wsV RX8 208 RX5 yX5_holds wsX5_holds) := goodIn_app (goodIn_of _ (by decide +kernel)) ggX8_again_X5_holds
set_option maxRecDepth 20000 in
theorem ggX8_again_X5_bring : GoodIn wsX8_again wsX5_bring := goodIn_r _ [17, 18, 19, 9, 10, 6, 11, 12, 13, 5, 7, 20, 21, 22, 23, 24, 25, 26, 27, 28, 29, 49, 50, 51, 52, 53, 54] (by decide +kernel) (by decide +kernel)
set_option maxRecDepth 20000 in
theorem gX8_again_X5_bring : GoodIn wsX8_again (wsV RX8 211 RX5 yX5_bring wsX5_bring) := goodIn_app (goodIn_of _ (by decide +kernel)) ggX8_again_X5_bring
set_option maxRecDepth 20000 in
theorem ggX8_again_X0_clear : GoodIn wsX8_again wsX0_clear := goodIn_r _ [34, 35, 55, 56, 57] (by decide +kernel) (by decide +kernel)
set_option maxRecDepth 20000 in
theorem gX8_again_X0_clear : GoodIn wsX8_again (wsV RX8 91 RX0 yX0_clear wsX0_clear) := goodIn_app (goodIn_of _ (by decide +kernel)) ggX8_again_X0_clear
set_option maxRecDepth 20000 in
theorem ggX8_again_X2_today : GoodIn wsX8_again wsX2_today := goodIn_r _ [39, 25, 51, 52, 53, 54] (by decide +kernel) (by decide +kernel)
set_option maxRecDepth 20000 in
theorem gX8_again_X2_today : GoodIn wsX8_again (wsV RX8 130 RX2 yX2_today wsX2_today) := goodIn_app (goodIn_of _ (by decide +kernel)) ggX8_again_X2_today
theorem dX8_again_0 : decode cX8_again 0 = .ok (.iload_n 1, 1) := by decide +kernel
theorem dX8_again_1 : decode cX8_again 1 = .ok (.invokestatic 201, 3) := by decide +kernel
theorem dX8_again_4 : decode cX8_again 4 = .ok (.ifCond .ne 5, 3) := by decide +kernel
theorem dX8_again_7 : decode cX8_again 7 = .ok (.iconst (-1), 1) := by decide +kernel
theorem dX8_again_8 : decode cX8_again 8 = .ok (.ireturn, 1) := by decide +kernel
theorem dX8_again_9 : decode cX8_again 9 = .ok (.aload_n 0, 1) := by decide +kernel
theorem dX8_again_10 : decode cX8_again 10 = .ok (.getfield 33, 3) := by decide +kernel
theorem dX8_again_13 : decode cX8_again 13 = .ok (.iload_n 1, 1) := by decide +kernel
theorem dX8_again_14 : decode cX8_again 14 = .ok (.invokevirtual 208, 3) := by decide +kernel
theorem dX8_again_17 : decode cX8_again 17 = .ok (.ifCond .ne 6, 3) := by decide +kernel
theorem dX8_again_20 : decode cX8_again 20 = .ok (.bipush (-3), 2) := by decide +kernel
theorem dX8_again_22 : decode cX8_again 22 = .ok (.ireturn, 1) := by decide +kernel
theorem dX8_again_23 : decode cX8_again 23 = .ok (.aload_n 0, 1) := by decide +kernel
theorem dX8_again_24 : decode cX8_again 24 = .ok (.getfield 33, 3) := by decide +kernel
theorem dX8_again_27 : decode cX8_again 27 = .ok (.iload_n 1, 1) := by decide +kernel
theorem dX8_again_28 : decode cX8_again 28 = .ok (.aload_n 0, 1) := by decide +kernel
theorem dX8_again_29 : decode cX8_again 29 = .ok (.getfield 19, 3) := by decide +kernel
theorem dX8_again_32 : decode cX8_again 32 = .ok (.invokevirtual 211, 3) := by decide +kernel
theorem dX8_again_35 : decode cX8_again 35 = .ok (.aload_n 0, 1) := by decide +kernel
theorem dX8_again_36 : decode cX8_again 36 = .ok (.getfield 26, 3) := by decide +kernel
theorem dX8_again_39 : decode cX8_again 39 = .ok (.invokevirtual 91, 3) := by decide +kernel
theorem dX8_again_42 : decode cX8_again 42 = .ok (.aload_n 0, 1) := by decide +kernel
theorem dX8_again_43 : decode cX8_again 43 = .ok (.getfield 19, 3) := by decide +kernel
theorem dX8_again_46 : decode cX8_again 46 = .ok (.invokevirtual 130, 3) := by decide +kernel
theorem dX8_again_49 : decode cX8_again 49 = .ok (.ireturn, 1) := by decide +kernel
set_option maxRecDepth 20000 in
theorem ggX8_count_X1_length : GoodIn wsX8_count wsX1_length := goodIn_r _ [12, 13, 75, 76] (by decide +kernel) (by decide +kernel)
set_option maxRecDepth 20000 in
theorem gX8_count_X1_length : GoodIn wsX8_count (wsV RX8 73 RX1 yX1_length wsX1_length) := goodIn_app (goodIn_of _ (by decide +kernel)) ggX8_count_X1_length
set_option maxRecDepth 20000 in
theorem ggX8_count_X2_size : GoodIn wsX8_count wsX2_size := goodIn_r _ [18, 19, 77, 78, 79, 80] (by decide +kernel) (by decide +kernel)
set_option maxRecDepth 20000 in
theorem gX8_count_X2_size : GoodIn wsX8_count (wsV RX8 93 RX2 yX2_size wsX2_size) := goodIn_app (goodIn_of _ (by decide +kernel)) ggX8_count_X2_size
set_option maxRecDepth 20000 in
theorem ggX8_count_X2_today : GoodIn wsX8_count wsX2_today := goodIn_r _ [23, 24, 77, 78, 79, 80] (by decide +kernel) (by decide +kernel)
set_option maxRecDepth 20000 in
theorem gX8_count_X2_today : GoodIn wsX8_count (wsV RX8 130 RX2 yX2_today wsX2_today) := goodIn_app (goodIn_of _ (by decide +kernel)) ggX8_count_X2_today
set_option maxRecDepth 20000 in
theorem ggX8_count_X0_length : GoodIn wsX8_count wsX0_length := goodIn_r _ [29, 30, 81, 82, 83] (by decide +kernel) (by decide +kernel)
set_option maxRecDepth 20000 in
theorem gX8_count_X0_length : GoodIn wsX8_count (wsV RX8 136 RX0 yX0_length wsX0_length) := goodIn_app (goodIn_of _ (by decide +kernel)) ggX8_count_X0_length
set_option maxRecDepth 20000 in
theorem ggX8_count_X6_length : GoodIn wsX8_count wsX6_length := goodIn_r _ [35, 36, 84, 85, 86, 87] (by decide +kernel) (by decide +kernel)
set_option maxRecDepth 20000 in
theorem gX8_count_X6_length : GoodIn wsX8_count (wsV RX8 164 RX6 yX6_length wsX6_length) := goodIn_app (goodIn_of _ (by decide +kernel)) ggX8_count_X6_length
set_option maxRecDepth 20000 in
theorem ggX8_count_X4_length : GoodIn wsX8_count wsX4_length := goodIn_r _ [41, 42, 88, 89, 90, 91, 92, 93, 94] (by decide +kernel) (by decide +kernel)
set_option maxRecDepth 20000 in
theorem gX8_count_X4_length : GoodIn wsX8_count (wsV RX8 172 RX4 yX4_length wsX4_length) := goodIn_app (goodIn_of _ (by decide +kernel)) ggX8_count_X4_length
set_option maxRecDepth 20000 in
theorem ggX8_count_X3_length : GoodIn wsX8_count wsX3_length := goodIn_r _ [47, 48, 95, 96, 97, 98] (by decide +kernel) (by decide +kernel)
set_option maxRecDepth 20000 in
theorem gX8_count_X3_length : GoodIn wsX8_count (wsV RX8 185 RX3 yX3_length wsX3_length) := goodIn_app (goodIn_of _ (by decide +kernel)) ggX8_count_X3_length
set_option maxRecDepth 20000 in
theorem ggX8_count_X2_illBits : GoodIn wsX8_count wsX2_illBits := goodIn_r _ [52, 19, 53, 54, 55, 17, 56, 57, 58, 59, 60, 61, 24, 77, 78, 79, 80] (by decide +kernel) (by decide +kernel)
set_option maxRecDepth 20000 in
theorem gX8_count_X2_illBits : GoodIn wsX8_count (wsV RX8 214 RX2 yX2_illBits wsX2_illBits) := goodIn_app (goodIn_of _ (by decide +kernel)) ggX8_count_X2_illBits
set_option maxRecDepth 20000 in
theorem ggX8_count_X2_crownings : GoodIn wsX8_count wsX2_crownings := goodIn_r _ [65, 19, 58, 59, 60, 17, 61, 24, 77, 78, 79, 80] (by decide +kernel) (by decide +kernel)
set_option maxRecDepth 20000 in
theorem gX8_count_X2_crownings : GoodIn wsX8_count (wsV RX8 217 RX2 yX2_crownings wsX2_crownings) := goodIn_app (goodIn_of _ (by decide +kernel)) ggX8_count_X2_crownings
theorem dX8_count_0 : decode cX8_count 0 = .ok (.iload_n 1, 1) := by decide +kernel
theorem dX8_count_1 : decode cX8_count 1 = .ok (.tableswitch 132 0 9 #[55, 63, 71, 79, 87, 95, 103, 111, 116, 124], 55) := by decide +kernel
theorem dX8_count_56 : decode cX8_count 56 = .ok (.aload_n 0, 1) := by decide +kernel
theorem dX8_count_57 : decode cX8_count 57 = .ok (.getfield 10, 3) := by decide +kernel
theorem dX8_count_60 : decode cX8_count 60 = .ok (.invokevirtual 73, 3) := by decide +kernel
theorem dX8_count_63 : decode cX8_count 63 = .ok (.ireturn, 1) := by decide +kernel
theorem dX8_count_64 : decode cX8_count 64 = .ok (.aload_n 0, 1) := by decide +kernel
theorem dX8_count_65 : decode cX8_count 65 = .ok (.getfield 19, 3) := by decide +kernel
theorem dX8_count_68 : decode cX8_count 68 = .ok (.invokevirtual 93, 3) := by decide +kernel
theorem dX8_count_71 : decode cX8_count 71 = .ok (.ireturn, 1) := by decide +kernel
theorem dX8_count_72 : decode cX8_count 72 = .ok (.aload_n 0, 1) := by decide +kernel
theorem dX8_count_73 : decode cX8_count 73 = .ok (.getfield 19, 3) := by decide +kernel
theorem dX8_count_76 : decode cX8_count 76 = .ok (.invokevirtual 130, 3) := by decide +kernel
theorem dX8_count_79 : decode cX8_count 79 = .ok (.ireturn, 1) := by decide +kernel
theorem dX8_count_80 : decode cX8_count 80 = .ok (.aload_n 0, 1) := by decide +kernel
theorem dX8_count_81 : decode cX8_count 81 = .ok (.getfield 26, 3) := by decide +kernel
theorem dX8_count_84 : decode cX8_count 84 = .ok (.invokevirtual 136, 3) := by decide +kernel
theorem dX8_count_87 : decode cX8_count 87 = .ok (.ireturn, 1) := by decide +kernel
theorem dX8_count_88 : decode cX8_count 88 = .ok (.aload_n 0, 1) := by decide +kernel
theorem dX8_count_89 : decode cX8_count 89 = .ok (.getfield 40, 3) := by decide +kernel
theorem dX8_count_92 : decode cX8_count 92 = .ok (.invokevirtual 164, 3) := by decide +kernel
theorem dX8_count_95 : decode cX8_count 95 = .ok (.ireturn, 1) := by decide +kernel
theorem dX8_count_96 : decode cX8_count 96 = .ok (.aload_n 0, 1) := by decide +kernel
theorem dX8_count_97 : decode cX8_count 97 = .ok (.getfield 47, 3) := by decide +kernel
theorem dX8_count_100 : decode cX8_count 100 = .ok (.invokevirtual 172, 3) := by decide +kernel
theorem dX8_count_103 : decode cX8_count 103 = .ok (.ireturn, 1) := by decide +kernel
theorem dX8_count_104 : decode cX8_count 104 = .ok (.aload_n 0, 1) := by decide +kernel
theorem dX8_count_105 : decode cX8_count 105 = .ok (.getfield 54, 3) := by decide +kernel
theorem dX8_count_108 : decode cX8_count 108 = .ok (.invokevirtual 185, 3) := by decide +kernel
theorem dX8_count_111 : decode cX8_count 111 = .ok (.ireturn, 1) := by decide +kernel
theorem dX8_count_112 : decode cX8_count 112 = .ok (.aload_n 0, 1) := by decide +kernel
theorem dX8_count_113 : decode cX8_count 113 = .ok (.getfield 65, 3) := by decide +kernel
theorem dX8_count_116 : decode cX8_count 116 = .ok (.ireturn, 1) := by decide +kernel
theorem dX8_count_117 : decode cX8_count 117 = .ok (.aload_n 0, 1) := by decide +kernel
theorem dX8_count_118 : decode cX8_count 118 = .ok (.getfield 19, 3) := by decide +kernel
theorem dX8_count_121 : decode cX8_count 121 = .ok (.invokevirtual 214, 3) := by decide +kernel
theorem dX8_count_124 : decode cX8_count 124 = .ok (.ireturn, 1) := by decide +kernel
theorem dX8_count_125 : decode cX8_count 125 = .ok (.aload_n 0, 1) := by decide +kernel
theorem dX8_count_126 : decode cX8_count 126 = .ok (.getfield 19, 3) := by decide +kernel
theorem dX8_count_129 : decode cX8_count 129 = .ok (.invokevirtual 217, 3) := by decide +kernel
theorem dX8_count_132 : decode cX8_count 132 = .ok (.ireturn, 1) := by decide +kernel
theorem dX8_count_133 : decode cX8_count 133 = .ok (.bipush (-2), 2) := by decide +kernel
theorem dX8_count_135 : decode cX8_count 135 = .ok (.ireturn, 1) := by decide +kernel
end
section
theorem dX9_init_0 : decode cX9_init 0 = .ok (.aload_n 0, 1) := by decide +kernel
theorem dX9_init_1 : decode cX9_init 1 = .ok (.invokespecial 1, 3) := by decide +kernel
theorem dX9_init_4 : decode cX9_init 4 = .ok (.aload_n 0, 1) := by decide +kernel
theorem dX9_init_5 : decode cX9_init 5 = .ok (.bipush 26, 2) := by decide +kernel
theorem dX9_init_7 : decode cX9_init 7 = .ok (.newarray .int, 2) := by decide +kernel
theorem dX9_init_9 : decode cX9_init 9 = .ok (.putfield 7, 3) := by decide +kernel
theorem dX9_init_12 : decode cX9_init 12 = .ok (.aload_n 0, 1) := by decide +kernel
theorem dX9_init_13 : decode cX9_init 13 = .ok (.bipush 26, 2) := by decide +kernel
theorem dX9_init_15 : decode cX9_init 15 = .ok (.newarray .int, 2) := by decide +kernel
theorem dX9_init_17 : decode cX9_init 17 = .ok (.putfield 13, 3) := by decide +kernel
theorem dX9_init_20 : decode cX9_init 20 = .ok (.aload_n 0, 1) := by decide +kernel
theorem dX9_init_21 : decode cX9_init 21 = .ok (.bipush 48, 2) := by decide +kernel
theorem dX9_init_23 : decode cX9_init 23 = .ok (.newarray .int, 2) := by decide +kernel
theorem dX9_init_25 : decode cX9_init 25 = .ok (.putfield 16, 3) := by decide +kernel
theorem dX9_init_28 : decode cX9_init 28 = .ok (.aload_n 0, 1) := by decide +kernel
theorem dX9_init_29 : decode cX9_init 29 = .ok (.sipush 416, 3) := by decide +kernel
theorem dX9_init_32 : decode cX9_init 32 = .ok (.newarray .int, 2) := by decide +kernel
theorem dX9_init_34 : decode cX9_init 34 = .ok (.putfield 19, 3) := by decide +kernel
theorem dX9_init_37 : decode cX9_init 37 = .ok (.aload_n 0, 1) := by decide +kernel
theorem dX9_init_38 : decode cX9_init 38 = .ok (.bipush 10, 2) := by decide +kernel
theorem dX9_init_40 : decode cX9_init 40 = .ok (.newarray .int, 2) := by decide +kernel
theorem dX9_init_42 : decode cX9_init 42 = .ok (.putfield 22, 3) := by decide +kernel
theorem dX9_init_45 : decode cX9_init 45 = .ok (.aload_n 0, 1) := by decide +kernel
theorem dX9_init_46 : decode cX9_init 46 = .ok (.bipush 10, 2) := by decide +kernel
theorem dX9_init_48 : decode cX9_init 48 = .ok (.newarray .int, 2) := by decide +kernel
theorem dX9_init_50 : decode cX9_init 50 = .ok (.putfield 25, 3) := by decide +kernel
theorem dX9_init_53 : decode cX9_init 53 = .ok (.aload_n 0, 1) := by decide +kernel
theorem dX9_init_54 : decode cX9_init 54 = .ok (.bipush 10, 2) := by decide +kernel
theorem dX9_init_56 : decode cX9_init 56 = .ok (.newarray .int, 2) := by decide +kernel
theorem dX9_init_58 : decode cX9_init 58 = .ok (.putfield 28, 3) := by decide +kernel
theorem dX9_init_61 : decode cX9_init 61 = .ok (.aload_n 0, 1) := by decide +kernel
theorem dX9_init_62 : decode cX9_init 62 = .ok (.bipush 8, 2) := by decide +kernel
theorem dX9_init_64 : decode cX9_init 64 = .ok (.newarray .int, 2) := by decide +kernel
theorem dX9_init_66 : decode cX9_init 66 = .ok (.putfield 31, 3) := by decide +kernel
theorem dX9_init_69 : decode cX9_init 69 = .ok (.aload_n 0, 1) := by decide +kernel
theorem dX9_init_70 : decode cX9_init 70 = .ok (.bipush 8, 2) := by decide +kernel
theorem dX9_init_72 : decode cX9_init 72 = .ok (.newarray .int, 2) := by decide +kernel
theorem dX9_init_74 : decode cX9_init 74 = .ok (.putfield 34, 3) := by decide +kernel
theorem dX9_init_77 : decode cX9_init 77 = .ok (.aload_n 0, 1) := by decide +kernel
theorem dX9_init_78 : decode cX9_init 78 = .ok (.iconst 5, 1) := by decide +kernel
theorem dX9_init_79 : decode cX9_init 79 = .ok (.newarray .int, 2) := by decide +kernel
theorem dX9_init_81 : decode cX9_init 81 = .ok (.putfield 37, 3) := by decide +kernel
theorem dX9_init_84 : decode cX9_init 84 = .ok (.aload_n 0, 1) := by decide +kernel
theorem dX9_init_85 : decode cX9_init 85 = .ok (.iconst 5, 1) := by decide +kernel
theorem dX9_init_86 : decode cX9_init 86 = .ok (.newarray .int, 2) := by decide +kernel
theorem dX9_init_88 : decode cX9_init 88 = .ok (.putfield 40, 3) := by decide +kernel
theorem dX9_init_91 : decode cX9_init 91 = .ok (.aload_n 0, 1) := by decide +kernel
theorem dX9_init_92 : decode cX9_init 92 = .ok (.iconst 4, 1) := by decide +kernel
theorem dX9_init_93 : decode cX9_init 93 = .ok (.newarray .int, 2) := by decide +kernel
theorem dX9_init_95 : decode cX9_init 95 = .ok (.putfield 43, 3) := by decide +kernel
theorem dX9_init_98 : decode cX9_init 98 = .ok (.aload_n 0, 1) := by decide +kernel
theorem dX9_init_99 : decode cX9_init 99 = .ok (.sipush 2197, 3) := by decide +kernel
theorem dX9_init_102 : decode cX9_init 102 = .ok (.newarray .long, 2) := by decide +kernel
theorem dX9_init_104 : decode cX9_init 104 = .ok (.putfield 46, 3) := by decide +kernel
theorem dX9_init_107 : decode cX9_init 107 = .ok (.aload_n 0, 1) := by decide +kernel
theorem dX9_init_108 : decode cX9_init 108 = .ok (.sipush 2197, 3) := by decide +kernel
theorem dX9_init_111 : decode cX9_init 111 = .ok (.newarray .long, 2) := by decide +kernel
theorem dX9_init_113 : decode cX9_init 113 = .ok (.putfield 50, 3) := by decide +kernel
theorem dX9_init_116 : decode cX9_init 116 = .ok (.aload_n 0, 1) := by decide +kernel
theorem dX9_init_117 : decode cX9_init 117 = .ok (.bipush 26, 2) := by decide +kernel
theorem dX9_init_119 : decode cX9_init 119 = .ok (.newarray .int, 2) := by decide +kernel
theorem dX9_init_121 : decode cX9_init 121 = .ok (.putfield 53, 3) := by decide +kernel
theorem dX9_init_124 : decode cX9_init 124 = .ok (.aload_n 0, 1) := by decide +kernel
theorem dX9_init_125 : decode cX9_init 125 = .ok (.iconst 2, 1) := by decide +kernel
theorem dX9_init_126 : decode cX9_init 126 = .ok (.newarray .boolean, 2) := by decide +kernel
theorem dX9_init_128 : decode cX9_init 128 = .ok (.putfield 56, 3) := by decide +kernel
theorem dX9_init_131 : decode cX9_init 131 = .ok (.aload_n 0, 1) := by decide +kernel
theorem dX9_init_132 : decode cX9_init 132 = .ok (.bipush 52, 2) := by decide +kernel
theorem dX9_init_134 : decode cX9_init 134 = .ok (.newarray .int, 2) := by decide +kernel
theorem dX9_init_136 : decode cX9_init 136 = .ok (.putfield 60, 3) := by decide +kernel
theorem dX9_init_139 : decode cX9_init 139 = .ok (.aload_n 0, 1) := by decide +kernel
theorem dX9_init_140 : decode cX9_init 140 = .ok (.iconst 0, 1) := by decide +kernel
theorem dX9_init_141 : decode cX9_init 141 = .ok (.putfield 63, 3) := by decide +kernel
theorem dX9_init_144 : decode cX9_init 144 = .ok (.return_, 1) := by decide +kernel
theorem dX9_in_0 : decode cX9_in 0 = .ok (.lload_n 0, 1) := by decide +kernel
theorem dX9_in_1 : decode cX9_in 1 = .ok (.lload_n 2, 1) := by decide +kernel
theorem dX9_in_2 : decode cX9_in 2 = .ok (.lcmp, 1) := by decide +kernel
theorem dX9_in_3 : decode cX9_in 3 = .ok (.ifCond .lt 14, 3) := by decide +kernel
theorem dX9_in_6 : decode cX9_in 6 = .ok (.lload_n 0, 1) := by decide +kernel
theorem dX9_in_7 : decode cX9_in 7 = .ok (.lload 4, 2) := by decide +kernel
theorem dX9_in_9 : decode cX9_in 9 = .ok (.lcmp, 1) := by decide +kernel
theorem dX9_in_10 : decode cX9_in 10 = .ok (.ifCond .gt 7, 3) := by decide +kernel
theorem dX9_in_13 : decode cX9_in 13 = .ok (.iconst 1, 1) := by decide +kernel
theorem dX9_in_14 : decode cX9_in 14 = .ok (.goto 4, 3) := by decide +kernel
theorem dX9_in_17 : decode cX9_in 17 = .ok (.iconst 0, 1) := by decide +kernel
theorem dX9_in_18 : decode cX9_in 18 = .ok (.ireturn, 1) := by decide +kernel
set_option maxRecDepth 20000 in
theorem ggX9_write_X9_in : GoodIn wsX9_write wsX9_in := goodIn_r _ [8] (by decide +kernel) (by decide +kernel)
set_option maxRecDepth 20000 in
theorem gX9_write_X9_in : GoodIn wsX9_write (va_wsS RX9 69 yX9_in wsX9_in) := goodIn_app (goodIn_of _ (by decide +kernel)) ggX9_write_X9_in
theorem dX9_write_0 : decode cX9_write 0 = .ok (.iload_n 1, 1) := by decide +kernel
theorem dX9_write_1 : decode cX9_write 1 = .ok (.i2l, 1) := by decide +kernel
theorem dX9_write_2 : decode cX9_write 2 = .ok (.lconst 1, 1) := by decide +kernel
theorem dX9_write_3 : decode cX9_write 3 = .ok (.ldc2_w 67, 3) := by decide +kernel
theorem dX9_write_6 : decode cX9_write 6 = .ok (.invokestatic 69, 3) := by decide +kernel
theorem dX9_write_9 : decode cX9_write 9 = .ok (.ifCond .ne 6, 3) := by decide +kernel
theorem dX9_write_12 : decode cX9_write 12 = .ok (.bipush (-2), 2) := by decide +kernel
theorem dX9_write_14 : decode cX9_write 14 = .ok (.ireturn, 1) := by decide +kernel
theorem dX9_write_15 : decode cX9_write 15 = .ok (.aload_n 0, 1) := by decide +kernel
theorem dX9_write_16 : decode cX9_write 16 = .ok (.getfield 73, 3) := by decide +kernel
theorem dX9_write_19 : decode cX9_write 19 = .ok (.iload_n 1, 1) := by decide +kernel
theorem dX9_write_20 : decode cX9_write 20 = .ok (.iadd, 1) := by decide +kernel
theorem dX9_write_21 : decode cX9_write 21 = .ok (.bipush 48, 2) := by decide +kernel
theorem dX9_write_23 : decode cX9_write 23 = .ok (.if_icmp .le 6, 3) := by decide +kernel
theorem dX9_write_26 : decode cX9_write 26 = .ok (.bipush (-4), 2) := by decide +kernel
theorem dX9_write_28 : decode cX9_write 28 = .ok (.ireturn, 1) := by decide +kernel
theorem dX9_write_29 : decode cX9_write 29 = .ok (.iload_n 1, 1) := by decide +kernel
theorem dX9_write_30 : decode cX9_write 30 = .ok (.iconst 1, 1) := by decide +kernel
theorem dX9_write_31 : decode cX9_write 31 = .ok (.isub, 1) := by decide +kernel
theorem dX9_write_32 : decode cX9_write 32 = .ok (.istore 4, 2) := by decide +kernel
theorem dX9_write_34 : decode cX9_write 34 = .ok (.iload 4, 2) := by decide +kernel
theorem dX9_write_36 : decode cX9_write 36 = .ok (.ifCond .lt 40, 3) := by decide +kernel
theorem dX9_write_39 : decode cX9_write 39 = .ok (.aload_n 0, 1) := by decide +kernel
theorem dX9_write_40 : decode cX9_write 40 = .ok (.getfield 16, 3) := by decide +kernel
theorem dX9_write_43 : decode cX9_write 43 = .ok (.aload_n 0, 1) := by decide +kernel
theorem dX9_write_44 : decode cX9_write 44 = .ok (.getfield 73, 3) := by decide +kernel
theorem dX9_write_47 : decode cX9_write 47 = .ok (.lload_n 2, 1) := by decide +kernel
theorem dX9_write_48 : decode cX9_write 48 = .ok (.bipush 8, 2) := by decide +kernel
theorem dX9_write_50 : decode cX9_write 50 = .ok (.iload 4, 2) := by decide +kernel
theorem dX9_write_52 : decode cX9_write 52 = .ok (.imul, 1) := by decide +kernel
theorem dX9_write_53 : decode cX9_write 53 = .ok (.lshr, 1) := by decide +kernel
theorem dX9_write_54 : decode cX9_write 54 = .ok (.ldc2_w 76, 3) := by decide +kernel
theorem dX9_write_57 : decode cX9_write 57 = .ok (.land, 1) := by decide +kernel
theorem dX9_write_58 : decode cX9_write 58 = .ok (.l2i, 1) := by decide +kernel
theorem dX9_write_59 : decode cX9_write 59 = .ok (.iastore, 1) := by decide +kernel
theorem dX9_write_60 : decode cX9_write 60 = .ok (.aload_n 0, 1) := by decide +kernel
theorem dX9_write_61 : decode cX9_write 61 = .ok (.dup, 1) := by decide +kernel
theorem dX9_write_62 : decode cX9_write 62 = .ok (.getfield 73, 3) := by decide +kernel
theorem dX9_write_65 : decode cX9_write 65 = .ok (.iconst 1, 1) := by decide +kernel
theorem dX9_write_66 : decode cX9_write 66 = .ok (.iadd, 1) := by decide +kernel
theorem dX9_write_67 : decode cX9_write 67 = .ok (.putfield 73, 3) := by decide +kernel
theorem dX9_write_70 : decode cX9_write 70 = .ok (.iinc 4 (-1), 3) := by decide +kernel
theorem dX9_write_73 : decode cX9_write 73 = .ok (.goto (-39), 3) := by decide +kernel
theorem dX9_write_76 : decode cX9_write 76 = .ok (.aload_n 0, 1) := by decide +kernel
theorem dX9_write_77 : decode cX9_write 77 = .ok (.getfield 73, 3) := by decide +kernel
theorem dX9_write_80 : decode cX9_write 80 = .ok (.ireturn, 1) := by decide +kernel
theorem dX9_wipe_0 : decode cX9_wipe 0 = .ok (.aload_n 0, 1) := by decide +kernel
theorem dX9_wipe_1 : decode cX9_wipe 1 = .ok (.getfield 73, 3) := by decide +kernel
theorem dX9_wipe_4 : decode cX9_wipe 4 = .ok (.istore_n 1, 1) := by decide +kernel
theorem dX9_wipe_5 : decode cX9_wipe 5 = .ok (.aload_n 0, 1) := by decide +kernel
theorem dX9_wipe_6 : decode cX9_wipe 6 = .ok (.iconst 0, 1) := by decide +kernel
theorem dX9_wipe_7 : decode cX9_wipe 7 = .ok (.putfield 73, 3) := by decide +kernel
theorem dX9_wipe_10 : decode cX9_wipe 10 = .ok (.iload_n 1, 1) := by decide +kernel
theorem dX9_wipe_11 : decode cX9_wipe 11 = .ok (.ireturn, 1) := by decide +kernel
set_option maxRecDepth 20000 in
theorem ggX9_figure_X9_in : GoodIn wsX9_figure wsX9_in := goodIn_r _ [8] (by decide +kernel) (by decide +kernel)
set_option maxRecDepth 20000 in
theorem gX9_figure_X9_in : GoodIn wsX9_figure (va_wsS RX9 69 yX9_in wsX9_in) := goodIn_app (goodIn_of _ (by decide +kernel)) ggX9_figure_X9_in
theorem dX9_figure_0 : decode cX9_figure 0 = .ok (.aload_n 0, 1) := by decide +kernel
theorem dX9_figure_1 : decode cX9_figure 1 = .ok (.getfield 78, 3) := by decide +kernel
theorem dX9_figure_4 : decode cX9_figure 4 = .ok (.bipush (-9), 2) := by decide +kernel
theorem dX9_figure_6 : decode cX9_figure 6 = .ok (.if_icmp .ne 29, 3) := by decide +kernel
theorem dX9_figure_9 : decode cX9_figure 9 = .ok (.aload_n 0, 1) := by decide +kernel
theorem dX9_figure_10 : decode cX9_figure 10 = .ok (.getfield 81, 3) := by decide +kernel
theorem dX9_figure_13 : decode cX9_figure 13 = .ok (.aload_n 0, 1) := by decide +kernel
theorem dX9_figure_14 : decode cX9_figure 14 = .ok (.getfield 73, 3) := by decide +kernel
theorem dX9_figure_17 : decode cX9_figure 17 = .ok (.if_icmp .ge 18, 3) := by decide +kernel
theorem dX9_figure_20 : decode cX9_figure 20 = .ok (.aload_n 0, 1) := by decide +kernel
theorem dX9_figure_21 : decode cX9_figure 21 = .ok (.getfield 16, 3) := by decide +kernel
theorem dX9_figure_24 : decode cX9_figure 24 = .ok (.aload_n 0, 1) := by decide +kernel
theorem dX9_figure_25 : decode cX9_figure 25 = .ok (.getfield 81, 3) := by decide +kernel
theorem dX9_figure_28 : decode cX9_figure 28 = .ok (.iaload, 1) := by decide +kernel
theorem dX9_figure_29 : decode cX9_figure 29 = .ok (.bipush 48, 2) := by decide +kernel
theorem dX9_figure_31 : decode cX9_figure 31 = .ok (.isub, 1) := by decide +kernel
theorem dX9_figure_32 : decode cX9_figure 32 = .ok (.goto 4, 3) := by decide +kernel
theorem dX9_figure_35 : decode cX9_figure 35 = .ok (.iconst (-1), 1) := by decide +kernel
theorem dX9_figure_36 : decode cX9_figure 36 = .ok (.istore_n 3, 1) := by decide +kernel
theorem dX9_figure_37 : decode cX9_figure 37 = .ok (.iload_n 3, 1) := by decide +kernel
theorem dX9_figure_38 : decode cX9_figure 38 = .ok (.i2l, 1) := by decide +kernel
theorem dX9_figure_39 : decode cX9_figure 39 = .ok (.iload_n 1, 1) := by decide +kernel
theorem dX9_figure_40 : decode cX9_figure 40 = .ok (.i2l, 1) := by decide +kernel
theorem dX9_figure_41 : decode cX9_figure 41 = .ok (.iload_n 2, 1) := by decide +kernel
theorem dX9_figure_42 : decode cX9_figure 42 = .ok (.i2l, 1) := by decide +kernel
theorem dX9_figure_43 : decode cX9_figure 43 = .ok (.invokestatic 69, 3) := by decide +kernel
theorem dX9_figure_46 : decode cX9_figure 46 = .ok (.ifCond .ne 29, 3) := by decide +kernel
theorem dX9_figure_49 : decode cX9_figure 49 = .ok (.aload_n 0, 1) := by decide +kernel
theorem dX9_figure_50 : decode cX9_figure 50 = .ok (.aload_n 0, 1) := by decide +kernel
theorem dX9_figure_51 : decode cX9_figure 51 = .ok (.getfield 78, 3) := by decide +kernel
theorem dX9_figure_54 : decode cX9_figure 54 = .ok (.bipush (-9), 2) := by decide +kernel
theorem dX9_figure_56 : decode cX9_figure 56 = .ok (.if_icmp .ne 10, 3) := by decide +kernel
theorem dX9_figure_59 : decode cX9_figure 59 = .ok (.aload_n 0, 1) := by decide +kernel
theorem dX9_figure_60 : decode cX9_figure 60 = .ok (.getfield 81, 3) := by decide +kernel
theorem dX9_figure_63 : decode cX9_figure 63 = .ok (.goto 7, 3) := by decide +kernel
theorem dX9_figure_66 : decode cX9_figure 66 = .ok (.aload_n 0, 1) := by decide +kernel
theorem dX9_figure_67 : decode cX9_figure 67 = .ok (.getfield 78, 3) := by decide +kernel
theorem dX9_figure_70 : decode cX9_figure 70 = .ok (.putfield 78, 3) := by decide +kernel
theorem dX9_figure_73 : decode cX9_figure 73 = .ok (.iconst 0, 1) := by decide +kernel
theorem dX9_figure_74 : decode cX9_figure 74 = .ok (.ireturn, 1) := by decide +kernel
theorem dX9_figure_75 : decode cX9_figure 75 = .ok (.aload_n 0, 1) := by decide +kernel
theorem dX9_figure_76 : decode cX9_figure 76 = .ok (.dup, 1) := by decide +kernel
theorem dX9_figure_77 : decode cX9_figure 77 = .ok (.getfield 81, 3) := by decide +kernel
theorem dX9_figure_80 : decode cX9_figure 80 = .ok (.iconst 1, 1) := by decide +kernel
theorem dX9_figure_81 : decode cX9_figure 81 = .ok (.iadd, 1) := by decide +kernel
theorem dX9_figure_82 : decode cX9_figure 82 = .ok (.putfield 81, 3) := by decide +kernel
theorem dX9_figure_85 : decode cX9_figure 85 = .ok (.iload_n 3, 1) := by decide +kernel
theorem dX9_figure_86 : decode cX9_figure 86 = .ok (.ireturn, 1) := by decide +kernel
set_option maxRecDepth 20000 in
theorem ggX9_readText_X9_figure : GoodIn wsX9_readText wsX9_figure := goodIn_r _ [14, 2, 1, 4, 5, 15, 16, 13, 17, 18, 19, 20, 21, 22, 23, 24, 25, 26, 27, 28, 29, 30, 31, 32, 33, 34, 35, 36, 37, 38, 39, 40, 41, 42, 43, 44, 45, 46, 47, 48, 49, 50, 51] (by decide +kernel) (by decide +kernel)
set_option maxRecDepth 20000 in
theorem gX9_readText_X9_figure : GoodIn wsX9_readText (wsV RX9 87 RX9 yX9_figure wsX9_figure) := goodIn_app (goodIn_of _ (by decide +kernel)) ggX9_readText_X9_figure
theorem dX9_readText_0 : decode cX9_readText 0 = .ok (.aload_n 0, 1) := by decide +kernel
theorem dX9_readText_1 : decode cX9_readText 1 = .ok (.iconst 0, 1) := by decide +kernel
theorem dX9_readText_2 : decode cX9_readText 2 = .ok (.putfield 81, 3) := by decide +kernel
theorem dX9_readText_5 : decode cX9_readText 5 = .ok (.aload_n 0, 1) := by decide +kernel
theorem dX9_readText_6 : decode cX9_readText 6 = .ok (.bipush (-9), 2) := by decide +kernel
theorem dX9_readText_8 : decode cX9_readText 8 = .ok (.putfield 78, 3) := by decide +kernel
theorem dX9_readText_11 : decode cX9_readText 11 = .ok (.aload_n 0, 1) := by decide +kernel
theorem dX9_readText_12 : decode cX9_readText 12 = .ok (.iconst 0, 1) := by decide +kernel
theorem dX9_readText_13 : decode cX9_readText 13 = .ok (.putfield 84, 3) := by decide +kernel
theorem dX9_readText_16 : decode cX9_readText 16 = .ok (.aload_n 0, 1) := by decide +kernel
theorem dX9_readText_17 : decode cX9_readText 17 = .ok (.getfield 73, 3) := by decide +kernel
theorem dX9_readText_20 : decode cX9_readText 20 = .ok (.ifCond .eq 14, 3) := by decide +kernel
theorem dX9_readText_23 : decode cX9_readText 23 = .ok (.aload_n 0, 1) := by decide +kernel
theorem dX9_readText_24 : decode cX9_readText 24 = .ok (.getfield 16, 3) := by decide +kernel
theorem dX9_readText_27 : decode cX9_readText 27 = .ok (.iconst 0, 1) := by decide +kernel
theorem dX9_readText_28 : decode cX9_readText 28 = .ok (.iaload, 1) := by decide +kernel
theorem dX9_readText_29 : decode cX9_readText 29 = .ok (.bipush 82, 2) := by decide +kernel
theorem dX9_readText_31 : decode cX9_readText 31 = .ok (.if_icmp .eq 5, 3) := by decide +kernel
theorem dX9_readText_34 : decode cX9_readText 34 = .ok (.iconst 0, 1) := by decide +kernel
theorem dX9_readText_35 : decode cX9_readText 35 = .ok (.ireturn, 1) := by decide +kernel
theorem dX9_readText_36 : decode cX9_readText 36 = .ok (.aload_n 0, 1) := by decide +kernel
theorem dX9_readText_37 : decode cX9_readText 37 = .ok (.iconst 1, 1) := by decide +kernel
theorem dX9_readText_38 : decode cX9_readText 38 = .ok (.putfield 81, 3) := by decide +kernel
theorem dX9_readText_41 : decode cX9_readText 41 = .ok (.aload_n 0, 1) := by decide +kernel
theorem dX9_readText_42 : decode cX9_readText 42 = .ok (.aload_n 0, 1) := by decide +kernel
theorem dX9_readText_43 : decode cX9_readText 43 = .ok (.iconst 0, 1) := by decide +kernel
theorem dX9_readText_44 : decode cX9_readText 44 = .ok (.iconst 2, 1) := by decide +kernel
theorem dX9_readText_45 : decode cX9_readText 45 = .ok (.invokevirtual 87, 3) := by decide +kernel
theorem dX9_readText_48 : decode cX9_readText 48 = .ok (.putfield 91, 3) := by decide +kernel
theorem dX9_readText_51 : decode cX9_readText 51 = .ok (.aload_n 0, 1) := by decide +kernel
theorem dX9_readText_52 : decode cX9_readText 52 = .ok (.aload_n 0, 1) := by decide +kernel
theorem dX9_readText_53 : decode cX9_readText 53 = .ok (.iconst 0, 1) := by decide +kernel
theorem dX9_readText_54 : decode cX9_readText 54 = .ok (.bipush 9, 2) := by decide +kernel
theorem dX9_readText_56 : decode cX9_readText 56 = .ok (.invokevirtual 87, 3) := by decide +kernel
theorem dX9_readText_59 : decode cX9_readText 59 = .ok (.putfield 94, 3) := by decide +kernel
theorem dX9_readText_62 : decode cX9_readText 62 = .ok (.aload_n 0, 1) := by decide +kernel
theorem dX9_readText_63 : decode cX9_readText 63 = .ok (.aload_n 0, 1) := by decide +kernel
theorem dX9_readText_64 : decode cX9_readText 64 = .ok (.iconst 0, 1) := by decide +kernel
theorem dX9_readText_65 : decode cX9_readText 65 = .ok (.bipush 9, 2) := by decide +kernel
theorem dX9_readText_67 : decode cX9_readText 67 = .ok (.invokevirtual 87, 3) := by decide +kernel
theorem dX9_readText_70 : decode cX9_readText 70 = .ok (.putfield 97, 3) := by decide +kernel
theorem dX9_readText_73 : decode cX9_readText 73 = .ok (.aload_n 0, 1) := by decide +kernel
theorem dX9_readText_74 : decode cX9_readText 74 = .ok (.getfield 78, 3) := by decide +kernel
theorem dX9_readText_77 : decode cX9_readText 77 = .ok (.bipush (-9), 2) := by decide +kernel
theorem dX9_readText_79 : decode cX9_readText 79 = .ok (.if_icmp .ne 146, 3) := by decide +kernel
theorem dX9_readText_82 : decode cX9_readText 82 = .ok (.aload_n 0, 1) := by decide +kernel
theorem dX9_readText_83 : decode cX9_readText 83 = .ok (.getfield 81, 3) := by decide +kernel
theorem dX9_readText_86 : decode cX9_readText 86 = .ok (.aload_n 0, 1) := by decide +kernel
theorem dX9_readText_87 : decode cX9_readText 87 = .ok (.getfield 73, 3) := by decide +kernel
theorem dX9_readText_90 : decode cX9_readText 90 = .ok (.if_icmp .ge 135, 3) := by decide +kernel
theorem dX9_readText_93 : decode cX9_readText 93 = .ok (.aload_n 0, 1) := by decide +kernel
theorem dX9_readText_94 : decode cX9_readText 94 = .ok (.getfield 16, 3) := by decide +kernel
theorem dX9_readText_97 : decode cX9_readText 97 = .ok (.aload_n 0, 1) := by decide +kernel
theorem dX9_readText_98 : decode cX9_readText 98 = .ok (.getfield 81, 3) := by decide +kernel
theorem dX9_readText_101 : decode cX9_readText 101 = .ok (.iaload, 1) := by decide +kernel
theorem dX9_readText_102 : decode cX9_readText 102 = .ok (.bipush 80, 2) := by decide +kernel
theorem dX9_readText_104 : decode cX9_readText 104 = .ok (.if_icmp .ne 110, 3) := by decide +kernel
theorem dX9_readText_107 : decode cX9_readText 107 = .ok (.aload_n 0, 1) := by decide +kernel
theorem dX9_readText_108 : decode cX9_readText 108 = .ok (.getfield 84, 3) := by decide +kernel
theorem dX9_readText_111 : decode cX9_readText 111 = .ok (.iconst 5, 1) := by decide +kernel
theorem dX9_readText_112 : decode cX9_readText 112 = .ok (.if_icmp .ge 102, 3) := by decide +kernel
theorem dX9_readText_115 : decode cX9_readText 115 = .ok (.aload_n 0, 1) := by decide +kernel
theorem dX9_readText_116 : decode cX9_readText 116 = .ok (.dup, 1) := by decide +kernel
theorem dX9_readText_117 : decode cX9_readText 117 = .ok (.getfield 81, 3) := by decide +kernel
theorem dX9_readText_120 : decode cX9_readText 120 = .ok (.iconst 1, 1) := by decide +kernel
theorem dX9_readText_121 : decode cX9_readText 121 = .ok (.iadd, 1) := by decide +kernel
theorem dX9_readText_122 : decode cX9_readText 122 = .ok (.putfield 81, 3) := by decide +kernel
theorem dX9_readText_125 : decode cX9_readText 125 = .ok (.iconst 5, 1) := by decide +kernel
theorem dX9_readText_126 : decode cX9_readText 126 = .ok (.aload_n 0, 1) := by decide +kernel
theorem dX9_readText_127 : decode cX9_readText 127 = .ok (.getfield 84, 3) := by decide +kernel
theorem dX9_readText_130 : decode cX9_readText 130 = .ok (.imul, 1) := by decide +kernel
theorem dX9_readText_131 : decode cX9_readText 131 = .ok (.istore_n 1, 1) := by decide +kernel
theorem dX9_readText_132 : decode cX9_readText 132 = .ok (.aload_n 0, 1) := by decide +kernel
theorem dX9_readText_133 : decode cX9_readText 133 = .ok (.iconst 1, 1) := by decide +kernel
theorem dX9_readText_134 : decode cX9_readText 134 = .ok (.bipush 9, 2) := by decide +kernel
theorem dX9_readText_136 : decode cX9_readText 136 = .ok (.invokevirtual 87, 3) := by decide +kernel
theorem dX9_readText_139 : decode cX9_readText 139 = .ok (.istore_n 2, 1) := by decide +kernel
theorem dX9_readText_140 : decode cX9_readText 140 = .ok (.aload_n 0, 1) := by decide +kernel
theorem dX9_readText_141 : decode cX9_readText 141 = .ok (.iconst 0, 1) := by decide +kernel
theorem dX9_readText_142 : decode cX9_readText 142 = .ok (.bipush 9, 2) := by decide +kernel
theorem dX9_readText_144 : decode cX9_readText 144 = .ok (.invokevirtual 87, 3) := by decide +kernel
theorem dX9_readText_147 : decode cX9_readText 147 = .ok (.istore_n 3, 1) := by decide +kernel
theorem dX9_readText_148 : decode cX9_readText 148 = .ok (.aload_n 0, 1) := by decide +kernel
theorem dX9_readText_149 : decode cX9_readText 149 = .ok (.getfield 7, 3) := by decide +kernel
theorem dX9_readText_152 : decode cX9_readText 152 = .ok (.iload_n 1, 1) := by decide +kernel
theorem dX9_readText_153 : decode cX9_readText 153 = .ok (.bipush 100, 2) := by decide +kernel
theorem dX9_readText_155 : decode cX9_readText 155 = .ok (.iload_n 2, 1) := by decide +kernel
theorem dX9_readText_156 : decode cX9_readText 156 = .ok (.imul, 1) := by decide +kernel
theorem dX9_readText_157 : decode cX9_readText 157 = .ok (.bipush 10, 2) := by decide +kernel
theorem dX9_readText_159 : decode cX9_readText 159 = .ok (.iload_n 3, 1) := by decide +kernel
theorem dX9_readText_160 : decode cX9_readText 160 = .ok (.imul, 1) := by decide +kernel
theorem dX9_readText_161 : decode cX9_readText 161 = .ok (.iadd, 1) := by decide +kernel
theorem dX9_readText_162 : decode cX9_readText 162 = .ok (.aload_n 0, 1) := by decide +kernel
theorem dX9_readText_163 : decode cX9_readText 163 = .ok (.iconst 0, 1) := by decide +kernel
theorem dX9_readText_164 : decode cX9_readText 164 = .ok (.bipush 9, 2) := by decide +kernel
theorem dX9_readText_166 : decode cX9_readText 166 = .ok (.invokevirtual 87, 3) := by decide +kernel
theorem dX9_readText_169 : decode cX9_readText 169 = .ok (.iadd, 1) := by decide +kernel
theorem dX9_readText_170 : decode cX9_readText 170 = .ok (.iastore, 1) := by decide +kernel
theorem dX9_readText_171 : decode cX9_readText 171 = .ok (.aload_n 0, 1) := by decide +kernel
theorem dX9_readText_172 : decode cX9_readText 172 = .ok (.getfield 7, 3) := by decide +kernel
theorem dX9_readText_175 : decode cX9_readText 175 = .ok (.iload_n 1, 1) := by decide +kernel
theorem dX9_readText_176 : decode cX9_readText 176 = .ok (.iconst 1, 1) := by decide +kernel
theorem dX9_readText_177 : decode cX9_readText 177 = .ok (.iadd, 1) := by decide +kernel
theorem dX9_readText_178 : decode cX9_readText 178 = .ok (.aload_n 0, 1) := by decide +kernel
theorem dX9_readText_179 : decode cX9_readText 179 = .ok (.iconst 0, 1) := by decide +kernel
theorem dX9_readText_180 : decode cX9_readText 180 = .ok (.bipush 9, 2) := by decide +kernel
theorem dX9_readText_182 : decode cX9_readText 182 = .ok (.invokevirtual 87, 3) := by decide +kernel
theorem dX9_readText_185 : decode cX9_readText 185 = .ok (.iastore, 1) := by decide +kernel
theorem dX9_readText_186 : decode cX9_readText 186 = .ok (.aload_n 0, 1) := by decide +kernel
theorem dX9_readText_187 : decode cX9_readText 187 = .ok (.getfield 7, 3) := by decide +kernel
theorem dX9_readText_190 : decode cX9_readText 190 = .ok (.iload_n 1, 1) := by decide +kernel
theorem dX9_readText_191 : decode cX9_readText 191 = .ok (.iconst 2, 1) := by decide +kernel
theorem dX9_readText_192 : decode cX9_readText 192 = .ok (.iadd, 1) := by decide +kernel
theorem dX9_readText_193 : decode cX9_readText 193 = .ok (.aload_n 0, 1) := by decide +kernel
theorem dX9_readText_194 : decode cX9_readText 194 = .ok (.iconst 0, 1) := by decide +kernel
theorem dX9_readText_195 : decode cX9_readText 195 = .ok (.bipush 9, 2) := by decide +kernel
theorem dX9_readText_197 : decode cX9_readText 197 = .ok (.invokevirtual 87, 3) := by decide +kernel
theorem dX9_readText_200 : decode cX9_readText 200 = .ok (.iastore, 1) := by decide +kernel
theorem dX9_readText_201 : decode cX9_readText 201 = .ok (.aload_n 0, 1) := by decide +kernel
theorem dX9_readText_202 : decode cX9_readText 202 = .ok (.dup, 1) := by decide +kernel
theorem dX9_readText_203 : decode cX9_readText 203 = .ok (.getfield 84, 3) := by decide +kernel
theorem dX9_readText_206 : decode cX9_readText 206 = .ok (.iconst 1, 1) := by decide +kernel
theorem dX9_readText_207 : decode cX9_readText 207 = .ok (.iadd, 1) := by decide +kernel
theorem dX9_readText_208 : decode cX9_readText 208 = .ok (.putfield 84, 3) := by decide +kernel
theorem dX9_readText_211 : decode cX9_readText 211 = .ok (.goto (-138), 3) := by decide +kernel
theorem dX9_readText_214 : decode cX9_readText 214 = .ok (.aload_n 0, 1) := by decide +kernel
theorem dX9_readText_215 : decode cX9_readText 215 = .ok (.aload_n 0, 1) := by decide +kernel
theorem dX9_readText_216 : decode cX9_readText 216 = .ok (.getfield 81, 3) := by decide +kernel
theorem dX9_readText_219 : decode cX9_readText 219 = .ok (.putfield 78, 3) := by decide +kernel
theorem dX9_readText_222 : decode cX9_readText 222 = .ok (.goto (-149), 3) := by decide +kernel
theorem dX9_readText_225 : decode cX9_readText 225 = .ok (.aload_n 0, 1) := by decide +kernel
theorem dX9_readText_226 : decode cX9_readText 226 = .ok (.getfield 78, 3) := by decide +kernel
theorem dX9_readText_229 : decode cX9_readText 229 = .ok (.ireturn, 1) := by decide +kernel
set_option maxRecDepth 20000 in
theorem ggX9_fault_X9_readText : GoodIn wsX9_fault wsX9_readText := goodIn_r _ [5, 6, 7, 8, 9, 10, 11, 12, 13, 14, 15, 16, 17, 4, 18, 19, 20, 21, 22, 23, 24, 25, 26, 27, 28, 29, 30, 31, 32, 33, 34, 35, 36, 37, 38, 39, 40, 41, 42, 43, 44, 45, 46, 47, 48, 49, 50, 51, 52, 53, 54, 55] (by decide +kernel) (by decide +kernel)
set_option maxRecDepth 20000 in
theorem gX9_fault_X9_readText : GoodIn wsX9_fault (wsV RX9 100 RX9 yX9_readText wsX9_readText) := goodIn_app (goodIn_of _ (by decide +kernel)) ggX9_fault_X9_readText
theorem dX9_fault_0 : decode cX9_fault 0 = .ok (.aload_n 0, 1) := by decide +kernel
theorem dX9_fault_1 : decode cX9_fault 1 = .ok (.invokevirtual 100, 3) := by decide +kernel
theorem dX9_fault_4 : decode cX9_fault 4 = .ok (.ireturn, 1) := by decide +kernel
set_option maxRecDepth 20000 in
theorem ggX9_land_X9_readText : GoodIn wsX9_land wsX9_readText := goodIn_r _ [17, 18, 19, 1, 20, 21, 3, 5, 7, 10, 22, 23, 24, 16, 25, 26, 27, 28, 29, 30, 31, 32, 33, 34, 35, 36, 37, 38, 39, 40, 41, 42, 43, 44, 45, 46, 47, 48, 49, 50, 51, 52, 53, 54, 55, 56, 57, 58, 59, 60, 61, 62] (by decide +kernel) (by decide +kernel)
set_option maxRecDepth 20000 in
theorem gX9_land_X9_readText : GoodIn wsX9_land (wsV RX9 100 RX9 yX9_readText wsX9_readText) := goodIn_app (goodIn_of _ (by decide +kernel)) ggX9_land_X9_readText
theorem dX9_land_0 : decode cX9_land 0 = .ok (.aload_n 0, 1) := by decide +kernel
theorem dX9_land_1 : decode cX9_land 1 = .ok (.invokevirtual 100, 3) := by decide +kernel
theorem dX9_land_4 : decode cX9_land 4 = .ok (.bipush (-9), 2) := by decide +kernel
theorem dX9_land_6 : decode cX9_land 6 = .ok (.if_icmp .eq 6, 3) := by decide +kernel
theorem dX9_land_9 : decode cX9_land 9 = .ok (.bipush (-3), 2) := by decide +kernel
theorem dX9_land_11 : decode cX9_land 11 = .ok (.ireturn, 1) := by decide +kernel
theorem dX9_land_12 : decode cX9_land 12 = .ok (.aload_n 0, 1) := by decide +kernel
theorem dX9_land_13 : decode cX9_land 13 = .ok (.aload_n 0, 1) := by decide +kernel
theorem dX9_land_14 : decode cX9_land 14 = .ok (.getfield 84, 3) := by decide +kernel
theorem dX9_land_17 : decode cX9_land 17 = .ok (.putfield 104, 3) := by decide +kernel
theorem dX9_land_20 : decode cX9_land 20 = .ok (.aload_n 0, 1) := by decide +kernel
theorem dX9_land_21 : decode cX9_land 21 = .ok (.aload_n 0, 1) := by decide +kernel
theorem dX9_land_22 : decode cX9_land 22 = .ok (.getfield 91, 3) := by decide +kernel
theorem dX9_land_25 : decode cX9_land 25 = .ok (.putfield 63, 3) := by decide +kernel
theorem dX9_land_28 : decode cX9_land 28 = .ok (.aload_n 0, 1) := by decide +kernel
theorem dX9_land_29 : decode cX9_land 29 = .ok (.aload_n 0, 1) := by decide +kernel
theorem dX9_land_30 : decode cX9_land 30 = .ok (.getfield 94, 3) := by decide +kernel
theorem dX9_land_33 : decode cX9_land 33 = .ok (.putfield 107, 3) := by decide +kernel
theorem dX9_land_36 : decode cX9_land 36 = .ok (.aload_n 0, 1) := by decide +kernel
theorem dX9_land_37 : decode cX9_land 37 = .ok (.aload_n 0, 1) := by decide +kernel
theorem dX9_land_38 : decode cX9_land 38 = .ok (.getfield 97, 3) := by decide +kernel
theorem dX9_land_41 : decode cX9_land 41 = .ok (.putfield 110, 3) := by decide +kernel
theorem dX9_land_44 : decode cX9_land 44 = .ok (.iconst 0, 1) := by decide +kernel
theorem dX9_land_45 : decode cX9_land 45 = .ok (.istore_n 1, 1) := by decide +kernel
theorem dX9_land_46 : decode cX9_land 46 = .ok (.iload_n 1, 1) := by decide +kernel
theorem dX9_land_47 : decode cX9_land 47 = .ok (.bipush 25, 2) := by decide +kernel
theorem dX9_land_49 : decode cX9_land 49 = .ok (.if_icmp .ge 32, 3) := by decide +kernel
theorem dX9_land_52 : decode cX9_land 52 = .ok (.aload_n 0, 1) := by decide +kernel
theorem dX9_land_53 : decode cX9_land 53 = .ok (.getfield 13, 3) := by decide +kernel
theorem dX9_land_56 : decode cX9_land 56 = .ok (.iload_n 1, 1) := by decide +kernel
theorem dX9_land_57 : decode cX9_land 57 = .ok (.iload_n 1, 1) := by decide +kernel
theorem dX9_land_58 : decode cX9_land 58 = .ok (.iconst 5, 1) := by decide +kernel
theorem dX9_land_59 : decode cX9_land 59 = .ok (.irem, 1) := by decide +kernel
theorem dX9_land_60 : decode cX9_land 60 = .ok (.iconst 3, 1) := by decide +kernel
theorem dX9_land_61 : decode cX9_land 61 = .ok (.if_icmp .ge 12, 3) := by decide +kernel
theorem dX9_land_64 : decode cX9_land 64 = .ok (.aload_n 0, 1) := by decide +kernel
theorem dX9_land_65 : decode cX9_land 65 = .ok (.getfield 7, 3) := by decide +kernel
theorem dX9_land_68 : decode cX9_land 68 = .ok (.iload_n 1, 1) := by decide +kernel
theorem dX9_land_69 : decode cX9_land 69 = .ok (.iaload, 1) := by decide +kernel
theorem dX9_land_70 : decode cX9_land 70 = .ok (.goto 4, 3) := by decide +kernel
theorem dX9_land_73 : decode cX9_land 73 = .ok (.iconst 0, 1) := by decide +kernel
theorem dX9_land_74 : decode cX9_land 74 = .ok (.iastore, 1) := by decide +kernel
theorem dX9_land_75 : decode cX9_land 75 = .ok (.iinc 1 1, 3) := by decide +kernel
theorem dX9_land_78 : decode cX9_land 78 = .ok (.goto (-32), 3) := by decide +kernel
theorem dX9_land_81 : decode cX9_land 81 = .ok (.aload_n 0, 1) := by decide +kernel
theorem dX9_land_82 : decode cX9_land 82 = .ok (.getfield 13, 3) := by decide +kernel
theorem dX9_land_85 : decode cX9_land 85 = .ok (.bipush 25, 2) := by decide +kernel
theorem dX9_land_87 : decode cX9_land 87 = .ok (.iconst 0, 1) := by decide +kernel
theorem dX9_land_88 : decode cX9_land 88 = .ok (.iastore, 1) := by decide +kernel
theorem dX9_land_89 : decode cX9_land 89 = .ok (.aload_n 0, 1) := by decide +kernel
theorem dX9_land_90 : decode cX9_land 90 = .ok (.iconst 0, 1) := by decide +kernel
theorem dX9_land_91 : decode cX9_land 91 = .ok (.putfield 113, 3) := by decide +kernel
theorem dX9_land_94 : decode cX9_land 94 = .ok (.aload_n 0, 1) := by decide +kernel
theorem dX9_land_95 : decode cX9_land 95 = .ok (.getfield 56, 3) := by decide +kernel
theorem dX9_land_98 : decode cX9_land 98 = .ok (.iconst 0, 1) := by decide +kernel
theorem dX9_land_99 : decode cX9_land 99 = .ok (.iconst 0, 1) := by decide +kernel
theorem dX9_land_100 : decode cX9_land 100 = .ok (.bastore, 1) := by decide +kernel
theorem dX9_land_101 : decode cX9_land 101 = .ok (.aload_n 0, 1) := by decide +kernel
theorem dX9_land_102 : decode cX9_land 102 = .ok (.getfield 56, 3) := by decide +kernel
theorem dX9_land_105 : decode cX9_land 105 = .ok (.iconst 1, 1) := by decide +kernel
theorem dX9_land_106 : decode cX9_land 106 = .ok (.iconst 0, 1) := by decide +kernel
theorem dX9_land_107 : decode cX9_land 107 = .ok (.bastore, 1) := by decide +kernel
theorem dX9_land_108 : decode cX9_land 108 = .ok (.aload_n 0, 1) := by decide +kernel
theorem dX9_land_109 : decode cX9_land 109 = .ok (.getfield 104, 3) := by decide +kernel
theorem dX9_land_112 : decode cX9_land 112 = .ok (.ireturn, 1) := by decide +kernel
set_option maxRecDepth 20000 in
theorem ggX9_isPerson_X9_in : GoodIn wsX9_isPerson wsX9_in := goodIn_r _ [5] (by decide +kernel) (by decide +kernel)
set_option maxRecDepth 20000 in
theorem gX9_isPerson_X9_in : GoodIn wsX9_isPerson (va_wsS RX9 69 yX9_in wsX9_in) := goodIn_app (goodIn_of _ (by decide +kernel)) ggX9_isPerson_X9_in
theorem dX9_isPerson_0 : decode cX9_isPerson 0 = .ok (.iload_n 1, 1) := by decide +kernel
theorem dX9_isPerson_1 : decode cX9_isPerson 1 = .ok (.i2l, 1) := by decide +kernel
theorem dX9_isPerson_2 : decode cX9_isPerson 2 = .ok (.lconst 0, 1) := by decide +kernel
theorem dX9_isPerson_3 : decode cX9_isPerson 3 = .ok (.aload_n 0, 1) := by decide +kernel
theorem dX9_isPerson_4 : decode cX9_isPerson 4 = .ok (.getfield 104, 3) := by decide +kernel
theorem dX9_isPerson_7 : decode cX9_isPerson 7 = .ok (.iconst 1, 1) := by decide +kernel
theorem dX9_isPerson_8 : decode cX9_isPerson 8 = .ok (.isub, 1) := by decide +kernel
theorem dX9_isPerson_9 : decode cX9_isPerson 9 = .ok (.i2l, 1) := by decide +kernel
theorem dX9_isPerson_10 : decode cX9_isPerson 10 = .ok (.invokestatic 69, 3) := by decide +kernel
theorem dX9_isPerson_13 : decode cX9_isPerson 13 = .ok (.ireturn, 1) := by decide +kernel
theorem dX9_noonOf_0 : decode cX9_noonOf 0 = .ok (.aload_n 0, 1) := by decide +kernel
theorem dX9_noonOf_1 : decode cX9_noonOf 1 = .ok (.getfield 13, 3) := by decide +kernel
theorem dX9_noonOf_4 : decode cX9_noonOf 4 = .ok (.iconst 5, 1) := by decide +kernel
theorem dX9_noonOf_5 : decode cX9_noonOf 5 = .ok (.iload_n 1, 1) := by decide +kernel
theorem dX9_noonOf_6 : decode cX9_noonOf 6 = .ok (.imul, 1) := by decide +kernel
theorem dX9_noonOf_7 : decode cX9_noonOf 7 = .ok (.iaload, 1) := by decide +kernel
theorem dX9_noonOf_8 : decode cX9_noonOf 8 = .ok (.bipush 8, 2) := by decide +kernel
theorem dX9_noonOf_10 : decode cX9_noonOf 10 = .ok (.aload_n 0, 1) := by decide +kernel
theorem dX9_noonOf_11 : decode cX9_noonOf 11 = .ok (.getfield 13, 3) := by decide +kernel
theorem dX9_noonOf_14 : decode cX9_noonOf 14 = .ok (.iconst 5, 1) := by decide +kernel
theorem dX9_noonOf_15 : decode cX9_noonOf 15 = .ok (.iload_n 1, 1) := by decide +kernel
theorem dX9_noonOf_16 : decode cX9_noonOf 16 = .ok (.imul, 1) := by decide +kernel
theorem dX9_noonOf_17 : decode cX9_noonOf 17 = .ok (.iconst 1, 1) := by decide +kernel
theorem dX9_noonOf_18 : decode cX9_noonOf 18 = .ok (.iadd, 1) := by decide +kernel
theorem dX9_noonOf_19 : decode cX9_noonOf 19 = .ok (.iaload, 1) := by decide +kernel
theorem dX9_noonOf_20 : decode cX9_noonOf 20 = .ok (.imul, 1) := by decide +kernel
theorem dX9_noonOf_21 : decode cX9_noonOf 21 = .ok (.iadd, 1) := by decide +kernel
theorem dX9_noonOf_22 : decode cX9_noonOf 22 = .ok (.bipush 10, 2) := by decide +kernel
theorem dX9_noonOf_24 : decode cX9_noonOf 24 = .ok (.aload_n 0, 1) := by decide +kernel
theorem dX9_noonOf_25 : decode cX9_noonOf 25 = .ok (.getfield 13, 3) := by decide +kernel
theorem dX9_noonOf_28 : decode cX9_noonOf 28 = .ok (.iconst 5, 1) := by decide +kernel
theorem dX9_noonOf_29 : decode cX9_noonOf 29 = .ok (.iload_n 1, 1) := by decide +kernel
theorem dX9_noonOf_30 : decode cX9_noonOf 30 = .ok (.imul, 1) := by decide +kernel
theorem dX9_noonOf_31 : decode cX9_noonOf 31 = .ok (.iconst 2, 1) := by decide +kernel
theorem dX9_noonOf_32 : decode cX9_noonOf 32 = .ok (.iadd, 1) := by decide +kernel
theorem dX9_noonOf_33 : decode cX9_noonOf 33 = .ok (.iaload, 1) := by decide +kernel
theorem dX9_noonOf_34 : decode cX9_noonOf 34 = .ok (.imul, 1) := by decide +kernel
theorem dX9_noonOf_35 : decode cX9_noonOf 35 = .ok (.iadd, 1) := by decide +kernel
theorem dX9_noonOf_36 : decode cX9_noonOf 36 = .ok (.ireturn, 1) := by decide +kernel
theorem dX9_isIll_0 : decode cX9_isIll 0 = .ok (.aload_n 0, 1) := by decide +kernel
theorem dX9_isIll_1 : decode cX9_isIll 1 = .ok (.getfield 13, 3) := by decide +kernel
theorem dX9_isIll_4 : decode cX9_isIll 4 = .ok (.iconst 5, 1) := by decide +kernel
theorem dX9_isIll_5 : decode cX9_isIll 5 = .ok (.iload_n 1, 1) := by decide +kernel
theorem dX9_isIll_6 : decode cX9_isIll 6 = .ok (.imul, 1) := by decide +kernel
theorem dX9_isIll_7 : decode cX9_isIll 7 = .ok (.iaload, 1) := by decide +kernel
theorem dX9_isIll_8 : decode cX9_isIll 8 = .ok (.bipush 40, 2) := by decide +kernel
theorem dX9_isIll_10 : decode cX9_isIll 10 = .ok (.aload_n 0, 1) := by decide +kernel
theorem dX9_isIll_11 : decode cX9_isIll 11 = .ok (.getfield 110, 3) := by decide +kernel
theorem dX9_isIll_14 : decode cX9_isIll 14 = .ok (.imul, 1) := by decide +kernel
theorem dX9_isIll_15 : decode cX9_isIll 15 = .ok (.if_icmp .ge 7, 3) := by decide +kernel
theorem dX9_isIll_18 : decode cX9_isIll 18 = .ok (.iconst 1, 1) := by decide +kernel
theorem dX9_isIll_19 : decode cX9_isIll 19 = .ok (.goto 4, 3) := by decide +kernel
theorem dX9_isIll_22 : decode cX9_isIll 22 = .ok (.iconst 0, 1) := by decide +kernel
theorem dX9_isIll_23 : decode cX9_isIll 23 = .ok (.ireturn, 1) := by decide +kernel
set_option maxRecDepth 20000 in
theorem ggX9_person_X9_isPerson : GoodIn wsX9_person wsX9_isPerson := goodIn_r _ [6, 7, 8, 9, 5, 10, 20, 21, 22, 23, 24, 25, 26, 27, 28, 29, 30, 31, 32, 33, 34, 35, 36, 37, 38, 39, 40, 41, 42, 43, 44, 45, 46, 47, 48, 49, 50, 51, 52, 53] (by decide +kernel) (by decide +kernel)
set_option maxRecDepth 20000 in
theorem gX9_person_X9_isPerson : GoodIn wsX9_person (wsV RX9 116 RX9 yX9_isPerson wsX9_isPerson) := goodIn_app (goodIn_of _ (by decide +kernel)) ggX9_person_X9_isPerson
set_option maxRecDepth 20000 in
theorem ggX9_person_X9_noonOf : GoodIn wsX9_person wsX9_noonOf := goodIn_r _ [14, 1, 20, 21, 22, 23, 24, 25, 26, 27, 28, 29, 30, 31, 32, 33, 34, 35, 36, 37, 38, 39, 40, 41, 42, 43, 44, 45, 46, 47, 48, 49, 50, 51, 52, 53] (by decide +kernel) (by decide +kernel)
set_option maxRecDepth 20000 in
theorem gX9_person_X9_noonOf : GoodIn wsX9_person (wsV RX9 120 RX9 yX9_noonOf wsX9_noonOf) := goodIn_app (goodIn_of _ (by decide +kernel)) ggX9_person_X9_noonOf
set_option maxRecDepth 20000 in
theorem ggX9_person_X9_isIll : GoodIn wsX9_person wsX9_isIll := goodIn_r _ [18, 1, 19, 20, 21, 22, 23, 24, 25, 26, 27, 28, 29, 30, 31, 32, 33, 34, 35, 36, 37, 38, 39, 40, 41, 42, 43, 44, 45, 46, 47, 48, 49, 50, 51, 52, 53] (by decide +kernel) (by decide +kernel)
set_option maxRecDepth 20000 in
theorem gX9_person_X9_isIll : GoodIn wsX9_person (wsV RX9 124 RX9 yX9_isIll wsX9_isIll) := goodIn_app (goodIn_of _ (by decide +kernel)) ggX9_person_X9_isIll
theorem dX9_person_0 : decode cX9_person 0 = .ok (.aload_n 0, 1) := by decide +kernel
theorem dX9_person_1 : decode cX9_person 1 = .ok (.iload_n 1, 1) := by decide +kernel
theorem dX9_person_2 : decode cX9_person 2 = .ok (.invokevirtual 116, 3) := by decide +kernel
theorem dX9_person_5 : decode cX9_person 5 = .ok (.ifCond .ne 5, 3) := by decide +kernel
theorem dX9_person_8 : decode cX9_person 8 = .ok (.iconst (-1), 1) := by decide +kernel
theorem dX9_person_9 : decode cX9_person 9 = .ok (.ireturn, 1) := by decide +kernel
theorem dX9_person_10 : decode cX9_person 10 = .ok (.iload_n 2, 1) := by decide +kernel
theorem dX9_person_11 : decode cX9_person 11 = .ok (.tableswitch 83 0 6 #[41, 41, 41, 41, 52, 58, 72], 41) := by decide +kernel
theorem dX9_person_52 : decode cX9_person 52 = .ok (.aload_n 0, 1) := by decide +kernel
theorem dX9_person_53 : decode cX9_person 53 = .ok (.getfield 13, 3) := by decide +kernel
theorem dX9_person_56 : decode cX9_person 56 = .ok (.iconst 5, 1) := by decide +kernel
theorem dX9_person_57 : decode cX9_person 57 = .ok (.iload_n 1, 1) := by decide +kernel
theorem dX9_person_58 : decode cX9_person 58 = .ok (.imul, 1) := by decide +kernel
theorem dX9_person_59 : decode cX9_person 59 = .ok (.iload_n 2, 1) := by decide +kernel
theorem dX9_person_60 : decode cX9_person 60 = .ok (.iadd, 1) := by decide +kernel
theorem dX9_person_61 : decode cX9_person 61 = .ok (.iaload, 1) := by decide +kernel
theorem dX9_person_62 : decode cX9_person 62 = .ok (.ireturn, 1) := by decide +kernel
theorem dX9_person_63 : decode cX9_person 63 = .ok (.aload_n 0, 1) := by decide +kernel
theorem dX9_person_64 : decode cX9_person 64 = .ok (.iload_n 1, 1) := by decide +kernel
theorem dX9_person_65 : decode cX9_person 65 = .ok (.invokevirtual 120, 3) := by decide +kernel
theorem dX9_person_68 : decode cX9_person 68 = .ok (.ireturn, 1) := by decide +kernel
theorem dX9_person_69 : decode cX9_person 69 = .ok (.aload_n 0, 1) := by decide +kernel
theorem dX9_person_70 : decode cX9_person 70 = .ok (.iload_n 1, 1) := by decide +kernel
theorem dX9_person_71 : decode cX9_person 71 = .ok (.invokevirtual 124, 3) := by decide +kernel
theorem dX9_person_74 : decode cX9_person 74 = .ok (.ifCond .eq 7, 3) := by decide +kernel
theorem dX9_person_77 : decode cX9_person 77 = .ok (.iconst 1, 1) := by decide +kernel
theorem dX9_person_78 : decode cX9_person 78 = .ok (.goto 4, 3) := by decide +kernel
theorem dX9_person_81 : decode cX9_person 81 = .ok (.iconst 0, 1) := by decide +kernel
theorem dX9_person_82 : decode cX9_person 82 = .ok (.ireturn, 1) := by decide +kernel
theorem dX9_person_83 : decode cX9_person 83 = .ok (.aload_n 0, 1) := by decide +kernel
theorem dX9_person_84 : decode cX9_person 84 = .ok (.getfield 13, 3) := by decide +kernel
theorem dX9_person_87 : decode cX9_person 87 = .ok (.iconst 5, 1) := by decide +kernel
theorem dX9_person_88 : decode cX9_person 88 = .ok (.iload_n 1, 1) := by decide +kernel
theorem dX9_person_89 : decode cX9_person 89 = .ok (.imul, 1) := by decide +kernel
theorem dX9_person_90 : decode cX9_person 90 = .ok (.iconst 4, 1) := by decide +kernel
theorem dX9_person_91 : decode cX9_person 91 = .ok (.iadd, 1) := by decide +kernel
theorem dX9_person_92 : decode cX9_person 92 = .ok (.iaload, 1) := by decide +kernel
theorem dX9_person_93 : decode cX9_person 93 = .ok (.ireturn, 1) := by decide +kernel
theorem dX9_person_94 : decode cX9_person 94 = .ok (.bipush (-2), 2) := by decide +kernel
theorem dX9_person_96 : decode cX9_person 96 = .ok (.ireturn, 1) := by decide +kernel
set_option maxRecDepth 20000 in
theorem ggX9_law_X9_in : GoodIn wsX9_law wsX9_in := goodIn_r _ [6] (by decide +kernel) (by decide +kernel)
set_option maxRecDepth 20000 in
theorem gX9_law_X9_in : GoodIn wsX9_law (va_wsS RX9 69 yX9_in wsX9_in) := goodIn_app (goodIn_of _ (by decide +kernel)) ggX9_law_X9_in
theorem dX9_law_0 : decode cX9_law 0 = .ok (.iload_n 1, 1) := by decide +kernel
theorem dX9_law_1 : decode cX9_law 1 = .ok (.i2l, 1) := by decide +kernel
theorem dX9_law_2 : decode cX9_law 2 = .ok (.lconst 0, 1) := by decide +kernel
theorem dX9_law_3 : decode cX9_law 3 = .ok (.ldc2_w 127, 3) := by decide +kernel
theorem dX9_law_6 : decode cX9_law 6 = .ok (.invokestatic 69, 3) := by decide +kernel
theorem dX9_law_9 : decode cX9_law 9 = .ok (.ifCond .ne 6, 3) := by decide +kernel
theorem dX9_law_12 : decode cX9_law 12 = .ok (.bipush (-2), 2) := by decide +kernel
theorem dX9_law_14 : decode cX9_law 14 = .ok (.ireturn, 1) := by decide +kernel
theorem dX9_law_15 : decode cX9_law 15 = .ok (.aload_n 0, 1) := by decide +kernel
theorem dX9_law_16 : decode cX9_law 16 = .ok (.getfield 63, 3) := by decide +kernel
theorem dX9_law_19 : decode cX9_law 19 = .ok (.istore_n 2, 1) := by decide +kernel
theorem dX9_law_20 : decode cX9_law 20 = .ok (.aload_n 0, 1) := by decide +kernel
theorem dX9_law_21 : decode cX9_law 21 = .ok (.iload_n 1, 1) := by decide +kernel
theorem dX9_law_22 : decode cX9_law 22 = .ok (.putfield 63, 3) := by decide +kernel
theorem dX9_law_25 : decode cX9_law 25 = .ok (.iload_n 2, 1) := by decide +kernel
theorem dX9_law_26 : decode cX9_law 26 = .ok (.ireturn, 1) := by decide +kernel
theorem dX9_keepAct_0 : decode cX9_keepAct 0 = .ok (.iconst 0, 1) := by decide +kernel
theorem dX9_keepAct_1 : decode cX9_keepAct 1 = .ok (.istore_n 1, 1) := by decide +kernel
theorem dX9_keepAct_2 : decode cX9_keepAct 2 = .ok (.iload_n 1, 1) := by decide +kernel
theorem dX9_keepAct_3 : decode cX9_keepAct 3 = .ok (.bipush 26, 2) := by decide +kernel
theorem dX9_keepAct_5 : decode cX9_keepAct 5 = .ok (.if_icmp .ge 29, 3) := by decide +kernel
theorem dX9_keepAct_8 : decode cX9_keepAct 8 = .ok (.aload_n 0, 1) := by decide +kernel
theorem dX9_keepAct_9 : decode cX9_keepAct 9 = .ok (.getfield 19, 3) := by decide +kernel
theorem dX9_keepAct_12 : decode cX9_keepAct 12 = .ok (.bipush 26, 2) := by decide +kernel
theorem dX9_keepAct_14 : decode cX9_keepAct 14 = .ok (.aload_n 0, 1) := by decide +kernel
theorem dX9_keepAct_15 : decode cX9_keepAct 15 = .ok (.getfield 129, 3) := by decide +kernel
theorem dX9_keepAct_18 : decode cX9_keepAct 18 = .ok (.imul, 1) := by decide +kernel
theorem dX9_keepAct_19 : decode cX9_keepAct 19 = .ok (.iload_n 1, 1) := by decide +kernel
theorem dX9_keepAct_20 : decode cX9_keepAct 20 = .ok (.iadd, 1) := by decide +kernel
theorem dX9_keepAct_21 : decode cX9_keepAct 21 = .ok (.aload_n 0, 1) := by decide +kernel
theorem dX9_keepAct_22 : decode cX9_keepAct 22 = .ok (.getfield 13, 3) := by decide +kernel
theorem dX9_keepAct_25 : decode cX9_keepAct 25 = .ok (.iload_n 1, 1) := by decide +kernel
theorem dX9_keepAct_26 : decode cX9_keepAct 26 = .ok (.iaload, 1) := by decide +kernel
theorem dX9_keepAct_27 : decode cX9_keepAct 27 = .ok (.iastore, 1) := by decide +kernel
theorem dX9_keepAct_28 : decode cX9_keepAct 28 = .ok (.iinc 1 1, 3) := by decide +kernel
theorem dX9_keepAct_31 : decode cX9_keepAct 31 = .ok (.goto (-29), 3) := by decide +kernel
theorem dX9_keepAct_34 : decode cX9_keepAct 34 = .ok (.aload_n 0, 1) := by decide +kernel
theorem dX9_keepAct_35 : decode cX9_keepAct 35 = .ok (.aload_n 0, 1) := by decide +kernel
theorem dX9_keepAct_36 : decode cX9_keepAct 36 = .ok (.getfield 129, 3) := by decide +kernel
theorem dX9_keepAct_39 : decode cX9_keepAct 39 = .ok (.iconst 1, 1) := by decide +kernel
theorem dX9_keepAct_40 : decode cX9_keepAct 40 = .ok (.iadd, 1) := by decide +kernel
theorem dX9_keepAct_41 : decode cX9_keepAct 41 = .ok (.bipush 16, 2) := by decide +kernel
theorem dX9_keepAct_43 : decode cX9_keepAct 43 = .ok (.irem, 1) := by decide +kernel
theorem dX9_keepAct_44 : decode cX9_keepAct 44 = .ok (.putfield 129, 3) := by decide +kernel
theorem dX9_keepAct_47 : decode cX9_keepAct 47 = .ok (.aload_n 0, 1) := by decide +kernel
theorem dX9_keepAct_48 : decode cX9_keepAct 48 = .ok (.aload_n 0, 1) := by decide +kernel
theorem dX9_keepAct_49 : decode cX9_keepAct 49 = .ok (.getfield 113, 3) := by decide +kernel
theorem dX9_keepAct_52 : decode cX9_keepAct 52 = .ok (.bipush 16, 2) := by decide +kernel
theorem dX9_keepAct_54 : decode cX9_keepAct 54 = .ok (.if_icmp .ge 12, 3) := by decide +kernel
theorem dX9_keepAct_57 : decode cX9_keepAct 57 = .ok (.aload_n 0, 1) := by decide +kernel
theorem dX9_keepAct_58 : decode cX9_keepAct 58 = .ok (.getfield 113, 3) := by decide +kernel
theorem dX9_keepAct_61 : decode cX9_keepAct 61 = .ok (.iconst 1, 1) := by decide +kernel
theorem dX9_keepAct_62 : decode cX9_keepAct 62 = .ok (.iadd, 1) := by decide +kernel
theorem dX9_keepAct_63 : decode cX9_keepAct 63 = .ok (.goto 5, 3) := by decide +kernel
theorem dX9_keepAct_66 : decode cX9_keepAct 66 = .ok (.bipush 16, 2) := by decide +kernel
theorem dX9_keepAct_68 : decode cX9_keepAct 68 = .ok (.putfield 113, 3) := by decide +kernel
theorem dX9_keepAct_71 : decode cX9_keepAct 71 = .ok (.return_, 1) := by decide +kernel
set_option maxRecDepth 20000 in
theorem ggX9_eat_X9_isPerson : GoodIn wsX9_eat wsX9_isPerson := goodIn_r _ [7, 8, 9, 10, 6, 11, 19, 20, 21, 22, 23, 24, 25, 26, 27, 28, 29, 30, 31, 32, 33, 34, 35, 36, 37, 38, 39, 40, 41, 42, 43, 44, 45, 46, 47, 48, 49, 50, 51, 52] (by decide +kernel) (by decide +kernel)
set_option maxRecDepth 20000 in
theorem gX9_eat_X9_isPerson : GoodIn wsX9_eat (wsV RX9 116 RX9 yX9_isPerson wsX9_isPerson) := goodIn_app (goodIn_of _ (by decide +kernel)) ggX9_eat_X9_isPerson
set_option maxRecDepth 20000 in
theorem ggX9_eat_X9_in : GoodIn wsX9_eat wsX9_in := goodIn_r _ [11] (by decide +kernel) (by decide +kernel)
set_option maxRecDepth 20000 in
theorem gX9_eat_X9_in : GoodIn wsX9_eat (va_wsS RX9 69 yX9_in wsX9_in) := goodIn_app (goodIn_of _ (by decide +kernel)) ggX9_eat_X9_in
set_option maxRecDepth 20000 in
theorem ggX9_eat_X9_keepAct : GoodIn wsX9_eat wsX9_keepAct := goodIn_r _ [15, 16, 17, 2, 18, 19, 20, 21, 22, 23, 24, 25, 26, 27, 28, 29, 30, 31, 32, 33, 34, 35, 36, 37, 38, 39, 40, 41, 42, 43, 44, 45, 46, 47, 48, 49, 50, 51, 52] (by decide +kernel) (by decide +kernel)
set_option maxRecDepth 20000 in
theorem gX9_eat_X9_keepAct : GoodIn wsX9_eat (wsV RX9 134 RX9 yX9_keepAct wsX9_keepAct) := goodIn_app (goodIn_of _ (by decide +kernel)) ggX9_eat_X9_keepAct
theorem dX9_eat_0 : decode cX9_eat 0 = .ok (.aload_n 0, 1) := by decide +kernel
theorem dX9_eat_1 : decode cX9_eat 1 = .ok (.iload_n 1, 1) := by decide +kernel
theorem dX9_eat_2 : decode cX9_eat 2 = .ok (.invokevirtual 116, 3) := by decide +kernel
theorem dX9_eat_5 : decode cX9_eat 5 = .ok (.ifCond .ne 5, 3) := by decide +kernel
theorem dX9_eat_8 : decode cX9_eat 8 = .ok (.iconst (-1), 1) := by decide +kernel
theorem dX9_eat_9 : decode cX9_eat 9 = .ok (.ireturn, 1) := by decide +kernel
theorem dX9_eat_10 : decode cX9_eat 10 = .ok (.iload_n 2, 1) := by decide +kernel
theorem dX9_eat_11 : decode cX9_eat 11 = .ok (.i2l, 1) := by decide +kernel
theorem dX9_eat_12 : decode cX9_eat 12 = .ok (.lconst 1, 1) := by decide +kernel
theorem dX9_eat_13 : decode cX9_eat 13 = .ok (.ldc2_w 132, 3) := by decide +kernel
theorem dX9_eat_16 : decode cX9_eat 16 = .ok (.invokestatic 69, 3) := by decide +kernel
theorem dX9_eat_19 : decode cX9_eat 19 = .ok (.ifCond .ne 6, 3) := by decide +kernel
theorem dX9_eat_22 : decode cX9_eat 22 = .ok (.bipush (-2), 2) := by decide +kernel
theorem dX9_eat_24 : decode cX9_eat 24 = .ok (.ireturn, 1) := by decide +kernel
theorem dX9_eat_25 : decode cX9_eat 25 = .ok (.aload_n 0, 1) := by decide +kernel
theorem dX9_eat_26 : decode cX9_eat 26 = .ok (.getfield 13, 3) := by decide +kernel
theorem dX9_eat_29 : decode cX9_eat 29 = .ok (.iconst 5, 1) := by decide +kernel
theorem dX9_eat_30 : decode cX9_eat 30 = .ok (.iload_n 1, 1) := by decide +kernel
theorem dX9_eat_31 : decode cX9_eat 31 = .ok (.imul, 1) := by decide +kernel
theorem dX9_eat_32 : decode cX9_eat 32 = .ok (.iconst 1, 1) := by decide +kernel
theorem dX9_eat_33 : decode cX9_eat 33 = .ok (.iadd, 1) := by decide +kernel
theorem dX9_eat_34 : decode cX9_eat 34 = .ok (.iaload, 1) := by decide +kernel
theorem dX9_eat_35 : decode cX9_eat 35 = .ok (.iload_n 2, 1) := by decide +kernel
theorem dX9_eat_36 : decode cX9_eat 36 = .ok (.if_icmp .ge 6, 3) := by decide +kernel
theorem dX9_eat_39 : decode cX9_eat 39 = .ok (.bipush (-3), 2) := by decide +kernel
theorem dX9_eat_41 : decode cX9_eat 41 = .ok (.ireturn, 1) := by decide +kernel
theorem dX9_eat_42 : decode cX9_eat 42 = .ok (.aload_n 0, 1) := by decide +kernel
theorem dX9_eat_43 : decode cX9_eat 43 = .ok (.invokevirtual 134, 3) := by decide +kernel
theorem dX9_eat_46 : decode cX9_eat 46 = .ok (.aload_n 0, 1) := by decide +kernel
theorem dX9_eat_47 : decode cX9_eat 47 = .ok (.getfield 13, 3) := by decide +kernel
theorem dX9_eat_50 : decode cX9_eat 50 = .ok (.iconst 5, 1) := by decide +kernel
theorem dX9_eat_51 : decode cX9_eat 51 = .ok (.iload_n 1, 1) := by decide +kernel
theorem dX9_eat_52 : decode cX9_eat 52 = .ok (.imul, 1) := by decide +kernel
theorem dX9_eat_53 : decode cX9_eat 53 = .ok (.dup2, 1) := by decide +kernel
theorem dX9_eat_54 : decode cX9_eat 54 = .ok (.iaload, 1) := by decide +kernel
theorem dX9_eat_55 : decode cX9_eat 55 = .ok (.bipush 8, 2) := by decide +kernel
theorem dX9_eat_57 : decode cX9_eat 57 = .ok (.iload_n 2, 1) := by decide +kernel
theorem dX9_eat_58 : decode cX9_eat 58 = .ok (.imul, 1) := by decide +kernel
theorem dX9_eat_59 : decode cX9_eat 59 = .ok (.iadd, 1) := by decide +kernel
theorem dX9_eat_60 : decode cX9_eat 60 = .ok (.iastore, 1) := by decide +kernel
theorem dX9_eat_61 : decode cX9_eat 61 = .ok (.aload_n 0, 1) := by decide +kernel
theorem dX9_eat_62 : decode cX9_eat 62 = .ok (.getfield 13, 3) := by decide +kernel
theorem dX9_eat_65 : decode cX9_eat 65 = .ok (.iconst 5, 1) := by decide +kernel
theorem dX9_eat_66 : decode cX9_eat 66 = .ok (.iload_n 1, 1) := by decide +kernel
theorem dX9_eat_67 : decode cX9_eat 67 = .ok (.imul, 1) := by decide +kernel
theorem dX9_eat_68 : decode cX9_eat 68 = .ok (.iconst 1, 1) := by decide +kernel
theorem dX9_eat_69 : decode cX9_eat 69 = .ok (.iadd, 1) := by decide +kernel
theorem dX9_eat_70 : decode cX9_eat 70 = .ok (.dup2, 1) := by decide +kernel
theorem dX9_eat_71 : decode cX9_eat 71 = .ok (.iaload, 1) := by decide +kernel
theorem dX9_eat_72 : decode cX9_eat 72 = .ok (.iload_n 2, 1) := by decide +kernel
theorem dX9_eat_73 : decode cX9_eat 73 = .ok (.isub, 1) := by decide +kernel
theorem dX9_eat_74 : decode cX9_eat 74 = .ok (.iastore, 1) := by decide +kernel
theorem dX9_eat_75 : decode cX9_eat 75 = .ok (.aload_n 0, 1) := by decide +kernel
theorem dX9_eat_76 : decode cX9_eat 76 = .ok (.getfield 13, 3) := by decide +kernel
theorem dX9_eat_79 : decode cX9_eat 79 = .ok (.iconst 5, 1) := by decide +kernel
theorem dX9_eat_80 : decode cX9_eat 80 = .ok (.iload_n 1, 1) := by decide +kernel
theorem dX9_eat_81 : decode cX9_eat 81 = .ok (.imul, 1) := by decide +kernel
theorem dX9_eat_82 : decode cX9_eat 82 = .ok (.iaload, 1) := by decide +kernel
theorem dX9_eat_83 : decode cX9_eat 83 = .ok (.ireturn, 1) := by decide +kernel
theorem dX9_left_0 : decode cX9_left 0 = .ok (.iload_n 0, 1) := by decide +kernel
theorem dX9_left_1 : decode cX9_left 1 = .ok (.iconst 1, 1) := by decide +kernel
theorem dX9_left_2 : decode cX9_left 2 = .ok (.if_icmp .ge 7, 3) := by decide +kernel
theorem dX9_left_5 : decode cX9_left 5 = .ok (.iconst 1, 1) := by decide +kernel
theorem dX9_left_6 : decode cX9_left 6 = .ok (.goto 4, 3) := by decide +kernel
theorem dX9_left_9 : decode cX9_left 9 = .ok (.iload_n 0, 1) := by decide +kernel
theorem dX9_left_10 : decode cX9_left 10 = .ok (.ireturn, 1) := by decide +kernel
set_option maxRecDepth 20000 in
theorem ggX9_toil_X9_isPerson : GoodIn wsX9_toil wsX9_isPerson := goodIn_r _ [7, 8, 9, 10, 6, 11, 22, 23, 24, 25, 26, 27, 28, 29, 30, 31, 32, 33, 34, 35, 36, 37, 38, 39, 40, 41, 42, 43, 44, 45, 46, 47, 48, 49, 50, 51, 52, 53, 54, 55] (by decide +kernel) (by decide +kernel)
set_option maxRecDepth 20000 in
theorem gX9_toil_X9_isPerson : GoodIn wsX9_toil (wsV RX9 116 RX9 yX9_isPerson wsX9_isPerson) := goodIn_app (goodIn_of _ (by decide +kernel)) ggX9_toil_X9_isPerson
set_option maxRecDepth 20000 in
theorem ggX9_toil_X9_in : GoodIn wsX9_toil wsX9_in := goodIn_r _ [11] (by decide +kernel) (by decide +kernel)
set_option maxRecDepth 20000 in
theorem gX9_toil_X9_in : GoodIn wsX9_toil (va_wsS RX9 69 yX9_in wsX9_in) := goodIn_app (goodIn_of _ (by decide +kernel)) ggX9_toil_X9_in
set_option maxRecDepth 20000 in
theorem ggX9_toil_X9_keepAct : GoodIn wsX9_toil wsX9_keepAct := goodIn_r _ [15, 16, 17, 2, 18, 22, 23, 24, 25, 26, 27, 28, 29, 30, 31, 32, 33, 34, 35, 36, 37, 38, 39, 40, 41, 42, 43, 44, 45, 46, 47, 48, 49, 50, 51, 52, 53, 54, 55] (by decide +kernel) (by decide +kernel)
set_option maxRecDepth 20000 in
theorem gX9_toil_X9_keepAct : GoodIn wsX9_toil (wsV RX9 134 RX9 yX9_keepAct wsX9_keepAct) := goodIn_app (goodIn_of _ (by decide +kernel)) ggX9_toil_X9_keepAct
set_option maxRecDepth 20000 in
theorem ggX9_toil_X9_left : GoodIn wsX9_toil wsX9_left := goodIn_r _ [21] (by decide +kernel) (by decide +kernel)
set_option maxRecDepth 20000 in
theorem gX9_toil_X9_left : GoodIn wsX9_toil (va_wsS RX9 137 yX9_left wsX9_left) := goodIn_app (goodIn_of _ (by decide +kernel)) ggX9_toil_X9_left
theorem dX9_toil_0 : decode cX9_toil 0 = .ok (.aload_n 0, 1) := by decide +kernel
theorem dX9_toil_1 : decode cX9_toil 1 = .ok (.iload_n 1, 1) := by decide +kernel
theorem dX9_toil_2 : decode cX9_toil 2 = .ok (.invokevirtual 116, 3) := by decide +kernel
theorem dX9_toil_5 : decode cX9_toil 5 = .ok (.ifCond .ne 5, 3) := by decide +kernel
theorem dX9_toil_8 : decode cX9_toil 8 = .ok (.iconst (-1), 1) := by decide +kernel
theorem dX9_toil_9 : decode cX9_toil 9 = .ok (.ireturn, 1) := by decide +kernel
theorem dX9_toil_10 : decode cX9_toil 10 = .ok (.iload_n 2, 1) := by decide +kernel
theorem dX9_toil_11 : decode cX9_toil 11 = .ok (.i2l, 1) := by decide +kernel
theorem dX9_toil_12 : decode cX9_toil 12 = .ok (.lconst 1, 1) := by decide +kernel
theorem dX9_toil_13 : decode cX9_toil 13 = .ok (.ldc2_w 132, 3) := by decide +kernel
theorem dX9_toil_16 : decode cX9_toil 16 = .ok (.invokestatic 69, 3) := by decide +kernel
theorem dX9_toil_19 : decode cX9_toil 19 = .ok (.ifCond .ne 6, 3) := by decide +kernel
theorem dX9_toil_22 : decode cX9_toil 22 = .ok (.bipush (-2), 2) := by decide +kernel
theorem dX9_toil_24 : decode cX9_toil 24 = .ok (.ireturn, 1) := by decide +kernel
theorem dX9_toil_25 : decode cX9_toil 25 = .ok (.aload_n 0, 1) := by decide +kernel
theorem dX9_toil_26 : decode cX9_toil 26 = .ok (.invokevirtual 134, 3) := by decide +kernel
theorem dX9_toil_29 : decode cX9_toil 29 = .ok (.aload_n 0, 1) := by decide +kernel
theorem dX9_toil_30 : decode cX9_toil 30 = .ok (.getfield 13, 3) := by decide +kernel
theorem dX9_toil_33 : decode cX9_toil 33 = .ok (.iconst 5, 1) := by decide +kernel
theorem dX9_toil_34 : decode cX9_toil 34 = .ok (.iload_n 1, 1) := by decide +kernel
theorem dX9_toil_35 : decode cX9_toil 35 = .ok (.imul, 1) := by decide +kernel
theorem dX9_toil_36 : decode cX9_toil 36 = .ok (.aload_n 0, 1) := by decide +kernel
theorem dX9_toil_37 : decode cX9_toil 37 = .ok (.getfield 13, 3) := by decide +kernel
theorem dX9_toil_40 : decode cX9_toil 40 = .ok (.iconst 5, 1) := by decide +kernel
theorem dX9_toil_41 : decode cX9_toil 41 = .ok (.iload_n 1, 1) := by decide +kernel
theorem dX9_toil_42 : decode cX9_toil 42 = .ok (.imul, 1) := by decide +kernel
theorem dX9_toil_43 : decode cX9_toil 43 = .ok (.iaload, 1) := by decide +kernel
theorem dX9_toil_44 : decode cX9_toil 44 = .ok (.iconst 5, 1) := by decide +kernel
theorem dX9_toil_45 : decode cX9_toil 45 = .ok (.iload_n 2, 1) := by decide +kernel
theorem dX9_toil_46 : decode cX9_toil 46 = .ok (.imul, 1) := by decide +kernel
theorem dX9_toil_47 : decode cX9_toil 47 = .ok (.isub, 1) := by decide +kernel
theorem dX9_toil_48 : decode cX9_toil 48 = .ok (.invokestatic 137, 3) := by decide +kernel
theorem dX9_toil_51 : decode cX9_toil 51 = .ok (.iastore, 1) := by decide +kernel
theorem dX9_toil_52 : decode cX9_toil 52 = .ok (.aload_n 0, 1) := by decide +kernel
theorem dX9_toil_53 : decode cX9_toil 53 = .ok (.getfield 13, 3) := by decide +kernel
theorem dX9_toil_56 : decode cX9_toil 56 = .ok (.iconst 5, 1) := by decide +kernel
theorem dX9_toil_57 : decode cX9_toil 57 = .ok (.iload_n 1, 1) := by decide +kernel
theorem dX9_toil_58 : decode cX9_toil 58 = .ok (.imul, 1) := by decide +kernel
theorem dX9_toil_59 : decode cX9_toil 59 = .ok (.iaload, 1) := by decide +kernel
theorem dX9_toil_60 : decode cX9_toil 60 = .ok (.ireturn, 1) := by decide +kernel
set_option maxRecDepth 20000 in
theorem ggX9_drink_X9_isPerson : GoodIn wsX9_drink wsX9_isPerson := goodIn_r _ [7, 8, 9, 10, 6, 11, 19, 20, 21, 22, 23, 24, 25, 26, 27, 28, 29, 30, 31, 32, 33, 34, 35, 36, 37, 38, 39, 40, 41, 42, 43, 44, 45, 46, 47, 48, 49, 50, 51, 52] (by decide +kernel) (by decide +kernel)
set_option maxRecDepth 20000 in
theorem gX9_drink_X9_isPerson : GoodIn wsX9_drink (wsV RX9 116 RX9 yX9_isPerson wsX9_isPerson) := goodIn_app (goodIn_of _ (by decide +kernel)) ggX9_drink_X9_isPerson
set_option maxRecDepth 20000 in
theorem ggX9_drink_X9_in : GoodIn wsX9_drink wsX9_in := goodIn_r _ [11] (by decide +kernel) (by decide +kernel)
set_option maxRecDepth 20000 in
theorem gX9_drink_X9_in : GoodIn wsX9_drink (va_wsS RX9 69 yX9_in wsX9_in) := goodIn_app (goodIn_of _ (by decide +kernel)) ggX9_drink_X9_in
set_option maxRecDepth 20000 in
theorem ggX9_drink_X9_keepAct : GoodIn wsX9_drink wsX9_keepAct := goodIn_r _ [15, 16, 17, 2, 18, 19, 20, 21, 22, 23, 24, 25, 26, 27, 28, 29, 30, 31, 32, 33, 34, 35, 36, 37, 38, 39, 40, 41, 42, 43, 44, 45, 46, 47, 48, 49, 50, 51, 52] (by decide +kernel) (by decide +kernel)
set_option maxRecDepth 20000 in
theorem gX9_drink_X9_keepAct : GoodIn wsX9_drink (wsV RX9 134 RX9 yX9_keepAct wsX9_keepAct) := goodIn_app (goodIn_of _ (by decide +kernel)) ggX9_drink_X9_keepAct
theorem dX9_drink_0 : decode cX9_drink 0 = .ok (.aload_n 0, 1) := by decide +kernel
theorem dX9_drink_1 : decode cX9_drink 1 = .ok (.iload_n 1, 1) := by decide +kernel
theorem dX9_drink_2 : decode cX9_drink 2 = .ok (.invokevirtual 116, 3) := by decide +kernel
theorem dX9_drink_5 : decode cX9_drink 5 = .ok (.ifCond .ne 5, 3) := by decide +kernel
theorem dX9_drink_8 : decode cX9_drink 8 = .ok (.iconst (-1), 1) := by decide +kernel
theorem dX9_drink_9 : decode cX9_drink 9 = .ok (.ireturn, 1) := by decide +kernel
theorem dX9_drink_10 : decode cX9_drink 10 = .ok (.iload_n 2, 1) := by decide +kernel
theorem dX9_drink_11 : decode cX9_drink 11 = .ok (.i2l, 1) := by decide +kernel
theorem dX9_drink_12 : decode cX9_drink 12 = .ok (.lconst 1, 1) := by decide +kernel
theorem dX9_drink_13 : decode cX9_drink 13 = .ok (.ldc2_w 132, 3) := by decide +kernel
theorem dX9_drink_16 : decode cX9_drink 16 = .ok (.invokestatic 69, 3) := by decide +kernel
theorem dX9_drink_19 : decode cX9_drink 19 = .ok (.ifCond .ne 6, 3) := by decide +kernel
theorem dX9_drink_22 : decode cX9_drink 22 = .ok (.bipush (-2), 2) := by decide +kernel
theorem dX9_drink_24 : decode cX9_drink 24 = .ok (.ireturn, 1) := by decide +kernel
theorem dX9_drink_25 : decode cX9_drink 25 = .ok (.aload_n 0, 1) := by decide +kernel
theorem dX9_drink_26 : decode cX9_drink 26 = .ok (.getfield 13, 3) := by decide +kernel
theorem dX9_drink_29 : decode cX9_drink 29 = .ok (.iconst 5, 1) := by decide +kernel
theorem dX9_drink_30 : decode cX9_drink 30 = .ok (.iload_n 1, 1) := by decide +kernel
theorem dX9_drink_31 : decode cX9_drink 31 = .ok (.imul, 1) := by decide +kernel
theorem dX9_drink_32 : decode cX9_drink 32 = .ok (.iconst 3, 1) := by decide +kernel
theorem dX9_drink_33 : decode cX9_drink 33 = .ok (.iadd, 1) := by decide +kernel
theorem dX9_drink_34 : decode cX9_drink 34 = .ok (.iaload, 1) := by decide +kernel
theorem dX9_drink_35 : decode cX9_drink 35 = .ok (.iconst 3, 1) := by decide +kernel
theorem dX9_drink_36 : decode cX9_drink 36 = .ok (.iload_n 2, 1) := by decide +kernel
theorem dX9_drink_37 : decode cX9_drink 37 = .ok (.imul, 1) := by decide +kernel
theorem dX9_drink_38 : decode cX9_drink 38 = .ok (.iadd, 1) := by decide +kernel
theorem dX9_drink_39 : decode cX9_drink 39 = .ok (.bipush 90, 2) := by decide +kernel
theorem dX9_drink_41 : decode cX9_drink 41 = .ok (.if_icmp .le 6, 3) := by decide +kernel
theorem dX9_drink_44 : decode cX9_drink 44 = .ok (.bipush (-3), 2) := by decide +kernel
theorem dX9_drink_46 : decode cX9_drink 46 = .ok (.ireturn, 1) := by decide +kernel
theorem dX9_drink_47 : decode cX9_drink 47 = .ok (.aload_n 0, 1) := by decide +kernel
theorem dX9_drink_48 : decode cX9_drink 48 = .ok (.invokevirtual 134, 3) := by decide +kernel
theorem dX9_drink_51 : decode cX9_drink 51 = .ok (.aload_n 0, 1) := by decide +kernel
theorem dX9_drink_52 : decode cX9_drink 52 = .ok (.getfield 13, 3) := by decide +kernel
theorem dX9_drink_55 : decode cX9_drink 55 = .ok (.iconst 5, 1) := by decide +kernel
theorem dX9_drink_56 : decode cX9_drink 56 = .ok (.iload_n 1, 1) := by decide +kernel
theorem dX9_drink_57 : decode cX9_drink 57 = .ok (.imul, 1) := by decide +kernel
theorem dX9_drink_58 : decode cX9_drink 58 = .ok (.dup2, 1) := by decide +kernel
theorem dX9_drink_59 : decode cX9_drink 59 = .ok (.iaload, 1) := by decide +kernel
theorem dX9_drink_60 : decode cX9_drink 60 = .ok (.iconst 3, 1) := by decide +kernel
theorem dX9_drink_61 : decode cX9_drink 61 = .ok (.iload_n 2, 1) := by decide +kernel
theorem dX9_drink_62 : decode cX9_drink 62 = .ok (.imul, 1) := by decide +kernel
theorem dX9_drink_63 : decode cX9_drink 63 = .ok (.iadd, 1) := by decide +kernel
theorem dX9_drink_64 : decode cX9_drink 64 = .ok (.iastore, 1) := by decide +kernel
theorem dX9_drink_65 : decode cX9_drink 65 = .ok (.aload_n 0, 1) := by decide +kernel
theorem dX9_drink_66 : decode cX9_drink 66 = .ok (.getfield 13, 3) := by decide +kernel
theorem dX9_drink_69 : decode cX9_drink 69 = .ok (.iconst 5, 1) := by decide +kernel
theorem dX9_drink_70 : decode cX9_drink 70 = .ok (.iload_n 1, 1) := by decide +kernel
theorem dX9_drink_71 : decode cX9_drink 71 = .ok (.imul, 1) := by decide +kernel
theorem dX9_drink_72 : decode cX9_drink 72 = .ok (.iconst 3, 1) := by decide +kernel
theorem dX9_drink_73 : decode cX9_drink 73 = .ok (.iadd, 1) := by decide +kernel
theorem dX9_drink_74 : decode cX9_drink 74 = .ok (.dup2, 1) := by decide +kernel
theorem dX9_drink_75 : decode cX9_drink 75 = .ok (.iaload, 1) := by decide +kernel
theorem dX9_drink_76 : decode cX9_drink 76 = .ok (.iconst 3, 1) := by decide +kernel
theorem dX9_drink_77 : decode cX9_drink 77 = .ok (.iload_n 2, 1) := by decide +kernel
theorem dX9_drink_78 : decode cX9_drink 78 = .ok (.imul, 1) := by decide +kernel
theorem dX9_drink_79 : decode cX9_drink 79 = .ok (.iadd, 1) := by decide +kernel
theorem dX9_drink_80 : decode cX9_drink 80 = .ok (.iastore, 1) := by decide +kernel
theorem dX9_drink_81 : decode cX9_drink 81 = .ok (.aload_n 0, 1) := by decide +kernel
theorem dX9_drink_82 : decode cX9_drink 82 = .ok (.getfield 13, 3) := by decide +kernel
theorem dX9_drink_85 : decode cX9_drink 85 = .ok (.iconst 5, 1) := by decide +kernel
theorem dX9_drink_86 : decode cX9_drink 86 = .ok (.iload_n 1, 1) := by decide +kernel
theorem dX9_drink_87 : decode cX9_drink 87 = .ok (.imul, 1) := by decide +kernel
theorem dX9_drink_88 : decode cX9_drink 88 = .ok (.iaload, 1) := by decide +kernel
theorem dX9_drink_89 : decode cX9_drink 89 = .ok (.ireturn, 1) := by decide +kernel
set_option maxRecDepth 20000 in
theorem ggX9_hand_X9_isPerson : GoodIn wsX9_hand wsX9_isPerson := goodIn_r _ [6, 7, 8, 9, 5, 10, 18, 19, 20, 21, 22, 23, 24, 25, 26, 27, 28, 29, 30, 31, 32, 33, 34, 35, 36, 37, 38, 39, 40, 41, 42, 43, 44, 45, 46, 47, 48, 49, 50, 51] (by decide +kernel) (by decide +kernel)
set_option maxRecDepth 20000 in
theorem gX9_hand_X9_isPerson : GoodIn wsX9_hand (wsV RX9 116 RX9 yX9_isPerson wsX9_isPerson) := goodIn_app (goodIn_of _ (by decide +kernel)) ggX9_hand_X9_isPerson
set_option maxRecDepth 20000 in
theorem ggX9_hand_X9_keepAct : GoodIn wsX9_hand wsX9_keepAct := goodIn_r _ [14, 15, 16, 1, 17, 18, 19, 20, 21, 22, 23, 24, 25, 26, 27, 28, 29, 30, 31, 32, 33, 34, 35, 36, 37, 38, 39, 40, 41, 42, 43, 44, 45, 46, 47, 48, 49, 50, 51] (by decide +kernel) (by decide +kernel)
set_option maxRecDepth 20000 in
theorem gX9_hand_X9_keepAct : GoodIn wsX9_hand (wsV RX9 134 RX9 yX9_keepAct wsX9_keepAct) := goodIn_app (goodIn_of _ (by decide +kernel)) ggX9_hand_X9_keepAct
theorem dX9_hand_0 : decode cX9_hand 0 = .ok (.aload_n 0, 1) := by decide +kernel
theorem dX9_hand_1 : decode cX9_hand 1 = .ok (.iload_n 1, 1) := by decide +kernel
theorem dX9_hand_2 : decode cX9_hand 2 = .ok (.invokevirtual 116, 3) := by decide +kernel
theorem dX9_hand_5 : decode cX9_hand 5 = .ok (.ifCond .eq 11, 3) := by decide +kernel
theorem dX9_hand_8 : decode cX9_hand 8 = .ok (.aload_n 0, 1) := by decide +kernel
theorem dX9_hand_9 : decode cX9_hand 9 = .ok (.iload_n 2, 1) := by decide +kernel
theorem dX9_hand_10 : decode cX9_hand 10 = .ok (.invokevirtual 116, 3) := by decide +kernel
theorem dX9_hand_13 : decode cX9_hand 13 = .ok (.ifCond .ne 5, 3) := by decide +kernel
theorem dX9_hand_16 : decode cX9_hand 16 = .ok (.iconst (-1), 1) := by decide +kernel
theorem dX9_hand_17 : decode cX9_hand 17 = .ok (.ireturn, 1) := by decide +kernel
theorem dX9_hand_18 : decode cX9_hand 18 = .ok (.iload_n 3, 1) := by decide +kernel
theorem dX9_hand_19 : decode cX9_hand 19 = .ok (.ifCond .eq 7, 3) := by decide +kernel
theorem dX9_hand_22 : decode cX9_hand 22 = .ok (.iconst 2, 1) := by decide +kernel
theorem dX9_hand_23 : decode cX9_hand 23 = .ok (.goto 4, 3) := by decide +kernel
theorem dX9_hand_26 : decode cX9_hand 26 = .ok (.iconst 1, 1) := by decide +kernel
theorem dX9_hand_27 : decode cX9_hand 27 = .ok (.istore 4, 2) := by decide +kernel
theorem dX9_hand_29 : decode cX9_hand 29 = .ok (.iload_n 1, 1) := by decide +kernel
theorem dX9_hand_30 : decode cX9_hand 30 = .ok (.iload_n 2, 1) := by decide +kernel
theorem dX9_hand_31 : decode cX9_hand 31 = .ok (.if_icmp .eq 17, 3) := by decide +kernel
theorem dX9_hand_34 : decode cX9_hand 34 = .ok (.aload_n 0, 1) := by decide +kernel
theorem dX9_hand_35 : decode cX9_hand 35 = .ok (.getfield 13, 3) := by decide +kernel
theorem dX9_hand_38 : decode cX9_hand 38 = .ok (.iconst 5, 1) := by decide +kernel
theorem dX9_hand_39 : decode cX9_hand 39 = .ok (.iload_n 1, 1) := by decide +kernel
theorem dX9_hand_40 : decode cX9_hand 40 = .ok (.imul, 1) := by decide +kernel
theorem dX9_hand_41 : decode cX9_hand 41 = .ok (.iload 4, 2) := by decide +kernel
theorem dX9_hand_43 : decode cX9_hand 43 = .ok (.iadd, 1) := by decide +kernel
theorem dX9_hand_44 : decode cX9_hand 44 = .ok (.iaload, 1) := by decide +kernel
theorem dX9_hand_45 : decode cX9_hand 45 = .ok (.ifCond .ne 6, 3) := by decide +kernel
theorem dX9_hand_48 : decode cX9_hand 48 = .ok (.bipush (-3), 2) := by decide +kernel
theorem dX9_hand_50 : decode cX9_hand 50 = .ok (.ireturn, 1) := by decide +kernel
theorem dX9_hand_51 : decode cX9_hand 51 = .ok (.aload_n 0, 1) := by decide +kernel
theorem dX9_hand_52 : decode cX9_hand 52 = .ok (.getfield 13, 3) := by decide +kernel
theorem dX9_hand_55 : decode cX9_hand 55 = .ok (.iconst 5, 1) := by decide +kernel
theorem dX9_hand_56 : decode cX9_hand 56 = .ok (.iload_n 2, 1) := by decide +kernel
theorem dX9_hand_57 : decode cX9_hand 57 = .ok (.imul, 1) := by decide +kernel
theorem dX9_hand_58 : decode cX9_hand 58 = .ok (.iload 4, 2) := by decide +kernel
theorem dX9_hand_60 : decode cX9_hand 60 = .ok (.iadd, 1) := by decide +kernel
theorem dX9_hand_61 : decode cX9_hand 61 = .ok (.iaload, 1) := by decide +kernel
theorem dX9_hand_62 : decode cX9_hand 62 = .ok (.bipush 9, 2) := by decide +kernel
theorem dX9_hand_64 : decode cX9_hand 64 = .ok (.if_icmp .ne 6, 3) := by decide +kernel
theorem dX9_hand_67 : decode cX9_hand 67 = .ok (.bipush (-4), 2) := by decide +kernel
theorem dX9_hand_69 : decode cX9_hand 69 = .ok (.ireturn, 1) := by decide +kernel
theorem dX9_hand_70 : decode cX9_hand 70 = .ok (.aload_n 0, 1) := by decide +kernel
theorem dX9_hand_71 : decode cX9_hand 71 = .ok (.invokevirtual 134, 3) := by decide +kernel
theorem dX9_hand_74 : decode cX9_hand 74 = .ok (.aload_n 0, 1) := by decide +kernel
theorem dX9_hand_75 : decode cX9_hand 75 = .ok (.getfield 13, 3) := by decide +kernel
theorem dX9_hand_78 : decode cX9_hand 78 = .ok (.iconst 5, 1) := by decide +kernel
theorem dX9_hand_79 : decode cX9_hand 79 = .ok (.iload_n 1, 1) := by decide +kernel
theorem dX9_hand_80 : decode cX9_hand 80 = .ok (.imul, 1) := by decide +kernel
theorem dX9_hand_81 : decode cX9_hand 81 = .ok (.iload 4, 2) := by decide +kernel
theorem dX9_hand_83 : decode cX9_hand 83 = .ok (.iadd, 1) := by decide +kernel
theorem dX9_hand_84 : decode cX9_hand 84 = .ok (.dup2, 1) := by decide +kernel
theorem dX9_hand_85 : decode cX9_hand 85 = .ok (.iaload, 1) := by decide +kernel
theorem dX9_hand_86 : decode cX9_hand 86 = .ok (.iconst 1, 1) := by decide +kernel
theorem dX9_hand_87 : decode cX9_hand 87 = .ok (.isub, 1) := by decide +kernel
theorem dX9_hand_88 : decode cX9_hand 88 = .ok (.iastore, 1) := by decide +kernel
theorem dX9_hand_89 : decode cX9_hand 89 = .ok (.aload_n 0, 1) := by decide +kernel
theorem dX9_hand_90 : decode cX9_hand 90 = .ok (.getfield 13, 3) := by decide +kernel
theorem dX9_hand_93 : decode cX9_hand 93 = .ok (.iconst 5, 1) := by decide +kernel
theorem dX9_hand_94 : decode cX9_hand 94 = .ok (.iload_n 2, 1) := by decide +kernel
theorem dX9_hand_95 : decode cX9_hand 95 = .ok (.imul, 1) := by decide +kernel
theorem dX9_hand_96 : decode cX9_hand 96 = .ok (.iload 4, 2) := by decide +kernel
theorem dX9_hand_98 : decode cX9_hand 98 = .ok (.iadd, 1) := by decide +kernel
theorem dX9_hand_99 : decode cX9_hand 99 = .ok (.dup2, 1) := by decide +kernel
theorem dX9_hand_100 : decode cX9_hand 100 = .ok (.iaload, 1) := by decide +kernel
theorem dX9_hand_101 : decode cX9_hand 101 = .ok (.iconst 1, 1) := by decide +kernel
theorem dX9_hand_102 : decode cX9_hand 102 = .ok (.iadd, 1) := by decide +kernel
theorem dX9_hand_103 : decode cX9_hand 103 = .ok (.iastore, 1) := by decide +kernel
theorem dX9_hand_104 : decode cX9_hand 104 = .ok (.aload_n 0, 1) := by decide +kernel
theorem dX9_hand_105 : decode cX9_hand 105 = .ok (.getfield 13, 3) := by decide +kernel
theorem dX9_hand_108 : decode cX9_hand 108 = .ok (.iconst 5, 1) := by decide +kernel
theorem dX9_hand_109 : decode cX9_hand 109 = .ok (.iload_n 2, 1) := by decide +kernel
theorem dX9_hand_110 : decode cX9_hand 110 = .ok (.imul, 1) := by decide +kernel
theorem dX9_hand_111 : decode cX9_hand 111 = .ok (.iload 4, 2) := by decide +kernel
theorem dX9_hand_113 : decode cX9_hand 113 = .ok (.iadd, 1) := by decide +kernel
theorem dX9_hand_114 : decode cX9_hand 114 = .ok (.iaload, 1) := by decide +kernel
theorem dX9_hand_115 : decode cX9_hand 115 = .ok (.ireturn, 1) := by decide +kernel
set_option maxRecDepth 20000 in
theorem ggX9_day_X9_keepAct : GoodIn wsX9_day wsX9_keepAct := goodIn_r _ [8, 9, 10, 2, 11, 15, 16, 17, 18, 19, 20, 21, 22, 23, 24, 25, 26, 27, 28, 29, 30, 31, 32, 33, 34, 35, 36, 37, 38, 39, 40, 41, 42, 43, 44, 45, 46, 47, 48] (by decide +kernel) (by decide +kernel)
set_option maxRecDepth 20000 in
theorem gX9_day_X9_keepAct : GoodIn wsX9_day (wsV RX9 134 RX9 yX9_keepAct wsX9_keepAct) := goodIn_app (goodIn_of _ (by decide +kernel)) ggX9_day_X9_keepAct
set_option maxRecDepth 20000 in
theorem ggX9_day_X9_left : GoodIn wsX9_day wsX9_left := goodIn_r _ [14] (by decide +kernel) (by decide +kernel)
set_option maxRecDepth 20000 in
theorem gX9_day_X9_left : GoodIn wsX9_day (va_wsS RX9 137 yX9_left wsX9_left) := goodIn_app (goodIn_of _ (by decide +kernel)) ggX9_day_X9_left
theorem dX9_day_0 : decode cX9_day 0 = .ok (.aload_n 0, 1) := by decide +kernel
theorem dX9_day_1 : decode cX9_day 1 = .ok (.invokevirtual 134, 3) := by decide +kernel
theorem dX9_day_4 : decode cX9_day 4 = .ok (.iconst 0, 1) := by decide +kernel
theorem dX9_day_5 : decode cX9_day 5 = .ok (.istore_n 1, 1) := by decide +kernel
theorem dX9_day_6 : decode cX9_day 6 = .ok (.iload_n 1, 1) := by decide +kernel
theorem dX9_day_7 : decode cX9_day 7 = .ok (.aload_n 0, 1) := by decide +kernel
theorem dX9_day_8 : decode cX9_day 8 = .ok (.getfield 104, 3) := by decide +kernel
theorem dX9_day_11 : decode cX9_day 11 = .ok (.if_icmp .ge 57, 3) := by decide +kernel
theorem dX9_day_14 : decode cX9_day 14 = .ok (.aload_n 0, 1) := by decide +kernel
theorem dX9_day_15 : decode cX9_day 15 = .ok (.getfield 13, 3) := by decide +kernel
theorem dX9_day_18 : decode cX9_day 18 = .ok (.iconst 5, 1) := by decide +kernel
theorem dX9_day_19 : decode cX9_day 19 = .ok (.iload_n 1, 1) := by decide +kernel
theorem dX9_day_20 : decode cX9_day 20 = .ok (.imul, 1) := by decide +kernel
theorem dX9_day_21 : decode cX9_day 21 = .ok (.aload_n 0, 1) := by decide +kernel
theorem dX9_day_22 : decode cX9_day 22 = .ok (.getfield 13, 3) := by decide +kernel
theorem dX9_day_25 : decode cX9_day 25 = .ok (.iconst 5, 1) := by decide +kernel
theorem dX9_day_26 : decode cX9_day 26 = .ok (.iload_n 1, 1) := by decide +kernel
theorem dX9_day_27 : decode cX9_day 27 = .ok (.imul, 1) := by decide +kernel
theorem dX9_day_28 : decode cX9_day 28 = .ok (.iaload, 1) := by decide +kernel
theorem dX9_day_29 : decode cX9_day 29 = .ok (.aload_n 0, 1) := by decide +kernel
theorem dX9_day_30 : decode cX9_day 30 = .ok (.getfield 13, 3) := by decide +kernel
theorem dX9_day_33 : decode cX9_day 33 = .ok (.iconst 5, 1) := by decide +kernel
theorem dX9_day_34 : decode cX9_day 34 = .ok (.iload_n 1, 1) := by decide +kernel
theorem dX9_day_35 : decode cX9_day 35 = .ok (.imul, 1) := by decide +kernel
theorem dX9_day_36 : decode cX9_day 36 = .ok (.iconst 3, 1) := by decide +kernel
theorem dX9_day_37 : decode cX9_day 37 = .ok (.iadd, 1) := by decide +kernel
theorem dX9_day_38 : decode cX9_day 38 = .ok (.iaload, 1) := by decide +kernel
theorem dX9_day_39 : decode cX9_day 39 = .ok (.isub, 1) := by decide +kernel
theorem dX9_day_40 : decode cX9_day 40 = .ok (.iconst 2, 1) := by decide +kernel
theorem dX9_day_41 : decode cX9_day 41 = .ok (.aload_n 0, 1) := by decide +kernel
theorem dX9_day_42 : decode cX9_day 42 = .ok (.getfield 107, 3) := by decide +kernel
theorem dX9_day_45 : decode cX9_day 45 = .ok (.imul, 1) := by decide +kernel
theorem dX9_day_46 : decode cX9_day 46 = .ok (.isub, 1) := by decide +kernel
theorem dX9_day_47 : decode cX9_day 47 = .ok (.invokestatic 137, 3) := by decide +kernel
theorem dX9_day_50 : decode cX9_day 50 = .ok (.iastore, 1) := by decide +kernel
theorem dX9_day_51 : decode cX9_day 51 = .ok (.aload_n 0, 1) := by decide +kernel
theorem dX9_day_52 : decode cX9_day 52 = .ok (.getfield 13, 3) := by decide +kernel
theorem dX9_day_55 : decode cX9_day 55 = .ok (.iconst 5, 1) := by decide +kernel
theorem dX9_day_56 : decode cX9_day 56 = .ok (.iload_n 1, 1) := by decide +kernel
theorem dX9_day_57 : decode cX9_day 57 = .ok (.imul, 1) := by decide +kernel
theorem dX9_day_58 : decode cX9_day 58 = .ok (.iconst 3, 1) := by decide +kernel
theorem dX9_day_59 : decode cX9_day 59 = .ok (.iadd, 1) := by decide +kernel
theorem dX9_day_60 : decode cX9_day 60 = .ok (.iconst 0, 1) := by decide +kernel
theorem dX9_day_61 : decode cX9_day 61 = .ok (.iastore, 1) := by decide +kernel
theorem dX9_day_62 : decode cX9_day 62 = .ok (.iinc 1 1, 3) := by decide +kernel
theorem dX9_day_65 : decode cX9_day 65 = .ok (.goto (-59), 3) := by decide +kernel
theorem dX9_day_68 : decode cX9_day 68 = .ok (.aload_n 0, 1) := by decide +kernel
theorem dX9_day_69 : decode cX9_day 69 = .ok (.getfield 13, 3) := by decide +kernel
theorem dX9_day_72 : decode cX9_day 72 = .ok (.bipush 25, 2) := by decide +kernel
theorem dX9_day_74 : decode cX9_day 74 = .ok (.dup2, 1) := by decide +kernel
theorem dX9_day_75 : decode cX9_day 75 = .ok (.iaload, 1) := by decide +kernel
theorem dX9_day_76 : decode cX9_day 76 = .ok (.iconst 1, 1) := by decide +kernel
theorem dX9_day_77 : decode cX9_day 77 = .ok (.iadd, 1) := by decide +kernel
theorem dX9_day_78 : decode cX9_day 78 = .ok (.iastore, 1) := by decide +kernel
theorem dX9_day_79 : decode cX9_day 79 = .ok (.aload_n 0, 1) := by decide +kernel
theorem dX9_day_80 : decode cX9_day 80 = .ok (.getfield 13, 3) := by decide +kernel
theorem dX9_day_83 : decode cX9_day 83 = .ok (.bipush 25, 2) := by decide +kernel
theorem dX9_day_85 : decode cX9_day 85 = .ok (.iaload, 1) := by decide +kernel
theorem dX9_day_86 : decode cX9_day 86 = .ok (.ireturn, 1) := by decide +kernel
theorem dX9_isLighter_0 : decode cX9_isLighter 0 = .ok (.iload_n 0, 1) := by decide +kernel
theorem dX9_isLighter_1 : decode cX9_isLighter 1 = .ok (.iload_n 2, 1) := by decide +kernel
theorem dX9_isLighter_2 : decode cX9_isLighter 2 = .ok (.if_icmp .lt 13, 3) := by decide +kernel
theorem dX9_isLighter_5 : decode cX9_isLighter 5 = .ok (.iload_n 0, 1) := by decide +kernel
theorem dX9_isLighter_6 : decode cX9_isLighter 6 = .ok (.iload_n 2, 1) := by decide +kernel
theorem dX9_isLighter_7 : decode cX9_isLighter 7 = .ok (.if_icmp .ne 12, 3) := by decide +kernel
theorem dX9_isLighter_10 : decode cX9_isLighter 10 = .ok (.iload_n 1, 1) := by decide +kernel
theorem dX9_isLighter_11 : decode cX9_isLighter 11 = .ok (.iload_n 3, 1) := by decide +kernel
theorem dX9_isLighter_12 : decode cX9_isLighter 12 = .ok (.if_icmp .ge 7, 3) := by decide +kernel
theorem dX9_isLighter_15 : decode cX9_isLighter 15 = .ok (.iconst 1, 1) := by decide +kernel
theorem dX9_isLighter_16 : decode cX9_isLighter 16 = .ok (.goto 4, 3) := by decide +kernel
theorem dX9_isLighter_19 : decode cX9_isLighter 19 = .ok (.iconst 0, 1) := by decide +kernel
theorem dX9_isLighter_20 : decode cX9_isLighter 20 = .ok (.ireturn, 1) := by decide +kernel
set_option maxRecDepth 20000 in
theorem ggX9_crownBy_X9_isIll : GoodIn wsX9_crownBy wsX9_isIll := goodIn_r _ [6, 7, 8, 16, 17, 18, 19, 20, 21, 22, 23, 24, 25, 26, 27, 28, 29, 30, 31, 32, 33, 34, 35, 36, 37, 38, 39, 40, 41, 42, 43, 44, 45, 46, 47, 48, 49] (by decide +kernel) (by decide +kernel)
set_option maxRecDepth 20000 in
theorem gX9_crownBy_X9_isIll : GoodIn wsX9_crownBy (wsV RX9 124 RX9 yX9_isIll wsX9_isIll) := goodIn_app (goodIn_of _ (by decide +kernel)) ggX9_crownBy_X9_isIll
set_option maxRecDepth 20000 in
theorem ggX9_crownBy_X9_noonOf : GoodIn wsX9_crownBy wsX9_noonOf := goodIn_r _ [12, 7, 16, 17, 18, 19, 20, 21, 22, 23, 24, 25, 26, 27, 28, 29, 30, 31, 32, 33, 34, 35, 36, 37, 38, 39, 40, 41, 42, 43, 44, 45, 46, 47, 48, 49] (by decide +kernel) (by decide +kernel)
set_option maxRecDepth 20000 in
theorem gX9_crownBy_X9_noonOf : GoodIn wsX9_crownBy (wsV RX9 120 RX9 yX9_noonOf wsX9_noonOf) := goodIn_app (goodIn_of _ (by decide +kernel)) ggX9_crownBy_X9_noonOf
set_option maxRecDepth 20000 in
theorem ggX9_crownBy_X9_isLighter : GoodIn wsX9_crownBy wsX9_isLighter := goodIn_r _ [15] (by decide +kernel) (by decide +kernel)
set_option maxRecDepth 20000 in
theorem gX9_crownBy_X9_isLighter : GoodIn wsX9_crownBy (va_wsS RX9 140 yX9_isLighter wsX9_isLighter) := goodIn_app (goodIn_of _ (by decide +kernel)) ggX9_crownBy_X9_isLighter
theorem dX9_crownBy_0 : decode cX9_crownBy 0 = .ok (.iconst 0, 1) := by decide +kernel
theorem dX9_crownBy_1 : decode cX9_crownBy 1 = .ok (.istore_n 2, 1) := by decide +kernel
theorem dX9_crownBy_2 : decode cX9_crownBy 2 = .ok (.iload_n 2, 1) := by decide +kernel
theorem dX9_crownBy_3 : decode cX9_crownBy 3 = .ok (.aload_n 0, 1) := by decide +kernel
theorem dX9_crownBy_4 : decode cX9_crownBy 4 = .ok (.getfield 104, 3) := by decide +kernel
theorem dX9_crownBy_7 : decode cX9_crownBy 7 = .ok (.if_icmp .ge 118, 3) := by decide +kernel
theorem dX9_crownBy_10 : decode cX9_crownBy 10 = .ok (.iconst 0, 1) := by decide +kernel
theorem dX9_crownBy_11 : decode cX9_crownBy 11 = .ok (.istore_n 3, 1) := by decide +kernel
theorem dX9_crownBy_12 : decode cX9_crownBy 12 = .ok (.iconst 0, 1) := by decide +kernel
theorem dX9_crownBy_13 : decode cX9_crownBy 13 = .ok (.istore 4, 2) := by decide +kernel
theorem dX9_crownBy_15 : decode cX9_crownBy 15 = .ok (.iload 4, 2) := by decide +kernel
theorem dX9_crownBy_17 : decode cX9_crownBy 17 = .ok (.aload_n 0, 1) := by decide +kernel
theorem dX9_crownBy_18 : decode cX9_crownBy 18 = .ok (.getfield 104, 3) := by decide +kernel
theorem dX9_crownBy_21 : decode cX9_crownBy 21 = .ok (.if_icmp .ge 69, 3) := by decide +kernel
theorem dX9_crownBy_24 : decode cX9_crownBy 24 = .ok (.iload 4, 2) := by decide +kernel
theorem dX9_crownBy_26 : decode cX9_crownBy 26 = .ok (.iload_n 2, 1) := by decide +kernel
theorem dX9_crownBy_27 : decode cX9_crownBy 27 = .ok (.if_icmp .eq 21, 3) := by decide +kernel
theorem dX9_crownBy_30 : decode cX9_crownBy 30 = .ok (.iload_n 1, 1) := by decide +kernel
theorem dX9_crownBy_31 : decode cX9_crownBy 31 = .ok (.iconst 2, 1) := by decide +kernel
theorem dX9_crownBy_32 : decode cX9_crownBy 32 = .ok (.if_icmp .lt 12, 3) := by decide +kernel
theorem dX9_crownBy_35 : decode cX9_crownBy 35 = .ok (.aload_n 0, 1) := by decide +kernel
theorem dX9_crownBy_36 : decode cX9_crownBy 36 = .ok (.iload 4, 2) := by decide +kernel
theorem dX9_crownBy_38 : decode cX9_crownBy 38 = .ok (.invokevirtual 124, 3) := by decide +kernel
theorem dX9_crownBy_41 : decode cX9_crownBy 41 = .ok (.ifCond .ne 7, 3) := by decide +kernel
theorem dX9_crownBy_44 : decode cX9_crownBy 44 = .ok (.iconst 1, 1) := by decide +kernel
theorem dX9_crownBy_45 : decode cX9_crownBy 45 = .ok (.goto 4, 3) := by decide +kernel
theorem dX9_crownBy_48 : decode cX9_crownBy 48 = .ok (.iconst 0, 1) := by decide +kernel
theorem dX9_crownBy_49 : decode cX9_crownBy 49 = .ok (.istore 5, 2) := by decide +kernel
theorem dX9_crownBy_51 : decode cX9_crownBy 51 = .ok (.iload_n 3, 1) := by decide +kernel
theorem dX9_crownBy_52 : decode cX9_crownBy 52 = .ok (.iload 5, 2) := by decide +kernel
theorem dX9_crownBy_54 : decode cX9_crownBy 54 = .ok (.ifCond .eq 27, 3) := by decide +kernel
theorem dX9_crownBy_57 : decode cX9_crownBy 57 = .ok (.aload_n 0, 1) := by decide +kernel
theorem dX9_crownBy_58 : decode cX9_crownBy 58 = .ok (.iload 4, 2) := by decide +kernel
theorem dX9_crownBy_60 : decode cX9_crownBy 60 = .ok (.invokevirtual 120, 3) := by decide +kernel
theorem dX9_crownBy_63 : decode cX9_crownBy 63 = .ok (.iload 4, 2) := by decide +kernel
theorem dX9_crownBy_65 : decode cX9_crownBy 65 = .ok (.aload_n 0, 1) := by decide +kernel
theorem dX9_crownBy_66 : decode cX9_crownBy 66 = .ok (.iload_n 2, 1) := by decide +kernel
theorem dX9_crownBy_67 : decode cX9_crownBy 67 = .ok (.invokevirtual 120, 3) := by decide +kernel
theorem dX9_crownBy_70 : decode cX9_crownBy 70 = .ok (.iload_n 2, 1) := by decide +kernel
theorem dX9_crownBy_71 : decode cX9_crownBy 71 = .ok (.invokestatic 140, 3) := by decide +kernel
theorem dX9_crownBy_74 : decode cX9_crownBy 74 = .ok (.ifCond .eq 7, 3) := by decide +kernel
theorem dX9_crownBy_77 : decode cX9_crownBy 77 = .ok (.iconst 1, 1) := by decide +kernel
theorem dX9_crownBy_78 : decode cX9_crownBy 78 = .ok (.goto 4, 3) := by decide +kernel
theorem dX9_crownBy_81 : decode cX9_crownBy 81 = .ok (.iconst 0, 1) := by decide +kernel
theorem dX9_crownBy_82 : decode cX9_crownBy 82 = .ok (.iadd, 1) := by decide +kernel
theorem dX9_crownBy_83 : decode cX9_crownBy 83 = .ok (.istore_n 3, 1) := by decide +kernel
theorem dX9_crownBy_84 : decode cX9_crownBy 84 = .ok (.iinc 4 1, 3) := by decide +kernel
theorem dX9_crownBy_87 : decode cX9_crownBy 87 = .ok (.goto (-72), 3) := by decide +kernel
theorem dX9_crownBy_90 : decode cX9_crownBy 90 = .ok (.iload_n 3, 1) := by decide +kernel
theorem dX9_crownBy_91 : decode cX9_crownBy 91 = .ok (.iload_n 1, 1) := by decide +kernel
theorem dX9_crownBy_92 : decode cX9_crownBy 92 = .ok (.iconst 1, 1) := by decide +kernel
theorem dX9_crownBy_93 : decode cX9_crownBy 93 = .ok (.if_icmp .ne 7, 3) := by decide +kernel
theorem dX9_crownBy_96 : decode cX9_crownBy 96 = .ok (.iconst 1, 1) := by decide +kernel
theorem dX9_crownBy_97 : decode cX9_crownBy 97 = .ok (.goto 4, 3) := by decide +kernel
theorem dX9_crownBy_100 : decode cX9_crownBy 100 = .ok (.iconst 0, 1) := by decide +kernel
theorem dX9_crownBy_101 : decode cX9_crownBy 101 = .ok (.if_icmp .ne 18, 3) := by decide +kernel
theorem dX9_crownBy_104 : decode cX9_crownBy 104 = .ok (.iload_n 1, 1) := by decide +kernel
theorem dX9_crownBy_105 : decode cX9_crownBy 105 = .ok (.iconst 2, 1) := by decide +kernel
theorem dX9_crownBy_106 : decode cX9_crownBy 106 = .ok (.if_icmp .lt 11, 3) := by decide +kernel
theorem dX9_crownBy_109 : decode cX9_crownBy 109 = .ok (.aload_n 0, 1) := by decide +kernel
theorem dX9_crownBy_110 : decode cX9_crownBy 110 = .ok (.iload_n 2, 1) := by decide +kernel
theorem dX9_crownBy_111 : decode cX9_crownBy 111 = .ok (.invokevirtual 124, 3) := by decide +kernel
theorem dX9_crownBy_114 : decode cX9_crownBy 114 = .ok (.ifCond .ne 5, 3) := by decide +kernel
theorem dX9_crownBy_117 : decode cX9_crownBy 117 = .ok (.iload_n 2, 1) := by decide +kernel
theorem dX9_crownBy_118 : decode cX9_crownBy 118 = .ok (.ireturn, 1) := by decide +kernel
theorem dX9_crownBy_119 : decode cX9_crownBy 119 = .ok (.iinc 2 1, 3) := by decide +kernel
theorem dX9_crownBy_122 : decode cX9_crownBy 122 = .ok (.goto (-120), 3) := by decide +kernel
theorem dX9_crownBy_125 : decode cX9_crownBy 125 = .ok (.bipush (-9), 2) := by decide +kernel
theorem dX9_crownBy_127 : decode cX9_crownBy 127 = .ok (.ireturn, 1) := by decide +kernel
set_option maxRecDepth 20000 in
theorem ggX9_crown_X9_crownBy : GoodIn wsX9_crown wsX9_crownBy := goodIn_r _ [6, 7, 8, 9, 10, 5, 11, 12, 13, 14, 15, 16, 17, 18, 19, 20, 21, 22, 23, 24, 25, 26, 27, 28, 29, 30, 31, 32, 33, 34, 35, 36, 37, 38, 39, 40, 41, 42, 43, 44, 45, 46, 47, 48, 49, 50, 51, 52, 53, 54] (by decide +kernel) (by decide +kernel)
set_option maxRecDepth 20000 in
theorem gX9_crown_X9_crownBy : GoodIn wsX9_crown (wsV RX9 144 RX9 yX9_crownBy wsX9_crownBy) := goodIn_app (goodIn_of _ (by decide +kernel)) ggX9_crown_X9_crownBy
theorem dX9_crown_0 : decode cX9_crown 0 = .ok (.aload_n 0, 1) := by decide +kernel
theorem dX9_crown_1 : decode cX9_crown 1 = .ok (.aload_n 0, 1) := by decide +kernel
theorem dX9_crown_2 : decode cX9_crown 2 = .ok (.getfield 63, 3) := by decide +kernel
theorem dX9_crown_5 : decode cX9_crown 5 = .ok (.invokevirtual 144, 3) := by decide +kernel
theorem dX9_crown_8 : decode cX9_crown 8 = .ok (.ireturn, 1) := by decide +kernel
set_option maxRecDepth 20000 in
theorem ggX9_noon_X9_keepAct : GoodIn wsX9_noon wsX9_keepAct := goodIn_r _ [7, 8, 9, 2, 10, 28, 29, 30, 31, 32, 33, 34, 35, 36, 37, 38, 39, 40, 41, 42, 43, 44, 45, 46, 47, 48, 49, 50, 51, 52, 53, 54, 55, 56, 57, 58, 59, 60, 61] (by decide +kernel) (by decide +kernel)
set_option maxRecDepth 20000 in
theorem gX9_noon_X9_keepAct : GoodIn wsX9_noon (wsV RX9 134 RX9 yX9_keepAct wsX9_keepAct) := goodIn_app (goodIn_of _ (by decide +kernel)) ggX9_noon_X9_keepAct
set_option maxRecDepth 20000 in
theorem ggX9_noon_X9_crownBy : GoodIn wsX9_noon wsX9_crownBy := goodIn_r _ [14, 15, 16, 17, 18, 6, 19, 2, 20, 21, 22, 23, 24, 25, 26, 27, 28, 29, 30, 31, 32, 33, 34, 35, 36, 37, 38, 39, 40, 41, 42, 43, 44, 45, 46, 47, 48, 49, 50, 51, 52, 53, 54, 55, 56, 57, 58, 59, 60, 61] (by decide +kernel) (by decide +kernel)
set_option maxRecDepth 20000 in
theorem gX9_noon_X9_crownBy : GoodIn wsX9_noon (wsV RX9 144 RX9 yX9_crownBy wsX9_crownBy) := goodIn_app (goodIn_of _ (by decide +kernel)) ggX9_noon_X9_crownBy
theorem dX9_noon_0 : decode cX9_noon 0 = .ok (.aload_n 0, 1) := by decide +kernel
theorem dX9_noon_1 : decode cX9_noon 1 = .ok (.invokevirtual 134, 3) := by decide +kernel
theorem dX9_noon_4 : decode cX9_noon 4 = .ok (.aload_n 0, 1) := by decide +kernel
theorem dX9_noon_5 : decode cX9_noon 5 = .ok (.aload_n 0, 1) := by decide +kernel
theorem dX9_noon_6 : decode cX9_noon 6 = .ok (.getfield 63, 3) := by decide +kernel
theorem dX9_noon_9 : decode cX9_noon 9 = .ok (.invokevirtual 144, 3) := by decide +kernel
theorem dX9_noon_12 : decode cX9_noon 12 = .ok (.istore_n 1, 1) := by decide +kernel
theorem dX9_noon_13 : decode cX9_noon 13 = .ok (.iload_n 1, 1) := by decide +kernel
theorem dX9_noon_14 : decode cX9_noon 14 = .ok (.bipush (-9), 2) := by decide +kernel
theorem dX9_noon_16 : decode cX9_noon 16 = .ok (.if_icmp .eq 17, 3) := by decide +kernel
theorem dX9_noon_19 : decode cX9_noon 19 = .ok (.aload_n 0, 1) := by decide +kernel
theorem dX9_noon_20 : decode cX9_noon 20 = .ok (.getfield 13, 3) := by decide +kernel
theorem dX9_noon_23 : decode cX9_noon 23 = .ok (.iconst 5, 1) := by decide +kernel
theorem dX9_noon_24 : decode cX9_noon 24 = .ok (.iload_n 1, 1) := by decide +kernel
theorem dX9_noon_25 : decode cX9_noon 25 = .ok (.imul, 1) := by decide +kernel
theorem dX9_noon_26 : decode cX9_noon 26 = .ok (.iconst 4, 1) := by decide +kernel
theorem dX9_noon_27 : decode cX9_noon 27 = .ok (.iadd, 1) := by decide +kernel
theorem dX9_noon_28 : decode cX9_noon 28 = .ok (.dup2, 1) := by decide +kernel
theorem dX9_noon_29 : decode cX9_noon 29 = .ok (.iaload, 1) := by decide +kernel
theorem dX9_noon_30 : decode cX9_noon 30 = .ok (.iconst 1, 1) := by decide +kernel
theorem dX9_noon_31 : decode cX9_noon 31 = .ok (.iadd, 1) := by decide +kernel
theorem dX9_noon_32 : decode cX9_noon 32 = .ok (.iastore, 1) := by decide +kernel
theorem dX9_noon_33 : decode cX9_noon 33 = .ok (.iload_n 1, 1) := by decide +kernel
theorem dX9_noon_34 : decode cX9_noon 34 = .ok (.ireturn, 1) := by decide +kernel
theorem dX9_undo_0 : decode cX9_undo 0 = .ok (.aload_n 0, 1) := by decide +kernel
theorem dX9_undo_1 : decode cX9_undo 1 = .ok (.getfield 113, 3) := by decide +kernel
theorem dX9_undo_4 : decode cX9_undo 4 = .ok (.ifCond .ne 6, 3) := by decide +kernel
theorem dX9_undo_7 : decode cX9_undo 7 = .ok (.bipush (-3), 2) := by decide +kernel
theorem dX9_undo_9 : decode cX9_undo 9 = .ok (.ireturn, 1) := by decide +kernel
theorem dX9_undo_10 : decode cX9_undo 10 = .ok (.aload_n 0, 1) := by decide +kernel
theorem dX9_undo_11 : decode cX9_undo 11 = .ok (.dup, 1) := by decide +kernel
theorem dX9_undo_12 : decode cX9_undo 12 = .ok (.getfield 113, 3) := by decide +kernel
theorem dX9_undo_15 : decode cX9_undo 15 = .ok (.iconst 1, 1) := by decide +kernel
theorem dX9_undo_16 : decode cX9_undo 16 = .ok (.isub, 1) := by decide +kernel
theorem dX9_undo_17 : decode cX9_undo 17 = .ok (.putfield 113, 3) := by decide +kernel
theorem dX9_undo_20 : decode cX9_undo 20 = .ok (.aload_n 0, 1) := by decide +kernel
theorem dX9_undo_21 : decode cX9_undo 21 = .ok (.aload_n 0, 1) := by decide +kernel
theorem dX9_undo_22 : decode cX9_undo 22 = .ok (.getfield 129, 3) := by decide +kernel
theorem dX9_undo_25 : decode cX9_undo 25 = .ok (.bipush 15, 2) := by decide +kernel
theorem dX9_undo_27 : decode cX9_undo 27 = .ok (.iadd, 1) := by decide +kernel
theorem dX9_undo_28 : decode cX9_undo 28 = .ok (.bipush 16, 2) := by decide +kernel
theorem dX9_undo_30 : decode cX9_undo 30 = .ok (.irem, 1) := by decide +kernel
theorem dX9_undo_31 : decode cX9_undo 31 = .ok (.putfield 129, 3) := by decide +kernel
theorem dX9_undo_34 : decode cX9_undo 34 = .ok (.iconst 0, 1) := by decide +kernel
theorem dX9_undo_35 : decode cX9_undo 35 = .ok (.istore_n 1, 1) := by decide +kernel
theorem dX9_undo_36 : decode cX9_undo 36 = .ok (.iload_n 1, 1) := by decide +kernel
theorem dX9_undo_37 : decode cX9_undo 37 = .ok (.bipush 26, 2) := by decide +kernel
theorem dX9_undo_39 : decode cX9_undo 39 = .ok (.if_icmp .ge 29, 3) := by decide +kernel
theorem dX9_undo_42 : decode cX9_undo 42 = .ok (.aload_n 0, 1) := by decide +kernel
theorem dX9_undo_43 : decode cX9_undo 43 = .ok (.getfield 13, 3) := by decide +kernel
theorem dX9_undo_46 : decode cX9_undo 46 = .ok (.iload_n 1, 1) := by decide +kernel
theorem dX9_undo_47 : decode cX9_undo 47 = .ok (.aload_n 0, 1) := by decide +kernel
theorem dX9_undo_48 : decode cX9_undo 48 = .ok (.getfield 19, 3) := by decide +kernel
theorem dX9_undo_51 : decode cX9_undo 51 = .ok (.bipush 26, 2) := by decide +kernel
theorem dX9_undo_53 : decode cX9_undo 53 = .ok (.aload_n 0, 1) := by decide +kernel
theorem dX9_undo_54 : decode cX9_undo 54 = .ok (.getfield 129, 3) := by decide +kernel
theorem dX9_undo_57 : decode cX9_undo 57 = .ok (.imul, 1) := by decide +kernel
theorem dX9_undo_58 : decode cX9_undo 58 = .ok (.iload_n 1, 1) := by decide +kernel
theorem dX9_undo_59 : decode cX9_undo 59 = .ok (.iadd, 1) := by decide +kernel
theorem dX9_undo_60 : decode cX9_undo 60 = .ok (.iaload, 1) := by decide +kernel
theorem dX9_undo_61 : decode cX9_undo 61 = .ok (.iastore, 1) := by decide +kernel
theorem dX9_undo_62 : decode cX9_undo 62 = .ok (.iinc 1 1, 3) := by decide +kernel
theorem dX9_undo_65 : decode cX9_undo 65 = .ok (.goto (-29), 3) := by decide +kernel
theorem dX9_undo_68 : decode cX9_undo 68 = .ok (.aload_n 0, 1) := by decide +kernel
theorem dX9_undo_69 : decode cX9_undo 69 = .ok (.getfield 113, 3) := by decide +kernel
theorem dX9_undo_72 : decode cX9_undo 72 = .ok (.ireturn, 1) := by decide +kernel
set_option maxRecDepth 20000 in
theorem ggX9_later_X9_left : GoodIn wsX9_later wsX9_left := goodIn_r _ [6] (by decide +kernel) (by decide +kernel)
set_option maxRecDepth 20000 in
theorem gX9_later_X9_left : GoodIn wsX9_later (va_wsS RX9 137 yX9_left wsX9_left) := goodIn_app (goodIn_of _ (by decide +kernel)) ggX9_later_X9_left
set_option maxRecDepth 20000 in
theorem ggX9_later_X9_noonOf : GoodIn wsX9_later wsX9_noonOf := goodIn_r _ [10, 1, 11, 12, 13, 14, 15, 16, 17, 18, 19, 20, 21, 22, 23, 24, 25, 26, 27, 28, 29, 30, 31, 32, 33, 34, 35, 36, 37, 38, 39, 40, 41, 42, 43, 44] (by decide +kernel) (by decide +kernel)
set_option maxRecDepth 20000 in
theorem gX9_later_X9_noonOf : GoodIn wsX9_later (wsV RX9 120 RX9 yX9_noonOf wsX9_noonOf) := goodIn_app (goodIn_of _ (by decide +kernel)) ggX9_later_X9_noonOf
theorem dX9_later_0 : decode cX9_later 0 = .ok (.aload_n 0, 1) := by decide +kernel
theorem dX9_later_1 : decode cX9_later 1 = .ok (.getfield 13, 3) := by decide +kernel
theorem dX9_later_4 : decode cX9_later 4 = .ok (.iconst 5, 1) := by decide +kernel
theorem dX9_later_5 : decode cX9_later 5 = .ok (.iload_n 1, 1) := by decide +kernel
theorem dX9_later_6 : decode cX9_later 6 = .ok (.imul, 1) := by decide +kernel
theorem dX9_later_7 : decode cX9_later 7 = .ok (.iaload, 1) := by decide +kernel
theorem dX9_later_8 : decode cX9_later 8 = .ok (.aload_n 0, 1) := by decide +kernel
theorem dX9_later_9 : decode cX9_later 9 = .ok (.getfield 13, 3) := by decide +kernel
theorem dX9_later_12 : decode cX9_later 12 = .ok (.iconst 5, 1) := by decide +kernel
theorem dX9_later_13 : decode cX9_later 13 = .ok (.iload_n 1, 1) := by decide +kernel
theorem dX9_later_14 : decode cX9_later 14 = .ok (.imul, 1) := by decide +kernel
theorem dX9_later_15 : decode cX9_later 15 = .ok (.iconst 3, 1) := by decide +kernel
theorem dX9_later_16 : decode cX9_later 16 = .ok (.iadd, 1) := by decide +kernel
theorem dX9_later_17 : decode cX9_later 17 = .ok (.iaload, 1) := by decide +kernel
theorem dX9_later_18 : decode cX9_later 18 = .ok (.isub, 1) := by decide +kernel
theorem dX9_later_19 : decode cX9_later 19 = .ok (.iconst 2, 1) := by decide +kernel
theorem dX9_later_20 : decode cX9_later 20 = .ok (.aload_n 0, 1) := by decide +kernel
theorem dX9_later_21 : decode cX9_later 21 = .ok (.getfield 107, 3) := by decide +kernel
theorem dX9_later_24 : decode cX9_later 24 = .ok (.imul, 1) := by decide +kernel
theorem dX9_later_25 : decode cX9_later 25 = .ok (.iload_n 2, 1) := by decide +kernel
theorem dX9_later_26 : decode cX9_later 26 = .ok (.imul, 1) := by decide +kernel
theorem dX9_later_27 : decode cX9_later 27 = .ok (.isub, 1) := by decide +kernel
theorem dX9_later_28 : decode cX9_later 28 = .ok (.iconst 5, 1) := by decide +kernel
theorem dX9_later_29 : decode cX9_later 29 = .ok (.iload_n 3, 1) := by decide +kernel
theorem dX9_later_30 : decode cX9_later 30 = .ok (.imul, 1) := by decide +kernel
theorem dX9_later_31 : decode cX9_later 31 = .ok (.isub, 1) := by decide +kernel
theorem dX9_later_32 : decode cX9_later 32 = .ok (.invokestatic 137, 3) := by decide +kernel
theorem dX9_later_35 : decode cX9_later 35 = .ok (.aload_n 0, 1) := by decide +kernel
theorem dX9_later_36 : decode cX9_later 36 = .ok (.iload_n 1, 1) := by decide +kernel
theorem dX9_later_37 : decode cX9_later 37 = .ok (.invokevirtual 120, 3) := by decide +kernel
theorem dX9_later_40 : decode cX9_later 40 = .ok (.iadd, 1) := by decide +kernel
theorem dX9_later_41 : decode cX9_later 41 = .ok (.aload_n 0, 1) := by decide +kernel
theorem dX9_later_42 : decode cX9_later 42 = .ok (.getfield 13, 3) := by decide +kernel
theorem dX9_later_45 : decode cX9_later 45 = .ok (.iconst 5, 1) := by decide +kernel
theorem dX9_later_46 : decode cX9_later 46 = .ok (.iload_n 1, 1) := by decide +kernel
theorem dX9_later_47 : decode cX9_later 47 = .ok (.imul, 1) := by decide +kernel
theorem dX9_later_48 : decode cX9_later 48 = .ok (.iaload, 1) := by decide +kernel
theorem dX9_later_49 : decode cX9_later 49 = .ok (.isub, 1) := by decide +kernel
theorem dX9_later_50 : decode cX9_later 50 = .ok (.ireturn, 1) := by decide +kernel
set_option maxRecDepth 20000 in
theorem ggX9_least_X9_later : GoodIn wsX9_least wsX9_later := goodIn_r _ [6, 7, 8, 9, 10, 5, 11, 12, 13, 14, 15, 19, 20, 21, 22, 23, 24, 25, 26, 27, 28, 29, 30, 31, 32, 33, 34, 35, 36, 37, 38, 39, 40, 41, 42, 43, 44, 45, 46, 47, 48, 49, 50, 51, 52] (by decide +kernel) (by decide +kernel)
set_option maxRecDepth 20000 in
theorem gX9_least_X9_later : GoodIn wsX9_least (wsV RX9 147 RX9 yX9_later wsX9_later) := goodIn_app (goodIn_of _ (by decide +kernel)) ggX9_least_X9_later
set_option maxRecDepth 20000 in
theorem ggX9_least_X9_isLighter : GoodIn wsX9_least wsX9_isLighter := goodIn_r _ [18] (by decide +kernel) (by decide +kernel)
set_option maxRecDepth 20000 in
theorem gX9_least_X9_isLighter : GoodIn wsX9_least (va_wsS RX9 140 yX9_isLighter wsX9_isLighter) := goodIn_app (goodIn_of _ (by decide +kernel)) ggX9_least_X9_isLighter
theorem dX9_least_0 : decode cX9_least 0 = .ok (.iconst 0, 1) := by decide +kernel
theorem dX9_least_1 : decode cX9_least 1 = .ok (.istore 4, 2) := by decide +kernel
theorem dX9_least_3 : decode cX9_least 3 = .ok (.iload 4, 2) := by decide +kernel
theorem dX9_least_5 : decode cX9_least 5 = .ok (.bipush 9, 2) := by decide +kernel
theorem dX9_least_7 : decode cX9_least 7 = .ok (.iload_n 2, 1) := by decide +kernel
theorem dX9_least_8 : decode cX9_least 8 = .ok (.imul, 1) := by decide +kernel
theorem dX9_least_9 : decode cX9_least 9 = .ok (.if_icmp .gt 83, 3) := by decide +kernel
theorem dX9_least_12 : decode cX9_least 12 = .ok (.iconst 1, 1) := by decide +kernel
theorem dX9_least_13 : decode cX9_least 13 = .ok (.istore 5, 2) := by decide +kernel
theorem dX9_least_15 : decode cX9_least 15 = .ok (.iconst 0, 1) := by decide +kernel
theorem dX9_least_16 : decode cX9_least 16 = .ok (.istore 6, 2) := by decide +kernel
theorem dX9_least_18 : decode cX9_least 18 = .ok (.iload 6, 2) := by decide +kernel
theorem dX9_least_20 : decode cX9_least 20 = .ok (.aload_n 0, 1) := by decide +kernel
theorem dX9_least_21 : decode cX9_least 21 = .ok (.getfield 104, 3) := by decide +kernel
theorem dX9_least_24 : decode cX9_least 24 = .ok (.if_icmp .ge 54, 3) := by decide +kernel
theorem dX9_least_27 : decode cX9_least 27 = .ok (.iload 5, 2) := by decide +kernel
theorem dX9_least_29 : decode cX9_least 29 = .ok (.ifCond .eq 40, 3) := by decide +kernel
theorem dX9_least_32 : decode cX9_least 32 = .ok (.iload 6, 2) := by decide +kernel
theorem dX9_least_34 : decode cX9_least 34 = .ok (.iload_n 1, 1) := by decide +kernel
theorem dX9_least_35 : decode cX9_least 35 = .ok (.if_icmp .eq 30, 3) := by decide +kernel
theorem dX9_least_38 : decode cX9_least 38 = .ok (.aload_n 0, 1) := by decide +kernel
theorem dX9_least_39 : decode cX9_least 39 = .ok (.iload_n 1, 1) := by decide +kernel
theorem dX9_least_40 : decode cX9_least 40 = .ok (.iload_n 2, 1) := by decide +kernel
theorem dX9_least_41 : decode cX9_least 41 = .ok (.iload 4, 2) := by decide +kernel
theorem dX9_least_43 : decode cX9_least 43 = .ok (.invokevirtual 147, 3) := by decide +kernel
theorem dX9_least_46 : decode cX9_least 46 = .ok (.iload_n 1, 1) := by decide +kernel
theorem dX9_least_47 : decode cX9_least 47 = .ok (.aload_n 0, 1) := by decide +kernel
theorem dX9_least_48 : decode cX9_least 48 = .ok (.iload 6, 2) := by decide +kernel
theorem dX9_least_50 : decode cX9_least 50 = .ok (.iload_n 2, 1) := by decide +kernel
theorem dX9_least_51 : decode cX9_least 51 = .ok (.iload_n 3, 1) := by decide +kernel
theorem dX9_least_52 : decode cX9_least 52 = .ok (.iload_n 2, 1) := by decide +kernel
theorem dX9_least_53 : decode cX9_least 53 = .ok (.imul, 1) := by decide +kernel
theorem dX9_least_54 : decode cX9_least 54 = .ok (.invokevirtual 147, 3) := by decide +kernel
theorem dX9_least_57 : decode cX9_least 57 = .ok (.iload 6, 2) := by decide +kernel
theorem dX9_least_59 : decode cX9_least 59 = .ok (.invokestatic 140, 3) := by decide +kernel
theorem dX9_least_62 : decode cX9_least 62 = .ok (.ifCond .eq 7, 3) := by decide +kernel
theorem dX9_least_65 : decode cX9_least 65 = .ok (.iconst 1, 1) := by decide +kernel
theorem dX9_least_66 : decode cX9_least 66 = .ok (.goto 4, 3) := by decide +kernel
theorem dX9_least_69 : decode cX9_least 69 = .ok (.iconst 0, 1) := by decide +kernel
theorem dX9_least_70 : decode cX9_least 70 = .ok (.istore 5, 2) := by decide +kernel
theorem dX9_least_72 : decode cX9_least 72 = .ok (.iinc 6 1, 3) := by decide +kernel
theorem dX9_least_75 : decode cX9_least 75 = .ok (.goto (-57), 3) := by decide +kernel
theorem dX9_least_78 : decode cX9_least 78 = .ok (.iload 5, 2) := by decide +kernel
theorem dX9_least_80 : decode cX9_least 80 = .ok (.ifCond .eq 6, 3) := by decide +kernel
theorem dX9_least_83 : decode cX9_least 83 = .ok (.iload 4, 2) := by decide +kernel
theorem dX9_least_85 : decode cX9_least 85 = .ok (.ireturn, 1) := by decide +kernel
theorem dX9_least_86 : decode cX9_least 86 = .ok (.iinc 4 1, 3) := by decide +kernel
theorem dX9_least_89 : decode cX9_least 89 = .ok (.goto (-86), 3) := by decide +kernel
theorem dX9_least_92 : decode cX9_least 92 = .ok (.bipush (-9), 2) := by decide +kernel
theorem dX9_least_94 : decode cX9_least 94 = .ok (.ireturn, 1) := by decide +kernel
theorem dX9_share_0 : decode cX9_share 0 = .ok (.iload_n 0, 1) := by decide +kernel
theorem dX9_share_1 : decode cX9_share 1 = .ok (.iload_n 1, 1) := by decide +kernel
theorem dX9_share_2 : decode cX9_share 2 = .ok (.idiv, 1) := by decide +kernel
theorem dX9_share_3 : decode cX9_share 3 = .ok (.iload_n 2, 1) := by decide +kernel
theorem dX9_share_4 : decode cX9_share 4 = .ok (.iload_n 1, 1) := by decide +kernel
theorem dX9_share_5 : decode cX9_share 5 = .ok (.iload_n 0, 1) := by decide +kernel
theorem dX9_share_6 : decode cX9_share 6 = .ok (.iload_n 1, 1) := by decide +kernel
theorem dX9_share_7 : decode cX9_share 7 = .ok (.irem, 1) := by decide +kernel
theorem dX9_share_8 : decode cX9_share 8 = .ok (.isub, 1) := by decide +kernel
theorem dX9_share_9 : decode cX9_share 9 = .ok (.if_icmp .lt 7, 3) := by decide +kernel
theorem dX9_share_12 : decode cX9_share 12 = .ok (.iconst 1, 1) := by decide +kernel
theorem dX9_share_13 : decode cX9_share 13 = .ok (.goto 4, 3) := by decide +kernel
theorem dX9_share_16 : decode cX9_share 16 = .ok (.iconst 0, 1) := by decide +kernel
theorem dX9_share_17 : decode cX9_share 17 = .ok (.iadd, 1) := by decide +kernel
theorem dX9_share_18 : decode cX9_share 18 = .ok (.ireturn, 1) := by decide +kernel
set_option maxRecDepth 20000 in
theorem ggX9_sure_X9_isPerson : GoodIn wsX9_sure wsX9_isPerson := goodIn_r _ [8, 3, 9, 10, 7, 11, 35, 36, 37, 38, 39, 40, 41, 42, 43, 44, 45, 46, 47, 48, 49, 50, 51, 52, 53, 54, 55, 56, 57, 58, 59, 60, 61, 62, 63, 64, 65, 66, 67, 68] (by decide +kernel) (by decide +kernel)
set_option maxRecDepth 20000 in
theorem gX9_sure_X9_isPerson : GoodIn wsX9_sure (wsV RX9 116 RX9 yX9_isPerson wsX9_isPerson) := goodIn_app (goodIn_of _ (by decide +kernel)) ggX9_sure_X9_isPerson
set_option maxRecDepth 20000 in
theorem ggX9_sure_X9_in : GoodIn wsX9_sure wsX9_in := goodIn_r _ [11] (by decide +kernel) (by decide +kernel)
set_option maxRecDepth 20000 in
theorem gX9_sure_X9_in : GoodIn wsX9_sure (va_wsS RX9 69 yX9_in wsX9_in) := goodIn_app (goodIn_of _ (by decide +kernel)) ggX9_sure_X9_in
set_option maxRecDepth 20000 in
theorem ggX9_sure_X9_least : GoodIn wsX9_sure wsX9_least := goodIn_r _ [15, 3, 16, 17, 18, 7, 19, 20, 21, 22, 23, 24, 25, 26, 27, 28, 29, 30, 31, 35, 36, 37, 38, 39, 40, 41, 42, 43, 44, 45, 46, 47, 48, 49, 50, 51, 52, 53, 54, 55, 56, 57, 58, 59, 60, 61, 62, 63, 64, 65, 66, 67, 68] (by decide +kernel) (by decide +kernel)
set_option maxRecDepth 20000 in
theorem gX9_sure_X9_least : GoodIn wsX9_sure (wsV RX9 153 RX9 yX9_least wsX9_least) := goodIn_app (goodIn_of _ (by decide +kernel)) ggX9_sure_X9_least
set_option maxRecDepth 20000 in
theorem ggX9_sure_X9_share : GoodIn wsX9_sure wsX9_share := goodIn_r _ [34] (by decide +kernel) (by decide +kernel)
set_option maxRecDepth 20000 in
theorem gX9_sure_X9_share : GoodIn wsX9_sure (va_wsS RX9 156 yX9_share wsX9_share) := goodIn_app (goodIn_of _ (by decide +kernel)) ggX9_sure_X9_share
theorem dX9_sure_0 : decode cX9_sure 0 = .ok (.aload_n 0, 1) := by decide +kernel
theorem dX9_sure_1 : decode cX9_sure 1 = .ok (.iload_n 1, 1) := by decide +kernel
theorem dX9_sure_2 : decode cX9_sure 2 = .ok (.invokevirtual 116, 3) := by decide +kernel
theorem dX9_sure_5 : decode cX9_sure 5 = .ok (.ifCond .ne 5, 3) := by decide +kernel
theorem dX9_sure_8 : decode cX9_sure 8 = .ok (.iconst (-1), 1) := by decide +kernel
theorem dX9_sure_9 : decode cX9_sure 9 = .ok (.ireturn, 1) := by decide +kernel
theorem dX9_sure_10 : decode cX9_sure 10 = .ok (.iload_n 2, 1) := by decide +kernel
theorem dX9_sure_11 : decode cX9_sure 11 = .ok (.i2l, 1) := by decide +kernel
theorem dX9_sure_12 : decode cX9_sure 12 = .ok (.lconst 1, 1) := by decide +kernel
theorem dX9_sure_13 : decode cX9_sure 13 = .ok (.ldc2_w 151, 3) := by decide +kernel
theorem dX9_sure_16 : decode cX9_sure 16 = .ok (.invokestatic 69, 3) := by decide +kernel
theorem dX9_sure_19 : decode cX9_sure 19 = .ok (.ifCond .eq 15, 3) := by decide +kernel
theorem dX9_sure_22 : decode cX9_sure 22 = .ok (.iload_n 3, 1) := by decide +kernel
theorem dX9_sure_23 : decode cX9_sure 23 = .ok (.i2l, 1) := by decide +kernel
theorem dX9_sure_24 : decode cX9_sure 24 = .ok (.lconst 0, 1) := by decide +kernel
theorem dX9_sure_25 : decode cX9_sure 25 = .ok (.ldc2_w 132, 3) := by decide +kernel
theorem dX9_sure_28 : decode cX9_sure 28 = .ok (.invokestatic 69, 3) := by decide +kernel
theorem dX9_sure_31 : decode cX9_sure 31 = .ok (.ifCond .ne 6, 3) := by decide +kernel
theorem dX9_sure_34 : decode cX9_sure 34 = .ok (.bipush (-2), 2) := by decide +kernel
theorem dX9_sure_36 : decode cX9_sure 36 = .ok (.ireturn, 1) := by decide +kernel
theorem dX9_sure_37 : decode cX9_sure 37 = .ok (.aload_n 0, 1) := by decide +kernel
theorem dX9_sure_38 : decode cX9_sure 38 = .ok (.getfield 104, 3) := by decide +kernel
theorem dX9_sure_41 : decode cX9_sure 41 = .ok (.iconst 1, 1) := by decide +kernel
theorem dX9_sure_42 : decode cX9_sure 42 = .ok (.if_icmp .ne 6, 3) := by decide +kernel
theorem dX9_sure_45 : decode cX9_sure 45 = .ok (.bipush (-3), 2) := by decide +kernel
theorem dX9_sure_47 : decode cX9_sure 47 = .ok (.ireturn, 1) := by decide +kernel
theorem dX9_sure_48 : decode cX9_sure 48 = .ok (.aload_n 0, 1) := by decide +kernel
theorem dX9_sure_49 : decode cX9_sure 49 = .ok (.iload_n 1, 1) := by decide +kernel
theorem dX9_sure_50 : decode cX9_sure 50 = .ok (.iload_n 2, 1) := by decide +kernel
theorem dX9_sure_51 : decode cX9_sure 51 = .ok (.iload_n 3, 1) := by decide +kernel
theorem dX9_sure_52 : decode cX9_sure 52 = .ok (.invokevirtual 153, 3) := by decide +kernel
theorem dX9_sure_55 : decode cX9_sure 55 = .ok (.istore 4, 2) := by decide +kernel
theorem dX9_sure_57 : decode cX9_sure 57 = .ok (.iconst 0, 1) := by decide +kernel
theorem dX9_sure_58 : decode cX9_sure 58 = .ok (.istore 5, 2) := by decide +kernel
theorem dX9_sure_60 : decode cX9_sure 60 = .ok (.iconst 0, 1) := by decide +kernel
theorem dX9_sure_61 : decode cX9_sure 61 = .ok (.istore 6, 2) := by decide +kernel
theorem dX9_sure_63 : decode cX9_sure 63 = .ok (.iload 6, 2) := by decide +kernel
theorem dX9_sure_65 : decode cX9_sure 65 = .ok (.iload_n 2, 1) := by decide +kernel
theorem dX9_sure_66 : decode cX9_sure 66 = .ok (.if_icmp .ge 38, 3) := by decide +kernel
theorem dX9_sure_69 : decode cX9_sure 69 = .ok (.iload 4, 2) := by decide +kernel
theorem dX9_sure_71 : decode cX9_sure 71 = .ok (.bipush (-9), 2) := by decide +kernel
theorem dX9_sure_73 : decode cX9_sure 73 = .ok (.if_icmp .eq 31, 3) := by decide +kernel
theorem dX9_sure_76 : decode cX9_sure 76 = .ok (.iload 5, 2) := by decide +kernel
theorem dX9_sure_78 : decode cX9_sure 78 = .ok (.iload 4, 2) := by decide +kernel
theorem dX9_sure_80 : decode cX9_sure 80 = .ok (.iload_n 2, 1) := by decide +kernel
theorem dX9_sure_81 : decode cX9_sure 81 = .ok (.iload 6, 2) := by decide +kernel
theorem dX9_sure_83 : decode cX9_sure 83 = .ok (.invokestatic 156, 3) := by decide +kernel
theorem dX9_sure_86 : decode cX9_sure 86 = .ok (.iload 4, 2) := by decide +kernel
theorem dX9_sure_88 : decode cX9_sure 88 = .ok (.iload_n 2, 1) := by decide +kernel
theorem dX9_sure_89 : decode cX9_sure 89 = .ok (.iload 6, 2) := by decide +kernel
theorem dX9_sure_91 : decode cX9_sure 91 = .ok (.invokestatic 156, 3) := by decide +kernel
theorem dX9_sure_94 : decode cX9_sure 94 = .ok (.imul, 1) := by decide +kernel
theorem dX9_sure_95 : decode cX9_sure 95 = .ok (.iadd, 1) := by decide +kernel
theorem dX9_sure_96 : decode cX9_sure 96 = .ok (.istore 5, 2) := by decide +kernel
theorem dX9_sure_98 : decode cX9_sure 98 = .ok (.iinc 6 1, 3) := by decide +kernel
theorem dX9_sure_101 : decode cX9_sure 101 = .ok (.goto (-38), 3) := by decide +kernel
theorem dX9_sure_104 : decode cX9_sure 104 = .ok (.iload 4, 2) := by decide +kernel
theorem dX9_sure_106 : decode cX9_sure 106 = .ok (.bipush (-9), 2) := by decide +kernel
theorem dX9_sure_108 : decode cX9_sure 108 = .ok (.if_icmp .ne 8, 3) := by decide +kernel
theorem dX9_sure_111 : decode cX9_sure 111 = .ok (.bipush (-9), 2) := by decide +kernel
theorem dX9_sure_113 : decode cX9_sure 113 = .ok (.goto 5, 3) := by decide +kernel
theorem dX9_sure_116 : decode cX9_sure 116 = .ok (.iload 5, 2) := by decide +kernel
theorem dX9_sure_118 : decode cX9_sure 118 = .ok (.ireturn, 1) := by decide +kernel
set_option maxRecDepth 20000 in
theorem ggX9_sureAt_X9_isPerson : GoodIn wsX9_sureAt wsX9_isPerson := goodIn_r _ [8, 3, 9, 10, 7, 11, 35, 36, 37, 38, 39, 40, 41, 42, 43, 44, 45, 46, 47, 48, 49, 50, 51, 52, 53, 54, 55, 56, 57, 58, 59, 60, 61, 62, 63, 64, 65, 66, 67, 68] (by decide +kernel) (by decide +kernel)
set_option maxRecDepth 20000 in
theorem gX9_sureAt_X9_isPerson : GoodIn wsX9_sureAt (wsV RX9 116 RX9 yX9_isPerson wsX9_isPerson) := goodIn_app (goodIn_of _ (by decide +kernel)) ggX9_sureAt_X9_isPerson
set_option maxRecDepth 20000 in
theorem ggX9_sureAt_X9_in : GoodIn wsX9_sureAt wsX9_in := goodIn_r _ [11] (by decide +kernel) (by decide +kernel)
set_option maxRecDepth 20000 in
theorem gX9_sureAt_X9_in : GoodIn wsX9_sureAt (va_wsS RX9 69 yX9_in wsX9_in) := goodIn_app (goodIn_of _ (by decide +kernel)) ggX9_sureAt_X9_in
set_option maxRecDepth 20000 in
theorem ggX9_sureAt_X9_least : GoodIn wsX9_sureAt wsX9_least := goodIn_r _ [15, 3, 16, 17, 18, 7, 19, 20, 21, 22, 23, 24, 25, 26, 27, 28, 29, 30, 31, 35, 36, 37, 38, 39, 40, 41, 42, 43, 44, 45, 46, 47, 48, 49, 50, 51, 52, 53, 54, 55, 56, 57, 58, 59, 60, 61, 62, 63, 64, 65, 66, 67, 68] (by decide +kernel) (by decide +kernel)
set_option maxRecDepth 20000 in
theorem gX9_sureAt_X9_least : GoodIn wsX9_sureAt (wsV RX9 153 RX9 yX9_least wsX9_least) := goodIn_app (goodIn_of _ (by decide +kernel)) ggX9_sureAt_X9_least
set_option maxRecDepth 20000 in
theorem ggX9_sureAt_X9_share : GoodIn wsX9_sureAt wsX9_share := goodIn_r _ [34] (by decide +kernel) (by decide +kernel)
set_option maxRecDepth 20000 in
theorem gX9_sureAt_X9_share : GoodIn wsX9_sureAt (va_wsS RX9 156 yX9_share wsX9_share) := goodIn_app (goodIn_of _ (by decide +kernel)) ggX9_sureAt_X9_share
theorem dX9_sureAt_0 : decode cX9_sureAt 0 = .ok (.aload_n 0, 1) := by decide +kernel
theorem dX9_sureAt_1 : decode cX9_sureAt 1 = .ok (.iload_n 1, 1) := by decide +kernel
theorem dX9_sureAt_2 : decode cX9_sureAt 2 = .ok (.invokevirtual 116, 3) := by decide +kernel
theorem dX9_sureAt_5 : decode cX9_sureAt 5 = .ok (.ifCond .ne 5, 3) := by decide +kernel
theorem dX9_sureAt_8 : decode cX9_sureAt 8 = .ok (.iconst (-1), 1) := by decide +kernel
theorem dX9_sureAt_9 : decode cX9_sureAt 9 = .ok (.ireturn, 1) := by decide +kernel
theorem dX9_sureAt_10 : decode cX9_sureAt 10 = .ok (.iload_n 2, 1) := by decide +kernel
theorem dX9_sureAt_11 : decode cX9_sureAt 11 = .ok (.i2l, 1) := by decide +kernel
theorem dX9_sureAt_12 : decode cX9_sureAt 12 = .ok (.lconst 1, 1) := by decide +kernel
theorem dX9_sureAt_13 : decode cX9_sureAt 13 = .ok (.ldc2_w 151, 3) := by decide +kernel
theorem dX9_sureAt_16 : decode cX9_sureAt 16 = .ok (.invokestatic 69, 3) := by decide +kernel
theorem dX9_sureAt_19 : decode cX9_sureAt 19 = .ok (.ifCond .eq 15, 3) := by decide +kernel
theorem dX9_sureAt_22 : decode cX9_sureAt 22 = .ok (.iload_n 3, 1) := by decide +kernel
theorem dX9_sureAt_23 : decode cX9_sureAt 23 = .ok (.i2l, 1) := by decide +kernel
theorem dX9_sureAt_24 : decode cX9_sureAt 24 = .ok (.lconst 0, 1) := by decide +kernel
theorem dX9_sureAt_25 : decode cX9_sureAt 25 = .ok (.ldc2_w 132, 3) := by decide +kernel
theorem dX9_sureAt_28 : decode cX9_sureAt 28 = .ok (.invokestatic 69, 3) := by decide +kernel
theorem dX9_sureAt_31 : decode cX9_sureAt 31 = .ok (.ifCond .ne 6, 3) := by decide +kernel
theorem dX9_sureAt_34 : decode cX9_sureAt 34 = .ok (.bipush (-2), 2) := by decide +kernel
theorem dX9_sureAt_36 : decode cX9_sureAt 36 = .ok (.ireturn, 1) := by decide +kernel
theorem dX9_sureAt_37 : decode cX9_sureAt 37 = .ok (.aload_n 0, 1) := by decide +kernel
theorem dX9_sureAt_38 : decode cX9_sureAt 38 = .ok (.getfield 104, 3) := by decide +kernel
theorem dX9_sureAt_41 : decode cX9_sureAt 41 = .ok (.iconst 1, 1) := by decide +kernel
theorem dX9_sureAt_42 : decode cX9_sureAt 42 = .ok (.if_icmp .ne 6, 3) := by decide +kernel
theorem dX9_sureAt_45 : decode cX9_sureAt 45 = .ok (.bipush (-3), 2) := by decide +kernel
theorem dX9_sureAt_47 : decode cX9_sureAt 47 = .ok (.ireturn, 1) := by decide +kernel
theorem dX9_sureAt_48 : decode cX9_sureAt 48 = .ok (.aload_n 0, 1) := by decide +kernel
theorem dX9_sureAt_49 : decode cX9_sureAt 49 = .ok (.iload_n 1, 1) := by decide +kernel
theorem dX9_sureAt_50 : decode cX9_sureAt 50 = .ok (.iload_n 2, 1) := by decide +kernel
theorem dX9_sureAt_51 : decode cX9_sureAt 51 = .ok (.iload_n 3, 1) := by decide +kernel
theorem dX9_sureAt_52 : decode cX9_sureAt 52 = .ok (.invokevirtual 153, 3) := by decide +kernel
theorem dX9_sureAt_55 : decode cX9_sureAt 55 = .ok (.istore 5, 2) := by decide +kernel
theorem dX9_sureAt_57 : decode cX9_sureAt 57 = .ok (.iload 5, 2) := by decide +kernel
theorem dX9_sureAt_59 : decode cX9_sureAt 59 = .ok (.bipush (-9), 2) := by decide +kernel
theorem dX9_sureAt_61 : decode cX9_sureAt 61 = .ok (.if_icmp .eq 17, 3) := by decide +kernel
theorem dX9_sureAt_64 : decode cX9_sureAt 64 = .ok (.iload 4, 2) := by decide +kernel
theorem dX9_sureAt_66 : decode cX9_sureAt 66 = .ok (.i2l, 1) := by decide +kernel
theorem dX9_sureAt_67 : decode cX9_sureAt 67 = .ok (.lconst 0, 1) := by decide +kernel
theorem dX9_sureAt_68 : decode cX9_sureAt 68 = .ok (.iload_n 2, 1) := by decide +kernel
theorem dX9_sureAt_69 : decode cX9_sureAt 69 = .ok (.iconst 1, 1) := by decide +kernel
theorem dX9_sureAt_70 : decode cX9_sureAt 70 = .ok (.isub, 1) := by decide +kernel
theorem dX9_sureAt_71 : decode cX9_sureAt 71 = .ok (.i2l, 1) := by decide +kernel
theorem dX9_sureAt_72 : decode cX9_sureAt 72 = .ok (.invokestatic 69, 3) := by decide +kernel
theorem dX9_sureAt_75 : decode cX9_sureAt 75 = .ok (.ifCond .ne 8, 3) := by decide +kernel
theorem dX9_sureAt_78 : decode cX9_sureAt 78 = .ok (.bipush (-9), 2) := by decide +kernel
theorem dX9_sureAt_80 : decode cX9_sureAt 80 = .ok (.goto 11, 3) := by decide +kernel
theorem dX9_sureAt_83 : decode cX9_sureAt 83 = .ok (.iload 5, 2) := by decide +kernel
theorem dX9_sureAt_85 : decode cX9_sureAt 85 = .ok (.iload_n 2, 1) := by decide +kernel
theorem dX9_sureAt_86 : decode cX9_sureAt 86 = .ok (.iload 4, 2) := by decide +kernel
theorem dX9_sureAt_88 : decode cX9_sureAt 88 = .ok (.invokestatic 156, 3) := by decide +kernel
theorem dX9_sureAt_91 : decode cX9_sureAt 91 = .ok (.ireturn, 1) := by decide +kernel
set_option maxRecDepth 20000 in
theorem ggX9_feed_X9_isPerson : GoodIn wsX9_feed wsX9_isPerson := goodIn_r _ [6, 1, 7, 8, 5, 9, 18, 19, 20, 21, 22, 23, 24, 25, 26, 27, 28, 29, 30, 31, 32, 33, 34, 35, 36, 37, 38, 39, 40, 41, 42, 43, 44, 45, 46, 47, 48, 49, 50, 51] (by decide +kernel) (by decide +kernel)
set_option maxRecDepth 20000 in
theorem gX9_feed_X9_isPerson : GoodIn wsX9_feed (wsV RX9 116 RX9 yX9_isPerson wsX9_isPerson) := goodIn_app (goodIn_of _ (by decide +kernel)) ggX9_feed_X9_isPerson
set_option maxRecDepth 20000 in
theorem ggX9_feed_X9_noonOf : GoodIn wsX9_feed wsX9_noonOf := goodIn_r _ [13, 14, 18, 19, 20, 21, 22, 23, 24, 25, 26, 27, 28, 29, 30, 31, 32, 33, 34, 35, 36, 37, 38, 39, 40, 41, 42, 43, 44, 45, 46, 47, 48, 49, 50, 51] (by decide +kernel) (by decide +kernel)
set_option maxRecDepth 20000 in
theorem gX9_feed_X9_noonOf : GoodIn wsX9_feed (wsV RX9 120 RX9 yX9_noonOf wsX9_noonOf) := goodIn_app (goodIn_of _ (by decide +kernel)) ggX9_feed_X9_noonOf
set_option maxRecDepth 20000 in
theorem ggX9_feed_X9_isLighter : GoodIn wsX9_feed wsX9_isLighter := goodIn_r _ [17] (by decide +kernel) (by decide +kernel)
set_option maxRecDepth 20000 in
theorem gX9_feed_X9_isLighter : GoodIn wsX9_feed (va_wsS RX9 140 yX9_isLighter wsX9_isLighter) := goodIn_app (goodIn_of _ (by decide +kernel)) ggX9_feed_X9_isLighter
theorem dX9_feed_0 : decode cX9_feed 0 = .ok (.aload_n 0, 1) := by decide +kernel
theorem dX9_feed_1 : decode cX9_feed 1 = .ok (.iload_n 1, 1) := by decide +kernel
theorem dX9_feed_2 : decode cX9_feed 2 = .ok (.invokevirtual 116, 3) := by decide +kernel
theorem dX9_feed_5 : decode cX9_feed 5 = .ok (.ifCond .ne 5, 3) := by decide +kernel
theorem dX9_feed_8 : decode cX9_feed 8 = .ok (.iconst (-1), 1) := by decide +kernel
theorem dX9_feed_9 : decode cX9_feed 9 = .ok (.ireturn, 1) := by decide +kernel
theorem dX9_feed_10 : decode cX9_feed 10 = .ok (.iconst 0, 1) := by decide +kernel
theorem dX9_feed_11 : decode cX9_feed 11 = .ok (.istore_n 2, 1) := by decide +kernel
theorem dX9_feed_12 : decode cX9_feed 12 = .ok (.iconst 0, 1) := by decide +kernel
theorem dX9_feed_13 : decode cX9_feed 13 = .ok (.istore_n 3, 1) := by decide +kernel
theorem dX9_feed_14 : decode cX9_feed 14 = .ok (.iload_n 3, 1) := by decide +kernel
theorem dX9_feed_15 : decode cX9_feed 15 = .ok (.aload_n 0, 1) := by decide +kernel
theorem dX9_feed_16 : decode cX9_feed 16 = .ok (.getfield 104, 3) := by decide +kernel
theorem dX9_feed_19 : decode cX9_feed 19 = .ok (.if_icmp .ge 45, 3) := by decide +kernel
theorem dX9_feed_22 : decode cX9_feed 22 = .ok (.aload_n 0, 1) := by decide +kernel
theorem dX9_feed_23 : decode cX9_feed 23 = .ok (.iload_n 3, 1) := by decide +kernel
theorem dX9_feed_24 : decode cX9_feed 24 = .ok (.invokevirtual 120, 3) := by decide +kernel
theorem dX9_feed_27 : decode cX9_feed 27 = .ok (.istore 4, 2) := by decide +kernel
theorem dX9_feed_29 : decode cX9_feed 29 = .ok (.iload_n 3, 1) := by decide +kernel
theorem dX9_feed_30 : decode cX9_feed 30 = .ok (.iload_n 1, 1) := by decide +kernel
theorem dX9_feed_31 : decode cX9_feed 31 = .ok (.if_icmp .eq 27, 3) := by decide +kernel
theorem dX9_feed_34 : decode cX9_feed 34 = .ok (.aload_n 0, 1) := by decide +kernel
theorem dX9_feed_35 : decode cX9_feed 35 = .ok (.iload_n 1, 1) := by decide +kernel
theorem dX9_feed_36 : decode cX9_feed 36 = .ok (.invokevirtual 120, 3) := by decide +kernel
theorem dX9_feed_39 : decode cX9_feed 39 = .ok (.iload_n 1, 1) := by decide +kernel
theorem dX9_feed_40 : decode cX9_feed 40 = .ok (.iload 4, 2) := by decide +kernel
theorem dX9_feed_42 : decode cX9_feed 42 = .ok (.iload_n 3, 1) := by decide +kernel
theorem dX9_feed_43 : decode cX9_feed 43 = .ok (.invokestatic 140, 3) := by decide +kernel
theorem dX9_feed_46 : decode cX9_feed 46 = .ok (.ifCond .ne 12, 3) := by decide +kernel
theorem dX9_feed_49 : decode cX9_feed 49 = .ok (.iinc 4 8, 3) := by decide +kernel
theorem dX9_feed_52 : decode cX9_feed 52 = .ok (.iinc 2 1, 3) := by decide +kernel
theorem dX9_feed_55 : decode cX9_feed 55 = .ok (.goto (-26), 3) := by decide +kernel
theorem dX9_feed_58 : decode cX9_feed 58 = .ok (.iinc 3 1, 3) := by decide +kernel
theorem dX9_feed_61 : decode cX9_feed 61 = .ok (.goto (-47), 3) := by decide +kernel
theorem dX9_feed_64 : decode cX9_feed 64 = .ok (.iload_n 2, 1) := by decide +kernel
theorem dX9_feed_65 : decode cX9_feed 65 = .ok (.ireturn, 1) := by decide +kernel
theorem dX9_ones_0 : decode cX9_ones 0 = .ok (.iconst 0, 1) := by decide +kernel
theorem dX9_ones_1 : decode cX9_ones 1 = .ok (.istore_n 1, 1) := by decide +kernel
theorem dX9_ones_2 : decode cX9_ones 2 = .ok (.iconst 0, 1) := by decide +kernel
theorem dX9_ones_3 : decode cX9_ones 3 = .ok (.istore_n 2, 1) := by decide +kernel
theorem dX9_ones_4 : decode cX9_ones 4 = .ok (.iload_n 2, 1) := by decide +kernel
theorem dX9_ones_5 : decode cX9_ones 5 = .ok (.bipush 9, 2) := by decide +kernel
theorem dX9_ones_7 : decode cX9_ones 7 = .ok (.if_icmp .ge 17, 3) := by decide +kernel
theorem dX9_ones_10 : decode cX9_ones 10 = .ok (.iload_n 1, 1) := by decide +kernel
theorem dX9_ones_11 : decode cX9_ones 11 = .ok (.iload_n 0, 1) := by decide +kernel
theorem dX9_ones_12 : decode cX9_ones 12 = .ok (.iload_n 2, 1) := by decide +kernel
theorem dX9_ones_13 : decode cX9_ones 13 = .ok (.ishr, 1) := by decide +kernel
theorem dX9_ones_14 : decode cX9_ones 14 = .ok (.iconst 1, 1) := by decide +kernel
theorem dX9_ones_15 : decode cX9_ones 15 = .ok (.iand, 1) := by decide +kernel
theorem dX9_ones_16 : decode cX9_ones 16 = .ok (.iadd, 1) := by decide +kernel
theorem dX9_ones_17 : decode cX9_ones 17 = .ok (.istore_n 1, 1) := by decide +kernel
theorem dX9_ones_18 : decode cX9_ones 18 = .ok (.iinc 2 1, 3) := by decide +kernel
theorem dX9_ones_21 : decode cX9_ones 21 = .ok (.goto (-17), 3) := by decide +kernel
theorem dX9_ones_24 : decode cX9_ones 24 = .ok (.iload_n 1, 1) := by decide +kernel
theorem dX9_ones_25 : decode cX9_ones 25 = .ok (.ireturn, 1) := by decide +kernel
set_option maxRecDepth 20000 in
theorem ggX9_weigh_X9_in : GoodIn wsX9_weigh wsX9_in := goodIn_r _ [10] (by decide +kernel) (by decide +kernel)
set_option maxRecDepth 20000 in
theorem gX9_weigh_X9_in : GoodIn wsX9_weigh (va_wsS RX9 69 yX9_in wsX9_in) := goodIn_app (goodIn_of _ (by decide +kernel)) ggX9_weigh_X9_in
set_option maxRecDepth 20000 in
theorem ggX9_weigh_X9_ones : GoodIn wsX9_weigh wsX9_ones := goodIn_r _ [13] (by decide +kernel) (by decide +kernel)
set_option maxRecDepth 20000 in
theorem gX9_weigh_X9_ones : GoodIn wsX9_weigh (va_wsS RX9 161 yX9_ones wsX9_ones) := goodIn_app (goodIn_of _ (by decide +kernel)) ggX9_weigh_X9_ones
theorem dX9_weigh_0 : decode cX9_weigh 0 = .ok (.iload_n 1, 1) := by decide +kernel
theorem dX9_weigh_1 : decode cX9_weigh 1 = .ok (.i2l, 1) := by decide +kernel
theorem dX9_weigh_2 : decode cX9_weigh 2 = .ok (.lconst 1, 1) := by decide +kernel
theorem dX9_weigh_3 : decode cX9_weigh 3 = .ok (.ldc2_w 159, 3) := by decide +kernel
theorem dX9_weigh_6 : decode cX9_weigh 6 = .ok (.invokestatic 69, 3) := by decide +kernel
theorem dX9_weigh_9 : decode cX9_weigh 9 = .ok (.ifCond .eq 44, 3) := by decide +kernel
theorem dX9_weigh_12 : decode cX9_weigh 12 = .ok (.iload_n 2, 1) := by decide +kernel
theorem dX9_weigh_13 : decode cX9_weigh 13 = .ok (.i2l, 1) := by decide +kernel
theorem dX9_weigh_14 : decode cX9_weigh 14 = .ok (.lconst 1, 1) := by decide +kernel
theorem dX9_weigh_15 : decode cX9_weigh 15 = .ok (.ldc2_w 159, 3) := by decide +kernel
theorem dX9_weigh_18 : decode cX9_weigh 18 = .ok (.invokestatic 69, 3) := by decide +kernel
theorem dX9_weigh_21 : decode cX9_weigh 21 = .ok (.ifCond .eq 32, 3) := by decide +kernel
theorem dX9_weigh_24 : decode cX9_weigh 24 = .ok (.iload_n 1, 1) := by decide +kernel
theorem dX9_weigh_25 : decode cX9_weigh 25 = .ok (.iload_n 2, 1) := by decide +kernel
theorem dX9_weigh_26 : decode cX9_weigh 26 = .ok (.iand, 1) := by decide +kernel
theorem dX9_weigh_27 : decode cX9_weigh 27 = .ok (.ifCond .ne 26, 3) := by decide +kernel
theorem dX9_weigh_30 : decode cX9_weigh 30 = .ok (.iload_n 1, 1) := by decide +kernel
theorem dX9_weigh_31 : decode cX9_weigh 31 = .ok (.invokestatic 161, 3) := by decide +kernel
theorem dX9_weigh_34 : decode cX9_weigh 34 = .ok (.iload_n 2, 1) := by decide +kernel
theorem dX9_weigh_35 : decode cX9_weigh 35 = .ok (.invokestatic 161, 3) := by decide +kernel
theorem dX9_weigh_38 : decode cX9_weigh 38 = .ok (.if_icmp .ne 15, 3) := by decide +kernel
theorem dX9_weigh_41 : decode cX9_weigh 41 = .ok (.iload_n 3, 1) := by decide +kernel
theorem dX9_weigh_42 : decode cX9_weigh 42 = .ok (.i2l, 1) := by decide +kernel
theorem dX9_weigh_43 : decode cX9_weigh 43 = .ok (.lconst 0, 1) := by decide +kernel
theorem dX9_weigh_44 : decode cX9_weigh 44 = .ok (.ldc2_w 127, 3) := by decide +kernel
theorem dX9_weigh_47 : decode cX9_weigh 47 = .ok (.invokestatic 69, 3) := by decide +kernel
theorem dX9_weigh_50 : decode cX9_weigh 50 = .ok (.ifCond .ne 6, 3) := by decide +kernel
theorem dX9_weigh_53 : decode cX9_weigh 53 = .ok (.bipush (-2), 2) := by decide +kernel
theorem dX9_weigh_55 : decode cX9_weigh 55 = .ok (.ireturn, 1) := by decide +kernel
theorem dX9_weigh_56 : decode cX9_weigh 56 = .ok (.aload_n 0, 1) := by decide +kernel
theorem dX9_weigh_57 : decode cX9_weigh 57 = .ok (.getfield 164, 3) := by decide +kernel
theorem dX9_weigh_60 : decode cX9_weigh 60 = .ok (.bipush 10, 2) := by decide +kernel
theorem dX9_weigh_62 : decode cX9_weigh 62 = .ok (.if_icmp .ne 6, 3) := by decide +kernel
theorem dX9_weigh_65 : decode cX9_weigh 65 = .ok (.bipush (-4), 2) := by decide +kernel
theorem dX9_weigh_67 : decode cX9_weigh 67 = .ok (.ireturn, 1) := by decide +kernel
theorem dX9_weigh_68 : decode cX9_weigh 68 = .ok (.aload_n 0, 1) := by decide +kernel
theorem dX9_weigh_69 : decode cX9_weigh 69 = .ok (.getfield 22, 3) := by decide +kernel
theorem dX9_weigh_72 : decode cX9_weigh 72 = .ok (.aload_n 0, 1) := by decide +kernel
theorem dX9_weigh_73 : decode cX9_weigh 73 = .ok (.getfield 164, 3) := by decide +kernel
theorem dX9_weigh_76 : decode cX9_weigh 76 = .ok (.iload_n 1, 1) := by decide +kernel
theorem dX9_weigh_77 : decode cX9_weigh 77 = .ok (.iastore, 1) := by decide +kernel
theorem dX9_weigh_78 : decode cX9_weigh 78 = .ok (.aload_n 0, 1) := by decide +kernel
theorem dX9_weigh_79 : decode cX9_weigh 79 = .ok (.getfield 25, 3) := by decide +kernel
theorem dX9_weigh_82 : decode cX9_weigh 82 = .ok (.aload_n 0, 1) := by decide +kernel
theorem dX9_weigh_83 : decode cX9_weigh 83 = .ok (.getfield 164, 3) := by decide +kernel
theorem dX9_weigh_86 : decode cX9_weigh 86 = .ok (.iload_n 2, 1) := by decide +kernel
theorem dX9_weigh_87 : decode cX9_weigh 87 = .ok (.iastore, 1) := by decide +kernel
theorem dX9_weigh_88 : decode cX9_weigh 88 = .ok (.aload_n 0, 1) := by decide +kernel
theorem dX9_weigh_89 : decode cX9_weigh 89 = .ok (.getfield 28, 3) := by decide +kernel
theorem dX9_weigh_92 : decode cX9_weigh 92 = .ok (.aload_n 0, 1) := by decide +kernel
theorem dX9_weigh_93 : decode cX9_weigh 93 = .ok (.getfield 164, 3) := by decide +kernel
theorem dX9_weigh_96 : decode cX9_weigh 96 = .ok (.iload_n 3, 1) := by decide +kernel
theorem dX9_weigh_97 : decode cX9_weigh 97 = .ok (.iastore, 1) := by decide +kernel
theorem dX9_weigh_98 : decode cX9_weigh 98 = .ok (.aload_n 0, 1) := by decide +kernel
theorem dX9_weigh_99 : decode cX9_weigh 99 = .ok (.dup, 1) := by decide +kernel
theorem dX9_weigh_100 : decode cX9_weigh 100 = .ok (.getfield 164, 3) := by decide +kernel
theorem dX9_weigh_103 : decode cX9_weigh 103 = .ok (.iconst 1, 1) := by decide +kernel
theorem dX9_weigh_104 : decode cX9_weigh 104 = .ok (.iadd, 1) := by decide +kernel
theorem dX9_weigh_105 : decode cX9_weigh 105 = .ok (.putfield 164, 3) := by decide +kernel
theorem dX9_weigh_108 : decode cX9_weigh 108 = .ok (.aload_n 0, 1) := by decide +kernel
theorem dX9_weigh_109 : decode cX9_weigh 109 = .ok (.getfield 164, 3) := by decide +kernel
theorem dX9_weigh_112 : decode cX9_weigh 112 = .ok (.ireturn, 1) := by decide +kernel
theorem dX9_unweigh_0 : decode cX9_unweigh 0 = .ok (.aload_n 0, 1) := by decide +kernel
theorem dX9_unweigh_1 : decode cX9_unweigh 1 = .ok (.getfield 164, 3) := by decide +kernel
theorem dX9_unweigh_4 : decode cX9_unweigh 4 = .ok (.istore_n 1, 1) := by decide +kernel
theorem dX9_unweigh_5 : decode cX9_unweigh 5 = .ok (.aload_n 0, 1) := by decide +kernel
theorem dX9_unweigh_6 : decode cX9_unweigh 6 = .ok (.iconst 0, 1) := by decide +kernel
theorem dX9_unweigh_7 : decode cX9_unweigh 7 = .ok (.putfield 164, 3) := by decide +kernel
theorem dX9_unweigh_10 : decode cX9_unweigh 10 = .ok (.iload_n 1, 1) := by decide +kernel
theorem dX9_unweigh_11 : decode cX9_unweigh 11 = .ok (.ireturn, 1) := by decide +kernel
theorem dX9_mayBe_0 : decode cX9_mayBe 0 = .ok (.iconst 0, 1) := by decide +kernel
theorem dX9_mayBe_1 : decode cX9_mayBe 1 = .ok (.istore_n 2, 1) := by decide +kernel
theorem dX9_mayBe_2 : decode cX9_mayBe 2 = .ok (.iconst 0, 1) := by decide +kernel
theorem dX9_mayBe_3 : decode cX9_mayBe 3 = .ok (.istore_n 3, 1) := by decide +kernel
theorem dX9_mayBe_4 : decode cX9_mayBe 4 = .ok (.iload_n 3, 1) := by decide +kernel
theorem dX9_mayBe_5 : decode cX9_mayBe 5 = .ok (.bipush 9, 2) := by decide +kernel
theorem dX9_mayBe_7 : decode cX9_mayBe 7 = .ok (.if_icmp .ge 140, 3) := by decide +kernel
theorem dX9_mayBe_10 : decode cX9_mayBe 10 = .ok (.iconst 1, 1) := by decide +kernel
theorem dX9_mayBe_11 : decode cX9_mayBe 11 = .ok (.istore 4, 2) := by decide +kernel
theorem dX9_mayBe_13 : decode cX9_mayBe 13 = .ok (.iconst 0, 1) := by decide +kernel
theorem dX9_mayBe_14 : decode cX9_mayBe 14 = .ok (.istore 5, 2) := by decide +kernel
theorem dX9_mayBe_16 : decode cX9_mayBe 16 = .ok (.iload 5, 2) := by decide +kernel
theorem dX9_mayBe_18 : decode cX9_mayBe 18 = .ok (.aload_n 0, 1) := by decide +kernel
theorem dX9_mayBe_19 : decode cX9_mayBe 19 = .ok (.getfield 164, 3) := by decide +kernel
theorem dX9_mayBe_22 : decode cX9_mayBe 22 = .ok (.if_icmp .ge 104, 3) := by decide +kernel
theorem dX9_mayBe_25 : decode cX9_mayBe 25 = .ok (.aload_n 0, 1) := by decide +kernel
theorem dX9_mayBe_26 : decode cX9_mayBe 26 = .ok (.getfield 22, 3) := by decide +kernel
theorem dX9_mayBe_29 : decode cX9_mayBe 29 = .ok (.iload 5, 2) := by decide +kernel
theorem dX9_mayBe_31 : decode cX9_mayBe 31 = .ok (.iaload, 1) := by decide +kernel
theorem dX9_mayBe_32 : decode cX9_mayBe 32 = .ok (.iload_n 3, 1) := by decide +kernel
theorem dX9_mayBe_33 : decode cX9_mayBe 33 = .ok (.ishr, 1) := by decide +kernel
theorem dX9_mayBe_34 : decode cX9_mayBe 34 = .ok (.iconst 1, 1) := by decide +kernel
theorem dX9_mayBe_35 : decode cX9_mayBe 35 = .ok (.iand, 1) := by decide +kernel
theorem dX9_mayBe_36 : decode cX9_mayBe 36 = .ok (.iconst 1, 1) := by decide +kernel
theorem dX9_mayBe_37 : decode cX9_mayBe 37 = .ok (.if_icmp .ne 7, 3) := by decide +kernel
theorem dX9_mayBe_40 : decode cX9_mayBe 40 = .ok (.iconst 1, 1) := by decide +kernel
theorem dX9_mayBe_41 : decode cX9_mayBe 41 = .ok (.goto 4, 3) := by decide +kernel
theorem dX9_mayBe_44 : decode cX9_mayBe 44 = .ok (.iconst 0, 1) := by decide +kernel
theorem dX9_mayBe_45 : decode cX9_mayBe 45 = .ok (.istore 6, 2) := by decide +kernel
theorem dX9_mayBe_47 : decode cX9_mayBe 47 = .ok (.aload_n 0, 1) := by decide +kernel
theorem dX9_mayBe_48 : decode cX9_mayBe 48 = .ok (.getfield 25, 3) := by decide +kernel
theorem dX9_mayBe_51 : decode cX9_mayBe 51 = .ok (.iload 5, 2) := by decide +kernel
theorem dX9_mayBe_53 : decode cX9_mayBe 53 = .ok (.iaload, 1) := by decide +kernel
theorem dX9_mayBe_54 : decode cX9_mayBe 54 = .ok (.iload_n 3, 1) := by decide +kernel
theorem dX9_mayBe_55 : decode cX9_mayBe 55 = .ok (.ishr, 1) := by decide +kernel
theorem dX9_mayBe_56 : decode cX9_mayBe 56 = .ok (.iconst 1, 1) := by decide +kernel
theorem dX9_mayBe_57 : decode cX9_mayBe 57 = .ok (.iand, 1) := by decide +kernel
theorem dX9_mayBe_58 : decode cX9_mayBe 58 = .ok (.iconst 1, 1) := by decide +kernel
theorem dX9_mayBe_59 : decode cX9_mayBe 59 = .ok (.if_icmp .ne 7, 3) := by decide +kernel
theorem dX9_mayBe_62 : decode cX9_mayBe 62 = .ok (.iconst 1, 1) := by decide +kernel
theorem dX9_mayBe_63 : decode cX9_mayBe 63 = .ok (.goto 4, 3) := by decide +kernel
theorem dX9_mayBe_66 : decode cX9_mayBe 66 = .ok (.iconst 0, 1) := by decide +kernel
theorem dX9_mayBe_67 : decode cX9_mayBe 67 = .ok (.istore 7, 2) := by decide +kernel
theorem dX9_mayBe_69 : decode cX9_mayBe 69 = .ok (.iload 6, 2) := by decide +kernel
theorem dX9_mayBe_71 : decode cX9_mayBe 71 = .ok (.ifCond .ne 12, 3) := by decide +kernel
theorem dX9_mayBe_74 : decode cX9_mayBe 74 = .ok (.iload 7, 2) := by decide +kernel
theorem dX9_mayBe_76 : decode cX9_mayBe 76 = .ok (.ifCond .ne 7, 3) := by decide +kernel
theorem dX9_mayBe_79 : decode cX9_mayBe 79 = .ok (.iconst 0, 1) := by decide +kernel
theorem dX9_mayBe_80 : decode cX9_mayBe 80 = .ok (.goto 14, 3) := by decide +kernel
theorem dX9_mayBe_83 : decode cX9_mayBe 83 = .ok (.iload 6, 2) := by decide +kernel
theorem dX9_mayBe_85 : decode cX9_mayBe 85 = .ok (.iload_n 1, 1) := by decide +kernel
theorem dX9_mayBe_86 : decode cX9_mayBe 86 = .ok (.if_icmp .ne 7, 3) := by decide +kernel
theorem dX9_mayBe_89 : decode cX9_mayBe 89 = .ok (.iconst 1, 1) := by decide +kernel
theorem dX9_mayBe_90 : decode cX9_mayBe 90 = .ok (.goto 4, 3) := by decide +kernel
theorem dX9_mayBe_93 : decode cX9_mayBe 93 = .ok (.iconst 2, 1) := by decide +kernel
theorem dX9_mayBe_94 : decode cX9_mayBe 94 = .ok (.istore 8, 2) := by decide +kernel
theorem dX9_mayBe_96 : decode cX9_mayBe 96 = .ok (.iload 4, 2) := by decide +kernel
theorem dX9_mayBe_98 : decode cX9_mayBe 98 = .ok (.ifCond .eq 19, 3) := by decide +kernel
theorem dX9_mayBe_101 : decode cX9_mayBe 101 = .ok (.iload 8, 2) := by decide +kernel
theorem dX9_mayBe_103 : decode cX9_mayBe 103 = .ok (.aload_n 0, 1) := by decide +kernel
theorem dX9_mayBe_104 : decode cX9_mayBe 104 = .ok (.getfield 28, 3) := by decide +kernel
theorem dX9_mayBe_107 : decode cX9_mayBe 107 = .ok (.iload 5, 2) := by decide +kernel
theorem dX9_mayBe_109 : decode cX9_mayBe 109 = .ok (.iaload, 1) := by decide +kernel
theorem dX9_mayBe_110 : decode cX9_mayBe 110 = .ok (.if_icmp .ne 7, 3) := by decide +kernel
theorem dX9_mayBe_113 : decode cX9_mayBe 113 = .ok (.iconst 1, 1) := by decide +kernel
theorem dX9_mayBe_114 : decode cX9_mayBe 114 = .ok (.goto 4, 3) := by decide +kernel
theorem dX9_mayBe_117 : decode cX9_mayBe 117 = .ok (.iconst 0, 1) := by decide +kernel
theorem dX9_mayBe_118 : decode cX9_mayBe 118 = .ok (.istore 4, 2) := by decide +kernel
theorem dX9_mayBe_120 : decode cX9_mayBe 120 = .ok (.iinc 5 1, 3) := by decide +kernel
theorem dX9_mayBe_123 : decode cX9_mayBe 123 = .ok (.goto (-107), 3) := by decide +kernel
theorem dX9_mayBe_126 : decode cX9_mayBe 126 = .ok (.iload_n 2, 1) := by decide +kernel
theorem dX9_mayBe_127 : decode cX9_mayBe 127 = .ok (.iload 4, 2) := by decide +kernel
theorem dX9_mayBe_129 : decode cX9_mayBe 129 = .ok (.ifCond .eq 9, 3) := by decide +kernel
theorem dX9_mayBe_132 : decode cX9_mayBe 132 = .ok (.iconst 1, 1) := by decide +kernel
theorem dX9_mayBe_133 : decode cX9_mayBe 133 = .ok (.iload_n 3, 1) := by decide +kernel
theorem dX9_mayBe_134 : decode cX9_mayBe 134 = .ok (.ishl, 1) := by decide +kernel
theorem dX9_mayBe_135 : decode cX9_mayBe 135 = .ok (.goto 4, 3) := by decide +kernel
theorem dX9_mayBe_138 : decode cX9_mayBe 138 = .ok (.iconst 0, 1) := by decide +kernel
theorem dX9_mayBe_139 : decode cX9_mayBe 139 = .ok (.ior, 1) := by decide +kernel
theorem dX9_mayBe_140 : decode cX9_mayBe 140 = .ok (.istore_n 2, 1) := by decide +kernel
theorem dX9_mayBe_141 : decode cX9_mayBe 141 = .ok (.iinc 3 1, 3) := by decide +kernel
theorem dX9_mayBe_144 : decode cX9_mayBe 144 = .ok (.goto (-140), 3) := by decide +kernel
theorem dX9_mayBe_147 : decode cX9_mayBe 147 = .ok (.iload_n 2, 1) := by decide +kernel
theorem dX9_mayBe_148 : decode cX9_mayBe 148 = .ok (.ireturn, 1) := by decide +kernel
set_option maxRecDepth 20000 in
theorem ggX9_search_X9_in : GoodIn wsX9_search wsX9_in := goodIn_r _ [9] (by decide +kernel) (by decide +kernel)
set_option maxRecDepth 20000 in
theorem gX9_search_X9_in : GoodIn wsX9_search (va_wsS RX9 69 yX9_in wsX9_in) := goodIn_app (goodIn_of _ (by decide +kernel)) ggX9_search_X9_in
theorem dX9_search_0 : decode cX9_search 0 = .ok (.iload_n 1, 1) := by decide +kernel
theorem dX9_search_1 : decode cX9_search 1 = .ok (.i2l, 1) := by decide +kernel
theorem dX9_search_2 : decode cX9_search 2 = .ok (.lconst 1, 1) := by decide +kernel
theorem dX9_search_3 : decode cX9_search 3 = .ok (.ldc2_w 167, 3) := by decide +kernel
theorem dX9_search_6 : decode cX9_search 6 = .ok (.invokestatic 69, 3) := by decide +kernel
theorem dX9_search_9 : decode cX9_search 9 = .ok (.ifCond .eq 15, 3) := by decide +kernel
theorem dX9_search_12 : decode cX9_search 12 = .ok (.iload_n 2, 1) := by decide +kernel
theorem dX9_search_13 : decode cX9_search 13 = .ok (.i2l, 1) := by decide +kernel
theorem dX9_search_14 : decode cX9_search 14 = .ok (.lconst 0, 1) := by decide +kernel
theorem dX9_search_15 : decode cX9_search 15 = .ok (.ldc2_w 169, 3) := by decide +kernel
theorem dX9_search_18 : decode cX9_search 18 = .ok (.invokestatic 69, 3) := by decide +kernel
theorem dX9_search_21 : decode cX9_search 21 = .ok (.ifCond .ne 6, 3) := by decide +kernel
theorem dX9_search_24 : decode cX9_search 24 = .ok (.bipush (-2), 2) := by decide +kernel
theorem dX9_search_26 : decode cX9_search 26 = .ok (.ireturn, 1) := by decide +kernel
theorem dX9_search_27 : decode cX9_search 27 = .ok (.aload_n 0, 1) := by decide +kernel
theorem dX9_search_28 : decode cX9_search 28 = .ok (.getfield 171, 3) := by decide +kernel
theorem dX9_search_31 : decode cX9_search 31 = .ok (.bipush 8, 2) := by decide +kernel
theorem dX9_search_33 : decode cX9_search 33 = .ok (.if_icmp .ne 6, 3) := by decide +kernel
theorem dX9_search_36 : decode cX9_search 36 = .ok (.bipush (-4), 2) := by decide +kernel
theorem dX9_search_38 : decode cX9_search 38 = .ok (.ireturn, 1) := by decide +kernel
theorem dX9_search_39 : decode cX9_search 39 = .ok (.aload_n 0, 1) := by decide +kernel
theorem dX9_search_40 : decode cX9_search 40 = .ok (.getfield 31, 3) := by decide +kernel
theorem dX9_search_43 : decode cX9_search 43 = .ok (.aload_n 0, 1) := by decide +kernel
theorem dX9_search_44 : decode cX9_search 44 = .ok (.getfield 171, 3) := by decide +kernel
theorem dX9_search_47 : decode cX9_search 47 = .ok (.iload_n 1, 1) := by decide +kernel
theorem dX9_search_48 : decode cX9_search 48 = .ok (.iastore, 1) := by decide +kernel
theorem dX9_search_49 : decode cX9_search 49 = .ok (.aload_n 0, 1) := by decide +kernel
theorem dX9_search_50 : decode cX9_search 50 = .ok (.getfield 34, 3) := by decide +kernel
theorem dX9_search_53 : decode cX9_search 53 = .ok (.aload_n 0, 1) := by decide +kernel
theorem dX9_search_54 : decode cX9_search 54 = .ok (.getfield 171, 3) := by decide +kernel
theorem dX9_search_57 : decode cX9_search 57 = .ok (.iload_n 2, 1) := by decide +kernel
theorem dX9_search_58 : decode cX9_search 58 = .ok (.iastore, 1) := by decide +kernel
theorem dX9_search_59 : decode cX9_search 59 = .ok (.aload_n 0, 1) := by decide +kernel
theorem dX9_search_60 : decode cX9_search 60 = .ok (.dup, 1) := by decide +kernel
theorem dX9_search_61 : decode cX9_search 61 = .ok (.getfield 171, 3) := by decide +kernel
theorem dX9_search_64 : decode cX9_search 64 = .ok (.iconst 1, 1) := by decide +kernel
theorem dX9_search_65 : decode cX9_search 65 = .ok (.iadd, 1) := by decide +kernel
theorem dX9_search_66 : decode cX9_search 66 = .ok (.putfield 171, 3) := by decide +kernel
theorem dX9_search_69 : decode cX9_search 69 = .ok (.aload_n 0, 1) := by decide +kernel
theorem dX9_search_70 : decode cX9_search 70 = .ok (.getfield 171, 3) := by decide +kernel
theorem dX9_search_73 : decode cX9_search 73 = .ok (.ireturn, 1) := by decide +kernel
theorem dX9_unsearch_0 : decode cX9_unsearch 0 = .ok (.aload_n 0, 1) := by decide +kernel
theorem dX9_unsearch_1 : decode cX9_unsearch 1 = .ok (.getfield 171, 3) := by decide +kernel
theorem dX9_unsearch_4 : decode cX9_unsearch 4 = .ok (.istore_n 1, 1) := by decide +kernel
theorem dX9_unsearch_5 : decode cX9_unsearch 5 = .ok (.aload_n 0, 1) := by decide +kernel
theorem dX9_unsearch_6 : decode cX9_unsearch 6 = .ok (.iconst 0, 1) := by decide +kernel
theorem dX9_unsearch_7 : decode cX9_unsearch 7 = .ok (.putfield 171, 3) := by decide +kernel
theorem dX9_unsearch_10 : decode cX9_unsearch 10 = .ok (.iload_n 1, 1) := by decide +kernel
theorem dX9_unsearch_11 : decode cX9_unsearch 11 = .ok (.ireturn, 1) := by decide +kernel
theorem dX9_tenTo_0 : decode cX9_tenTo 0 = .ok (.iconst 1, 1) := by decide +kernel
theorem dX9_tenTo_1 : decode cX9_tenTo 1 = .ok (.istore_n 1, 1) := by decide +kernel
theorem dX9_tenTo_2 : decode cX9_tenTo 2 = .ok (.iconst 0, 1) := by decide +kernel
theorem dX9_tenTo_3 : decode cX9_tenTo 3 = .ok (.istore_n 2, 1) := by decide +kernel
theorem dX9_tenTo_4 : decode cX9_tenTo 4 = .ok (.iload_n 2, 1) := by decide +kernel
theorem dX9_tenTo_5 : decode cX9_tenTo 5 = .ok (.iload_n 0, 1) := by decide +kernel
theorem dX9_tenTo_6 : decode cX9_tenTo 6 = .ok (.if_icmp .ge 14, 3) := by decide +kernel
theorem dX9_tenTo_9 : decode cX9_tenTo 9 = .ok (.iload_n 1, 1) := by decide +kernel
theorem dX9_tenTo_10 : decode cX9_tenTo 10 = .ok (.bipush 10, 2) := by decide +kernel
theorem dX9_tenTo_12 : decode cX9_tenTo 12 = .ok (.imul, 1) := by decide +kernel
theorem dX9_tenTo_13 : decode cX9_tenTo 13 = .ok (.istore_n 1, 1) := by decide +kernel
theorem dX9_tenTo_14 : decode cX9_tenTo 14 = .ok (.iinc 2 1, 3) := by decide +kernel
theorem dX9_tenTo_17 : decode cX9_tenTo 17 = .ok (.goto (-13), 3) := by decide +kernel
theorem dX9_tenTo_20 : decode cX9_tenTo 20 = .ok (.iload_n 1, 1) := by decide +kernel
theorem dX9_tenTo_21 : decode cX9_tenTo 21 = .ok (.ireturn, 1) := by decide +kernel
theorem dX9_fits_0 : decode cX9_fits 0 = .ok (.iconst 1, 1) := by decide +kernel
theorem dX9_fits_1 : decode cX9_fits 1 = .ok (.istore_n 2, 1) := by decide +kernel
theorem dX9_fits_2 : decode cX9_fits 2 = .ok (.iconst 0, 1) := by decide +kernel
theorem dX9_fits_3 : decode cX9_fits 3 = .ok (.istore_n 3, 1) := by decide +kernel
theorem dX9_fits_4 : decode cX9_fits 4 = .ok (.iload_n 3, 1) := by decide +kernel
theorem dX9_fits_5 : decode cX9_fits 5 = .ok (.aload_n 0, 1) := by decide +kernel
theorem dX9_fits_6 : decode cX9_fits 6 = .ok (.getfield 171, 3) := by decide +kernel
theorem dX9_fits_9 : decode cX9_fits 9 = .ok (.if_icmp .ge 80, 3) := by decide +kernel
theorem dX9_fits_12 : decode cX9_fits 12 = .ok (.iload_n 2, 1) := by decide +kernel
theorem dX9_fits_13 : decode cX9_fits 13 = .ok (.ifCond .eq 76, 3) := by decide +kernel
theorem dX9_fits_16 : decode cX9_fits 16 = .ok (.iconst 0, 1) := by decide +kernel
theorem dX9_fits_17 : decode cX9_fits 17 = .ok (.istore 4, 2) := by decide +kernel
theorem dX9_fits_19 : decode cX9_fits 19 = .ok (.iload_n 1, 1) := by decide +kernel
theorem dX9_fits_20 : decode cX9_fits 20 = .ok (.istore 5, 2) := by decide +kernel
theorem dX9_fits_22 : decode cX9_fits 22 = .ok (.iconst 0, 1) := by decide +kernel
theorem dX9_fits_23 : decode cX9_fits 23 = .ok (.istore 6, 2) := by decide +kernel
theorem dX9_fits_25 : decode cX9_fits 25 = .ok (.iload 6, 2) := by decide +kernel
theorem dX9_fits_27 : decode cX9_fits 27 = .ok (.iconst 5, 1) := by decide +kernel
theorem dX9_fits_28 : decode cX9_fits 28 = .ok (.if_icmp .ge 38, 3) := by decide +kernel
theorem dX9_fits_31 : decode cX9_fits 31 = .ok (.iload 4, 2) := by decide +kernel
theorem dX9_fits_33 : decode cX9_fits 33 = .ok (.aload_n 0, 1) := by decide +kernel
theorem dX9_fits_34 : decode cX9_fits 34 = .ok (.getfield 31, 3) := by decide +kernel
theorem dX9_fits_37 : decode cX9_fits 37 = .ok (.iload_n 3, 1) := by decide +kernel
theorem dX9_fits_38 : decode cX9_fits 38 = .ok (.iaload, 1) := by decide +kernel
theorem dX9_fits_39 : decode cX9_fits 39 = .ok (.iload 6, 2) := by decide +kernel
theorem dX9_fits_41 : decode cX9_fits 41 = .ok (.ishr, 1) := by decide +kernel
theorem dX9_fits_42 : decode cX9_fits 42 = .ok (.iconst 1, 1) := by decide +kernel
theorem dX9_fits_43 : decode cX9_fits 43 = .ok (.iand, 1) := by decide +kernel
theorem dX9_fits_44 : decode cX9_fits 44 = .ok (.iload 5, 2) := by decide +kernel
theorem dX9_fits_46 : decode cX9_fits 46 = .ok (.bipush 10, 2) := by decide +kernel
theorem dX9_fits_48 : decode cX9_fits 48 = .ok (.irem, 1) := by decide +kernel
theorem dX9_fits_49 : decode cX9_fits 49 = .ok (.imul, 1) := by decide +kernel
theorem dX9_fits_50 : decode cX9_fits 50 = .ok (.iadd, 1) := by decide +kernel
theorem dX9_fits_51 : decode cX9_fits 51 = .ok (.istore 4, 2) := by decide +kernel
theorem dX9_fits_53 : decode cX9_fits 53 = .ok (.iload 5, 2) := by decide +kernel
theorem dX9_fits_55 : decode cX9_fits 55 = .ok (.bipush 10, 2) := by decide +kernel
theorem dX9_fits_57 : decode cX9_fits 57 = .ok (.idiv, 1) := by decide +kernel
theorem dX9_fits_58 : decode cX9_fits 58 = .ok (.istore 5, 2) := by decide +kernel
theorem dX9_fits_60 : decode cX9_fits 60 = .ok (.iinc 6 1, 3) := by decide +kernel
theorem dX9_fits_63 : decode cX9_fits 63 = .ok (.goto (-38), 3) := by decide +kernel
theorem dX9_fits_66 : decode cX9_fits 66 = .ok (.iload 4, 2) := by decide +kernel
theorem dX9_fits_68 : decode cX9_fits 68 = .ok (.aload_n 0, 1) := by decide +kernel
theorem dX9_fits_69 : decode cX9_fits 69 = .ok (.getfield 34, 3) := by decide +kernel
theorem dX9_fits_72 : decode cX9_fits 72 = .ok (.iload_n 3, 1) := by decide +kernel
theorem dX9_fits_73 : decode cX9_fits 73 = .ok (.iaload, 1) := by decide +kernel
theorem dX9_fits_74 : decode cX9_fits 74 = .ok (.if_icmp .ne 7, 3) := by decide +kernel
theorem dX9_fits_77 : decode cX9_fits 77 = .ok (.iconst 1, 1) := by decide +kernel
theorem dX9_fits_78 : decode cX9_fits 78 = .ok (.goto 4, 3) := by decide +kernel
theorem dX9_fits_81 : decode cX9_fits 81 = .ok (.iconst 0, 1) := by decide +kernel
theorem dX9_fits_82 : decode cX9_fits 82 = .ok (.istore_n 2, 1) := by decide +kernel
theorem dX9_fits_83 : decode cX9_fits 83 = .ok (.iinc 3 1, 3) := by decide +kernel
theorem dX9_fits_86 : decode cX9_fits 86 = .ok (.goto (-82), 3) := by decide +kernel
theorem dX9_fits_89 : decode cX9_fits 89 = .ok (.iload_n 2, 1) := by decide +kernel
theorem dX9_fits_90 : decode cX9_fits 90 = .ok (.ireturn, 1) := by decide +kernel
set_option maxRecDepth 20000 in
theorem ggX9_layRows_X9_fits : GoodIn wsX9_layRows wsX9_fits := goodIn_r _ [8, 9, 10, 11, 15, 16, 17, 18, 19, 20, 21, 22, 23, 24, 25, 26, 27, 28, 29, 30, 31, 32, 33, 34, 35, 36, 37, 38, 39, 40, 41, 42, 43, 44, 45, 46, 47, 48] (by decide +kernel) (by decide +kernel)
set_option maxRecDepth 20000 in
theorem gX9_layRows_X9_fits : GoodIn wsX9_layRows (wsV RX9 175 RX9 yX9_fits wsX9_fits) := goodIn_app (goodIn_of _ (by decide +kernel)) ggX9_layRows_X9_fits
set_option maxRecDepth 20000 in
theorem ggX9_layRows_X9_tenTo : GoodIn wsX9_layRows wsX9_tenTo := goodIn_r _ [14] (by decide +kernel) (by decide +kernel)
set_option maxRecDepth 20000 in
theorem gX9_layRows_X9_tenTo : GoodIn wsX9_layRows (va_wsS RX9 178 yX9_tenTo wsX9_tenTo) := goodIn_app (goodIn_of _ (by decide +kernel)) ggX9_layRows_X9_tenTo
theorem dX9_layRows_0 : decode cX9_layRows 0 = .ok (.iconst 0, 1) := by decide +kernel
theorem dX9_layRows_1 : decode cX9_layRows 1 = .ok (.istore_n 1, 1) := by decide +kernel
theorem dX9_layRows_2 : decode cX9_layRows 2 = .ok (.iconst 0, 1) := by decide +kernel
theorem dX9_layRows_3 : decode cX9_layRows 3 = .ok (.istore_n 2, 1) := by decide +kernel
theorem dX9_layRows_4 : decode cX9_layRows 4 = .ok (.iload_n 2, 1) := by decide +kernel
theorem dX9_layRows_5 : decode cX9_layRows 5 = .ok (.iconst 5, 1) := by decide +kernel
theorem dX9_layRows_6 : decode cX9_layRows 6 = .ok (.if_icmp .ge 24, 3) := by decide +kernel
theorem dX9_layRows_9 : decode cX9_layRows 9 = .ok (.aload_n 0, 1) := by decide +kernel
theorem dX9_layRows_10 : decode cX9_layRows 10 = .ok (.getfield 37, 3) := by decide +kernel
theorem dX9_layRows_13 : decode cX9_layRows 13 = .ok (.iload_n 2, 1) := by decide +kernel
theorem dX9_layRows_14 : decode cX9_layRows 14 = .ok (.bipush 9, 2) := by decide +kernel
theorem dX9_layRows_16 : decode cX9_layRows 16 = .ok (.iastore, 1) := by decide +kernel
theorem dX9_layRows_17 : decode cX9_layRows 17 = .ok (.aload_n 0, 1) := by decide +kernel
theorem dX9_layRows_18 : decode cX9_layRows 18 = .ok (.getfield 40, 3) := by decide +kernel
theorem dX9_layRows_21 : decode cX9_layRows 21 = .ok (.iload_n 2, 1) := by decide +kernel
theorem dX9_layRows_22 : decode cX9_layRows 22 = .ok (.iconst 0, 1) := by decide +kernel
theorem dX9_layRows_23 : decode cX9_layRows 23 = .ok (.iastore, 1) := by decide +kernel
theorem dX9_layRows_24 : decode cX9_layRows 24 = .ok (.iinc 2 1, 3) := by decide +kernel
theorem dX9_layRows_27 : decode cX9_layRows 27 = .ok (.goto (-23), 3) := by decide +kernel
theorem dX9_layRows_30 : decode cX9_layRows 30 = .ok (.iconst 0, 1) := by decide +kernel
theorem dX9_layRows_31 : decode cX9_layRows 31 = .ok (.istore_n 2, 1) := by decide +kernel
theorem dX9_layRows_32 : decode cX9_layRows 32 = .ok (.iload_n 2, 1) := by decide +kernel
theorem dX9_layRows_33 : decode cX9_layRows 33 = .ok (.ldc 174, 2) := by decide +kernel
theorem dX9_layRows_35 : decode cX9_layRows 35 = .ok (.if_icmp .ge 100, 3) := by decide +kernel
theorem dX9_layRows_38 : decode cX9_layRows 38 = .ok (.aload_n 0, 1) := by decide +kernel
theorem dX9_layRows_39 : decode cX9_layRows 39 = .ok (.iload_n 2, 1) := by decide +kernel
theorem dX9_layRows_40 : decode cX9_layRows 40 = .ok (.invokevirtual 175, 3) := by decide +kernel
theorem dX9_layRows_43 : decode cX9_layRows 43 = .ok (.ifCond .eq 86, 3) := by decide +kernel
theorem dX9_layRows_46 : decode cX9_layRows 46 = .ok (.iinc 1 1, 3) := by decide +kernel
theorem dX9_layRows_49 : decode cX9_layRows 49 = .ok (.iconst 0, 1) := by decide +kernel
theorem dX9_layRows_50 : decode cX9_layRows 50 = .ok (.istore_n 3, 1) := by decide +kernel
theorem dX9_layRows_51 : decode cX9_layRows 51 = .ok (.iload_n 3, 1) := by decide +kernel
theorem dX9_layRows_52 : decode cX9_layRows 52 = .ok (.iconst 5, 1) := by decide +kernel
theorem dX9_layRows_53 : decode cX9_layRows 53 = .ok (.if_icmp .ge 76, 3) := by decide +kernel
theorem dX9_layRows_56 : decode cX9_layRows 56 = .ok (.iload_n 2, 1) := by decide +kernel
theorem dX9_layRows_57 : decode cX9_layRows 57 = .ok (.iload_n 3, 1) := by decide +kernel
theorem dX9_layRows_58 : decode cX9_layRows 58 = .ok (.invokestatic 178, 3) := by decide +kernel
theorem dX9_layRows_61 : decode cX9_layRows 61 = .ok (.idiv, 1) := by decide +kernel
theorem dX9_layRows_62 : decode cX9_layRows 62 = .ok (.bipush 10, 2) := by decide +kernel
theorem dX9_layRows_64 : decode cX9_layRows 64 = .ok (.irem, 1) := by decide +kernel
theorem dX9_layRows_65 : decode cX9_layRows 65 = .ok (.istore 4, 2) := by decide +kernel
theorem dX9_layRows_67 : decode cX9_layRows 67 = .ok (.aload_n 0, 1) := by decide +kernel
theorem dX9_layRows_68 : decode cX9_layRows 68 = .ok (.getfield 37, 3) := by decide +kernel
theorem dX9_layRows_71 : decode cX9_layRows 71 = .ok (.iload_n 3, 1) := by decide +kernel
theorem dX9_layRows_72 : decode cX9_layRows 72 = .ok (.iload 4, 2) := by decide +kernel
theorem dX9_layRows_74 : decode cX9_layRows 74 = .ok (.aload_n 0, 1) := by decide +kernel
theorem dX9_layRows_75 : decode cX9_layRows 75 = .ok (.getfield 37, 3) := by decide +kernel
theorem dX9_layRows_78 : decode cX9_layRows 78 = .ok (.iload_n 3, 1) := by decide +kernel
theorem dX9_layRows_79 : decode cX9_layRows 79 = .ok (.iaload, 1) := by decide +kernel
theorem dX9_layRows_80 : decode cX9_layRows 80 = .ok (.if_icmp .ge 8, 3) := by decide +kernel
theorem dX9_layRows_83 : decode cX9_layRows 83 = .ok (.iload 4, 2) := by decide +kernel
theorem dX9_layRows_85 : decode cX9_layRows 85 = .ok (.goto 9, 3) := by decide +kernel
theorem dX9_layRows_88 : decode cX9_layRows 88 = .ok (.aload_n 0, 1) := by decide +kernel
theorem dX9_layRows_89 : decode cX9_layRows 89 = .ok (.getfield 37, 3) := by decide +kernel
theorem dX9_layRows_92 : decode cX9_layRows 92 = .ok (.iload_n 3, 1) := by decide +kernel
theorem dX9_layRows_93 : decode cX9_layRows 93 = .ok (.iaload, 1) := by decide +kernel
theorem dX9_layRows_94 : decode cX9_layRows 94 = .ok (.iastore, 1) := by decide +kernel
theorem dX9_layRows_95 : decode cX9_layRows 95 = .ok (.aload_n 0, 1) := by decide +kernel
theorem dX9_layRows_96 : decode cX9_layRows 96 = .ok (.getfield 40, 3) := by decide +kernel
theorem dX9_layRows_99 : decode cX9_layRows 99 = .ok (.iload_n 3, 1) := by decide +kernel
theorem dX9_layRows_100 : decode cX9_layRows 100 = .ok (.iload 4, 2) := by decide +kernel
theorem dX9_layRows_102 : decode cX9_layRows 102 = .ok (.aload_n 0, 1) := by decide +kernel
theorem dX9_layRows_103 : decode cX9_layRows 103 = .ok (.getfield 40, 3) := by decide +kernel
theorem dX9_layRows_106 : decode cX9_layRows 106 = .ok (.iload_n 3, 1) := by decide +kernel
theorem dX9_layRows_107 : decode cX9_layRows 107 = .ok (.iaload, 1) := by decide +kernel
theorem dX9_layRows_108 : decode cX9_layRows 108 = .ok (.if_icmp .le 8, 3) := by decide +kernel
theorem dX9_layRows_111 : decode cX9_layRows 111 = .ok (.iload 4, 2) := by decide +kernel
theorem dX9_layRows_113 : decode cX9_layRows 113 = .ok (.goto 9, 3) := by decide +kernel
theorem dX9_layRows_116 : decode cX9_layRows 116 = .ok (.aload_n 0, 1) := by decide +kernel
theorem dX9_layRows_117 : decode cX9_layRows 117 = .ok (.getfield 40, 3) := by decide +kernel
theorem dX9_layRows_120 : decode cX9_layRows 120 = .ok (.iload_n 3, 1) := by decide +kernel
theorem dX9_layRows_121 : decode cX9_layRows 121 = .ok (.iaload, 1) := by decide +kernel
theorem dX9_layRows_122 : decode cX9_layRows 122 = .ok (.iastore, 1) := by decide +kernel
theorem dX9_layRows_123 : decode cX9_layRows 123 = .ok (.iinc 3 1, 3) := by decide +kernel
theorem dX9_layRows_126 : decode cX9_layRows 126 = .ok (.goto (-75), 3) := by decide +kernel
theorem dX9_layRows_129 : decode cX9_layRows 129 = .ok (.iinc 2 1, 3) := by decide +kernel
theorem dX9_layRows_132 : decode cX9_layRows 132 = .ok (.goto (-100), 3) := by decide +kernel
theorem dX9_layRows_135 : decode cX9_layRows 135 = .ok (.iload_n 1, 1) := by decide +kernel
theorem dX9_layRows_136 : decode cX9_layRows 136 = .ok (.ireturn, 1) := by decide +kernel
set_option maxRecDepth 20000 in
theorem ggX9_rows_X9_layRows : GoodIn wsX9_rows wsX9_layRows := goodIn_r _ [5, 6, 7, 8, 9, 10, 11, 4, 12, 13, 14, 15, 16, 17, 18, 19, 20, 21, 22, 23, 24, 25, 26, 27, 28, 29, 30, 31, 32, 33, 34, 35, 36, 37, 38, 39, 40, 41, 42, 43, 44, 45, 46, 47, 48, 49, 50, 51, 52] (by decide +kernel) (by decide +kernel)
set_option maxRecDepth 20000 in
theorem gX9_rows_X9_layRows : GoodIn wsX9_rows (wsV RX9 181 RX9 yX9_layRows wsX9_layRows) := goodIn_app (goodIn_of _ (by decide +kernel)) ggX9_rows_X9_layRows
theorem dX9_rows_0 : decode cX9_rows 0 = .ok (.aload_n 0, 1) := by decide +kernel
theorem dX9_rows_1 : decode cX9_rows 1 = .ok (.invokevirtual 181, 3) := by decide +kernel
theorem dX9_rows_4 : decode cX9_rows 4 = .ok (.ireturn, 1) := by decide +kernel
set_option maxRecDepth 20000 in
theorem ggX9_stones_X9_in : GoodIn wsX9_stones wsX9_in := goodIn_r _ [7] (by decide +kernel) (by decide +kernel)
set_option maxRecDepth 20000 in
theorem gX9_stones_X9_in : GoodIn wsX9_stones (va_wsS RX9 69 yX9_in wsX9_in) := goodIn_app (goodIn_of _ (by decide +kernel)) ggX9_stones_X9_in
set_option maxRecDepth 20000 in
theorem ggX9_stones_X9_layRows : GoodIn wsX9_stones wsX9_layRows := goodIn_r _ [11, 3, 2, 12, 13, 14, 15, 6, 16, 17, 18, 19, 20, 21, 22, 23, 24, 25, 26, 27, 28, 29, 30, 31, 32, 33, 34, 35, 36, 37, 38, 39, 40, 41, 42, 43, 44, 45, 46, 47, 48, 49, 50, 51, 52, 53, 54, 55, 56] (by decide +kernel) (by decide +kernel)
set_option maxRecDepth 20000 in
theorem gX9_stones_X9_layRows : GoodIn wsX9_stones (wsV RX9 181 RX9 yX9_layRows wsX9_layRows) := goodIn_app (goodIn_of _ (by decide +kernel)) ggX9_stones_X9_layRows
theorem dX9_stones_0 : decode cX9_stones 0 = .ok (.iload_n 1, 1) := by decide +kernel
theorem dX9_stones_1 : decode cX9_stones 1 = .ok (.i2l, 1) := by decide +kernel
theorem dX9_stones_2 : decode cX9_stones 2 = .ok (.lconst 0, 1) := by decide +kernel
theorem dX9_stones_3 : decode cX9_stones 3 = .ok (.ldc2_w 184, 3) := by decide +kernel
theorem dX9_stones_6 : decode cX9_stones 6 = .ok (.invokestatic 69, 3) := by decide +kernel
theorem dX9_stones_9 : decode cX9_stones 9 = .ok (.ifCond .ne 6, 3) := by decide +kernel
theorem dX9_stones_12 : decode cX9_stones 12 = .ok (.bipush (-2), 2) := by decide +kernel
theorem dX9_stones_14 : decode cX9_stones 14 = .ok (.ireturn, 1) := by decide +kernel
theorem dX9_stones_15 : decode cX9_stones 15 = .ok (.aload_n 0, 1) := by decide +kernel
theorem dX9_stones_16 : decode cX9_stones 16 = .ok (.invokevirtual 181, 3) := by decide +kernel
theorem dX9_stones_19 : decode cX9_stones 19 = .ok (.ifCond .ne 8, 3) := by decide +kernel
theorem dX9_stones_22 : decode cX9_stones 22 = .ok (.bipush (-9), 2) := by decide +kernel
theorem dX9_stones_24 : decode cX9_stones 24 = .ok (.goto 22, 3) := by decide +kernel
theorem dX9_stones_27 : decode cX9_stones 27 = .ok (.iload_n 2, 1) := by decide +kernel
theorem dX9_stones_28 : decode cX9_stones 28 = .ok (.ifCond .eq 12, 3) := by decide +kernel
theorem dX9_stones_31 : decode cX9_stones 31 = .ok (.aload_n 0, 1) := by decide +kernel
theorem dX9_stones_32 : decode cX9_stones 32 = .ok (.getfield 40, 3) := by decide +kernel
theorem dX9_stones_35 : decode cX9_stones 35 = .ok (.iload_n 1, 1) := by decide +kernel
theorem dX9_stones_36 : decode cX9_stones 36 = .ok (.iaload, 1) := by decide +kernel
theorem dX9_stones_37 : decode cX9_stones 37 = .ok (.goto 9, 3) := by decide +kernel
theorem dX9_stones_40 : decode cX9_stones 40 = .ok (.aload_n 0, 1) := by decide +kernel
theorem dX9_stones_41 : decode cX9_stones 41 = .ok (.getfield 37, 3) := by decide +kernel
theorem dX9_stones_44 : decode cX9_stones 44 = .ok (.iload_n 1, 1) := by decide +kernel
theorem dX9_stones_45 : decode cX9_stones 45 = .ok (.iaload, 1) := by decide +kernel
theorem dX9_stones_46 : decode cX9_stones 46 = .ok (.ireturn, 1) := by decide +kernel
set_option maxRecDepth 20000 in
theorem ggX9_ruled_X9_isPerson : GoodIn wsX9_ruled wsX9_isPerson := goodIn_r _ [7, 8, 9, 10, 6, 11, 12, 13, 14, 15, 16, 17, 18, 19, 20, 21, 22, 23, 24, 25, 26, 27, 28, 29, 30, 31, 32, 33, 34, 35, 36, 37, 38, 39, 40, 41, 42, 43, 44, 45] (by decide +kernel) (by decide +kernel)
set_option maxRecDepth 20000 in
theorem gX9_ruled_X9_isPerson : GoodIn wsX9_ruled (wsV RX9 116 RX9 yX9_isPerson wsX9_isPerson) := goodIn_app (goodIn_of _ (by decide +kernel)) ggX9_ruled_X9_isPerson
theorem dX9_ruled_0 : decode cX9_ruled 0 = .ok (.aload_n 0, 1) := by decide +kernel
theorem dX9_ruled_1 : decode cX9_ruled 1 = .ok (.iload_n 1, 1) := by decide +kernel
theorem dX9_ruled_2 : decode cX9_ruled 2 = .ok (.invokevirtual 116, 3) := by decide +kernel
theorem dX9_ruled_5 : decode cX9_ruled 5 = .ok (.ifCond .ne 5, 3) := by decide +kernel
theorem dX9_ruled_8 : decode cX9_ruled 8 = .ok (.iconst (-1), 1) := by decide +kernel
theorem dX9_ruled_9 : decode cX9_ruled 9 = .ok (.ireturn, 1) := by decide +kernel
theorem dX9_ruled_10 : decode cX9_ruled 10 = .ok (.aload_n 0, 1) := by decide +kernel
theorem dX9_ruled_11 : decode cX9_ruled 11 = .ok (.getfield 186, 3) := by decide +kernel
theorem dX9_ruled_14 : decode cX9_ruled 14 = .ok (.iconst 4, 1) := by decide +kernel
theorem dX9_ruled_15 : decode cX9_ruled 15 = .ok (.if_icmp .ne 6, 3) := by decide +kernel
theorem dX9_ruled_18 : decode cX9_ruled 18 = .ok (.bipush (-4), 2) := by decide +kernel
theorem dX9_ruled_20 : decode cX9_ruled 20 = .ok (.ireturn, 1) := by decide +kernel
theorem dX9_ruled_21 : decode cX9_ruled 21 = .ok (.aload_n 0, 1) := by decide +kernel
theorem dX9_ruled_22 : decode cX9_ruled 22 = .ok (.getfield 43, 3) := by decide +kernel
theorem dX9_ruled_25 : decode cX9_ruled 25 = .ok (.aload_n 0, 1) := by decide +kernel
theorem dX9_ruled_26 : decode cX9_ruled 26 = .ok (.getfield 186, 3) := by decide +kernel
theorem dX9_ruled_29 : decode cX9_ruled 29 = .ok (.iload_n 1, 1) := by decide +kernel
theorem dX9_ruled_30 : decode cX9_ruled 30 = .ok (.iastore, 1) := by decide +kernel
theorem dX9_ruled_31 : decode cX9_ruled 31 = .ok (.aload_n 0, 1) := by decide +kernel
theorem dX9_ruled_32 : decode cX9_ruled 32 = .ok (.dup, 1) := by decide +kernel
theorem dX9_ruled_33 : decode cX9_ruled 33 = .ok (.getfield 186, 3) := by decide +kernel
theorem dX9_ruled_36 : decode cX9_ruled 36 = .ok (.iconst 1, 1) := by decide +kernel
theorem dX9_ruled_37 : decode cX9_ruled 37 = .ok (.iadd, 1) := by decide +kernel
theorem dX9_ruled_38 : decode cX9_ruled 38 = .ok (.putfield 186, 3) := by decide +kernel
theorem dX9_ruled_41 : decode cX9_ruled 41 = .ok (.aload_n 0, 1) := by decide +kernel
theorem dX9_ruled_42 : decode cX9_ruled 42 = .ok (.getfield 186, 3) := by decide +kernel
theorem dX9_ruled_45 : decode cX9_ruled 45 = .ok (.ireturn, 1) := by decide +kernel
theorem dX9_unrule_0 : decode cX9_unrule 0 = .ok (.aload_n 0, 1) := by decide +kernel
theorem dX9_unrule_1 : decode cX9_unrule 1 = .ok (.getfield 186, 3) := by decide +kernel
theorem dX9_unrule_4 : decode cX9_unrule 4 = .ok (.istore_n 1, 1) := by decide +kernel
theorem dX9_unrule_5 : decode cX9_unrule 5 = .ok (.aload_n 0, 1) := by decide +kernel
theorem dX9_unrule_6 : decode cX9_unrule 6 = .ok (.iconst 0, 1) := by decide +kernel
theorem dX9_unrule_7 : decode cX9_unrule 7 = .ok (.putfield 186, 3) := by decide +kernel
theorem dX9_unrule_10 : decode cX9_unrule 10 = .ok (.iload_n 1, 1) := by decide +kernel
theorem dX9_unrule_11 : decode cX9_unrule 11 = .ok (.ireturn, 1) := by decide +kernel
theorem dX9_ate_0 : decode cX9_ate 0 = .ok (.iload_n 1, 1) := by decide +kernel
theorem dX9_ate_1 : decode cX9_ate 1 = .ok (.ifCond .ne 10, 3) := by decide +kernel
theorem dX9_ate_4 : decode cX9_ate 4 = .ok (.iload_n 0, 1) := by decide +kernel
theorem dX9_ate_5 : decode cX9_ate 5 = .ok (.bipush 13, 2) := by decide +kernel
theorem dX9_ate_7 : decode cX9_ate 7 = .ok (.irem, 1) := by decide +kernel
theorem dX9_ate_8 : decode cX9_ate 8 = .ok (.goto 23, 3) := by decide +kernel
theorem dX9_ate_11 : decode cX9_ate 11 = .ok (.iload_n 1, 1) := by decide +kernel
theorem dX9_ate_12 : decode cX9_ate 12 = .ok (.iconst 1, 1) := by decide +kernel
theorem dX9_ate_13 : decode cX9_ate 13 = .ok (.if_icmp .ne 13, 3) := by decide +kernel
theorem dX9_ate_16 : decode cX9_ate 16 = .ok (.iload_n 0, 1) := by decide +kernel
theorem dX9_ate_17 : decode cX9_ate 17 = .ok (.bipush 13, 2) := by decide +kernel
theorem dX9_ate_19 : decode cX9_ate 19 = .ok (.idiv, 1) := by decide +kernel
theorem dX9_ate_20 : decode cX9_ate 20 = .ok (.bipush 13, 2) := by decide +kernel
theorem dX9_ate_22 : decode cX9_ate 22 = .ok (.irem, 1) := by decide +kernel
theorem dX9_ate_23 : decode cX9_ate 23 = .ok (.goto 8, 3) := by decide +kernel
theorem dX9_ate_26 : decode cX9_ate 26 = .ok (.iload_n 0, 1) := by decide +kernel
theorem dX9_ate_27 : decode cX9_ate 27 = .ok (.sipush 169, 3) := by decide +kernel
theorem dX9_ate_30 : decode cX9_ate 30 = .ok (.idiv, 1) := by decide +kernel
theorem dX9_ate_31 : decode cX9_ate 31 = .ok (.ireturn, 1) := by decide +kernel
set_option maxRecDepth 20000 in
theorem ggX9_isRuler_X9_noonOf : GoodIn wsX9_isRuler wsX9_noonOf := goodIn_r _ [6, 7, 14, 15, 16, 17, 18, 19, 20, 21, 22, 23, 24, 25, 26, 27, 28, 29, 30, 31, 32, 33, 34, 35, 36, 37, 38, 39, 40, 41, 42, 43, 44, 45, 46, 47] (by decide +kernel) (by decide +kernel)
set_option maxRecDepth 20000 in
theorem gX9_isRuler_X9_noonOf : GoodIn wsX9_isRuler (wsV RX9 120 RX9 yX9_noonOf wsX9_noonOf) := goodIn_app (goodIn_of _ (by decide +kernel)) ggX9_isRuler_X9_noonOf
set_option maxRecDepth 20000 in
theorem ggX9_isRuler_X9_ate : GoodIn wsX9_isRuler wsX9_ate := goodIn_r _ [10] (by decide +kernel) (by decide +kernel)
set_option maxRecDepth 20000 in
theorem gX9_isRuler_X9_ate : GoodIn wsX9_isRuler (va_wsS RX9 189 yX9_ate wsX9_ate) := goodIn_app (goodIn_of _ (by decide +kernel)) ggX9_isRuler_X9_ate
set_option maxRecDepth 20000 in
theorem ggX9_isRuler_X9_isLighter : GoodIn wsX9_isRuler wsX9_isLighter := goodIn_r _ [13] (by decide +kernel) (by decide +kernel)
set_option maxRecDepth 20000 in
theorem gX9_isRuler_X9_isLighter : GoodIn wsX9_isRuler (va_wsS RX9 140 yX9_isLighter wsX9_isLighter) := goodIn_app (goodIn_of _ (by decide +kernel)) ggX9_isRuler_X9_isLighter
theorem dX9_isRuler_0 : decode cX9_isRuler 0 = .ok (.iload_n 2, 1) := by decide +kernel
theorem dX9_isRuler_1 : decode cX9_isRuler 1 = .ok (.aload_n 0, 1) := by decide +kernel
theorem dX9_isRuler_2 : decode cX9_isRuler 2 = .ok (.getfield 104, 3) := by decide +kernel
theorem dX9_isRuler_5 : decode cX9_isRuler 5 = .ok (.if_icmp .ge 7, 3) := by decide +kernel
theorem dX9_isRuler_8 : decode cX9_isRuler 8 = .ok (.iconst 1, 1) := by decide +kernel
theorem dX9_isRuler_9 : decode cX9_isRuler 9 = .ok (.goto 4, 3) := by decide +kernel
theorem dX9_isRuler_12 : decode cX9_isRuler 12 = .ok (.iconst 0, 1) := by decide +kernel
theorem dX9_isRuler_13 : decode cX9_isRuler 13 = .ok (.istore_n 3, 1) := by decide +kernel
theorem dX9_isRuler_14 : decode cX9_isRuler 14 = .ok (.iconst 0, 1) := by decide +kernel
theorem dX9_isRuler_15 : decode cX9_isRuler 15 = .ok (.istore 4, 2) := by decide +kernel
theorem dX9_isRuler_17 : decode cX9_isRuler 17 = .ok (.iload 4, 2) := by decide +kernel
theorem dX9_isRuler_19 : decode cX9_isRuler 19 = .ok (.aload_n 0, 1) := by decide +kernel
theorem dX9_isRuler_20 : decode cX9_isRuler 20 = .ok (.getfield 104, 3) := by decide +kernel
theorem dX9_isRuler_23 : decode cX9_isRuler 23 = .ok (.if_icmp .ge 64, 3) := by decide +kernel
theorem dX9_isRuler_26 : decode cX9_isRuler 26 = .ok (.iload_n 3, 1) := by decide +kernel
theorem dX9_isRuler_27 : decode cX9_isRuler 27 = .ok (.ifCond .eq 60, 3) := by decide +kernel
theorem dX9_isRuler_30 : decode cX9_isRuler 30 = .ok (.iload 4, 2) := by decide +kernel
theorem dX9_isRuler_32 : decode cX9_isRuler 32 = .ok (.iload_n 2, 1) := by decide +kernel
theorem dX9_isRuler_33 : decode cX9_isRuler 33 = .ok (.if_icmp .eq 42, 3) := by decide +kernel
theorem dX9_isRuler_36 : decode cX9_isRuler 36 = .ok (.aload_n 0, 1) := by decide +kernel
theorem dX9_isRuler_37 : decode cX9_isRuler 37 = .ok (.iload_n 2, 1) := by decide +kernel
theorem dX9_isRuler_38 : decode cX9_isRuler 38 = .ok (.invokevirtual 120, 3) := by decide +kernel
theorem dX9_isRuler_41 : decode cX9_isRuler 41 = .ok (.bipush 8, 2) := by decide +kernel
theorem dX9_isRuler_43 : decode cX9_isRuler 43 = .ok (.iload_n 1, 1) := by decide +kernel
theorem dX9_isRuler_44 : decode cX9_isRuler 44 = .ok (.iload_n 2, 1) := by decide +kernel
theorem dX9_isRuler_45 : decode cX9_isRuler 45 = .ok (.invokestatic 189, 3) := by decide +kernel
theorem dX9_isRuler_48 : decode cX9_isRuler 48 = .ok (.imul, 1) := by decide +kernel
theorem dX9_isRuler_49 : decode cX9_isRuler 49 = .ok (.iadd, 1) := by decide +kernel
theorem dX9_isRuler_50 : decode cX9_isRuler 50 = .ok (.iload_n 2, 1) := by decide +kernel
theorem dX9_isRuler_51 : decode cX9_isRuler 51 = .ok (.aload_n 0, 1) := by decide +kernel
theorem dX9_isRuler_52 : decode cX9_isRuler 52 = .ok (.iload 4, 2) := by decide +kernel
theorem dX9_isRuler_54 : decode cX9_isRuler 54 = .ok (.invokevirtual 120, 3) := by decide +kernel
theorem dX9_isRuler_57 : decode cX9_isRuler 57 = .ok (.bipush 8, 2) := by decide +kernel
theorem dX9_isRuler_59 : decode cX9_isRuler 59 = .ok (.iload_n 1, 1) := by decide +kernel
theorem dX9_isRuler_60 : decode cX9_isRuler 60 = .ok (.iload 4, 2) := by decide +kernel
theorem dX9_isRuler_62 : decode cX9_isRuler 62 = .ok (.invokestatic 189, 3) := by decide +kernel
theorem dX9_isRuler_65 : decode cX9_isRuler 65 = .ok (.imul, 1) := by decide +kernel
theorem dX9_isRuler_66 : decode cX9_isRuler 66 = .ok (.iadd, 1) := by decide +kernel
theorem dX9_isRuler_67 : decode cX9_isRuler 67 = .ok (.iload 4, 2) := by decide +kernel
theorem dX9_isRuler_69 : decode cX9_isRuler 69 = .ok (.invokestatic 140, 3) := by decide +kernel
theorem dX9_isRuler_72 : decode cX9_isRuler 72 = .ok (.ifCond .eq 7, 3) := by decide +kernel
theorem dX9_isRuler_75 : decode cX9_isRuler 75 = .ok (.iconst 1, 1) := by decide +kernel
theorem dX9_isRuler_76 : decode cX9_isRuler 76 = .ok (.goto 4, 3) := by decide +kernel
theorem dX9_isRuler_79 : decode cX9_isRuler 79 = .ok (.iconst 0, 1) := by decide +kernel
theorem dX9_isRuler_80 : decode cX9_isRuler 80 = .ok (.istore_n 3, 1) := by decide +kernel
theorem dX9_isRuler_81 : decode cX9_isRuler 81 = .ok (.iinc 4 1, 3) := by decide +kernel
theorem dX9_isRuler_84 : decode cX9_isRuler 84 = .ok (.goto (-67), 3) := by decide +kernel
theorem dX9_isRuler_87 : decode cX9_isRuler 87 = .ok (.iload_n 3, 1) := by decide +kernel
theorem dX9_isRuler_88 : decode cX9_isRuler 88 = .ok (.ireturn, 1) := by decide +kernel
set_option maxRecDepth 20000 in
theorem ggX9_goMonth_X9_isRuler : GoodIn wsX9_goMonth wsX9_isRuler := goodIn_r _ [8, 3, 9, 10, 11, 7, 12, 13, 14, 15, 16, 17, 18, 19, 20, 21, 22, 23, 24, 25, 26, 27, 28, 29, 30, 31, 32, 33, 34, 35, 36, 37, 38, 39, 40, 41, 42, 43, 44, 45, 46, 47, 48, 49, 50, 51, 52, 53] (by decide +kernel) (by decide +kernel)
set_option maxRecDepth 20000 in
theorem gX9_goMonth_X9_isRuler : GoodIn wsX9_goMonth (wsV RX9 192 RX9 yX9_isRuler wsX9_isRuler) := goodIn_app (goodIn_of _ (by decide +kernel)) ggX9_goMonth_X9_isRuler
theorem dX9_goMonth_0 : decode cX9_goMonth 0 = .ok (.iconst 0, 1) := by decide +kernel
theorem dX9_goMonth_1 : decode cX9_goMonth 1 = .ok (.istore_n 2, 1) := by decide +kernel
theorem dX9_goMonth_2 : decode cX9_goMonth 2 = .ok (.iload_n 2, 1) := by decide +kernel
theorem dX9_goMonth_3 : decode cX9_goMonth 3 = .ok (.sipush 2197, 3) := by decide +kernel
theorem dX9_goMonth_6 : decode cX9_goMonth 6 = .ok (.if_icmp .ge 16, 3) := by decide +kernel
theorem dX9_goMonth_9 : decode cX9_goMonth 9 = .ok (.aload_n 0, 1) := by decide +kernel
theorem dX9_goMonth_10 : decode cX9_goMonth 10 = .ok (.getfield 50, 3) := by decide +kernel
theorem dX9_goMonth_13 : decode cX9_goMonth 13 = .ok (.iload_n 2, 1) := by decide +kernel
theorem dX9_goMonth_14 : decode cX9_goMonth 14 = .ok (.lconst 0, 1) := by decide +kernel
theorem dX9_goMonth_15 : decode cX9_goMonth 15 = .ok (.lastore, 1) := by decide +kernel
theorem dX9_goMonth_16 : decode cX9_goMonth 16 = .ok (.iinc 2 1, 3) := by decide +kernel
theorem dX9_goMonth_19 : decode cX9_goMonth 19 = .ok (.goto (-17), 3) := by decide +kernel
theorem dX9_goMonth_22 : decode cX9_goMonth 22 = .ok (.iconst 0, 1) := by decide +kernel
theorem dX9_goMonth_23 : decode cX9_goMonth 23 = .ok (.istore_n 2, 1) := by decide +kernel
theorem dX9_goMonth_24 : decode cX9_goMonth 24 = .ok (.iload_n 2, 1) := by decide +kernel
theorem dX9_goMonth_25 : decode cX9_goMonth 25 = .ok (.sipush 2197, 3) := by decide +kernel
theorem dX9_goMonth_28 : decode cX9_goMonth 28 = .ok (.if_icmp .ge 141, 3) := by decide +kernel
theorem dX9_goMonth_31 : decode cX9_goMonth 31 = .ok (.iconst 0, 1) := by decide +kernel
theorem dX9_goMonth_32 : decode cX9_goMonth 32 = .ok (.istore_n 3, 1) := by decide +kernel
theorem dX9_goMonth_33 : decode cX9_goMonth 33 = .ok (.iload_n 3, 1) := by decide +kernel
theorem dX9_goMonth_34 : decode cX9_goMonth 34 = .ok (.bipush 64, 2) := by decide +kernel
theorem dX9_goMonth_36 : decode cX9_goMonth 36 = .ok (.if_icmp .ge 127, 3) := by decide +kernel
theorem dX9_goMonth_39 : decode cX9_goMonth 39 = .ok (.aload_n 0, 1) := by decide +kernel
theorem dX9_goMonth_40 : decode cX9_goMonth 40 = .ok (.getfield 46, 3) := by decide +kernel
theorem dX9_goMonth_43 : decode cX9_goMonth 43 = .ok (.iload_n 2, 1) := by decide +kernel
theorem dX9_goMonth_44 : decode cX9_goMonth 44 = .ok (.laload, 1) := by decide +kernel
theorem dX9_goMonth_45 : decode cX9_goMonth 45 = .ok (.lconst 0, 1) := by decide +kernel
theorem dX9_goMonth_46 : decode cX9_goMonth 46 = .ok (.lcmp, 1) := by decide +kernel
theorem dX9_goMonth_47 : decode cX9_goMonth 47 = .ok (.ifCond .le 116, 3) := by decide +kernel
theorem dX9_goMonth_50 : decode cX9_goMonth 50 = .ok (.iload_n 3, 1) := by decide +kernel
theorem dX9_goMonth_51 : decode cX9_goMonth 51 = .ok (.aload_n 0, 1) := by decide +kernel
theorem dX9_goMonth_52 : decode cX9_goMonth 52 = .ok (.getfield 104, 3) := by decide +kernel
theorem dX9_goMonth_55 : decode cX9_goMonth 55 = .ok (.iconst 1, 1) := by decide +kernel
theorem dX9_goMonth_56 : decode cX9_goMonth 56 = .ok (.if_icmp .ne 7, 3) := by decide +kernel
theorem dX9_goMonth_59 : decode cX9_goMonth 59 = .ok (.iconst 4, 1) := by decide +kernel
theorem dX9_goMonth_60 : decode cX9_goMonth 60 = .ok (.goto 18, 3) := by decide +kernel
theorem dX9_goMonth_63 : decode cX9_goMonth 63 = .ok (.aload_n 0, 1) := by decide +kernel
theorem dX9_goMonth_64 : decode cX9_goMonth 64 = .ok (.getfield 104, 3) := by decide +kernel
theorem dX9_goMonth_67 : decode cX9_goMonth 67 = .ok (.iconst 2, 1) := by decide +kernel
theorem dX9_goMonth_68 : decode cX9_goMonth 68 = .ok (.if_icmp .ne 8, 3) := by decide +kernel
theorem dX9_goMonth_71 : decode cX9_goMonth 71 = .ok (.bipush 16, 2) := by decide +kernel
theorem dX9_goMonth_73 : decode cX9_goMonth 73 = .ok (.goto 5, 3) := by decide +kernel
theorem dX9_goMonth_76 : decode cX9_goMonth 76 = .ok (.bipush 64, 2) := by decide +kernel
theorem dX9_goMonth_78 : decode cX9_goMonth 78 = .ok (.if_icmp .ge 7, 3) := by decide +kernel
theorem dX9_goMonth_81 : decode cX9_goMonth 81 = .ok (.iconst 1, 1) := by decide +kernel
theorem dX9_goMonth_82 : decode cX9_goMonth 82 = .ok (.goto 4, 3) := by decide +kernel
theorem dX9_goMonth_85 : decode cX9_goMonth 85 = .ok (.iconst 0, 1) := by decide +kernel
theorem dX9_goMonth_86 : decode cX9_goMonth 86 = .ok (.istore 4, 2) := by decide +kernel
theorem dX9_goMonth_88 : decode cX9_goMonth 88 = .ok (.iload_n 2, 1) := by decide +kernel
theorem dX9_goMonth_89 : decode cX9_goMonth 89 = .ok (.iload_n 3, 1) := by decide +kernel
theorem dX9_goMonth_90 : decode cX9_goMonth 90 = .ok (.iconst 4, 1) := by decide +kernel
theorem dX9_goMonth_91 : decode cX9_goMonth 91 = .ok (.irem, 1) := by decide +kernel
theorem dX9_goMonth_92 : decode cX9_goMonth 92 = .ok (.iadd, 1) := by decide +kernel
theorem dX9_goMonth_93 : decode cX9_goMonth 93 = .ok (.bipush 13, 2) := by decide +kernel
theorem dX9_goMonth_95 : decode cX9_goMonth 95 = .ok (.iload_n 3, 1) := by decide +kernel
theorem dX9_goMonth_96 : decode cX9_goMonth 96 = .ok (.iconst 4, 1) := by decide +kernel
theorem dX9_goMonth_97 : decode cX9_goMonth 97 = .ok (.idiv, 1) := by decide +kernel
theorem dX9_goMonth_98 : decode cX9_goMonth 98 = .ok (.iconst 4, 1) := by decide +kernel
theorem dX9_goMonth_99 : decode cX9_goMonth 99 = .ok (.irem, 1) := by decide +kernel
theorem dX9_goMonth_100 : decode cX9_goMonth 100 = .ok (.imul, 1) := by decide +kernel
theorem dX9_goMonth_101 : decode cX9_goMonth 101 = .ok (.iadd, 1) := by decide +kernel
theorem dX9_goMonth_102 : decode cX9_goMonth 102 = .ok (.sipush 169, 3) := by decide +kernel
theorem dX9_goMonth_105 : decode cX9_goMonth 105 = .ok (.iload_n 3, 1) := by decide +kernel
theorem dX9_goMonth_106 : decode cX9_goMonth 106 = .ok (.bipush 16, 2) := by decide +kernel
theorem dX9_goMonth_108 : decode cX9_goMonth 108 = .ok (.idiv, 1) := by decide +kernel
theorem dX9_goMonth_109 : decode cX9_goMonth 109 = .ok (.imul, 1) := by decide +kernel
theorem dX9_goMonth_110 : decode cX9_goMonth 110 = .ok (.iadd, 1) := by decide +kernel
theorem dX9_goMonth_111 : decode cX9_goMonth 111 = .ok (.istore 5, 2) := by decide +kernel
theorem dX9_goMonth_113 : decode cX9_goMonth 113 = .ok (.aload_n 0, 1) := by decide +kernel
theorem dX9_goMonth_114 : decode cX9_goMonth 114 = .ok (.getfield 50, 3) := by decide +kernel
theorem dX9_goMonth_117 : decode cX9_goMonth 117 = .ok (.iload 4, 2) := by decide +kernel
theorem dX9_goMonth_119 : decode cX9_goMonth 119 = .ok (.ifCond .eq 8, 3) := by decide +kernel
theorem dX9_goMonth_122 : decode cX9_goMonth 122 = .ok (.iload 5, 2) := by decide +kernel
theorem dX9_goMonth_124 : decode cX9_goMonth 124 = .ok (.goto 4, 3) := by decide +kernel
theorem dX9_goMonth_127 : decode cX9_goMonth 127 = .ok (.iconst 0, 1) := by decide +kernel
theorem dX9_goMonth_128 : decode cX9_goMonth 128 = .ok (.dup2, 1) := by decide +kernel
theorem dX9_goMonth_129 : decode cX9_goMonth 129 = .ok (.laload, 1) := by decide +kernel
theorem dX9_goMonth_130 : decode cX9_goMonth 130 = .ok (.iload 4, 2) := by decide +kernel
theorem dX9_goMonth_132 : decode cX9_goMonth 132 = .ok (.ifCond .eq 22, 3) := by decide +kernel
theorem dX9_goMonth_135 : decode cX9_goMonth 135 = .ok (.aload_n 0, 1) := by decide +kernel
theorem dX9_goMonth_136 : decode cX9_goMonth 136 = .ok (.iload 5, 2) := by decide +kernel
theorem dX9_goMonth_138 : decode cX9_goMonth 138 = .ok (.iload_n 1, 1) := by decide +kernel
theorem dX9_goMonth_139 : decode cX9_goMonth 139 = .ok (.invokevirtual 192, 3) := by decide +kernel
theorem dX9_goMonth_142 : decode cX9_goMonth 142 = .ok (.ifCond .eq 12, 3) := by decide +kernel
theorem dX9_goMonth_145 : decode cX9_goMonth 145 = .ok (.aload_n 0, 1) := by decide +kernel
theorem dX9_goMonth_146 : decode cX9_goMonth 146 = .ok (.getfield 46, 3) := by decide +kernel
theorem dX9_goMonth_149 : decode cX9_goMonth 149 = .ok (.iload_n 2, 1) := by decide +kernel
theorem dX9_goMonth_150 : decode cX9_goMonth 150 = .ok (.laload, 1) := by decide +kernel
theorem dX9_goMonth_151 : decode cX9_goMonth 151 = .ok (.goto 4, 3) := by decide +kernel
theorem dX9_goMonth_154 : decode cX9_goMonth 154 = .ok (.lconst 0, 1) := by decide +kernel
theorem dX9_goMonth_155 : decode cX9_goMonth 155 = .ok (.ladd, 1) := by decide +kernel
theorem dX9_goMonth_156 : decode cX9_goMonth 156 = .ok (.lastore, 1) := by decide +kernel
theorem dX9_goMonth_157 : decode cX9_goMonth 157 = .ok (.iinc 3 1, 3) := by decide +kernel
theorem dX9_goMonth_160 : decode cX9_goMonth 160 = .ok (.goto (-127), 3) := by decide +kernel
theorem dX9_goMonth_163 : decode cX9_goMonth 163 = .ok (.iinc 2 1, 3) := by decide +kernel
theorem dX9_goMonth_166 : decode cX9_goMonth 166 = .ok (.goto (-142), 3) := by decide +kernel
theorem dX9_goMonth_169 : decode cX9_goMonth 169 = .ok (.iconst 0, 1) := by decide +kernel
theorem dX9_goMonth_170 : decode cX9_goMonth 170 = .ok (.istore_n 2, 1) := by decide +kernel
theorem dX9_goMonth_171 : decode cX9_goMonth 171 = .ok (.iload_n 2, 1) := by decide +kernel
theorem dX9_goMonth_172 : decode cX9_goMonth 172 = .ok (.sipush 2197, 3) := by decide +kernel
theorem dX9_goMonth_175 : decode cX9_goMonth 175 = .ok (.if_icmp .ge 21, 3) := by decide +kernel
theorem dX9_goMonth_178 : decode cX9_goMonth 178 = .ok (.aload_n 0, 1) := by decide +kernel
theorem dX9_goMonth_179 : decode cX9_goMonth 179 = .ok (.getfield 46, 3) := by decide +kernel
theorem dX9_goMonth_182 : decode cX9_goMonth 182 = .ok (.iload_n 2, 1) := by decide +kernel
theorem dX9_goMonth_183 : decode cX9_goMonth 183 = .ok (.aload_n 0, 1) := by decide +kernel
theorem dX9_goMonth_184 : decode cX9_goMonth 184 = .ok (.getfield 50, 3) := by decide +kernel
theorem dX9_goMonth_187 : decode cX9_goMonth 187 = .ok (.iload_n 2, 1) := by decide +kernel
theorem dX9_goMonth_188 : decode cX9_goMonth 188 = .ok (.laload, 1) := by decide +kernel
theorem dX9_goMonth_189 : decode cX9_goMonth 189 = .ok (.lastore, 1) := by decide +kernel
theorem dX9_goMonth_190 : decode cX9_goMonth 190 = .ok (.iinc 2 1, 3) := by decide +kernel
theorem dX9_goMonth_193 : decode cX9_goMonth 193 = .ok (.goto (-22), 3) := by decide +kernel
theorem dX9_goMonth_196 : decode cX9_goMonth 196 = .ok (.return_, 1) := by decide +kernel
set_option maxRecDepth 20000 in
theorem ggX9_line_X9_in : GoodIn wsX9_line wsX9_in := goodIn_r _ [10] (by decide +kernel) (by decide +kernel)
set_option maxRecDepth 20000 in
theorem gX9_line_X9_in : GoodIn wsX9_line (va_wsS RX9 69 yX9_in wsX9_in) := goodIn_app (goodIn_of _ (by decide +kernel)) ggX9_line_X9_in
set_option maxRecDepth 20000 in
theorem ggX9_line_X9_goMonth : GoodIn wsX9_line wsX9_goMonth := goodIn_r _ [14, 15, 4, 1, 16, 17, 18, 9, 19, 20, 21, 22, 23, 24, 25, 26, 27, 28, 29, 30, 31, 32, 33, 34, 35, 36, 37, 38, 39, 40, 41, 42, 43, 44, 45, 46, 47, 48, 49, 50, 51, 52, 53, 54, 55, 56, 57, 58, 59, 60, 61, 62, 63, 64] (by decide +kernel) (by decide +kernel)
set_option maxRecDepth 20000 in
theorem gX9_line_X9_goMonth : GoodIn wsX9_line (wsV RX9 200 RX9 yX9_goMonth wsX9_goMonth) := goodIn_app (goodIn_of _ (by decide +kernel)) ggX9_line_X9_goMonth
theorem dX9_line_0 : decode cX9_line 0 = .ok (.aload_n 0, 1) := by decide +kernel
theorem dX9_line_1 : decode cX9_line 1 = .ok (.getfield 104, 3) := by decide +kernel
theorem dX9_line_4 : decode cX9_line 4 = .ok (.i2l, 1) := by decide +kernel
theorem dX9_line_5 : decode cX9_line 5 = .ok (.lconst 1, 1) := by decide +kernel
theorem dX9_line_6 : decode cX9_line 6 = .ok (.ldc2_w 196, 3) := by decide +kernel
theorem dX9_line_9 : decode cX9_line 9 = .ok (.invokestatic 69, 3) := by decide +kernel
theorem dX9_line_12 : decode cX9_line 12 = .ok (.ifCond .ne 7, 3) := by decide +kernel
theorem dX9_line_15 : decode cX9_line 15 = .ok (.ldc2_w 198, 3) := by decide +kernel
theorem dX9_line_18 : decode cX9_line 18 = .ok (.lreturn, 1) := by decide +kernel
theorem dX9_line_19 : decode cX9_line 19 = .ok (.iconst 0, 1) := by decide +kernel
theorem dX9_line_20 : decode cX9_line 20 = .ok (.istore_n 1, 1) := by decide +kernel
theorem dX9_line_21 : decode cX9_line 21 = .ok (.iload_n 1, 1) := by decide +kernel
theorem dX9_line_22 : decode cX9_line 22 = .ok (.sipush 2197, 3) := by decide +kernel
theorem dX9_line_25 : decode cX9_line 25 = .ok (.if_icmp .ge 24, 3) := by decide +kernel
theorem dX9_line_28 : decode cX9_line 28 = .ok (.aload_n 0, 1) := by decide +kernel
theorem dX9_line_29 : decode cX9_line 29 = .ok (.getfield 46, 3) := by decide +kernel
theorem dX9_line_32 : decode cX9_line 32 = .ok (.iload_n 1, 1) := by decide +kernel
theorem dX9_line_33 : decode cX9_line 33 = .ok (.iload_n 1, 1) := by decide +kernel
theorem dX9_line_34 : decode cX9_line 34 = .ok (.ifCond .ne 7, 3) := by decide +kernel
theorem dX9_line_37 : decode cX9_line 37 = .ok (.lconst 1, 1) := by decide +kernel
theorem dX9_line_38 : decode cX9_line 38 = .ok (.goto 4, 3) := by decide +kernel
theorem dX9_line_41 : decode cX9_line 41 = .ok (.lconst 0, 1) := by decide +kernel
theorem dX9_line_42 : decode cX9_line 42 = .ok (.lastore, 1) := by decide +kernel
theorem dX9_line_43 : decode cX9_line 43 = .ok (.iinc 1 1, 3) := by decide +kernel
theorem dX9_line_46 : decode cX9_line 46 = .ok (.goto (-25), 3) := by decide +kernel
theorem dX9_line_49 : decode cX9_line 49 = .ok (.iconst 0, 1) := by decide +kernel
theorem dX9_line_50 : decode cX9_line 50 = .ok (.istore_n 1, 1) := by decide +kernel
theorem dX9_line_51 : decode cX9_line 51 = .ok (.iload_n 1, 1) := by decide +kernel
theorem dX9_line_52 : decode cX9_line 52 = .ok (.aload_n 0, 1) := by decide +kernel
theorem dX9_line_53 : decode cX9_line 53 = .ok (.getfield 186, 3) := by decide +kernel
theorem dX9_line_56 : decode cX9_line 56 = .ok (.if_icmp .ge 19, 3) := by decide +kernel
theorem dX9_line_59 : decode cX9_line 59 = .ok (.aload_n 0, 1) := by decide +kernel
theorem dX9_line_60 : decode cX9_line 60 = .ok (.aload_n 0, 1) := by decide +kernel
theorem dX9_line_61 : decode cX9_line 61 = .ok (.getfield 43, 3) := by decide +kernel
theorem dX9_line_64 : decode cX9_line 64 = .ok (.iload_n 1, 1) := by decide +kernel
theorem dX9_line_65 : decode cX9_line 65 = .ok (.iaload, 1) := by decide +kernel
theorem dX9_line_66 : decode cX9_line 66 = .ok (.invokevirtual 200, 3) := by decide +kernel
theorem dX9_line_69 : decode cX9_line 69 = .ok (.iinc 1 1, 3) := by decide +kernel
theorem dX9_line_72 : decode cX9_line 72 = .ok (.goto (-21), 3) := by decide +kernel
theorem dX9_line_75 : decode cX9_line 75 = .ok (.lconst 0, 1) := by decide +kernel
theorem dX9_line_76 : decode cX9_line 76 = .ok (.lstore_n 1, 1) := by decide +kernel
theorem dX9_line_77 : decode cX9_line 77 = .ok (.iconst 0, 1) := by decide +kernel
theorem dX9_line_78 : decode cX9_line 78 = .ok (.istore_n 3, 1) := by decide +kernel
theorem dX9_line_79 : decode cX9_line 79 = .ok (.iload_n 3, 1) := by decide +kernel
theorem dX9_line_80 : decode cX9_line 80 = .ok (.sipush 2197, 3) := by decide +kernel
theorem dX9_line_83 : decode cX9_line 83 = .ok (.if_icmp .ge 18, 3) := by decide +kernel
theorem dX9_line_86 : decode cX9_line 86 = .ok (.lload_n 1, 1) := by decide +kernel
theorem dX9_line_87 : decode cX9_line 87 = .ok (.aload_n 0, 1) := by decide +kernel
theorem dX9_line_88 : decode cX9_line 88 = .ok (.getfield 46, 3) := by decide +kernel
theorem dX9_line_91 : decode cX9_line 91 = .ok (.iload_n 3, 1) := by decide +kernel
theorem dX9_line_92 : decode cX9_line 92 = .ok (.laload, 1) := by decide +kernel
theorem dX9_line_93 : decode cX9_line 93 = .ok (.ladd, 1) := by decide +kernel
theorem dX9_line_94 : decode cX9_line 94 = .ok (.lstore_n 1, 1) := by decide +kernel
theorem dX9_line_95 : decode cX9_line 95 = .ok (.iinc 3 1, 3) := by decide +kernel
theorem dX9_line_98 : decode cX9_line 98 = .ok (.goto (-19), 3) := by decide +kernel
theorem dX9_line_101 : decode cX9_line 101 = .ok (.lload_n 1, 1) := by decide +kernel
theorem dX9_line_102 : decode cX9_line 102 = .ok (.lreturn, 1) := by decide +kernel
theorem dX9_seed_0 : decode cX9_seed 0 = .ok (.aload_n 0, 1) := by decide +kernel
theorem dX9_seed_1 : decode cX9_seed 1 = .ok (.getfield 204, 3) := by decide +kernel
theorem dX9_seed_4 : decode cX9_seed 4 = .ok (.lstore_n 3, 1) := by decide +kernel
theorem dX9_seed_5 : decode cX9_seed 5 = .ok (.aload_n 0, 1) := by decide +kernel
theorem dX9_seed_6 : decode cX9_seed 6 = .ok (.lload_n 1, 1) := by decide +kernel
theorem dX9_seed_7 : decode cX9_seed 7 = .ok (.putfield 204, 3) := by decide +kernel
theorem dX9_seed_10 : decode cX9_seed 10 = .ok (.lload_n 3, 1) := by decide +kernel
theorem dX9_seed_11 : decode cX9_seed 11 = .ok (.lreturn, 1) := by decide +kernel
set_option maxRecDepth 20000 in
theorem ggX9_reign_X9_isPerson : GoodIn wsX9_reign wsX9_isPerson := goodIn_r _ [13, 4, 14, 15, 12, 16, 36, 37, 38, 39, 40, 41, 42, 43, 44, 45, 46, 47, 48, 49, 50, 51, 52, 53, 54, 55, 56, 57, 58, 59, 60, 61, 62, 63, 64, 65, 66, 67, 68, 69] (by decide +kernel) (by decide +kernel)
set_option maxRecDepth 20000 in
theorem gX9_reign_X9_isPerson : GoodIn wsX9_reign (wsV RX9 116 RX9 yX9_isPerson wsX9_isPerson) := goodIn_app (goodIn_of _ (by decide +kernel)) ggX9_reign_X9_isPerson
set_option maxRecDepth 20000 in
theorem ggX9_reign_X9_in : GoodIn wsX9_reign wsX9_in := goodIn_r _ [16] (by decide +kernel) (by decide +kernel)
set_option maxRecDepth 20000 in
theorem gX9_reign_X9_in : GoodIn wsX9_reign (va_wsS RX9 69 yX9_in wsX9_in) := goodIn_app (goodIn_of _ (by decide +kernel)) ggX9_reign_X9_in
set_option maxRecDepth 20000 in
theorem ggX9_reign_X9_left : GoodIn wsX9_reign wsX9_left := goodIn_r _ [19] (by decide +kernel) (by decide +kernel)
set_option maxRecDepth 20000 in
theorem gX9_reign_X9_left : GoodIn wsX9_reign (va_wsS RX9 137 yX9_left wsX9_left) := goodIn_app (goodIn_of _ (by decide +kernel)) ggX9_reign_X9_left
set_option maxRecDepth 20000 in
theorem ggX9_reign_X9_crownBy : GoodIn wsX9_reign wsX9_crownBy := goodIn_r _ [23, 4, 24, 25, 26, 12, 27, 3, 28, 29, 30, 31, 32, 33, 34, 35, 36, 37, 38, 39, 40, 41, 42, 43, 44, 45, 46, 47, 48, 49, 50, 51, 52, 53, 54, 55, 56, 57, 58, 59, 60, 61, 62, 63, 64, 65, 66, 67, 68, 69] (by decide +kernel) (by decide +kernel)
set_option maxRecDepth 20000 in
theorem gX9_reign_X9_crownBy : GoodIn wsX9_reign (wsV RX9 144 RX9 yX9_crownBy wsX9_crownBy) := goodIn_app (goodIn_of _ (by decide +kernel)) ggX9_reign_X9_crownBy
theorem dX9_reign_0 : decode cX9_reign 0 = .ok (.aload_n 0, 1) := by decide +kernel
theorem dX9_reign_1 : decode cX9_reign 1 = .ok (.iload_n 1, 1) := by decide +kernel
theorem dX9_reign_2 : decode cX9_reign 2 = .ok (.invokevirtual 116, 3) := by decide +kernel
theorem dX9_reign_5 : decode cX9_reign 5 = .ok (.ifCond .ne 5, 3) := by decide +kernel
theorem dX9_reign_8 : decode cX9_reign 8 = .ok (.iconst (-1), 1) := by decide +kernel
theorem dX9_reign_9 : decode cX9_reign 9 = .ok (.ireturn, 1) := by decide +kernel
theorem dX9_reign_10 : decode cX9_reign 10 = .ok (.iload_n 2, 1) := by decide +kernel
theorem dX9_reign_11 : decode cX9_reign 11 = .ok (.i2l, 1) := by decide +kernel
theorem dX9_reign_12 : decode cX9_reign 12 = .ok (.lconst 0, 1) := by decide +kernel
theorem dX9_reign_13 : decode cX9_reign 13 = .ok (.ldc2_w 127, 3) := by decide +kernel
theorem dX9_reign_16 : decode cX9_reign 16 = .ok (.invokestatic 69, 3) := by decide +kernel
theorem dX9_reign_19 : decode cX9_reign 19 = .ok (.ifCond .ne 6, 3) := by decide +kernel
theorem dX9_reign_22 : decode cX9_reign 22 = .ok (.bipush (-2), 2) := by decide +kernel
theorem dX9_reign_24 : decode cX9_reign 24 = .ok (.ireturn, 1) := by decide +kernel
theorem dX9_reign_25 : decode cX9_reign 25 = .ok (.iconst 0, 1) := by decide +kernel
theorem dX9_reign_26 : decode cX9_reign 26 = .ok (.istore_n 3, 1) := by decide +kernel
theorem dX9_reign_27 : decode cX9_reign 27 = .ok (.iload_n 3, 1) := by decide +kernel
theorem dX9_reign_28 : decode cX9_reign 28 = .ok (.bipush 26, 2) := by decide +kernel
theorem dX9_reign_30 : decode cX9_reign 30 = .ok (.if_icmp .ge 21, 3) := by decide +kernel
theorem dX9_reign_33 : decode cX9_reign 33 = .ok (.aload_n 0, 1) := by decide +kernel
theorem dX9_reign_34 : decode cX9_reign 34 = .ok (.getfield 53, 3) := by decide +kernel
theorem dX9_reign_37 : decode cX9_reign 37 = .ok (.iload_n 3, 1) := by decide +kernel
theorem dX9_reign_38 : decode cX9_reign 38 = .ok (.aload_n 0, 1) := by decide +kernel
theorem dX9_reign_39 : decode cX9_reign 39 = .ok (.getfield 13, 3) := by decide +kernel
theorem dX9_reign_42 : decode cX9_reign 42 = .ok (.iload_n 3, 1) := by decide +kernel
theorem dX9_reign_43 : decode cX9_reign 43 = .ok (.iaload, 1) := by decide +kernel
theorem dX9_reign_44 : decode cX9_reign 44 = .ok (.iastore, 1) := by decide +kernel
theorem dX9_reign_45 : decode cX9_reign 45 = .ok (.iinc 3 1, 3) := by decide +kernel
theorem dX9_reign_48 : decode cX9_reign 48 = .ok (.goto (-21), 3) := by decide +kernel
theorem dX9_reign_51 : decode cX9_reign 51 = .ok (.iconst 0, 1) := by decide +kernel
theorem dX9_reign_52 : decode cX9_reign 52 = .ok (.istore_n 3, 1) := by decide +kernel
theorem dX9_reign_53 : decode cX9_reign 53 = .ok (.iconst 0, 1) := by decide +kernel
theorem dX9_reign_54 : decode cX9_reign 54 = .ok (.istore 4, 2) := by decide +kernel
theorem dX9_reign_56 : decode cX9_reign 56 = .ok (.iload 4, 2) := by decide +kernel
theorem dX9_reign_58 : decode cX9_reign 58 = .ok (.bipush 12, 2) := by decide +kernel
theorem dX9_reign_60 : decode cX9_reign 60 = .ok (.if_icmp .ge 102, 3) := by decide +kernel
theorem dX9_reign_63 : decode cX9_reign 63 = .ok (.iconst 0, 1) := by decide +kernel
theorem dX9_reign_64 : decode cX9_reign 64 = .ok (.istore 5, 2) := by decide +kernel
theorem dX9_reign_66 : decode cX9_reign 66 = .ok (.iload 5, 2) := by decide +kernel
theorem dX9_reign_68 : decode cX9_reign 68 = .ok (.aload_n 0, 1) := by decide +kernel
theorem dX9_reign_69 : decode cX9_reign 69 = .ok (.getfield 104, 3) := by decide +kernel
theorem dX9_reign_72 : decode cX9_reign 72 = .ok (.if_icmp .ge 67, 3) := by decide +kernel
theorem dX9_reign_75 : decode cX9_reign 75 = .ok (.aload_n 0, 1) := by decide +kernel
theorem dX9_reign_76 : decode cX9_reign 76 = .ok (.aload_n 0, 1) := by decide +kernel
theorem dX9_reign_77 : decode cX9_reign 77 = .ok (.getfield 204, 3) := by decide +kernel
theorem dX9_reign_80 : decode cX9_reign 80 = .ok (.ldc2_w 208, 3) := by decide +kernel
theorem dX9_reign_83 : decode cX9_reign 83 = .ok (.lmul, 1) := by decide +kernel
theorem dX9_reign_84 : decode cX9_reign 84 = .ok (.ldc2_w 210, 3) := by decide +kernel
theorem dX9_reign_87 : decode cX9_reign 87 = .ok (.ladd, 1) := by decide +kernel
theorem dX9_reign_88 : decode cX9_reign 88 = .ok (.putfield 204, 3) := by decide +kernel
theorem dX9_reign_91 : decode cX9_reign 91 = .ok (.aload_n 0, 1) := by decide +kernel
theorem dX9_reign_92 : decode cX9_reign 92 = .ok (.getfield 204, 3) := by decide +kernel
theorem dX9_reign_95 : decode cX9_reign 95 = .ok (.bipush 33, 2) := by decide +kernel
theorem dX9_reign_97 : decode cX9_reign 97 = .ok (.lushr, 1) := by decide +kernel
theorem dX9_reign_98 : decode cX9_reign 98 = .ok (.ldc2_w 212, 3) := by decide +kernel
theorem dX9_reign_101 : decode cX9_reign 101 = .ok (.lrem, 1) := by decide +kernel
theorem dX9_reign_102 : decode cX9_reign 102 = .ok (.l2i, 1) := by decide +kernel
theorem dX9_reign_103 : decode cX9_reign 103 = .ok (.iconst 3, 1) := by decide +kernel
theorem dX9_reign_104 : decode cX9_reign 104 = .ok (.isub, 1) := by decide +kernel
theorem dX9_reign_105 : decode cX9_reign 105 = .ok (.istore 6, 2) := by decide +kernel
theorem dX9_reign_107 : decode cX9_reign 107 = .ok (.aload_n 0, 1) := by decide +kernel
theorem dX9_reign_108 : decode cX9_reign 108 = .ok (.getfield 13, 3) := by decide +kernel
theorem dX9_reign_111 : decode cX9_reign 111 = .ok (.iconst 5, 1) := by decide +kernel
theorem dX9_reign_112 : decode cX9_reign 112 = .ok (.iload 5, 2) := by decide +kernel
theorem dX9_reign_114 : decode cX9_reign 114 = .ok (.imul, 1) := by decide +kernel
theorem dX9_reign_115 : decode cX9_reign 115 = .ok (.aload_n 0, 1) := by decide +kernel
theorem dX9_reign_116 : decode cX9_reign 116 = .ok (.getfield 13, 3) := by decide +kernel
theorem dX9_reign_119 : decode cX9_reign 119 = .ok (.iconst 5, 1) := by decide +kernel
theorem dX9_reign_120 : decode cX9_reign 120 = .ok (.iload 5, 2) := by decide +kernel
theorem dX9_reign_122 : decode cX9_reign 122 = .ok (.imul, 1) := by decide +kernel
theorem dX9_reign_123 : decode cX9_reign 123 = .ok (.iaload, 1) := by decide +kernel
theorem dX9_reign_124 : decode cX9_reign 124 = .ok (.iconst 5, 1) := by decide +kernel
theorem dX9_reign_125 : decode cX9_reign 125 = .ok (.iload 6, 2) := by decide +kernel
theorem dX9_reign_127 : decode cX9_reign 127 = .ok (.imul, 1) := by decide +kernel
theorem dX9_reign_128 : decode cX9_reign 128 = .ok (.iadd, 1) := by decide +kernel
theorem dX9_reign_129 : decode cX9_reign 129 = .ok (.invokestatic 137, 3) := by decide +kernel
theorem dX9_reign_132 : decode cX9_reign 132 = .ok (.iastore, 1) := by decide +kernel
theorem dX9_reign_133 : decode cX9_reign 133 = .ok (.iinc 5 1, 3) := by decide +kernel
theorem dX9_reign_136 : decode cX9_reign 136 = .ok (.goto (-70), 3) := by decide +kernel
theorem dX9_reign_139 : decode cX9_reign 139 = .ok (.iload_n 3, 1) := by decide +kernel
theorem dX9_reign_140 : decode cX9_reign 140 = .ok (.aload_n 0, 1) := by decide +kernel
theorem dX9_reign_141 : decode cX9_reign 141 = .ok (.iload_n 2, 1) := by decide +kernel
theorem dX9_reign_142 : decode cX9_reign 142 = .ok (.invokevirtual 144, 3) := by decide +kernel
theorem dX9_reign_145 : decode cX9_reign 145 = .ok (.iload_n 1, 1) := by decide +kernel
theorem dX9_reign_146 : decode cX9_reign 146 = .ok (.if_icmp .ne 7, 3) := by decide +kernel
theorem dX9_reign_149 : decode cX9_reign 149 = .ok (.iconst 1, 1) := by decide +kernel
theorem dX9_reign_150 : decode cX9_reign 150 = .ok (.goto 4, 3) := by decide +kernel
theorem dX9_reign_153 : decode cX9_reign 153 = .ok (.iconst 0, 1) := by decide +kernel
theorem dX9_reign_154 : decode cX9_reign 154 = .ok (.iadd, 1) := by decide +kernel
theorem dX9_reign_155 : decode cX9_reign 155 = .ok (.istore_n 3, 1) := by decide +kernel
theorem dX9_reign_156 : decode cX9_reign 156 = .ok (.iinc 4 1, 3) := by decide +kernel
theorem dX9_reign_159 : decode cX9_reign 159 = .ok (.goto (-103), 3) := by decide +kernel
theorem dX9_reign_162 : decode cX9_reign 162 = .ok (.iconst 0, 1) := by decide +kernel
theorem dX9_reign_163 : decode cX9_reign 163 = .ok (.istore 4, 2) := by decide +kernel
theorem dX9_reign_165 : decode cX9_reign 165 = .ok (.iload 4, 2) := by decide +kernel
theorem dX9_reign_167 : decode cX9_reign 167 = .ok (.bipush 26, 2) := by decide +kernel
theorem dX9_reign_169 : decode cX9_reign 169 = .ok (.if_icmp .ge 23, 3) := by decide +kernel
theorem dX9_reign_172 : decode cX9_reign 172 = .ok (.aload_n 0, 1) := by decide +kernel
theorem dX9_reign_173 : decode cX9_reign 173 = .ok (.getfield 13, 3) := by decide +kernel
theorem dX9_reign_176 : decode cX9_reign 176 = .ok (.iload 4, 2) := by decide +kernel
theorem dX9_reign_178 : decode cX9_reign 178 = .ok (.aload_n 0, 1) := by decide +kernel
theorem dX9_reign_179 : decode cX9_reign 179 = .ok (.getfield 53, 3) := by decide +kernel
theorem dX9_reign_182 : decode cX9_reign 182 = .ok (.iload 4, 2) := by decide +kernel
theorem dX9_reign_184 : decode cX9_reign 184 = .ok (.iaload, 1) := by decide +kernel
theorem dX9_reign_185 : decode cX9_reign 185 = .ok (.iastore, 1) := by decide +kernel
theorem dX9_reign_186 : decode cX9_reign 186 = .ok (.iinc 4 1, 3) := by decide +kernel
theorem dX9_reign_189 : decode cX9_reign 189 = .ok (.goto (-24), 3) := by decide +kernel
theorem dX9_reign_192 : decode cX9_reign 192 = .ok (.iload_n 3, 1) := by decide +kernel
theorem dX9_reign_193 : decode cX9_reign 193 = .ok (.ireturn, 1) := by decide +kernel
set_option maxRecDepth 20000 in
theorem ggX9_keep_X9_in : GoodIn wsX9_keep wsX9_in := goodIn_r _ [7] (by decide +kernel) (by decide +kernel)
set_option maxRecDepth 20000 in
theorem gX9_keep_X9_in : GoodIn wsX9_keep (va_wsS RX9 69 yX9_in wsX9_in) := goodIn_app (goodIn_of _ (by decide +kernel)) ggX9_keep_X9_in
theorem dX9_keep_0 : decode cX9_keep 0 = .ok (.iload_n 1, 1) := by decide +kernel
theorem dX9_keep_1 : decode cX9_keep 1 = .ok (.i2l, 1) := by decide +kernel
theorem dX9_keep_2 : decode cX9_keep 2 = .ok (.lconst 0, 1) := by decide +kernel
theorem dX9_keep_3 : decode cX9_keep 3 = .ok (.lconst 1, 1) := by decide +kernel
theorem dX9_keep_4 : decode cX9_keep 4 = .ok (.invokestatic 69, 3) := by decide +kernel
theorem dX9_keep_7 : decode cX9_keep 7 = .ok (.ifCond .ne 5, 3) := by decide +kernel
theorem dX9_keep_10 : decode cX9_keep 10 = .ok (.iconst (-1), 1) := by decide +kernel
theorem dX9_keep_11 : decode cX9_keep 11 = .ok (.ireturn, 1) := by decide +kernel
theorem dX9_keep_12 : decode cX9_keep 12 = .ok (.aload_n 0, 1) := by decide +kernel
theorem dX9_keep_13 : decode cX9_keep 13 = .ok (.getfield 56, 3) := by decide +kernel
theorem dX9_keep_16 : decode cX9_keep 16 = .ok (.iload_n 1, 1) := by decide +kernel
theorem dX9_keep_17 : decode cX9_keep 17 = .ok (.iconst 1, 1) := by decide +kernel
theorem dX9_keep_18 : decode cX9_keep 18 = .ok (.bastore, 1) := by decide +kernel
theorem dX9_keep_19 : decode cX9_keep 19 = .ok (.iconst 0, 1) := by decide +kernel
theorem dX9_keep_20 : decode cX9_keep 20 = .ok (.istore_n 2, 1) := by decide +kernel
theorem dX9_keep_21 : decode cX9_keep 21 = .ok (.iload_n 2, 1) := by decide +kernel
theorem dX9_keep_22 : decode cX9_keep 22 = .ok (.bipush 26, 2) := by decide +kernel
theorem dX9_keep_24 : decode cX9_keep 24 = .ok (.if_icmp .ge 26, 3) := by decide +kernel
theorem dX9_keep_27 : decode cX9_keep 27 = .ok (.aload_n 0, 1) := by decide +kernel
theorem dX9_keep_28 : decode cX9_keep 28 = .ok (.getfield 60, 3) := by decide +kernel
theorem dX9_keep_31 : decode cX9_keep 31 = .ok (.bipush 26, 2) := by decide +kernel
theorem dX9_keep_33 : decode cX9_keep 33 = .ok (.iload_n 1, 1) := by decide +kernel
theorem dX9_keep_34 : decode cX9_keep 34 = .ok (.imul, 1) := by decide +kernel
theorem dX9_keep_35 : decode cX9_keep 35 = .ok (.iload_n 2, 1) := by decide +kernel
theorem dX9_keep_36 : decode cX9_keep 36 = .ok (.iadd, 1) := by decide +kernel
theorem dX9_keep_37 : decode cX9_keep 37 = .ok (.aload_n 0, 1) := by decide +kernel
theorem dX9_keep_38 : decode cX9_keep 38 = .ok (.getfield 13, 3) := by decide +kernel
theorem dX9_keep_41 : decode cX9_keep 41 = .ok (.iload_n 2, 1) := by decide +kernel
theorem dX9_keep_42 : decode cX9_keep 42 = .ok (.iaload, 1) := by decide +kernel
theorem dX9_keep_43 : decode cX9_keep 43 = .ok (.iastore, 1) := by decide +kernel
theorem dX9_keep_44 : decode cX9_keep 44 = .ok (.iinc 2 1, 3) := by decide +kernel
theorem dX9_keep_47 : decode cX9_keep 47 = .ok (.goto (-26), 3) := by decide +kernel
theorem dX9_keep_50 : decode cX9_keep 50 = .ok (.aload_n 0, 1) := by decide +kernel
theorem dX9_keep_51 : decode cX9_keep 51 = .ok (.getfield 13, 3) := by decide +kernel
theorem dX9_keep_54 : decode cX9_keep 54 = .ok (.bipush 25, 2) := by decide +kernel
theorem dX9_keep_56 : decode cX9_keep 56 = .ok (.iaload, 1) := by decide +kernel
theorem dX9_keep_57 : decode cX9_keep 57 = .ok (.ireturn, 1) := by decide +kernel
set_option maxRecDepth 20000 in
theorem ggX9_again_X9_in : GoodIn wsX9_again wsX9_in := goodIn_r _ [8] (by decide +kernel) (by decide +kernel)
set_option maxRecDepth 20000 in
theorem gX9_again_X9_in : GoodIn wsX9_again (va_wsS RX9 69 yX9_in wsX9_in) := goodIn_app (goodIn_of _ (by decide +kernel)) ggX9_again_X9_in
theorem dX9_again_0 : decode cX9_again 0 = .ok (.iload_n 1, 1) := by decide +kernel
theorem dX9_again_1 : decode cX9_again 1 = .ok (.i2l, 1) := by decide +kernel
theorem dX9_again_2 : decode cX9_again 2 = .ok (.lconst 0, 1) := by decide +kernel
theorem dX9_again_3 : decode cX9_again 3 = .ok (.lconst 1, 1) := by decide +kernel
theorem dX9_again_4 : decode cX9_again 4 = .ok (.invokestatic 69, 3) := by decide +kernel
theorem dX9_again_7 : decode cX9_again 7 = .ok (.ifCond .ne 5, 3) := by decide +kernel
theorem dX9_again_10 : decode cX9_again 10 = .ok (.iconst (-1), 1) := by decide +kernel
theorem dX9_again_11 : decode cX9_again 11 = .ok (.ireturn, 1) := by decide +kernel
theorem dX9_again_12 : decode cX9_again 12 = .ok (.aload_n 0, 1) := by decide +kernel
theorem dX9_again_13 : decode cX9_again 13 = .ok (.getfield 56, 3) := by decide +kernel
theorem dX9_again_16 : decode cX9_again 16 = .ok (.iload_n 1, 1) := by decide +kernel
theorem dX9_again_17 : decode cX9_again 17 = .ok (.baload, 1) := by decide +kernel
theorem dX9_again_18 : decode cX9_again 18 = .ok (.ifCond .ne 6, 3) := by decide +kernel
theorem dX9_again_21 : decode cX9_again 21 = .ok (.bipush (-3), 2) := by decide +kernel
theorem dX9_again_23 : decode cX9_again 23 = .ok (.ireturn, 1) := by decide +kernel
theorem dX9_again_24 : decode cX9_again 24 = .ok (.iconst 0, 1) := by decide +kernel
theorem dX9_again_25 : decode cX9_again 25 = .ok (.istore_n 2, 1) := by decide +kernel
theorem dX9_again_26 : decode cX9_again 26 = .ok (.iload_n 2, 1) := by decide +kernel
theorem dX9_again_27 : decode cX9_again 27 = .ok (.bipush 26, 2) := by decide +kernel
theorem dX9_again_29 : decode cX9_again 29 = .ok (.if_icmp .ge 26, 3) := by decide +kernel
theorem dX9_again_32 : decode cX9_again 32 = .ok (.aload_n 0, 1) := by decide +kernel
theorem dX9_again_33 : decode cX9_again 33 = .ok (.getfield 13, 3) := by decide +kernel
theorem dX9_again_36 : decode cX9_again 36 = .ok (.iload_n 2, 1) := by decide +kernel
theorem dX9_again_37 : decode cX9_again 37 = .ok (.aload_n 0, 1) := by decide +kernel
theorem dX9_again_38 : decode cX9_again 38 = .ok (.getfield 60, 3) := by decide +kernel
theorem dX9_again_41 : decode cX9_again 41 = .ok (.bipush 26, 2) := by decide +kernel
theorem dX9_again_43 : decode cX9_again 43 = .ok (.iload_n 1, 1) := by decide +kernel
theorem dX9_again_44 : decode cX9_again 44 = .ok (.imul, 1) := by decide +kernel
theorem dX9_again_45 : decode cX9_again 45 = .ok (.iload_n 2, 1) := by decide +kernel
theorem dX9_again_46 : decode cX9_again 46 = .ok (.iadd, 1) := by decide +kernel
theorem dX9_again_47 : decode cX9_again 47 = .ok (.iaload, 1) := by decide +kernel
theorem dX9_again_48 : decode cX9_again 48 = .ok (.iastore, 1) := by decide +kernel
theorem dX9_again_49 : decode cX9_again 49 = .ok (.iinc 2 1, 3) := by decide +kernel
theorem dX9_again_52 : decode cX9_again 52 = .ok (.goto (-26), 3) := by decide +kernel
theorem dX9_again_55 : decode cX9_again 55 = .ok (.aload_n 0, 1) := by decide +kernel
theorem dX9_again_56 : decode cX9_again 56 = .ok (.iconst 0, 1) := by decide +kernel
theorem dX9_again_57 : decode cX9_again 57 = .ok (.putfield 113, 3) := by decide +kernel
theorem dX9_again_60 : decode cX9_again 60 = .ok (.aload_n 0, 1) := by decide +kernel
theorem dX9_again_61 : decode cX9_again 61 = .ok (.getfield 13, 3) := by decide +kernel
theorem dX9_again_64 : decode cX9_again 64 = .ok (.bipush 25, 2) := by decide +kernel
theorem dX9_again_66 : decode cX9_again 66 = .ok (.iaload, 1) := by decide +kernel
theorem dX9_again_67 : decode cX9_again 67 = .ok (.ireturn, 1) := by decide +kernel
set_option maxRecDepth 20000 in
theorem ggX9_count_X9_isIll : GoodIn wsX9_count wsX9_isIll := goodIn_r _ [13, 2, 14, 15, 16, 17, 18, 19, 20, 21, 22, 23, 24, 25, 26, 27, 28, 29, 30, 31, 32, 33, 34, 35, 36, 37, 38, 39, 40, 41, 42, 43, 44, 45, 46, 47, 48] (by decide +kernel) (by decide +kernel)
set_option maxRecDepth 20000 in
theorem gX9_count_X9_isIll : GoodIn wsX9_count (wsV RX9 124 RX9 yX9_isIll wsX9_isIll) := goodIn_app (goodIn_of _ (by decide +kernel)) ggX9_count_X9_isIll
theorem dX9_count_0 : decode cX9_count 0 = .ok (.iconst 0, 1) := by decide +kernel
theorem dX9_count_1 : decode cX9_count 1 = .ok (.istore_n 2, 1) := by decide +kernel
theorem dX9_count_2 : decode cX9_count 2 = .ok (.iconst 0, 1) := by decide +kernel
theorem dX9_count_3 : decode cX9_count 3 = .ok (.istore_n 3, 1) := by decide +kernel
theorem dX9_count_4 : decode cX9_count 4 = .ok (.iconst 0, 1) := by decide +kernel
theorem dX9_count_5 : decode cX9_count 5 = .ok (.istore 4, 2) := by decide +kernel
theorem dX9_count_7 : decode cX9_count 7 = .ok (.iload 4, 2) := by decide +kernel
theorem dX9_count_9 : decode cX9_count 9 = .ok (.aload_n 0, 1) := by decide +kernel
theorem dX9_count_10 : decode cX9_count 10 = .ok (.getfield 104, 3) := by decide +kernel
theorem dX9_count_13 : decode cX9_count 13 = .ok (.if_icmp .ge 43, 3) := by decide +kernel
theorem dX9_count_16 : decode cX9_count 16 = .ok (.iload_n 2, 1) := by decide +kernel
theorem dX9_count_17 : decode cX9_count 17 = .ok (.aload_n 0, 1) := by decide +kernel
theorem dX9_count_18 : decode cX9_count 18 = .ok (.iload 4, 2) := by decide +kernel
theorem dX9_count_20 : decode cX9_count 20 = .ok (.invokevirtual 124, 3) := by decide +kernel
theorem dX9_count_23 : decode cX9_count 23 = .ok (.ifCond .eq 10, 3) := by decide +kernel
theorem dX9_count_26 : decode cX9_count 26 = .ok (.iconst 1, 1) := by decide +kernel
theorem dX9_count_27 : decode cX9_count 27 = .ok (.iload 4, 2) := by decide +kernel
theorem dX9_count_29 : decode cX9_count 29 = .ok (.ishl, 1) := by decide +kernel
theorem dX9_count_30 : decode cX9_count 30 = .ok (.goto 4, 3) := by decide +kernel
theorem dX9_count_33 : decode cX9_count 33 = .ok (.iconst 0, 1) := by decide +kernel
theorem dX9_count_34 : decode cX9_count 34 = .ok (.ior, 1) := by decide +kernel
theorem dX9_count_35 : decode cX9_count 35 = .ok (.istore_n 2, 1) := by decide +kernel
theorem dX9_count_36 : decode cX9_count 36 = .ok (.iload_n 3, 1) := by decide +kernel
theorem dX9_count_37 : decode cX9_count 37 = .ok (.aload_n 0, 1) := by decide +kernel
theorem dX9_count_38 : decode cX9_count 38 = .ok (.getfield 13, 3) := by decide +kernel
theorem dX9_count_41 : decode cX9_count 41 = .ok (.iconst 5, 1) := by decide +kernel
theorem dX9_count_42 : decode cX9_count 42 = .ok (.iload 4, 2) := by decide +kernel
theorem dX9_count_44 : decode cX9_count 44 = .ok (.imul, 1) := by decide +kernel
theorem dX9_count_45 : decode cX9_count 45 = .ok (.iconst 4, 1) := by decide +kernel
theorem dX9_count_46 : decode cX9_count 46 = .ok (.iadd, 1) := by decide +kernel
theorem dX9_count_47 : decode cX9_count 47 = .ok (.iaload, 1) := by decide +kernel
theorem dX9_count_48 : decode cX9_count 48 = .ok (.iadd, 1) := by decide +kernel
theorem dX9_count_49 : decode cX9_count 49 = .ok (.istore_n 3, 1) := by decide +kernel
theorem dX9_count_50 : decode cX9_count 50 = .ok (.iinc 4 1, 3) := by decide +kernel
theorem dX9_count_53 : decode cX9_count 53 = .ok (.goto (-46), 3) := by decide +kernel
theorem dX9_count_56 : decode cX9_count 56 = .ok (.iload_n 1, 1) := by decide +kernel
theorem dX9_count_57 : decode cX9_count 57 = .ok (.tableswitch 102 0 9 #[55, 60, 65, 73, 78, 83, 88, 93, 98, 100], 55) := by decide +kernel
theorem dX9_count_112 : decode cX9_count 112 = .ok (.aload_n 0, 1) := by decide +kernel
theorem dX9_count_113 : decode cX9_count 113 = .ok (.getfield 73, 3) := by decide +kernel
theorem dX9_count_116 : decode cX9_count 116 = .ok (.ireturn, 1) := by decide +kernel
theorem dX9_count_117 : decode cX9_count 117 = .ok (.aload_n 0, 1) := by decide +kernel
theorem dX9_count_118 : decode cX9_count 118 = .ok (.getfield 104, 3) := by decide +kernel
theorem dX9_count_121 : decode cX9_count 121 = .ok (.ireturn, 1) := by decide +kernel
theorem dX9_count_122 : decode cX9_count 122 = .ok (.aload_n 0, 1) := by decide +kernel
theorem dX9_count_123 : decode cX9_count 123 = .ok (.getfield 13, 3) := by decide +kernel
theorem dX9_count_126 : decode cX9_count 126 = .ok (.bipush 25, 2) := by decide +kernel
theorem dX9_count_128 : decode cX9_count 128 = .ok (.iaload, 1) := by decide +kernel
theorem dX9_count_129 : decode cX9_count 129 = .ok (.ireturn, 1) := by decide +kernel
theorem dX9_count_130 : decode cX9_count 130 = .ok (.aload_n 0, 1) := by decide +kernel
theorem dX9_count_131 : decode cX9_count 131 = .ok (.getfield 113, 3) := by decide +kernel
theorem dX9_count_134 : decode cX9_count 134 = .ok (.ireturn, 1) := by decide +kernel
theorem dX9_count_135 : decode cX9_count 135 = .ok (.aload_n 0, 1) := by decide +kernel
theorem dX9_count_136 : decode cX9_count 136 = .ok (.getfield 164, 3) := by decide +kernel
theorem dX9_count_139 : decode cX9_count 139 = .ok (.ireturn, 1) := by decide +kernel
theorem dX9_count_140 : decode cX9_count 140 = .ok (.aload_n 0, 1) := by decide +kernel
theorem dX9_count_141 : decode cX9_count 141 = .ok (.getfield 171, 3) := by decide +kernel
theorem dX9_count_144 : decode cX9_count 144 = .ok (.ireturn, 1) := by decide +kernel
theorem dX9_count_145 : decode cX9_count 145 = .ok (.aload_n 0, 1) := by decide +kernel
theorem dX9_count_146 : decode cX9_count 146 = .ok (.getfield 186, 3) := by decide +kernel
theorem dX9_count_149 : decode cX9_count 149 = .ok (.ireturn, 1) := by decide +kernel
theorem dX9_count_150 : decode cX9_count 150 = .ok (.aload_n 0, 1) := by decide +kernel
theorem dX9_count_151 : decode cX9_count 151 = .ok (.getfield 63, 3) := by decide +kernel
theorem dX9_count_154 : decode cX9_count 154 = .ok (.ireturn, 1) := by decide +kernel
theorem dX9_count_155 : decode cX9_count 155 = .ok (.iload_n 2, 1) := by decide +kernel
theorem dX9_count_156 : decode cX9_count 156 = .ok (.ireturn, 1) := by decide +kernel
theorem dX9_count_157 : decode cX9_count 157 = .ok (.iload_n 3, 1) := by decide +kernel
theorem dX9_count_158 : decode cX9_count 158 = .ok (.ireturn, 1) := by decide +kernel
theorem dX9_count_159 : decode cX9_count 159 = .ok (.bipush (-2), 2) := by decide +kernel
theorem dX9_count_161 : decode cX9_count 161 = .ok (.ireturn, 1) := by decide +kernel
end
section
theorem dJ6_bitCount_0f7a4_0 : decode cJ6_bitCount_0f7a4 0 = .ok (.iload_n 0, 1) := by decide +kernel
theorem dJ6_bitCount_0f7a4_1 : decode cJ6_bitCount_0f7a4 1 = .ok (.iload_n 0, 1) := by decide +kernel
theorem dJ6_bitCount_0f7a4_2 : decode cJ6_bitCount_0f7a4 2 = .ok (.iconst 1, 1) := by decide +kernel
theorem dJ6_bitCount_0f7a4_3 : decode cJ6_bitCount_0f7a4 3 = .ok (.iushr, 1) := by decide +kernel
theorem dJ6_bitCount_0f7a4_4 : decode cJ6_bitCount_0f7a4 4 = .ok (.ldc_w 265, 3) := by decide +kernel
theorem dJ6_bitCount_0f7a4_7 : decode cJ6_bitCount_0f7a4 7 = .ok (.iand, 1) := by decide +kernel
theorem dJ6_bitCount_0f7a4_8 : decode cJ6_bitCount_0f7a4 8 = .ok (.isub, 1) := by decide +kernel
theorem dJ6_bitCount_0f7a4_9 : decode cJ6_bitCount_0f7a4 9 = .ok (.istore_n 0, 1) := by decide +kernel
theorem dJ6_bitCount_0f7a4_10 : decode cJ6_bitCount_0f7a4 10 = .ok (.iload_n 0, 1) := by decide +kernel
theorem dJ6_bitCount_0f7a4_11 : decode cJ6_bitCount_0f7a4 11 = .ok (.ldc_w 266, 3) := by decide +kernel
theorem dJ6_bitCount_0f7a4_14 : decode cJ6_bitCount_0f7a4 14 = .ok (.iand, 1) := by decide +kernel
theorem dJ6_bitCount_0f7a4_15 : decode cJ6_bitCount_0f7a4 15 = .ok (.iload_n 0, 1) := by decide +kernel
theorem dJ6_bitCount_0f7a4_16 : decode cJ6_bitCount_0f7a4 16 = .ok (.iconst 2, 1) := by decide +kernel
theorem dJ6_bitCount_0f7a4_17 : decode cJ6_bitCount_0f7a4 17 = .ok (.iushr, 1) := by decide +kernel
theorem dJ6_bitCount_0f7a4_18 : decode cJ6_bitCount_0f7a4 18 = .ok (.ldc_w 266, 3) := by decide +kernel
theorem dJ6_bitCount_0f7a4_21 : decode cJ6_bitCount_0f7a4 21 = .ok (.iand, 1) := by decide +kernel
theorem dJ6_bitCount_0f7a4_22 : decode cJ6_bitCount_0f7a4 22 = .ok (.iadd, 1) := by decide +kernel
theorem dJ6_bitCount_0f7a4_23 : decode cJ6_bitCount_0f7a4 23 = .ok (.istore_n 0, 1) := by decide +kernel
theorem dJ6_bitCount_0f7a4_24 : decode cJ6_bitCount_0f7a4 24 = .ok (.iload_n 0, 1) := by decide +kernel
theorem dJ6_bitCount_0f7a4_25 : decode cJ6_bitCount_0f7a4 25 = .ok (.iload_n 0, 1) := by decide +kernel
theorem dJ6_bitCount_0f7a4_26 : decode cJ6_bitCount_0f7a4 26 = .ok (.iconst 4, 1) := by decide +kernel
theorem dJ6_bitCount_0f7a4_27 : decode cJ6_bitCount_0f7a4 27 = .ok (.iushr, 1) := by decide +kernel
theorem dJ6_bitCount_0f7a4_28 : decode cJ6_bitCount_0f7a4 28 = .ok (.iadd, 1) := by decide +kernel
theorem dJ6_bitCount_0f7a4_29 : decode cJ6_bitCount_0f7a4 29 = .ok (.ldc_w 267, 3) := by decide +kernel
theorem dJ6_bitCount_0f7a4_32 : decode cJ6_bitCount_0f7a4 32 = .ok (.iand, 1) := by decide +kernel
theorem dJ6_bitCount_0f7a4_33 : decode cJ6_bitCount_0f7a4 33 = .ok (.istore_n 0, 1) := by decide +kernel
theorem dJ6_bitCount_0f7a4_34 : decode cJ6_bitCount_0f7a4 34 = .ok (.iload_n 0, 1) := by decide +kernel
theorem dJ6_bitCount_0f7a4_35 : decode cJ6_bitCount_0f7a4 35 = .ok (.iload_n 0, 1) := by decide +kernel
theorem dJ6_bitCount_0f7a4_36 : decode cJ6_bitCount_0f7a4 36 = .ok (.bipush 8, 2) := by decide +kernel
theorem dJ6_bitCount_0f7a4_38 : decode cJ6_bitCount_0f7a4 38 = .ok (.iushr, 1) := by decide +kernel
theorem dJ6_bitCount_0f7a4_39 : decode cJ6_bitCount_0f7a4 39 = .ok (.iadd, 1) := by decide +kernel
theorem dJ6_bitCount_0f7a4_40 : decode cJ6_bitCount_0f7a4 40 = .ok (.istore_n 0, 1) := by decide +kernel
theorem dJ6_bitCount_0f7a4_41 : decode cJ6_bitCount_0f7a4 41 = .ok (.iload_n 0, 1) := by decide +kernel
theorem dJ6_bitCount_0f7a4_42 : decode cJ6_bitCount_0f7a4 42 = .ok (.iload_n 0, 1) := by decide +kernel
theorem dJ6_bitCount_0f7a4_43 : decode cJ6_bitCount_0f7a4 43 = .ok (.bipush 16, 2) := by decide +kernel
theorem dJ6_bitCount_0f7a4_45 : decode cJ6_bitCount_0f7a4 45 = .ok (.iushr, 1) := by decide +kernel
theorem dJ6_bitCount_0f7a4_46 : decode cJ6_bitCount_0f7a4 46 = .ok (.iadd, 1) := by decide +kernel
theorem dJ6_bitCount_0f7a4_47 : decode cJ6_bitCount_0f7a4 47 = .ok (.istore_n 0, 1) := by decide +kernel
theorem dJ6_bitCount_0f7a4_48 : decode cJ6_bitCount_0f7a4 48 = .ok (.iload_n 0, 1) := by decide +kernel
theorem dJ6_bitCount_0f7a4_49 : decode cJ6_bitCount_0f7a4 49 = .ok (.bipush 63, 2) := by decide +kernel
theorem dJ6_bitCount_0f7a4_51 : decode cJ6_bitCount_0f7a4 51 = .ok (.iand, 1) := by decide +kernel
theorem dJ6_bitCount_0f7a4_52 : decode cJ6_bitCount_0f7a4 52 = .ok (.ireturn, 1) := by decide +kernel
theorem dJ9_max_7cf53_0 : decode cJ9_max_7cf53 0 = .ok (.iload_n 0, 1) := by decide +kernel
theorem dJ9_max_7cf53_1 : decode cJ9_max_7cf53 1 = .ok (.iload_n 1, 1) := by decide +kernel
theorem dJ9_max_7cf53_2 : decode cJ9_max_7cf53 2 = .ok (.if_icmp .lt 7, 3) := by decide +kernel
theorem dJ9_max_7cf53_5 : decode cJ9_max_7cf53 5 = .ok (.iload_n 0, 1) := by decide +kernel
theorem dJ9_max_7cf53_6 : decode cJ9_max_7cf53 6 = .ok (.goto 4, 3) := by decide +kernel
theorem dJ9_max_7cf53_9 : decode cJ9_max_7cf53 9 = .ok (.iload_n 1, 1) := by decide +kernel
theorem dJ9_max_7cf53_10 : decode cJ9_max_7cf53 10 = .ok (.ireturn, 1) := by decide +kernel
theorem dJ9_min_7cf53_0 : decode cJ9_min_7cf53 0 = .ok (.iload_n 0, 1) := by decide +kernel
theorem dJ9_min_7cf53_1 : decode cJ9_min_7cf53 1 = .ok (.iload_n 1, 1) := by decide +kernel
theorem dJ9_min_7cf53_2 : decode cJ9_min_7cf53 2 = .ok (.if_icmp .gt 7, 3) := by decide +kernel
theorem dJ9_min_7cf53_5 : decode cJ9_min_7cf53 5 = .ok (.iload_n 0, 1) := by decide +kernel
theorem dJ9_min_7cf53_6 : decode cJ9_min_7cf53 6 = .ok (.goto 4, 3) := by decide +kernel
theorem dJ9_min_7cf53_9 : decode cJ9_min_7cf53 9 = .ok (.iload_n 1, 1) := by decide +kernel
theorem dJ9_min_7cf53_10 : decode cJ9_min_7cf53 10 = .ok (.ireturn, 1) := by decide +kernel
theorem dJ7_fill_d0a16_0 : decode cJ7_fill_d0a16 0 = .ok (.iconst 0, 1) := by decide +kernel
theorem dJ7_fill_d0a16_1 : decode cJ7_fill_d0a16 1 = .ok (.istore_n 3, 1) := by decide +kernel
theorem dJ7_fill_d0a16_2 : decode cJ7_fill_d0a16 2 = .ok (.aload_n 0, 1) := by decide +kernel
theorem dJ7_fill_d0a16_3 : decode cJ7_fill_d0a16 3 = .ok (.arraylength, 1) := by decide +kernel
theorem dJ7_fill_d0a16_4 : decode cJ7_fill_d0a16 4 = .ok (.istore 4, 2) := by decide +kernel
theorem dJ7_fill_d0a16_6 : decode cJ7_fill_d0a16 6 = .ok (.iload_n 3, 1) := by decide +kernel
theorem dJ7_fill_d0a16_7 : decode cJ7_fill_d0a16 7 = .ok (.iload 4, 2) := by decide +kernel
theorem dJ7_fill_d0a16_9 : decode cJ7_fill_d0a16 9 = .ok (.if_icmp .ge 13, 3) := by decide +kernel
theorem dJ7_fill_d0a16_12 : decode cJ7_fill_d0a16 12 = .ok (.aload_n 0, 1) := by decide +kernel
theorem dJ7_fill_d0a16_13 : decode cJ7_fill_d0a16 13 = .ok (.iload_n 3, 1) := by decide +kernel
theorem dJ7_fill_d0a16_14 : decode cJ7_fill_d0a16 14 = .ok (.lload_n 1, 1) := by decide +kernel
theorem dJ7_fill_d0a16_15 : decode cJ7_fill_d0a16 15 = .ok (.lastore, 1) := by decide +kernel
theorem dJ7_fill_d0a16_16 : decode cJ7_fill_d0a16 16 = .ok (.iinc 3 1, 3) := by decide +kernel
theorem dJ7_fill_d0a16_19 : decode cJ7_fill_d0a16 19 = .ok (.goto (-13), 3) := by decide +kernel
theorem dJ7_fill_d0a16_22 : decode cJ7_fill_d0a16 22 = .ok (.return_, 1) := by decide +kernel
theorem dJ7_fill_53178_0 : decode cJ7_fill_53178 0 = .ok (.iconst 0, 1) := by decide +kernel
theorem dJ7_fill_53178_1 : decode cJ7_fill_53178 1 = .ok (.istore_n 2, 1) := by decide +kernel
theorem dJ7_fill_53178_2 : decode cJ7_fill_53178 2 = .ok (.aload_n 0, 1) := by decide +kernel
theorem dJ7_fill_53178_3 : decode cJ7_fill_53178 3 = .ok (.arraylength, 1) := by decide +kernel
theorem dJ7_fill_53178_4 : decode cJ7_fill_53178 4 = .ok (.istore_n 3, 1) := by decide +kernel
theorem dJ7_fill_53178_5 : decode cJ7_fill_53178 5 = .ok (.iload_n 2, 1) := by decide +kernel
theorem dJ7_fill_53178_6 : decode cJ7_fill_53178 6 = .ok (.iload_n 3, 1) := by decide +kernel
theorem dJ7_fill_53178_7 : decode cJ7_fill_53178 7 = .ok (.if_icmp .ge 13, 3) := by decide +kernel
theorem dJ7_fill_53178_10 : decode cJ7_fill_53178 10 = .ok (.aload_n 0, 1) := by decide +kernel
theorem dJ7_fill_53178_11 : decode cJ7_fill_53178 11 = .ok (.iload_n 2, 1) := by decide +kernel
theorem dJ7_fill_53178_12 : decode cJ7_fill_53178 12 = .ok (.iload_n 1, 1) := by decide +kernel
theorem dJ7_fill_53178_13 : decode cJ7_fill_53178 13 = .ok (.iastore, 1) := by decide +kernel
theorem dJ7_fill_53178_14 : decode cJ7_fill_53178 14 = .ok (.iinc 2 1, 3) := by decide +kernel
theorem dJ7_fill_53178_17 : decode cJ7_fill_53178 17 = .ok (.goto (-12), 3) := by decide +kernel
theorem dJ7_fill_53178_20 : decode cJ7_fill_53178 20 = .ok (.return_, 1) := by decide +kernel
set_option maxRecDepth 20000 in
theorem ggL_law_X8_init : GoodIn wsL_law wsX8_init := goodIn_r _ [9, 10, 11, 12, 13, 14, 15, 16, 17, 18, 19, 20, 21, 22, 23, 24, 25, 26, 27, 28, 29, 30, 31, 32, 33, 34, 35, 36, 37, 38, 39, 40, 41, 42, 43, 44, 45, 46, 47, 48, 49, 50, 51, 52, 53, 54, 55, 56, 57, 58, 59, 60, 61, 62, 63, 64, 65, 66, 67, 68, 69, 70, 71, 72, 73, 74, 75, 76, 77, 78, 79, 80, 81, 82, 83, 84, 85, 86, 87, 88, 89, 90, 91, 92, 93, 94, 95, 96, 97, 98, 99, 100, 101, 102, 103, 104, 105, 106, 107, 108, 109, 873, 874, 830, 831, 832, 833, 834, 835, 836, 837, 838, 875, 876, 877, 878, 879, 880, 881, 882, 883, 884, 885, 886, 887, 888, 889, 890, 891, 892, 893, 894, 895, 896, 897, 898, 899, 900] (by decide +kernel) (by decide +kernel)
set_option maxRecDepth 20000 in
theorem gL_law_X8_init : GoodIn wsL_law (wsX8_init) := ggL_law_X8_init
set_option maxRecDepth 20000 in
theorem ggL_law_X9_init : GoodIn wsL_law wsX9_init := goodIn_r _ [112, 113, 11, 12, 50, 114, 115, 116, 117, 118, 119, 120, 121, 122, 123, 124, 125, 99, 126, 127, 128, 129, 130, 131, 132, 839, 840, 841, 842, 843, 844, 845, 846, 847, 848, 849, 850, 851, 852, 853, 854, 855, 856, 857, 858, 859, 860, 861, 862, 863, 864, 865, 866, 867, 868, 869, 870, 871, 872] (by decide +kernel) (by decide +kernel)
set_option maxRecDepth 20000 in
theorem gL_law_X9_init : GoodIn wsL_law (wsX9_init) := ggL_law_X9_init
set_option maxRecDepth 20000 in
theorem ggL_law_X8_write : GoodIn wsL_law wsX8_write := goodIn_r _ [136, 16, 137, 138, 139, 15, 140, 52, 51, 141, 142, 143, 144, 830, 831, 832, 833, 834, 835, 836, 837, 838, 873, 874] (by decide +kernel) (by decide +kernel)
set_option maxRecDepth 20000 in
theorem gL_law_X8_write : GoodIn wsL_law (wsV RL 15 RX8 yX8_write wsX8_write) := goodIn_app (goodIn_of _ (by decide +kernel)) ggL_law_X8_write
set_option maxRecDepth 20000 in
theorem ggL_law_X9_write : GoodIn wsL_law wsX9_write := goodIn_r _ [148, 149, 150, 116, 151, 152, 153, 5, 154, 839, 840, 841, 842, 843, 844, 845, 846, 847, 848, 849, 850, 851, 852, 853, 854, 855, 856, 857, 858, 859, 860, 861, 862, 863, 864, 865, 866, 867, 868, 869, 870, 871, 872] (by decide +kernel) (by decide +kernel)
set_option maxRecDepth 20000 in
theorem gL_law_X9_write : GoodIn wsL_law (wsV RL 19 RX9 yX9_write wsX9_write) := goodIn_app (goodIn_of _ (by decide +kernel)) ggL_law_X9_write
set_option maxRecDepth 20000 in
theorem ggL_law_X8_wipe : GoodIn wsL_law wsX8_wipe := goodIn_r _ [158, 16, 141, 142, 143, 15, 144, 52, 159, 160, 161, 162, 830, 831, 832, 833, 834, 835, 836, 837, 838, 873, 874] (by decide +kernel) (by decide +kernel)
set_option maxRecDepth 20000 in
theorem gL_law_X8_wipe : GoodIn wsL_law (wsV RL 20 RX8 yX8_wipe wsX8_wipe) := goodIn_app (goodIn_of _ (by decide +kernel)) ggL_law_X8_wipe
set_option maxRecDepth 20000 in
theorem ggL_law_X9_wipe : GoodIn wsL_law wsX9_wipe := goodIn_r _ [166, 150, 839, 840, 841, 842, 843, 844, 845, 846, 847, 848, 849, 850, 851, 852, 853, 854, 855, 856, 857, 858, 859, 860, 861, 862, 863, 864, 865, 866, 867, 868, 869, 870, 871, 872] (by decide +kernel) (by decide +kernel)
set_option maxRecDepth 20000 in
theorem gL_law_X9_wipe : GoodIn wsL_law (wsV RL 24 RX9 yX9_wipe wsX9_wipe) := goodIn_app (goodIn_of _ (by decide +kernel)) ggL_law_X9_wipe
set_option maxRecDepth 20000 in
theorem ggL_law_X8_fault : GoodIn wsL_law wsX8_fault := goodIn_r _ [170, 16, 171, 172, 173, 15, 174, 52, 51, 175, 176, 177, 830, 831, 832, 833, 834, 835, 836, 837, 838, 873, 874] (by decide +kernel) (by decide +kernel)
set_option maxRecDepth 20000 in
theorem gL_law_X8_fault : GoodIn wsL_law (wsV RL 25 RX8 yX8_fault wsX8_fault) := goodIn_app (goodIn_of _ (by decide +kernel)) ggL_law_X8_fault
set_option maxRecDepth 20000 in
theorem ggL_law_X9_fault : GoodIn wsL_law wsX9_fault := goodIn_r _ [181, 182, 183, 184, 5, 185, 186, 187, 188, 150, 116, 189, 190, 191, 114, 192, 193, 194, 195, 152, 153, 154, 839, 840, 841, 842, 843, 844, 845, 846, 847, 848, 849, 850, 851, 852, 853, 854, 855, 856, 857, 858, 859, 860, 861, 862, 863, 864, 865, 866, 867, 868, 869, 870, 871, 872] (by decide +kernel) (by decide +kernel)
set_option maxRecDepth 20000 in
theorem gL_law_X9_fault : GoodIn wsL_law (wsV RL 28 RX9 yX9_fault wsX9_fault) := goodIn_app (goodIn_of _ (by decide +kernel)) ggL_law_X9_fault
set_option maxRecDepth 20000 in
theorem ggL_law_X8_land : GoodIn wsL_law wsX8_land := goodIn_r _ [199, 16, 45, 20, 24, 28, 171, 172, 173, 15, 174, 52, 51, 175, 176, 177, 200, 201, 202, 203, 204, 205, 206, 19, 207, 57, 59, 60, 208, 209, 210, 211, 58, 212, 213, 214, 215, 216, 217, 218, 219, 220, 221, 222, 223, 224, 225, 226, 227, 228, 229, 230, 231, 232, 23, 233, 67, 234, 235, 236, 27, 237, 73, 238, 239, 240, 241, 830, 831, 832, 833, 834, 835, 836, 837, 838, 873, 874, 875, 876, 877, 878, 879, 880, 881, 882, 883] (by decide +kernel) (by decide +kernel)
set_option maxRecDepth 20000 in
theorem gL_law_X8_land : GoodIn wsL_law (wsV RL 29 RX8 yX8_land wsX8_land) := goodIn_app (goodIn_of _ (by decide +kernel)) ggL_law_X8_land
set_option maxRecDepth 20000 in
theorem ggL_law_X9_land : GoodIn wsL_law wsX9_land := goodIn_r _ [245, 188, 246, 189, 132, 190, 247, 191, 248, 115, 114, 249, 130, 182, 183, 184, 5, 185, 186, 187, 150, 116, 192, 193, 194, 195, 152, 153, 154, 839, 840, 841, 842, 843, 844, 845, 846, 847, 848, 849, 850, 851, 852, 853, 854, 855, 856, 857, 858, 859, 860, 861, 862, 863, 864, 865, 866, 867, 868, 869, 870, 871, 872] (by decide +kernel) (by decide +kernel)
set_option maxRecDepth 20000 in
theorem gL_law_X9_land : GoodIn wsL_law (wsV RL 32 RX9 yX9_land wsX9_land) := goodIn_app (goodIn_of _ (by decide +kernel)) ggL_law_X9_land
set_option maxRecDepth 20000 in
theorem ggL_law_X8_person : GoodIn wsL_law wsX8_person := goodIn_r _ [253, 20, 254, 255, 256, 19, 257, 58, 258, 259, 260, 261, 57, 262, 263, 264, 265, 266, 267, 268, 269, 270, 271, 272, 273, 274, 60, 830, 831, 832, 833, 834, 835, 836, 837, 838, 875, 876, 877, 878] (by decide +kernel) (by decide +kernel)
set_option maxRecDepth 20000 in
theorem gL_law_X8_person : GoodIn wsL_law (wsV RL 33 RX8 yX8_person wsX8_person) := goodIn_app (goodIn_of _ (by decide +kernel)) ggL_law_X8_person
set_option maxRecDepth 20000 in
theorem ggL_law_X9_person : GoodIn wsL_law wsX9_person := goodIn_r _ [278, 115, 279, 280, 281, 5, 282, 246, 152, 153, 154, 283, 284, 285, 286, 287, 288, 289, 290, 248, 839, 840, 841, 842, 843, 844, 845, 846, 847, 848, 849, 850, 851, 852, 853, 854, 855, 856, 857, 858, 859, 860, 861, 862, 863, 864, 865, 866, 867, 868, 869, 870, 871, 872] (by decide +kernel) (by decide +kernel)
set_option maxRecDepth 20000 in
theorem gL_law_X9_person : GoodIn wsL_law (wsV RL 37 RX9 yX9_person wsX9_person) := goodIn_app (goodIn_of _ (by decide +kernel)) ggL_law_X9_person
set_option maxRecDepth 20000 in
theorem ggL_law_X8_law : GoodIn wsL_law wsX8_law := goodIn_r _ [294, 45, 295, 296, 2, 297, 830, 831, 832, 833, 834, 835, 836, 837, 838] (by decide +kernel) (by decide +kernel)
set_option maxRecDepth 20000 in
theorem gL_law_X8_law : GoodIn wsL_law (wsV RL 38 RX8 yX8_law wsX8_law) := goodIn_app (goodIn_of _ (by decide +kernel)) ggL_law_X8_law
set_option maxRecDepth 20000 in
theorem ggL_law_X9_law : GoodIn wsL_law wsX9_law := goodIn_r _ [301, 302, 132, 152, 153, 5, 154, 839, 840, 841, 842, 843, 844, 845, 846, 847, 848, 849, 850, 851, 852, 853, 854, 855, 856, 857, 858, 859, 860, 861, 862, 863, 864, 865, 866, 867, 868, 869, 870, 871, 872] (by decide +kernel) (by decide +kernel)
set_option maxRecDepth 20000 in
theorem gL_law_X9_law : GoodIn wsL_law (wsV RL 42 RX9 yX9_law wsX9_law) := goodIn_app (goodIn_of _ (by decide +kernel)) ggL_law_X9_law
set_option maxRecDepth 20000 in
theorem ggL_law_X8_eat : GoodIn wsL_law wsX8_eat := goodIn_r _ [306, 20, 24, 307, 308, 309, 2, 310, 254, 255, 256, 19, 257, 58, 258, 259, 260, 261, 57, 311, 312, 313, 23, 314, 67, 66, 65, 315, 316, 317, 318, 319, 320, 321, 322, 323, 227, 228, 229, 324, 325, 326, 327, 328, 329, 210, 330, 266, 226, 830, 831, 832, 833, 834, 835, 836, 837, 838, 875, 876, 877, 878, 879, 880, 881] (by decide +kernel) (by decide +kernel)
set_option maxRecDepth 20000 in
theorem gL_law_X8_eat : GoodIn wsL_law (wsV RL 43 RX8 yX8_eat wsX8_eat) := goodIn_app (goodIn_of _ (by decide +kernel)) ggL_law_X8_eat
set_option maxRecDepth 20000 in
theorem ggL_law_X9_eat : GoodIn wsL_law wsX9_eat := goodIn_r _ [334, 335, 115, 279, 280, 281, 5, 282, 246, 152, 153, 154, 336, 337, 338, 339, 117, 340, 249, 839, 840, 841, 842, 843, 844, 845, 846, 847, 848, 849, 850, 851, 852, 853, 854, 855, 856, 857, 858, 859, 860, 861, 862, 863, 864, 865, 866, 867, 868, 869, 870, 871, 872] (by decide +kernel) (by decide +kernel)
set_option maxRecDepth 20000 in
theorem gL_law_X9_eat : GoodIn wsL_law (wsV RL 46 RX9 yX9_eat wsX9_eat) := goodIn_app (goodIn_of _ (by decide +kernel)) ggL_law_X9_eat
set_option maxRecDepth 20000 in
theorem ggL_law_X8_toil : GoodIn wsL_law wsX8_toil := goodIn_r _ [344, 24, 20, 307, 308, 309, 2, 310, 254, 255, 256, 19, 257, 58, 311, 312, 313, 23, 314, 67, 66, 65, 315, 316, 317, 318, 57, 319, 320, 321, 322, 324, 325, 326, 327, 328, 329, 210, 330, 266, 259, 260, 261, 226, 227, 228, 229, 830, 831, 832, 833, 834, 835, 836, 837, 838, 875, 876, 877, 878, 879, 880, 881] (by decide +kernel) (by decide +kernel)
set_option maxRecDepth 20000 in
theorem gL_law_X8_toil : GoodIn wsL_law (wsV RL 47 RX8 yX8_toil wsX8_toil) := goodIn_app (goodIn_of _ (by decide +kernel)) ggL_law_X8_toil
set_option maxRecDepth 20000 in
theorem ggL_law_X9_toil : GoodIn wsL_law wsX9_toil := goodIn_r _ [348, 335, 115, 279, 280, 281, 5, 282, 246, 152, 153, 154, 336, 337, 338, 339, 117, 340, 249, 349, 350, 351, 839, 840, 841, 842, 843, 844, 845, 846, 847, 848, 849, 850, 851, 852, 853, 854, 855, 856, 857, 858, 859, 860, 861, 862, 863, 864, 865, 866, 867, 868, 869, 870, 871, 872] (by decide +kernel) (by decide +kernel)
set_option maxRecDepth 20000 in
theorem gL_law_X9_toil : GoodIn wsL_law (wsV RL 50 RX9 yX9_toil wsX9_toil) := goodIn_app (goodIn_of _ (by decide +kernel)) ggL_law_X9_toil
set_option maxRecDepth 20000 in
theorem ggL_law_X8_drink : GoodIn wsL_law wsX8_drink := goodIn_r _ [355, 20, 24, 307, 308, 309, 2, 310, 254, 255, 256, 19, 257, 58, 258, 259, 260, 261, 57, 311, 312, 313, 23, 314, 67, 66, 65, 315, 316, 317, 318, 319, 320, 321, 322, 323, 227, 228, 229, 324, 325, 326, 327, 328, 329, 210, 330, 266, 226, 830, 831, 832, 833, 834, 835, 836, 837, 838, 875, 876, 877, 878, 879, 880, 881] (by decide +kernel) (by decide +kernel)
set_option maxRecDepth 20000 in
theorem gL_law_X8_drink : GoodIn wsL_law (wsV RL 51 RX8 yX8_drink wsX8_drink) := goodIn_app (goodIn_of _ (by decide +kernel)) ggL_law_X8_drink
set_option maxRecDepth 20000 in
theorem ggL_law_X9_drink : GoodIn wsL_law wsX9_drink := goodIn_r _ [359, 335, 115, 279, 280, 281, 5, 282, 246, 152, 153, 154, 336, 337, 338, 339, 117, 340, 249, 839, 840, 841, 842, 843, 844, 845, 846, 847, 848, 849, 850, 851, 852, 853, 854, 855, 856, 857, 858, 859, 860, 861, 862, 863, 864, 865, 866, 867, 868, 869, 870, 871, 872] (by decide +kernel) (by decide +kernel)
set_option maxRecDepth 20000 in
theorem gL_law_X9_drink : GoodIn wsL_law (wsV RL 54 RX9 yX9_drink wsX9_drink) := goodIn_app (goodIn_of _ (by decide +kernel)) ggL_law_X9_drink
set_option maxRecDepth 20000 in
theorem ggL_law_X8_hand : GoodIn wsL_law wsX8_hand := goodIn_r _ [363, 20, 24, 254, 255, 256, 19, 257, 58, 258, 259, 260, 261, 57, 311, 312, 313, 23, 314, 67, 66, 65, 315, 316, 317, 318, 319, 320, 321, 322, 323, 227, 228, 229, 830, 831, 832, 833, 834, 835, 836, 837, 838, 875, 876, 877, 878, 879, 880, 881] (by decide +kernel) (by decide +kernel)
set_option maxRecDepth 20000 in
theorem gL_law_X8_hand : GoodIn wsL_law (wsV RL 55 RX8 yX8_hand wsX8_hand) := goodIn_app (goodIn_of _ (by decide +kernel)) ggL_law_X8_hand
set_option maxRecDepth 20000 in
theorem ggL_law_X9_hand : GoodIn wsL_law wsX9_hand := goodIn_r _ [367, 115, 279, 280, 281, 5, 282, 246, 152, 153, 154, 336, 337, 338, 339, 117, 340, 249, 839, 840, 841, 842, 843, 844, 845, 846, 847, 848, 849, 850, 851, 852, 853, 854, 855, 856, 857, 858, 859, 860, 861, 862, 863, 864, 865, 866, 867, 868, 869, 870, 871, 872] (by decide +kernel) (by decide +kernel)
set_option maxRecDepth 20000 in
theorem gL_law_X9_hand : GoodIn wsL_law (wsV RL 59 RX9 yX9_hand wsX9_hand) := goodIn_app (goodIn_of _ (by decide +kernel)) ggL_law_X9_hand
set_option maxRecDepth 20000 in
theorem ggL_law_X8_day : GoodIn wsL_law wsX8_day := goodIn_r _ [371, 24, 20, 311, 312, 313, 23, 314, 67, 66, 65, 315, 316, 317, 19, 318, 57, 319, 320, 321, 322, 372, 373, 374, 375, 58, 59, 266, 259, 260, 261, 376, 325, 326, 327, 328, 329, 210, 330, 226, 227, 228, 229, 377, 378, 379, 380, 830, 831, 832, 833, 834, 835, 836, 837, 838, 879, 880, 881, 875, 876, 877, 878] (by decide +kernel) (by decide +kernel)
set_option maxRecDepth 20000 in
theorem gL_law_X8_day : GoodIn wsL_law (wsV RL 60 RX8 yX8_day wsX8_day) := goodIn_app (goodIn_of _ (by decide +kernel)) ggL_law_X8_day
set_option maxRecDepth 20000 in
theorem ggL_law_X9_day : GoodIn wsL_law wsX9_day := goodIn_r _ [384, 246, 115, 247, 336, 337, 338, 5, 339, 117, 340, 249, 349, 350, 351, 839, 840, 841, 842, 843, 844, 845, 846, 847, 848, 849, 850, 851, 852, 853, 854, 855, 856, 857, 858, 859, 860, 861, 862, 863, 864, 865, 866, 867, 868, 869, 870, 871, 872] (by decide +kernel) (by decide +kernel)
set_option maxRecDepth 20000 in
theorem gL_law_X9_day : GoodIn wsL_law (wsV RL 63 RX9 yX9_day wsX9_day) := goodIn_app (goodIn_of _ (by decide +kernel)) ggL_law_X9_day
set_option maxRecDepth 20000 in
theorem ggL_law_X8_crown : GoodIn wsL_law wsX8_crown := goodIn_r _ [388, 20, 45, 389, 390, 391, 19, 392, 393, 394, 395, 396, 58, 397, 272, 273, 274, 60, 266, 259, 260, 261, 57, 398, 399, 400, 401, 402, 263, 264, 265, 267, 268, 269, 270, 830, 831, 832, 833, 834, 835, 836, 837, 838, 875, 876, 877, 878] (by decide +kernel) (by decide +kernel)
set_option maxRecDepth 20000 in
theorem gL_law_X8_crown : GoodIn wsL_law (wsV RL 64 RX8 yX8_crown wsX8_crown) := goodIn_app (goodIn_of _ (by decide +kernel)) ggL_law_X8_crown
set_option maxRecDepth 20000 in
theorem ggL_law_X9_crown : GoodIn wsL_law wsX9_crown := goodIn_r _ [406, 132, 407, 408, 409, 5, 410, 246, 287, 288, 289, 290, 115, 248, 283, 284, 285, 286, 411, 412, 413, 839, 840, 841, 842, 843, 844, 845, 846, 847, 848, 849, 850, 851, 852, 853, 854, 855, 856, 857, 858, 859, 860, 861, 862, 863, 864, 865, 866, 867, 868, 869, 870, 871, 872] (by decide +kernel) (by decide +kernel)
set_option maxRecDepth 20000 in
theorem gL_law_X9_crown : GoodIn wsL_law (wsV RL 67 RX9 yX9_crown wsX9_crown) := goodIn_app (goodIn_of _ (by decide +kernel)) ggL_law_X9_crown
set_option maxRecDepth 20000 in
theorem ggL_law_X8_noon : GoodIn wsL_law wsX8_noon := goodIn_r _ [417, 20, 45, 24, 389, 390, 391, 19, 392, 393, 394, 395, 396, 58, 397, 272, 273, 274, 60, 266, 259, 260, 261, 57, 398, 399, 400, 401, 402, 263, 264, 265, 267, 268, 269, 270, 311, 312, 313, 23, 314, 67, 66, 65, 315, 316, 317, 318, 319, 320, 321, 322, 323, 227, 228, 229, 830, 831, 832, 833, 834, 835, 836, 837, 838, 875, 876, 877, 878, 879, 880, 881] (by decide +kernel) (by decide +kernel)
set_option maxRecDepth 20000 in
theorem gL_law_X8_noon : GoodIn wsL_law (wsV RL 68 RX8 yX8_noon wsX8_noon) := goodIn_app (goodIn_of _ (by decide +kernel)) ggL_law_X8_noon
set_option maxRecDepth 20000 in
theorem ggL_law_X9_noon : GoodIn wsL_law wsX9_noon := goodIn_r _ [421, 132, 115, 336, 337, 338, 5, 339, 117, 340, 249, 407, 408, 409, 410, 246, 287, 288, 289, 290, 248, 283, 284, 285, 286, 411, 412, 413, 839, 840, 841, 842, 843, 844, 845, 846, 847, 848, 849, 850, 851, 852, 853, 854, 855, 856, 857, 858, 859, 860, 861, 862, 863, 864, 865, 866, 867, 868, 869, 870, 871, 872] (by decide +kernel) (by decide +kernel)
set_option maxRecDepth 20000 in
theorem gL_law_X9_noon : GoodIn wsL_law (wsV RL 71 RX9 yX9_noon wsX9_noon) := goodIn_app (goodIn_of _ (by decide +kernel)) ggL_law_X9_noon
set_option maxRecDepth 20000 in
theorem ggL_law_X8_undo : GoodIn wsL_law wsX8_undo := goodIn_r _ [425, 24, 20, 426, 427, 428, 23, 429, 67, 430, 431, 432, 433, 65, 66, 434, 435, 436, 19, 437, 57, 319, 320, 321, 322, 830, 831, 832, 833, 834, 835, 836, 837, 838, 879, 880, 881, 875, 876, 877, 878] (by decide +kernel) (by decide +kernel)
set_option maxRecDepth 20000 in
theorem gL_law_X8_undo : GoodIn wsL_law (wsV RL 72 RX8 yX8_undo wsX8_undo) := goodIn_app (goodIn_of _ (by decide +kernel)) ggL_law_X8_undo
set_option maxRecDepth 20000 in
theorem ggL_law_X9_undo : GoodIn wsL_law wsX9_undo := goodIn_r _ [441, 249, 340, 115, 117, 839, 840, 841, 842, 843, 844, 845, 846, 847, 848, 849, 850, 851, 852, 853, 854, 855, 856, 857, 858, 859, 860, 861, 862, 863, 864, 865, 866, 867, 868, 869, 870, 871, 872] (by decide +kernel) (by decide +kernel)
set_option maxRecDepth 20000 in
theorem gL_law_X9_undo : GoodIn wsL_law (wsV RL 75 RX9 yX9_undo wsX9_undo) := goodIn_app (goodIn_of _ (by decide +kernel)) ggL_law_X9_undo
set_option maxRecDepth 20000 in
theorem ggL_law_X8_sure : GoodIn wsL_law wsX8_sure := goodIn_r _ [445, 446, 447, 448, 2, 449, 20, 254, 255, 256, 19, 257, 58, 238, 239, 240, 241, 450, 451, 452, 453, 454, 455, 456, 457, 458, 459, 460, 461, 59, 328, 329, 210, 330, 266, 259, 260, 261, 57, 267, 268, 269, 270, 462, 463, 464, 830, 831, 832, 833, 834, 835, 836, 837, 838, 875, 876, 877, 878] (by decide +kernel) (by decide +kernel)
set_option maxRecDepth 20000 in
theorem gL_law_X8_sure : GoodIn wsL_law (wsV RL 76 RX8 yX8_sure wsX8_sure) := goodIn_app (goodIn_of _ (by decide +kernel)) ggL_law_X8_sure
set_option maxRecDepth 20000 in
theorem ggL_law_X9_sure : GoodIn wsL_law wsX9_sure := goodIn_r _ [468, 469, 335, 246, 279, 280, 281, 5, 282, 152, 153, 154, 470, 471, 472, 473, 474, 475, 476, 477, 115, 247, 349, 350, 351, 283, 284, 285, 286, 411, 412, 413, 478, 479, 480, 839, 840, 841, 842, 843, 844, 845, 846, 847, 848, 849, 850, 851, 852, 853, 854, 855, 856, 857, 858, 859, 860, 861, 862, 863, 864, 865, 866, 867, 868, 869, 870, 871, 872] (by decide +kernel) (by decide +kernel)
set_option maxRecDepth 20000 in
theorem gL_law_X9_sure : GoodIn wsL_law (wsV RL 80 RX9 yX9_sure wsX9_sure) := goodIn_app (goodIn_of _ (by decide +kernel)) ggL_law_X9_sure
set_option maxRecDepth 20000 in
theorem ggL_law_X8_sureAt : GoodIn wsL_law wsX8_sureAt := goodIn_r _ [484, 446, 447, 448, 2, 449, 20, 254, 255, 256, 19, 257, 58, 238, 239, 240, 241, 450, 451, 452, 453, 454, 455, 456, 457, 458, 459, 460, 461, 59, 328, 329, 210, 330, 266, 259, 260, 261, 57, 267, 268, 269, 270, 462, 463, 464, 830, 831, 832, 833, 834, 835, 836, 837, 838, 875, 876, 877, 878] (by decide +kernel) (by decide +kernel)
set_option maxRecDepth 20000 in
theorem gL_law_X8_sureAt : GoodIn wsL_law (wsV RL 81 RX8 yX8_sureAt wsX8_sureAt) := goodIn_app (goodIn_of _ (by decide +kernel)) ggL_law_X8_sureAt
set_option maxRecDepth 20000 in
theorem ggL_law_X9_sureAt : GoodIn wsL_law wsX9_sureAt := goodIn_r _ [488, 469, 335, 246, 279, 280, 281, 5, 282, 152, 153, 154, 470, 471, 472, 473, 474, 475, 476, 477, 115, 247, 349, 350, 351, 283, 284, 285, 286, 411, 412, 413, 478, 479, 480, 839, 840, 841, 842, 843, 844, 845, 846, 847, 848, 849, 850, 851, 852, 853, 854, 855, 856, 857, 858, 859, 860, 861, 862, 863, 864, 865, 866, 867, 868, 869, 870, 871, 872] (by decide +kernel) (by decide +kernel)
set_option maxRecDepth 20000 in
theorem gL_law_X9_sureAt : GoodIn wsL_law (wsV RL 85 RX9 yX9_sureAt wsX9_sureAt) := goodIn_app (goodIn_of _ (by decide +kernel)) ggL_law_X9_sureAt
set_option maxRecDepth 20000 in
theorem ggL_law_X8_feed : GoodIn wsL_law wsX8_feed := goodIn_r _ [492, 20, 254, 255, 256, 19, 257, 58, 493, 494, 495, 496, 402, 263, 264, 265, 266, 259, 260, 261, 57, 267, 268, 269, 270, 830, 831, 832, 833, 834, 835, 836, 837, 838, 875, 876, 877, 878] (by decide +kernel) (by decide +kernel)
set_option maxRecDepth 20000 in
theorem gL_law_X8_feed : GoodIn wsL_law (wsV RL 86 RX8 yX8_feed wsX8_feed) := goodIn_app (goodIn_of _ (by decide +kernel)) ggL_law_X8_feed
set_option maxRecDepth 20000 in
theorem ggL_law_X9_feed : GoodIn wsL_law wsX9_feed := goodIn_r _ [500, 246, 279, 280, 281, 5, 282, 152, 153, 154, 283, 284, 285, 286, 115, 411, 412, 413, 839, 840, 841, 842, 843, 844, 845, 846, 847, 848, 849, 850, 851, 852, 853, 854, 855, 856, 857, 858, 859, 860, 861, 862, 863, 864, 865, 866, 867, 868, 869, 870, 871, 872] (by decide +kernel) (by decide +kernel)
set_option maxRecDepth 20000 in
theorem gL_law_X9_feed : GoodIn wsL_law (wsV RL 89 RX9 yX9_feed wsX9_feed) := goodIn_app (goodIn_of _ (by decide +kernel)) ggL_law_X9_feed
set_option maxRecDepth 20000 in
theorem ggL_law_X8_weigh : GoodIn wsL_law wsX8_weigh := goodIn_r _ [504, 32, 505, 506, 31, 507, 508, 509, 510, 511, 512, 513, 514, 515, 516, 517, 518, 81, 78, 79, 80, 519, 520, 521, 522, 830, 831, 832, 833, 834, 835, 836, 837, 838, 884, 885, 886, 887] (by decide +kernel) (by decide +kernel)
set_option maxRecDepth 20000 in
theorem gL_law_X8_weigh : GoodIn wsL_law (wsV RL 90 RX8 yX8_weigh wsX8_weigh) := goodIn_app (goodIn_of _ (by decide +kernel)) ggL_law_X8_weigh
set_option maxRecDepth 20000 in
theorem ggL_law_X9_weigh : GoodIn wsL_law wsX9_weigh := goodIn_r _ [526, 527, 302, 528, 118, 119, 120, 152, 153, 5, 154, 529, 530, 531, 839, 840, 841, 842, 843, 844, 845, 846, 847, 848, 849, 850, 851, 852, 853, 854, 855, 856, 857, 858, 859, 860, 861, 862, 863, 864, 865, 866, 867, 868, 869, 870, 871, 872] (by decide +kernel) (by decide +kernel)
set_option maxRecDepth 20000 in
theorem gL_law_X9_weigh : GoodIn wsL_law (wsV RL 93 RX9 yX9_weigh wsX9_weigh) := goodIn_app (goodIn_of _ (by decide +kernel)) ggL_law_X9_weigh
set_option maxRecDepth 20000 in
theorem ggL_law_X8_unweigh : GoodIn wsL_law wsX8_unweigh := goodIn_r _ [535, 32, 519, 520, 521, 31, 522, 81, 536, 537, 538, 539, 830, 831, 832, 833, 834, 835, 836, 837, 838, 884, 885, 886, 887] (by decide +kernel) (by decide +kernel)
set_option maxRecDepth 20000 in
theorem gL_law_X8_unweigh : GoodIn wsL_law (wsV RL 94 RX8 yX8_unweigh wsX8_unweigh) := goodIn_app (goodIn_of _ (by decide +kernel)) ggL_law_X8_unweigh
set_option maxRecDepth 20000 in
theorem ggL_law_X9_unweigh : GoodIn wsL_law wsX9_unweigh := goodIn_r _ [543, 528, 839, 840, 841, 842, 843, 844, 845, 846, 847, 848, 849, 850, 851, 852, 853, 854, 855, 856, 857, 858, 859, 860, 861, 862, 863, 864, 865, 866, 867, 868, 869, 870, 871, 872] (by decide +kernel) (by decide +kernel)
set_option maxRecDepth 20000 in
theorem gL_law_X9_unweigh : GoodIn wsL_law (wsV RL 97 RX9 yX9_unweigh wsX9_unweigh) := goodIn_app (goodIn_of _ (by decide +kernel)) ggL_law_X9_unweigh
set_option maxRecDepth 20000 in
theorem ggL_law_X8_mayBe : GoodIn wsL_law wsX8_mayBe := goodIn_r _ [547, 32, 548, 549, 550, 31, 551, 81, 552, 553, 554, 555, 80, 78, 79, 830, 831, 832, 833, 834, 835, 836, 837, 838, 884, 885, 886, 887] (by decide +kernel) (by decide +kernel)
set_option maxRecDepth 20000 in
theorem gL_law_X8_mayBe : GoodIn wsL_law (wsV RL 98 RX8 yX8_mayBe wsX8_mayBe) := goodIn_app (goodIn_of _ (by decide +kernel)) ggL_law_X8_mayBe
set_option maxRecDepth 20000 in
theorem ggL_law_X9_mayBe : GoodIn wsL_law wsX9_mayBe := goodIn_r _ [559, 528, 118, 119, 120, 839, 840, 841, 842, 843, 844, 845, 846, 847, 848, 849, 850, 851, 852, 853, 854, 855, 856, 857, 858, 859, 860, 861, 862, 863, 864, 865, 866, 867, 868, 869, 870, 871, 872] (by decide +kernel) (by decide +kernel)
set_option maxRecDepth 20000 in
theorem gL_law_X9_mayBe : GoodIn wsL_law (wsV RL 102 RX9 yX9_mayBe wsX9_mayBe) := goodIn_app (goodIn_of _ (by decide +kernel)) ggL_law_X9_mayBe
set_option maxRecDepth 20000 in
theorem ggL_law_X8_search : GoodIn wsL_law wsX8_search := goodIn_r _ [563, 36, 564, 565, 566, 35, 567, 90, 86, 87, 92, 568, 569, 570, 571, 830, 831, 832, 833, 834, 835, 836, 837, 838, 888, 889, 890, 891, 892, 893, 894] (by decide +kernel) (by decide +kernel)
set_option maxRecDepth 20000 in
theorem gL_law_X8_search : GoodIn wsL_law (wsV RL 103 RX8 yX8_search wsX8_search) := goodIn_app (goodIn_of _ (by decide +kernel)) ggL_law_X8_search
set_option maxRecDepth 20000 in
theorem ggL_law_X9_search : GoodIn wsL_law wsX9_search := goodIn_r _ [575, 576, 577, 578, 121, 122, 152, 153, 5, 154, 839, 840, 841, 842, 843, 844, 845, 846, 847, 848, 849, 850, 851, 852, 853, 854, 855, 856, 857, 858, 859, 860, 861, 862, 863, 864, 865, 866, 867, 868, 869, 870, 871, 872] (by decide +kernel) (by decide +kernel)
set_option maxRecDepth 20000 in
theorem gL_law_X9_search : GoodIn wsL_law (wsV RL 106 RX9 yX9_search wsX9_search) := goodIn_app (goodIn_of _ (by decide +kernel)) ggL_law_X9_search
set_option maxRecDepth 20000 in
theorem ggL_law_X8_unsearch : GoodIn wsL_law wsX8_unsearch := goodIn_r _ [582, 36, 568, 569, 570, 35, 571, 90, 583, 584, 585, 586, 92, 830, 831, 832, 833, 834, 835, 836, 837, 838, 888, 889, 890, 891, 892, 893, 894] (by decide +kernel) (by decide +kernel)
set_option maxRecDepth 20000 in
theorem gL_law_X8_unsearch : GoodIn wsL_law (wsV RL 107 RX8 yX8_unsearch wsX8_unsearch) := goodIn_app (goodIn_of _ (by decide +kernel)) ggL_law_X8_unsearch
set_option maxRecDepth 20000 in
theorem ggL_law_X9_unsearch : GoodIn wsL_law wsX9_unsearch := goodIn_r _ [590, 578, 839, 840, 841, 842, 843, 844, 845, 846, 847, 848, 849, 850, 851, 852, 853, 854, 855, 856, 857, 858, 859, 860, 861, 862, 863, 864, 865, 866, 867, 868, 869, 870, 871, 872] (by decide +kernel) (by decide +kernel)
set_option maxRecDepth 20000 in
theorem gL_law_X9_unsearch : GoodIn wsL_law (wsV RL 110 RX9 yX9_unsearch wsX9_unsearch) := goodIn_app (goodIn_of _ (by decide +kernel)) ggL_law_X9_unsearch
set_option maxRecDepth 20000 in
theorem ggL_law_X8_rows : GoodIn wsL_law wsX8_rows := goodIn_r _ [594, 36, 595, 596, 597, 35, 598, 92, 88, 89, 91, 599, 213, 214, 215, 600, 601, 602, 603, 604, 605, 606, 90, 86, 87, 607, 329, 210, 330, 608, 609, 610, 611, 612, 509, 510, 511, 512, 513, 514, 613, 614, 615, 616, 617, 209, 211, 618, 619, 620, 621, 622, 623, 624, 625, 626, 627, 628, 629, 830, 831, 832, 833, 834, 835, 836, 837, 838, 888, 889, 890, 891, 892, 893, 894] (by decide +kernel) (by decide +kernel)
set_option maxRecDepth 20000 in
theorem gL_law_X8_rows : GoodIn wsL_law (wsV RL 111 RX8 yX8_rows wsX8_rows) := goodIn_app (goodIn_of _ (by decide +kernel)) ggL_law_X8_rows
set_option maxRecDepth 20000 in
theorem ggL_law_X9_rows : GoodIn wsL_law wsX9_rows := goodIn_r _ [633, 634, 635, 636, 5, 637, 123, 124, 638, 639, 640, 641, 642, 578, 121, 122, 643, 644, 645, 839, 840, 841, 842, 843, 844, 845, 846, 847, 848, 849, 850, 851, 852, 853, 854, 855, 856, 857, 858, 859, 860, 861, 862, 863, 864, 865, 866, 867, 868, 869, 870, 871, 872] (by decide +kernel) (by decide +kernel)
set_option maxRecDepth 20000 in
theorem gL_law_X9_rows : GoodIn wsL_law (wsV RL 114 RX9 yX9_rows wsX9_rows) := goodIn_app (goodIn_of _ (by decide +kernel)) ggL_law_X9_rows
set_option maxRecDepth 20000 in
theorem ggL_law_X8_stones : GoodIn wsL_law wsX8_stones := goodIn_r _ [649, 36, 595, 596, 597, 35, 598, 92, 88, 89, 91, 599, 213, 214, 215, 600, 601, 602, 603, 604, 605, 606, 90, 86, 87, 607, 329, 210, 330, 608, 609, 610, 611, 612, 509, 510, 511, 512, 513, 514, 613, 614, 615, 616, 617, 209, 211, 618, 619, 620, 621, 622, 623, 624, 625, 626, 627, 628, 629, 650, 651, 652, 653, 654, 655, 656, 657, 830, 831, 832, 833, 834, 835, 836, 837, 838, 888, 889, 890, 891, 892, 893, 894] (by decide +kernel) (by decide +kernel)
set_option maxRecDepth 20000 in
theorem gL_law_X8_stones : GoodIn wsL_law (wsV RL 115 RX8 yX8_stones wsX8_stones) := goodIn_app (goodIn_of _ (by decide +kernel)) ggL_law_X8_stones
set_option maxRecDepth 20000 in
theorem ggL_law_X9_stones : GoodIn wsL_law wsX9_stones := goodIn_r _ [661, 662, 124, 123, 152, 153, 5, 154, 634, 635, 636, 637, 638, 639, 640, 641, 642, 578, 121, 122, 643, 644, 645, 839, 840, 841, 842, 843, 844, 845, 846, 847, 848, 849, 850, 851, 852, 853, 854, 855, 856, 857, 858, 859, 860, 861, 862, 863, 864, 865, 866, 867, 868, 869, 870, 871, 872] (by decide +kernel) (by decide +kernel)
set_option maxRecDepth 20000 in
theorem gL_law_X9_stones : GoodIn wsL_law (wsV RL 119 RX9 yX9_stones wsX9_stones) := goodIn_app (goodIn_of _ (by decide +kernel)) ggL_law_X9_stones
set_option maxRecDepth 20000 in
theorem ggL_law_X8_ruled : GoodIn wsL_law wsX8_ruled := goodIn_r _ [666, 20, 40, 254, 255, 256, 19, 257, 58, 667, 668, 669, 39, 670, 101, 97, 671, 672, 673, 674, 830, 831, 832, 833, 834, 835, 836, 837, 838, 875, 876, 877, 878, 895, 896, 897, 898] (by decide +kernel) (by decide +kernel)
set_option maxRecDepth 20000 in
theorem gL_law_X8_ruled : GoodIn wsL_law (wsV RL 120 RX8 yX8_ruled wsX8_ruled) := goodIn_app (goodIn_of _ (by decide +kernel)) ggL_law_X8_ruled
set_option maxRecDepth 20000 in
theorem ggL_law_X9_ruled : GoodIn wsL_law wsX9_ruled := goodIn_r _ [678, 679, 125, 279, 280, 281, 5, 282, 246, 152, 153, 154, 839, 840, 841, 842, 843, 844, 845, 846, 847, 848, 849, 850, 851, 852, 853, 854, 855, 856, 857, 858, 859, 860, 861, 862, 863, 864, 865, 866, 867, 868, 869, 870, 871, 872] (by decide +kernel) (by decide +kernel)
set_option maxRecDepth 20000 in
theorem gL_law_X9_ruled : GoodIn wsL_law (wsV RL 123 RX9 yX9_ruled wsX9_ruled) := goodIn_app (goodIn_of _ (by decide +kernel)) ggL_law_X9_ruled
set_option maxRecDepth 20000 in
theorem ggL_law_X8_unrule : GoodIn wsL_law wsX8_unrule := goodIn_r _ [683, 40, 671, 672, 673, 39, 674, 101, 684, 685, 686, 687, 830, 831, 832, 833, 834, 835, 836, 837, 838, 895, 896, 897, 898] (by decide +kernel) (by decide +kernel)
set_option maxRecDepth 20000 in
theorem gL_law_X8_unrule : GoodIn wsL_law (wsV RL 124 RX8 yX8_unrule wsX8_unrule) := goodIn_app (goodIn_of _ (by decide +kernel)) ggL_law_X8_unrule
set_option maxRecDepth 20000 in
theorem ggL_law_X9_unrule : GoodIn wsL_law wsX9_unrule := goodIn_r _ [691, 679, 839, 840, 841, 842, 843, 844, 845, 846, 847, 848, 849, 850, 851, 852, 853, 854, 855, 856, 857, 858, 859, 860, 861, 862, 863, 864, 865, 866, 867, 868, 869, 870, 871, 872] (by decide +kernel) (by decide +kernel)
set_option maxRecDepth 20000 in
theorem gL_law_X9_unrule : GoodIn wsL_law (wsV RL 127 RX9 yX9_unrule wsX9_unrule) := goodIn_app (goodIn_of _ (by decide +kernel)) ggL_law_X9_unrule
set_option maxRecDepth 20000 in
theorem ggL_law_X8_line : GoodIn wsL_law wsX8_line := goodIn_r _ [695, 20, 696, 40, 238, 239, 240, 19, 241, 58, 697, 698, 699, 39, 700, 701, 209, 210, 211, 98, 100, 101, 702, 97, 703, 704, 263, 264, 265, 266, 259, 260, 261, 57, 267, 268, 269, 270, 705, 706, 214, 707, 708, 709, 710, 711, 712, 713, 714, 715, 716, 717, 718, 719, 720, 721, 722, 723, 830, 831, 832, 833, 834, 835, 836, 837, 838, 875, 876, 877, 878, 895, 896, 897, 898] (by decide +kernel) (by decide +kernel)
set_option maxRecDepth 20000 in
theorem gL_law_X8_line : GoodIn wsL_law (wsV RL 128 RX8 yX8_line wsX8_line) := goodIn_app (goodIn_of _ (by decide +kernel)) ggL_law_X8_line
set_option maxRecDepth 20000 in
theorem ggL_law_X9_line : GoodIn wsL_law wsX9_line := goodIn_r _ [727, 246, 728, 729, 126, 679, 125, 152, 153, 5, 154, 730, 731, 732, 733, 127, 734, 735, 736, 737, 283, 284, 285, 286, 115, 738, 739, 740, 411, 412, 413, 839, 840, 841, 842, 843, 844, 845, 846, 847, 848, 849, 850, 851, 852, 853, 854, 855, 856, 857, 858, 859, 860, 861, 862, 863, 864, 865, 866, 867, 868, 869, 870, 871, 872] (by decide +kernel) (by decide +kernel)
set_option maxRecDepth 20000 in
theorem gL_law_X9_line : GoodIn wsL_law (wsV RL 132 RX9 yX9_line wsX9_line) := goodIn_app (goodIn_of _ (by decide +kernel)) ggL_law_X9_line
set_option maxRecDepth 20000 in
theorem ggL_law_X8_seed : GoodIn wsL_law wsX8_seed := goodIn_r _ [744, 44, 745, 746, 747, 43, 748, 108, 830, 831, 832, 833, 834, 835, 836, 837, 838, 899, 900] (by decide +kernel) (by decide +kernel)
set_option maxRecDepth 20000 in
theorem gL_law_X8_seed : GoodIn wsL_law (wsV RL 133 RX8 yX8_seed wsX8_seed) := goodIn_app (goodIn_of _ (by decide +kernel)) ggL_law_X8_seed
set_option maxRecDepth 20000 in
theorem ggL_law_X9_seed : GoodIn wsL_law wsX9_seed := goodIn_r _ [752, 753, 839, 840, 841, 842, 843, 844, 845, 846, 847, 848, 849, 850, 851, 852, 853, 854, 855, 856, 857, 858, 859, 860, 861, 862, 863, 864, 865, 866, 867, 868, 869, 870, 871, 872] (by decide +kernel) (by decide +kernel)
set_option maxRecDepth 20000 in
theorem gL_law_X9_seed : GoodIn wsL_law (wsV RL 137 RX9 yX9_seed wsX9_seed) := goodIn_app (goodIn_of _ (by decide +kernel)) ggL_law_X9_seed
set_option maxRecDepth 20000 in
theorem ggL_law_X8_reign : GoodIn wsL_law wsX8_reign := goodIn_r _ [757, 20, 44, 254, 255, 256, 19, 257, 58, 295, 296, 2, 297, 758, 759, 760, 43, 761, 107, 762, 763, 764, 765, 57, 319, 320, 321, 322, 59, 60, 766, 239, 240, 241, 767, 768, 769, 770, 108, 771, 772, 773, 325, 326, 327, 328, 329, 210, 330, 266, 259, 260, 261, 226, 227, 228, 229, 774, 390, 391, 392, 393, 394, 395, 396, 397, 272, 273, 274, 398, 399, 400, 401, 402, 263, 264, 265, 267, 268, 269, 270, 830, 831, 832, 833, 834, 835, 836, 837, 838, 875, 876, 877, 878, 899, 900] (by decide +kernel) (by decide +kernel)
set_option maxRecDepth 20000 in
theorem gL_law_X8_reign : GoodIn wsL_law (wsV RL 138 RX8 yX8_reign wsX8_reign) := goodIn_app (goodIn_of _ (by decide +kernel)) ggL_law_X8_reign
set_option maxRecDepth 20000 in
theorem ggL_law_X9_reign : GoodIn wsL_law wsX9_reign := goodIn_r _ [778, 302, 128, 115, 246, 753, 779, 780, 781, 279, 280, 281, 5, 282, 152, 153, 154, 349, 350, 351, 407, 408, 409, 410, 287, 288, 289, 290, 248, 283, 284, 285, 286, 411, 412, 413, 839, 840, 841, 842, 843, 844, 845, 846, 847, 848, 849, 850, 851, 852, 853, 854, 855, 856, 857, 858, 859, 860, 861, 862, 863, 864, 865, 866, 867, 868, 869, 870, 871, 872] (by decide +kernel) (by decide +kernel)
set_option maxRecDepth 20000 in
theorem gL_law_X9_reign : GoodIn wsL_law (wsV RL 141 RX9 yX9_reign wsX9_reign) := goodIn_app (goodIn_of _ (by decide +kernel)) ggL_law_X9_reign
set_option maxRecDepth 20000 in
theorem ggL_law_X8_keep : GoodIn wsL_law wsX8_keep := goodIn_r _ [785, 28, 20, 786, 787, 27, 788, 789, 790, 791, 792, 72, 73, 793, 794, 316, 317, 19, 318, 57, 319, 320, 321, 322, 377, 378, 379, 380, 830, 831, 832, 833, 834, 835, 836, 837, 838, 882, 883, 875, 876, 877, 878] (by decide +kernel) (by decide +kernel)
set_option maxRecDepth 20000 in
theorem gL_law_X8_keep : GoodIn wsL_law (wsV RL 142 RX8 yX8_keep wsX8_keep) := goodIn_app (goodIn_of _ (by decide +kernel)) ggL_law_X8_keep
set_option maxRecDepth 20000 in
theorem ggL_law_X9_keep : GoodIn wsL_law wsX9_keep := goodIn_r _ [798, 130, 131, 115, 152, 153, 5, 154, 839, 840, 841, 842, 843, 844, 845, 846, 847, 848, 849, 850, 851, 852, 853, 854, 855, 856, 857, 858, 859, 860, 861, 862, 863, 864, 865, 866, 867, 868, 869, 870, 871, 872] (by decide +kernel) (by decide +kernel)
set_option maxRecDepth 20000 in
theorem gL_law_X9_keep : GoodIn wsL_law (wsV RL 145 RX9 yX9_keep wsX9_keep) := goodIn_app (goodIn_of _ (by decide +kernel)) ggL_law_X9_keep
set_option maxRecDepth 20000 in
theorem ggL_law_X8_again : GoodIn wsL_law wsX8_again := goodIn_r _ [802, 28, 20, 24, 786, 787, 27, 788, 803, 804, 805, 806, 73, 793, 807, 808, 809, 810, 72, 811, 812, 435, 436, 19, 437, 57, 319, 320, 321, 322, 230, 231, 232, 23, 233, 67, 377, 378, 379, 380, 830, 831, 832, 833, 834, 835, 836, 837, 838, 882, 883, 875, 876, 877, 878, 879, 880, 881] (by decide +kernel) (by decide +kernel)
set_option maxRecDepth 20000 in
theorem gL_law_X8_again : GoodIn wsL_law (wsV RL 146 RX8 yX8_again wsX8_again) := goodIn_app (goodIn_of _ (by decide +kernel)) ggL_law_X8_again
set_option maxRecDepth 20000 in
theorem ggL_law_X9_again : GoodIn wsL_law wsX9_again := goodIn_r _ [816, 130, 115, 131, 249, 152, 153, 5, 154, 839, 840, 841, 842, 843, 844, 845, 846, 847, 848, 849, 850, 851, 852, 853, 854, 855, 856, 857, 858, 859, 860, 861, 862, 863, 864, 865, 866, 867, 868, 869, 870, 871, 872] (by decide +kernel) (by decide +kernel)
set_option maxRecDepth 20000 in
theorem gL_law_X9_again : GoodIn wsL_law (wsV RL 149 RX9 yX9_again wsX9_again) := goodIn_app (goodIn_of _ (by decide +kernel)) ggL_law_X9_again
set_option maxRecDepth 20000 in
theorem ggL_law_X8_count : GoodIn wsL_law wsX8_count := goodIn_r _ [820, 16, 20, 24, 32, 36, 40, 45, 141, 142, 143, 15, 144, 52, 238, 239, 240, 19, 241, 58, 377, 378, 379, 380, 57, 426, 427, 428, 23, 429, 67, 519, 520, 521, 31, 522, 81, 568, 569, 570, 35, 571, 90, 671, 672, 673, 39, 674, 101, 821, 394, 395, 396, 397, 272, 273, 274, 60, 266, 259, 260, 261, 822, 823, 824, 825, 830, 831, 832, 833, 834, 835, 836, 837, 838, 873, 874, 875, 876, 877, 878, 879, 880, 881, 884, 885, 886, 887, 888, 889, 890, 891, 892, 893, 894, 895, 896, 897, 898] (by decide +kernel) (by decide +kernel)
set_option maxRecDepth 20000 in
theorem gL_law_X8_count : GoodIn wsL_law (wsV RL 150 RX8 yX8_count wsX8_count) := goodIn_app (goodIn_of _ (by decide +kernel)) ggL_law_X8_count
set_option maxRecDepth 20000 in
theorem ggL_law_X9_count : GoodIn wsL_law wsX9_count := goodIn_r _ [829, 246, 115, 150, 249, 528, 578, 679, 132, 287, 288, 289, 5, 290, 248, 839, 840, 841, 842, 843, 844, 845, 846, 847, 848, 849, 850, 851, 852, 853, 854, 855, 856, 857, 858, 859, 860, 861, 862, 863, 864, 865, 866, 867, 868, 869, 870, 871, 872] (by decide +kernel) (by decide +kernel)
set_option maxRecDepth 20000 in
theorem gL_law_X9_count : GoodIn wsL_law (wsV RL 153 RX9 yX9_count wsX9_count) := goodIn_app (goodIn_of _ (by decide +kernel)) ggL_law_X9_count
end
section
theorem dL_law_0 : decode cL_law 0 = .ok (.new 7, 3) := by decide +kernel
theorem dL_law_3 : decode cL_law 3 = .ok (.dup, 1) := by decide +kernel
theorem dL_law_4 : decode cL_law 4 = .ok (.invokespecial 9, 3) := by decide +kernel
theorem dL_law_7 : decode cL_law 7 = .ok (.astore_n 1, 1) := by decide +kernel
theorem dL_law_8 : decode cL_law 8 = .ok (.new 10, 3) := by decide +kernel
theorem dL_law_11 : decode cL_law 11 = .ok (.dup, 1) := by decide +kernel
theorem dL_law_12 : decode cL_law 12 = .ok (.invokespecial 12, 3) := by decide +kernel
theorem dL_law_15 : decode cL_law 15 = .ok (.astore_n 2, 1) := by decide +kernel
theorem dL_law_16 : decode cL_law 16 = .ok (.iconst 0, 1) := by decide +kernel
theorem dL_law_17 : decode cL_law 17 = .ok (.istore_n 3, 1) := by decide +kernel
theorem dL_law_18 : decode cL_law 18 = .ok (.iload_n 3, 1) := by decide +kernel
theorem dL_law_19 : decode cL_law 19 = .ok (.aload_n 0, 1) := by decide +kernel
theorem dL_law_20 : decode cL_law 20 = .ok (.arraylength, 1) := by decide +kernel
theorem dL_law_21 : decode cL_law 21 = .ok (.iconst 5, 1) := by decide +kernel
theorem dL_law_22 : decode cL_law 22 = .ok (.isub, 1) := by decide +kernel
theorem dL_law_23 : decode cL_law 23 = .ok (.if_icmp .gt 1055, 3) := by decide +kernel
theorem dL_law_26 : decode cL_law 26 = .ok (.aload_n 0, 1) := by decide +kernel
theorem dL_law_27 : decode cL_law 27 = .ok (.iload_n 3, 1) := by decide +kernel
theorem dL_law_28 : decode cL_law 28 = .ok (.iaload, 1) := by decide +kernel
theorem dL_law_29 : decode cL_law 29 = .ok (.bipush 31, 2) := by decide +kernel
theorem dL_law_31 : decode cL_law 31 = .ok (.iand, 1) := by decide +kernel
theorem dL_law_32 : decode cL_law 32 = .ok (.tableswitch 1040 0 31 #[144, 207, 220, 233, 246, 279, 302, 335, 368, 401, 460, 473, 486, 499, 512, 555, 608, 631, 674, 687, 726, 759, 772, 785, 834, 857, 870, 884, 938, 971, 994, 1017], 144) := by decide +kernel
theorem dL_law_176 : decode cL_law 176 = .ok (.aload_n 1, 1) := by decide +kernel
theorem dL_law_177 : decode cL_law 177 = .ok (.aload_n 0, 1) := by decide +kernel
theorem dL_law_178 : decode cL_law 178 = .ok (.iload_n 3, 1) := by decide +kernel
theorem dL_law_179 : decode cL_law 179 = .ok (.iconst 1, 1) := by decide +kernel
theorem dL_law_180 : decode cL_law 180 = .ok (.iadd, 1) := by decide +kernel
theorem dL_law_181 : decode cL_law 181 = .ok (.iaload, 1) := by decide +kernel
theorem dL_law_182 : decode cL_law 182 = .ok (.aload_n 0, 1) := by decide +kernel
theorem dL_law_183 : decode cL_law 183 = .ok (.iload_n 3, 1) := by decide +kernel
theorem dL_law_184 : decode cL_law 184 = .ok (.iconst 2, 1) := by decide +kernel
theorem dL_law_185 : decode cL_law 185 = .ok (.iadd, 1) := by decide +kernel
theorem dL_law_186 : decode cL_law 186 = .ok (.iaload, 1) := by decide +kernel
theorem dL_law_187 : decode cL_law 187 = .ok (.i2l, 1) := by decide +kernel
theorem dL_law_188 : decode cL_law 188 = .ok (.bipush 32, 2) := by decide +kernel
theorem dL_law_190 : decode cL_law 190 = .ok (.lshl, 1) := by decide +kernel
theorem dL_law_191 : decode cL_law 191 = .ok (.aload_n 0, 1) := by decide +kernel
theorem dL_law_192 : decode cL_law 192 = .ok (.iload_n 3, 1) := by decide +kernel
theorem dL_law_193 : decode cL_law 193 = .ok (.iconst 3, 1) := by decide +kernel
theorem dL_law_194 : decode cL_law 194 = .ok (.iadd, 1) := by decide +kernel
theorem dL_law_195 : decode cL_law 195 = .ok (.iaload, 1) := by decide +kernel
theorem dL_law_196 : decode cL_law 196 = .ok (.i2l, 1) := by decide +kernel
theorem dL_law_197 : decode cL_law 197 = .ok (.ldc2_w 13, 3) := by decide +kernel
theorem dL_law_200 : decode cL_law 200 = .ok (.land, 1) := by decide +kernel
theorem dL_law_201 : decode cL_law 201 = .ok (.lor, 1) := by decide +kernel
theorem dL_law_202 : decode cL_law 202 = .ok (.invokevirtual 15, 3) := by decide +kernel
theorem dL_law_205 : decode cL_law 205 = .ok (.aload_n 2, 1) := by decide +kernel
theorem dL_law_206 : decode cL_law 206 = .ok (.aload_n 0, 1) := by decide +kernel
theorem dL_law_207 : decode cL_law 207 = .ok (.iload_n 3, 1) := by decide +kernel
theorem dL_law_208 : decode cL_law 208 = .ok (.iconst 1, 1) := by decide +kernel
theorem dL_law_209 : decode cL_law 209 = .ok (.iadd, 1) := by decide +kernel
theorem dL_law_210 : decode cL_law 210 = .ok (.iaload, 1) := by decide +kernel
theorem dL_law_211 : decode cL_law 211 = .ok (.aload_n 0, 1) := by decide +kernel
theorem dL_law_212 : decode cL_law 212 = .ok (.iload_n 3, 1) := by decide +kernel
theorem dL_law_213 : decode cL_law 213 = .ok (.iconst 2, 1) := by decide +kernel
theorem dL_law_214 : decode cL_law 214 = .ok (.iadd, 1) := by decide +kernel
theorem dL_law_215 : decode cL_law 215 = .ok (.iaload, 1) := by decide +kernel
theorem dL_law_216 : decode cL_law 216 = .ok (.i2l, 1) := by decide +kernel
theorem dL_law_217 : decode cL_law 217 = .ok (.bipush 32, 2) := by decide +kernel
theorem dL_law_219 : decode cL_law 219 = .ok (.lshl, 1) := by decide +kernel
theorem dL_law_220 : decode cL_law 220 = .ok (.aload_n 0, 1) := by decide +kernel
theorem dL_law_221 : decode cL_law 221 = .ok (.iload_n 3, 1) := by decide +kernel
theorem dL_law_222 : decode cL_law 222 = .ok (.iconst 3, 1) := by decide +kernel
theorem dL_law_223 : decode cL_law 223 = .ok (.iadd, 1) := by decide +kernel
theorem dL_law_224 : decode cL_law 224 = .ok (.iaload, 1) := by decide +kernel
theorem dL_law_225 : decode cL_law 225 = .ok (.i2l, 1) := by decide +kernel
theorem dL_law_226 : decode cL_law 226 = .ok (.ldc2_w 13, 3) := by decide +kernel
theorem dL_law_229 : decode cL_law 229 = .ok (.land, 1) := by decide +kernel
theorem dL_law_230 : decode cL_law 230 = .ok (.lor, 1) := by decide +kernel
theorem dL_law_231 : decode cL_law 231 = .ok (.invokevirtual 19, 3) := by decide +kernel
theorem dL_law_234 : decode cL_law 234 = .ok (.if_icmp .eq 838, 3) := by decide +kernel
theorem dL_law_237 : decode cL_law 237 = .ok (.iconst 0, 1) := by decide +kernel
theorem dL_law_238 : decode cL_law 238 = .ok (.ireturn, 1) := by decide +kernel
theorem dL_law_239 : decode cL_law 239 = .ok (.aload_n 1, 1) := by decide +kernel
theorem dL_law_240 : decode cL_law 240 = .ok (.invokevirtual 20, 3) := by decide +kernel
theorem dL_law_243 : decode cL_law 243 = .ok (.aload_n 2, 1) := by decide +kernel
theorem dL_law_244 : decode cL_law 244 = .ok (.invokevirtual 24, 3) := by decide +kernel
theorem dL_law_247 : decode cL_law 247 = .ok (.if_icmp .eq 825, 3) := by decide +kernel
theorem dL_law_250 : decode cL_law 250 = .ok (.iconst 0, 1) := by decide +kernel
theorem dL_law_251 : decode cL_law 251 = .ok (.ireturn, 1) := by decide +kernel
theorem dL_law_252 : decode cL_law 252 = .ok (.aload_n 1, 1) := by decide +kernel
theorem dL_law_253 : decode cL_law 253 = .ok (.invokevirtual 25, 3) := by decide +kernel
theorem dL_law_256 : decode cL_law 256 = .ok (.aload_n 2, 1) := by decide +kernel
theorem dL_law_257 : decode cL_law 257 = .ok (.invokevirtual 28, 3) := by decide +kernel
theorem dL_law_260 : decode cL_law 260 = .ok (.if_icmp .eq 812, 3) := by decide +kernel
theorem dL_law_263 : decode cL_law 263 = .ok (.iconst 0, 1) := by decide +kernel
theorem dL_law_264 : decode cL_law 264 = .ok (.ireturn, 1) := by decide +kernel
theorem dL_law_265 : decode cL_law 265 = .ok (.aload_n 1, 1) := by decide +kernel
theorem dL_law_266 : decode cL_law 266 = .ok (.invokevirtual 29, 3) := by decide +kernel
theorem dL_law_269 : decode cL_law 269 = .ok (.aload_n 2, 1) := by decide +kernel
theorem dL_law_270 : decode cL_law 270 = .ok (.invokevirtual 32, 3) := by decide +kernel
theorem dL_law_273 : decode cL_law 273 = .ok (.if_icmp .eq 799, 3) := by decide +kernel
theorem dL_law_276 : decode cL_law 276 = .ok (.iconst 0, 1) := by decide +kernel
theorem dL_law_277 : decode cL_law 277 = .ok (.ireturn, 1) := by decide +kernel
theorem dL_law_278 : decode cL_law 278 = .ok (.aload_n 1, 1) := by decide +kernel
theorem dL_law_279 : decode cL_law 279 = .ok (.aload_n 0, 1) := by decide +kernel
theorem dL_law_280 : decode cL_law 280 = .ok (.iload_n 3, 1) := by decide +kernel
theorem dL_law_281 : decode cL_law 281 = .ok (.iconst 1, 1) := by decide +kernel
theorem dL_law_282 : decode cL_law 282 = .ok (.iadd, 1) := by decide +kernel
theorem dL_law_283 : decode cL_law 283 = .ok (.iaload, 1) := by decide +kernel
theorem dL_law_284 : decode cL_law 284 = .ok (.aload_n 0, 1) := by decide +kernel
theorem dL_law_285 : decode cL_law 285 = .ok (.iload_n 3, 1) := by decide +kernel
theorem dL_law_286 : decode cL_law 286 = .ok (.iconst 2, 1) := by decide +kernel
theorem dL_law_287 : decode cL_law 287 = .ok (.iadd, 1) := by decide +kernel
theorem dL_law_288 : decode cL_law 288 = .ok (.iaload, 1) := by decide +kernel
theorem dL_law_289 : decode cL_law 289 = .ok (.invokevirtual 33, 3) := by decide +kernel
theorem dL_law_292 : decode cL_law 292 = .ok (.aload_n 2, 1) := by decide +kernel
theorem dL_law_293 : decode cL_law 293 = .ok (.aload_n 0, 1) := by decide +kernel
theorem dL_law_294 : decode cL_law 294 = .ok (.iload_n 3, 1) := by decide +kernel
theorem dL_law_295 : decode cL_law 295 = .ok (.iconst 1, 1) := by decide +kernel
theorem dL_law_296 : decode cL_law 296 = .ok (.iadd, 1) := by decide +kernel
theorem dL_law_297 : decode cL_law 297 = .ok (.iaload, 1) := by decide +kernel
theorem dL_law_298 : decode cL_law 298 = .ok (.aload_n 0, 1) := by decide +kernel
theorem dL_law_299 : decode cL_law 299 = .ok (.iload_n 3, 1) := by decide +kernel
theorem dL_law_300 : decode cL_law 300 = .ok (.iconst 2, 1) := by decide +kernel
theorem dL_law_301 : decode cL_law 301 = .ok (.iadd, 1) := by decide +kernel
theorem dL_law_302 : decode cL_law 302 = .ok (.iaload, 1) := by decide +kernel
theorem dL_law_303 : decode cL_law 303 = .ok (.invokevirtual 37, 3) := by decide +kernel
theorem dL_law_306 : decode cL_law 306 = .ok (.if_icmp .eq 766, 3) := by decide +kernel
theorem dL_law_309 : decode cL_law 309 = .ok (.iconst 0, 1) := by decide +kernel
theorem dL_law_310 : decode cL_law 310 = .ok (.ireturn, 1) := by decide +kernel
theorem dL_law_311 : decode cL_law 311 = .ok (.aload_n 1, 1) := by decide +kernel
theorem dL_law_312 : decode cL_law 312 = .ok (.aload_n 0, 1) := by decide +kernel
theorem dL_law_313 : decode cL_law 313 = .ok (.iload_n 3, 1) := by decide +kernel
theorem dL_law_314 : decode cL_law 314 = .ok (.iconst 1, 1) := by decide +kernel
theorem dL_law_315 : decode cL_law 315 = .ok (.iadd, 1) := by decide +kernel
theorem dL_law_316 : decode cL_law 316 = .ok (.iaload, 1) := by decide +kernel
theorem dL_law_317 : decode cL_law 317 = .ok (.invokevirtual 38, 3) := by decide +kernel
theorem dL_law_320 : decode cL_law 320 = .ok (.aload_n 2, 1) := by decide +kernel
theorem dL_law_321 : decode cL_law 321 = .ok (.aload_n 0, 1) := by decide +kernel
theorem dL_law_322 : decode cL_law 322 = .ok (.iload_n 3, 1) := by decide +kernel
theorem dL_law_323 : decode cL_law 323 = .ok (.iconst 1, 1) := by decide +kernel
theorem dL_law_324 : decode cL_law 324 = .ok (.iadd, 1) := by decide +kernel
theorem dL_law_325 : decode cL_law 325 = .ok (.iaload, 1) := by decide +kernel
theorem dL_law_326 : decode cL_law 326 = .ok (.invokevirtual 42, 3) := by decide +kernel
theorem dL_law_329 : decode cL_law 329 = .ok (.if_icmp .eq 743, 3) := by decide +kernel
theorem dL_law_332 : decode cL_law 332 = .ok (.iconst 0, 1) := by decide +kernel
theorem dL_law_333 : decode cL_law 333 = .ok (.ireturn, 1) := by decide +kernel
theorem dL_law_334 : decode cL_law 334 = .ok (.aload_n 1, 1) := by decide +kernel
theorem dL_law_335 : decode cL_law 335 = .ok (.aload_n 0, 1) := by decide +kernel
theorem dL_law_336 : decode cL_law 336 = .ok (.iload_n 3, 1) := by decide +kernel
theorem dL_law_337 : decode cL_law 337 = .ok (.iconst 1, 1) := by decide +kernel
theorem dL_law_338 : decode cL_law 338 = .ok (.iadd, 1) := by decide +kernel
theorem dL_law_339 : decode cL_law 339 = .ok (.iaload, 1) := by decide +kernel
theorem dL_law_340 : decode cL_law 340 = .ok (.aload_n 0, 1) := by decide +kernel
theorem dL_law_341 : decode cL_law 341 = .ok (.iload_n 3, 1) := by decide +kernel
theorem dL_law_342 : decode cL_law 342 = .ok (.iconst 2, 1) := by decide +kernel
theorem dL_law_343 : decode cL_law 343 = .ok (.iadd, 1) := by decide +kernel
theorem dL_law_344 : decode cL_law 344 = .ok (.iaload, 1) := by decide +kernel
theorem dL_law_345 : decode cL_law 345 = .ok (.invokevirtual 43, 3) := by decide +kernel
theorem dL_law_348 : decode cL_law 348 = .ok (.aload_n 2, 1) := by decide +kernel
theorem dL_law_349 : decode cL_law 349 = .ok (.aload_n 0, 1) := by decide +kernel
theorem dL_law_350 : decode cL_law 350 = .ok (.iload_n 3, 1) := by decide +kernel
theorem dL_law_351 : decode cL_law 351 = .ok (.iconst 1, 1) := by decide +kernel
theorem dL_law_352 : decode cL_law 352 = .ok (.iadd, 1) := by decide +kernel
theorem dL_law_353 : decode cL_law 353 = .ok (.iaload, 1) := by decide +kernel
theorem dL_law_354 : decode cL_law 354 = .ok (.aload_n 0, 1) := by decide +kernel
theorem dL_law_355 : decode cL_law 355 = .ok (.iload_n 3, 1) := by decide +kernel
theorem dL_law_356 : decode cL_law 356 = .ok (.iconst 2, 1) := by decide +kernel
theorem dL_law_357 : decode cL_law 357 = .ok (.iadd, 1) := by decide +kernel
theorem dL_law_358 : decode cL_law 358 = .ok (.iaload, 1) := by decide +kernel
theorem dL_law_359 : decode cL_law 359 = .ok (.invokevirtual 46, 3) := by decide +kernel
theorem dL_law_362 : decode cL_law 362 = .ok (.if_icmp .eq 710, 3) := by decide +kernel
theorem dL_law_365 : decode cL_law 365 = .ok (.iconst 0, 1) := by decide +kernel
theorem dL_law_366 : decode cL_law 366 = .ok (.ireturn, 1) := by decide +kernel
theorem dL_law_367 : decode cL_law 367 = .ok (.aload_n 1, 1) := by decide +kernel
theorem dL_law_368 : decode cL_law 368 = .ok (.aload_n 0, 1) := by decide +kernel
theorem dL_law_369 : decode cL_law 369 = .ok (.iload_n 3, 1) := by decide +kernel
theorem dL_law_370 : decode cL_law 370 = .ok (.iconst 1, 1) := by decide +kernel
theorem dL_law_371 : decode cL_law 371 = .ok (.iadd, 1) := by decide +kernel
theorem dL_law_372 : decode cL_law 372 = .ok (.iaload, 1) := by decide +kernel
theorem dL_law_373 : decode cL_law 373 = .ok (.aload_n 0, 1) := by decide +kernel
theorem dL_law_374 : decode cL_law 374 = .ok (.iload_n 3, 1) := by decide +kernel
theorem dL_law_375 : decode cL_law 375 = .ok (.iconst 2, 1) := by decide +kernel
theorem dL_law_376 : decode cL_law 376 = .ok (.iadd, 1) := by decide +kernel
theorem dL_law_377 : decode cL_law 377 = .ok (.iaload, 1) := by decide +kernel
theorem dL_law_378 : decode cL_law 378 = .ok (.invokevirtual 47, 3) := by decide +kernel
theorem dL_law_381 : decode cL_law 381 = .ok (.aload_n 2, 1) := by decide +kernel
theorem dL_law_382 : decode cL_law 382 = .ok (.aload_n 0, 1) := by decide +kernel
theorem dL_law_383 : decode cL_law 383 = .ok (.iload_n 3, 1) := by decide +kernel
theorem dL_law_384 : decode cL_law 384 = .ok (.iconst 1, 1) := by decide +kernel
theorem dL_law_385 : decode cL_law 385 = .ok (.iadd, 1) := by decide +kernel
theorem dL_law_386 : decode cL_law 386 = .ok (.iaload, 1) := by decide +kernel
theorem dL_law_387 : decode cL_law 387 = .ok (.aload_n 0, 1) := by decide +kernel
theorem dL_law_388 : decode cL_law 388 = .ok (.iload_n 3, 1) := by decide +kernel
theorem dL_law_389 : decode cL_law 389 = .ok (.iconst 2, 1) := by decide +kernel
theorem dL_law_390 : decode cL_law 390 = .ok (.iadd, 1) := by decide +kernel
theorem dL_law_391 : decode cL_law 391 = .ok (.iaload, 1) := by decide +kernel
theorem dL_law_392 : decode cL_law 392 = .ok (.invokevirtual 50, 3) := by decide +kernel
theorem dL_law_395 : decode cL_law 395 = .ok (.if_icmp .eq 677, 3) := by decide +kernel
theorem dL_law_398 : decode cL_law 398 = .ok (.iconst 0, 1) := by decide +kernel
theorem dL_law_399 : decode cL_law 399 = .ok (.ireturn, 1) := by decide +kernel
theorem dL_law_400 : decode cL_law 400 = .ok (.aload_n 1, 1) := by decide +kernel
theorem dL_law_401 : decode cL_law 401 = .ok (.aload_n 0, 1) := by decide +kernel
theorem dL_law_402 : decode cL_law 402 = .ok (.iload_n 3, 1) := by decide +kernel
theorem dL_law_403 : decode cL_law 403 = .ok (.iconst 1, 1) := by decide +kernel
theorem dL_law_404 : decode cL_law 404 = .ok (.iadd, 1) := by decide +kernel
theorem dL_law_405 : decode cL_law 405 = .ok (.iaload, 1) := by decide +kernel
theorem dL_law_406 : decode cL_law 406 = .ok (.aload_n 0, 1) := by decide +kernel
theorem dL_law_407 : decode cL_law 407 = .ok (.iload_n 3, 1) := by decide +kernel
theorem dL_law_408 : decode cL_law 408 = .ok (.iconst 2, 1) := by decide +kernel
theorem dL_law_409 : decode cL_law 409 = .ok (.iadd, 1) := by decide +kernel
theorem dL_law_410 : decode cL_law 410 = .ok (.iaload, 1) := by decide +kernel
theorem dL_law_411 : decode cL_law 411 = .ok (.invokevirtual 51, 3) := by decide +kernel
theorem dL_law_414 : decode cL_law 414 = .ok (.aload_n 2, 1) := by decide +kernel
theorem dL_law_415 : decode cL_law 415 = .ok (.aload_n 0, 1) := by decide +kernel
theorem dL_law_416 : decode cL_law 416 = .ok (.iload_n 3, 1) := by decide +kernel
theorem dL_law_417 : decode cL_law 417 = .ok (.iconst 1, 1) := by decide +kernel
theorem dL_law_418 : decode cL_law 418 = .ok (.iadd, 1) := by decide +kernel
theorem dL_law_419 : decode cL_law 419 = .ok (.iaload, 1) := by decide +kernel
theorem dL_law_420 : decode cL_law 420 = .ok (.aload_n 0, 1) := by decide +kernel
theorem dL_law_421 : decode cL_law 421 = .ok (.iload_n 3, 1) := by decide +kernel
theorem dL_law_422 : decode cL_law 422 = .ok (.iconst 2, 1) := by decide +kernel
theorem dL_law_423 : decode cL_law 423 = .ok (.iadd, 1) := by decide +kernel
theorem dL_law_424 : decode cL_law 424 = .ok (.iaload, 1) := by decide +kernel
theorem dL_law_425 : decode cL_law 425 = .ok (.invokevirtual 54, 3) := by decide +kernel
theorem dL_law_428 : decode cL_law 428 = .ok (.if_icmp .eq 644, 3) := by decide +kernel
theorem dL_law_431 : decode cL_law 431 = .ok (.iconst 0, 1) := by decide +kernel
theorem dL_law_432 : decode cL_law 432 = .ok (.ireturn, 1) := by decide +kernel
theorem dL_law_433 : decode cL_law 433 = .ok (.aload_n 1, 1) := by decide +kernel
theorem dL_law_434 : decode cL_law 434 = .ok (.aload_n 0, 1) := by decide +kernel
theorem dL_law_435 : decode cL_law 435 = .ok (.iload_n 3, 1) := by decide +kernel
theorem dL_law_436 : decode cL_law 436 = .ok (.iconst 1, 1) := by decide +kernel
theorem dL_law_437 : decode cL_law 437 = .ok (.iadd, 1) := by decide +kernel
theorem dL_law_438 : decode cL_law 438 = .ok (.iaload, 1) := by decide +kernel
theorem dL_law_439 : decode cL_law 439 = .ok (.aload_n 0, 1) := by decide +kernel
theorem dL_law_440 : decode cL_law 440 = .ok (.iload_n 3, 1) := by decide +kernel
theorem dL_law_441 : decode cL_law 441 = .ok (.iconst 2, 1) := by decide +kernel
theorem dL_law_442 : decode cL_law 442 = .ok (.iadd, 1) := by decide +kernel
theorem dL_law_443 : decode cL_law 443 = .ok (.iaload, 1) := by decide +kernel
theorem dL_law_444 : decode cL_law 444 = .ok (.aload_n 0, 1) := by decide +kernel
theorem dL_law_445 : decode cL_law 445 = .ok (.iload_n 3, 1) := by decide +kernel
theorem dL_law_446 : decode cL_law 446 = .ok (.iconst 3, 1) := by decide +kernel
theorem dL_law_447 : decode cL_law 447 = .ok (.iadd, 1) := by decide +kernel
theorem dL_law_448 : decode cL_law 448 = .ok (.iaload, 1) := by decide +kernel
theorem dL_law_449 : decode cL_law 449 = .ok (.ifCond .eq 7, 3) := by decide +kernel
theorem dL_law_452 : decode cL_law 452 = .ok (.iconst 1, 1) := by decide +kernel
theorem dL_law_453 : decode cL_law 453 = .ok (.goto 4, 3) := by decide +kernel
theorem dL_law_456 : decode cL_law 456 = .ok (.iconst 0, 1) := by decide +kernel
theorem dL_law_457 : decode cL_law 457 = .ok (.invokevirtual 55, 3) := by decide +kernel
theorem dL_law_460 : decode cL_law 460 = .ok (.aload_n 2, 1) := by decide +kernel
theorem dL_law_461 : decode cL_law 461 = .ok (.aload_n 0, 1) := by decide +kernel
theorem dL_law_462 : decode cL_law 462 = .ok (.iload_n 3, 1) := by decide +kernel
theorem dL_law_463 : decode cL_law 463 = .ok (.iconst 1, 1) := by decide +kernel
theorem dL_law_464 : decode cL_law 464 = .ok (.iadd, 1) := by decide +kernel
theorem dL_law_465 : decode cL_law 465 = .ok (.iaload, 1) := by decide +kernel
theorem dL_law_466 : decode cL_law 466 = .ok (.aload_n 0, 1) := by decide +kernel
theorem dL_law_467 : decode cL_law 467 = .ok (.iload_n 3, 1) := by decide +kernel
theorem dL_law_468 : decode cL_law 468 = .ok (.iconst 2, 1) := by decide +kernel
theorem dL_law_469 : decode cL_law 469 = .ok (.iadd, 1) := by decide +kernel
theorem dL_law_470 : decode cL_law 470 = .ok (.iaload, 1) := by decide +kernel
theorem dL_law_471 : decode cL_law 471 = .ok (.aload_n 0, 1) := by decide +kernel
theorem dL_law_472 : decode cL_law 472 = .ok (.iload_n 3, 1) := by decide +kernel
theorem dL_law_473 : decode cL_law 473 = .ok (.iconst 3, 1) := by decide +kernel
theorem dL_law_474 : decode cL_law 474 = .ok (.iadd, 1) := by decide +kernel
theorem dL_law_475 : decode cL_law 475 = .ok (.iaload, 1) := by decide +kernel
theorem dL_law_476 : decode cL_law 476 = .ok (.ifCond .eq 7, 3) := by decide +kernel
theorem dL_law_479 : decode cL_law 479 = .ok (.iconst 1, 1) := by decide +kernel
theorem dL_law_480 : decode cL_law 480 = .ok (.goto 4, 3) := by decide +kernel
theorem dL_law_483 : decode cL_law 483 = .ok (.iconst 0, 1) := by decide +kernel
theorem dL_law_484 : decode cL_law 484 = .ok (.invokevirtual 59, 3) := by decide +kernel
theorem dL_law_487 : decode cL_law 487 = .ok (.if_icmp .eq 585, 3) := by decide +kernel
theorem dL_law_490 : decode cL_law 490 = .ok (.iconst 0, 1) := by decide +kernel
theorem dL_law_491 : decode cL_law 491 = .ok (.ireturn, 1) := by decide +kernel
theorem dL_law_492 : decode cL_law 492 = .ok (.aload_n 1, 1) := by decide +kernel
theorem dL_law_493 : decode cL_law 493 = .ok (.invokevirtual 60, 3) := by decide +kernel
theorem dL_law_496 : decode cL_law 496 = .ok (.aload_n 2, 1) := by decide +kernel
theorem dL_law_497 : decode cL_law 497 = .ok (.invokevirtual 63, 3) := by decide +kernel
theorem dL_law_500 : decode cL_law 500 = .ok (.if_icmp .eq 572, 3) := by decide +kernel
theorem dL_law_503 : decode cL_law 503 = .ok (.iconst 0, 1) := by decide +kernel
theorem dL_law_504 : decode cL_law 504 = .ok (.ireturn, 1) := by decide +kernel
theorem dL_law_505 : decode cL_law 505 = .ok (.aload_n 1, 1) := by decide +kernel
theorem dL_law_506 : decode cL_law 506 = .ok (.invokevirtual 64, 3) := by decide +kernel
theorem dL_law_509 : decode cL_law 509 = .ok (.aload_n 2, 1) := by decide +kernel
theorem dL_law_510 : decode cL_law 510 = .ok (.invokevirtual 67, 3) := by decide +kernel
theorem dL_law_513 : decode cL_law 513 = .ok (.if_icmp .eq 559, 3) := by decide +kernel
theorem dL_law_516 : decode cL_law 516 = .ok (.iconst 0, 1) := by decide +kernel
theorem dL_law_517 : decode cL_law 517 = .ok (.ireturn, 1) := by decide +kernel
theorem dL_law_518 : decode cL_law 518 = .ok (.aload_n 1, 1) := by decide +kernel
theorem dL_law_519 : decode cL_law 519 = .ok (.invokevirtual 68, 3) := by decide +kernel
theorem dL_law_522 : decode cL_law 522 = .ok (.aload_n 2, 1) := by decide +kernel
theorem dL_law_523 : decode cL_law 523 = .ok (.invokevirtual 71, 3) := by decide +kernel
theorem dL_law_526 : decode cL_law 526 = .ok (.if_icmp .eq 546, 3) := by decide +kernel
theorem dL_law_529 : decode cL_law 529 = .ok (.iconst 0, 1) := by decide +kernel
theorem dL_law_530 : decode cL_law 530 = .ok (.ireturn, 1) := by decide +kernel
theorem dL_law_531 : decode cL_law 531 = .ok (.aload_n 1, 1) := by decide +kernel
theorem dL_law_532 : decode cL_law 532 = .ok (.invokevirtual 72, 3) := by decide +kernel
theorem dL_law_535 : decode cL_law 535 = .ok (.aload_n 2, 1) := by decide +kernel
theorem dL_law_536 : decode cL_law 536 = .ok (.invokevirtual 75, 3) := by decide +kernel
theorem dL_law_539 : decode cL_law 539 = .ok (.if_icmp .eq 533, 3) := by decide +kernel
theorem dL_law_542 : decode cL_law 542 = .ok (.iconst 0, 1) := by decide +kernel
theorem dL_law_543 : decode cL_law 543 = .ok (.ireturn, 1) := by decide +kernel
theorem dL_law_544 : decode cL_law 544 = .ok (.aload_n 1, 1) := by decide +kernel
theorem dL_law_545 : decode cL_law 545 = .ok (.aload_n 0, 1) := by decide +kernel
theorem dL_law_546 : decode cL_law 546 = .ok (.iload_n 3, 1) := by decide +kernel
theorem dL_law_547 : decode cL_law 547 = .ok (.iconst 1, 1) := by decide +kernel
theorem dL_law_548 : decode cL_law 548 = .ok (.iadd, 1) := by decide +kernel
theorem dL_law_549 : decode cL_law 549 = .ok (.iaload, 1) := by decide +kernel
theorem dL_law_550 : decode cL_law 550 = .ok (.aload_n 0, 1) := by decide +kernel
theorem dL_law_551 : decode cL_law 551 = .ok (.iload_n 3, 1) := by decide +kernel
theorem dL_law_552 : decode cL_law 552 = .ok (.iconst 2, 1) := by decide +kernel
theorem dL_law_553 : decode cL_law 553 = .ok (.iadd, 1) := by decide +kernel
theorem dL_law_554 : decode cL_law 554 = .ok (.iaload, 1) := by decide +kernel
theorem dL_law_555 : decode cL_law 555 = .ok (.aload_n 0, 1) := by decide +kernel
theorem dL_law_556 : decode cL_law 556 = .ok (.iload_n 3, 1) := by decide +kernel
theorem dL_law_557 : decode cL_law 557 = .ok (.iconst 3, 1) := by decide +kernel
theorem dL_law_558 : decode cL_law 558 = .ok (.iadd, 1) := by decide +kernel
theorem dL_law_559 : decode cL_law 559 = .ok (.iaload, 1) := by decide +kernel
theorem dL_law_560 : decode cL_law 560 = .ok (.invokevirtual 76, 3) := by decide +kernel
theorem dL_law_563 : decode cL_law 563 = .ok (.aload_n 2, 1) := by decide +kernel
theorem dL_law_564 : decode cL_law 564 = .ok (.aload_n 0, 1) := by decide +kernel
theorem dL_law_565 : decode cL_law 565 = .ok (.iload_n 3, 1) := by decide +kernel
theorem dL_law_566 : decode cL_law 566 = .ok (.iconst 1, 1) := by decide +kernel
theorem dL_law_567 : decode cL_law 567 = .ok (.iadd, 1) := by decide +kernel
theorem dL_law_568 : decode cL_law 568 = .ok (.iaload, 1) := by decide +kernel
theorem dL_law_569 : decode cL_law 569 = .ok (.aload_n 0, 1) := by decide +kernel
theorem dL_law_570 : decode cL_law 570 = .ok (.iload_n 3, 1) := by decide +kernel
theorem dL_law_571 : decode cL_law 571 = .ok (.iconst 2, 1) := by decide +kernel
theorem dL_law_572 : decode cL_law 572 = .ok (.iadd, 1) := by decide +kernel
theorem dL_law_573 : decode cL_law 573 = .ok (.iaload, 1) := by decide +kernel
theorem dL_law_574 : decode cL_law 574 = .ok (.aload_n 0, 1) := by decide +kernel
theorem dL_law_575 : decode cL_law 575 = .ok (.iload_n 3, 1) := by decide +kernel
theorem dL_law_576 : decode cL_law 576 = .ok (.iconst 3, 1) := by decide +kernel
theorem dL_law_577 : decode cL_law 577 = .ok (.iadd, 1) := by decide +kernel
theorem dL_law_578 : decode cL_law 578 = .ok (.iaload, 1) := by decide +kernel
theorem dL_law_579 : decode cL_law 579 = .ok (.invokevirtual 80, 3) := by decide +kernel
theorem dL_law_582 : decode cL_law 582 = .ok (.if_icmp .eq 490, 3) := by decide +kernel
theorem dL_law_585 : decode cL_law 585 = .ok (.iconst 0, 1) := by decide +kernel
theorem dL_law_586 : decode cL_law 586 = .ok (.ireturn, 1) := by decide +kernel
theorem dL_law_587 : decode cL_law 587 = .ok (.aload_n 1, 1) := by decide +kernel
theorem dL_law_588 : decode cL_law 588 = .ok (.aload_n 0, 1) := by decide +kernel
theorem dL_law_589 : decode cL_law 589 = .ok (.iload_n 3, 1) := by decide +kernel
theorem dL_law_590 : decode cL_law 590 = .ok (.iconst 1, 1) := by decide +kernel
theorem dL_law_591 : decode cL_law 591 = .ok (.iadd, 1) := by decide +kernel
theorem dL_law_592 : decode cL_law 592 = .ok (.iaload, 1) := by decide +kernel
theorem dL_law_593 : decode cL_law 593 = .ok (.aload_n 0, 1) := by decide +kernel
theorem dL_law_594 : decode cL_law 594 = .ok (.iload_n 3, 1) := by decide +kernel
theorem dL_law_595 : decode cL_law 595 = .ok (.iconst 2, 1) := by decide +kernel
theorem dL_law_596 : decode cL_law 596 = .ok (.iadd, 1) := by decide +kernel
theorem dL_law_597 : decode cL_law 597 = .ok (.iaload, 1) := by decide +kernel
theorem dL_law_598 : decode cL_law 598 = .ok (.aload_n 0, 1) := by decide +kernel
theorem dL_law_599 : decode cL_law 599 = .ok (.iload_n 3, 1) := by decide +kernel
theorem dL_law_600 : decode cL_law 600 = .ok (.iconst 3, 1) := by decide +kernel
theorem dL_law_601 : decode cL_law 601 = .ok (.iadd, 1) := by decide +kernel
theorem dL_law_602 : decode cL_law 602 = .ok (.iaload, 1) := by decide +kernel
theorem dL_law_603 : decode cL_law 603 = .ok (.aload_n 0, 1) := by decide +kernel
theorem dL_law_604 : decode cL_law 604 = .ok (.iload_n 3, 1) := by decide +kernel
theorem dL_law_605 : decode cL_law 605 = .ok (.iconst 4, 1) := by decide +kernel
theorem dL_law_606 : decode cL_law 606 = .ok (.iadd, 1) := by decide +kernel
theorem dL_law_607 : decode cL_law 607 = .ok (.iaload, 1) := by decide +kernel
theorem dL_law_608 : decode cL_law 608 = .ok (.invokevirtual 81, 3) := by decide +kernel
theorem dL_law_611 : decode cL_law 611 = .ok (.aload_n 2, 1) := by decide +kernel
theorem dL_law_612 : decode cL_law 612 = .ok (.aload_n 0, 1) := by decide +kernel
theorem dL_law_613 : decode cL_law 613 = .ok (.iload_n 3, 1) := by decide +kernel
theorem dL_law_614 : decode cL_law 614 = .ok (.iconst 1, 1) := by decide +kernel
theorem dL_law_615 : decode cL_law 615 = .ok (.iadd, 1) := by decide +kernel
theorem dL_law_616 : decode cL_law 616 = .ok (.iaload, 1) := by decide +kernel
theorem dL_law_617 : decode cL_law 617 = .ok (.aload_n 0, 1) := by decide +kernel
theorem dL_law_618 : decode cL_law 618 = .ok (.iload_n 3, 1) := by decide +kernel
theorem dL_law_619 : decode cL_law 619 = .ok (.iconst 2, 1) := by decide +kernel
theorem dL_law_620 : decode cL_law 620 = .ok (.iadd, 1) := by decide +kernel
theorem dL_law_621 : decode cL_law 621 = .ok (.iaload, 1) := by decide +kernel
theorem dL_law_622 : decode cL_law 622 = .ok (.aload_n 0, 1) := by decide +kernel
theorem dL_law_623 : decode cL_law 623 = .ok (.iload_n 3, 1) := by decide +kernel
theorem dL_law_624 : decode cL_law 624 = .ok (.iconst 3, 1) := by decide +kernel
theorem dL_law_625 : decode cL_law 625 = .ok (.iadd, 1) := by decide +kernel
theorem dL_law_626 : decode cL_law 626 = .ok (.iaload, 1) := by decide +kernel
theorem dL_law_627 : decode cL_law 627 = .ok (.aload_n 0, 1) := by decide +kernel
theorem dL_law_628 : decode cL_law 628 = .ok (.iload_n 3, 1) := by decide +kernel
theorem dL_law_629 : decode cL_law 629 = .ok (.iconst 4, 1) := by decide +kernel
theorem dL_law_630 : decode cL_law 630 = .ok (.iadd, 1) := by decide +kernel
theorem dL_law_631 : decode cL_law 631 = .ok (.iaload, 1) := by decide +kernel
theorem dL_law_632 : decode cL_law 632 = .ok (.invokevirtual 85, 3) := by decide +kernel
theorem dL_law_635 : decode cL_law 635 = .ok (.if_icmp .eq 437, 3) := by decide +kernel
theorem dL_law_638 : decode cL_law 638 = .ok (.iconst 0, 1) := by decide +kernel
theorem dL_law_639 : decode cL_law 639 = .ok (.ireturn, 1) := by decide +kernel
theorem dL_law_640 : decode cL_law 640 = .ok (.aload_n 1, 1) := by decide +kernel
theorem dL_law_641 : decode cL_law 641 = .ok (.aload_n 0, 1) := by decide +kernel
theorem dL_law_642 : decode cL_law 642 = .ok (.iload_n 3, 1) := by decide +kernel
theorem dL_law_643 : decode cL_law 643 = .ok (.iconst 1, 1) := by decide +kernel
theorem dL_law_644 : decode cL_law 644 = .ok (.iadd, 1) := by decide +kernel
theorem dL_law_645 : decode cL_law 645 = .ok (.iaload, 1) := by decide +kernel
theorem dL_law_646 : decode cL_law 646 = .ok (.invokevirtual 86, 3) := by decide +kernel
theorem dL_law_649 : decode cL_law 649 = .ok (.aload_n 2, 1) := by decide +kernel
theorem dL_law_650 : decode cL_law 650 = .ok (.aload_n 0, 1) := by decide +kernel
theorem dL_law_651 : decode cL_law 651 = .ok (.iload_n 3, 1) := by decide +kernel
theorem dL_law_652 : decode cL_law 652 = .ok (.iconst 1, 1) := by decide +kernel
theorem dL_law_653 : decode cL_law 653 = .ok (.iadd, 1) := by decide +kernel
theorem dL_law_654 : decode cL_law 654 = .ok (.iaload, 1) := by decide +kernel
theorem dL_law_655 : decode cL_law 655 = .ok (.invokevirtual 89, 3) := by decide +kernel
theorem dL_law_658 : decode cL_law 658 = .ok (.if_icmp .eq 414, 3) := by decide +kernel
theorem dL_law_661 : decode cL_law 661 = .ok (.iconst 0, 1) := by decide +kernel
theorem dL_law_662 : decode cL_law 662 = .ok (.ireturn, 1) := by decide +kernel
theorem dL_law_663 : decode cL_law 663 = .ok (.aload_n 1, 1) := by decide +kernel
theorem dL_law_664 : decode cL_law 664 = .ok (.aload_n 0, 1) := by decide +kernel
theorem dL_law_665 : decode cL_law 665 = .ok (.iload_n 3, 1) := by decide +kernel
theorem dL_law_666 : decode cL_law 666 = .ok (.iconst 1, 1) := by decide +kernel
theorem dL_law_667 : decode cL_law 667 = .ok (.iadd, 1) := by decide +kernel
theorem dL_law_668 : decode cL_law 668 = .ok (.iaload, 1) := by decide +kernel
theorem dL_law_669 : decode cL_law 669 = .ok (.aload_n 0, 1) := by decide +kernel
theorem dL_law_670 : decode cL_law 670 = .ok (.iload_n 3, 1) := by decide +kernel
theorem dL_law_671 : decode cL_law 671 = .ok (.iconst 2, 1) := by decide +kernel
theorem dL_law_672 : decode cL_law 672 = .ok (.iadd, 1) := by decide +kernel
theorem dL_law_673 : decode cL_law 673 = .ok (.iaload, 1) := by decide +kernel
theorem dL_law_674 : decode cL_law 674 = .ok (.aload_n 0, 1) := by decide +kernel
theorem dL_law_675 : decode cL_law 675 = .ok (.iload_n 3, 1) := by decide +kernel
theorem dL_law_676 : decode cL_law 676 = .ok (.iconst 3, 1) := by decide +kernel
theorem dL_law_677 : decode cL_law 677 = .ok (.iadd, 1) := by decide +kernel
theorem dL_law_678 : decode cL_law 678 = .ok (.iaload, 1) := by decide +kernel
theorem dL_law_679 : decode cL_law 679 = .ok (.invokevirtual 90, 3) := by decide +kernel
theorem dL_law_682 : decode cL_law 682 = .ok (.aload_n 2, 1) := by decide +kernel
theorem dL_law_683 : decode cL_law 683 = .ok (.aload_n 0, 1) := by decide +kernel
theorem dL_law_684 : decode cL_law 684 = .ok (.iload_n 3, 1) := by decide +kernel
theorem dL_law_685 : decode cL_law 685 = .ok (.iconst 1, 1) := by decide +kernel
theorem dL_law_686 : decode cL_law 686 = .ok (.iadd, 1) := by decide +kernel
theorem dL_law_687 : decode cL_law 687 = .ok (.iaload, 1) := by decide +kernel
theorem dL_law_688 : decode cL_law 688 = .ok (.aload_n 0, 1) := by decide +kernel
theorem dL_law_689 : decode cL_law 689 = .ok (.iload_n 3, 1) := by decide +kernel
theorem dL_law_690 : decode cL_law 690 = .ok (.iconst 2, 1) := by decide +kernel
theorem dL_law_691 : decode cL_law 691 = .ok (.iadd, 1) := by decide +kernel
theorem dL_law_692 : decode cL_law 692 = .ok (.iaload, 1) := by decide +kernel
theorem dL_law_693 : decode cL_law 693 = .ok (.aload_n 0, 1) := by decide +kernel
theorem dL_law_694 : decode cL_law 694 = .ok (.iload_n 3, 1) := by decide +kernel
theorem dL_law_695 : decode cL_law 695 = .ok (.iconst 3, 1) := by decide +kernel
theorem dL_law_696 : decode cL_law 696 = .ok (.iadd, 1) := by decide +kernel
theorem dL_law_697 : decode cL_law 697 = .ok (.iaload, 1) := by decide +kernel
theorem dL_law_698 : decode cL_law 698 = .ok (.invokevirtual 93, 3) := by decide +kernel
theorem dL_law_701 : decode cL_law 701 = .ok (.if_icmp .eq 371, 3) := by decide +kernel
theorem dL_law_704 : decode cL_law 704 = .ok (.iconst 0, 1) := by decide +kernel
theorem dL_law_705 : decode cL_law 705 = .ok (.ireturn, 1) := by decide +kernel
theorem dL_law_706 : decode cL_law 706 = .ok (.aload_n 1, 1) := by decide +kernel
theorem dL_law_707 : decode cL_law 707 = .ok (.invokevirtual 94, 3) := by decide +kernel
theorem dL_law_710 : decode cL_law 710 = .ok (.aload_n 2, 1) := by decide +kernel
theorem dL_law_711 : decode cL_law 711 = .ok (.invokevirtual 97, 3) := by decide +kernel
theorem dL_law_714 : decode cL_law 714 = .ok (.if_icmp .eq 358, 3) := by decide +kernel
theorem dL_law_717 : decode cL_law 717 = .ok (.iconst 0, 1) := by decide +kernel
theorem dL_law_718 : decode cL_law 718 = .ok (.ireturn, 1) := by decide +kernel
theorem dL_law_719 : decode cL_law 719 = .ok (.aload_n 1, 1) := by decide +kernel
theorem dL_law_720 : decode cL_law 720 = .ok (.aload_n 0, 1) := by decide +kernel
theorem dL_law_721 : decode cL_law 721 = .ok (.iload_n 3, 1) := by decide +kernel
theorem dL_law_722 : decode cL_law 722 = .ok (.iconst 1, 1) := by decide +kernel
theorem dL_law_723 : decode cL_law 723 = .ok (.iadd, 1) := by decide +kernel
theorem dL_law_724 : decode cL_law 724 = .ok (.iaload, 1) := by decide +kernel
theorem dL_law_725 : decode cL_law 725 = .ok (.ifCond .eq 7, 3) := by decide +kernel
theorem dL_law_728 : decode cL_law 728 = .ok (.iconst 1, 1) := by decide +kernel
theorem dL_law_729 : decode cL_law 729 = .ok (.goto 4, 3) := by decide +kernel
theorem dL_law_732 : decode cL_law 732 = .ok (.iconst 0, 1) := by decide +kernel
theorem dL_law_733 : decode cL_law 733 = .ok (.invokevirtual 98, 3) := by decide +kernel
theorem dL_law_736 : decode cL_law 736 = .ok (.aload_n 2, 1) := by decide +kernel
theorem dL_law_737 : decode cL_law 737 = .ok (.aload_n 0, 1) := by decide +kernel
theorem dL_law_738 : decode cL_law 738 = .ok (.iload_n 3, 1) := by decide +kernel
theorem dL_law_739 : decode cL_law 739 = .ok (.iconst 1, 1) := by decide +kernel
theorem dL_law_740 : decode cL_law 740 = .ok (.iadd, 1) := by decide +kernel
theorem dL_law_741 : decode cL_law 741 = .ok (.iaload, 1) := by decide +kernel
theorem dL_law_742 : decode cL_law 742 = .ok (.ifCond .eq 7, 3) := by decide +kernel
theorem dL_law_745 : decode cL_law 745 = .ok (.iconst 1, 1) := by decide +kernel
theorem dL_law_746 : decode cL_law 746 = .ok (.goto 4, 3) := by decide +kernel
theorem dL_law_749 : decode cL_law 749 = .ok (.iconst 0, 1) := by decide +kernel
theorem dL_law_750 : decode cL_law 750 = .ok (.invokevirtual 102, 3) := by decide +kernel
theorem dL_law_753 : decode cL_law 753 = .ok (.if_icmp .eq 319, 3) := by decide +kernel
theorem dL_law_756 : decode cL_law 756 = .ok (.iconst 0, 1) := by decide +kernel
theorem dL_law_757 : decode cL_law 757 = .ok (.ireturn, 1) := by decide +kernel
theorem dL_law_758 : decode cL_law 758 = .ok (.aload_n 1, 1) := by decide +kernel
theorem dL_law_759 : decode cL_law 759 = .ok (.aload_n 0, 1) := by decide +kernel
theorem dL_law_760 : decode cL_law 760 = .ok (.iload_n 3, 1) := by decide +kernel
theorem dL_law_761 : decode cL_law 761 = .ok (.iconst 1, 1) := by decide +kernel
theorem dL_law_762 : decode cL_law 762 = .ok (.iadd, 1) := by decide +kernel
theorem dL_law_763 : decode cL_law 763 = .ok (.iaload, 1) := by decide +kernel
theorem dL_law_764 : decode cL_law 764 = .ok (.aload_n 0, 1) := by decide +kernel
theorem dL_law_765 : decode cL_law 765 = .ok (.iload_n 3, 1) := by decide +kernel
theorem dL_law_766 : decode cL_law 766 = .ok (.iconst 2, 1) := by decide +kernel
theorem dL_law_767 : decode cL_law 767 = .ok (.iadd, 1) := by decide +kernel
theorem dL_law_768 : decode cL_law 768 = .ok (.iaload, 1) := by decide +kernel
theorem dL_law_769 : decode cL_law 769 = .ok (.invokevirtual 103, 3) := by decide +kernel
theorem dL_law_772 : decode cL_law 772 = .ok (.aload_n 2, 1) := by decide +kernel
theorem dL_law_773 : decode cL_law 773 = .ok (.aload_n 0, 1) := by decide +kernel
theorem dL_law_774 : decode cL_law 774 = .ok (.iload_n 3, 1) := by decide +kernel
theorem dL_law_775 : decode cL_law 775 = .ok (.iconst 1, 1) := by decide +kernel
theorem dL_law_776 : decode cL_law 776 = .ok (.iadd, 1) := by decide +kernel
theorem dL_law_777 : decode cL_law 777 = .ok (.iaload, 1) := by decide +kernel
theorem dL_law_778 : decode cL_law 778 = .ok (.aload_n 0, 1) := by decide +kernel
theorem dL_law_779 : decode cL_law 779 = .ok (.iload_n 3, 1) := by decide +kernel
theorem dL_law_780 : decode cL_law 780 = .ok (.iconst 2, 1) := by decide +kernel
theorem dL_law_781 : decode cL_law 781 = .ok (.iadd, 1) := by decide +kernel
theorem dL_law_782 : decode cL_law 782 = .ok (.iaload, 1) := by decide +kernel
theorem dL_law_783 : decode cL_law 783 = .ok (.invokevirtual 106, 3) := by decide +kernel
theorem dL_law_786 : decode cL_law 786 = .ok (.if_icmp .eq 286, 3) := by decide +kernel
theorem dL_law_789 : decode cL_law 789 = .ok (.iconst 0, 1) := by decide +kernel
theorem dL_law_790 : decode cL_law 790 = .ok (.ireturn, 1) := by decide +kernel
theorem dL_law_791 : decode cL_law 791 = .ok (.aload_n 1, 1) := by decide +kernel
theorem dL_law_792 : decode cL_law 792 = .ok (.invokevirtual 107, 3) := by decide +kernel
theorem dL_law_795 : decode cL_law 795 = .ok (.aload_n 2, 1) := by decide +kernel
theorem dL_law_796 : decode cL_law 796 = .ok (.invokevirtual 110, 3) := by decide +kernel
theorem dL_law_799 : decode cL_law 799 = .ok (.if_icmp .eq 273, 3) := by decide +kernel
theorem dL_law_802 : decode cL_law 802 = .ok (.iconst 0, 1) := by decide +kernel
theorem dL_law_803 : decode cL_law 803 = .ok (.ireturn, 1) := by decide +kernel
theorem dL_law_804 : decode cL_law 804 = .ok (.aload_n 1, 1) := by decide +kernel
theorem dL_law_805 : decode cL_law 805 = .ok (.invokevirtual 111, 3) := by decide +kernel
theorem dL_law_808 : decode cL_law 808 = .ok (.aload_n 2, 1) := by decide +kernel
theorem dL_law_809 : decode cL_law 809 = .ok (.invokevirtual 114, 3) := by decide +kernel
theorem dL_law_812 : decode cL_law 812 = .ok (.if_icmp .eq 260, 3) := by decide +kernel
theorem dL_law_815 : decode cL_law 815 = .ok (.iconst 0, 1) := by decide +kernel
theorem dL_law_816 : decode cL_law 816 = .ok (.ireturn, 1) := by decide +kernel
theorem dL_law_817 : decode cL_law 817 = .ok (.aload_n 1, 1) := by decide +kernel
theorem dL_law_818 : decode cL_law 818 = .ok (.aload_n 0, 1) := by decide +kernel
theorem dL_law_819 : decode cL_law 819 = .ok (.iload_n 3, 1) := by decide +kernel
theorem dL_law_820 : decode cL_law 820 = .ok (.iconst 1, 1) := by decide +kernel
theorem dL_law_821 : decode cL_law 821 = .ok (.iadd, 1) := by decide +kernel
theorem dL_law_822 : decode cL_law 822 = .ok (.iaload, 1) := by decide +kernel
theorem dL_law_823 : decode cL_law 823 = .ok (.aload_n 0, 1) := by decide +kernel
theorem dL_law_824 : decode cL_law 824 = .ok (.iload_n 3, 1) := by decide +kernel
theorem dL_law_825 : decode cL_law 825 = .ok (.iconst 2, 1) := by decide +kernel
theorem dL_law_826 : decode cL_law 826 = .ok (.iadd, 1) := by decide +kernel
theorem dL_law_827 : decode cL_law 827 = .ok (.iaload, 1) := by decide +kernel
theorem dL_law_828 : decode cL_law 828 = .ok (.ifCond .eq 7, 3) := by decide +kernel
theorem dL_law_831 : decode cL_law 831 = .ok (.iconst 1, 1) := by decide +kernel
theorem dL_law_832 : decode cL_law 832 = .ok (.goto 4, 3) := by decide +kernel
theorem dL_law_835 : decode cL_law 835 = .ok (.iconst 0, 1) := by decide +kernel
theorem dL_law_836 : decode cL_law 836 = .ok (.invokevirtual 115, 3) := by decide +kernel
theorem dL_law_839 : decode cL_law 839 = .ok (.aload_n 2, 1) := by decide +kernel
theorem dL_law_840 : decode cL_law 840 = .ok (.aload_n 0, 1) := by decide +kernel
theorem dL_law_841 : decode cL_law 841 = .ok (.iload_n 3, 1) := by decide +kernel
theorem dL_law_842 : decode cL_law 842 = .ok (.iconst 1, 1) := by decide +kernel
theorem dL_law_843 : decode cL_law 843 = .ok (.iadd, 1) := by decide +kernel
theorem dL_law_844 : decode cL_law 844 = .ok (.iaload, 1) := by decide +kernel
theorem dL_law_845 : decode cL_law 845 = .ok (.aload_n 0, 1) := by decide +kernel
theorem dL_law_846 : decode cL_law 846 = .ok (.iload_n 3, 1) := by decide +kernel
theorem dL_law_847 : decode cL_law 847 = .ok (.iconst 2, 1) := by decide +kernel
theorem dL_law_848 : decode cL_law 848 = .ok (.iadd, 1) := by decide +kernel
theorem dL_law_849 : decode cL_law 849 = .ok (.iaload, 1) := by decide +kernel
theorem dL_law_850 : decode cL_law 850 = .ok (.ifCond .eq 7, 3) := by decide +kernel
theorem dL_law_853 : decode cL_law 853 = .ok (.iconst 1, 1) := by decide +kernel
theorem dL_law_854 : decode cL_law 854 = .ok (.goto 4, 3) := by decide +kernel
theorem dL_law_857 : decode cL_law 857 = .ok (.iconst 0, 1) := by decide +kernel
theorem dL_law_858 : decode cL_law 858 = .ok (.invokevirtual 119, 3) := by decide +kernel
theorem dL_law_861 : decode cL_law 861 = .ok (.if_icmp .eq 211, 3) := by decide +kernel
theorem dL_law_864 : decode cL_law 864 = .ok (.iconst 0, 1) := by decide +kernel
theorem dL_law_865 : decode cL_law 865 = .ok (.ireturn, 1) := by decide +kernel
theorem dL_law_866 : decode cL_law 866 = .ok (.aload_n 1, 1) := by decide +kernel
theorem dL_law_867 : decode cL_law 867 = .ok (.aload_n 0, 1) := by decide +kernel
theorem dL_law_868 : decode cL_law 868 = .ok (.iload_n 3, 1) := by decide +kernel
theorem dL_law_869 : decode cL_law 869 = .ok (.iconst 1, 1) := by decide +kernel
theorem dL_law_870 : decode cL_law 870 = .ok (.iadd, 1) := by decide +kernel
theorem dL_law_871 : decode cL_law 871 = .ok (.iaload, 1) := by decide +kernel
theorem dL_law_872 : decode cL_law 872 = .ok (.invokevirtual 120, 3) := by decide +kernel
theorem dL_law_875 : decode cL_law 875 = .ok (.aload_n 2, 1) := by decide +kernel
theorem dL_law_876 : decode cL_law 876 = .ok (.aload_n 0, 1) := by decide +kernel
theorem dL_law_877 : decode cL_law 877 = .ok (.iload_n 3, 1) := by decide +kernel
theorem dL_law_878 : decode cL_law 878 = .ok (.iconst 1, 1) := by decide +kernel
theorem dL_law_879 : decode cL_law 879 = .ok (.iadd, 1) := by decide +kernel
theorem dL_law_880 : decode cL_law 880 = .ok (.iaload, 1) := by decide +kernel
theorem dL_law_881 : decode cL_law 881 = .ok (.invokevirtual 123, 3) := by decide +kernel
theorem dL_law_884 : decode cL_law 884 = .ok (.if_icmp .eq 188, 3) := by decide +kernel
theorem dL_law_887 : decode cL_law 887 = .ok (.iconst 0, 1) := by decide +kernel
theorem dL_law_888 : decode cL_law 888 = .ok (.ireturn, 1) := by decide +kernel
theorem dL_law_889 : decode cL_law 889 = .ok (.aload_n 1, 1) := by decide +kernel
theorem dL_law_890 : decode cL_law 890 = .ok (.invokevirtual 124, 3) := by decide +kernel
theorem dL_law_893 : decode cL_law 893 = .ok (.aload_n 2, 1) := by decide +kernel
theorem dL_law_894 : decode cL_law 894 = .ok (.invokevirtual 127, 3) := by decide +kernel
theorem dL_law_897 : decode cL_law 897 = .ok (.if_icmp .eq 175, 3) := by decide +kernel
theorem dL_law_900 : decode cL_law 900 = .ok (.iconst 0, 1) := by decide +kernel
theorem dL_law_901 : decode cL_law 901 = .ok (.ireturn, 1) := by decide +kernel
theorem dL_law_902 : decode cL_law 902 = .ok (.aload_n 1, 1) := by decide +kernel
theorem dL_law_903 : decode cL_law 903 = .ok (.invokevirtual 128, 3) := by decide +kernel
theorem dL_law_906 : decode cL_law 906 = .ok (.aload_n 2, 1) := by decide +kernel
theorem dL_law_907 : decode cL_law 907 = .ok (.invokevirtual 132, 3) := by decide +kernel
theorem dL_law_910 : decode cL_law 910 = .ok (.lcmp, 1) := by decide +kernel
theorem dL_law_911 : decode cL_law 911 = .ok (.ifCond .eq 161, 3) := by decide +kernel
theorem dL_law_914 : decode cL_law 914 = .ok (.iconst 0, 1) := by decide +kernel
theorem dL_law_915 : decode cL_law 915 = .ok (.ireturn, 1) := by decide +kernel
theorem dL_law_916 : decode cL_law 916 = .ok (.aload_n 1, 1) := by decide +kernel
theorem dL_law_917 : decode cL_law 917 = .ok (.aload_n 0, 1) := by decide +kernel
theorem dL_law_918 : decode cL_law 918 = .ok (.iload_n 3, 1) := by decide +kernel
theorem dL_law_919 : decode cL_law 919 = .ok (.iconst 1, 1) := by decide +kernel
theorem dL_law_920 : decode cL_law 920 = .ok (.iadd, 1) := by decide +kernel
theorem dL_law_921 : decode cL_law 921 = .ok (.iaload, 1) := by decide +kernel
theorem dL_law_922 : decode cL_law 922 = .ok (.i2l, 1) := by decide +kernel
theorem dL_law_923 : decode cL_law 923 = .ok (.bipush 32, 2) := by decide +kernel
theorem dL_law_925 : decode cL_law 925 = .ok (.lshl, 1) := by decide +kernel
theorem dL_law_926 : decode cL_law 926 = .ok (.aload_n 0, 1) := by decide +kernel
theorem dL_law_927 : decode cL_law 927 = .ok (.iload_n 3, 1) := by decide +kernel
theorem dL_law_928 : decode cL_law 928 = .ok (.iconst 2, 1) := by decide +kernel
theorem dL_law_929 : decode cL_law 929 = .ok (.iadd, 1) := by decide +kernel
theorem dL_law_930 : decode cL_law 930 = .ok (.iaload, 1) := by decide +kernel
theorem dL_law_931 : decode cL_law 931 = .ok (.i2l, 1) := by decide +kernel
theorem dL_law_932 : decode cL_law 932 = .ok (.ldc2_w 13, 3) := by decide +kernel
theorem dL_law_935 : decode cL_law 935 = .ok (.land, 1) := by decide +kernel
theorem dL_law_936 : decode cL_law 936 = .ok (.lor, 1) := by decide +kernel
theorem dL_law_937 : decode cL_law 937 = .ok (.invokevirtual 133, 3) := by decide +kernel
theorem dL_law_940 : decode cL_law 940 = .ok (.aload_n 2, 1) := by decide +kernel
theorem dL_law_941 : decode cL_law 941 = .ok (.aload_n 0, 1) := by decide +kernel
theorem dL_law_942 : decode cL_law 942 = .ok (.iload_n 3, 1) := by decide +kernel
theorem dL_law_943 : decode cL_law 943 = .ok (.iconst 1, 1) := by decide +kernel
theorem dL_law_944 : decode cL_law 944 = .ok (.iadd, 1) := by decide +kernel
theorem dL_law_945 : decode cL_law 945 = .ok (.iaload, 1) := by decide +kernel
theorem dL_law_946 : decode cL_law 946 = .ok (.i2l, 1) := by decide +kernel
theorem dL_law_947 : decode cL_law 947 = .ok (.bipush 32, 2) := by decide +kernel
theorem dL_law_949 : decode cL_law 949 = .ok (.lshl, 1) := by decide +kernel
theorem dL_law_950 : decode cL_law 950 = .ok (.aload_n 0, 1) := by decide +kernel
theorem dL_law_951 : decode cL_law 951 = .ok (.iload_n 3, 1) := by decide +kernel
theorem dL_law_952 : decode cL_law 952 = .ok (.iconst 2, 1) := by decide +kernel
theorem dL_law_953 : decode cL_law 953 = .ok (.iadd, 1) := by decide +kernel
theorem dL_law_954 : decode cL_law 954 = .ok (.iaload, 1) := by decide +kernel
theorem dL_law_955 : decode cL_law 955 = .ok (.i2l, 1) := by decide +kernel
theorem dL_law_956 : decode cL_law 956 = .ok (.ldc2_w 13, 3) := by decide +kernel
theorem dL_law_959 : decode cL_law 959 = .ok (.land, 1) := by decide +kernel
theorem dL_law_960 : decode cL_law 960 = .ok (.lor, 1) := by decide +kernel
theorem dL_law_961 : decode cL_law 961 = .ok (.invokevirtual 137, 3) := by decide +kernel
theorem dL_law_964 : decode cL_law 964 = .ok (.lcmp, 1) := by decide +kernel
theorem dL_law_965 : decode cL_law 965 = .ok (.ifCond .eq 107, 3) := by decide +kernel
theorem dL_law_968 : decode cL_law 968 = .ok (.iconst 0, 1) := by decide +kernel
theorem dL_law_969 : decode cL_law 969 = .ok (.ireturn, 1) := by decide +kernel
theorem dL_law_970 : decode cL_law 970 = .ok (.aload_n 1, 1) := by decide +kernel
theorem dL_law_971 : decode cL_law 971 = .ok (.aload_n 0, 1) := by decide +kernel
theorem dL_law_972 : decode cL_law 972 = .ok (.iload_n 3, 1) := by decide +kernel
theorem dL_law_973 : decode cL_law 973 = .ok (.iconst 1, 1) := by decide +kernel
theorem dL_law_974 : decode cL_law 974 = .ok (.iadd, 1) := by decide +kernel
theorem dL_law_975 : decode cL_law 975 = .ok (.iaload, 1) := by decide +kernel
theorem dL_law_976 : decode cL_law 976 = .ok (.aload_n 0, 1) := by decide +kernel
theorem dL_law_977 : decode cL_law 977 = .ok (.iload_n 3, 1) := by decide +kernel
theorem dL_law_978 : decode cL_law 978 = .ok (.iconst 2, 1) := by decide +kernel
theorem dL_law_979 : decode cL_law 979 = .ok (.iadd, 1) := by decide +kernel
theorem dL_law_980 : decode cL_law 980 = .ok (.iaload, 1) := by decide +kernel
theorem dL_law_981 : decode cL_law 981 = .ok (.invokevirtual 138, 3) := by decide +kernel
theorem dL_law_984 : decode cL_law 984 = .ok (.aload_n 2, 1) := by decide +kernel
theorem dL_law_985 : decode cL_law 985 = .ok (.aload_n 0, 1) := by decide +kernel
theorem dL_law_986 : decode cL_law 986 = .ok (.iload_n 3, 1) := by decide +kernel
theorem dL_law_987 : decode cL_law 987 = .ok (.iconst 1, 1) := by decide +kernel
theorem dL_law_988 : decode cL_law 988 = .ok (.iadd, 1) := by decide +kernel
theorem dL_law_989 : decode cL_law 989 = .ok (.iaload, 1) := by decide +kernel
theorem dL_law_990 : decode cL_law 990 = .ok (.aload_n 0, 1) := by decide +kernel
theorem dL_law_991 : decode cL_law 991 = .ok (.iload_n 3, 1) := by decide +kernel
theorem dL_law_992 : decode cL_law 992 = .ok (.iconst 2, 1) := by decide +kernel
theorem dL_law_993 : decode cL_law 993 = .ok (.iadd, 1) := by decide +kernel
theorem dL_law_994 : decode cL_law 994 = .ok (.iaload, 1) := by decide +kernel
theorem dL_law_995 : decode cL_law 995 = .ok (.invokevirtual 141, 3) := by decide +kernel
theorem dL_law_998 : decode cL_law 998 = .ok (.if_icmp .eq 74, 3) := by decide +kernel
theorem dL_law_1001 : decode cL_law 1001 = .ok (.iconst 0, 1) := by decide +kernel
theorem dL_law_1002 : decode cL_law 1002 = .ok (.ireturn, 1) := by decide +kernel
theorem dL_law_1003 : decode cL_law 1003 = .ok (.aload_n 1, 1) := by decide +kernel
theorem dL_law_1004 : decode cL_law 1004 = .ok (.aload_n 0, 1) := by decide +kernel
theorem dL_law_1005 : decode cL_law 1005 = .ok (.iload_n 3, 1) := by decide +kernel
theorem dL_law_1006 : decode cL_law 1006 = .ok (.iconst 1, 1) := by decide +kernel
theorem dL_law_1007 : decode cL_law 1007 = .ok (.iadd, 1) := by decide +kernel
theorem dL_law_1008 : decode cL_law 1008 = .ok (.iaload, 1) := by decide +kernel
theorem dL_law_1009 : decode cL_law 1009 = .ok (.invokevirtual 142, 3) := by decide +kernel
theorem dL_law_1012 : decode cL_law 1012 = .ok (.aload_n 2, 1) := by decide +kernel
theorem dL_law_1013 : decode cL_law 1013 = .ok (.aload_n 0, 1) := by decide +kernel
theorem dL_law_1014 : decode cL_law 1014 = .ok (.iload_n 3, 1) := by decide +kernel
theorem dL_law_1015 : decode cL_law 1015 = .ok (.iconst 1, 1) := by decide +kernel
theorem dL_law_1016 : decode cL_law 1016 = .ok (.iadd, 1) := by decide +kernel
theorem dL_law_1017 : decode cL_law 1017 = .ok (.iaload, 1) := by decide +kernel
theorem dL_law_1018 : decode cL_law 1018 = .ok (.invokevirtual 145, 3) := by decide +kernel
theorem dL_law_1021 : decode cL_law 1021 = .ok (.if_icmp .eq 51, 3) := by decide +kernel
theorem dL_law_1024 : decode cL_law 1024 = .ok (.iconst 0, 1) := by decide +kernel
theorem dL_law_1025 : decode cL_law 1025 = .ok (.ireturn, 1) := by decide +kernel
theorem dL_law_1026 : decode cL_law 1026 = .ok (.aload_n 1, 1) := by decide +kernel
theorem dL_law_1027 : decode cL_law 1027 = .ok (.aload_n 0, 1) := by decide +kernel
theorem dL_law_1028 : decode cL_law 1028 = .ok (.iload_n 3, 1) := by decide +kernel
theorem dL_law_1029 : decode cL_law 1029 = .ok (.iconst 1, 1) := by decide +kernel
theorem dL_law_1030 : decode cL_law 1030 = .ok (.iadd, 1) := by decide +kernel
theorem dL_law_1031 : decode cL_law 1031 = .ok (.iaload, 1) := by decide +kernel
theorem dL_law_1032 : decode cL_law 1032 = .ok (.invokevirtual 146, 3) := by decide +kernel
theorem dL_law_1035 : decode cL_law 1035 = .ok (.aload_n 2, 1) := by decide +kernel
theorem dL_law_1036 : decode cL_law 1036 = .ok (.aload_n 0, 1) := by decide +kernel
theorem dL_law_1037 : decode cL_law 1037 = .ok (.iload_n 3, 1) := by decide +kernel
theorem dL_law_1038 : decode cL_law 1038 = .ok (.iconst 1, 1) := by decide +kernel
theorem dL_law_1039 : decode cL_law 1039 = .ok (.iadd, 1) := by decide +kernel
theorem dL_law_1040 : decode cL_law 1040 = .ok (.iaload, 1) := by decide +kernel
theorem dL_law_1041 : decode cL_law 1041 = .ok (.invokevirtual 149, 3) := by decide +kernel
theorem dL_law_1044 : decode cL_law 1044 = .ok (.if_icmp .eq 28, 3) := by decide +kernel
theorem dL_law_1047 : decode cL_law 1047 = .ok (.iconst 0, 1) := by decide +kernel
theorem dL_law_1048 : decode cL_law 1048 = .ok (.ireturn, 1) := by decide +kernel
theorem dL_law_1049 : decode cL_law 1049 = .ok (.aload_n 1, 1) := by decide +kernel
theorem dL_law_1050 : decode cL_law 1050 = .ok (.aload_n 0, 1) := by decide +kernel
theorem dL_law_1051 : decode cL_law 1051 = .ok (.iload_n 3, 1) := by decide +kernel
theorem dL_law_1052 : decode cL_law 1052 = .ok (.iconst 1, 1) := by decide +kernel
theorem dL_law_1053 : decode cL_law 1053 = .ok (.iadd, 1) := by decide +kernel
theorem dL_law_1054 : decode cL_law 1054 = .ok (.iaload, 1) := by decide +kernel
theorem dL_law_1055 : decode cL_law 1055 = .ok (.invokevirtual 150, 3) := by decide +kernel
theorem dL_law_1058 : decode cL_law 1058 = .ok (.aload_n 2, 1) := by decide +kernel
theorem dL_law_1059 : decode cL_law 1059 = .ok (.aload_n 0, 1) := by decide +kernel
theorem dL_law_1060 : decode cL_law 1060 = .ok (.iload_n 3, 1) := by decide +kernel
theorem dL_law_1061 : decode cL_law 1061 = .ok (.iconst 1, 1) := by decide +kernel
theorem dL_law_1062 : decode cL_law 1062 = .ok (.iadd, 1) := by decide +kernel
theorem dL_law_1063 : decode cL_law 1063 = .ok (.iaload, 1) := by decide +kernel
theorem dL_law_1064 : decode cL_law 1064 = .ok (.invokevirtual 153, 3) := by decide +kernel
theorem dL_law_1067 : decode cL_law 1067 = .ok (.if_icmp .eq 5, 3) := by decide +kernel
theorem dL_law_1070 : decode cL_law 1070 = .ok (.iconst 0, 1) := by decide +kernel
theorem dL_law_1071 : decode cL_law 1071 = .ok (.ireturn, 1) := by decide +kernel
theorem dL_law_1072 : decode cL_law 1072 = .ok (.iinc 3 5, 3) := by decide +kernel
theorem dL_law_1075 : decode cL_law 1075 = .ok (.goto (-1057), 3) := by decide +kernel
theorem dL_law_1078 : decode cL_law 1078 = .ok (.iconst 1, 1) := by decide +kernel
theorem dL_law_1079 : decode cL_law 1079 = .ok (.ireturn, 1) := by decide +kernel
abbrev vwCl : List vw_C := [(RX0, TX0, 3), (RX1, TX1, 2), (RX2, TX2, 4), (RX3, TX3, 4), (RX4, TX4, 7), (RX5, TX5, 2), (RX6, TX6, 4), (RX7, TX7, 2), (RX8, TX8, 9), (RX9, TX9, 34)]
end
section
/-- the numbers of a world: ints and longs, by the place of the object or array and the slot -/
abbrev Mem : Type := (Nat → Nat → Int32) × (Nat → Nat → Int64)
def sI (z : Mem) (q k : Nat) (v : Int32) : Mem := (fun a => if a = q then upd (z.1 q) k v else z.1 a, z.2)
def sR (z : Mem) (q : Nat) (f : Nat → Int32) : Mem := (fun a => if a = q then f else z.1 a, z.2)
def sL (z : Mem) (q k : Nat) (v : Int64) : Mem := (z.1, fun a => if a = q then vp_updL (z.2 q) k v else z.2 a)
/-- the fuel of a loop: more than any loop takes -/
def FU : Nat := 1000000
def lt {α β : Type} (v : α) (k : α → Option β) : Option β := k v
def rg {β : Type} (i : Int32) (n : Nat) (k : Option β) : Option β := if i < 0 ∨ n ≤ i.toNatClampNeg then none else k
def nz {β : Type} (y : Int32) (k : Option β) : Option β := if y = 0 then none else k
def nzl {β : Type} (y : Int64) (k : Option β) : Option β := if y = 0 then none else k
def bo {β : Type} (y : Int32) (k : Option β) : Option β := if y = 0 ∨ y = 1 then k else none
def ac {β : Type} (sp dp n : Int32) (n0 n1 : Nat) (k : Option β) : Option β := if ¬ sp < 0 ∧ ¬ dp < 0 ∧ ¬ n < 0 ∧ sp.toNatClampNeg + n.toNatClampNeg ≤ n0 ∧ dp.toNatClampNeg + n.toNatClampNeg ≤ n1 then k else none
def cl {α β : Type} (m : Option (α × Mem)) (k : α → Mem → Option β) : Option β := match m with
  | none => none
  | some x => k x.1 x.2
def jn {α β : Type} (K : α) (body : α → β) : β := body K
theorem lt_at {α β : Type} {v x : α} {k : α → Option β} {o : Option β} (h : x = v) (hf : lt v k = o) : k x = o := by subst h; exact hf
theorem lt_P {β : Type} {v : Mem} {k : Mem → Option β} {o : Option β} {P : Mem → Prop} (hp : P v) (hf : lt v k = o) : ∃ x, P x ∧ k x = o := ⟨v, hp, hf⟩
theorem rg_el {β : Type} {i : Int32} {n : Nat} {k : Option β} {x : β} (hf : rg i n k = some x) : vp_in i n ∧ k = some x := by
  unfold rg at hf
  split at hf
  · cases hf
  · next h => exact ⟨h, hf⟩
theorem nz_el {β : Type} {i : Int32} {k : Option β} {x : β} (hf : nz i k = some x) : ¬ i = 0 ∧ k = some x := by
  unfold nz at hf
  split at hf
  · cases hf
  · next h => exact ⟨h, hf⟩
theorem nzl_el {β : Type} {i : Int64} {k : Option β} {x : β} (hf : nzl i k = some x) : ¬ i = 0 ∧ k = some x := by
  unfold nzl at hf
  split at hf
  · cases hf
  · next h => exact ⟨h, hf⟩
theorem bo_el {β : Type} {v : Int32} {k : Option β} {x : β} (hf : bo v k = some x) : narrow .boolean (.int v) = .int v ∧ k = some x := by
  unfold bo at hf
  split at hf
  · next h => exact ⟨by rcases h with rfl | rfl <;> rfl, hf⟩
  · cases hf
theorem ac_el {β : Type} {sp dp n : Int32} {n0 n1 : Nat} {k : Option β} {x : β} (hf : ac sp dp n n0 n1 k = some x) : (¬ sp < 0 ∧ ¬ dp < 0 ∧ ¬ n < 0 ∧ sp.toNatClampNeg + n.toNatClampNeg ≤ n0 ∧ dp.toNatClampNeg + n.toNatClampNeg ≤ n1) ∧ k = some x := by
  unfold ac at hf
  split at hf
  · next h => exact ⟨h, hf⟩
  · cases hf
theorem cl_el {α β : Type} {m : Option (α × Mem)} {k : α → Mem → Option β} {x : β} (hf : cl m k = some x) : ∃ (r : α) (z1 : Mem), m = some (r, z1) ∧ k r z1 = some x := by
  unfold cl at hf
  split at hf
  · cases hf
  · next y => exact ⟨y.1, y.2, rfl, hf⟩
theorem jn_el {α β : Type} {k : α} {F : α → Option β} {o : Option β} (hf : jn k F = o) : ∃ K, K = k ∧ F K = o := ⟨k, rfl, hf⟩
theorem it_t {c : Prop} [Decidable c] {β : Type} {a b o : Option β} (h : c) (hf : (if c then a else b) = o) : a = o := by rw [if_pos h] at hf; exact hf
theorem it_f {c : Prop} [Decidable c] {β : Type} {a b o : Option β} (h : ¬ c) (hf : (if c then a else b) = o) : b = o := by rw [if_neg h] at hf; exact hf
theorem ap1 {α δ : Type} {K k : α → δ} {a : α} {o : δ} (h : K = k) (hf : K a = o) : k a = o := by rw [← h]; exact hf
theorem ap2 {α β δ : Type} {K k : α → β → δ} {a : α} {b : β} {o : δ} (h : K = k) (hf : K a b = o) : k a b = o := by rw [← h]; exact hf
theorem ap3 {α β γ δ : Type} {K k : α → β → γ → δ} {a : α} {b : β} {c : γ} {o : δ} (h : K = k) (hf : K a b c = o) : k a b c = o := by rw [← h]; exact hf
theorem ap4 {α β γ ε δ : Type} {K k : α → β → γ → ε → δ} {a : α} {b : β} {c : γ} {d : ε} {o : δ} (h : K = k) (hf : K a b c d = o) : k a b c d = o := by rw [← h]; exact hf
theorem ap5 {α β γ ε ζ δ : Type} {K k : α → β → γ → ε → ζ → δ} {a : α} {b : β} {c : γ} {d : ε} {f : ζ} {o : δ} (h : K = k) (hf : K a b c d f = o) : k a b c d f = o := by rw [← h]; exact hf
theorem ap6 {α β γ ε ζ η δ : Type} {K k : α → β → γ → ε → ζ → η → δ} {a : α} {b : β} {c : γ} {d : ε} {f : ζ} {g : η} {o : δ} (h : K = k) (hf : K a b c d f g = o) : k a b c d f g = o := by rw [← h]; exact hf
theorem ap7 {α β γ ε ζ η θ δ : Type} {K k : α → β → γ → ε → ζ → η → θ → δ} {a : α} {b : β} {c : γ} {d : ε} {f : ζ} {g : η} {i : θ} {o : δ} (h : K = k) (hf : K a b c d f g i = o) : k a b c d f g i = o := by rw [← h]; exact hf
theorem rt_el {α : Type} {v r : α} {a z : Mem} (hf : some (v, a) = some (r, z)) : v = r ∧ a = z := ⟨congrArg (fun x => x.1) (Option.some.inj hf), congrArg (fun x => x.2) (Option.some.inj hf)⟩
/-- the world: every cell of the class and of the reference -/
def wAll (A : Nat → Nat) (cI cJ cZ : ClassId) (z : Mem) : va_W := [
  (A 0, .inr (8, [.ref (A 1), .ref (A 2), .ref (A 3), .ref (A 4), .ref (A 5), .ref (A 6), .ref (A 7), .ref (A 8), .int (z.1 0 8)])),
  (A 1, .inr (1, [.ref (A 10), .int (z.1 1 1)])),
  (A 2, .inr (2, [.ref (A 11), .int (z.1 2 1), .int (z.1 2 2), .int (z.1 2 3)])),
  (A 3, .inr (0, [.ref (A 12), .int (z.1 3 1), .int (z.1 3 2)])),
  (A 4, .inr (5, [.ref (A 13), .int (z.1 4 1)])),
  (A 5, .inr (6, [.ref (A 14), .ref (A 15), .ref (A 16), .int (z.1 5 3)])),
  (A 6, .inr (4, [.ref (A 17), .ref (A 18), .ref (A 19), .ref (A 20), .int (z.1 6 4), .int (z.1 6 5), .int (z.1 6 6)])),
  (A 7, .inr (3, [.ref (A 21), .ref (A 22), .ref (A 23), .int (z.1 7 3)])),
  (A 8, .inr (7, [.ref (A 9), .long (z.2 8 1)])),
  (A 9, .inr (2, [.ref (A 24), .int (z.1 9 1), .int (z.1 9 2), .int (z.1 9 3)])),
  (A 10, .inl (cI, 48, .inl (z.1 10))),
  (A 11, .inl (cI, 26, .inl (z.1 11))),
  (A 12, .inl (cI, 416, .inl (z.1 12))),
  (A 13, .inl (cI, 52, .inl (z.1 13))),
  (A 14, .inl (cI, 10, .inl (z.1 14))),
  (A 15, .inl (cI, 10, .inl (z.1 15))),
  (A 16, .inl (cI, 10, .inl (z.1 16))),
  (A 17, .inl (cI, 8, .inl (z.1 17))),
  (A 18, .inl (cI, 8, .inl (z.1 18))),
  (A 19, .inl (cI, 5, .inl (z.1 19))),
  (A 20, .inl (cI, 5, .inl (z.1 20))),
  (A 21, .inl (cI, 4, .inl (z.1 21))),
  (A 22, .inl (cI, 3, .inl (z.1 22))),
  (A 23, .inl (cJ, 2197, .inr (.inl (z.2 23)))),
  (A 24, .inl (cI, 26, .inl (z.1 24))),
  (A 25, .inr (9, [.ref (A 26), .int (z.1 25 1), .int (z.1 25 2), .int (z.1 25 3), .int (z.1 25 4), .ref (A 27), .int (z.1 25 6), .int (z.1 25 7), .int (z.1 25 8), .int (z.1 25 9), .ref (A 28), .int (z.1 25 11), .int (z.1 25 12), .int (z.1 25 13), .int (z.1 25 14), .int (z.1 25 15), .ref (A 29), .int (z.1 25 17), .ref (A 30), .ref (A 31), .ref (A 32), .int (z.1 25 21), .ref (A 33), .ref (A 34), .ref (A 35), .ref (A 36), .int (z.1 25 26), .ref (A 37), .ref (A 38), .ref (A 39), .long (z.2 25 30), .ref (A 40), .ref (A 41), .ref (A 42)])),
  (A 26, .inl (cI, 26, .inl (z.1 26))),
  (A 27, .inl (cI, 26, .inl (z.1 27))),
  (A 28, .inl (cI, 48, .inl (z.1 28))),
  (A 29, .inl (cI, 416, .inl (z.1 29))),
  (A 30, .inl (cI, 10, .inl (z.1 30))),
  (A 31, .inl (cI, 10, .inl (z.1 31))),
  (A 32, .inl (cI, 10, .inl (z.1 32))),
  (A 33, .inl (cI, 8, .inl (z.1 33))),
  (A 34, .inl (cI, 8, .inl (z.1 34))),
  (A 35, .inl (cI, 5, .inl (z.1 35))),
  (A 36, .inl (cI, 5, .inl (z.1 36))),
  (A 37, .inl (cI, 4, .inl (z.1 37))),
  (A 38, .inl (cJ, 2197, .inr (.inl (z.2 38)))),
  (A 39, .inl (cJ, 2197, .inr (.inl (z.2 39)))),
  (A 40, .inl (cI, 26, .inl (z.1 40))),
  (A 41, .inl (cZ, 2, .inl (z.1 41))),
  (A 42, .inl (cI, 52, .inl (z.1 42)))]
abbrev tys (cI cJ cZ : ClassId) : List (ClassId × FieldType) := [(cI, .int), (cJ, .long), (cZ, .boolean)]
theorem wc_0 (A : Nat → Nat) (cI cJ cZ : ClassId) (z : Mem) : (wAll A cI cJ cZ z)[0]? = some (A 0, .inr (8, [.ref (A 1), .ref (A 2), .ref (A 3), .ref (A 4), .ref (A 5), .ref (A 6), .ref (A 7), .ref (A 8), .int (z.1 0 8)])) := rfl
theorem wc_1 (A : Nat → Nat) (cI cJ cZ : ClassId) (z : Mem) : (wAll A cI cJ cZ z)[1]? = some (A 1, .inr (1, [.ref (A 10), .int (z.1 1 1)])) := rfl
theorem wc_2 (A : Nat → Nat) (cI cJ cZ : ClassId) (z : Mem) : (wAll A cI cJ cZ z)[2]? = some (A 2, .inr (2, [.ref (A 11), .int (z.1 2 1), .int (z.1 2 2), .int (z.1 2 3)])) := rfl
theorem wc_3 (A : Nat → Nat) (cI cJ cZ : ClassId) (z : Mem) : (wAll A cI cJ cZ z)[3]? = some (A 3, .inr (0, [.ref (A 12), .int (z.1 3 1), .int (z.1 3 2)])) := rfl
theorem wc_4 (A : Nat → Nat) (cI cJ cZ : ClassId) (z : Mem) : (wAll A cI cJ cZ z)[4]? = some (A 4, .inr (5, [.ref (A 13), .int (z.1 4 1)])) := rfl
theorem wc_5 (A : Nat → Nat) (cI cJ cZ : ClassId) (z : Mem) : (wAll A cI cJ cZ z)[5]? = some (A 5, .inr (6, [.ref (A 14), .ref (A 15), .ref (A 16), .int (z.1 5 3)])) := rfl
theorem wc_6 (A : Nat → Nat) (cI cJ cZ : ClassId) (z : Mem) : (wAll A cI cJ cZ z)[6]? = some (A 6, .inr (4, [.ref (A 17), .ref (A 18), .ref (A 19), .ref (A 20), .int (z.1 6 4), .int (z.1 6 5), .int (z.1 6 6)])) := rfl
theorem wc_7 (A : Nat → Nat) (cI cJ cZ : ClassId) (z : Mem) : (wAll A cI cJ cZ z)[7]? = some (A 7, .inr (3, [.ref (A 21), .ref (A 22), .ref (A 23), .int (z.1 7 3)])) := rfl
theorem wc_8 (A : Nat → Nat) (cI cJ cZ : ClassId) (z : Mem) : (wAll A cI cJ cZ z)[8]? = some (A 8, .inr (7, [.ref (A 9), .long (z.2 8 1)])) := rfl
theorem wc_9 (A : Nat → Nat) (cI cJ cZ : ClassId) (z : Mem) : (wAll A cI cJ cZ z)[9]? = some (A 9, .inr (2, [.ref (A 24), .int (z.1 9 1), .int (z.1 9 2), .int (z.1 9 3)])) := rfl
theorem wc_10 (A : Nat → Nat) (cI cJ cZ : ClassId) (z : Mem) : (wAll A cI cJ cZ z)[10]? = some (A 10, .inl (cI, 48, .inl (z.1 10))) := rfl
theorem wc_11 (A : Nat → Nat) (cI cJ cZ : ClassId) (z : Mem) : (wAll A cI cJ cZ z)[11]? = some (A 11, .inl (cI, 26, .inl (z.1 11))) := rfl
theorem wc_12 (A : Nat → Nat) (cI cJ cZ : ClassId) (z : Mem) : (wAll A cI cJ cZ z)[12]? = some (A 12, .inl (cI, 416, .inl (z.1 12))) := rfl
theorem wc_13 (A : Nat → Nat) (cI cJ cZ : ClassId) (z : Mem) : (wAll A cI cJ cZ z)[13]? = some (A 13, .inl (cI, 52, .inl (z.1 13))) := rfl
theorem wc_14 (A : Nat → Nat) (cI cJ cZ : ClassId) (z : Mem) : (wAll A cI cJ cZ z)[14]? = some (A 14, .inl (cI, 10, .inl (z.1 14))) := rfl
theorem wc_15 (A : Nat → Nat) (cI cJ cZ : ClassId) (z : Mem) : (wAll A cI cJ cZ z)[15]? = some (A 15, .inl (cI, 10, .inl (z.1 15))) := rfl
theorem wc_16 (A : Nat → Nat) (cI cJ cZ : ClassId) (z : Mem) : (wAll A cI cJ cZ z)[16]? = some (A 16, .inl (cI, 10, .inl (z.1 16))) := rfl
theorem wc_17 (A : Nat → Nat) (cI cJ cZ : ClassId) (z : Mem) : (wAll A cI cJ cZ z)[17]? = some (A 17, .inl (cI, 8, .inl (z.1 17))) := rfl
theorem wc_18 (A : Nat → Nat) (cI cJ cZ : ClassId) (z : Mem) : (wAll A cI cJ cZ z)[18]? = some (A 18, .inl (cI, 8, .inl (z.1 18))) := rfl
theorem wc_19 (A : Nat → Nat) (cI cJ cZ : ClassId) (z : Mem) : (wAll A cI cJ cZ z)[19]? = some (A 19, .inl (cI, 5, .inl (z.1 19))) := rfl
theorem wc_20 (A : Nat → Nat) (cI cJ cZ : ClassId) (z : Mem) : (wAll A cI cJ cZ z)[20]? = some (A 20, .inl (cI, 5, .inl (z.1 20))) := rfl
theorem wc_21 (A : Nat → Nat) (cI cJ cZ : ClassId) (z : Mem) : (wAll A cI cJ cZ z)[21]? = some (A 21, .inl (cI, 4, .inl (z.1 21))) := rfl
theorem wc_22 (A : Nat → Nat) (cI cJ cZ : ClassId) (z : Mem) : (wAll A cI cJ cZ z)[22]? = some (A 22, .inl (cI, 3, .inl (z.1 22))) := rfl
theorem wc_23 (A : Nat → Nat) (cI cJ cZ : ClassId) (z : Mem) : (wAll A cI cJ cZ z)[23]? = some (A 23, .inl (cJ, 2197, .inr (.inl (z.2 23)))) := rfl
theorem wc_24 (A : Nat → Nat) (cI cJ cZ : ClassId) (z : Mem) : (wAll A cI cJ cZ z)[24]? = some (A 24, .inl (cI, 26, .inl (z.1 24))) := rfl
theorem wc_25 (A : Nat → Nat) (cI cJ cZ : ClassId) (z : Mem) : (wAll A cI cJ cZ z)[25]? = some (A 25, .inr (9, [.ref (A 26), .int (z.1 25 1), .int (z.1 25 2), .int (z.1 25 3), .int (z.1 25 4), .ref (A 27), .int (z.1 25 6), .int (z.1 25 7), .int (z.1 25 8), .int (z.1 25 9), .ref (A 28), .int (z.1 25 11), .int (z.1 25 12), .int (z.1 25 13), .int (z.1 25 14), .int (z.1 25 15), .ref (A 29), .int (z.1 25 17), .ref (A 30), .ref (A 31), .ref (A 32), .int (z.1 25 21), .ref (A 33), .ref (A 34), .ref (A 35), .ref (A 36), .int (z.1 25 26), .ref (A 37), .ref (A 38), .ref (A 39), .long (z.2 25 30), .ref (A 40), .ref (A 41), .ref (A 42)])) := rfl
theorem wc_26 (A : Nat → Nat) (cI cJ cZ : ClassId) (z : Mem) : (wAll A cI cJ cZ z)[26]? = some (A 26, .inl (cI, 26, .inl (z.1 26))) := rfl
theorem wc_27 (A : Nat → Nat) (cI cJ cZ : ClassId) (z : Mem) : (wAll A cI cJ cZ z)[27]? = some (A 27, .inl (cI, 26, .inl (z.1 27))) := rfl
theorem wc_28 (A : Nat → Nat) (cI cJ cZ : ClassId) (z : Mem) : (wAll A cI cJ cZ z)[28]? = some (A 28, .inl (cI, 48, .inl (z.1 28))) := rfl
theorem wc_29 (A : Nat → Nat) (cI cJ cZ : ClassId) (z : Mem) : (wAll A cI cJ cZ z)[29]? = some (A 29, .inl (cI, 416, .inl (z.1 29))) := rfl
theorem wc_30 (A : Nat → Nat) (cI cJ cZ : ClassId) (z : Mem) : (wAll A cI cJ cZ z)[30]? = some (A 30, .inl (cI, 10, .inl (z.1 30))) := rfl
theorem wc_31 (A : Nat → Nat) (cI cJ cZ : ClassId) (z : Mem) : (wAll A cI cJ cZ z)[31]? = some (A 31, .inl (cI, 10, .inl (z.1 31))) := rfl
theorem wc_32 (A : Nat → Nat) (cI cJ cZ : ClassId) (z : Mem) : (wAll A cI cJ cZ z)[32]? = some (A 32, .inl (cI, 10, .inl (z.1 32))) := rfl
theorem wc_33 (A : Nat → Nat) (cI cJ cZ : ClassId) (z : Mem) : (wAll A cI cJ cZ z)[33]? = some (A 33, .inl (cI, 8, .inl (z.1 33))) := rfl
theorem wc_34 (A : Nat → Nat) (cI cJ cZ : ClassId) (z : Mem) : (wAll A cI cJ cZ z)[34]? = some (A 34, .inl (cI, 8, .inl (z.1 34))) := rfl
theorem wc_35 (A : Nat → Nat) (cI cJ cZ : ClassId) (z : Mem) : (wAll A cI cJ cZ z)[35]? = some (A 35, .inl (cI, 5, .inl (z.1 35))) := rfl
theorem wc_36 (A : Nat → Nat) (cI cJ cZ : ClassId) (z : Mem) : (wAll A cI cJ cZ z)[36]? = some (A 36, .inl (cI, 5, .inl (z.1 36))) := rfl
theorem wc_37 (A : Nat → Nat) (cI cJ cZ : ClassId) (z : Mem) : (wAll A cI cJ cZ z)[37]? = some (A 37, .inl (cI, 4, .inl (z.1 37))) := rfl
theorem wc_38 (A : Nat → Nat) (cI cJ cZ : ClassId) (z : Mem) : (wAll A cI cJ cZ z)[38]? = some (A 38, .inl (cJ, 2197, .inr (.inl (z.2 38)))) := rfl
theorem wc_39 (A : Nat → Nat) (cI cJ cZ : ClassId) (z : Mem) : (wAll A cI cJ cZ z)[39]? = some (A 39, .inl (cJ, 2197, .inr (.inl (z.2 39)))) := rfl
theorem wc_40 (A : Nat → Nat) (cI cJ cZ : ClassId) (z : Mem) : (wAll A cI cJ cZ z)[40]? = some (A 40, .inl (cI, 26, .inl (z.1 40))) := rfl
theorem wc_41 (A : Nat → Nat) (cI cJ cZ : ClassId) (z : Mem) : (wAll A cI cJ cZ z)[41]? = some (A 41, .inl (cZ, 2, .inl (z.1 41))) := rfl
theorem wc_42 (A : Nat → Nat) (cI cJ cZ : ClassId) (z : Mem) : (wAll A cI cJ cZ z)[42]? = some (A 42, .inl (cI, 52, .inl (z.1 42))) := rfl
theorem ws_0_8 (A : Nat → Nat) (cI cJ cZ : ClassId) (z : Mem) (v : Int32) : (wAll A cI cJ cZ z).set 0 (A 0, .inr (8, List.set [.ref (A 1), .ref (A 2), .ref (A 3), .ref (A 4), .ref (A 5), .ref (A 6), .ref (A 7), .ref (A 8), .int (z.1 0 8)] 8 (.int v))) = wAll A cI cJ cZ (sI z 0 8 v) := rfl
theorem ws_1_1 (A : Nat → Nat) (cI cJ cZ : ClassId) (z : Mem) (v : Int32) : (wAll A cI cJ cZ z).set 1 (A 1, .inr (1, List.set [.ref (A 10), .int (z.1 1 1)] 1 (.int v))) = wAll A cI cJ cZ (sI z 1 1 v) := rfl
theorem ws_2_1 (A : Nat → Nat) (cI cJ cZ : ClassId) (z : Mem) (v : Int32) : (wAll A cI cJ cZ z).set 2 (A 2, .inr (2, List.set [.ref (A 11), .int (z.1 2 1), .int (z.1 2 2), .int (z.1 2 3)] 1 (.int v))) = wAll A cI cJ cZ (sI z 2 1 v) := rfl
theorem ws_2_2 (A : Nat → Nat) (cI cJ cZ : ClassId) (z : Mem) (v : Int32) : (wAll A cI cJ cZ z).set 2 (A 2, .inr (2, List.set [.ref (A 11), .int (z.1 2 1), .int (z.1 2 2), .int (z.1 2 3)] 2 (.int v))) = wAll A cI cJ cZ (sI z 2 2 v) := rfl
theorem ws_2_3 (A : Nat → Nat) (cI cJ cZ : ClassId) (z : Mem) (v : Int32) : (wAll A cI cJ cZ z).set 2 (A 2, .inr (2, List.set [.ref (A 11), .int (z.1 2 1), .int (z.1 2 2), .int (z.1 2 3)] 3 (.int v))) = wAll A cI cJ cZ (sI z 2 3 v) := rfl
theorem ws_3_1 (A : Nat → Nat) (cI cJ cZ : ClassId) (z : Mem) (v : Int32) : (wAll A cI cJ cZ z).set 3 (A 3, .inr (0, List.set [.ref (A 12), .int (z.1 3 1), .int (z.1 3 2)] 1 (.int v))) = wAll A cI cJ cZ (sI z 3 1 v) := rfl
theorem ws_3_2 (A : Nat → Nat) (cI cJ cZ : ClassId) (z : Mem) (v : Int32) : (wAll A cI cJ cZ z).set 3 (A 3, .inr (0, List.set [.ref (A 12), .int (z.1 3 1), .int (z.1 3 2)] 2 (.int v))) = wAll A cI cJ cZ (sI z 3 2 v) := rfl
theorem ws_4_1 (A : Nat → Nat) (cI cJ cZ : ClassId) (z : Mem) (v : Int32) : (wAll A cI cJ cZ z).set 4 (A 4, .inr (5, List.set [.ref (A 13), .int (z.1 4 1)] 1 (.int v))) = wAll A cI cJ cZ (sI z 4 1 v) := rfl
theorem ws_5_3 (A : Nat → Nat) (cI cJ cZ : ClassId) (z : Mem) (v : Int32) : (wAll A cI cJ cZ z).set 5 (A 5, .inr (6, List.set [.ref (A 14), .ref (A 15), .ref (A 16), .int (z.1 5 3)] 3 (.int v))) = wAll A cI cJ cZ (sI z 5 3 v) := rfl
theorem ws_6_4 (A : Nat → Nat) (cI cJ cZ : ClassId) (z : Mem) (v : Int32) : (wAll A cI cJ cZ z).set 6 (A 6, .inr (4, List.set [.ref (A 17), .ref (A 18), .ref (A 19), .ref (A 20), .int (z.1 6 4), .int (z.1 6 5), .int (z.1 6 6)] 4 (.int v))) = wAll A cI cJ cZ (sI z 6 4 v) := rfl
theorem ws_6_5 (A : Nat → Nat) (cI cJ cZ : ClassId) (z : Mem) (v : Int32) : (wAll A cI cJ cZ z).set 6 (A 6, .inr (4, List.set [.ref (A 17), .ref (A 18), .ref (A 19), .ref (A 20), .int (z.1 6 4), .int (z.1 6 5), .int (z.1 6 6)] 5 (.int v))) = wAll A cI cJ cZ (sI z 6 5 v) := rfl
theorem ws_6_6 (A : Nat → Nat) (cI cJ cZ : ClassId) (z : Mem) (v : Int32) : (wAll A cI cJ cZ z).set 6 (A 6, .inr (4, List.set [.ref (A 17), .ref (A 18), .ref (A 19), .ref (A 20), .int (z.1 6 4), .int (z.1 6 5), .int (z.1 6 6)] 6 (.int v))) = wAll A cI cJ cZ (sI z 6 6 v) := rfl
theorem ws_7_3 (A : Nat → Nat) (cI cJ cZ : ClassId) (z : Mem) (v : Int32) : (wAll A cI cJ cZ z).set 7 (A 7, .inr (3, List.set [.ref (A 21), .ref (A 22), .ref (A 23), .int (z.1 7 3)] 3 (.int v))) = wAll A cI cJ cZ (sI z 7 3 v) := rfl
theorem ws_8_1 (A : Nat → Nat) (cI cJ cZ : ClassId) (z : Mem) (v : Int64) : (wAll A cI cJ cZ z).set 8 (A 8, .inr (7, List.set [.ref (A 9), .long (z.2 8 1)] 1 (.long v))) = wAll A cI cJ cZ (sL z 8 1 v) := rfl
theorem ws_9_1 (A : Nat → Nat) (cI cJ cZ : ClassId) (z : Mem) (v : Int32) : (wAll A cI cJ cZ z).set 9 (A 9, .inr (2, List.set [.ref (A 24), .int (z.1 9 1), .int (z.1 9 2), .int (z.1 9 3)] 1 (.int v))) = wAll A cI cJ cZ (sI z 9 1 v) := rfl
theorem ws_9_2 (A : Nat → Nat) (cI cJ cZ : ClassId) (z : Mem) (v : Int32) : (wAll A cI cJ cZ z).set 9 (A 9, .inr (2, List.set [.ref (A 24), .int (z.1 9 1), .int (z.1 9 2), .int (z.1 9 3)] 2 (.int v))) = wAll A cI cJ cZ (sI z 9 2 v) := rfl
theorem ws_9_3 (A : Nat → Nat) (cI cJ cZ : ClassId) (z : Mem) (v : Int32) : (wAll A cI cJ cZ z).set 9 (A 9, .inr (2, List.set [.ref (A 24), .int (z.1 9 1), .int (z.1 9 2), .int (z.1 9 3)] 3 (.int v))) = wAll A cI cJ cZ (sI z 9 3 v) := rfl
theorem wa_10 (A : Nat → Nat) (cI cJ cZ : ClassId) (z : Mem) (k : Nat) (v : Int32) : (wAll A cI cJ cZ z).set 10 (A 10, .inl (cI, 48, .inl (upd (z.1 10) k v))) = wAll A cI cJ cZ (sI z 10 k v) := rfl
theorem wr_10 (A : Nat → Nat) (cI cJ cZ : ClassId) (z : Mem) (f : Nat → Int32) : (wAll A cI cJ cZ z).set 10 (A 10, .inl (cI, 48, .inl f)) = wAll A cI cJ cZ (sR z 10 f) := rfl
theorem wa_11 (A : Nat → Nat) (cI cJ cZ : ClassId) (z : Mem) (k : Nat) (v : Int32) : (wAll A cI cJ cZ z).set 11 (A 11, .inl (cI, 26, .inl (upd (z.1 11) k v))) = wAll A cI cJ cZ (sI z 11 k v) := rfl
theorem wr_11 (A : Nat → Nat) (cI cJ cZ : ClassId) (z : Mem) (f : Nat → Int32) : (wAll A cI cJ cZ z).set 11 (A 11, .inl (cI, 26, .inl f)) = wAll A cI cJ cZ (sR z 11 f) := rfl
theorem wa_12 (A : Nat → Nat) (cI cJ cZ : ClassId) (z : Mem) (k : Nat) (v : Int32) : (wAll A cI cJ cZ z).set 12 (A 12, .inl (cI, 416, .inl (upd (z.1 12) k v))) = wAll A cI cJ cZ (sI z 12 k v) := rfl
theorem wr_12 (A : Nat → Nat) (cI cJ cZ : ClassId) (z : Mem) (f : Nat → Int32) : (wAll A cI cJ cZ z).set 12 (A 12, .inl (cI, 416, .inl f)) = wAll A cI cJ cZ (sR z 12 f) := rfl
theorem wa_13 (A : Nat → Nat) (cI cJ cZ : ClassId) (z : Mem) (k : Nat) (v : Int32) : (wAll A cI cJ cZ z).set 13 (A 13, .inl (cI, 52, .inl (upd (z.1 13) k v))) = wAll A cI cJ cZ (sI z 13 k v) := rfl
theorem wr_13 (A : Nat → Nat) (cI cJ cZ : ClassId) (z : Mem) (f : Nat → Int32) : (wAll A cI cJ cZ z).set 13 (A 13, .inl (cI, 52, .inl f)) = wAll A cI cJ cZ (sR z 13 f) := rfl
theorem wa_14 (A : Nat → Nat) (cI cJ cZ : ClassId) (z : Mem) (k : Nat) (v : Int32) : (wAll A cI cJ cZ z).set 14 (A 14, .inl (cI, 10, .inl (upd (z.1 14) k v))) = wAll A cI cJ cZ (sI z 14 k v) := rfl
theorem wr_14 (A : Nat → Nat) (cI cJ cZ : ClassId) (z : Mem) (f : Nat → Int32) : (wAll A cI cJ cZ z).set 14 (A 14, .inl (cI, 10, .inl f)) = wAll A cI cJ cZ (sR z 14 f) := rfl
theorem wa_15 (A : Nat → Nat) (cI cJ cZ : ClassId) (z : Mem) (k : Nat) (v : Int32) : (wAll A cI cJ cZ z).set 15 (A 15, .inl (cI, 10, .inl (upd (z.1 15) k v))) = wAll A cI cJ cZ (sI z 15 k v) := rfl
theorem wr_15 (A : Nat → Nat) (cI cJ cZ : ClassId) (z : Mem) (f : Nat → Int32) : (wAll A cI cJ cZ z).set 15 (A 15, .inl (cI, 10, .inl f)) = wAll A cI cJ cZ (sR z 15 f) := rfl
theorem wa_16 (A : Nat → Nat) (cI cJ cZ : ClassId) (z : Mem) (k : Nat) (v : Int32) : (wAll A cI cJ cZ z).set 16 (A 16, .inl (cI, 10, .inl (upd (z.1 16) k v))) = wAll A cI cJ cZ (sI z 16 k v) := rfl
theorem wr_16 (A : Nat → Nat) (cI cJ cZ : ClassId) (z : Mem) (f : Nat → Int32) : (wAll A cI cJ cZ z).set 16 (A 16, .inl (cI, 10, .inl f)) = wAll A cI cJ cZ (sR z 16 f) := rfl
theorem wa_17 (A : Nat → Nat) (cI cJ cZ : ClassId) (z : Mem) (k : Nat) (v : Int32) : (wAll A cI cJ cZ z).set 17 (A 17, .inl (cI, 8, .inl (upd (z.1 17) k v))) = wAll A cI cJ cZ (sI z 17 k v) := rfl
theorem wr_17 (A : Nat → Nat) (cI cJ cZ : ClassId) (z : Mem) (f : Nat → Int32) : (wAll A cI cJ cZ z).set 17 (A 17, .inl (cI, 8, .inl f)) = wAll A cI cJ cZ (sR z 17 f) := rfl
theorem wa_18 (A : Nat → Nat) (cI cJ cZ : ClassId) (z : Mem) (k : Nat) (v : Int32) : (wAll A cI cJ cZ z).set 18 (A 18, .inl (cI, 8, .inl (upd (z.1 18) k v))) = wAll A cI cJ cZ (sI z 18 k v) := rfl
theorem wr_18 (A : Nat → Nat) (cI cJ cZ : ClassId) (z : Mem) (f : Nat → Int32) : (wAll A cI cJ cZ z).set 18 (A 18, .inl (cI, 8, .inl f)) = wAll A cI cJ cZ (sR z 18 f) := rfl
theorem wa_19 (A : Nat → Nat) (cI cJ cZ : ClassId) (z : Mem) (k : Nat) (v : Int32) : (wAll A cI cJ cZ z).set 19 (A 19, .inl (cI, 5, .inl (upd (z.1 19) k v))) = wAll A cI cJ cZ (sI z 19 k v) := rfl
theorem wr_19 (A : Nat → Nat) (cI cJ cZ : ClassId) (z : Mem) (f : Nat → Int32) : (wAll A cI cJ cZ z).set 19 (A 19, .inl (cI, 5, .inl f)) = wAll A cI cJ cZ (sR z 19 f) := rfl
theorem wa_20 (A : Nat → Nat) (cI cJ cZ : ClassId) (z : Mem) (k : Nat) (v : Int32) : (wAll A cI cJ cZ z).set 20 (A 20, .inl (cI, 5, .inl (upd (z.1 20) k v))) = wAll A cI cJ cZ (sI z 20 k v) := rfl
theorem wr_20 (A : Nat → Nat) (cI cJ cZ : ClassId) (z : Mem) (f : Nat → Int32) : (wAll A cI cJ cZ z).set 20 (A 20, .inl (cI, 5, .inl f)) = wAll A cI cJ cZ (sR z 20 f) := rfl
theorem wa_21 (A : Nat → Nat) (cI cJ cZ : ClassId) (z : Mem) (k : Nat) (v : Int32) : (wAll A cI cJ cZ z).set 21 (A 21, .inl (cI, 4, .inl (upd (z.1 21) k v))) = wAll A cI cJ cZ (sI z 21 k v) := rfl
theorem wr_21 (A : Nat → Nat) (cI cJ cZ : ClassId) (z : Mem) (f : Nat → Int32) : (wAll A cI cJ cZ z).set 21 (A 21, .inl (cI, 4, .inl f)) = wAll A cI cJ cZ (sR z 21 f) := rfl
theorem wa_22 (A : Nat → Nat) (cI cJ cZ : ClassId) (z : Mem) (k : Nat) (v : Int32) : (wAll A cI cJ cZ z).set 22 (A 22, .inl (cI, 3, .inl (upd (z.1 22) k v))) = wAll A cI cJ cZ (sI z 22 k v) := rfl
theorem wr_22 (A : Nat → Nat) (cI cJ cZ : ClassId) (z : Mem) (f : Nat → Int32) : (wAll A cI cJ cZ z).set 22 (A 22, .inl (cI, 3, .inl f)) = wAll A cI cJ cZ (sR z 22 f) := rfl
theorem wa_23 (A : Nat → Nat) (cI cJ cZ : ClassId) (z : Mem) (k : Nat) (v : Int64) : (wAll A cI cJ cZ z).set 23 (A 23, .inl (cJ, 2197, .inr (.inl (vp_updL (z.2 23) k v)))) = wAll A cI cJ cZ (sL z 23 k v) := rfl
theorem wa_24 (A : Nat → Nat) (cI cJ cZ : ClassId) (z : Mem) (k : Nat) (v : Int32) : (wAll A cI cJ cZ z).set 24 (A 24, .inl (cI, 26, .inl (upd (z.1 24) k v))) = wAll A cI cJ cZ (sI z 24 k v) := rfl
theorem wr_24 (A : Nat → Nat) (cI cJ cZ : ClassId) (z : Mem) (f : Nat → Int32) : (wAll A cI cJ cZ z).set 24 (A 24, .inl (cI, 26, .inl f)) = wAll A cI cJ cZ (sR z 24 f) := rfl
theorem ws_25_1 (A : Nat → Nat) (cI cJ cZ : ClassId) (z : Mem) (v : Int32) : (wAll A cI cJ cZ z).set 25 (A 25, .inr (9, List.set [.ref (A 26), .int (z.1 25 1), .int (z.1 25 2), .int (z.1 25 3), .int (z.1 25 4), .ref (A 27), .int (z.1 25 6), .int (z.1 25 7), .int (z.1 25 8), .int (z.1 25 9), .ref (A 28), .int (z.1 25 11), .int (z.1 25 12), .int (z.1 25 13), .int (z.1 25 14), .int (z.1 25 15), .ref (A 29), .int (z.1 25 17), .ref (A 30), .ref (A 31), .ref (A 32), .int (z.1 25 21), .ref (A 33), .ref (A 34), .ref (A 35), .ref (A 36), .int (z.1 25 26), .ref (A 37), .ref (A 38), .ref (A 39), .long (z.2 25 30), .ref (A 40), .ref (A 41), .ref (A 42)] 1 (.int v))) = wAll A cI cJ cZ (sI z 25 1 v) := rfl
theorem ws_25_2 (A : Nat → Nat) (cI cJ cZ : ClassId) (z : Mem) (v : Int32) : (wAll A cI cJ cZ z).set 25 (A 25, .inr (9, List.set [.ref (A 26), .int (z.1 25 1), .int (z.1 25 2), .int (z.1 25 3), .int (z.1 25 4), .ref (A 27), .int (z.1 25 6), .int (z.1 25 7), .int (z.1 25 8), .int (z.1 25 9), .ref (A 28), .int (z.1 25 11), .int (z.1 25 12), .int (z.1 25 13), .int (z.1 25 14), .int (z.1 25 15), .ref (A 29), .int (z.1 25 17), .ref (A 30), .ref (A 31), .ref (A 32), .int (z.1 25 21), .ref (A 33), .ref (A 34), .ref (A 35), .ref (A 36), .int (z.1 25 26), .ref (A 37), .ref (A 38), .ref (A 39), .long (z.2 25 30), .ref (A 40), .ref (A 41), .ref (A 42)] 2 (.int v))) = wAll A cI cJ cZ (sI z 25 2 v) := rfl
theorem ws_25_3 (A : Nat → Nat) (cI cJ cZ : ClassId) (z : Mem) (v : Int32) : (wAll A cI cJ cZ z).set 25 (A 25, .inr (9, List.set [.ref (A 26), .int (z.1 25 1), .int (z.1 25 2), .int (z.1 25 3), .int (z.1 25 4), .ref (A 27), .int (z.1 25 6), .int (z.1 25 7), .int (z.1 25 8), .int (z.1 25 9), .ref (A 28), .int (z.1 25 11), .int (z.1 25 12), .int (z.1 25 13), .int (z.1 25 14), .int (z.1 25 15), .ref (A 29), .int (z.1 25 17), .ref (A 30), .ref (A 31), .ref (A 32), .int (z.1 25 21), .ref (A 33), .ref (A 34), .ref (A 35), .ref (A 36), .int (z.1 25 26), .ref (A 37), .ref (A 38), .ref (A 39), .long (z.2 25 30), .ref (A 40), .ref (A 41), .ref (A 42)] 3 (.int v))) = wAll A cI cJ cZ (sI z 25 3 v) := rfl
theorem ws_25_4 (A : Nat → Nat) (cI cJ cZ : ClassId) (z : Mem) (v : Int32) : (wAll A cI cJ cZ z).set 25 (A 25, .inr (9, List.set [.ref (A 26), .int (z.1 25 1), .int (z.1 25 2), .int (z.1 25 3), .int (z.1 25 4), .ref (A 27), .int (z.1 25 6), .int (z.1 25 7), .int (z.1 25 8), .int (z.1 25 9), .ref (A 28), .int (z.1 25 11), .int (z.1 25 12), .int (z.1 25 13), .int (z.1 25 14), .int (z.1 25 15), .ref (A 29), .int (z.1 25 17), .ref (A 30), .ref (A 31), .ref (A 32), .int (z.1 25 21), .ref (A 33), .ref (A 34), .ref (A 35), .ref (A 36), .int (z.1 25 26), .ref (A 37), .ref (A 38), .ref (A 39), .long (z.2 25 30), .ref (A 40), .ref (A 41), .ref (A 42)] 4 (.int v))) = wAll A cI cJ cZ (sI z 25 4 v) := rfl
theorem ws_25_6 (A : Nat → Nat) (cI cJ cZ : ClassId) (z : Mem) (v : Int32) : (wAll A cI cJ cZ z).set 25 (A 25, .inr (9, List.set [.ref (A 26), .int (z.1 25 1), .int (z.1 25 2), .int (z.1 25 3), .int (z.1 25 4), .ref (A 27), .int (z.1 25 6), .int (z.1 25 7), .int (z.1 25 8), .int (z.1 25 9), .ref (A 28), .int (z.1 25 11), .int (z.1 25 12), .int (z.1 25 13), .int (z.1 25 14), .int (z.1 25 15), .ref (A 29), .int (z.1 25 17), .ref (A 30), .ref (A 31), .ref (A 32), .int (z.1 25 21), .ref (A 33), .ref (A 34), .ref (A 35), .ref (A 36), .int (z.1 25 26), .ref (A 37), .ref (A 38), .ref (A 39), .long (z.2 25 30), .ref (A 40), .ref (A 41), .ref (A 42)] 6 (.int v))) = wAll A cI cJ cZ (sI z 25 6 v) := rfl
theorem ws_25_7 (A : Nat → Nat) (cI cJ cZ : ClassId) (z : Mem) (v : Int32) : (wAll A cI cJ cZ z).set 25 (A 25, .inr (9, List.set [.ref (A 26), .int (z.1 25 1), .int (z.1 25 2), .int (z.1 25 3), .int (z.1 25 4), .ref (A 27), .int (z.1 25 6), .int (z.1 25 7), .int (z.1 25 8), .int (z.1 25 9), .ref (A 28), .int (z.1 25 11), .int (z.1 25 12), .int (z.1 25 13), .int (z.1 25 14), .int (z.1 25 15), .ref (A 29), .int (z.1 25 17), .ref (A 30), .ref (A 31), .ref (A 32), .int (z.1 25 21), .ref (A 33), .ref (A 34), .ref (A 35), .ref (A 36), .int (z.1 25 26), .ref (A 37), .ref (A 38), .ref (A 39), .long (z.2 25 30), .ref (A 40), .ref (A 41), .ref (A 42)] 7 (.int v))) = wAll A cI cJ cZ (sI z 25 7 v) := rfl
theorem ws_25_8 (A : Nat → Nat) (cI cJ cZ : ClassId) (z : Mem) (v : Int32) : (wAll A cI cJ cZ z).set 25 (A 25, .inr (9, List.set [.ref (A 26), .int (z.1 25 1), .int (z.1 25 2), .int (z.1 25 3), .int (z.1 25 4), .ref (A 27), .int (z.1 25 6), .int (z.1 25 7), .int (z.1 25 8), .int (z.1 25 9), .ref (A 28), .int (z.1 25 11), .int (z.1 25 12), .int (z.1 25 13), .int (z.1 25 14), .int (z.1 25 15), .ref (A 29), .int (z.1 25 17), .ref (A 30), .ref (A 31), .ref (A 32), .int (z.1 25 21), .ref (A 33), .ref (A 34), .ref (A 35), .ref (A 36), .int (z.1 25 26), .ref (A 37), .ref (A 38), .ref (A 39), .long (z.2 25 30), .ref (A 40), .ref (A 41), .ref (A 42)] 8 (.int v))) = wAll A cI cJ cZ (sI z 25 8 v) := rfl
theorem ws_25_9 (A : Nat → Nat) (cI cJ cZ : ClassId) (z : Mem) (v : Int32) : (wAll A cI cJ cZ z).set 25 (A 25, .inr (9, List.set [.ref (A 26), .int (z.1 25 1), .int (z.1 25 2), .int (z.1 25 3), .int (z.1 25 4), .ref (A 27), .int (z.1 25 6), .int (z.1 25 7), .int (z.1 25 8), .int (z.1 25 9), .ref (A 28), .int (z.1 25 11), .int (z.1 25 12), .int (z.1 25 13), .int (z.1 25 14), .int (z.1 25 15), .ref (A 29), .int (z.1 25 17), .ref (A 30), .ref (A 31), .ref (A 32), .int (z.1 25 21), .ref (A 33), .ref (A 34), .ref (A 35), .ref (A 36), .int (z.1 25 26), .ref (A 37), .ref (A 38), .ref (A 39), .long (z.2 25 30), .ref (A 40), .ref (A 41), .ref (A 42)] 9 (.int v))) = wAll A cI cJ cZ (sI z 25 9 v) := rfl
theorem ws_25_11 (A : Nat → Nat) (cI cJ cZ : ClassId) (z : Mem) (v : Int32) : (wAll A cI cJ cZ z).set 25 (A 25, .inr (9, List.set [.ref (A 26), .int (z.1 25 1), .int (z.1 25 2), .int (z.1 25 3), .int (z.1 25 4), .ref (A 27), .int (z.1 25 6), .int (z.1 25 7), .int (z.1 25 8), .int (z.1 25 9), .ref (A 28), .int (z.1 25 11), .int (z.1 25 12), .int (z.1 25 13), .int (z.1 25 14), .int (z.1 25 15), .ref (A 29), .int (z.1 25 17), .ref (A 30), .ref (A 31), .ref (A 32), .int (z.1 25 21), .ref (A 33), .ref (A 34), .ref (A 35), .ref (A 36), .int (z.1 25 26), .ref (A 37), .ref (A 38), .ref (A 39), .long (z.2 25 30), .ref (A 40), .ref (A 41), .ref (A 42)] 11 (.int v))) = wAll A cI cJ cZ (sI z 25 11 v) := rfl
theorem ws_25_12 (A : Nat → Nat) (cI cJ cZ : ClassId) (z : Mem) (v : Int32) : (wAll A cI cJ cZ z).set 25 (A 25, .inr (9, List.set [.ref (A 26), .int (z.1 25 1), .int (z.1 25 2), .int (z.1 25 3), .int (z.1 25 4), .ref (A 27), .int (z.1 25 6), .int (z.1 25 7), .int (z.1 25 8), .int (z.1 25 9), .ref (A 28), .int (z.1 25 11), .int (z.1 25 12), .int (z.1 25 13), .int (z.1 25 14), .int (z.1 25 15), .ref (A 29), .int (z.1 25 17), .ref (A 30), .ref (A 31), .ref (A 32), .int (z.1 25 21), .ref (A 33), .ref (A 34), .ref (A 35), .ref (A 36), .int (z.1 25 26), .ref (A 37), .ref (A 38), .ref (A 39), .long (z.2 25 30), .ref (A 40), .ref (A 41), .ref (A 42)] 12 (.int v))) = wAll A cI cJ cZ (sI z 25 12 v) := rfl
theorem ws_25_13 (A : Nat → Nat) (cI cJ cZ : ClassId) (z : Mem) (v : Int32) : (wAll A cI cJ cZ z).set 25 (A 25, .inr (9, List.set [.ref (A 26), .int (z.1 25 1), .int (z.1 25 2), .int (z.1 25 3), .int (z.1 25 4), .ref (A 27), .int (z.1 25 6), .int (z.1 25 7), .int (z.1 25 8), .int (z.1 25 9), .ref (A 28), .int (z.1 25 11), .int (z.1 25 12), .int (z.1 25 13), .int (z.1 25 14), .int (z.1 25 15), .ref (A 29), .int (z.1 25 17), .ref (A 30), .ref (A 31), .ref (A 32), .int (z.1 25 21), .ref (A 33), .ref (A 34), .ref (A 35), .ref (A 36), .int (z.1 25 26), .ref (A 37), .ref (A 38), .ref (A 39), .long (z.2 25 30), .ref (A 40), .ref (A 41), .ref (A 42)] 13 (.int v))) = wAll A cI cJ cZ (sI z 25 13 v) := rfl
theorem ws_25_14 (A : Nat → Nat) (cI cJ cZ : ClassId) (z : Mem) (v : Int32) : (wAll A cI cJ cZ z).set 25 (A 25, .inr (9, List.set [.ref (A 26), .int (z.1 25 1), .int (z.1 25 2), .int (z.1 25 3), .int (z.1 25 4), .ref (A 27), .int (z.1 25 6), .int (z.1 25 7), .int (z.1 25 8), .int (z.1 25 9), .ref (A 28), .int (z.1 25 11), .int (z.1 25 12), .int (z.1 25 13), .int (z.1 25 14), .int (z.1 25 15), .ref (A 29), .int (z.1 25 17), .ref (A 30), .ref (A 31), .ref (A 32), .int (z.1 25 21), .ref (A 33), .ref (A 34), .ref (A 35), .ref (A 36), .int (z.1 25 26), .ref (A 37), .ref (A 38), .ref (A 39), .long (z.2 25 30), .ref (A 40), .ref (A 41), .ref (A 42)] 14 (.int v))) = wAll A cI cJ cZ (sI z 25 14 v) := rfl
theorem ws_25_15 (A : Nat → Nat) (cI cJ cZ : ClassId) (z : Mem) (v : Int32) : (wAll A cI cJ cZ z).set 25 (A 25, .inr (9, List.set [.ref (A 26), .int (z.1 25 1), .int (z.1 25 2), .int (z.1 25 3), .int (z.1 25 4), .ref (A 27), .int (z.1 25 6), .int (z.1 25 7), .int (z.1 25 8), .int (z.1 25 9), .ref (A 28), .int (z.1 25 11), .int (z.1 25 12), .int (z.1 25 13), .int (z.1 25 14), .int (z.1 25 15), .ref (A 29), .int (z.1 25 17), .ref (A 30), .ref (A 31), .ref (A 32), .int (z.1 25 21), .ref (A 33), .ref (A 34), .ref (A 35), .ref (A 36), .int (z.1 25 26), .ref (A 37), .ref (A 38), .ref (A 39), .long (z.2 25 30), .ref (A 40), .ref (A 41), .ref (A 42)] 15 (.int v))) = wAll A cI cJ cZ (sI z 25 15 v) := rfl
theorem ws_25_17 (A : Nat → Nat) (cI cJ cZ : ClassId) (z : Mem) (v : Int32) : (wAll A cI cJ cZ z).set 25 (A 25, .inr (9, List.set [.ref (A 26), .int (z.1 25 1), .int (z.1 25 2), .int (z.1 25 3), .int (z.1 25 4), .ref (A 27), .int (z.1 25 6), .int (z.1 25 7), .int (z.1 25 8), .int (z.1 25 9), .ref (A 28), .int (z.1 25 11), .int (z.1 25 12), .int (z.1 25 13), .int (z.1 25 14), .int (z.1 25 15), .ref (A 29), .int (z.1 25 17), .ref (A 30), .ref (A 31), .ref (A 32), .int (z.1 25 21), .ref (A 33), .ref (A 34), .ref (A 35), .ref (A 36), .int (z.1 25 26), .ref (A 37), .ref (A 38), .ref (A 39), .long (z.2 25 30), .ref (A 40), .ref (A 41), .ref (A 42)] 17 (.int v))) = wAll A cI cJ cZ (sI z 25 17 v) := rfl
theorem ws_25_21 (A : Nat → Nat) (cI cJ cZ : ClassId) (z : Mem) (v : Int32) : (wAll A cI cJ cZ z).set 25 (A 25, .inr (9, List.set [.ref (A 26), .int (z.1 25 1), .int (z.1 25 2), .int (z.1 25 3), .int (z.1 25 4), .ref (A 27), .int (z.1 25 6), .int (z.1 25 7), .int (z.1 25 8), .int (z.1 25 9), .ref (A 28), .int (z.1 25 11), .int (z.1 25 12), .int (z.1 25 13), .int (z.1 25 14), .int (z.1 25 15), .ref (A 29), .int (z.1 25 17), .ref (A 30), .ref (A 31), .ref (A 32), .int (z.1 25 21), .ref (A 33), .ref (A 34), .ref (A 35), .ref (A 36), .int (z.1 25 26), .ref (A 37), .ref (A 38), .ref (A 39), .long (z.2 25 30), .ref (A 40), .ref (A 41), .ref (A 42)] 21 (.int v))) = wAll A cI cJ cZ (sI z 25 21 v) := rfl
theorem ws_25_26 (A : Nat → Nat) (cI cJ cZ : ClassId) (z : Mem) (v : Int32) : (wAll A cI cJ cZ z).set 25 (A 25, .inr (9, List.set [.ref (A 26), .int (z.1 25 1), .int (z.1 25 2), .int (z.1 25 3), .int (z.1 25 4), .ref (A 27), .int (z.1 25 6), .int (z.1 25 7), .int (z.1 25 8), .int (z.1 25 9), .ref (A 28), .int (z.1 25 11), .int (z.1 25 12), .int (z.1 25 13), .int (z.1 25 14), .int (z.1 25 15), .ref (A 29), .int (z.1 25 17), .ref (A 30), .ref (A 31), .ref (A 32), .int (z.1 25 21), .ref (A 33), .ref (A 34), .ref (A 35), .ref (A 36), .int (z.1 25 26), .ref (A 37), .ref (A 38), .ref (A 39), .long (z.2 25 30), .ref (A 40), .ref (A 41), .ref (A 42)] 26 (.int v))) = wAll A cI cJ cZ (sI z 25 26 v) := rfl
theorem ws_25_30 (A : Nat → Nat) (cI cJ cZ : ClassId) (z : Mem) (v : Int64) : (wAll A cI cJ cZ z).set 25 (A 25, .inr (9, List.set [.ref (A 26), .int (z.1 25 1), .int (z.1 25 2), .int (z.1 25 3), .int (z.1 25 4), .ref (A 27), .int (z.1 25 6), .int (z.1 25 7), .int (z.1 25 8), .int (z.1 25 9), .ref (A 28), .int (z.1 25 11), .int (z.1 25 12), .int (z.1 25 13), .int (z.1 25 14), .int (z.1 25 15), .ref (A 29), .int (z.1 25 17), .ref (A 30), .ref (A 31), .ref (A 32), .int (z.1 25 21), .ref (A 33), .ref (A 34), .ref (A 35), .ref (A 36), .int (z.1 25 26), .ref (A 37), .ref (A 38), .ref (A 39), .long (z.2 25 30), .ref (A 40), .ref (A 41), .ref (A 42)] 30 (.long v))) = wAll A cI cJ cZ (sL z 25 30 v) := rfl
theorem wa_26 (A : Nat → Nat) (cI cJ cZ : ClassId) (z : Mem) (k : Nat) (v : Int32) : (wAll A cI cJ cZ z).set 26 (A 26, .inl (cI, 26, .inl (upd (z.1 26) k v))) = wAll A cI cJ cZ (sI z 26 k v) := rfl
theorem wr_26 (A : Nat → Nat) (cI cJ cZ : ClassId) (z : Mem) (f : Nat → Int32) : (wAll A cI cJ cZ z).set 26 (A 26, .inl (cI, 26, .inl f)) = wAll A cI cJ cZ (sR z 26 f) := rfl
theorem wa_27 (A : Nat → Nat) (cI cJ cZ : ClassId) (z : Mem) (k : Nat) (v : Int32) : (wAll A cI cJ cZ z).set 27 (A 27, .inl (cI, 26, .inl (upd (z.1 27) k v))) = wAll A cI cJ cZ (sI z 27 k v) := rfl
theorem wr_27 (A : Nat → Nat) (cI cJ cZ : ClassId) (z : Mem) (f : Nat → Int32) : (wAll A cI cJ cZ z).set 27 (A 27, .inl (cI, 26, .inl f)) = wAll A cI cJ cZ (sR z 27 f) := rfl
theorem wa_28 (A : Nat → Nat) (cI cJ cZ : ClassId) (z : Mem) (k : Nat) (v : Int32) : (wAll A cI cJ cZ z).set 28 (A 28, .inl (cI, 48, .inl (upd (z.1 28) k v))) = wAll A cI cJ cZ (sI z 28 k v) := rfl
theorem wr_28 (A : Nat → Nat) (cI cJ cZ : ClassId) (z : Mem) (f : Nat → Int32) : (wAll A cI cJ cZ z).set 28 (A 28, .inl (cI, 48, .inl f)) = wAll A cI cJ cZ (sR z 28 f) := rfl
theorem wa_29 (A : Nat → Nat) (cI cJ cZ : ClassId) (z : Mem) (k : Nat) (v : Int32) : (wAll A cI cJ cZ z).set 29 (A 29, .inl (cI, 416, .inl (upd (z.1 29) k v))) = wAll A cI cJ cZ (sI z 29 k v) := rfl
theorem wr_29 (A : Nat → Nat) (cI cJ cZ : ClassId) (z : Mem) (f : Nat → Int32) : (wAll A cI cJ cZ z).set 29 (A 29, .inl (cI, 416, .inl f)) = wAll A cI cJ cZ (sR z 29 f) := rfl
theorem wa_30 (A : Nat → Nat) (cI cJ cZ : ClassId) (z : Mem) (k : Nat) (v : Int32) : (wAll A cI cJ cZ z).set 30 (A 30, .inl (cI, 10, .inl (upd (z.1 30) k v))) = wAll A cI cJ cZ (sI z 30 k v) := rfl
theorem wr_30 (A : Nat → Nat) (cI cJ cZ : ClassId) (z : Mem) (f : Nat → Int32) : (wAll A cI cJ cZ z).set 30 (A 30, .inl (cI, 10, .inl f)) = wAll A cI cJ cZ (sR z 30 f) := rfl
theorem wa_31 (A : Nat → Nat) (cI cJ cZ : ClassId) (z : Mem) (k : Nat) (v : Int32) : (wAll A cI cJ cZ z).set 31 (A 31, .inl (cI, 10, .inl (upd (z.1 31) k v))) = wAll A cI cJ cZ (sI z 31 k v) := rfl
theorem wr_31 (A : Nat → Nat) (cI cJ cZ : ClassId) (z : Mem) (f : Nat → Int32) : (wAll A cI cJ cZ z).set 31 (A 31, .inl (cI, 10, .inl f)) = wAll A cI cJ cZ (sR z 31 f) := rfl
theorem wa_32 (A : Nat → Nat) (cI cJ cZ : ClassId) (z : Mem) (k : Nat) (v : Int32) : (wAll A cI cJ cZ z).set 32 (A 32, .inl (cI, 10, .inl (upd (z.1 32) k v))) = wAll A cI cJ cZ (sI z 32 k v) := rfl
theorem wr_32 (A : Nat → Nat) (cI cJ cZ : ClassId) (z : Mem) (f : Nat → Int32) : (wAll A cI cJ cZ z).set 32 (A 32, .inl (cI, 10, .inl f)) = wAll A cI cJ cZ (sR z 32 f) := rfl
theorem wa_33 (A : Nat → Nat) (cI cJ cZ : ClassId) (z : Mem) (k : Nat) (v : Int32) : (wAll A cI cJ cZ z).set 33 (A 33, .inl (cI, 8, .inl (upd (z.1 33) k v))) = wAll A cI cJ cZ (sI z 33 k v) := rfl
theorem wr_33 (A : Nat → Nat) (cI cJ cZ : ClassId) (z : Mem) (f : Nat → Int32) : (wAll A cI cJ cZ z).set 33 (A 33, .inl (cI, 8, .inl f)) = wAll A cI cJ cZ (sR z 33 f) := rfl
theorem wa_34 (A : Nat → Nat) (cI cJ cZ : ClassId) (z : Mem) (k : Nat) (v : Int32) : (wAll A cI cJ cZ z).set 34 (A 34, .inl (cI, 8, .inl (upd (z.1 34) k v))) = wAll A cI cJ cZ (sI z 34 k v) := rfl
theorem wr_34 (A : Nat → Nat) (cI cJ cZ : ClassId) (z : Mem) (f : Nat → Int32) : (wAll A cI cJ cZ z).set 34 (A 34, .inl (cI, 8, .inl f)) = wAll A cI cJ cZ (sR z 34 f) := rfl
theorem wa_35 (A : Nat → Nat) (cI cJ cZ : ClassId) (z : Mem) (k : Nat) (v : Int32) : (wAll A cI cJ cZ z).set 35 (A 35, .inl (cI, 5, .inl (upd (z.1 35) k v))) = wAll A cI cJ cZ (sI z 35 k v) := rfl
theorem wr_35 (A : Nat → Nat) (cI cJ cZ : ClassId) (z : Mem) (f : Nat → Int32) : (wAll A cI cJ cZ z).set 35 (A 35, .inl (cI, 5, .inl f)) = wAll A cI cJ cZ (sR z 35 f) := rfl
theorem wa_36 (A : Nat → Nat) (cI cJ cZ : ClassId) (z : Mem) (k : Nat) (v : Int32) : (wAll A cI cJ cZ z).set 36 (A 36, .inl (cI, 5, .inl (upd (z.1 36) k v))) = wAll A cI cJ cZ (sI z 36 k v) := rfl
theorem wr_36 (A : Nat → Nat) (cI cJ cZ : ClassId) (z : Mem) (f : Nat → Int32) : (wAll A cI cJ cZ z).set 36 (A 36, .inl (cI, 5, .inl f)) = wAll A cI cJ cZ (sR z 36 f) := rfl
theorem wa_37 (A : Nat → Nat) (cI cJ cZ : ClassId) (z : Mem) (k : Nat) (v : Int32) : (wAll A cI cJ cZ z).set 37 (A 37, .inl (cI, 4, .inl (upd (z.1 37) k v))) = wAll A cI cJ cZ (sI z 37 k v) := rfl
theorem wr_37 (A : Nat → Nat) (cI cJ cZ : ClassId) (z : Mem) (f : Nat → Int32) : (wAll A cI cJ cZ z).set 37 (A 37, .inl (cI, 4, .inl f)) = wAll A cI cJ cZ (sR z 37 f) := rfl
theorem wa_38 (A : Nat → Nat) (cI cJ cZ : ClassId) (z : Mem) (k : Nat) (v : Int64) : (wAll A cI cJ cZ z).set 38 (A 38, .inl (cJ, 2197, .inr (.inl (vp_updL (z.2 38) k v)))) = wAll A cI cJ cZ (sL z 38 k v) := rfl
theorem wa_39 (A : Nat → Nat) (cI cJ cZ : ClassId) (z : Mem) (k : Nat) (v : Int64) : (wAll A cI cJ cZ z).set 39 (A 39, .inl (cJ, 2197, .inr (.inl (vp_updL (z.2 39) k v)))) = wAll A cI cJ cZ (sL z 39 k v) := rfl
theorem wa_40 (A : Nat → Nat) (cI cJ cZ : ClassId) (z : Mem) (k : Nat) (v : Int32) : (wAll A cI cJ cZ z).set 40 (A 40, .inl (cI, 26, .inl (upd (z.1 40) k v))) = wAll A cI cJ cZ (sI z 40 k v) := rfl
theorem wr_40 (A : Nat → Nat) (cI cJ cZ : ClassId) (z : Mem) (f : Nat → Int32) : (wAll A cI cJ cZ z).set 40 (A 40, .inl (cI, 26, .inl f)) = wAll A cI cJ cZ (sR z 40 f) := rfl
theorem wa_41 (A : Nat → Nat) (cI cJ cZ : ClassId) (z : Mem) (k : Nat) (v : Int32) : (wAll A cI cJ cZ z).set 41 (A 41, .inl (cZ, 2, .inl (upd (z.1 41) k v))) = wAll A cI cJ cZ (sI z 41 k v) := rfl
theorem wa_42 (A : Nat → Nat) (cI cJ cZ : ClassId) (z : Mem) (k : Nat) (v : Int32) : (wAll A cI cJ cZ z).set 42 (A 42, .inl (cI, 52, .inl (upd (z.1 42) k v))) = wAll A cI cJ cZ (sI z 42 k v) := rfl
theorem wr_42 (A : Nat → Nat) (cI cJ cZ : ClassId) (z : Mem) (f : Nat → Int32) : (wAll A cI cJ cZ z).set 42 (A 42, .inl (cI, 52, .inl f)) = wAll A cI cJ cZ (sR z 42 f) := rfl
/-- which cells may change: the world's -/
def fr (A : Nat → Nat) : Nat → Prop := fun q => ∃ k, k < 43 ∧ A k = q
def dst (A : Nat → Nat) : Prop := ∀ i j, i < 43 → j < 43 → A i = A j → i = j
theorem wAll_len (A : Nat → Nat) (cI cJ cZ : ClassId) (z : Mem) : (wAll A cI cJ cZ z).length = 43 := rfl
theorem wAll_ad (A : Nat → Nat) (cI cJ cZ : ClassId) (z : Mem) : (wAll A cI cJ cZ z).map (fun p => p.1) = (List.range 43).map A := rfl
theorem wAll_at (A : Nat → Nat) (cI cJ cZ : ClassId) (z : Mem) {k : Nat} {q : Nat × va_E} (h : (wAll A cI cJ cZ z)[k]? = some q) : k < 43 ∧ q.1 = A k := by
  have hk : k < 43 := by
    have := (List.getElem?_eq_some_iff.mp h).1
    rw [wAll_len] at this
    exact this
  have h2 : ((wAll A cI cJ cZ z).map (fun p => p.1))[k]? = some q.1 := by rw [List.getElem?_map, h]; rfl
  rw [wAll_ad, List.getElem?_map, List.getElem?_range hk] at h2
  exact ⟨hk, (Option.some.inj h2).symm⟩
theorem wD {A : Nat → Nat} (hA : dst A) (cI cJ cZ : ClassId) (z : Mem) : va_D (fr A) (wAll A cI cJ cZ z) := by
  refine ⟨fun i j p q h1 h2 h3 => ?_, fun k q h => ?_⟩
  · obtain ⟨a1, a2⟩ := wAll_at A cI cJ cZ z h1
    obtain ⟨b1, b2⟩ := wAll_at A cI cJ cZ z h2
    exact hA i j a1 b1 (by rw [← a2, ← b2, h3])
  · obtain ⟨a1, a2⟩ := wAll_at A cI cJ cZ z h
    exact ⟨k, a1, a2.symm⟩
/-- the static row of strides: nobody writes it -/
def strI : Nat → Int32 := fun j => if j = 0 then 1 else if j = 1 then 13 else 169
def sZ (A : Nat → Nat) (t0 : Nat) (U : State) (H : Heap) : Prop := va_Z "LightestRules$RulersLine" "STRIDES" "[I" (.ref t0) (fr A) U H ∧ va_T .int t0 3 (fun j => .int (strI j)) (fr A) U H
theorem sZ.go {A : Nat → Nat} {t0 : Nat} {s U : State} {H : Heap} {locs : List Loc} (h : sZ A t0 s s.heap) (hS : va_S (fr A) s.heap H locs) (hvm : s.vm.Alike U.vm) : sZ A t0 U H :=
  ⟨va_Z.moved hvm (h.1.kept hS.2.1), va_T.moved hvm (h.2.kept hS.2.1)⟩
abbrev wIs (dC : Nat → ClassId) (dI : Nat → Nat → Nat) (A : Nat → Nat) (cI cJ cZ : ClassId) (z : Mem) (H : Heap) : Prop := va_P (dC, dI) vwCl (wAll A cI cJ cZ z) H
def wPre (dC : Nat → ClassId) (dI : Nat → Nat → Nat) (A : Nat → Nat) (t0 : Nat) (cI cJ cZ : ClassId) (z : Mem) (U : State) : Prop := wIs dC dI A cI cJ cZ z U.heap ∧ va_K (dC, dI) vwCl (tys cI cJ cZ) U ∧ sZ A t0 U U.heap
abbrev rmH (h : Nat) : Room := { frames := h, cells := 0, slots := 0, locals := 64 * h }
def MI (l : Launch) (dC : Nat → ClassId) (dI : Nat → Nat → Nat) (A : Nat → Nat) (t0 : Nat) (cI cJ cZ : ClassId) (y : MethodName) (ws : List Cond) (h : Nat) (as : List Value) (z : Mem) (r : Int32) (z1 : Mem) : Prop :=
  Met l y ws (rmH h) (va_Pc as (wPre dC dI A t0 cI cJ cZ z)) (va_Qi (fun r' (_ : Unit) => r' = r) (fun _ t => wIs dC dI A cI cJ cZ z1 t.heap) (fr A)) 0 0 (fr A)
def ML (l : Launch) (dC : Nat → ClassId) (dI : Nat → Nat → Nat) (A : Nat → Nat) (t0 : Nat) (cI cJ cZ : ClassId) (y : MethodName) (ws : List Cond) (h : Nat) (as : List Value) (z : Mem) (r : Int64) (z1 : Mem) : Prop :=
  Met l y ws (rmH h) (va_Pc as (wPre dC dI A t0 cI cJ cZ z)) (va_Ql (fun r' (_ : Unit) => r' = r) (fun _ t => wIs dC dI A cI cJ cZ z1 t.heap) (fr A)) 0 0 (fr A)
def MV (l : Launch) (dC : Nat → ClassId) (dI : Nat → Nat → Nat) (A : Nat → Nat) (t0 : Nat) (cI cJ cZ : ClassId) (y : MethodName) (ws : List Cond) (h : Nat) (as : List Value) (z : Mem) (z1 : Mem) : Prop :=
  Met l y ws (rmH h) (va_Pc as (wPre dC dI A t0 cI cJ cZ z)) (va_Qv (fun (_ : Unit) => True) (fun _ t => wIs dC dI A cI cJ cZ z1 t.heap) (fr A)) 0 0 (fr A)
theorem pre_blind (dC : Nat → ClassId) (dI : Nat → Nat → Nat) (A : Nat → Nat) (t0 : Nat) (cI cJ cZ : ClassId) (z : Mem) (as : List Value) : FrameBlind (va_Pc as (wPre dC dI A t0 cI cJ cZ z)) := fun a U g mk q =>
  ⟨q.1, q.2.1, va_K.moved (u := U) (U := U.calling g mk a) (Vm.Alike.refl U.vm) q.2.2.1, va_Z.moved (u := U) (U := U.calling g mk a) (Vm.Alike.refl U.vm) q.2.2.2.1, va_T.moved (u := U) (U := U.calling g mk a) (Vm.Alike.refl U.vm) q.2.2.2.2⟩
section SC
variable {p : Program} {l : Launch} {e : Env} {R : Room} {s : State} {m : MethodId} {args : Array Value} {below : List Frame} {meth : Method} {c : Code} {H : Heap} {locs : List Loc} {cells slots : Nat} {Q : State → Prop}
variable {dC : Nat → ClassId} {dI : Nat → Nat → Nat} {A : Nat → Nat} {t0 : Nat} {cI cJ cZ : ClassId} {cc : ByteArray} {pc nL n hh index maxL ci q0 : Nat} {ls : Array Slot} {rest st As fs : List Value} {z z1 : Mem} {Ts ws : List Cond} {own C : String} {y : MethodName} {bytes : ByteArray} {ret : Option FieldType} {b : Addr} {qq : vw_C}
theorem go_pre (hK : va_K (dC, dI) vwCl (tys cI cJ cZ) s) (hZ : sZ A t0 s s.heap) (hP : wIs dC dI A cI cJ cZ z H) (hS : va_S (fr A) s.heap H locs) (U : State) (hU : U.heap = H) (hW : s.WarmedH U.vm) : va_Pc As (wPre dC dI A t0 cI cJ cZ z) As.toArray U := by
  subst hU
  exact ⟨rfl, hP, va_K.moved hW.alike hK, hZ.go hS hW.alike⟩
theorem callVI {r : Int32} (S : CallFix p m c cc nL s args Ts own) (hM : MI l dC dI A t0 cI cJ cZ y ws hh (.ref b :: As) z r z1) (cw : CallW R s args own C index y bytes maxL ret ws (rmH hh) 0 0 n)
    (hK : va_K (dC, dI) vwCl (tys cI cJ cZ) s) (hZ : sZ A t0 s s.heap) (hP : wIs dC dI A cI cJ cZ z H) (hS : va_S (fr A) s.heap H locs) (hc : vwCl[ci]? = some qq) (he : (wAll A cI cJ cZ z)[q0]? = some (b, .inr (ci, fs))) (hC : qq.1 = C)
    (hst : st = As.reverse ++ .ref b :: rest) (hn : As.length = n) (hsz : ls.size = nL) (hw8 : (rest.map fun v => v.category).sum ≤ 8) (hcs : cells ≤ R.cells ∧ slots ≤ R.slots) (hdg : decode cc pc = .ok (.invokevirtual index, 3))
    (kk : ∀ (H1 : Heap) (locs1 : List Loc), wIs dC dI A cI cJ cZ z1 H1 → va_S (fr A) s.heap H1 locs1 → W p l e R s m args below meth c H1 locs1 cells slots Q (F0 m (pc + 3) ls (.int r :: rest))) : W p l e R s m args below meth c H locs cells slots Q (F0 m pc ls st) := by
  subst hC
  exact va_calli (A0 := fr A) (H0 := s.heap) (va_runV (g := F0 m pc ls st) (As := As) (rest := rest) S hM cw ⟨pre_blind dC dI A t0 cI cJ cZ z _, va_recv hK hP hc he, fun U hU hW => go_pre (As := .ref b :: As) hK hZ hP hS U hU hW⟩ rfl hn hsz hst (lv_room hw8) hdg hcs) hS (fun _ _ h => h) (fun _ h => h) (fun _ _ t H1 locs1 ht _ hw hB _ _ hS1 => by subst hw; exact kk H1 locs1 (by rw [← ht]; exact hB) hS1)
theorem callVL {r : Int64} (S : CallFix p m c cc nL s args Ts own) (hM : ML l dC dI A t0 cI cJ cZ y ws hh (.ref b :: As) z r z1) (cw : CallW R s args own C index y bytes maxL ret ws (rmH hh) 0 0 n)
    (hK : va_K (dC, dI) vwCl (tys cI cJ cZ) s) (hZ : sZ A t0 s s.heap) (hP : wIs dC dI A cI cJ cZ z H) (hS : va_S (fr A) s.heap H locs) (hc : vwCl[ci]? = some qq) (he : (wAll A cI cJ cZ z)[q0]? = some (b, .inr (ci, fs))) (hC : qq.1 = C)
    (hst : st = As.reverse ++ .ref b :: rest) (hn : As.length = n) (hsz : ls.size = nL) (hw8 : (rest.map fun v => v.category).sum ≤ 8) (hcs : cells ≤ R.cells ∧ slots ≤ R.slots) (hdg : decode cc pc = .ok (.invokevirtual index, 3))
    (kk : ∀ (H1 : Heap) (locs1 : List Loc), wIs dC dI A cI cJ cZ z1 H1 → va_S (fr A) s.heap H1 locs1 → W p l e R s m args below meth c H1 locs1 cells slots Q (F0 m (pc + 3) ls (.long r :: rest))) : W p l e R s m args below meth c H locs cells slots Q (F0 m pc ls st) := by
  subst hC
  exact va_calll (A0 := fr A) (H0 := s.heap) (va_runV (g := F0 m pc ls st) (As := As) (rest := rest) S hM cw ⟨pre_blind dC dI A t0 cI cJ cZ z _, va_recv hK hP hc he, fun U hU hW => go_pre (As := .ref b :: As) hK hZ hP hS U hU hW⟩ rfl hn hsz hst (lv_room hw8) hdg hcs) hS (fun _ _ h => h) (fun _ h => h) (fun _ _ t H1 locs1 ht _ hw hB _ _ hS1 => by subst hw; exact kk H1 locs1 (by rw [← ht]; exact hB) hS1)
theorem callVV (S : CallFix p m c cc nL s args Ts own) (hM : MV l dC dI A t0 cI cJ cZ y ws hh (.ref b :: As) z z1) (cw : CallW R s args own C index y bytes maxL ret ws (rmH hh) 0 0 n)
    (hK : va_K (dC, dI) vwCl (tys cI cJ cZ) s) (hZ : sZ A t0 s s.heap) (hP : wIs dC dI A cI cJ cZ z H) (hS : va_S (fr A) s.heap H locs) (hc : vwCl[ci]? = some qq) (he : (wAll A cI cJ cZ z)[q0]? = some (b, .inr (ci, fs))) (hC : qq.1 = C)
    (hst : st = As.reverse ++ .ref b :: rest) (hn : As.length = n) (hsz : ls.size = nL) (hw8 : (rest.map fun v => v.category).sum ≤ 8) (hcs : cells ≤ R.cells ∧ slots ≤ R.slots) (hdg : decode cc pc = .ok (.invokevirtual index, 3))
    (kk : ∀ (H1 : Heap) (locs1 : List Loc), wIs dC dI A cI cJ cZ z1 H1 → va_S (fr A) s.heap H1 locs1 → W p l e R s m args below meth c H1 locs1 cells slots Q (F0 m (pc + 3) ls rest)) : W p l e R s m args below meth c H locs cells slots Q (F0 m pc ls st) := by
  subst hC
  exact va_callv (A0 := fr A) (H0 := s.heap) (va_runV (g := F0 m pc ls st) (As := As) (rest := rest) S hM cw ⟨pre_blind dC dI A t0 cI cJ cZ z _, va_recv hK hP hc he, fun U hU hW => go_pre (As := .ref b :: As) hK hZ hP hS U hU hW⟩ rfl hn hsz hst (lv_room hw8) hdg hcs) hS (fun _ _ h => h) (fun _ h => h) (fun _ t H1 locs1 ht _ _ hB _ _ hS1 => kk H1 locs1 (by rw [← ht]; exact hB) hS1)
theorem callSI {r : Int32} (S : CallFix p m c cc nL s args Ts own) (hM : MI l dC dI A t0 cI cJ cZ y ws hh As z r z1) (cw : CallB R s args own index y bytes maxL ret ws (rmH hh) 0 0 n ∧ (Cond.static y).before args s = true)
    (hK : va_K (dC, dI) vwCl (tys cI cJ cZ) s) (hZ : sZ A t0 s s.heap) (hP : wIs dC dI A cI cJ cZ z H) (hS : va_S (fr A) s.heap H locs)
    (hst : st = As.reverse ++ rest) (hn : As.length = n) (hsz : ls.size = nL) (hw8 : (rest.map fun v => v.category).sum ≤ 8) (hcs : cells ≤ R.cells ∧ slots ≤ R.slots) (hdg : decode cc pc = .ok (.invokestatic index, 3))
    (kk : ∀ (H1 : Heap) (locs1 : List Loc), wIs dC dI A cI cJ cZ z1 H1 → va_S (fr A) s.heap H1 locs1 → W p l e R s m args below meth c H1 locs1 cells slots Q (F0 m (pc + 3) ls (.int r :: rest))) : W p l e R s m args below meth c H locs cells slots Q (F0 m pc ls st) := by
  exact va_calli (A0 := fr A) (H0 := s.heap) (va_runS (g := F0 m pc ls st) (As := As) (rest := rest) S hM cw ⟨pre_blind dC dI A t0 cI cJ cZ z _, fun U hU hW => go_pre (As := As) hK hZ hP hS U hU hW⟩ rfl hn hsz hst (lv_room hw8) hdg hcs) hS (fun _ _ h => h) (fun _ h => h) (fun _ _ t H1 locs1 ht _ hw hB _ _ hS1 => by subst hw; exact kk H1 locs1 (by rw [← ht]; exact hB) hS1)
theorem callSL {r : Int64} (S : CallFix p m c cc nL s args Ts own) (hM : ML l dC dI A t0 cI cJ cZ y ws hh As z r z1) (cw : CallB R s args own index y bytes maxL ret ws (rmH hh) 0 0 n ∧ (Cond.static y).before args s = true)
    (hK : va_K (dC, dI) vwCl (tys cI cJ cZ) s) (hZ : sZ A t0 s s.heap) (hP : wIs dC dI A cI cJ cZ z H) (hS : va_S (fr A) s.heap H locs)
    (hst : st = As.reverse ++ rest) (hn : As.length = n) (hsz : ls.size = nL) (hw8 : (rest.map fun v => v.category).sum ≤ 8) (hcs : cells ≤ R.cells ∧ slots ≤ R.slots) (hdg : decode cc pc = .ok (.invokestatic index, 3))
    (kk : ∀ (H1 : Heap) (locs1 : List Loc), wIs dC dI A cI cJ cZ z1 H1 → va_S (fr A) s.heap H1 locs1 → W p l e R s m args below meth c H1 locs1 cells slots Q (F0 m (pc + 3) ls (.long r :: rest))) : W p l e R s m args below meth c H locs cells slots Q (F0 m pc ls st) := by
  exact va_calll (A0 := fr A) (H0 := s.heap) (va_runS (g := F0 m pc ls st) (As := As) (rest := rest) S hM cw ⟨pre_blind dC dI A t0 cI cJ cZ z _, fun U hU hW => go_pre (As := As) hK hZ hP hS U hU hW⟩ rfl hn hsz hst (lv_room hw8) hdg hcs) hS (fun _ _ h => h) (fun _ h => h) (fun _ _ t H1 locs1 ht _ hw hB _ _ hS1 => by subst hw; exact kk H1 locs1 (by rw [← ht]; exact hB) hS1)
theorem callSV (S : CallFix p m c cc nL s args Ts own) (hM : MV l dC dI A t0 cI cJ cZ y ws hh As z z1) (cw : CallB R s args own index y bytes maxL ret ws (rmH hh) 0 0 n ∧ (Cond.static y).before args s = true)
    (hK : va_K (dC, dI) vwCl (tys cI cJ cZ) s) (hZ : sZ A t0 s s.heap) (hP : wIs dC dI A cI cJ cZ z H) (hS : va_S (fr A) s.heap H locs)
    (hst : st = As.reverse ++ rest) (hn : As.length = n) (hsz : ls.size = nL) (hw8 : (rest.map fun v => v.category).sum ≤ 8) (hcs : cells ≤ R.cells ∧ slots ≤ R.slots) (hdg : decode cc pc = .ok (.invokestatic index, 3))
    (kk : ∀ (H1 : Heap) (locs1 : List Loc), wIs dC dI A cI cJ cZ z1 H1 → va_S (fr A) s.heap H1 locs1 → W p l e R s m args below meth c H1 locs1 cells slots Q (F0 m (pc + 3) ls rest)) : W p l e R s m args below meth c H locs cells slots Q (F0 m pc ls st) := by
  exact va_callv (A0 := fr A) (H0 := s.heap) (va_runS (g := F0 m pc ls st) (As := As) (rest := rest) S hM cw ⟨pre_blind dC dI A t0 cI cJ cZ z _, fun U hU hW => go_pre (As := As) hK hZ hP hS U hU hW⟩ rfl hn hsz hst (lv_room hw8) hdg hcs) hS (fun _ _ h => h) (fun _ h => h) (fun _ t H1 locs1 ht _ _ hB _ _ hS1 => kk H1 locs1 (by rw [← ht]; exact hB) hS1)
theorem retI {v r : Int32} (hx : p.tables.exec = Jvm.exec) (hb : c.code = cc) (hr : meth.sig.returnType = some .int) (hlocks : meth.locks = false) (hP : wIs dC dI A cI cJ cZ z H) (hS : va_S (fr A) s.heap H locs) (hf : some (v, z) = some (r, z1)) (hdg : decode cc pc = .ok (.ireturn, 1)) :
    W p l e R s m args below meth c H locs 0 0 (MQ below (va_Qi (fun r' (_ : Unit) => r' = r) (fun _ t => wIs dC dI A cI cJ cZ z1 t.heap) (fr A)) args s 0 0 (fr A)) (F0 m pc ls [.int v]) := by
  obtain ⟨rfl, rfl⟩ := rt_el hf
  exact W.iret hx hb hr (fun t ht hW => ⟨⟨v, (), rfl, rfl, by rw [ht]; exact hP⟩, hS.F ht⟩) hS.2.2 hdg hlocks
theorem retZ {v r : Int32} (hx : p.tables.exec = Jvm.exec) (hb : c.code = cc) (hr : meth.sig.returnType = some .boolean) (hlocks : meth.locks = false) (hnn : narrow .boolean (.int v) = .int v) (hP : wIs dC dI A cI cJ cZ z H) (hS : va_S (fr A) s.heap H locs) (hf : some (v, z) = some (r, z1)) (hdg : decode cc pc = .ok (.ireturn, 1)) :
    W p l e R s m args below meth c H locs 0 0 (MQ below (va_Qi (fun r' (_ : Unit) => r' = r) (fun _ t => wIs dC dI A cI cJ cZ z1 t.heap) (fr A)) args s 0 0 (fr A)) (F0 m pc ls [.int v]) := by
  obtain ⟨rfl, rfl⟩ := rt_el hf
  exact W.zret hx hb hr hnn (fun t ht hW => ⟨⟨v, (), rfl, rfl, by rw [ht]; exact hP⟩, hS.F ht⟩) hS.2.2 hdg hlocks
theorem retL {v r : Int64} (hx : p.tables.exec = Jvm.exec) (hb : c.code = cc) (hr : meth.sig.returnType = some .long) (hlocks : meth.locks = false) (hP : wIs dC dI A cI cJ cZ z H) (hS : va_S (fr A) s.heap H locs) (hf : some (v, z) = some (r, z1)) (hdg : decode cc pc = .ok (.lreturn, 1)) :
    W p l e R s m args below meth c H locs 0 0 (MQ below (va_Ql (fun r' (_ : Unit) => r' = r) (fun _ t => wIs dC dI A cI cJ cZ z1 t.heap) (fr A)) args s 0 0 (fr A)) (F0 m pc ls [.long v]) := by
  obtain ⟨rfl, rfl⟩ := rt_el hf
  exact W.lret hx hb hr (fun t ht hW => ⟨⟨v, (), rfl, rfl, by rw [ht]; exact hP⟩, hS.F ht⟩) hS.2.2 hdg hlocks
theorem retV {u : Unit} (hx : p.tables.exec = Jvm.exec) (hb : c.code = cc) (hr : meth.sig.returnType = none) (hlocks : meth.locks = false) (hP : wIs dC dI A cI cJ cZ z H) (hS : va_S (fr A) s.heap H locs) (hf : some ((), z) = some (u, z1)) (hdg : decode cc pc = .ok (.return_, 1)) :
    W p l e R s m args below meth c H locs 0 0 (MQ below (va_Qv (fun (_ : Unit) => True) (fun _ t => wIs dC dI A cI cJ cZ z1 t.heap) (fr A)) args s 0 0 (fr A)) (F0 m pc ls []) := by
  obtain ⟨-, rfl⟩ := rt_el hf
  exact W.vret hx hb hr (fun t ht hW => ⟨⟨(), rfl, trivial, by rw [ht]; exact hP⟩, hS.F ht⟩) hS.2.2 hdg hlocks
end SC
end
