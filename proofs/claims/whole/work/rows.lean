section
-- ===== PART A: goes FIRST, ahead of the names: the tables' words, and 'selects' of the private methods out of them =====
/-- a private method of a class that the tables say can be made, by its rows of tables_1 -/
def lw_okq (q : MethodName × Nat) : Prop := (q.1.cls ≠ "java/lang/invoke/MethodHandle" ∧ q.1.cls ≠ "java/lang/invoke/VarHandle") ∧ Cond.instantiable q.1.cls q.2 ∈ tables_1 ∧ Cond.privateMethod q.1 ∈ tables_1 ∧ Cond.instanceMethod q.1 ∈ tables_1
theorem lw_p0 : lw_okq (⟨"TriedHarder", "useHour", "(I)I"⟩, 7) := ⟨⟨by decide +kernel, by decide +kernel⟩, List.mem_of_getElem? (i := 8) (by decide +kernel), List.mem_of_getElem? (i := 133) (by decide +kernel), List.mem_of_getElem? (i := 134) (by decide +kernel)⟩
theorem lw_p1 : lw_okq (⟨"TriedHarder", "shareInCount", "(II)I"⟩, 7) := ⟨⟨by decide +kernel, by decide +kernel⟩, List.mem_of_getElem? (i := 8) (by decide +kernel), List.mem_of_getElem? (i := 148) (by decide +kernel), List.mem_of_getElem? (i := 149) (by decide +kernel)⟩
theorem lw_p2 : lw_okq (⟨"TriedHarder", "findHalves", "()Z"⟩, 7) := ⟨⟨by decide +kernel, by decide +kernel⟩, List.mem_of_getElem? (i := 8) (by decide +kernel), List.mem_of_getElem? (i := 265) (by decide +kernel), List.mem_of_getElem? (i := 266) (by decide +kernel)⟩
theorem lw_p3 : lw_okq (⟨"TriedHarder", "missOfHalves", "(II)I"⟩, 7) := ⟨⟨by decide +kernel, by decide +kernel⟩, List.mem_of_getElem? (i := 8) (by decide +kernel), List.mem_of_getElem? (i := 269) (by decide +kernel), List.mem_of_getElem? (i := 270) (by decide +kernel)⟩
theorem lw_p4 : lw_okq (⟨"TriedHarderModel", "isUnit", "(I)Z"⟩, 17) := ⟨⟨by decide +kernel, by decide +kernel⟩, List.mem_of_getElem? (i := 332) (by decide +kernel), List.mem_of_getElem? (i := 414) (by decide +kernel), List.mem_of_getElem? (i := 415) (by decide +kernel)⟩
theorem lw_p5 : lw_okq (⟨"TriedHarderModel", "useHour", "(I)I"⟩, 17) := ⟨⟨by decide +kernel, by decide +kernel⟩, List.mem_of_getElem? (i := 332) (by decide +kernel), List.mem_of_getElem? (i := 426) (by decide +kernel), List.mem_of_getElem? (i := 427) (by decide +kernel)⟩
theorem lw_p6 : lw_okq (⟨"TriedHarderModel", "isIn", "(II)Z"⟩, 17) := ⟨⟨by decide +kernel, by decide +kernel⟩, List.mem_of_getElem? (i := 332) (by decide +kernel), List.mem_of_getElem? (i := 439) (by decide +kernel), List.mem_of_getElem? (i := 440) (by decide +kernel)⟩
theorem lw_p7 : lw_okq (⟨"TriedHarderModel", "riskAt", "(II)I"⟩, 17) := ⟨⟨by decide +kernel, by decide +kernel⟩, List.mem_of_getElem? (i := 332) (by decide +kernel), List.mem_of_getElem? (i := 447) (by decide +kernel), List.mem_of_getElem? (i := 448) (by decide +kernel)⟩
theorem lw_p8 : lw_okq (⟨"TriedHarderModel", "lay", "(II)V"⟩, 17) := ⟨⟨by decide +kernel, by decide +kernel⟩, List.mem_of_getElem? (i := 332) (by decide +kernel), List.mem_of_getElem? (i := 456) (by decide +kernel), List.mem_of_getElem? (i := 457) (by decide +kernel)⟩
theorem lw_p9 : lw_okq (⟨"TriedHarderModel", "failedAt", "(III)I"⟩, 17) := ⟨⟨by decide +kernel, by decide +kernel⟩, List.mem_of_getElem? (i := 332) (by decide +kernel), List.mem_of_getElem? (i := 460) (by decide +kernel), List.mem_of_getElem? (i := 461) (by decide +kernel)⟩
theorem lw_p10 : lw_okq (⟨"TriedHarderModel", "findLeft", "(I)V"⟩, 17) := ⟨⟨by decide +kernel, by decide +kernel⟩, List.mem_of_getElem? (i := 332) (by decide +kernel), List.mem_of_getElem? (i := 464) (by decide +kernel), List.mem_of_getElem? (i := 465) (by decide +kernel)⟩
theorem lw_p11 : lw_okq (⟨"TriedHarderModel", "goOn", "(I)V"⟩, 17) := ⟨⟨by decide +kernel, by decide +kernel⟩, List.mem_of_getElem? (i := 332) (by decide +kernel), List.mem_of_getElem? (i := 468) (by decide +kernel), List.mem_of_getElem? (i := 469) (by decide +kernel)⟩
theorem lw_p12 : lw_okq (⟨"TriedHarderModel", "timeOf", "(IIII)I"⟩, 17) := ⟨⟨by decide +kernel, by decide +kernel⟩, List.mem_of_getElem? (i := 332) (by decide +kernel), List.mem_of_getElem? (i := 480) (by decide +kernel), List.mem_of_getElem? (i := 481) (by decide +kernel)⟩
theorem lw_p13 : lw_okq (⟨"TriedHarderModel", "findRest", "(II)V"⟩, 17) := ⟨⟨by decide +kernel, by decide +kernel⟩, List.mem_of_getElem? (i := 332) (by decide +kernel), List.mem_of_getElem? (i := 488) (by decide +kernel), List.mem_of_getElem? (i := 489) (by decide +kernel)⟩
theorem lw_p14 : lw_okq (⟨"TriedHarderModel", "add", "()V"⟩, 17) := ⟨⟨by decide +kernel, by decide +kernel⟩, List.mem_of_getElem? (i := 332) (by decide +kernel), List.mem_of_getElem? (i := 492) (by decide +kernel), List.mem_of_getElem? (i := 493) (by decide +kernel)⟩
theorem lw_p15 : lw_okq (⟨"TriedHarderModel", "isLeftAt", "(I)Z"⟩, 17) := ⟨⟨by decide +kernel, by decide +kernel⟩, List.mem_of_getElem? (i := 332) (by decide +kernel), List.mem_of_getElem? (i := 500) (by decide +kernel), List.mem_of_getElem? (i := 501) (by decide +kernel)⟩
def lw_privs_1 : List (MethodName × Nat) := [(⟨"TriedHarder", "useHour", "(I)I"⟩, 7), (⟨"TriedHarder", "shareInCount", "(II)I"⟩, 7), (⟨"TriedHarder", "findHalves", "()Z"⟩, 7), (⟨"TriedHarder", "missOfHalves", "(II)I"⟩, 7), (⟨"TriedHarderModel", "isUnit", "(I)Z"⟩, 17), (⟨"TriedHarderModel", "useHour", "(I)I"⟩, 17), (⟨"TriedHarderModel", "isIn", "(II)Z"⟩, 17), (⟨"TriedHarderModel", "riskAt", "(II)I"⟩, 17), (⟨"TriedHarderModel", "lay", "(II)V"⟩, 17), (⟨"TriedHarderModel", "failedAt", "(III)I"⟩, 17), (⟨"TriedHarderModel", "findLeft", "(I)V"⟩, 17), (⟨"TriedHarderModel", "goOn", "(I)V"⟩, 17), (⟨"TriedHarderModel", "timeOf", "(IIII)I"⟩, 17), (⟨"TriedHarderModel", "findRest", "(II)V"⟩, 17), (⟨"TriedHarderModel", "add", "()V"⟩, 17), (⟨"TriedHarderModel", "isLeftAt", "(I)Z"⟩, 17)]
theorem lw_r1 : ∀ q ∈ lw_privs_1, lw_okq q := List.forall_mem_cons.mpr ⟨lw_p0, List.forall_mem_cons.mpr ⟨lw_p1, List.forall_mem_cons.mpr ⟨lw_p2, List.forall_mem_cons.mpr ⟨lw_p3, List.forall_mem_cons.mpr ⟨lw_p4, List.forall_mem_cons.mpr ⟨lw_p5, List.forall_mem_cons.mpr ⟨lw_p6, List.forall_mem_cons.mpr ⟨lw_p7, List.forall_mem_cons.mpr ⟨lw_p8, List.forall_mem_cons.mpr ⟨lw_p9, List.forall_mem_cons.mpr ⟨lw_p10, List.forall_mem_cons.mpr ⟨lw_p11, List.forall_mem_cons.mpr ⟨lw_p12, List.forall_mem_cons.mpr ⟨lw_p13, List.forall_mem_cons.mpr ⟨lw_p14, List.forall_mem_cons.mpr ⟨lw_p15, fun _ h => absurd h List.not_mem_nil⟩⟩⟩⟩⟩⟩⟩⟩⟩⟩⟩⟩⟩⟩⟩⟩
theorem lw_p16 : lw_okq (⟨"TriedHarderModel", "findHalves", "()Z"⟩, 17) := ⟨⟨by decide +kernel, by decide +kernel⟩, List.mem_of_getElem? (i := 332) (by decide +kernel), List.mem_of_getElem? (i := 533) (by decide +kernel), List.mem_of_getElem? (i := 534) (by decide +kernel)⟩
theorem lw_p17 : lw_okq (⟨"TriedHarderModel", "missOf", "(II)I"⟩, 17) := ⟨⟨by decide +kernel, by decide +kernel⟩, List.mem_of_getElem? (i := 332) (by decide +kernel), List.mem_of_getElem? (i := 537) (by decide +kernel), List.mem_of_getElem? (i := 538) (by decide +kernel)⟩
def lw_privs_2 : List (MethodName × Nat) := [(⟨"TriedHarderModel", "findHalves", "()Z"⟩, 17), (⟨"TriedHarderModel", "missOf", "(II)I"⟩, 17)]
theorem lw_r2 : ∀ q ∈ lw_privs_2, lw_okq q := List.forall_mem_cons.mpr ⟨lw_p16, List.forall_mem_cons.mpr ⟨lw_p17, fun _ h => absurd h List.not_mem_nil⟩⟩
def lw_privs : List (MethodName × Nat) := lw_privs_1 ++ (lw_privs_2)
def lw_tbl : List Cond := k2_sels lw_privs ++ tables_1
theorem lw_privs_ok : ∀ q ∈ lw_privs, lw_okq q := by
  show ∀ q ∈ lw_privs_1 ++ (lw_privs_2), lw_okq q
  exact List.forall_mem_append.mpr ⟨lw_r1, lw_r2⟩
end
section
/-! ===== BEGIN words of one list among another's, by their places ===== -/
theorem goodIn_r {big : List Cond} (ws : List Cond) (ps : List Nat) (hp : ws = ps.filterMap (fun i => big[i]?)) (h : ws.all goodWord = true) : GoodIn big ws := by
  intro w hw
  have h1 := List.all_eq_true.mp h w hw
  rw [hp] at hw
  obtain ⟨i, -, hi⟩ := List.mem_filterMap.mp hw
  have hm : w ∈ big := by first | exact List.mem_of_getElem? hi | exact List.getElem?_mem hi
  exact ⟨hm, good_of_word h1⟩
theorem goodIn_app {big a b : List Cond} (ha : GoodIn big a) (hb : GoodIn big b) : GoodIn big (a ++ b) := fun w h => (List.mem_append.mp h).elim (ha w) (hb w)
theorem goodIn_ca {big a b : List Cond} {c : Cond} (ha : GoodIn big (c :: a)) (hb : GoodIn big b) : GoodIn big (c :: (a ++ b)) := fun w h => (List.mem_cons.mp h).elim (fun e => ha w (List.mem_cons.mpr (Or.inl e))) (fun h => (List.mem_append.mp h).elim (fun h => ha w (List.mem_cons.mpr (Or.inr h))) (hb w))
theorem goodIn_sub {big ws : List Cond} (hm : ∀ w ∈ ws, w ∈ big) (h : ws.all goodWord = true) : GoodIn big ws := fun w hw => ⟨hm w hw, good_of_word (List.all_eq_true.mp h w hw)⟩
/-! ===== END ===== -/

/-! ===== BEGIN printed: names, fields, word lists, decode rows ===== -/
def RX0 : String := "TriedHarder$Standing"
def TX0 : u_T := fun k => match k with
  | 0 => ("TriedHarder$Standing", "from", "[I", true)
  | 1 => ("TriedHarder$Standing", "level", "[J", true)
  | _ => ("TriedHarder$Standing", "pieces", "I", false)
def tyX0 : Nat → FieldType := fun k => match k with
  | 0 => .array .int
  | 1 => .array .long
  | _ => .int
abbrev wsX00 : List Cond := u_ws RX0 TX0 3
theorem nmX0 : ∀ a, a < 3 → ∀ b, b < 3 → a ≠ b → (TX0 a).2.1 ≠ (TX0 b).2.1 := by decide +kernel
theorem tyX0_ok : ∀ k, k < 3 → parseFieldDescriptor (TX0 k).2.2.1 = some (tyX0 k) := by decide +kernel
abbrev cX0_init : ByteArray := prog_2_method_1_code
def yX0_init : MethodName := ⟨RX0, "<init>", "()V"⟩
abbrev cX0_look : ByteArray := prog_2_method_2_code
def yX0_look : MethodName := ⟨RX0, "look", "(LTriedHarder$Units;II)V"⟩
abbrev cX0_raiseAllBefore : ByteArray := prog_2_method_3_code
def yX0_raiseAllBefore : MethodName := ⟨RX0, "raiseAllBefore", "(II)V"⟩
abbrev cX0_whole : ByteArray := prog_2_method_4_code
def yX0_whole : MethodName := ⟨RX0, "whole", "()J"⟩
abbrev cX0_levelAt : ByteArray := prog_2_method_5_code
def yX0_levelAt : MethodName := ⟨RX0, "levelAt", "(I)J"⟩
abbrev cX0_firstAtMost : ByteArray := prog_2_method_6_code
def yX0_firstAtMost : MethodName := ⟨RX0, "firstAtMost", "(II)I"⟩
abbrev cX0_sumOf : ByteArray := prog_2_method_7_code
def yX0_sumOf : MethodName := ⟨RX0, "sumOf", "(II)J"⟩
abbrev cX0_bestRunIn : ByteArray := prog_2_method_8_code
def yX0_bestRunIn : MethodName := ⟨RX0, "bestRunIn", "(II)I"⟩
def RX1 : String := "TriedHarder$Trial"
def TX1 : u_T := fun k => match k with
  | 0 => ("TriedHarder$Trial", "stress", "[I", true)
  | 1 => ("TriedHarder$Trial", "hours", "[I", true)
  | _ => ("TriedHarder$Trial", "many", "I", false)
def tyX1 : Nat → FieldType := fun k => match k with
  | 0 => .array .int
  | 1 => .array .int
  | _ => .int
abbrev wsX10 : List Cond := u_ws RX1 TX1 3
theorem nmX1 : ∀ a, a < 3 → ∀ b, b < 3 → a ≠ b → (TX1 a).2.1 ≠ (TX1 b).2.1 := by decide +kernel
theorem tyX1_ok : ∀ k, k < 3 → parseFieldDescriptor (TX1 k).2.2.1 = some (tyX1 k) := by decide +kernel
abbrev cX1_init : ByteArray := prog_3_method_1_code
def yX1_init : MethodName := ⟨RX1, "<init>", "()V"⟩
def RX2 : String := "TriedHarder$Units"
def TX2 : u_T := fun k => match k with
  | 0 => ("TriedHarder$Units", "stress", "[I", true)
  | 1 => ("TriedHarder$Units", "hour", "[I", true)
  | 2 => ("TriedHarder$Units", "cause", "[I", true)
  | _ => ("TriedHarder$Units", "many", "I", false)
def tyX2 : Nat → FieldType := fun k => match k with
  | 0 => .array .int
  | 1 => .array .int
  | 2 => .array .int
  | _ => .int
abbrev wsX20 : List Cond := u_ws RX2 TX2 4
theorem nmX2 : ∀ a, a < 4 → ∀ b, b < 4 → a ≠ b → (TX2 a).2.1 ≠ (TX2 b).2.1 := by decide +kernel
theorem tyX2_ok : ∀ k, k < 4 → parseFieldDescriptor (TX2 k).2.2.1 = some (tyX2 k) := by decide +kernel
abbrev cX2_init : ByteArray := prog_4_method_1_code
def yX2_init : MethodName := ⟨RX2, "<init>", "()V"⟩
abbrev cX2_has : ByteArray := prog_4_method_2_code
def yX2_has : MethodName := ⟨RX2, "has", "(I)Z"⟩
abbrev cX2_put : ByteArray := prog_4_method_3_code
def yX2_put : MethodName := ⟨RX2, "put", "(IIII)V"⟩
abbrev cX2_isIn : ByteArray := prog_4_method_4_code
def yX2_isIn : MethodName := ⟨RX2, "isIn", "(II)Z"⟩
abbrev cX2_atRisk : ByteArray := prog_4_method_5_code
def yX2_atRisk : MethodName := ⟨RX2, "atRisk", "(II)I"⟩
abbrev cX2_hasFailed : ByteArray := prog_4_method_6_code
def yX2_hasFailed : MethodName := ⟨RX2, "hasFailed", "(III)Z"⟩
abbrev cX2_failedAt : ByteArray := prog_4_method_7_code
def yX2_failedAt : MethodName := ⟨RX2, "failedAt", "(III)I"⟩
abbrev cX2_nextFailure : ByteArray := prog_4_method_8_code
def yX2_nextFailure : MethodName := ⟨RX2, "nextFailure", "(III)I"⟩
def RX3 : String := "TriedHarder"
def TX3 : u_T := fun k => match k with
  | 0 => ("TriedHarder", "units", "LTriedHarder$Units;", true)
  | 1 => ("TriedHarder", "standing", "LTriedHarder$Standing;", true)
  | 2 => ("TriedHarder", "trial", "LTriedHarder$Trial;", true)
  | 3 => ("TriedHarder", "speeds", "[I", true)
  | 4 => ("TriedHarder", "halves", "[I", true)
  | 5 => ("TriedHarder", "price", "I", false)
  | _ => ("TriedHarder", "hourCost", "I", false)
def tyX3 : Nat → FieldType := fun k => match k with
  | 0 => .object "TriedHarder$Units"
  | 1 => .object "TriedHarder$Standing"
  | 2 => .object "TriedHarder$Trial"
  | 3 => .array .int
  | 4 => .array .int
  | 5 => .int
  | _ => .int
abbrev wsX30 : List Cond := u_ws RX3 TX3 7
theorem nmX3 : ∀ a, a < 7 → ∀ b, b < 7 → a ≠ b → (TX3 a).2.1 ≠ (TX3 b).2.1 := by decide +kernel
theorem tyX3_ok : ∀ k, k < 7 → parseFieldDescriptor (TX3 k).2.2.1 = some (tyX3 k) := by decide +kernel
abbrev cX3_init : ByteArray := prog_1_method_1_code
def yX3_init : MethodName := ⟨RX3, "<init>", "()V"⟩
abbrev cX3_unit : ByteArray := prog_1_method_2_code
def yX3_unit : MethodName := ⟨RX3, "unit", "(III)I"⟩
abbrev cX3_set : ByteArray := prog_1_method_3_code
def yX3_set : MethodName := ⟨RX3, "set", "(IIII)I"⟩
abbrev cX3_drop : ByteArray := prog_1_method_4_code
def yX3_drop : MethodName := ⟨RX3, "drop", "()I"⟩
abbrev cX3_told : ByteArray := prog_1_method_5_code
def yX3_told : MethodName := ⟨RX3, "told", "(II)I"⟩
abbrev cX3_count : ByteArray := prog_1_method_6_code
def yX3_count : MethodName := ⟨RX3, "count", "(II)I"⟩
abbrev cX3_shareInCount : ByteArray := prog_1_method_7_code
def yX3_shareInCount : MethodName := ⟨RX3, "shareInCount", "(II)I"⟩
abbrev cX3_useHour : ByteArray := prog_1_method_8_code
def yX3_useHour : MethodName := ⟨RX3, "useHour", "(I)I"⟩
abbrev cX3_risk : ByteArray := prog_1_method_9_code
def yX3_risk : MethodName := ⟨RX3, "risk", "(II)I"⟩
abbrev cX3_left : ByteArray := prog_1_method_10_code
def yX3_left : MethodName := ⟨RX3, "left", "(IIII)J"⟩
abbrev cX3_time : ByteArray := prog_1_method_11_code
def yX3_time : MethodName := ⟨RX3, "time", "(IIII)I"⟩
abbrev cX3_mean : ByteArray := prog_1_method_12_code
def yX3_mean : MethodName := ⟨RX3, "mean", "(IIII)J"⟩
abbrev cX3_rest : ByteArray := prog_1_method_13_code
def yX3_rest : MethodName := ⟨RX3, "rest", "(IIIII)J"⟩
abbrev cX3_runIn : ByteArray := prog_1_method_14_code
def yX3_runIn : MethodName := ⟨RX3, "runIn", "(IIII)I"⟩
abbrev cX3_speed : ByteArray := prog_1_method_15_code
def yX3_speed : MethodName := ⟨RX3, "speed", "(II)I"⟩
abbrev cX3_says : ByteArray := prog_1_method_16_code
def yX3_says : MethodName := ⟨RX3, "says", "(III)I"⟩
abbrev cX3_miss : ByteArray := prog_1_method_17_code
def yX3_miss : MethodName := ⟨RX3, "miss", "(II)I"⟩
abbrev cX3_law : ByteArray := prog_1_method_18_code
def yX3_law : MethodName := ⟨RX3, "law", "(III)I"⟩
abbrev cX3_findHalves : ByteArray := prog_1_method_19_code
def yX3_findHalves : MethodName := ⟨RX3, "findHalves", "()Z"⟩
abbrev cX3_missOfHalves : ByteArray := prog_1_method_20_code
def yX3_missOfHalves : MethodName := ⟨RX3, "missOfHalves", "(II)I"⟩
abbrev cX3_lawAt : ByteArray := prog_1_method_21_code
def yX3_lawAt : MethodName := ⟨RX3, "lawAt", "(III)I"⟩
abbrev cX3_step : ByteArray := prog_1_method_22_code
def yX3_step : MethodName := ⟨RX3, "step", "(II)I"⟩
abbrev cX3_clear : ByteArray := prog_1_method_23_code
def yX3_clear : MethodName := ⟨RX3, "clear", "()I"⟩
abbrev cX3_used : ByteArray := prog_1_method_24_code
def yX3_used : MethodName := ⟨RX3, "used", "(I)I"⟩
abbrev cX3_fails : ByteArray := prog_1_method_25_code
def yX3_fails : MethodName := ⟨RX3, "fails", "(I)I"⟩
abbrev cX3_end : ByteArray := prog_1_method_26_code
def yX3_end : MethodName := ⟨RX3, "end", "(IIII)I"⟩
abbrev cX3_lowEnd : ByteArray := prog_1_method_27_code
def yX3_lowEnd : MethodName := ⟨RX3, "lowEnd", "(III)I"⟩
abbrev cX3_highEnd : ByteArray := prog_1_method_28_code
def yX3_highEnd : MethodName := ⟨RX3, "highEnd", "(III)I"⟩
abbrev cX3_isAtMost : ByteArray := prog_1_method_29_code
def yX3_isAtMost : MethodName := ⟨RX3, "isAtMost", "(IIJ)Z"⟩
abbrev cX3_casesOf : ByteArray := prog_1_method_30_code
def yX3_casesOf : MethodName := ⟨RX3, "casesOf", "(IIII)J"⟩
abbrev cX3_ways : ByteArray := prog_1_method_31_code
def yX3_ways : MethodName := ⟨RX3, "ways", "(II)J"⟩
abbrev cX3_power : ByteArray := prog_1_method_32_code
def yX3_power : MethodName := ⟨RX3, "power", "(II)J"⟩
abbrev cX3_rule : ByteArray := prog_1_method_33_code
def yX3_rule : MethodName := ⟨RX3, "rule", "(II)I"⟩
abbrev cX3_plan : ByteArray := prog_1_method_34_code
def yX3_plan : MethodName := ⟨RX3, "plan", "(III)I"⟩
abbrev cX3_isWithin : ByteArray := prog_1_method_35_code
def yX3_isWithin : MethodName := ⟨RX3, "isWithin", "(III)Z"⟩
abbrev cX3_isStress : ByteArray := prog_1_method_36_code
def yX3_isStress : MethodName := ⟨RX3, "isStress", "(I)Z"⟩
abbrev cX3_isUnit : ByteArray := prog_1_method_37_code
def yX3_isUnit : MethodName := ⟨RX3, "isUnit", "(III)Z"⟩
abbrev cX3_isSet : ByteArray := prog_1_method_38_code
def yX3_isSet : MethodName := ⟨RX3, "isSet", "(I)Z"⟩
abbrev cX3_isSetByCause : ByteArray := prog_1_method_39_code
def yX3_isSetByCause : MethodName := ⟨RX3, "isSetByCause", "(II)Z"⟩
abbrev cX3_isLaw : ByteArray := prog_1_method_40_code
def yX3_isLaw : MethodName := ⟨RX3, "isLaw", "(II)Z"⟩
abbrev cX3_cut : ByteArray := prog_1_method_41_code
def yX3_cut : MethodName := ⟨RX3, "cut", "(II)I"⟩
abbrev cX3_roundedUp : ByteArray := prog_1_method_42_code
def yX3_roundedUp : MethodName := ⟨RX3, "roundedUp", "(II)I"⟩
abbrev cX3_leastTerms : ByteArray := prog_1_method_43_code
def yX3_leastTerms : MethodName := ⟨RX3, "leastTerms", "(JJI)J"⟩
abbrev cX3_sharedFactor : ByteArray := prog_1_method_44_code
def yX3_sharedFactor : MethodName := ⟨RX3, "sharedFactor", "(JJ)J"⟩
def RX4 : String := "TriedHarderModel"
def TX4 : u_T := fun k => match k with
  | 0 => ("TriedHarderModel", "units", "I", false)
  | 1 => ("TriedHarderModel", "stresses", "[I", true)
  | 2 => ("TriedHarderModel", "hours", "[I", true)
  | 3 => ("TriedHarderModel", "causes", "[I", true)
  | 4 => ("TriedHarderModel", "speeds", "[I", true)
  | 5 => ("TriedHarderModel", "steps", "I", false)
  | 6 => ("TriedHarderModel", "stepStress", "[I", true)
  | 7 => ("TriedHarderModel", "stepHours", "[I", true)
  | 8 => ("TriedHarderModel", "price", "I", false)
  | 9 => ("TriedHarderModel", "hourCost", "I", false)
  | 10 => ("TriedHarderModel", "leftUpper", "J", false)
  | 11 => ("TriedHarderModel", "leftLower", "J", false)
  | 12 => ("TriedHarderModel", "upper", "J", false)
  | 13 => ("TriedHarderModel", "lower", "J", false)
  | 14 => ("TriedHarderModel", "failedRow", "[I", true)
  | 15 => ("TriedHarderModel", "riskRow", "[I", true)
  | _ => ("TriedHarderModel", "halves", "[I", true)
def tyX4 : Nat → FieldType := fun k => match k with
  | 0 => .int
  | 1 => .array .int
  | 2 => .array .int
  | 3 => .array .int
  | 4 => .array .int
  | 5 => .int
  | 6 => .array .int
  | 7 => .array .int
  | 8 => .int
  | 9 => .int
  | 10 => .long
  | 11 => .long
  | 12 => .long
  | 13 => .long
  | 14 => .array .int
  | 15 => .array .int
  | _ => .array .int
abbrev wsX40 : List Cond := u_ws RX4 TX4 17
theorem nmX4 : ∀ a, a < 17 → ∀ b, b < 17 → a ≠ b → (TX4 a).2.1 ≠ (TX4 b).2.1 := by decide +kernel
theorem tyX4_ok : ∀ k, k < 17 → parseFieldDescriptor (TX4 k).2.2.1 = some (tyX4 k) := by decide +kernel
abbrev cX4_init : ByteArray := prog_6_method_1_code
def yX4_init : MethodName := ⟨RX4, "<init>", "()V"⟩
abbrev cX4_in : ByteArray := prog_6_method_3_code
def yX4_in : MethodName := ⟨RX4, "in", "(JJJ)Z"⟩
abbrev cX4_isStress : ByteArray := prog_6_method_4_code
def yX4_isStress : MethodName := ⟨RX4, "isStress", "(I)Z"⟩
abbrev cX4_isCause : ByteArray := prog_6_method_5_code
def yX4_isCause : MethodName := ⟨RX4, "isCause", "(I)Z"⟩
abbrev cX4_isSet : ByteArray := prog_6_method_6_code
def yX4_isSet : MethodName := ⟨RX4, "isSet", "(I)Z"⟩
abbrev cX4_isUnitLike : ByteArray := prog_6_method_7_code
def yX4_isUnitLike : MethodName := ⟨RX4, "isUnitLike", "(III)Z"⟩
abbrev cX4_unit : ByteArray := prog_6_method_8_code
def yX4_unit : MethodName := ⟨RX4, "unit", "(III)I"⟩
abbrev cX4_isUnit : ByteArray := prog_6_method_9_code
def yX4_isUnit : MethodName := ⟨RX4, "isUnit", "(I)Z"⟩
abbrev cX4_set : ByteArray := prog_6_method_10_code
def yX4_set : MethodName := ⟨RX4, "set", "(IIII)I"⟩
abbrev cX4_drop : ByteArray := prog_6_method_11_code
def yX4_drop : MethodName := ⟨RX4, "drop", "()I"⟩
abbrev cX4_useHour : ByteArray := prog_6_method_12_code
def yX4_useHour : MethodName := ⟨RX4, "useHour", "(I)I"⟩
abbrev cX4_told : ByteArray := prog_6_method_13_code
def yX4_told : MethodName := ⟨RX4, "told", "(II)I"⟩
abbrev cX4_isIn : ByteArray := prog_6_method_14_code
def yX4_isIn : MethodName := ⟨RX4, "isIn", "(II)Z"⟩
abbrev cX4_count : ByteArray := prog_6_method_15_code
def yX4_count : MethodName := ⟨RX4, "count", "(II)I"⟩
abbrev cX4_riskAt : ByteArray := prog_6_method_16_code
def yX4_riskAt : MethodName := ⟨RX4, "riskAt", "(II)I"⟩
abbrev cX4_risk : ByteArray := prog_6_method_17_code
def yX4_risk : MethodName := ⟨RX4, "risk", "(II)I"⟩
abbrev cX4_failedAt : ByteArray := prog_6_method_18_code
def yX4_failedAt : MethodName := ⟨RX4, "failedAt", "(III)I"⟩
abbrev cX4_common : ByteArray := prog_6_method_19_code
def yX4_common : MethodName := ⟨RX4, "common", "(JJ)J"⟩
abbrev cX4_lay : ByteArray := prog_6_method_20_code
def yX4_lay : MethodName := ⟨RX4, "lay", "(II)V"⟩
abbrev cX4_goOn : ByteArray := prog_6_method_21_code
def yX4_goOn : MethodName := ⟨RX4, "goOn", "(I)V"⟩
abbrev cX4_findLeft : ByteArray := prog_6_method_22_code
def yX4_findLeft : MethodName := ⟨RX4, "findLeft", "(I)V"⟩
abbrev cX4_add : ByteArray := prog_6_method_23_code
def yX4_add : MethodName := ⟨RX4, "add", "()V"⟩
abbrev cX4_findRest : ByteArray := prog_6_method_24_code
def yX4_findRest : MethodName := ⟨RX4, "findRest", "(II)V"⟩
abbrev cX4_left : ByteArray := prog_6_method_25_code
def yX4_left : MethodName := ⟨RX4, "left", "(IIII)J"⟩
abbrev cX4_timeOf : ByteArray := prog_6_method_26_code
def yX4_timeOf : MethodName := ⟨RX4, "timeOf", "(IIII)I"⟩
abbrev cX4_time : ByteArray := prog_6_method_27_code
def yX4_time : MethodName := ⟨RX4, "time", "(IIII)I"⟩
abbrev cX4_mean : ByteArray := prog_6_method_28_code
def yX4_mean : MethodName := ⟨RX4, "mean", "(IIII)J"⟩
abbrev cX4_isLeftAt : ByteArray := prog_6_method_29_code
def yX4_isLeftAt : MethodName := ⟨RX4, "isLeftAt", "(I)Z"⟩
abbrev cX4_rest : ByteArray := prog_6_method_30_code
def yX4_rest : MethodName := ⟨RX4, "rest", "(IIIII)J"⟩
abbrev cX4_isGreater : ByteArray := prog_6_method_31_code
def yX4_isGreater : MethodName := ⟨RX4, "isGreater", "(JJJJ)Z"⟩
abbrev cX4_runIn : ByteArray := prog_6_method_32_code
def yX4_runIn : MethodName := ⟨RX4, "runIn", "(IIII)I"⟩
abbrev cX4_speed : ByteArray := prog_6_method_33_code
def yX4_speed : MethodName := ⟨RX4, "speed", "(II)I"⟩
abbrev cX4_saysOf : ByteArray := prog_6_method_34_code
def yX4_saysOf : MethodName := ⟨RX4, "saysOf", "(III)I"⟩
abbrev cX4_isLaw : ByteArray := prog_6_method_35_code
def yX4_isLaw : MethodName := ⟨RX4, "isLaw", "(II)Z"⟩
abbrev cX4_says : ByteArray := prog_6_method_36_code
def yX4_says : MethodName := ⟨RX4, "says", "(III)I"⟩
abbrev cX4_findHalves : ByteArray := prog_6_method_37_code
def yX4_findHalves : MethodName := ⟨RX4, "findHalves", "()Z"⟩
abbrev cX4_missOf : ByteArray := prog_6_method_38_code
def yX4_missOf : MethodName := ⟨RX4, "missOf", "(II)I"⟩
abbrev cX4_miss : ByteArray := prog_6_method_39_code
def yX4_miss : MethodName := ⟨RX4, "miss", "(II)I"⟩
abbrev cX4_law : ByteArray := prog_6_method_40_code
def yX4_law : MethodName := ⟨RX4, "law", "(III)I"⟩
abbrev cX4_step : ByteArray := prog_6_method_41_code
def yX4_step : MethodName := ⟨RX4, "step", "(II)I"⟩
abbrev cX4_clear : ByteArray := prog_6_method_42_code
def yX4_clear : MethodName := ⟨RX4, "clear", "()I"⟩
abbrev cX4_used : ByteArray := prog_6_method_43_code
def yX4_used : MethodName := ⟨RX4, "used", "(I)I"⟩
abbrev cX4_fails : ByteArray := prog_6_method_44_code
def yX4_fails : MethodName := ⟨RX4, "fails", "(I)I"⟩
abbrev cX4_power : ByteArray := prog_6_method_45_code
def yX4_power : MethodName := ⟨RX4, "power", "(JI)J"⟩
abbrev cX4_chance : ByteArray := prog_6_method_46_code
def yX4_chance : MethodName := ⟨RX4, "chance", "(IIII)J"⟩
abbrev cX4_end : ByteArray := prog_6_method_47_code
def yX4_end : MethodName := ⟨RX4, "end", "(IIII)I"⟩
abbrev cX4_rule : ByteArray := prog_6_method_48_code
def yX4_rule : MethodName := ⟨RX4, "rule", "(II)I"⟩
abbrev cX4_plan : ByteArray := prog_6_method_49_code
def yX4_plan : MethodName := ⟨RX4, "plan", "(III)I"⟩
def RJ9 : String := "java/lang/Math"
def TJ9 : u_T := fun k => match k with
  | _ => ("", "", "", false)
def tyJ9 : Nat → FieldType := fun k => match k with
  | _ => .int
abbrev wsJ90 : List Cond := u_ws RJ9 TJ9 0
theorem nmJ9 : ∀ a, a < 0 → ∀ b, b < 0 → a ≠ b → (TJ9 a).2.1 ≠ (TJ9 b).2.1 := by decide +kernel
theorem tyJ9_ok : ∀ k, k < 0 → parseFieldDescriptor (TJ9 k).2.2.1 = some (tyJ9 k) := by decide +kernel
abbrev cJ9_abs_0f7a4 : ByteArray := prog_7_method_59_code
def yJ9_abs_0f7a4 : MethodName := ⟨RJ9, "abs", "(I)I"⟩
abbrev cJ9_max_7cf53 : ByteArray := prog_7_method_65_code
def yJ9_max_7cf53 : MethodName := ⟨RJ9, "max", "(II)I"⟩
abbrev cJ9_min_7cf53 : ByteArray := prog_7_method_69_code
def yJ9_min_7cf53 : MethodName := ⟨RJ9, "min", "(II)I"⟩
def RL : String := "TriedHarderLaw"
abbrev cL_law : ByteArray := code
def yL_law : MethodName := ⟨RL, "law", "([I)Z"⟩
abbrev vwCl : List vw_C := [(RX0, TX0, 3), (RX1, TX1, 3), (RX2, TX2, 4), (RX3, TX3, 7), (RX4, TX4, 17)]
end
section
theorem dX0_init_0 : decode cX0_init 0 = .ok (.aload_n 0, 1) := by decide +kernel
theorem dX0_init_1 : decode cX0_init 1 = .ok (.invokespecial 3, 3) := by decide +kernel
theorem dX0_init_4 : decode cX0_init 4 = .ok (.aload_n 0, 1) := by decide +kernel
theorem dX0_init_5 : decode cX0_init 5 = .ok (.bipush 13, 2) := by decide +kernel
theorem dX0_init_7 : decode cX0_init 7 = .ok (.newarray .int, 2) := by decide +kernel
theorem dX0_init_9 : decode cX0_init 9 = .ok (.putfield 9, 3) := by decide +kernel
theorem dX0_init_12 : decode cX0_init 12 = .ok (.aload_n 0, 1) := by decide +kernel
theorem dX0_init_13 : decode cX0_init 13 = .ok (.bipush 13, 2) := by decide +kernel
theorem dX0_init_15 : decode cX0_init 15 = .ok (.newarray .long, 2) := by decide +kernel
theorem dX0_init_17 : decode cX0_init 17 = .ok (.putfield 15, 3) := by decide +kernel
theorem dX0_init_20 : decode cX0_init 20 = .ok (.aload_n 0, 1) := by decide +kernel
theorem dX0_init_21 : decode cX0_init 21 = .ok (.iconst 0, 1) := by decide +kernel
theorem dX0_init_22 : decode cX0_init 22 = .ok (.putfield 19, 3) := by decide +kernel
theorem dX0_init_25 : decode cX0_init 25 = .ok (.return_, 1) := by decide +kernel
theorem dX0_look_0 : decode cX0_look 0 = .ok (.aload_n 0, 1) := by decide +kernel
theorem dX0_look_1 : decode cX0_look 1 = .ok (.getfield 9, 3) := by decide +kernel
theorem dX0_look_4 : decode cX0_look 4 = .ok (.iconst 0, 1) := by decide +kernel
theorem dX0_look_5 : decode cX0_look 5 = .ok (.iconst 0, 1) := by decide +kernel
theorem dX0_look_6 : decode cX0_look 6 = .ok (.iastore, 1) := by decide +kernel
theorem dX0_look_7 : decode cX0_look 7 = .ok (.aload_n 0, 1) := by decide +kernel
theorem dX0_look_8 : decode cX0_look 8 = .ok (.getfield 15, 3) := by decide +kernel
theorem dX0_look_11 : decode cX0_look 11 = .ok (.iconst 0, 1) := by decide +kernel
theorem dX0_look_12 : decode cX0_look 12 = .ok (.lconst 1, 1) := by decide +kernel
theorem dX0_look_13 : decode cX0_look 13 = .ok (.lastore, 1) := by decide +kernel
theorem dX0_look_14 : decode cX0_look 14 = .ok (.aload_n 1, 1) := by decide +kernel
theorem dX0_look_15 : decode cX0_look 15 = .ok (.iload_n 2, 1) := by decide +kernel
theorem dX0_look_16 : decode cX0_look 16 = .ok (.iload_n 3, 1) := by decide +kernel
theorem dX0_look_17 : decode cX0_look 17 = .ok (.iconst 0, 1) := by decide +kernel
theorem dX0_look_18 : decode cX0_look 18 = .ok (.invokevirtual 23, 3) := by decide +kernel
theorem dX0_look_21 : decode cX0_look 21 = .ok (.istore 4, 2) := by decide +kernel
theorem dX0_look_23 : decode cX0_look 23 = .ok (.aload_n 0, 1) := by decide +kernel
theorem dX0_look_24 : decode cX0_look 24 = .ok (.iconst 1, 1) := by decide +kernel
theorem dX0_look_25 : decode cX0_look 25 = .ok (.putfield 19, 3) := by decide +kernel
theorem dX0_look_28 : decode cX0_look 28 = .ok (.aload_n 0, 1) := by decide +kernel
theorem dX0_look_29 : decode cX0_look 29 = .ok (.getfield 19, 3) := by decide +kernel
theorem dX0_look_32 : decode cX0_look 32 = .ok (.aload_n 0, 1) := by decide +kernel
theorem dX0_look_33 : decode cX0_look 33 = .ok (.getfield 9, 3) := by decide +kernel
theorem dX0_look_36 : decode cX0_look 36 = .ok (.arraylength, 1) := by decide +kernel
theorem dX0_look_37 : decode cX0_look 37 = .ok (.if_icmp .ge 95, 3) := by decide +kernel
theorem dX0_look_40 : decode cX0_look 40 = .ok (.iload 4, 2) := by decide +kernel
theorem dX0_look_42 : decode cX0_look 42 = .ok (.iconst (-1), 1) := by decide +kernel
theorem dX0_look_43 : decode cX0_look 43 = .ok (.if_icmp .eq 89, 3) := by decide +kernel
theorem dX0_look_46 : decode cX0_look 46 = .ok (.aload_n 1, 1) := by decide +kernel
theorem dX0_look_47 : decode cX0_look 47 = .ok (.iload_n 2, 1) := by decide +kernel
theorem dX0_look_48 : decode cX0_look 48 = .ok (.iload 4, 2) := by decide +kernel
theorem dX0_look_50 : decode cX0_look 50 = .ok (.invokevirtual 29, 3) := by decide +kernel
theorem dX0_look_53 : decode cX0_look 53 = .ok (.istore 5, 2) := by decide +kernel
theorem dX0_look_55 : decode cX0_look 55 = .ok (.aload_n 0, 1) := by decide +kernel
theorem dX0_look_56 : decode cX0_look 56 = .ok (.getfield 9, 3) := by decide +kernel
theorem dX0_look_59 : decode cX0_look 59 = .ok (.aload_n 0, 1) := by decide +kernel
theorem dX0_look_60 : decode cX0_look 60 = .ok (.getfield 19, 3) := by decide +kernel
theorem dX0_look_63 : decode cX0_look 63 = .ok (.iload 4, 2) := by decide +kernel
theorem dX0_look_65 : decode cX0_look 65 = .ok (.iastore, 1) := by decide +kernel
theorem dX0_look_66 : decode cX0_look 66 = .ok (.aload_n 0, 1) := by decide +kernel
theorem dX0_look_67 : decode cX0_look 67 = .ok (.getfield 15, 3) := by decide +kernel
theorem dX0_look_70 : decode cX0_look 70 = .ok (.aload_n 0, 1) := by decide +kernel
theorem dX0_look_71 : decode cX0_look 71 = .ok (.getfield 19, 3) := by decide +kernel
theorem dX0_look_74 : decode cX0_look 74 = .ok (.aload_n 0, 1) := by decide +kernel
theorem dX0_look_75 : decode cX0_look 75 = .ok (.getfield 15, 3) := by decide +kernel
theorem dX0_look_78 : decode cX0_look 78 = .ok (.aload_n 0, 1) := by decide +kernel
theorem dX0_look_79 : decode cX0_look 79 = .ok (.getfield 19, 3) := by decide +kernel
theorem dX0_look_82 : decode cX0_look 82 = .ok (.iconst 1, 1) := by decide +kernel
theorem dX0_look_83 : decode cX0_look 83 = .ok (.isub, 1) := by decide +kernel
theorem dX0_look_84 : decode cX0_look 84 = .ok (.laload, 1) := by decide +kernel
theorem dX0_look_85 : decode cX0_look 85 = .ok (.iload 5, 2) := by decide +kernel
theorem dX0_look_87 : decode cX0_look 87 = .ok (.aload_n 1, 1) := by decide +kernel
theorem dX0_look_88 : decode cX0_look 88 = .ok (.iload_n 2, 1) := by decide +kernel
theorem dX0_look_89 : decode cX0_look 89 = .ok (.iload_n 3, 1) := by decide +kernel
theorem dX0_look_90 : decode cX0_look 90 = .ok (.iload 4, 2) := by decide +kernel
theorem dX0_look_92 : decode cX0_look 92 = .ok (.invokevirtual 33, 3) := by decide +kernel
theorem dX0_look_95 : decode cX0_look 95 = .ok (.isub, 1) := by decide +kernel
theorem dX0_look_96 : decode cX0_look 96 = .ok (.i2l, 1) := by decide +kernel
theorem dX0_look_97 : decode cX0_look 97 = .ok (.lmul, 1) := by decide +kernel
theorem dX0_look_98 : decode cX0_look 98 = .ok (.lastore, 1) := by decide +kernel
theorem dX0_look_99 : decode cX0_look 99 = .ok (.aload_n 0, 1) := by decide +kernel
theorem dX0_look_100 : decode cX0_look 100 = .ok (.aload_n 0, 1) := by decide +kernel
theorem dX0_look_101 : decode cX0_look 101 = .ok (.getfield 19, 3) := by decide +kernel
theorem dX0_look_104 : decode cX0_look 104 = .ok (.iload 5, 2) := by decide +kernel
theorem dX0_look_106 : decode cX0_look 106 = .ok (.invokevirtual 36, 3) := by decide +kernel
theorem dX0_look_109 : decode cX0_look 109 = .ok (.aload_n 1, 1) := by decide +kernel
theorem dX0_look_110 : decode cX0_look 110 = .ok (.iload_n 2, 1) := by decide +kernel
theorem dX0_look_111 : decode cX0_look 111 = .ok (.iload_n 3, 1) := by decide +kernel
theorem dX0_look_112 : decode cX0_look 112 = .ok (.iload 4, 2) := by decide +kernel
theorem dX0_look_114 : decode cX0_look 114 = .ok (.invokevirtual 23, 3) := by decide +kernel
theorem dX0_look_117 : decode cX0_look 117 = .ok (.istore 4, 2) := by decide +kernel
theorem dX0_look_119 : decode cX0_look 119 = .ok (.aload_n 0, 1) := by decide +kernel
theorem dX0_look_120 : decode cX0_look 120 = .ok (.dup, 1) := by decide +kernel
theorem dX0_look_121 : decode cX0_look 121 = .ok (.getfield 19, 3) := by decide +kernel
theorem dX0_look_124 : decode cX0_look 124 = .ok (.iconst 1, 1) := by decide +kernel
theorem dX0_look_125 : decode cX0_look 125 = .ok (.iadd, 1) := by decide +kernel
theorem dX0_look_126 : decode cX0_look 126 = .ok (.putfield 19, 3) := by decide +kernel
theorem dX0_look_129 : decode cX0_look 129 = .ok (.goto (-101), 3) := by decide +kernel
theorem dX0_look_132 : decode cX0_look 132 = .ok (.return_, 1) := by decide +kernel
theorem dX0_raiseAllBefore_0 : decode cX0_raiseAllBefore 0 = .ok (.iconst 0, 1) := by decide +kernel
theorem dX0_raiseAllBefore_1 : decode cX0_raiseAllBefore 1 = .ok (.istore_n 3, 1) := by decide +kernel
theorem dX0_raiseAllBefore_2 : decode cX0_raiseAllBefore 2 = .ok (.iload_n 3, 1) := by decide +kernel
theorem dX0_raiseAllBefore_3 : decode cX0_raiseAllBefore 3 = .ok (.iload_n 1, 1) := by decide +kernel
theorem dX0_raiseAllBefore_4 : decode cX0_raiseAllBefore 4 = .ok (.if_icmp .ge 20, 3) := by decide +kernel
theorem dX0_raiseAllBefore_7 : decode cX0_raiseAllBefore 7 = .ok (.aload_n 0, 1) := by decide +kernel
theorem dX0_raiseAllBefore_8 : decode cX0_raiseAllBefore 8 = .ok (.getfield 15, 3) := by decide +kernel
theorem dX0_raiseAllBefore_11 : decode cX0_raiseAllBefore 11 = .ok (.iload_n 3, 1) := by decide +kernel
theorem dX0_raiseAllBefore_12 : decode cX0_raiseAllBefore 12 = .ok (.dup2, 1) := by decide +kernel
theorem dX0_raiseAllBefore_13 : decode cX0_raiseAllBefore 13 = .ok (.laload, 1) := by decide +kernel
theorem dX0_raiseAllBefore_14 : decode cX0_raiseAllBefore 14 = .ok (.iload_n 2, 1) := by decide +kernel
theorem dX0_raiseAllBefore_15 : decode cX0_raiseAllBefore 15 = .ok (.i2l, 1) := by decide +kernel
theorem dX0_raiseAllBefore_16 : decode cX0_raiseAllBefore 16 = .ok (.lmul, 1) := by decide +kernel
theorem dX0_raiseAllBefore_17 : decode cX0_raiseAllBefore 17 = .ok (.lastore, 1) := by decide +kernel
theorem dX0_raiseAllBefore_18 : decode cX0_raiseAllBefore 18 = .ok (.iinc 3 1, 3) := by decide +kernel
theorem dX0_raiseAllBefore_21 : decode cX0_raiseAllBefore 21 = .ok (.goto (-19), 3) := by decide +kernel
theorem dX0_raiseAllBefore_24 : decode cX0_raiseAllBefore 24 = .ok (.return_, 1) := by decide +kernel
theorem dX0_whole_0 : decode cX0_whole 0 = .ok (.aload_n 0, 1) := by decide +kernel
theorem dX0_whole_1 : decode cX0_whole 1 = .ok (.getfield 15, 3) := by decide +kernel
theorem dX0_whole_4 : decode cX0_whole 4 = .ok (.iconst 0, 1) := by decide +kernel
theorem dX0_whole_5 : decode cX0_whole 5 = .ok (.laload, 1) := by decide +kernel
theorem dX0_whole_6 : decode cX0_whole 6 = .ok (.lreturn, 1) := by decide +kernel
theorem dX0_levelAt_0 : decode cX0_levelAt 0 = .ok (.iconst 0, 1) := by decide +kernel
theorem dX0_levelAt_1 : decode cX0_levelAt 1 = .ok (.istore_n 2, 1) := by decide +kernel
theorem dX0_levelAt_2 : decode cX0_levelAt 2 = .ok (.iconst 1, 1) := by decide +kernel
theorem dX0_levelAt_3 : decode cX0_levelAt 3 = .ok (.istore_n 3, 1) := by decide +kernel
theorem dX0_levelAt_4 : decode cX0_levelAt 4 = .ok (.iload_n 3, 1) := by decide +kernel
theorem dX0_levelAt_5 : decode cX0_levelAt 5 = .ok (.aload_n 0, 1) := by decide +kernel
theorem dX0_levelAt_6 : decode cX0_levelAt 6 = .ok (.getfield 19, 3) := by decide +kernel
theorem dX0_levelAt_9 : decode cX0_levelAt 9 = .ok (.if_icmp .ge 21, 3) := by decide +kernel
theorem dX0_levelAt_12 : decode cX0_levelAt 12 = .ok (.aload_n 0, 1) := by decide +kernel
theorem dX0_levelAt_13 : decode cX0_levelAt 13 = .ok (.getfield 9, 3) := by decide +kernel
theorem dX0_levelAt_16 : decode cX0_levelAt 16 = .ok (.iload_n 3, 1) := by decide +kernel
theorem dX0_levelAt_17 : decode cX0_levelAt 17 = .ok (.iaload, 1) := by decide +kernel
theorem dX0_levelAt_18 : decode cX0_levelAt 18 = .ok (.iload_n 1, 1) := by decide +kernel
theorem dX0_levelAt_19 : decode cX0_levelAt 19 = .ok (.if_icmp .gt 11, 3) := by decide +kernel
theorem dX0_levelAt_22 : decode cX0_levelAt 22 = .ok (.iload_n 3, 1) := by decide +kernel
theorem dX0_levelAt_23 : decode cX0_levelAt 23 = .ok (.istore_n 2, 1) := by decide +kernel
theorem dX0_levelAt_24 : decode cX0_levelAt 24 = .ok (.iinc 3 1, 3) := by decide +kernel
theorem dX0_levelAt_27 : decode cX0_levelAt 27 = .ok (.goto (-23), 3) := by decide +kernel
theorem dX0_levelAt_30 : decode cX0_levelAt 30 = .ok (.aload_n 0, 1) := by decide +kernel
theorem dX0_levelAt_31 : decode cX0_levelAt 31 = .ok (.getfield 15, 3) := by decide +kernel
theorem dX0_levelAt_34 : decode cX0_levelAt 34 = .ok (.iload_n 2, 1) := by decide +kernel
theorem dX0_levelAt_35 : decode cX0_levelAt 35 = .ok (.laload, 1) := by decide +kernel
theorem dX0_levelAt_36 : decode cX0_levelAt 36 = .ok (.lreturn, 1) := by decide +kernel
theorem dX0_firstAtMost_0 : decode cX0_firstAtMost 0 = .ok (.iconst 0, 1) := by decide +kernel
theorem dX0_firstAtMost_1 : decode cX0_firstAtMost 1 = .ok (.istore_n 3, 1) := by decide +kernel
theorem dX0_firstAtMost_2 : decode cX0_firstAtMost 2 = .ok (.iload_n 3, 1) := by decide +kernel
theorem dX0_firstAtMost_3 : decode cX0_firstAtMost 3 = .ok (.aload_n 0, 1) := by decide +kernel
theorem dX0_firstAtMost_4 : decode cX0_firstAtMost 4 = .ok (.getfield 19, 3) := by decide +kernel
theorem dX0_firstAtMost_7 : decode cX0_firstAtMost 7 = .ok (.if_icmp .ge 36, 3) := by decide +kernel
theorem dX0_firstAtMost_10 : decode cX0_firstAtMost 10 = .ok (.aload_n 0, 1) := by decide +kernel
theorem dX0_firstAtMost_11 : decode cX0_firstAtMost 11 = .ok (.getfield 15, 3) := by decide +kernel
theorem dX0_firstAtMost_14 : decode cX0_firstAtMost 14 = .ok (.iload_n 3, 1) := by decide +kernel
theorem dX0_firstAtMost_15 : decode cX0_firstAtMost 15 = .ok (.laload, 1) := by decide +kernel
theorem dX0_firstAtMost_16 : decode cX0_firstAtMost 16 = .ok (.iload_n 2, 1) := by decide +kernel
theorem dX0_firstAtMost_17 : decode cX0_firstAtMost 17 = .ok (.i2l, 1) := by decide +kernel
theorem dX0_firstAtMost_18 : decode cX0_firstAtMost 18 = .ok (.lmul, 1) := by decide +kernel
theorem dX0_firstAtMost_19 : decode cX0_firstAtMost 19 = .ok (.aload_n 0, 1) := by decide +kernel
theorem dX0_firstAtMost_20 : decode cX0_firstAtMost 20 = .ok (.invokevirtual 40, 3) := by decide +kernel
theorem dX0_firstAtMost_23 : decode cX0_firstAtMost 23 = .ok (.iload_n 1, 1) := by decide +kernel
theorem dX0_firstAtMost_24 : decode cX0_firstAtMost 24 = .ok (.i2l, 1) := by decide +kernel
theorem dX0_firstAtMost_25 : decode cX0_firstAtMost 25 = .ok (.lmul, 1) := by decide +kernel
theorem dX0_firstAtMost_26 : decode cX0_firstAtMost 26 = .ok (.lcmp, 1) := by decide +kernel
theorem dX0_firstAtMost_27 : decode cX0_firstAtMost 27 = .ok (.ifCond .gt 10, 3) := by decide +kernel
theorem dX0_firstAtMost_30 : decode cX0_firstAtMost 30 = .ok (.aload_n 0, 1) := by decide +kernel
theorem dX0_firstAtMost_31 : decode cX0_firstAtMost 31 = .ok (.getfield 9, 3) := by decide +kernel
theorem dX0_firstAtMost_34 : decode cX0_firstAtMost 34 = .ok (.iload_n 3, 1) := by decide +kernel
theorem dX0_firstAtMost_35 : decode cX0_firstAtMost 35 = .ok (.iaload, 1) := by decide +kernel
theorem dX0_firstAtMost_36 : decode cX0_firstAtMost 36 = .ok (.ireturn, 1) := by decide +kernel
theorem dX0_firstAtMost_37 : decode cX0_firstAtMost 37 = .ok (.iinc 3 1, 3) := by decide +kernel
theorem dX0_firstAtMost_40 : decode cX0_firstAtMost 40 = .ok (.goto (-38), 3) := by decide +kernel
theorem dX0_firstAtMost_43 : decode cX0_firstAtMost 43 = .ok (.iconst (-1), 1) := by decide +kernel
theorem dX0_firstAtMost_44 : decode cX0_firstAtMost 44 = .ok (.ireturn, 1) := by decide +kernel
theorem dX0_sumOf_0 : decode cX0_sumOf 0 = .ok (.lconst 0, 1) := by decide +kernel
theorem dX0_sumOf_1 : decode cX0_sumOf 1 = .ok (.lstore_n 3, 1) := by decide +kernel
theorem dX0_sumOf_2 : decode cX0_sumOf 2 = .ok (.iconst 0, 1) := by decide +kernel
theorem dX0_sumOf_3 : decode cX0_sumOf 3 = .ok (.istore 5, 2) := by decide +kernel
theorem dX0_sumOf_5 : decode cX0_sumOf 5 = .ok (.iload 5, 2) := by decide +kernel
theorem dX0_sumOf_7 : decode cX0_sumOf 7 = .ok (.aload_n 0, 1) := by decide +kernel
theorem dX0_sumOf_8 : decode cX0_sumOf 8 = .ok (.getfield 19, 3) := by decide +kernel
theorem dX0_sumOf_11 : decode cX0_sumOf 11 = .ok (.if_icmp .ge 73, 3) := by decide +kernel
theorem dX0_sumOf_14 : decode cX0_sumOf 14 = .ok (.iload 5, 2) := by decide +kernel
theorem dX0_sumOf_16 : decode cX0_sumOf 16 = .ok (.iconst 1, 1) := by decide +kernel
theorem dX0_sumOf_17 : decode cX0_sumOf 17 = .ok (.iadd, 1) := by decide +kernel
theorem dX0_sumOf_18 : decode cX0_sumOf 18 = .ok (.aload_n 0, 1) := by decide +kernel
theorem dX0_sumOf_19 : decode cX0_sumOf 19 = .ok (.getfield 19, 3) := by decide +kernel
theorem dX0_sumOf_22 : decode cX0_sumOf 22 = .ok (.if_icmp .ge 15, 3) := by decide +kernel
theorem dX0_sumOf_25 : decode cX0_sumOf 25 = .ok (.aload_n 0, 1) := by decide +kernel
theorem dX0_sumOf_26 : decode cX0_sumOf 26 = .ok (.getfield 9, 3) := by decide +kernel
theorem dX0_sumOf_29 : decode cX0_sumOf 29 = .ok (.iload 5, 2) := by decide +kernel
theorem dX0_sumOf_31 : decode cX0_sumOf 31 = .ok (.iconst 1, 1) := by decide +kernel
theorem dX0_sumOf_32 : decode cX0_sumOf 32 = .ok (.iadd, 1) := by decide +kernel
theorem dX0_sumOf_33 : decode cX0_sumOf 33 = .ok (.iaload, 1) := by decide +kernel
theorem dX0_sumOf_34 : decode cX0_sumOf 34 = .ok (.goto 4, 3) := by decide +kernel
theorem dX0_sumOf_37 : decode cX0_sumOf 37 = .ok (.iload_n 2, 1) := by decide +kernel
theorem dX0_sumOf_38 : decode cX0_sumOf 38 = .ok (.istore 6, 2) := by decide +kernel
theorem dX0_sumOf_40 : decode cX0_sumOf 40 = .ok (.iload 6, 2) := by decide +kernel
theorem dX0_sumOf_42 : decode cX0_sumOf 42 = .ok (.iload_n 2, 1) := by decide +kernel
theorem dX0_sumOf_43 : decode cX0_sumOf 43 = .ok (.invokestatic 44, 3) := by decide +kernel
theorem dX0_sumOf_46 : decode cX0_sumOf 46 = .ok (.aload_n 0, 1) := by decide +kernel
theorem dX0_sumOf_47 : decode cX0_sumOf 47 = .ok (.getfield 9, 3) := by decide +kernel
theorem dX0_sumOf_50 : decode cX0_sumOf 50 = .ok (.iload 5, 2) := by decide +kernel
theorem dX0_sumOf_52 : decode cX0_sumOf 52 = .ok (.iaload, 1) := by decide +kernel
theorem dX0_sumOf_53 : decode cX0_sumOf 53 = .ok (.iload_n 1, 1) := by decide +kernel
theorem dX0_sumOf_54 : decode cX0_sumOf 54 = .ok (.invokestatic 49, 3) := by decide +kernel
theorem dX0_sumOf_57 : decode cX0_sumOf 57 = .ok (.isub, 1) := by decide +kernel
theorem dX0_sumOf_58 : decode cX0_sumOf 58 = .ok (.istore 7, 2) := by decide +kernel
theorem dX0_sumOf_60 : decode cX0_sumOf 60 = .ok (.lload_n 3, 1) := by decide +kernel
theorem dX0_sumOf_61 : decode cX0_sumOf 61 = .ok (.aload_n 0, 1) := by decide +kernel
theorem dX0_sumOf_62 : decode cX0_sumOf 62 = .ok (.getfield 15, 3) := by decide +kernel
theorem dX0_sumOf_65 : decode cX0_sumOf 65 = .ok (.iload 5, 2) := by decide +kernel
theorem dX0_sumOf_67 : decode cX0_sumOf 67 = .ok (.laload, 1) := by decide +kernel
theorem dX0_sumOf_68 : decode cX0_sumOf 68 = .ok (.iconst 0, 1) := by decide +kernel
theorem dX0_sumOf_69 : decode cX0_sumOf 69 = .ok (.iload 7, 2) := by decide +kernel
theorem dX0_sumOf_71 : decode cX0_sumOf 71 = .ok (.invokestatic 49, 3) := by decide +kernel
theorem dX0_sumOf_74 : decode cX0_sumOf 74 = .ok (.i2l, 1) := by decide +kernel
theorem dX0_sumOf_75 : decode cX0_sumOf 75 = .ok (.lmul, 1) := by decide +kernel
theorem dX0_sumOf_76 : decode cX0_sumOf 76 = .ok (.ladd, 1) := by decide +kernel
theorem dX0_sumOf_77 : decode cX0_sumOf 77 = .ok (.lstore_n 3, 1) := by decide +kernel
theorem dX0_sumOf_78 : decode cX0_sumOf 78 = .ok (.iinc 5 1, 3) := by decide +kernel
theorem dX0_sumOf_81 : decode cX0_sumOf 81 = .ok (.goto (-76), 3) := by decide +kernel
theorem dX0_sumOf_84 : decode cX0_sumOf 84 = .ok (.lload_n 3, 1) := by decide +kernel
theorem dX0_sumOf_85 : decode cX0_sumOf 85 = .ok (.lreturn, 1) := by decide +kernel
theorem dX0_bestRunIn_0 : decode cX0_bestRunIn 0 = .ok (.iconst 0, 1) := by decide +kernel
theorem dX0_bestRunIn_1 : decode cX0_bestRunIn 1 = .ok (.istore_n 3, 1) := by decide +kernel
theorem dX0_bestRunIn_2 : decode cX0_bestRunIn 2 = .ok (.lconst 0, 1) := by decide +kernel
theorem dX0_bestRunIn_3 : decode cX0_bestRunIn 3 = .ok (.lstore 4, 2) := by decide +kernel
theorem dX0_bestRunIn_5 : decode cX0_bestRunIn 5 = .ok (.lconst 0, 1) := by decide +kernel
theorem dX0_bestRunIn_6 : decode cX0_bestRunIn 6 = .ok (.lstore 6, 2) := by decide +kernel
theorem dX0_bestRunIn_8 : decode cX0_bestRunIn 8 = .ok (.iconst 0, 1) := by decide +kernel
theorem dX0_bestRunIn_9 : decode cX0_bestRunIn 9 = .ok (.istore 8, 2) := by decide +kernel
theorem dX0_bestRunIn_11 : decode cX0_bestRunIn 11 = .ok (.iload 8, 2) := by decide +kernel
theorem dX0_bestRunIn_13 : decode cX0_bestRunIn 13 = .ok (.aload_n 0, 1) := by decide +kernel
theorem dX0_bestRunIn_14 : decode cX0_bestRunIn 14 = .ok (.getfield 19, 3) := by decide +kernel
theorem dX0_bestRunIn_17 : decode cX0_bestRunIn 17 = .ok (.if_icmp .ge 129, 3) := by decide +kernel
theorem dX0_bestRunIn_20 : decode cX0_bestRunIn 20 = .ok (.aload_n 0, 1) := by decide +kernel
theorem dX0_bestRunIn_21 : decode cX0_bestRunIn 21 = .ok (.getfield 9, 3) := by decide +kernel
theorem dX0_bestRunIn_24 : decode cX0_bestRunIn 24 = .ok (.iload 8, 2) := by decide +kernel
theorem dX0_bestRunIn_26 : decode cX0_bestRunIn 26 = .ok (.iaload, 1) := by decide +kernel
theorem dX0_bestRunIn_27 : decode cX0_bestRunIn 27 = .ok (.iload_n 1, 1) := by decide +kernel
theorem dX0_bestRunIn_28 : decode cX0_bestRunIn 28 = .ok (.if_icmp .ge 118, 3) := by decide +kernel
theorem dX0_bestRunIn_31 : decode cX0_bestRunIn 31 = .ok (.aload_n 0, 1) := by decide +kernel
theorem dX0_bestRunIn_32 : decode cX0_bestRunIn 32 = .ok (.getfield 15, 3) := by decide +kernel
theorem dX0_bestRunIn_35 : decode cX0_bestRunIn 35 = .ok (.iload 8, 2) := by decide +kernel
theorem dX0_bestRunIn_37 : decode cX0_bestRunIn 37 = .ok (.laload, 1) := by decide +kernel
theorem dX0_bestRunIn_38 : decode cX0_bestRunIn 38 = .ok (.lconst 0, 1) := by decide +kernel
theorem dX0_bestRunIn_39 : decode cX0_bestRunIn 39 = .ok (.lcmp, 1) := by decide +kernel
theorem dX0_bestRunIn_40 : decode cX0_bestRunIn 40 = .ok (.ifCond .le 106, 3) := by decide +kernel
theorem dX0_bestRunIn_43 : decode cX0_bestRunIn 43 = .ok (.aload_n 0, 1) := by decide +kernel
theorem dX0_bestRunIn_44 : decode cX0_bestRunIn 44 = .ok (.aload_n 0, 1) := by decide +kernel
theorem dX0_bestRunIn_45 : decode cX0_bestRunIn 45 = .ok (.getfield 9, 3) := by decide +kernel
theorem dX0_bestRunIn_48 : decode cX0_bestRunIn 48 = .ok (.iload 8, 2) := by decide +kernel
theorem dX0_bestRunIn_50 : decode cX0_bestRunIn 50 = .ok (.iaload, 1) := by decide +kernel
theorem dX0_bestRunIn_51 : decode cX0_bestRunIn 51 = .ok (.iload_n 1, 1) := by decide +kernel
theorem dX0_bestRunIn_52 : decode cX0_bestRunIn 52 = .ok (.invokevirtual 52, 3) := by decide +kernel
theorem dX0_bestRunIn_55 : decode cX0_bestRunIn 55 = .ok (.lstore 9, 2) := by decide +kernel
theorem dX0_bestRunIn_57 : decode cX0_bestRunIn 57 = .ok (.lload 9, 2) := by decide +kernel
theorem dX0_bestRunIn_59 : decode cX0_bestRunIn 59 = .ok (.aload_n 0, 1) := by decide +kernel
theorem dX0_bestRunIn_60 : decode cX0_bestRunIn 60 = .ok (.getfield 15, 3) := by decide +kernel
theorem dX0_bestRunIn_63 : decode cX0_bestRunIn 63 = .ok (.iload 8, 2) := by decide +kernel
theorem dX0_bestRunIn_65 : decode cX0_bestRunIn 65 = .ok (.laload, 1) := by decide +kernel
theorem dX0_bestRunIn_66 : decode cX0_bestRunIn 66 = .ok (.iconst 1, 1) := by decide +kernel
theorem dX0_bestRunIn_67 : decode cX0_bestRunIn 67 = .ok (.invokestatic 56, 3) := by decide +kernel
theorem dX0_bestRunIn_70 : decode cX0_bestRunIn 70 = .ok (.lstore 11, 2) := by decide +kernel
theorem dX0_bestRunIn_72 : decode cX0_bestRunIn 72 = .ok (.ldc2_w 60, 3) := by decide +kernel
theorem dX0_bestRunIn_75 : decode cX0_bestRunIn 75 = .ok (.lload 9, 2) := by decide +kernel
theorem dX0_bestRunIn_77 : decode cX0_bestRunIn 77 = .ok (.aload_n 0, 1) := by decide +kernel
theorem dX0_bestRunIn_78 : decode cX0_bestRunIn 78 = .ok (.getfield 15, 3) := by decide +kernel
theorem dX0_bestRunIn_81 : decode cX0_bestRunIn 81 = .ok (.iload 8, 2) := by decide +kernel
theorem dX0_bestRunIn_83 : decode cX0_bestRunIn 83 = .ok (.laload, 1) := by decide +kernel
theorem dX0_bestRunIn_84 : decode cX0_bestRunIn 84 = .ok (.iconst 0, 1) := by decide +kernel
theorem dX0_bestRunIn_85 : decode cX0_bestRunIn 85 = .ok (.invokestatic 56, 3) := by decide +kernel
theorem dX0_bestRunIn_88 : decode cX0_bestRunIn 88 = .ok (.lmul, 1) := by decide +kernel
theorem dX0_bestRunIn_89 : decode cX0_bestRunIn 89 = .ok (.aload_n 0, 1) := by decide +kernel
theorem dX0_bestRunIn_90 : decode cX0_bestRunIn 90 = .ok (.getfield 9, 3) := by decide +kernel
theorem dX0_bestRunIn_93 : decode cX0_bestRunIn 93 = .ok (.iload 8, 2) := by decide +kernel
theorem dX0_bestRunIn_95 : decode cX0_bestRunIn 95 = .ok (.iaload, 1) := by decide +kernel
theorem dX0_bestRunIn_96 : decode cX0_bestRunIn 96 = .ok (.iload_n 2, 1) := by decide +kernel
theorem dX0_bestRunIn_97 : decode cX0_bestRunIn 97 = .ok (.imul, 1) := by decide +kernel
theorem dX0_bestRunIn_98 : decode cX0_bestRunIn 98 = .ok (.i2l, 1) := by decide +kernel
theorem dX0_bestRunIn_99 : decode cX0_bestRunIn 99 = .ok (.lload 11, 2) := by decide +kernel
theorem dX0_bestRunIn_101 : decode cX0_bestRunIn 101 = .ok (.lmul, 1) := by decide +kernel
theorem dX0_bestRunIn_102 : decode cX0_bestRunIn 102 = .ok (.lsub, 1) := by decide +kernel
theorem dX0_bestRunIn_103 : decode cX0_bestRunIn 103 = .ok (.lstore 13, 2) := by decide +kernel
theorem dX0_bestRunIn_105 : decode cX0_bestRunIn 105 = .ok (.iload 8, 2) := by decide +kernel
theorem dX0_bestRunIn_107 : decode cX0_bestRunIn 107 = .ok (.ifCond .eq 17, 3) := by decide +kernel
theorem dX0_bestRunIn_110 : decode cX0_bestRunIn 110 = .ok (.lload 13, 2) := by decide +kernel
theorem dX0_bestRunIn_112 : decode cX0_bestRunIn 112 = .ok (.lload 6, 2) := by decide +kernel
theorem dX0_bestRunIn_114 : decode cX0_bestRunIn 114 = .ok (.lmul, 1) := by decide +kernel
theorem dX0_bestRunIn_115 : decode cX0_bestRunIn 115 = .ok (.lload 4, 2) := by decide +kernel
theorem dX0_bestRunIn_117 : decode cX0_bestRunIn 117 = .ok (.lload 11, 2) := by decide +kernel
theorem dX0_bestRunIn_119 : decode cX0_bestRunIn 119 = .ok (.lmul, 1) := by decide +kernel
theorem dX0_bestRunIn_120 : decode cX0_bestRunIn 120 = .ok (.lcmp, 1) := by decide +kernel
theorem dX0_bestRunIn_121 : decode cX0_bestRunIn 121 = .ok (.ifCond .le 19, 3) := by decide +kernel
theorem dX0_bestRunIn_124 : decode cX0_bestRunIn 124 = .ok (.aload_n 0, 1) := by decide +kernel
theorem dX0_bestRunIn_125 : decode cX0_bestRunIn 125 = .ok (.getfield 9, 3) := by decide +kernel
theorem dX0_bestRunIn_128 : decode cX0_bestRunIn 128 = .ok (.iload 8, 2) := by decide +kernel
theorem dX0_bestRunIn_130 : decode cX0_bestRunIn 130 = .ok (.iaload, 1) := by decide +kernel
theorem dX0_bestRunIn_131 : decode cX0_bestRunIn 131 = .ok (.istore_n 3, 1) := by decide +kernel
theorem dX0_bestRunIn_132 : decode cX0_bestRunIn 132 = .ok (.lload 13, 2) := by decide +kernel
theorem dX0_bestRunIn_134 : decode cX0_bestRunIn 134 = .ok (.lstore 4, 2) := by decide +kernel
theorem dX0_bestRunIn_136 : decode cX0_bestRunIn 136 = .ok (.lload 11, 2) := by decide +kernel
theorem dX0_bestRunIn_138 : decode cX0_bestRunIn 138 = .ok (.lstore 6, 2) := by decide +kernel
theorem dX0_bestRunIn_140 : decode cX0_bestRunIn 140 = .ok (.iinc 8 1, 3) := by decide +kernel
theorem dX0_bestRunIn_143 : decode cX0_bestRunIn 143 = .ok (.goto (-132), 3) := by decide +kernel
theorem dX0_bestRunIn_146 : decode cX0_bestRunIn 146 = .ok (.iload_n 3, 1) := by decide +kernel
theorem dX0_bestRunIn_147 : decode cX0_bestRunIn 147 = .ok (.ireturn, 1) := by decide +kernel
theorem dX1_init_0 : decode cX1_init 0 = .ok (.aload_n 0, 1) := by decide +kernel
theorem dX1_init_1 : decode cX1_init 1 = .ok (.invokespecial 3, 3) := by decide +kernel
theorem dX1_init_4 : decode cX1_init 4 = .ok (.aload_n 0, 1) := by decide +kernel
theorem dX1_init_5 : decode cX1_init 5 = .ok (.bipush 10, 2) := by decide +kernel
theorem dX1_init_7 : decode cX1_init 7 = .ok (.newarray .int, 2) := by decide +kernel
theorem dX1_init_9 : decode cX1_init 9 = .ok (.putfield 9, 3) := by decide +kernel
theorem dX1_init_12 : decode cX1_init 12 = .ok (.aload_n 0, 1) := by decide +kernel
theorem dX1_init_13 : decode cX1_init 13 = .ok (.bipush 10, 2) := by decide +kernel
theorem dX1_init_15 : decode cX1_init 15 = .ok (.newarray .int, 2) := by decide +kernel
theorem dX1_init_17 : decode cX1_init 17 = .ok (.putfield 15, 3) := by decide +kernel
theorem dX1_init_20 : decode cX1_init 20 = .ok (.aload_n 0, 1) := by decide +kernel
theorem dX1_init_21 : decode cX1_init 21 = .ok (.iconst 0, 1) := by decide +kernel
theorem dX1_init_22 : decode cX1_init 22 = .ok (.putfield 18, 3) := by decide +kernel
theorem dX1_init_25 : decode cX1_init 25 = .ok (.return_, 1) := by decide +kernel
theorem dX2_init_0 : decode cX2_init 0 = .ok (.aload_n 0, 1) := by decide +kernel
theorem dX2_init_1 : decode cX2_init 1 = .ok (.invokespecial 3, 3) := by decide +kernel
theorem dX2_init_4 : decode cX2_init 4 = .ok (.aload_n 0, 1) := by decide +kernel
theorem dX2_init_5 : decode cX2_init 5 = .ok (.bipush 12, 2) := by decide +kernel
theorem dX2_init_7 : decode cX2_init 7 = .ok (.newarray .int, 2) := by decide +kernel
theorem dX2_init_9 : decode cX2_init 9 = .ok (.putfield 9, 3) := by decide +kernel
theorem dX2_init_12 : decode cX2_init 12 = .ok (.aload_n 0, 1) := by decide +kernel
theorem dX2_init_13 : decode cX2_init 13 = .ok (.bipush 12, 2) := by decide +kernel
theorem dX2_init_15 : decode cX2_init 15 = .ok (.newarray .int, 2) := by decide +kernel
theorem dX2_init_17 : decode cX2_init 17 = .ok (.putfield 15, 3) := by decide +kernel
theorem dX2_init_20 : decode cX2_init 20 = .ok (.aload_n 0, 1) := by decide +kernel
theorem dX2_init_21 : decode cX2_init 21 = .ok (.bipush 12, 2) := by decide +kernel
theorem dX2_init_23 : decode cX2_init 23 = .ok (.newarray .int, 2) := by decide +kernel
theorem dX2_init_25 : decode cX2_init 25 = .ok (.putfield 18, 3) := by decide +kernel
theorem dX2_init_28 : decode cX2_init 28 = .ok (.aload_n 0, 1) := by decide +kernel
theorem dX2_init_29 : decode cX2_init 29 = .ok (.iconst 0, 1) := by decide +kernel
theorem dX2_init_30 : decode cX2_init 30 = .ok (.putfield 21, 3) := by decide +kernel
theorem dX2_init_33 : decode cX2_init 33 = .ok (.return_, 1) := by decide +kernel
theorem dX2_has_0 : decode cX2_has 0 = .ok (.iload_n 1, 1) := by decide +kernel
theorem dX2_has_1 : decode cX2_has 1 = .ok (.iconst 0, 1) := by decide +kernel
theorem dX2_has_2 : decode cX2_has 2 = .ok (.aload_n 0, 1) := by decide +kernel
theorem dX2_has_3 : decode cX2_has 3 = .ok (.getfield 21, 3) := by decide +kernel
theorem dX2_has_6 : decode cX2_has 6 = .ok (.iconst 1, 1) := by decide +kernel
theorem dX2_has_7 : decode cX2_has 7 = .ok (.isub, 1) := by decide +kernel
theorem dX2_has_8 : decode cX2_has 8 = .ok (.invokestatic 25, 3) := by decide +kernel
theorem dX2_has_11 : decode cX2_has 11 = .ok (.ireturn, 1) := by decide +kernel
theorem dX2_put_0 : decode cX2_put 0 = .ok (.aload_n 0, 1) := by decide +kernel
theorem dX2_put_1 : decode cX2_put 1 = .ok (.iload_n 1, 1) := by decide +kernel
theorem dX2_put_2 : decode cX2_put 2 = .ok (.invokevirtual 29, 3) := by decide +kernel
theorem dX2_put_5 : decode cX2_put 5 = .ok (.ifCond .eq 25, 3) := by decide +kernel
theorem dX2_put_8 : decode cX2_put 8 = .ok (.aload_n 0, 1) := by decide +kernel
theorem dX2_put_9 : decode cX2_put 9 = .ok (.getfield 9, 3) := by decide +kernel
theorem dX2_put_12 : decode cX2_put 12 = .ok (.iload_n 1, 1) := by decide +kernel
theorem dX2_put_13 : decode cX2_put 13 = .ok (.iload_n 2, 1) := by decide +kernel
theorem dX2_put_14 : decode cX2_put 14 = .ok (.iastore, 1) := by decide +kernel
theorem dX2_put_15 : decode cX2_put 15 = .ok (.aload_n 0, 1) := by decide +kernel
theorem dX2_put_16 : decode cX2_put 16 = .ok (.getfield 15, 3) := by decide +kernel
theorem dX2_put_19 : decode cX2_put 19 = .ok (.iload_n 1, 1) := by decide +kernel
theorem dX2_put_20 : decode cX2_put 20 = .ok (.iload_n 3, 1) := by decide +kernel
theorem dX2_put_21 : decode cX2_put 21 = .ok (.iastore, 1) := by decide +kernel
theorem dX2_put_22 : decode cX2_put 22 = .ok (.aload_n 0, 1) := by decide +kernel
theorem dX2_put_23 : decode cX2_put 23 = .ok (.getfield 18, 3) := by decide +kernel
theorem dX2_put_26 : decode cX2_put 26 = .ok (.iload_n 1, 1) := by decide +kernel
theorem dX2_put_27 : decode cX2_put 27 = .ok (.iload 4, 2) := by decide +kernel
theorem dX2_put_29 : decode cX2_put 29 = .ok (.iastore, 1) := by decide +kernel
theorem dX2_put_30 : decode cX2_put 30 = .ok (.return_, 1) := by decide +kernel
theorem dX2_isIn_0 : decode cX2_isIn 0 = .ok (.iload_n 2, 1) := by decide +kernel
theorem dX2_isIn_1 : decode cX2_isIn 1 = .ok (.aload_n 0, 1) := by decide +kernel
theorem dX2_isIn_2 : decode cX2_isIn 2 = .ok (.getfield 9, 3) := by decide +kernel
theorem dX2_isIn_5 : decode cX2_isIn 5 = .ok (.iload_n 1, 1) := by decide +kernel
theorem dX2_isIn_6 : decode cX2_isIn 6 = .ok (.iaload, 1) := by decide +kernel
theorem dX2_isIn_7 : decode cX2_isIn 7 = .ok (.ishr, 1) := by decide +kernel
theorem dX2_isIn_8 : decode cX2_isIn 8 = .ok (.iconst 1, 1) := by decide +kernel
theorem dX2_isIn_9 : decode cX2_isIn 9 = .ok (.iand, 1) := by decide +kernel
theorem dX2_isIn_10 : decode cX2_isIn 10 = .ok (.iconst 1, 1) := by decide +kernel
theorem dX2_isIn_11 : decode cX2_isIn 11 = .ok (.if_icmp .ne 7, 3) := by decide +kernel
theorem dX2_isIn_14 : decode cX2_isIn 14 = .ok (.iconst 1, 1) := by decide +kernel
theorem dX2_isIn_15 : decode cX2_isIn 15 = .ok (.goto 4, 3) := by decide +kernel
theorem dX2_isIn_18 : decode cX2_isIn 18 = .ok (.iconst 0, 1) := by decide +kernel
theorem dX2_isIn_19 : decode cX2_isIn 19 = .ok (.ireturn, 1) := by decide +kernel
theorem dX2_atRisk_0 : decode cX2_atRisk 0 = .ok (.iconst 0, 1) := by decide +kernel
theorem dX2_atRisk_1 : decode cX2_atRisk 1 = .ok (.istore_n 3, 1) := by decide +kernel
theorem dX2_atRisk_2 : decode cX2_atRisk 2 = .ok (.iconst 0, 1) := by decide +kernel
theorem dX2_atRisk_3 : decode cX2_atRisk 3 = .ok (.istore 4, 2) := by decide +kernel
theorem dX2_atRisk_5 : decode cX2_atRisk 5 = .ok (.iload 4, 2) := by decide +kernel
theorem dX2_atRisk_7 : decode cX2_atRisk 7 = .ok (.aload_n 0, 1) := by decide +kernel
theorem dX2_atRisk_8 : decode cX2_atRisk 8 = .ok (.getfield 21, 3) := by decide +kernel
theorem dX2_atRisk_11 : decode cX2_atRisk 11 = .ok (.if_icmp .ge 33, 3) := by decide +kernel
theorem dX2_atRisk_14 : decode cX2_atRisk 14 = .ok (.aload_n 0, 1) := by decide +kernel
theorem dX2_atRisk_15 : decode cX2_atRisk 15 = .ok (.iload 4, 2) := by decide +kernel
theorem dX2_atRisk_17 : decode cX2_atRisk 17 = .ok (.iload_n 1, 1) := by decide +kernel
theorem dX2_atRisk_18 : decode cX2_atRisk 18 = .ok (.invokevirtual 33, 3) := by decide +kernel
theorem dX2_atRisk_21 : decode cX2_atRisk 21 = .ok (.ifCond .eq 17, 3) := by decide +kernel
theorem dX2_atRisk_24 : decode cX2_atRisk 24 = .ok (.aload_n 0, 1) := by decide +kernel
theorem dX2_atRisk_25 : decode cX2_atRisk 25 = .ok (.getfield 15, 3) := by decide +kernel
theorem dX2_atRisk_28 : decode cX2_atRisk 28 = .ok (.iload 4, 2) := by decide +kernel
theorem dX2_atRisk_30 : decode cX2_atRisk 30 = .ok (.iaload, 1) := by decide +kernel
theorem dX2_atRisk_31 : decode cX2_atRisk 31 = .ok (.iload_n 2, 1) := by decide +kernel
theorem dX2_atRisk_32 : decode cX2_atRisk 32 = .ok (.if_icmp .lt 6, 3) := by decide +kernel
theorem dX2_atRisk_35 : decode cX2_atRisk 35 = .ok (.iinc 3 1, 3) := by decide +kernel
theorem dX2_atRisk_38 : decode cX2_atRisk 38 = .ok (.iinc 4 1, 3) := by decide +kernel
theorem dX2_atRisk_41 : decode cX2_atRisk 41 = .ok (.goto (-36), 3) := by decide +kernel
theorem dX2_atRisk_44 : decode cX2_atRisk 44 = .ok (.iload_n 3, 1) := by decide +kernel
theorem dX2_atRisk_45 : decode cX2_atRisk 45 = .ok (.ireturn, 1) := by decide +kernel
theorem dX2_hasFailed_0 : decode cX2_hasFailed 0 = .ok (.aload_n 0, 1) := by decide +kernel
theorem dX2_hasFailed_1 : decode cX2_hasFailed 1 = .ok (.iload_n 1, 1) := by decide +kernel
theorem dX2_hasFailed_2 : decode cX2_hasFailed 2 = .ok (.iload_n 2, 1) := by decide +kernel
theorem dX2_hasFailed_3 : decode cX2_hasFailed 3 = .ok (.invokevirtual 33, 3) := by decide +kernel
theorem dX2_hasFailed_6 : decode cX2_hasFailed 6 = .ok (.ifCond .eq 32, 3) := by decide +kernel
theorem dX2_hasFailed_9 : decode cX2_hasFailed 9 = .ok (.aload_n 0, 1) := by decide +kernel
theorem dX2_hasFailed_10 : decode cX2_hasFailed 10 = .ok (.getfield 18, 3) := by decide +kernel
theorem dX2_hasFailed_13 : decode cX2_hasFailed 13 = .ok (.iload_n 1, 1) := by decide +kernel
theorem dX2_hasFailed_14 : decode cX2_hasFailed 14 = .ok (.iaload, 1) := by decide +kernel
theorem dX2_hasFailed_15 : decode cX2_hasFailed 15 = .ok (.iconst (-1), 1) := by decide +kernel
theorem dX2_hasFailed_16 : decode cX2_hasFailed 16 = .ok (.if_icmp .eq 22, 3) := by decide +kernel
theorem dX2_hasFailed_19 : decode cX2_hasFailed 19 = .ok (.iload_n 3, 1) := by decide +kernel
theorem dX2_hasFailed_20 : decode cX2_hasFailed 20 = .ok (.iconst (-1), 1) := by decide +kernel
theorem dX2_hasFailed_21 : decode cX2_hasFailed 21 = .ok (.if_icmp .eq 13, 3) := by decide +kernel
theorem dX2_hasFailed_24 : decode cX2_hasFailed 24 = .ok (.aload_n 0, 1) := by decide +kernel
theorem dX2_hasFailed_25 : decode cX2_hasFailed 25 = .ok (.getfield 18, 3) := by decide +kernel
theorem dX2_hasFailed_28 : decode cX2_hasFailed 28 = .ok (.iload_n 1, 1) := by decide +kernel
theorem dX2_hasFailed_29 : decode cX2_hasFailed 29 = .ok (.iaload, 1) := by decide +kernel
theorem dX2_hasFailed_30 : decode cX2_hasFailed 30 = .ok (.iload_n 3, 1) := by decide +kernel
theorem dX2_hasFailed_31 : decode cX2_hasFailed 31 = .ok (.if_icmp .ne 7, 3) := by decide +kernel
theorem dX2_hasFailed_34 : decode cX2_hasFailed 34 = .ok (.iconst 1, 1) := by decide +kernel
theorem dX2_hasFailed_35 : decode cX2_hasFailed 35 = .ok (.goto 4, 3) := by decide +kernel
theorem dX2_hasFailed_38 : decode cX2_hasFailed 38 = .ok (.iconst 0, 1) := by decide +kernel
theorem dX2_hasFailed_39 : decode cX2_hasFailed 39 = .ok (.ireturn, 1) := by decide +kernel
theorem dX2_failedAt_0 : decode cX2_failedAt 0 = .ok (.iconst 0, 1) := by decide +kernel
theorem dX2_failedAt_1 : decode cX2_failedAt 1 = .ok (.istore 4, 2) := by decide +kernel
theorem dX2_failedAt_3 : decode cX2_failedAt 3 = .ok (.iconst 0, 1) := by decide +kernel
theorem dX2_failedAt_4 : decode cX2_failedAt 4 = .ok (.istore 5, 2) := by decide +kernel
theorem dX2_failedAt_6 : decode cX2_failedAt 6 = .ok (.iload 5, 2) := by decide +kernel
theorem dX2_failedAt_8 : decode cX2_failedAt 8 = .ok (.aload_n 0, 1) := by decide +kernel
theorem dX2_failedAt_9 : decode cX2_failedAt 9 = .ok (.getfield 21, 3) := by decide +kernel
theorem dX2_failedAt_12 : decode cX2_failedAt 12 = .ok (.if_icmp .ge 34, 3) := by decide +kernel
theorem dX2_failedAt_15 : decode cX2_failedAt 15 = .ok (.aload_n 0, 1) := by decide +kernel
theorem dX2_failedAt_16 : decode cX2_failedAt 16 = .ok (.iload 5, 2) := by decide +kernel
theorem dX2_failedAt_18 : decode cX2_failedAt 18 = .ok (.iload_n 1, 1) := by decide +kernel
theorem dX2_failedAt_19 : decode cX2_failedAt 19 = .ok (.iload_n 2, 1) := by decide +kernel
theorem dX2_failedAt_20 : decode cX2_failedAt 20 = .ok (.invokevirtual 37, 3) := by decide +kernel
theorem dX2_failedAt_23 : decode cX2_failedAt 23 = .ok (.ifCond .eq 17, 3) := by decide +kernel
theorem dX2_failedAt_26 : decode cX2_failedAt 26 = .ok (.aload_n 0, 1) := by decide +kernel
theorem dX2_failedAt_27 : decode cX2_failedAt 27 = .ok (.getfield 15, 3) := by decide +kernel
theorem dX2_failedAt_30 : decode cX2_failedAt 30 = .ok (.iload 5, 2) := by decide +kernel
theorem dX2_failedAt_32 : decode cX2_failedAt 32 = .ok (.iaload, 1) := by decide +kernel
theorem dX2_failedAt_33 : decode cX2_failedAt 33 = .ok (.iload_n 3, 1) := by decide +kernel
theorem dX2_failedAt_34 : decode cX2_failedAt 34 = .ok (.if_icmp .ne 6, 3) := by decide +kernel
theorem dX2_failedAt_37 : decode cX2_failedAt 37 = .ok (.iinc 4 1, 3) := by decide +kernel
theorem dX2_failedAt_40 : decode cX2_failedAt 40 = .ok (.iinc 5 1, 3) := by decide +kernel
theorem dX2_failedAt_43 : decode cX2_failedAt 43 = .ok (.goto (-37), 3) := by decide +kernel
theorem dX2_failedAt_46 : decode cX2_failedAt 46 = .ok (.iload 4, 2) := by decide +kernel
theorem dX2_failedAt_48 : decode cX2_failedAt 48 = .ok (.ireturn, 1) := by decide +kernel
theorem dX2_nextFailure_0 : decode cX2_nextFailure 0 = .ok (.iconst (-1), 1) := by decide +kernel
theorem dX2_nextFailure_1 : decode cX2_nextFailure 1 = .ok (.istore 4, 2) := by decide +kernel
theorem dX2_nextFailure_3 : decode cX2_nextFailure 3 = .ok (.iconst 0, 1) := by decide +kernel
theorem dX2_nextFailure_4 : decode cX2_nextFailure 4 = .ok (.istore 5, 2) := by decide +kernel
theorem dX2_nextFailure_6 : decode cX2_nextFailure 6 = .ok (.iload 5, 2) := by decide +kernel
theorem dX2_nextFailure_8 : decode cX2_nextFailure 8 = .ok (.aload_n 0, 1) := by decide +kernel
theorem dX2_nextFailure_9 : decode cX2_nextFailure 9 = .ok (.getfield 21, 3) := by decide +kernel
theorem dX2_nextFailure_12 : decode cX2_nextFailure 12 = .ok (.if_icmp .ge 58, 3) := by decide +kernel
theorem dX2_nextFailure_15 : decode cX2_nextFailure 15 = .ok (.aload_n 0, 1) := by decide +kernel
theorem dX2_nextFailure_16 : decode cX2_nextFailure 16 = .ok (.iload 5, 2) := by decide +kernel
theorem dX2_nextFailure_18 : decode cX2_nextFailure 18 = .ok (.iload_n 1, 1) := by decide +kernel
theorem dX2_nextFailure_19 : decode cX2_nextFailure 19 = .ok (.iload_n 2, 1) := by decide +kernel
theorem dX2_nextFailure_20 : decode cX2_nextFailure 20 = .ok (.invokevirtual 37, 3) := by decide +kernel
theorem dX2_nextFailure_23 : decode cX2_nextFailure 23 = .ok (.ifCond .eq 41, 3) := by decide +kernel
theorem dX2_nextFailure_26 : decode cX2_nextFailure 26 = .ok (.aload_n 0, 1) := by decide +kernel
theorem dX2_nextFailure_27 : decode cX2_nextFailure 27 = .ok (.getfield 15, 3) := by decide +kernel
theorem dX2_nextFailure_30 : decode cX2_nextFailure 30 = .ok (.iload 5, 2) := by decide +kernel
theorem dX2_nextFailure_32 : decode cX2_nextFailure 32 = .ok (.iaload, 1) := by decide +kernel
theorem dX2_nextFailure_33 : decode cX2_nextFailure 33 = .ok (.iload_n 3, 1) := by decide +kernel
theorem dX2_nextFailure_34 : decode cX2_nextFailure 34 = .ok (.if_icmp .le 30, 3) := by decide +kernel
theorem dX2_nextFailure_37 : decode cX2_nextFailure 37 = .ok (.iload 4, 2) := by decide +kernel
theorem dX2_nextFailure_39 : decode cX2_nextFailure 39 = .ok (.iconst (-1), 1) := by decide +kernel
theorem dX2_nextFailure_40 : decode cX2_nextFailure 40 = .ok (.if_icmp .eq 15, 3) := by decide +kernel
theorem dX2_nextFailure_43 : decode cX2_nextFailure 43 = .ok (.aload_n 0, 1) := by decide +kernel
theorem dX2_nextFailure_44 : decode cX2_nextFailure 44 = .ok (.getfield 15, 3) := by decide +kernel
theorem dX2_nextFailure_47 : decode cX2_nextFailure 47 = .ok (.iload 5, 2) := by decide +kernel
theorem dX2_nextFailure_49 : decode cX2_nextFailure 49 = .ok (.iaload, 1) := by decide +kernel
theorem dX2_nextFailure_50 : decode cX2_nextFailure 50 = .ok (.iload 4, 2) := by decide +kernel
theorem dX2_nextFailure_52 : decode cX2_nextFailure 52 = .ok (.if_icmp .ge 12, 3) := by decide +kernel
theorem dX2_nextFailure_55 : decode cX2_nextFailure 55 = .ok (.aload_n 0, 1) := by decide +kernel
theorem dX2_nextFailure_56 : decode cX2_nextFailure 56 = .ok (.getfield 15, 3) := by decide +kernel
theorem dX2_nextFailure_59 : decode cX2_nextFailure 59 = .ok (.iload 5, 2) := by decide +kernel
theorem dX2_nextFailure_61 : decode cX2_nextFailure 61 = .ok (.iaload, 1) := by decide +kernel
theorem dX2_nextFailure_62 : decode cX2_nextFailure 62 = .ok (.istore 4, 2) := by decide +kernel
theorem dX2_nextFailure_64 : decode cX2_nextFailure 64 = .ok (.iinc 5 1, 3) := by decide +kernel
theorem dX2_nextFailure_67 : decode cX2_nextFailure 67 = .ok (.goto (-61), 3) := by decide +kernel
theorem dX2_nextFailure_70 : decode cX2_nextFailure 70 = .ok (.iload 4, 2) := by decide +kernel
theorem dX2_nextFailure_72 : decode cX2_nextFailure 72 = .ok (.ireturn, 1) := by decide +kernel
theorem dX3_init_0 : decode cX3_init 0 = .ok (.aload_n 0, 1) := by decide +kernel
theorem dX3_init_1 : decode cX3_init 1 = .ok (.invokespecial 1, 3) := by decide +kernel
theorem dX3_init_4 : decode cX3_init 4 = .ok (.aload_n 0, 1) := by decide +kernel
theorem dX3_init_5 : decode cX3_init 5 = .ok (.new 7, 3) := by decide +kernel
theorem dX3_init_8 : decode cX3_init 8 = .ok (.dup, 1) := by decide +kernel
theorem dX3_init_9 : decode cX3_init 9 = .ok (.invokespecial 9, 3) := by decide +kernel
theorem dX3_init_12 : decode cX3_init 12 = .ok (.putfield 10, 3) := by decide +kernel
theorem dX3_init_15 : decode cX3_init 15 = .ok (.aload_n 0, 1) := by decide +kernel
theorem dX3_init_16 : decode cX3_init 16 = .ok (.new 16, 3) := by decide +kernel
theorem dX3_init_19 : decode cX3_init 19 = .ok (.dup, 1) := by decide +kernel
theorem dX3_init_20 : decode cX3_init 20 = .ok (.invokespecial 18, 3) := by decide +kernel
theorem dX3_init_23 : decode cX3_init 23 = .ok (.putfield 19, 3) := by decide +kernel
theorem dX3_init_26 : decode cX3_init 26 = .ok (.aload_n 0, 1) := by decide +kernel
theorem dX3_init_27 : decode cX3_init 27 = .ok (.new 23, 3) := by decide +kernel
theorem dX3_init_30 : decode cX3_init 30 = .ok (.dup, 1) := by decide +kernel
theorem dX3_init_31 : decode cX3_init 31 = .ok (.invokespecial 25, 3) := by decide +kernel
theorem dX3_init_34 : decode cX3_init 34 = .ok (.putfield 26, 3) := by decide +kernel
theorem dX3_init_37 : decode cX3_init 37 = .ok (.aload_n 0, 1) := by decide +kernel
theorem dX3_init_38 : decode cX3_init 38 = .ok (.iconst 4, 1) := by decide +kernel
theorem dX3_init_39 : decode cX3_init 39 = .ok (.newarray .int, 2) := by decide +kernel
theorem dX3_init_41 : decode cX3_init 41 = .ok (.dup, 1) := by decide +kernel
theorem dX3_init_42 : decode cX3_init 42 = .ok (.iconst 0, 1) := by decide +kernel
theorem dX3_init_43 : decode cX3_init 43 = .ok (.bipush 10, 2) := by decide +kernel
theorem dX3_init_45 : decode cX3_init 45 = .ok (.iastore, 1) := by decide +kernel
theorem dX3_init_46 : decode cX3_init 46 = .ok (.dup, 1) := by decide +kernel
theorem dX3_init_47 : decode cX3_init 47 = .ok (.iconst 1, 1) := by decide +kernel
theorem dX3_init_48 : decode cX3_init 48 = .ok (.bipush 20, 2) := by decide +kernel
theorem dX3_init_50 : decode cX3_init 50 = .ok (.iastore, 1) := by decide +kernel
theorem dX3_init_51 : decode cX3_init 51 = .ok (.dup, 1) := by decide +kernel
theorem dX3_init_52 : decode cX3_init 52 = .ok (.iconst 2, 1) := by decide +kernel
theorem dX3_init_53 : decode cX3_init 53 = .ok (.bipush 40, 2) := by decide +kernel
theorem dX3_init_55 : decode cX3_init 55 = .ok (.iastore, 1) := by decide +kernel
theorem dX3_init_56 : decode cX3_init 56 = .ok (.dup, 1) := by decide +kernel
theorem dX3_init_57 : decode cX3_init 57 = .ok (.iconst 3, 1) := by decide +kernel
theorem dX3_init_58 : decode cX3_init 58 = .ok (.bipush 80, 2) := by decide +kernel
theorem dX3_init_60 : decode cX3_init 60 = .ok (.iastore, 1) := by decide +kernel
theorem dX3_init_61 : decode cX3_init 61 = .ok (.putfield 30, 3) := by decide +kernel
theorem dX3_init_64 : decode cX3_init 64 = .ok (.aload_n 0, 1) := by decide +kernel
theorem dX3_init_65 : decode cX3_init 65 = .ok (.iconst 4, 1) := by decide +kernel
theorem dX3_init_66 : decode cX3_init 66 = .ok (.newarray .int, 2) := by decide +kernel
theorem dX3_init_68 : decode cX3_init 68 = .ok (.putfield 34, 3) := by decide +kernel
theorem dX3_init_71 : decode cX3_init 71 = .ok (.aload_n 0, 1) := by decide +kernel
theorem dX3_init_72 : decode cX3_init 72 = .ok (.bipush 10, 2) := by decide +kernel
theorem dX3_init_74 : decode cX3_init 74 = .ok (.putfield 37, 3) := by decide +kernel
theorem dX3_init_77 : decode cX3_init 77 = .ok (.aload_n 0, 1) := by decide +kernel
theorem dX3_init_78 : decode cX3_init 78 = .ok (.iconst 1, 1) := by decide +kernel
theorem dX3_init_79 : decode cX3_init 79 = .ok (.putfield 41, 3) := by decide +kernel
theorem dX3_init_82 : decode cX3_init 82 = .ok (.return_, 1) := by decide +kernel
theorem dX3_unit_0 : decode cX3_unit 0 = .ok (.iload_n 1, 1) := by decide +kernel
theorem dX3_unit_1 : decode cX3_unit 1 = .ok (.iload_n 2, 1) := by decide +kernel
theorem dX3_unit_2 : decode cX3_unit 2 = .ok (.iload_n 3, 1) := by decide +kernel
theorem dX3_unit_3 : decode cX3_unit 3 = .ok (.invokestatic 44, 3) := by decide +kernel
theorem dX3_unit_6 : decode cX3_unit 6 = .ok (.ifCond .ne 7, 3) := by decide +kernel
theorem dX3_unit_9 : decode cX3_unit 9 = .ok (.sipush (-1002), 3) := by decide +kernel
theorem dX3_unit_12 : decode cX3_unit 12 = .ok (.ireturn, 1) := by decide +kernel
theorem dX3_unit_13 : decode cX3_unit 13 = .ok (.aload_n 0, 1) := by decide +kernel
theorem dX3_unit_14 : decode cX3_unit 14 = .ok (.getfield 10, 3) := by decide +kernel
theorem dX3_unit_17 : decode cX3_unit 17 = .ok (.getfield 48, 3) := by decide +kernel
theorem dX3_unit_20 : decode cX3_unit 20 = .ok (.bipush 12, 2) := by decide +kernel
theorem dX3_unit_22 : decode cX3_unit 22 = .ok (.if_icmp .lt 7, 3) := by decide +kernel
theorem dX3_unit_25 : decode cX3_unit 25 = .ok (.sipush (-1004), 3) := by decide +kernel
theorem dX3_unit_28 : decode cX3_unit 28 = .ok (.ireturn, 1) := by decide +kernel
theorem dX3_unit_29 : decode cX3_unit 29 = .ok (.aload_n 0, 1) := by decide +kernel
theorem dX3_unit_30 : decode cX3_unit 30 = .ok (.getfield 10, 3) := by decide +kernel
theorem dX3_unit_33 : decode cX3_unit 33 = .ok (.dup, 1) := by decide +kernel
theorem dX3_unit_34 : decode cX3_unit 34 = .ok (.getfield 48, 3) := by decide +kernel
theorem dX3_unit_37 : decode cX3_unit 37 = .ok (.iconst 1, 1) := by decide +kernel
theorem dX3_unit_38 : decode cX3_unit 38 = .ok (.iadd, 1) := by decide +kernel
theorem dX3_unit_39 : decode cX3_unit 39 = .ok (.putfield 48, 3) := by decide +kernel
theorem dX3_unit_42 : decode cX3_unit 42 = .ok (.aload_n 0, 1) := by decide +kernel
theorem dX3_unit_43 : decode cX3_unit 43 = .ok (.getfield 10, 3) := by decide +kernel
theorem dX3_unit_46 : decode cX3_unit 46 = .ok (.aload_n 0, 1) := by decide +kernel
theorem dX3_unit_47 : decode cX3_unit 47 = .ok (.getfield 10, 3) := by decide +kernel
theorem dX3_unit_50 : decode cX3_unit 50 = .ok (.getfield 48, 3) := by decide +kernel
theorem dX3_unit_53 : decode cX3_unit 53 = .ok (.iconst 1, 1) := by decide +kernel
theorem dX3_unit_54 : decode cX3_unit 54 = .ok (.isub, 1) := by decide +kernel
theorem dX3_unit_55 : decode cX3_unit 55 = .ok (.iload_n 1, 1) := by decide +kernel
theorem dX3_unit_56 : decode cX3_unit 56 = .ok (.iload_n 2, 1) := by decide +kernel
theorem dX3_unit_57 : decode cX3_unit 57 = .ok (.iload_n 3, 1) := by decide +kernel
theorem dX3_unit_58 : decode cX3_unit 58 = .ok (.invokevirtual 51, 3) := by decide +kernel
theorem dX3_unit_61 : decode cX3_unit 61 = .ok (.aload_n 0, 1) := by decide +kernel
theorem dX3_unit_62 : decode cX3_unit 62 = .ok (.getfield 10, 3) := by decide +kernel
theorem dX3_unit_65 : decode cX3_unit 65 = .ok (.getfield 48, 3) := by decide +kernel
theorem dX3_unit_68 : decode cX3_unit 68 = .ok (.iconst 1, 1) := by decide +kernel
theorem dX3_unit_69 : decode cX3_unit 69 = .ok (.isub, 1) := by decide +kernel
theorem dX3_unit_70 : decode cX3_unit 70 = .ok (.ireturn, 1) := by decide +kernel
theorem dX3_set_0 : decode cX3_set 0 = .ok (.aload_n 0, 1) := by decide +kernel
theorem dX3_set_1 : decode cX3_set 1 = .ok (.getfield 10, 3) := by decide +kernel
theorem dX3_set_4 : decode cX3_set 4 = .ok (.iload_n 1, 1) := by decide +kernel
theorem dX3_set_5 : decode cX3_set 5 = .ok (.invokevirtual 55, 3) := by decide +kernel
theorem dX3_set_8 : decode cX3_set 8 = .ok (.ifCond .ne 7, 3) := by decide +kernel
theorem dX3_set_11 : decode cX3_set 11 = .ok (.sipush (-1001), 3) := by decide +kernel
theorem dX3_set_14 : decode cX3_set 14 = .ok (.ireturn, 1) := by decide +kernel
theorem dX3_set_15 : decode cX3_set 15 = .ok (.iload_n 2, 1) := by decide +kernel
theorem dX3_set_16 : decode cX3_set 16 = .ok (.iload_n 3, 1) := by decide +kernel
theorem dX3_set_17 : decode cX3_set 17 = .ok (.iload 4, 2) := by decide +kernel
theorem dX3_set_19 : decode cX3_set 19 = .ok (.invokestatic 44, 3) := by decide +kernel
theorem dX3_set_22 : decode cX3_set 22 = .ok (.ifCond .ne 7, 3) := by decide +kernel
theorem dX3_set_25 : decode cX3_set 25 = .ok (.sipush (-1002), 3) := by decide +kernel
theorem dX3_set_28 : decode cX3_set 28 = .ok (.ireturn, 1) := by decide +kernel
theorem dX3_set_29 : decode cX3_set 29 = .ok (.aload_n 0, 1) := by decide +kernel
theorem dX3_set_30 : decode cX3_set 30 = .ok (.getfield 10, 3) := by decide +kernel
theorem dX3_set_33 : decode cX3_set 33 = .ok (.iload_n 1, 1) := by decide +kernel
theorem dX3_set_34 : decode cX3_set 34 = .ok (.iload_n 2, 1) := by decide +kernel
theorem dX3_set_35 : decode cX3_set 35 = .ok (.iload_n 3, 1) := by decide +kernel
theorem dX3_set_36 : decode cX3_set 36 = .ok (.iload 4, 2) := by decide +kernel
theorem dX3_set_38 : decode cX3_set 38 = .ok (.invokevirtual 51, 3) := by decide +kernel
theorem dX3_set_41 : decode cX3_set 41 = .ok (.iconst 1, 1) := by decide +kernel
theorem dX3_set_42 : decode cX3_set 42 = .ok (.ireturn, 1) := by decide +kernel
theorem dX3_drop_0 : decode cX3_drop 0 = .ok (.aload_n 0, 1) := by decide +kernel
theorem dX3_drop_1 : decode cX3_drop 1 = .ok (.getfield 10, 3) := by decide +kernel
theorem dX3_drop_4 : decode cX3_drop 4 = .ok (.getfield 48, 3) := by decide +kernel
theorem dX3_drop_7 : decode cX3_drop 7 = .ok (.ifCond .ne 7, 3) := by decide +kernel
theorem dX3_drop_10 : decode cX3_drop 10 = .ok (.sipush (-1003), 3) := by decide +kernel
theorem dX3_drop_13 : decode cX3_drop 13 = .ok (.ireturn, 1) := by decide +kernel
theorem dX3_drop_14 : decode cX3_drop 14 = .ok (.aload_n 0, 1) := by decide +kernel
theorem dX3_drop_15 : decode cX3_drop 15 = .ok (.getfield 10, 3) := by decide +kernel
theorem dX3_drop_18 : decode cX3_drop 18 = .ok (.dup, 1) := by decide +kernel
theorem dX3_drop_19 : decode cX3_drop 19 = .ok (.getfield 48, 3) := by decide +kernel
theorem dX3_drop_22 : decode cX3_drop 22 = .ok (.iconst 1, 1) := by decide +kernel
theorem dX3_drop_23 : decode cX3_drop 23 = .ok (.isub, 1) := by decide +kernel
theorem dX3_drop_24 : decode cX3_drop 24 = .ok (.putfield 48, 3) := by decide +kernel
theorem dX3_drop_27 : decode cX3_drop 27 = .ok (.aload_n 0, 1) := by decide +kernel
theorem dX3_drop_28 : decode cX3_drop 28 = .ok (.getfield 10, 3) := by decide +kernel
theorem dX3_drop_31 : decode cX3_drop 31 = .ok (.getfield 48, 3) := by decide +kernel
theorem dX3_drop_34 : decode cX3_drop 34 = .ok (.ireturn, 1) := by decide +kernel
theorem dX3_told_0 : decode cX3_told 0 = .ok (.aload_n 0, 1) := by decide +kernel
theorem dX3_told_1 : decode cX3_told 1 = .ok (.getfield 10, 3) := by decide +kernel
theorem dX3_told_4 : decode cX3_told 4 = .ok (.iload_n 1, 1) := by decide +kernel
theorem dX3_told_5 : decode cX3_told 5 = .ok (.invokevirtual 55, 3) := by decide +kernel
theorem dX3_told_8 : decode cX3_told 8 = .ok (.ifCond .ne 7, 3) := by decide +kernel
theorem dX3_told_11 : decode cX3_told 11 = .ok (.sipush (-1001), 3) := by decide +kernel
theorem dX3_told_14 : decode cX3_told 14 = .ok (.ireturn, 1) := by decide +kernel
theorem dX3_told_15 : decode cX3_told 15 = .ok (.iload_n 2, 1) := by decide +kernel
theorem dX3_told_16 : decode cX3_told 16 = .ok (.tableswitch 68 0 3 #[32, 42, 52, 62], 32) := by decide +kernel
theorem dX3_told_48 : decode cX3_told 48 = .ok (.aload_n 0, 1) := by decide +kernel
theorem dX3_told_49 : decode cX3_told 49 = .ok (.getfield 10, 3) := by decide +kernel
theorem dX3_told_52 : decode cX3_told 52 = .ok (.getfield 59, 3) := by decide +kernel
theorem dX3_told_55 : decode cX3_told 55 = .ok (.iload_n 1, 1) := by decide +kernel
theorem dX3_told_56 : decode cX3_told 56 = .ok (.iaload, 1) := by decide +kernel
theorem dX3_told_57 : decode cX3_told 57 = .ok (.ireturn, 1) := by decide +kernel
theorem dX3_told_58 : decode cX3_told 58 = .ok (.aload_n 0, 1) := by decide +kernel
theorem dX3_told_59 : decode cX3_told 59 = .ok (.getfield 10, 3) := by decide +kernel
theorem dX3_told_62 : decode cX3_told 62 = .ok (.getfield 62, 3) := by decide +kernel
theorem dX3_told_65 : decode cX3_told 65 = .ok (.iload_n 1, 1) := by decide +kernel
theorem dX3_told_66 : decode cX3_told 66 = .ok (.iaload, 1) := by decide +kernel
theorem dX3_told_67 : decode cX3_told 67 = .ok (.ireturn, 1) := by decide +kernel
theorem dX3_told_68 : decode cX3_told 68 = .ok (.aload_n 0, 1) := by decide +kernel
theorem dX3_told_69 : decode cX3_told 69 = .ok (.getfield 10, 3) := by decide +kernel
theorem dX3_told_72 : decode cX3_told 72 = .ok (.getfield 65, 3) := by decide +kernel
theorem dX3_told_75 : decode cX3_told 75 = .ok (.iload_n 1, 1) := by decide +kernel
theorem dX3_told_76 : decode cX3_told 76 = .ok (.iaload, 1) := by decide +kernel
theorem dX3_told_77 : decode cX3_told 77 = .ok (.ireturn, 1) := by decide +kernel
theorem dX3_told_78 : decode cX3_told 78 = .ok (.aload_n 0, 1) := by decide +kernel
theorem dX3_told_79 : decode cX3_told 79 = .ok (.iload_n 1, 1) := by decide +kernel
theorem dX3_told_80 : decode cX3_told 80 = .ok (.invokevirtual 68, 3) := by decide +kernel
theorem dX3_told_83 : decode cX3_told 83 = .ok (.ireturn, 1) := by decide +kernel
theorem dX3_told_84 : decode cX3_told 84 = .ok (.sipush (-1002), 3) := by decide +kernel
theorem dX3_told_87 : decode cX3_told 87 = .ok (.ireturn, 1) := by decide +kernel
theorem dX3_count_0 : decode cX3_count 0 = .ok (.iload_n 1, 1) := by decide +kernel
theorem dX3_count_1 : decode cX3_count 1 = .ok (.invokestatic 72, 3) := by decide +kernel
theorem dX3_count_4 : decode cX3_count 4 = .ok (.ifCond .eq 13, 3) := by decide +kernel
theorem dX3_count_7 : decode cX3_count 7 = .ok (.iload_n 2, 1) := by decide +kernel
theorem dX3_count_8 : decode cX3_count 8 = .ok (.iconst 0, 1) := by decide +kernel
theorem dX3_count_9 : decode cX3_count 9 = .ok (.bipush 7, 2) := by decide +kernel
theorem dX3_count_11 : decode cX3_count 11 = .ok (.invokestatic 75, 3) := by decide +kernel
theorem dX3_count_14 : decode cX3_count 14 = .ok (.ifCond .ne 7, 3) := by decide +kernel
theorem dX3_count_17 : decode cX3_count 17 = .ok (.sipush (-1002), 3) := by decide +kernel
theorem dX3_count_20 : decode cX3_count 20 = .ok (.ireturn, 1) := by decide +kernel
theorem dX3_count_21 : decode cX3_count 21 = .ok (.iconst 0, 1) := by decide +kernel
theorem dX3_count_22 : decode cX3_count 22 = .ok (.istore_n 3, 1) := by decide +kernel
theorem dX3_count_23 : decode cX3_count 23 = .ok (.iconst 0, 1) := by decide +kernel
theorem dX3_count_24 : decode cX3_count 24 = .ok (.istore 4, 2) := by decide +kernel
theorem dX3_count_26 : decode cX3_count 26 = .ok (.iload 4, 2) := by decide +kernel
theorem dX3_count_28 : decode cX3_count 28 = .ok (.aload_n 0, 1) := by decide +kernel
theorem dX3_count_29 : decode cX3_count 29 = .ok (.getfield 10, 3) := by decide +kernel
theorem dX3_count_32 : decode cX3_count 32 = .ok (.getfield 48, 3) := by decide +kernel
theorem dX3_count_35 : decode cX3_count 35 = .ok (.if_icmp .ge 32, 3) := by decide +kernel
theorem dX3_count_38 : decode cX3_count 38 = .ok (.aload_n 0, 1) := by decide +kernel
theorem dX3_count_39 : decode cX3_count 39 = .ok (.getfield 10, 3) := by decide +kernel
theorem dX3_count_42 : decode cX3_count 42 = .ok (.iload 4, 2) := by decide +kernel
theorem dX3_count_44 : decode cX3_count 44 = .ok (.iload_n 1, 1) := by decide +kernel
theorem dX3_count_45 : decode cX3_count 45 = .ok (.invokevirtual 78, 3) := by decide +kernel
theorem dX3_count_48 : decode cX3_count 48 = .ok (.ifCond .eq 13, 3) := by decide +kernel
theorem dX3_count_51 : decode cX3_count 51 = .ok (.iload_n 3, 1) := by decide +kernel
theorem dX3_count_52 : decode cX3_count 52 = .ok (.aload_n 0, 1) := by decide +kernel
theorem dX3_count_53 : decode cX3_count 53 = .ok (.iload 4, 2) := by decide +kernel
theorem dX3_count_55 : decode cX3_count 55 = .ok (.iload_n 2, 1) := by decide +kernel
theorem dX3_count_56 : decode cX3_count 56 = .ok (.invokevirtual 82, 3) := by decide +kernel
theorem dX3_count_59 : decode cX3_count 59 = .ok (.iadd, 1) := by decide +kernel
theorem dX3_count_60 : decode cX3_count 60 = .ok (.istore_n 3, 1) := by decide +kernel
theorem dX3_count_61 : decode cX3_count 61 = .ok (.iinc 4 1, 3) := by decide +kernel
theorem dX3_count_64 : decode cX3_count 64 = .ok (.goto (-38), 3) := by decide +kernel
theorem dX3_count_67 : decode cX3_count 67 = .ok (.iload_n 3, 1) := by decide +kernel
theorem dX3_count_68 : decode cX3_count 68 = .ok (.ireturn, 1) := by decide +kernel
theorem dX3_shareInCount_0 : decode cX3_shareInCount 0 = .ok (.aload_n 0, 1) := by decide +kernel
theorem dX3_shareInCount_1 : decode cX3_shareInCount 1 = .ok (.getfield 10, 3) := by decide +kernel
theorem dX3_shareInCount_4 : decode cX3_shareInCount 4 = .ok (.getfield 65, 3) := by decide +kernel
theorem dX3_shareInCount_7 : decode cX3_shareInCount 7 = .ok (.iload_n 1, 1) := by decide +kernel
theorem dX3_shareInCount_8 : decode cX3_shareInCount 8 = .ok (.iaload, 1) := by decide +kernel
theorem dX3_shareInCount_9 : decode cX3_shareInCount 9 = .ok (.istore_n 3, 1) := by decide +kernel
theorem dX3_shareInCount_10 : decode cX3_shareInCount 10 = .ok (.iload_n 2, 1) := by decide +kernel
theorem dX3_shareInCount_11 : decode cX3_shareInCount 11 = .ok (.tableswitch 85 0 7 #[45, 47, 58, 85, 85, 85, 69, 79], 45) := by decide +kernel
theorem dX3_shareInCount_56 : decode cX3_shareInCount 56 = .ok (.iconst 1, 1) := by decide +kernel
theorem dX3_shareInCount_57 : decode cX3_shareInCount 57 = .ok (.ireturn, 1) := by decide +kernel
theorem dX3_shareInCount_58 : decode cX3_shareInCount 58 = .ok (.iload_n 3, 1) := by decide +kernel
theorem dX3_shareInCount_59 : decode cX3_shareInCount 59 = .ok (.iconst (-1), 1) := by decide +kernel
theorem dX3_shareInCount_60 : decode cX3_shareInCount 60 = .ok (.if_icmp .eq 7, 3) := by decide +kernel
theorem dX3_shareInCount_63 : decode cX3_shareInCount 63 = .ok (.iconst 1, 1) := by decide +kernel
theorem dX3_shareInCount_64 : decode cX3_shareInCount 64 = .ok (.goto 4, 3) := by decide +kernel
theorem dX3_shareInCount_67 : decode cX3_shareInCount 67 = .ok (.iconst 0, 1) := by decide +kernel
theorem dX3_shareInCount_68 : decode cX3_shareInCount 68 = .ok (.ireturn, 1) := by decide +kernel
theorem dX3_shareInCount_69 : decode cX3_shareInCount 69 = .ok (.iload_n 3, 1) := by decide +kernel
theorem dX3_shareInCount_70 : decode cX3_shareInCount 70 = .ok (.iconst (-1), 1) := by decide +kernel
theorem dX3_shareInCount_71 : decode cX3_shareInCount 71 = .ok (.if_icmp .ne 7, 3) := by decide +kernel
theorem dX3_shareInCount_74 : decode cX3_shareInCount 74 = .ok (.iconst 1, 1) := by decide +kernel
theorem dX3_shareInCount_75 : decode cX3_shareInCount 75 = .ok (.goto 4, 3) := by decide +kernel
theorem dX3_shareInCount_78 : decode cX3_shareInCount 78 = .ok (.iconst 0, 1) := by decide +kernel
theorem dX3_shareInCount_79 : decode cX3_shareInCount 79 = .ok (.ireturn, 1) := by decide +kernel
theorem dX3_shareInCount_80 : decode cX3_shareInCount 80 = .ok (.aload_n 0, 1) := by decide +kernel
theorem dX3_shareInCount_81 : decode cX3_shareInCount 81 = .ok (.getfield 10, 3) := by decide +kernel
theorem dX3_shareInCount_84 : decode cX3_shareInCount 84 = .ok (.getfield 62, 3) := by decide +kernel
theorem dX3_shareInCount_87 : decode cX3_shareInCount 87 = .ok (.iload_n 1, 1) := by decide +kernel
theorem dX3_shareInCount_88 : decode cX3_shareInCount 88 = .ok (.iaload, 1) := by decide +kernel
theorem dX3_shareInCount_89 : decode cX3_shareInCount 89 = .ok (.ireturn, 1) := by decide +kernel
theorem dX3_shareInCount_90 : decode cX3_shareInCount 90 = .ok (.aload_n 0, 1) := by decide +kernel
theorem dX3_shareInCount_91 : decode cX3_shareInCount 91 = .ok (.iload_n 1, 1) := by decide +kernel
theorem dX3_shareInCount_92 : decode cX3_shareInCount 92 = .ok (.invokevirtual 68, 3) := by decide +kernel
theorem dX3_shareInCount_95 : decode cX3_shareInCount 95 = .ok (.ireturn, 1) := by decide +kernel
theorem dX3_shareInCount_96 : decode cX3_shareInCount 96 = .ok (.iload_n 3, 1) := by decide +kernel
theorem dX3_shareInCount_97 : decode cX3_shareInCount 97 = .ok (.iload_n 2, 1) := by decide +kernel
theorem dX3_shareInCount_98 : decode cX3_shareInCount 98 = .ok (.iconst 3, 1) := by decide +kernel
theorem dX3_shareInCount_99 : decode cX3_shareInCount 99 = .ok (.isub, 1) := by decide +kernel
theorem dX3_shareInCount_100 : decode cX3_shareInCount 100 = .ok (.if_icmp .ne 7, 3) := by decide +kernel
theorem dX3_shareInCount_103 : decode cX3_shareInCount 103 = .ok (.iconst 1, 1) := by decide +kernel
theorem dX3_shareInCount_104 : decode cX3_shareInCount 104 = .ok (.goto 4, 3) := by decide +kernel
theorem dX3_shareInCount_107 : decode cX3_shareInCount 107 = .ok (.iconst 0, 1) := by decide +kernel
theorem dX3_shareInCount_108 : decode cX3_shareInCount 108 = .ok (.ireturn, 1) := by decide +kernel
theorem dX3_useHour_0 : decode cX3_useHour 0 = .ok (.aload_n 0, 1) := by decide +kernel
theorem dX3_useHour_1 : decode cX3_useHour 1 = .ok (.getfield 10, 3) := by decide +kernel
theorem dX3_useHour_4 : decode cX3_useHour 4 = .ok (.getfield 62, 3) := by decide +kernel
theorem dX3_useHour_7 : decode cX3_useHour 7 = .ok (.iload_n 1, 1) := by decide +kernel
theorem dX3_useHour_8 : decode cX3_useHour 8 = .ok (.iaload, 1) := by decide +kernel
theorem dX3_useHour_9 : decode cX3_useHour 9 = .ok (.aload_n 0, 1) := by decide +kernel
theorem dX3_useHour_10 : decode cX3_useHour 10 = .ok (.getfield 30, 3) := by decide +kernel
theorem dX3_useHour_13 : decode cX3_useHour 13 = .ok (.aload_n 0, 1) := by decide +kernel
theorem dX3_useHour_14 : decode cX3_useHour 14 = .ok (.getfield 10, 3) := by decide +kernel
theorem dX3_useHour_17 : decode cX3_useHour 17 = .ok (.getfield 59, 3) := by decide +kernel
theorem dX3_useHour_20 : decode cX3_useHour 20 = .ok (.iload_n 1, 1) := by decide +kernel
theorem dX3_useHour_21 : decode cX3_useHour 21 = .ok (.iaload, 1) := by decide +kernel
theorem dX3_useHour_22 : decode cX3_useHour 22 = .ok (.iaload, 1) := by decide +kernel
theorem dX3_useHour_23 : decode cX3_useHour 23 = .ok (.imul, 1) := by decide +kernel
theorem dX3_useHour_24 : decode cX3_useHour 24 = .ok (.bipush 10, 2) := by decide +kernel
theorem dX3_useHour_26 : decode cX3_useHour 26 = .ok (.idiv, 1) := by decide +kernel
theorem dX3_useHour_27 : decode cX3_useHour 27 = .ok (.ireturn, 1) := by decide +kernel
theorem dX3_risk_0 : decode cX3_risk 0 = .ok (.iload_n 1, 1) := by decide +kernel
theorem dX3_risk_1 : decode cX3_risk 1 = .ok (.invokestatic 72, 3) := by decide +kernel
theorem dX3_risk_4 : decode cX3_risk 4 = .ok (.ifCond .eq 14, 3) := by decide +kernel
theorem dX3_risk_7 : decode cX3_risk 7 = .ok (.iload_n 2, 1) := by decide +kernel
theorem dX3_risk_8 : decode cX3_risk 8 = .ok (.iconst 0, 1) := by decide +kernel
theorem dX3_risk_9 : decode cX3_risk 9 = .ok (.sipush 500, 3) := by decide +kernel
theorem dX3_risk_12 : decode cX3_risk 12 = .ok (.invokestatic 75, 3) := by decide +kernel
theorem dX3_risk_15 : decode cX3_risk 15 = .ok (.ifCond .ne 7, 3) := by decide +kernel
theorem dX3_risk_18 : decode cX3_risk 18 = .ok (.sipush (-1002), 3) := by decide +kernel
theorem dX3_risk_21 : decode cX3_risk 21 = .ok (.ireturn, 1) := by decide +kernel
theorem dX3_risk_22 : decode cX3_risk 22 = .ok (.aload_n 0, 1) := by decide +kernel
theorem dX3_risk_23 : decode cX3_risk 23 = .ok (.getfield 10, 3) := by decide +kernel
theorem dX3_risk_26 : decode cX3_risk 26 = .ok (.iload_n 1, 1) := by decide +kernel
theorem dX3_risk_27 : decode cX3_risk 27 = .ok (.iload_n 2, 1) := by decide +kernel
theorem dX3_risk_28 : decode cX3_risk 28 = .ok (.invokevirtual 86, 3) := by decide +kernel
theorem dX3_risk_31 : decode cX3_risk 31 = .ok (.ireturn, 1) := by decide +kernel
theorem dX3_left_0 : decode cX3_left 0 = .ok (.iload_n 1, 1) := by decide +kernel
theorem dX3_left_1 : decode cX3_left 1 = .ok (.iload_n 2, 1) := by decide +kernel
theorem dX3_left_2 : decode cX3_left 2 = .ok (.invokestatic 89, 3) := by decide +kernel
theorem dX3_left_5 : decode cX3_left 5 = .ok (.ifCond .eq 24, 3) := by decide +kernel
theorem dX3_left_8 : decode cX3_left 8 = .ok (.iload_n 3, 1) := by decide +kernel
theorem dX3_left_9 : decode cX3_left 9 = .ok (.iconst 0, 1) := by decide +kernel
theorem dX3_left_10 : decode cX3_left 10 = .ok (.sipush 500, 3) := by decide +kernel
theorem dX3_left_13 : decode cX3_left 13 = .ok (.invokestatic 75, 3) := by decide +kernel
theorem dX3_left_16 : decode cX3_left 16 = .ok (.ifCond .eq 13, 3) := by decide +kernel
theorem dX3_left_19 : decode cX3_left 19 = .ok (.iload 4, 2) := by decide +kernel
theorem dX3_left_21 : decode cX3_left 21 = .ok (.iconst 0, 1) := by decide +kernel
theorem dX3_left_22 : decode cX3_left 22 = .ok (.iconst 1, 1) := by decide +kernel
theorem dX3_left_23 : decode cX3_left 23 = .ok (.invokestatic 75, 3) := by decide +kernel
theorem dX3_left_26 : decode cX3_left 26 = .ok (.ifCond .ne 7, 3) := by decide +kernel
theorem dX3_left_29 : decode cX3_left 29 = .ok (.ldc2_w 92, 3) := by decide +kernel
theorem dX3_left_32 : decode cX3_left 32 = .ok (.lreturn, 1) := by decide +kernel
theorem dX3_left_33 : decode cX3_left 33 = .ok (.aload_n 0, 1) := by decide +kernel
theorem dX3_left_34 : decode cX3_left 34 = .ok (.getfield 19, 3) := by decide +kernel
theorem dX3_left_37 : decode cX3_left 37 = .ok (.aload_n 0, 1) := by decide +kernel
theorem dX3_left_38 : decode cX3_left 38 = .ok (.getfield 10, 3) := by decide +kernel
theorem dX3_left_41 : decode cX3_left 41 = .ok (.iload_n 1, 1) := by decide +kernel
theorem dX3_left_42 : decode cX3_left 42 = .ok (.iload_n 2, 1) := by decide +kernel
theorem dX3_left_43 : decode cX3_left 43 = .ok (.invokevirtual 94, 3) := by decide +kernel
theorem dX3_left_46 : decode cX3_left 46 = .ok (.aload_n 0, 1) := by decide +kernel
theorem dX3_left_47 : decode cX3_left 47 = .ok (.getfield 19, 3) := by decide +kernel
theorem dX3_left_50 : decode cX3_left 50 = .ok (.iload_n 3, 1) := by decide +kernel
theorem dX3_left_51 : decode cX3_left 51 = .ok (.invokevirtual 98, 3) := by decide +kernel
theorem dX3_left_54 : decode cX3_left 54 = .ok (.aload_n 0, 1) := by decide +kernel
theorem dX3_left_55 : decode cX3_left 55 = .ok (.getfield 19, 3) := by decide +kernel
theorem dX3_left_58 : decode cX3_left 58 = .ok (.invokevirtual 102, 3) := by decide +kernel
theorem dX3_left_61 : decode cX3_left 61 = .ok (.iload 4, 2) := by decide +kernel
theorem dX3_left_63 : decode cX3_left 63 = .ok (.invokestatic 106, 3) := by decide +kernel
theorem dX3_left_66 : decode cX3_left 66 = .ok (.lreturn, 1) := by decide +kernel
theorem dX3_time_0 : decode cX3_time 0 = .ok (.iload_n 1, 1) := by decide +kernel
theorem dX3_time_1 : decode cX3_time 1 = .ok (.iload_n 2, 1) := by decide +kernel
theorem dX3_time_2 : decode cX3_time 2 = .ok (.invokestatic 89, 3) := by decide +kernel
theorem dX3_time_5 : decode cX3_time 5 = .ok (.ifCond .eq 25, 3) := by decide +kernel
theorem dX3_time_8 : decode cX3_time 8 = .ok (.iload 4, 2) := by decide +kernel
theorem dX3_time_10 : decode cX3_time 10 = .ok (.iconst 1, 1) := by decide +kernel
theorem dX3_time_11 : decode cX3_time 11 = .ok (.sipush 1000, 3) := by decide +kernel
theorem dX3_time_14 : decode cX3_time 14 = .ok (.invokestatic 75, 3) := by decide +kernel
theorem dX3_time_17 : decode cX3_time 17 = .ok (.ifCond .eq 13, 3) := by decide +kernel
theorem dX3_time_20 : decode cX3_time 20 = .ok (.iload_n 3, 1) := by decide +kernel
theorem dX3_time_21 : decode cX3_time 21 = .ok (.iconst 0, 1) := by decide +kernel
theorem dX3_time_22 : decode cX3_time 22 = .ok (.iload 4, 2) := by decide +kernel
theorem dX3_time_24 : decode cX3_time 24 = .ok (.invokestatic 75, 3) := by decide +kernel
theorem dX3_time_27 : decode cX3_time 27 = .ok (.ifCond .ne 7, 3) := by decide +kernel
theorem dX3_time_30 : decode cX3_time 30 = .ok (.sipush (-1002), 3) := by decide +kernel
theorem dX3_time_33 : decode cX3_time 33 = .ok (.ireturn, 1) := by decide +kernel
theorem dX3_time_34 : decode cX3_time 34 = .ok (.aload_n 0, 1) := by decide +kernel
theorem dX3_time_35 : decode cX3_time 35 = .ok (.getfield 19, 3) := by decide +kernel
theorem dX3_time_38 : decode cX3_time 38 = .ok (.aload_n 0, 1) := by decide +kernel
theorem dX3_time_39 : decode cX3_time 39 = .ok (.getfield 10, 3) := by decide +kernel
theorem dX3_time_42 : decode cX3_time 42 = .ok (.iload_n 1, 1) := by decide +kernel
theorem dX3_time_43 : decode cX3_time 43 = .ok (.iload_n 2, 1) := by decide +kernel
theorem dX3_time_44 : decode cX3_time 44 = .ok (.invokevirtual 94, 3) := by decide +kernel
theorem dX3_time_47 : decode cX3_time 47 = .ok (.aload_n 0, 1) := by decide +kernel
theorem dX3_time_48 : decode cX3_time 48 = .ok (.getfield 19, 3) := by decide +kernel
theorem dX3_time_51 : decode cX3_time 51 = .ok (.iload_n 3, 1) := by decide +kernel
theorem dX3_time_52 : decode cX3_time 52 = .ok (.iload 4, 2) := by decide +kernel
theorem dX3_time_54 : decode cX3_time 54 = .ok (.invokevirtual 110, 3) := by decide +kernel
theorem dX3_time_57 : decode cX3_time 57 = .ok (.ireturn, 1) := by decide +kernel
theorem dX3_mean_0 : decode cX3_mean 0 = .ok (.iload_n 1, 1) := by decide +kernel
theorem dX3_mean_1 : decode cX3_mean 1 = .ok (.iload_n 2, 1) := by decide +kernel
theorem dX3_mean_2 : decode cX3_mean 2 = .ok (.invokestatic 89, 3) := by decide +kernel
theorem dX3_mean_5 : decode cX3_mean 5 = .ok (.ifCond .eq 24, 3) := by decide +kernel
theorem dX3_mean_8 : decode cX3_mean 8 = .ok (.iload_n 3, 1) := by decide +kernel
theorem dX3_mean_9 : decode cX3_mean 9 = .ok (.iconst 1, 1) := by decide +kernel
theorem dX3_mean_10 : decode cX3_mean 10 = .ok (.sipush 500, 3) := by decide +kernel
theorem dX3_mean_13 : decode cX3_mean 13 = .ok (.invokestatic 75, 3) := by decide +kernel
theorem dX3_mean_16 : decode cX3_mean 16 = .ok (.ifCond .eq 13, 3) := by decide +kernel
theorem dX3_mean_19 : decode cX3_mean 19 = .ok (.iload 4, 2) := by decide +kernel
theorem dX3_mean_21 : decode cX3_mean 21 = .ok (.iconst 0, 1) := by decide +kernel
theorem dX3_mean_22 : decode cX3_mean 22 = .ok (.iconst 1, 1) := by decide +kernel
theorem dX3_mean_23 : decode cX3_mean 23 = .ok (.invokestatic 75, 3) := by decide +kernel
theorem dX3_mean_26 : decode cX3_mean 26 = .ok (.ifCond .ne 7, 3) := by decide +kernel
theorem dX3_mean_29 : decode cX3_mean 29 = .ok (.ldc2_w 92, 3) := by decide +kernel
theorem dX3_mean_32 : decode cX3_mean 32 = .ok (.lreturn, 1) := by decide +kernel
theorem dX3_mean_33 : decode cX3_mean 33 = .ok (.aload_n 0, 1) := by decide +kernel
theorem dX3_mean_34 : decode cX3_mean 34 = .ok (.getfield 19, 3) := by decide +kernel
theorem dX3_mean_37 : decode cX3_mean 37 = .ok (.aload_n 0, 1) := by decide +kernel
theorem dX3_mean_38 : decode cX3_mean 38 = .ok (.getfield 10, 3) := by decide +kernel
theorem dX3_mean_41 : decode cX3_mean 41 = .ok (.iload_n 1, 1) := by decide +kernel
theorem dX3_mean_42 : decode cX3_mean 42 = .ok (.iload_n 2, 1) := by decide +kernel
theorem dX3_mean_43 : decode cX3_mean 43 = .ok (.invokevirtual 94, 3) := by decide +kernel
theorem dX3_mean_46 : decode cX3_mean 46 = .ok (.aload_n 0, 1) := by decide +kernel
theorem dX3_mean_47 : decode cX3_mean 47 = .ok (.getfield 19, 3) := by decide +kernel
theorem dX3_mean_50 : decode cX3_mean 50 = .ok (.iconst 0, 1) := by decide +kernel
theorem dX3_mean_51 : decode cX3_mean 51 = .ok (.iload_n 3, 1) := by decide +kernel
theorem dX3_mean_52 : decode cX3_mean 52 = .ok (.invokevirtual 113, 3) := by decide +kernel
theorem dX3_mean_55 : decode cX3_mean 55 = .ok (.aload_n 0, 1) := by decide +kernel
theorem dX3_mean_56 : decode cX3_mean 56 = .ok (.getfield 19, 3) := by decide +kernel
theorem dX3_mean_59 : decode cX3_mean 59 = .ok (.invokevirtual 102, 3) := by decide +kernel
theorem dX3_mean_62 : decode cX3_mean 62 = .ok (.iload 4, 2) := by decide +kernel
theorem dX3_mean_64 : decode cX3_mean 64 = .ok (.invokestatic 106, 3) := by decide +kernel
theorem dX3_mean_67 : decode cX3_mean 67 = .ok (.lreturn, 1) := by decide +kernel
theorem dX3_rest_0 : decode cX3_rest 0 = .ok (.iload_n 1, 1) := by decide +kernel
theorem dX3_rest_1 : decode cX3_rest 1 = .ok (.iload_n 2, 1) := by decide +kernel
theorem dX3_rest_2 : decode cX3_rest 2 = .ok (.invokestatic 89, 3) := by decide +kernel
theorem dX3_rest_5 : decode cX3_rest 5 = .ok (.ifCond .eq 37, 3) := by decide +kernel
theorem dX3_rest_8 : decode cX3_rest 8 = .ok (.iload 4, 2) := by decide +kernel
theorem dX3_rest_10 : decode cX3_rest 10 = .ok (.iconst 1, 1) := by decide +kernel
theorem dX3_rest_11 : decode cX3_rest 11 = .ok (.sipush 500, 3) := by decide +kernel
theorem dX3_rest_14 : decode cX3_rest 14 = .ok (.invokestatic 75, 3) := by decide +kernel
theorem dX3_rest_17 : decode cX3_rest 17 = .ok (.ifCond .eq 25, 3) := by decide +kernel
theorem dX3_rest_20 : decode cX3_rest 20 = .ok (.iload_n 3, 1) := by decide +kernel
theorem dX3_rest_21 : decode cX3_rest 21 = .ok (.iconst 0, 1) := by decide +kernel
theorem dX3_rest_22 : decode cX3_rest 22 = .ok (.iload 4, 2) := by decide +kernel
theorem dX3_rest_24 : decode cX3_rest 24 = .ok (.iconst 1, 1) := by decide +kernel
theorem dX3_rest_25 : decode cX3_rest 25 = .ok (.isub, 1) := by decide +kernel
theorem dX3_rest_26 : decode cX3_rest 26 = .ok (.invokestatic 75, 3) := by decide +kernel
theorem dX3_rest_29 : decode cX3_rest 29 = .ok (.ifCond .eq 13, 3) := by decide +kernel
theorem dX3_rest_32 : decode cX3_rest 32 = .ok (.iload 5, 2) := by decide +kernel
theorem dX3_rest_34 : decode cX3_rest 34 = .ok (.iconst 0, 1) := by decide +kernel
theorem dX3_rest_35 : decode cX3_rest 35 = .ok (.iconst 1, 1) := by decide +kernel
theorem dX3_rest_36 : decode cX3_rest 36 = .ok (.invokestatic 75, 3) := by decide +kernel
theorem dX3_rest_39 : decode cX3_rest 39 = .ok (.ifCond .ne 7, 3) := by decide +kernel
theorem dX3_rest_42 : decode cX3_rest 42 = .ok (.ldc2_w 92, 3) := by decide +kernel
theorem dX3_rest_45 : decode cX3_rest 45 = .ok (.lreturn, 1) := by decide +kernel
theorem dX3_rest_46 : decode cX3_rest 46 = .ok (.aload_n 0, 1) := by decide +kernel
theorem dX3_rest_47 : decode cX3_rest 47 = .ok (.getfield 19, 3) := by decide +kernel
theorem dX3_rest_50 : decode cX3_rest 50 = .ok (.aload_n 0, 1) := by decide +kernel
theorem dX3_rest_51 : decode cX3_rest 51 = .ok (.getfield 10, 3) := by decide +kernel
theorem dX3_rest_54 : decode cX3_rest 54 = .ok (.iload_n 1, 1) := by decide +kernel
theorem dX3_rest_55 : decode cX3_rest 55 = .ok (.iload_n 2, 1) := by decide +kernel
theorem dX3_rest_56 : decode cX3_rest 56 = .ok (.invokevirtual 94, 3) := by decide +kernel
theorem dX3_rest_59 : decode cX3_rest 59 = .ok (.aload_n 0, 1) := by decide +kernel
theorem dX3_rest_60 : decode cX3_rest 60 = .ok (.getfield 19, 3) := by decide +kernel
theorem dX3_rest_63 : decode cX3_rest 63 = .ok (.iload_n 3, 1) := by decide +kernel
theorem dX3_rest_64 : decode cX3_rest 64 = .ok (.invokevirtual 98, 3) := by decide +kernel
theorem dX3_rest_67 : decode cX3_rest 67 = .ok (.lconst 0, 1) := by decide +kernel
theorem dX3_rest_68 : decode cX3_rest 68 = .ok (.lcmp, 1) := by decide +kernel
theorem dX3_rest_69 : decode cX3_rest 69 = .ok (.ifCond .ne 7, 3) := by decide +kernel
theorem dX3_rest_72 : decode cX3_rest 72 = .ok (.ldc2_w 117, 3) := by decide +kernel
theorem dX3_rest_75 : decode cX3_rest 75 = .ok (.lreturn, 1) := by decide +kernel
theorem dX3_rest_76 : decode cX3_rest 76 = .ok (.aload_n 0, 1) := by decide +kernel
theorem dX3_rest_77 : decode cX3_rest 77 = .ok (.getfield 19, 3) := by decide +kernel
theorem dX3_rest_80 : decode cX3_rest 80 = .ok (.iload_n 3, 1) := by decide +kernel
theorem dX3_rest_81 : decode cX3_rest 81 = .ok (.iload 4, 2) := by decide +kernel
theorem dX3_rest_83 : decode cX3_rest 83 = .ok (.invokevirtual 113, 3) := by decide +kernel
theorem dX3_rest_86 : decode cX3_rest 86 = .ok (.aload_n 0, 1) := by decide +kernel
theorem dX3_rest_87 : decode cX3_rest 87 = .ok (.getfield 19, 3) := by decide +kernel
theorem dX3_rest_90 : decode cX3_rest 90 = .ok (.iload_n 3, 1) := by decide +kernel
theorem dX3_rest_91 : decode cX3_rest 91 = .ok (.invokevirtual 98, 3) := by decide +kernel
theorem dX3_rest_94 : decode cX3_rest 94 = .ok (.iload 5, 2) := by decide +kernel
theorem dX3_rest_96 : decode cX3_rest 96 = .ok (.invokestatic 106, 3) := by decide +kernel
theorem dX3_rest_99 : decode cX3_rest 99 = .ok (.lreturn, 1) := by decide +kernel
theorem dX3_runIn_0 : decode cX3_runIn 0 = .ok (.iload_n 1, 1) := by decide +kernel
theorem dX3_runIn_1 : decode cX3_runIn 1 = .ok (.iload_n 2, 1) := by decide +kernel
theorem dX3_runIn_2 : decode cX3_runIn 2 = .ok (.invokestatic 89, 3) := by decide +kernel
theorem dX3_runIn_5 : decode cX3_runIn 5 = .ok (.ifCond .eq 25, 3) := by decide +kernel
theorem dX3_runIn_8 : decode cX3_runIn 8 = .ok (.iload_n 3, 1) := by decide +kernel
theorem dX3_runIn_9 : decode cX3_runIn 9 = .ok (.iconst 1, 1) := by decide +kernel
theorem dX3_runIn_10 : decode cX3_runIn 10 = .ok (.sipush 500, 3) := by decide +kernel
theorem dX3_runIn_13 : decode cX3_runIn 13 = .ok (.invokestatic 75, 3) := by decide +kernel
theorem dX3_runIn_16 : decode cX3_runIn 16 = .ok (.ifCond .eq 14, 3) := by decide +kernel
theorem dX3_runIn_19 : decode cX3_runIn 19 = .ok (.iload 4, 2) := by decide +kernel
theorem dX3_runIn_21 : decode cX3_runIn 21 = .ok (.iconst 0, 1) := by decide +kernel
theorem dX3_runIn_22 : decode cX3_runIn 22 = .ok (.bipush 100, 2) := by decide +kernel
theorem dX3_runIn_24 : decode cX3_runIn 24 = .ok (.invokestatic 75, 3) := by decide +kernel
theorem dX3_runIn_27 : decode cX3_runIn 27 = .ok (.ifCond .ne 7, 3) := by decide +kernel
theorem dX3_runIn_30 : decode cX3_runIn 30 = .ok (.sipush (-1002), 3) := by decide +kernel
theorem dX3_runIn_33 : decode cX3_runIn 33 = .ok (.ireturn, 1) := by decide +kernel
theorem dX3_runIn_34 : decode cX3_runIn 34 = .ok (.aload_n 0, 1) := by decide +kernel
theorem dX3_runIn_35 : decode cX3_runIn 35 = .ok (.getfield 19, 3) := by decide +kernel
theorem dX3_runIn_38 : decode cX3_runIn 38 = .ok (.aload_n 0, 1) := by decide +kernel
theorem dX3_runIn_39 : decode cX3_runIn 39 = .ok (.getfield 10, 3) := by decide +kernel
theorem dX3_runIn_42 : decode cX3_runIn 42 = .ok (.iload_n 1, 1) := by decide +kernel
theorem dX3_runIn_43 : decode cX3_runIn 43 = .ok (.iload_n 2, 1) := by decide +kernel
theorem dX3_runIn_44 : decode cX3_runIn 44 = .ok (.invokevirtual 94, 3) := by decide +kernel
theorem dX3_runIn_47 : decode cX3_runIn 47 = .ok (.aload_n 0, 1) := by decide +kernel
theorem dX3_runIn_48 : decode cX3_runIn 48 = .ok (.getfield 19, 3) := by decide +kernel
theorem dX3_runIn_51 : decode cX3_runIn 51 = .ok (.iload_n 3, 1) := by decide +kernel
theorem dX3_runIn_52 : decode cX3_runIn 52 = .ok (.iload 4, 2) := by decide +kernel
theorem dX3_runIn_54 : decode cX3_runIn 54 = .ok (.invokevirtual 119, 3) := by decide +kernel
theorem dX3_runIn_57 : decode cX3_runIn 57 = .ok (.ireturn, 1) := by decide +kernel
theorem dX3_speed_0 : decode cX3_speed 0 = .ok (.iload_n 1, 1) := by decide +kernel
theorem dX3_speed_1 : decode cX3_speed 1 = .ok (.invokestatic 122, 3) := by decide +kernel
theorem dX3_speed_4 : decode cX3_speed 4 = .ok (.ifCond .eq 14, 3) := by decide +kernel
theorem dX3_speed_7 : decode cX3_speed 7 = .ok (.iload_n 2, 1) := by decide +kernel
theorem dX3_speed_8 : decode cX3_speed 8 = .ok (.iconst 1, 1) := by decide +kernel
theorem dX3_speed_9 : decode cX3_speed 9 = .ok (.sipush 1000, 3) := by decide +kernel
theorem dX3_speed_12 : decode cX3_speed 12 = .ok (.invokestatic 75, 3) := by decide +kernel
theorem dX3_speed_15 : decode cX3_speed 15 = .ok (.ifCond .ne 7, 3) := by decide +kernel
theorem dX3_speed_18 : decode cX3_speed 18 = .ok (.sipush (-1002), 3) := by decide +kernel
theorem dX3_speed_21 : decode cX3_speed 21 = .ok (.ireturn, 1) := by decide +kernel
theorem dX3_speed_22 : decode cX3_speed 22 = .ok (.aload_n 0, 1) := by decide +kernel
theorem dX3_speed_23 : decode cX3_speed 23 = .ok (.getfield 30, 3) := by decide +kernel
theorem dX3_speed_26 : decode cX3_speed 26 = .ok (.iload_n 1, 1) := by decide +kernel
theorem dX3_speed_27 : decode cX3_speed 27 = .ok (.iaload, 1) := by decide +kernel
theorem dX3_speed_28 : decode cX3_speed 28 = .ok (.istore_n 3, 1) := by decide +kernel
theorem dX3_speed_29 : decode cX3_speed 29 = .ok (.aload_n 0, 1) := by decide +kernel
theorem dX3_speed_30 : decode cX3_speed 30 = .ok (.getfield 30, 3) := by decide +kernel
theorem dX3_speed_33 : decode cX3_speed 33 = .ok (.iload_n 1, 1) := by decide +kernel
theorem dX3_speed_34 : decode cX3_speed 34 = .ok (.iload_n 2, 1) := by decide +kernel
theorem dX3_speed_35 : decode cX3_speed 35 = .ok (.iastore, 1) := by decide +kernel
theorem dX3_speed_36 : decode cX3_speed 36 = .ok (.iload_n 3, 1) := by decide +kernel
theorem dX3_speed_37 : decode cX3_speed 37 = .ok (.ireturn, 1) := by decide +kernel
theorem dX3_says_0 : decode cX3_says 0 = .ok (.iload_n 1, 1) := by decide +kernel
theorem dX3_says_1 : decode cX3_says 1 = .ok (.iload_n 2, 1) := by decide +kernel
theorem dX3_says_2 : decode cX3_says 2 = .ok (.invokestatic 125, 3) := by decide +kernel
theorem dX3_says_5 : decode cX3_says 5 = .ok (.ifCond .eq 10, 3) := by decide +kernel
theorem dX3_says_8 : decode cX3_says 8 = .ok (.iload_n 3, 1) := by decide +kernel
theorem dX3_says_9 : decode cX3_says 9 = .ok (.invokestatic 122, 3) := by decide +kernel
theorem dX3_says_12 : decode cX3_says 12 = .ok (.ifCond .ne 7, 3) := by decide +kernel
theorem dX3_says_15 : decode cX3_says 15 = .ok (.sipush (-1002), 3) := by decide +kernel
theorem dX3_says_18 : decode cX3_says 18 = .ok (.ireturn, 1) := by decide +kernel
theorem dX3_says_19 : decode cX3_says 19 = .ok (.iload_n 1, 1) := by decide +kernel
theorem dX3_says_20 : decode cX3_says 20 = .ok (.iload_n 2, 1) := by decide +kernel
theorem dX3_says_21 : decode cX3_says 21 = .ok (.iload_n 3, 1) := by decide +kernel
theorem dX3_says_22 : decode cX3_says 22 = .ok (.invokestatic 128, 3) := by decide +kernel
theorem dX3_says_25 : decode cX3_says 25 = .ok (.ireturn, 1) := by decide +kernel
theorem dX3_miss_0 : decode cX3_miss 0 = .ok (.iload_n 1, 1) := by decide +kernel
theorem dX3_miss_1 : decode cX3_miss 1 = .ok (.iload_n 2, 1) := by decide +kernel
theorem dX3_miss_2 : decode cX3_miss 2 = .ok (.invokestatic 125, 3) := by decide +kernel
theorem dX3_miss_5 : decode cX3_miss 5 = .ok (.ifCond .ne 7, 3) := by decide +kernel
theorem dX3_miss_8 : decode cX3_miss 8 = .ok (.sipush (-1002), 3) := by decide +kernel
theorem dX3_miss_11 : decode cX3_miss 11 = .ok (.ireturn, 1) := by decide +kernel
theorem dX3_miss_12 : decode cX3_miss 12 = .ok (.aload_n 0, 1) := by decide +kernel
theorem dX3_miss_13 : decode cX3_miss 13 = .ok (.invokevirtual 132, 3) := by decide +kernel
theorem dX3_miss_16 : decode cX3_miss 16 = .ok (.pop, 1) := by decide +kernel
theorem dX3_miss_17 : decode cX3_miss 17 = .ok (.aload_n 0, 1) := by decide +kernel
theorem dX3_miss_18 : decode cX3_miss 18 = .ok (.iload_n 1, 1) := by decide +kernel
theorem dX3_miss_19 : decode cX3_miss 19 = .ok (.iload_n 2, 1) := by decide +kernel
theorem dX3_miss_20 : decode cX3_miss 20 = .ok (.invokevirtual 136, 3) := by decide +kernel
theorem dX3_miss_23 : decode cX3_miss 23 = .ok (.ireturn, 1) := by decide +kernel
theorem dX3_law_0 : decode cX3_law 0 = .ok (.iload_n 1, 1) := by decide +kernel
theorem dX3_law_1 : decode cX3_law 1 = .ok (.iconst 1, 1) := by decide +kernel
theorem dX3_law_2 : decode cX3_law 2 = .ok (.ldc 139, 2) := by decide +kernel
theorem dX3_law_4 : decode cX3_law 4 = .ok (.invokestatic 75, 3) := by decide +kernel
theorem dX3_law_7 : decode cX3_law 7 = .ok (.ifCond .eq 34, 3) := by decide +kernel
theorem dX3_law_10 : decode cX3_law 10 = .ok (.iload_n 2, 1) := by decide +kernel
theorem dX3_law_11 : decode cX3_law 11 = .ok (.iconst 0, 1) := by decide +kernel
theorem dX3_law_12 : decode cX3_law 12 = .ok (.sipush 1000, 3) := by decide +kernel
theorem dX3_law_15 : decode cX3_law 15 = .ok (.invokestatic 75, 3) := by decide +kernel
theorem dX3_law_18 : decode cX3_law 18 = .ok (.ifCond .eq 23, 3) := by decide +kernel
theorem dX3_law_21 : decode cX3_law 21 = .ok (.iload_n 1, 1) := by decide +kernel
theorem dX3_law_22 : decode cX3_law 22 = .ok (.bipush 9, 2) := by decide +kernel
theorem dX3_law_24 : decode cX3_law 24 = .ok (.iload_n 2, 1) := by decide +kernel
theorem dX3_law_25 : decode cX3_law 25 = .ok (.imul, 1) := by decide +kernel
theorem dX3_law_26 : decode cX3_law 26 = .ok (.iadd, 1) := by decide +kernel
theorem dX3_law_27 : decode cX3_law 27 = .ok (.ldc 139, 2) := by decide +kernel
theorem dX3_law_29 : decode cX3_law 29 = .ok (.if_icmp .gt 12, 3) := by decide +kernel
theorem dX3_law_32 : decode cX3_law 32 = .ok (.iload_n 3, 1) := by decide +kernel
theorem dX3_law_33 : decode cX3_law 33 = .ok (.iconst 0, 1) := by decide +kernel
theorem dX3_law_34 : decode cX3_law 34 = .ok (.iconst 2, 1) := by decide +kernel
theorem dX3_law_35 : decode cX3_law 35 = .ok (.invokestatic 75, 3) := by decide +kernel
theorem dX3_law_38 : decode cX3_law 38 = .ok (.ifCond .ne 7, 3) := by decide +kernel
theorem dX3_law_41 : decode cX3_law 41 = .ok (.sipush (-1002), 3) := by decide +kernel
theorem dX3_law_44 : decode cX3_law 44 = .ok (.ireturn, 1) := by decide +kernel
theorem dX3_law_45 : decode cX3_law 45 = .ok (.aload_n 0, 1) := by decide +kernel
theorem dX3_law_46 : decode cX3_law 46 = .ok (.invokevirtual 132, 3) := by decide +kernel
theorem dX3_law_49 : decode cX3_law 49 = .ok (.ifCond .ne 7, 3) := by decide +kernel
theorem dX3_law_52 : decode cX3_law 52 = .ok (.sipush (-1003), 3) := by decide +kernel
theorem dX3_law_55 : decode cX3_law 55 = .ok (.ireturn, 1) := by decide +kernel
theorem dX3_law_56 : decode cX3_law 56 = .ok (.iload_n 1, 1) := by decide +kernel
theorem dX3_law_57 : decode cX3_law 57 = .ok (.istore 4, 2) := by decide +kernel
theorem dX3_law_59 : decode cX3_law 59 = .ok (.iconst 1, 1) := by decide +kernel
theorem dX3_law_60 : decode cX3_law 60 = .ok (.istore 5, 2) := by decide +kernel
theorem dX3_law_62 : decode cX3_law 62 = .ok (.aload_n 0, 1) := by decide +kernel
theorem dX3_law_63 : decode cX3_law 63 = .ok (.iload_n 1, 1) := by decide +kernel
theorem dX3_law_64 : decode cX3_law 64 = .ok (.iconst 1, 1) := by decide +kernel
theorem dX3_law_65 : decode cX3_law 65 = .ok (.invokevirtual 136, 3) := by decide +kernel
theorem dX3_law_68 : decode cX3_law 68 = .ok (.istore 6, 2) := by decide +kernel
theorem dX3_law_70 : decode cX3_law 70 = .ok (.iconst 0, 1) := by decide +kernel
theorem dX3_law_71 : decode cX3_law 71 = .ok (.istore 7, 2) := by decide +kernel
theorem dX3_law_73 : decode cX3_law 73 = .ok (.iload 7, 2) := by decide +kernel
theorem dX3_law_75 : decode cX3_law 75 = .ok (.bipush 10, 2) := by decide +kernel
theorem dX3_law_77 : decode cX3_law 77 = .ok (.if_icmp .ge 62, 3) := by decide +kernel
theorem dX3_law_80 : decode cX3_law 80 = .ok (.iconst 1, 1) := by decide +kernel
theorem dX3_law_81 : decode cX3_law 81 = .ok (.istore 8, 2) := by decide +kernel
theorem dX3_law_83 : decode cX3_law 83 = .ok (.iload 8, 2) := by decide +kernel
theorem dX3_law_85 : decode cX3_law 85 = .ok (.bipush 20, 2) := by decide +kernel
theorem dX3_law_87 : decode cX3_law 87 = .ok (.if_icmp .gt 46, 3) := by decide +kernel
theorem dX3_law_90 : decode cX3_law 90 = .ok (.aload_n 0, 1) := by decide +kernel
theorem dX3_law_91 : decode cX3_law 91 = .ok (.iload_n 1, 1) := by decide +kernel
theorem dX3_law_92 : decode cX3_law 92 = .ok (.iload 7, 2) := by decide +kernel
theorem dX3_law_94 : decode cX3_law 94 = .ok (.iload_n 2, 1) := by decide +kernel
theorem dX3_law_95 : decode cX3_law 95 = .ok (.imul, 1) := by decide +kernel
theorem dX3_law_96 : decode cX3_law 96 = .ok (.iadd, 1) := by decide +kernel
theorem dX3_law_97 : decode cX3_law 97 = .ok (.iload 8, 2) := by decide +kernel
theorem dX3_law_99 : decode cX3_law 99 = .ok (.invokevirtual 136, 3) := by decide +kernel
theorem dX3_law_102 : decode cX3_law 102 = .ok (.istore 9, 2) := by decide +kernel
theorem dX3_law_104 : decode cX3_law 104 = .ok (.iload 9, 2) := by decide +kernel
theorem dX3_law_106 : decode cX3_law 106 = .ok (.iload 6, 2) := by decide +kernel
theorem dX3_law_108 : decode cX3_law 108 = .ok (.if_icmp .ge 19, 3) := by decide +kernel
theorem dX3_law_111 : decode cX3_law 111 = .ok (.iload_n 1, 1) := by decide +kernel
theorem dX3_law_112 : decode cX3_law 112 = .ok (.iload 7, 2) := by decide +kernel
theorem dX3_law_114 : decode cX3_law 114 = .ok (.iload_n 2, 1) := by decide +kernel
theorem dX3_law_115 : decode cX3_law 115 = .ok (.imul, 1) := by decide +kernel
theorem dX3_law_116 : decode cX3_law 116 = .ok (.iadd, 1) := by decide +kernel
theorem dX3_law_117 : decode cX3_law 117 = .ok (.istore 4, 2) := by decide +kernel
theorem dX3_law_119 : decode cX3_law 119 = .ok (.iload 8, 2) := by decide +kernel
theorem dX3_law_121 : decode cX3_law 121 = .ok (.istore 5, 2) := by decide +kernel
theorem dX3_law_123 : decode cX3_law 123 = .ok (.iload 9, 2) := by decide +kernel
theorem dX3_law_125 : decode cX3_law 125 = .ok (.istore 6, 2) := by decide +kernel
theorem dX3_law_127 : decode cX3_law 127 = .ok (.iinc 8 1, 3) := by decide +kernel
theorem dX3_law_130 : decode cX3_law 130 = .ok (.goto (-47), 3) := by decide +kernel
theorem dX3_law_133 : decode cX3_law 133 = .ok (.iinc 7 1, 3) := by decide +kernel
theorem dX3_law_136 : decode cX3_law 136 = .ok (.goto (-63), 3) := by decide +kernel
theorem dX3_law_139 : decode cX3_law 139 = .ok (.iload_n 3, 1) := by decide +kernel
theorem dX3_law_140 : decode cX3_law 140 = .ok (.ifCond .ne 8, 3) := by decide +kernel
theorem dX3_law_143 : decode cX3_law 143 = .ok (.iload 4, 2) := by decide +kernel
theorem dX3_law_145 : decode cX3_law 145 = .ok (.goto 15, 3) := by decide +kernel
theorem dX3_law_148 : decode cX3_law 148 = .ok (.iload_n 3, 1) := by decide +kernel
theorem dX3_law_149 : decode cX3_law 149 = .ok (.iconst 1, 1) := by decide +kernel
theorem dX3_law_150 : decode cX3_law 150 = .ok (.if_icmp .ne 8, 3) := by decide +kernel
theorem dX3_law_153 : decode cX3_law 153 = .ok (.iload 5, 2) := by decide +kernel
theorem dX3_law_155 : decode cX3_law 155 = .ok (.goto 5, 3) := by decide +kernel
theorem dX3_law_158 : decode cX3_law 158 = .ok (.iload 6, 2) := by decide +kernel
theorem dX3_law_160 : decode cX3_law 160 = .ok (.ireturn, 1) := by decide +kernel
theorem dX3_findHalves_0 : decode cX3_findHalves 0 = .ok (.iconst 0, 1) := by decide +kernel
theorem dX3_findHalves_1 : decode cX3_findHalves 1 = .ok (.istore_n 1, 1) := by decide +kernel
theorem dX3_findHalves_2 : decode cX3_findHalves 2 = .ok (.iconst 0, 1) := by decide +kernel
theorem dX3_findHalves_3 : decode cX3_findHalves 3 = .ok (.istore_n 2, 1) := by decide +kernel
theorem dX3_findHalves_4 : decode cX3_findHalves 4 = .ok (.iload_n 2, 1) := by decide +kernel
theorem dX3_findHalves_5 : decode cX3_findHalves 5 = .ok (.iconst 4, 1) := by decide +kernel
theorem dX3_findHalves_6 : decode cX3_findHalves 6 = .ok (.if_icmp .ge 59, 3) := by decide +kernel
theorem dX3_findHalves_9 : decode cX3_findHalves 9 = .ok (.aload_n 0, 1) := by decide +kernel
theorem dX3_findHalves_10 : decode cX3_findHalves 10 = .ok (.getfield 19, 3) := by decide +kernel
theorem dX3_findHalves_13 : decode cX3_findHalves 13 = .ok (.aload_n 0, 1) := by decide +kernel
theorem dX3_findHalves_14 : decode cX3_findHalves 14 = .ok (.getfield 10, 3) := by decide +kernel
theorem dX3_findHalves_17 : decode cX3_findHalves 17 = .ok (.iconst 1, 1) := by decide +kernel
theorem dX3_findHalves_18 : decode cX3_findHalves 18 = .ok (.iload_n 2, 1) := by decide +kernel
theorem dX3_findHalves_19 : decode cX3_findHalves 19 = .ok (.ishl, 1) := by decide +kernel
theorem dX3_findHalves_20 : decode cX3_findHalves 20 = .ok (.iconst (-1), 1) := by decide +kernel
theorem dX3_findHalves_21 : decode cX3_findHalves 21 = .ok (.invokevirtual 94, 3) := by decide +kernel
theorem dX3_findHalves_24 : decode cX3_findHalves 24 = .ok (.aload_n 0, 1) := by decide +kernel
theorem dX3_findHalves_25 : decode cX3_findHalves 25 = .ok (.getfield 34, 3) := by decide +kernel
theorem dX3_findHalves_28 : decode cX3_findHalves 28 = .ok (.iload_n 2, 1) := by decide +kernel
theorem dX3_findHalves_29 : decode cX3_findHalves 29 = .ok (.aload_n 0, 1) := by decide +kernel
theorem dX3_findHalves_30 : decode cX3_findHalves 30 = .ok (.getfield 19, 3) := by decide +kernel
theorem dX3_findHalves_33 : decode cX3_findHalves 33 = .ok (.iconst 1, 1) := by decide +kernel
theorem dX3_findHalves_34 : decode cX3_findHalves 34 = .ok (.iconst 2, 1) := by decide +kernel
theorem dX3_findHalves_35 : decode cX3_findHalves 35 = .ok (.invokevirtual 110, 3) := by decide +kernel
theorem dX3_findHalves_38 : decode cX3_findHalves 38 = .ok (.iastore, 1) := by decide +kernel
theorem dX3_findHalves_39 : decode cX3_findHalves 39 = .ok (.iload_n 1, 1) := by decide +kernel
theorem dX3_findHalves_40 : decode cX3_findHalves 40 = .ok (.ifCond .ne 13, 3) := by decide +kernel
theorem dX3_findHalves_43 : decode cX3_findHalves 43 = .ok (.aload_n 0, 1) := by decide +kernel
theorem dX3_findHalves_44 : decode cX3_findHalves 44 = .ok (.getfield 34, 3) := by decide +kernel
theorem dX3_findHalves_47 : decode cX3_findHalves 47 = .ok (.iload_n 2, 1) := by decide +kernel
theorem dX3_findHalves_48 : decode cX3_findHalves 48 = .ok (.iaload, 1) := by decide +kernel
theorem dX3_findHalves_49 : decode cX3_findHalves 49 = .ok (.iconst (-1), 1) := by decide +kernel
theorem dX3_findHalves_50 : decode cX3_findHalves 50 = .ok (.if_icmp .eq 7, 3) := by decide +kernel
theorem dX3_findHalves_53 : decode cX3_findHalves 53 = .ok (.iconst 1, 1) := by decide +kernel
theorem dX3_findHalves_54 : decode cX3_findHalves 54 = .ok (.goto 4, 3) := by decide +kernel
theorem dX3_findHalves_57 : decode cX3_findHalves 57 = .ok (.iconst 0, 1) := by decide +kernel
theorem dX3_findHalves_58 : decode cX3_findHalves 58 = .ok (.istore_n 1, 1) := by decide +kernel
theorem dX3_findHalves_59 : decode cX3_findHalves 59 = .ok (.iinc 2 1, 3) := by decide +kernel
theorem dX3_findHalves_62 : decode cX3_findHalves 62 = .ok (.goto (-58), 3) := by decide +kernel
theorem dX3_findHalves_65 : decode cX3_findHalves 65 = .ok (.iload_n 1, 1) := by decide +kernel
theorem dX3_findHalves_66 : decode cX3_findHalves 66 = .ok (.ireturn, 1) := by decide +kernel
theorem dX3_missOfHalves_0 : decode cX3_missOfHalves 0 = .ok (.iconst 0, 1) := by decide +kernel
theorem dX3_missOfHalves_1 : decode cX3_missOfHalves 1 = .ok (.istore_n 3, 1) := by decide +kernel
theorem dX3_missOfHalves_2 : decode cX3_missOfHalves 2 = .ok (.iconst 0, 1) := by decide +kernel
theorem dX3_missOfHalves_3 : decode cX3_missOfHalves 3 = .ok (.istore 4, 2) := by decide +kernel
theorem dX3_missOfHalves_5 : decode cX3_missOfHalves 5 = .ok (.iload 4, 2) := by decide +kernel
theorem dX3_missOfHalves_7 : decode cX3_missOfHalves 7 = .ok (.iconst 4, 1) := by decide +kernel
theorem dX3_missOfHalves_8 : decode cX3_missOfHalves 8 = .ok (.if_icmp .ge 41, 3) := by decide +kernel
theorem dX3_missOfHalves_11 : decode cX3_missOfHalves 11 = .ok (.aload_n 0, 1) := by decide +kernel
theorem dX3_missOfHalves_12 : decode cX3_missOfHalves 12 = .ok (.getfield 34, 3) := by decide +kernel
theorem dX3_missOfHalves_15 : decode cX3_missOfHalves 15 = .ok (.iload 4, 2) := by decide +kernel
theorem dX3_missOfHalves_17 : decode cX3_missOfHalves 17 = .ok (.iaload, 1) := by decide +kernel
theorem dX3_missOfHalves_18 : decode cX3_missOfHalves 18 = .ok (.iconst (-1), 1) := by decide +kernel
theorem dX3_missOfHalves_19 : decode cX3_missOfHalves 19 = .ok (.if_icmp .eq 24, 3) := by decide +kernel
theorem dX3_missOfHalves_22 : decode cX3_missOfHalves 22 = .ok (.iload_n 3, 1) := by decide +kernel
theorem dX3_missOfHalves_23 : decode cX3_missOfHalves 23 = .ok (.aload_n 0, 1) := by decide +kernel
theorem dX3_missOfHalves_24 : decode cX3_missOfHalves 24 = .ok (.getfield 34, 3) := by decide +kernel
theorem dX3_missOfHalves_27 : decode cX3_missOfHalves 27 = .ok (.iload 4, 2) := by decide +kernel
theorem dX3_missOfHalves_29 : decode cX3_missOfHalves 29 = .ok (.iaload, 1) := by decide +kernel
theorem dX3_missOfHalves_30 : decode cX3_missOfHalves 30 = .ok (.iload_n 1, 1) := by decide +kernel
theorem dX3_missOfHalves_31 : decode cX3_missOfHalves 31 = .ok (.iload_n 2, 1) := by decide +kernel
theorem dX3_missOfHalves_32 : decode cX3_missOfHalves 32 = .ok (.iload 4, 2) := by decide +kernel
theorem dX3_missOfHalves_34 : decode cX3_missOfHalves 34 = .ok (.invokestatic 128, 3) := by decide +kernel
theorem dX3_missOfHalves_37 : decode cX3_missOfHalves 37 = .ok (.isub, 1) := by decide +kernel
theorem dX3_missOfHalves_38 : decode cX3_missOfHalves 38 = .ok (.invokestatic 140, 3) := by decide +kernel
theorem dX3_missOfHalves_41 : decode cX3_missOfHalves 41 = .ok (.iadd, 1) := by decide +kernel
theorem dX3_missOfHalves_42 : decode cX3_missOfHalves 42 = .ok (.istore_n 3, 1) := by decide +kernel
theorem dX3_missOfHalves_43 : decode cX3_missOfHalves 43 = .ok (.iinc 4 1, 3) := by decide +kernel
theorem dX3_missOfHalves_46 : decode cX3_missOfHalves 46 = .ok (.goto (-41), 3) := by decide +kernel
theorem dX3_missOfHalves_49 : decode cX3_missOfHalves 49 = .ok (.iload_n 3, 1) := by decide +kernel
theorem dX3_missOfHalves_50 : decode cX3_missOfHalves 50 = .ok (.ireturn, 1) := by decide +kernel
theorem dX3_lawAt_0 : decode cX3_lawAt 0 = .ok (.iload_n 0, 1) := by decide +kernel
theorem dX3_lawAt_1 : decode cX3_lawAt 1 = .ok (.istore_n 3, 1) := by decide +kernel
theorem dX3_lawAt_2 : decode cX3_lawAt 2 = .ok (.iconst 0, 1) := by decide +kernel
theorem dX3_lawAt_3 : decode cX3_lawAt 3 = .ok (.istore 4, 2) := by decide +kernel
theorem dX3_lawAt_5 : decode cX3_lawAt 5 = .ok (.iload 4, 2) := by decide +kernel
theorem dX3_lawAt_7 : decode cX3_lawAt 7 = .ok (.iload_n 2, 1) := by decide +kernel
theorem dX3_lawAt_8 : decode cX3_lawAt 8 = .ok (.if_icmp .ge 21, 3) := by decide +kernel
theorem dX3_lawAt_11 : decode cX3_lawAt 11 = .ok (.iload_n 3, 1) := by decide +kernel
theorem dX3_lawAt_12 : decode cX3_lawAt 12 = .ok (.bipush 10, 2) := by decide +kernel
theorem dX3_lawAt_14 : decode cX3_lawAt 14 = .ok (.imul, 1) := by decide +kernel
theorem dX3_lawAt_15 : decode cX3_lawAt 15 = .ok (.bipush 10, 2) := by decide +kernel
theorem dX3_lawAt_17 : decode cX3_lawAt 17 = .ok (.iload_n 1, 1) := by decide +kernel
theorem dX3_lawAt_18 : decode cX3_lawAt 18 = .ok (.iadd, 1) := by decide +kernel
theorem dX3_lawAt_19 : decode cX3_lawAt 19 = .ok (.invokestatic 145, 3) := by decide +kernel
theorem dX3_lawAt_22 : decode cX3_lawAt 22 = .ok (.istore_n 3, 1) := by decide +kernel
theorem dX3_lawAt_23 : decode cX3_lawAt 23 = .ok (.iinc 4 1, 3) := by decide +kernel
theorem dX3_lawAt_26 : decode cX3_lawAt 26 = .ok (.goto (-21), 3) := by decide +kernel
theorem dX3_lawAt_29 : decode cX3_lawAt 29 = .ok (.iload_n 3, 1) := by decide +kernel
theorem dX3_lawAt_30 : decode cX3_lawAt 30 = .ok (.ireturn, 1) := by decide +kernel
theorem dX3_step_0 : decode cX3_step 0 = .ok (.iload_n 1, 1) := by decide +kernel
theorem dX3_step_1 : decode cX3_step 1 = .ok (.invokestatic 122, 3) := by decide +kernel
theorem dX3_step_4 : decode cX3_step 4 = .ok (.ifCond .eq 14, 3) := by decide +kernel
theorem dX3_step_7 : decode cX3_step 7 = .ok (.iload_n 2, 1) := by decide +kernel
theorem dX3_step_8 : decode cX3_step 8 = .ok (.iconst 1, 1) := by decide +kernel
theorem dX3_step_9 : decode cX3_step 9 = .ok (.sipush 500, 3) := by decide +kernel
theorem dX3_step_12 : decode cX3_step 12 = .ok (.invokestatic 75, 3) := by decide +kernel
theorem dX3_step_15 : decode cX3_step 15 = .ok (.ifCond .ne 7, 3) := by decide +kernel
theorem dX3_step_18 : decode cX3_step 18 = .ok (.sipush (-1002), 3) := by decide +kernel
theorem dX3_step_21 : decode cX3_step 21 = .ok (.ireturn, 1) := by decide +kernel
theorem dX3_step_22 : decode cX3_step 22 = .ok (.aload_n 0, 1) := by decide +kernel
theorem dX3_step_23 : decode cX3_step 23 = .ok (.getfield 26, 3) := by decide +kernel
theorem dX3_step_26 : decode cX3_step 26 = .ok (.getfield 148, 3) := by decide +kernel
theorem dX3_step_29 : decode cX3_step 29 = .ok (.bipush 10, 2) := by decide +kernel
theorem dX3_step_31 : decode cX3_step 31 = .ok (.if_icmp .lt 7, 3) := by decide +kernel
theorem dX3_step_34 : decode cX3_step 34 = .ok (.sipush (-1004), 3) := by decide +kernel
theorem dX3_step_37 : decode cX3_step 37 = .ok (.ireturn, 1) := by decide +kernel
theorem dX3_step_38 : decode cX3_step 38 = .ok (.aload_n 0, 1) := by decide +kernel
theorem dX3_step_39 : decode cX3_step 39 = .ok (.getfield 26, 3) := by decide +kernel
theorem dX3_step_42 : decode cX3_step 42 = .ok (.getfield 149, 3) := by decide +kernel
theorem dX3_step_45 : decode cX3_step 45 = .ok (.aload_n 0, 1) := by decide +kernel
theorem dX3_step_46 : decode cX3_step 46 = .ok (.getfield 26, 3) := by decide +kernel
theorem dX3_step_49 : decode cX3_step 49 = .ok (.getfield 148, 3) := by decide +kernel
theorem dX3_step_52 : decode cX3_step 52 = .ok (.iload_n 1, 1) := by decide +kernel
theorem dX3_step_53 : decode cX3_step 53 = .ok (.iastore, 1) := by decide +kernel
theorem dX3_step_54 : decode cX3_step 54 = .ok (.aload_n 0, 1) := by decide +kernel
theorem dX3_step_55 : decode cX3_step 55 = .ok (.getfield 26, 3) := by decide +kernel
theorem dX3_step_58 : decode cX3_step 58 = .ok (.getfield 150, 3) := by decide +kernel
theorem dX3_step_61 : decode cX3_step 61 = .ok (.aload_n 0, 1) := by decide +kernel
theorem dX3_step_62 : decode cX3_step 62 = .ok (.getfield 26, 3) := by decide +kernel
theorem dX3_step_65 : decode cX3_step 65 = .ok (.getfield 148, 3) := by decide +kernel
theorem dX3_step_68 : decode cX3_step 68 = .ok (.iload_n 2, 1) := by decide +kernel
theorem dX3_step_69 : decode cX3_step 69 = .ok (.iastore, 1) := by decide +kernel
theorem dX3_step_70 : decode cX3_step 70 = .ok (.aload_n 0, 1) := by decide +kernel
theorem dX3_step_71 : decode cX3_step 71 = .ok (.getfield 26, 3) := by decide +kernel
theorem dX3_step_74 : decode cX3_step 74 = .ok (.dup, 1) := by decide +kernel
theorem dX3_step_75 : decode cX3_step 75 = .ok (.getfield 148, 3) := by decide +kernel
theorem dX3_step_78 : decode cX3_step 78 = .ok (.iconst 1, 1) := by decide +kernel
theorem dX3_step_79 : decode cX3_step 79 = .ok (.iadd, 1) := by decide +kernel
theorem dX3_step_80 : decode cX3_step 80 = .ok (.putfield 148, 3) := by decide +kernel
theorem dX3_step_83 : decode cX3_step 83 = .ok (.aload_n 0, 1) := by decide +kernel
theorem dX3_step_84 : decode cX3_step 84 = .ok (.getfield 26, 3) := by decide +kernel
theorem dX3_step_87 : decode cX3_step 87 = .ok (.getfield 148, 3) := by decide +kernel
theorem dX3_step_90 : decode cX3_step 90 = .ok (.ireturn, 1) := by decide +kernel
theorem dX3_clear_0 : decode cX3_clear 0 = .ok (.aload_n 0, 1) := by decide +kernel
theorem dX3_clear_1 : decode cX3_clear 1 = .ok (.getfield 26, 3) := by decide +kernel
theorem dX3_clear_4 : decode cX3_clear 4 = .ok (.getfield 148, 3) := by decide +kernel
theorem dX3_clear_7 : decode cX3_clear 7 = .ok (.istore_n 1, 1) := by decide +kernel
theorem dX3_clear_8 : decode cX3_clear 8 = .ok (.aload_n 0, 1) := by decide +kernel
theorem dX3_clear_9 : decode cX3_clear 9 = .ok (.getfield 26, 3) := by decide +kernel
theorem dX3_clear_12 : decode cX3_clear 12 = .ok (.iconst 0, 1) := by decide +kernel
theorem dX3_clear_13 : decode cX3_clear 13 = .ok (.putfield 148, 3) := by decide +kernel
theorem dX3_clear_16 : decode cX3_clear 16 = .ok (.iload_n 1, 1) := by decide +kernel
theorem dX3_clear_17 : decode cX3_clear 17 = .ok (.ireturn, 1) := by decide +kernel
theorem dX3_used_0 : decode cX3_used 0 = .ok (.iload_n 1, 1) := by decide +kernel
theorem dX3_used_1 : decode cX3_used 1 = .ok (.iconst 1, 1) := by decide +kernel
theorem dX3_used_2 : decode cX3_used 2 = .ok (.ldc 139, 2) := by decide +kernel
theorem dX3_used_4 : decode cX3_used 4 = .ok (.invokestatic 75, 3) := by decide +kernel
theorem dX3_used_7 : decode cX3_used 7 = .ok (.ifCond .ne 7, 3) := by decide +kernel
theorem dX3_used_10 : decode cX3_used 10 = .ok (.sipush (-1002), 3) := by decide +kernel
theorem dX3_used_13 : decode cX3_used 13 = .ok (.ireturn, 1) := by decide +kernel
theorem dX3_used_14 : decode cX3_used 14 = .ok (.iconst 0, 1) := by decide +kernel
theorem dX3_used_15 : decode cX3_used 15 = .ok (.istore_n 2, 1) := by decide +kernel
theorem dX3_used_16 : decode cX3_used 16 = .ok (.iconst 0, 1) := by decide +kernel
theorem dX3_used_17 : decode cX3_used 17 = .ok (.istore_n 3, 1) := by decide +kernel
theorem dX3_used_18 : decode cX3_used 18 = .ok (.iload_n 3, 1) := by decide +kernel
theorem dX3_used_19 : decode cX3_used 19 = .ok (.aload_n 0, 1) := by decide +kernel
theorem dX3_used_20 : decode cX3_used 20 = .ok (.getfield 26, 3) := by decide +kernel
theorem dX3_used_23 : decode cX3_used 23 = .ok (.getfield 148, 3) := by decide +kernel
theorem dX3_used_26 : decode cX3_used 26 = .ok (.if_icmp .ge 39, 3) := by decide +kernel
theorem dX3_used_29 : decode cX3_used 29 = .ok (.iload_n 2, 1) := by decide +kernel
theorem dX3_used_30 : decode cX3_used 30 = .ok (.aload_n 0, 1) := by decide +kernel
theorem dX3_used_31 : decode cX3_used 31 = .ok (.getfield 26, 3) := by decide +kernel
theorem dX3_used_34 : decode cX3_used 34 = .ok (.getfield 150, 3) := by decide +kernel
theorem dX3_used_37 : decode cX3_used 37 = .ok (.iload_n 3, 1) := by decide +kernel
theorem dX3_used_38 : decode cX3_used 38 = .ok (.iaload, 1) := by decide +kernel
theorem dX3_used_39 : decode cX3_used 39 = .ok (.aload_n 0, 1) := by decide +kernel
theorem dX3_used_40 : decode cX3_used 40 = .ok (.getfield 30, 3) := by decide +kernel
theorem dX3_used_43 : decode cX3_used 43 = .ok (.aload_n 0, 1) := by decide +kernel
theorem dX3_used_44 : decode cX3_used 44 = .ok (.getfield 26, 3) := by decide +kernel
theorem dX3_used_47 : decode cX3_used 47 = .ok (.getfield 149, 3) := by decide +kernel
theorem dX3_used_50 : decode cX3_used 50 = .ok (.iload_n 3, 1) := by decide +kernel
theorem dX3_used_51 : decode cX3_used 51 = .ok (.iaload, 1) := by decide +kernel
theorem dX3_used_52 : decode cX3_used 52 = .ok (.iaload, 1) := by decide +kernel
theorem dX3_used_53 : decode cX3_used 53 = .ok (.imul, 1) := by decide +kernel
theorem dX3_used_54 : decode cX3_used 54 = .ok (.bipush 10, 2) := by decide +kernel
theorem dX3_used_56 : decode cX3_used 56 = .ok (.imul, 1) := by decide +kernel
theorem dX3_used_57 : decode cX3_used 57 = .ok (.iadd, 1) := by decide +kernel
theorem dX3_used_58 : decode cX3_used 58 = .ok (.istore_n 2, 1) := by decide +kernel
theorem dX3_used_59 : decode cX3_used 59 = .ok (.iinc 3 1, 3) := by decide +kernel
theorem dX3_used_62 : decode cX3_used 62 = .ok (.goto (-44), 3) := by decide +kernel
theorem dX3_used_65 : decode cX3_used 65 = .ok (.iload_n 2, 1) := by decide +kernel
theorem dX3_used_66 : decode cX3_used 66 = .ok (.iload_n 1, 1) := by decide +kernel
theorem dX3_used_67 : decode cX3_used 67 = .ok (.invokestatic 145, 3) := by decide +kernel
theorem dX3_used_70 : decode cX3_used 70 = .ok (.ireturn, 1) := by decide +kernel
theorem dX3_fails_0 : decode cX3_fails 0 = .ok (.iload_n 1, 1) := by decide +kernel
theorem dX3_fails_1 : decode cX3_fails 1 = .ok (.iconst 1, 1) := by decide +kernel
theorem dX3_fails_2 : decode cX3_fails 2 = .ok (.ldc 139, 2) := by decide +kernel
theorem dX3_fails_4 : decode cX3_fails 4 = .ok (.invokestatic 75, 3) := by decide +kernel
theorem dX3_fails_7 : decode cX3_fails 7 = .ok (.ifCond .ne 7, 3) := by decide +kernel
theorem dX3_fails_10 : decode cX3_fails 10 = .ok (.sipush (-1002), 3) := by decide +kernel
theorem dX3_fails_13 : decode cX3_fails 13 = .ok (.ireturn, 1) := by decide +kernel
theorem dX3_fails_14 : decode cX3_fails 14 = .ok (.iload_n 1, 1) := by decide +kernel
theorem dX3_fails_15 : decode cX3_fails 15 = .ok (.bipush 10, 2) := by decide +kernel
theorem dX3_fails_17 : decode cX3_fails 17 = .ok (.imul, 1) := by decide +kernel
theorem dX3_fails_18 : decode cX3_fails 18 = .ok (.istore_n 2, 1) := by decide +kernel
theorem dX3_fails_19 : decode cX3_fails 19 = .ok (.iconst 0, 1) := by decide +kernel
theorem dX3_fails_20 : decode cX3_fails 20 = .ok (.istore_n 3, 1) := by decide +kernel
theorem dX3_fails_21 : decode cX3_fails 21 = .ok (.iconst 0, 1) := by decide +kernel
theorem dX3_fails_22 : decode cX3_fails 22 = .ok (.istore 4, 2) := by decide +kernel
theorem dX3_fails_24 : decode cX3_fails 24 = .ok (.iload 4, 2) := by decide +kernel
theorem dX3_fails_26 : decode cX3_fails 26 = .ok (.aload_n 0, 1) := by decide +kernel
theorem dX3_fails_27 : decode cX3_fails 27 = .ok (.getfield 26, 3) := by decide +kernel
theorem dX3_fails_30 : decode cX3_fails 30 = .ok (.getfield 148, 3) := by decide +kernel
theorem dX3_fails_33 : decode cX3_fails 33 = .ok (.if_icmp .ge 81, 3) := by decide +kernel
theorem dX3_fails_36 : decode cX3_fails 36 = .ok (.aload_n 0, 1) := by decide +kernel
theorem dX3_fails_37 : decode cX3_fails 37 = .ok (.getfield 30, 3) := by decide +kernel
theorem dX3_fails_40 : decode cX3_fails 40 = .ok (.aload_n 0, 1) := by decide +kernel
theorem dX3_fails_41 : decode cX3_fails 41 = .ok (.getfield 26, 3) := by decide +kernel
theorem dX3_fails_44 : decode cX3_fails 44 = .ok (.getfield 149, 3) := by decide +kernel
theorem dX3_fails_47 : decode cX3_fails 47 = .ok (.iload 4, 2) := by decide +kernel
theorem dX3_fails_49 : decode cX3_fails 49 = .ok (.iaload, 1) := by decide +kernel
theorem dX3_fails_50 : decode cX3_fails 50 = .ok (.iaload, 1) := by decide +kernel
theorem dX3_fails_51 : decode cX3_fails 51 = .ok (.istore 5, 2) := by decide +kernel
theorem dX3_fails_53 : decode cX3_fails 53 = .ok (.aload_n 0, 1) := by decide +kernel
theorem dX3_fails_54 : decode cX3_fails 54 = .ok (.getfield 26, 3) := by decide +kernel
theorem dX3_fails_57 : decode cX3_fails 57 = .ok (.getfield 150, 3) := by decide +kernel
theorem dX3_fails_60 : decode cX3_fails 60 = .ok (.iload 4, 2) := by decide +kernel
theorem dX3_fails_62 : decode cX3_fails 62 = .ok (.iaload, 1) := by decide +kernel
theorem dX3_fails_63 : decode cX3_fails 63 = .ok (.iload 5, 2) := by decide +kernel
theorem dX3_fails_65 : decode cX3_fails 65 = .ok (.imul, 1) := by decide +kernel
theorem dX3_fails_66 : decode cX3_fails 66 = .ok (.iload_n 2, 1) := by decide +kernel
theorem dX3_fails_67 : decode cX3_fails 67 = .ok (.if_icmp .lt 12, 3) := by decide +kernel
theorem dX3_fails_70 : decode cX3_fails 70 = .ok (.iload_n 3, 1) := by decide +kernel
theorem dX3_fails_71 : decode cX3_fails 71 = .ok (.iload_n 2, 1) := by decide +kernel
theorem dX3_fails_72 : decode cX3_fails 72 = .ok (.iload 5, 2) := by decide +kernel
theorem dX3_fails_74 : decode cX3_fails 74 = .ok (.invokestatic 153, 3) := by decide +kernel
theorem dX3_fails_77 : decode cX3_fails 77 = .ok (.iadd, 1) := by decide +kernel
theorem dX3_fails_78 : decode cX3_fails 78 = .ok (.ireturn, 1) := by decide +kernel
theorem dX3_fails_79 : decode cX3_fails 79 = .ok (.iload_n 2, 1) := by decide +kernel
theorem dX3_fails_80 : decode cX3_fails 80 = .ok (.aload_n 0, 1) := by decide +kernel
theorem dX3_fails_81 : decode cX3_fails 81 = .ok (.getfield 26, 3) := by decide +kernel
theorem dX3_fails_84 : decode cX3_fails 84 = .ok (.getfield 150, 3) := by decide +kernel
theorem dX3_fails_87 : decode cX3_fails 87 = .ok (.iload 4, 2) := by decide +kernel
theorem dX3_fails_89 : decode cX3_fails 89 = .ok (.iaload, 1) := by decide +kernel
theorem dX3_fails_90 : decode cX3_fails 90 = .ok (.iload 5, 2) := by decide +kernel
theorem dX3_fails_92 : decode cX3_fails 92 = .ok (.imul, 1) := by decide +kernel
theorem dX3_fails_93 : decode cX3_fails 93 = .ok (.isub, 1) := by decide +kernel
theorem dX3_fails_94 : decode cX3_fails 94 = .ok (.istore_n 2, 1) := by decide +kernel
theorem dX3_fails_95 : decode cX3_fails 95 = .ok (.iload_n 3, 1) := by decide +kernel
theorem dX3_fails_96 : decode cX3_fails 96 = .ok (.aload_n 0, 1) := by decide +kernel
theorem dX3_fails_97 : decode cX3_fails 97 = .ok (.getfield 26, 3) := by decide +kernel
theorem dX3_fails_100 : decode cX3_fails 100 = .ok (.getfield 150, 3) := by decide +kernel
theorem dX3_fails_103 : decode cX3_fails 103 = .ok (.iload 4, 2) := by decide +kernel
theorem dX3_fails_105 : decode cX3_fails 105 = .ok (.iaload, 1) := by decide +kernel
theorem dX3_fails_106 : decode cX3_fails 106 = .ok (.iadd, 1) := by decide +kernel
theorem dX3_fails_107 : decode cX3_fails 107 = .ok (.istore_n 3, 1) := by decide +kernel
theorem dX3_fails_108 : decode cX3_fails 108 = .ok (.iinc 4 1, 3) := by decide +kernel
theorem dX3_fails_111 : decode cX3_fails 111 = .ok (.goto (-87), 3) := by decide +kernel
theorem dX3_fails_114 : decode cX3_fails 114 = .ok (.iconst (-1), 1) := by decide +kernel
theorem dX3_fails_115 : decode cX3_fails 115 = .ok (.ireturn, 1) := by decide +kernel
theorem dX3_end_0 : decode cX3_end 0 = .ok (.iload_n 1, 1) := by decide +kernel
theorem dX3_end_1 : decode cX3_end 1 = .ok (.iconst 1, 1) := by decide +kernel
theorem dX3_end_2 : decode cX3_end 2 = .ok (.bipush 12, 2) := by decide +kernel
theorem dX3_end_4 : decode cX3_end 4 = .ok (.invokestatic 75, 3) := by decide +kernel
theorem dX3_end_7 : decode cX3_end 7 = .ok (.ifCond .eq 33, 3) := by decide +kernel
theorem dX3_end_10 : decode cX3_end 10 = .ok (.iload_n 2, 1) := by decide +kernel
theorem dX3_end_11 : decode cX3_end 11 = .ok (.iconst 0, 1) := by decide +kernel
theorem dX3_end_12 : decode cX3_end 12 = .ok (.iload_n 1, 1) := by decide +kernel
theorem dX3_end_13 : decode cX3_end 13 = .ok (.invokestatic 75, 3) := by decide +kernel
theorem dX3_end_16 : decode cX3_end 16 = .ok (.ifCond .eq 24, 3) := by decide +kernel
theorem dX3_end_19 : decode cX3_end 19 = .ok (.iload_n 3, 1) := by decide +kernel
theorem dX3_end_20 : decode cX3_end 20 = .ok (.bipush 50, 2) := by decide +kernel
theorem dX3_end_22 : decode cX3_end 22 = .ok (.bipush 99, 2) := by decide +kernel
theorem dX3_end_24 : decode cX3_end 24 = .ok (.invokestatic 75, 3) := by decide +kernel
theorem dX3_end_27 : decode cX3_end 27 = .ok (.ifCond .eq 13, 3) := by decide +kernel
theorem dX3_end_30 : decode cX3_end 30 = .ok (.iload 4, 2) := by decide +kernel
theorem dX3_end_32 : decode cX3_end 32 = .ok (.iconst 0, 1) := by decide +kernel
theorem dX3_end_33 : decode cX3_end 33 = .ok (.iconst 1, 1) := by decide +kernel
theorem dX3_end_34 : decode cX3_end 34 = .ok (.invokestatic 75, 3) := by decide +kernel
theorem dX3_end_37 : decode cX3_end 37 = .ok (.ifCond .ne 7, 3) := by decide +kernel
theorem dX3_end_40 : decode cX3_end 40 = .ok (.sipush (-1002), 3) := by decide +kernel
theorem dX3_end_43 : decode cX3_end 43 = .ok (.ireturn, 1) := by decide +kernel
theorem dX3_end_44 : decode cX3_end 44 = .ok (.iload 4, 2) := by decide +kernel
theorem dX3_end_46 : decode cX3_end 46 = .ok (.ifCond .ne 15, 3) := by decide +kernel
theorem dX3_end_49 : decode cX3_end 49 = .ok (.iload_n 1, 1) := by decide +kernel
theorem dX3_end_50 : decode cX3_end 50 = .ok (.iload_n 2, 1) := by decide +kernel
theorem dX3_end_51 : decode cX3_end 51 = .ok (.bipush 100, 2) := by decide +kernel
theorem dX3_end_53 : decode cX3_end 53 = .ok (.iload_n 3, 1) := by decide +kernel
theorem dX3_end_54 : decode cX3_end 54 = .ok (.isub, 1) := by decide +kernel
theorem dX3_end_55 : decode cX3_end 55 = .ok (.invokestatic 156, 3) := by decide +kernel
theorem dX3_end_58 : decode cX3_end 58 = .ok (.goto 12, 3) := by decide +kernel
theorem dX3_end_61 : decode cX3_end 61 = .ok (.iload_n 1, 1) := by decide +kernel
theorem dX3_end_62 : decode cX3_end 62 = .ok (.iload_n 2, 1) := by decide +kernel
theorem dX3_end_63 : decode cX3_end 63 = .ok (.bipush 100, 2) := by decide +kernel
theorem dX3_end_65 : decode cX3_end 65 = .ok (.iload_n 3, 1) := by decide +kernel
theorem dX3_end_66 : decode cX3_end 66 = .ok (.isub, 1) := by decide +kernel
theorem dX3_end_67 : decode cX3_end 67 = .ok (.invokestatic 159, 3) := by decide +kernel
theorem dX3_end_70 : decode cX3_end 70 = .ok (.ireturn, 1) := by decide +kernel
theorem dX3_lowEnd_0 : decode cX3_lowEnd 0 = .ok (.bipush 10, 2) := by decide +kernel
theorem dX3_lowEnd_2 : decode cX3_lowEnd 2 = .ok (.istore_n 3, 1) := by decide +kernel
theorem dX3_lowEnd_3 : decode cX3_lowEnd 3 = .ok (.iload_n 3, 1) := by decide +kernel
theorem dX3_lowEnd_4 : decode cX3_lowEnd 4 = .ok (.ifCond .le 26, 3) := by decide +kernel
theorem dX3_lowEnd_7 : decode cX3_lowEnd 7 = .ok (.iload_n 2, 1) := by decide +kernel
theorem dX3_lowEnd_8 : decode cX3_lowEnd 8 = .ok (.iload_n 0, 1) := by decide +kernel
theorem dX3_lowEnd_9 : decode cX3_lowEnd 9 = .ok (.iload_n 0, 1) := by decide +kernel
theorem dX3_lowEnd_10 : decode cX3_lowEnd 10 = .ok (.iload_n 1, 1) := by decide +kernel
theorem dX3_lowEnd_11 : decode cX3_lowEnd 11 = .ok (.iload_n 0, 1) := by decide +kernel
theorem dX3_lowEnd_12 : decode cX3_lowEnd 12 = .ok (.iload_n 3, 1) := by decide +kernel
theorem dX3_lowEnd_13 : decode cX3_lowEnd 13 = .ok (.invokestatic 162, 3) := by decide +kernel
theorem dX3_lowEnd_16 : decode cX3_lowEnd 16 = .ok (.invokestatic 166, 3) := by decide +kernel
theorem dX3_lowEnd_19 : decode cX3_lowEnd 19 = .ok (.ifCond .eq 5, 3) := by decide +kernel
theorem dX3_lowEnd_22 : decode cX3_lowEnd 22 = .ok (.iload_n 3, 1) := by decide +kernel
theorem dX3_lowEnd_23 : decode cX3_lowEnd 23 = .ok (.ireturn, 1) := by decide +kernel
theorem dX3_lowEnd_24 : decode cX3_lowEnd 24 = .ok (.iinc 3 (-1), 3) := by decide +kernel
theorem dX3_lowEnd_27 : decode cX3_lowEnd 27 = .ok (.goto (-24), 3) := by decide +kernel
theorem dX3_lowEnd_30 : decode cX3_lowEnd 30 = .ok (.iconst 0, 1) := by decide +kernel
theorem dX3_lowEnd_31 : decode cX3_lowEnd 31 = .ok (.ireturn, 1) := by decide +kernel
theorem dX3_highEnd_0 : decode cX3_highEnd 0 = .ok (.iconst 0, 1) := by decide +kernel
theorem dX3_highEnd_1 : decode cX3_highEnd 1 = .ok (.istore_n 3, 1) := by decide +kernel
theorem dX3_highEnd_2 : decode cX3_highEnd 2 = .ok (.iload_n 3, 1) := by decide +kernel
theorem dX3_highEnd_3 : decode cX3_highEnd 3 = .ok (.bipush 10, 2) := by decide +kernel
theorem dX3_highEnd_5 : decode cX3_highEnd 5 = .ok (.if_icmp .ge 26, 3) := by decide +kernel
theorem dX3_highEnd_8 : decode cX3_highEnd 8 = .ok (.iload_n 2, 1) := by decide +kernel
theorem dX3_highEnd_9 : decode cX3_highEnd 9 = .ok (.iload_n 0, 1) := by decide +kernel
theorem dX3_highEnd_10 : decode cX3_highEnd 10 = .ok (.iload_n 0, 1) := by decide +kernel
theorem dX3_highEnd_11 : decode cX3_highEnd 11 = .ok (.iconst 0, 1) := by decide +kernel
theorem dX3_highEnd_12 : decode cX3_highEnd 12 = .ok (.iload_n 1, 1) := by decide +kernel
theorem dX3_highEnd_13 : decode cX3_highEnd 13 = .ok (.iload_n 3, 1) := by decide +kernel
theorem dX3_highEnd_14 : decode cX3_highEnd 14 = .ok (.invokestatic 162, 3) := by decide +kernel
theorem dX3_highEnd_17 : decode cX3_highEnd 17 = .ok (.invokestatic 166, 3) := by decide +kernel
theorem dX3_highEnd_20 : decode cX3_highEnd 20 = .ok (.ifCond .eq 5, 3) := by decide +kernel
theorem dX3_highEnd_23 : decode cX3_highEnd 23 = .ok (.iload_n 3, 1) := by decide +kernel
theorem dX3_highEnd_24 : decode cX3_highEnd 24 = .ok (.ireturn, 1) := by decide +kernel
theorem dX3_highEnd_25 : decode cX3_highEnd 25 = .ok (.iinc 3 1, 3) := by decide +kernel
theorem dX3_highEnd_28 : decode cX3_highEnd 28 = .ok (.goto (-26), 3) := by decide +kernel
theorem dX3_highEnd_31 : decode cX3_highEnd 31 = .ok (.bipush 10, 2) := by decide +kernel
theorem dX3_highEnd_33 : decode cX3_highEnd 33 = .ok (.ireturn, 1) := by decide +kernel
theorem dX3_isAtMost_0 : decode cX3_isAtMost 0 = .ok (.lload_n 2, 1) := by decide +kernel
theorem dX3_isAtMost_1 : decode cX3_isAtMost 1 = .ok (.ldc2_w 170, 3) := by decide +kernel
theorem dX3_isAtMost_4 : decode cX3_isAtMost 4 = .ok (.lmul, 1) := by decide +kernel
theorem dX3_isAtMost_5 : decode cX3_isAtMost 5 = .ok (.iload_n 0, 1) := by decide +kernel
theorem dX3_isAtMost_6 : decode cX3_isAtMost 6 = .ok (.i2l, 1) := by decide +kernel
theorem dX3_isAtMost_7 : decode cX3_isAtMost 7 = .ok (.bipush 10, 2) := by decide +kernel
theorem dX3_isAtMost_9 : decode cX3_isAtMost 9 = .ok (.iload_n 1, 1) := by decide +kernel
theorem dX3_isAtMost_10 : decode cX3_isAtMost 10 = .ok (.invokestatic 172, 3) := by decide +kernel
theorem dX3_isAtMost_13 : decode cX3_isAtMost 13 = .ok (.lmul, 1) := by decide +kernel
theorem dX3_isAtMost_14 : decode cX3_isAtMost 14 = .ok (.lcmp, 1) := by decide +kernel
theorem dX3_isAtMost_15 : decode cX3_isAtMost 15 = .ok (.ifCond .gt 7, 3) := by decide +kernel
theorem dX3_isAtMost_18 : decode cX3_isAtMost 18 = .ok (.iconst 1, 1) := by decide +kernel
theorem dX3_isAtMost_19 : decode cX3_isAtMost 19 = .ok (.goto 4, 3) := by decide +kernel
theorem dX3_isAtMost_22 : decode cX3_isAtMost 22 = .ok (.iconst 0, 1) := by decide +kernel
theorem dX3_isAtMost_23 : decode cX3_isAtMost 23 = .ok (.ireturn, 1) := by decide +kernel
theorem dX3_casesOf_0 : decode cX3_casesOf 0 = .ok (.lconst 0, 1) := by decide +kernel
theorem dX3_casesOf_1 : decode cX3_casesOf 1 = .ok (.lstore 4, 2) := by decide +kernel
theorem dX3_casesOf_3 : decode cX3_casesOf 3 = .ok (.iload_n 1, 1) := by decide +kernel
theorem dX3_casesOf_4 : decode cX3_casesOf 4 = .ok (.istore 6, 2) := by decide +kernel
theorem dX3_casesOf_6 : decode cX3_casesOf 6 = .ok (.iload 6, 2) := by decide +kernel
theorem dX3_casesOf_8 : decode cX3_casesOf 8 = .ok (.iload_n 2, 1) := by decide +kernel
theorem dX3_casesOf_9 : decode cX3_casesOf 9 = .ok (.if_icmp .gt 39, 3) := by decide +kernel
theorem dX3_casesOf_12 : decode cX3_casesOf 12 = .ok (.lload 4, 2) := by decide +kernel
theorem dX3_casesOf_14 : decode cX3_casesOf 14 = .ok (.iload_n 0, 1) := by decide +kernel
theorem dX3_casesOf_15 : decode cX3_casesOf 15 = .ok (.iload 6, 2) := by decide +kernel
theorem dX3_casesOf_17 : decode cX3_casesOf 17 = .ok (.invokestatic 175, 3) := by decide +kernel
theorem dX3_casesOf_20 : decode cX3_casesOf 20 = .ok (.iload_n 3, 1) := by decide +kernel
theorem dX3_casesOf_21 : decode cX3_casesOf 21 = .ok (.iload 6, 2) := by decide +kernel
theorem dX3_casesOf_23 : decode cX3_casesOf 23 = .ok (.invokestatic 172, 3) := by decide +kernel
theorem dX3_casesOf_26 : decode cX3_casesOf 26 = .ok (.lmul, 1) := by decide +kernel
theorem dX3_casesOf_27 : decode cX3_casesOf 27 = .ok (.bipush 10, 2) := by decide +kernel
theorem dX3_casesOf_29 : decode cX3_casesOf 29 = .ok (.iload_n 3, 1) := by decide +kernel
theorem dX3_casesOf_30 : decode cX3_casesOf 30 = .ok (.isub, 1) := by decide +kernel
theorem dX3_casesOf_31 : decode cX3_casesOf 31 = .ok (.iload_n 0, 1) := by decide +kernel
theorem dX3_casesOf_32 : decode cX3_casesOf 32 = .ok (.iload 6, 2) := by decide +kernel
theorem dX3_casesOf_34 : decode cX3_casesOf 34 = .ok (.isub, 1) := by decide +kernel
theorem dX3_casesOf_35 : decode cX3_casesOf 35 = .ok (.invokestatic 172, 3) := by decide +kernel
theorem dX3_casesOf_38 : decode cX3_casesOf 38 = .ok (.lmul, 1) := by decide +kernel
theorem dX3_casesOf_39 : decode cX3_casesOf 39 = .ok (.ladd, 1) := by decide +kernel
theorem dX3_casesOf_40 : decode cX3_casesOf 40 = .ok (.lstore 4, 2) := by decide +kernel
theorem dX3_casesOf_42 : decode cX3_casesOf 42 = .ok (.iinc 6 1, 3) := by decide +kernel
theorem dX3_casesOf_45 : decode cX3_casesOf 45 = .ok (.goto (-39), 3) := by decide +kernel
theorem dX3_casesOf_48 : decode cX3_casesOf 48 = .ok (.lload 4, 2) := by decide +kernel
theorem dX3_casesOf_50 : decode cX3_casesOf 50 = .ok (.lreturn, 1) := by decide +kernel
theorem dX3_ways_0 : decode cX3_ways 0 = .ok (.lconst 1, 1) := by decide +kernel
theorem dX3_ways_1 : decode cX3_ways 1 = .ok (.lstore_n 2, 1) := by decide +kernel
theorem dX3_ways_2 : decode cX3_ways 2 = .ok (.iconst 0, 1) := by decide +kernel
theorem dX3_ways_3 : decode cX3_ways 3 = .ok (.istore 4, 2) := by decide +kernel
theorem dX3_ways_5 : decode cX3_ways 5 = .ok (.iload 4, 2) := by decide +kernel
theorem dX3_ways_7 : decode cX3_ways 7 = .ok (.iload_n 1, 1) := by decide +kernel
theorem dX3_ways_8 : decode cX3_ways 8 = .ok (.if_icmp .ge 23, 3) := by decide +kernel
theorem dX3_ways_11 : decode cX3_ways 11 = .ok (.lload_n 2, 1) := by decide +kernel
theorem dX3_ways_12 : decode cX3_ways 12 = .ok (.iload_n 0, 1) := by decide +kernel
theorem dX3_ways_13 : decode cX3_ways 13 = .ok (.iload 4, 2) := by decide +kernel
theorem dX3_ways_15 : decode cX3_ways 15 = .ok (.isub, 1) := by decide +kernel
theorem dX3_ways_16 : decode cX3_ways 16 = .ok (.i2l, 1) := by decide +kernel
theorem dX3_ways_17 : decode cX3_ways 17 = .ok (.lmul, 1) := by decide +kernel
theorem dX3_ways_18 : decode cX3_ways 18 = .ok (.iload 4, 2) := by decide +kernel
theorem dX3_ways_20 : decode cX3_ways 20 = .ok (.iconst 1, 1) := by decide +kernel
theorem dX3_ways_21 : decode cX3_ways 21 = .ok (.iadd, 1) := by decide +kernel
theorem dX3_ways_22 : decode cX3_ways 22 = .ok (.i2l, 1) := by decide +kernel
theorem dX3_ways_23 : decode cX3_ways 23 = .ok (.ldiv, 1) := by decide +kernel
theorem dX3_ways_24 : decode cX3_ways 24 = .ok (.lstore_n 2, 1) := by decide +kernel
theorem dX3_ways_25 : decode cX3_ways 25 = .ok (.iinc 4 1, 3) := by decide +kernel
theorem dX3_ways_28 : decode cX3_ways 28 = .ok (.goto (-23), 3) := by decide +kernel
theorem dX3_ways_31 : decode cX3_ways 31 = .ok (.lload_n 2, 1) := by decide +kernel
theorem dX3_ways_32 : decode cX3_ways 32 = .ok (.lreturn, 1) := by decide +kernel
theorem dX3_power_0 : decode cX3_power 0 = .ok (.lconst 1, 1) := by decide +kernel
theorem dX3_power_1 : decode cX3_power 1 = .ok (.lstore_n 2, 1) := by decide +kernel
theorem dX3_power_2 : decode cX3_power 2 = .ok (.iconst 0, 1) := by decide +kernel
theorem dX3_power_3 : decode cX3_power 3 = .ok (.istore 4, 2) := by decide +kernel
theorem dX3_power_5 : decode cX3_power 5 = .ok (.iload 4, 2) := by decide +kernel
theorem dX3_power_7 : decode cX3_power 7 = .ok (.iload_n 1, 1) := by decide +kernel
theorem dX3_power_8 : decode cX3_power 8 = .ok (.if_icmp .ge 14, 3) := by decide +kernel
theorem dX3_power_11 : decode cX3_power 11 = .ok (.lload_n 2, 1) := by decide +kernel
theorem dX3_power_12 : decode cX3_power 12 = .ok (.iload_n 0, 1) := by decide +kernel
theorem dX3_power_13 : decode cX3_power 13 = .ok (.i2l, 1) := by decide +kernel
theorem dX3_power_14 : decode cX3_power 14 = .ok (.lmul, 1) := by decide +kernel
theorem dX3_power_15 : decode cX3_power 15 = .ok (.lstore_n 2, 1) := by decide +kernel
theorem dX3_power_16 : decode cX3_power 16 = .ok (.iinc 4 1, 3) := by decide +kernel
theorem dX3_power_19 : decode cX3_power 19 = .ok (.goto (-14), 3) := by decide +kernel
theorem dX3_power_22 : decode cX3_power 22 = .ok (.lload_n 2, 1) := by decide +kernel
theorem dX3_power_23 : decode cX3_power 23 = .ok (.lreturn, 1) := by decide +kernel
theorem dX3_rule_0 : decode cX3_rule 0 = .ok (.iload_n 1, 1) := by decide +kernel
theorem dX3_rule_1 : decode cX3_rule 1 = .ok (.ifCond .ne 26, 3) := by decide +kernel
theorem dX3_rule_4 : decode cX3_rule 4 = .ok (.iload_n 2, 1) := by decide +kernel
theorem dX3_rule_5 : decode cX3_rule 5 = .ok (.iconst 1, 1) := by decide +kernel
theorem dX3_rule_6 : decode cX3_rule 6 = .ok (.sipush 500, 3) := by decide +kernel
theorem dX3_rule_9 : decode cX3_rule 9 = .ok (.invokestatic 75, 3) := by decide +kernel
theorem dX3_rule_12 : decode cX3_rule 12 = .ok (.ifCond .eq 15, 3) := by decide +kernel
theorem dX3_rule_15 : decode cX3_rule 15 = .ok (.aload_n 0, 1) := by decide +kernel
theorem dX3_rule_16 : decode cX3_rule 16 = .ok (.getfield 37, 3) := by decide +kernel
theorem dX3_rule_19 : decode cX3_rule 19 = .ok (.istore_n 3, 1) := by decide +kernel
theorem dX3_rule_20 : decode cX3_rule 20 = .ok (.aload_n 0, 1) := by decide +kernel
theorem dX3_rule_21 : decode cX3_rule 21 = .ok (.iload_n 2, 1) := by decide +kernel
theorem dX3_rule_22 : decode cX3_rule 22 = .ok (.putfield 37, 3) := by decide +kernel
theorem dX3_rule_25 : decode cX3_rule 25 = .ok (.iload_n 3, 1) := by decide +kernel
theorem dX3_rule_26 : decode cX3_rule 26 = .ok (.ireturn, 1) := by decide +kernel
theorem dX3_rule_27 : decode cX3_rule 27 = .ok (.iload_n 1, 1) := by decide +kernel
theorem dX3_rule_28 : decode cX3_rule 28 = .ok (.iconst 1, 1) := by decide +kernel
theorem dX3_rule_29 : decode cX3_rule 29 = .ok (.if_icmp .ne 25, 3) := by decide +kernel
theorem dX3_rule_32 : decode cX3_rule 32 = .ok (.iload_n 2, 1) := by decide +kernel
theorem dX3_rule_33 : decode cX3_rule 33 = .ok (.iconst 0, 1) := by decide +kernel
theorem dX3_rule_34 : decode cX3_rule 34 = .ok (.bipush 20, 2) := by decide +kernel
theorem dX3_rule_36 : decode cX3_rule 36 = .ok (.invokestatic 75, 3) := by decide +kernel
theorem dX3_rule_39 : decode cX3_rule 39 = .ok (.ifCond .eq 15, 3) := by decide +kernel
theorem dX3_rule_42 : decode cX3_rule 42 = .ok (.aload_n 0, 1) := by decide +kernel
theorem dX3_rule_43 : decode cX3_rule 43 = .ok (.getfield 41, 3) := by decide +kernel
theorem dX3_rule_46 : decode cX3_rule 46 = .ok (.istore_n 3, 1) := by decide +kernel
theorem dX3_rule_47 : decode cX3_rule 47 = .ok (.aload_n 0, 1) := by decide +kernel
theorem dX3_rule_48 : decode cX3_rule 48 = .ok (.iload_n 2, 1) := by decide +kernel
theorem dX3_rule_49 : decode cX3_rule 49 = .ok (.putfield 41, 3) := by decide +kernel
theorem dX3_rule_52 : decode cX3_rule 52 = .ok (.iload_n 3, 1) := by decide +kernel
theorem dX3_rule_53 : decode cX3_rule 53 = .ok (.ireturn, 1) := by decide +kernel
theorem dX3_rule_54 : decode cX3_rule 54 = .ok (.sipush (-1002), 3) := by decide +kernel
theorem dX3_rule_57 : decode cX3_rule 57 = .ok (.ireturn, 1) := by decide +kernel
theorem dX3_plan_0 : decode cX3_plan 0 = .ok (.iload_n 1, 1) := by decide +kernel
theorem dX3_plan_1 : decode cX3_plan 1 = .ok (.iconst 0, 1) := by decide +kernel
theorem dX3_plan_2 : decode cX3_plan 2 = .ok (.sipush 10000, 3) := by decide +kernel
theorem dX3_plan_5 : decode cX3_plan 5 = .ok (.invokestatic 75, 3) := by decide +kernel
theorem dX3_plan_8 : decode cX3_plan 8 = .ok (.ifCond .eq 23, 3) := by decide +kernel
theorem dX3_plan_11 : decode cX3_plan 11 = .ok (.iload_n 2, 1) := by decide +kernel
theorem dX3_plan_12 : decode cX3_plan 12 = .ok (.iconst 1, 1) := by decide +kernel
theorem dX3_plan_13 : decode cX3_plan 13 = .ok (.sipush 500, 3) := by decide +kernel
theorem dX3_plan_16 : decode cX3_plan 16 = .ok (.invokestatic 75, 3) := by decide +kernel
theorem dX3_plan_19 : decode cX3_plan 19 = .ok (.ifCond .eq 12, 3) := by decide +kernel
theorem dX3_plan_22 : decode cX3_plan 22 = .ok (.iload_n 3, 1) := by decide +kernel
theorem dX3_plan_23 : decode cX3_plan 23 = .ok (.iconst 0, 1) := by decide +kernel
theorem dX3_plan_24 : decode cX3_plan 24 = .ok (.iconst 2, 1) := by decide +kernel
theorem dX3_plan_25 : decode cX3_plan 25 = .ok (.invokestatic 75, 3) := by decide +kernel
theorem dX3_plan_28 : decode cX3_plan 28 = .ok (.ifCond .ne 7, 3) := by decide +kernel
theorem dX3_plan_31 : decode cX3_plan 31 = .ok (.sipush (-1002), 3) := by decide +kernel
theorem dX3_plan_34 : decode cX3_plan 34 = .ok (.ireturn, 1) := by decide +kernel
theorem dX3_plan_35 : decode cX3_plan 35 = .ok (.aload_n 0, 1) := by decide +kernel
theorem dX3_plan_36 : decode cX3_plan 36 = .ok (.getfield 37, 3) := by decide +kernel
theorem dX3_plan_39 : decode cX3_plan 39 = .ok (.iload_n 2, 1) := by decide +kernel
theorem dX3_plan_40 : decode cX3_plan 40 = .ok (.aload_n 0, 1) := by decide +kernel
theorem dX3_plan_41 : decode cX3_plan 41 = .ok (.getfield 41, 3) := by decide +kernel
theorem dX3_plan_44 : decode cX3_plan 44 = .ok (.imul, 1) := by decide +kernel
theorem dX3_plan_45 : decode cX3_plan 45 = .ok (.iadd, 1) := by decide +kernel
theorem dX3_plan_46 : decode cX3_plan 46 = .ok (.istore 4, 2) := by decide +kernel
theorem dX3_plan_48 : decode cX3_plan 48 = .ok (.aload_n 0, 1) := by decide +kernel
theorem dX3_plan_49 : decode cX3_plan 49 = .ok (.getfield 37, 3) := by decide +kernel
theorem dX3_plan_52 : decode cX3_plan 52 = .ok (.iload_n 2, 1) := by decide +kernel
theorem dX3_plan_53 : decode cX3_plan 53 = .ok (.bipush 10, 2) := by decide +kernel
theorem dX3_plan_55 : decode cX3_plan 55 = .ok (.imul, 1) := by decide +kernel
theorem dX3_plan_56 : decode cX3_plan 56 = .ok (.aload_n 0, 1) := by decide +kernel
theorem dX3_plan_57 : decode cX3_plan 57 = .ok (.getfield 30, 3) := by decide +kernel
theorem dX3_plan_60 : decode cX3_plan 60 = .ok (.iconst 2, 1) := by decide +kernel
theorem dX3_plan_61 : decode cX3_plan 61 = .ok (.iaload, 1) := by decide +kernel
theorem dX3_plan_62 : decode cX3_plan 62 = .ok (.invokestatic 153, 3) := by decide +kernel
theorem dX3_plan_65 : decode cX3_plan 65 = .ok (.aload_n 0, 1) := by decide +kernel
theorem dX3_plan_66 : decode cX3_plan 66 = .ok (.getfield 41, 3) := by decide +kernel
theorem dX3_plan_69 : decode cX3_plan 69 = .ok (.imul, 1) := by decide +kernel
theorem dX3_plan_70 : decode cX3_plan 70 = .ok (.iadd, 1) := by decide +kernel
theorem dX3_plan_71 : decode cX3_plan 71 = .ok (.istore 5, 2) := by decide +kernel
theorem dX3_plan_73 : decode cX3_plan 73 = .ok (.bipush 24, 2) := by decide +kernel
theorem dX3_plan_75 : decode cX3_plan 75 = .ok (.istore 6, 2) := by decide +kernel
theorem dX3_plan_77 : decode cX3_plan 77 = .ok (.iload 6, 2) := by decide +kernel
theorem dX3_plan_79 : decode cX3_plan 79 = .ok (.ifCond .le 85, 3) := by decide +kernel
theorem dX3_plan_82 : decode cX3_plan 82 = .ok (.iload 6, 2) := by decide +kernel
theorem dX3_plan_84 : decode cX3_plan 84 = .ok (.bipush 12, 2) := by decide +kernel
theorem dX3_plan_86 : decode cX3_plan 86 = .ok (.invokestatic 178, 3) := by decide +kernel
theorem dX3_plan_89 : decode cX3_plan 89 = .ok (.istore 7, 2) := by decide +kernel
theorem dX3_plan_91 : decode cX3_plan 91 = .ok (.iload 7, 2) := by decide +kernel
theorem dX3_plan_93 : decode cX3_plan 93 = .ok (.iconst 0, 1) := by decide +kernel
theorem dX3_plan_94 : decode cX3_plan 94 = .ok (.iload 6, 2) := by decide +kernel
theorem dX3_plan_96 : decode cX3_plan 96 = .ok (.bipush 12, 2) := by decide +kernel
theorem dX3_plan_98 : decode cX3_plan 98 = .ok (.isub, 1) := by decide +kernel
theorem dX3_plan_99 : decode cX3_plan 99 = .ok (.invokestatic 181, 3) := by decide +kernel
theorem dX3_plan_102 : decode cX3_plan 102 = .ok (.if_icmp .lt 56, 3) := by decide +kernel
theorem dX3_plan_105 : decode cX3_plan 105 = .ok (.iload 7, 2) := by decide +kernel
theorem dX3_plan_107 : decode cX3_plan 107 = .ok (.iload 4, 2) := by decide +kernel
theorem dX3_plan_109 : decode cX3_plan 109 = .ok (.imul, 1) := by decide +kernel
theorem dX3_plan_110 : decode cX3_plan 110 = .ok (.iload 6, 2) := by decide +kernel
theorem dX3_plan_112 : decode cX3_plan 112 = .ok (.iload 7, 2) := by decide +kernel
theorem dX3_plan_114 : decode cX3_plan 114 = .ok (.isub, 1) := by decide +kernel
theorem dX3_plan_115 : decode cX3_plan 115 = .ok (.iload 5, 2) := by decide +kernel
theorem dX3_plan_117 : decode cX3_plan 117 = .ok (.imul, 1) := by decide +kernel
theorem dX3_plan_118 : decode cX3_plan 118 = .ok (.iadd, 1) := by decide +kernel
theorem dX3_plan_119 : decode cX3_plan 119 = .ok (.istore 8, 2) := by decide +kernel
theorem dX3_plan_121 : decode cX3_plan 121 = .ok (.iload 8, 2) := by decide +kernel
theorem dX3_plan_123 : decode cX3_plan 123 = .ok (.iload_n 1, 1) := by decide +kernel
theorem dX3_plan_124 : decode cX3_plan 124 = .ok (.if_icmp .gt 28, 3) := by decide +kernel
theorem dX3_plan_127 : decode cX3_plan 127 = .ok (.iload_n 3, 1) := by decide +kernel
theorem dX3_plan_128 : decode cX3_plan 128 = .ok (.ifCond .ne 8, 3) := by decide +kernel
theorem dX3_plan_131 : decode cX3_plan 131 = .ok (.iload 7, 2) := by decide +kernel
theorem dX3_plan_133 : decode cX3_plan 133 = .ok (.goto 18, 3) := by decide +kernel
theorem dX3_plan_136 : decode cX3_plan 136 = .ok (.iload_n 3, 1) := by decide +kernel
theorem dX3_plan_137 : decode cX3_plan 137 = .ok (.iconst 1, 1) := by decide +kernel
theorem dX3_plan_138 : decode cX3_plan 138 = .ok (.if_icmp .ne 11, 3) := by decide +kernel
theorem dX3_plan_141 : decode cX3_plan 141 = .ok (.iload 6, 2) := by decide +kernel
theorem dX3_plan_143 : decode cX3_plan 143 = .ok (.iload 7, 2) := by decide +kernel
theorem dX3_plan_145 : decode cX3_plan 145 = .ok (.isub, 1) := by decide +kernel
theorem dX3_plan_146 : decode cX3_plan 146 = .ok (.goto 5, 3) := by decide +kernel
theorem dX3_plan_149 : decode cX3_plan 149 = .ok (.iload 8, 2) := by decide +kernel
theorem dX3_plan_151 : decode cX3_plan 151 = .ok (.ireturn, 1) := by decide +kernel
theorem dX3_plan_152 : decode cX3_plan 152 = .ok (.iinc 7 (-1), 3) := by decide +kernel
theorem dX3_plan_155 : decode cX3_plan 155 = .ok (.goto (-64), 3) := by decide +kernel
theorem dX3_plan_158 : decode cX3_plan 158 = .ok (.iinc 6 (-1), 3) := by decide +kernel
theorem dX3_plan_161 : decode cX3_plan 161 = .ok (.goto (-84), 3) := by decide +kernel
theorem dX3_plan_164 : decode cX3_plan 164 = .ok (.iconst 0, 1) := by decide +kernel
theorem dX3_plan_165 : decode cX3_plan 165 = .ok (.ireturn, 1) := by decide +kernel
theorem dX3_isWithin_0 : decode cX3_isWithin 0 = .ok (.iload_n 1, 1) := by decide +kernel
theorem dX3_isWithin_1 : decode cX3_isWithin 1 = .ok (.iload_n 0, 1) := by decide +kernel
theorem dX3_isWithin_2 : decode cX3_isWithin 2 = .ok (.if_icmp .gt 12, 3) := by decide +kernel
theorem dX3_isWithin_5 : decode cX3_isWithin 5 = .ok (.iload_n 0, 1) := by decide +kernel
theorem dX3_isWithin_6 : decode cX3_isWithin 6 = .ok (.iload_n 2, 1) := by decide +kernel
theorem dX3_isWithin_7 : decode cX3_isWithin 7 = .ok (.if_icmp .gt 7, 3) := by decide +kernel
theorem dX3_isWithin_10 : decode cX3_isWithin 10 = .ok (.iconst 1, 1) := by decide +kernel
theorem dX3_isWithin_11 : decode cX3_isWithin 11 = .ok (.goto 4, 3) := by decide +kernel
theorem dX3_isWithin_14 : decode cX3_isWithin 14 = .ok (.iconst 0, 1) := by decide +kernel
theorem dX3_isWithin_15 : decode cX3_isWithin 15 = .ok (.ireturn, 1) := by decide +kernel
theorem dX3_isStress_0 : decode cX3_isStress 0 = .ok (.iload_n 0, 1) := by decide +kernel
theorem dX3_isStress_1 : decode cX3_isStress 1 = .ok (.iconst 0, 1) := by decide +kernel
theorem dX3_isStress_2 : decode cX3_isStress 2 = .ok (.iconst 3, 1) := by decide +kernel
theorem dX3_isStress_3 : decode cX3_isStress 3 = .ok (.invokestatic 75, 3) := by decide +kernel
theorem dX3_isStress_6 : decode cX3_isStress 6 = .ok (.ireturn, 1) := by decide +kernel
theorem dX3_isUnit_0 : decode cX3_isUnit 0 = .ok (.iload_n 0, 1) := by decide +kernel
theorem dX3_isUnit_1 : decode cX3_isUnit 1 = .ok (.invokestatic 122, 3) := by decide +kernel
theorem dX3_isUnit_4 : decode cX3_isUnit 4 = .ok (.ifCond .eq 27, 3) := by decide +kernel
theorem dX3_isUnit_7 : decode cX3_isUnit 7 = .ok (.iload_n 1, 1) := by decide +kernel
theorem dX3_isUnit_8 : decode cX3_isUnit 8 = .ok (.iconst 1, 1) := by decide +kernel
theorem dX3_isUnit_9 : decode cX3_isUnit 9 = .ok (.sipush 500, 3) := by decide +kernel
theorem dX3_isUnit_12 : decode cX3_isUnit 12 = .ok (.invokestatic 75, 3) := by decide +kernel
theorem dX3_isUnit_15 : decode cX3_isUnit 15 = .ok (.ifCond .eq 16, 3) := by decide +kernel
theorem dX3_isUnit_18 : decode cX3_isUnit 18 = .ok (.iload_n 2, 1) := by decide +kernel
theorem dX3_isUnit_19 : decode cX3_isUnit 19 = .ok (.iconst (-1), 1) := by decide +kernel
theorem dX3_isUnit_20 : decode cX3_isUnit 20 = .ok (.iconst 2, 1) := by decide +kernel
theorem dX3_isUnit_21 : decode cX3_isUnit 21 = .ok (.invokestatic 75, 3) := by decide +kernel
theorem dX3_isUnit_24 : decode cX3_isUnit 24 = .ok (.ifCond .eq 7, 3) := by decide +kernel
theorem dX3_isUnit_27 : decode cX3_isUnit 27 = .ok (.iconst 1, 1) := by decide +kernel
theorem dX3_isUnit_28 : decode cX3_isUnit 28 = .ok (.goto 4, 3) := by decide +kernel
theorem dX3_isUnit_31 : decode cX3_isUnit 31 = .ok (.iconst 0, 1) := by decide +kernel
theorem dX3_isUnit_32 : decode cX3_isUnit 32 = .ok (.ireturn, 1) := by decide +kernel
theorem dX3_isSet_0 : decode cX3_isSet 0 = .ok (.iload_n 0, 1) := by decide +kernel
theorem dX3_isSet_1 : decode cX3_isSet 1 = .ok (.iconst 0, 1) := by decide +kernel
theorem dX3_isSet_2 : decode cX3_isSet 2 = .ok (.bipush 15, 2) := by decide +kernel
theorem dX3_isSet_4 : decode cX3_isSet 4 = .ok (.invokestatic 75, 3) := by decide +kernel
theorem dX3_isSet_7 : decode cX3_isSet 7 = .ok (.ireturn, 1) := by decide +kernel
theorem dX3_isSetByCause_0 : decode cX3_isSetByCause 0 = .ok (.iload_n 0, 1) := by decide +kernel
theorem dX3_isSetByCause_1 : decode cX3_isSetByCause 1 = .ok (.invokestatic 72, 3) := by decide +kernel
theorem dX3_isSetByCause_4 : decode cX3_isSetByCause 4 = .ok (.ifCond .eq 16, 3) := by decide +kernel
theorem dX3_isSetByCause_7 : decode cX3_isSetByCause 7 = .ok (.iload_n 1, 1) := by decide +kernel
theorem dX3_isSetByCause_8 : decode cX3_isSetByCause 8 = .ok (.iconst (-1), 1) := by decide +kernel
theorem dX3_isSetByCause_9 : decode cX3_isSetByCause 9 = .ok (.iconst 2, 1) := by decide +kernel
theorem dX3_isSetByCause_10 : decode cX3_isSetByCause 10 = .ok (.invokestatic 75, 3) := by decide +kernel
theorem dX3_isSetByCause_13 : decode cX3_isSetByCause 13 = .ok (.ifCond .eq 7, 3) := by decide +kernel
theorem dX3_isSetByCause_16 : decode cX3_isSetByCause 16 = .ok (.iconst 1, 1) := by decide +kernel
theorem dX3_isSetByCause_17 : decode cX3_isSetByCause 17 = .ok (.goto 4, 3) := by decide +kernel
theorem dX3_isSetByCause_20 : decode cX3_isSetByCause 20 = .ok (.iconst 0, 1) := by decide +kernel
theorem dX3_isSetByCause_21 : decode cX3_isSetByCause 21 = .ok (.ireturn, 1) := by decide +kernel
theorem dX3_isLaw_0 : decode cX3_isLaw 0 = .ok (.iload_n 0, 1) := by decide +kernel
theorem dX3_isLaw_1 : decode cX3_isLaw 1 = .ok (.iconst 1, 1) := by decide +kernel
theorem dX3_isLaw_2 : decode cX3_isLaw 2 = .ok (.ldc 139, 2) := by decide +kernel
theorem dX3_isLaw_4 : decode cX3_isLaw 4 = .ok (.invokestatic 75, 3) := by decide +kernel
theorem dX3_isLaw_7 : decode cX3_isLaw 7 = .ok (.ifCond .eq 17, 3) := by decide +kernel
theorem dX3_isLaw_10 : decode cX3_isLaw 10 = .ok (.iload_n 1, 1) := by decide +kernel
theorem dX3_isLaw_11 : decode cX3_isLaw 11 = .ok (.iconst 1, 1) := by decide +kernel
theorem dX3_isLaw_12 : decode cX3_isLaw 12 = .ok (.bipush 20, 2) := by decide +kernel
theorem dX3_isLaw_14 : decode cX3_isLaw 14 = .ok (.invokestatic 75, 3) := by decide +kernel
theorem dX3_isLaw_17 : decode cX3_isLaw 17 = .ok (.ifCond .eq 7, 3) := by decide +kernel
theorem dX3_isLaw_20 : decode cX3_isLaw 20 = .ok (.iconst 1, 1) := by decide +kernel
theorem dX3_isLaw_21 : decode cX3_isLaw 21 = .ok (.goto 4, 3) := by decide +kernel
theorem dX3_isLaw_24 : decode cX3_isLaw 24 = .ok (.iconst 0, 1) := by decide +kernel
theorem dX3_isLaw_25 : decode cX3_isLaw 25 = .ok (.ireturn, 1) := by decide +kernel
theorem dX3_cut_0 : decode cX3_cut 0 = .ok (.iload_n 1, 1) := by decide +kernel
theorem dX3_cut_1 : decode cX3_cut 1 = .ok (.ifCond .le 9, 3) := by decide +kernel
theorem dX3_cut_4 : decode cX3_cut 4 = .ok (.iload_n 0, 1) := by decide +kernel
theorem dX3_cut_5 : decode cX3_cut 5 = .ok (.iload_n 1, 1) := by decide +kernel
theorem dX3_cut_6 : decode cX3_cut 6 = .ok (.idiv, 1) := by decide +kernel
theorem dX3_cut_7 : decode cX3_cut 7 = .ok (.goto 4, 3) := by decide +kernel
theorem dX3_cut_10 : decode cX3_cut 10 = .ok (.iconst 0, 1) := by decide +kernel
theorem dX3_cut_11 : decode cX3_cut 11 = .ok (.ireturn, 1) := by decide +kernel
theorem dX3_roundedUp_0 : decode cX3_roundedUp 0 = .ok (.iload_n 0, 1) := by decide +kernel
theorem dX3_roundedUp_1 : decode cX3_roundedUp 1 = .ok (.iload_n 1, 1) := by decide +kernel
theorem dX3_roundedUp_2 : decode cX3_roundedUp 2 = .ok (.iadd, 1) := by decide +kernel
theorem dX3_roundedUp_3 : decode cX3_roundedUp 3 = .ok (.iconst 1, 1) := by decide +kernel
theorem dX3_roundedUp_4 : decode cX3_roundedUp 4 = .ok (.isub, 1) := by decide +kernel
theorem dX3_roundedUp_5 : decode cX3_roundedUp 5 = .ok (.iload_n 1, 1) := by decide +kernel
theorem dX3_roundedUp_6 : decode cX3_roundedUp 6 = .ok (.invokestatic 145, 3) := by decide +kernel
theorem dX3_roundedUp_9 : decode cX3_roundedUp 9 = .ok (.ireturn, 1) := by decide +kernel
theorem dX3_leastTerms_0 : decode cX3_leastTerms 0 = .ok (.lload_n 0, 1) := by decide +kernel
theorem dX3_leastTerms_1 : decode cX3_leastTerms 1 = .ok (.lload_n 2, 1) := by decide +kernel
theorem dX3_leastTerms_2 : decode cX3_leastTerms 2 = .ok (.invokestatic 184, 3) := by decide +kernel
theorem dX3_leastTerms_5 : decode cX3_leastTerms 5 = .ok (.lstore 5, 2) := by decide +kernel
theorem dX3_leastTerms_7 : decode cX3_leastTerms 7 = .ok (.iload 4, 2) := by decide +kernel
theorem dX3_leastTerms_9 : decode cX3_leastTerms 9 = .ok (.ifCond .ne 7, 3) := by decide +kernel
theorem dX3_leastTerms_12 : decode cX3_leastTerms 12 = .ok (.lload_n 0, 1) := by decide +kernel
theorem dX3_leastTerms_13 : decode cX3_leastTerms 13 = .ok (.goto 4, 3) := by decide +kernel
theorem dX3_leastTerms_16 : decode cX3_leastTerms 16 = .ok (.lload_n 2, 1) := by decide +kernel
theorem dX3_leastTerms_17 : decode cX3_leastTerms 17 = .ok (.lstore 7, 2) := by decide +kernel
theorem dX3_leastTerms_19 : decode cX3_leastTerms 19 = .ok (.lload 5, 2) := by decide +kernel
theorem dX3_leastTerms_21 : decode cX3_leastTerms 21 = .ok (.lconst 0, 1) := by decide +kernel
theorem dX3_leastTerms_22 : decode cX3_leastTerms 22 = .ok (.lcmp, 1) := by decide +kernel
theorem dX3_leastTerms_23 : decode cX3_leastTerms 23 = .ok (.ifCond .le 11, 3) := by decide +kernel
theorem dX3_leastTerms_26 : decode cX3_leastTerms 26 = .ok (.lload 7, 2) := by decide +kernel
theorem dX3_leastTerms_28 : decode cX3_leastTerms 28 = .ok (.lload 5, 2) := by decide +kernel
theorem dX3_leastTerms_30 : decode cX3_leastTerms 30 = .ok (.ldiv, 1) := by decide +kernel
theorem dX3_leastTerms_31 : decode cX3_leastTerms 31 = .ok (.goto 5, 3) := by decide +kernel
theorem dX3_leastTerms_34 : decode cX3_leastTerms 34 = .ok (.lload 7, 2) := by decide +kernel
theorem dX3_leastTerms_36 : decode cX3_leastTerms 36 = .ok (.lreturn, 1) := by decide +kernel
theorem dX3_sharedFactor_0 : decode cX3_sharedFactor 0 = .ok (.lload_n 0, 1) := by decide +kernel
theorem dX3_sharedFactor_1 : decode cX3_sharedFactor 1 = .ok (.lstore 4, 2) := by decide +kernel
theorem dX3_sharedFactor_3 : decode cX3_sharedFactor 3 = .ok (.lload_n 2, 1) := by decide +kernel
theorem dX3_sharedFactor_4 : decode cX3_sharedFactor 4 = .ok (.lstore 6, 2) := by decide +kernel
theorem dX3_sharedFactor_6 : decode cX3_sharedFactor 6 = .ok (.iconst 0, 1) := by decide +kernel
theorem dX3_sharedFactor_7 : decode cX3_sharedFactor 7 = .ok (.istore 8, 2) := by decide +kernel
theorem dX3_sharedFactor_9 : decode cX3_sharedFactor 9 = .ok (.iload 8, 2) := by decide +kernel
theorem dX3_sharedFactor_11 : decode cX3_sharedFactor 11 = .ok (.bipush 100, 2) := by decide +kernel
theorem dX3_sharedFactor_13 : decode cX3_sharedFactor 13 = .ok (.if_icmp .ge 31, 3) := by decide +kernel
theorem dX3_sharedFactor_16 : decode cX3_sharedFactor 16 = .ok (.lload 6, 2) := by decide +kernel
theorem dX3_sharedFactor_18 : decode cX3_sharedFactor 18 = .ok (.lconst 0, 1) := by decide +kernel
theorem dX3_sharedFactor_19 : decode cX3_sharedFactor 19 = .ok (.lcmp, 1) := by decide +kernel
theorem dX3_sharedFactor_20 : decode cX3_sharedFactor 20 = .ok (.ifCond .eq 24, 3) := by decide +kernel
theorem dX3_sharedFactor_23 : decode cX3_sharedFactor 23 = .ok (.lload 4, 2) := by decide +kernel
theorem dX3_sharedFactor_25 : decode cX3_sharedFactor 25 = .ok (.lload 6, 2) := by decide +kernel
theorem dX3_sharedFactor_27 : decode cX3_sharedFactor 27 = .ok (.lrem, 1) := by decide +kernel
theorem dX3_sharedFactor_28 : decode cX3_sharedFactor 28 = .ok (.lstore 9, 2) := by decide +kernel
theorem dX3_sharedFactor_30 : decode cX3_sharedFactor 30 = .ok (.lload 6, 2) := by decide +kernel
theorem dX3_sharedFactor_32 : decode cX3_sharedFactor 32 = .ok (.lstore 4, 2) := by decide +kernel
theorem dX3_sharedFactor_34 : decode cX3_sharedFactor 34 = .ok (.lload 9, 2) := by decide +kernel
theorem dX3_sharedFactor_36 : decode cX3_sharedFactor 36 = .ok (.lstore 6, 2) := by decide +kernel
theorem dX3_sharedFactor_38 : decode cX3_sharedFactor 38 = .ok (.iinc 8 1, 3) := by decide +kernel
theorem dX3_sharedFactor_41 : decode cX3_sharedFactor 41 = .ok (.goto (-32), 3) := by decide +kernel
theorem dX3_sharedFactor_44 : decode cX3_sharedFactor 44 = .ok (.lload 4, 2) := by decide +kernel
theorem dX3_sharedFactor_46 : decode cX3_sharedFactor 46 = .ok (.lreturn, 1) := by decide +kernel
theorem dJ9_abs_0f7a4_0 : decode cJ9_abs_0f7a4 0 = .ok (.iload_n 0, 1) := by decide +kernel
theorem dJ9_abs_0f7a4_1 : decode cJ9_abs_0f7a4 1 = .ok (.ifCond .ge 8, 3) := by decide +kernel
theorem dJ9_abs_0f7a4_4 : decode cJ9_abs_0f7a4 4 = .ok (.iload_n 0, 1) := by decide +kernel
theorem dJ9_abs_0f7a4_5 : decode cJ9_abs_0f7a4 5 = .ok (.ineg, 1) := by decide +kernel
theorem dJ9_abs_0f7a4_6 : decode cJ9_abs_0f7a4 6 = .ok (.goto 4, 3) := by decide +kernel
theorem dJ9_abs_0f7a4_9 : decode cJ9_abs_0f7a4 9 = .ok (.iload_n 0, 1) := by decide +kernel
theorem dJ9_abs_0f7a4_10 : decode cJ9_abs_0f7a4 10 = .ok (.ireturn, 1) := by decide +kernel
theorem dJ9_max_7cf53_0 : decode cJ9_max_7cf53 0 = .ok (.iload_n 0, 1) := by decide +kernel
theorem dJ9_max_7cf53_1 : decode cJ9_max_7cf53 1 = .ok (.iload_n 1, 1) := by decide +kernel
theorem dJ9_max_7cf53_2 : decode cJ9_max_7cf53 2 = .ok (.if_icmp .lt 7, 3) := by decide +kernel
theorem dJ9_max_7cf53_5 : decode cJ9_max_7cf53 5 = .ok (.iload_n 0, 1) := by decide +kernel
theorem dJ9_max_7cf53_6 : decode cJ9_max_7cf53 6 = .ok (.goto 4, 3) := by decide +kernel
theorem dJ9_max_7cf53_9 : decode cJ9_max_7cf53 9 = .ok (.iload_n 1, 1) := by decide +kernel
theorem dJ9_max_7cf53_10 : decode cJ9_max_7cf53 10 = .ok (.ireturn, 1) := by decide +kernel
theorem dJ9_min_7cf53_0 : decode cJ9_min_7cf53 0 = .ok (.iload_n 0, 1) := by decide +kernel
theorem dJ9_min_7cf53_1 : decode cJ9_min_7cf53 1 = .ok (.iload_n 1, 1) := by decide +kernel
theorem dJ9_min_7cf53_2 : decode cJ9_min_7cf53 2 = .ok (.if_icmp .gt 7, 3) := by decide +kernel
theorem dJ9_min_7cf53_5 : decode cJ9_min_7cf53 5 = .ok (.iload_n 0, 1) := by decide +kernel
theorem dJ9_min_7cf53_6 : decode cJ9_min_7cf53 6 = .ok (.goto 4, 3) := by decide +kernel
theorem dJ9_min_7cf53_9 : decode cJ9_min_7cf53 9 = .ok (.iload_n 1, 1) := by decide +kernel
theorem dJ9_min_7cf53_10 : decode cJ9_min_7cf53 10 = .ok (.ireturn, 1) := by decide +kernel
end
section
theorem dX4_init_0 : decode cX4_init 0 = .ok (.aload_n 0, 1) := by decide +kernel
theorem dX4_init_1 : decode cX4_init 1 = .ok (.invokespecial 1, 3) := by decide +kernel
theorem dX4_init_4 : decode cX4_init 4 = .ok (.aload_n 0, 1) := by decide +kernel
theorem dX4_init_5 : decode cX4_init 5 = .ok (.bipush 12, 2) := by decide +kernel
theorem dX4_init_7 : decode cX4_init 7 = .ok (.newarray .int, 2) := by decide +kernel
theorem dX4_init_9 : decode cX4_init 9 = .ok (.putfield 7, 3) := by decide +kernel
theorem dX4_init_12 : decode cX4_init 12 = .ok (.aload_n 0, 1) := by decide +kernel
theorem dX4_init_13 : decode cX4_init 13 = .ok (.bipush 12, 2) := by decide +kernel
theorem dX4_init_15 : decode cX4_init 15 = .ok (.newarray .int, 2) := by decide +kernel
theorem dX4_init_17 : decode cX4_init 17 = .ok (.putfield 13, 3) := by decide +kernel
theorem dX4_init_20 : decode cX4_init 20 = .ok (.aload_n 0, 1) := by decide +kernel
theorem dX4_init_21 : decode cX4_init 21 = .ok (.bipush 12, 2) := by decide +kernel
theorem dX4_init_23 : decode cX4_init 23 = .ok (.newarray .int, 2) := by decide +kernel
theorem dX4_init_25 : decode cX4_init 25 = .ok (.putfield 16, 3) := by decide +kernel
theorem dX4_init_28 : decode cX4_init 28 = .ok (.aload_n 0, 1) := by decide +kernel
theorem dX4_init_29 : decode cX4_init 29 = .ok (.iconst 4, 1) := by decide +kernel
theorem dX4_init_30 : decode cX4_init 30 = .ok (.newarray .int, 2) := by decide +kernel
theorem dX4_init_32 : decode cX4_init 32 = .ok (.putfield 19, 3) := by decide +kernel
theorem dX4_init_35 : decode cX4_init 35 = .ok (.aload_n 0, 1) := by decide +kernel
theorem dX4_init_36 : decode cX4_init 36 = .ok (.bipush 10, 2) := by decide +kernel
theorem dX4_init_38 : decode cX4_init 38 = .ok (.newarray .int, 2) := by decide +kernel
theorem dX4_init_40 : decode cX4_init 40 = .ok (.putfield 22, 3) := by decide +kernel
theorem dX4_init_43 : decode cX4_init 43 = .ok (.aload_n 0, 1) := by decide +kernel
theorem dX4_init_44 : decode cX4_init 44 = .ok (.bipush 10, 2) := by decide +kernel
theorem dX4_init_46 : decode cX4_init 46 = .ok (.newarray .int, 2) := by decide +kernel
theorem dX4_init_48 : decode cX4_init 48 = .ok (.putfield 25, 3) := by decide +kernel
theorem dX4_init_51 : decode cX4_init 51 = .ok (.aload_n 0, 1) := by decide +kernel
theorem dX4_init_52 : decode cX4_init 52 = .ok (.bipush 10, 2) := by decide +kernel
theorem dX4_init_54 : decode cX4_init 54 = .ok (.putfield 28, 3) := by decide +kernel
theorem dX4_init_57 : decode cX4_init 57 = .ok (.aload_n 0, 1) := by decide +kernel
theorem dX4_init_58 : decode cX4_init 58 = .ok (.iconst 1, 1) := by decide +kernel
theorem dX4_init_59 : decode cX4_init 59 = .ok (.putfield 32, 3) := by decide +kernel
theorem dX4_init_62 : decode cX4_init 62 = .ok (.aload_n 0, 1) := by decide +kernel
theorem dX4_init_63 : decode cX4_init 63 = .ok (.sipush 501, 3) := by decide +kernel
theorem dX4_init_66 : decode cX4_init 66 = .ok (.newarray .int, 2) := by decide +kernel
theorem dX4_init_68 : decode cX4_init 68 = .ok (.putfield 35, 3) := by decide +kernel
theorem dX4_init_71 : decode cX4_init 71 = .ok (.aload_n 0, 1) := by decide +kernel
theorem dX4_init_72 : decode cX4_init 72 = .ok (.sipush 501, 3) := by decide +kernel
theorem dX4_init_75 : decode cX4_init 75 = .ok (.newarray .int, 2) := by decide +kernel
theorem dX4_init_77 : decode cX4_init 77 = .ok (.putfield 38, 3) := by decide +kernel
theorem dX4_init_80 : decode cX4_init 80 = .ok (.aload_n 0, 1) := by decide +kernel
theorem dX4_init_81 : decode cX4_init 81 = .ok (.iconst 4, 1) := by decide +kernel
theorem dX4_init_82 : decode cX4_init 82 = .ok (.newarray .int, 2) := by decide +kernel
theorem dX4_init_84 : decode cX4_init 84 = .ok (.putfield 41, 3) := by decide +kernel
theorem dX4_init_87 : decode cX4_init 87 = .ok (.aload_n 0, 1) := by decide +kernel
theorem dX4_init_88 : decode cX4_init 88 = .ok (.getfield 19, 3) := by decide +kernel
theorem dX4_init_91 : decode cX4_init 91 = .ok (.iconst 0, 1) := by decide +kernel
theorem dX4_init_92 : decode cX4_init 92 = .ok (.bipush 10, 2) := by decide +kernel
theorem dX4_init_94 : decode cX4_init 94 = .ok (.iastore, 1) := by decide +kernel
theorem dX4_init_95 : decode cX4_init 95 = .ok (.aload_n 0, 1) := by decide +kernel
theorem dX4_init_96 : decode cX4_init 96 = .ok (.getfield 19, 3) := by decide +kernel
theorem dX4_init_99 : decode cX4_init 99 = .ok (.iconst 1, 1) := by decide +kernel
theorem dX4_init_100 : decode cX4_init 100 = .ok (.bipush 20, 2) := by decide +kernel
theorem dX4_init_102 : decode cX4_init 102 = .ok (.iastore, 1) := by decide +kernel
theorem dX4_init_103 : decode cX4_init 103 = .ok (.aload_n 0, 1) := by decide +kernel
theorem dX4_init_104 : decode cX4_init 104 = .ok (.getfield 19, 3) := by decide +kernel
theorem dX4_init_107 : decode cX4_init 107 = .ok (.iconst 2, 1) := by decide +kernel
theorem dX4_init_108 : decode cX4_init 108 = .ok (.bipush 40, 2) := by decide +kernel
theorem dX4_init_110 : decode cX4_init 110 = .ok (.iastore, 1) := by decide +kernel
theorem dX4_init_111 : decode cX4_init 111 = .ok (.aload_n 0, 1) := by decide +kernel
theorem dX4_init_112 : decode cX4_init 112 = .ok (.getfield 19, 3) := by decide +kernel
theorem dX4_init_115 : decode cX4_init 115 = .ok (.iconst 3, 1) := by decide +kernel
theorem dX4_init_116 : decode cX4_init 116 = .ok (.bipush 80, 2) := by decide +kernel
theorem dX4_init_118 : decode cX4_init 118 = .ok (.iastore, 1) := by decide +kernel
theorem dX4_init_119 : decode cX4_init 119 = .ok (.return_, 1) := by decide +kernel
theorem dX4_in_0 : decode cX4_in 0 = .ok (.lload_n 0, 1) := by decide +kernel
theorem dX4_in_1 : decode cX4_in 1 = .ok (.lload_n 2, 1) := by decide +kernel
theorem dX4_in_2 : decode cX4_in 2 = .ok (.lcmp, 1) := by decide +kernel
theorem dX4_in_3 : decode cX4_in 3 = .ok (.ifCond .lt 14, 3) := by decide +kernel
theorem dX4_in_6 : decode cX4_in 6 = .ok (.lload_n 0, 1) := by decide +kernel
theorem dX4_in_7 : decode cX4_in 7 = .ok (.lload 4, 2) := by decide +kernel
theorem dX4_in_9 : decode cX4_in 9 = .ok (.lcmp, 1) := by decide +kernel
theorem dX4_in_10 : decode cX4_in 10 = .ok (.ifCond .gt 7, 3) := by decide +kernel
theorem dX4_in_13 : decode cX4_in 13 = .ok (.iconst 1, 1) := by decide +kernel
theorem dX4_in_14 : decode cX4_in 14 = .ok (.goto 4, 3) := by decide +kernel
theorem dX4_in_17 : decode cX4_in 17 = .ok (.iconst 0, 1) := by decide +kernel
theorem dX4_in_18 : decode cX4_in 18 = .ok (.ireturn, 1) := by decide +kernel
theorem dX4_isStress_0 : decode cX4_isStress 0 = .ok (.iload_n 0, 1) := by decide +kernel
theorem dX4_isStress_1 : decode cX4_isStress 1 = .ok (.i2l, 1) := by decide +kernel
theorem dX4_isStress_2 : decode cX4_isStress 2 = .ok (.lconst 0, 1) := by decide +kernel
theorem dX4_isStress_3 : decode cX4_isStress 3 = .ok (.ldc2_w 44, 3) := by decide +kernel
theorem dX4_isStress_6 : decode cX4_isStress 6 = .ok (.invokestatic 46, 3) := by decide +kernel
theorem dX4_isStress_9 : decode cX4_isStress 9 = .ok (.ireturn, 1) := by decide +kernel
theorem dX4_isCause_0 : decode cX4_isCause 0 = .ok (.iload_n 0, 1) := by decide +kernel
theorem dX4_isCause_1 : decode cX4_isCause 1 = .ok (.i2l, 1) := by decide +kernel
theorem dX4_isCause_2 : decode cX4_isCause 2 = .ok (.ldc2_w 50, 3) := by decide +kernel
theorem dX4_isCause_5 : decode cX4_isCause 5 = .ok (.ldc2_w 52, 3) := by decide +kernel
theorem dX4_isCause_8 : decode cX4_isCause 8 = .ok (.invokestatic 46, 3) := by decide +kernel
theorem dX4_isCause_11 : decode cX4_isCause 11 = .ok (.ireturn, 1) := by decide +kernel
theorem dX4_isSet_0 : decode cX4_isSet 0 = .ok (.iload_n 0, 1) := by decide +kernel
theorem dX4_isSet_1 : decode cX4_isSet 1 = .ok (.i2l, 1) := by decide +kernel
theorem dX4_isSet_2 : decode cX4_isSet 2 = .ok (.lconst 0, 1) := by decide +kernel
theorem dX4_isSet_3 : decode cX4_isSet 3 = .ok (.ldc2_w 54, 3) := by decide +kernel
theorem dX4_isSet_6 : decode cX4_isSet 6 = .ok (.invokestatic 46, 3) := by decide +kernel
theorem dX4_isSet_9 : decode cX4_isSet 9 = .ok (.ireturn, 1) := by decide +kernel
theorem dX4_isUnitLike_0 : decode cX4_isUnitLike 0 = .ok (.iload_n 0, 1) := by decide +kernel
theorem dX4_isUnitLike_1 : decode cX4_isUnitLike 1 = .ok (.invokestatic 56, 3) := by decide +kernel
theorem dX4_isUnitLike_4 : decode cX4_isUnitLike 4 = .ok (.ifCond .eq 26, 3) := by decide +kernel
theorem dX4_isUnitLike_7 : decode cX4_isUnitLike 7 = .ok (.iload_n 1, 1) := by decide +kernel
theorem dX4_isUnitLike_8 : decode cX4_isUnitLike 8 = .ok (.i2l, 1) := by decide +kernel
theorem dX4_isUnitLike_9 : decode cX4_isUnitLike 9 = .ok (.lconst 1, 1) := by decide +kernel
theorem dX4_isUnitLike_10 : decode cX4_isUnitLike 10 = .ok (.ldc2_w 60, 3) := by decide +kernel
theorem dX4_isUnitLike_13 : decode cX4_isUnitLike 13 = .ok (.invokestatic 46, 3) := by decide +kernel
theorem dX4_isUnitLike_16 : decode cX4_isUnitLike 16 = .ok (.ifCond .eq 14, 3) := by decide +kernel
theorem dX4_isUnitLike_19 : decode cX4_isUnitLike 19 = .ok (.iload_n 2, 1) := by decide +kernel
theorem dX4_isUnitLike_20 : decode cX4_isUnitLike 20 = .ok (.invokestatic 62, 3) := by decide +kernel
theorem dX4_isUnitLike_23 : decode cX4_isUnitLike 23 = .ok (.ifCond .eq 7, 3) := by decide +kernel
theorem dX4_isUnitLike_26 : decode cX4_isUnitLike 26 = .ok (.iconst 1, 1) := by decide +kernel
theorem dX4_isUnitLike_27 : decode cX4_isUnitLike 27 = .ok (.goto 4, 3) := by decide +kernel
theorem dX4_isUnitLike_30 : decode cX4_isUnitLike 30 = .ok (.iconst 0, 1) := by decide +kernel
theorem dX4_isUnitLike_31 : decode cX4_isUnitLike 31 = .ok (.ireturn, 1) := by decide +kernel
theorem dX4_unit_0 : decode cX4_unit 0 = .ok (.iload_n 1, 1) := by decide +kernel
theorem dX4_unit_1 : decode cX4_unit 1 = .ok (.iload_n 2, 1) := by decide +kernel
theorem dX4_unit_2 : decode cX4_unit 2 = .ok (.iload_n 3, 1) := by decide +kernel
theorem dX4_unit_3 : decode cX4_unit 3 = .ok (.invokestatic 65, 3) := by decide +kernel
theorem dX4_unit_6 : decode cX4_unit 6 = .ok (.ifCond .ne 7, 3) := by decide +kernel
theorem dX4_unit_9 : decode cX4_unit 9 = .ok (.sipush (-1002), 3) := by decide +kernel
theorem dX4_unit_12 : decode cX4_unit 12 = .ok (.ireturn, 1) := by decide +kernel
theorem dX4_unit_13 : decode cX4_unit 13 = .ok (.aload_n 0, 1) := by decide +kernel
theorem dX4_unit_14 : decode cX4_unit 14 = .ok (.getfield 69, 3) := by decide +kernel
theorem dX4_unit_17 : decode cX4_unit 17 = .ok (.bipush 12, 2) := by decide +kernel
theorem dX4_unit_19 : decode cX4_unit 19 = .ok (.if_icmp .ne 7, 3) := by decide +kernel
theorem dX4_unit_22 : decode cX4_unit 22 = .ok (.sipush (-1004), 3) := by decide +kernel
theorem dX4_unit_25 : decode cX4_unit 25 = .ok (.ireturn, 1) := by decide +kernel
theorem dX4_unit_26 : decode cX4_unit 26 = .ok (.aload_n 0, 1) := by decide +kernel
theorem dX4_unit_27 : decode cX4_unit 27 = .ok (.getfield 7, 3) := by decide +kernel
theorem dX4_unit_30 : decode cX4_unit 30 = .ok (.aload_n 0, 1) := by decide +kernel
theorem dX4_unit_31 : decode cX4_unit 31 = .ok (.getfield 69, 3) := by decide +kernel
theorem dX4_unit_34 : decode cX4_unit 34 = .ok (.iload_n 1, 1) := by decide +kernel
theorem dX4_unit_35 : decode cX4_unit 35 = .ok (.iastore, 1) := by decide +kernel
theorem dX4_unit_36 : decode cX4_unit 36 = .ok (.aload_n 0, 1) := by decide +kernel
theorem dX4_unit_37 : decode cX4_unit 37 = .ok (.getfield 13, 3) := by decide +kernel
theorem dX4_unit_40 : decode cX4_unit 40 = .ok (.aload_n 0, 1) := by decide +kernel
theorem dX4_unit_41 : decode cX4_unit 41 = .ok (.getfield 69, 3) := by decide +kernel
theorem dX4_unit_44 : decode cX4_unit 44 = .ok (.iload_n 2, 1) := by decide +kernel
theorem dX4_unit_45 : decode cX4_unit 45 = .ok (.iastore, 1) := by decide +kernel
theorem dX4_unit_46 : decode cX4_unit 46 = .ok (.aload_n 0, 1) := by decide +kernel
theorem dX4_unit_47 : decode cX4_unit 47 = .ok (.getfield 16, 3) := by decide +kernel
theorem dX4_unit_50 : decode cX4_unit 50 = .ok (.aload_n 0, 1) := by decide +kernel
theorem dX4_unit_51 : decode cX4_unit 51 = .ok (.getfield 69, 3) := by decide +kernel
theorem dX4_unit_54 : decode cX4_unit 54 = .ok (.iload_n 3, 1) := by decide +kernel
theorem dX4_unit_55 : decode cX4_unit 55 = .ok (.iastore, 1) := by decide +kernel
theorem dX4_unit_56 : decode cX4_unit 56 = .ok (.aload_n 0, 1) := by decide +kernel
theorem dX4_unit_57 : decode cX4_unit 57 = .ok (.dup, 1) := by decide +kernel
theorem dX4_unit_58 : decode cX4_unit 58 = .ok (.getfield 69, 3) := by decide +kernel
theorem dX4_unit_61 : decode cX4_unit 61 = .ok (.iconst 1, 1) := by decide +kernel
theorem dX4_unit_62 : decode cX4_unit 62 = .ok (.iadd, 1) := by decide +kernel
theorem dX4_unit_63 : decode cX4_unit 63 = .ok (.putfield 69, 3) := by decide +kernel
theorem dX4_unit_66 : decode cX4_unit 66 = .ok (.aload_n 0, 1) := by decide +kernel
theorem dX4_unit_67 : decode cX4_unit 67 = .ok (.getfield 69, 3) := by decide +kernel
theorem dX4_unit_70 : decode cX4_unit 70 = .ok (.iconst 1, 1) := by decide +kernel
theorem dX4_unit_71 : decode cX4_unit 71 = .ok (.isub, 1) := by decide +kernel
theorem dX4_unit_72 : decode cX4_unit 72 = .ok (.ireturn, 1) := by decide +kernel
theorem dX4_isUnit_0 : decode cX4_isUnit 0 = .ok (.iload_n 1, 1) := by decide +kernel
theorem dX4_isUnit_1 : decode cX4_isUnit 1 = .ok (.i2l, 1) := by decide +kernel
theorem dX4_isUnit_2 : decode cX4_isUnit 2 = .ok (.lconst 0, 1) := by decide +kernel
theorem dX4_isUnit_3 : decode cX4_isUnit 3 = .ok (.aload_n 0, 1) := by decide +kernel
theorem dX4_isUnit_4 : decode cX4_isUnit 4 = .ok (.getfield 69, 3) := by decide +kernel
theorem dX4_isUnit_7 : decode cX4_isUnit 7 = .ok (.iconst 1, 1) := by decide +kernel
theorem dX4_isUnit_8 : decode cX4_isUnit 8 = .ok (.isub, 1) := by decide +kernel
theorem dX4_isUnit_9 : decode cX4_isUnit 9 = .ok (.i2l, 1) := by decide +kernel
theorem dX4_isUnit_10 : decode cX4_isUnit 10 = .ok (.invokestatic 46, 3) := by decide +kernel
theorem dX4_isUnit_13 : decode cX4_isUnit 13 = .ok (.ireturn, 1) := by decide +kernel
theorem dX4_set_0 : decode cX4_set 0 = .ok (.aload_n 0, 1) := by decide +kernel
theorem dX4_set_1 : decode cX4_set 1 = .ok (.iload_n 1, 1) := by decide +kernel
theorem dX4_set_2 : decode cX4_set 2 = .ok (.invokevirtual 72, 3) := by decide +kernel
theorem dX4_set_5 : decode cX4_set 5 = .ok (.ifCond .ne 7, 3) := by decide +kernel
theorem dX4_set_8 : decode cX4_set 8 = .ok (.sipush (-1001), 3) := by decide +kernel
theorem dX4_set_11 : decode cX4_set 11 = .ok (.ireturn, 1) := by decide +kernel
theorem dX4_set_12 : decode cX4_set 12 = .ok (.iload_n 2, 1) := by decide +kernel
theorem dX4_set_13 : decode cX4_set 13 = .ok (.iload_n 3, 1) := by decide +kernel
theorem dX4_set_14 : decode cX4_set 14 = .ok (.iload 4, 2) := by decide +kernel
theorem dX4_set_16 : decode cX4_set 16 = .ok (.invokestatic 65, 3) := by decide +kernel
theorem dX4_set_19 : decode cX4_set 19 = .ok (.ifCond .ne 7, 3) := by decide +kernel
theorem dX4_set_22 : decode cX4_set 22 = .ok (.sipush (-1002), 3) := by decide +kernel
theorem dX4_set_25 : decode cX4_set 25 = .ok (.ireturn, 1) := by decide +kernel
theorem dX4_set_26 : decode cX4_set 26 = .ok (.aload_n 0, 1) := by decide +kernel
theorem dX4_set_27 : decode cX4_set 27 = .ok (.getfield 7, 3) := by decide +kernel
theorem dX4_set_30 : decode cX4_set 30 = .ok (.iload_n 1, 1) := by decide +kernel
theorem dX4_set_31 : decode cX4_set 31 = .ok (.iload_n 2, 1) := by decide +kernel
theorem dX4_set_32 : decode cX4_set 32 = .ok (.iastore, 1) := by decide +kernel
theorem dX4_set_33 : decode cX4_set 33 = .ok (.aload_n 0, 1) := by decide +kernel
theorem dX4_set_34 : decode cX4_set 34 = .ok (.getfield 13, 3) := by decide +kernel
theorem dX4_set_37 : decode cX4_set 37 = .ok (.iload_n 1, 1) := by decide +kernel
theorem dX4_set_38 : decode cX4_set 38 = .ok (.iload_n 3, 1) := by decide +kernel
theorem dX4_set_39 : decode cX4_set 39 = .ok (.iastore, 1) := by decide +kernel
theorem dX4_set_40 : decode cX4_set 40 = .ok (.aload_n 0, 1) := by decide +kernel
theorem dX4_set_41 : decode cX4_set 41 = .ok (.getfield 16, 3) := by decide +kernel
theorem dX4_set_44 : decode cX4_set 44 = .ok (.iload_n 1, 1) := by decide +kernel
theorem dX4_set_45 : decode cX4_set 45 = .ok (.iload 4, 2) := by decide +kernel
theorem dX4_set_47 : decode cX4_set 47 = .ok (.iastore, 1) := by decide +kernel
theorem dX4_set_48 : decode cX4_set 48 = .ok (.iconst 1, 1) := by decide +kernel
theorem dX4_set_49 : decode cX4_set 49 = .ok (.ireturn, 1) := by decide +kernel
theorem dX4_drop_0 : decode cX4_drop 0 = .ok (.aload_n 0, 1) := by decide +kernel
theorem dX4_drop_1 : decode cX4_drop 1 = .ok (.getfield 69, 3) := by decide +kernel
theorem dX4_drop_4 : decode cX4_drop 4 = .ok (.ifCond .ne 7, 3) := by decide +kernel
theorem dX4_drop_7 : decode cX4_drop 7 = .ok (.sipush (-1003), 3) := by decide +kernel
theorem dX4_drop_10 : decode cX4_drop 10 = .ok (.ireturn, 1) := by decide +kernel
theorem dX4_drop_11 : decode cX4_drop 11 = .ok (.aload_n 0, 1) := by decide +kernel
theorem dX4_drop_12 : decode cX4_drop 12 = .ok (.dup, 1) := by decide +kernel
theorem dX4_drop_13 : decode cX4_drop 13 = .ok (.getfield 69, 3) := by decide +kernel
theorem dX4_drop_16 : decode cX4_drop 16 = .ok (.iconst 1, 1) := by decide +kernel
theorem dX4_drop_17 : decode cX4_drop 17 = .ok (.isub, 1) := by decide +kernel
theorem dX4_drop_18 : decode cX4_drop 18 = .ok (.putfield 69, 3) := by decide +kernel
theorem dX4_drop_21 : decode cX4_drop 21 = .ok (.aload_n 0, 1) := by decide +kernel
theorem dX4_drop_22 : decode cX4_drop 22 = .ok (.getfield 69, 3) := by decide +kernel
theorem dX4_drop_25 : decode cX4_drop 25 = .ok (.ireturn, 1) := by decide +kernel
theorem dX4_useHour_0 : decode cX4_useHour 0 = .ok (.aload_n 0, 1) := by decide +kernel
theorem dX4_useHour_1 : decode cX4_useHour 1 = .ok (.getfield 13, 3) := by decide +kernel
theorem dX4_useHour_4 : decode cX4_useHour 4 = .ok (.iload_n 1, 1) := by decide +kernel
theorem dX4_useHour_5 : decode cX4_useHour 5 = .ok (.iaload, 1) := by decide +kernel
theorem dX4_useHour_6 : decode cX4_useHour 6 = .ok (.aload_n 0, 1) := by decide +kernel
theorem dX4_useHour_7 : decode cX4_useHour 7 = .ok (.getfield 19, 3) := by decide +kernel
theorem dX4_useHour_10 : decode cX4_useHour 10 = .ok (.aload_n 0, 1) := by decide +kernel
theorem dX4_useHour_11 : decode cX4_useHour 11 = .ok (.getfield 7, 3) := by decide +kernel
theorem dX4_useHour_14 : decode cX4_useHour 14 = .ok (.iload_n 1, 1) := by decide +kernel
theorem dX4_useHour_15 : decode cX4_useHour 15 = .ok (.iaload, 1) := by decide +kernel
theorem dX4_useHour_16 : decode cX4_useHour 16 = .ok (.iaload, 1) := by decide +kernel
theorem dX4_useHour_17 : decode cX4_useHour 17 = .ok (.imul, 1) := by decide +kernel
theorem dX4_useHour_18 : decode cX4_useHour 18 = .ok (.bipush 10, 2) := by decide +kernel
theorem dX4_useHour_20 : decode cX4_useHour 20 = .ok (.idiv, 1) := by decide +kernel
theorem dX4_useHour_21 : decode cX4_useHour 21 = .ok (.ireturn, 1) := by decide +kernel
theorem dX4_told_0 : decode cX4_told 0 = .ok (.aload_n 0, 1) := by decide +kernel
theorem dX4_told_1 : decode cX4_told 1 = .ok (.iload_n 1, 1) := by decide +kernel
theorem dX4_told_2 : decode cX4_told 2 = .ok (.invokevirtual 72, 3) := by decide +kernel
theorem dX4_told_5 : decode cX4_told 5 = .ok (.ifCond .ne 7, 3) := by decide +kernel
theorem dX4_told_8 : decode cX4_told 8 = .ok (.sipush (-1001), 3) := by decide +kernel
theorem dX4_told_11 : decode cX4_told 11 = .ok (.ireturn, 1) := by decide +kernel
theorem dX4_told_12 : decode cX4_told 12 = .ok (.iload_n 2, 1) := by decide +kernel
theorem dX4_told_13 : decode cX4_told 13 = .ok (.tableswitch 58 0 3 #[31, 38, 45, 52], 31) := by decide +kernel
theorem dX4_told_44 : decode cX4_told 44 = .ok (.aload_n 0, 1) := by decide +kernel
theorem dX4_told_45 : decode cX4_told 45 = .ok (.getfield 7, 3) := by decide +kernel
theorem dX4_told_48 : decode cX4_told 48 = .ok (.iload_n 1, 1) := by decide +kernel
theorem dX4_told_49 : decode cX4_told 49 = .ok (.iaload, 1) := by decide +kernel
theorem dX4_told_50 : decode cX4_told 50 = .ok (.ireturn, 1) := by decide +kernel
theorem dX4_told_51 : decode cX4_told 51 = .ok (.aload_n 0, 1) := by decide +kernel
theorem dX4_told_52 : decode cX4_told 52 = .ok (.getfield 13, 3) := by decide +kernel
theorem dX4_told_55 : decode cX4_told 55 = .ok (.iload_n 1, 1) := by decide +kernel
theorem dX4_told_56 : decode cX4_told 56 = .ok (.iaload, 1) := by decide +kernel
theorem dX4_told_57 : decode cX4_told 57 = .ok (.ireturn, 1) := by decide +kernel
theorem dX4_told_58 : decode cX4_told 58 = .ok (.aload_n 0, 1) := by decide +kernel
theorem dX4_told_59 : decode cX4_told 59 = .ok (.getfield 16, 3) := by decide +kernel
theorem dX4_told_62 : decode cX4_told 62 = .ok (.iload_n 1, 1) := by decide +kernel
theorem dX4_told_63 : decode cX4_told 63 = .ok (.iaload, 1) := by decide +kernel
theorem dX4_told_64 : decode cX4_told 64 = .ok (.ireturn, 1) := by decide +kernel
theorem dX4_told_65 : decode cX4_told 65 = .ok (.aload_n 0, 1) := by decide +kernel
theorem dX4_told_66 : decode cX4_told 66 = .ok (.iload_n 1, 1) := by decide +kernel
theorem dX4_told_67 : decode cX4_told 67 = .ok (.invokevirtual 75, 3) := by decide +kernel
theorem dX4_told_70 : decode cX4_told 70 = .ok (.ireturn, 1) := by decide +kernel
theorem dX4_told_71 : decode cX4_told 71 = .ok (.sipush (-1002), 3) := by decide +kernel
theorem dX4_told_74 : decode cX4_told 74 = .ok (.ireturn, 1) := by decide +kernel
theorem dX4_isIn_0 : decode cX4_isIn 0 = .ok (.iload_n 2, 1) := by decide +kernel
theorem dX4_isIn_1 : decode cX4_isIn 1 = .ok (.aload_n 0, 1) := by decide +kernel
theorem dX4_isIn_2 : decode cX4_isIn 2 = .ok (.getfield 7, 3) := by decide +kernel
theorem dX4_isIn_5 : decode cX4_isIn 5 = .ok (.iload_n 1, 1) := by decide +kernel
theorem dX4_isIn_6 : decode cX4_isIn 6 = .ok (.iaload, 1) := by decide +kernel
theorem dX4_isIn_7 : decode cX4_isIn 7 = .ok (.ishr, 1) := by decide +kernel
theorem dX4_isIn_8 : decode cX4_isIn 8 = .ok (.iconst 1, 1) := by decide +kernel
theorem dX4_isIn_9 : decode cX4_isIn 9 = .ok (.iand, 1) := by decide +kernel
theorem dX4_isIn_10 : decode cX4_isIn 10 = .ok (.iconst 1, 1) := by decide +kernel
theorem dX4_isIn_11 : decode cX4_isIn 11 = .ok (.if_icmp .ne 7, 3) := by decide +kernel
theorem dX4_isIn_14 : decode cX4_isIn 14 = .ok (.iconst 1, 1) := by decide +kernel
theorem dX4_isIn_15 : decode cX4_isIn 15 = .ok (.goto 4, 3) := by decide +kernel
theorem dX4_isIn_18 : decode cX4_isIn 18 = .ok (.iconst 0, 1) := by decide +kernel
theorem dX4_isIn_19 : decode cX4_isIn 19 = .ok (.ireturn, 1) := by decide +kernel
theorem dX4_count_0 : decode cX4_count 0 = .ok (.iload_n 1, 1) := by decide +kernel
theorem dX4_count_1 : decode cX4_count 1 = .ok (.invokestatic 79, 3) := by decide +kernel
theorem dX4_count_4 : decode cX4_count 4 = .ok (.ifCond .eq 15, 3) := by decide +kernel
theorem dX4_count_7 : decode cX4_count 7 = .ok (.iload_n 2, 1) := by decide +kernel
theorem dX4_count_8 : decode cX4_count 8 = .ok (.i2l, 1) := by decide +kernel
theorem dX4_count_9 : decode cX4_count 9 = .ok (.lconst 0, 1) := by decide +kernel
theorem dX4_count_10 : decode cX4_count 10 = .ok (.ldc2_w 82, 3) := by decide +kernel
theorem dX4_count_13 : decode cX4_count 13 = .ok (.invokestatic 46, 3) := by decide +kernel
theorem dX4_count_16 : decode cX4_count 16 = .ok (.ifCond .ne 7, 3) := by decide +kernel
theorem dX4_count_19 : decode cX4_count 19 = .ok (.sipush (-1002), 3) := by decide +kernel
theorem dX4_count_22 : decode cX4_count 22 = .ok (.ireturn, 1) := by decide +kernel
theorem dX4_count_23 : decode cX4_count 23 = .ok (.iconst 0, 1) := by decide +kernel
theorem dX4_count_24 : decode cX4_count 24 = .ok (.istore_n 3, 1) := by decide +kernel
theorem dX4_count_25 : decode cX4_count 25 = .ok (.iconst 0, 1) := by decide +kernel
theorem dX4_count_26 : decode cX4_count 26 = .ok (.istore 4, 2) := by decide +kernel
theorem dX4_count_28 : decode cX4_count 28 = .ok (.iload 4, 2) := by decide +kernel
theorem dX4_count_30 : decode cX4_count 30 = .ok (.aload_n 0, 1) := by decide +kernel
theorem dX4_count_31 : decode cX4_count 31 = .ok (.getfield 69, 3) := by decide +kernel
theorem dX4_count_34 : decode cX4_count 34 = .ok (.if_icmp .ge 122, 3) := by decide +kernel
theorem dX4_count_37 : decode cX4_count 37 = .ok (.aload_n 0, 1) := by decide +kernel
theorem dX4_count_38 : decode cX4_count 38 = .ok (.iload 4, 2) := by decide +kernel
theorem dX4_count_40 : decode cX4_count 40 = .ok (.iload_n 1, 1) := by decide +kernel
theorem dX4_count_41 : decode cX4_count 41 = .ok (.invokevirtual 84, 3) := by decide +kernel
theorem dX4_count_44 : decode cX4_count 44 = .ok (.ifCond .eq 106, 3) := by decide +kernel
theorem dX4_count_47 : decode cX4_count 47 = .ok (.aload_n 0, 1) := by decide +kernel
theorem dX4_count_48 : decode cX4_count 48 = .ok (.getfield 16, 3) := by decide +kernel
theorem dX4_count_51 : decode cX4_count 51 = .ok (.iload 4, 2) := by decide +kernel
theorem dX4_count_53 : decode cX4_count 53 = .ok (.iaload, 1) := by decide +kernel
theorem dX4_count_54 : decode cX4_count 54 = .ok (.istore 5, 2) := by decide +kernel
theorem dX4_count_56 : decode cX4_count 56 = .ok (.iload_n 2, 1) := by decide +kernel
theorem dX4_count_57 : decode cX4_count 57 = .ok (.ifCond .eq 42, 3) := by decide +kernel
theorem dX4_count_60 : decode cX4_count 60 = .ok (.iload_n 2, 1) := by decide +kernel
theorem dX4_count_61 : decode cX4_count 61 = .ok (.iconst 1, 1) := by decide +kernel
theorem dX4_count_62 : decode cX4_count 62 = .ok (.if_icmp .ne 8, 3) := by decide +kernel
theorem dX4_count_65 : decode cX4_count 65 = .ok (.iload 5, 2) := by decide +kernel
theorem dX4_count_67 : decode cX4_count 67 = .ok (.ifCond .ge 32, 3) := by decide +kernel
theorem dX4_count_70 : decode cX4_count 70 = .ok (.iload_n 2, 1) := by decide +kernel
theorem dX4_count_71 : decode cX4_count 71 = .ok (.iconst 2, 1) := by decide +kernel
theorem dX4_count_72 : decode cX4_count 72 = .ok (.if_icmp .ne 8, 3) := by decide +kernel
theorem dX4_count_75 : decode cX4_count 75 = .ok (.iload 5, 2) := by decide +kernel
theorem dX4_count_77 : decode cX4_count 77 = .ok (.ifCond .lt 22, 3) := by decide +kernel
theorem dX4_count_80 : decode cX4_count 80 = .ok (.iload_n 2, 1) := by decide +kernel
theorem dX4_count_81 : decode cX4_count 81 = .ok (.bipush 6, 2) := by decide +kernel
theorem dX4_count_83 : decode cX4_count 83 = .ok (.if_icmp .ge 20, 3) := by decide +kernel
theorem dX4_count_86 : decode cX4_count 86 = .ok (.iload_n 2, 1) := by decide +kernel
theorem dX4_count_87 : decode cX4_count 87 = .ok (.iconst 2, 1) := by decide +kernel
theorem dX4_count_88 : decode cX4_count 88 = .ok (.if_icmp .le 15, 3) := by decide +kernel
theorem dX4_count_91 : decode cX4_count 91 = .ok (.iload 5, 2) := by decide +kernel
theorem dX4_count_93 : decode cX4_count 93 = .ok (.iload_n 2, 1) := by decide +kernel
theorem dX4_count_94 : decode cX4_count 94 = .ok (.iconst 3, 1) := by decide +kernel
theorem dX4_count_95 : decode cX4_count 95 = .ok (.isub, 1) := by decide +kernel
theorem dX4_count_96 : decode cX4_count 96 = .ok (.if_icmp .ne 7, 3) := by decide +kernel
theorem dX4_count_99 : decode cX4_count 99 = .ok (.iconst 1, 1) := by decide +kernel
theorem dX4_count_100 : decode cX4_count 100 = .ok (.goto 4, 3) := by decide +kernel
theorem dX4_count_103 : decode cX4_count 103 = .ok (.iconst 0, 1) := by decide +kernel
theorem dX4_count_104 : decode cX4_count 104 = .ok (.istore 6, 2) := by decide +kernel
theorem dX4_count_106 : decode cX4_count 106 = .ok (.iload_n 3, 1) := by decide +kernel
theorem dX4_count_107 : decode cX4_count 107 = .ok (.iload_n 2, 1) := by decide +kernel
theorem dX4_count_108 : decode cX4_count 108 = .ok (.bipush 6, 2) := by decide +kernel
theorem dX4_count_110 : decode cX4_count 110 = .ok (.if_icmp .ne 13, 3) := by decide +kernel
theorem dX4_count_113 : decode cX4_count 113 = .ok (.aload_n 0, 1) := by decide +kernel
theorem dX4_count_114 : decode cX4_count 114 = .ok (.getfield 13, 3) := by decide +kernel
theorem dX4_count_117 : decode cX4_count 117 = .ok (.iload 4, 2) := by decide +kernel
theorem dX4_count_119 : decode cX4_count 119 = .ok (.iaload, 1) := by decide +kernel
theorem dX4_count_120 : decode cX4_count 120 = .ok (.goto 28, 3) := by decide +kernel
theorem dX4_count_123 : decode cX4_count 123 = .ok (.iload_n 2, 1) := by decide +kernel
theorem dX4_count_124 : decode cX4_count 124 = .ok (.bipush 7, 2) := by decide +kernel
theorem dX4_count_126 : decode cX4_count 126 = .ok (.if_icmp .ne 12, 3) := by decide +kernel
theorem dX4_count_129 : decode cX4_count 129 = .ok (.aload_n 0, 1) := by decide +kernel
theorem dX4_count_130 : decode cX4_count 130 = .ok (.iload 4, 2) := by decide +kernel
theorem dX4_count_132 : decode cX4_count 132 = .ok (.invokevirtual 75, 3) := by decide +kernel
theorem dX4_count_135 : decode cX4_count 135 = .ok (.goto 13, 3) := by decide +kernel
theorem dX4_count_138 : decode cX4_count 138 = .ok (.iload 6, 2) := by decide +kernel
theorem dX4_count_140 : decode cX4_count 140 = .ok (.ifCond .eq 7, 3) := by decide +kernel
theorem dX4_count_143 : decode cX4_count 143 = .ok (.iconst 1, 1) := by decide +kernel
theorem dX4_count_144 : decode cX4_count 144 = .ok (.goto 4, 3) := by decide +kernel
theorem dX4_count_147 : decode cX4_count 147 = .ok (.iconst 0, 1) := by decide +kernel
theorem dX4_count_148 : decode cX4_count 148 = .ok (.iadd, 1) := by decide +kernel
theorem dX4_count_149 : decode cX4_count 149 = .ok (.istore_n 3, 1) := by decide +kernel
theorem dX4_count_150 : decode cX4_count 150 = .ok (.iinc 4 1, 3) := by decide +kernel
theorem dX4_count_153 : decode cX4_count 153 = .ok (.goto (-125), 3) := by decide +kernel
theorem dX4_count_156 : decode cX4_count 156 = .ok (.iload_n 3, 1) := by decide +kernel
theorem dX4_count_157 : decode cX4_count 157 = .ok (.ireturn, 1) := by decide +kernel
theorem dX4_riskAt_0 : decode cX4_riskAt 0 = .ok (.iconst 0, 1) := by decide +kernel
theorem dX4_riskAt_1 : decode cX4_riskAt 1 = .ok (.istore_n 3, 1) := by decide +kernel
theorem dX4_riskAt_2 : decode cX4_riskAt 2 = .ok (.iconst 0, 1) := by decide +kernel
theorem dX4_riskAt_3 : decode cX4_riskAt 3 = .ok (.istore 4, 2) := by decide +kernel
theorem dX4_riskAt_5 : decode cX4_riskAt 5 = .ok (.iload 4, 2) := by decide +kernel
theorem dX4_riskAt_7 : decode cX4_riskAt 7 = .ok (.aload_n 0, 1) := by decide +kernel
theorem dX4_riskAt_8 : decode cX4_riskAt 8 = .ok (.getfield 69, 3) := by decide +kernel
theorem dX4_riskAt_11 : decode cX4_riskAt 11 = .ok (.if_icmp .ge 38, 3) := by decide +kernel
theorem dX4_riskAt_14 : decode cX4_riskAt 14 = .ok (.iload_n 3, 1) := by decide +kernel
theorem dX4_riskAt_15 : decode cX4_riskAt 15 = .ok (.aload_n 0, 1) := by decide +kernel
theorem dX4_riskAt_16 : decode cX4_riskAt 16 = .ok (.iload 4, 2) := by decide +kernel
theorem dX4_riskAt_18 : decode cX4_riskAt 18 = .ok (.iload_n 1, 1) := by decide +kernel
theorem dX4_riskAt_19 : decode cX4_riskAt 19 = .ok (.invokevirtual 84, 3) := by decide +kernel
theorem dX4_riskAt_22 : decode cX4_riskAt 22 = .ok (.ifCond .eq 18, 3) := by decide +kernel
theorem dX4_riskAt_25 : decode cX4_riskAt 25 = .ok (.aload_n 0, 1) := by decide +kernel
theorem dX4_riskAt_26 : decode cX4_riskAt 26 = .ok (.getfield 13, 3) := by decide +kernel
theorem dX4_riskAt_29 : decode cX4_riskAt 29 = .ok (.iload 4, 2) := by decide +kernel
theorem dX4_riskAt_31 : decode cX4_riskAt 31 = .ok (.iaload, 1) := by decide +kernel
theorem dX4_riskAt_32 : decode cX4_riskAt 32 = .ok (.iload_n 2, 1) := by decide +kernel
theorem dX4_riskAt_33 : decode cX4_riskAt 33 = .ok (.if_icmp .lt 7, 3) := by decide +kernel
theorem dX4_riskAt_36 : decode cX4_riskAt 36 = .ok (.iconst 1, 1) := by decide +kernel
theorem dX4_riskAt_37 : decode cX4_riskAt 37 = .ok (.goto 4, 3) := by decide +kernel
theorem dX4_riskAt_40 : decode cX4_riskAt 40 = .ok (.iconst 0, 1) := by decide +kernel
theorem dX4_riskAt_41 : decode cX4_riskAt 41 = .ok (.iadd, 1) := by decide +kernel
theorem dX4_riskAt_42 : decode cX4_riskAt 42 = .ok (.istore_n 3, 1) := by decide +kernel
theorem dX4_riskAt_43 : decode cX4_riskAt 43 = .ok (.iinc 4 1, 3) := by decide +kernel
theorem dX4_riskAt_46 : decode cX4_riskAt 46 = .ok (.goto (-41), 3) := by decide +kernel
theorem dX4_riskAt_49 : decode cX4_riskAt 49 = .ok (.iload_n 3, 1) := by decide +kernel
theorem dX4_riskAt_50 : decode cX4_riskAt 50 = .ok (.ireturn, 1) := by decide +kernel
theorem dX4_risk_0 : decode cX4_risk 0 = .ok (.iload_n 1, 1) := by decide +kernel
theorem dX4_risk_1 : decode cX4_risk 1 = .ok (.invokestatic 79, 3) := by decide +kernel
theorem dX4_risk_4 : decode cX4_risk 4 = .ok (.ifCond .eq 24, 3) := by decide +kernel
theorem dX4_risk_7 : decode cX4_risk 7 = .ok (.iload_n 2, 1) := by decide +kernel
theorem dX4_risk_8 : decode cX4_risk 8 = .ok (.i2l, 1) := by decide +kernel
theorem dX4_risk_9 : decode cX4_risk 9 = .ok (.lconst 0, 1) := by decide +kernel
theorem dX4_risk_10 : decode cX4_risk 10 = .ok (.ldc2_w 60, 3) := by decide +kernel
theorem dX4_risk_13 : decode cX4_risk 13 = .ok (.invokestatic 46, 3) := by decide +kernel
theorem dX4_risk_16 : decode cX4_risk 16 = .ok (.ifCond .eq 12, 3) := by decide +kernel
theorem dX4_risk_19 : decode cX4_risk 19 = .ok (.aload_n 0, 1) := by decide +kernel
theorem dX4_risk_20 : decode cX4_risk 20 = .ok (.iload_n 1, 1) := by decide +kernel
theorem dX4_risk_21 : decode cX4_risk 21 = .ok (.iload_n 2, 1) := by decide +kernel
theorem dX4_risk_22 : decode cX4_risk 22 = .ok (.invokevirtual 88, 3) := by decide +kernel
theorem dX4_risk_25 : decode cX4_risk 25 = .ok (.goto 6, 3) := by decide +kernel
theorem dX4_risk_28 : decode cX4_risk 28 = .ok (.sipush (-1002), 3) := by decide +kernel
theorem dX4_risk_31 : decode cX4_risk 31 = .ok (.ireturn, 1) := by decide +kernel
theorem dX4_failedAt_0 : decode cX4_failedAt 0 = .ok (.iconst 0, 1) := by decide +kernel
theorem dX4_failedAt_1 : decode cX4_failedAt 1 = .ok (.istore 4, 2) := by decide +kernel
theorem dX4_failedAt_3 : decode cX4_failedAt 3 = .ok (.iconst 0, 1) := by decide +kernel
theorem dX4_failedAt_4 : decode cX4_failedAt 4 = .ok (.istore 5, 2) := by decide +kernel
theorem dX4_failedAt_6 : decode cX4_failedAt 6 = .ok (.iload 5, 2) := by decide +kernel
theorem dX4_failedAt_8 : decode cX4_failedAt 8 = .ok (.aload_n 0, 1) := by decide +kernel
theorem dX4_failedAt_9 : decode cX4_failedAt 9 = .ok (.getfield 69, 3) := by decide +kernel
theorem dX4_failedAt_12 : decode cX4_failedAt 12 = .ok (.if_icmp .ge 85, 3) := by decide +kernel
theorem dX4_failedAt_15 : decode cX4_failedAt 15 = .ok (.iload_n 2, 1) := by decide +kernel
theorem dX4_failedAt_16 : decode cX4_failedAt 16 = .ok (.ifCond .ge 21, 3) := by decide +kernel
theorem dX4_failedAt_19 : decode cX4_failedAt 19 = .ok (.aload_n 0, 1) := by decide +kernel
theorem dX4_failedAt_20 : decode cX4_failedAt 20 = .ok (.getfield 16, 3) := by decide +kernel
theorem dX4_failedAt_23 : decode cX4_failedAt 23 = .ok (.iload 5, 2) := by decide +kernel
theorem dX4_failedAt_25 : decode cX4_failedAt 25 = .ok (.iaload, 1) := by decide +kernel
theorem dX4_failedAt_26 : decode cX4_failedAt 26 = .ok (.ifCond .lt 7, 3) := by decide +kernel
theorem dX4_failedAt_29 : decode cX4_failedAt 29 = .ok (.iconst 1, 1) := by decide +kernel
theorem dX4_failedAt_30 : decode cX4_failedAt 30 = .ok (.goto 23, 3) := by decide +kernel
theorem dX4_failedAt_33 : decode cX4_failedAt 33 = .ok (.iconst 0, 1) := by decide +kernel
theorem dX4_failedAt_34 : decode cX4_failedAt 34 = .ok (.goto 19, 3) := by decide +kernel
theorem dX4_failedAt_37 : decode cX4_failedAt 37 = .ok (.aload_n 0, 1) := by decide +kernel
theorem dX4_failedAt_38 : decode cX4_failedAt 38 = .ok (.getfield 16, 3) := by decide +kernel
theorem dX4_failedAt_41 : decode cX4_failedAt 41 = .ok (.iload 5, 2) := by decide +kernel
theorem dX4_failedAt_43 : decode cX4_failedAt 43 = .ok (.iaload, 1) := by decide +kernel
theorem dX4_failedAt_44 : decode cX4_failedAt 44 = .ok (.iload_n 2, 1) := by decide +kernel
theorem dX4_failedAt_45 : decode cX4_failedAt 45 = .ok (.if_icmp .ne 7, 3) := by decide +kernel
theorem dX4_failedAt_48 : decode cX4_failedAt 48 = .ok (.iconst 1, 1) := by decide +kernel
theorem dX4_failedAt_49 : decode cX4_failedAt 49 = .ok (.goto 4, 3) := by decide +kernel
theorem dX4_failedAt_52 : decode cX4_failedAt 52 = .ok (.iconst 0, 1) := by decide +kernel
theorem dX4_failedAt_53 : decode cX4_failedAt 53 = .ok (.istore 6, 2) := by decide +kernel
theorem dX4_failedAt_55 : decode cX4_failedAt 55 = .ok (.iload 4, 2) := by decide +kernel
theorem dX4_failedAt_57 : decode cX4_failedAt 57 = .ok (.aload_n 0, 1) := by decide +kernel
theorem dX4_failedAt_58 : decode cX4_failedAt 58 = .ok (.iload 5, 2) := by decide +kernel
theorem dX4_failedAt_60 : decode cX4_failedAt 60 = .ok (.iload_n 1, 1) := by decide +kernel
theorem dX4_failedAt_61 : decode cX4_failedAt 61 = .ok (.invokevirtual 84, 3) := by decide +kernel
theorem dX4_failedAt_64 : decode cX4_failedAt 64 = .ok (.ifCond .eq 23, 3) := by decide +kernel
theorem dX4_failedAt_67 : decode cX4_failedAt 67 = .ok (.iload 6, 2) := by decide +kernel
theorem dX4_failedAt_69 : decode cX4_failedAt 69 = .ok (.ifCond .eq 18, 3) := by decide +kernel
theorem dX4_failedAt_72 : decode cX4_failedAt 72 = .ok (.aload_n 0, 1) := by decide +kernel
theorem dX4_failedAt_73 : decode cX4_failedAt 73 = .ok (.getfield 13, 3) := by decide +kernel
theorem dX4_failedAt_76 : decode cX4_failedAt 76 = .ok (.iload 5, 2) := by decide +kernel
theorem dX4_failedAt_78 : decode cX4_failedAt 78 = .ok (.iaload, 1) := by decide +kernel
theorem dX4_failedAt_79 : decode cX4_failedAt 79 = .ok (.iload_n 3, 1) := by decide +kernel
theorem dX4_failedAt_80 : decode cX4_failedAt 80 = .ok (.if_icmp .ne 7, 3) := by decide +kernel
theorem dX4_failedAt_83 : decode cX4_failedAt 83 = .ok (.iconst 1, 1) := by decide +kernel
theorem dX4_failedAt_84 : decode cX4_failedAt 84 = .ok (.goto 4, 3) := by decide +kernel
theorem dX4_failedAt_87 : decode cX4_failedAt 87 = .ok (.iconst 0, 1) := by decide +kernel
theorem dX4_failedAt_88 : decode cX4_failedAt 88 = .ok (.iadd, 1) := by decide +kernel
theorem dX4_failedAt_89 : decode cX4_failedAt 89 = .ok (.istore 4, 2) := by decide +kernel
theorem dX4_failedAt_91 : decode cX4_failedAt 91 = .ok (.iinc 5 1, 3) := by decide +kernel
theorem dX4_failedAt_94 : decode cX4_failedAt 94 = .ok (.goto (-88), 3) := by decide +kernel
theorem dX4_failedAt_97 : decode cX4_failedAt 97 = .ok (.iload 4, 2) := by decide +kernel
theorem dX4_failedAt_99 : decode cX4_failedAt 99 = .ok (.ireturn, 1) := by decide +kernel
theorem dX4_common_0 : decode cX4_common 0 = .ok (.lload_n 0, 1) := by decide +kernel
theorem dX4_common_1 : decode cX4_common 1 = .ok (.lconst 0, 1) := by decide +kernel
theorem dX4_common_2 : decode cX4_common 2 = .ok (.lcmp, 1) := by decide +kernel
theorem dX4_common_3 : decode cX4_common 3 = .ok (.ifCond .ge 8, 3) := by decide +kernel
theorem dX4_common_6 : decode cX4_common 6 = .ok (.lload_n 0, 1) := by decide +kernel
theorem dX4_common_7 : decode cX4_common 7 = .ok (.lneg, 1) := by decide +kernel
theorem dX4_common_8 : decode cX4_common 8 = .ok (.goto 4, 3) := by decide +kernel
theorem dX4_common_11 : decode cX4_common 11 = .ok (.lload_n 0, 1) := by decide +kernel
theorem dX4_common_12 : decode cX4_common 12 = .ok (.lstore 4, 2) := by decide +kernel
theorem dX4_common_14 : decode cX4_common 14 = .ok (.lload_n 2, 1) := by decide +kernel
theorem dX4_common_15 : decode cX4_common 15 = .ok (.lstore 6, 2) := by decide +kernel
theorem dX4_common_17 : decode cX4_common 17 = .ok (.lload 6, 2) := by decide +kernel
theorem dX4_common_19 : decode cX4_common 19 = .ok (.lconst 0, 1) := by decide +kernel
theorem dX4_common_20 : decode cX4_common 20 = .ok (.lcmp, 1) := by decide +kernel
theorem dX4_common_21 : decode cX4_common 21 = .ok (.ifCond .eq 21, 3) := by decide +kernel
theorem dX4_common_24 : decode cX4_common 24 = .ok (.lload 4, 2) := by decide +kernel
theorem dX4_common_26 : decode cX4_common 26 = .ok (.lload 6, 2) := by decide +kernel
theorem dX4_common_28 : decode cX4_common 28 = .ok (.lrem, 1) := by decide +kernel
theorem dX4_common_29 : decode cX4_common 29 = .ok (.lstore 8, 2) := by decide +kernel
theorem dX4_common_31 : decode cX4_common 31 = .ok (.lload 6, 2) := by decide +kernel
theorem dX4_common_33 : decode cX4_common 33 = .ok (.lstore 4, 2) := by decide +kernel
theorem dX4_common_35 : decode cX4_common 35 = .ok (.lload 8, 2) := by decide +kernel
theorem dX4_common_37 : decode cX4_common 37 = .ok (.lstore 6, 2) := by decide +kernel
theorem dX4_common_39 : decode cX4_common 39 = .ok (.goto (-22), 3) := by decide +kernel
theorem dX4_common_42 : decode cX4_common 42 = .ok (.lload 4, 2) := by decide +kernel
theorem dX4_common_44 : decode cX4_common 44 = .ok (.lreturn, 1) := by decide +kernel
theorem dX4_lay_0 : decode cX4_lay 0 = .ok (.iconst 0, 1) := by decide +kernel
theorem dX4_lay_1 : decode cX4_lay 1 = .ok (.istore_n 3, 1) := by decide +kernel
theorem dX4_lay_2 : decode cX4_lay 2 = .ok (.iload_n 3, 1) := by decide +kernel
theorem dX4_lay_3 : decode cX4_lay 3 = .ok (.sipush 500, 3) := by decide +kernel
theorem dX4_lay_6 : decode cX4_lay 6 = .ok (.if_icmp .gt 23, 3) := by decide +kernel
theorem dX4_lay_9 : decode cX4_lay 9 = .ok (.aload_n 0, 1) := by decide +kernel
theorem dX4_lay_10 : decode cX4_lay 10 = .ok (.getfield 35, 3) := by decide +kernel
theorem dX4_lay_13 : decode cX4_lay 13 = .ok (.iload_n 3, 1) := by decide +kernel
theorem dX4_lay_14 : decode cX4_lay 14 = .ok (.iconst 0, 1) := by decide +kernel
theorem dX4_lay_15 : decode cX4_lay 15 = .ok (.iastore, 1) := by decide +kernel
theorem dX4_lay_16 : decode cX4_lay 16 = .ok (.aload_n 0, 1) := by decide +kernel
theorem dX4_lay_17 : decode cX4_lay 17 = .ok (.getfield 38, 3) := by decide +kernel
theorem dX4_lay_20 : decode cX4_lay 20 = .ok (.iload_n 3, 1) := by decide +kernel
theorem dX4_lay_21 : decode cX4_lay 21 = .ok (.iconst 0, 1) := by decide +kernel
theorem dX4_lay_22 : decode cX4_lay 22 = .ok (.iastore, 1) := by decide +kernel
theorem dX4_lay_23 : decode cX4_lay 23 = .ok (.iinc 3 1, 3) := by decide +kernel
theorem dX4_lay_26 : decode cX4_lay 26 = .ok (.goto (-24), 3) := by decide +kernel
theorem dX4_lay_29 : decode cX4_lay 29 = .ok (.iconst 0, 1) := by decide +kernel
theorem dX4_lay_30 : decode cX4_lay 30 = .ok (.istore_n 3, 1) := by decide +kernel
theorem dX4_lay_31 : decode cX4_lay 31 = .ok (.iload_n 3, 1) := by decide +kernel
theorem dX4_lay_32 : decode cX4_lay 32 = .ok (.aload_n 0, 1) := by decide +kernel
theorem dX4_lay_33 : decode cX4_lay 33 = .ok (.getfield 69, 3) := by decide +kernel
theorem dX4_lay_36 : decode cX4_lay 36 = .ok (.if_icmp .ge 77, 3) := by decide +kernel
theorem dX4_lay_39 : decode cX4_lay 39 = .ok (.aload_n 0, 1) := by decide +kernel
theorem dX4_lay_40 : decode cX4_lay 40 = .ok (.iload_n 3, 1) := by decide +kernel
theorem dX4_lay_41 : decode cX4_lay 41 = .ok (.iload_n 1, 1) := by decide +kernel
theorem dX4_lay_42 : decode cX4_lay 42 = .ok (.invokevirtual 84, 3) := by decide +kernel
theorem dX4_lay_45 : decode cX4_lay 45 = .ok (.ifCond .eq 62, 3) := by decide +kernel
theorem dX4_lay_48 : decode cX4_lay 48 = .ok (.aload_n 0, 1) := by decide +kernel
theorem dX4_lay_49 : decode cX4_lay 49 = .ok (.getfield 35, 3) := by decide +kernel
theorem dX4_lay_52 : decode cX4_lay 52 = .ok (.aload_n 0, 1) := by decide +kernel
theorem dX4_lay_53 : decode cX4_lay 53 = .ok (.getfield 13, 3) := by decide +kernel
theorem dX4_lay_56 : decode cX4_lay 56 = .ok (.iload_n 3, 1) := by decide +kernel
theorem dX4_lay_57 : decode cX4_lay 57 = .ok (.iaload, 1) := by decide +kernel
theorem dX4_lay_58 : decode cX4_lay 58 = .ok (.iaload, 1) := by decide +kernel
theorem dX4_lay_59 : decode cX4_lay 59 = .ok (.ifCond .ne 48, 3) := by decide +kernel
theorem dX4_lay_62 : decode cX4_lay 62 = .ok (.aload_n 0, 1) := by decide +kernel
theorem dX4_lay_63 : decode cX4_lay 63 = .ok (.getfield 35, 3) := by decide +kernel
theorem dX4_lay_66 : decode cX4_lay 66 = .ok (.aload_n 0, 1) := by decide +kernel
theorem dX4_lay_67 : decode cX4_lay 67 = .ok (.getfield 13, 3) := by decide +kernel
theorem dX4_lay_70 : decode cX4_lay 70 = .ok (.iload_n 3, 1) := by decide +kernel
theorem dX4_lay_71 : decode cX4_lay 71 = .ok (.iaload, 1) := by decide +kernel
theorem dX4_lay_72 : decode cX4_lay 72 = .ok (.aload_n 0, 1) := by decide +kernel
theorem dX4_lay_73 : decode cX4_lay 73 = .ok (.iload_n 1, 1) := by decide +kernel
theorem dX4_lay_74 : decode cX4_lay 74 = .ok (.iload_n 2, 1) := by decide +kernel
theorem dX4_lay_75 : decode cX4_lay 75 = .ok (.aload_n 0, 1) := by decide +kernel
theorem dX4_lay_76 : decode cX4_lay 76 = .ok (.getfield 13, 3) := by decide +kernel
theorem dX4_lay_79 : decode cX4_lay 79 = .ok (.iload_n 3, 1) := by decide +kernel
theorem dX4_lay_80 : decode cX4_lay 80 = .ok (.iaload, 1) := by decide +kernel
theorem dX4_lay_81 : decode cX4_lay 81 = .ok (.invokevirtual 92, 3) := by decide +kernel
theorem dX4_lay_84 : decode cX4_lay 84 = .ok (.iastore, 1) := by decide +kernel
theorem dX4_lay_85 : decode cX4_lay 85 = .ok (.aload_n 0, 1) := by decide +kernel
theorem dX4_lay_86 : decode cX4_lay 86 = .ok (.getfield 38, 3) := by decide +kernel
theorem dX4_lay_89 : decode cX4_lay 89 = .ok (.aload_n 0, 1) := by decide +kernel
theorem dX4_lay_90 : decode cX4_lay 90 = .ok (.getfield 13, 3) := by decide +kernel
theorem dX4_lay_93 : decode cX4_lay 93 = .ok (.iload_n 3, 1) := by decide +kernel
theorem dX4_lay_94 : decode cX4_lay 94 = .ok (.iaload, 1) := by decide +kernel
theorem dX4_lay_95 : decode cX4_lay 95 = .ok (.aload_n 0, 1) := by decide +kernel
theorem dX4_lay_96 : decode cX4_lay 96 = .ok (.iload_n 1, 1) := by decide +kernel
theorem dX4_lay_97 : decode cX4_lay 97 = .ok (.aload_n 0, 1) := by decide +kernel
theorem dX4_lay_98 : decode cX4_lay 98 = .ok (.getfield 13, 3) := by decide +kernel
theorem dX4_lay_101 : decode cX4_lay 101 = .ok (.iload_n 3, 1) := by decide +kernel
theorem dX4_lay_102 : decode cX4_lay 102 = .ok (.iaload, 1) := by decide +kernel
theorem dX4_lay_103 : decode cX4_lay 103 = .ok (.invokevirtual 88, 3) := by decide +kernel
theorem dX4_lay_106 : decode cX4_lay 106 = .ok (.iastore, 1) := by decide +kernel
theorem dX4_lay_107 : decode cX4_lay 107 = .ok (.iinc 3 1, 3) := by decide +kernel
theorem dX4_lay_110 : decode cX4_lay 110 = .ok (.goto (-79), 3) := by decide +kernel
theorem dX4_lay_113 : decode cX4_lay 113 = .ok (.return_, 1) := by decide +kernel
theorem dX4_goOn_0 : decode cX4_goOn 0 = .ok (.aload_n 0, 1) := by decide +kernel
theorem dX4_goOn_1 : decode cX4_goOn 1 = .ok (.getfield 35, 3) := by decide +kernel
theorem dX4_goOn_4 : decode cX4_goOn 4 = .ok (.iload_n 1, 1) := by decide +kernel
theorem dX4_goOn_5 : decode cX4_goOn 5 = .ok (.iaload, 1) := by decide +kernel
theorem dX4_goOn_6 : decode cX4_goOn 6 = .ok (.istore_n 2, 1) := by decide +kernel
theorem dX4_goOn_7 : decode cX4_goOn 7 = .ok (.iload_n 2, 1) := by decide +kernel
theorem dX4_goOn_8 : decode cX4_goOn 8 = .ok (.ifCond .le 69, 3) := by decide +kernel
theorem dX4_goOn_11 : decode cX4_goOn 11 = .ok (.aload_n 0, 1) := by decide +kernel
theorem dX4_goOn_12 : decode cX4_goOn 12 = .ok (.getfield 38, 3) := by decide +kernel
theorem dX4_goOn_15 : decode cX4_goOn 15 = .ok (.iload_n 1, 1) := by decide +kernel
theorem dX4_goOn_16 : decode cX4_goOn 16 = .ok (.iaload, 1) := by decide +kernel
theorem dX4_goOn_17 : decode cX4_goOn 17 = .ok (.istore_n 3, 1) := by decide +kernel
theorem dX4_goOn_18 : decode cX4_goOn 18 = .ok (.aload_n 0, 1) := by decide +kernel
theorem dX4_goOn_19 : decode cX4_goOn 19 = .ok (.dup, 1) := by decide +kernel
theorem dX4_goOn_20 : decode cX4_goOn 20 = .ok (.getfield 96, 3) := by decide +kernel
theorem dX4_goOn_23 : decode cX4_goOn 23 = .ok (.iload_n 3, 1) := by decide +kernel
theorem dX4_goOn_24 : decode cX4_goOn 24 = .ok (.iload_n 2, 1) := by decide +kernel
theorem dX4_goOn_25 : decode cX4_goOn 25 = .ok (.isub, 1) := by decide +kernel
theorem dX4_goOn_26 : decode cX4_goOn 26 = .ok (.i2l, 1) := by decide +kernel
theorem dX4_goOn_27 : decode cX4_goOn 27 = .ok (.lmul, 1) := by decide +kernel
theorem dX4_goOn_28 : decode cX4_goOn 28 = .ok (.putfield 96, 3) := by decide +kernel
theorem dX4_goOn_31 : decode cX4_goOn 31 = .ok (.aload_n 0, 1) := by decide +kernel
theorem dX4_goOn_32 : decode cX4_goOn 32 = .ok (.dup, 1) := by decide +kernel
theorem dX4_goOn_33 : decode cX4_goOn 33 = .ok (.getfield 100, 3) := by decide +kernel
theorem dX4_goOn_36 : decode cX4_goOn 36 = .ok (.iload_n 3, 1) := by decide +kernel
theorem dX4_goOn_37 : decode cX4_goOn 37 = .ok (.i2l, 1) := by decide +kernel
theorem dX4_goOn_38 : decode cX4_goOn 38 = .ok (.lmul, 1) := by decide +kernel
theorem dX4_goOn_39 : decode cX4_goOn 39 = .ok (.putfield 100, 3) := by decide +kernel
theorem dX4_goOn_42 : decode cX4_goOn 42 = .ok (.aload_n 0, 1) := by decide +kernel
theorem dX4_goOn_43 : decode cX4_goOn 43 = .ok (.getfield 96, 3) := by decide +kernel
theorem dX4_goOn_46 : decode cX4_goOn 46 = .ok (.aload_n 0, 1) := by decide +kernel
theorem dX4_goOn_47 : decode cX4_goOn 47 = .ok (.getfield 100, 3) := by decide +kernel
theorem dX4_goOn_50 : decode cX4_goOn 50 = .ok (.invokestatic 103, 3) := by decide +kernel
theorem dX4_goOn_53 : decode cX4_goOn 53 = .ok (.lstore 4, 2) := by decide +kernel
theorem dX4_goOn_55 : decode cX4_goOn 55 = .ok (.aload_n 0, 1) := by decide +kernel
theorem dX4_goOn_56 : decode cX4_goOn 56 = .ok (.dup, 1) := by decide +kernel
theorem dX4_goOn_57 : decode cX4_goOn 57 = .ok (.getfield 96, 3) := by decide +kernel
theorem dX4_goOn_60 : decode cX4_goOn 60 = .ok (.lload 4, 2) := by decide +kernel
theorem dX4_goOn_62 : decode cX4_goOn 62 = .ok (.ldiv, 1) := by decide +kernel
theorem dX4_goOn_63 : decode cX4_goOn 63 = .ok (.putfield 96, 3) := by decide +kernel
theorem dX4_goOn_66 : decode cX4_goOn 66 = .ok (.aload_n 0, 1) := by decide +kernel
theorem dX4_goOn_67 : decode cX4_goOn 67 = .ok (.dup, 1) := by decide +kernel
theorem dX4_goOn_68 : decode cX4_goOn 68 = .ok (.getfield 100, 3) := by decide +kernel
theorem dX4_goOn_71 : decode cX4_goOn 71 = .ok (.lload 4, 2) := by decide +kernel
theorem dX4_goOn_73 : decode cX4_goOn 73 = .ok (.ldiv, 1) := by decide +kernel
theorem dX4_goOn_74 : decode cX4_goOn 74 = .ok (.putfield 100, 3) := by decide +kernel
theorem dX4_goOn_77 : decode cX4_goOn 77 = .ok (.return_, 1) := by decide +kernel
theorem dX4_findLeft_0 : decode cX4_findLeft 0 = .ok (.aload_n 0, 1) := by decide +kernel
theorem dX4_findLeft_1 : decode cX4_findLeft 1 = .ok (.lconst 1, 1) := by decide +kernel
theorem dX4_findLeft_2 : decode cX4_findLeft 2 = .ok (.putfield 96, 3) := by decide +kernel
theorem dX4_findLeft_5 : decode cX4_findLeft 5 = .ok (.aload_n 0, 1) := by decide +kernel
theorem dX4_findLeft_6 : decode cX4_findLeft 6 = .ok (.lconst 1, 1) := by decide +kernel
theorem dX4_findLeft_7 : decode cX4_findLeft 7 = .ok (.putfield 100, 3) := by decide +kernel
theorem dX4_findLeft_10 : decode cX4_findLeft 10 = .ok (.iconst 0, 1) := by decide +kernel
theorem dX4_findLeft_11 : decode cX4_findLeft 11 = .ok (.istore_n 2, 1) := by decide +kernel
theorem dX4_findLeft_12 : decode cX4_findLeft 12 = .ok (.iload_n 2, 1) := by decide +kernel
theorem dX4_findLeft_13 : decode cX4_findLeft 13 = .ok (.iload_n 1, 1) := by decide +kernel
theorem dX4_findLeft_14 : decode cX4_findLeft 14 = .ok (.if_icmp .gt 14, 3) := by decide +kernel
theorem dX4_findLeft_17 : decode cX4_findLeft 17 = .ok (.aload_n 0, 1) := by decide +kernel
theorem dX4_findLeft_18 : decode cX4_findLeft 18 = .ok (.iload_n 2, 1) := by decide +kernel
theorem dX4_findLeft_19 : decode cX4_findLeft 19 = .ok (.invokevirtual 107, 3) := by decide +kernel
theorem dX4_findLeft_22 : decode cX4_findLeft 22 = .ok (.iinc 2 1, 3) := by decide +kernel
theorem dX4_findLeft_25 : decode cX4_findLeft 25 = .ok (.goto (-13), 3) := by decide +kernel
theorem dX4_findLeft_28 : decode cX4_findLeft 28 = .ok (.return_, 1) := by decide +kernel
theorem dX4_add_0 : decode cX4_add 0 = .ok (.aload_n 0, 1) := by decide +kernel
theorem dX4_add_1 : decode cX4_add 1 = .ok (.aload_n 0, 1) := by decide +kernel
theorem dX4_add_2 : decode cX4_add 2 = .ok (.getfield 111, 3) := by decide +kernel
theorem dX4_add_5 : decode cX4_add 5 = .ok (.aload_n 0, 1) := by decide +kernel
theorem dX4_add_6 : decode cX4_add 6 = .ok (.getfield 100, 3) := by decide +kernel
theorem dX4_add_9 : decode cX4_add 9 = .ok (.lmul, 1) := by decide +kernel
theorem dX4_add_10 : decode cX4_add 10 = .ok (.aload_n 0, 1) := by decide +kernel
theorem dX4_add_11 : decode cX4_add 11 = .ok (.getfield 96, 3) := by decide +kernel
theorem dX4_add_14 : decode cX4_add 14 = .ok (.aload_n 0, 1) := by decide +kernel
theorem dX4_add_15 : decode cX4_add 15 = .ok (.getfield 114, 3) := by decide +kernel
theorem dX4_add_18 : decode cX4_add 18 = .ok (.lmul, 1) := by decide +kernel
theorem dX4_add_19 : decode cX4_add 19 = .ok (.ladd, 1) := by decide +kernel
theorem dX4_add_20 : decode cX4_add 20 = .ok (.putfield 111, 3) := by decide +kernel
theorem dX4_add_23 : decode cX4_add 23 = .ok (.aload_n 0, 1) := by decide +kernel
theorem dX4_add_24 : decode cX4_add 24 = .ok (.dup, 1) := by decide +kernel
theorem dX4_add_25 : decode cX4_add 25 = .ok (.getfield 114, 3) := by decide +kernel
theorem dX4_add_28 : decode cX4_add 28 = .ok (.aload_n 0, 1) := by decide +kernel
theorem dX4_add_29 : decode cX4_add 29 = .ok (.getfield 100, 3) := by decide +kernel
theorem dX4_add_32 : decode cX4_add 32 = .ok (.lmul, 1) := by decide +kernel
theorem dX4_add_33 : decode cX4_add 33 = .ok (.putfield 114, 3) := by decide +kernel
theorem dX4_add_36 : decode cX4_add 36 = .ok (.aload_n 0, 1) := by decide +kernel
theorem dX4_add_37 : decode cX4_add 37 = .ok (.getfield 111, 3) := by decide +kernel
theorem dX4_add_40 : decode cX4_add 40 = .ok (.aload_n 0, 1) := by decide +kernel
theorem dX4_add_41 : decode cX4_add 41 = .ok (.getfield 114, 3) := by decide +kernel
theorem dX4_add_44 : decode cX4_add 44 = .ok (.invokestatic 103, 3) := by decide +kernel
theorem dX4_add_47 : decode cX4_add 47 = .ok (.lstore_n 1, 1) := by decide +kernel
theorem dX4_add_48 : decode cX4_add 48 = .ok (.aload_n 0, 1) := by decide +kernel
theorem dX4_add_49 : decode cX4_add 49 = .ok (.dup, 1) := by decide +kernel
theorem dX4_add_50 : decode cX4_add 50 = .ok (.getfield 111, 3) := by decide +kernel
theorem dX4_add_53 : decode cX4_add 53 = .ok (.lload_n 1, 1) := by decide +kernel
theorem dX4_add_54 : decode cX4_add 54 = .ok (.ldiv, 1) := by decide +kernel
theorem dX4_add_55 : decode cX4_add 55 = .ok (.putfield 111, 3) := by decide +kernel
theorem dX4_add_58 : decode cX4_add 58 = .ok (.aload_n 0, 1) := by decide +kernel
theorem dX4_add_59 : decode cX4_add 59 = .ok (.dup, 1) := by decide +kernel
theorem dX4_add_60 : decode cX4_add 60 = .ok (.getfield 114, 3) := by decide +kernel
theorem dX4_add_63 : decode cX4_add 63 = .ok (.lload_n 1, 1) := by decide +kernel
theorem dX4_add_64 : decode cX4_add 64 = .ok (.ldiv, 1) := by decide +kernel
theorem dX4_add_65 : decode cX4_add 65 = .ok (.putfield 114, 3) := by decide +kernel
theorem dX4_add_68 : decode cX4_add 68 = .ok (.return_, 1) := by decide +kernel
theorem dX4_findRest_0 : decode cX4_findRest 0 = .ok (.aload_n 0, 1) := by decide +kernel
theorem dX4_findRest_1 : decode cX4_findRest 1 = .ok (.lconst 0, 1) := by decide +kernel
theorem dX4_findRest_2 : decode cX4_findRest 2 = .ok (.putfield 111, 3) := by decide +kernel
theorem dX4_findRest_5 : decode cX4_findRest 5 = .ok (.aload_n 0, 1) := by decide +kernel
theorem dX4_findRest_6 : decode cX4_findRest 6 = .ok (.lconst 1, 1) := by decide +kernel
theorem dX4_findRest_7 : decode cX4_findRest 7 = .ok (.putfield 114, 3) := by decide +kernel
theorem dX4_findRest_10 : decode cX4_findRest 10 = .ok (.aload_n 0, 1) := by decide +kernel
theorem dX4_findRest_11 : decode cX4_findRest 11 = .ok (.lconst 1, 1) := by decide +kernel
theorem dX4_findRest_12 : decode cX4_findRest 12 = .ok (.putfield 96, 3) := by decide +kernel
theorem dX4_findRest_15 : decode cX4_findRest 15 = .ok (.aload_n 0, 1) := by decide +kernel
theorem dX4_findRest_16 : decode cX4_findRest 16 = .ok (.lconst 1, 1) := by decide +kernel
theorem dX4_findRest_17 : decode cX4_findRest 17 = .ok (.putfield 100, 3) := by decide +kernel
theorem dX4_findRest_20 : decode cX4_findRest 20 = .ok (.iload_n 1, 1) := by decide +kernel
theorem dX4_findRest_21 : decode cX4_findRest 21 = .ok (.istore_n 3, 1) := by decide +kernel
theorem dX4_findRest_22 : decode cX4_findRest 22 = .ok (.iload_n 3, 1) := by decide +kernel
theorem dX4_findRest_23 : decode cX4_findRest 23 = .ok (.iload_n 2, 1) := by decide +kernel
theorem dX4_findRest_24 : decode cX4_findRest 24 = .ok (.if_icmp .ge 23, 3) := by decide +kernel
theorem dX4_findRest_27 : decode cX4_findRest 27 = .ok (.iload_n 3, 1) := by decide +kernel
theorem dX4_findRest_28 : decode cX4_findRest 28 = .ok (.iload_n 1, 1) := by decide +kernel
theorem dX4_findRest_29 : decode cX4_findRest 29 = .ok (.if_icmp .le 8, 3) := by decide +kernel
theorem dX4_findRest_32 : decode cX4_findRest 32 = .ok (.aload_n 0, 1) := by decide +kernel
theorem dX4_findRest_33 : decode cX4_findRest 33 = .ok (.iload_n 3, 1) := by decide +kernel
theorem dX4_findRest_34 : decode cX4_findRest 34 = .ok (.invokevirtual 107, 3) := by decide +kernel
theorem dX4_findRest_37 : decode cX4_findRest 37 = .ok (.aload_n 0, 1) := by decide +kernel
theorem dX4_findRest_38 : decode cX4_findRest 38 = .ok (.invokevirtual 117, 3) := by decide +kernel
theorem dX4_findRest_41 : decode cX4_findRest 41 = .ok (.iinc 3 1, 3) := by decide +kernel
theorem dX4_findRest_44 : decode cX4_findRest 44 = .ok (.goto (-22), 3) := by decide +kernel
theorem dX4_findRest_47 : decode cX4_findRest 47 = .ok (.return_, 1) := by decide +kernel
theorem dX4_left_0 : decode cX4_left 0 = .ok (.iload_n 1, 1) := by decide +kernel
theorem dX4_left_1 : decode cX4_left 1 = .ok (.invokestatic 79, 3) := by decide +kernel
theorem dX4_left_4 : decode cX4_left 4 = .ok (.ifCond .eq 33, 3) := by decide +kernel
theorem dX4_left_7 : decode cX4_left 7 = .ok (.iload_n 2, 1) := by decide +kernel
theorem dX4_left_8 : decode cX4_left 8 = .ok (.invokestatic 62, 3) := by decide +kernel
theorem dX4_left_11 : decode cX4_left 11 = .ok (.ifCond .eq 26, 3) := by decide +kernel
theorem dX4_left_14 : decode cX4_left 14 = .ok (.iload_n 3, 1) := by decide +kernel
theorem dX4_left_15 : decode cX4_left 15 = .ok (.i2l, 1) := by decide +kernel
theorem dX4_left_16 : decode cX4_left 16 = .ok (.lconst 0, 1) := by decide +kernel
theorem dX4_left_17 : decode cX4_left 17 = .ok (.ldc2_w 60, 3) := by decide +kernel
theorem dX4_left_20 : decode cX4_left 20 = .ok (.invokestatic 46, 3) := by decide +kernel
theorem dX4_left_23 : decode cX4_left 23 = .ok (.ifCond .eq 14, 3) := by decide +kernel
theorem dX4_left_26 : decode cX4_left 26 = .ok (.iload 4, 2) := by decide +kernel
theorem dX4_left_28 : decode cX4_left 28 = .ok (.i2l, 1) := by decide +kernel
theorem dX4_left_29 : decode cX4_left 29 = .ok (.lconst 0, 1) := by decide +kernel
theorem dX4_left_30 : decode cX4_left 30 = .ok (.lconst 1, 1) := by decide +kernel
theorem dX4_left_31 : decode cX4_left 31 = .ok (.invokestatic 46, 3) := by decide +kernel
theorem dX4_left_34 : decode cX4_left 34 = .ok (.ifCond .ne 7, 3) := by decide +kernel
theorem dX4_left_37 : decode cX4_left 37 = .ok (.ldc2_w 120, 3) := by decide +kernel
theorem dX4_left_40 : decode cX4_left 40 = .ok (.lreturn, 1) := by decide +kernel
theorem dX4_left_41 : decode cX4_left 41 = .ok (.aload_n 0, 1) := by decide +kernel
theorem dX4_left_42 : decode cX4_left 42 = .ok (.iload_n 1, 1) := by decide +kernel
theorem dX4_left_43 : decode cX4_left 43 = .ok (.iload_n 2, 1) := by decide +kernel
theorem dX4_left_44 : decode cX4_left 44 = .ok (.invokevirtual 122, 3) := by decide +kernel
theorem dX4_left_47 : decode cX4_left 47 = .ok (.aload_n 0, 1) := by decide +kernel
theorem dX4_left_48 : decode cX4_left 48 = .ok (.iload_n 3, 1) := by decide +kernel
theorem dX4_left_49 : decode cX4_left 49 = .ok (.invokevirtual 126, 3) := by decide +kernel
theorem dX4_left_52 : decode cX4_left 52 = .ok (.iload 4, 2) := by decide +kernel
theorem dX4_left_54 : decode cX4_left 54 = .ok (.ifCond .ne 10, 3) := by decide +kernel
theorem dX4_left_57 : decode cX4_left 57 = .ok (.aload_n 0, 1) := by decide +kernel
theorem dX4_left_58 : decode cX4_left 58 = .ok (.getfield 96, 3) := by decide +kernel
theorem dX4_left_61 : decode cX4_left 61 = .ok (.goto 7, 3) := by decide +kernel
theorem dX4_left_64 : decode cX4_left 64 = .ok (.aload_n 0, 1) := by decide +kernel
theorem dX4_left_65 : decode cX4_left 65 = .ok (.getfield 100, 3) := by decide +kernel
theorem dX4_left_68 : decode cX4_left 68 = .ok (.lreturn, 1) := by decide +kernel
theorem dX4_timeOf_0 : decode cX4_timeOf 0 = .ok (.aload_n 0, 1) := by decide +kernel
theorem dX4_timeOf_1 : decode cX4_timeOf 1 = .ok (.iload_n 1, 1) := by decide +kernel
theorem dX4_timeOf_2 : decode cX4_timeOf 2 = .ok (.iload_n 2, 1) := by decide +kernel
theorem dX4_timeOf_3 : decode cX4_timeOf 3 = .ok (.invokevirtual 122, 3) := by decide +kernel
theorem dX4_timeOf_6 : decode cX4_timeOf 6 = .ok (.aload_n 0, 1) := by decide +kernel
theorem dX4_timeOf_7 : decode cX4_timeOf 7 = .ok (.lconst 1, 1) := by decide +kernel
theorem dX4_timeOf_8 : decode cX4_timeOf 8 = .ok (.putfield 96, 3) := by decide +kernel
theorem dX4_timeOf_11 : decode cX4_timeOf 11 = .ok (.aload_n 0, 1) := by decide +kernel
theorem dX4_timeOf_12 : decode cX4_timeOf 12 = .ok (.lconst 1, 1) := by decide +kernel
theorem dX4_timeOf_13 : decode cX4_timeOf 13 = .ok (.putfield 100, 3) := by decide +kernel
theorem dX4_timeOf_16 : decode cX4_timeOf 16 = .ok (.iconst 0, 1) := by decide +kernel
theorem dX4_timeOf_17 : decode cX4_timeOf 17 = .ok (.istore 5, 2) := by decide +kernel
theorem dX4_timeOf_19 : decode cX4_timeOf 19 = .ok (.iload 5, 2) := by decide +kernel
theorem dX4_timeOf_21 : decode cX4_timeOf 21 = .ok (.sipush 500, 3) := by decide +kernel
theorem dX4_timeOf_24 : decode cX4_timeOf 24 = .ok (.if_icmp .gt 37, 3) := by decide +kernel
theorem dX4_timeOf_27 : decode cX4_timeOf 27 = .ok (.aload_n 0, 1) := by decide +kernel
theorem dX4_timeOf_28 : decode cX4_timeOf 28 = .ok (.iload 5, 2) := by decide +kernel
theorem dX4_timeOf_30 : decode cX4_timeOf 30 = .ok (.invokevirtual 107, 3) := by decide +kernel
theorem dX4_timeOf_33 : decode cX4_timeOf 33 = .ok (.aload_n 0, 1) := by decide +kernel
theorem dX4_timeOf_34 : decode cX4_timeOf 34 = .ok (.getfield 96, 3) := by decide +kernel
theorem dX4_timeOf_37 : decode cX4_timeOf 37 = .ok (.iload 4, 2) := by decide +kernel
theorem dX4_timeOf_39 : decode cX4_timeOf 39 = .ok (.i2l, 1) := by decide +kernel
theorem dX4_timeOf_40 : decode cX4_timeOf 40 = .ok (.lmul, 1) := by decide +kernel
theorem dX4_timeOf_41 : decode cX4_timeOf 41 = .ok (.iload_n 3, 1) := by decide +kernel
theorem dX4_timeOf_42 : decode cX4_timeOf 42 = .ok (.i2l, 1) := by decide +kernel
theorem dX4_timeOf_43 : decode cX4_timeOf 43 = .ok (.aload_n 0, 1) := by decide +kernel
theorem dX4_timeOf_44 : decode cX4_timeOf 44 = .ok (.getfield 100, 3) := by decide +kernel
theorem dX4_timeOf_47 : decode cX4_timeOf 47 = .ok (.lmul, 1) := by decide +kernel
theorem dX4_timeOf_48 : decode cX4_timeOf 48 = .ok (.lcmp, 1) := by decide +kernel
theorem dX4_timeOf_49 : decode cX4_timeOf 49 = .ok (.ifCond .gt 6, 3) := by decide +kernel
theorem dX4_timeOf_52 : decode cX4_timeOf 52 = .ok (.iload 5, 2) := by decide +kernel
theorem dX4_timeOf_54 : decode cX4_timeOf 54 = .ok (.ireturn, 1) := by decide +kernel
theorem dX4_timeOf_55 : decode cX4_timeOf 55 = .ok (.iinc 5 1, 3) := by decide +kernel
theorem dX4_timeOf_58 : decode cX4_timeOf 58 = .ok (.goto (-39), 3) := by decide +kernel
theorem dX4_timeOf_61 : decode cX4_timeOf 61 = .ok (.iconst (-1), 1) := by decide +kernel
theorem dX4_timeOf_62 : decode cX4_timeOf 62 = .ok (.ireturn, 1) := by decide +kernel
theorem dX4_time_0 : decode cX4_time 0 = .ok (.iload_n 1, 1) := by decide +kernel
theorem dX4_time_1 : decode cX4_time 1 = .ok (.invokestatic 79, 3) := by decide +kernel
theorem dX4_time_4 : decode cX4_time 4 = .ok (.ifCond .eq 35, 3) := by decide +kernel
theorem dX4_time_7 : decode cX4_time 7 = .ok (.iload_n 2, 1) := by decide +kernel
theorem dX4_time_8 : decode cX4_time 8 = .ok (.invokestatic 62, 3) := by decide +kernel
theorem dX4_time_11 : decode cX4_time 11 = .ok (.ifCond .eq 28, 3) := by decide +kernel
theorem dX4_time_14 : decode cX4_time 14 = .ok (.iload 4, 2) := by decide +kernel
theorem dX4_time_16 : decode cX4_time 16 = .ok (.i2l, 1) := by decide +kernel
theorem dX4_time_17 : decode cX4_time 17 = .ok (.lconst 1, 1) := by decide +kernel
theorem dX4_time_18 : decode cX4_time 18 = .ok (.ldc2_w 129, 3) := by decide +kernel
theorem dX4_time_21 : decode cX4_time 21 = .ok (.invokestatic 46, 3) := by decide +kernel
theorem dX4_time_24 : decode cX4_time 24 = .ok (.ifCond .eq 15, 3) := by decide +kernel
theorem dX4_time_27 : decode cX4_time 27 = .ok (.iload_n 3, 1) := by decide +kernel
theorem dX4_time_28 : decode cX4_time 28 = .ok (.i2l, 1) := by decide +kernel
theorem dX4_time_29 : decode cX4_time 29 = .ok (.lconst 0, 1) := by decide +kernel
theorem dX4_time_30 : decode cX4_time 30 = .ok (.iload 4, 2) := by decide +kernel
theorem dX4_time_32 : decode cX4_time 32 = .ok (.i2l, 1) := by decide +kernel
theorem dX4_time_33 : decode cX4_time 33 = .ok (.invokestatic 46, 3) := by decide +kernel
theorem dX4_time_36 : decode cX4_time 36 = .ok (.ifCond .ne 7, 3) := by decide +kernel
theorem dX4_time_39 : decode cX4_time 39 = .ok (.sipush (-1002), 3) := by decide +kernel
theorem dX4_time_42 : decode cX4_time 42 = .ok (.ireturn, 1) := by decide +kernel
theorem dX4_time_43 : decode cX4_time 43 = .ok (.aload_n 0, 1) := by decide +kernel
theorem dX4_time_44 : decode cX4_time 44 = .ok (.iload_n 1, 1) := by decide +kernel
theorem dX4_time_45 : decode cX4_time 45 = .ok (.iload_n 2, 1) := by decide +kernel
theorem dX4_time_46 : decode cX4_time 46 = .ok (.iload_n 3, 1) := by decide +kernel
theorem dX4_time_47 : decode cX4_time 47 = .ok (.iload 4, 2) := by decide +kernel
theorem dX4_time_49 : decode cX4_time 49 = .ok (.invokevirtual 131, 3) := by decide +kernel
theorem dX4_time_52 : decode cX4_time 52 = .ok (.ireturn, 1) := by decide +kernel
theorem dX4_mean_0 : decode cX4_mean 0 = .ok (.iload_n 1, 1) := by decide +kernel
theorem dX4_mean_1 : decode cX4_mean 1 = .ok (.invokestatic 79, 3) := by decide +kernel
theorem dX4_mean_4 : decode cX4_mean 4 = .ok (.ifCond .eq 33, 3) := by decide +kernel
theorem dX4_mean_7 : decode cX4_mean 7 = .ok (.iload_n 2, 1) := by decide +kernel
theorem dX4_mean_8 : decode cX4_mean 8 = .ok (.invokestatic 62, 3) := by decide +kernel
theorem dX4_mean_11 : decode cX4_mean 11 = .ok (.ifCond .eq 26, 3) := by decide +kernel
theorem dX4_mean_14 : decode cX4_mean 14 = .ok (.iload_n 3, 1) := by decide +kernel
theorem dX4_mean_15 : decode cX4_mean 15 = .ok (.i2l, 1) := by decide +kernel
theorem dX4_mean_16 : decode cX4_mean 16 = .ok (.lconst 1, 1) := by decide +kernel
theorem dX4_mean_17 : decode cX4_mean 17 = .ok (.ldc2_w 60, 3) := by decide +kernel
theorem dX4_mean_20 : decode cX4_mean 20 = .ok (.invokestatic 46, 3) := by decide +kernel
theorem dX4_mean_23 : decode cX4_mean 23 = .ok (.ifCond .eq 14, 3) := by decide +kernel
theorem dX4_mean_26 : decode cX4_mean 26 = .ok (.iload 4, 2) := by decide +kernel
theorem dX4_mean_28 : decode cX4_mean 28 = .ok (.i2l, 1) := by decide +kernel
theorem dX4_mean_29 : decode cX4_mean 29 = .ok (.lconst 0, 1) := by decide +kernel
theorem dX4_mean_30 : decode cX4_mean 30 = .ok (.lconst 1, 1) := by decide +kernel
theorem dX4_mean_31 : decode cX4_mean 31 = .ok (.invokestatic 46, 3) := by decide +kernel
theorem dX4_mean_34 : decode cX4_mean 34 = .ok (.ifCond .ne 7, 3) := by decide +kernel
theorem dX4_mean_37 : decode cX4_mean 37 = .ok (.ldc2_w 120, 3) := by decide +kernel
theorem dX4_mean_40 : decode cX4_mean 40 = .ok (.lreturn, 1) := by decide +kernel
theorem dX4_mean_41 : decode cX4_mean 41 = .ok (.aload_n 0, 1) := by decide +kernel
theorem dX4_mean_42 : decode cX4_mean 42 = .ok (.iload_n 1, 1) := by decide +kernel
theorem dX4_mean_43 : decode cX4_mean 43 = .ok (.iload_n 2, 1) := by decide +kernel
theorem dX4_mean_44 : decode cX4_mean 44 = .ok (.invokevirtual 122, 3) := by decide +kernel
theorem dX4_mean_47 : decode cX4_mean 47 = .ok (.aload_n 0, 1) := by decide +kernel
theorem dX4_mean_48 : decode cX4_mean 48 = .ok (.iconst 0, 1) := by decide +kernel
theorem dX4_mean_49 : decode cX4_mean 49 = .ok (.iload_n 3, 1) := by decide +kernel
theorem dX4_mean_50 : decode cX4_mean 50 = .ok (.invokevirtual 135, 3) := by decide +kernel
theorem dX4_mean_53 : decode cX4_mean 53 = .ok (.iload 4, 2) := by decide +kernel
theorem dX4_mean_55 : decode cX4_mean 55 = .ok (.ifCond .ne 10, 3) := by decide +kernel
theorem dX4_mean_58 : decode cX4_mean 58 = .ok (.aload_n 0, 1) := by decide +kernel
theorem dX4_mean_59 : decode cX4_mean 59 = .ok (.getfield 111, 3) := by decide +kernel
theorem dX4_mean_62 : decode cX4_mean 62 = .ok (.goto 7, 3) := by decide +kernel
theorem dX4_mean_65 : decode cX4_mean 65 = .ok (.aload_n 0, 1) := by decide +kernel
theorem dX4_mean_66 : decode cX4_mean 66 = .ok (.getfield 114, 3) := by decide +kernel
theorem dX4_mean_69 : decode cX4_mean 69 = .ok (.lreturn, 1) := by decide +kernel
theorem dX4_isLeftAt_0 : decode cX4_isLeftAt 0 = .ok (.aload_n 0, 1) := by decide +kernel
theorem dX4_isLeftAt_1 : decode cX4_isLeftAt 1 = .ok (.iload_n 1, 1) := by decide +kernel
theorem dX4_isLeftAt_2 : decode cX4_isLeftAt 2 = .ok (.invokevirtual 126, 3) := by decide +kernel
theorem dX4_isLeftAt_5 : decode cX4_isLeftAt 5 = .ok (.aload_n 0, 1) := by decide +kernel
theorem dX4_isLeftAt_6 : decode cX4_isLeftAt 6 = .ok (.getfield 96, 3) := by decide +kernel
theorem dX4_isLeftAt_9 : decode cX4_isLeftAt 9 = .ok (.lconst 0, 1) := by decide +kernel
theorem dX4_isLeftAt_10 : decode cX4_isLeftAt 10 = .ok (.lcmp, 1) := by decide +kernel
theorem dX4_isLeftAt_11 : decode cX4_isLeftAt 11 = .ok (.ifCond .le 7, 3) := by decide +kernel
theorem dX4_isLeftAt_14 : decode cX4_isLeftAt 14 = .ok (.iconst 1, 1) := by decide +kernel
theorem dX4_isLeftAt_15 : decode cX4_isLeftAt 15 = .ok (.goto 4, 3) := by decide +kernel
theorem dX4_isLeftAt_18 : decode cX4_isLeftAt 18 = .ok (.iconst 0, 1) := by decide +kernel
theorem dX4_isLeftAt_19 : decode cX4_isLeftAt 19 = .ok (.ireturn, 1) := by decide +kernel
theorem dX4_rest_0 : decode cX4_rest 0 = .ok (.iload_n 1, 1) := by decide +kernel
theorem dX4_rest_1 : decode cX4_rest 1 = .ok (.invokestatic 79, 3) := by decide +kernel
theorem dX4_rest_4 : decode cX4_rest 4 = .ok (.ifCond .eq 48, 3) := by decide +kernel
theorem dX4_rest_7 : decode cX4_rest 7 = .ok (.iload_n 2, 1) := by decide +kernel
theorem dX4_rest_8 : decode cX4_rest 8 = .ok (.invokestatic 62, 3) := by decide +kernel
theorem dX4_rest_11 : decode cX4_rest 11 = .ok (.ifCond .eq 41, 3) := by decide +kernel
theorem dX4_rest_14 : decode cX4_rest 14 = .ok (.iload 4, 2) := by decide +kernel
theorem dX4_rest_16 : decode cX4_rest 16 = .ok (.i2l, 1) := by decide +kernel
theorem dX4_rest_17 : decode cX4_rest 17 = .ok (.lconst 1, 1) := by decide +kernel
theorem dX4_rest_18 : decode cX4_rest 18 = .ok (.ldc2_w 60, 3) := by decide +kernel
theorem dX4_rest_21 : decode cX4_rest 21 = .ok (.invokestatic 46, 3) := by decide +kernel
theorem dX4_rest_24 : decode cX4_rest 24 = .ok (.ifCond .eq 28, 3) := by decide +kernel
theorem dX4_rest_27 : decode cX4_rest 27 = .ok (.iload_n 3, 1) := by decide +kernel
theorem dX4_rest_28 : decode cX4_rest 28 = .ok (.i2l, 1) := by decide +kernel
theorem dX4_rest_29 : decode cX4_rest 29 = .ok (.lconst 0, 1) := by decide +kernel
theorem dX4_rest_30 : decode cX4_rest 30 = .ok (.iload 4, 2) := by decide +kernel
theorem dX4_rest_32 : decode cX4_rest 32 = .ok (.iconst 1, 1) := by decide +kernel
theorem dX4_rest_33 : decode cX4_rest 33 = .ok (.isub, 1) := by decide +kernel
theorem dX4_rest_34 : decode cX4_rest 34 = .ok (.i2l, 1) := by decide +kernel
theorem dX4_rest_35 : decode cX4_rest 35 = .ok (.invokestatic 46, 3) := by decide +kernel
theorem dX4_rest_38 : decode cX4_rest 38 = .ok (.ifCond .eq 14, 3) := by decide +kernel
theorem dX4_rest_41 : decode cX4_rest 41 = .ok (.iload 5, 2) := by decide +kernel
theorem dX4_rest_43 : decode cX4_rest 43 = .ok (.i2l, 1) := by decide +kernel
theorem dX4_rest_44 : decode cX4_rest 44 = .ok (.lconst 0, 1) := by decide +kernel
theorem dX4_rest_45 : decode cX4_rest 45 = .ok (.lconst 1, 1) := by decide +kernel
theorem dX4_rest_46 : decode cX4_rest 46 = .ok (.invokestatic 46, 3) := by decide +kernel
theorem dX4_rest_49 : decode cX4_rest 49 = .ok (.ifCond .ne 7, 3) := by decide +kernel
theorem dX4_rest_52 : decode cX4_rest 52 = .ok (.ldc2_w 120, 3) := by decide +kernel
theorem dX4_rest_55 : decode cX4_rest 55 = .ok (.lreturn, 1) := by decide +kernel
theorem dX4_rest_56 : decode cX4_rest 56 = .ok (.aload_n 0, 1) := by decide +kernel
theorem dX4_rest_57 : decode cX4_rest 57 = .ok (.iload_n 1, 1) := by decide +kernel
theorem dX4_rest_58 : decode cX4_rest 58 = .ok (.iload_n 2, 1) := by decide +kernel
theorem dX4_rest_59 : decode cX4_rest 59 = .ok (.invokevirtual 122, 3) := by decide +kernel
theorem dX4_rest_62 : decode cX4_rest 62 = .ok (.aload_n 0, 1) := by decide +kernel
theorem dX4_rest_63 : decode cX4_rest 63 = .ok (.iload_n 3, 1) := by decide +kernel
theorem dX4_rest_64 : decode cX4_rest 64 = .ok (.invokevirtual 138, 3) := by decide +kernel
theorem dX4_rest_67 : decode cX4_rest 67 = .ok (.ifCond .ne 7, 3) := by decide +kernel
theorem dX4_rest_70 : decode cX4_rest 70 = .ok (.ldc2_w 141, 3) := by decide +kernel
theorem dX4_rest_73 : decode cX4_rest 73 = .ok (.lreturn, 1) := by decide +kernel
theorem dX4_rest_74 : decode cX4_rest 74 = .ok (.aload_n 0, 1) := by decide +kernel
theorem dX4_rest_75 : decode cX4_rest 75 = .ok (.iload_n 3, 1) := by decide +kernel
theorem dX4_rest_76 : decode cX4_rest 76 = .ok (.iload 4, 2) := by decide +kernel
theorem dX4_rest_78 : decode cX4_rest 78 = .ok (.invokevirtual 135, 3) := by decide +kernel
theorem dX4_rest_81 : decode cX4_rest 81 = .ok (.iload 5, 2) := by decide +kernel
theorem dX4_rest_83 : decode cX4_rest 83 = .ok (.ifCond .ne 10, 3) := by decide +kernel
theorem dX4_rest_86 : decode cX4_rest 86 = .ok (.aload_n 0, 1) := by decide +kernel
theorem dX4_rest_87 : decode cX4_rest 87 = .ok (.getfield 111, 3) := by decide +kernel
theorem dX4_rest_90 : decode cX4_rest 90 = .ok (.goto 7, 3) := by decide +kernel
theorem dX4_rest_93 : decode cX4_rest 93 = .ok (.aload_n 0, 1) := by decide +kernel
theorem dX4_rest_94 : decode cX4_rest 94 = .ok (.getfield 114, 3) := by decide +kernel
theorem dX4_rest_97 : decode cX4_rest 97 = .ok (.lreturn, 1) := by decide +kernel
theorem dX4_isGreater_0 : decode cX4_isGreater 0 = .ok (.lload_n 0, 1) := by decide +kernel
theorem dX4_isGreater_1 : decode cX4_isGreater 1 = .ok (.lconst 0, 1) := by decide +kernel
theorem dX4_isGreater_2 : decode cX4_isGreater 2 = .ok (.lcmp, 1) := by decide +kernel
theorem dX4_isGreater_3 : decode cX4_isGreater 3 = .ok (.ifCond .lt 9, 3) := by decide +kernel
theorem dX4_isGreater_6 : decode cX4_isGreater 6 = .ok (.lload_n 0, 1) := by decide +kernel
theorem dX4_isGreater_7 : decode cX4_isGreater 7 = .ok (.lload_n 2, 1) := by decide +kernel
theorem dX4_isGreater_8 : decode cX4_isGreater 8 = .ok (.ldiv, 1) := by decide +kernel
theorem dX4_isGreater_9 : decode cX4_isGreater 9 = .ok (.goto 12, 3) := by decide +kernel
theorem dX4_isGreater_12 : decode cX4_isGreater 12 = .ok (.lload_n 0, 1) := by decide +kernel
theorem dX4_isGreater_13 : decode cX4_isGreater 13 = .ok (.lneg, 1) := by decide +kernel
theorem dX4_isGreater_14 : decode cX4_isGreater 14 = .ok (.lload_n 2, 1) := by decide +kernel
theorem dX4_isGreater_15 : decode cX4_isGreater 15 = .ok (.ladd, 1) := by decide +kernel
theorem dX4_isGreater_16 : decode cX4_isGreater 16 = .ok (.lconst 1, 1) := by decide +kernel
theorem dX4_isGreater_17 : decode cX4_isGreater 17 = .ok (.lsub, 1) := by decide +kernel
theorem dX4_isGreater_18 : decode cX4_isGreater 18 = .ok (.lload_n 2, 1) := by decide +kernel
theorem dX4_isGreater_19 : decode cX4_isGreater 19 = .ok (.ldiv, 1) := by decide +kernel
theorem dX4_isGreater_20 : decode cX4_isGreater 20 = .ok (.lneg, 1) := by decide +kernel
theorem dX4_isGreater_21 : decode cX4_isGreater 21 = .ok (.lstore 8, 2) := by decide +kernel
theorem dX4_isGreater_23 : decode cX4_isGreater 23 = .ok (.lload 4, 2) := by decide +kernel
theorem dX4_isGreater_25 : decode cX4_isGreater 25 = .ok (.lconst 0, 1) := by decide +kernel
theorem dX4_isGreater_26 : decode cX4_isGreater 26 = .ok (.lcmp, 1) := by decide +kernel
theorem dX4_isGreater_27 : decode cX4_isGreater 27 = .ok (.ifCond .lt 11, 3) := by decide +kernel
theorem dX4_isGreater_30 : decode cX4_isGreater 30 = .ok (.lload 4, 2) := by decide +kernel
theorem dX4_isGreater_32 : decode cX4_isGreater 32 = .ok (.lload 6, 2) := by decide +kernel
theorem dX4_isGreater_34 : decode cX4_isGreater 34 = .ok (.ldiv, 1) := by decide +kernel
theorem dX4_isGreater_35 : decode cX4_isGreater 35 = .ok (.goto 15, 3) := by decide +kernel
theorem dX4_isGreater_38 : decode cX4_isGreater 38 = .ok (.lload 4, 2) := by decide +kernel
theorem dX4_isGreater_40 : decode cX4_isGreater 40 = .ok (.lneg, 1) := by decide +kernel
theorem dX4_isGreater_41 : decode cX4_isGreater 41 = .ok (.lload 6, 2) := by decide +kernel
theorem dX4_isGreater_43 : decode cX4_isGreater 43 = .ok (.ladd, 1) := by decide +kernel
theorem dX4_isGreater_44 : decode cX4_isGreater 44 = .ok (.lconst 1, 1) := by decide +kernel
theorem dX4_isGreater_45 : decode cX4_isGreater 45 = .ok (.lsub, 1) := by decide +kernel
theorem dX4_isGreater_46 : decode cX4_isGreater 46 = .ok (.lload 6, 2) := by decide +kernel
theorem dX4_isGreater_48 : decode cX4_isGreater 48 = .ok (.ldiv, 1) := by decide +kernel
theorem dX4_isGreater_49 : decode cX4_isGreater 49 = .ok (.lneg, 1) := by decide +kernel
theorem dX4_isGreater_50 : decode cX4_isGreater 50 = .ok (.lstore 10, 2) := by decide +kernel
theorem dX4_isGreater_52 : decode cX4_isGreater 52 = .ok (.lload 8, 2) := by decide +kernel
theorem dX4_isGreater_54 : decode cX4_isGreater 54 = .ok (.lload 10, 2) := by decide +kernel
theorem dX4_isGreater_56 : decode cX4_isGreater 56 = .ok (.lcmp, 1) := by decide +kernel
theorem dX4_isGreater_57 : decode cX4_isGreater 57 = .ok (.ifCond .gt 34, 3) := by decide +kernel
theorem dX4_isGreater_60 : decode cX4_isGreater 60 = .ok (.lload 8, 2) := by decide +kernel
theorem dX4_isGreater_62 : decode cX4_isGreater 62 = .ok (.lload 10, 2) := by decide +kernel
theorem dX4_isGreater_64 : decode cX4_isGreater 64 = .ok (.lcmp, 1) := by decide +kernel
theorem dX4_isGreater_65 : decode cX4_isGreater 65 = .ok (.ifCond .ne 30, 3) := by decide +kernel
theorem dX4_isGreater_68 : decode cX4_isGreater 68 = .ok (.lload_n 0, 1) := by decide +kernel
theorem dX4_isGreater_69 : decode cX4_isGreater 69 = .ok (.lload 8, 2) := by decide +kernel
theorem dX4_isGreater_71 : decode cX4_isGreater 71 = .ok (.lload_n 2, 1) := by decide +kernel
theorem dX4_isGreater_72 : decode cX4_isGreater 72 = .ok (.lmul, 1) := by decide +kernel
theorem dX4_isGreater_73 : decode cX4_isGreater 73 = .ok (.lsub, 1) := by decide +kernel
theorem dX4_isGreater_74 : decode cX4_isGreater 74 = .ok (.lload 6, 2) := by decide +kernel
theorem dX4_isGreater_76 : decode cX4_isGreater 76 = .ok (.lmul, 1) := by decide +kernel
theorem dX4_isGreater_77 : decode cX4_isGreater 77 = .ok (.lload 4, 2) := by decide +kernel
theorem dX4_isGreater_79 : decode cX4_isGreater 79 = .ok (.lload 10, 2) := by decide +kernel
theorem dX4_isGreater_81 : decode cX4_isGreater 81 = .ok (.lload 6, 2) := by decide +kernel
theorem dX4_isGreater_83 : decode cX4_isGreater 83 = .ok (.lmul, 1) := by decide +kernel
theorem dX4_isGreater_84 : decode cX4_isGreater 84 = .ok (.lsub, 1) := by decide +kernel
theorem dX4_isGreater_85 : decode cX4_isGreater 85 = .ok (.lload_n 2, 1) := by decide +kernel
theorem dX4_isGreater_86 : decode cX4_isGreater 86 = .ok (.lmul, 1) := by decide +kernel
theorem dX4_isGreater_87 : decode cX4_isGreater 87 = .ok (.lcmp, 1) := by decide +kernel
theorem dX4_isGreater_88 : decode cX4_isGreater 88 = .ok (.ifCond .le 7, 3) := by decide +kernel
theorem dX4_isGreater_91 : decode cX4_isGreater 91 = .ok (.iconst 1, 1) := by decide +kernel
theorem dX4_isGreater_92 : decode cX4_isGreater 92 = .ok (.goto 4, 3) := by decide +kernel
theorem dX4_isGreater_95 : decode cX4_isGreater 95 = .ok (.iconst 0, 1) := by decide +kernel
theorem dX4_isGreater_96 : decode cX4_isGreater 96 = .ok (.ireturn, 1) := by decide +kernel
theorem dX4_runIn_0 : decode cX4_runIn 0 = .ok (.iload_n 1, 1) := by decide +kernel
theorem dX4_runIn_1 : decode cX4_runIn 1 = .ok (.invokestatic 79, 3) := by decide +kernel
theorem dX4_runIn_4 : decode cX4_runIn 4 = .ok (.ifCond .eq 35, 3) := by decide +kernel
theorem dX4_runIn_7 : decode cX4_runIn 7 = .ok (.iload_n 2, 1) := by decide +kernel
theorem dX4_runIn_8 : decode cX4_runIn 8 = .ok (.invokestatic 62, 3) := by decide +kernel
theorem dX4_runIn_11 : decode cX4_runIn 11 = .ok (.ifCond .eq 28, 3) := by decide +kernel
theorem dX4_runIn_14 : decode cX4_runIn 14 = .ok (.iload_n 3, 1) := by decide +kernel
theorem dX4_runIn_15 : decode cX4_runIn 15 = .ok (.i2l, 1) := by decide +kernel
theorem dX4_runIn_16 : decode cX4_runIn 16 = .ok (.lconst 1, 1) := by decide +kernel
theorem dX4_runIn_17 : decode cX4_runIn 17 = .ok (.ldc2_w 60, 3) := by decide +kernel
theorem dX4_runIn_20 : decode cX4_runIn 20 = .ok (.invokestatic 46, 3) := by decide +kernel
theorem dX4_runIn_23 : decode cX4_runIn 23 = .ok (.ifCond .eq 16, 3) := by decide +kernel
theorem dX4_runIn_26 : decode cX4_runIn 26 = .ok (.iload 4, 2) := by decide +kernel
theorem dX4_runIn_28 : decode cX4_runIn 28 = .ok (.i2l, 1) := by decide +kernel
theorem dX4_runIn_29 : decode cX4_runIn 29 = .ok (.lconst 0, 1) := by decide +kernel
theorem dX4_runIn_30 : decode cX4_runIn 30 = .ok (.ldc2_w 143, 3) := by decide +kernel
theorem dX4_runIn_33 : decode cX4_runIn 33 = .ok (.invokestatic 46, 3) := by decide +kernel
theorem dX4_runIn_36 : decode cX4_runIn 36 = .ok (.ifCond .ne 7, 3) := by decide +kernel
theorem dX4_runIn_39 : decode cX4_runIn 39 = .ok (.sipush (-1002), 3) := by decide +kernel
theorem dX4_runIn_42 : decode cX4_runIn 42 = .ok (.ireturn, 1) := by decide +kernel
theorem dX4_runIn_43 : decode cX4_runIn 43 = .ok (.aload_n 0, 1) := by decide +kernel
theorem dX4_runIn_44 : decode cX4_runIn 44 = .ok (.iload_n 1, 1) := by decide +kernel
theorem dX4_runIn_45 : decode cX4_runIn 45 = .ok (.iload_n 2, 1) := by decide +kernel
theorem dX4_runIn_46 : decode cX4_runIn 46 = .ok (.invokevirtual 122, 3) := by decide +kernel
theorem dX4_runIn_49 : decode cX4_runIn 49 = .ok (.iconst (-1), 1) := by decide +kernel
theorem dX4_runIn_50 : decode cX4_runIn 50 = .ok (.istore 5, 2) := by decide +kernel
theorem dX4_runIn_52 : decode cX4_runIn 52 = .ok (.lconst 0, 1) := by decide +kernel
theorem dX4_runIn_53 : decode cX4_runIn 53 = .ok (.lstore 6, 2) := by decide +kernel
theorem dX4_runIn_55 : decode cX4_runIn 55 = .ok (.lconst 1, 1) := by decide +kernel
theorem dX4_runIn_56 : decode cX4_runIn 56 = .ok (.lstore 8, 2) := by decide +kernel
theorem dX4_runIn_58 : decode cX4_runIn 58 = .ok (.iconst 0, 1) := by decide +kernel
theorem dX4_runIn_59 : decode cX4_runIn 59 = .ok (.istore 10, 2) := by decide +kernel
theorem dX4_runIn_61 : decode cX4_runIn 61 = .ok (.iload 10, 2) := by decide +kernel
theorem dX4_runIn_63 : decode cX4_runIn 63 = .ok (.iload_n 3, 1) := by decide +kernel
theorem dX4_runIn_64 : decode cX4_runIn 64 = .ok (.if_icmp .ge 89, 3) := by decide +kernel
theorem dX4_runIn_67 : decode cX4_runIn 67 = .ok (.aload_n 0, 1) := by decide +kernel
theorem dX4_runIn_68 : decode cX4_runIn 68 = .ok (.iload 10, 2) := by decide +kernel
theorem dX4_runIn_70 : decode cX4_runIn 70 = .ok (.invokevirtual 138, 3) := by decide +kernel
theorem dX4_runIn_73 : decode cX4_runIn 73 = .ok (.ifCond .eq 74, 3) := by decide +kernel
theorem dX4_runIn_76 : decode cX4_runIn 76 = .ok (.aload_n 0, 1) := by decide +kernel
theorem dX4_runIn_77 : decode cX4_runIn 77 = .ok (.iload 10, 2) := by decide +kernel
theorem dX4_runIn_79 : decode cX4_runIn 79 = .ok (.iload_n 3, 1) := by decide +kernel
theorem dX4_runIn_80 : decode cX4_runIn 80 = .ok (.invokevirtual 135, 3) := by decide +kernel
theorem dX4_runIn_83 : decode cX4_runIn 83 = .ok (.ldc2_w 143, 3) := by decide +kernel
theorem dX4_runIn_86 : decode cX4_runIn 86 = .ok (.aload_n 0, 1) := by decide +kernel
theorem dX4_runIn_87 : decode cX4_runIn 87 = .ok (.getfield 111, 3) := by decide +kernel
theorem dX4_runIn_90 : decode cX4_runIn 90 = .ok (.lmul, 1) := by decide +kernel
theorem dX4_runIn_91 : decode cX4_runIn 91 = .ok (.iload 10, 2) := by decide +kernel
theorem dX4_runIn_93 : decode cX4_runIn 93 = .ok (.i2l, 1) := by decide +kernel
theorem dX4_runIn_94 : decode cX4_runIn 94 = .ok (.iload 4, 2) := by decide +kernel
theorem dX4_runIn_96 : decode cX4_runIn 96 = .ok (.i2l, 1) := by decide +kernel
theorem dX4_runIn_97 : decode cX4_runIn 97 = .ok (.lmul, 1) := by decide +kernel
theorem dX4_runIn_98 : decode cX4_runIn 98 = .ok (.aload_n 0, 1) := by decide +kernel
theorem dX4_runIn_99 : decode cX4_runIn 99 = .ok (.getfield 114, 3) := by decide +kernel
theorem dX4_runIn_102 : decode cX4_runIn 102 = .ok (.lmul, 1) := by decide +kernel
theorem dX4_runIn_103 : decode cX4_runIn 103 = .ok (.lsub, 1) := by decide +kernel
theorem dX4_runIn_104 : decode cX4_runIn 104 = .ok (.lstore 11, 2) := by decide +kernel
theorem dX4_runIn_106 : decode cX4_runIn 106 = .ok (.ldc2_w 143, 3) := by decide +kernel
theorem dX4_runIn_109 : decode cX4_runIn 109 = .ok (.aload_n 0, 1) := by decide +kernel
theorem dX4_runIn_110 : decode cX4_runIn 110 = .ok (.getfield 114, 3) := by decide +kernel
theorem dX4_runIn_113 : decode cX4_runIn 113 = .ok (.lmul, 1) := by decide +kernel
theorem dX4_runIn_114 : decode cX4_runIn 114 = .ok (.lstore 13, 2) := by decide +kernel
theorem dX4_runIn_116 : decode cX4_runIn 116 = .ok (.iload 5, 2) := by decide +kernel
theorem dX4_runIn_118 : decode cX4_runIn 118 = .ok (.ifCond .lt 17, 3) := by decide +kernel
theorem dX4_runIn_121 : decode cX4_runIn 121 = .ok (.lload 11, 2) := by decide +kernel
theorem dX4_runIn_123 : decode cX4_runIn 123 = .ok (.lload 13, 2) := by decide +kernel
theorem dX4_runIn_125 : decode cX4_runIn 125 = .ok (.lload 6, 2) := by decide +kernel
theorem dX4_runIn_127 : decode cX4_runIn 127 = .ok (.lload 8, 2) := by decide +kernel
theorem dX4_runIn_129 : decode cX4_runIn 129 = .ok (.invokestatic 145, 3) := by decide +kernel
theorem dX4_runIn_132 : decode cX4_runIn 132 = .ok (.ifCond .eq 15, 3) := by decide +kernel
theorem dX4_runIn_135 : decode cX4_runIn 135 = .ok (.iload 10, 2) := by decide +kernel
theorem dX4_runIn_137 : decode cX4_runIn 137 = .ok (.istore 5, 2) := by decide +kernel
theorem dX4_runIn_139 : decode cX4_runIn 139 = .ok (.lload 11, 2) := by decide +kernel
theorem dX4_runIn_141 : decode cX4_runIn 141 = .ok (.lstore 6, 2) := by decide +kernel
theorem dX4_runIn_143 : decode cX4_runIn 143 = .ok (.lload 13, 2) := by decide +kernel
theorem dX4_runIn_145 : decode cX4_runIn 145 = .ok (.lstore 8, 2) := by decide +kernel
theorem dX4_runIn_147 : decode cX4_runIn 147 = .ok (.iinc 10 1, 3) := by decide +kernel
theorem dX4_runIn_150 : decode cX4_runIn 150 = .ok (.goto (-89), 3) := by decide +kernel
theorem dX4_runIn_153 : decode cX4_runIn 153 = .ok (.iload 5, 2) := by decide +kernel
theorem dX4_runIn_155 : decode cX4_runIn 155 = .ok (.ireturn, 1) := by decide +kernel
theorem dX4_speed_0 : decode cX4_speed 0 = .ok (.iload_n 1, 1) := by decide +kernel
theorem dX4_speed_1 : decode cX4_speed 1 = .ok (.invokestatic 56, 3) := by decide +kernel
theorem dX4_speed_4 : decode cX4_speed 4 = .ok (.ifCond .eq 15, 3) := by decide +kernel
theorem dX4_speed_7 : decode cX4_speed 7 = .ok (.iload_n 2, 1) := by decide +kernel
theorem dX4_speed_8 : decode cX4_speed 8 = .ok (.i2l, 1) := by decide +kernel
theorem dX4_speed_9 : decode cX4_speed 9 = .ok (.lconst 1, 1) := by decide +kernel
theorem dX4_speed_10 : decode cX4_speed 10 = .ok (.ldc2_w 129, 3) := by decide +kernel
theorem dX4_speed_13 : decode cX4_speed 13 = .ok (.invokestatic 46, 3) := by decide +kernel
theorem dX4_speed_16 : decode cX4_speed 16 = .ok (.ifCond .ne 7, 3) := by decide +kernel
theorem dX4_speed_19 : decode cX4_speed 19 = .ok (.sipush (-1002), 3) := by decide +kernel
theorem dX4_speed_22 : decode cX4_speed 22 = .ok (.ireturn, 1) := by decide +kernel
theorem dX4_speed_23 : decode cX4_speed 23 = .ok (.aload_n 0, 1) := by decide +kernel
theorem dX4_speed_24 : decode cX4_speed 24 = .ok (.getfield 19, 3) := by decide +kernel
theorem dX4_speed_27 : decode cX4_speed 27 = .ok (.iload_n 1, 1) := by decide +kernel
theorem dX4_speed_28 : decode cX4_speed 28 = .ok (.iaload, 1) := by decide +kernel
theorem dX4_speed_29 : decode cX4_speed 29 = .ok (.istore_n 3, 1) := by decide +kernel
theorem dX4_speed_30 : decode cX4_speed 30 = .ok (.aload_n 0, 1) := by decide +kernel
theorem dX4_speed_31 : decode cX4_speed 31 = .ok (.getfield 19, 3) := by decide +kernel
theorem dX4_speed_34 : decode cX4_speed 34 = .ok (.iload_n 1, 1) := by decide +kernel
theorem dX4_speed_35 : decode cX4_speed 35 = .ok (.iload_n 2, 1) := by decide +kernel
theorem dX4_speed_36 : decode cX4_speed 36 = .ok (.iastore, 1) := by decide +kernel
theorem dX4_speed_37 : decode cX4_speed 37 = .ok (.iload_n 3, 1) := by decide +kernel
theorem dX4_speed_38 : decode cX4_speed 38 = .ok (.ireturn, 1) := by decide +kernel
theorem dX4_saysOf_0 : decode cX4_saysOf 0 = .ok (.iload_n 0, 1) := by decide +kernel
theorem dX4_saysOf_1 : decode cX4_saysOf 1 = .ok (.istore_n 3, 1) := by decide +kernel
theorem dX4_saysOf_2 : decode cX4_saysOf 2 = .ok (.iconst 0, 1) := by decide +kernel
theorem dX4_saysOf_3 : decode cX4_saysOf 3 = .ok (.istore 4, 2) := by decide +kernel
theorem dX4_saysOf_5 : decode cX4_saysOf 5 = .ok (.iload 4, 2) := by decide +kernel
theorem dX4_saysOf_7 : decode cX4_saysOf 7 = .ok (.iload_n 2, 1) := by decide +kernel
theorem dX4_saysOf_8 : decode cX4_saysOf 8 = .ok (.if_icmp .ge 19, 3) := by decide +kernel
theorem dX4_saysOf_11 : decode cX4_saysOf 11 = .ok (.iload_n 3, 1) := by decide +kernel
theorem dX4_saysOf_12 : decode cX4_saysOf 12 = .ok (.bipush 10, 2) := by decide +kernel
theorem dX4_saysOf_14 : decode cX4_saysOf 14 = .ok (.imul, 1) := by decide +kernel
theorem dX4_saysOf_15 : decode cX4_saysOf 15 = .ok (.bipush 10, 2) := by decide +kernel
theorem dX4_saysOf_17 : decode cX4_saysOf 17 = .ok (.iload_n 1, 1) := by decide +kernel
theorem dX4_saysOf_18 : decode cX4_saysOf 18 = .ok (.iadd, 1) := by decide +kernel
theorem dX4_saysOf_19 : decode cX4_saysOf 19 = .ok (.idiv, 1) := by decide +kernel
theorem dX4_saysOf_20 : decode cX4_saysOf 20 = .ok (.istore_n 3, 1) := by decide +kernel
theorem dX4_saysOf_21 : decode cX4_saysOf 21 = .ok (.iinc 4 1, 3) := by decide +kernel
theorem dX4_saysOf_24 : decode cX4_saysOf 24 = .ok (.goto (-19), 3) := by decide +kernel
theorem dX4_saysOf_27 : decode cX4_saysOf 27 = .ok (.iload_n 3, 1) := by decide +kernel
theorem dX4_saysOf_28 : decode cX4_saysOf 28 = .ok (.ireturn, 1) := by decide +kernel
theorem dX4_isLaw_0 : decode cX4_isLaw 0 = .ok (.iload_n 0, 1) := by decide +kernel
theorem dX4_isLaw_1 : decode cX4_isLaw 1 = .ok (.i2l, 1) := by decide +kernel
theorem dX4_isLaw_2 : decode cX4_isLaw 2 = .ok (.lconst 1, 1) := by decide +kernel
theorem dX4_isLaw_3 : decode cX4_isLaw 3 = .ok (.ldc2_w 149, 3) := by decide +kernel
theorem dX4_isLaw_6 : decode cX4_isLaw 6 = .ok (.invokestatic 46, 3) := by decide +kernel
theorem dX4_isLaw_9 : decode cX4_isLaw 9 = .ok (.ifCond .eq 19, 3) := by decide +kernel
theorem dX4_isLaw_12 : decode cX4_isLaw 12 = .ok (.iload_n 1, 1) := by decide +kernel
theorem dX4_isLaw_13 : decode cX4_isLaw 13 = .ok (.i2l, 1) := by decide +kernel
theorem dX4_isLaw_14 : decode cX4_isLaw 14 = .ok (.lconst 1, 1) := by decide +kernel
theorem dX4_isLaw_15 : decode cX4_isLaw 15 = .ok (.ldc2_w 151, 3) := by decide +kernel
theorem dX4_isLaw_18 : decode cX4_isLaw 18 = .ok (.invokestatic 46, 3) := by decide +kernel
theorem dX4_isLaw_21 : decode cX4_isLaw 21 = .ok (.ifCond .eq 7, 3) := by decide +kernel
theorem dX4_isLaw_24 : decode cX4_isLaw 24 = .ok (.iconst 1, 1) := by decide +kernel
theorem dX4_isLaw_25 : decode cX4_isLaw 25 = .ok (.goto 4, 3) := by decide +kernel
theorem dX4_isLaw_28 : decode cX4_isLaw 28 = .ok (.iconst 0, 1) := by decide +kernel
theorem dX4_isLaw_29 : decode cX4_isLaw 29 = .ok (.ireturn, 1) := by decide +kernel
theorem dX4_says_0 : decode cX4_says 0 = .ok (.iload_n 1, 1) := by decide +kernel
theorem dX4_says_1 : decode cX4_says 1 = .ok (.iload_n 2, 1) := by decide +kernel
theorem dX4_says_2 : decode cX4_says 2 = .ok (.invokestatic 153, 3) := by decide +kernel
theorem dX4_says_5 : decode cX4_says 5 = .ok (.ifCond .eq 19, 3) := by decide +kernel
theorem dX4_says_8 : decode cX4_says 8 = .ok (.iload_n 3, 1) := by decide +kernel
theorem dX4_says_9 : decode cX4_says 9 = .ok (.invokestatic 56, 3) := by decide +kernel
theorem dX4_says_12 : decode cX4_says 12 = .ok (.ifCond .eq 12, 3) := by decide +kernel
theorem dX4_says_15 : decode cX4_says 15 = .ok (.iload_n 1, 1) := by decide +kernel
theorem dX4_says_16 : decode cX4_says 16 = .ok (.iload_n 2, 1) := by decide +kernel
theorem dX4_says_17 : decode cX4_says 17 = .ok (.iload_n 3, 1) := by decide +kernel
theorem dX4_says_18 : decode cX4_says 18 = .ok (.invokestatic 156, 3) := by decide +kernel
theorem dX4_says_21 : decode cX4_says 21 = .ok (.goto 6, 3) := by decide +kernel
theorem dX4_says_24 : decode cX4_says 24 = .ok (.sipush (-1002), 3) := by decide +kernel
theorem dX4_says_27 : decode cX4_says 27 = .ok (.ireturn, 1) := by decide +kernel
theorem dX4_findHalves_0 : decode cX4_findHalves 0 = .ok (.iconst 0, 1) := by decide +kernel
theorem dX4_findHalves_1 : decode cX4_findHalves 1 = .ok (.istore_n 1, 1) := by decide +kernel
theorem dX4_findHalves_2 : decode cX4_findHalves 2 = .ok (.iconst 0, 1) := by decide +kernel
theorem dX4_findHalves_3 : decode cX4_findHalves 3 = .ok (.istore_n 2, 1) := by decide +kernel
theorem dX4_findHalves_4 : decode cX4_findHalves 4 = .ok (.iload_n 2, 1) := by decide +kernel
theorem dX4_findHalves_5 : decode cX4_findHalves 5 = .ok (.iconst 4, 1) := by decide +kernel
theorem dX4_findHalves_6 : decode cX4_findHalves 6 = .ok (.if_icmp .ge 44, 3) := by decide +kernel
theorem dX4_findHalves_9 : decode cX4_findHalves 9 = .ok (.aload_n 0, 1) := by decide +kernel
theorem dX4_findHalves_10 : decode cX4_findHalves 10 = .ok (.getfield 41, 3) := by decide +kernel
theorem dX4_findHalves_13 : decode cX4_findHalves 13 = .ok (.iload_n 2, 1) := by decide +kernel
theorem dX4_findHalves_14 : decode cX4_findHalves 14 = .ok (.aload_n 0, 1) := by decide +kernel
theorem dX4_findHalves_15 : decode cX4_findHalves 15 = .ok (.iconst 1, 1) := by decide +kernel
theorem dX4_findHalves_16 : decode cX4_findHalves 16 = .ok (.iload_n 2, 1) := by decide +kernel
theorem dX4_findHalves_17 : decode cX4_findHalves 17 = .ok (.ishl, 1) := by decide +kernel
theorem dX4_findHalves_18 : decode cX4_findHalves 18 = .ok (.iconst (-1), 1) := by decide +kernel
theorem dX4_findHalves_19 : decode cX4_findHalves 19 = .ok (.iconst 1, 1) := by decide +kernel
theorem dX4_findHalves_20 : decode cX4_findHalves 20 = .ok (.iconst 2, 1) := by decide +kernel
theorem dX4_findHalves_21 : decode cX4_findHalves 21 = .ok (.invokevirtual 131, 3) := by decide +kernel
theorem dX4_findHalves_24 : decode cX4_findHalves 24 = .ok (.iastore, 1) := by decide +kernel
theorem dX4_findHalves_25 : decode cX4_findHalves 25 = .ok (.iload_n 1, 1) := by decide +kernel
theorem dX4_findHalves_26 : decode cX4_findHalves 26 = .ok (.ifCond .ne 12, 3) := by decide +kernel
theorem dX4_findHalves_29 : decode cX4_findHalves 29 = .ok (.aload_n 0, 1) := by decide +kernel
theorem dX4_findHalves_30 : decode cX4_findHalves 30 = .ok (.getfield 41, 3) := by decide +kernel
theorem dX4_findHalves_33 : decode cX4_findHalves 33 = .ok (.iload_n 2, 1) := by decide +kernel
theorem dX4_findHalves_34 : decode cX4_findHalves 34 = .ok (.iaload, 1) := by decide +kernel
theorem dX4_findHalves_35 : decode cX4_findHalves 35 = .ok (.ifCond .lt 7, 3) := by decide +kernel
theorem dX4_findHalves_38 : decode cX4_findHalves 38 = .ok (.iconst 1, 1) := by decide +kernel
theorem dX4_findHalves_39 : decode cX4_findHalves 39 = .ok (.goto 4, 3) := by decide +kernel
theorem dX4_findHalves_42 : decode cX4_findHalves 42 = .ok (.iconst 0, 1) := by decide +kernel
theorem dX4_findHalves_43 : decode cX4_findHalves 43 = .ok (.istore_n 1, 1) := by decide +kernel
theorem dX4_findHalves_44 : decode cX4_findHalves 44 = .ok (.iinc 2 1, 3) := by decide +kernel
theorem dX4_findHalves_47 : decode cX4_findHalves 47 = .ok (.goto (-43), 3) := by decide +kernel
theorem dX4_findHalves_50 : decode cX4_findHalves 50 = .ok (.iload_n 1, 1) := by decide +kernel
theorem dX4_findHalves_51 : decode cX4_findHalves 51 = .ok (.ireturn, 1) := by decide +kernel
theorem dX4_missOf_0 : decode cX4_missOf 0 = .ok (.iconst 0, 1) := by decide +kernel
theorem dX4_missOf_1 : decode cX4_missOf 1 = .ok (.istore_n 3, 1) := by decide +kernel
theorem dX4_missOf_2 : decode cX4_missOf 2 = .ok (.iconst 0, 1) := by decide +kernel
theorem dX4_missOf_3 : decode cX4_missOf 3 = .ok (.istore 4, 2) := by decide +kernel
theorem dX4_missOf_5 : decode cX4_missOf 5 = .ok (.iload 4, 2) := by decide +kernel
theorem dX4_missOf_7 : decode cX4_missOf 7 = .ok (.iconst 4, 1) := by decide +kernel
theorem dX4_missOf_8 : decode cX4_missOf 8 = .ok (.if_icmp .ge 56, 3) := by decide +kernel
theorem dX4_missOf_11 : decode cX4_missOf 11 = .ok (.aload_n 0, 1) := by decide +kernel
theorem dX4_missOf_12 : decode cX4_missOf 12 = .ok (.getfield 41, 3) := by decide +kernel
theorem dX4_missOf_15 : decode cX4_missOf 15 = .ok (.iload 4, 2) := by decide +kernel
theorem dX4_missOf_17 : decode cX4_missOf 17 = .ok (.iaload, 1) := by decide +kernel
theorem dX4_missOf_18 : decode cX4_missOf 18 = .ok (.iload_n 1, 1) := by decide +kernel
theorem dX4_missOf_19 : decode cX4_missOf 19 = .ok (.iload_n 2, 1) := by decide +kernel
theorem dX4_missOf_20 : decode cX4_missOf 20 = .ok (.iload 4, 2) := by decide +kernel
theorem dX4_missOf_22 : decode cX4_missOf 22 = .ok (.invokestatic 156, 3) := by decide +kernel
theorem dX4_missOf_25 : decode cX4_missOf 25 = .ok (.isub, 1) := by decide +kernel
theorem dX4_missOf_26 : decode cX4_missOf 26 = .ok (.istore 5, 2) := by decide +kernel
theorem dX4_missOf_28 : decode cX4_missOf 28 = .ok (.iload_n 3, 1) := by decide +kernel
theorem dX4_missOf_29 : decode cX4_missOf 29 = .ok (.aload_n 0, 1) := by decide +kernel
theorem dX4_missOf_30 : decode cX4_missOf 30 = .ok (.getfield 41, 3) := by decide +kernel
theorem dX4_missOf_33 : decode cX4_missOf 33 = .ok (.iload 4, 2) := by decide +kernel
theorem dX4_missOf_35 : decode cX4_missOf 35 = .ok (.iaload, 1) := by decide +kernel
theorem dX4_missOf_36 : decode cX4_missOf 36 = .ok (.ifCond .ge 7, 3) := by decide +kernel
theorem dX4_missOf_39 : decode cX4_missOf 39 = .ok (.iconst 0, 1) := by decide +kernel
theorem dX4_missOf_40 : decode cX4_missOf 40 = .ok (.goto 16, 3) := by decide +kernel
theorem dX4_missOf_43 : decode cX4_missOf 43 = .ok (.iload 5, 2) := by decide +kernel
theorem dX4_missOf_45 : decode cX4_missOf 45 = .ok (.ifCond .ge 9, 3) := by decide +kernel
theorem dX4_missOf_48 : decode cX4_missOf 48 = .ok (.iload 5, 2) := by decide +kernel
theorem dX4_missOf_50 : decode cX4_missOf 50 = .ok (.ineg, 1) := by decide +kernel
theorem dX4_missOf_51 : decode cX4_missOf 51 = .ok (.goto 5, 3) := by decide +kernel
theorem dX4_missOf_54 : decode cX4_missOf 54 = .ok (.iload 5, 2) := by decide +kernel
theorem dX4_missOf_56 : decode cX4_missOf 56 = .ok (.iadd, 1) := by decide +kernel
theorem dX4_missOf_57 : decode cX4_missOf 57 = .ok (.istore_n 3, 1) := by decide +kernel
theorem dX4_missOf_58 : decode cX4_missOf 58 = .ok (.iinc 4 1, 3) := by decide +kernel
theorem dX4_missOf_61 : decode cX4_missOf 61 = .ok (.goto (-56), 3) := by decide +kernel
theorem dX4_missOf_64 : decode cX4_missOf 64 = .ok (.iload_n 3, 1) := by decide +kernel
theorem dX4_missOf_65 : decode cX4_missOf 65 = .ok (.ireturn, 1) := by decide +kernel
theorem dX4_miss_0 : decode cX4_miss 0 = .ok (.iload_n 1, 1) := by decide +kernel
theorem dX4_miss_1 : decode cX4_miss 1 = .ok (.iload_n 2, 1) := by decide +kernel
theorem dX4_miss_2 : decode cX4_miss 2 = .ok (.invokestatic 153, 3) := by decide +kernel
theorem dX4_miss_5 : decode cX4_miss 5 = .ok (.ifCond .ne 7, 3) := by decide +kernel
theorem dX4_miss_8 : decode cX4_miss 8 = .ok (.sipush (-1002), 3) := by decide +kernel
theorem dX4_miss_11 : decode cX4_miss 11 = .ok (.ireturn, 1) := by decide +kernel
theorem dX4_miss_12 : decode cX4_miss 12 = .ok (.aload_n 0, 1) := by decide +kernel
theorem dX4_miss_13 : decode cX4_miss 13 = .ok (.invokevirtual 159, 3) := by decide +kernel
theorem dX4_miss_16 : decode cX4_miss 16 = .ok (.istore_n 3, 1) := by decide +kernel
theorem dX4_miss_17 : decode cX4_miss 17 = .ok (.aload_n 0, 1) := by decide +kernel
theorem dX4_miss_18 : decode cX4_miss 18 = .ok (.iload_n 1, 1) := by decide +kernel
theorem dX4_miss_19 : decode cX4_miss 19 = .ok (.iload_n 2, 1) := by decide +kernel
theorem dX4_miss_20 : decode cX4_miss 20 = .ok (.invokevirtual 163, 3) := by decide +kernel
theorem dX4_miss_23 : decode cX4_miss 23 = .ok (.ireturn, 1) := by decide +kernel
theorem dX4_law_0 : decode cX4_law 0 = .ok (.iload_n 1, 1) := by decide +kernel
theorem dX4_law_1 : decode cX4_law 1 = .ok (.i2l, 1) := by decide +kernel
theorem dX4_law_2 : decode cX4_law 2 = .ok (.lconst 1, 1) := by decide +kernel
theorem dX4_law_3 : decode cX4_law 3 = .ok (.ldc2_w 149, 3) := by decide +kernel
theorem dX4_law_6 : decode cX4_law 6 = .ok (.invokestatic 46, 3) := by decide +kernel
theorem dX4_law_9 : decode cX4_law 9 = .ok (.ifCond .eq 38, 3) := by decide +kernel
theorem dX4_law_12 : decode cX4_law 12 = .ok (.iload_n 2, 1) := by decide +kernel
theorem dX4_law_13 : decode cX4_law 13 = .ok (.i2l, 1) := by decide +kernel
theorem dX4_law_14 : decode cX4_law 14 = .ok (.lconst 0, 1) := by decide +kernel
theorem dX4_law_15 : decode cX4_law 15 = .ok (.ldc2_w 129, 3) := by decide +kernel
theorem dX4_law_18 : decode cX4_law 18 = .ok (.invokestatic 46, 3) := by decide +kernel
theorem dX4_law_21 : decode cX4_law 21 = .ok (.ifCond .eq 26, 3) := by decide +kernel
theorem dX4_law_24 : decode cX4_law 24 = .ok (.iload_n 1, 1) := by decide +kernel
theorem dX4_law_25 : decode cX4_law 25 = .ok (.bipush 9, 2) := by decide +kernel
theorem dX4_law_27 : decode cX4_law 27 = .ok (.iload_n 2, 1) := by decide +kernel
theorem dX4_law_28 : decode cX4_law 28 = .ok (.imul, 1) := by decide +kernel
theorem dX4_law_29 : decode cX4_law 29 = .ok (.iadd, 1) := by decide +kernel
theorem dX4_law_30 : decode cX4_law 30 = .ok (.ldc 166, 2) := by decide +kernel
theorem dX4_law_32 : decode cX4_law 32 = .ok (.if_icmp .gt 15, 3) := by decide +kernel
theorem dX4_law_35 : decode cX4_law 35 = .ok (.iload_n 3, 1) := by decide +kernel
theorem dX4_law_36 : decode cX4_law 36 = .ok (.i2l, 1) := by decide +kernel
theorem dX4_law_37 : decode cX4_law 37 = .ok (.lconst 0, 1) := by decide +kernel
theorem dX4_law_38 : decode cX4_law 38 = .ok (.ldc2_w 52, 3) := by decide +kernel
theorem dX4_law_41 : decode cX4_law 41 = .ok (.invokestatic 46, 3) := by decide +kernel
theorem dX4_law_44 : decode cX4_law 44 = .ok (.ifCond .ne 7, 3) := by decide +kernel
theorem dX4_law_47 : decode cX4_law 47 = .ok (.sipush (-1002), 3) := by decide +kernel
theorem dX4_law_50 : decode cX4_law 50 = .ok (.ireturn, 1) := by decide +kernel
theorem dX4_law_51 : decode cX4_law 51 = .ok (.aload_n 0, 1) := by decide +kernel
theorem dX4_law_52 : decode cX4_law 52 = .ok (.invokevirtual 159, 3) := by decide +kernel
theorem dX4_law_55 : decode cX4_law 55 = .ok (.ifCond .ne 7, 3) := by decide +kernel
theorem dX4_law_58 : decode cX4_law 58 = .ok (.sipush (-1003), 3) := by decide +kernel
theorem dX4_law_61 : decode cX4_law 61 = .ok (.ireturn, 1) := by decide +kernel
theorem dX4_law_62 : decode cX4_law 62 = .ok (.iconst 0, 1) := by decide +kernel
theorem dX4_law_63 : decode cX4_law 63 = .ok (.istore 4, 2) := by decide +kernel
theorem dX4_law_65 : decode cX4_law 65 = .ok (.iconst 0, 1) := by decide +kernel
theorem dX4_law_66 : decode cX4_law 66 = .ok (.istore 5, 2) := by decide +kernel
theorem dX4_law_68 : decode cX4_law 68 = .ok (.iconst (-1), 1) := by decide +kernel
theorem dX4_law_69 : decode cX4_law 69 = .ok (.istore 6, 2) := by decide +kernel
theorem dX4_law_71 : decode cX4_law 71 = .ok (.iconst 0, 1) := by decide +kernel
theorem dX4_law_72 : decode cX4_law 72 = .ok (.istore 7, 2) := by decide +kernel
theorem dX4_law_74 : decode cX4_law 74 = .ok (.iload 7, 2) := by decide +kernel
theorem dX4_law_76 : decode cX4_law 76 = .ok (.bipush 10, 2) := by decide +kernel
theorem dX4_law_78 : decode cX4_law 78 = .ok (.if_icmp .ge 67, 3) := by decide +kernel
theorem dX4_law_81 : decode cX4_law 81 = .ok (.iconst 1, 1) := by decide +kernel
theorem dX4_law_82 : decode cX4_law 82 = .ok (.istore 8, 2) := by decide +kernel
theorem dX4_law_84 : decode cX4_law 84 = .ok (.iload 8, 2) := by decide +kernel
theorem dX4_law_86 : decode cX4_law 86 = .ok (.bipush 21, 2) := by decide +kernel
theorem dX4_law_88 : decode cX4_law 88 = .ok (.if_icmp .ge 51, 3) := by decide +kernel
theorem dX4_law_91 : decode cX4_law 91 = .ok (.aload_n 0, 1) := by decide +kernel
theorem dX4_law_92 : decode cX4_law 92 = .ok (.iload_n 1, 1) := by decide +kernel
theorem dX4_law_93 : decode cX4_law 93 = .ok (.iload 7, 2) := by decide +kernel
theorem dX4_law_95 : decode cX4_law 95 = .ok (.iload_n 2, 1) := by decide +kernel
theorem dX4_law_96 : decode cX4_law 96 = .ok (.imul, 1) := by decide +kernel
theorem dX4_law_97 : decode cX4_law 97 = .ok (.iadd, 1) := by decide +kernel
theorem dX4_law_98 : decode cX4_law 98 = .ok (.iload 8, 2) := by decide +kernel
theorem dX4_law_100 : decode cX4_law 100 = .ok (.invokevirtual 163, 3) := by decide +kernel
theorem dX4_law_103 : decode cX4_law 103 = .ok (.istore 9, 2) := by decide +kernel
theorem dX4_law_105 : decode cX4_law 105 = .ok (.iload 6, 2) := by decide +kernel
theorem dX4_law_107 : decode cX4_law 107 = .ok (.ifCond .lt 10, 3) := by decide +kernel
theorem dX4_law_110 : decode cX4_law 110 = .ok (.iload 9, 2) := by decide +kernel
theorem dX4_law_112 : decode cX4_law 112 = .ok (.iload 6, 2) := by decide +kernel
theorem dX4_law_114 : decode cX4_law 114 = .ok (.if_icmp .ge 19, 3) := by decide +kernel
theorem dX4_law_117 : decode cX4_law 117 = .ok (.iload_n 1, 1) := by decide +kernel
theorem dX4_law_118 : decode cX4_law 118 = .ok (.iload 7, 2) := by decide +kernel
theorem dX4_law_120 : decode cX4_law 120 = .ok (.iload_n 2, 1) := by decide +kernel
theorem dX4_law_121 : decode cX4_law 121 = .ok (.imul, 1) := by decide +kernel
theorem dX4_law_122 : decode cX4_law 122 = .ok (.iadd, 1) := by decide +kernel
theorem dX4_law_123 : decode cX4_law 123 = .ok (.istore 4, 2) := by decide +kernel
theorem dX4_law_125 : decode cX4_law 125 = .ok (.iload 8, 2) := by decide +kernel
theorem dX4_law_127 : decode cX4_law 127 = .ok (.istore 5, 2) := by decide +kernel
theorem dX4_law_129 : decode cX4_law 129 = .ok (.iload 9, 2) := by decide +kernel
theorem dX4_law_131 : decode cX4_law 131 = .ok (.istore 6, 2) := by decide +kernel
theorem dX4_law_133 : decode cX4_law 133 = .ok (.iinc 8 1, 3) := by decide +kernel
theorem dX4_law_136 : decode cX4_law 136 = .ok (.goto (-52), 3) := by decide +kernel
theorem dX4_law_139 : decode cX4_law 139 = .ok (.iinc 7 1, 3) := by decide +kernel
theorem dX4_law_142 : decode cX4_law 142 = .ok (.goto (-68), 3) := by decide +kernel
theorem dX4_law_145 : decode cX4_law 145 = .ok (.iload_n 3, 1) := by decide +kernel
theorem dX4_law_146 : decode cX4_law 146 = .ok (.ifCond .ne 8, 3) := by decide +kernel
theorem dX4_law_149 : decode cX4_law 149 = .ok (.iload 4, 2) := by decide +kernel
theorem dX4_law_151 : decode cX4_law 151 = .ok (.goto 15, 3) := by decide +kernel
theorem dX4_law_154 : decode cX4_law 154 = .ok (.iload_n 3, 1) := by decide +kernel
theorem dX4_law_155 : decode cX4_law 155 = .ok (.iconst 1, 1) := by decide +kernel
theorem dX4_law_156 : decode cX4_law 156 = .ok (.if_icmp .ne 8, 3) := by decide +kernel
theorem dX4_law_159 : decode cX4_law 159 = .ok (.iload 5, 2) := by decide +kernel
theorem dX4_law_161 : decode cX4_law 161 = .ok (.goto 5, 3) := by decide +kernel
theorem dX4_law_164 : decode cX4_law 164 = .ok (.iload 6, 2) := by decide +kernel
theorem dX4_law_166 : decode cX4_law 166 = .ok (.ireturn, 1) := by decide +kernel
theorem dX4_step_0 : decode cX4_step 0 = .ok (.iload_n 1, 1) := by decide +kernel
theorem dX4_step_1 : decode cX4_step 1 = .ok (.invokestatic 56, 3) := by decide +kernel
theorem dX4_step_4 : decode cX4_step 4 = .ok (.ifCond .eq 15, 3) := by decide +kernel
theorem dX4_step_7 : decode cX4_step 7 = .ok (.iload_n 2, 1) := by decide +kernel
theorem dX4_step_8 : decode cX4_step 8 = .ok (.i2l, 1) := by decide +kernel
theorem dX4_step_9 : decode cX4_step 9 = .ok (.lconst 1, 1) := by decide +kernel
theorem dX4_step_10 : decode cX4_step 10 = .ok (.ldc2_w 60, 3) := by decide +kernel
theorem dX4_step_13 : decode cX4_step 13 = .ok (.invokestatic 46, 3) := by decide +kernel
theorem dX4_step_16 : decode cX4_step 16 = .ok (.ifCond .ne 7, 3) := by decide +kernel
theorem dX4_step_19 : decode cX4_step 19 = .ok (.sipush (-1002), 3) := by decide +kernel
theorem dX4_step_22 : decode cX4_step 22 = .ok (.ireturn, 1) := by decide +kernel
theorem dX4_step_23 : decode cX4_step 23 = .ok (.aload_n 0, 1) := by decide +kernel
theorem dX4_step_24 : decode cX4_step 24 = .ok (.getfield 167, 3) := by decide +kernel
theorem dX4_step_27 : decode cX4_step 27 = .ok (.bipush 10, 2) := by decide +kernel
theorem dX4_step_29 : decode cX4_step 29 = .ok (.if_icmp .ne 7, 3) := by decide +kernel
theorem dX4_step_32 : decode cX4_step 32 = .ok (.sipush (-1004), 3) := by decide +kernel
theorem dX4_step_35 : decode cX4_step 35 = .ok (.ireturn, 1) := by decide +kernel
theorem dX4_step_36 : decode cX4_step 36 = .ok (.aload_n 0, 1) := by decide +kernel
theorem dX4_step_37 : decode cX4_step 37 = .ok (.getfield 22, 3) := by decide +kernel
theorem dX4_step_40 : decode cX4_step 40 = .ok (.aload_n 0, 1) := by decide +kernel
theorem dX4_step_41 : decode cX4_step 41 = .ok (.getfield 167, 3) := by decide +kernel
theorem dX4_step_44 : decode cX4_step 44 = .ok (.iload_n 1, 1) := by decide +kernel
theorem dX4_step_45 : decode cX4_step 45 = .ok (.iastore, 1) := by decide +kernel
theorem dX4_step_46 : decode cX4_step 46 = .ok (.aload_n 0, 1) := by decide +kernel
theorem dX4_step_47 : decode cX4_step 47 = .ok (.getfield 25, 3) := by decide +kernel
theorem dX4_step_50 : decode cX4_step 50 = .ok (.aload_n 0, 1) := by decide +kernel
theorem dX4_step_51 : decode cX4_step 51 = .ok (.getfield 167, 3) := by decide +kernel
theorem dX4_step_54 : decode cX4_step 54 = .ok (.iload_n 2, 1) := by decide +kernel
theorem dX4_step_55 : decode cX4_step 55 = .ok (.iastore, 1) := by decide +kernel
theorem dX4_step_56 : decode cX4_step 56 = .ok (.aload_n 0, 1) := by decide +kernel
theorem dX4_step_57 : decode cX4_step 57 = .ok (.dup, 1) := by decide +kernel
theorem dX4_step_58 : decode cX4_step 58 = .ok (.getfield 167, 3) := by decide +kernel
theorem dX4_step_61 : decode cX4_step 61 = .ok (.iconst 1, 1) := by decide +kernel
theorem dX4_step_62 : decode cX4_step 62 = .ok (.iadd, 1) := by decide +kernel
theorem dX4_step_63 : decode cX4_step 63 = .ok (.putfield 167, 3) := by decide +kernel
theorem dX4_step_66 : decode cX4_step 66 = .ok (.aload_n 0, 1) := by decide +kernel
theorem dX4_step_67 : decode cX4_step 67 = .ok (.getfield 167, 3) := by decide +kernel
theorem dX4_step_70 : decode cX4_step 70 = .ok (.ireturn, 1) := by decide +kernel
theorem dX4_clear_0 : decode cX4_clear 0 = .ok (.aload_n 0, 1) := by decide +kernel
theorem dX4_clear_1 : decode cX4_clear 1 = .ok (.getfield 167, 3) := by decide +kernel
theorem dX4_clear_4 : decode cX4_clear 4 = .ok (.istore_n 1, 1) := by decide +kernel
theorem dX4_clear_5 : decode cX4_clear 5 = .ok (.aload_n 0, 1) := by decide +kernel
theorem dX4_clear_6 : decode cX4_clear 6 = .ok (.iconst 0, 1) := by decide +kernel
theorem dX4_clear_7 : decode cX4_clear 7 = .ok (.putfield 167, 3) := by decide +kernel
theorem dX4_clear_10 : decode cX4_clear 10 = .ok (.iload_n 1, 1) := by decide +kernel
theorem dX4_clear_11 : decode cX4_clear 11 = .ok (.ireturn, 1) := by decide +kernel
theorem dX4_used_0 : decode cX4_used 0 = .ok (.iload_n 1, 1) := by decide +kernel
theorem dX4_used_1 : decode cX4_used 1 = .ok (.i2l, 1) := by decide +kernel
theorem dX4_used_2 : decode cX4_used 2 = .ok (.lconst 1, 1) := by decide +kernel
theorem dX4_used_3 : decode cX4_used 3 = .ok (.ldc2_w 149, 3) := by decide +kernel
theorem dX4_used_6 : decode cX4_used 6 = .ok (.invokestatic 46, 3) := by decide +kernel
theorem dX4_used_9 : decode cX4_used 9 = .ok (.ifCond .ne 7, 3) := by decide +kernel
theorem dX4_used_12 : decode cX4_used 12 = .ok (.sipush (-1002), 3) := by decide +kernel
theorem dX4_used_15 : decode cX4_used 15 = .ok (.ireturn, 1) := by decide +kernel
theorem dX4_used_16 : decode cX4_used 16 = .ok (.iconst 0, 1) := by decide +kernel
theorem dX4_used_17 : decode cX4_used 17 = .ok (.istore_n 2, 1) := by decide +kernel
theorem dX4_used_18 : decode cX4_used 18 = .ok (.iconst 0, 1) := by decide +kernel
theorem dX4_used_19 : decode cX4_used 19 = .ok (.istore_n 3, 1) := by decide +kernel
theorem dX4_used_20 : decode cX4_used 20 = .ok (.iload_n 3, 1) := by decide +kernel
theorem dX4_used_21 : decode cX4_used 21 = .ok (.aload_n 0, 1) := by decide +kernel
theorem dX4_used_22 : decode cX4_used 22 = .ok (.getfield 167, 3) := by decide +kernel
theorem dX4_used_25 : decode cX4_used 25 = .ok (.if_icmp .ge 33, 3) := by decide +kernel
theorem dX4_used_28 : decode cX4_used 28 = .ok (.iload_n 2, 1) := by decide +kernel
theorem dX4_used_29 : decode cX4_used 29 = .ok (.aload_n 0, 1) := by decide +kernel
theorem dX4_used_30 : decode cX4_used 30 = .ok (.getfield 25, 3) := by decide +kernel
theorem dX4_used_33 : decode cX4_used 33 = .ok (.iload_n 3, 1) := by decide +kernel
theorem dX4_used_34 : decode cX4_used 34 = .ok (.iaload, 1) := by decide +kernel
theorem dX4_used_35 : decode cX4_used 35 = .ok (.aload_n 0, 1) := by decide +kernel
theorem dX4_used_36 : decode cX4_used 36 = .ok (.getfield 19, 3) := by decide +kernel
theorem dX4_used_39 : decode cX4_used 39 = .ok (.aload_n 0, 1) := by decide +kernel
theorem dX4_used_40 : decode cX4_used 40 = .ok (.getfield 22, 3) := by decide +kernel
theorem dX4_used_43 : decode cX4_used 43 = .ok (.iload_n 3, 1) := by decide +kernel
theorem dX4_used_44 : decode cX4_used 44 = .ok (.iaload, 1) := by decide +kernel
theorem dX4_used_45 : decode cX4_used 45 = .ok (.iaload, 1) := by decide +kernel
theorem dX4_used_46 : decode cX4_used 46 = .ok (.imul, 1) := by decide +kernel
theorem dX4_used_47 : decode cX4_used 47 = .ok (.bipush 10, 2) := by decide +kernel
theorem dX4_used_49 : decode cX4_used 49 = .ok (.imul, 1) := by decide +kernel
theorem dX4_used_50 : decode cX4_used 50 = .ok (.iadd, 1) := by decide +kernel
theorem dX4_used_51 : decode cX4_used 51 = .ok (.istore_n 2, 1) := by decide +kernel
theorem dX4_used_52 : decode cX4_used 52 = .ok (.iinc 3 1, 3) := by decide +kernel
theorem dX4_used_55 : decode cX4_used 55 = .ok (.goto (-35), 3) := by decide +kernel
theorem dX4_used_58 : decode cX4_used 58 = .ok (.iload_n 2, 1) := by decide +kernel
theorem dX4_used_59 : decode cX4_used 59 = .ok (.iload_n 1, 1) := by decide +kernel
theorem dX4_used_60 : decode cX4_used 60 = .ok (.idiv, 1) := by decide +kernel
theorem dX4_used_61 : decode cX4_used 61 = .ok (.ireturn, 1) := by decide +kernel
theorem dX4_fails_0 : decode cX4_fails 0 = .ok (.iload_n 1, 1) := by decide +kernel
theorem dX4_fails_1 : decode cX4_fails 1 = .ok (.i2l, 1) := by decide +kernel
theorem dX4_fails_2 : decode cX4_fails 2 = .ok (.lconst 1, 1) := by decide +kernel
theorem dX4_fails_3 : decode cX4_fails 3 = .ok (.ldc2_w 149, 3) := by decide +kernel
theorem dX4_fails_6 : decode cX4_fails 6 = .ok (.invokestatic 46, 3) := by decide +kernel
theorem dX4_fails_9 : decode cX4_fails 9 = .ok (.ifCond .ne 7, 3) := by decide +kernel
theorem dX4_fails_12 : decode cX4_fails 12 = .ok (.sipush (-1002), 3) := by decide +kernel
theorem dX4_fails_15 : decode cX4_fails 15 = .ok (.ireturn, 1) := by decide +kernel
theorem dX4_fails_16 : decode cX4_fails 16 = .ok (.iconst 0, 1) := by decide +kernel
theorem dX4_fails_17 : decode cX4_fails 17 = .ok (.istore_n 2, 1) := by decide +kernel
theorem dX4_fails_18 : decode cX4_fails 18 = .ok (.iconst 0, 1) := by decide +kernel
theorem dX4_fails_19 : decode cX4_fails 19 = .ok (.istore_n 3, 1) := by decide +kernel
theorem dX4_fails_20 : decode cX4_fails 20 = .ok (.iconst 0, 1) := by decide +kernel
theorem dX4_fails_21 : decode cX4_fails 21 = .ok (.istore 4, 2) := by decide +kernel
theorem dX4_fails_23 : decode cX4_fails 23 = .ok (.iload 4, 2) := by decide +kernel
theorem dX4_fails_25 : decode cX4_fails 25 = .ok (.aload_n 0, 1) := by decide +kernel
theorem dX4_fails_26 : decode cX4_fails 26 = .ok (.getfield 167, 3) := by decide +kernel
theorem dX4_fails_29 : decode cX4_fails 29 = .ok (.if_icmp .ge 58, 3) := by decide +kernel
theorem dX4_fails_32 : decode cX4_fails 32 = .ok (.iconst 0, 1) := by decide +kernel
theorem dX4_fails_33 : decode cX4_fails 33 = .ok (.istore 5, 2) := by decide +kernel
theorem dX4_fails_35 : decode cX4_fails 35 = .ok (.iload 5, 2) := by decide +kernel
theorem dX4_fails_37 : decode cX4_fails 37 = .ok (.aload_n 0, 1) := by decide +kernel
theorem dX4_fails_38 : decode cX4_fails 38 = .ok (.getfield 25, 3) := by decide +kernel
theorem dX4_fails_41 : decode cX4_fails 41 = .ok (.iload 4, 2) := by decide +kernel
theorem dX4_fails_43 : decode cX4_fails 43 = .ok (.iaload, 1) := by decide +kernel
theorem dX4_fails_44 : decode cX4_fails 44 = .ok (.if_icmp .ge 37, 3) := by decide +kernel
theorem dX4_fails_47 : decode cX4_fails 47 = .ok (.iinc 2 1, 3) := by decide +kernel
theorem dX4_fails_50 : decode cX4_fails 50 = .ok (.iload_n 3, 1) := by decide +kernel
theorem dX4_fails_51 : decode cX4_fails 51 = .ok (.aload_n 0, 1) := by decide +kernel
theorem dX4_fails_52 : decode cX4_fails 52 = .ok (.getfield 19, 3) := by decide +kernel
theorem dX4_fails_55 : decode cX4_fails 55 = .ok (.aload_n 0, 1) := by decide +kernel
theorem dX4_fails_56 : decode cX4_fails 56 = .ok (.getfield 22, 3) := by decide +kernel
theorem dX4_fails_59 : decode cX4_fails 59 = .ok (.iload 4, 2) := by decide +kernel
theorem dX4_fails_61 : decode cX4_fails 61 = .ok (.iaload, 1) := by decide +kernel
theorem dX4_fails_62 : decode cX4_fails 62 = .ok (.iaload, 1) := by decide +kernel
theorem dX4_fails_63 : decode cX4_fails 63 = .ok (.iadd, 1) := by decide +kernel
theorem dX4_fails_64 : decode cX4_fails 64 = .ok (.istore_n 3, 1) := by decide +kernel
theorem dX4_fails_65 : decode cX4_fails 65 = .ok (.iload_n 3, 1) := by decide +kernel
theorem dX4_fails_66 : decode cX4_fails 66 = .ok (.bipush 10, 2) := by decide +kernel
theorem dX4_fails_68 : decode cX4_fails 68 = .ok (.iload_n 1, 1) := by decide +kernel
theorem dX4_fails_69 : decode cX4_fails 69 = .ok (.imul, 1) := by decide +kernel
theorem dX4_fails_70 : decode cX4_fails 70 = .ok (.if_icmp .lt 5, 3) := by decide +kernel
theorem dX4_fails_73 : decode cX4_fails 73 = .ok (.iload_n 2, 1) := by decide +kernel
theorem dX4_fails_74 : decode cX4_fails 74 = .ok (.ireturn, 1) := by decide +kernel
theorem dX4_fails_75 : decode cX4_fails 75 = .ok (.iinc 5 1, 3) := by decide +kernel
theorem dX4_fails_78 : decode cX4_fails 78 = .ok (.goto (-43), 3) := by decide +kernel
theorem dX4_fails_81 : decode cX4_fails 81 = .ok (.iinc 4 1, 3) := by decide +kernel
theorem dX4_fails_84 : decode cX4_fails 84 = .ok (.goto (-61), 3) := by decide +kernel
theorem dX4_fails_87 : decode cX4_fails 87 = .ok (.iconst (-1), 1) := by decide +kernel
theorem dX4_fails_88 : decode cX4_fails 88 = .ok (.ireturn, 1) := by decide +kernel
theorem dX4_power_0 : decode cX4_power 0 = .ok (.lconst 1, 1) := by decide +kernel
theorem dX4_power_1 : decode cX4_power 1 = .ok (.lstore_n 3, 1) := by decide +kernel
theorem dX4_power_2 : decode cX4_power 2 = .ok (.iconst 0, 1) := by decide +kernel
theorem dX4_power_3 : decode cX4_power 3 = .ok (.istore 5, 2) := by decide +kernel
theorem dX4_power_5 : decode cX4_power 5 = .ok (.iload 5, 2) := by decide +kernel
theorem dX4_power_7 : decode cX4_power 7 = .ok (.iload_n 2, 1) := by decide +kernel
theorem dX4_power_8 : decode cX4_power 8 = .ok (.if_icmp .ge 13, 3) := by decide +kernel
theorem dX4_power_11 : decode cX4_power 11 = .ok (.lload_n 3, 1) := by decide +kernel
theorem dX4_power_12 : decode cX4_power 12 = .ok (.lload_n 0, 1) := by decide +kernel
theorem dX4_power_13 : decode cX4_power 13 = .ok (.lmul, 1) := by decide +kernel
theorem dX4_power_14 : decode cX4_power 14 = .ok (.lstore_n 3, 1) := by decide +kernel
theorem dX4_power_15 : decode cX4_power 15 = .ok (.iinc 5 1, 3) := by decide +kernel
theorem dX4_power_18 : decode cX4_power 18 = .ok (.goto (-13), 3) := by decide +kernel
theorem dX4_power_21 : decode cX4_power 21 = .ok (.lload_n 3, 1) := by decide +kernel
theorem dX4_power_22 : decode cX4_power 22 = .ok (.lreturn, 1) := by decide +kernel
theorem dX4_chance_0 : decode cX4_chance 0 = .ok (.lconst 0, 1) := by decide +kernel
theorem dX4_chance_1 : decode cX4_chance 1 = .ok (.lstore 4, 2) := by decide +kernel
theorem dX4_chance_3 : decode cX4_chance 3 = .ok (.lconst 1, 1) := by decide +kernel
theorem dX4_chance_4 : decode cX4_chance 4 = .ok (.lstore 6, 2) := by decide +kernel
theorem dX4_chance_6 : decode cX4_chance 6 = .ok (.iconst 0, 1) := by decide +kernel
theorem dX4_chance_7 : decode cX4_chance 7 = .ok (.istore 8, 2) := by decide +kernel
theorem dX4_chance_9 : decode cX4_chance 9 = .ok (.iload 8, 2) := by decide +kernel
theorem dX4_chance_11 : decode cX4_chance 11 = .ok (.iload_n 0, 1) := by decide +kernel
theorem dX4_chance_12 : decode cX4_chance 12 = .ok (.if_icmp .gt 69, 3) := by decide +kernel
theorem dX4_chance_15 : decode cX4_chance 15 = .ok (.lload 4, 2) := by decide +kernel
theorem dX4_chance_17 : decode cX4_chance 17 = .ok (.iload 8, 2) := by decide +kernel
theorem dX4_chance_19 : decode cX4_chance 19 = .ok (.iload_n 1, 1) := by decide +kernel
theorem dX4_chance_20 : decode cX4_chance 20 = .ok (.if_icmp .lt 35, 3) := by decide +kernel
theorem dX4_chance_23 : decode cX4_chance 23 = .ok (.iload 8, 2) := by decide +kernel
theorem dX4_chance_25 : decode cX4_chance 25 = .ok (.iload_n 2, 1) := by decide +kernel
theorem dX4_chance_26 : decode cX4_chance 26 = .ok (.if_icmp .gt 29, 3) := by decide +kernel
theorem dX4_chance_29 : decode cX4_chance 29 = .ok (.lload 6, 2) := by decide +kernel
theorem dX4_chance_31 : decode cX4_chance 31 = .ok (.iload_n 3, 1) := by decide +kernel
theorem dX4_chance_32 : decode cX4_chance 32 = .ok (.i2l, 1) := by decide +kernel
theorem dX4_chance_33 : decode cX4_chance 33 = .ok (.iload 8, 2) := by decide +kernel
theorem dX4_chance_35 : decode cX4_chance 35 = .ok (.invokestatic 170, 3) := by decide +kernel
theorem dX4_chance_38 : decode cX4_chance 38 = .ok (.lmul, 1) := by decide +kernel
theorem dX4_chance_39 : decode cX4_chance 39 = .ok (.bipush 10, 2) := by decide +kernel
theorem dX4_chance_41 : decode cX4_chance 41 = .ok (.iload_n 3, 1) := by decide +kernel
theorem dX4_chance_42 : decode cX4_chance 42 = .ok (.isub, 1) := by decide +kernel
theorem dX4_chance_43 : decode cX4_chance 43 = .ok (.i2l, 1) := by decide +kernel
theorem dX4_chance_44 : decode cX4_chance 44 = .ok (.iload_n 0, 1) := by decide +kernel
theorem dX4_chance_45 : decode cX4_chance 45 = .ok (.iload 8, 2) := by decide +kernel
theorem dX4_chance_47 : decode cX4_chance 47 = .ok (.isub, 1) := by decide +kernel
theorem dX4_chance_48 : decode cX4_chance 48 = .ok (.invokestatic 170, 3) := by decide +kernel
theorem dX4_chance_51 : decode cX4_chance 51 = .ok (.lmul, 1) := by decide +kernel
theorem dX4_chance_52 : decode cX4_chance 52 = .ok (.goto 4, 3) := by decide +kernel
theorem dX4_chance_55 : decode cX4_chance 55 = .ok (.lconst 0, 1) := by decide +kernel
theorem dX4_chance_56 : decode cX4_chance 56 = .ok (.ladd, 1) := by decide +kernel
theorem dX4_chance_57 : decode cX4_chance 57 = .ok (.lstore 4, 2) := by decide +kernel
theorem dX4_chance_59 : decode cX4_chance 59 = .ok (.lload 6, 2) := by decide +kernel
theorem dX4_chance_61 : decode cX4_chance 61 = .ok (.iload_n 0, 1) := by decide +kernel
theorem dX4_chance_62 : decode cX4_chance 62 = .ok (.iload 8, 2) := by decide +kernel
theorem dX4_chance_64 : decode cX4_chance 64 = .ok (.isub, 1) := by decide +kernel
theorem dX4_chance_65 : decode cX4_chance 65 = .ok (.i2l, 1) := by decide +kernel
theorem dX4_chance_66 : decode cX4_chance 66 = .ok (.lmul, 1) := by decide +kernel
theorem dX4_chance_67 : decode cX4_chance 67 = .ok (.iload 8, 2) := by decide +kernel
theorem dX4_chance_69 : decode cX4_chance 69 = .ok (.iconst 1, 1) := by decide +kernel
theorem dX4_chance_70 : decode cX4_chance 70 = .ok (.iadd, 1) := by decide +kernel
theorem dX4_chance_71 : decode cX4_chance 71 = .ok (.i2l, 1) := by decide +kernel
theorem dX4_chance_72 : decode cX4_chance 72 = .ok (.ldiv, 1) := by decide +kernel
theorem dX4_chance_73 : decode cX4_chance 73 = .ok (.lstore 6, 2) := by decide +kernel
theorem dX4_chance_75 : decode cX4_chance 75 = .ok (.iinc 8 1, 3) := by decide +kernel
theorem dX4_chance_78 : decode cX4_chance 78 = .ok (.goto (-69), 3) := by decide +kernel
theorem dX4_chance_81 : decode cX4_chance 81 = .ok (.lload 4, 2) := by decide +kernel
theorem dX4_chance_83 : decode cX4_chance 83 = .ok (.lreturn, 1) := by decide +kernel
theorem dX4_end_0 : decode cX4_end 0 = .ok (.iload_n 1, 1) := by decide +kernel
theorem dX4_end_1 : decode cX4_end 1 = .ok (.i2l, 1) := by decide +kernel
theorem dX4_end_2 : decode cX4_end 2 = .ok (.lconst 1, 1) := by decide +kernel
theorem dX4_end_3 : decode cX4_end 3 = .ok (.ldc2_w 174, 3) := by decide +kernel
theorem dX4_end_6 : decode cX4_end 6 = .ok (.invokestatic 46, 3) := by decide +kernel
theorem dX4_end_9 : decode cX4_end 9 = .ok (.ifCond .eq 39, 3) := by decide +kernel
theorem dX4_end_12 : decode cX4_end 12 = .ok (.iload_n 2, 1) := by decide +kernel
theorem dX4_end_13 : decode cX4_end 13 = .ok (.i2l, 1) := by decide +kernel
theorem dX4_end_14 : decode cX4_end 14 = .ok (.lconst 0, 1) := by decide +kernel
theorem dX4_end_15 : decode cX4_end 15 = .ok (.iload_n 1, 1) := by decide +kernel
theorem dX4_end_16 : decode cX4_end 16 = .ok (.i2l, 1) := by decide +kernel
theorem dX4_end_17 : decode cX4_end 17 = .ok (.invokestatic 46, 3) := by decide +kernel
theorem dX4_end_20 : decode cX4_end 20 = .ok (.ifCond .eq 28, 3) := by decide +kernel
theorem dX4_end_23 : decode cX4_end 23 = .ok (.iload_n 3, 1) := by decide +kernel
theorem dX4_end_24 : decode cX4_end 24 = .ok (.i2l, 1) := by decide +kernel
theorem dX4_end_25 : decode cX4_end 25 = .ok (.ldc2_w 176, 3) := by decide +kernel
theorem dX4_end_28 : decode cX4_end 28 = .ok (.ldc2_w 178, 3) := by decide +kernel
theorem dX4_end_31 : decode cX4_end 31 = .ok (.invokestatic 46, 3) := by decide +kernel
theorem dX4_end_34 : decode cX4_end 34 = .ok (.ifCond .eq 14, 3) := by decide +kernel
theorem dX4_end_37 : decode cX4_end 37 = .ok (.iload 4, 2) := by decide +kernel
theorem dX4_end_39 : decode cX4_end 39 = .ok (.i2l, 1) := by decide +kernel
theorem dX4_end_40 : decode cX4_end 40 = .ok (.lconst 0, 1) := by decide +kernel
theorem dX4_end_41 : decode cX4_end 41 = .ok (.lconst 1, 1) := by decide +kernel
theorem dX4_end_42 : decode cX4_end 42 = .ok (.invokestatic 46, 3) := by decide +kernel
theorem dX4_end_45 : decode cX4_end 45 = .ok (.ifCond .ne 7, 3) := by decide +kernel
theorem dX4_end_48 : decode cX4_end 48 = .ok (.sipush (-1002), 3) := by decide +kernel
theorem dX4_end_51 : decode cX4_end 51 = .ok (.ireturn, 1) := by decide +kernel
theorem dX4_end_52 : decode cX4_end 52 = .ok (.bipush 100, 2) := by decide +kernel
theorem dX4_end_54 : decode cX4_end 54 = .ok (.iload_n 3, 1) := by decide +kernel
theorem dX4_end_55 : decode cX4_end 55 = .ok (.isub, 1) := by decide +kernel
theorem dX4_end_56 : decode cX4_end 56 = .ok (.i2l, 1) := by decide +kernel
theorem dX4_end_57 : decode cX4_end 57 = .ok (.ldc2_w 180, 3) := by decide +kernel
theorem dX4_end_60 : decode cX4_end 60 = .ok (.iload_n 1, 1) := by decide +kernel
theorem dX4_end_61 : decode cX4_end 61 = .ok (.invokestatic 170, 3) := by decide +kernel
theorem dX4_end_64 : decode cX4_end 64 = .ok (.lmul, 1) := by decide +kernel
theorem dX4_end_65 : decode cX4_end 65 = .ok (.lstore 5, 2) := by decide +kernel
theorem dX4_end_67 : decode cX4_end 67 = .ok (.iconst 0, 1) := by decide +kernel
theorem dX4_end_68 : decode cX4_end 68 = .ok (.istore 7, 2) := by decide +kernel
theorem dX4_end_70 : decode cX4_end 70 = .ok (.bipush 10, 2) := by decide +kernel
theorem dX4_end_72 : decode cX4_end 72 = .ok (.istore 8, 2) := by decide +kernel
theorem dX4_end_74 : decode cX4_end 74 = .ok (.iconst 0, 1) := by decide +kernel
theorem dX4_end_75 : decode cX4_end 75 = .ok (.istore 9, 2) := by decide +kernel
theorem dX4_end_77 : decode cX4_end 77 = .ok (.iload 9, 2) := by decide +kernel
theorem dX4_end_79 : decode cX4_end 79 = .ok (.bipush 10, 2) := by decide +kernel
theorem dX4_end_81 : decode cX4_end 81 = .ok (.if_icmp .gt 40, 3) := by decide +kernel
theorem dX4_end_84 : decode cX4_end 84 = .ok (.ldc2_w 143, 3) := by decide +kernel
theorem dX4_end_87 : decode cX4_end 87 = .ok (.iload_n 1, 1) := by decide +kernel
theorem dX4_end_88 : decode cX4_end 88 = .ok (.iload_n 2, 1) := by decide +kernel
theorem dX4_end_89 : decode cX4_end 89 = .ok (.iload_n 1, 1) := by decide +kernel
theorem dX4_end_90 : decode cX4_end 90 = .ok (.iload 9, 2) := by decide +kernel
theorem dX4_end_92 : decode cX4_end 92 = .ok (.invokestatic 182, 3) := by decide +kernel
theorem dX4_end_95 : decode cX4_end 95 = .ok (.lmul, 1) := by decide +kernel
theorem dX4_end_96 : decode cX4_end 96 = .ok (.lload 5, 2) := by decide +kernel
theorem dX4_end_98 : decode cX4_end 98 = .ok (.lcmp, 1) := by decide +kernel
theorem dX4_end_99 : decode cX4_end 99 = .ok (.ifCond .gt 12, 3) := by decide +kernel
theorem dX4_end_102 : decode cX4_end 102 = .ok (.iload_n 2, 1) := by decide +kernel
theorem dX4_end_103 : decode cX4_end 103 = .ok (.ifCond .le 8, 3) := by decide +kernel
theorem dX4_end_106 : decode cX4_end 106 = .ok (.iload 9, 2) := by decide +kernel
theorem dX4_end_108 : decode cX4_end 108 = .ok (.goto 5, 3) := by decide +kernel
theorem dX4_end_111 : decode cX4_end 111 = .ok (.iload 7, 2) := by decide +kernel
theorem dX4_end_113 : decode cX4_end 113 = .ok (.istore 7, 2) := by decide +kernel
theorem dX4_end_115 : decode cX4_end 115 = .ok (.iinc 9 1, 3) := by decide +kernel
theorem dX4_end_118 : decode cX4_end 118 = .ok (.goto (-41), 3) := by decide +kernel
theorem dX4_end_121 : decode cX4_end 121 = .ok (.bipush 9, 2) := by decide +kernel
theorem dX4_end_123 : decode cX4_end 123 = .ok (.istore 9, 2) := by decide +kernel
theorem dX4_end_125 : decode cX4_end 125 = .ok (.iload 9, 2) := by decide +kernel
theorem dX4_end_127 : decode cX4_end 127 = .ok (.ifCond .lt 36, 3) := by decide +kernel
theorem dX4_end_130 : decode cX4_end 130 = .ok (.ldc2_w 143, 3) := by decide +kernel
theorem dX4_end_133 : decode cX4_end 133 = .ok (.iload_n 1, 1) := by decide +kernel
theorem dX4_end_134 : decode cX4_end 134 = .ok (.iconst 0, 1) := by decide +kernel
theorem dX4_end_135 : decode cX4_end 135 = .ok (.iload_n 2, 1) := by decide +kernel
theorem dX4_end_136 : decode cX4_end 136 = .ok (.iload 9, 2) := by decide +kernel
theorem dX4_end_138 : decode cX4_end 138 = .ok (.invokestatic 182, 3) := by decide +kernel
theorem dX4_end_141 : decode cX4_end 141 = .ok (.lmul, 1) := by decide +kernel
theorem dX4_end_142 : decode cX4_end 142 = .ok (.lload 5, 2) := by decide +kernel
theorem dX4_end_144 : decode cX4_end 144 = .ok (.lcmp, 1) := by decide +kernel
theorem dX4_end_145 : decode cX4_end 145 = .ok (.ifCond .gt 8, 3) := by decide +kernel
theorem dX4_end_148 : decode cX4_end 148 = .ok (.iload 9, 2) := by decide +kernel
theorem dX4_end_150 : decode cX4_end 150 = .ok (.goto 5, 3) := by decide +kernel
theorem dX4_end_153 : decode cX4_end 153 = .ok (.iload 8, 2) := by decide +kernel
theorem dX4_end_155 : decode cX4_end 155 = .ok (.istore 8, 2) := by decide +kernel
theorem dX4_end_157 : decode cX4_end 157 = .ok (.iinc 9 (-1), 3) := by decide +kernel
theorem dX4_end_160 : decode cX4_end 160 = .ok (.goto (-35), 3) := by decide +kernel
theorem dX4_end_163 : decode cX4_end 163 = .ok (.iload 4, 2) := by decide +kernel
theorem dX4_end_165 : decode cX4_end 165 = .ok (.ifCond .ne 8, 3) := by decide +kernel
theorem dX4_end_168 : decode cX4_end 168 = .ok (.iload 7, 2) := by decide +kernel
theorem dX4_end_170 : decode cX4_end 170 = .ok (.goto 5, 3) := by decide +kernel
theorem dX4_end_173 : decode cX4_end 173 = .ok (.iload 8, 2) := by decide +kernel
theorem dX4_end_175 : decode cX4_end 175 = .ok (.ireturn, 1) := by decide +kernel
theorem dX4_rule_0 : decode cX4_rule 0 = .ok (.iload_n 1, 1) := by decide +kernel
theorem dX4_rule_1 : decode cX4_rule 1 = .ok (.i2l, 1) := by decide +kernel
theorem dX4_rule_2 : decode cX4_rule 2 = .ok (.lconst 0, 1) := by decide +kernel
theorem dX4_rule_3 : decode cX4_rule 3 = .ok (.lconst 1, 1) := by decide +kernel
theorem dX4_rule_4 : decode cX4_rule 4 = .ok (.invokestatic 46, 3) := by decide +kernel
theorem dX4_rule_7 : decode cX4_rule 7 = .ok (.ifCond .eq 28, 3) := by decide +kernel
theorem dX4_rule_10 : decode cX4_rule 10 = .ok (.iload_n 2, 1) := by decide +kernel
theorem dX4_rule_11 : decode cX4_rule 11 = .ok (.i2l, 1) := by decide +kernel
theorem dX4_rule_12 : decode cX4_rule 12 = .ok (.iconst 1, 1) := by decide +kernel
theorem dX4_rule_13 : decode cX4_rule 13 = .ok (.iload_n 1, 1) := by decide +kernel
theorem dX4_rule_14 : decode cX4_rule 14 = .ok (.isub, 1) := by decide +kernel
theorem dX4_rule_15 : decode cX4_rule 15 = .ok (.i2l, 1) := by decide +kernel
theorem dX4_rule_16 : decode cX4_rule 16 = .ok (.iload_n 1, 1) := by decide +kernel
theorem dX4_rule_17 : decode cX4_rule 17 = .ok (.ifCond .ne 9, 3) := by decide +kernel
theorem dX4_rule_20 : decode cX4_rule 20 = .ok (.ldc2_w 60, 3) := by decide +kernel
theorem dX4_rule_23 : decode cX4_rule 23 = .ok (.goto 6, 3) := by decide +kernel
theorem dX4_rule_26 : decode cX4_rule 26 = .ok (.ldc2_w 151, 3) := by decide +kernel
theorem dX4_rule_29 : decode cX4_rule 29 = .ok (.invokestatic 46, 3) := by decide +kernel
theorem dX4_rule_32 : decode cX4_rule 32 = .ok (.ifCond .ne 7, 3) := by decide +kernel
theorem dX4_rule_35 : decode cX4_rule 35 = .ok (.sipush (-1002), 3) := by decide +kernel
theorem dX4_rule_38 : decode cX4_rule 38 = .ok (.ireturn, 1) := by decide +kernel
theorem dX4_rule_39 : decode cX4_rule 39 = .ok (.iload_n 1, 1) := by decide +kernel
theorem dX4_rule_40 : decode cX4_rule 40 = .ok (.ifCond .ne 10, 3) := by decide +kernel
theorem dX4_rule_43 : decode cX4_rule 43 = .ok (.aload_n 0, 1) := by decide +kernel
theorem dX4_rule_44 : decode cX4_rule 44 = .ok (.getfield 28, 3) := by decide +kernel
theorem dX4_rule_47 : decode cX4_rule 47 = .ok (.goto 7, 3) := by decide +kernel
theorem dX4_rule_50 : decode cX4_rule 50 = .ok (.aload_n 0, 1) := by decide +kernel
theorem dX4_rule_51 : decode cX4_rule 51 = .ok (.getfield 32, 3) := by decide +kernel
theorem dX4_rule_54 : decode cX4_rule 54 = .ok (.istore_n 3, 1) := by decide +kernel
theorem dX4_rule_55 : decode cX4_rule 55 = .ok (.aload_n 0, 1) := by decide +kernel
theorem dX4_rule_56 : decode cX4_rule 56 = .ok (.iload_n 1, 1) := by decide +kernel
theorem dX4_rule_57 : decode cX4_rule 57 = .ok (.ifCond .ne 7, 3) := by decide +kernel
theorem dX4_rule_60 : decode cX4_rule 60 = .ok (.iload_n 2, 1) := by decide +kernel
theorem dX4_rule_61 : decode cX4_rule 61 = .ok (.goto 7, 3) := by decide +kernel
theorem dX4_rule_64 : decode cX4_rule 64 = .ok (.aload_n 0, 1) := by decide +kernel
theorem dX4_rule_65 : decode cX4_rule 65 = .ok (.getfield 28, 3) := by decide +kernel
theorem dX4_rule_68 : decode cX4_rule 68 = .ok (.putfield 28, 3) := by decide +kernel
theorem dX4_rule_71 : decode cX4_rule 71 = .ok (.aload_n 0, 1) := by decide +kernel
theorem dX4_rule_72 : decode cX4_rule 72 = .ok (.iload_n 1, 1) := by decide +kernel
theorem dX4_rule_73 : decode cX4_rule 73 = .ok (.iconst 1, 1) := by decide +kernel
theorem dX4_rule_74 : decode cX4_rule 74 = .ok (.if_icmp .ne 7, 3) := by decide +kernel
theorem dX4_rule_77 : decode cX4_rule 77 = .ok (.iload_n 2, 1) := by decide +kernel
theorem dX4_rule_78 : decode cX4_rule 78 = .ok (.goto 7, 3) := by decide +kernel
theorem dX4_rule_81 : decode cX4_rule 81 = .ok (.aload_n 0, 1) := by decide +kernel
theorem dX4_rule_82 : decode cX4_rule 82 = .ok (.getfield 32, 3) := by decide +kernel
theorem dX4_rule_85 : decode cX4_rule 85 = .ok (.putfield 32, 3) := by decide +kernel
theorem dX4_rule_88 : decode cX4_rule 88 = .ok (.iload_n 3, 1) := by decide +kernel
theorem dX4_rule_89 : decode cX4_rule 89 = .ok (.ireturn, 1) := by decide +kernel
theorem dX4_plan_0 : decode cX4_plan 0 = .ok (.iload_n 1, 1) := by decide +kernel
theorem dX4_plan_1 : decode cX4_plan 1 = .ok (.i2l, 1) := by decide +kernel
theorem dX4_plan_2 : decode cX4_plan 2 = .ok (.lconst 0, 1) := by decide +kernel
theorem dX4_plan_3 : decode cX4_plan 3 = .ok (.ldc2_w 186, 3) := by decide +kernel
theorem dX4_plan_6 : decode cX4_plan 6 = .ok (.invokestatic 46, 3) := by decide +kernel
theorem dX4_plan_9 : decode cX4_plan 9 = .ok (.ifCond .eq 27, 3) := by decide +kernel
theorem dX4_plan_12 : decode cX4_plan 12 = .ok (.iload_n 2, 1) := by decide +kernel
theorem dX4_plan_13 : decode cX4_plan 13 = .ok (.i2l, 1) := by decide +kernel
theorem dX4_plan_14 : decode cX4_plan 14 = .ok (.lconst 1, 1) := by decide +kernel
theorem dX4_plan_15 : decode cX4_plan 15 = .ok (.ldc2_w 60, 3) := by decide +kernel
theorem dX4_plan_18 : decode cX4_plan 18 = .ok (.invokestatic 46, 3) := by decide +kernel
theorem dX4_plan_21 : decode cX4_plan 21 = .ok (.ifCond .eq 15, 3) := by decide +kernel
theorem dX4_plan_24 : decode cX4_plan 24 = .ok (.iload_n 3, 1) := by decide +kernel
theorem dX4_plan_25 : decode cX4_plan 25 = .ok (.i2l, 1) := by decide +kernel
theorem dX4_plan_26 : decode cX4_plan 26 = .ok (.lconst 0, 1) := by decide +kernel
theorem dX4_plan_27 : decode cX4_plan 27 = .ok (.ldc2_w 52, 3) := by decide +kernel
theorem dX4_plan_30 : decode cX4_plan 30 = .ok (.invokestatic 46, 3) := by decide +kernel
theorem dX4_plan_33 : decode cX4_plan 33 = .ok (.ifCond .ne 7, 3) := by decide +kernel
theorem dX4_plan_36 : decode cX4_plan 36 = .ok (.sipush (-1002), 3) := by decide +kernel
theorem dX4_plan_39 : decode cX4_plan 39 = .ok (.ireturn, 1) := by decide +kernel
theorem dX4_plan_40 : decode cX4_plan 40 = .ok (.aload_n 0, 1) := by decide +kernel
theorem dX4_plan_41 : decode cX4_plan 41 = .ok (.getfield 28, 3) := by decide +kernel
theorem dX4_plan_44 : decode cX4_plan 44 = .ok (.iload_n 2, 1) := by decide +kernel
theorem dX4_plan_45 : decode cX4_plan 45 = .ok (.aload_n 0, 1) := by decide +kernel
theorem dX4_plan_46 : decode cX4_plan 46 = .ok (.getfield 32, 3) := by decide +kernel
theorem dX4_plan_49 : decode cX4_plan 49 = .ok (.imul, 1) := by decide +kernel
theorem dX4_plan_50 : decode cX4_plan 50 = .ok (.iadd, 1) := by decide +kernel
theorem dX4_plan_51 : decode cX4_plan 51 = .ok (.istore 4, 2) := by decide +kernel
theorem dX4_plan_53 : decode cX4_plan 53 = .ok (.aload_n 0, 1) := by decide +kernel
theorem dX4_plan_54 : decode cX4_plan 54 = .ok (.getfield 28, 3) := by decide +kernel
theorem dX4_plan_57 : decode cX4_plan 57 = .ok (.bipush 10, 2) := by decide +kernel
theorem dX4_plan_59 : decode cX4_plan 59 = .ok (.iload_n 2, 1) := by decide +kernel
theorem dX4_plan_60 : decode cX4_plan 60 = .ok (.imul, 1) := by decide +kernel
theorem dX4_plan_61 : decode cX4_plan 61 = .ok (.aload_n 0, 1) := by decide +kernel
theorem dX4_plan_62 : decode cX4_plan 62 = .ok (.getfield 19, 3) := by decide +kernel
theorem dX4_plan_65 : decode cX4_plan 65 = .ok (.iconst 2, 1) := by decide +kernel
theorem dX4_plan_66 : decode cX4_plan 66 = .ok (.iaload, 1) := by decide +kernel
theorem dX4_plan_67 : decode cX4_plan 67 = .ok (.iadd, 1) := by decide +kernel
theorem dX4_plan_68 : decode cX4_plan 68 = .ok (.iconst 1, 1) := by decide +kernel
theorem dX4_plan_69 : decode cX4_plan 69 = .ok (.isub, 1) := by decide +kernel
theorem dX4_plan_70 : decode cX4_plan 70 = .ok (.aload_n 0, 1) := by decide +kernel
theorem dX4_plan_71 : decode cX4_plan 71 = .ok (.getfield 19, 3) := by decide +kernel
theorem dX4_plan_74 : decode cX4_plan 74 = .ok (.iconst 2, 1) := by decide +kernel
theorem dX4_plan_75 : decode cX4_plan 75 = .ok (.iaload, 1) := by decide +kernel
theorem dX4_plan_76 : decode cX4_plan 76 = .ok (.idiv, 1) := by decide +kernel
theorem dX4_plan_77 : decode cX4_plan 77 = .ok (.aload_n 0, 1) := by decide +kernel
theorem dX4_plan_78 : decode cX4_plan 78 = .ok (.getfield 32, 3) := by decide +kernel
theorem dX4_plan_81 : decode cX4_plan 81 = .ok (.imul, 1) := by decide +kernel
theorem dX4_plan_82 : decode cX4_plan 82 = .ok (.iadd, 1) := by decide +kernel
theorem dX4_plan_83 : decode cX4_plan 83 = .ok (.istore 5, 2) := by decide +kernel
theorem dX4_plan_85 : decode cX4_plan 85 = .ok (.iconst 0, 1) := by decide +kernel
theorem dX4_plan_86 : decode cX4_plan 86 = .ok (.istore 6, 2) := by decide +kernel
theorem dX4_plan_88 : decode cX4_plan 88 = .ok (.iconst 0, 1) := by decide +kernel
theorem dX4_plan_89 : decode cX4_plan 89 = .ok (.istore 7, 2) := by decide +kernel
theorem dX4_plan_91 : decode cX4_plan 91 = .ok (.iconst 0, 1) := by decide +kernel
theorem dX4_plan_92 : decode cX4_plan 92 = .ok (.istore 8, 2) := by decide +kernel
theorem dX4_plan_94 : decode cX4_plan 94 = .ok (.iload 8, 2) := by decide +kernel
theorem dX4_plan_96 : decode cX4_plan 96 = .ok (.bipush 12, 2) := by decide +kernel
theorem dX4_plan_98 : decode cX4_plan 98 = .ok (.if_icmp .gt 90, 3) := by decide +kernel
theorem dX4_plan_101 : decode cX4_plan 101 = .ok (.iconst 0, 1) := by decide +kernel
theorem dX4_plan_102 : decode cX4_plan 102 = .ok (.istore 9, 2) := by decide +kernel
theorem dX4_plan_104 : decode cX4_plan 104 = .ok (.iload 9, 2) := by decide +kernel
theorem dX4_plan_106 : decode cX4_plan 106 = .ok (.bipush 12, 2) := by decide +kernel
theorem dX4_plan_108 : decode cX4_plan 108 = .ok (.if_icmp .gt 74, 3) := by decide +kernel
theorem dX4_plan_111 : decode cX4_plan 111 = .ok (.iload 8, 2) := by decide +kernel
theorem dX4_plan_113 : decode cX4_plan 113 = .ok (.iload 4, 2) := by decide +kernel
theorem dX4_plan_115 : decode cX4_plan 115 = .ok (.imul, 1) := by decide +kernel
theorem dX4_plan_116 : decode cX4_plan 116 = .ok (.iload 9, 2) := by decide +kernel
theorem dX4_plan_118 : decode cX4_plan 118 = .ok (.iload 5, 2) := by decide +kernel
theorem dX4_plan_120 : decode cX4_plan 120 = .ok (.imul, 1) := by decide +kernel
theorem dX4_plan_121 : decode cX4_plan 121 = .ok (.iadd, 1) := by decide +kernel
theorem dX4_plan_122 : decode cX4_plan 122 = .ok (.iload_n 1, 1) := by decide +kernel
theorem dX4_plan_123 : decode cX4_plan 123 = .ok (.if_icmp .gt 7, 3) := by decide +kernel
theorem dX4_plan_126 : decode cX4_plan 126 = .ok (.iconst 1, 1) := by decide +kernel
theorem dX4_plan_127 : decode cX4_plan 127 = .ok (.goto 4, 3) := by decide +kernel
theorem dX4_plan_130 : decode cX4_plan 130 = .ok (.iconst 0, 1) := by decide +kernel
theorem dX4_plan_131 : decode cX4_plan 131 = .ok (.istore 10, 2) := by decide +kernel
theorem dX4_plan_133 : decode cX4_plan 133 = .ok (.iload 8, 2) := by decide +kernel
theorem dX4_plan_135 : decode cX4_plan 135 = .ok (.iload 9, 2) := by decide +kernel
theorem dX4_plan_137 : decode cX4_plan 137 = .ok (.iadd, 1) := by decide +kernel
theorem dX4_plan_138 : decode cX4_plan 138 = .ok (.iload 6, 2) := by decide +kernel
theorem dX4_plan_140 : decode cX4_plan 140 = .ok (.isub, 1) := by decide +kernel
theorem dX4_plan_141 : decode cX4_plan 141 = .ok (.iload 7, 2) := by decide +kernel
theorem dX4_plan_143 : decode cX4_plan 143 = .ok (.isub, 1) := by decide +kernel
theorem dX4_plan_144 : decode cX4_plan 144 = .ok (.istore 11, 2) := by decide +kernel
theorem dX4_plan_146 : decode cX4_plan 146 = .ok (.iload 10, 2) := by decide +kernel
theorem dX4_plan_148 : decode cX4_plan 148 = .ok (.ifCond .eq 28, 3) := by decide +kernel
theorem dX4_plan_151 : decode cX4_plan 151 = .ok (.iload 11, 2) := by decide +kernel
theorem dX4_plan_153 : decode cX4_plan 153 = .ok (.ifCond .gt 15, 3) := by decide +kernel
theorem dX4_plan_156 : decode cX4_plan 156 = .ok (.iload 11, 2) := by decide +kernel
theorem dX4_plan_158 : decode cX4_plan 158 = .ok (.ifCond .ne 18, 3) := by decide +kernel
theorem dX4_plan_161 : decode cX4_plan 161 = .ok (.iload 8, 2) := by decide +kernel
theorem dX4_plan_163 : decode cX4_plan 163 = .ok (.iload 6, 2) := by decide +kernel
theorem dX4_plan_165 : decode cX4_plan 165 = .ok (.if_icmp .le 11, 3) := by decide +kernel
theorem dX4_plan_168 : decode cX4_plan 168 = .ok (.iload 8, 2) := by decide +kernel
theorem dX4_plan_170 : decode cX4_plan 170 = .ok (.istore 6, 2) := by decide +kernel
theorem dX4_plan_172 : decode cX4_plan 172 = .ok (.iload 9, 2) := by decide +kernel
theorem dX4_plan_174 : decode cX4_plan 174 = .ok (.istore 7, 2) := by decide +kernel
theorem dX4_plan_176 : decode cX4_plan 176 = .ok (.iinc 9 1, 3) := by decide +kernel
theorem dX4_plan_179 : decode cX4_plan 179 = .ok (.goto (-75), 3) := by decide +kernel
theorem dX4_plan_182 : decode cX4_plan 182 = .ok (.iinc 8 1, 3) := by decide +kernel
theorem dX4_plan_185 : decode cX4_plan 185 = .ok (.goto (-91), 3) := by decide +kernel
theorem dX4_plan_188 : decode cX4_plan 188 = .ok (.iload_n 3, 1) := by decide +kernel
theorem dX4_plan_189 : decode cX4_plan 189 = .ok (.ifCond .ne 8, 3) := by decide +kernel
theorem dX4_plan_192 : decode cX4_plan 192 = .ok (.iload 6, 2) := by decide +kernel
theorem dX4_plan_194 : decode cX4_plan 194 = .ok (.goto 24, 3) := by decide +kernel
theorem dX4_plan_197 : decode cX4_plan 197 = .ok (.iload_n 3, 1) := by decide +kernel
theorem dX4_plan_198 : decode cX4_plan 198 = .ok (.iconst 1, 1) := by decide +kernel
theorem dX4_plan_199 : decode cX4_plan 199 = .ok (.if_icmp .ne 8, 3) := by decide +kernel
theorem dX4_plan_202 : decode cX4_plan 202 = .ok (.iload 7, 2) := by decide +kernel
theorem dX4_plan_204 : decode cX4_plan 204 = .ok (.goto 14, 3) := by decide +kernel
theorem dX4_plan_207 : decode cX4_plan 207 = .ok (.iload 6, 2) := by decide +kernel
theorem dX4_plan_209 : decode cX4_plan 209 = .ok (.iload 4, 2) := by decide +kernel
theorem dX4_plan_211 : decode cX4_plan 211 = .ok (.imul, 1) := by decide +kernel
theorem dX4_plan_212 : decode cX4_plan 212 = .ok (.iload 7, 2) := by decide +kernel
theorem dX4_plan_214 : decode cX4_plan 214 = .ok (.iload 5, 2) := by decide +kernel
theorem dX4_plan_216 : decode cX4_plan 216 = .ok (.imul, 1) := by decide +kernel
theorem dX4_plan_217 : decode cX4_plan 217 = .ok (.iadd, 1) := by decide +kernel
theorem dX4_plan_218 : decode cX4_plan 218 = .ok (.ireturn, 1) := by decide +kernel
end
section
theorem dL_law_0 : decode cL_law 0 = .ok (.new 7, 3) := by decide +kernel
theorem dL_law_3 : decode cL_law 3 = .ok (.dup, 1) := by decide +kernel
theorem dL_law_4 : decode cL_law 4 = .ok (.invokespecial 9, 3) := by decide +kernel
theorem dL_law_7 : decode cL_law 7 = .ok (.astore_n 1, 1) := by decide +kernel
theorem dL_law_8 : decode cL_law 8 = .ok (.new 10, 3) := by decide +kernel
theorem dL_law_11 : decode cL_law 11 = .ok (.dup, 1) := by decide +kernel
theorem dL_law_12 : decode cL_law 12 = .ok (.invokespecial 12, 3) := by decide +kernel
theorem dL_law_15 : decode cL_law 15 = .ok (.astore_n 2, 1) := by decide +kernel
theorem dL_law_16 : decode cL_law 16 = .ok (.iconst 0, 1) := by decide +kernel
theorem dL_law_17 : decode cL_law 17 = .ok (.istore_n 3, 1) := by decide +kernel
theorem dL_law_18 : decode cL_law 18 = .ok (.iload_n 3, 1) := by decide +kernel
theorem dL_law_19 : decode cL_law 19 = .ok (.aload_n 0, 1) := by decide +kernel
theorem dL_law_20 : decode cL_law 20 = .ok (.arraylength, 1) := by decide +kernel
theorem dL_law_21 : decode cL_law 21 = .ok (.bipush 6, 2) := by decide +kernel
theorem dL_law_23 : decode cL_law 23 = .ok (.isub, 1) := by decide +kernel
theorem dL_law_24 : decode cL_law 24 = .ok (.if_icmp .gt 977, 3) := by decide +kernel
theorem dL_law_27 : decode cL_law 27 = .ok (.aload_n 0, 1) := by decide +kernel
theorem dL_law_28 : decode cL_law 28 = .ok (.iload_n 3, 1) := by decide +kernel
theorem dL_law_29 : decode cL_law 29 = .ok (.iaload, 1) := by decide +kernel
theorem dL_law_30 : decode cL_law 30 = .ok (.bipush 31, 2) := by decide +kernel
theorem dL_law_32 : decode cL_law 32 = .ok (.iand, 1) := by decide +kernel
theorem dL_law_33 : decode cL_law 33 = .ok (.tableswitch 962 0 21 #[103, 146, 199, 212, 245, 278, 311, 365, 418, 472, 536, 589, 622, 665, 698, 741, 774, 787, 810, 833, 886, 919], 103) := by decide +kernel
theorem dL_law_136 : decode cL_law 136 = .ok (.aload_n 1, 1) := by decide +kernel
theorem dL_law_137 : decode cL_law 137 = .ok (.aload_n 0, 1) := by decide +kernel
theorem dL_law_138 : decode cL_law 138 = .ok (.iload_n 3, 1) := by decide +kernel
theorem dL_law_139 : decode cL_law 139 = .ok (.iconst 1, 1) := by decide +kernel
theorem dL_law_140 : decode cL_law 140 = .ok (.iadd, 1) := by decide +kernel
theorem dL_law_141 : decode cL_law 141 = .ok (.iaload, 1) := by decide +kernel
theorem dL_law_142 : decode cL_law 142 = .ok (.aload_n 0, 1) := by decide +kernel
theorem dL_law_143 : decode cL_law 143 = .ok (.iload_n 3, 1) := by decide +kernel
theorem dL_law_144 : decode cL_law 144 = .ok (.iconst 2, 1) := by decide +kernel
theorem dL_law_145 : decode cL_law 145 = .ok (.iadd, 1) := by decide +kernel
theorem dL_law_146 : decode cL_law 146 = .ok (.iaload, 1) := by decide +kernel
theorem dL_law_147 : decode cL_law 147 = .ok (.aload_n 0, 1) := by decide +kernel
theorem dL_law_148 : decode cL_law 148 = .ok (.iload_n 3, 1) := by decide +kernel
theorem dL_law_149 : decode cL_law 149 = .ok (.iconst 3, 1) := by decide +kernel
theorem dL_law_150 : decode cL_law 150 = .ok (.iadd, 1) := by decide +kernel
theorem dL_law_151 : decode cL_law 151 = .ok (.iaload, 1) := by decide +kernel
theorem dL_law_152 : decode cL_law 152 = .ok (.invokevirtual 13, 3) := by decide +kernel
theorem dL_law_155 : decode cL_law 155 = .ok (.aload_n 2, 1) := by decide +kernel
theorem dL_law_156 : decode cL_law 156 = .ok (.aload_n 0, 1) := by decide +kernel
theorem dL_law_157 : decode cL_law 157 = .ok (.iload_n 3, 1) := by decide +kernel
theorem dL_law_158 : decode cL_law 158 = .ok (.iconst 1, 1) := by decide +kernel
theorem dL_law_159 : decode cL_law 159 = .ok (.iadd, 1) := by decide +kernel
theorem dL_law_160 : decode cL_law 160 = .ok (.iaload, 1) := by decide +kernel
theorem dL_law_161 : decode cL_law 161 = .ok (.aload_n 0, 1) := by decide +kernel
theorem dL_law_162 : decode cL_law 162 = .ok (.iload_n 3, 1) := by decide +kernel
theorem dL_law_163 : decode cL_law 163 = .ok (.iconst 2, 1) := by decide +kernel
theorem dL_law_164 : decode cL_law 164 = .ok (.iadd, 1) := by decide +kernel
theorem dL_law_165 : decode cL_law 165 = .ok (.iaload, 1) := by decide +kernel
theorem dL_law_166 : decode cL_law 166 = .ok (.aload_n 0, 1) := by decide +kernel
theorem dL_law_167 : decode cL_law 167 = .ok (.iload_n 3, 1) := by decide +kernel
theorem dL_law_168 : decode cL_law 168 = .ok (.iconst 3, 1) := by decide +kernel
theorem dL_law_169 : decode cL_law 169 = .ok (.iadd, 1) := by decide +kernel
theorem dL_law_170 : decode cL_law 170 = .ok (.iaload, 1) := by decide +kernel
theorem dL_law_171 : decode cL_law 171 = .ok (.invokevirtual 17, 3) := by decide +kernel
theorem dL_law_174 : decode cL_law 174 = .ok (.if_icmp .eq 821, 3) := by decide +kernel
theorem dL_law_177 : decode cL_law 177 = .ok (.iconst 0, 1) := by decide +kernel
theorem dL_law_178 : decode cL_law 178 = .ok (.ireturn, 1) := by decide +kernel
theorem dL_law_179 : decode cL_law 179 = .ok (.aload_n 1, 1) := by decide +kernel
theorem dL_law_180 : decode cL_law 180 = .ok (.aload_n 0, 1) := by decide +kernel
theorem dL_law_181 : decode cL_law 181 = .ok (.iload_n 3, 1) := by decide +kernel
theorem dL_law_182 : decode cL_law 182 = .ok (.iconst 1, 1) := by decide +kernel
theorem dL_law_183 : decode cL_law 183 = .ok (.iadd, 1) := by decide +kernel
theorem dL_law_184 : decode cL_law 184 = .ok (.iaload, 1) := by decide +kernel
theorem dL_law_185 : decode cL_law 185 = .ok (.aload_n 0, 1) := by decide +kernel
theorem dL_law_186 : decode cL_law 186 = .ok (.iload_n 3, 1) := by decide +kernel
theorem dL_law_187 : decode cL_law 187 = .ok (.iconst 2, 1) := by decide +kernel
theorem dL_law_188 : decode cL_law 188 = .ok (.iadd, 1) := by decide +kernel
theorem dL_law_189 : decode cL_law 189 = .ok (.iaload, 1) := by decide +kernel
theorem dL_law_190 : decode cL_law 190 = .ok (.aload_n 0, 1) := by decide +kernel
theorem dL_law_191 : decode cL_law 191 = .ok (.iload_n 3, 1) := by decide +kernel
theorem dL_law_192 : decode cL_law 192 = .ok (.iconst 3, 1) := by decide +kernel
theorem dL_law_193 : decode cL_law 193 = .ok (.iadd, 1) := by decide +kernel
theorem dL_law_194 : decode cL_law 194 = .ok (.iaload, 1) := by decide +kernel
theorem dL_law_195 : decode cL_law 195 = .ok (.aload_n 0, 1) := by decide +kernel
theorem dL_law_196 : decode cL_law 196 = .ok (.iload_n 3, 1) := by decide +kernel
theorem dL_law_197 : decode cL_law 197 = .ok (.iconst 4, 1) := by decide +kernel
theorem dL_law_198 : decode cL_law 198 = .ok (.iadd, 1) := by decide +kernel
theorem dL_law_199 : decode cL_law 199 = .ok (.iaload, 1) := by decide +kernel
theorem dL_law_200 : decode cL_law 200 = .ok (.invokevirtual 18, 3) := by decide +kernel
theorem dL_law_203 : decode cL_law 203 = .ok (.aload_n 2, 1) := by decide +kernel
theorem dL_law_204 : decode cL_law 204 = .ok (.aload_n 0, 1) := by decide +kernel
theorem dL_law_205 : decode cL_law 205 = .ok (.iload_n 3, 1) := by decide +kernel
theorem dL_law_206 : decode cL_law 206 = .ok (.iconst 1, 1) := by decide +kernel
theorem dL_law_207 : decode cL_law 207 = .ok (.iadd, 1) := by decide +kernel
theorem dL_law_208 : decode cL_law 208 = .ok (.iaload, 1) := by decide +kernel
theorem dL_law_209 : decode cL_law 209 = .ok (.aload_n 0, 1) := by decide +kernel
theorem dL_law_210 : decode cL_law 210 = .ok (.iload_n 3, 1) := by decide +kernel
theorem dL_law_211 : decode cL_law 211 = .ok (.iconst 2, 1) := by decide +kernel
theorem dL_law_212 : decode cL_law 212 = .ok (.iadd, 1) := by decide +kernel
theorem dL_law_213 : decode cL_law 213 = .ok (.iaload, 1) := by decide +kernel
theorem dL_law_214 : decode cL_law 214 = .ok (.aload_n 0, 1) := by decide +kernel
theorem dL_law_215 : decode cL_law 215 = .ok (.iload_n 3, 1) := by decide +kernel
theorem dL_law_216 : decode cL_law 216 = .ok (.iconst 3, 1) := by decide +kernel
theorem dL_law_217 : decode cL_law 217 = .ok (.iadd, 1) := by decide +kernel
theorem dL_law_218 : decode cL_law 218 = .ok (.iaload, 1) := by decide +kernel
theorem dL_law_219 : decode cL_law 219 = .ok (.aload_n 0, 1) := by decide +kernel
theorem dL_law_220 : decode cL_law 220 = .ok (.iload_n 3, 1) := by decide +kernel
theorem dL_law_221 : decode cL_law 221 = .ok (.iconst 4, 1) := by decide +kernel
theorem dL_law_222 : decode cL_law 222 = .ok (.iadd, 1) := by decide +kernel
theorem dL_law_223 : decode cL_law 223 = .ok (.iaload, 1) := by decide +kernel
theorem dL_law_224 : decode cL_law 224 = .ok (.invokevirtual 22, 3) := by decide +kernel
theorem dL_law_227 : decode cL_law 227 = .ok (.if_icmp .eq 768, 3) := by decide +kernel
theorem dL_law_230 : decode cL_law 230 = .ok (.iconst 0, 1) := by decide +kernel
theorem dL_law_231 : decode cL_law 231 = .ok (.ireturn, 1) := by decide +kernel
theorem dL_law_232 : decode cL_law 232 = .ok (.aload_n 1, 1) := by decide +kernel
theorem dL_law_233 : decode cL_law 233 = .ok (.invokevirtual 23, 3) := by decide +kernel
theorem dL_law_236 : decode cL_law 236 = .ok (.aload_n 2, 1) := by decide +kernel
theorem dL_law_237 : decode cL_law 237 = .ok (.invokevirtual 27, 3) := by decide +kernel
theorem dL_law_240 : decode cL_law 240 = .ok (.if_icmp .eq 755, 3) := by decide +kernel
theorem dL_law_243 : decode cL_law 243 = .ok (.iconst 0, 1) := by decide +kernel
theorem dL_law_244 : decode cL_law 244 = .ok (.ireturn, 1) := by decide +kernel
theorem dL_law_245 : decode cL_law 245 = .ok (.aload_n 1, 1) := by decide +kernel
theorem dL_law_246 : decode cL_law 246 = .ok (.aload_n 0, 1) := by decide +kernel
theorem dL_law_247 : decode cL_law 247 = .ok (.iload_n 3, 1) := by decide +kernel
theorem dL_law_248 : decode cL_law 248 = .ok (.iconst 1, 1) := by decide +kernel
theorem dL_law_249 : decode cL_law 249 = .ok (.iadd, 1) := by decide +kernel
theorem dL_law_250 : decode cL_law 250 = .ok (.iaload, 1) := by decide +kernel
theorem dL_law_251 : decode cL_law 251 = .ok (.aload_n 0, 1) := by decide +kernel
theorem dL_law_252 : decode cL_law 252 = .ok (.iload_n 3, 1) := by decide +kernel
theorem dL_law_253 : decode cL_law 253 = .ok (.iconst 2, 1) := by decide +kernel
theorem dL_law_254 : decode cL_law 254 = .ok (.iadd, 1) := by decide +kernel
theorem dL_law_255 : decode cL_law 255 = .ok (.iaload, 1) := by decide +kernel
theorem dL_law_256 : decode cL_law 256 = .ok (.invokevirtual 28, 3) := by decide +kernel
theorem dL_law_259 : decode cL_law 259 = .ok (.aload_n 2, 1) := by decide +kernel
theorem dL_law_260 : decode cL_law 260 = .ok (.aload_n 0, 1) := by decide +kernel
theorem dL_law_261 : decode cL_law 261 = .ok (.iload_n 3, 1) := by decide +kernel
theorem dL_law_262 : decode cL_law 262 = .ok (.iconst 1, 1) := by decide +kernel
theorem dL_law_263 : decode cL_law 263 = .ok (.iadd, 1) := by decide +kernel
theorem dL_law_264 : decode cL_law 264 = .ok (.iaload, 1) := by decide +kernel
theorem dL_law_265 : decode cL_law 265 = .ok (.aload_n 0, 1) := by decide +kernel
theorem dL_law_266 : decode cL_law 266 = .ok (.iload_n 3, 1) := by decide +kernel
theorem dL_law_267 : decode cL_law 267 = .ok (.iconst 2, 1) := by decide +kernel
theorem dL_law_268 : decode cL_law 268 = .ok (.iadd, 1) := by decide +kernel
theorem dL_law_269 : decode cL_law 269 = .ok (.iaload, 1) := by decide +kernel
theorem dL_law_270 : decode cL_law 270 = .ok (.invokevirtual 32, 3) := by decide +kernel
theorem dL_law_273 : decode cL_law 273 = .ok (.if_icmp .eq 722, 3) := by decide +kernel
theorem dL_law_276 : decode cL_law 276 = .ok (.iconst 0, 1) := by decide +kernel
theorem dL_law_277 : decode cL_law 277 = .ok (.ireturn, 1) := by decide +kernel
theorem dL_law_278 : decode cL_law 278 = .ok (.aload_n 1, 1) := by decide +kernel
theorem dL_law_279 : decode cL_law 279 = .ok (.aload_n 0, 1) := by decide +kernel
theorem dL_law_280 : decode cL_law 280 = .ok (.iload_n 3, 1) := by decide +kernel
theorem dL_law_281 : decode cL_law 281 = .ok (.iconst 1, 1) := by decide +kernel
theorem dL_law_282 : decode cL_law 282 = .ok (.iadd, 1) := by decide +kernel
theorem dL_law_283 : decode cL_law 283 = .ok (.iaload, 1) := by decide +kernel
theorem dL_law_284 : decode cL_law 284 = .ok (.aload_n 0, 1) := by decide +kernel
theorem dL_law_285 : decode cL_law 285 = .ok (.iload_n 3, 1) := by decide +kernel
theorem dL_law_286 : decode cL_law 286 = .ok (.iconst 2, 1) := by decide +kernel
theorem dL_law_287 : decode cL_law 287 = .ok (.iadd, 1) := by decide +kernel
theorem dL_law_288 : decode cL_law 288 = .ok (.iaload, 1) := by decide +kernel
theorem dL_law_289 : decode cL_law 289 = .ok (.invokevirtual 33, 3) := by decide +kernel
theorem dL_law_292 : decode cL_law 292 = .ok (.aload_n 2, 1) := by decide +kernel
theorem dL_law_293 : decode cL_law 293 = .ok (.aload_n 0, 1) := by decide +kernel
theorem dL_law_294 : decode cL_law 294 = .ok (.iload_n 3, 1) := by decide +kernel
theorem dL_law_295 : decode cL_law 295 = .ok (.iconst 1, 1) := by decide +kernel
theorem dL_law_296 : decode cL_law 296 = .ok (.iadd, 1) := by decide +kernel
theorem dL_law_297 : decode cL_law 297 = .ok (.iaload, 1) := by decide +kernel
theorem dL_law_298 : decode cL_law 298 = .ok (.aload_n 0, 1) := by decide +kernel
theorem dL_law_299 : decode cL_law 299 = .ok (.iload_n 3, 1) := by decide +kernel
theorem dL_law_300 : decode cL_law 300 = .ok (.iconst 2, 1) := by decide +kernel
theorem dL_law_301 : decode cL_law 301 = .ok (.iadd, 1) := by decide +kernel
theorem dL_law_302 : decode cL_law 302 = .ok (.iaload, 1) := by decide +kernel
theorem dL_law_303 : decode cL_law 303 = .ok (.invokevirtual 36, 3) := by decide +kernel
theorem dL_law_306 : decode cL_law 306 = .ok (.if_icmp .eq 689, 3) := by decide +kernel
theorem dL_law_309 : decode cL_law 309 = .ok (.iconst 0, 1) := by decide +kernel
theorem dL_law_310 : decode cL_law 310 = .ok (.ireturn, 1) := by decide +kernel
theorem dL_law_311 : decode cL_law 311 = .ok (.aload_n 1, 1) := by decide +kernel
theorem dL_law_312 : decode cL_law 312 = .ok (.aload_n 0, 1) := by decide +kernel
theorem dL_law_313 : decode cL_law 313 = .ok (.iload_n 3, 1) := by decide +kernel
theorem dL_law_314 : decode cL_law 314 = .ok (.iconst 1, 1) := by decide +kernel
theorem dL_law_315 : decode cL_law 315 = .ok (.iadd, 1) := by decide +kernel
theorem dL_law_316 : decode cL_law 316 = .ok (.iaload, 1) := by decide +kernel
theorem dL_law_317 : decode cL_law 317 = .ok (.aload_n 0, 1) := by decide +kernel
theorem dL_law_318 : decode cL_law 318 = .ok (.iload_n 3, 1) := by decide +kernel
theorem dL_law_319 : decode cL_law 319 = .ok (.iconst 2, 1) := by decide +kernel
theorem dL_law_320 : decode cL_law 320 = .ok (.iadd, 1) := by decide +kernel
theorem dL_law_321 : decode cL_law 321 = .ok (.iaload, 1) := by decide +kernel
theorem dL_law_322 : decode cL_law 322 = .ok (.invokevirtual 37, 3) := by decide +kernel
theorem dL_law_325 : decode cL_law 325 = .ok (.aload_n 2, 1) := by decide +kernel
theorem dL_law_326 : decode cL_law 326 = .ok (.aload_n 0, 1) := by decide +kernel
theorem dL_law_327 : decode cL_law 327 = .ok (.iload_n 3, 1) := by decide +kernel
theorem dL_law_328 : decode cL_law 328 = .ok (.iconst 1, 1) := by decide +kernel
theorem dL_law_329 : decode cL_law 329 = .ok (.iadd, 1) := by decide +kernel
theorem dL_law_330 : decode cL_law 330 = .ok (.iaload, 1) := by decide +kernel
theorem dL_law_331 : decode cL_law 331 = .ok (.aload_n 0, 1) := by decide +kernel
theorem dL_law_332 : decode cL_law 332 = .ok (.iload_n 3, 1) := by decide +kernel
theorem dL_law_333 : decode cL_law 333 = .ok (.iconst 2, 1) := by decide +kernel
theorem dL_law_334 : decode cL_law 334 = .ok (.iadd, 1) := by decide +kernel
theorem dL_law_335 : decode cL_law 335 = .ok (.iaload, 1) := by decide +kernel
theorem dL_law_336 : decode cL_law 336 = .ok (.invokevirtual 40, 3) := by decide +kernel
theorem dL_law_339 : decode cL_law 339 = .ok (.if_icmp .eq 656, 3) := by decide +kernel
theorem dL_law_342 : decode cL_law 342 = .ok (.iconst 0, 1) := by decide +kernel
theorem dL_law_343 : decode cL_law 343 = .ok (.ireturn, 1) := by decide +kernel
theorem dL_law_344 : decode cL_law 344 = .ok (.aload_n 1, 1) := by decide +kernel
theorem dL_law_345 : decode cL_law 345 = .ok (.aload_n 0, 1) := by decide +kernel
theorem dL_law_346 : decode cL_law 346 = .ok (.iload_n 3, 1) := by decide +kernel
theorem dL_law_347 : decode cL_law 347 = .ok (.iconst 1, 1) := by decide +kernel
theorem dL_law_348 : decode cL_law 348 = .ok (.iadd, 1) := by decide +kernel
theorem dL_law_349 : decode cL_law 349 = .ok (.iaload, 1) := by decide +kernel
theorem dL_law_350 : decode cL_law 350 = .ok (.aload_n 0, 1) := by decide +kernel
theorem dL_law_351 : decode cL_law 351 = .ok (.iload_n 3, 1) := by decide +kernel
theorem dL_law_352 : decode cL_law 352 = .ok (.iconst 2, 1) := by decide +kernel
theorem dL_law_353 : decode cL_law 353 = .ok (.iadd, 1) := by decide +kernel
theorem dL_law_354 : decode cL_law 354 = .ok (.iaload, 1) := by decide +kernel
theorem dL_law_355 : decode cL_law 355 = .ok (.aload_n 0, 1) := by decide +kernel
theorem dL_law_356 : decode cL_law 356 = .ok (.iload_n 3, 1) := by decide +kernel
theorem dL_law_357 : decode cL_law 357 = .ok (.iconst 3, 1) := by decide +kernel
theorem dL_law_358 : decode cL_law 358 = .ok (.iadd, 1) := by decide +kernel
theorem dL_law_359 : decode cL_law 359 = .ok (.iaload, 1) := by decide +kernel
theorem dL_law_360 : decode cL_law 360 = .ok (.aload_n 0, 1) := by decide +kernel
theorem dL_law_361 : decode cL_law 361 = .ok (.iload_n 3, 1) := by decide +kernel
theorem dL_law_362 : decode cL_law 362 = .ok (.iconst 4, 1) := by decide +kernel
theorem dL_law_363 : decode cL_law 363 = .ok (.iadd, 1) := by decide +kernel
theorem dL_law_364 : decode cL_law 364 = .ok (.iaload, 1) := by decide +kernel
theorem dL_law_365 : decode cL_law 365 = .ok (.invokevirtual 41, 3) := by decide +kernel
theorem dL_law_368 : decode cL_law 368 = .ok (.aload_n 2, 1) := by decide +kernel
theorem dL_law_369 : decode cL_law 369 = .ok (.aload_n 0, 1) := by decide +kernel
theorem dL_law_370 : decode cL_law 370 = .ok (.iload_n 3, 1) := by decide +kernel
theorem dL_law_371 : decode cL_law 371 = .ok (.iconst 1, 1) := by decide +kernel
theorem dL_law_372 : decode cL_law 372 = .ok (.iadd, 1) := by decide +kernel
theorem dL_law_373 : decode cL_law 373 = .ok (.iaload, 1) := by decide +kernel
theorem dL_law_374 : decode cL_law 374 = .ok (.aload_n 0, 1) := by decide +kernel
theorem dL_law_375 : decode cL_law 375 = .ok (.iload_n 3, 1) := by decide +kernel
theorem dL_law_376 : decode cL_law 376 = .ok (.iconst 2, 1) := by decide +kernel
theorem dL_law_377 : decode cL_law 377 = .ok (.iadd, 1) := by decide +kernel
theorem dL_law_378 : decode cL_law 378 = .ok (.iaload, 1) := by decide +kernel
theorem dL_law_379 : decode cL_law 379 = .ok (.aload_n 0, 1) := by decide +kernel
theorem dL_law_380 : decode cL_law 380 = .ok (.iload_n 3, 1) := by decide +kernel
theorem dL_law_381 : decode cL_law 381 = .ok (.iconst 3, 1) := by decide +kernel
theorem dL_law_382 : decode cL_law 382 = .ok (.iadd, 1) := by decide +kernel
theorem dL_law_383 : decode cL_law 383 = .ok (.iaload, 1) := by decide +kernel
theorem dL_law_384 : decode cL_law 384 = .ok (.aload_n 0, 1) := by decide +kernel
theorem dL_law_385 : decode cL_law 385 = .ok (.iload_n 3, 1) := by decide +kernel
theorem dL_law_386 : decode cL_law 386 = .ok (.iconst 4, 1) := by decide +kernel
theorem dL_law_387 : decode cL_law 387 = .ok (.iadd, 1) := by decide +kernel
theorem dL_law_388 : decode cL_law 388 = .ok (.iaload, 1) := by decide +kernel
theorem dL_law_389 : decode cL_law 389 = .ok (.invokevirtual 45, 3) := by decide +kernel
theorem dL_law_392 : decode cL_law 392 = .ok (.lcmp, 1) := by decide +kernel
theorem dL_law_393 : decode cL_law 393 = .ok (.ifCond .eq 602, 3) := by decide +kernel
theorem dL_law_396 : decode cL_law 396 = .ok (.iconst 0, 1) := by decide +kernel
theorem dL_law_397 : decode cL_law 397 = .ok (.ireturn, 1) := by decide +kernel
theorem dL_law_398 : decode cL_law 398 = .ok (.aload_n 1, 1) := by decide +kernel
theorem dL_law_399 : decode cL_law 399 = .ok (.aload_n 0, 1) := by decide +kernel
theorem dL_law_400 : decode cL_law 400 = .ok (.iload_n 3, 1) := by decide +kernel
theorem dL_law_401 : decode cL_law 401 = .ok (.iconst 1, 1) := by decide +kernel
theorem dL_law_402 : decode cL_law 402 = .ok (.iadd, 1) := by decide +kernel
theorem dL_law_403 : decode cL_law 403 = .ok (.iaload, 1) := by decide +kernel
theorem dL_law_404 : decode cL_law 404 = .ok (.aload_n 0, 1) := by decide +kernel
theorem dL_law_405 : decode cL_law 405 = .ok (.iload_n 3, 1) := by decide +kernel
theorem dL_law_406 : decode cL_law 406 = .ok (.iconst 2, 1) := by decide +kernel
theorem dL_law_407 : decode cL_law 407 = .ok (.iadd, 1) := by decide +kernel
theorem dL_law_408 : decode cL_law 408 = .ok (.iaload, 1) := by decide +kernel
theorem dL_law_409 : decode cL_law 409 = .ok (.aload_n 0, 1) := by decide +kernel
theorem dL_law_410 : decode cL_law 410 = .ok (.iload_n 3, 1) := by decide +kernel
theorem dL_law_411 : decode cL_law 411 = .ok (.iconst 3, 1) := by decide +kernel
theorem dL_law_412 : decode cL_law 412 = .ok (.iadd, 1) := by decide +kernel
theorem dL_law_413 : decode cL_law 413 = .ok (.iaload, 1) := by decide +kernel
theorem dL_law_414 : decode cL_law 414 = .ok (.aload_n 0, 1) := by decide +kernel
theorem dL_law_415 : decode cL_law 415 = .ok (.iload_n 3, 1) := by decide +kernel
theorem dL_law_416 : decode cL_law 416 = .ok (.iconst 4, 1) := by decide +kernel
theorem dL_law_417 : decode cL_law 417 = .ok (.iadd, 1) := by decide +kernel
theorem dL_law_418 : decode cL_law 418 = .ok (.iaload, 1) := by decide +kernel
theorem dL_law_419 : decode cL_law 419 = .ok (.invokevirtual 46, 3) := by decide +kernel
theorem dL_law_422 : decode cL_law 422 = .ok (.aload_n 2, 1) := by decide +kernel
theorem dL_law_423 : decode cL_law 423 = .ok (.aload_n 0, 1) := by decide +kernel
theorem dL_law_424 : decode cL_law 424 = .ok (.iload_n 3, 1) := by decide +kernel
theorem dL_law_425 : decode cL_law 425 = .ok (.iconst 1, 1) := by decide +kernel
theorem dL_law_426 : decode cL_law 426 = .ok (.iadd, 1) := by decide +kernel
theorem dL_law_427 : decode cL_law 427 = .ok (.iaload, 1) := by decide +kernel
theorem dL_law_428 : decode cL_law 428 = .ok (.aload_n 0, 1) := by decide +kernel
theorem dL_law_429 : decode cL_law 429 = .ok (.iload_n 3, 1) := by decide +kernel
theorem dL_law_430 : decode cL_law 430 = .ok (.iconst 2, 1) := by decide +kernel
theorem dL_law_431 : decode cL_law 431 = .ok (.iadd, 1) := by decide +kernel
theorem dL_law_432 : decode cL_law 432 = .ok (.iaload, 1) := by decide +kernel
theorem dL_law_433 : decode cL_law 433 = .ok (.aload_n 0, 1) := by decide +kernel
theorem dL_law_434 : decode cL_law 434 = .ok (.iload_n 3, 1) := by decide +kernel
theorem dL_law_435 : decode cL_law 435 = .ok (.iconst 3, 1) := by decide +kernel
theorem dL_law_436 : decode cL_law 436 = .ok (.iadd, 1) := by decide +kernel
theorem dL_law_437 : decode cL_law 437 = .ok (.iaload, 1) := by decide +kernel
theorem dL_law_438 : decode cL_law 438 = .ok (.aload_n 0, 1) := by decide +kernel
theorem dL_law_439 : decode cL_law 439 = .ok (.iload_n 3, 1) := by decide +kernel
theorem dL_law_440 : decode cL_law 440 = .ok (.iconst 4, 1) := by decide +kernel
theorem dL_law_441 : decode cL_law 441 = .ok (.iadd, 1) := by decide +kernel
theorem dL_law_442 : decode cL_law 442 = .ok (.iaload, 1) := by decide +kernel
theorem dL_law_443 : decode cL_law 443 = .ok (.invokevirtual 49, 3) := by decide +kernel
theorem dL_law_446 : decode cL_law 446 = .ok (.if_icmp .eq 549, 3) := by decide +kernel
theorem dL_law_449 : decode cL_law 449 = .ok (.iconst 0, 1) := by decide +kernel
theorem dL_law_450 : decode cL_law 450 = .ok (.ireturn, 1) := by decide +kernel
theorem dL_law_451 : decode cL_law 451 = .ok (.aload_n 1, 1) := by decide +kernel
theorem dL_law_452 : decode cL_law 452 = .ok (.aload_n 0, 1) := by decide +kernel
theorem dL_law_453 : decode cL_law 453 = .ok (.iload_n 3, 1) := by decide +kernel
theorem dL_law_454 : decode cL_law 454 = .ok (.iconst 1, 1) := by decide +kernel
theorem dL_law_455 : decode cL_law 455 = .ok (.iadd, 1) := by decide +kernel
theorem dL_law_456 : decode cL_law 456 = .ok (.iaload, 1) := by decide +kernel
theorem dL_law_457 : decode cL_law 457 = .ok (.aload_n 0, 1) := by decide +kernel
theorem dL_law_458 : decode cL_law 458 = .ok (.iload_n 3, 1) := by decide +kernel
theorem dL_law_459 : decode cL_law 459 = .ok (.iconst 2, 1) := by decide +kernel
theorem dL_law_460 : decode cL_law 460 = .ok (.iadd, 1) := by decide +kernel
theorem dL_law_461 : decode cL_law 461 = .ok (.iaload, 1) := by decide +kernel
theorem dL_law_462 : decode cL_law 462 = .ok (.aload_n 0, 1) := by decide +kernel
theorem dL_law_463 : decode cL_law 463 = .ok (.iload_n 3, 1) := by decide +kernel
theorem dL_law_464 : decode cL_law 464 = .ok (.iconst 3, 1) := by decide +kernel
theorem dL_law_465 : decode cL_law 465 = .ok (.iadd, 1) := by decide +kernel
theorem dL_law_466 : decode cL_law 466 = .ok (.iaload, 1) := by decide +kernel
theorem dL_law_467 : decode cL_law 467 = .ok (.aload_n 0, 1) := by decide +kernel
theorem dL_law_468 : decode cL_law 468 = .ok (.iload_n 3, 1) := by decide +kernel
theorem dL_law_469 : decode cL_law 469 = .ok (.iconst 4, 1) := by decide +kernel
theorem dL_law_470 : decode cL_law 470 = .ok (.iadd, 1) := by decide +kernel
theorem dL_law_471 : decode cL_law 471 = .ok (.iaload, 1) := by decide +kernel
theorem dL_law_472 : decode cL_law 472 = .ok (.invokevirtual 50, 3) := by decide +kernel
theorem dL_law_475 : decode cL_law 475 = .ok (.aload_n 2, 1) := by decide +kernel
theorem dL_law_476 : decode cL_law 476 = .ok (.aload_n 0, 1) := by decide +kernel
theorem dL_law_477 : decode cL_law 477 = .ok (.iload_n 3, 1) := by decide +kernel
theorem dL_law_478 : decode cL_law 478 = .ok (.iconst 1, 1) := by decide +kernel
theorem dL_law_479 : decode cL_law 479 = .ok (.iadd, 1) := by decide +kernel
theorem dL_law_480 : decode cL_law 480 = .ok (.iaload, 1) := by decide +kernel
theorem dL_law_481 : decode cL_law 481 = .ok (.aload_n 0, 1) := by decide +kernel
theorem dL_law_482 : decode cL_law 482 = .ok (.iload_n 3, 1) := by decide +kernel
theorem dL_law_483 : decode cL_law 483 = .ok (.iconst 2, 1) := by decide +kernel
theorem dL_law_484 : decode cL_law 484 = .ok (.iadd, 1) := by decide +kernel
theorem dL_law_485 : decode cL_law 485 = .ok (.iaload, 1) := by decide +kernel
theorem dL_law_486 : decode cL_law 486 = .ok (.aload_n 0, 1) := by decide +kernel
theorem dL_law_487 : decode cL_law 487 = .ok (.iload_n 3, 1) := by decide +kernel
theorem dL_law_488 : decode cL_law 488 = .ok (.iconst 3, 1) := by decide +kernel
theorem dL_law_489 : decode cL_law 489 = .ok (.iadd, 1) := by decide +kernel
theorem dL_law_490 : decode cL_law 490 = .ok (.iaload, 1) := by decide +kernel
theorem dL_law_491 : decode cL_law 491 = .ok (.aload_n 0, 1) := by decide +kernel
theorem dL_law_492 : decode cL_law 492 = .ok (.iload_n 3, 1) := by decide +kernel
theorem dL_law_493 : decode cL_law 493 = .ok (.iconst 4, 1) := by decide +kernel
theorem dL_law_494 : decode cL_law 494 = .ok (.iadd, 1) := by decide +kernel
theorem dL_law_495 : decode cL_law 495 = .ok (.iaload, 1) := by decide +kernel
theorem dL_law_496 : decode cL_law 496 = .ok (.invokevirtual 53, 3) := by decide +kernel
theorem dL_law_499 : decode cL_law 499 = .ok (.lcmp, 1) := by decide +kernel
theorem dL_law_500 : decode cL_law 500 = .ok (.ifCond .eq 495, 3) := by decide +kernel
theorem dL_law_503 : decode cL_law 503 = .ok (.iconst 0, 1) := by decide +kernel
theorem dL_law_504 : decode cL_law 504 = .ok (.ireturn, 1) := by decide +kernel
theorem dL_law_505 : decode cL_law 505 = .ok (.aload_n 1, 1) := by decide +kernel
theorem dL_law_506 : decode cL_law 506 = .ok (.aload_n 0, 1) := by decide +kernel
theorem dL_law_507 : decode cL_law 507 = .ok (.iload_n 3, 1) := by decide +kernel
theorem dL_law_508 : decode cL_law 508 = .ok (.iconst 1, 1) := by decide +kernel
theorem dL_law_509 : decode cL_law 509 = .ok (.iadd, 1) := by decide +kernel
theorem dL_law_510 : decode cL_law 510 = .ok (.iaload, 1) := by decide +kernel
theorem dL_law_511 : decode cL_law 511 = .ok (.aload_n 0, 1) := by decide +kernel
theorem dL_law_512 : decode cL_law 512 = .ok (.iload_n 3, 1) := by decide +kernel
theorem dL_law_513 : decode cL_law 513 = .ok (.iconst 2, 1) := by decide +kernel
theorem dL_law_514 : decode cL_law 514 = .ok (.iadd, 1) := by decide +kernel
theorem dL_law_515 : decode cL_law 515 = .ok (.iaload, 1) := by decide +kernel
theorem dL_law_516 : decode cL_law 516 = .ok (.aload_n 0, 1) := by decide +kernel
theorem dL_law_517 : decode cL_law 517 = .ok (.iload_n 3, 1) := by decide +kernel
theorem dL_law_518 : decode cL_law 518 = .ok (.iconst 3, 1) := by decide +kernel
theorem dL_law_519 : decode cL_law 519 = .ok (.iadd, 1) := by decide +kernel
theorem dL_law_520 : decode cL_law 520 = .ok (.iaload, 1) := by decide +kernel
theorem dL_law_521 : decode cL_law 521 = .ok (.aload_n 0, 1) := by decide +kernel
theorem dL_law_522 : decode cL_law 522 = .ok (.iload_n 3, 1) := by decide +kernel
theorem dL_law_523 : decode cL_law 523 = .ok (.iconst 4, 1) := by decide +kernel
theorem dL_law_524 : decode cL_law 524 = .ok (.iadd, 1) := by decide +kernel
theorem dL_law_525 : decode cL_law 525 = .ok (.iaload, 1) := by decide +kernel
theorem dL_law_526 : decode cL_law 526 = .ok (.aload_n 0, 1) := by decide +kernel
theorem dL_law_527 : decode cL_law 527 = .ok (.iload_n 3, 1) := by decide +kernel
theorem dL_law_528 : decode cL_law 528 = .ok (.iconst 5, 1) := by decide +kernel
theorem dL_law_529 : decode cL_law 529 = .ok (.iadd, 1) := by decide +kernel
theorem dL_law_530 : decode cL_law 530 = .ok (.iaload, 1) := by decide +kernel
theorem dL_law_531 : decode cL_law 531 = .ok (.invokevirtual 54, 3) := by decide +kernel
theorem dL_law_534 : decode cL_law 534 = .ok (.aload_n 2, 1) := by decide +kernel
theorem dL_law_535 : decode cL_law 535 = .ok (.aload_n 0, 1) := by decide +kernel
theorem dL_law_536 : decode cL_law 536 = .ok (.iload_n 3, 1) := by decide +kernel
theorem dL_law_537 : decode cL_law 537 = .ok (.iconst 1, 1) := by decide +kernel
theorem dL_law_538 : decode cL_law 538 = .ok (.iadd, 1) := by decide +kernel
theorem dL_law_539 : decode cL_law 539 = .ok (.iaload, 1) := by decide +kernel
theorem dL_law_540 : decode cL_law 540 = .ok (.aload_n 0, 1) := by decide +kernel
theorem dL_law_541 : decode cL_law 541 = .ok (.iload_n 3, 1) := by decide +kernel
theorem dL_law_542 : decode cL_law 542 = .ok (.iconst 2, 1) := by decide +kernel
theorem dL_law_543 : decode cL_law 543 = .ok (.iadd, 1) := by decide +kernel
theorem dL_law_544 : decode cL_law 544 = .ok (.iaload, 1) := by decide +kernel
theorem dL_law_545 : decode cL_law 545 = .ok (.aload_n 0, 1) := by decide +kernel
theorem dL_law_546 : decode cL_law 546 = .ok (.iload_n 3, 1) := by decide +kernel
theorem dL_law_547 : decode cL_law 547 = .ok (.iconst 3, 1) := by decide +kernel
theorem dL_law_548 : decode cL_law 548 = .ok (.iadd, 1) := by decide +kernel
theorem dL_law_549 : decode cL_law 549 = .ok (.iaload, 1) := by decide +kernel
theorem dL_law_550 : decode cL_law 550 = .ok (.aload_n 0, 1) := by decide +kernel
theorem dL_law_551 : decode cL_law 551 = .ok (.iload_n 3, 1) := by decide +kernel
theorem dL_law_552 : decode cL_law 552 = .ok (.iconst 4, 1) := by decide +kernel
theorem dL_law_553 : decode cL_law 553 = .ok (.iadd, 1) := by decide +kernel
theorem dL_law_554 : decode cL_law 554 = .ok (.iaload, 1) := by decide +kernel
theorem dL_law_555 : decode cL_law 555 = .ok (.aload_n 0, 1) := by decide +kernel
theorem dL_law_556 : decode cL_law 556 = .ok (.iload_n 3, 1) := by decide +kernel
theorem dL_law_557 : decode cL_law 557 = .ok (.iconst 5, 1) := by decide +kernel
theorem dL_law_558 : decode cL_law 558 = .ok (.iadd, 1) := by decide +kernel
theorem dL_law_559 : decode cL_law 559 = .ok (.iaload, 1) := by decide +kernel
theorem dL_law_560 : decode cL_law 560 = .ok (.invokevirtual 58, 3) := by decide +kernel
theorem dL_law_563 : decode cL_law 563 = .ok (.lcmp, 1) := by decide +kernel
theorem dL_law_564 : decode cL_law 564 = .ok (.ifCond .eq 431, 3) := by decide +kernel
theorem dL_law_567 : decode cL_law 567 = .ok (.iconst 0, 1) := by decide +kernel
theorem dL_law_568 : decode cL_law 568 = .ok (.ireturn, 1) := by decide +kernel
theorem dL_law_569 : decode cL_law 569 = .ok (.aload_n 1, 1) := by decide +kernel
theorem dL_law_570 : decode cL_law 570 = .ok (.aload_n 0, 1) := by decide +kernel
theorem dL_law_571 : decode cL_law 571 = .ok (.iload_n 3, 1) := by decide +kernel
theorem dL_law_572 : decode cL_law 572 = .ok (.iconst 1, 1) := by decide +kernel
theorem dL_law_573 : decode cL_law 573 = .ok (.iadd, 1) := by decide +kernel
theorem dL_law_574 : decode cL_law 574 = .ok (.iaload, 1) := by decide +kernel
theorem dL_law_575 : decode cL_law 575 = .ok (.aload_n 0, 1) := by decide +kernel
theorem dL_law_576 : decode cL_law 576 = .ok (.iload_n 3, 1) := by decide +kernel
theorem dL_law_577 : decode cL_law 577 = .ok (.iconst 2, 1) := by decide +kernel
theorem dL_law_578 : decode cL_law 578 = .ok (.iadd, 1) := by decide +kernel
theorem dL_law_579 : decode cL_law 579 = .ok (.iaload, 1) := by decide +kernel
theorem dL_law_580 : decode cL_law 580 = .ok (.aload_n 0, 1) := by decide +kernel
theorem dL_law_581 : decode cL_law 581 = .ok (.iload_n 3, 1) := by decide +kernel
theorem dL_law_582 : decode cL_law 582 = .ok (.iconst 3, 1) := by decide +kernel
theorem dL_law_583 : decode cL_law 583 = .ok (.iadd, 1) := by decide +kernel
theorem dL_law_584 : decode cL_law 584 = .ok (.iaload, 1) := by decide +kernel
theorem dL_law_585 : decode cL_law 585 = .ok (.aload_n 0, 1) := by decide +kernel
theorem dL_law_586 : decode cL_law 586 = .ok (.iload_n 3, 1) := by decide +kernel
theorem dL_law_587 : decode cL_law 587 = .ok (.iconst 4, 1) := by decide +kernel
theorem dL_law_588 : decode cL_law 588 = .ok (.iadd, 1) := by decide +kernel
theorem dL_law_589 : decode cL_law 589 = .ok (.iaload, 1) := by decide +kernel
theorem dL_law_590 : decode cL_law 590 = .ok (.invokevirtual 59, 3) := by decide +kernel
theorem dL_law_593 : decode cL_law 593 = .ok (.aload_n 2, 1) := by decide +kernel
theorem dL_law_594 : decode cL_law 594 = .ok (.aload_n 0, 1) := by decide +kernel
theorem dL_law_595 : decode cL_law 595 = .ok (.iload_n 3, 1) := by decide +kernel
theorem dL_law_596 : decode cL_law 596 = .ok (.iconst 1, 1) := by decide +kernel
theorem dL_law_597 : decode cL_law 597 = .ok (.iadd, 1) := by decide +kernel
theorem dL_law_598 : decode cL_law 598 = .ok (.iaload, 1) := by decide +kernel
theorem dL_law_599 : decode cL_law 599 = .ok (.aload_n 0, 1) := by decide +kernel
theorem dL_law_600 : decode cL_law 600 = .ok (.iload_n 3, 1) := by decide +kernel
theorem dL_law_601 : decode cL_law 601 = .ok (.iconst 2, 1) := by decide +kernel
theorem dL_law_602 : decode cL_law 602 = .ok (.iadd, 1) := by decide +kernel
theorem dL_law_603 : decode cL_law 603 = .ok (.iaload, 1) := by decide +kernel
theorem dL_law_604 : decode cL_law 604 = .ok (.aload_n 0, 1) := by decide +kernel
theorem dL_law_605 : decode cL_law 605 = .ok (.iload_n 3, 1) := by decide +kernel
theorem dL_law_606 : decode cL_law 606 = .ok (.iconst 3, 1) := by decide +kernel
theorem dL_law_607 : decode cL_law 607 = .ok (.iadd, 1) := by decide +kernel
theorem dL_law_608 : decode cL_law 608 = .ok (.iaload, 1) := by decide +kernel
theorem dL_law_609 : decode cL_law 609 = .ok (.aload_n 0, 1) := by decide +kernel
theorem dL_law_610 : decode cL_law 610 = .ok (.iload_n 3, 1) := by decide +kernel
theorem dL_law_611 : decode cL_law 611 = .ok (.iconst 4, 1) := by decide +kernel
theorem dL_law_612 : decode cL_law 612 = .ok (.iadd, 1) := by decide +kernel
theorem dL_law_613 : decode cL_law 613 = .ok (.iaload, 1) := by decide +kernel
theorem dL_law_614 : decode cL_law 614 = .ok (.invokevirtual 62, 3) := by decide +kernel
theorem dL_law_617 : decode cL_law 617 = .ok (.if_icmp .eq 378, 3) := by decide +kernel
theorem dL_law_620 : decode cL_law 620 = .ok (.iconst 0, 1) := by decide +kernel
theorem dL_law_621 : decode cL_law 621 = .ok (.ireturn, 1) := by decide +kernel
theorem dL_law_622 : decode cL_law 622 = .ok (.aload_n 1, 1) := by decide +kernel
theorem dL_law_623 : decode cL_law 623 = .ok (.aload_n 0, 1) := by decide +kernel
theorem dL_law_624 : decode cL_law 624 = .ok (.iload_n 3, 1) := by decide +kernel
theorem dL_law_625 : decode cL_law 625 = .ok (.iconst 1, 1) := by decide +kernel
theorem dL_law_626 : decode cL_law 626 = .ok (.iadd, 1) := by decide +kernel
theorem dL_law_627 : decode cL_law 627 = .ok (.iaload, 1) := by decide +kernel
theorem dL_law_628 : decode cL_law 628 = .ok (.aload_n 0, 1) := by decide +kernel
theorem dL_law_629 : decode cL_law 629 = .ok (.iload_n 3, 1) := by decide +kernel
theorem dL_law_630 : decode cL_law 630 = .ok (.iconst 2, 1) := by decide +kernel
theorem dL_law_631 : decode cL_law 631 = .ok (.iadd, 1) := by decide +kernel
theorem dL_law_632 : decode cL_law 632 = .ok (.iaload, 1) := by decide +kernel
theorem dL_law_633 : decode cL_law 633 = .ok (.invokevirtual 63, 3) := by decide +kernel
theorem dL_law_636 : decode cL_law 636 = .ok (.aload_n 2, 1) := by decide +kernel
theorem dL_law_637 : decode cL_law 637 = .ok (.aload_n 0, 1) := by decide +kernel
theorem dL_law_638 : decode cL_law 638 = .ok (.iload_n 3, 1) := by decide +kernel
theorem dL_law_639 : decode cL_law 639 = .ok (.iconst 1, 1) := by decide +kernel
theorem dL_law_640 : decode cL_law 640 = .ok (.iadd, 1) := by decide +kernel
theorem dL_law_641 : decode cL_law 641 = .ok (.iaload, 1) := by decide +kernel
theorem dL_law_642 : decode cL_law 642 = .ok (.aload_n 0, 1) := by decide +kernel
theorem dL_law_643 : decode cL_law 643 = .ok (.iload_n 3, 1) := by decide +kernel
theorem dL_law_644 : decode cL_law 644 = .ok (.iconst 2, 1) := by decide +kernel
theorem dL_law_645 : decode cL_law 645 = .ok (.iadd, 1) := by decide +kernel
theorem dL_law_646 : decode cL_law 646 = .ok (.iaload, 1) := by decide +kernel
theorem dL_law_647 : decode cL_law 647 = .ok (.invokevirtual 66, 3) := by decide +kernel
theorem dL_law_650 : decode cL_law 650 = .ok (.if_icmp .eq 345, 3) := by decide +kernel
theorem dL_law_653 : decode cL_law 653 = .ok (.iconst 0, 1) := by decide +kernel
theorem dL_law_654 : decode cL_law 654 = .ok (.ireturn, 1) := by decide +kernel
theorem dL_law_655 : decode cL_law 655 = .ok (.aload_n 1, 1) := by decide +kernel
theorem dL_law_656 : decode cL_law 656 = .ok (.aload_n 0, 1) := by decide +kernel
theorem dL_law_657 : decode cL_law 657 = .ok (.iload_n 3, 1) := by decide +kernel
theorem dL_law_658 : decode cL_law 658 = .ok (.iconst 1, 1) := by decide +kernel
theorem dL_law_659 : decode cL_law 659 = .ok (.iadd, 1) := by decide +kernel
theorem dL_law_660 : decode cL_law 660 = .ok (.iaload, 1) := by decide +kernel
theorem dL_law_661 : decode cL_law 661 = .ok (.aload_n 0, 1) := by decide +kernel
theorem dL_law_662 : decode cL_law 662 = .ok (.iload_n 3, 1) := by decide +kernel
theorem dL_law_663 : decode cL_law 663 = .ok (.iconst 2, 1) := by decide +kernel
theorem dL_law_664 : decode cL_law 664 = .ok (.iadd, 1) := by decide +kernel
theorem dL_law_665 : decode cL_law 665 = .ok (.iaload, 1) := by decide +kernel
theorem dL_law_666 : decode cL_law 666 = .ok (.aload_n 0, 1) := by decide +kernel
theorem dL_law_667 : decode cL_law 667 = .ok (.iload_n 3, 1) := by decide +kernel
theorem dL_law_668 : decode cL_law 668 = .ok (.iconst 3, 1) := by decide +kernel
theorem dL_law_669 : decode cL_law 669 = .ok (.iadd, 1) := by decide +kernel
theorem dL_law_670 : decode cL_law 670 = .ok (.iaload, 1) := by decide +kernel
theorem dL_law_671 : decode cL_law 671 = .ok (.invokevirtual 67, 3) := by decide +kernel
theorem dL_law_674 : decode cL_law 674 = .ok (.aload_n 2, 1) := by decide +kernel
theorem dL_law_675 : decode cL_law 675 = .ok (.aload_n 0, 1) := by decide +kernel
theorem dL_law_676 : decode cL_law 676 = .ok (.iload_n 3, 1) := by decide +kernel
theorem dL_law_677 : decode cL_law 677 = .ok (.iconst 1, 1) := by decide +kernel
theorem dL_law_678 : decode cL_law 678 = .ok (.iadd, 1) := by decide +kernel
theorem dL_law_679 : decode cL_law 679 = .ok (.iaload, 1) := by decide +kernel
theorem dL_law_680 : decode cL_law 680 = .ok (.aload_n 0, 1) := by decide +kernel
theorem dL_law_681 : decode cL_law 681 = .ok (.iload_n 3, 1) := by decide +kernel
theorem dL_law_682 : decode cL_law 682 = .ok (.iconst 2, 1) := by decide +kernel
theorem dL_law_683 : decode cL_law 683 = .ok (.iadd, 1) := by decide +kernel
theorem dL_law_684 : decode cL_law 684 = .ok (.iaload, 1) := by decide +kernel
theorem dL_law_685 : decode cL_law 685 = .ok (.aload_n 0, 1) := by decide +kernel
theorem dL_law_686 : decode cL_law 686 = .ok (.iload_n 3, 1) := by decide +kernel
theorem dL_law_687 : decode cL_law 687 = .ok (.iconst 3, 1) := by decide +kernel
theorem dL_law_688 : decode cL_law 688 = .ok (.iadd, 1) := by decide +kernel
theorem dL_law_689 : decode cL_law 689 = .ok (.iaload, 1) := by decide +kernel
theorem dL_law_690 : decode cL_law 690 = .ok (.invokevirtual 70, 3) := by decide +kernel
theorem dL_law_693 : decode cL_law 693 = .ok (.if_icmp .eq 302, 3) := by decide +kernel
theorem dL_law_696 : decode cL_law 696 = .ok (.iconst 0, 1) := by decide +kernel
theorem dL_law_697 : decode cL_law 697 = .ok (.ireturn, 1) := by decide +kernel
theorem dL_law_698 : decode cL_law 698 = .ok (.aload_n 1, 1) := by decide +kernel
theorem dL_law_699 : decode cL_law 699 = .ok (.aload_n 0, 1) := by decide +kernel
theorem dL_law_700 : decode cL_law 700 = .ok (.iload_n 3, 1) := by decide +kernel
theorem dL_law_701 : decode cL_law 701 = .ok (.iconst 1, 1) := by decide +kernel
theorem dL_law_702 : decode cL_law 702 = .ok (.iadd, 1) := by decide +kernel
theorem dL_law_703 : decode cL_law 703 = .ok (.iaload, 1) := by decide +kernel
theorem dL_law_704 : decode cL_law 704 = .ok (.aload_n 0, 1) := by decide +kernel
theorem dL_law_705 : decode cL_law 705 = .ok (.iload_n 3, 1) := by decide +kernel
theorem dL_law_706 : decode cL_law 706 = .ok (.iconst 2, 1) := by decide +kernel
theorem dL_law_707 : decode cL_law 707 = .ok (.iadd, 1) := by decide +kernel
theorem dL_law_708 : decode cL_law 708 = .ok (.iaload, 1) := by decide +kernel
theorem dL_law_709 : decode cL_law 709 = .ok (.invokevirtual 71, 3) := by decide +kernel
theorem dL_law_712 : decode cL_law 712 = .ok (.aload_n 2, 1) := by decide +kernel
theorem dL_law_713 : decode cL_law 713 = .ok (.aload_n 0, 1) := by decide +kernel
theorem dL_law_714 : decode cL_law 714 = .ok (.iload_n 3, 1) := by decide +kernel
theorem dL_law_715 : decode cL_law 715 = .ok (.iconst 1, 1) := by decide +kernel
theorem dL_law_716 : decode cL_law 716 = .ok (.iadd, 1) := by decide +kernel
theorem dL_law_717 : decode cL_law 717 = .ok (.iaload, 1) := by decide +kernel
theorem dL_law_718 : decode cL_law 718 = .ok (.aload_n 0, 1) := by decide +kernel
theorem dL_law_719 : decode cL_law 719 = .ok (.iload_n 3, 1) := by decide +kernel
theorem dL_law_720 : decode cL_law 720 = .ok (.iconst 2, 1) := by decide +kernel
theorem dL_law_721 : decode cL_law 721 = .ok (.iadd, 1) := by decide +kernel
theorem dL_law_722 : decode cL_law 722 = .ok (.iaload, 1) := by decide +kernel
theorem dL_law_723 : decode cL_law 723 = .ok (.invokevirtual 74, 3) := by decide +kernel
theorem dL_law_726 : decode cL_law 726 = .ok (.if_icmp .eq 269, 3) := by decide +kernel
theorem dL_law_729 : decode cL_law 729 = .ok (.iconst 0, 1) := by decide +kernel
theorem dL_law_730 : decode cL_law 730 = .ok (.ireturn, 1) := by decide +kernel
theorem dL_law_731 : decode cL_law 731 = .ok (.aload_n 1, 1) := by decide +kernel
theorem dL_law_732 : decode cL_law 732 = .ok (.aload_n 0, 1) := by decide +kernel
theorem dL_law_733 : decode cL_law 733 = .ok (.iload_n 3, 1) := by decide +kernel
theorem dL_law_734 : decode cL_law 734 = .ok (.iconst 1, 1) := by decide +kernel
theorem dL_law_735 : decode cL_law 735 = .ok (.iadd, 1) := by decide +kernel
theorem dL_law_736 : decode cL_law 736 = .ok (.iaload, 1) := by decide +kernel
theorem dL_law_737 : decode cL_law 737 = .ok (.aload_n 0, 1) := by decide +kernel
theorem dL_law_738 : decode cL_law 738 = .ok (.iload_n 3, 1) := by decide +kernel
theorem dL_law_739 : decode cL_law 739 = .ok (.iconst 2, 1) := by decide +kernel
theorem dL_law_740 : decode cL_law 740 = .ok (.iadd, 1) := by decide +kernel
theorem dL_law_741 : decode cL_law 741 = .ok (.iaload, 1) := by decide +kernel
theorem dL_law_742 : decode cL_law 742 = .ok (.aload_n 0, 1) := by decide +kernel
theorem dL_law_743 : decode cL_law 743 = .ok (.iload_n 3, 1) := by decide +kernel
theorem dL_law_744 : decode cL_law 744 = .ok (.iconst 3, 1) := by decide +kernel
theorem dL_law_745 : decode cL_law 745 = .ok (.iadd, 1) := by decide +kernel
theorem dL_law_746 : decode cL_law 746 = .ok (.iaload, 1) := by decide +kernel
theorem dL_law_747 : decode cL_law 747 = .ok (.invokevirtual 75, 3) := by decide +kernel
theorem dL_law_750 : decode cL_law 750 = .ok (.aload_n 2, 1) := by decide +kernel
theorem dL_law_751 : decode cL_law 751 = .ok (.aload_n 0, 1) := by decide +kernel
theorem dL_law_752 : decode cL_law 752 = .ok (.iload_n 3, 1) := by decide +kernel
theorem dL_law_753 : decode cL_law 753 = .ok (.iconst 1, 1) := by decide +kernel
theorem dL_law_754 : decode cL_law 754 = .ok (.iadd, 1) := by decide +kernel
theorem dL_law_755 : decode cL_law 755 = .ok (.iaload, 1) := by decide +kernel
theorem dL_law_756 : decode cL_law 756 = .ok (.aload_n 0, 1) := by decide +kernel
theorem dL_law_757 : decode cL_law 757 = .ok (.iload_n 3, 1) := by decide +kernel
theorem dL_law_758 : decode cL_law 758 = .ok (.iconst 2, 1) := by decide +kernel
theorem dL_law_759 : decode cL_law 759 = .ok (.iadd, 1) := by decide +kernel
theorem dL_law_760 : decode cL_law 760 = .ok (.iaload, 1) := by decide +kernel
theorem dL_law_761 : decode cL_law 761 = .ok (.aload_n 0, 1) := by decide +kernel
theorem dL_law_762 : decode cL_law 762 = .ok (.iload_n 3, 1) := by decide +kernel
theorem dL_law_763 : decode cL_law 763 = .ok (.iconst 3, 1) := by decide +kernel
theorem dL_law_764 : decode cL_law 764 = .ok (.iadd, 1) := by decide +kernel
theorem dL_law_765 : decode cL_law 765 = .ok (.iaload, 1) := by decide +kernel
theorem dL_law_766 : decode cL_law 766 = .ok (.invokevirtual 78, 3) := by decide +kernel
theorem dL_law_769 : decode cL_law 769 = .ok (.if_icmp .eq 226, 3) := by decide +kernel
theorem dL_law_772 : decode cL_law 772 = .ok (.iconst 0, 1) := by decide +kernel
theorem dL_law_773 : decode cL_law 773 = .ok (.ireturn, 1) := by decide +kernel
theorem dL_law_774 : decode cL_law 774 = .ok (.aload_n 1, 1) := by decide +kernel
theorem dL_law_775 : decode cL_law 775 = .ok (.aload_n 0, 1) := by decide +kernel
theorem dL_law_776 : decode cL_law 776 = .ok (.iload_n 3, 1) := by decide +kernel
theorem dL_law_777 : decode cL_law 777 = .ok (.iconst 1, 1) := by decide +kernel
theorem dL_law_778 : decode cL_law 778 = .ok (.iadd, 1) := by decide +kernel
theorem dL_law_779 : decode cL_law 779 = .ok (.iaload, 1) := by decide +kernel
theorem dL_law_780 : decode cL_law 780 = .ok (.aload_n 0, 1) := by decide +kernel
theorem dL_law_781 : decode cL_law 781 = .ok (.iload_n 3, 1) := by decide +kernel
theorem dL_law_782 : decode cL_law 782 = .ok (.iconst 2, 1) := by decide +kernel
theorem dL_law_783 : decode cL_law 783 = .ok (.iadd, 1) := by decide +kernel
theorem dL_law_784 : decode cL_law 784 = .ok (.iaload, 1) := by decide +kernel
theorem dL_law_785 : decode cL_law 785 = .ok (.invokevirtual 79, 3) := by decide +kernel
theorem dL_law_788 : decode cL_law 788 = .ok (.aload_n 2, 1) := by decide +kernel
theorem dL_law_789 : decode cL_law 789 = .ok (.aload_n 0, 1) := by decide +kernel
theorem dL_law_790 : decode cL_law 790 = .ok (.iload_n 3, 1) := by decide +kernel
theorem dL_law_791 : decode cL_law 791 = .ok (.iconst 1, 1) := by decide +kernel
theorem dL_law_792 : decode cL_law 792 = .ok (.iadd, 1) := by decide +kernel
theorem dL_law_793 : decode cL_law 793 = .ok (.iaload, 1) := by decide +kernel
theorem dL_law_794 : decode cL_law 794 = .ok (.aload_n 0, 1) := by decide +kernel
theorem dL_law_795 : decode cL_law 795 = .ok (.iload_n 3, 1) := by decide +kernel
theorem dL_law_796 : decode cL_law 796 = .ok (.iconst 2, 1) := by decide +kernel
theorem dL_law_797 : decode cL_law 797 = .ok (.iadd, 1) := by decide +kernel
theorem dL_law_798 : decode cL_law 798 = .ok (.iaload, 1) := by decide +kernel
theorem dL_law_799 : decode cL_law 799 = .ok (.invokevirtual 82, 3) := by decide +kernel
theorem dL_law_802 : decode cL_law 802 = .ok (.if_icmp .eq 193, 3) := by decide +kernel
theorem dL_law_805 : decode cL_law 805 = .ok (.iconst 0, 1) := by decide +kernel
theorem dL_law_806 : decode cL_law 806 = .ok (.ireturn, 1) := by decide +kernel
theorem dL_law_807 : decode cL_law 807 = .ok (.aload_n 1, 1) := by decide +kernel
theorem dL_law_808 : decode cL_law 808 = .ok (.invokevirtual 83, 3) := by decide +kernel
theorem dL_law_811 : decode cL_law 811 = .ok (.aload_n 2, 1) := by decide +kernel
theorem dL_law_812 : decode cL_law 812 = .ok (.invokevirtual 86, 3) := by decide +kernel
theorem dL_law_815 : decode cL_law 815 = .ok (.if_icmp .eq 180, 3) := by decide +kernel
theorem dL_law_818 : decode cL_law 818 = .ok (.iconst 0, 1) := by decide +kernel
theorem dL_law_819 : decode cL_law 819 = .ok (.ireturn, 1) := by decide +kernel
theorem dL_law_820 : decode cL_law 820 = .ok (.aload_n 1, 1) := by decide +kernel
theorem dL_law_821 : decode cL_law 821 = .ok (.aload_n 0, 1) := by decide +kernel
theorem dL_law_822 : decode cL_law 822 = .ok (.iload_n 3, 1) := by decide +kernel
theorem dL_law_823 : decode cL_law 823 = .ok (.iconst 1, 1) := by decide +kernel
theorem dL_law_824 : decode cL_law 824 = .ok (.iadd, 1) := by decide +kernel
theorem dL_law_825 : decode cL_law 825 = .ok (.iaload, 1) := by decide +kernel
theorem dL_law_826 : decode cL_law 826 = .ok (.invokevirtual 87, 3) := by decide +kernel
theorem dL_law_829 : decode cL_law 829 = .ok (.aload_n 2, 1) := by decide +kernel
theorem dL_law_830 : decode cL_law 830 = .ok (.aload_n 0, 1) := by decide +kernel
theorem dL_law_831 : decode cL_law 831 = .ok (.iload_n 3, 1) := by decide +kernel
theorem dL_law_832 : decode cL_law 832 = .ok (.iconst 1, 1) := by decide +kernel
theorem dL_law_833 : decode cL_law 833 = .ok (.iadd, 1) := by decide +kernel
theorem dL_law_834 : decode cL_law 834 = .ok (.iaload, 1) := by decide +kernel
theorem dL_law_835 : decode cL_law 835 = .ok (.invokevirtual 91, 3) := by decide +kernel
theorem dL_law_838 : decode cL_law 838 = .ok (.if_icmp .eq 157, 3) := by decide +kernel
theorem dL_law_841 : decode cL_law 841 = .ok (.iconst 0, 1) := by decide +kernel
theorem dL_law_842 : decode cL_law 842 = .ok (.ireturn, 1) := by decide +kernel
theorem dL_law_843 : decode cL_law 843 = .ok (.aload_n 1, 1) := by decide +kernel
theorem dL_law_844 : decode cL_law 844 = .ok (.aload_n 0, 1) := by decide +kernel
theorem dL_law_845 : decode cL_law 845 = .ok (.iload_n 3, 1) := by decide +kernel
theorem dL_law_846 : decode cL_law 846 = .ok (.iconst 1, 1) := by decide +kernel
theorem dL_law_847 : decode cL_law 847 = .ok (.iadd, 1) := by decide +kernel
theorem dL_law_848 : decode cL_law 848 = .ok (.iaload, 1) := by decide +kernel
theorem dL_law_849 : decode cL_law 849 = .ok (.invokevirtual 92, 3) := by decide +kernel
theorem dL_law_852 : decode cL_law 852 = .ok (.aload_n 2, 1) := by decide +kernel
theorem dL_law_853 : decode cL_law 853 = .ok (.aload_n 0, 1) := by decide +kernel
theorem dL_law_854 : decode cL_law 854 = .ok (.iload_n 3, 1) := by decide +kernel
theorem dL_law_855 : decode cL_law 855 = .ok (.iconst 1, 1) := by decide +kernel
theorem dL_law_856 : decode cL_law 856 = .ok (.iadd, 1) := by decide +kernel
theorem dL_law_857 : decode cL_law 857 = .ok (.iaload, 1) := by decide +kernel
theorem dL_law_858 : decode cL_law 858 = .ok (.invokevirtual 95, 3) := by decide +kernel
theorem dL_law_861 : decode cL_law 861 = .ok (.if_icmp .eq 134, 3) := by decide +kernel
theorem dL_law_864 : decode cL_law 864 = .ok (.iconst 0, 1) := by decide +kernel
theorem dL_law_865 : decode cL_law 865 = .ok (.ireturn, 1) := by decide +kernel
theorem dL_law_866 : decode cL_law 866 = .ok (.aload_n 1, 1) := by decide +kernel
theorem dL_law_867 : decode cL_law 867 = .ok (.aload_n 0, 1) := by decide +kernel
theorem dL_law_868 : decode cL_law 868 = .ok (.iload_n 3, 1) := by decide +kernel
theorem dL_law_869 : decode cL_law 869 = .ok (.iconst 1, 1) := by decide +kernel
theorem dL_law_870 : decode cL_law 870 = .ok (.iadd, 1) := by decide +kernel
theorem dL_law_871 : decode cL_law 871 = .ok (.iaload, 1) := by decide +kernel
theorem dL_law_872 : decode cL_law 872 = .ok (.aload_n 0, 1) := by decide +kernel
theorem dL_law_873 : decode cL_law 873 = .ok (.iload_n 3, 1) := by decide +kernel
theorem dL_law_874 : decode cL_law 874 = .ok (.iconst 2, 1) := by decide +kernel
theorem dL_law_875 : decode cL_law 875 = .ok (.iadd, 1) := by decide +kernel
theorem dL_law_876 : decode cL_law 876 = .ok (.iaload, 1) := by decide +kernel
theorem dL_law_877 : decode cL_law 877 = .ok (.aload_n 0, 1) := by decide +kernel
theorem dL_law_878 : decode cL_law 878 = .ok (.iload_n 3, 1) := by decide +kernel
theorem dL_law_879 : decode cL_law 879 = .ok (.iconst 3, 1) := by decide +kernel
theorem dL_law_880 : decode cL_law 880 = .ok (.iadd, 1) := by decide +kernel
theorem dL_law_881 : decode cL_law 881 = .ok (.iaload, 1) := by decide +kernel
theorem dL_law_882 : decode cL_law 882 = .ok (.aload_n 0, 1) := by decide +kernel
theorem dL_law_883 : decode cL_law 883 = .ok (.iload_n 3, 1) := by decide +kernel
theorem dL_law_884 : decode cL_law 884 = .ok (.iconst 4, 1) := by decide +kernel
theorem dL_law_885 : decode cL_law 885 = .ok (.iadd, 1) := by decide +kernel
theorem dL_law_886 : decode cL_law 886 = .ok (.iaload, 1) := by decide +kernel
theorem dL_law_887 : decode cL_law 887 = .ok (.invokevirtual 96, 3) := by decide +kernel
theorem dL_law_890 : decode cL_law 890 = .ok (.aload_n 2, 1) := by decide +kernel
theorem dL_law_891 : decode cL_law 891 = .ok (.aload_n 0, 1) := by decide +kernel
theorem dL_law_892 : decode cL_law 892 = .ok (.iload_n 3, 1) := by decide +kernel
theorem dL_law_893 : decode cL_law 893 = .ok (.iconst 1, 1) := by decide +kernel
theorem dL_law_894 : decode cL_law 894 = .ok (.iadd, 1) := by decide +kernel
theorem dL_law_895 : decode cL_law 895 = .ok (.iaload, 1) := by decide +kernel
theorem dL_law_896 : decode cL_law 896 = .ok (.aload_n 0, 1) := by decide +kernel
theorem dL_law_897 : decode cL_law 897 = .ok (.iload_n 3, 1) := by decide +kernel
theorem dL_law_898 : decode cL_law 898 = .ok (.iconst 2, 1) := by decide +kernel
theorem dL_law_899 : decode cL_law 899 = .ok (.iadd, 1) := by decide +kernel
theorem dL_law_900 : decode cL_law 900 = .ok (.iaload, 1) := by decide +kernel
theorem dL_law_901 : decode cL_law 901 = .ok (.aload_n 0, 1) := by decide +kernel
theorem dL_law_902 : decode cL_law 902 = .ok (.iload_n 3, 1) := by decide +kernel
theorem dL_law_903 : decode cL_law 903 = .ok (.iconst 3, 1) := by decide +kernel
theorem dL_law_904 : decode cL_law 904 = .ok (.iadd, 1) := by decide +kernel
theorem dL_law_905 : decode cL_law 905 = .ok (.iaload, 1) := by decide +kernel
theorem dL_law_906 : decode cL_law 906 = .ok (.aload_n 0, 1) := by decide +kernel
theorem dL_law_907 : decode cL_law 907 = .ok (.iload_n 3, 1) := by decide +kernel
theorem dL_law_908 : decode cL_law 908 = .ok (.iconst 4, 1) := by decide +kernel
theorem dL_law_909 : decode cL_law 909 = .ok (.iadd, 1) := by decide +kernel
theorem dL_law_910 : decode cL_law 910 = .ok (.iaload, 1) := by decide +kernel
theorem dL_law_911 : decode cL_law 911 = .ok (.invokevirtual 99, 3) := by decide +kernel
theorem dL_law_914 : decode cL_law 914 = .ok (.if_icmp .eq 81, 3) := by decide +kernel
theorem dL_law_917 : decode cL_law 917 = .ok (.iconst 0, 1) := by decide +kernel
theorem dL_law_918 : decode cL_law 918 = .ok (.ireturn, 1) := by decide +kernel
theorem dL_law_919 : decode cL_law 919 = .ok (.aload_n 1, 1) := by decide +kernel
theorem dL_law_920 : decode cL_law 920 = .ok (.aload_n 0, 1) := by decide +kernel
theorem dL_law_921 : decode cL_law 921 = .ok (.iload_n 3, 1) := by decide +kernel
theorem dL_law_922 : decode cL_law 922 = .ok (.iconst 1, 1) := by decide +kernel
theorem dL_law_923 : decode cL_law 923 = .ok (.iadd, 1) := by decide +kernel
theorem dL_law_924 : decode cL_law 924 = .ok (.iaload, 1) := by decide +kernel
theorem dL_law_925 : decode cL_law 925 = .ok (.aload_n 0, 1) := by decide +kernel
theorem dL_law_926 : decode cL_law 926 = .ok (.iload_n 3, 1) := by decide +kernel
theorem dL_law_927 : decode cL_law 927 = .ok (.iconst 2, 1) := by decide +kernel
theorem dL_law_928 : decode cL_law 928 = .ok (.iadd, 1) := by decide +kernel
theorem dL_law_929 : decode cL_law 929 = .ok (.iaload, 1) := by decide +kernel
theorem dL_law_930 : decode cL_law 930 = .ok (.invokevirtual 100, 3) := by decide +kernel
theorem dL_law_933 : decode cL_law 933 = .ok (.aload_n 2, 1) := by decide +kernel
theorem dL_law_934 : decode cL_law 934 = .ok (.aload_n 0, 1) := by decide +kernel
theorem dL_law_935 : decode cL_law 935 = .ok (.iload_n 3, 1) := by decide +kernel
theorem dL_law_936 : decode cL_law 936 = .ok (.iconst 1, 1) := by decide +kernel
theorem dL_law_937 : decode cL_law 937 = .ok (.iadd, 1) := by decide +kernel
theorem dL_law_938 : decode cL_law 938 = .ok (.iaload, 1) := by decide +kernel
theorem dL_law_939 : decode cL_law 939 = .ok (.aload_n 0, 1) := by decide +kernel
theorem dL_law_940 : decode cL_law 940 = .ok (.iload_n 3, 1) := by decide +kernel
theorem dL_law_941 : decode cL_law 941 = .ok (.iconst 2, 1) := by decide +kernel
theorem dL_law_942 : decode cL_law 942 = .ok (.iadd, 1) := by decide +kernel
theorem dL_law_943 : decode cL_law 943 = .ok (.iaload, 1) := by decide +kernel
theorem dL_law_944 : decode cL_law 944 = .ok (.invokevirtual 103, 3) := by decide +kernel
theorem dL_law_947 : decode cL_law 947 = .ok (.if_icmp .eq 48, 3) := by decide +kernel
theorem dL_law_950 : decode cL_law 950 = .ok (.iconst 0, 1) := by decide +kernel
theorem dL_law_951 : decode cL_law 951 = .ok (.ireturn, 1) := by decide +kernel
theorem dL_law_952 : decode cL_law 952 = .ok (.aload_n 1, 1) := by decide +kernel
theorem dL_law_953 : decode cL_law 953 = .ok (.aload_n 0, 1) := by decide +kernel
theorem dL_law_954 : decode cL_law 954 = .ok (.iload_n 3, 1) := by decide +kernel
theorem dL_law_955 : decode cL_law 955 = .ok (.iconst 1, 1) := by decide +kernel
theorem dL_law_956 : decode cL_law 956 = .ok (.iadd, 1) := by decide +kernel
theorem dL_law_957 : decode cL_law 957 = .ok (.iaload, 1) := by decide +kernel
theorem dL_law_958 : decode cL_law 958 = .ok (.aload_n 0, 1) := by decide +kernel
theorem dL_law_959 : decode cL_law 959 = .ok (.iload_n 3, 1) := by decide +kernel
theorem dL_law_960 : decode cL_law 960 = .ok (.iconst 2, 1) := by decide +kernel
theorem dL_law_961 : decode cL_law 961 = .ok (.iadd, 1) := by decide +kernel
theorem dL_law_962 : decode cL_law 962 = .ok (.iaload, 1) := by decide +kernel
theorem dL_law_963 : decode cL_law 963 = .ok (.aload_n 0, 1) := by decide +kernel
theorem dL_law_964 : decode cL_law 964 = .ok (.iload_n 3, 1) := by decide +kernel
theorem dL_law_965 : decode cL_law 965 = .ok (.iconst 3, 1) := by decide +kernel
theorem dL_law_966 : decode cL_law 966 = .ok (.iadd, 1) := by decide +kernel
theorem dL_law_967 : decode cL_law 967 = .ok (.iaload, 1) := by decide +kernel
theorem dL_law_968 : decode cL_law 968 = .ok (.invokevirtual 104, 3) := by decide +kernel
theorem dL_law_971 : decode cL_law 971 = .ok (.aload_n 2, 1) := by decide +kernel
theorem dL_law_972 : decode cL_law 972 = .ok (.aload_n 0, 1) := by decide +kernel
theorem dL_law_973 : decode cL_law 973 = .ok (.iload_n 3, 1) := by decide +kernel
theorem dL_law_974 : decode cL_law 974 = .ok (.iconst 1, 1) := by decide +kernel
theorem dL_law_975 : decode cL_law 975 = .ok (.iadd, 1) := by decide +kernel
theorem dL_law_976 : decode cL_law 976 = .ok (.iaload, 1) := by decide +kernel
theorem dL_law_977 : decode cL_law 977 = .ok (.aload_n 0, 1) := by decide +kernel
theorem dL_law_978 : decode cL_law 978 = .ok (.iload_n 3, 1) := by decide +kernel
theorem dL_law_979 : decode cL_law 979 = .ok (.iconst 2, 1) := by decide +kernel
theorem dL_law_980 : decode cL_law 980 = .ok (.iadd, 1) := by decide +kernel
theorem dL_law_981 : decode cL_law 981 = .ok (.iaload, 1) := by decide +kernel
theorem dL_law_982 : decode cL_law 982 = .ok (.aload_n 0, 1) := by decide +kernel
theorem dL_law_983 : decode cL_law 983 = .ok (.iload_n 3, 1) := by decide +kernel
theorem dL_law_984 : decode cL_law 984 = .ok (.iconst 3, 1) := by decide +kernel
theorem dL_law_985 : decode cL_law 985 = .ok (.iadd, 1) := by decide +kernel
theorem dL_law_986 : decode cL_law 986 = .ok (.iaload, 1) := by decide +kernel
theorem dL_law_987 : decode cL_law 987 = .ok (.invokevirtual 107, 3) := by decide +kernel
theorem dL_law_990 : decode cL_law 990 = .ok (.if_icmp .eq 5, 3) := by decide +kernel
theorem dL_law_993 : decode cL_law 993 = .ok (.iconst 0, 1) := by decide +kernel
theorem dL_law_994 : decode cL_law 994 = .ok (.ireturn, 1) := by decide +kernel
theorem dL_law_995 : decode cL_law 995 = .ok (.iinc 3 6, 3) := by decide +kernel
theorem dL_law_998 : decode cL_law 998 = .ok (.goto (-980), 3) := by decide +kernel
theorem dL_law_1001 : decode cL_law 1001 = .ok (.iconst 1, 1) := by decide +kernel
theorem dL_law_1002 : decode cL_law 1002 = .ok (.ireturn, 1) := by decide +kernel
end
section
/-! the tables' words that are good anywhere, and each of them by its place -/
def TT : List Cond := lw_tbl.filter goodWord
theorem TT_in {w : Cond} (h : w ∈ lw_tbl) (hg : goodWord w = true) : w ∈ TT := List.mem_filter.mpr ⟨h, hg⟩
theorem TT_i {w : Cond} (i : Nat) (h : tables_1[i]? = some w) (hg : goodWord w = true) : w ∈ TT := TT_in (List.mem_append_right _ (List.mem_of_getElem? h)) hg
theorem TT_s {w : Cond} (i : Nat) (h : (k2_sels lw_privs)[i]? = some w) (hg : goodWord w = true) : w ∈ TT := TT_in (List.mem_append_left _ (List.mem_of_getElem? h)) hg
theorem TT_good : GoodIn TT TT := fun w h => ⟨h, good_of_word (List.mem_filter.mp h).2⟩
theorem TT_of {args : Array Value} {s : State} (h : ∀ w ∈ lw_tbl, w.before args s = true) : ∀ w ∈ TT, w.before args s = true := fun w hw => h w (List.mem_filter.mp hw).1
theorem tw_0 : (Jvm.Cond.initialized "TriedHarderLaw") ∈ TT := TT_i 0 rfl rfl
theorem tw_1 : (Jvm.Cond.initialized "TriedHarder") ∈ TT := TT_i 1 rfl rfl
theorem tw_2 : (Jvm.Cond.initialized "TriedHarder$Units") ∈ TT := TT_i 2 rfl rfl
theorem tw_3 : (Jvm.Cond.initialized "TriedHarder$Standing") ∈ TT := TT_i 3 rfl rfl
theorem tw_4 : (Jvm.Cond.initialized "TriedHarder$Trial") ∈ TT := TT_i 4 rfl rfl
theorem tw_5 : (Jvm.Cond.initialized "TriedHarderModel") ∈ TT := TT_i 5 rfl rfl
theorem tw_6 : (Jvm.Cond.initialized "java/lang/Math") ∈ TT := TT_i 6 rfl rfl
theorem tw_7 : (Jvm.Cond.classLink "TriedHarderLaw" (7 : Nat) "TriedHarder") ∈ TT := TT_i 7 rfl rfl
theorem tw_8 : (Jvm.Cond.instantiable "TriedHarder" (7 : Nat)) ∈ TT := TT_i 8 rfl rfl
theorem tw_9 : (Jvm.Cond.methodLink "TriedHarderLaw" (9 : Nat) ({ cls := "TriedHarder", name := "<init>", desc := "()V" } : Jvm.MethodName)) ∈ TT := TT_i 9 rfl rfl
theorem tw_10 : (Jvm.Cond.instanceMethod ({ cls := "TriedHarder", name := "<init>", desc := "()V" } : Jvm.MethodName)) ∈ TT := TT_i 10 rfl rfl
theorem tw_11 : (Jvm.Cond.code ({ cls := "TriedHarder", name := "<init>", desc := "()V" } : Jvm.MethodName) prog_1_method_1_code (1 : Nat) (Option.none : Option Jvm.ClassFile.FieldType)) ∈ TT := TT_i 11 rfl rfl
theorem tw_12 : (Jvm.Cond.methodLink "TriedHarder" (1 : Nat) ({ cls := "java/lang/Object", name := "<init>", desc := "()V" } : Jvm.MethodName)) ∈ TT := TT_i 12 rfl rfl
theorem tw_13 : (Jvm.Cond.instanceMethod ({ cls := "java/lang/Object", name := "<init>", desc := "()V" } : Jvm.MethodName)) ∈ TT := TT_i 13 rfl rfl
theorem tw_14 : (Jvm.Cond.code ({ cls := "java/lang/Object", name := "<init>", desc := "()V" } : Jvm.MethodName) object_method_1_code (1 : Nat) (Option.none : Option Jvm.ClassFile.FieldType)) ∈ TT := TT_i 14 rfl rfl
theorem tw_15 : (Jvm.Cond.classLink "TriedHarder" (7 : Nat) "TriedHarder$Units") ∈ TT := TT_i 15 rfl rfl
theorem tw_16 : (Jvm.Cond.instantiable "TriedHarder$Units" (4 : Nat)) ∈ TT := TT_i 16 rfl rfl
theorem tw_18 : (Jvm.Cond.instanceMethod ({ cls := "TriedHarder$Units", name := "<init>", desc := "()V" } : Jvm.MethodName)) ∈ TT := TT_i 18 rfl rfl
theorem tw_19 : (Jvm.Cond.code ({ cls := "TriedHarder$Units", name := "<init>", desc := "()V" } : Jvm.MethodName) prog_4_method_1_code (1 : Nat) (Option.none : Option Jvm.ClassFile.FieldType)) ∈ TT := TT_i 19 rfl rfl
theorem tw_20 : (Jvm.Cond.methodLink "TriedHarder$Units" (3 : Nat) ({ cls := "java/lang/Object", name := "<init>", desc := "()V" } : Jvm.MethodName)) ∈ TT := TT_i 20 rfl rfl
theorem tw_21 : (Jvm.Cond.fieldLink "TriedHarder$Units" (9 : Nat) "TriedHarder$Units" "stress" "[I") ∈ TT := TT_i 21 rfl rfl
theorem tw_22 : (Jvm.Cond.fieldLink "TriedHarder" (59 : Nat) "TriedHarder$Units" "stress" "[I") ∈ TT := TT_i 22 rfl rfl
theorem tw_23 : (Jvm.Cond.fieldLink "TriedHarder$Units" (15 : Nat) "TriedHarder$Units" "hour" "[I") ∈ TT := TT_i 23 rfl rfl
theorem tw_24 : (Jvm.Cond.fieldLink "TriedHarder" (62 : Nat) "TriedHarder$Units" "hour" "[I") ∈ TT := TT_i 24 rfl rfl
theorem tw_25 : (Jvm.Cond.fieldLink "TriedHarder$Units" (18 : Nat) "TriedHarder$Units" "cause" "[I") ∈ TT := TT_i 25 rfl rfl
theorem tw_26 : (Jvm.Cond.fieldLink "TriedHarder" (65 : Nat) "TriedHarder$Units" "cause" "[I") ∈ TT := TT_i 26 rfl rfl
theorem tw_27 : (Jvm.Cond.fieldLink "TriedHarder$Units" (21 : Nat) "TriedHarder$Units" "many" "I") ∈ TT := TT_i 27 rfl rfl
theorem tw_28 : (Jvm.Cond.fieldLink "TriedHarder" (48 : Nat) "TriedHarder$Units" "many" "I") ∈ TT := TT_i 28 rfl rfl
theorem tw_29 : (Jvm.Cond.laysFinal "TriedHarder$Units" "TriedHarder$Units" "stress" "[I") ∈ TT := TT_i 29 rfl rfl
theorem tw_31 : (Jvm.Cond.laysFinal "TriedHarder$Units" "TriedHarder$Units" "hour" "[I") ∈ TT := TT_i 31 rfl rfl
theorem tw_33 : (Jvm.Cond.laysFinal "TriedHarder$Units" "TriedHarder$Units" "cause" "[I") ∈ TT := TT_i 33 rfl rfl
theorem tw_35 : (Jvm.Cond.lays "TriedHarder$Units" "TriedHarder$Units" "many" "I") ∈ TT := TT_i 35 rfl rfl
theorem tw_38 : (Jvm.Cond.arrayClass Jvm.ClassFile.FieldType.int) ∈ TT := TT_i 38 rfl rfl
theorem tw_39 : (Jvm.Cond.classLink "TriedHarder" (16 : Nat) "TriedHarder$Standing") ∈ TT := TT_i 39 rfl rfl
theorem tw_40 : (Jvm.Cond.instantiable "TriedHarder$Standing" (3 : Nat)) ∈ TT := TT_i 40 rfl rfl
theorem tw_42 : (Jvm.Cond.instanceMethod ({ cls := "TriedHarder$Standing", name := "<init>", desc := "()V" } : Jvm.MethodName)) ∈ TT := TT_i 42 rfl rfl
theorem tw_43 : (Jvm.Cond.code ({ cls := "TriedHarder$Standing", name := "<init>", desc := "()V" } : Jvm.MethodName) prog_2_method_1_code (1 : Nat) (Option.none : Option Jvm.ClassFile.FieldType)) ∈ TT := TT_i 43 rfl rfl
theorem tw_44 : (Jvm.Cond.methodLink "TriedHarder$Standing" (3 : Nat) ({ cls := "java/lang/Object", name := "<init>", desc := "()V" } : Jvm.MethodName)) ∈ TT := TT_i 44 rfl rfl
theorem tw_45 : (Jvm.Cond.fieldLink "TriedHarder$Standing" (9 : Nat) "TriedHarder$Standing" "from" "[I") ∈ TT := TT_i 45 rfl rfl
theorem tw_46 : (Jvm.Cond.fieldLink "TriedHarder$Standing" (15 : Nat) "TriedHarder$Standing" "level" "[J") ∈ TT := TT_i 46 rfl rfl
theorem tw_47 : (Jvm.Cond.fieldLink "TriedHarder$Standing" (19 : Nat) "TriedHarder$Standing" "pieces" "I") ∈ TT := TT_i 47 rfl rfl
theorem tw_48 : (Jvm.Cond.laysFinal "TriedHarder$Standing" "TriedHarder$Standing" "from" "[I") ∈ TT := TT_i 48 rfl rfl
theorem tw_50 : (Jvm.Cond.laysFinal "TriedHarder$Standing" "TriedHarder$Standing" "level" "[J") ∈ TT := TT_i 50 rfl rfl
theorem tw_52 : (Jvm.Cond.lays "TriedHarder$Standing" "TriedHarder$Standing" "pieces" "I") ∈ TT := TT_i 52 rfl rfl
theorem tw_55 : (Jvm.Cond.arrayClass Jvm.ClassFile.FieldType.long) ∈ TT := TT_i 55 rfl rfl
theorem tw_56 : (Jvm.Cond.classLink "TriedHarder" (23 : Nat) "TriedHarder$Trial") ∈ TT := TT_i 56 rfl rfl
theorem tw_57 : (Jvm.Cond.instantiable "TriedHarder$Trial" (3 : Nat)) ∈ TT := TT_i 57 rfl rfl
theorem tw_59 : (Jvm.Cond.instanceMethod ({ cls := "TriedHarder$Trial", name := "<init>", desc := "()V" } : Jvm.MethodName)) ∈ TT := TT_i 59 rfl rfl
theorem tw_60 : (Jvm.Cond.code ({ cls := "TriedHarder$Trial", name := "<init>", desc := "()V" } : Jvm.MethodName) prog_3_method_1_code (1 : Nat) (Option.none : Option Jvm.ClassFile.FieldType)) ∈ TT := TT_i 60 rfl rfl
theorem tw_61 : (Jvm.Cond.methodLink "TriedHarder$Trial" (3 : Nat) ({ cls := "java/lang/Object", name := "<init>", desc := "()V" } : Jvm.MethodName)) ∈ TT := TT_i 61 rfl rfl
theorem tw_62 : (Jvm.Cond.fieldLink "TriedHarder$Trial" (9 : Nat) "TriedHarder$Trial" "stress" "[I") ∈ TT := TT_i 62 rfl rfl
theorem tw_63 : (Jvm.Cond.fieldLink "TriedHarder" (149 : Nat) "TriedHarder$Trial" "stress" "[I") ∈ TT := TT_i 63 rfl rfl
theorem tw_64 : (Jvm.Cond.fieldLink "TriedHarder$Trial" (15 : Nat) "TriedHarder$Trial" "hours" "[I") ∈ TT := TT_i 64 rfl rfl
theorem tw_65 : (Jvm.Cond.fieldLink "TriedHarder" (150 : Nat) "TriedHarder$Trial" "hours" "[I") ∈ TT := TT_i 65 rfl rfl
theorem tw_66 : (Jvm.Cond.fieldLink "TriedHarder$Trial" (18 : Nat) "TriedHarder$Trial" "many" "I") ∈ TT := TT_i 66 rfl rfl
theorem tw_67 : (Jvm.Cond.fieldLink "TriedHarder" (148 : Nat) "TriedHarder$Trial" "many" "I") ∈ TT := TT_i 67 rfl rfl
theorem tw_68 : (Jvm.Cond.laysFinal "TriedHarder$Trial" "TriedHarder$Trial" "stress" "[I") ∈ TT := TT_i 68 rfl rfl
theorem tw_70 : (Jvm.Cond.laysFinal "TriedHarder$Trial" "TriedHarder$Trial" "hours" "[I") ∈ TT := TT_i 70 rfl rfl
theorem tw_72 : (Jvm.Cond.lays "TriedHarder$Trial" "TriedHarder$Trial" "many" "I") ∈ TT := TT_i 72 rfl rfl
theorem tw_75 : (Jvm.Cond.fieldLink "TriedHarder" (10 : Nat) "TriedHarder" "units" "LTriedHarder$Units;") ∈ TT := TT_i 75 rfl rfl
theorem tw_76 : (Jvm.Cond.fieldLink "TriedHarder" (19 : Nat) "TriedHarder" "standing" "LTriedHarder$Standing;") ∈ TT := TT_i 76 rfl rfl
theorem tw_77 : (Jvm.Cond.fieldLink "TriedHarder" (26 : Nat) "TriedHarder" "trial" "LTriedHarder$Trial;") ∈ TT := TT_i 77 rfl rfl
theorem tw_78 : (Jvm.Cond.fieldLink "TriedHarder" (30 : Nat) "TriedHarder" "speeds" "[I") ∈ TT := TT_i 78 rfl rfl
theorem tw_79 : (Jvm.Cond.fieldLink "TriedHarder" (34 : Nat) "TriedHarder" "halves" "[I") ∈ TT := TT_i 79 rfl rfl
theorem tw_80 : (Jvm.Cond.fieldLink "TriedHarder" (37 : Nat) "TriedHarder" "price" "I") ∈ TT := TT_i 80 rfl rfl
theorem tw_81 : (Jvm.Cond.fieldLink "TriedHarder" (41 : Nat) "TriedHarder" "hourCost" "I") ∈ TT := TT_i 81 rfl rfl
theorem tw_82 : (Jvm.Cond.laysFinal "TriedHarder" "TriedHarder" "units" "LTriedHarder$Units;") ∈ TT := TT_i 82 rfl rfl
theorem tw_84 : (Jvm.Cond.laysFinal "TriedHarder" "TriedHarder" "standing" "LTriedHarder$Standing;") ∈ TT := TT_i 84 rfl rfl
theorem tw_86 : (Jvm.Cond.laysFinal "TriedHarder" "TriedHarder" "trial" "LTriedHarder$Trial;") ∈ TT := TT_i 86 rfl rfl
theorem tw_88 : (Jvm.Cond.laysFinal "TriedHarder" "TriedHarder" "speeds" "[I") ∈ TT := TT_i 88 rfl rfl
theorem tw_90 : (Jvm.Cond.laysFinal "TriedHarder" "TriedHarder" "halves" "[I") ∈ TT := TT_i 90 rfl rfl
theorem tw_92 : (Jvm.Cond.lays "TriedHarder" "TriedHarder" "price" "I") ∈ TT := TT_i 92 rfl rfl
theorem tw_94 : (Jvm.Cond.lays "TriedHarder" "TriedHarder" "hourCost" "I") ∈ TT := TT_i 94 rfl rfl
theorem tw_97 : (Jvm.Cond.methodLink "TriedHarderLaw" (13 : Nat) ({ cls := "TriedHarder", name := "unit", desc := "(III)I" } : Jvm.MethodName)) ∈ TT := TT_i 97 rfl rfl
theorem tw_98 : (Jvm.Cond.instanceMethod ({ cls := "TriedHarder", name := "unit", desc := "(III)I" } : Jvm.MethodName)) ∈ TT := TT_i 98 rfl rfl
theorem tw_99 : (Jvm.Cond.selects "TriedHarder" ({ cls := "TriedHarder", name := "unit", desc := "(III)I" } : Jvm.MethodName) ({ cls := "TriedHarder", name := "unit", desc := "(III)I" } : Jvm.MethodName)) ∈ TT := TT_i 99 rfl rfl
theorem tw_100 : (Jvm.Cond.code ({ cls := "TriedHarder", name := "unit", desc := "(III)I" } : Jvm.MethodName) prog_1_method_2_code (4 : Nat) (Option.some Jvm.ClassFile.FieldType.int)) ∈ TT := TT_i 100 rfl rfl
theorem tw_101 : (Jvm.Cond.methodLink "TriedHarder" (44 : Nat) ({ cls := "TriedHarder", name := "isUnit", desc := "(III)Z" } : Jvm.MethodName)) ∈ TT := TT_i 101 rfl rfl
theorem tw_102 : (Jvm.Cond.static ({ cls := "TriedHarder", name := "isUnit", desc := "(III)Z" } : Jvm.MethodName)) ∈ TT := TT_i 102 rfl rfl
theorem tw_103 : (Jvm.Cond.code ({ cls := "TriedHarder", name := "isUnit", desc := "(III)Z" } : Jvm.MethodName) prog_1_method_37_code (3 : Nat) (Option.some Jvm.ClassFile.FieldType.boolean)) ∈ TT := TT_i 103 rfl rfl
theorem tw_104 : (Jvm.Cond.methodLink "TriedHarder" (122 : Nat) ({ cls := "TriedHarder", name := "isStress", desc := "(I)Z" } : Jvm.MethodName)) ∈ TT := TT_i 104 rfl rfl
theorem tw_105 : (Jvm.Cond.static ({ cls := "TriedHarder", name := "isStress", desc := "(I)Z" } : Jvm.MethodName)) ∈ TT := TT_i 105 rfl rfl
theorem tw_106 : (Jvm.Cond.code ({ cls := "TriedHarder", name := "isStress", desc := "(I)Z" } : Jvm.MethodName) prog_1_method_36_code (1 : Nat) (Option.some Jvm.ClassFile.FieldType.boolean)) ∈ TT := TT_i 106 rfl rfl
theorem tw_107 : (Jvm.Cond.methodLink "TriedHarder" (75 : Nat) ({ cls := "TriedHarder", name := "isWithin", desc := "(III)Z" } : Jvm.MethodName)) ∈ TT := TT_i 107 rfl rfl
theorem tw_108 : (Jvm.Cond.static ({ cls := "TriedHarder", name := "isWithin", desc := "(III)Z" } : Jvm.MethodName)) ∈ TT := TT_i 108 rfl rfl
theorem tw_109 : (Jvm.Cond.code ({ cls := "TriedHarder", name := "isWithin", desc := "(III)Z" } : Jvm.MethodName) prog_1_method_35_code (3 : Nat) (Option.some Jvm.ClassFile.FieldType.boolean)) ∈ TT := TT_i 109 rfl rfl
theorem tw_110 : (Jvm.Cond.methodLink "TriedHarder" (51 : Nat) ({ cls := "TriedHarder$Units", name := "put", desc := "(IIII)V" } : Jvm.MethodName)) ∈ TT := TT_i 110 rfl rfl
theorem tw_111 : (Jvm.Cond.instanceMethod ({ cls := "TriedHarder$Units", name := "put", desc := "(IIII)V" } : Jvm.MethodName)) ∈ TT := TT_i 111 rfl rfl
theorem tw_112 : (Jvm.Cond.selects "TriedHarder$Units" ({ cls := "TriedHarder$Units", name := "put", desc := "(IIII)V" } : Jvm.MethodName) ({ cls := "TriedHarder$Units", name := "put", desc := "(IIII)V" } : Jvm.MethodName)) ∈ TT := TT_i 112 rfl rfl
theorem tw_113 : (Jvm.Cond.code ({ cls := "TriedHarder$Units", name := "put", desc := "(IIII)V" } : Jvm.MethodName) prog_4_method_3_code (5 : Nat) (Option.none : Option Jvm.ClassFile.FieldType)) ∈ TT := TT_i 113 rfl rfl
theorem tw_114 : (Jvm.Cond.methodLink "TriedHarder$Units" (29 : Nat) ({ cls := "TriedHarder$Units", name := "has", desc := "(I)Z" } : Jvm.MethodName)) ∈ TT := TT_i 114 rfl rfl
theorem tw_115 : (Jvm.Cond.instanceMethod ({ cls := "TriedHarder$Units", name := "has", desc := "(I)Z" } : Jvm.MethodName)) ∈ TT := TT_i 115 rfl rfl
theorem tw_116 : (Jvm.Cond.selects "TriedHarder$Units" ({ cls := "TriedHarder$Units", name := "has", desc := "(I)Z" } : Jvm.MethodName) ({ cls := "TriedHarder$Units", name := "has", desc := "(I)Z" } : Jvm.MethodName)) ∈ TT := TT_i 116 rfl rfl
theorem tw_117 : (Jvm.Cond.code ({ cls := "TriedHarder$Units", name := "has", desc := "(I)Z" } : Jvm.MethodName) prog_4_method_2_code (2 : Nat) (Option.some Jvm.ClassFile.FieldType.boolean)) ∈ TT := TT_i 117 rfl rfl
theorem tw_119 : (Jvm.Cond.methodLink "TriedHarderLaw" (18 : Nat) ({ cls := "TriedHarder", name := "set", desc := "(IIII)I" } : Jvm.MethodName)) ∈ TT := TT_i 119 rfl rfl
theorem tw_120 : (Jvm.Cond.instanceMethod ({ cls := "TriedHarder", name := "set", desc := "(IIII)I" } : Jvm.MethodName)) ∈ TT := TT_i 120 rfl rfl
theorem tw_121 : (Jvm.Cond.selects "TriedHarder" ({ cls := "TriedHarder", name := "set", desc := "(IIII)I" } : Jvm.MethodName) ({ cls := "TriedHarder", name := "set", desc := "(IIII)I" } : Jvm.MethodName)) ∈ TT := TT_i 121 rfl rfl
theorem tw_122 : (Jvm.Cond.code ({ cls := "TriedHarder", name := "set", desc := "(IIII)I" } : Jvm.MethodName) prog_1_method_3_code (5 : Nat) (Option.some Jvm.ClassFile.FieldType.int)) ∈ TT := TT_i 122 rfl rfl
theorem tw_123 : (Jvm.Cond.methodLink "TriedHarder" (55 : Nat) ({ cls := "TriedHarder$Units", name := "has", desc := "(I)Z" } : Jvm.MethodName)) ∈ TT := TT_i 123 rfl rfl
theorem tw_124 : (Jvm.Cond.methodLink "TriedHarderLaw" (23 : Nat) ({ cls := "TriedHarder", name := "drop", desc := "()I" } : Jvm.MethodName)) ∈ TT := TT_i 124 rfl rfl
theorem tw_125 : (Jvm.Cond.instanceMethod ({ cls := "TriedHarder", name := "drop", desc := "()I" } : Jvm.MethodName)) ∈ TT := TT_i 125 rfl rfl
theorem tw_126 : (Jvm.Cond.selects "TriedHarder" ({ cls := "TriedHarder", name := "drop", desc := "()I" } : Jvm.MethodName) ({ cls := "TriedHarder", name := "drop", desc := "()I" } : Jvm.MethodName)) ∈ TT := TT_i 126 rfl rfl
theorem tw_127 : (Jvm.Cond.code ({ cls := "TriedHarder", name := "drop", desc := "()I" } : Jvm.MethodName) prog_1_method_4_code (1 : Nat) (Option.some Jvm.ClassFile.FieldType.int)) ∈ TT := TT_i 127 rfl rfl
theorem tw_128 : (Jvm.Cond.methodLink "TriedHarderLaw" (28 : Nat) ({ cls := "TriedHarder", name := "told", desc := "(II)I" } : Jvm.MethodName)) ∈ TT := TT_i 128 rfl rfl
theorem tw_129 : (Jvm.Cond.instanceMethod ({ cls := "TriedHarder", name := "told", desc := "(II)I" } : Jvm.MethodName)) ∈ TT := TT_i 129 rfl rfl
theorem tw_130 : (Jvm.Cond.selects "TriedHarder" ({ cls := "TriedHarder", name := "told", desc := "(II)I" } : Jvm.MethodName) ({ cls := "TriedHarder", name := "told", desc := "(II)I" } : Jvm.MethodName)) ∈ TT := TT_i 130 rfl rfl
theorem tw_131 : (Jvm.Cond.code ({ cls := "TriedHarder", name := "told", desc := "(II)I" } : Jvm.MethodName) prog_1_method_5_code (3 : Nat) (Option.some Jvm.ClassFile.FieldType.int)) ∈ TT := TT_i 131 rfl rfl
theorem tw_132 : (Jvm.Cond.methodLink "TriedHarder" (68 : Nat) ({ cls := "TriedHarder", name := "useHour", desc := "(I)I" } : Jvm.MethodName)) ∈ TT := TT_i 132 rfl rfl
theorem tw_134 : (Jvm.Cond.instanceMethod ({ cls := "TriedHarder", name := "useHour", desc := "(I)I" } : Jvm.MethodName)) ∈ TT := TT_i 134 rfl rfl
theorem tw_135 : (Jvm.Cond.code ({ cls := "TriedHarder", name := "useHour", desc := "(I)I" } : Jvm.MethodName) prog_1_method_8_code (2 : Nat) (Option.some Jvm.ClassFile.FieldType.int)) ∈ TT := TT_i 135 rfl rfl
theorem tw_136 : (Jvm.Cond.methodLink "TriedHarderLaw" (33 : Nat) ({ cls := "TriedHarder", name := "count", desc := "(II)I" } : Jvm.MethodName)) ∈ TT := TT_i 136 rfl rfl
theorem tw_137 : (Jvm.Cond.instanceMethod ({ cls := "TriedHarder", name := "count", desc := "(II)I" } : Jvm.MethodName)) ∈ TT := TT_i 137 rfl rfl
theorem tw_138 : (Jvm.Cond.selects "TriedHarder" ({ cls := "TriedHarder", name := "count", desc := "(II)I" } : Jvm.MethodName) ({ cls := "TriedHarder", name := "count", desc := "(II)I" } : Jvm.MethodName)) ∈ TT := TT_i 138 rfl rfl
theorem tw_139 : (Jvm.Cond.code ({ cls := "TriedHarder", name := "count", desc := "(II)I" } : Jvm.MethodName) prog_1_method_6_code (5 : Nat) (Option.some Jvm.ClassFile.FieldType.int)) ∈ TT := TT_i 139 rfl rfl
theorem tw_140 : (Jvm.Cond.methodLink "TriedHarder" (72 : Nat) ({ cls := "TriedHarder", name := "isSet", desc := "(I)Z" } : Jvm.MethodName)) ∈ TT := TT_i 140 rfl rfl
theorem tw_141 : (Jvm.Cond.static ({ cls := "TriedHarder", name := "isSet", desc := "(I)Z" } : Jvm.MethodName)) ∈ TT := TT_i 141 rfl rfl
theorem tw_142 : (Jvm.Cond.code ({ cls := "TriedHarder", name := "isSet", desc := "(I)Z" } : Jvm.MethodName) prog_1_method_38_code (1 : Nat) (Option.some Jvm.ClassFile.FieldType.boolean)) ∈ TT := TT_i 142 rfl rfl
theorem tw_143 : (Jvm.Cond.methodLink "TriedHarder" (78 : Nat) ({ cls := "TriedHarder$Units", name := "isIn", desc := "(II)Z" } : Jvm.MethodName)) ∈ TT := TT_i 143 rfl rfl
theorem tw_144 : (Jvm.Cond.instanceMethod ({ cls := "TriedHarder$Units", name := "isIn", desc := "(II)Z" } : Jvm.MethodName)) ∈ TT := TT_i 144 rfl rfl
theorem tw_145 : (Jvm.Cond.selects "TriedHarder$Units" ({ cls := "TriedHarder$Units", name := "isIn", desc := "(II)Z" } : Jvm.MethodName) ({ cls := "TriedHarder$Units", name := "isIn", desc := "(II)Z" } : Jvm.MethodName)) ∈ TT := TT_i 145 rfl rfl
theorem tw_146 : (Jvm.Cond.code ({ cls := "TriedHarder$Units", name := "isIn", desc := "(II)Z" } : Jvm.MethodName) prog_4_method_4_code (3 : Nat) (Option.some Jvm.ClassFile.FieldType.boolean)) ∈ TT := TT_i 146 rfl rfl
theorem tw_147 : (Jvm.Cond.methodLink "TriedHarder" (82 : Nat) ({ cls := "TriedHarder", name := "shareInCount", desc := "(II)I" } : Jvm.MethodName)) ∈ TT := TT_i 147 rfl rfl
theorem tw_149 : (Jvm.Cond.instanceMethod ({ cls := "TriedHarder", name := "shareInCount", desc := "(II)I" } : Jvm.MethodName)) ∈ TT := TT_i 149 rfl rfl
theorem tw_150 : (Jvm.Cond.code ({ cls := "TriedHarder", name := "shareInCount", desc := "(II)I" } : Jvm.MethodName) prog_1_method_7_code (4 : Nat) (Option.some Jvm.ClassFile.FieldType.int)) ∈ TT := TT_i 150 rfl rfl
theorem tw_151 : (Jvm.Cond.methodLink "TriedHarderLaw" (37 : Nat) ({ cls := "TriedHarder", name := "risk", desc := "(II)I" } : Jvm.MethodName)) ∈ TT := TT_i 151 rfl rfl
theorem tw_152 : (Jvm.Cond.instanceMethod ({ cls := "TriedHarder", name := "risk", desc := "(II)I" } : Jvm.MethodName)) ∈ TT := TT_i 152 rfl rfl
theorem tw_153 : (Jvm.Cond.selects "TriedHarder" ({ cls := "TriedHarder", name := "risk", desc := "(II)I" } : Jvm.MethodName) ({ cls := "TriedHarder", name := "risk", desc := "(II)I" } : Jvm.MethodName)) ∈ TT := TT_i 153 rfl rfl
theorem tw_154 : (Jvm.Cond.code ({ cls := "TriedHarder", name := "risk", desc := "(II)I" } : Jvm.MethodName) prog_1_method_9_code (3 : Nat) (Option.some Jvm.ClassFile.FieldType.int)) ∈ TT := TT_i 154 rfl rfl
theorem tw_155 : (Jvm.Cond.methodLink "TriedHarder" (86 : Nat) ({ cls := "TriedHarder$Units", name := "atRisk", desc := "(II)I" } : Jvm.MethodName)) ∈ TT := TT_i 155 rfl rfl
theorem tw_156 : (Jvm.Cond.instanceMethod ({ cls := "TriedHarder$Units", name := "atRisk", desc := "(II)I" } : Jvm.MethodName)) ∈ TT := TT_i 156 rfl rfl
theorem tw_157 : (Jvm.Cond.selects "TriedHarder$Units" ({ cls := "TriedHarder$Units", name := "atRisk", desc := "(II)I" } : Jvm.MethodName) ({ cls := "TriedHarder$Units", name := "atRisk", desc := "(II)I" } : Jvm.MethodName)) ∈ TT := TT_i 157 rfl rfl
theorem tw_158 : (Jvm.Cond.code ({ cls := "TriedHarder$Units", name := "atRisk", desc := "(II)I" } : Jvm.MethodName) prog_4_method_5_code (5 : Nat) (Option.some Jvm.ClassFile.FieldType.int)) ∈ TT := TT_i 158 rfl rfl
theorem tw_159 : (Jvm.Cond.methodLink "TriedHarder$Units" (33 : Nat) ({ cls := "TriedHarder$Units", name := "isIn", desc := "(II)Z" } : Jvm.MethodName)) ∈ TT := TT_i 159 rfl rfl
theorem tw_160 : (Jvm.Cond.methodLink "TriedHarderLaw" (41 : Nat) ({ cls := "TriedHarder", name := "left", desc := "(IIII)J" } : Jvm.MethodName)) ∈ TT := TT_i 160 rfl rfl
theorem tw_161 : (Jvm.Cond.instanceMethod ({ cls := "TriedHarder", name := "left", desc := "(IIII)J" } : Jvm.MethodName)) ∈ TT := TT_i 161 rfl rfl
theorem tw_162 : (Jvm.Cond.selects "TriedHarder" ({ cls := "TriedHarder", name := "left", desc := "(IIII)J" } : Jvm.MethodName) ({ cls := "TriedHarder", name := "left", desc := "(IIII)J" } : Jvm.MethodName)) ∈ TT := TT_i 162 rfl rfl
theorem tw_163 : (Jvm.Cond.code ({ cls := "TriedHarder", name := "left", desc := "(IIII)J" } : Jvm.MethodName) prog_1_method_10_code (5 : Nat) (Option.some Jvm.ClassFile.FieldType.long)) ∈ TT := TT_i 163 rfl rfl
theorem tw_164 : (Jvm.Cond.methodLink "TriedHarder" (89 : Nat) ({ cls := "TriedHarder", name := "isSetByCause", desc := "(II)Z" } : Jvm.MethodName)) ∈ TT := TT_i 164 rfl rfl
theorem tw_165 : (Jvm.Cond.static ({ cls := "TriedHarder", name := "isSetByCause", desc := "(II)Z" } : Jvm.MethodName)) ∈ TT := TT_i 165 rfl rfl
theorem tw_166 : (Jvm.Cond.code ({ cls := "TriedHarder", name := "isSetByCause", desc := "(II)Z" } : Jvm.MethodName) prog_1_method_39_code (2 : Nat) (Option.some Jvm.ClassFile.FieldType.boolean)) ∈ TT := TT_i 166 rfl rfl
theorem tw_167 : (Jvm.Cond.constantLong "TriedHarder" (92 : Nat) (-1002 : Int64)) ∈ TT := TT_i 167 rfl rfl
theorem tw_168 : (Jvm.Cond.methodLink "TriedHarder" (94 : Nat) ({ cls := "TriedHarder$Standing", name := "look", desc := "(LTriedHarder$Units;II)V" } : Jvm.MethodName)) ∈ TT := TT_i 168 rfl rfl
theorem tw_169 : (Jvm.Cond.instanceMethod ({ cls := "TriedHarder$Standing", name := "look", desc := "(LTriedHarder$Units;II)V" } : Jvm.MethodName)) ∈ TT := TT_i 169 rfl rfl
theorem tw_170 : (Jvm.Cond.selects "TriedHarder$Standing" ({ cls := "TriedHarder$Standing", name := "look", desc := "(LTriedHarder$Units;II)V" } : Jvm.MethodName) ({ cls := "TriedHarder$Standing", name := "look", desc := "(LTriedHarder$Units;II)V" } : Jvm.MethodName)) ∈ TT := TT_i 170 rfl rfl
theorem tw_171 : (Jvm.Cond.code ({ cls := "TriedHarder$Standing", name := "look", desc := "(LTriedHarder$Units;II)V" } : Jvm.MethodName) prog_2_method_2_code (6 : Nat) (Option.none : Option Jvm.ClassFile.FieldType)) ∈ TT := TT_i 171 rfl rfl
theorem tw_172 : (Jvm.Cond.methodLink "TriedHarder$Standing" (23 : Nat) ({ cls := "TriedHarder$Units", name := "nextFailure", desc := "(III)I" } : Jvm.MethodName)) ∈ TT := TT_i 172 rfl rfl
theorem tw_173 : (Jvm.Cond.instanceMethod ({ cls := "TriedHarder$Units", name := "nextFailure", desc := "(III)I" } : Jvm.MethodName)) ∈ TT := TT_i 173 rfl rfl
theorem tw_174 : (Jvm.Cond.selects "TriedHarder$Units" ({ cls := "TriedHarder$Units", name := "nextFailure", desc := "(III)I" } : Jvm.MethodName) ({ cls := "TriedHarder$Units", name := "nextFailure", desc := "(III)I" } : Jvm.MethodName)) ∈ TT := TT_i 174 rfl rfl
theorem tw_175 : (Jvm.Cond.code ({ cls := "TriedHarder$Units", name := "nextFailure", desc := "(III)I" } : Jvm.MethodName) prog_4_method_8_code (6 : Nat) (Option.some Jvm.ClassFile.FieldType.int)) ∈ TT := TT_i 175 rfl rfl
theorem tw_176 : (Jvm.Cond.methodLink "TriedHarder$Units" (37 : Nat) ({ cls := "TriedHarder$Units", name := "hasFailed", desc := "(III)Z" } : Jvm.MethodName)) ∈ TT := TT_i 176 rfl rfl
theorem tw_177 : (Jvm.Cond.instanceMethod ({ cls := "TriedHarder$Units", name := "hasFailed", desc := "(III)Z" } : Jvm.MethodName)) ∈ TT := TT_i 177 rfl rfl
theorem tw_178 : (Jvm.Cond.selects "TriedHarder$Units" ({ cls := "TriedHarder$Units", name := "hasFailed", desc := "(III)Z" } : Jvm.MethodName) ({ cls := "TriedHarder$Units", name := "hasFailed", desc := "(III)Z" } : Jvm.MethodName)) ∈ TT := TT_i 178 rfl rfl
theorem tw_179 : (Jvm.Cond.code ({ cls := "TriedHarder$Units", name := "hasFailed", desc := "(III)Z" } : Jvm.MethodName) prog_4_method_6_code (4 : Nat) (Option.some Jvm.ClassFile.FieldType.boolean)) ∈ TT := TT_i 179 rfl rfl
theorem tw_180 : (Jvm.Cond.methodLink "TriedHarder$Standing" (29 : Nat) ({ cls := "TriedHarder$Units", name := "atRisk", desc := "(II)I" } : Jvm.MethodName)) ∈ TT := TT_i 180 rfl rfl
theorem tw_181 : (Jvm.Cond.methodLink "TriedHarder$Standing" (33 : Nat) ({ cls := "TriedHarder$Units", name := "failedAt", desc := "(III)I" } : Jvm.MethodName)) ∈ TT := TT_i 181 rfl rfl
theorem tw_182 : (Jvm.Cond.instanceMethod ({ cls := "TriedHarder$Units", name := "failedAt", desc := "(III)I" } : Jvm.MethodName)) ∈ TT := TT_i 182 rfl rfl
theorem tw_183 : (Jvm.Cond.selects "TriedHarder$Units" ({ cls := "TriedHarder$Units", name := "failedAt", desc := "(III)I" } : Jvm.MethodName) ({ cls := "TriedHarder$Units", name := "failedAt", desc := "(III)I" } : Jvm.MethodName)) ∈ TT := TT_i 183 rfl rfl
theorem tw_184 : (Jvm.Cond.code ({ cls := "TriedHarder$Units", name := "failedAt", desc := "(III)I" } : Jvm.MethodName) prog_4_method_7_code (6 : Nat) (Option.some Jvm.ClassFile.FieldType.int)) ∈ TT := TT_i 184 rfl rfl
theorem tw_185 : (Jvm.Cond.methodLink "TriedHarder$Standing" (36 : Nat) ({ cls := "TriedHarder$Standing", name := "raiseAllBefore", desc := "(II)V" } : Jvm.MethodName)) ∈ TT := TT_i 185 rfl rfl
theorem tw_186 : (Jvm.Cond.instanceMethod ({ cls := "TriedHarder$Standing", name := "raiseAllBefore", desc := "(II)V" } : Jvm.MethodName)) ∈ TT := TT_i 186 rfl rfl
theorem tw_187 : (Jvm.Cond.selects "TriedHarder$Standing" ({ cls := "TriedHarder$Standing", name := "raiseAllBefore", desc := "(II)V" } : Jvm.MethodName) ({ cls := "TriedHarder$Standing", name := "raiseAllBefore", desc := "(II)V" } : Jvm.MethodName)) ∈ TT := TT_i 187 rfl rfl
theorem tw_188 : (Jvm.Cond.code ({ cls := "TriedHarder$Standing", name := "raiseAllBefore", desc := "(II)V" } : Jvm.MethodName) prog_2_method_3_code (4 : Nat) (Option.none : Option Jvm.ClassFile.FieldType)) ∈ TT := TT_i 188 rfl rfl
theorem tw_189 : (Jvm.Cond.methodLink "TriedHarder" (98 : Nat) ({ cls := "TriedHarder$Standing", name := "levelAt", desc := "(I)J" } : Jvm.MethodName)) ∈ TT := TT_i 189 rfl rfl
theorem tw_190 : (Jvm.Cond.instanceMethod ({ cls := "TriedHarder$Standing", name := "levelAt", desc := "(I)J" } : Jvm.MethodName)) ∈ TT := TT_i 190 rfl rfl
theorem tw_191 : (Jvm.Cond.selects "TriedHarder$Standing" ({ cls := "TriedHarder$Standing", name := "levelAt", desc := "(I)J" } : Jvm.MethodName) ({ cls := "TriedHarder$Standing", name := "levelAt", desc := "(I)J" } : Jvm.MethodName)) ∈ TT := TT_i 191 rfl rfl
theorem tw_192 : (Jvm.Cond.code ({ cls := "TriedHarder$Standing", name := "levelAt", desc := "(I)J" } : Jvm.MethodName) prog_2_method_5_code (4 : Nat) (Option.some Jvm.ClassFile.FieldType.long)) ∈ TT := TT_i 192 rfl rfl
theorem tw_193 : (Jvm.Cond.methodLink "TriedHarder" (102 : Nat) ({ cls := "TriedHarder$Standing", name := "whole", desc := "()J" } : Jvm.MethodName)) ∈ TT := TT_i 193 rfl rfl
theorem tw_194 : (Jvm.Cond.instanceMethod ({ cls := "TriedHarder$Standing", name := "whole", desc := "()J" } : Jvm.MethodName)) ∈ TT := TT_i 194 rfl rfl
theorem tw_195 : (Jvm.Cond.selects "TriedHarder$Standing" ({ cls := "TriedHarder$Standing", name := "whole", desc := "()J" } : Jvm.MethodName) ({ cls := "TriedHarder$Standing", name := "whole", desc := "()J" } : Jvm.MethodName)) ∈ TT := TT_i 195 rfl rfl
theorem tw_196 : (Jvm.Cond.code ({ cls := "TriedHarder$Standing", name := "whole", desc := "()J" } : Jvm.MethodName) prog_2_method_4_code (1 : Nat) (Option.some Jvm.ClassFile.FieldType.long)) ∈ TT := TT_i 196 rfl rfl
theorem tw_197 : (Jvm.Cond.methodLink "TriedHarder" (106 : Nat) ({ cls := "TriedHarder", name := "leastTerms", desc := "(JJI)J" } : Jvm.MethodName)) ∈ TT := TT_i 197 rfl rfl
theorem tw_198 : (Jvm.Cond.static ({ cls := "TriedHarder", name := "leastTerms", desc := "(JJI)J" } : Jvm.MethodName)) ∈ TT := TT_i 198 rfl rfl
theorem tw_199 : (Jvm.Cond.code ({ cls := "TriedHarder", name := "leastTerms", desc := "(JJI)J" } : Jvm.MethodName) prog_1_method_43_code (9 : Nat) (Option.some Jvm.ClassFile.FieldType.long)) ∈ TT := TT_i 199 rfl rfl
theorem tw_200 : (Jvm.Cond.methodLink "TriedHarder" (184 : Nat) ({ cls := "TriedHarder", name := "sharedFactor", desc := "(JJ)J" } : Jvm.MethodName)) ∈ TT := TT_i 200 rfl rfl
theorem tw_201 : (Jvm.Cond.static ({ cls := "TriedHarder", name := "sharedFactor", desc := "(JJ)J" } : Jvm.MethodName)) ∈ TT := TT_i 201 rfl rfl
theorem tw_202 : (Jvm.Cond.code ({ cls := "TriedHarder", name := "sharedFactor", desc := "(JJ)J" } : Jvm.MethodName) prog_1_method_44_code (11 : Nat) (Option.some Jvm.ClassFile.FieldType.long)) ∈ TT := TT_i 202 rfl rfl
theorem tw_203 : (Jvm.Cond.methodLink "TriedHarderLaw" (46 : Nat) ({ cls := "TriedHarder", name := "time", desc := "(IIII)I" } : Jvm.MethodName)) ∈ TT := TT_i 203 rfl rfl
theorem tw_204 : (Jvm.Cond.instanceMethod ({ cls := "TriedHarder", name := "time", desc := "(IIII)I" } : Jvm.MethodName)) ∈ TT := TT_i 204 rfl rfl
theorem tw_205 : (Jvm.Cond.selects "TriedHarder" ({ cls := "TriedHarder", name := "time", desc := "(IIII)I" } : Jvm.MethodName) ({ cls := "TriedHarder", name := "time", desc := "(IIII)I" } : Jvm.MethodName)) ∈ TT := TT_i 205 rfl rfl
theorem tw_206 : (Jvm.Cond.code ({ cls := "TriedHarder", name := "time", desc := "(IIII)I" } : Jvm.MethodName) prog_1_method_11_code (5 : Nat) (Option.some Jvm.ClassFile.FieldType.int)) ∈ TT := TT_i 206 rfl rfl
theorem tw_207 : (Jvm.Cond.methodLink "TriedHarder" (110 : Nat) ({ cls := "TriedHarder$Standing", name := "firstAtMost", desc := "(II)I" } : Jvm.MethodName)) ∈ TT := TT_i 207 rfl rfl
theorem tw_208 : (Jvm.Cond.instanceMethod ({ cls := "TriedHarder$Standing", name := "firstAtMost", desc := "(II)I" } : Jvm.MethodName)) ∈ TT := TT_i 208 rfl rfl
theorem tw_209 : (Jvm.Cond.selects "TriedHarder$Standing" ({ cls := "TriedHarder$Standing", name := "firstAtMost", desc := "(II)I" } : Jvm.MethodName) ({ cls := "TriedHarder$Standing", name := "firstAtMost", desc := "(II)I" } : Jvm.MethodName)) ∈ TT := TT_i 209 rfl rfl
theorem tw_210 : (Jvm.Cond.code ({ cls := "TriedHarder$Standing", name := "firstAtMost", desc := "(II)I" } : Jvm.MethodName) prog_2_method_6_code (4 : Nat) (Option.some Jvm.ClassFile.FieldType.int)) ∈ TT := TT_i 210 rfl rfl
theorem tw_211 : (Jvm.Cond.methodLink "TriedHarder$Standing" (40 : Nat) ({ cls := "TriedHarder$Standing", name := "whole", desc := "()J" } : Jvm.MethodName)) ∈ TT := TT_i 211 rfl rfl
theorem tw_212 : (Jvm.Cond.methodLink "TriedHarderLaw" (50 : Nat) ({ cls := "TriedHarder", name := "mean", desc := "(IIII)J" } : Jvm.MethodName)) ∈ TT := TT_i 212 rfl rfl
theorem tw_213 : (Jvm.Cond.instanceMethod ({ cls := "TriedHarder", name := "mean", desc := "(IIII)J" } : Jvm.MethodName)) ∈ TT := TT_i 213 rfl rfl
theorem tw_214 : (Jvm.Cond.selects "TriedHarder" ({ cls := "TriedHarder", name := "mean", desc := "(IIII)J" } : Jvm.MethodName) ({ cls := "TriedHarder", name := "mean", desc := "(IIII)J" } : Jvm.MethodName)) ∈ TT := TT_i 214 rfl rfl
theorem tw_215 : (Jvm.Cond.code ({ cls := "TriedHarder", name := "mean", desc := "(IIII)J" } : Jvm.MethodName) prog_1_method_12_code (5 : Nat) (Option.some Jvm.ClassFile.FieldType.long)) ∈ TT := TT_i 215 rfl rfl
theorem tw_216 : (Jvm.Cond.methodLink "TriedHarder" (113 : Nat) ({ cls := "TriedHarder$Standing", name := "sumOf", desc := "(II)J" } : Jvm.MethodName)) ∈ TT := TT_i 216 rfl rfl
theorem tw_217 : (Jvm.Cond.instanceMethod ({ cls := "TriedHarder$Standing", name := "sumOf", desc := "(II)J" } : Jvm.MethodName)) ∈ TT := TT_i 217 rfl rfl
theorem tw_218 : (Jvm.Cond.selects "TriedHarder$Standing" ({ cls := "TriedHarder$Standing", name := "sumOf", desc := "(II)J" } : Jvm.MethodName) ({ cls := "TriedHarder$Standing", name := "sumOf", desc := "(II)J" } : Jvm.MethodName)) ∈ TT := TT_i 218 rfl rfl
theorem tw_219 : (Jvm.Cond.code ({ cls := "TriedHarder$Standing", name := "sumOf", desc := "(II)J" } : Jvm.MethodName) prog_2_method_7_code (8 : Nat) (Option.some Jvm.ClassFile.FieldType.long)) ∈ TT := TT_i 219 rfl rfl
theorem tw_220 : (Jvm.Cond.methodLink "TriedHarder$Standing" (44 : Nat) ({ cls := "java/lang/Math", name := "min", desc := "(II)I" } : Jvm.MethodName)) ∈ TT := TT_i 220 rfl rfl
theorem tw_221 : (Jvm.Cond.static ({ cls := "java/lang/Math", name := "min", desc := "(II)I" } : Jvm.MethodName)) ∈ TT := TT_i 221 rfl rfl
theorem tw_222 : (Jvm.Cond.code ({ cls := "java/lang/Math", name := "min", desc := "(II)I" } : Jvm.MethodName) prog_7_method_69_code (2 : Nat) (Option.some Jvm.ClassFile.FieldType.int)) ∈ TT := TT_i 222 rfl rfl
theorem tw_223 : (Jvm.Cond.methodLink "TriedHarder$Standing" (49 : Nat) ({ cls := "java/lang/Math", name := "max", desc := "(II)I" } : Jvm.MethodName)) ∈ TT := TT_i 223 rfl rfl
theorem tw_224 : (Jvm.Cond.static ({ cls := "java/lang/Math", name := "max", desc := "(II)I" } : Jvm.MethodName)) ∈ TT := TT_i 224 rfl rfl
theorem tw_225 : (Jvm.Cond.code ({ cls := "java/lang/Math", name := "max", desc := "(II)I" } : Jvm.MethodName) prog_7_method_65_code (2 : Nat) (Option.some Jvm.ClassFile.FieldType.int)) ∈ TT := TT_i 225 rfl rfl
theorem tw_226 : (Jvm.Cond.methodLink "TriedHarderLaw" (54 : Nat) ({ cls := "TriedHarder", name := "rest", desc := "(IIIII)J" } : Jvm.MethodName)) ∈ TT := TT_i 226 rfl rfl
theorem tw_227 : (Jvm.Cond.instanceMethod ({ cls := "TriedHarder", name := "rest", desc := "(IIIII)J" } : Jvm.MethodName)) ∈ TT := TT_i 227 rfl rfl
theorem tw_228 : (Jvm.Cond.selects "TriedHarder" ({ cls := "TriedHarder", name := "rest", desc := "(IIIII)J" } : Jvm.MethodName) ({ cls := "TriedHarder", name := "rest", desc := "(IIIII)J" } : Jvm.MethodName)) ∈ TT := TT_i 228 rfl rfl
theorem tw_229 : (Jvm.Cond.code ({ cls := "TriedHarder", name := "rest", desc := "(IIIII)J" } : Jvm.MethodName) prog_1_method_13_code (6 : Nat) (Option.some Jvm.ClassFile.FieldType.long)) ∈ TT := TT_i 229 rfl rfl
theorem tw_230 : (Jvm.Cond.constantLong "TriedHarder" (117 : Nat) (-1003 : Int64)) ∈ TT := TT_i 230 rfl rfl
theorem tw_231 : (Jvm.Cond.methodLink "TriedHarderLaw" (59 : Nat) ({ cls := "TriedHarder", name := "runIn", desc := "(IIII)I" } : Jvm.MethodName)) ∈ TT := TT_i 231 rfl rfl
theorem tw_232 : (Jvm.Cond.instanceMethod ({ cls := "TriedHarder", name := "runIn", desc := "(IIII)I" } : Jvm.MethodName)) ∈ TT := TT_i 232 rfl rfl
theorem tw_233 : (Jvm.Cond.selects "TriedHarder" ({ cls := "TriedHarder", name := "runIn", desc := "(IIII)I" } : Jvm.MethodName) ({ cls := "TriedHarder", name := "runIn", desc := "(IIII)I" } : Jvm.MethodName)) ∈ TT := TT_i 233 rfl rfl
theorem tw_234 : (Jvm.Cond.code ({ cls := "TriedHarder", name := "runIn", desc := "(IIII)I" } : Jvm.MethodName) prog_1_method_14_code (5 : Nat) (Option.some Jvm.ClassFile.FieldType.int)) ∈ TT := TT_i 234 rfl rfl
theorem tw_235 : (Jvm.Cond.methodLink "TriedHarder" (119 : Nat) ({ cls := "TriedHarder$Standing", name := "bestRunIn", desc := "(II)I" } : Jvm.MethodName)) ∈ TT := TT_i 235 rfl rfl
theorem tw_236 : (Jvm.Cond.instanceMethod ({ cls := "TriedHarder$Standing", name := "bestRunIn", desc := "(II)I" } : Jvm.MethodName)) ∈ TT := TT_i 236 rfl rfl
theorem tw_237 : (Jvm.Cond.selects "TriedHarder$Standing" ({ cls := "TriedHarder$Standing", name := "bestRunIn", desc := "(II)I" } : Jvm.MethodName) ({ cls := "TriedHarder$Standing", name := "bestRunIn", desc := "(II)I" } : Jvm.MethodName)) ∈ TT := TT_i 237 rfl rfl
theorem tw_238 : (Jvm.Cond.code ({ cls := "TriedHarder$Standing", name := "bestRunIn", desc := "(II)I" } : Jvm.MethodName) prog_2_method_8_code (15 : Nat) (Option.some Jvm.ClassFile.FieldType.int)) ∈ TT := TT_i 238 rfl rfl
theorem tw_239 : (Jvm.Cond.methodLink "TriedHarder$Standing" (52 : Nat) ({ cls := "TriedHarder$Standing", name := "sumOf", desc := "(II)J" } : Jvm.MethodName)) ∈ TT := TT_i 239 rfl rfl
theorem tw_241 : (Jvm.Cond.constantLong "TriedHarder$Standing" (60 : Nat) (100 : Int64)) ∈ TT := TT_i 241 rfl rfl
theorem tw_242 : (Jvm.Cond.methodLink "TriedHarderLaw" (63 : Nat) ({ cls := "TriedHarder", name := "speed", desc := "(II)I" } : Jvm.MethodName)) ∈ TT := TT_i 242 rfl rfl
theorem tw_243 : (Jvm.Cond.instanceMethod ({ cls := "TriedHarder", name := "speed", desc := "(II)I" } : Jvm.MethodName)) ∈ TT := TT_i 243 rfl rfl
theorem tw_244 : (Jvm.Cond.selects "TriedHarder" ({ cls := "TriedHarder", name := "speed", desc := "(II)I" } : Jvm.MethodName) ({ cls := "TriedHarder", name := "speed", desc := "(II)I" } : Jvm.MethodName)) ∈ TT := TT_i 244 rfl rfl
theorem tw_245 : (Jvm.Cond.code ({ cls := "TriedHarder", name := "speed", desc := "(II)I" } : Jvm.MethodName) prog_1_method_15_code (4 : Nat) (Option.some Jvm.ClassFile.FieldType.int)) ∈ TT := TT_i 245 rfl rfl
theorem tw_246 : (Jvm.Cond.methodLink "TriedHarderLaw" (67 : Nat) ({ cls := "TriedHarder", name := "says", desc := "(III)I" } : Jvm.MethodName)) ∈ TT := TT_i 246 rfl rfl
theorem tw_247 : (Jvm.Cond.instanceMethod ({ cls := "TriedHarder", name := "says", desc := "(III)I" } : Jvm.MethodName)) ∈ TT := TT_i 247 rfl rfl
theorem tw_248 : (Jvm.Cond.selects "TriedHarder" ({ cls := "TriedHarder", name := "says", desc := "(III)I" } : Jvm.MethodName) ({ cls := "TriedHarder", name := "says", desc := "(III)I" } : Jvm.MethodName)) ∈ TT := TT_i 248 rfl rfl
theorem tw_249 : (Jvm.Cond.code ({ cls := "TriedHarder", name := "says", desc := "(III)I" } : Jvm.MethodName) prog_1_method_16_code (4 : Nat) (Option.some Jvm.ClassFile.FieldType.int)) ∈ TT := TT_i 249 rfl rfl
theorem tw_250 : (Jvm.Cond.methodLink "TriedHarder" (125 : Nat) ({ cls := "TriedHarder", name := "isLaw", desc := "(II)Z" } : Jvm.MethodName)) ∈ TT := TT_i 250 rfl rfl
theorem tw_251 : (Jvm.Cond.static ({ cls := "TriedHarder", name := "isLaw", desc := "(II)Z" } : Jvm.MethodName)) ∈ TT := TT_i 251 rfl rfl
theorem tw_252 : (Jvm.Cond.code ({ cls := "TriedHarder", name := "isLaw", desc := "(II)Z" } : Jvm.MethodName) prog_1_method_40_code (2 : Nat) (Option.some Jvm.ClassFile.FieldType.boolean)) ∈ TT := TT_i 252 rfl rfl
theorem tw_253 : (Jvm.Cond.constant "TriedHarder" (139 : Nat) (100000 : Int32)) ∈ TT := TT_i 253 rfl rfl
theorem tw_254 : (Jvm.Cond.methodLink "TriedHarder" (128 : Nat) ({ cls := "TriedHarder", name := "lawAt", desc := "(III)I" } : Jvm.MethodName)) ∈ TT := TT_i 254 rfl rfl
theorem tw_255 : (Jvm.Cond.static ({ cls := "TriedHarder", name := "lawAt", desc := "(III)I" } : Jvm.MethodName)) ∈ TT := TT_i 255 rfl rfl
theorem tw_256 : (Jvm.Cond.code ({ cls := "TriedHarder", name := "lawAt", desc := "(III)I" } : Jvm.MethodName) prog_1_method_21_code (5 : Nat) (Option.some Jvm.ClassFile.FieldType.int)) ∈ TT := TT_i 256 rfl rfl
theorem tw_257 : (Jvm.Cond.methodLink "TriedHarder" (145 : Nat) ({ cls := "TriedHarder", name := "cut", desc := "(II)I" } : Jvm.MethodName)) ∈ TT := TT_i 257 rfl rfl
theorem tw_258 : (Jvm.Cond.static ({ cls := "TriedHarder", name := "cut", desc := "(II)I" } : Jvm.MethodName)) ∈ TT := TT_i 258 rfl rfl
theorem tw_259 : (Jvm.Cond.code ({ cls := "TriedHarder", name := "cut", desc := "(II)I" } : Jvm.MethodName) prog_1_method_41_code (2 : Nat) (Option.some Jvm.ClassFile.FieldType.int)) ∈ TT := TT_i 259 rfl rfl
theorem tw_260 : (Jvm.Cond.methodLink "TriedHarderLaw" (71 : Nat) ({ cls := "TriedHarder", name := "miss", desc := "(II)I" } : Jvm.MethodName)) ∈ TT := TT_i 260 rfl rfl
theorem tw_261 : (Jvm.Cond.instanceMethod ({ cls := "TriedHarder", name := "miss", desc := "(II)I" } : Jvm.MethodName)) ∈ TT := TT_i 261 rfl rfl
theorem tw_262 : (Jvm.Cond.selects "TriedHarder" ({ cls := "TriedHarder", name := "miss", desc := "(II)I" } : Jvm.MethodName) ({ cls := "TriedHarder", name := "miss", desc := "(II)I" } : Jvm.MethodName)) ∈ TT := TT_i 262 rfl rfl
theorem tw_263 : (Jvm.Cond.code ({ cls := "TriedHarder", name := "miss", desc := "(II)I" } : Jvm.MethodName) prog_1_method_17_code (3 : Nat) (Option.some Jvm.ClassFile.FieldType.int)) ∈ TT := TT_i 263 rfl rfl
theorem tw_264 : (Jvm.Cond.methodLink "TriedHarder" (132 : Nat) ({ cls := "TriedHarder", name := "findHalves", desc := "()Z" } : Jvm.MethodName)) ∈ TT := TT_i 264 rfl rfl
theorem tw_266 : (Jvm.Cond.instanceMethod ({ cls := "TriedHarder", name := "findHalves", desc := "()Z" } : Jvm.MethodName)) ∈ TT := TT_i 266 rfl rfl
theorem tw_267 : (Jvm.Cond.code ({ cls := "TriedHarder", name := "findHalves", desc := "()Z" } : Jvm.MethodName) prog_1_method_19_code (3 : Nat) (Option.some Jvm.ClassFile.FieldType.boolean)) ∈ TT := TT_i 267 rfl rfl
theorem tw_268 : (Jvm.Cond.methodLink "TriedHarder" (136 : Nat) ({ cls := "TriedHarder", name := "missOfHalves", desc := "(II)I" } : Jvm.MethodName)) ∈ TT := TT_i 268 rfl rfl
theorem tw_270 : (Jvm.Cond.instanceMethod ({ cls := "TriedHarder", name := "missOfHalves", desc := "(II)I" } : Jvm.MethodName)) ∈ TT := TT_i 270 rfl rfl
theorem tw_271 : (Jvm.Cond.code ({ cls := "TriedHarder", name := "missOfHalves", desc := "(II)I" } : Jvm.MethodName) prog_1_method_20_code (5 : Nat) (Option.some Jvm.ClassFile.FieldType.int)) ∈ TT := TT_i 271 rfl rfl
theorem tw_272 : (Jvm.Cond.methodLink "TriedHarder" (140 : Nat) ({ cls := "java/lang/Math", name := "abs", desc := "(I)I" } : Jvm.MethodName)) ∈ TT := TT_i 272 rfl rfl
theorem tw_273 : (Jvm.Cond.static ({ cls := "java/lang/Math", name := "abs", desc := "(I)I" } : Jvm.MethodName)) ∈ TT := TT_i 273 rfl rfl
theorem tw_274 : (Jvm.Cond.code ({ cls := "java/lang/Math", name := "abs", desc := "(I)I" } : Jvm.MethodName) prog_7_method_59_code (1 : Nat) (Option.some Jvm.ClassFile.FieldType.int)) ∈ TT := TT_i 274 rfl rfl
theorem tw_275 : (Jvm.Cond.methodLink "TriedHarderLaw" (75 : Nat) ({ cls := "TriedHarder", name := "law", desc := "(III)I" } : Jvm.MethodName)) ∈ TT := TT_i 275 rfl rfl
theorem tw_276 : (Jvm.Cond.instanceMethod ({ cls := "TriedHarder", name := "law", desc := "(III)I" } : Jvm.MethodName)) ∈ TT := TT_i 276 rfl rfl
theorem tw_277 : (Jvm.Cond.selects "TriedHarder" ({ cls := "TriedHarder", name := "law", desc := "(III)I" } : Jvm.MethodName) ({ cls := "TriedHarder", name := "law", desc := "(III)I" } : Jvm.MethodName)) ∈ TT := TT_i 277 rfl rfl
theorem tw_278 : (Jvm.Cond.code ({ cls := "TriedHarder", name := "law", desc := "(III)I" } : Jvm.MethodName) prog_1_method_18_code (10 : Nat) (Option.some Jvm.ClassFile.FieldType.int)) ∈ TT := TT_i 278 rfl rfl
theorem tw_279 : (Jvm.Cond.methodLink "TriedHarderLaw" (79 : Nat) ({ cls := "TriedHarder", name := "step", desc := "(II)I" } : Jvm.MethodName)) ∈ TT := TT_i 279 rfl rfl
theorem tw_280 : (Jvm.Cond.instanceMethod ({ cls := "TriedHarder", name := "step", desc := "(II)I" } : Jvm.MethodName)) ∈ TT := TT_i 280 rfl rfl
theorem tw_281 : (Jvm.Cond.selects "TriedHarder" ({ cls := "TriedHarder", name := "step", desc := "(II)I" } : Jvm.MethodName) ({ cls := "TriedHarder", name := "step", desc := "(II)I" } : Jvm.MethodName)) ∈ TT := TT_i 281 rfl rfl
theorem tw_282 : (Jvm.Cond.code ({ cls := "TriedHarder", name := "step", desc := "(II)I" } : Jvm.MethodName) prog_1_method_22_code (3 : Nat) (Option.some Jvm.ClassFile.FieldType.int)) ∈ TT := TT_i 282 rfl rfl
theorem tw_283 : (Jvm.Cond.methodLink "TriedHarderLaw" (83 : Nat) ({ cls := "TriedHarder", name := "clear", desc := "()I" } : Jvm.MethodName)) ∈ TT := TT_i 283 rfl rfl
theorem tw_284 : (Jvm.Cond.instanceMethod ({ cls := "TriedHarder", name := "clear", desc := "()I" } : Jvm.MethodName)) ∈ TT := TT_i 284 rfl rfl
theorem tw_285 : (Jvm.Cond.selects "TriedHarder" ({ cls := "TriedHarder", name := "clear", desc := "()I" } : Jvm.MethodName) ({ cls := "TriedHarder", name := "clear", desc := "()I" } : Jvm.MethodName)) ∈ TT := TT_i 285 rfl rfl
theorem tw_286 : (Jvm.Cond.code ({ cls := "TriedHarder", name := "clear", desc := "()I" } : Jvm.MethodName) prog_1_method_23_code (2 : Nat) (Option.some Jvm.ClassFile.FieldType.int)) ∈ TT := TT_i 286 rfl rfl
theorem tw_287 : (Jvm.Cond.methodLink "TriedHarderLaw" (87 : Nat) ({ cls := "TriedHarder", name := "used", desc := "(I)I" } : Jvm.MethodName)) ∈ TT := TT_i 287 rfl rfl
theorem tw_288 : (Jvm.Cond.instanceMethod ({ cls := "TriedHarder", name := "used", desc := "(I)I" } : Jvm.MethodName)) ∈ TT := TT_i 288 rfl rfl
theorem tw_289 : (Jvm.Cond.selects "TriedHarder" ({ cls := "TriedHarder", name := "used", desc := "(I)I" } : Jvm.MethodName) ({ cls := "TriedHarder", name := "used", desc := "(I)I" } : Jvm.MethodName)) ∈ TT := TT_i 289 rfl rfl
theorem tw_290 : (Jvm.Cond.code ({ cls := "TriedHarder", name := "used", desc := "(I)I" } : Jvm.MethodName) prog_1_method_24_code (4 : Nat) (Option.some Jvm.ClassFile.FieldType.int)) ∈ TT := TT_i 290 rfl rfl
theorem tw_291 : (Jvm.Cond.methodLink "TriedHarderLaw" (92 : Nat) ({ cls := "TriedHarder", name := "fails", desc := "(I)I" } : Jvm.MethodName)) ∈ TT := TT_i 291 rfl rfl
theorem tw_292 : (Jvm.Cond.instanceMethod ({ cls := "TriedHarder", name := "fails", desc := "(I)I" } : Jvm.MethodName)) ∈ TT := TT_i 292 rfl rfl
theorem tw_293 : (Jvm.Cond.selects "TriedHarder" ({ cls := "TriedHarder", name := "fails", desc := "(I)I" } : Jvm.MethodName) ({ cls := "TriedHarder", name := "fails", desc := "(I)I" } : Jvm.MethodName)) ∈ TT := TT_i 293 rfl rfl
theorem tw_294 : (Jvm.Cond.code ({ cls := "TriedHarder", name := "fails", desc := "(I)I" } : Jvm.MethodName) prog_1_method_25_code (6 : Nat) (Option.some Jvm.ClassFile.FieldType.int)) ∈ TT := TT_i 294 rfl rfl
theorem tw_295 : (Jvm.Cond.methodLink "TriedHarder" (153 : Nat) ({ cls := "TriedHarder", name := "roundedUp", desc := "(II)I" } : Jvm.MethodName)) ∈ TT := TT_i 295 rfl rfl
theorem tw_296 : (Jvm.Cond.static ({ cls := "TriedHarder", name := "roundedUp", desc := "(II)I" } : Jvm.MethodName)) ∈ TT := TT_i 296 rfl rfl
theorem tw_297 : (Jvm.Cond.code ({ cls := "TriedHarder", name := "roundedUp", desc := "(II)I" } : Jvm.MethodName) prog_1_method_42_code (2 : Nat) (Option.some Jvm.ClassFile.FieldType.int)) ∈ TT := TT_i 297 rfl rfl
theorem tw_298 : (Jvm.Cond.methodLink "TriedHarderLaw" (96 : Nat) ({ cls := "TriedHarder", name := "end", desc := "(IIII)I" } : Jvm.MethodName)) ∈ TT := TT_i 298 rfl rfl
theorem tw_299 : (Jvm.Cond.instanceMethod ({ cls := "TriedHarder", name := "end", desc := "(IIII)I" } : Jvm.MethodName)) ∈ TT := TT_i 299 rfl rfl
theorem tw_300 : (Jvm.Cond.selects "TriedHarder" ({ cls := "TriedHarder", name := "end", desc := "(IIII)I" } : Jvm.MethodName) ({ cls := "TriedHarder", name := "end", desc := "(IIII)I" } : Jvm.MethodName)) ∈ TT := TT_i 300 rfl rfl
theorem tw_301 : (Jvm.Cond.code ({ cls := "TriedHarder", name := "end", desc := "(IIII)I" } : Jvm.MethodName) prog_1_method_26_code (5 : Nat) (Option.some Jvm.ClassFile.FieldType.int)) ∈ TT := TT_i 301 rfl rfl
theorem tw_302 : (Jvm.Cond.methodLink "TriedHarder" (156 : Nat) ({ cls := "TriedHarder", name := "lowEnd", desc := "(III)I" } : Jvm.MethodName)) ∈ TT := TT_i 302 rfl rfl
theorem tw_303 : (Jvm.Cond.static ({ cls := "TriedHarder", name := "lowEnd", desc := "(III)I" } : Jvm.MethodName)) ∈ TT := TT_i 303 rfl rfl
theorem tw_304 : (Jvm.Cond.code ({ cls := "TriedHarder", name := "lowEnd", desc := "(III)I" } : Jvm.MethodName) prog_1_method_27_code (4 : Nat) (Option.some Jvm.ClassFile.FieldType.int)) ∈ TT := TT_i 304 rfl rfl
theorem tw_305 : (Jvm.Cond.methodLink "TriedHarder" (162 : Nat) ({ cls := "TriedHarder", name := "casesOf", desc := "(IIII)J" } : Jvm.MethodName)) ∈ TT := TT_i 305 rfl rfl
theorem tw_306 : (Jvm.Cond.static ({ cls := "TriedHarder", name := "casesOf", desc := "(IIII)J" } : Jvm.MethodName)) ∈ TT := TT_i 306 rfl rfl
theorem tw_307 : (Jvm.Cond.code ({ cls := "TriedHarder", name := "casesOf", desc := "(IIII)J" } : Jvm.MethodName) prog_1_method_30_code (7 : Nat) (Option.some Jvm.ClassFile.FieldType.long)) ∈ TT := TT_i 307 rfl rfl
theorem tw_308 : (Jvm.Cond.methodLink "TriedHarder" (175 : Nat) ({ cls := "TriedHarder", name := "ways", desc := "(II)J" } : Jvm.MethodName)) ∈ TT := TT_i 308 rfl rfl
theorem tw_309 : (Jvm.Cond.static ({ cls := "TriedHarder", name := "ways", desc := "(II)J" } : Jvm.MethodName)) ∈ TT := TT_i 309 rfl rfl
theorem tw_310 : (Jvm.Cond.code ({ cls := "TriedHarder", name := "ways", desc := "(II)J" } : Jvm.MethodName) prog_1_method_31_code (5 : Nat) (Option.some Jvm.ClassFile.FieldType.long)) ∈ TT := TT_i 310 rfl rfl
theorem tw_311 : (Jvm.Cond.methodLink "TriedHarder" (172 : Nat) ({ cls := "TriedHarder", name := "power", desc := "(II)J" } : Jvm.MethodName)) ∈ TT := TT_i 311 rfl rfl
theorem tw_312 : (Jvm.Cond.static ({ cls := "TriedHarder", name := "power", desc := "(II)J" } : Jvm.MethodName)) ∈ TT := TT_i 312 rfl rfl
theorem tw_313 : (Jvm.Cond.code ({ cls := "TriedHarder", name := "power", desc := "(II)J" } : Jvm.MethodName) prog_1_method_32_code (5 : Nat) (Option.some Jvm.ClassFile.FieldType.long)) ∈ TT := TT_i 313 rfl rfl
theorem tw_314 : (Jvm.Cond.methodLink "TriedHarder" (166 : Nat) ({ cls := "TriedHarder", name := "isAtMost", desc := "(IIJ)Z" } : Jvm.MethodName)) ∈ TT := TT_i 314 rfl rfl
theorem tw_315 : (Jvm.Cond.static ({ cls := "TriedHarder", name := "isAtMost", desc := "(IIJ)Z" } : Jvm.MethodName)) ∈ TT := TT_i 315 rfl rfl
theorem tw_316 : (Jvm.Cond.code ({ cls := "TriedHarder", name := "isAtMost", desc := "(IIJ)Z" } : Jvm.MethodName) prog_1_method_29_code (4 : Nat) (Option.some Jvm.ClassFile.FieldType.boolean)) ∈ TT := TT_i 316 rfl rfl
theorem tw_317 : (Jvm.Cond.constantLong "TriedHarder" (170 : Nat) (100 : Int64)) ∈ TT := TT_i 317 rfl rfl
theorem tw_318 : (Jvm.Cond.methodLink "TriedHarder" (159 : Nat) ({ cls := "TriedHarder", name := "highEnd", desc := "(III)I" } : Jvm.MethodName)) ∈ TT := TT_i 318 rfl rfl
theorem tw_319 : (Jvm.Cond.static ({ cls := "TriedHarder", name := "highEnd", desc := "(III)I" } : Jvm.MethodName)) ∈ TT := TT_i 319 rfl rfl
theorem tw_320 : (Jvm.Cond.code ({ cls := "TriedHarder", name := "highEnd", desc := "(III)I" } : Jvm.MethodName) prog_1_method_28_code (4 : Nat) (Option.some Jvm.ClassFile.FieldType.int)) ∈ TT := TT_i 320 rfl rfl
theorem tw_321 : (Jvm.Cond.methodLink "TriedHarderLaw" (100 : Nat) ({ cls := "TriedHarder", name := "rule", desc := "(II)I" } : Jvm.MethodName)) ∈ TT := TT_i 321 rfl rfl
theorem tw_322 : (Jvm.Cond.instanceMethod ({ cls := "TriedHarder", name := "rule", desc := "(II)I" } : Jvm.MethodName)) ∈ TT := TT_i 322 rfl rfl
theorem tw_323 : (Jvm.Cond.selects "TriedHarder" ({ cls := "TriedHarder", name := "rule", desc := "(II)I" } : Jvm.MethodName) ({ cls := "TriedHarder", name := "rule", desc := "(II)I" } : Jvm.MethodName)) ∈ TT := TT_i 323 rfl rfl
theorem tw_324 : (Jvm.Cond.code ({ cls := "TriedHarder", name := "rule", desc := "(II)I" } : Jvm.MethodName) prog_1_method_33_code (4 : Nat) (Option.some Jvm.ClassFile.FieldType.int)) ∈ TT := TT_i 324 rfl rfl
theorem tw_325 : (Jvm.Cond.methodLink "TriedHarderLaw" (104 : Nat) ({ cls := "TriedHarder", name := "plan", desc := "(III)I" } : Jvm.MethodName)) ∈ TT := TT_i 325 rfl rfl
theorem tw_326 : (Jvm.Cond.instanceMethod ({ cls := "TriedHarder", name := "plan", desc := "(III)I" } : Jvm.MethodName)) ∈ TT := TT_i 326 rfl rfl
theorem tw_327 : (Jvm.Cond.selects "TriedHarder" ({ cls := "TriedHarder", name := "plan", desc := "(III)I" } : Jvm.MethodName) ({ cls := "TriedHarder", name := "plan", desc := "(III)I" } : Jvm.MethodName)) ∈ TT := TT_i 327 rfl rfl
theorem tw_328 : (Jvm.Cond.code ({ cls := "TriedHarder", name := "plan", desc := "(III)I" } : Jvm.MethodName) prog_1_method_34_code (9 : Nat) (Option.some Jvm.ClassFile.FieldType.int)) ∈ TT := TT_i 328 rfl rfl
theorem tw_329 : (Jvm.Cond.methodLink "TriedHarder" (178 : Nat) ({ cls := "java/lang/Math", name := "min", desc := "(II)I" } : Jvm.MethodName)) ∈ TT := TT_i 329 rfl rfl
theorem tw_330 : (Jvm.Cond.methodLink "TriedHarder" (181 : Nat) ({ cls := "java/lang/Math", name := "max", desc := "(II)I" } : Jvm.MethodName)) ∈ TT := TT_i 330 rfl rfl
theorem tw_331 : (Jvm.Cond.classLink "TriedHarderLaw" (10 : Nat) "TriedHarderModel") ∈ TT := TT_i 331 rfl rfl
theorem tw_332 : (Jvm.Cond.instantiable "TriedHarderModel" (17 : Nat)) ∈ TT := TT_i 332 rfl rfl
theorem tw_333 : (Jvm.Cond.methodLink "TriedHarderLaw" (12 : Nat) ({ cls := "TriedHarderModel", name := "<init>", desc := "()V" } : Jvm.MethodName)) ∈ TT := TT_i 333 rfl rfl
theorem tw_334 : (Jvm.Cond.instanceMethod ({ cls := "TriedHarderModel", name := "<init>", desc := "()V" } : Jvm.MethodName)) ∈ TT := TT_i 334 rfl rfl
theorem tw_335 : (Jvm.Cond.code ({ cls := "TriedHarderModel", name := "<init>", desc := "()V" } : Jvm.MethodName) prog_6_method_1_code (1 : Nat) (Option.none : Option Jvm.ClassFile.FieldType)) ∈ TT := TT_i 335 rfl rfl
theorem tw_336 : (Jvm.Cond.methodLink "TriedHarderModel" (1 : Nat) ({ cls := "java/lang/Object", name := "<init>", desc := "()V" } : Jvm.MethodName)) ∈ TT := TT_i 336 rfl rfl
theorem tw_337 : (Jvm.Cond.fieldLink "TriedHarderModel" (69 : Nat) "TriedHarderModel" "units" "I") ∈ TT := TT_i 337 rfl rfl
theorem tw_338 : (Jvm.Cond.fieldLink "TriedHarderModel" (7 : Nat) "TriedHarderModel" "stresses" "[I") ∈ TT := TT_i 338 rfl rfl
theorem tw_339 : (Jvm.Cond.fieldLink "TriedHarderModel" (13 : Nat) "TriedHarderModel" "hours" "[I") ∈ TT := TT_i 339 rfl rfl
theorem tw_340 : (Jvm.Cond.fieldLink "TriedHarderModel" (16 : Nat) "TriedHarderModel" "causes" "[I") ∈ TT := TT_i 340 rfl rfl
theorem tw_341 : (Jvm.Cond.fieldLink "TriedHarderModel" (19 : Nat) "TriedHarderModel" "speeds" "[I") ∈ TT := TT_i 341 rfl rfl
theorem tw_342 : (Jvm.Cond.fieldLink "TriedHarderModel" (167 : Nat) "TriedHarderModel" "steps" "I") ∈ TT := TT_i 342 rfl rfl
theorem tw_343 : (Jvm.Cond.fieldLink "TriedHarderModel" (22 : Nat) "TriedHarderModel" "stepStress" "[I") ∈ TT := TT_i 343 rfl rfl
theorem tw_344 : (Jvm.Cond.fieldLink "TriedHarderModel" (25 : Nat) "TriedHarderModel" "stepHours" "[I") ∈ TT := TT_i 344 rfl rfl
theorem tw_345 : (Jvm.Cond.fieldLink "TriedHarderModel" (28 : Nat) "TriedHarderModel" "price" "I") ∈ TT := TT_i 345 rfl rfl
theorem tw_346 : (Jvm.Cond.fieldLink "TriedHarderModel" (32 : Nat) "TriedHarderModel" "hourCost" "I") ∈ TT := TT_i 346 rfl rfl
theorem tw_347 : (Jvm.Cond.fieldLink "TriedHarderModel" (96 : Nat) "TriedHarderModel" "leftUpper" "J") ∈ TT := TT_i 347 rfl rfl
theorem tw_348 : (Jvm.Cond.fieldLink "TriedHarderModel" (100 : Nat) "TriedHarderModel" "leftLower" "J") ∈ TT := TT_i 348 rfl rfl
theorem tw_349 : (Jvm.Cond.fieldLink "TriedHarderModel" (111 : Nat) "TriedHarderModel" "upper" "J") ∈ TT := TT_i 349 rfl rfl
theorem tw_350 : (Jvm.Cond.fieldLink "TriedHarderModel" (114 : Nat) "TriedHarderModel" "lower" "J") ∈ TT := TT_i 350 rfl rfl
theorem tw_351 : (Jvm.Cond.fieldLink "TriedHarderModel" (35 : Nat) "TriedHarderModel" "failedRow" "[I") ∈ TT := TT_i 351 rfl rfl
theorem tw_352 : (Jvm.Cond.fieldLink "TriedHarderModel" (38 : Nat) "TriedHarderModel" "riskRow" "[I") ∈ TT := TT_i 352 rfl rfl
theorem tw_353 : (Jvm.Cond.fieldLink "TriedHarderModel" (41 : Nat) "TriedHarderModel" "halves" "[I") ∈ TT := TT_i 353 rfl rfl
theorem tw_354 : (Jvm.Cond.lays "TriedHarderModel" "TriedHarderModel" "units" "I") ∈ TT := TT_i 354 rfl rfl
theorem tw_356 : (Jvm.Cond.laysFinal "TriedHarderModel" "TriedHarderModel" "stresses" "[I") ∈ TT := TT_i 356 rfl rfl
theorem tw_358 : (Jvm.Cond.laysFinal "TriedHarderModel" "TriedHarderModel" "hours" "[I") ∈ TT := TT_i 358 rfl rfl
theorem tw_360 : (Jvm.Cond.laysFinal "TriedHarderModel" "TriedHarderModel" "causes" "[I") ∈ TT := TT_i 360 rfl rfl
theorem tw_362 : (Jvm.Cond.laysFinal "TriedHarderModel" "TriedHarderModel" "speeds" "[I") ∈ TT := TT_i 362 rfl rfl
theorem tw_364 : (Jvm.Cond.lays "TriedHarderModel" "TriedHarderModel" "steps" "I") ∈ TT := TT_i 364 rfl rfl
theorem tw_366 : (Jvm.Cond.laysFinal "TriedHarderModel" "TriedHarderModel" "stepStress" "[I") ∈ TT := TT_i 366 rfl rfl
theorem tw_368 : (Jvm.Cond.laysFinal "TriedHarderModel" "TriedHarderModel" "stepHours" "[I") ∈ TT := TT_i 368 rfl rfl
theorem tw_370 : (Jvm.Cond.lays "TriedHarderModel" "TriedHarderModel" "price" "I") ∈ TT := TT_i 370 rfl rfl
theorem tw_372 : (Jvm.Cond.lays "TriedHarderModel" "TriedHarderModel" "hourCost" "I") ∈ TT := TT_i 372 rfl rfl
theorem tw_374 : (Jvm.Cond.lays "TriedHarderModel" "TriedHarderModel" "leftUpper" "J") ∈ TT := TT_i 374 rfl rfl
theorem tw_376 : (Jvm.Cond.lays "TriedHarderModel" "TriedHarderModel" "leftLower" "J") ∈ TT := TT_i 376 rfl rfl
theorem tw_378 : (Jvm.Cond.lays "TriedHarderModel" "TriedHarderModel" "upper" "J") ∈ TT := TT_i 378 rfl rfl
theorem tw_380 : (Jvm.Cond.lays "TriedHarderModel" "TriedHarderModel" "lower" "J") ∈ TT := TT_i 380 rfl rfl
theorem tw_382 : (Jvm.Cond.laysFinal "TriedHarderModel" "TriedHarderModel" "failedRow" "[I") ∈ TT := TT_i 382 rfl rfl
theorem tw_384 : (Jvm.Cond.laysFinal "TriedHarderModel" "TriedHarderModel" "riskRow" "[I") ∈ TT := TT_i 384 rfl rfl
theorem tw_386 : (Jvm.Cond.laysFinal "TriedHarderModel" "TriedHarderModel" "halves" "[I") ∈ TT := TT_i 386 rfl rfl
theorem tw_389 : (Jvm.Cond.methodLink "TriedHarderLaw" (17 : Nat) ({ cls := "TriedHarderModel", name := "unit", desc := "(III)I" } : Jvm.MethodName)) ∈ TT := TT_i 389 rfl rfl
theorem tw_390 : (Jvm.Cond.instanceMethod ({ cls := "TriedHarderModel", name := "unit", desc := "(III)I" } : Jvm.MethodName)) ∈ TT := TT_i 390 rfl rfl
theorem tw_391 : (Jvm.Cond.selects "TriedHarderModel" ({ cls := "TriedHarderModel", name := "unit", desc := "(III)I" } : Jvm.MethodName) ({ cls := "TriedHarderModel", name := "unit", desc := "(III)I" } : Jvm.MethodName)) ∈ TT := TT_i 391 rfl rfl
theorem tw_392 : (Jvm.Cond.code ({ cls := "TriedHarderModel", name := "unit", desc := "(III)I" } : Jvm.MethodName) prog_6_method_8_code (4 : Nat) (Option.some Jvm.ClassFile.FieldType.int)) ∈ TT := TT_i 392 rfl rfl
theorem tw_393 : (Jvm.Cond.methodLink "TriedHarderModel" (65 : Nat) ({ cls := "TriedHarderModel", name := "isUnitLike", desc := "(III)Z" } : Jvm.MethodName)) ∈ TT := TT_i 393 rfl rfl
theorem tw_394 : (Jvm.Cond.static ({ cls := "TriedHarderModel", name := "isUnitLike", desc := "(III)Z" } : Jvm.MethodName)) ∈ TT := TT_i 394 rfl rfl
theorem tw_395 : (Jvm.Cond.code ({ cls := "TriedHarderModel", name := "isUnitLike", desc := "(III)Z" } : Jvm.MethodName) prog_6_method_7_code (3 : Nat) (Option.some Jvm.ClassFile.FieldType.boolean)) ∈ TT := TT_i 395 rfl rfl
theorem tw_396 : (Jvm.Cond.methodLink "TriedHarderModel" (56 : Nat) ({ cls := "TriedHarderModel", name := "isStress", desc := "(I)Z" } : Jvm.MethodName)) ∈ TT := TT_i 396 rfl rfl
theorem tw_397 : (Jvm.Cond.static ({ cls := "TriedHarderModel", name := "isStress", desc := "(I)Z" } : Jvm.MethodName)) ∈ TT := TT_i 397 rfl rfl
theorem tw_398 : (Jvm.Cond.code ({ cls := "TriedHarderModel", name := "isStress", desc := "(I)Z" } : Jvm.MethodName) prog_6_method_4_code (1 : Nat) (Option.some Jvm.ClassFile.FieldType.boolean)) ∈ TT := TT_i 398 rfl rfl
theorem tw_399 : (Jvm.Cond.constantLong "TriedHarderModel" (44 : Nat) (3 : Int64)) ∈ TT := TT_i 399 rfl rfl
theorem tw_400 : (Jvm.Cond.methodLink "TriedHarderModel" (46 : Nat) ({ cls := "TriedHarderModel", name := "in", desc := "(JJJ)Z" } : Jvm.MethodName)) ∈ TT := TT_i 400 rfl rfl
set_option maxRecDepth 20000 in
theorem tw_401 : (Jvm.Cond.static ({ cls := "TriedHarderModel", name := "in", desc := "(JJJ)Z" } : Jvm.MethodName)) ∈ TT := TT_i 401 rfl rfl
set_option maxRecDepth 20000 in
theorem tw_402 : (Jvm.Cond.code ({ cls := "TriedHarderModel", name := "in", desc := "(JJJ)Z" } : Jvm.MethodName) prog_6_method_3_code (6 : Nat) (Option.some Jvm.ClassFile.FieldType.boolean)) ∈ TT := TT_i 402 rfl rfl
set_option maxRecDepth 20000 in
theorem tw_403 : (Jvm.Cond.constantLong "TriedHarderModel" (60 : Nat) (500 : Int64)) ∈ TT := TT_i 403 rfl rfl
set_option maxRecDepth 20000 in
theorem tw_404 : (Jvm.Cond.methodLink "TriedHarderModel" (62 : Nat) ({ cls := "TriedHarderModel", name := "isCause", desc := "(I)Z" } : Jvm.MethodName)) ∈ TT := TT_i 404 rfl rfl
set_option maxRecDepth 20000 in
theorem tw_405 : (Jvm.Cond.static ({ cls := "TriedHarderModel", name := "isCause", desc := "(I)Z" } : Jvm.MethodName)) ∈ TT := TT_i 405 rfl rfl
set_option maxRecDepth 20000 in
theorem tw_406 : (Jvm.Cond.code ({ cls := "TriedHarderModel", name := "isCause", desc := "(I)Z" } : Jvm.MethodName) prog_6_method_5_code (1 : Nat) (Option.some Jvm.ClassFile.FieldType.boolean)) ∈ TT := TT_i 406 rfl rfl
set_option maxRecDepth 20000 in
theorem tw_407 : (Jvm.Cond.constantLong "TriedHarderModel" (50 : Nat) (-1 : Int64)) ∈ TT := TT_i 407 rfl rfl
set_option maxRecDepth 20000 in
theorem tw_408 : (Jvm.Cond.constantLong "TriedHarderModel" (52 : Nat) (2 : Int64)) ∈ TT := TT_i 408 rfl rfl
set_option maxRecDepth 20000 in
theorem tw_409 : (Jvm.Cond.methodLink "TriedHarderLaw" (22 : Nat) ({ cls := "TriedHarderModel", name := "set", desc := "(IIII)I" } : Jvm.MethodName)) ∈ TT := TT_i 409 rfl rfl
set_option maxRecDepth 20000 in
theorem tw_410 : (Jvm.Cond.instanceMethod ({ cls := "TriedHarderModel", name := "set", desc := "(IIII)I" } : Jvm.MethodName)) ∈ TT := TT_i 410 rfl rfl
set_option maxRecDepth 20000 in
theorem tw_411 : (Jvm.Cond.selects "TriedHarderModel" ({ cls := "TriedHarderModel", name := "set", desc := "(IIII)I" } : Jvm.MethodName) ({ cls := "TriedHarderModel", name := "set", desc := "(IIII)I" } : Jvm.MethodName)) ∈ TT := TT_i 411 rfl rfl
set_option maxRecDepth 20000 in
theorem tw_412 : (Jvm.Cond.code ({ cls := "TriedHarderModel", name := "set", desc := "(IIII)I" } : Jvm.MethodName) prog_6_method_10_code (5 : Nat) (Option.some Jvm.ClassFile.FieldType.int)) ∈ TT := TT_i 412 rfl rfl
set_option maxRecDepth 20000 in
theorem tw_413 : (Jvm.Cond.methodLink "TriedHarderModel" (72 : Nat) ({ cls := "TriedHarderModel", name := "isUnit", desc := "(I)Z" } : Jvm.MethodName)) ∈ TT := TT_i 413 rfl rfl
set_option maxRecDepth 20000 in
theorem tw_415 : (Jvm.Cond.instanceMethod ({ cls := "TriedHarderModel", name := "isUnit", desc := "(I)Z" } : Jvm.MethodName)) ∈ TT := TT_i 415 rfl rfl
set_option maxRecDepth 20000 in
theorem tw_416 : (Jvm.Cond.code ({ cls := "TriedHarderModel", name := "isUnit", desc := "(I)Z" } : Jvm.MethodName) prog_6_method_9_code (2 : Nat) (Option.some Jvm.ClassFile.FieldType.boolean)) ∈ TT := TT_i 416 rfl rfl
set_option maxRecDepth 20000 in
theorem tw_417 : (Jvm.Cond.methodLink "TriedHarderLaw" (27 : Nat) ({ cls := "TriedHarderModel", name := "drop", desc := "()I" } : Jvm.MethodName)) ∈ TT := TT_i 417 rfl rfl
set_option maxRecDepth 20000 in
theorem tw_418 : (Jvm.Cond.instanceMethod ({ cls := "TriedHarderModel", name := "drop", desc := "()I" } : Jvm.MethodName)) ∈ TT := TT_i 418 rfl rfl
set_option maxRecDepth 20000 in
theorem tw_419 : (Jvm.Cond.selects "TriedHarderModel" ({ cls := "TriedHarderModel", name := "drop", desc := "()I" } : Jvm.MethodName) ({ cls := "TriedHarderModel", name := "drop", desc := "()I" } : Jvm.MethodName)) ∈ TT := TT_i 419 rfl rfl
set_option maxRecDepth 20000 in
theorem tw_420 : (Jvm.Cond.code ({ cls := "TriedHarderModel", name := "drop", desc := "()I" } : Jvm.MethodName) prog_6_method_11_code (1 : Nat) (Option.some Jvm.ClassFile.FieldType.int)) ∈ TT := TT_i 420 rfl rfl
set_option maxRecDepth 20000 in
theorem tw_421 : (Jvm.Cond.methodLink "TriedHarderLaw" (32 : Nat) ({ cls := "TriedHarderModel", name := "told", desc := "(II)I" } : Jvm.MethodName)) ∈ TT := TT_i 421 rfl rfl
set_option maxRecDepth 20000 in
theorem tw_422 : (Jvm.Cond.instanceMethod ({ cls := "TriedHarderModel", name := "told", desc := "(II)I" } : Jvm.MethodName)) ∈ TT := TT_i 422 rfl rfl
set_option maxRecDepth 20000 in
theorem tw_423 : (Jvm.Cond.selects "TriedHarderModel" ({ cls := "TriedHarderModel", name := "told", desc := "(II)I" } : Jvm.MethodName) ({ cls := "TriedHarderModel", name := "told", desc := "(II)I" } : Jvm.MethodName)) ∈ TT := TT_i 423 rfl rfl
set_option maxRecDepth 20000 in
theorem tw_424 : (Jvm.Cond.code ({ cls := "TriedHarderModel", name := "told", desc := "(II)I" } : Jvm.MethodName) prog_6_method_13_code (3 : Nat) (Option.some Jvm.ClassFile.FieldType.int)) ∈ TT := TT_i 424 rfl rfl
set_option maxRecDepth 20000 in
theorem tw_425 : (Jvm.Cond.methodLink "TriedHarderModel" (75 : Nat) ({ cls := "TriedHarderModel", name := "useHour", desc := "(I)I" } : Jvm.MethodName)) ∈ TT := TT_i 425 rfl rfl
set_option maxRecDepth 20000 in
theorem tw_427 : (Jvm.Cond.instanceMethod ({ cls := "TriedHarderModel", name := "useHour", desc := "(I)I" } : Jvm.MethodName)) ∈ TT := TT_i 427 rfl rfl
set_option maxRecDepth 20000 in
theorem tw_428 : (Jvm.Cond.code ({ cls := "TriedHarderModel", name := "useHour", desc := "(I)I" } : Jvm.MethodName) prog_6_method_12_code (2 : Nat) (Option.some Jvm.ClassFile.FieldType.int)) ∈ TT := TT_i 428 rfl rfl
set_option maxRecDepth 20000 in
theorem tw_429 : (Jvm.Cond.methodLink "TriedHarderLaw" (36 : Nat) ({ cls := "TriedHarderModel", name := "count", desc := "(II)I" } : Jvm.MethodName)) ∈ TT := TT_i 429 rfl rfl
set_option maxRecDepth 20000 in
theorem tw_430 : (Jvm.Cond.instanceMethod ({ cls := "TriedHarderModel", name := "count", desc := "(II)I" } : Jvm.MethodName)) ∈ TT := TT_i 430 rfl rfl
set_option maxRecDepth 20000 in
theorem tw_431 : (Jvm.Cond.selects "TriedHarderModel" ({ cls := "TriedHarderModel", name := "count", desc := "(II)I" } : Jvm.MethodName) ({ cls := "TriedHarderModel", name := "count", desc := "(II)I" } : Jvm.MethodName)) ∈ TT := TT_i 431 rfl rfl
set_option maxRecDepth 20000 in
theorem tw_432 : (Jvm.Cond.code ({ cls := "TriedHarderModel", name := "count", desc := "(II)I" } : Jvm.MethodName) prog_6_method_15_code (7 : Nat) (Option.some Jvm.ClassFile.FieldType.int)) ∈ TT := TT_i 432 rfl rfl
set_option maxRecDepth 20000 in
theorem tw_433 : (Jvm.Cond.methodLink "TriedHarderModel" (79 : Nat) ({ cls := "TriedHarderModel", name := "isSet", desc := "(I)Z" } : Jvm.MethodName)) ∈ TT := TT_i 433 rfl rfl
set_option maxRecDepth 20000 in
theorem tw_434 : (Jvm.Cond.static ({ cls := "TriedHarderModel", name := "isSet", desc := "(I)Z" } : Jvm.MethodName)) ∈ TT := TT_i 434 rfl rfl
set_option maxRecDepth 20000 in
theorem tw_435 : (Jvm.Cond.code ({ cls := "TriedHarderModel", name := "isSet", desc := "(I)Z" } : Jvm.MethodName) prog_6_method_6_code (1 : Nat) (Option.some Jvm.ClassFile.FieldType.boolean)) ∈ TT := TT_i 435 rfl rfl
set_option maxRecDepth 20000 in
theorem tw_436 : (Jvm.Cond.constantLong "TriedHarderModel" (54 : Nat) (15 : Int64)) ∈ TT := TT_i 436 rfl rfl
set_option maxRecDepth 20000 in
theorem tw_437 : (Jvm.Cond.constantLong "TriedHarderModel" (82 : Nat) (7 : Int64)) ∈ TT := TT_i 437 rfl rfl
set_option maxRecDepth 20000 in
theorem tw_438 : (Jvm.Cond.methodLink "TriedHarderModel" (84 : Nat) ({ cls := "TriedHarderModel", name := "isIn", desc := "(II)Z" } : Jvm.MethodName)) ∈ TT := TT_i 438 rfl rfl
set_option maxRecDepth 20000 in
theorem tw_440 : (Jvm.Cond.instanceMethod ({ cls := "TriedHarderModel", name := "isIn", desc := "(II)Z" } : Jvm.MethodName)) ∈ TT := TT_i 440 rfl rfl
set_option maxRecDepth 20000 in
theorem tw_441 : (Jvm.Cond.code ({ cls := "TriedHarderModel", name := "isIn", desc := "(II)Z" } : Jvm.MethodName) prog_6_method_14_code (3 : Nat) (Option.some Jvm.ClassFile.FieldType.boolean)) ∈ TT := TT_i 441 rfl rfl
set_option maxRecDepth 20000 in
theorem tw_442 : (Jvm.Cond.methodLink "TriedHarderLaw" (40 : Nat) ({ cls := "TriedHarderModel", name := "risk", desc := "(II)I" } : Jvm.MethodName)) ∈ TT := TT_i 442 rfl rfl
set_option maxRecDepth 20000 in
theorem tw_443 : (Jvm.Cond.instanceMethod ({ cls := "TriedHarderModel", name := "risk", desc := "(II)I" } : Jvm.MethodName)) ∈ TT := TT_i 443 rfl rfl
set_option maxRecDepth 20000 in
theorem tw_444 : (Jvm.Cond.selects "TriedHarderModel" ({ cls := "TriedHarderModel", name := "risk", desc := "(II)I" } : Jvm.MethodName) ({ cls := "TriedHarderModel", name := "risk", desc := "(II)I" } : Jvm.MethodName)) ∈ TT := TT_i 444 rfl rfl
set_option maxRecDepth 20000 in
theorem tw_445 : (Jvm.Cond.code ({ cls := "TriedHarderModel", name := "risk", desc := "(II)I" } : Jvm.MethodName) prog_6_method_17_code (3 : Nat) (Option.some Jvm.ClassFile.FieldType.int)) ∈ TT := TT_i 445 rfl rfl
set_option maxRecDepth 20000 in
theorem tw_446 : (Jvm.Cond.methodLink "TriedHarderModel" (88 : Nat) ({ cls := "TriedHarderModel", name := "riskAt", desc := "(II)I" } : Jvm.MethodName)) ∈ TT := TT_i 446 rfl rfl
set_option maxRecDepth 20000 in
theorem tw_448 : (Jvm.Cond.instanceMethod ({ cls := "TriedHarderModel", name := "riskAt", desc := "(II)I" } : Jvm.MethodName)) ∈ TT := TT_i 448 rfl rfl
set_option maxRecDepth 20000 in
theorem tw_449 : (Jvm.Cond.code ({ cls := "TriedHarderModel", name := "riskAt", desc := "(II)I" } : Jvm.MethodName) prog_6_method_16_code (5 : Nat) (Option.some Jvm.ClassFile.FieldType.int)) ∈ TT := TT_i 449 rfl rfl
set_option maxRecDepth 20000 in
theorem tw_450 : (Jvm.Cond.methodLink "TriedHarderLaw" (45 : Nat) ({ cls := "TriedHarderModel", name := "left", desc := "(IIII)J" } : Jvm.MethodName)) ∈ TT := TT_i 450 rfl rfl
set_option maxRecDepth 20000 in
theorem tw_451 : (Jvm.Cond.instanceMethod ({ cls := "TriedHarderModel", name := "left", desc := "(IIII)J" } : Jvm.MethodName)) ∈ TT := TT_i 451 rfl rfl
set_option maxRecDepth 20000 in
theorem tw_452 : (Jvm.Cond.selects "TriedHarderModel" ({ cls := "TriedHarderModel", name := "left", desc := "(IIII)J" } : Jvm.MethodName) ({ cls := "TriedHarderModel", name := "left", desc := "(IIII)J" } : Jvm.MethodName)) ∈ TT := TT_i 452 rfl rfl
set_option maxRecDepth 20000 in
theorem tw_453 : (Jvm.Cond.code ({ cls := "TriedHarderModel", name := "left", desc := "(IIII)J" } : Jvm.MethodName) prog_6_method_25_code (5 : Nat) (Option.some Jvm.ClassFile.FieldType.long)) ∈ TT := TT_i 453 rfl rfl
set_option maxRecDepth 20000 in
theorem tw_454 : (Jvm.Cond.constantLong "TriedHarderModel" (120 : Nat) (-1002 : Int64)) ∈ TT := TT_i 454 rfl rfl
set_option maxRecDepth 20000 in
theorem tw_455 : (Jvm.Cond.methodLink "TriedHarderModel" (122 : Nat) ({ cls := "TriedHarderModel", name := "lay", desc := "(II)V" } : Jvm.MethodName)) ∈ TT := TT_i 455 rfl rfl
set_option maxRecDepth 20000 in
theorem tw_457 : (Jvm.Cond.instanceMethod ({ cls := "TriedHarderModel", name := "lay", desc := "(II)V" } : Jvm.MethodName)) ∈ TT := TT_i 457 rfl rfl
set_option maxRecDepth 20000 in
theorem tw_458 : (Jvm.Cond.code ({ cls := "TriedHarderModel", name := "lay", desc := "(II)V" } : Jvm.MethodName) prog_6_method_20_code (4 : Nat) (Option.none : Option Jvm.ClassFile.FieldType)) ∈ TT := TT_i 458 rfl rfl
set_option maxRecDepth 20000 in
theorem tw_459 : (Jvm.Cond.methodLink "TriedHarderModel" (92 : Nat) ({ cls := "TriedHarderModel", name := "failedAt", desc := "(III)I" } : Jvm.MethodName)) ∈ TT := TT_i 459 rfl rfl
set_option maxRecDepth 20000 in
theorem tw_461 : (Jvm.Cond.instanceMethod ({ cls := "TriedHarderModel", name := "failedAt", desc := "(III)I" } : Jvm.MethodName)) ∈ TT := TT_i 461 rfl rfl
set_option maxRecDepth 20000 in
theorem tw_462 : (Jvm.Cond.code ({ cls := "TriedHarderModel", name := "failedAt", desc := "(III)I" } : Jvm.MethodName) prog_6_method_18_code (7 : Nat) (Option.some Jvm.ClassFile.FieldType.int)) ∈ TT := TT_i 462 rfl rfl
set_option maxRecDepth 20000 in
theorem tw_463 : (Jvm.Cond.methodLink "TriedHarderModel" (126 : Nat) ({ cls := "TriedHarderModel", name := "findLeft", desc := "(I)V" } : Jvm.MethodName)) ∈ TT := TT_i 463 rfl rfl
set_option maxRecDepth 20000 in
theorem tw_465 : (Jvm.Cond.instanceMethod ({ cls := "TriedHarderModel", name := "findLeft", desc := "(I)V" } : Jvm.MethodName)) ∈ TT := TT_i 465 rfl rfl
set_option maxRecDepth 20000 in
theorem tw_466 : (Jvm.Cond.code ({ cls := "TriedHarderModel", name := "findLeft", desc := "(I)V" } : Jvm.MethodName) prog_6_method_22_code (3 : Nat) (Option.none : Option Jvm.ClassFile.FieldType)) ∈ TT := TT_i 466 rfl rfl
set_option maxRecDepth 20000 in
theorem tw_467 : (Jvm.Cond.methodLink "TriedHarderModel" (107 : Nat) ({ cls := "TriedHarderModel", name := "goOn", desc := "(I)V" } : Jvm.MethodName)) ∈ TT := TT_i 467 rfl rfl
set_option maxRecDepth 20000 in
theorem tw_469 : (Jvm.Cond.instanceMethod ({ cls := "TriedHarderModel", name := "goOn", desc := "(I)V" } : Jvm.MethodName)) ∈ TT := TT_i 469 rfl rfl
set_option maxRecDepth 20000 in
theorem tw_470 : (Jvm.Cond.code ({ cls := "TriedHarderModel", name := "goOn", desc := "(I)V" } : Jvm.MethodName) prog_6_method_21_code (6 : Nat) (Option.none : Option Jvm.ClassFile.FieldType)) ∈ TT := TT_i 470 rfl rfl
set_option maxRecDepth 20000 in
theorem tw_471 : (Jvm.Cond.methodLink "TriedHarderModel" (103 : Nat) ({ cls := "TriedHarderModel", name := "common", desc := "(JJ)J" } : Jvm.MethodName)) ∈ TT := TT_i 471 rfl rfl
set_option maxRecDepth 20000 in
theorem tw_472 : (Jvm.Cond.static ({ cls := "TriedHarderModel", name := "common", desc := "(JJ)J" } : Jvm.MethodName)) ∈ TT := TT_i 472 rfl rfl
set_option maxRecDepth 20000 in
theorem tw_473 : (Jvm.Cond.code ({ cls := "TriedHarderModel", name := "common", desc := "(JJ)J" } : Jvm.MethodName) prog_6_method_19_code (10 : Nat) (Option.some Jvm.ClassFile.FieldType.long)) ∈ TT := TT_i 473 rfl rfl
set_option maxRecDepth 20000 in
theorem tw_474 : (Jvm.Cond.methodLink "TriedHarderLaw" (49 : Nat) ({ cls := "TriedHarderModel", name := "time", desc := "(IIII)I" } : Jvm.MethodName)) ∈ TT := TT_i 474 rfl rfl
set_option maxRecDepth 20000 in
theorem tw_475 : (Jvm.Cond.instanceMethod ({ cls := "TriedHarderModel", name := "time", desc := "(IIII)I" } : Jvm.MethodName)) ∈ TT := TT_i 475 rfl rfl
set_option maxRecDepth 20000 in
theorem tw_476 : (Jvm.Cond.selects "TriedHarderModel" ({ cls := "TriedHarderModel", name := "time", desc := "(IIII)I" } : Jvm.MethodName) ({ cls := "TriedHarderModel", name := "time", desc := "(IIII)I" } : Jvm.MethodName)) ∈ TT := TT_i 476 rfl rfl
set_option maxRecDepth 20000 in
theorem tw_477 : (Jvm.Cond.code ({ cls := "TriedHarderModel", name := "time", desc := "(IIII)I" } : Jvm.MethodName) prog_6_method_27_code (5 : Nat) (Option.some Jvm.ClassFile.FieldType.int)) ∈ TT := TT_i 477 rfl rfl
set_option maxRecDepth 20000 in
theorem tw_478 : (Jvm.Cond.constantLong "TriedHarderModel" (129 : Nat) (1000 : Int64)) ∈ TT := TT_i 478 rfl rfl
set_option maxRecDepth 20000 in
theorem tw_479 : (Jvm.Cond.methodLink "TriedHarderModel" (131 : Nat) ({ cls := "TriedHarderModel", name := "timeOf", desc := "(IIII)I" } : Jvm.MethodName)) ∈ TT := TT_i 479 rfl rfl
set_option maxRecDepth 20000 in
theorem tw_481 : (Jvm.Cond.instanceMethod ({ cls := "TriedHarderModel", name := "timeOf", desc := "(IIII)I" } : Jvm.MethodName)) ∈ TT := TT_i 481 rfl rfl
set_option maxRecDepth 20000 in
theorem tw_482 : (Jvm.Cond.code ({ cls := "TriedHarderModel", name := "timeOf", desc := "(IIII)I" } : Jvm.MethodName) prog_6_method_26_code (6 : Nat) (Option.some Jvm.ClassFile.FieldType.int)) ∈ TT := TT_i 482 rfl rfl
set_option maxRecDepth 20000 in
theorem tw_483 : (Jvm.Cond.methodLink "TriedHarderLaw" (53 : Nat) ({ cls := "TriedHarderModel", name := "mean", desc := "(IIII)J" } : Jvm.MethodName)) ∈ TT := TT_i 483 rfl rfl
set_option maxRecDepth 20000 in
theorem tw_484 : (Jvm.Cond.instanceMethod ({ cls := "TriedHarderModel", name := "mean", desc := "(IIII)J" } : Jvm.MethodName)) ∈ TT := TT_i 484 rfl rfl
set_option maxRecDepth 20000 in
theorem tw_485 : (Jvm.Cond.selects "TriedHarderModel" ({ cls := "TriedHarderModel", name := "mean", desc := "(IIII)J" } : Jvm.MethodName) ({ cls := "TriedHarderModel", name := "mean", desc := "(IIII)J" } : Jvm.MethodName)) ∈ TT := TT_i 485 rfl rfl
set_option maxRecDepth 20000 in
theorem tw_486 : (Jvm.Cond.code ({ cls := "TriedHarderModel", name := "mean", desc := "(IIII)J" } : Jvm.MethodName) prog_6_method_28_code (5 : Nat) (Option.some Jvm.ClassFile.FieldType.long)) ∈ TT := TT_i 486 rfl rfl
set_option maxRecDepth 20000 in
theorem tw_487 : (Jvm.Cond.methodLink "TriedHarderModel" (135 : Nat) ({ cls := "TriedHarderModel", name := "findRest", desc := "(II)V" } : Jvm.MethodName)) ∈ TT := TT_i 487 rfl rfl
set_option maxRecDepth 20000 in
theorem tw_489 : (Jvm.Cond.instanceMethod ({ cls := "TriedHarderModel", name := "findRest", desc := "(II)V" } : Jvm.MethodName)) ∈ TT := TT_i 489 rfl rfl
set_option maxRecDepth 20000 in
theorem tw_490 : (Jvm.Cond.code ({ cls := "TriedHarderModel", name := "findRest", desc := "(II)V" } : Jvm.MethodName) prog_6_method_24_code (4 : Nat) (Option.none : Option Jvm.ClassFile.FieldType)) ∈ TT := TT_i 490 rfl rfl
set_option maxRecDepth 20000 in
theorem tw_491 : (Jvm.Cond.methodLink "TriedHarderModel" (117 : Nat) ({ cls := "TriedHarderModel", name := "add", desc := "()V" } : Jvm.MethodName)) ∈ TT := TT_i 491 rfl rfl
set_option maxRecDepth 20000 in
theorem tw_493 : (Jvm.Cond.instanceMethod ({ cls := "TriedHarderModel", name := "add", desc := "()V" } : Jvm.MethodName)) ∈ TT := TT_i 493 rfl rfl
set_option maxRecDepth 20000 in
theorem tw_494 : (Jvm.Cond.code ({ cls := "TriedHarderModel", name := "add", desc := "()V" } : Jvm.MethodName) prog_6_method_23_code (3 : Nat) (Option.none : Option Jvm.ClassFile.FieldType)) ∈ TT := TT_i 494 rfl rfl
set_option maxRecDepth 20000 in
theorem tw_495 : (Jvm.Cond.methodLink "TriedHarderLaw" (58 : Nat) ({ cls := "TriedHarderModel", name := "rest", desc := "(IIIII)J" } : Jvm.MethodName)) ∈ TT := TT_i 495 rfl rfl
set_option maxRecDepth 20000 in
theorem tw_496 : (Jvm.Cond.instanceMethod ({ cls := "TriedHarderModel", name := "rest", desc := "(IIIII)J" } : Jvm.MethodName)) ∈ TT := TT_i 496 rfl rfl
set_option maxRecDepth 20000 in
theorem tw_497 : (Jvm.Cond.selects "TriedHarderModel" ({ cls := "TriedHarderModel", name := "rest", desc := "(IIIII)J" } : Jvm.MethodName) ({ cls := "TriedHarderModel", name := "rest", desc := "(IIIII)J" } : Jvm.MethodName)) ∈ TT := TT_i 497 rfl rfl
set_option maxRecDepth 20000 in
theorem tw_498 : (Jvm.Cond.code ({ cls := "TriedHarderModel", name := "rest", desc := "(IIIII)J" } : Jvm.MethodName) prog_6_method_30_code (6 : Nat) (Option.some Jvm.ClassFile.FieldType.long)) ∈ TT := TT_i 498 rfl rfl
set_option maxRecDepth 20000 in
theorem tw_499 : (Jvm.Cond.methodLink "TriedHarderModel" (138 : Nat) ({ cls := "TriedHarderModel", name := "isLeftAt", desc := "(I)Z" } : Jvm.MethodName)) ∈ TT := TT_i 499 rfl rfl
set_option maxRecDepth 20000 in
theorem tw_501 : (Jvm.Cond.instanceMethod ({ cls := "TriedHarderModel", name := "isLeftAt", desc := "(I)Z" } : Jvm.MethodName)) ∈ TT := TT_i 501 rfl rfl
set_option maxRecDepth 20000 in
theorem tw_502 : (Jvm.Cond.code ({ cls := "TriedHarderModel", name := "isLeftAt", desc := "(I)Z" } : Jvm.MethodName) prog_6_method_29_code (2 : Nat) (Option.some Jvm.ClassFile.FieldType.boolean)) ∈ TT := TT_i 502 rfl rfl
set_option maxRecDepth 20000 in
theorem tw_503 : (Jvm.Cond.constantLong "TriedHarderModel" (141 : Nat) (-1003 : Int64)) ∈ TT := TT_i 503 rfl rfl
set_option maxRecDepth 20000 in
theorem tw_504 : (Jvm.Cond.methodLink "TriedHarderLaw" (62 : Nat) ({ cls := "TriedHarderModel", name := "runIn", desc := "(IIII)I" } : Jvm.MethodName)) ∈ TT := TT_i 504 rfl rfl
set_option maxRecDepth 20000 in
theorem tw_505 : (Jvm.Cond.instanceMethod ({ cls := "TriedHarderModel", name := "runIn", desc := "(IIII)I" } : Jvm.MethodName)) ∈ TT := TT_i 505 rfl rfl
set_option maxRecDepth 20000 in
theorem tw_506 : (Jvm.Cond.selects "TriedHarderModel" ({ cls := "TriedHarderModel", name := "runIn", desc := "(IIII)I" } : Jvm.MethodName) ({ cls := "TriedHarderModel", name := "runIn", desc := "(IIII)I" } : Jvm.MethodName)) ∈ TT := TT_i 506 rfl rfl
set_option maxRecDepth 20000 in
theorem tw_507 : (Jvm.Cond.code ({ cls := "TriedHarderModel", name := "runIn", desc := "(IIII)I" } : Jvm.MethodName) prog_6_method_32_code (15 : Nat) (Option.some Jvm.ClassFile.FieldType.int)) ∈ TT := TT_i 507 rfl rfl
set_option maxRecDepth 20000 in
theorem tw_508 : (Jvm.Cond.constantLong "TriedHarderModel" (143 : Nat) (100 : Int64)) ∈ TT := TT_i 508 rfl rfl
set_option maxRecDepth 20000 in
theorem tw_509 : (Jvm.Cond.methodLink "TriedHarderModel" (145 : Nat) ({ cls := "TriedHarderModel", name := "isGreater", desc := "(JJJJ)Z" } : Jvm.MethodName)) ∈ TT := TT_i 509 rfl rfl
set_option maxRecDepth 20000 in
theorem tw_510 : (Jvm.Cond.static ({ cls := "TriedHarderModel", name := "isGreater", desc := "(JJJJ)Z" } : Jvm.MethodName)) ∈ TT := TT_i 510 rfl rfl
set_option maxRecDepth 20000 in
theorem tw_511 : (Jvm.Cond.code ({ cls := "TriedHarderModel", name := "isGreater", desc := "(JJJJ)Z" } : Jvm.MethodName) prog_6_method_31_code (12 : Nat) (Option.some Jvm.ClassFile.FieldType.boolean)) ∈ TT := TT_i 511 rfl rfl
set_option maxRecDepth 20000 in
theorem tw_512 : (Jvm.Cond.methodLink "TriedHarderLaw" (66 : Nat) ({ cls := "TriedHarderModel", name := "speed", desc := "(II)I" } : Jvm.MethodName)) ∈ TT := TT_i 512 rfl rfl
set_option maxRecDepth 20000 in
theorem tw_513 : (Jvm.Cond.instanceMethod ({ cls := "TriedHarderModel", name := "speed", desc := "(II)I" } : Jvm.MethodName)) ∈ TT := TT_i 513 rfl rfl
set_option maxRecDepth 20000 in
theorem tw_514 : (Jvm.Cond.selects "TriedHarderModel" ({ cls := "TriedHarderModel", name := "speed", desc := "(II)I" } : Jvm.MethodName) ({ cls := "TriedHarderModel", name := "speed", desc := "(II)I" } : Jvm.MethodName)) ∈ TT := TT_i 514 rfl rfl
set_option maxRecDepth 20000 in
theorem tw_515 : (Jvm.Cond.code ({ cls := "TriedHarderModel", name := "speed", desc := "(II)I" } : Jvm.MethodName) prog_6_method_33_code (4 : Nat) (Option.some Jvm.ClassFile.FieldType.int)) ∈ TT := TT_i 515 rfl rfl
set_option maxRecDepth 20000 in
theorem tw_516 : (Jvm.Cond.methodLink "TriedHarderLaw" (70 : Nat) ({ cls := "TriedHarderModel", name := "says", desc := "(III)I" } : Jvm.MethodName)) ∈ TT := TT_i 516 rfl rfl
set_option maxRecDepth 20000 in
theorem tw_517 : (Jvm.Cond.instanceMethod ({ cls := "TriedHarderModel", name := "says", desc := "(III)I" } : Jvm.MethodName)) ∈ TT := TT_i 517 rfl rfl
set_option maxRecDepth 20000 in
theorem tw_518 : (Jvm.Cond.selects "TriedHarderModel" ({ cls := "TriedHarderModel", name := "says", desc := "(III)I" } : Jvm.MethodName) ({ cls := "TriedHarderModel", name := "says", desc := "(III)I" } : Jvm.MethodName)) ∈ TT := TT_i 518 rfl rfl
set_option maxRecDepth 20000 in
theorem tw_519 : (Jvm.Cond.code ({ cls := "TriedHarderModel", name := "says", desc := "(III)I" } : Jvm.MethodName) prog_6_method_36_code (4 : Nat) (Option.some Jvm.ClassFile.FieldType.int)) ∈ TT := TT_i 519 rfl rfl
set_option maxRecDepth 20000 in
theorem tw_520 : (Jvm.Cond.methodLink "TriedHarderModel" (153 : Nat) ({ cls := "TriedHarderModel", name := "isLaw", desc := "(II)Z" } : Jvm.MethodName)) ∈ TT := TT_i 520 rfl rfl
set_option maxRecDepth 20000 in
theorem tw_521 : (Jvm.Cond.static ({ cls := "TriedHarderModel", name := "isLaw", desc := "(II)Z" } : Jvm.MethodName)) ∈ TT := TT_i 521 rfl rfl
set_option maxRecDepth 20000 in
theorem tw_522 : (Jvm.Cond.code ({ cls := "TriedHarderModel", name := "isLaw", desc := "(II)Z" } : Jvm.MethodName) prog_6_method_35_code (2 : Nat) (Option.some Jvm.ClassFile.FieldType.boolean)) ∈ TT := TT_i 522 rfl rfl
set_option maxRecDepth 20000 in
theorem tw_523 : (Jvm.Cond.constantLong "TriedHarderModel" (149 : Nat) (100000 : Int64)) ∈ TT := TT_i 523 rfl rfl
set_option maxRecDepth 20000 in
theorem tw_524 : (Jvm.Cond.constantLong "TriedHarderModel" (151 : Nat) (20 : Int64)) ∈ TT := TT_i 524 rfl rfl
set_option maxRecDepth 20000 in
theorem tw_525 : (Jvm.Cond.methodLink "TriedHarderModel" (156 : Nat) ({ cls := "TriedHarderModel", name := "saysOf", desc := "(III)I" } : Jvm.MethodName)) ∈ TT := TT_i 525 rfl rfl
set_option maxRecDepth 20000 in
theorem tw_526 : (Jvm.Cond.static ({ cls := "TriedHarderModel", name := "saysOf", desc := "(III)I" } : Jvm.MethodName)) ∈ TT := TT_i 526 rfl rfl
set_option maxRecDepth 20000 in
theorem tw_527 : (Jvm.Cond.code ({ cls := "TriedHarderModel", name := "saysOf", desc := "(III)I" } : Jvm.MethodName) prog_6_method_34_code (5 : Nat) (Option.some Jvm.ClassFile.FieldType.int)) ∈ TT := TT_i 527 rfl rfl
set_option maxRecDepth 20000 in
theorem tw_528 : (Jvm.Cond.methodLink "TriedHarderLaw" (74 : Nat) ({ cls := "TriedHarderModel", name := "miss", desc := "(II)I" } : Jvm.MethodName)) ∈ TT := TT_i 528 rfl rfl
set_option maxRecDepth 20000 in
theorem tw_529 : (Jvm.Cond.instanceMethod ({ cls := "TriedHarderModel", name := "miss", desc := "(II)I" } : Jvm.MethodName)) ∈ TT := TT_i 529 rfl rfl
set_option maxRecDepth 20000 in
theorem tw_530 : (Jvm.Cond.selects "TriedHarderModel" ({ cls := "TriedHarderModel", name := "miss", desc := "(II)I" } : Jvm.MethodName) ({ cls := "TriedHarderModel", name := "miss", desc := "(II)I" } : Jvm.MethodName)) ∈ TT := TT_i 530 rfl rfl
set_option maxRecDepth 20000 in
theorem tw_531 : (Jvm.Cond.code ({ cls := "TriedHarderModel", name := "miss", desc := "(II)I" } : Jvm.MethodName) prog_6_method_39_code (4 : Nat) (Option.some Jvm.ClassFile.FieldType.int)) ∈ TT := TT_i 531 rfl rfl
set_option maxRecDepth 20000 in
theorem tw_532 : (Jvm.Cond.methodLink "TriedHarderModel" (159 : Nat) ({ cls := "TriedHarderModel", name := "findHalves", desc := "()Z" } : Jvm.MethodName)) ∈ TT := TT_i 532 rfl rfl
set_option maxRecDepth 20000 in
theorem tw_534 : (Jvm.Cond.instanceMethod ({ cls := "TriedHarderModel", name := "findHalves", desc := "()Z" } : Jvm.MethodName)) ∈ TT := TT_i 534 rfl rfl
set_option maxRecDepth 20000 in
theorem tw_535 : (Jvm.Cond.code ({ cls := "TriedHarderModel", name := "findHalves", desc := "()Z" } : Jvm.MethodName) prog_6_method_37_code (3 : Nat) (Option.some Jvm.ClassFile.FieldType.boolean)) ∈ TT := TT_i 535 rfl rfl
set_option maxRecDepth 20000 in
theorem tw_536 : (Jvm.Cond.methodLink "TriedHarderModel" (163 : Nat) ({ cls := "TriedHarderModel", name := "missOf", desc := "(II)I" } : Jvm.MethodName)) ∈ TT := TT_i 536 rfl rfl
set_option maxRecDepth 20000 in
theorem tw_538 : (Jvm.Cond.instanceMethod ({ cls := "TriedHarderModel", name := "missOf", desc := "(II)I" } : Jvm.MethodName)) ∈ TT := TT_i 538 rfl rfl
set_option maxRecDepth 20000 in
theorem tw_539 : (Jvm.Cond.code ({ cls := "TriedHarderModel", name := "missOf", desc := "(II)I" } : Jvm.MethodName) prog_6_method_38_code (6 : Nat) (Option.some Jvm.ClassFile.FieldType.int)) ∈ TT := TT_i 539 rfl rfl
set_option maxRecDepth 20000 in
theorem tw_540 : (Jvm.Cond.methodLink "TriedHarderLaw" (78 : Nat) ({ cls := "TriedHarderModel", name := "law", desc := "(III)I" } : Jvm.MethodName)) ∈ TT := TT_i 540 rfl rfl
set_option maxRecDepth 20000 in
theorem tw_541 : (Jvm.Cond.instanceMethod ({ cls := "TriedHarderModel", name := "law", desc := "(III)I" } : Jvm.MethodName)) ∈ TT := TT_i 541 rfl rfl
set_option maxRecDepth 20000 in
theorem tw_542 : (Jvm.Cond.selects "TriedHarderModel" ({ cls := "TriedHarderModel", name := "law", desc := "(III)I" } : Jvm.MethodName) ({ cls := "TriedHarderModel", name := "law", desc := "(III)I" } : Jvm.MethodName)) ∈ TT := TT_i 542 rfl rfl
set_option maxRecDepth 20000 in
theorem tw_543 : (Jvm.Cond.code ({ cls := "TriedHarderModel", name := "law", desc := "(III)I" } : Jvm.MethodName) prog_6_method_40_code (10 : Nat) (Option.some Jvm.ClassFile.FieldType.int)) ∈ TT := TT_i 543 rfl rfl
set_option maxRecDepth 20000 in
theorem tw_544 : (Jvm.Cond.constant "TriedHarderModel" (166 : Nat) (100000 : Int32)) ∈ TT := TT_i 544 rfl rfl
set_option maxRecDepth 20000 in
theorem tw_545 : (Jvm.Cond.methodLink "TriedHarderLaw" (82 : Nat) ({ cls := "TriedHarderModel", name := "step", desc := "(II)I" } : Jvm.MethodName)) ∈ TT := TT_i 545 rfl rfl
set_option maxRecDepth 20000 in
theorem tw_546 : (Jvm.Cond.instanceMethod ({ cls := "TriedHarderModel", name := "step", desc := "(II)I" } : Jvm.MethodName)) ∈ TT := TT_i 546 rfl rfl
set_option maxRecDepth 20000 in
theorem tw_547 : (Jvm.Cond.selects "TriedHarderModel" ({ cls := "TriedHarderModel", name := "step", desc := "(II)I" } : Jvm.MethodName) ({ cls := "TriedHarderModel", name := "step", desc := "(II)I" } : Jvm.MethodName)) ∈ TT := TT_i 547 rfl rfl
set_option maxRecDepth 20000 in
theorem tw_548 : (Jvm.Cond.code ({ cls := "TriedHarderModel", name := "step", desc := "(II)I" } : Jvm.MethodName) prog_6_method_41_code (3 : Nat) (Option.some Jvm.ClassFile.FieldType.int)) ∈ TT := TT_i 548 rfl rfl
set_option maxRecDepth 20000 in
theorem tw_549 : (Jvm.Cond.methodLink "TriedHarderLaw" (86 : Nat) ({ cls := "TriedHarderModel", name := "clear", desc := "()I" } : Jvm.MethodName)) ∈ TT := TT_i 549 rfl rfl
set_option maxRecDepth 20000 in
theorem tw_550 : (Jvm.Cond.instanceMethod ({ cls := "TriedHarderModel", name := "clear", desc := "()I" } : Jvm.MethodName)) ∈ TT := TT_i 550 rfl rfl
set_option maxRecDepth 20000 in
theorem tw_551 : (Jvm.Cond.selects "TriedHarderModel" ({ cls := "TriedHarderModel", name := "clear", desc := "()I" } : Jvm.MethodName) ({ cls := "TriedHarderModel", name := "clear", desc := "()I" } : Jvm.MethodName)) ∈ TT := TT_i 551 rfl rfl
set_option maxRecDepth 20000 in
theorem tw_552 : (Jvm.Cond.code ({ cls := "TriedHarderModel", name := "clear", desc := "()I" } : Jvm.MethodName) prog_6_method_42_code (2 : Nat) (Option.some Jvm.ClassFile.FieldType.int)) ∈ TT := TT_i 552 rfl rfl
set_option maxRecDepth 20000 in
theorem tw_553 : (Jvm.Cond.methodLink "TriedHarderLaw" (91 : Nat) ({ cls := "TriedHarderModel", name := "used", desc := "(I)I" } : Jvm.MethodName)) ∈ TT := TT_i 553 rfl rfl
set_option maxRecDepth 20000 in
theorem tw_554 : (Jvm.Cond.instanceMethod ({ cls := "TriedHarderModel", name := "used", desc := "(I)I" } : Jvm.MethodName)) ∈ TT := TT_i 554 rfl rfl
set_option maxRecDepth 20000 in
theorem tw_555 : (Jvm.Cond.selects "TriedHarderModel" ({ cls := "TriedHarderModel", name := "used", desc := "(I)I" } : Jvm.MethodName) ({ cls := "TriedHarderModel", name := "used", desc := "(I)I" } : Jvm.MethodName)) ∈ TT := TT_i 555 rfl rfl
set_option maxRecDepth 20000 in
theorem tw_556 : (Jvm.Cond.code ({ cls := "TriedHarderModel", name := "used", desc := "(I)I" } : Jvm.MethodName) prog_6_method_43_code (4 : Nat) (Option.some Jvm.ClassFile.FieldType.int)) ∈ TT := TT_i 556 rfl rfl
set_option maxRecDepth 20000 in
theorem tw_557 : (Jvm.Cond.methodLink "TriedHarderLaw" (95 : Nat) ({ cls := "TriedHarderModel", name := "fails", desc := "(I)I" } : Jvm.MethodName)) ∈ TT := TT_i 557 rfl rfl
set_option maxRecDepth 20000 in
theorem tw_558 : (Jvm.Cond.instanceMethod ({ cls := "TriedHarderModel", name := "fails", desc := "(I)I" } : Jvm.MethodName)) ∈ TT := TT_i 558 rfl rfl
set_option maxRecDepth 20000 in
theorem tw_559 : (Jvm.Cond.selects "TriedHarderModel" ({ cls := "TriedHarderModel", name := "fails", desc := "(I)I" } : Jvm.MethodName) ({ cls := "TriedHarderModel", name := "fails", desc := "(I)I" } : Jvm.MethodName)) ∈ TT := TT_i 559 rfl rfl
set_option maxRecDepth 20000 in
theorem tw_560 : (Jvm.Cond.code ({ cls := "TriedHarderModel", name := "fails", desc := "(I)I" } : Jvm.MethodName) prog_6_method_44_code (6 : Nat) (Option.some Jvm.ClassFile.FieldType.int)) ∈ TT := TT_i 560 rfl rfl
set_option maxRecDepth 20000 in
theorem tw_561 : (Jvm.Cond.methodLink "TriedHarderLaw" (99 : Nat) ({ cls := "TriedHarderModel", name := "end", desc := "(IIII)I" } : Jvm.MethodName)) ∈ TT := TT_i 561 rfl rfl
set_option maxRecDepth 20000 in
theorem tw_562 : (Jvm.Cond.instanceMethod ({ cls := "TriedHarderModel", name := "end", desc := "(IIII)I" } : Jvm.MethodName)) ∈ TT := TT_i 562 rfl rfl
set_option maxRecDepth 20000 in
theorem tw_563 : (Jvm.Cond.selects "TriedHarderModel" ({ cls := "TriedHarderModel", name := "end", desc := "(IIII)I" } : Jvm.MethodName) ({ cls := "TriedHarderModel", name := "end", desc := "(IIII)I" } : Jvm.MethodName)) ∈ TT := TT_i 563 rfl rfl
set_option maxRecDepth 20000 in
theorem tw_564 : (Jvm.Cond.code ({ cls := "TriedHarderModel", name := "end", desc := "(IIII)I" } : Jvm.MethodName) prog_6_method_47_code (10 : Nat) (Option.some Jvm.ClassFile.FieldType.int)) ∈ TT := TT_i 564 rfl rfl
set_option maxRecDepth 20000 in
theorem tw_565 : (Jvm.Cond.constantLong "TriedHarderModel" (174 : Nat) (12 : Int64)) ∈ TT := TT_i 565 rfl rfl
set_option maxRecDepth 20000 in
theorem tw_566 : (Jvm.Cond.constantLong "TriedHarderModel" (176 : Nat) (50 : Int64)) ∈ TT := TT_i 566 rfl rfl
set_option maxRecDepth 20000 in
theorem tw_567 : (Jvm.Cond.constantLong "TriedHarderModel" (178 : Nat) (99 : Int64)) ∈ TT := TT_i 567 rfl rfl
set_option maxRecDepth 20000 in
theorem tw_568 : (Jvm.Cond.constantLong "TriedHarderModel" (180 : Nat) (10 : Int64)) ∈ TT := TT_i 568 rfl rfl
set_option maxRecDepth 20000 in
theorem tw_569 : (Jvm.Cond.methodLink "TriedHarderModel" (170 : Nat) ({ cls := "TriedHarderModel", name := "power", desc := "(JI)J" } : Jvm.MethodName)) ∈ TT := TT_i 569 rfl rfl
set_option maxRecDepth 20000 in
theorem tw_570 : (Jvm.Cond.static ({ cls := "TriedHarderModel", name := "power", desc := "(JI)J" } : Jvm.MethodName)) ∈ TT := TT_i 570 rfl rfl
set_option maxRecDepth 20000 in
theorem tw_571 : (Jvm.Cond.code ({ cls := "TriedHarderModel", name := "power", desc := "(JI)J" } : Jvm.MethodName) prog_6_method_45_code (6 : Nat) (Option.some Jvm.ClassFile.FieldType.long)) ∈ TT := TT_i 571 rfl rfl
set_option maxRecDepth 20000 in
theorem tw_572 : (Jvm.Cond.methodLink "TriedHarderModel" (182 : Nat) ({ cls := "TriedHarderModel", name := "chance", desc := "(IIII)J" } : Jvm.MethodName)) ∈ TT := TT_i 572 rfl rfl
set_option maxRecDepth 20000 in
theorem tw_573 : (Jvm.Cond.static ({ cls := "TriedHarderModel", name := "chance", desc := "(IIII)J" } : Jvm.MethodName)) ∈ TT := TT_i 573 rfl rfl
set_option maxRecDepth 20000 in
theorem tw_574 : (Jvm.Cond.code ({ cls := "TriedHarderModel", name := "chance", desc := "(IIII)J" } : Jvm.MethodName) prog_6_method_46_code (9 : Nat) (Option.some Jvm.ClassFile.FieldType.long)) ∈ TT := TT_i 574 rfl rfl
set_option maxRecDepth 20000 in
theorem tw_575 : (Jvm.Cond.methodLink "TriedHarderLaw" (103 : Nat) ({ cls := "TriedHarderModel", name := "rule", desc := "(II)I" } : Jvm.MethodName)) ∈ TT := TT_i 575 rfl rfl
set_option maxRecDepth 20000 in
theorem tw_576 : (Jvm.Cond.instanceMethod ({ cls := "TriedHarderModel", name := "rule", desc := "(II)I" } : Jvm.MethodName)) ∈ TT := TT_i 576 rfl rfl
set_option maxRecDepth 20000 in
theorem tw_577 : (Jvm.Cond.selects "TriedHarderModel" ({ cls := "TriedHarderModel", name := "rule", desc := "(II)I" } : Jvm.MethodName) ({ cls := "TriedHarderModel", name := "rule", desc := "(II)I" } : Jvm.MethodName)) ∈ TT := TT_i 577 rfl rfl
set_option maxRecDepth 20000 in
theorem tw_578 : (Jvm.Cond.code ({ cls := "TriedHarderModel", name := "rule", desc := "(II)I" } : Jvm.MethodName) prog_6_method_48_code (4 : Nat) (Option.some Jvm.ClassFile.FieldType.int)) ∈ TT := TT_i 578 rfl rfl
set_option maxRecDepth 20000 in
theorem tw_579 : (Jvm.Cond.methodLink "TriedHarderLaw" (107 : Nat) ({ cls := "TriedHarderModel", name := "plan", desc := "(III)I" } : Jvm.MethodName)) ∈ TT := TT_i 579 rfl rfl
set_option maxRecDepth 20000 in
theorem tw_580 : (Jvm.Cond.instanceMethod ({ cls := "TriedHarderModel", name := "plan", desc := "(III)I" } : Jvm.MethodName)) ∈ TT := TT_i 580 rfl rfl
set_option maxRecDepth 20000 in
theorem tw_581 : (Jvm.Cond.selects "TriedHarderModel" ({ cls := "TriedHarderModel", name := "plan", desc := "(III)I" } : Jvm.MethodName) ({ cls := "TriedHarderModel", name := "plan", desc := "(III)I" } : Jvm.MethodName)) ∈ TT := TT_i 581 rfl rfl
set_option maxRecDepth 20000 in
theorem tw_582 : (Jvm.Cond.code ({ cls := "TriedHarderModel", name := "plan", desc := "(III)I" } : Jvm.MethodName) prog_6_method_49_code (12 : Nat) (Option.some Jvm.ClassFile.FieldType.int)) ∈ TT := TT_i 582 rfl rfl
set_option maxRecDepth 20000 in
theorem tw_583 : (Jvm.Cond.constantLong "TriedHarderModel" (186 : Nat) (10000 : Int64)) ∈ TT := TT_i 583 rfl rfl
theorem ts_0 : Cond.selects "TriedHarder" ⟨"TriedHarder", "useHour", "(I)I"⟩ ⟨"TriedHarder", "useHour", "(I)I"⟩ ∈ TT := TT_s 0 rfl rfl
theorem ts_1 : Cond.selects "TriedHarder" ⟨"TriedHarder", "shareInCount", "(II)I"⟩ ⟨"TriedHarder", "shareInCount", "(II)I"⟩ ∈ TT := TT_s 1 rfl rfl
theorem ts_2 : Cond.selects "TriedHarder" ⟨"TriedHarder", "findHalves", "()Z"⟩ ⟨"TriedHarder", "findHalves", "()Z"⟩ ∈ TT := TT_s 2 rfl rfl
theorem ts_3 : Cond.selects "TriedHarder" ⟨"TriedHarder", "missOfHalves", "(II)I"⟩ ⟨"TriedHarder", "missOfHalves", "(II)I"⟩ ∈ TT := TT_s 3 rfl rfl
theorem ts_4 : Cond.selects "TriedHarderModel" ⟨"TriedHarderModel", "isUnit", "(I)Z"⟩ ⟨"TriedHarderModel", "isUnit", "(I)Z"⟩ ∈ TT := TT_s 4 rfl rfl
theorem ts_5 : Cond.selects "TriedHarderModel" ⟨"TriedHarderModel", "useHour", "(I)I"⟩ ⟨"TriedHarderModel", "useHour", "(I)I"⟩ ∈ TT := TT_s 5 rfl rfl
theorem ts_6 : Cond.selects "TriedHarderModel" ⟨"TriedHarderModel", "isIn", "(II)Z"⟩ ⟨"TriedHarderModel", "isIn", "(II)Z"⟩ ∈ TT := TT_s 6 rfl rfl
theorem ts_7 : Cond.selects "TriedHarderModel" ⟨"TriedHarderModel", "riskAt", "(II)I"⟩ ⟨"TriedHarderModel", "riskAt", "(II)I"⟩ ∈ TT := TT_s 7 rfl rfl
theorem ts_8 : Cond.selects "TriedHarderModel" ⟨"TriedHarderModel", "lay", "(II)V"⟩ ⟨"TriedHarderModel", "lay", "(II)V"⟩ ∈ TT := TT_s 8 rfl rfl
theorem ts_9 : Cond.selects "TriedHarderModel" ⟨"TriedHarderModel", "failedAt", "(III)I"⟩ ⟨"TriedHarderModel", "failedAt", "(III)I"⟩ ∈ TT := TT_s 9 rfl rfl
theorem ts_10 : Cond.selects "TriedHarderModel" ⟨"TriedHarderModel", "findLeft", "(I)V"⟩ ⟨"TriedHarderModel", "findLeft", "(I)V"⟩ ∈ TT := TT_s 10 rfl rfl
theorem ts_11 : Cond.selects "TriedHarderModel" ⟨"TriedHarderModel", "goOn", "(I)V"⟩ ⟨"TriedHarderModel", "goOn", "(I)V"⟩ ∈ TT := TT_s 11 rfl rfl
theorem ts_12 : Cond.selects "TriedHarderModel" ⟨"TriedHarderModel", "timeOf", "(IIII)I"⟩ ⟨"TriedHarderModel", "timeOf", "(IIII)I"⟩ ∈ TT := TT_s 12 rfl rfl
theorem ts_13 : Cond.selects "TriedHarderModel" ⟨"TriedHarderModel", "findRest", "(II)V"⟩ ⟨"TriedHarderModel", "findRest", "(II)V"⟩ ∈ TT := TT_s 13 rfl rfl
theorem ts_14 : Cond.selects "TriedHarderModel" ⟨"TriedHarderModel", "add", "()V"⟩ ⟨"TriedHarderModel", "add", "()V"⟩ ∈ TT := TT_s 14 rfl rfl
theorem ts_15 : Cond.selects "TriedHarderModel" ⟨"TriedHarderModel", "isLeftAt", "(I)Z"⟩ ⟨"TriedHarderModel", "isLeftAt", "(I)Z"⟩ ∈ TT := TT_s 15 rfl rfl
theorem ts_16 : Cond.selects "TriedHarderModel" ⟨"TriedHarderModel", "findHalves", "()Z"⟩ ⟨"TriedHarderModel", "findHalves", "()Z"⟩ ∈ TT := TT_s 16 rfl rfl
theorem ts_17 : Cond.selects "TriedHarderModel" ⟨"TriedHarderModel", "missOf", "(II)I"⟩ ⟨"TriedHarderModel", "missOf", "(II)I"⟩ ∈ TT := TT_s 17 rfl rfl
theorem inT0 : ∀ w ∈ wsX00, w ∈ TT := by
  intro w hw
  obtain ⟨k, hk, rfl⟩ := List.mem_map.mp hw
  have hk2 := List.mem_range.mp hk
  match k, hk2 with
  | 0, _ => exact tw_48
  | 1, _ => exact tw_50
  | 2, _ => exact tw_52
  | k + 3, h => exact absurd h (by omega)
theorem inT1 : ∀ w ∈ wsX10, w ∈ TT := by
  intro w hw
  obtain ⟨k, hk, rfl⟩ := List.mem_map.mp hw
  have hk2 := List.mem_range.mp hk
  match k, hk2 with
  | 0, _ => exact tw_68
  | 1, _ => exact tw_70
  | 2, _ => exact tw_72
  | k + 3, h => exact absurd h (by omega)
theorem inT2 : ∀ w ∈ wsX20, w ∈ TT := by
  intro w hw
  obtain ⟨k, hk, rfl⟩ := List.mem_map.mp hw
  have hk2 := List.mem_range.mp hk
  match k, hk2 with
  | 0, _ => exact tw_29
  | 1, _ => exact tw_31
  | 2, _ => exact tw_33
  | 3, _ => exact tw_35
  | k + 4, h => exact absurd h (by omega)
theorem inT3 : ∀ w ∈ wsX30, w ∈ TT := by
  intro w hw
  obtain ⟨k, hk, rfl⟩ := List.mem_map.mp hw
  have hk2 := List.mem_range.mp hk
  match k, hk2 with
  | 0, _ => exact tw_82
  | 1, _ => exact tw_84
  | 2, _ => exact tw_86
  | 3, _ => exact tw_88
  | 4, _ => exact tw_90
  | 5, _ => exact tw_92
  | 6, _ => exact tw_94
  | k + 7, h => exact absurd h (by omega)
theorem inT4 : ∀ w ∈ wsX40, w ∈ TT := by
  intro w hw
  obtain ⟨k, hk, rfl⟩ := List.mem_map.mp hw
  have hk2 := List.mem_range.mp hk
  match k, hk2 with
  | 0, _ => exact tw_354
  | 1, _ => exact tw_356
  | 2, _ => exact tw_358
  | 3, _ => exact tw_360
  | 4, _ => exact tw_362
  | 5, _ => exact tw_364
  | 6, _ => exact tw_366
  | 7, _ => exact tw_368
  | 8, _ => exact tw_370
  | 9, _ => exact tw_372
  | 10, _ => exact tw_374
  | 11, _ => exact tw_376
  | 12, _ => exact tw_378
  | 13, _ => exact tw_380
  | 14, _ => exact tw_382
  | 15, _ => exact tw_384
  | 16, _ => exact tw_386
  | k + 17, h => exact absurd h (by omega)
end
section
/-! numbers: a machine int is zi of a whole number, a long zj -/
def zi (z : Int) : Int32 := Int32.ofInt z
def zj (z : Int) : Int64 := Int64.ofInt z
theorem zi_toInt {z : Int} (h : -2147483648 ≤ z ∧ z ≤ 2147483647) : (zi z).toInt = z := Int32.toInt_ofInt_of_le (by omega) (by omega)
theorem zj_toInt {z : Int} (h : -9223372036854775808 ≤ z ∧ z ≤ 9223372036854775807) : (zj z).toInt = z := Int64.toInt_ofInt_of_le (by omega) (by omega)
theorem zi_of (x : Int32) : zi x.toInt = x := Int32.ofInt_toInt x
theorem zj_of (x : Int64) : zj x.toInt = x := Int64.ofInt_toInt x
theorem zi_rng (x : Int32) : -2147483648 ≤ x.toInt ∧ x.toInt ≤ 2147483647 := by
  have h1 := Int32.le_toInt x
  have h2 := Int32.toInt_lt x
  omega
theorem zi_add (a b : Int) : zi a + zi b = zi (a + b) := (Int32.ofInt_add a b).symm
theorem zi_sub (a b : Int) : zi a - zi b = zi (a - b) := (Int32.ofInt_sub a b).symm
theorem zi_mul (a b : Int) : zi a * zi b = zi (a * b) := (Int32.ofInt_mul a b).symm
theorem zi_neg (a : Int) : -zi a = zi (-a) := (Int32.ofInt_neg a).symm
theorem zj_add (a b : Int) : zj a + zj b = zj (a + b) := (Int64.ofInt_add a b).symm
theorem zj_sub (a b : Int) : zj a - zj b = zj (a - b) := (Int64.ofInt_sub a b).symm
theorem zj_mul (a b : Int) : zj a * zj b = zj (a * b) := (Int64.ofInt_mul a b).symm
theorem zj_neg (a : Int) : -zj a = zj (-a) := (Int64.ofInt_neg a).symm
theorem zi_nI (n : Nat) : zi (n : Int) = nI n := Int32.ofInt_eq_ofNat
theorem zj_lN (n : Nat) : zj (n : Int) = lN n := Int64.ofInt_eq_ofNat
theorem zi_div {a b : Int} (h : 0 ≤ a ∧ a ≤ 2147483647 ∧ 0 < b ∧ b ≤ 2147483647) : zi a / zi b = zi (a / b) := by
  obtain ⟨x, rfl⟩ := Int.eq_ofNat_of_zero_le h.1
  obtain ⟨y, rfl⟩ := Int.eq_ofNat_of_zero_le (show 0 ≤ b by omega)
  rw [zi_nI, zi_nI, pk_div (by omega) (by omega) (by omega), ← zi_nI]
  rfl
theorem zj_div {a b : Int} (h : 0 ≤ a ∧ a ≤ 9223372036854775807 ∧ 0 < b ∧ b ≤ 9223372036854775807) : zj a / zj b = zj (a / b) := by
  obtain ⟨x, rfl⟩ := Int.eq_ofNat_of_zero_le h.1
  obtain ⟨y, rfl⟩ := Int.eq_ofNat_of_zero_le (show 0 ≤ b by omega)
  rw [zj_lN, zj_lN, pk_lDiv (by omega) (by omega) (by omega), ← zj_lN]
  rfl
theorem zj_rem {a b : Int} (h : 0 ≤ a ∧ a ≤ 9223372036854775807 ∧ 0 < b ∧ b ≤ 9223372036854775807) : zj a - zj a / zj b * zj b = zj (a % b) := by
  obtain ⟨x, rfl⟩ := Int.eq_ofNat_of_zero_le h.1
  obtain ⟨y, rfl⟩ := Int.eq_ofNat_of_zero_le (show 0 ≤ b by omega)
  rw [zj_lN, zj_lN, pk_lRem (by omega) (by omega) (by omega), ← zj_lN]
  rfl
theorem zi_j {a : Int} (h : -2147483648 ≤ a ∧ a ≤ 2147483647) : (zi a).toInt64 = zj a := Int64.toInt_inj.mp (by rw [Int32.toInt_toInt64, zi_toInt h, zj_toInt (by omega)])
theorem zi_lt {a b : Int} (ha : -2147483648 ≤ a ∧ a ≤ 2147483647) (hb : -2147483648 ≤ b ∧ b ≤ 2147483647) : zi a < zi b ↔ a < b := by
  rw [Int32.lt_iff_toInt_lt, zi_toInt ha, zi_toInt hb]
theorem zi_le {a b : Int} (ha : -2147483648 ≤ a ∧ a ≤ 2147483647) (hb : -2147483648 ≤ b ∧ b ≤ 2147483647) : zi a ≤ zi b ↔ a ≤ b := by
  rw [Int32.le_iff_toInt_le, zi_toInt ha, zi_toInt hb]
theorem zi_eq {a b : Int} (ha : -2147483648 ≤ a ∧ a ≤ 2147483647) (hb : -2147483648 ≤ b ∧ b ≤ 2147483647) : zi a = zi b ↔ a = b := by
  rw [← Int32.toInt_inj, zi_toInt ha, zi_toInt hb]
theorem zj_lt {a b : Int} (ha : -9223372036854775808 ≤ a ∧ a ≤ 9223372036854775807) (hb : -9223372036854775808 ≤ b ∧ b ≤ 9223372036854775807) : zj a < zj b ↔ a < b := by
  rw [Int64.lt_iff_toInt_lt, zj_toInt ha, zj_toInt hb]
theorem zj_le {a b : Int} (ha : -9223372036854775808 ≤ a ∧ a ≤ 9223372036854775807) (hb : -9223372036854775808 ≤ b ∧ b ≤ 9223372036854775807) : zj a ≤ zj b ↔ a ≤ b := by
  rw [Int64.le_iff_toInt_le, zj_toInt ha, zj_toInt hb]
theorem zj_eq {a b : Int} (ha : -9223372036854775808 ≤ a ∧ a ≤ 9223372036854775807) (hb : -9223372036854775808 ≤ b ∧ b ≤ 9223372036854775807) : zj a = zj b ↔ a = b := by
  rw [← Int64.toInt_inj, zj_toInt ha, zj_toInt hb]
theorem zi_clamp (k : Nat) (h : k ≤ 2147483647) : (zi (k : Int)).toNatClampNeg = k := by rw [zi_nI]; exact nI_clamp (by omega)
theorem zi_in {z : Int} {k n : Nat} (hz : z = (k : Int)) (hk : k < n) (hn : n ≤ 2147483647) : vp_in (zi z) n := by rw [hz, zi_nI]; exact vp_in_nI hk (by omega)
def uZ (f : Nat → Int) (k : Nat) (x : Int) : Nat → Int := fun j => if j = k then x else f j
theorem uZ_s (f : Nat → Int) (k : Nat) (x : Int) : uZ f k x k = x := by simp [uZ]
theorem uZ_n {f : Nat → Int} {k j : Nat} {x : Int} (h : j ≠ k) : uZ f k x j = f j := by simp [uZ, h]
theorem uZ_i (f : Nat → Int) (k : Nat) (x : Int) : upd (fun j => zi (f j)) k (zi x) = fun j => zi (uZ f k x j) := by
  funext j
  by_cases h : j = k
  · subst h; rw [pk_us, uZ_s]
  · rw [pk_un h, uZ_n h]
theorem uZ_j (f : Nat → Int) (k : Nat) (x : Int) : vp_updL (fun j => zj (f j)) k (zj x) = fun j => zj (uZ f k x j) := by
  funext j
  by_cases h : j = k
  · subst h; rw [pk_uLs, uZ_s]
  · rw [pk_uLn h, uZ_n h]
/-- a truth on the stack -/
def bI (φ : Prop) [Decidable φ] : Int32 := if φ then 1 else 0
theorem bI1 {φ : Prop} [Decidable φ] (h : φ) : zi 1 = bI φ := by unfold bI; rw [if_pos h]; rfl
theorem bI0 {φ : Prop} [Decidable φ] (h : ¬ φ) : zi 0 = bI φ := by unfold bI; rw [if_neg h]; rfl
theorem bI_n {φ : Prop} [Decidable φ] : narrow .boolean (.int (bI φ)) = .int (bI φ) := by
  unfold bI
  by_cases h : φ
  · rw [if_pos h]; rfl
  · rw [if_neg h]; rfl
theorem bI_z {φ : Prop} [Decidable φ] : bI φ = 0 ↔ ¬ φ := by
  unfold bI
  by_cases h : φ
  · rw [if_pos h]; simp [h]
  · rw [if_neg h]; simp [h]
theorem bI_c {φ ψ : Prop} [Decidable φ] [Decidable ψ] (h : φ ↔ ψ) : bI φ = bI ψ := by
  unfold bI
  by_cases hp : φ
  · rw [if_pos hp, if_pos (h.mp hp)]
  · rw [if_neg hp, if_neg (fun q => hp (h.mpr q))]

section ZROWS
variable {p : Program} {l : Launch} {e : Env} {R : Room} {s : State} {m : MethodId} {args : Array Value} {below : List Frame} {meth : Method} {c : Code} {H : Heap} {locs : List Loc} {cells slots : Nat} {Q : State → Prop}
variable {cc : ByteArray} {pc : Nat} {ls : Array Slot} {rest : List Value}
theorem z_iconst (hx : p.tables.exec = Jvm.exec) (hb : c.code = cc) {n : Int} (hd : decode cc pc = .ok (.iconst n, 1)) (k : W p l e R s m args below meth c H locs cells slots Q (F0 m (pc + 1) ls (.int (zi n) :: rest))) : W p l e R s m args below meth c H locs cells slots Q (F0 m pc ls (rest)) := lv_iconst hx hb hd rfl k
theorem z_bipush (hx : p.tables.exec = Jvm.exec) (hb : c.code = cc) {n : Int} (hd : decode cc pc = .ok (.bipush n, 2)) (hv : (Int8.ofInt n).toInt32 = zi n) (k : W p l e R s m args below meth c H locs cells slots Q (F0 m (pc + 2) ls (.int (zi n) :: rest))) : W p l e R s m args below meth c H locs cells slots Q (F0 m pc ls (rest)) := lv_bipush hx hb hd hv k
theorem z_sipush (hx : p.tables.exec = Jvm.exec) (hb : c.code = cc) {n : Int} (hd : decode cc pc = .ok (.sipush n, 3)) (hv : (Int16.ofInt n).toInt32 = zi n) (k : W p l e R s m args below meth c H locs cells slots Q (F0 m (pc + 3) ls (.int (zi n) :: rest))) : W p l e R s m args below meth c H locs cells slots Q (F0 m pc ls (rest)) := lv_sipush hx hb hd hv k
theorem z_ldc (hx : p.tables.exec = Jvm.exec) (hb : c.code = cc) {own : String} {index : Nat} {v : Int32} (n : Int) (hown : s.vm.findClass own = some m.cls) (hc : (Jvm.Cond.constant own index v).before args s = true) (hv : v = zi n) (hd : decode cc pc = .ok (.ldc index, 2)) (k : W p l e R s m args below meth c H locs cells slots Q (F0 m (pc + 2) ls (.int (zi n) :: rest))) : W p l e R s m args below meth c H locs cells slots Q (F0 m pc ls (rest)) := lv_ldc hx hb hown hc hd (by rw [hv]; exact k)
theorem z_ldc2 (hx : p.tables.exec = Jvm.exec) (hb : c.code = cc) {own : String} {index : Nat} {v : Int64} (n : Int) (hown : s.vm.findClass own = some m.cls) (hc : (Jvm.Cond.constantLong own index v).before args s = true) (hv : v = zj n) (hd : decode cc pc = .ok (.ldc2_w index, 3)) (k : W p l e R s m args below meth c H locs cells slots Q (F0 m (pc + 3) ls (.long (zj n) :: rest))) : W p l e R s m args below meth c H locs cells slots Q (F0 m pc ls (rest)) := lv_ldc2 hx hb hown hc hd (by rw [hv]; exact k)
theorem z_lconst0 (hx : p.tables.exec = Jvm.exec) (hb : c.code = cc) (hd : decode cc pc = .ok (.lconst 0, 1)) (k : W p l e R s m args below meth c H locs cells slots Q (F0 m (pc + 1) ls (.long (zj 0) :: rest))) : W p l e R s m args below meth c H locs cells slots Q (F0 m pc ls (rest)) := lv_lconst hx hb hd rfl k
theorem z_lconst1 (hx : p.tables.exec = Jvm.exec) (hb : c.code = cc) (hd : decode cc pc = .ok (.lconst 1, 1)) (k : W p l e R s m args below meth c H locs cells slots Q (F0 m (pc + 1) ls (.long (zj 1) :: rest))) : W p l e R s m args below meth c H locs cells slots Q (F0 m pc ls (rest)) := lv_lconst hx hb hd rfl k
theorem z_iadd (hx : p.tables.exec = Jvm.exec) (hb : c.code = cc) {a b : Int} (hd : decode cc pc = .ok (.iadd, 1)) (k : W p l e R s m args below meth c H locs cells slots Q (F0 m (pc + 1) ls (.int (zi (a + b)) :: rest))) : W p l e R s m args below meth c H locs cells slots Q (F0 m pc ls (.int (zi b) :: .int (zi a) :: rest)) := lv_iadd hx hb hd (by rw [zi_add]; exact k)
theorem z_isub (hx : p.tables.exec = Jvm.exec) (hb : c.code = cc) {a b : Int} (hd : decode cc pc = .ok (.isub, 1)) (k : W p l e R s m args below meth c H locs cells slots Q (F0 m (pc + 1) ls (.int (zi (a - b)) :: rest))) : W p l e R s m args below meth c H locs cells slots Q (F0 m pc ls (.int (zi b) :: .int (zi a) :: rest)) := lv_isub hx hb hd (by rw [zi_sub]; exact k)
theorem z_imul (hx : p.tables.exec = Jvm.exec) (hb : c.code = cc) {a b : Int} (hd : decode cc pc = .ok (.imul, 1)) (k : W p l e R s m args below meth c H locs cells slots Q (F0 m (pc + 1) ls (.int (zi (a * b)) :: rest))) : W p l e R s m args below meth c H locs cells slots Q (F0 m pc ls (.int (zi b) :: .int (zi a) :: rest)) := lv_imul hx hb hd (by rw [zi_mul]; exact k)
theorem z_ladd (hx : p.tables.exec = Jvm.exec) (hb : c.code = cc) {a b : Int} (hd : decode cc pc = .ok (.ladd, 1)) (k : W p l e R s m args below meth c H locs cells slots Q (F0 m (pc + 1) ls (.long (zj (a + b)) :: rest))) : W p l e R s m args below meth c H locs cells slots Q (F0 m pc ls (.long (zj b) :: .long (zj a) :: rest)) := lv_ladd hx hb hd (by rw [zj_add]; exact k)
theorem z_lsub (hx : p.tables.exec = Jvm.exec) (hb : c.code = cc) {a b : Int} (hd : decode cc pc = .ok (.lsub, 1)) (k : W p l e R s m args below meth c H locs cells slots Q (F0 m (pc + 1) ls (.long (zj (a - b)) :: rest))) : W p l e R s m args below meth c H locs cells slots Q (F0 m pc ls (.long (zj b) :: .long (zj a) :: rest)) := lv_lsub hx hb hd (by rw [zj_sub]; exact k)
theorem z_lmul (hx : p.tables.exec = Jvm.exec) (hb : c.code = cc) {a b : Int} (hd : decode cc pc = .ok (.lmul, 1)) (k : W p l e R s m args below meth c H locs cells slots Q (F0 m (pc + 1) ls (.long (zj (a * b)) :: rest))) : W p l e R s m args below meth c H locs cells slots Q (F0 m pc ls (.long (zj b) :: .long (zj a) :: rest)) := lv_lmul hx hb hd (by rw [zj_mul]; exact k)
theorem z_ineg (hx : p.tables.exec = Jvm.exec) (hb : c.code = cc) {a : Int} (hd : decode cc pc = .ok (.ineg, 1)) (k : W p l e R s m args below meth c H locs cells slots Q (F0 m (pc + 1) ls (.int (zi (-a)) :: rest))) : W p l e R s m args below meth c H locs cells slots Q (F0 m pc ls (.int (zi a) :: rest)) := lv_ineg hx hb hd (by rw [zi_neg]; exact k)
theorem z_lneg (hx : p.tables.exec = Jvm.exec) (hb : c.code = cc) {a : Int} (hd : decode cc pc = .ok (.lneg, 1)) (k : W p l e R s m args below meth c H locs cells slots Q (F0 m (pc + 1) ls (.long (zj (-a)) :: rest))) : W p l e R s m args below meth c H locs cells slots Q (F0 m pc ls (.long (zj a) :: rest)) := lv_lneg hx hb hd (by rw [zj_neg]; exact k)
theorem z_idiv (hx : p.tables.exec = Jvm.exec) (hb : c.code = cc) {a b : Int} (h : 0 ≤ a ∧ a ≤ 2147483647 ∧ 0 < b ∧ b ≤ 2147483647) (hd : decode cc pc = .ok (.idiv, 1)) (k : W p l e R s m args below meth c H locs cells slots Q (F0 m (pc + 1) ls (.int (zi (a / b)) :: rest))) : W p l e R s m args below meth c H locs cells slots Q (F0 m pc ls (.int (zi b) :: .int (zi a) :: rest)) := lv_idiv hx hb hd (fun q => absurd ((zi_eq (b := 0) (by omega) (by omega)).mp q) (by omega)) (by rw [zi_div h]; exact k)
theorem z_ldiv (hx : p.tables.exec = Jvm.exec) (hb : c.code = cc) {a b : Int} (h : 0 ≤ a ∧ a ≤ 9223372036854775807 ∧ 0 < b ∧ b ≤ 9223372036854775807) (hd : decode cc pc = .ok (.ldiv, 1)) (k : W p l e R s m args below meth c H locs cells slots Q (F0 m (pc + 1) ls (.long (zj (a / b)) :: rest))) : W p l e R s m args below meth c H locs cells slots Q (F0 m pc ls (.long (zj b) :: .long (zj a) :: rest)) := lv_ldiv hx hb hd (fun q => absurd ((zj_eq (b := 0) (by omega) (by omega)).mp q) (by omega)) (by rw [zj_div h]; exact k)
theorem z_lrem (hx : p.tables.exec = Jvm.exec) (hb : c.code = cc) {a b : Int} (h : 0 ≤ a ∧ a ≤ 9223372036854775807 ∧ 0 < b ∧ b ≤ 9223372036854775807) (hd : decode cc pc = .ok (.lrem, 1)) (k : W p l e R s m args below meth c H locs cells slots Q (F0 m (pc + 1) ls (.long (zj (a % b)) :: rest))) : W p l e R s m args below meth c H locs cells slots Q (F0 m pc ls (.long (zj b) :: .long (zj a) :: rest)) := lv_lrem hx hb hd (fun q => absurd ((zj_eq (b := 0) (by omega) (by omega)).mp q) (by omega)) (by rw [zj_rem h]; exact k)
theorem z_i2l (hx : p.tables.exec = Jvm.exec) (hb : c.code = cc) {a : Int} (h : -2147483648 ≤ a ∧ a ≤ 2147483647) (hd : decode cc pc = .ok (.i2l, 1)) (k : W p l e R s m args below meth c H locs cells slots Q (F0 m (pc + 1) ls (.long (zj a) :: rest))) : W p l e R s m args below meth c H locs cells slots Q (F0 m pc ls (.int (zi a) :: rest)) := lv_i2l hx hb hd (zi_j h) k
theorem z_icmp_eq (hx : p.tables.exec = Jvm.exec) (hb : c.code = cc) {a b : Int} {off : Int} {tgt : Nat} (hd : decode cc pc = .ok (.if_icmp .eq off, 3)) (ht : (pc : Int) + off = (tgt : Int)) (ha : -2147483648 ≤ a ∧ a ≤ 2147483647) (hb2 : -2147483648 ≤ b ∧ b ≤ 2147483647) (kt : a = b → W p l e R s m args below meth c H locs cells slots Q (F0 m tgt ls (rest))) (kf : ¬ a = b → W p l e R s m args below meth c H locs cells slots Q (F0 m (pc + 3) ls (rest))) : W p l e R s m args below meth c H locs cells slots Q (F0 m pc ls (.int (zi b) :: .int (zi a) :: rest)) := lv_icmp_eq hx hb hd ht (fun q => kt ((zi_eq ha hb2).mp q)) (fun q => kf (fun z => q ((zi_eq ha hb2).mpr z)))
theorem z_if_eq (hx : p.tables.exec = Jvm.exec) (hb : c.code = cc) {a : Int} {off : Int} {tgt : Nat} (hd : decode cc pc = .ok (.ifCond .eq off, 3)) (ht : (pc : Int) + off = (tgt : Int)) (ha : -2147483648 ≤ a ∧ a ≤ 2147483647) (kt : a = 0 → W p l e R s m args below meth c H locs cells slots Q (F0 m tgt ls (rest))) (kf : ¬ a = 0 → W p l e R s m args below meth c H locs cells slots Q (F0 m (pc + 3) ls (rest))) : W p l e R s m args below meth c H locs cells slots Q (F0 m pc ls (.int (zi a) :: rest)) := lv_if_eq hx hb hd ht (fun q => kt ((zi_eq ha (show (-2147483648 : Int) ≤ 0 ∧ (0 : Int) ≤ 2147483647 by omega)).mp q)) (fun q => kf (fun z => q ((zi_eq ha (show (-2147483648 : Int) ≤ 0 ∧ (0 : Int) ≤ 2147483647 by omega)).mpr z)))
theorem z_icmp_ne (hx : p.tables.exec = Jvm.exec) (hb : c.code = cc) {a b : Int} {off : Int} {tgt : Nat} (hd : decode cc pc = .ok (.if_icmp .ne off, 3)) (ht : (pc : Int) + off = (tgt : Int)) (ha : -2147483648 ≤ a ∧ a ≤ 2147483647) (hb2 : -2147483648 ≤ b ∧ b ≤ 2147483647) (kt : ¬ a = b → W p l e R s m args below meth c H locs cells slots Q (F0 m tgt ls (rest))) (kf : a = b → W p l e R s m args below meth c H locs cells slots Q (F0 m (pc + 3) ls (rest))) : W p l e R s m args below meth c H locs cells slots Q (F0 m pc ls (.int (zi b) :: .int (zi a) :: rest)) := lv_icmp_ne hx hb hd ht (fun q => kt (fun z => q ((zi_eq ha hb2).mpr z))) (fun q => kf ((zi_eq ha hb2).mp (by first | exact q | exact Classical.byContradiction q)))
theorem z_if_ne (hx : p.tables.exec = Jvm.exec) (hb : c.code = cc) {a : Int} {off : Int} {tgt : Nat} (hd : decode cc pc = .ok (.ifCond .ne off, 3)) (ht : (pc : Int) + off = (tgt : Int)) (ha : -2147483648 ≤ a ∧ a ≤ 2147483647) (kt : ¬ a = 0 → W p l e R s m args below meth c H locs cells slots Q (F0 m tgt ls (rest))) (kf : a = 0 → W p l e R s m args below meth c H locs cells slots Q (F0 m (pc + 3) ls (rest))) : W p l e R s m args below meth c H locs cells slots Q (F0 m pc ls (.int (zi a) :: rest)) := lv_if_ne hx hb hd ht (fun q => kt (fun z => q ((zi_eq ha (show (-2147483648 : Int) ≤ 0 ∧ (0 : Int) ≤ 2147483647 by omega)).mpr z))) (fun q => kf ((zi_eq ha (show (-2147483648 : Int) ≤ 0 ∧ (0 : Int) ≤ 2147483647 by omega)).mp (by first | exact q | exact Classical.byContradiction q)))
theorem z_icmp_lt (hx : p.tables.exec = Jvm.exec) (hb : c.code = cc) {a b : Int} {off : Int} {tgt : Nat} (hd : decode cc pc = .ok (.if_icmp .lt off, 3)) (ht : (pc : Int) + off = (tgt : Int)) (ha : -2147483648 ≤ a ∧ a ≤ 2147483647) (hb2 : -2147483648 ≤ b ∧ b ≤ 2147483647) (kt : a < b → W p l e R s m args below meth c H locs cells slots Q (F0 m tgt ls (rest))) (kf : ¬ a < b → W p l e R s m args below meth c H locs cells slots Q (F0 m (pc + 3) ls (rest))) : W p l e R s m args below meth c H locs cells slots Q (F0 m pc ls (.int (zi b) :: .int (zi a) :: rest)) := lv_icmp_lt hx hb hd ht (fun q => kt ((zi_lt ha hb2).mp q)) (fun q => kf (fun z => q ((zi_lt ha hb2).mpr z)))
theorem z_if_lt (hx : p.tables.exec = Jvm.exec) (hb : c.code = cc) {a : Int} {off : Int} {tgt : Nat} (hd : decode cc pc = .ok (.ifCond .lt off, 3)) (ht : (pc : Int) + off = (tgt : Int)) (ha : -2147483648 ≤ a ∧ a ≤ 2147483647) (kt : a < 0 → W p l e R s m args below meth c H locs cells slots Q (F0 m tgt ls (rest))) (kf : ¬ a < 0 → W p l e R s m args below meth c H locs cells slots Q (F0 m (pc + 3) ls (rest))) : W p l e R s m args below meth c H locs cells slots Q (F0 m pc ls (.int (zi a) :: rest)) := lv_if_lt hx hb hd ht (fun q => kt ((zi_lt ha (show (-2147483648 : Int) ≤ 0 ∧ (0 : Int) ≤ 2147483647 by omega)).mp q)) (fun q => kf (fun z => q ((zi_lt ha (show (-2147483648 : Int) ≤ 0 ∧ (0 : Int) ≤ 2147483647 by omega)).mpr z)))
theorem z_icmp_ge (hx : p.tables.exec = Jvm.exec) (hb : c.code = cc) {a b : Int} {off : Int} {tgt : Nat} (hd : decode cc pc = .ok (.if_icmp .ge off, 3)) (ht : (pc : Int) + off = (tgt : Int)) (ha : -2147483648 ≤ a ∧ a ≤ 2147483647) (hb2 : -2147483648 ≤ b ∧ b ≤ 2147483647) (kt : b ≤ a → W p l e R s m args below meth c H locs cells slots Q (F0 m tgt ls (rest))) (kf : ¬ b ≤ a → W p l e R s m args below meth c H locs cells slots Q (F0 m (pc + 3) ls (rest))) : W p l e R s m args below meth c H locs cells slots Q (F0 m pc ls (.int (zi b) :: .int (zi a) :: rest)) := lv_icmp_ge hx hb hd ht (fun q => kt ((zi_le hb2 ha).mp q)) (fun q => kf (fun z => q ((zi_le hb2 ha).mpr z)))
theorem z_if_ge (hx : p.tables.exec = Jvm.exec) (hb : c.code = cc) {a : Int} {off : Int} {tgt : Nat} (hd : decode cc pc = .ok (.ifCond .ge off, 3)) (ht : (pc : Int) + off = (tgt : Int)) (ha : -2147483648 ≤ a ∧ a ≤ 2147483647) (kt : 0 ≤ a → W p l e R s m args below meth c H locs cells slots Q (F0 m tgt ls (rest))) (kf : ¬ 0 ≤ a → W p l e R s m args below meth c H locs cells slots Q (F0 m (pc + 3) ls (rest))) : W p l e R s m args below meth c H locs cells slots Q (F0 m pc ls (.int (zi a) :: rest)) := lv_if_ge hx hb hd ht (fun q => kt ((zi_le (show (-2147483648 : Int) ≤ 0 ∧ (0 : Int) ≤ 2147483647 by omega) ha).mp q)) (fun q => kf (fun z => q ((zi_le (show (-2147483648 : Int) ≤ 0 ∧ (0 : Int) ≤ 2147483647 by omega) ha).mpr z)))
theorem z_icmp_gt (hx : p.tables.exec = Jvm.exec) (hb : c.code = cc) {a b : Int} {off : Int} {tgt : Nat} (hd : decode cc pc = .ok (.if_icmp .gt off, 3)) (ht : (pc : Int) + off = (tgt : Int)) (ha : -2147483648 ≤ a ∧ a ≤ 2147483647) (hb2 : -2147483648 ≤ b ∧ b ≤ 2147483647) (kt : b < a → W p l e R s m args below meth c H locs cells slots Q (F0 m tgt ls (rest))) (kf : ¬ b < a → W p l e R s m args below meth c H locs cells slots Q (F0 m (pc + 3) ls (rest))) : W p l e R s m args below meth c H locs cells slots Q (F0 m pc ls (.int (zi b) :: .int (zi a) :: rest)) := lv_icmp_gt hx hb hd ht (fun q => kt ((zi_lt hb2 ha).mp q)) (fun q => kf (fun z => q ((zi_lt hb2 ha).mpr z)))
theorem z_if_gt (hx : p.tables.exec = Jvm.exec) (hb : c.code = cc) {a : Int} {off : Int} {tgt : Nat} (hd : decode cc pc = .ok (.ifCond .gt off, 3)) (ht : (pc : Int) + off = (tgt : Int)) (ha : -2147483648 ≤ a ∧ a ≤ 2147483647) (kt : 0 < a → W p l e R s m args below meth c H locs cells slots Q (F0 m tgt ls (rest))) (kf : ¬ 0 < a → W p l e R s m args below meth c H locs cells slots Q (F0 m (pc + 3) ls (rest))) : W p l e R s m args below meth c H locs cells slots Q (F0 m pc ls (.int (zi a) :: rest)) := lv_if_gt hx hb hd ht (fun q => kt ((zi_lt (show (-2147483648 : Int) ≤ 0 ∧ (0 : Int) ≤ 2147483647 by omega) ha).mp q)) (fun q => kf (fun z => q ((zi_lt (show (-2147483648 : Int) ≤ 0 ∧ (0 : Int) ≤ 2147483647 by omega) ha).mpr z)))
theorem z_icmp_le (hx : p.tables.exec = Jvm.exec) (hb : c.code = cc) {a b : Int} {off : Int} {tgt : Nat} (hd : decode cc pc = .ok (.if_icmp .le off, 3)) (ht : (pc : Int) + off = (tgt : Int)) (ha : -2147483648 ≤ a ∧ a ≤ 2147483647) (hb2 : -2147483648 ≤ b ∧ b ≤ 2147483647) (kt : a ≤ b → W p l e R s m args below meth c H locs cells slots Q (F0 m tgt ls (rest))) (kf : ¬ a ≤ b → W p l e R s m args below meth c H locs cells slots Q (F0 m (pc + 3) ls (rest))) : W p l e R s m args below meth c H locs cells slots Q (F0 m pc ls (.int (zi b) :: .int (zi a) :: rest)) := lv_icmp_le hx hb hd ht (fun q => kt ((zi_le ha hb2).mp q)) (fun q => kf (fun z => q ((zi_le ha hb2).mpr z)))
theorem z_if_le (hx : p.tables.exec = Jvm.exec) (hb : c.code = cc) {a : Int} {off : Int} {tgt : Nat} (hd : decode cc pc = .ok (.ifCond .le off, 3)) (ht : (pc : Int) + off = (tgt : Int)) (ha : -2147483648 ≤ a ∧ a ≤ 2147483647) (kt : a ≤ 0 → W p l e R s m args below meth c H locs cells slots Q (F0 m tgt ls (rest))) (kf : ¬ a ≤ 0 → W p l e R s m args below meth c H locs cells slots Q (F0 m (pc + 3) ls (rest))) : W p l e R s m args below meth c H locs cells slots Q (F0 m pc ls (.int (zi a) :: rest)) := lv_if_le hx hb hd ht (fun q => kt ((zi_le ha (show (-2147483648 : Int) ≤ 0 ∧ (0 : Int) ≤ 2147483647 by omega)).mp q)) (fun q => kf (fun z => q ((zi_le ha (show (-2147483648 : Int) ≤ 0 ∧ (0 : Int) ≤ 2147483647 by omega)).mpr z)))
theorem z_ifB_eq (hx : p.tables.exec = Jvm.exec) (hb : c.code = cc) {φ : Prop} [Decidable φ] {off : Int} {tgt : Nat} (hd : decode cc pc = .ok (.ifCond .eq off, 3)) (ht : (pc : Int) + off = (tgt : Int)) (kt : ¬ φ → W p l e R s m args below meth c H locs cells slots Q (F0 m tgt ls (rest))) (kf : φ → W p l e R s m args below meth c H locs cells slots Q (F0 m (pc + 3) ls (rest))) : W p l e R s m args below meth c H locs cells slots Q (F0 m pc ls (.int (bI φ) :: rest)) := lv_if_eq hx hb hd ht (fun q => kt (bI_z.mp q)) (fun q => kf (Decidable.byContradiction (fun z => q (bI_z.mpr z))))
theorem z_ifB_ne (hx : p.tables.exec = Jvm.exec) (hb : c.code = cc) {φ : Prop} [Decidable φ] {off : Int} {tgt : Nat} (hd : decode cc pc = .ok (.ifCond .ne off, 3)) (ht : (pc : Int) + off = (tgt : Int)) (kt : φ → W p l e R s m args below meth c H locs cells slots Q (F0 m tgt ls (rest))) (kf : ¬ φ → W p l e R s m args below meth c H locs cells slots Q (F0 m (pc + 3) ls (rest))) : W p l e R s m args below meth c H locs cells slots Q (F0 m pc ls (.int (bI φ) :: rest)) := lv_if_ne hx hb hd ht (fun q => kt (Decidable.byContradiction (fun z => q (bI_z.mpr z)))) (fun q => kf (fun z => absurd (bI_z.mp (by first | exact q | exact Classical.byContradiction q)) (fun y => y z)))
theorem z_lcmp_eq (hx : p.tables.exec = Jvm.exec) (hb : c.code = cc) {a b : Int} {off : Int} {tgt : Nat} (hd : decode cc pc = .ok (.lcmp, 1)) (hd2 : decode cc (pc + 1) = .ok (.ifCond .eq off, 3)) (ht : ((pc + 1 : Nat) : Int) + off = (tgt : Int)) (ha : -9223372036854775808 ≤ a ∧ a ≤ 9223372036854775807) (hb2 : -9223372036854775808 ≤ b ∧ b ≤ 9223372036854775807) (kt : a = b → W p l e R s m args below meth c H locs cells slots Q (F0 m tgt ls (rest))) (kf : ¬ a = b → W p l e R s m args below meth c H locs cells slots Q (F0 m (pc + 4) ls (rest))) : W p l e R s m args below meth c H locs cells slots Q (F0 m pc ls (.long (zj b) :: .long (zj a) :: rest)) := by
  refine W.lcmp hx hb hd ?_
  have e1 : (zj a).toInt = a := zj_toInt ha
  have e2 : (zj b).toInt = b := zj_toInt hb2
  refine lv_if_eq hx hb hd2 ht (fun q => kt ?_) (fun q => kf ?_)
  all_goals
    revert q
    unfold lg_cmp
    simp only [gt_iff_lt, Int64.lt_iff_toInt_lt, ← Int64.toInt_inj, e1, e2]
    split
    · first | (intro q; first | omega | exact absurd q (by decide))
    · split
      · first | (intro q; first | omega | exact absurd q (by decide))
      · first | (intro q; first | omega | exact absurd q (by decide))
theorem z_lcmp_ne (hx : p.tables.exec = Jvm.exec) (hb : c.code = cc) {a b : Int} {off : Int} {tgt : Nat} (hd : decode cc pc = .ok (.lcmp, 1)) (hd2 : decode cc (pc + 1) = .ok (.ifCond .ne off, 3)) (ht : ((pc + 1 : Nat) : Int) + off = (tgt : Int)) (ha : -9223372036854775808 ≤ a ∧ a ≤ 9223372036854775807) (hb2 : -9223372036854775808 ≤ b ∧ b ≤ 9223372036854775807) (kt : ¬ a = b → W p l e R s m args below meth c H locs cells slots Q (F0 m tgt ls (rest))) (kf : a = b → W p l e R s m args below meth c H locs cells slots Q (F0 m (pc + 4) ls (rest))) : W p l e R s m args below meth c H locs cells slots Q (F0 m pc ls (.long (zj b) :: .long (zj a) :: rest)) := by
  refine W.lcmp hx hb hd ?_
  have e1 : (zj a).toInt = a := zj_toInt ha
  have e2 : (zj b).toInt = b := zj_toInt hb2
  refine lv_if_ne hx hb hd2 ht (fun q => kt ?_) (fun q => kf ?_)
  all_goals
    revert q
    unfold lg_cmp
    simp only [gt_iff_lt, Int64.lt_iff_toInt_lt, ← Int64.toInt_inj, e1, e2]
    split
    · first | (intro q; first | omega | exact absurd q (by decide))
    · split
      · first | (intro q; first | omega | exact absurd q (by decide))
      · first | (intro q; first | omega | exact absurd q (by decide))
theorem z_lcmp_lt (hx : p.tables.exec = Jvm.exec) (hb : c.code = cc) {a b : Int} {off : Int} {tgt : Nat} (hd : decode cc pc = .ok (.lcmp, 1)) (hd2 : decode cc (pc + 1) = .ok (.ifCond .lt off, 3)) (ht : ((pc + 1 : Nat) : Int) + off = (tgt : Int)) (ha : -9223372036854775808 ≤ a ∧ a ≤ 9223372036854775807) (hb2 : -9223372036854775808 ≤ b ∧ b ≤ 9223372036854775807) (kt : a < b → W p l e R s m args below meth c H locs cells slots Q (F0 m tgt ls (rest))) (kf : ¬ a < b → W p l e R s m args below meth c H locs cells slots Q (F0 m (pc + 4) ls (rest))) : W p l e R s m args below meth c H locs cells slots Q (F0 m pc ls (.long (zj b) :: .long (zj a) :: rest)) := by
  refine W.lcmp hx hb hd ?_
  have e1 : (zj a).toInt = a := zj_toInt ha
  have e2 : (zj b).toInt = b := zj_toInt hb2
  refine lv_if_lt hx hb hd2 ht (fun q => kt ?_) (fun q => kf ?_)
  all_goals
    revert q
    unfold lg_cmp
    simp only [gt_iff_lt, Int64.lt_iff_toInt_lt, ← Int64.toInt_inj, e1, e2]
    split
    · first | (intro q; first | omega | exact absurd q (by decide))
    · split
      · first | (intro q; first | omega | exact absurd q (by decide))
      · first | (intro q; first | omega | exact absurd q (by decide))
theorem z_lcmp_ge (hx : p.tables.exec = Jvm.exec) (hb : c.code = cc) {a b : Int} {off : Int} {tgt : Nat} (hd : decode cc pc = .ok (.lcmp, 1)) (hd2 : decode cc (pc + 1) = .ok (.ifCond .ge off, 3)) (ht : ((pc + 1 : Nat) : Int) + off = (tgt : Int)) (ha : -9223372036854775808 ≤ a ∧ a ≤ 9223372036854775807) (hb2 : -9223372036854775808 ≤ b ∧ b ≤ 9223372036854775807) (kt : b ≤ a → W p l e R s m args below meth c H locs cells slots Q (F0 m tgt ls (rest))) (kf : ¬ b ≤ a → W p l e R s m args below meth c H locs cells slots Q (F0 m (pc + 4) ls (rest))) : W p l e R s m args below meth c H locs cells slots Q (F0 m pc ls (.long (zj b) :: .long (zj a) :: rest)) := by
  refine W.lcmp hx hb hd ?_
  have e1 : (zj a).toInt = a := zj_toInt ha
  have e2 : (zj b).toInt = b := zj_toInt hb2
  refine lv_if_ge hx hb hd2 ht (fun q => kt ?_) (fun q => kf ?_)
  all_goals
    revert q
    unfold lg_cmp
    simp only [gt_iff_lt, Int64.lt_iff_toInt_lt, ← Int64.toInt_inj, e1, e2]
    split
    · first | (intro q; first | omega | exact absurd q (by decide))
    · split
      · first | (intro q; first | omega | exact absurd q (by decide))
      · first | (intro q; first | omega | exact absurd q (by decide))
theorem z_lcmp_gt (hx : p.tables.exec = Jvm.exec) (hb : c.code = cc) {a b : Int} {off : Int} {tgt : Nat} (hd : decode cc pc = .ok (.lcmp, 1)) (hd2 : decode cc (pc + 1) = .ok (.ifCond .gt off, 3)) (ht : ((pc + 1 : Nat) : Int) + off = (tgt : Int)) (ha : -9223372036854775808 ≤ a ∧ a ≤ 9223372036854775807) (hb2 : -9223372036854775808 ≤ b ∧ b ≤ 9223372036854775807) (kt : b < a → W p l e R s m args below meth c H locs cells slots Q (F0 m tgt ls (rest))) (kf : ¬ b < a → W p l e R s m args below meth c H locs cells slots Q (F0 m (pc + 4) ls (rest))) : W p l e R s m args below meth c H locs cells slots Q (F0 m pc ls (.long (zj b) :: .long (zj a) :: rest)) := by
  refine W.lcmp hx hb hd ?_
  have e1 : (zj a).toInt = a := zj_toInt ha
  have e2 : (zj b).toInt = b := zj_toInt hb2
  refine lv_if_gt hx hb hd2 ht (fun q => kt ?_) (fun q => kf ?_)
  all_goals
    revert q
    unfold lg_cmp
    simp only [gt_iff_lt, Int64.lt_iff_toInt_lt, ← Int64.toInt_inj, e1, e2]
    split
    · first | (intro q; first | omega | exact absurd q (by decide))
    · split
      · first | (intro q; first | omega | exact absurd q (by decide))
      · first | (intro q; first | omega | exact absurd q (by decide))
theorem z_lcmp_le (hx : p.tables.exec = Jvm.exec) (hb : c.code = cc) {a b : Int} {off : Int} {tgt : Nat} (hd : decode cc pc = .ok (.lcmp, 1)) (hd2 : decode cc (pc + 1) = .ok (.ifCond .le off, 3)) (ht : ((pc + 1 : Nat) : Int) + off = (tgt : Int)) (ha : -9223372036854775808 ≤ a ∧ a ≤ 9223372036854775807) (hb2 : -9223372036854775808 ≤ b ∧ b ≤ 9223372036854775807) (kt : a ≤ b → W p l e R s m args below meth c H locs cells slots Q (F0 m tgt ls (rest))) (kf : ¬ a ≤ b → W p l e R s m args below meth c H locs cells slots Q (F0 m (pc + 4) ls (rest))) : W p l e R s m args below meth c H locs cells slots Q (F0 m pc ls (.long (zj b) :: .long (zj a) :: rest)) := by
  refine W.lcmp hx hb hd ?_
  have e1 : (zj a).toInt = a := zj_toInt ha
  have e2 : (zj b).toInt = b := zj_toInt hb2
  refine lv_if_le hx hb hd2 ht (fun q => kt ?_) (fun q => kf ?_)
  all_goals
    revert q
    unfold lg_cmp
    simp only [gt_iff_lt, Int64.lt_iff_toInt_lt, ← Int64.toInt_inj, e1, e2]
    split
    · first | (intro q; first | omega | exact absurd q (by decide))
    · split
      · first | (intro q; first | omega | exact absurd q (by decide))
      · first | (intro q; first | omega | exact absurd q (by decide))
end ZROWS
end
section
/-! the nest mates' links, which are carried along; what every method of the two systems takes as given -/
def NW (U : State) : Prop := va_Nw (.methodLinkNest RX3 9 yX2_init RX3) U ∧ va_Nw (.methodLinkNest RX3 18 yX0_init RX3) U ∧ va_Nw (.methodLinkNest RX3 25 yX1_init RX3) U ∧ va_Nw (.methodLinkNest RX2 25 yX3_isWithin RX3) U ∧ va_Nw (.methodLinkNest RX0 56 yX3_leastTerms RX3) U
theorem NW.warm {s U : State} (hW : s.WarmedH U.vm) (h : NW s) : NW U := ⟨va_Nw.warmM hW h.1, va_Nw.warmM hW h.2.1, va_Nw.warmM hW h.2.2.1, va_Nw.warmM hW h.2.2.2.1, va_Nw.warmM hW h.2.2.2.2⟩
theorem NW.same {u U : State} (hv : u.vm = U.vm) (h : NW u) : NW U := ⟨va_Nw.same rfl hv h.1, va_Nw.same rfl hv h.2.1, va_Nw.same rfl hv h.2.2.1, va_Nw.same rfl hv h.2.2.2.1, va_Nw.same rfl hv h.2.2.2.2⟩
def KK (D : va_G) (cI cJ : ClassId) (U : State) : Prop := va_K D vwCl [(cI, .int), (cJ, .long)] U ∧ NW U
theorem KK.warm {D : va_G} {cI cJ : ClassId} {s U : State} (hW : s.WarmedH U.vm) (h : KK D cI cJ s) : KK D cI cJ U := ⟨va_K.moved hW.alike h.1, h.2.warm hW⟩
theorem KK.call {D : va_G} {cI cJ : ClassId} {U : State} {g : JFrame} {mk : MethodId} {a : Array Value} (h : KK D cI cJ U) : KK D cI cJ (U.calling g mk a) := ⟨va_K.moved (u := U) (U := U.calling g mk a) (Vm.Alike.refl U.vm) h.1, h.2.same rfl⟩
def RM (f lo : Nat) : Room := { frames := f, cells := 0, slots := 0, locals := lo }
/-- the cells of a world -/
def inW (ws : va_W) (q : Nat) : Prop := ∃ (k : Nat) (e : va_E), ws[k]? = some (q, e)
def QR (v : Value) (Hh : Heap) : Array Value → State → Outcome → State → Prop := fun _ _ oc t => oc = .returned (some v) ∧ t.heap = Hh
/-- a method that reads: it answers v, the heap stays -/
def RD (D : va_G) (cI cJ : ClassId) (l : Launch) (y : MethodName) (cc : ByteArray) (n : Nat) (ret : Option FieldType) (f lo : Nat) (As : List Value) (ws : va_W) (v : Value) : Prop :=
  ∀ Hh : Heap, Met l y (Cond.code y cc n ret :: TT) (RM f lo) (va_Pc As (fun U => U.heap = Hh ∧ KK D cI cJ U ∧ va_P D vwCl ws Hh)) (QR v Hh) 0 0 (fun _ => False)
def QW (D : va_G) (ws : va_W) (Φ : Value → va_W → Prop) : Array Value → State → Outcome → State → Prop := fun _ st oc t => (∃ (v : Value) (ws' : va_W), oc = .returned (some v) ∧ Φ v ws' ∧ va_P D vwCl ws' t.heap) ∧ va_F (inW ws) st t
def QV (D : va_G) (ws : va_W) (Φ : va_W → Prop) : Array Value → State → Outcome → State → Prop := fun _ st oc t => (∃ (ws' : va_W), oc = .returned none ∧ Φ ws' ∧ va_P D vwCl ws' t.heap) ∧ va_F (inW ws) st t
def PW (D : va_G) (cI cJ : ClassId) (ws : va_W) (U : State) : Prop := KK D cI cJ U ∧ va_P D vwCl ws U.heap ∧ va_D (fun _ => True) ws
/-- a method that writes in its world and answers -/
def WR (D : va_G) (cI cJ : ClassId) (l : Launch) (y : MethodName) (cc : ByteArray) (n : Nat) (ret : Option FieldType) (f lo : Nat) (As : List Value) (ws : va_W) (Φ : Value → va_W → Prop) : Prop :=
  Met l y (Cond.code y cc n ret :: TT) (RM f lo) (va_Pc As (PW D cI cJ ws)) (QW D ws Φ) 0 0 (inW ws)
/-- a method that writes in its world, without an answer -/
def WV (D : va_G) (cI cJ : ClassId) (l : Launch) (y : MethodName) (cc : ByteArray) (n : Nat) (f lo : Nat) (As : List Value) (ws : va_W) (Φ : va_W → Prop) : Prop :=
  Met l y (Cond.code y cc n none :: TT) (RM f lo) (va_Pc As (PW D cI cJ ws)) (QV D ws Φ) 0 0 (inW ws)
theorem va_D.inW {ws : va_W} {A : Nat → Prop} (h : va_D A ws) : va_D (inW ws) ws := ⟨h.1, fun k q hk => ⟨k, q.2, hk⟩⟩
/-- apartness is of the addresses alone -/
theorem va_D.same {A : Nat → Prop} {ws ws' : va_W} (h : va_D A ws) (he : ws.map Prod.fst = ws'.map Prod.fst) : va_D A ws' := by
  have at' : ∀ (i : Nat) (q : Nat × va_E), ws'[i]? = some q → ∃ e, ws[i]? = some (q.1, e) := by
    intro i q hq
    have h1 : (ws'.map Prod.fst)[i]? = some q.1 := by rw [List.getElem?_map, hq]; rfl
    rw [← he, List.getElem?_map] at h1
    cases hw : ws[i]? with
    | none => rw [hw] at h1; cases h1
    | some x =>
      rw [hw] at h1
      have h2 : x.1 = q.1 := Option.some.inj h1
      exact ⟨x.2, by rw [← h2]⟩
  refine ⟨fun i j p q hp hq e => ?_, fun k q hk => ?_⟩
  · obtain ⟨e1, h1⟩ := at' i p hp
    obtain ⟨e2, h2⟩ := at' j q hq
    exact h.1 i j _ _ h1 h2 e
  · obtain ⟨e1, h1⟩ := at' k q hk
    exact h.2 k (q.1, e1) h1
theorem RD.of {D : va_G} {cI cJ : ClassId} {l : Launch} {y : MethodName} {cc : ByteArray} {n : Nat} {ret : Option FieldType} {f lo : Nat} {As : List Value} {ws : va_W} {v : Value} (hy : plainName y.cls = true) (hn : (lg_sl As).length ≤ n)
    (body : ∀ (p : Program) (e : Env) (s : State) (m : MethodId) (args : Array Value) (below : List Frame) (meth : Method) (c : Code), p.tables.exec = Jvm.exec → c.code = cc → meth.sig.returnType = ret → c.maxLocals = n → s.vm.findClass y.cls = some m.cls → (∀ w ∈ TT, w.before args s = true) → meth.locks = false → KK D cI cJ s → va_P D vwCl ws s.heap → ∀ ls : Array Slot, lv_has ls n (lv_args 0 As) →
      W p l e (RM f lo) s m args below meth c s.heap [] 0 0 (MQ below (QR v s.heap) args s 0 0 (fun _ => False)) (F0 m 0 ls [])) : RD D cI cJ l y cc n ret f lo As ws v := by
  intro Hh
  refine Met.ofW (cc := cc) (maxL := n) (ret := ret) hy rfl ?_
  intro p e s m args below meth c s₁ B hml hv
  obtain ⟨rfl, hh, hK, hP⟩ := hv
  have hts := atoms_spec (ws := Cond.code y cc n ret :: TT) B.pre
  have hown : s.vm.findClass y.cls = some m.cls := findClass_of_methodNamed B.named
  rw [lg_entry_eq]
  subst hh
  exact body p e s m _ below meth c B.exec B.bytes B.returns hml hown (fun w h => hts w (List.mem_cons_of_mem _ h)) B.notSynchronized hK hP _ (lv_entry As hn)
theorem WR.of {D : va_G} {cI cJ : ClassId} {l : Launch} {y : MethodName} {cc : ByteArray} {n : Nat} {ret : Option FieldType} {f lo : Nat} {As : List Value} {ws : va_W} {Φ : Value → va_W → Prop} (hy : plainName y.cls = true) (hn : (lg_sl As).length ≤ n)
    (body : ∀ (p : Program) (e : Env) (s : State) (m : MethodId) (args : Array Value) (below : List Frame) (meth : Method) (c : Code), p.tables.exec = Jvm.exec → c.code = cc → meth.sig.returnType = ret → c.maxLocals = n → s.vm.findClass y.cls = some m.cls → (∀ w ∈ TT, w.before args s = true) → meth.locks = false → KK D cI cJ s → va_P D vwCl ws s.heap → va_D (inW ws) ws → va_S (inW ws) s.heap s.heap [] → ∀ ls : Array Slot, lv_has ls n (lv_args 0 As) →
      W p l e (RM f lo) s m args below meth c s.heap [] 0 0 (MQ below (QW D ws Φ) args s 0 0 (inW ws)) (F0 m 0 ls [])) : WR D cI cJ l y cc n ret f lo As ws Φ := by
  refine Met.ofW (cc := cc) (maxL := n) (ret := ret) hy rfl ?_
  intro p e s m args below meth c s₁ B hml hv
  obtain ⟨rfl, hK, hP, hD⟩ := hv
  have hts := atoms_spec (ws := Cond.code y cc n ret :: TT) B.pre
  have hown : s.vm.findClass y.cls = some m.cls := findClass_of_methodNamed B.named
  rw [lg_entry_eq]
  exact body p e s m _ below meth c B.exec B.bytes B.returns hml hown (fun w h => hts w (List.mem_cons_of_mem _ h)) B.notSynchronized hK hP hD.inW va_S.rf _ (lv_entry As hn)
theorem WV.of {D : va_G} {cI cJ : ClassId} {l : Launch} {y : MethodName} {cc : ByteArray} {n : Nat} {f lo : Nat} {As : List Value} {ws : va_W} {Φ : va_W → Prop} (hy : plainName y.cls = true) (hn : (lg_sl As).length ≤ n)
    (body : ∀ (p : Program) (e : Env) (s : State) (m : MethodId) (args : Array Value) (below : List Frame) (meth : Method) (c : Code), p.tables.exec = Jvm.exec → c.code = cc → meth.sig.returnType = none → c.maxLocals = n → s.vm.findClass y.cls = some m.cls → (∀ w ∈ TT, w.before args s = true) → meth.locks = false → KK D cI cJ s → va_P D vwCl ws s.heap → va_D (inW ws) ws → va_S (inW ws) s.heap s.heap [] → ∀ ls : Array Slot, lv_has ls n (lv_args 0 As) →
      W p l e (RM f lo) s m args below meth c s.heap [] 0 0 (MQ below (QV D ws Φ) args s 0 0 (inW ws)) (F0 m 0 ls [])) : WV D cI cJ l y cc n f lo As ws Φ := by
  refine Met.ofW (cc := cc) (maxL := n) (ret := none) hy rfl ?_
  intro p e s m args below meth c s₁ B hml hv
  obtain ⟨rfl, hK, hP, hD⟩ := hv
  have hts := atoms_spec (ws := Cond.code y cc n none :: TT) B.pre
  have hown : s.vm.findClass y.cls = some m.cls := findClass_of_methodNamed B.named
  rw [lg_entry_eq]
  exact body p e s m _ below meth c B.exec B.bytes B.returns hml hown (fun w h => hts w (List.mem_cons_of_mem _ h)) B.notSynchronized hK hP hD.inW va_S.rf _ (lv_entry As hn)
section ZCALL
variable {p : Program} {l : Launch} {e : Env} {R : Room} {s : State} {m : MethodId} {args : Array Value} {below : List Frame} {meth : Method} {c : Code} {H : Heap} {locs : List Loc} {cells slots : Nat} {Q : State → Prop}
variable {cc : ByteArray} {pc : Nat} {ls : Array Slot} {rest : List Value} {D : va_G} {cI cJ : ClassId}
-- ends
theorem rd_iret (hx : p.tables.exec = Jvm.exec) (hb : c.code = cc) (hr : meth.sig.returnType = some .int) (hlk : meth.locks = false) {x : Int32} {v : Value} (hd : decode cc pc = .ok (.ireturn, 1)) (hv : v = .int x) : W p l e R s m args below meth c H [] 0 0 (MQ below (QR v H) args s 0 0 (fun _ => False)) (F0 m pc ls [.int x]) :=
  W.iret hx hb hr (fun t ht _ => ⟨by rw [hv], ht⟩) (fun q h => by cases h) hd hlk
theorem rd_zret (hx : p.tables.exec = Jvm.exec) (hb : c.code = cc) (hr : meth.sig.returnType = some .boolean) (hlk : meth.locks = false) {φ : Prop} [Decidable φ] {x : Int32} (hd : decode cc pc = .ok (.ireturn, 1)) (hv : x = bI φ) : W p l e R s m args below meth c H [] 0 0 (MQ below (QR (.int (bI φ)) H) args s 0 0 (fun _ => False)) (F0 m pc ls [.int x]) :=
  W.zret hx hb hr (by rw [hv]; exact bI_n) (fun t ht _ => ⟨by rw [hv], ht⟩) (fun q h => by cases h) hd hlk
theorem rd_lret (hx : p.tables.exec = Jvm.exec) (hb : c.code = cc) (hr : meth.sig.returnType = some .long) (hlk : meth.locks = false) {x : Int64} {v : Value} (hd : decode cc pc = .ok (.lreturn, 1)) (hv : v = .long x) : W p l e R s m args below meth c H [] 0 0 (MQ below (QR v H) args s 0 0 (fun _ => False)) (F0 m pc ls [.long x]) :=
  W.lret hx hb hr (fun t ht _ => ⟨by rw [hv], ht⟩) (fun q h => by cases h) hd hlk
theorem wr_iret (hx : p.tables.exec = Jvm.exec) (hb : c.code = cc) (hr : meth.sig.returnType = some .int) (hlk : meth.locks = false) {x : Int32} {ws ws' : va_W} {Φ : Value → va_W → Prop} (hd : decode cc pc = .ok (.ireturn, 1)) (hP : va_P D vwCl ws' H) (hS : va_S (inW ws) s.heap H locs) (hv : Φ (.int x) ws') : W p l e R s m args below meth c H locs cells slots (MQ below (QW D ws Φ) args s cells slots (inW ws)) (F0 m pc ls [.int x]) :=
  W.iret hx hb hr (fun t ht _ => ⟨⟨_, ws', rfl, hv, by rw [ht]; exact hP⟩, hS.F ht⟩) hS.2.2 hd hlk
theorem wr_zret (hx : p.tables.exec = Jvm.exec) (hb : c.code = cc) (hr : meth.sig.returnType = some .boolean) (hlk : meth.locks = false) {φ : Prop} [Decidable φ] {x : Int32} {ws ws' : va_W} {Φ : Value → va_W → Prop} (hd : decode cc pc = .ok (.ireturn, 1)) (hx2 : x = bI φ) (hP : va_P D vwCl ws' H) (hS : va_S (inW ws) s.heap H locs) (hv : Φ (.int (bI φ)) ws') : W p l e R s m args below meth c H locs cells slots (MQ below (QW D ws Φ) args s cells slots (inW ws)) (F0 m pc ls [.int x]) := by
  subst hx2
  exact W.zret hx hb hr bI_n (fun t ht _ => ⟨⟨_, ws', rfl, hv, by rw [ht]; exact hP⟩, hS.F ht⟩) hS.2.2 hd hlk
theorem wr_lret (hx : p.tables.exec = Jvm.exec) (hb : c.code = cc) (hr : meth.sig.returnType = some .long) (hlk : meth.locks = false) {x : Int64} {ws ws' : va_W} {Φ : Value → va_W → Prop} (hd : decode cc pc = .ok (.lreturn, 1)) (hP : va_P D vwCl ws' H) (hS : va_S (inW ws) s.heap H locs) (hv : Φ (.long x) ws') : W p l e R s m args below meth c H locs cells slots (MQ below (QW D ws Φ) args s cells slots (inW ws)) (F0 m pc ls [.long x]) :=
  W.lret hx hb hr (fun t ht _ => ⟨⟨_, ws', rfl, hv, by rw [ht]; exact hP⟩, hS.F ht⟩) hS.2.2 hd hlk
theorem wv_ret (hx : p.tables.exec = Jvm.exec) (hb : c.code = cc) (hr : meth.sig.returnType = none) (hlk : meth.locks = false) {ws ws' : va_W} {Φ : va_W → Prop} (hd : decode cc pc = .ok (.return_, 1)) (hP : va_P D vwCl ws' H) (hS : va_S (inW ws) s.heap H locs) (hv : Φ ws') : W p l e R s m args below meth c H locs cells slots (MQ below (QV D ws Φ) args s cells slots (inW ws)) (F0 m pc ls []) :=
  W.vret hx hb hr (fun t ht _ => ⟨⟨ws', rfl, hv, by rw [ht]; exact hP⟩, hS.F ht⟩) hS.2.2 hd hlk
-- what is known of a callee
def CalS (y : MethodName) (cc : ByteArray) (maxL : Nat) (ret : Option FieldType) (n : Nat) : Prop := Cond.code y cc maxL ret ∈ TT ∧ Cond.static y ∈ TT ∧ Cond.initialized y.cls ∈ TT ∧ (y.cls ≠ "java/lang/invoke/MethodHandle" ∧ y.cls ≠ "java/lang/invoke/VarHandle" ∧ (parseMethodDescriptor y.desc).map (fun d => d.parameters.length) = some n)
def CalV (y : MethodName) (cc : ByteArray) (maxL : Nat) (ret : Option FieldType) (n : Nat) : Prop := Cond.code y cc maxL ret ∈ TT ∧ Cond.instanceMethod y ∈ TT ∧ Cond.selects y.cls y y ∈ TT ∧ Cond.initialized y.cls ∈ TT ∧ (y.cls ≠ "java/lang/invoke/MethodHandle" ∧ y.cls ≠ "java/lang/invoke/VarHandle" ∧ (parseMethodDescriptor y.desc).map (fun d => d.parameters.length) = some n)
theorem TT_wd {y : MethodName} {cc : ByteArray} {maxL : Nat} {ret : Option FieldType} (h : Cond.code y cc maxL ret ∈ TT) : GoodIn TT (Cond.code y cc maxL ret :: TT) := fun w hw => (List.mem_cons.mp hw).elim (fun e => by rw [e]; exact TT_good _ h) (fun h => TT_good _ h)
theorem rd_run {v : Value} {mc : Nat} (hmc : mc = 0) {Hh : Heap} {a : Array Value} {g : JFrame} {st : List Value} (hr : va_Run p l e R s m args below meth c H locs cells slots mc mc (F0 m pc ls st) rest (QR v H a) (fun _ => False))
    (kk : W p l e R s m args below meth c H locs cells slots Q (F0 m (pc + 3) ls (v :: rest))) : W p l e R s m args below meth c H locs cells slots Q (F0 m pc ls st) := by
  subst hmc
  intro T hT X
  obtain ⟨v1, st₀, t, T', L, h0, X', hL, e1, e2, ⟨hv, hh⟩, stp⟩ := hr T hT X
  cases hv
  have hL0 : L = [] := List.eq_nil_iff_forall_not_mem.mpr (fun q hq => hL q hq)
  subst hL0
  rw [List.append_nil] at X'
  obtain ⟨t2, a1, b1⟩ := kk T' (e1.trans hh) X'
  exact ⟨t2, stp t2 a1, b1⟩
theorem rd_S (hx : p.tables.exec = Jvm.exec) (hb : c.code = cc) {nL : Nat} (hml : c.maxLocals = nL) {own : String} (hown : s.vm.findClass own = some m.cls) (hT : ∀ w ∈ TT, w.before args s = true) (hK : KK D cI cJ s) {y : MethodName} {bytes : ByteArray} {maxL n f lo idx : Nat} {ret : Option FieldType} {As st : List Value} {ws : va_W} {v : Value}
    (hM : RD D cI cJ l y bytes maxL ret f lo As ws v) (hc : CalS y bytes maxL ret n) (hl : Cond.methodLink own idx y ∈ TT) (hP : va_P D vwCl ws H) (hR : f + 1 ≤ R.frames ∧ 8 + (maxL + 11) + lo ≤ R.locals) (hn : As.length = n) (hsz : ls.size = nL) (hst : st = As.reverse ++ rest) (hcat : (rest.map fun v => v.category).sum ≤ 8) (hf : cells + 0 ≤ R.cells ∧ slots + 0 ≤ R.slots) (hd : decode cc pc = .ok (.invokestatic idx, 3))
    (kk : W p l e R s m args below meth c H locs cells slots Q (F0 m (pc + 3) ls (v :: rest))) : W p l e R s m args below meth c H locs cells slots Q (F0 m pc ls st) := by
  refine rd_run (Hh := H) (g := F0 m pc ls st) rfl (va_runS (As := As) (rest := rest) (Ts := TT) ⟨hx, hb, hml, hown, hT⟩ (hM H) ⟨callB_of n hT (TT_wd hc.1) rfl rfl rfl (hT _ hc.2.2.1) (hT _ hl) hc.2.2.2 hR, hT _ hc.2.1⟩ ⟨fun a U g mk q => ⟨q.1, q.2.1, q.2.2.1.call, q.2.2.2⟩, fun U hU hW => ⟨rfl, hU, hK.warm hW, hP⟩⟩ rfl hn hsz hst (lv_room hcat) hd hf) kk
theorem rd_V (hx : p.tables.exec = Jvm.exec) (hb : c.code = cc) {nL : Nat} (hml : c.maxLocals = nL) {own : String} (hown : s.vm.findClass own = some m.cls) (hT : ∀ w ∈ TT, w.before args s = true) (hK : KK D cI cJ s) {y : MethodName} {bytes : ByteArray} {maxL n f lo idx b : Nat} {ret : Option FieldType} {As st : List Value} {ws : va_W} {v : Value}
    (hM : RD D cI cJ l y bytes maxL ret f lo (.ref b :: As) ws v) (hc : CalV y bytes maxL ret n) (hl : Cond.methodLink own idx y ∈ TT) (hP : va_P D vwCl ws H) (q0 ci : Nat) {q : vw_C} {fs : List Value} (hcl : vwCl[ci]? = some q) (hq : q.1 = y.cls) (he : ws[q0]? = some (b, .inr (ci, fs))) (hR : f + 1 ≤ R.frames ∧ 8 + (maxL + 11) + lo ≤ R.locals) (hn : As.length = n) (hsz : ls.size = nL) (hst : st = As.reverse ++ .ref b :: rest) (hcat : (rest.map fun v => v.category).sum ≤ 8) (hf : cells + 0 ≤ R.cells ∧ slots + 0 ≤ R.slots) (hd : decode cc pc = .ok (.invokevirtual idx, 3))
    (kk : W p l e R s m args below meth c H locs cells slots Q (F0 m (pc + 3) ls (v :: rest))) : W p l e R s m args below meth c H locs cells slots Q (F0 m pc ls st) := by
  refine rd_run (Hh := H) (g := F0 m pc ls st) rfl (va_runV (As := As) (rest := rest) (Ts := TT) (C := y.cls) ⟨hx, hb, hml, hown, hT⟩ (hM H) ⟨callB_of n hT (TT_wd hc.1) rfl rfl rfl (hT _ hc.2.2.2.1) (hT _ hl) hc.2.2.2.2 hR, hT _ hc.2.1, hT _ hc.2.2.1⟩ ⟨fun a U g mk q => ⟨q.1, q.2.1, q.2.2.1.call, q.2.2.2⟩, by rw [← hq]; exact va_recv hK.1 hP hcl he, fun U hU hW => ⟨rfl, hU, hK.warm hW, hP⟩⟩ rfl hn hsz hst (lv_room hcat) hd hf) kk
theorem rd_SN (hx : p.tables.exec = Jvm.exec) (hb : c.code = cc) {nL : Nat} (hml : c.maxLocals = nL) {own host : String} (hown : s.vm.findClass own = some m.cls) (hT : ∀ w ∈ TT, w.before args s = true) (hK : KK D cI cJ s) {y : MethodName} {bytes : ByteArray} {maxL n f lo idx : Nat} {ret : Option FieldType} {As st : List Value} {ws : va_W} {v : Value}
    (hM : RD D cI cJ l y bytes maxL ret f lo As ws v) (hc : CalS y bytes maxL ret n) (hl : va_Nw (.methodLinkNest own idx y host) s) (hP : va_P D vwCl ws H) (hR : f + 1 ≤ R.frames ∧ 8 + (maxL + 11) + lo ≤ R.locals) (hn : As.length = n) (hsz : ls.size = nL) (hst : st = As.reverse ++ rest) (hcat : (rest.map fun v => v.category).sum ≤ 8) (hf : cells + 0 ≤ R.cells ∧ slots + 0 ≤ R.slots) (hd : decode cc pc = .ok (.invokestatic idx, 3))
    (kk : W p l e R s m args below meth c H locs cells slots Q (F0 m (pc + 3) ls (v :: rest))) : W p l e R s m args below meth c H locs cells slots Q (F0 m pc ls st) := by
  refine rd_run (Hh := H) (g := F0 m pc ls st) rfl (va_runSN (As := As) (rest := rest) (Ts := TT) ⟨hx, hb, hml, hown, hT⟩ (hM H) ⟨va_cnB n hT (TT_wd hc.1) rfl rfl rfl hl (hT _ hc.2.2.1) hc.2.2.2 hR, hT _ hc.2.1, trivial⟩ ⟨fun a U g mk q => ⟨q.1, q.2.1, q.2.2.1.call, q.2.2.2⟩, fun U hU hW => ⟨rfl, hU, hK.warm hW, hP⟩⟩ rfl hn hsz hst (lv_room hcat) hd hf) kk
variable {A0 : Nat → Prop} {H0 : Heap}
theorem wr_V (hx : p.tables.exec = Jvm.exec) (hb : c.code = cc) {nL : Nat} (hml : c.maxLocals = nL) {own : String} (hown : s.vm.findClass own = some m.cls) (hT : ∀ w ∈ TT, w.before args s = true) (hK : KK D cI cJ s) {y : MethodName} {bytes : ByteArray} {maxL n f lo idx b : Nat} {ret : Option FieldType} {As st : List Value} {ws : va_W} {Φ : Value → va_W → Prop}
    (hM : WR D cI cJ l y bytes maxL ret f lo (.ref b :: As) ws Φ) (hc : CalV y bytes maxL ret n) (hl : Cond.methodLink own idx y ∈ TT) (hP : va_P D vwCl ws H) {A : Nat → Prop} (hD : va_D A ws) (hS : va_S A0 H0 H locs) (hA : ∀ q, inW ws q → A0 q) (q0 ci : Nat) {q : vw_C} {fs : List Value} (hcl : vwCl[ci]? = some q) (hq : q.1 = y.cls) (he : ws[q0]? = some (b, .inr (ci, fs))) (hR : f + 1 ≤ R.frames ∧ 8 + (maxL + 11) + lo ≤ R.locals) (hn : As.length = n) (hsz : ls.size = nL) (hst : st = As.reverse ++ .ref b :: rest) (hcat : (rest.map fun v => v.category).sum ≤ 8) (hf : cells + 0 ≤ R.cells ∧ slots + 0 ≤ R.slots) (hd : decode cc pc = .ok (.invokevirtual idx, 3))
    (kk : ∀ (v : Value) (ws' : va_W) (H1 : Heap) (locs1 : List Loc), Φ v ws' → va_P D vwCl ws' H1 → H.size ≤ H1.size → (∀ q : Nat, q < H.size → ¬ inW ws q → H1[q]? = H[q]?) → va_S A0 H0 H1 locs1 → W p l e R s m args below meth c H1 locs1 cells slots Q (F0 m (pc + 3) ls (v :: rest))) : W p l e R s m args below meth c H locs cells slots Q (F0 m pc ls st) := by
  have hr := va_runV (p := p) (l := l) (e := e) (R := R) (below := below) (meth := meth) (H := H) (locs := locs) (cells := cells) (slots := slots) (g := F0 m pc ls st) (As := As) (rest := rest) (Ts := TT) (C := y.cls) ⟨hx, hb, hml, hown, hT⟩ hM ⟨callB_of n hT (TT_wd hc.1) rfl rfl rfl (hT _ hc.2.2.2.1) (hT _ hl) hc.2.2.2.2 hR, hT _ hc.2.1, hT _ hc.2.2.1⟩ ⟨fun a U g mk q => ⟨q.1, q.2.1.call, q.2.2.1, q.2.2.2⟩, by rw [← hq]; exact va_recv hK.1 hP hcl he, fun U hU hW => ⟨rfl, hK.warm hW, by rw [hU]; exact hP, hD.weaken (fun _ _ _ _ => trivial)⟩⟩ rfl hn hsz hst (lv_room hcat) hd hf
  intro T hT2 X
  obtain ⟨v1, st₀, t, T', L, h0, X', hL, e1, e2, ⟨⟨v, ws', hv, hφ, hPn⟩, hz, hk⟩, stp⟩ := hr T hT2 X
  cases hv
  rw [h0] at hz hk
  obtain ⟨t2, a1, b1⟩ := kk v ws' T'.heap (locs ++ L) hφ (by rw [e1]; exact hPn) (by rw [e1]; exact hz) (fun q h1 h2 => by rw [e1]; exact hk q h1 h2)
    ⟨Nat.le_trans hS.1 (by rw [e1]; exact hz), fun q h1 h2 => by rw [e1, hk q (Nat.lt_of_lt_of_le h1 hS.1) (fun z => h2 (hA q z))]; exact hS.2.1 q h1 h2, fun q hq => by
      rcases List.mem_append.mp hq with h | h
      · exact hS.2.2 q h
      · exact hA _ (hL q h)⟩ T' rfl X'
  exact ⟨t2, stp t2 a1, b1⟩
theorem wv_V (hx : p.tables.exec = Jvm.exec) (hb : c.code = cc) {nL : Nat} (hml : c.maxLocals = nL) {own : String} (hown : s.vm.findClass own = some m.cls) (hT : ∀ w ∈ TT, w.before args s = true) (hK : KK D cI cJ s) {y : MethodName} {bytes : ByteArray} {maxL n f lo idx b : Nat} {As st : List Value} {ws : va_W} {Φ : va_W → Prop}
    (hM : WV D cI cJ l y bytes maxL f lo (.ref b :: As) ws Φ) (hc : CalV y bytes maxL none n) (hl : Cond.methodLink own idx y ∈ TT) (hP : va_P D vwCl ws H) {A : Nat → Prop} (hD : va_D A ws) (hS : va_S A0 H0 H locs) (hA : ∀ q, inW ws q → A0 q) (q0 ci : Nat) {q : vw_C} {fs : List Value} (hcl : vwCl[ci]? = some q) (hq : q.1 = y.cls) (he : ws[q0]? = some (b, .inr (ci, fs))) (hR : f + 1 ≤ R.frames ∧ 8 + (maxL + 11) + lo ≤ R.locals) (hn : As.length = n) (hsz : ls.size = nL) (hst : st = As.reverse ++ .ref b :: rest) (hcat : (rest.map fun v => v.category).sum ≤ 8) (hf : cells + 0 ≤ R.cells ∧ slots + 0 ≤ R.slots) (hd : decode cc pc = .ok (.invokevirtual idx, 3))
    (kk : ∀ (ws' : va_W) (H1 : Heap) (locs1 : List Loc), Φ ws' → va_P D vwCl ws' H1 → H.size ≤ H1.size → (∀ q : Nat, q < H.size → ¬ inW ws q → H1[q]? = H[q]?) → va_S A0 H0 H1 locs1 → W p l e R s m args below meth c H1 locs1 cells slots Q (F0 m (pc + 3) ls rest)) : W p l e R s m args below meth c H locs cells slots Q (F0 m pc ls st) := by
  have hr := va_runV (p := p) (l := l) (e := e) (R := R) (below := below) (meth := meth) (H := H) (locs := locs) (cells := cells) (slots := slots) (g := F0 m pc ls st) (As := As) (rest := rest) (Ts := TT) (C := y.cls) ⟨hx, hb, hml, hown, hT⟩ hM ⟨callB_of n hT (TT_wd hc.1) rfl rfl rfl (hT _ hc.2.2.2.1) (hT _ hl) hc.2.2.2.2 hR, hT _ hc.2.1, hT _ hc.2.2.1⟩ ⟨fun a U g mk q => ⟨q.1, q.2.1.call, q.2.2.1, q.2.2.2⟩, by rw [← hq]; exact va_recv hK.1 hP hcl he, fun U hU hW => ⟨rfl, hK.warm hW, by rw [hU]; exact hP, hD.weaken (fun _ _ _ _ => trivial)⟩⟩ rfl hn hsz hst (lv_room hcat) hd hf
  intro T hT2 X
  obtain ⟨v1, st₀, t, T', L, h0, X', hL, e1, e2, ⟨⟨ws', hv, hφ, hPn⟩, hz, hk⟩, stp⟩ := hr T hT2 X
  cases hv
  rw [h0] at hz hk
  obtain ⟨t2, a1, b1⟩ := kk ws' T'.heap (locs ++ L) hφ (by rw [e1]; exact hPn) (by rw [e1]; exact hz) (fun q h1 h2 => by rw [e1]; exact hk q h1 h2)
    ⟨Nat.le_trans hS.1 (by rw [e1]; exact hz), fun q h1 h2 => by rw [e1, hk q (Nat.lt_of_lt_of_le h1 hS.1) (fun z => h2 (hA q z))]; exact hS.2.1 q h1 h2, fun q hq => by
      rcases List.mem_append.mp hq with h | h
      · exact hS.2.2 q h
      · exact hA _ (hL q h)⟩ T' rfl X'
  exact ⟨t2, stp t2 a1, b1⟩
-- arrays and fields in zi, zj
variable {tys : List (ClassId × FieldType)} {ws : va_W} {A : Nat → Prop} {a : Nat}
theorem z_iald (hx : p.tables.exec = Jvm.exec) (hb : c.code = cc) (hK : KK D cI cJ s) (hP : va_P D vwCl ws H) (q0 k : Nat) {n : Nat} {f : Nat → Int} (ha : ws[q0]? = some (a, .inl (cI, n, .inl (fun j => zi (f j))))) {z : Int} (hz : z = (k : Int)) (hk : k < n) (hn : n ≤ 2147483647) (hd : decode cc pc = .ok (.iaload, 1))
    (kk : W p l e R s m args below meth c H locs cells slots Q (F0 m (pc + 1) ls (.int (zi (f k)) :: rest))) : W p l e R s m args below meth c H locs cells slots Q (F0 m pc ls (.int (zi z) :: .ref a :: rest)) := by
  refine va_iald hx hb hK.1 hP q0 0 ha rfl (zi_in hz hk hn) hd ?_
  rw [hz, zi_clamp k (by omega)]
  exact kk
theorem z_lald (hx : p.tables.exec = Jvm.exec) (hb : c.code = cc) (hK : KK D cI cJ s) (hP : va_P D vwCl ws H) (q0 k : Nat) {n : Nat} {f : Nat → Int} (ha : ws[q0]? = some (a, .inl (cJ, n, .inr (.inl (fun j => zj (f j)))))) {z : Int} (hz : z = (k : Int)) (hk : k < n) (hn : n ≤ 2147483647) (hd : decode cc pc = .ok (.laload, 1))
    (kk : W p l e R s m args below meth c H locs cells slots Q (F0 m (pc + 1) ls (.long (zj (f k)) :: rest))) : W p l e R s m args below meth c H locs cells slots Q (F0 m pc ls (.int (zi z) :: .ref a :: rest)) := by
  refine va_lald hx hb hK.1 hP q0 1 ha rfl (zi_in hz hk hn) hd ?_
  rw [hz, zi_clamp k (by omega)]
  exact kk
theorem z_iast (hx : p.tables.exec = Jvm.exec) (hb : c.code = cc) (hK : KK D cI cJ s) (hP : va_P D vwCl ws H) (hD : va_D A ws) (hS : va_S A H0 H locs) (q0 k : Nat) {n : Nat} {f : Nat → Int} (ha : ws[q0]? = some (a, .inl (cI, n, .inl (fun j => zi (f j))))) {z x : Int} (hz : z = (k : Int)) (hk : k < n) (hn : n ≤ 2147483647) (hd : decode cc pc = .ok (.iastore, 1))
    (kk : ∀ (H1 : Heap) (locs1 : List Loc), va_P D vwCl (ws.set q0 (a, .inl (cI, n, .inl (fun j => zi (uZ f k x j))))) H1 → va_D A (ws.set q0 (a, .inl (cI, n, .inl (fun j => zi (uZ f k x j))))) → va_S A H0 H1 locs1 → W p l e R s m args below meth c H1 locs1 cells slots Q (F0 m (pc + 1) ls rest)) : W p l e R s m args below meth c H locs cells slots Q (F0 m pc ls (.int (zi x) :: .int (zi z) :: .ref a :: rest)) := by
  refine va_iast hx hb hK.1 hP hD hS q0 0 ha rfl (zi_in hz hk hn) hd ?_
  rw [hz, zi_clamp k (by omega), uZ_i]
  exact kk
theorem z_last (hx : p.tables.exec = Jvm.exec) (hb : c.code = cc) (hK : KK D cI cJ s) (hP : va_P D vwCl ws H) (hD : va_D A ws) (hS : va_S A H0 H locs) (q0 k : Nat) {n : Nat} {f : Nat → Int} (ha : ws[q0]? = some (a, .inl (cJ, n, .inr (.inl (fun j => zj (f j)))))) {z x : Int} (hz : z = (k : Int)) (hk : k < n) (hn : n ≤ 2147483647) (hd : decode cc pc = .ok (.lastore, 1))
    (kk : ∀ (H1 : Heap) (locs1 : List Loc), va_P D vwCl (ws.set q0 (a, .inl (cJ, n, .inr (.inl (fun j => zj (uZ f k x j)))))) H1 → va_D A (ws.set q0 (a, .inl (cJ, n, .inr (.inl (fun j => zj (uZ f k x j)))))) → va_S A H0 H1 locs1 → W p l e R s m args below meth c H1 locs1 cells slots Q (F0 m (pc + 1) ls rest)) : W p l e R s m args below meth c H locs cells slots Q (F0 m pc ls (.long (zj x) :: .int (zi z) :: .ref a :: rest)) := by
  refine va_last hx hb hK.1 hP hD hS q0 1 ha rfl (zi_in hz hk hn) hd ?_
  rw [hz, zi_clamp k (by omega), uZ_j]
  exact kk
theorem z_alen (hx : p.tables.exec = Jvm.exec) (hb : c.code = cc) (hK : KK D cI cJ s) (hP : va_P D vwCl ws H) (q0 : Nat) {n : Nat} {f : Nat → Int32} (ha : ws[q0]? = some (a, .inl (cI, n, .inl f))) (hd : decode cc pc = .ok (.arraylength, 1))
    (kk : W p l e R s m args below meth c H locs cells slots Q (F0 m (pc + 1) ls (.int (zi (n : Int)) :: rest))) : W p l e R s m args below meth c H locs cells slots Q (F0 m pc ls (.ref a :: rest)) :=
  va_alen hx hb hK.1 hP q0 0 ha (ty := .int) rfl (zi_nI n).symm hd kk
end ZCALL
end
section
/-! further rows: shifts, Math, switches; the two worlds -/
theorem sl32 : ∀ n, n < 32 → ((nI n &&& 31).toBitVec.smod 32).toNat = n := by decide
theorem zi_shr {a b : Int} (h : 0 ≤ a ∧ a ≤ 2147483647 ∧ 0 ≤ b ∧ b < 32) : zi a >>> (zi b &&& 31) = zi (a / 2 ^ b.toNat) := by
  obtain ⟨x, rfl⟩ := Int.eq_ofNat_of_zero_le h.1
  obtain ⟨y, rfl⟩ := Int.eq_ofNat_of_zero_le h.2.2.1
  rw [zi_nI, zi_nI, pk_shrN (by omega) _ y (sl32 y (by omega)), ← zi_nI]
  simp
theorem zi_shl {a b : Int} (h : 0 ≤ a ∧ a ≤ 65535 ∧ 0 ≤ b ∧ b < 16) : zi a <<< (zi b &&& 31) = zi (a * 2 ^ b.toNat) := by
  obtain ⟨x, rfl⟩ := Int.eq_ofNat_of_zero_le h.1
  obtain ⟨y, rfl⟩ := Int.eq_ofNat_of_zero_le h.2.2.1
  have hy : 2 ^ y ≤ 2 ^ 15 := Nat.pow_le_pow_right (by omega) (by omega)
  have hxy : x * 2 ^ y ≤ 65535 * 2 ^ 15 := Nat.mul_le_mul (by omega) hy
  rw [zi_nI, zi_nI, pk_shlN _ y (sl32 y (by omega)) (by omega), ← zi_nI]
  simp
theorem zi_and1 {a : Int} (h : 0 ≤ a ∧ a ≤ 2147483647) : zi a &&& zi 1 = zi (a % 2) := by
  obtain ⟨x, rfl⟩ := Int.eq_ofNat_of_zero_le h.1
  rw [zi_nI, pk_andN (by omega) 1 (by decide), ← zi_nI]
  rfl
def zabs (a : Int) : Int := if 0 ≤ a then a else -a
theorem va_Pnil {D : va_G} {cl : List vw_C} {H : Heap} : va_P D cl [] H := fun k q h => by simp at h
section ZMORE
variable {p : Program} {l : Launch} {e : Env} {R : Room} {s : State} {m : MethodId} {args : Array Value} {below : List Frame} {meth : Method} {c : Code} {H : Heap} {locs : List Loc} {cells slots : Nat} {Q : State → Prop}
variable {cc : ByteArray} {pc : Nat} {ls : Array Slot} {rest : List Value}
theorem z_ishr (hx : p.tables.exec = Jvm.exec) (hb : c.code = cc) {a b : Int} (h : 0 ≤ a ∧ a ≤ 2147483647 ∧ 0 ≤ b ∧ b < 32) (hd : decode cc pc = .ok (.ishr, 1)) (k : W p l e R s m args below meth c H locs cells slots Q (F0 m (pc + 1) ls (.int (zi (a / 2 ^ b.toNat)) :: rest))) : W p l e R s m args below meth c H locs cells slots Q (F0 m pc ls (.int (zi b) :: .int (zi a) :: rest)) := lv_ishr hx hb hd (by rw [zi_shr h]; exact k)
theorem z_ishl (hx : p.tables.exec = Jvm.exec) (hb : c.code = cc) {a b : Int} (h : 0 ≤ a ∧ a ≤ 65535 ∧ 0 ≤ b ∧ b < 16) (hd : decode cc pc = .ok (.ishl, 1)) (k : W p l e R s m args below meth c H locs cells slots Q (F0 m (pc + 1) ls (.int (zi (a * 2 ^ b.toNat)) :: rest))) : W p l e R s m args below meth c H locs cells slots Q (F0 m pc ls (.int (zi b) :: .int (zi a) :: rest)) := lv_ishl hx hb hd (by rw [zi_shl h]; exact k)
theorem z_iand1 (hx : p.tables.exec = Jvm.exec) (hb : c.code = cc) {a : Int} (h : 0 ≤ a ∧ a ≤ 2147483647) (hd : decode cc pc = .ok (.iand, 1)) (k : W p l e R s m args below meth c H locs cells slots Q (F0 m (pc + 1) ls (.int (zi (a % 2)) :: rest))) : W p l e R s m args below meth c H locs cells slots Q (F0 m pc ls (.int (zi 1) :: .int (zi a) :: rest)) := lv_iand hx hb hd (by rw [zi_and1 h]; exact k)
theorem z_mmax (hx : p.tables.exec = Jvm.exec) (hb : c.code = cc) (hml : c.maxLocals = ls.size) {own : String} {index : Nat} (hown : s.vm.findClass own = some m.cls) (hlink : (Cond.methodLink own index Lib.Math.max.name).before args s = true) (hstat : (Cond.static Lib.Math.max.name).before args s = true) (hini : (Cond.initialized "java/lang/Math").before args s = true) (hcode : (Cond.code Lib.Math.max.name Lib.Math.max.code 2 (some .int)).before args s = true)
    (hframes : 1 ≤ R.frames) (hlocals : (rest.map fun v => v.category).sum + 13 ≤ R.locals) (hc : cells ≤ R.cells) (hs : slots ≤ R.slots) {a b : Int} (ha : -2147483648 ≤ a ∧ a ≤ 2147483647) (hb2 : -2147483648 ≤ b ∧ b ≤ 2147483647) (hd : decode cc pc = .ok (.invokestatic index, 3))
    (k : W p l e R s m args below meth c H locs cells slots Q (F0 m (pc + 3) ls (.int (zi (max a b)) :: rest))) : W p l e R s m args below meth c H locs cells slots Q (F0 m pc ls (.int (zi b) :: .int (zi a) :: rest)) := by
  refine va_mmax hx hb hml hown hlink hstat hini hcode hframes hlocals hc hs hd ?_
  have e : (if zi a < zi b then zi b else zi a) = zi (max a b) := by
    by_cases h : a < b
    · rw [if_pos ((zi_lt ha hb2).mpr h), Int.max_eq_right (by omega)]
    · rw [if_neg (fun q => h ((zi_lt ha hb2).mp q)), Int.max_eq_left (by omega)]
  rw [e]; exact k
theorem z_mmin (hx : p.tables.exec = Jvm.exec) (hb : c.code = cc) (hml : c.maxLocals = ls.size) {own : String} {index : Nat} (hown : s.vm.findClass own = some m.cls) (hlink : (Cond.methodLink own index Lib.Math.min.name).before args s = true) (hstat : (Cond.static Lib.Math.min.name).before args s = true) (hini : (Cond.initialized "java/lang/Math").before args s = true) (hcode : (Cond.code Lib.Math.min.name Lib.Math.min.code 2 (some .int)).before args s = true)
    (hframes : 1 ≤ R.frames) (hlocals : (rest.map fun v => v.category).sum + 13 ≤ R.locals) (hc : cells ≤ R.cells) (hs : slots ≤ R.slots) {a b : Int} (ha : -2147483648 ≤ a ∧ a ≤ 2147483647) (hb2 : -2147483648 ≤ b ∧ b ≤ 2147483647) (hd : decode cc pc = .ok (.invokestatic index, 3))
    (k : W p l e R s m args below meth c H locs cells slots Q (F0 m (pc + 3) ls (.int (zi (min a b)) :: rest))) : W p l e R s m args below meth c H locs cells slots Q (F0 m pc ls (.int (zi b) :: .int (zi a) :: rest)) := by
  refine va_mmin hx hb hml hown hlink hstat hini hcode hframes hlocals hc hs hd ?_
  have e : (if zi b < zi a then zi b else zi a) = zi (min a b) := by
    by_cases h : b < a
    · rw [if_pos ((zi_lt hb2 ha).mpr h), Int.min_eq_right (by omega)]
    · rw [if_neg (fun q => h ((zi_lt hb2 ha).mp q)), Int.min_eq_left (by omega)]
  rw [e]; exact k
theorem z_mabs (hx : p.tables.exec = Jvm.exec) (hb : c.code = cc) (hml : c.maxLocals = ls.size) {own : String} {index : Nat} (hown : s.vm.findClass own = some m.cls) (hlink : (Cond.methodLink own index Lib.Math.abs.name).before args s = true) (hstat : (Cond.static Lib.Math.abs.name).before args s = true) (hini : (Cond.initialized "java/lang/Math").before args s = true) (hcode : (Cond.code Lib.Math.abs.name Lib.Math.abs.code 1 (some .int)).before args s = true)
    (hframes : 1 ≤ R.frames) (hlocals : (rest.map fun v => v.category).sum + 13 ≤ R.locals) (hc : cells ≤ R.cells) (hs : slots ≤ R.slots) {a : Int} (ha : -2147483648 ≤ a ∧ a ≤ 2147483647) (hd : decode cc pc = .ok (.invokestatic index, 3))
    (k : W p l e R s m args below meth c H locs cells slots Q (F0 m (pc + 3) ls (.int (zi (zabs a)) :: rest))) : W p l e R s m args below meth c H locs cells slots Q (F0 m pc ls (.int (zi a) :: rest)) := by
  refine va_mabs hx hb hml hown hlink hstat hini hcode hframes hlocals hc hs hd ?_
  have e : (if 0 ≤ zi a then zi a else 0 - zi a) = zi (zabs a) := by
    have h0 : (0 : Int32) = zi 0 := rfl
    unfold zabs
    by_cases h : 0 ≤ a
    · rw [if_pos h, h0, if_pos ((zi_le (by omega) ha).mpr h)]
    · rw [if_neg h, h0, if_neg (fun q => h ((zi_le (by omega) ha).mp q)), zi_sub]; congr 1; omega
  rw [e]; exact k
theorem z_tabOut (hx : p.tables.exec = Jvm.exec) (hb : c.code = cc) {dflt lo hi : Int} {offs : Array Int} {len : Nat} {a : Int} {tgt : Nat} (hd : decode cc pc = .ok (.tableswitch dflt lo hi offs, len)) (ha : -2147483648 ≤ a ∧ a ≤ 2147483647) (h : a < lo ∨ hi < a) (ht : (pc : Int) + dflt = (tgt : Int))
    (k : W p l e R s m args below meth c H locs cells slots Q (F0 m tgt ls rest)) : W p l e R s m args below meth c H locs cells slots Q (F0 m pc ls (.int (zi a) :: rest)) := lv_tableOut hx hb hd (by rw [zi_toInt ha]; exact h) ht k
theorem z_tabIn (hx : p.tables.exec = Jvm.exec) (hb : c.code = cc) {dflt lo hi : Int} {offs : Array Int} {len : Nat} {a : Int} (v : Int) {off : Int} {tgt : Nat} (hd : decode cc pc = .ok (.tableswitch dflt lo hi offs, len)) (hv : a = v) (hr : -2147483648 ≤ v ∧ v ≤ 2147483647) (h1 : lo ≤ v) (h2 : v ≤ hi) (ho : offs[(v - lo).toNat]? = some off) (ht : (pc : Int) + off = (tgt : Int))
    (k : W p l e R s m args below meth c H locs cells slots Q (F0 m tgt ls rest)) : W p l e R s m args below meth c H locs cells slots Q (F0 m pc ls (.int (zi a) :: rest)) := by
  subst hv
  exact lv_tableIn hx hb hd (by rw [zi_toInt hr]; omega) (by rw [zi_toInt hr]; omega) (by rw [zi_toInt hr]; exact ho) ht k
end ZMORE
abbrev wX (ad : Nat → Nat) (cI cJ : ClassId) (n : Int) (st hr ca : Nat → Int) (pcs : Int) (fr lv : Nat → Int) (k : Int) (ts th sp hv : Nat → Int) (pr hc : Int) : va_W :=
  [(ad 0, .inr (3, [.ref (ad 1), .ref (ad 2), .ref (ad 3), .ref (ad 4), .ref (ad 5), .int (zi pr), .int (zi hc)])),
   (ad 1, .inr (2, [.ref (ad 6), .ref (ad 7), .ref (ad 8), .int (zi n)])),
   (ad 2, .inr (0, [.ref (ad 9), .ref (ad 10), .int (zi pcs)])),
   (ad 3, .inr (1, [.ref (ad 11), .ref (ad 12), .int (zi k)])),
   (ad 4, .inl (cI, 4, .inl (fun j => zi (sp j)))),
   (ad 5, .inl (cI, 4, .inl (fun j => zi (hv j)))),
   (ad 6, .inl (cI, 12, .inl (fun j => zi (st j)))),
   (ad 7, .inl (cI, 12, .inl (fun j => zi (hr j)))),
   (ad 8, .inl (cI, 12, .inl (fun j => zi (ca j)))),
   (ad 9, .inl (cI, 13, .inl (fun j => zi (fr j)))),
   (ad 10, .inl (cJ, 13, .inr (.inl (fun j => zj (lv j))))),
   (ad 11, .inl (cI, 10, .inl (fun j => zi (ts j)))),
   (ad 12, .inl (cI, 10, .inl (fun j => zi (th j))))]
abbrev wM (ad : Nat → Nat) (cI : ClassId) (n : Int) (st hr ca sp : Nat → Int) (k : Int) (ts th : Nat → Int) (pr hc lu ll up lo : Int) (fr rr hv : Nat → Int) : va_W :=
  [(ad 0, .inr (4, [.int (zi n), .ref (ad 1), .ref (ad 2), .ref (ad 3), .ref (ad 4), .int (zi k), .ref (ad 5), .ref (ad 6), .int (zi pr), .int (zi hc), .long (zj lu), .long (zj ll), .long (zj up), .long (zj lo), .ref (ad 7), .ref (ad 8), .ref (ad 9)])),
   (ad 1, .inl (cI, 12, .inl (fun j => zi (st j)))),
   (ad 2, .inl (cI, 12, .inl (fun j => zi (hr j)))),
   (ad 3, .inl (cI, 12, .inl (fun j => zi (ca j)))),
   (ad 4, .inl (cI, 4, .inl (fun j => zi (sp j)))),
   (ad 5, .inl (cI, 10, .inl (fun j => zi (ts j)))),
   (ad 6, .inl (cI, 10, .inl (fun j => zi (th j)))),
   (ad 7, .inl (cI, 501, .inl (fun j => zi (fr j)))),
   (ad 8, .inl (cI, 501, .inl (fun j => zi (rr j)))),
   (ad 9, .inl (cI, 4, .inl (fun j => zi (hv j))))]
/-- what holds of the UNITS' numbers -/
def VU (n : Int) (st hr ca : Nat → Int) : Prop := (0 ≤ n ∧ n ≤ 12) ∧ (∀ j : Nat, 0 ≤ st j ∧ st j ≤ 3) ∧ (∀ j : Nat, 0 ≤ hr j ∧ hr j ≤ 500) ∧ (∀ j : Nat, (j : Int) < n → 1 ≤ hr j) ∧ (∀ j : Nat, -1 ≤ ca j ∧ ca j ≤ 2)
/-- of the TRIAL's, the SPEEDS and the rules -/
def VT (k : Int) (ts th sp : Nat → Int) (pr hc : Int) : Prop := (0 ≤ k ∧ k ≤ 10) ∧ (∀ j : Nat, 0 ≤ ts j ∧ ts j ≤ 3) ∧ (∀ j : Nat, 0 ≤ th j ∧ th j ≤ 500) ∧ (∀ j : Nat, (j : Int) < k → 1 ≤ th j) ∧ (∀ j : Nat, j < 4 → 1 ≤ sp j ∧ sp j ≤ 1000) ∧ (1 ≤ pr ∧ pr ≤ 500) ∧ (0 ≤ hc ∧ hc ≤ 20)
theorem lp_up (P : Nat → Prop) (N : Nat) (hend : P N) (hstep : ∀ u, u < N → P (u + 1) → P u) : ∀ u, u ≤ N → P u := by
  intro u hu
  obtain ⟨d, rfl⟩ := Nat.exists_eq_add_of_le hu
  clear hu
  induction d generalizing u with
  | zero => exact hend
  | succ d ih =>
    refine hstep u (by omega) ?_
    have e : u + (d + 1) = (u + 1) + d := by omega
    exact ih (u + 1) (e ▸ hend) (fun v hv hP => hstep v (by omega) hP)
theorem inW_same {ws ws' : va_W} (he : ws.map Prod.fst = ws'.map Prod.fst) {q : Nat} (h : inW ws q) : inW ws' q := by
  obtain ⟨k, e, hk⟩ := h
  have h1 : (ws.map Prod.fst)[k]? = some q := by rw [List.getElem?_map, hk]; rfl
  rw [he, List.getElem?_map] at h1
  cases hw : ws'[k]? with
  | none => rw [hw] at h1; cases h1
  | some x =>
    rw [hw] at h1
    have h2 : x.1 = q := Option.some.inj h1
    exact ⟨k, x.2, by rw [hw, ← h2]⟩
end
section
theorem ca_X3_unit : CalV yX3_unit cX3_unit 4 (some .int) 3 := ⟨tw_100, tw_98, tw_99, tw_1, by decide +kernel⟩
theorem ca_X3_isUnit : CalS yX3_isUnit cX3_isUnit 3 (some .boolean) 3 := ⟨tw_103, tw_102, tw_1, by decide +kernel⟩
theorem ca_X3_isStress : CalS yX3_isStress cX3_isStress 1 (some .boolean) 1 := ⟨tw_106, tw_105, tw_1, by decide +kernel⟩
theorem ca_X3_isWithin : CalS yX3_isWithin cX3_isWithin 3 (some .boolean) 3 := ⟨tw_109, tw_108, tw_1, by decide +kernel⟩
theorem ca_X2_put : CalV yX2_put cX2_put 5 none 4 := ⟨tw_113, tw_111, tw_112, tw_2, by decide +kernel⟩
theorem ca_X2_has : CalV yX2_has cX2_has 2 (some .boolean) 1 := ⟨tw_117, tw_115, tw_116, tw_2, by decide +kernel⟩
theorem ca_X3_set : CalV yX3_set cX3_set 5 (some .int) 4 := ⟨tw_122, tw_120, tw_121, tw_1, by decide +kernel⟩
theorem ca_X3_drop : CalV yX3_drop cX3_drop 1 (some .int) 0 := ⟨tw_127, tw_125, tw_126, tw_1, by decide +kernel⟩
theorem ca_X3_told : CalV yX3_told cX3_told 3 (some .int) 2 := ⟨tw_131, tw_129, tw_130, tw_1, by decide +kernel⟩
theorem ca_X3_useHour : CalV yX3_useHour cX3_useHour 2 (some .int) 1 := ⟨tw_135, tw_134, ts_0, tw_1, by decide +kernel⟩
theorem ca_X3_count : CalV yX3_count cX3_count 5 (some .int) 2 := ⟨tw_139, tw_137, tw_138, tw_1, by decide +kernel⟩
theorem ca_X3_isSet : CalS yX3_isSet cX3_isSet 1 (some .boolean) 1 := ⟨tw_142, tw_141, tw_1, by decide +kernel⟩
theorem ca_X2_isIn : CalV yX2_isIn cX2_isIn 3 (some .boolean) 2 := ⟨tw_146, tw_144, tw_145, tw_2, by decide +kernel⟩
theorem ca_X3_shareInCount : CalV yX3_shareInCount cX3_shareInCount 4 (some .int) 2 := ⟨tw_150, tw_149, ts_1, tw_1, by decide +kernel⟩
theorem ca_X3_risk : CalV yX3_risk cX3_risk 3 (some .int) 2 := ⟨tw_154, tw_152, tw_153, tw_1, by decide +kernel⟩
theorem ca_X2_atRisk : CalV yX2_atRisk cX2_atRisk 5 (some .int) 2 := ⟨tw_158, tw_156, tw_157, tw_2, by decide +kernel⟩
theorem ca_X3_left : CalV yX3_left cX3_left 5 (some .long) 4 := ⟨tw_163, tw_161, tw_162, tw_1, by decide +kernel⟩
theorem ca_X3_isSetByCause : CalS yX3_isSetByCause cX3_isSetByCause 2 (some .boolean) 2 := ⟨tw_166, tw_165, tw_1, by decide +kernel⟩
theorem ca_X0_look : CalV yX0_look cX0_look 6 none 3 := ⟨tw_171, tw_169, tw_170, tw_3, by decide +kernel⟩
theorem ca_X2_nextFailure : CalV yX2_nextFailure cX2_nextFailure 6 (some .int) 3 := ⟨tw_175, tw_173, tw_174, tw_2, by decide +kernel⟩
theorem ca_X2_hasFailed : CalV yX2_hasFailed cX2_hasFailed 4 (some .boolean) 3 := ⟨tw_179, tw_177, tw_178, tw_2, by decide +kernel⟩
theorem ca_X2_failedAt : CalV yX2_failedAt cX2_failedAt 6 (some .int) 3 := ⟨tw_184, tw_182, tw_183, tw_2, by decide +kernel⟩
theorem ca_X0_raiseAllBefore : CalV yX0_raiseAllBefore cX0_raiseAllBefore 4 none 2 := ⟨tw_188, tw_186, tw_187, tw_3, by decide +kernel⟩
theorem ca_X0_levelAt : CalV yX0_levelAt cX0_levelAt 4 (some .long) 1 := ⟨tw_192, tw_190, tw_191, tw_3, by decide +kernel⟩
theorem ca_X0_whole : CalV yX0_whole cX0_whole 1 (some .long) 0 := ⟨tw_196, tw_194, tw_195, tw_3, by decide +kernel⟩
theorem ca_X3_leastTerms : CalS yX3_leastTerms cX3_leastTerms 9 (some .long) 3 := ⟨tw_199, tw_198, tw_1, by decide +kernel⟩
theorem ca_X3_sharedFactor : CalS yX3_sharedFactor cX3_sharedFactor 11 (some .long) 2 := ⟨tw_202, tw_201, tw_1, by decide +kernel⟩
theorem ca_X3_time : CalV yX3_time cX3_time 5 (some .int) 4 := ⟨tw_206, tw_204, tw_205, tw_1, by decide +kernel⟩
theorem ca_X0_firstAtMost : CalV yX0_firstAtMost cX0_firstAtMost 4 (some .int) 2 := ⟨tw_210, tw_208, tw_209, tw_3, by decide +kernel⟩
theorem ca_X3_mean : CalV yX3_mean cX3_mean 5 (some .long) 4 := ⟨tw_215, tw_213, tw_214, tw_1, by decide +kernel⟩
theorem ca_X0_sumOf : CalV yX0_sumOf cX0_sumOf 8 (some .long) 2 := ⟨tw_219, tw_217, tw_218, tw_3, by decide +kernel⟩
theorem ca_X3_rest : CalV yX3_rest cX3_rest 6 (some .long) 5 := ⟨tw_229, tw_227, tw_228, tw_1, by decide +kernel⟩
theorem ca_X3_runIn : CalV yX3_runIn cX3_runIn 5 (some .int) 4 := ⟨tw_234, tw_232, tw_233, tw_1, by decide +kernel⟩
theorem ca_X0_bestRunIn : CalV yX0_bestRunIn cX0_bestRunIn 15 (some .int) 2 := ⟨tw_238, tw_236, tw_237, tw_3, by decide +kernel⟩
theorem ca_X3_speed : CalV yX3_speed cX3_speed 4 (some .int) 2 := ⟨tw_245, tw_243, tw_244, tw_1, by decide +kernel⟩
theorem ca_X3_says : CalV yX3_says cX3_says 4 (some .int) 3 := ⟨tw_249, tw_247, tw_248, tw_1, by decide +kernel⟩
theorem ca_X3_isLaw : CalS yX3_isLaw cX3_isLaw 2 (some .boolean) 2 := ⟨tw_252, tw_251, tw_1, by decide +kernel⟩
theorem ca_X3_lawAt : CalS yX3_lawAt cX3_lawAt 5 (some .int) 3 := ⟨tw_256, tw_255, tw_1, by decide +kernel⟩
theorem ca_X3_cut : CalS yX3_cut cX3_cut 2 (some .int) 2 := ⟨tw_259, tw_258, tw_1, by decide +kernel⟩
theorem ca_X3_miss : CalV yX3_miss cX3_miss 3 (some .int) 2 := ⟨tw_263, tw_261, tw_262, tw_1, by decide +kernel⟩
theorem ca_X3_findHalves : CalV yX3_findHalves cX3_findHalves 3 (some .boolean) 0 := ⟨tw_267, tw_266, ts_2, tw_1, by decide +kernel⟩
theorem ca_X3_missOfHalves : CalV yX3_missOfHalves cX3_missOfHalves 5 (some .int) 2 := ⟨tw_271, tw_270, ts_3, tw_1, by decide +kernel⟩
theorem ca_X3_law : CalV yX3_law cX3_law 10 (some .int) 3 := ⟨tw_278, tw_276, tw_277, tw_1, by decide +kernel⟩
theorem ca_X3_step : CalV yX3_step cX3_step 3 (some .int) 2 := ⟨tw_282, tw_280, tw_281, tw_1, by decide +kernel⟩
theorem ca_X3_clear : CalV yX3_clear cX3_clear 2 (some .int) 0 := ⟨tw_286, tw_284, tw_285, tw_1, by decide +kernel⟩
theorem ca_X3_used : CalV yX3_used cX3_used 4 (some .int) 1 := ⟨tw_290, tw_288, tw_289, tw_1, by decide +kernel⟩
theorem ca_X3_fails : CalV yX3_fails cX3_fails 6 (some .int) 1 := ⟨tw_294, tw_292, tw_293, tw_1, by decide +kernel⟩
theorem ca_X3_roundedUp : CalS yX3_roundedUp cX3_roundedUp 2 (some .int) 2 := ⟨tw_297, tw_296, tw_1, by decide +kernel⟩
theorem ca_X3_end : CalV yX3_end cX3_end 5 (some .int) 4 := ⟨tw_301, tw_299, tw_300, tw_1, by decide +kernel⟩
theorem ca_X3_lowEnd : CalS yX3_lowEnd cX3_lowEnd 4 (some .int) 3 := ⟨tw_304, tw_303, tw_1, by decide +kernel⟩
theorem ca_X3_casesOf : CalS yX3_casesOf cX3_casesOf 7 (some .long) 4 := ⟨tw_307, tw_306, tw_1, by decide +kernel⟩
theorem ca_X3_ways : CalS yX3_ways cX3_ways 5 (some .long) 2 := ⟨tw_310, tw_309, tw_1, by decide +kernel⟩
theorem ca_X3_power : CalS yX3_power cX3_power 5 (some .long) 2 := ⟨tw_313, tw_312, tw_1, by decide +kernel⟩
theorem ca_X3_isAtMost : CalS yX3_isAtMost cX3_isAtMost 4 (some .boolean) 3 := ⟨tw_316, tw_315, tw_1, by decide +kernel⟩
theorem ca_X3_highEnd : CalS yX3_highEnd cX3_highEnd 4 (some .int) 3 := ⟨tw_320, tw_319, tw_1, by decide +kernel⟩
theorem ca_X3_rule : CalV yX3_rule cX3_rule 4 (some .int) 2 := ⟨tw_324, tw_322, tw_323, tw_1, by decide +kernel⟩
theorem ca_X3_plan : CalV yX3_plan cX3_plan 9 (some .int) 3 := ⟨tw_328, tw_326, tw_327, tw_1, by decide +kernel⟩
theorem ca_X4_unit : CalV yX4_unit cX4_unit 4 (some .int) 3 := ⟨tw_392, tw_390, tw_391, tw_5, by decide +kernel⟩
theorem ca_X4_isUnitLike : CalS yX4_isUnitLike cX4_isUnitLike 3 (some .boolean) 3 := ⟨tw_395, tw_394, tw_5, by decide +kernel⟩
theorem ca_X4_isStress : CalS yX4_isStress cX4_isStress 1 (some .boolean) 1 := ⟨tw_398, tw_397, tw_5, by decide +kernel⟩
theorem ca_X4_in : CalS yX4_in cX4_in 6 (some .boolean) 3 := ⟨tw_402, tw_401, tw_5, by decide +kernel⟩
theorem ca_X4_isCause : CalS yX4_isCause cX4_isCause 1 (some .boolean) 1 := ⟨tw_406, tw_405, tw_5, by decide +kernel⟩
theorem ca_X4_set : CalV yX4_set cX4_set 5 (some .int) 4 := ⟨tw_412, tw_410, tw_411, tw_5, by decide +kernel⟩
theorem ca_X4_isUnit : CalV yX4_isUnit cX4_isUnit 2 (some .boolean) 1 := ⟨tw_416, tw_415, ts_4, tw_5, by decide +kernel⟩
theorem ca_X4_drop : CalV yX4_drop cX4_drop 1 (some .int) 0 := ⟨tw_420, tw_418, tw_419, tw_5, by decide +kernel⟩
theorem ca_X4_told : CalV yX4_told cX4_told 3 (some .int) 2 := ⟨tw_424, tw_422, tw_423, tw_5, by decide +kernel⟩
theorem ca_X4_useHour : CalV yX4_useHour cX4_useHour 2 (some .int) 1 := ⟨tw_428, tw_427, ts_5, tw_5, by decide +kernel⟩
theorem ca_X4_count : CalV yX4_count cX4_count 7 (some .int) 2 := ⟨tw_432, tw_430, tw_431, tw_5, by decide +kernel⟩
theorem ca_X4_isSet : CalS yX4_isSet cX4_isSet 1 (some .boolean) 1 := ⟨tw_435, tw_434, tw_5, by decide +kernel⟩
theorem ca_X4_isIn : CalV yX4_isIn cX4_isIn 3 (some .boolean) 2 := ⟨tw_441, tw_440, ts_6, tw_5, by decide +kernel⟩
theorem ca_X4_risk : CalV yX4_risk cX4_risk 3 (some .int) 2 := ⟨tw_445, tw_443, tw_444, tw_5, by decide +kernel⟩
theorem ca_X4_riskAt : CalV yX4_riskAt cX4_riskAt 5 (some .int) 2 := ⟨tw_449, tw_448, ts_7, tw_5, by decide +kernel⟩
theorem ca_X4_left : CalV yX4_left cX4_left 5 (some .long) 4 := ⟨tw_453, tw_451, tw_452, tw_5, by decide +kernel⟩
theorem ca_X4_lay : CalV yX4_lay cX4_lay 4 none 2 := ⟨tw_458, tw_457, ts_8, tw_5, by decide +kernel⟩
theorem ca_X4_failedAt : CalV yX4_failedAt cX4_failedAt 7 (some .int) 3 := ⟨tw_462, tw_461, ts_9, tw_5, by decide +kernel⟩
theorem ca_X4_findLeft : CalV yX4_findLeft cX4_findLeft 3 none 1 := ⟨tw_466, tw_465, ts_10, tw_5, by decide +kernel⟩
theorem ca_X4_goOn : CalV yX4_goOn cX4_goOn 6 none 1 := ⟨tw_470, tw_469, ts_11, tw_5, by decide +kernel⟩
theorem ca_X4_common : CalS yX4_common cX4_common 10 (some .long) 2 := ⟨tw_473, tw_472, tw_5, by decide +kernel⟩
theorem ca_X4_time : CalV yX4_time cX4_time 5 (some .int) 4 := ⟨tw_477, tw_475, tw_476, tw_5, by decide +kernel⟩
theorem ca_X4_timeOf : CalV yX4_timeOf cX4_timeOf 6 (some .int) 4 := ⟨tw_482, tw_481, ts_12, tw_5, by decide +kernel⟩
theorem ca_X4_mean : CalV yX4_mean cX4_mean 5 (some .long) 4 := ⟨tw_486, tw_484, tw_485, tw_5, by decide +kernel⟩
theorem ca_X4_findRest : CalV yX4_findRest cX4_findRest 4 none 2 := ⟨tw_490, tw_489, ts_13, tw_5, by decide +kernel⟩
theorem ca_X4_add : CalV yX4_add cX4_add 3 none 0 := ⟨tw_494, tw_493, ts_14, tw_5, by decide +kernel⟩
theorem ca_X4_rest : CalV yX4_rest cX4_rest 6 (some .long) 5 := ⟨tw_498, tw_496, tw_497, tw_5, by decide +kernel⟩
theorem ca_X4_isLeftAt : CalV yX4_isLeftAt cX4_isLeftAt 2 (some .boolean) 1 := ⟨tw_502, tw_501, ts_15, tw_5, by decide +kernel⟩
theorem ca_X4_runIn : CalV yX4_runIn cX4_runIn 15 (some .int) 4 := ⟨tw_507, tw_505, tw_506, tw_5, by decide +kernel⟩
theorem ca_X4_isGreater : CalS yX4_isGreater cX4_isGreater 12 (some .boolean) 4 := ⟨tw_511, tw_510, tw_5, by decide +kernel⟩
theorem ca_X4_speed : CalV yX4_speed cX4_speed 4 (some .int) 2 := ⟨tw_515, tw_513, tw_514, tw_5, by decide +kernel⟩
theorem ca_X4_says : CalV yX4_says cX4_says 4 (some .int) 3 := ⟨tw_519, tw_517, tw_518, tw_5, by decide +kernel⟩
theorem ca_X4_isLaw : CalS yX4_isLaw cX4_isLaw 2 (some .boolean) 2 := ⟨tw_522, tw_521, tw_5, by decide +kernel⟩
theorem ca_X4_saysOf : CalS yX4_saysOf cX4_saysOf 5 (some .int) 3 := ⟨tw_527, tw_526, tw_5, by decide +kernel⟩
theorem ca_X4_miss : CalV yX4_miss cX4_miss 4 (some .int) 2 := ⟨tw_531, tw_529, tw_530, tw_5, by decide +kernel⟩
theorem ca_X4_findHalves : CalV yX4_findHalves cX4_findHalves 3 (some .boolean) 0 := ⟨tw_535, tw_534, ts_16, tw_5, by decide +kernel⟩
theorem ca_X4_missOf : CalV yX4_missOf cX4_missOf 6 (some .int) 2 := ⟨tw_539, tw_538, ts_17, tw_5, by decide +kernel⟩
theorem ca_X4_law : CalV yX4_law cX4_law 10 (some .int) 3 := ⟨tw_543, tw_541, tw_542, tw_5, by decide +kernel⟩
theorem ca_X4_step : CalV yX4_step cX4_step 3 (some .int) 2 := ⟨tw_548, tw_546, tw_547, tw_5, by decide +kernel⟩
theorem ca_X4_clear : CalV yX4_clear cX4_clear 2 (some .int) 0 := ⟨tw_552, tw_550, tw_551, tw_5, by decide +kernel⟩
theorem ca_X4_used : CalV yX4_used cX4_used 4 (some .int) 1 := ⟨tw_556, tw_554, tw_555, tw_5, by decide +kernel⟩
theorem ca_X4_fails : CalV yX4_fails cX4_fails 6 (some .int) 1 := ⟨tw_560, tw_558, tw_559, tw_5, by decide +kernel⟩
theorem ca_X4_end : CalV yX4_end cX4_end 10 (some .int) 4 := ⟨tw_564, tw_562, tw_563, tw_5, by decide +kernel⟩
theorem ca_X4_power : CalS yX4_power cX4_power 6 (some .long) 2 := ⟨tw_571, tw_570, tw_5, by decide +kernel⟩
theorem ca_X4_chance : CalS yX4_chance cX4_chance 9 (some .long) 4 := ⟨tw_574, tw_573, tw_5, by decide +kernel⟩
theorem ca_X4_rule : CalV yX4_rule cX4_rule 4 (some .int) 2 := ⟨tw_578, tw_576, tw_577, tw_5, by decide +kernel⟩
theorem ca_X4_plan : CalV yX4_plan cX4_plan 12 (some .int) 3 := ⟨tw_582, tw_580, tw_581, tw_5, by decide +kernel⟩
end
section
set_option maxHeartbeats 4000000 in
set_option maxRecDepth 100000 in
theorem c_X3_isWithin (D : va_G) (cI cJ : ClassId) (l : Launch)  (v : Int) (r_v : -2147483648 ≤ v ∧ v ≤ 2147483647) (a : Int) (r_a : -2147483648 ≤ a ∧ a ≤ 2147483647) (b : Int) (r_b : -2147483648 ≤ b ∧ b ≤ 2147483647) : RD D cI cJ l yX3_isWithin cX3_isWithin 3 (some .boolean) 0 0 [.int (zi (v)), .int (zi (a)), .int (zi (b))] [] (.int (bI (a ≤ v ∧ v ≤ b))) := by
  refine RD.of (by decide) (Nat.le_of_ble_eq_true rfl) ?_
  intro p e s m args below meth c hx hb hrt hml hown hT hlk hK hP ls hl
  replace hl : lv_has ls 3 [(0, .int (zi (v))), (1, .int (zi (a))), (2, .int (zi (b)))] := hl
  refine lv_iload_n (pc := 0) hx hb dX3_isWithin_0 rfl (lv_at hl 1 rfl) ?_
  refine lv_iload_n (pc := 1) hx hb dX3_isWithin_1 rfl (lv_at hl 0 rfl) ?_
  refine z_icmp_gt (tgt := 14) (pc := 2) hx hb dX3_isWithin_2 (by decide) (by omega) (by omega) (fun c_1 => ?_) (fun c_1 => ?_)
  · refine z_iconst (pc := 14) hx hb dX3_isWithin_14 ?_
    exact rd_zret hx hb hrt hlk dX3_isWithin_15 (bI0 (by omega))
  · refine lv_iload_n (pc := 5) hx hb dX3_isWithin_5 rfl (lv_at hl 0 rfl) ?_
    refine lv_iload_n (pc := 6) hx hb dX3_isWithin_6 rfl (lv_at hl 2 rfl) ?_
    refine z_icmp_gt (tgt := 14) (pc := 7) hx hb dX3_isWithin_7 (by decide) (by omega) (by omega) (fun c_2 => ?_) (fun c_2 => ?_)
    · refine z_iconst (pc := 14) hx hb dX3_isWithin_14 ?_
      exact rd_zret hx hb hrt hlk dX3_isWithin_15 (bI0 (by omega))
    · refine z_iconst (pc := 10) hx hb dX3_isWithin_10 ?_
      refine lv_goto (tgt := 15) (pc := 11) hx hb dX3_isWithin_11 (by decide) ?_
      exact rd_zret hx hb hrt hlk dX3_isWithin_15 (bI1 (by omega))

set_option maxHeartbeats 4000000 in
set_option maxRecDepth 100000 in
theorem c_X3_isStress (D : va_G) (cI cJ : ClassId) (l : Launch)  (v : Int) (r_v : -2147483648 ≤ v ∧ v ≤ 2147483647) : RD D cI cJ l yX3_isStress cX3_isStress 1 (some .boolean) 1 22 [.int (zi (v))] [] (.int (bI (0 ≤ v ∧ v ≤ 3))) := by
  refine RD.of (by decide) (Nat.le_of_ble_eq_true rfl) ?_
  intro p e s m args below meth c hx hb hrt hml hown hT hlk hK hP ls hl
  replace hl : lv_has ls 1 [(0, .int (zi (v)))] := hl
  refine lv_iload_n (pc := 0) hx hb dX3_isStress_0 rfl (lv_at hl 0 rfl) ?_
  refine z_iconst (pc := 1) hx hb dX3_isStress_1 ?_
  refine z_iconst (pc := 2) hx hb dX3_isStress_2 ?_
  refine rd_S (pc := 3) hx hb hml hown hT hK (c_X3_isWithin D cI cJ l (v) (by omega) (0) (by omega) (3) (by omega)) ca_X3_isWithin tw_107 va_Pnil ⟨Nat.le_of_ble_eq_true rfl, Nat.le_of_ble_eq_true rfl⟩ rfl hl.1 (As := [.int (zi (v)), .int (zi (0)), .int (zi (3))]) (rest := []) rfl (Nat.le_of_ble_eq_true rfl) ⟨Nat.le_of_ble_eq_true rfl, Nat.le_of_ble_eq_true rfl⟩ dX3_isStress_3 ?_
  exact rd_zret hx hb hrt hlk dX3_isStress_6 (bI_c (by omega))

set_option maxHeartbeats 4000000 in
set_option maxRecDepth 100000 in
theorem c_X3_isUnit (D : va_G) (cI cJ : ClassId) (l : Launch)  (a : Int) (r_a : -2147483648 ≤ a ∧ a ≤ 2147483647) (b : Int) (r_b : -2147483648 ≤ b ∧ b ≤ 2147483647) (d : Int) (r_d : -2147483648 ≤ d ∧ d ≤ 2147483647) : RD D cI cJ l yX3_isUnit cX3_isUnit 3 (some .boolean) 2 42 [.int (zi (a)), .int (zi (b)), .int (zi (d))] [] (.int (bI ((0 ≤ a ∧ a ≤ 3) ∧ (1 ≤ b ∧ b ≤ 500) ∧ (-1 ≤ d ∧ d ≤ 2)))) := by
  refine RD.of (by decide) (Nat.le_of_ble_eq_true rfl) ?_
  intro p e s m args below meth c hx hb hrt hml hown hT hlk hK hP ls hl
  replace hl : lv_has ls 3 [(0, .int (zi (a))), (1, .int (zi (b))), (2, .int (zi (d)))] := hl
  refine lv_iload_n (pc := 0) hx hb dX3_isUnit_0 rfl (lv_at hl 0 rfl) ?_
  refine rd_S (pc := 1) hx hb hml hown hT hK (c_X3_isStress D cI cJ l (a) (by omega)) ca_X3_isStress tw_104 va_Pnil ⟨Nat.le_of_ble_eq_true rfl, Nat.le_of_ble_eq_true rfl⟩ rfl hl.1 (As := [.int (zi (a))]) (rest := []) rfl (Nat.le_of_ble_eq_true rfl) ⟨Nat.le_of_ble_eq_true rfl, Nat.le_of_ble_eq_true rfl⟩ dX3_isUnit_1 ?_
  refine z_ifB_eq (tgt := 31) (pc := 4) hx hb dX3_isUnit_4 (by decide) (fun c_1 => ?_) (fun c_1 => ?_)
  · refine z_iconst (pc := 31) hx hb dX3_isUnit_31 ?_
    exact rd_zret hx hb hrt hlk dX3_isUnit_32 (bI0 (by omega))
  · refine lv_iload_n (pc := 7) hx hb dX3_isUnit_7 rfl (lv_at hl 1 rfl) ?_
    refine z_iconst (pc := 8) hx hb dX3_isUnit_8 ?_
    refine z_sipush (pc := 9) hx hb dX3_isUnit_9 (by decide) ?_
    refine rd_S (pc := 12) hx hb hml hown hT hK (c_X3_isWithin D cI cJ l (b) (by omega) (1) (by omega) (500) (by omega)) ca_X3_isWithin tw_107 va_Pnil ⟨Nat.le_of_ble_eq_true rfl, Nat.le_of_ble_eq_true rfl⟩ rfl hl.1 (As := [.int (zi (b)), .int (zi (1)), .int (zi (500))]) (rest := []) rfl (Nat.le_of_ble_eq_true rfl) ⟨Nat.le_of_ble_eq_true rfl, Nat.le_of_ble_eq_true rfl⟩ dX3_isUnit_12 ?_
    refine z_ifB_eq (tgt := 31) (pc := 15) hx hb dX3_isUnit_15 (by decide) (fun c_2 => ?_) (fun c_2 => ?_)
    · refine z_iconst (pc := 31) hx hb dX3_isUnit_31 ?_
      exact rd_zret hx hb hrt hlk dX3_isUnit_32 (bI0 (by omega))
    · refine lv_iload_n (pc := 18) hx hb dX3_isUnit_18 rfl (lv_at hl 2 rfl) ?_
      refine z_iconst (pc := 19) hx hb dX3_isUnit_19 ?_
      refine z_iconst (pc := 20) hx hb dX3_isUnit_20 ?_
      refine rd_S (pc := 21) hx hb hml hown hT hK (c_X3_isWithin D cI cJ l (d) (by omega) (-1) (by omega) (2) (by omega)) ca_X3_isWithin tw_107 va_Pnil ⟨Nat.le_of_ble_eq_true rfl, Nat.le_of_ble_eq_true rfl⟩ rfl hl.1 (As := [.int (zi (d)), .int (zi (-1)), .int (zi (2))]) (rest := []) rfl (Nat.le_of_ble_eq_true rfl) ⟨Nat.le_of_ble_eq_true rfl, Nat.le_of_ble_eq_true rfl⟩ dX3_isUnit_21 ?_
      refine z_ifB_eq (tgt := 31) (pc := 24) hx hb dX3_isUnit_24 (by decide) (fun c_3 => ?_) (fun c_3 => ?_)
      · refine z_iconst (pc := 31) hx hb dX3_isUnit_31 ?_
        exact rd_zret hx hb hrt hlk dX3_isUnit_32 (bI0 (by omega))
      · refine z_iconst (pc := 27) hx hb dX3_isUnit_27 ?_
        refine lv_goto (tgt := 32) (pc := 28) hx hb dX3_isUnit_28 (by decide) ?_
        exact rd_zret hx hb hrt hlk dX3_isUnit_32 (bI1 (by omega))

set_option maxHeartbeats 4000000 in
set_option maxRecDepth 100000 in
theorem c_X3_isSet (D : va_G) (cI cJ : ClassId) (l : Launch)  (v : Int) (r_v : -2147483648 ≤ v ∧ v ≤ 2147483647) : RD D cI cJ l yX3_isSet cX3_isSet 1 (some .boolean) 1 22 [.int (zi (v))] [] (.int (bI (0 ≤ v ∧ v ≤ 15))) := by
  refine RD.of (by decide) (Nat.le_of_ble_eq_true rfl) ?_
  intro p e s m args below meth c hx hb hrt hml hown hT hlk hK hP ls hl
  replace hl : lv_has ls 1 [(0, .int (zi (v)))] := hl
  refine lv_iload_n (pc := 0) hx hb dX3_isSet_0 rfl (lv_at hl 0 rfl) ?_
  refine z_iconst (pc := 1) hx hb dX3_isSet_1 ?_
  refine z_bipush (pc := 2) hx hb dX3_isSet_2 (by decide) ?_
  refine rd_S (pc := 4) hx hb hml hown hT hK (c_X3_isWithin D cI cJ l (v) (by omega) (0) (by omega) (15) (by omega)) ca_X3_isWithin tw_107 va_Pnil ⟨Nat.le_of_ble_eq_true rfl, Nat.le_of_ble_eq_true rfl⟩ rfl hl.1 (As := [.int (zi (v)), .int (zi (0)), .int (zi (15))]) (rest := []) rfl (Nat.le_of_ble_eq_true rfl) ⟨Nat.le_of_ble_eq_true rfl, Nat.le_of_ble_eq_true rfl⟩ dX3_isSet_4 ?_
  exact rd_zret hx hb hrt hlk dX3_isSet_7 (bI_c (by omega))

set_option maxHeartbeats 4000000 in
set_option maxRecDepth 100000 in
theorem c_X3_isSetByCause (D : va_G) (cI cJ : ClassId) (l : Launch)  (v : Int) (r_v : -2147483648 ≤ v ∧ v ≤ 2147483647) (d : Int) (r_d : -2147483648 ≤ d ∧ d ≤ 2147483647) : RD D cI cJ l yX3_isSetByCause cX3_isSetByCause 2 (some .boolean) 2 42 [.int (zi (v)), .int (zi (d))] [] (.int (bI ((0 ≤ v ∧ v ≤ 15) ∧ (-1 ≤ d ∧ d ≤ 2)))) := by
  refine RD.of (by decide) (Nat.le_of_ble_eq_true rfl) ?_
  intro p e s m args below meth c hx hb hrt hml hown hT hlk hK hP ls hl
  replace hl : lv_has ls 2 [(0, .int (zi (v))), (1, .int (zi (d)))] := hl
  refine lv_iload_n (pc := 0) hx hb dX3_isSetByCause_0 rfl (lv_at hl 0 rfl) ?_
  refine rd_S (pc := 1) hx hb hml hown hT hK (c_X3_isSet D cI cJ l (v) (by omega)) ca_X3_isSet tw_140 va_Pnil ⟨Nat.le_of_ble_eq_true rfl, Nat.le_of_ble_eq_true rfl⟩ rfl hl.1 (As := [.int (zi (v))]) (rest := []) rfl (Nat.le_of_ble_eq_true rfl) ⟨Nat.le_of_ble_eq_true rfl, Nat.le_of_ble_eq_true rfl⟩ dX3_isSetByCause_1 ?_
  refine z_ifB_eq (tgt := 20) (pc := 4) hx hb dX3_isSetByCause_4 (by decide) (fun c_1 => ?_) (fun c_1 => ?_)
  · refine z_iconst (pc := 20) hx hb dX3_isSetByCause_20 ?_
    exact rd_zret hx hb hrt hlk dX3_isSetByCause_21 (bI0 (by omega))
  · refine lv_iload_n (pc := 7) hx hb dX3_isSetByCause_7 rfl (lv_at hl 1 rfl) ?_
    refine z_iconst (pc := 8) hx hb dX3_isSetByCause_8 ?_
    refine z_iconst (pc := 9) hx hb dX3_isSetByCause_9 ?_
    refine rd_S (pc := 10) hx hb hml hown hT hK (c_X3_isWithin D cI cJ l (d) (by omega) (-1) (by omega) (2) (by omega)) ca_X3_isWithin tw_107 va_Pnil ⟨Nat.le_of_ble_eq_true rfl, Nat.le_of_ble_eq_true rfl⟩ rfl hl.1 (As := [.int (zi (d)), .int (zi (-1)), .int (zi (2))]) (rest := []) rfl (Nat.le_of_ble_eq_true rfl) ⟨Nat.le_of_ble_eq_true rfl, Nat.le_of_ble_eq_true rfl⟩ dX3_isSetByCause_10 ?_
    refine z_ifB_eq (tgt := 20) (pc := 13) hx hb dX3_isSetByCause_13 (by decide) (fun c_2 => ?_) (fun c_2 => ?_)
    · refine z_iconst (pc := 20) hx hb dX3_isSetByCause_20 ?_
      exact rd_zret hx hb hrt hlk dX3_isSetByCause_21 (bI0 (by omega))
    · refine z_iconst (pc := 16) hx hb dX3_isSetByCause_16 ?_
      refine lv_goto (tgt := 21) (pc := 17) hx hb dX3_isSetByCause_17 (by decide) ?_
      exact rd_zret hx hb hrt hlk dX3_isSetByCause_21 (bI1 (by omega))

set_option maxHeartbeats 4000000 in
set_option maxRecDepth 100000 in
theorem c_X3_isLaw (D : va_G) (cI cJ : ClassId) (l : Launch)  (b : Int) (r_b : -2147483648 ≤ b ∧ b ≤ 2147483647) (s_ : Int) (r_s_ : -2147483648 ≤ s_ ∧ s_ ≤ 2147483647) : RD D cI cJ l yX3_isLaw cX3_isLaw 2 (some .boolean) 1 22 [.int (zi (b)), .int (zi (s_))] [] (.int (bI ((1 ≤ b ∧ b ≤ 100000) ∧ (1 ≤ s_ ∧ s_ ≤ 20)))) := by
  refine RD.of (by decide) (Nat.le_of_ble_eq_true rfl) ?_
  intro p e s m args below meth c hx hb hrt hml hown hT hlk hK hP ls hl
  replace hl : lv_has ls 2 [(0, .int (zi (b))), (1, .int (zi (s_)))] := hl
  refine lv_iload_n (pc := 0) hx hb dX3_isLaw_0 rfl (lv_at hl 0 rfl) ?_
  refine z_iconst (pc := 1) hx hb dX3_isLaw_1 ?_
  refine z_ldc (pc := 2) hx hb (100000) hown (hT _ tw_253) (by decide) dX3_isLaw_2 ?_
  refine rd_S (pc := 4) hx hb hml hown hT hK (c_X3_isWithin D cI cJ l (b) (by omega) (1) (by omega) (100000) (by omega)) ca_X3_isWithin tw_107 va_Pnil ⟨Nat.le_of_ble_eq_true rfl, Nat.le_of_ble_eq_true rfl⟩ rfl hl.1 (As := [.int (zi (b)), .int (zi (1)), .int (zi (100000))]) (rest := []) rfl (Nat.le_of_ble_eq_true rfl) ⟨Nat.le_of_ble_eq_true rfl, Nat.le_of_ble_eq_true rfl⟩ dX3_isLaw_4 ?_
  refine z_ifB_eq (tgt := 24) (pc := 7) hx hb dX3_isLaw_7 (by decide) (fun c_1 => ?_) (fun c_1 => ?_)
  · refine z_iconst (pc := 24) hx hb dX3_isLaw_24 ?_
    exact rd_zret hx hb hrt hlk dX3_isLaw_25 (bI0 (by omega))
  · refine lv_iload_n (pc := 10) hx hb dX3_isLaw_10 rfl (lv_at hl 1 rfl) ?_
    refine z_iconst (pc := 11) hx hb dX3_isLaw_11 ?_
    refine z_bipush (pc := 12) hx hb dX3_isLaw_12 (by decide) ?_
    refine rd_S (pc := 14) hx hb hml hown hT hK (c_X3_isWithin D cI cJ l (s_) (by omega) (1) (by omega) (20) (by omega)) ca_X3_isWithin tw_107 va_Pnil ⟨Nat.le_of_ble_eq_true rfl, Nat.le_of_ble_eq_true rfl⟩ rfl hl.1 (As := [.int (zi (s_)), .int (zi (1)), .int (zi (20))]) (rest := []) rfl (Nat.le_of_ble_eq_true rfl) ⟨Nat.le_of_ble_eq_true rfl, Nat.le_of_ble_eq_true rfl⟩ dX3_isLaw_14 ?_
    refine z_ifB_eq (tgt := 24) (pc := 17) hx hb dX3_isLaw_17 (by decide) (fun c_2 => ?_) (fun c_2 => ?_)
    · refine z_iconst (pc := 24) hx hb dX3_isLaw_24 ?_
      exact rd_zret hx hb hrt hlk dX3_isLaw_25 (bI0 (by omega))
    · refine z_iconst (pc := 20) hx hb dX3_isLaw_20 ?_
      refine lv_goto (tgt := 25) (pc := 21) hx hb dX3_isLaw_21 (by decide) ?_
      exact rd_zret hx hb hrt hlk dX3_isLaw_25 (bI1 (by omega))

set_option maxHeartbeats 4000000 in
set_option maxRecDepth 100000 in
theorem c_X3_cut (D : va_G) (cI cJ : ClassId) (l : Launch)  (a b : Int) (hq : 0 ≤ a ∧ a ≤ 2147483647 ∧ 0 < b ∧ b ≤ 2147483647) : RD D cI cJ l yX3_cut cX3_cut 2 (some .int) 0 0 [.int (zi (a)), .int (zi (b))] [] (.int (zi (a / b))) := by
  refine RD.of (by decide) (Nat.le_of_ble_eq_true rfl) ?_
  intro p e s m args below meth c hx hb hrt hml hown hT hlk hK hP ls hl
  replace hl : lv_has ls 2 [(0, .int (zi (a))), (1, .int (zi (b)))] := hl
  refine lv_iload_n (pc := 0) hx hb dX3_cut_0 rfl (lv_at hl 1 rfl) ?_
  refine z_if_le (tgt := 10) (pc := 1) hx hb dX3_cut_1 (by decide) (by omega) (fun c_1 => absurd c_1 (by omega)) (fun c_1 => ?_)
  refine lv_iload_n (pc := 4) hx hb dX3_cut_4 rfl (lv_at hl 0 rfl) ?_
  refine lv_iload_n (pc := 5) hx hb dX3_cut_5 rfl (lv_at hl 1 rfl) ?_
  refine z_idiv (pc := 6) hx hb (by omega) dX3_cut_6 ?_
  refine lv_goto (tgt := 11) (pc := 7) hx hb dX3_cut_7 (by decide) ?_
  exact rd_iret hx hb hrt hlk dX3_cut_11 (rfl)

set_option maxHeartbeats 4000000 in
set_option maxRecDepth 100000 in
theorem c_X3_roundedUp (D : va_G) (cI cJ : ClassId) (l : Launch)  (a b : Int) (hq : 0 ≤ a ∧ a + b ≤ 2147483647 ∧ 0 < b) : RD D cI cJ l yX3_roundedUp cX3_roundedUp 2 (some .int) 1 21 [.int (zi (a)), .int (zi (b))] [] (.int (zi ((a + b - 1) / b))) := by
  refine RD.of (by decide) (Nat.le_of_ble_eq_true rfl) ?_
  intro p e s m args below meth c hx hb hrt hml hown hT hlk hK hP ls hl
  replace hl : lv_has ls 2 [(0, .int (zi (a))), (1, .int (zi (b)))] := hl
  refine lv_iload_n (pc := 0) hx hb dX3_roundedUp_0 rfl (lv_at hl 0 rfl) ?_
  refine lv_iload_n (pc := 1) hx hb dX3_roundedUp_1 rfl (lv_at hl 1 rfl) ?_
  refine z_iadd (pc := 2) hx hb dX3_roundedUp_2 ?_
  refine z_iconst (pc := 3) hx hb dX3_roundedUp_3 ?_
  refine z_isub (pc := 4) hx hb dX3_roundedUp_4 ?_
  refine lv_iload_n (pc := 5) hx hb dX3_roundedUp_5 rfl (lv_at hl 1 rfl) ?_
  refine rd_S (pc := 6) hx hb hml hown hT hK (c_X3_cut D cI cJ l (((a + b) - 1)) (b) (by omega)) ca_X3_cut tw_257 va_Pnil ⟨Nat.le_of_ble_eq_true rfl, Nat.le_of_ble_eq_true rfl⟩ rfl hl.1 (As := [.int (zi (((a + b) - 1))), .int (zi (b))]) (rest := []) rfl (Nat.le_of_ble_eq_true rfl) ⟨Nat.le_of_ble_eq_true rfl, Nat.le_of_ble_eq_true rfl⟩ dX3_roundedUp_6 ?_
  exact rd_iret hx hb hrt hlk dX3_roundedUp_9 (rfl)

/-- what a LAW says of a STRESS -/
def saysZ (b s_ : Int) : Nat → Int
  | 0 => b
  | k + 1 => saysZ b s_ k * 10 / (10 + s_)
theorem saysZ_rng (b s_ : Int) (hb : 0 ≤ b) (hs : 1 ≤ s_) : ∀ k, 0 ≤ saysZ b s_ k ∧ saysZ b s_ k ≤ b
  | 0 => by simp only [saysZ]; omega
  | k + 1 => by
    have ih := saysZ_rng b s_ hb hs k
    simp only [saysZ]
    refine ⟨Int.ediv_nonneg (by omega) (by omega), ?_⟩
    have h1 : saysZ b s_ k * 10 / (10 + s_) ≤ saysZ b s_ k := Int.ediv_le_of_le_mul (by omega) (by
      have h2 : saysZ b s_ k * 10 ≤ saysZ b s_ k * (10 + s_) := Int.mul_le_mul_of_nonneg_left (by omega) ih.1
      exact h2)
    omega

set_option maxHeartbeats 4000000 in
set_option maxRecDepth 100000 in
theorem c_X3_lawAt (D : va_G) (cI cJ : ClassId) (l : Launch)  (b s_ z : Int) (K : Nat) (hz : z = (K : Int)) (hq : 0 ≤ b ∧ b ≤ 200000000 ∧ 1 ≤ s_ ∧ s_ ≤ 20 ∧ K ≤ 3) : RD D cI cJ l yX3_lawAt cX3_lawAt 5 (some .int) 1 21 [.int (zi (b)), .int (zi (s_)), .int (zi (z))] [] (.int (zi (saysZ b s_ K))) := by
  subst hz
  refine RD.of (by decide) (Nat.le_of_ble_eq_true rfl) ?_
  intro p e s m args below meth c hx hb hrt hml hown hT hlk hK hP ls hl
  replace hl : lv_has ls 5 [(0, .int (zi (b))), (1, .int (zi (s_))), (2, .int (zi ((K : Int))))] := hl
  have loop : ∀ u : Nat, u ≤ K → ∀ (z1 z2 : Int), (z1 = saysZ b s_ u) → (z2 = (u : Int)) → ∀ ls : Array Slot, lv_has ls 5 [(0, .int (zi (b))), (1, .int (zi (s_))), (2, .int (zi ((K : Int)))), (3, .int (zi (z1))), (4, .int (zi (z2)))] → W p l e (RM 1 21) s m args below meth c s.heap [] 0 0 (MQ below (QR (.int (zi (saysZ b s_ K))) s.heap) args s 0 0 (fun _ => False)) (F0 m 5 ls []) := by
    refine lp_up (fun u => ∀ (z1 z2 : Int), (z1 = saysZ b s_ u) → (z2 = (u : Int)) → ∀ ls : Array Slot, lv_has ls 5 [(0, .int (zi (b))), (1, .int (zi (s_))), (2, .int (zi ((K : Int)))), (3, .int (zi (z1))), (4, .int (zi (z2)))] → W p l e (RM 1 21) s m args below meth c s.heap [] 0 0 (MQ below (QR (.int (zi (saysZ b s_ K))) s.heap) args s 0 0 (fun _ => False)) (F0 m 5 ls [])) (K) ?_ ?_
    · intro z1 z2 e1 e2 ls hl
      have hr1 := saysZ_rng b s_ hq.1 hq.2.2.1 K
      refine lv_iload (pc := 5) hx hb dX3_lawAt_5 (lv_at hl 4 rfl) ?_
      refine lv_iload_n (pc := 7) hx hb dX3_lawAt_7 rfl (lv_at hl 2 rfl) ?_
      refine z_icmp_ge (tgt := 29) (pc := 8) hx hb dX3_lawAt_8 (by decide) (by omega) (by omega) (fun c_1 => ?_) (fun c_1 => absurd c_1 (by omega))
      refine lv_iload_n (pc := 29) hx hb dX3_lawAt_29 rfl (lv_at hl 3 rfl) ?_
      exact rd_iret hx hb hrt hlk dX3_lawAt_30 (by rw [e1])
    · intro u hu ih z1 z2 e1 e2 ls hl
      have hr1 := saysZ_rng b s_ hq.1 hq.2.2.1 u
      refine lv_iload (pc := 5) hx hb dX3_lawAt_5 (lv_at hl 4 rfl) ?_
      refine lv_iload_n (pc := 7) hx hb dX3_lawAt_7 rfl (lv_at hl 2 rfl) ?_
      refine z_icmp_ge (tgt := 29) (pc := 8) hx hb dX3_lawAt_8 (by decide) (by omega) (by omega) (fun c_2 => absurd c_2 (by omega)) (fun c_2 => ?_)
      refine lv_iload_n (pc := 11) hx hb dX3_lawAt_11 rfl (lv_at hl 3 rfl) ?_
      refine z_bipush (pc := 12) hx hb dX3_lawAt_12 (by decide) ?_
      refine z_imul (pc := 14) hx hb dX3_lawAt_14 ?_
      refine z_bipush (pc := 15) hx hb dX3_lawAt_15 (by decide) ?_
      refine lv_iload_n (pc := 17) hx hb dX3_lawAt_17 rfl (lv_at hl 1 rfl) ?_
      refine z_iadd (pc := 18) hx hb dX3_lawAt_18 ?_
      refine rd_S (pc := 19) hx hb hml hown hT hK (c_X3_cut D cI cJ l ((z1 * 10)) ((10 + s_)) (by omega)) ca_X3_cut tw_257 va_Pnil ⟨Nat.le_of_ble_eq_true rfl, Nat.le_of_ble_eq_true rfl⟩ rfl hl.1 (As := [.int (zi ((z1 * 10))), .int (zi ((10 + s_)))]) (rest := []) rfl (Nat.le_of_ble_eq_true rfl) ⟨Nat.le_of_ble_eq_true rfl, Nat.le_of_ble_eq_true rfl⟩ dX3_lawAt_19 ?_
      refine lv_istore_n (lv' := [(3, .int (zi (((z1 * 10) / (10 + s_))))), (0, .int (zi (b))), (1, .int (zi (s_))), (2, .int (zi ((K : Int)))), (4, .int (zi (z2)))]) (pc := 22) hx hb dX3_lawAt_22 rfl hl (by decide) rfl (fun ls hl => ?_)
      refine lv_iinc (v := zi (z2 + 1)) (lv' := [(4, .int (zi ((z2 + 1)))), (3, .int (zi (((z1 * 10) / (10 + s_))))), (0, .int (zi (b))), (1, .int (zi (s_))), (2, .int (zi ((K : Int))))]) (pc := 23) hx hb dX3_lawAt_23 hl (k := 4) rfl (zi_add _ _) (by decide) rfl (fun ls hl => ?_)
      refine lv_goto (tgt := 5) (pc := 26) hx hb dX3_lawAt_26 (by decide) ?_
      exact ih  _ _ (by rw [e1]; rfl) (by rw [e2]; rfl) ls (lv_sub hl [2, 3, 4, 1, 0] rfl)
  refine lv_iload_n (pc := 0) hx hb dX3_lawAt_0 rfl (lv_at hl 0 rfl) ?_
  refine lv_istore_n (lv' := [(3, .int (zi (b))), (0, .int (zi (b))), (1, .int (zi (s_))), (2, .int (zi ((K : Int))))]) (pc := 1) hx hb dX3_lawAt_1 rfl hl (by decide) rfl (fun ls hl => ?_)
  refine z_iconst (pc := 2) hx hb dX3_lawAt_2 ?_
  refine lv_istore (lv' := [(4, .int (zi (0))), (3, .int (zi (b))), (0, .int (zi (b))), (1, .int (zi (s_))), (2, .int (zi ((K : Int))))]) (pc := 3) hx hb dX3_lawAt_3 hl (by decide) rfl (fun ls hl => ?_)
  exact loop 0 (by omega) _ _ (by rfl) (by rfl) ls (lv_sub hl [2, 3, 4, 1, 0] rfl)

set_option maxHeartbeats 4000000 in
set_option maxRecDepth 100000 in
theorem c_X3_power (D : va_G) (cI cJ : ClassId) (l : Launch)  (b z : Int) (K : Nat) (hz : z = (K : Int)) (hq : 0 ≤ b ∧ b ≤ 10 ∧ K ≤ 12) : RD D cI cJ l yX3_power cX3_power 5 (some .long) 0 0 [.int (zi (b)), .int (zi (z))] [] (.long (zj (b ^ K))) := by
  subst hz
  refine RD.of (by decide) (Nat.le_of_ble_eq_true rfl) ?_
  intro p e s m args below meth c hx hb hrt hml hown hT hlk hK hP ls hl
  replace hl : lv_has ls 5 [(0, .int (zi (b))), (1, .int (zi ((K : Int))))] := hl
  have loop : ∀ u : Nat, u ≤ K → ∀ (z1 z2 : Int), (z1 = b ^ u) → (z2 = (u : Int)) → ∀ ls : Array Slot, lv_has ls 5 [(0, .int (zi (b))), (1, .int (zi ((K : Int)))), (2, .long (zj (z1))), (4, .int (zi (z2)))] → W p l e (RM 0 0) s m args below meth c s.heap [] 0 0 (MQ below (QR (.long (zj (b ^ K))) s.heap) args s 0 0 (fun _ => False)) (F0 m 5 ls []) := by
    refine lp_up (fun u => ∀ (z1 z2 : Int), (z1 = b ^ u) → (z2 = (u : Int)) → ∀ ls : Array Slot, lv_has ls 5 [(0, .int (zi (b))), (1, .int (zi ((K : Int)))), (2, .long (zj (z1))), (4, .int (zi (z2)))] → W p l e (RM 0 0) s m args below meth c s.heap [] 0 0 (MQ below (QR (.long (zj (b ^ K))) s.heap) args s 0 0 (fun _ => False)) (F0 m 5 ls [])) (K) ?_ ?_
    · intro z1 z2 e1 e2 ls hl
      refine lv_iload (pc := 5) hx hb dX3_power_5 (lv_at hl 3 rfl) ?_
      refine lv_iload_n (pc := 7) hx hb dX3_power_7 rfl (lv_at hl 1 rfl) ?_
      refine z_icmp_ge (tgt := 22) (pc := 8) hx hb dX3_power_8 (by decide) (by omega) (by omega) (fun c_1 => ?_) (fun c_1 => absurd c_1 (by omega))
      refine lv_lload_n (pc := 22) hx hb dX3_power_22 rfl (lv_at hl 2 rfl) ?_
      exact rd_lret hx hb hrt hlk dX3_power_23 (by rw [e1])
    · intro u hu ih z1 z2 e1 e2 ls hl
      refine lv_iload (pc := 5) hx hb dX3_power_5 (lv_at hl 3 rfl) ?_
      refine lv_iload_n (pc := 7) hx hb dX3_power_7 rfl (lv_at hl 1 rfl) ?_
      refine z_icmp_ge (tgt := 22) (pc := 8) hx hb dX3_power_8 (by decide) (by omega) (by omega) (fun c_2 => absurd c_2 (by omega)) (fun c_2 => ?_)
      refine lv_lload_n (pc := 11) hx hb dX3_power_11 rfl (lv_at hl 2 rfl) ?_
      refine lv_iload_n (pc := 12) hx hb dX3_power_12 rfl (lv_at hl 0 rfl) ?_
      refine z_i2l (pc := 13) hx hb (by omega) dX3_power_13 ?_
      refine z_lmul (pc := 14) hx hb dX3_power_14 ?_
      refine lv_lstore_n (lv' := [(2, .long (zj ((z1 * b)))), (0, .int (zi (b))), (1, .int (zi ((K : Int)))), (4, .int (zi (z2)))]) (pc := 15) hx hb dX3_power_15 rfl hl (by decide) rfl (fun ls hl => ?_)
      refine lv_iinc (v := zi (z2 + 1)) (lv' := [(4, .int (zi ((z2 + 1)))), (2, .long (zj ((z1 * b)))), (0, .int (zi (b))), (1, .int (zi ((K : Int))))]) (pc := 16) hx hb dX3_power_16 hl (k := 3) rfl (zi_add _ _) (by decide) rfl (fun ls hl => ?_)
      refine lv_goto (tgt := 5) (pc := 19) hx hb dX3_power_19 (by decide) ?_
      exact ih  _ _ (by rw [e1]; exact (Int.pow_succ b u).symm) (by rw [e2]; rfl) ls (lv_sub hl [2, 3, 1, 0] rfl)
  refine z_lconst1 (pc := 0) hx hb dX3_power_0 ?_
  refine lv_lstore_n (lv' := [(2, .long (zj (1))), (0, .int (zi (b))), (1, .int (zi ((K : Int))))]) (pc := 1) hx hb dX3_power_1 rfl hl (by decide) rfl (fun ls hl => ?_)
  refine z_iconst (pc := 2) hx hb dX3_power_2 ?_
  refine lv_istore (lv' := [(4, .int (zi (0))), (2, .long (zj (1))), (0, .int (zi (b))), (1, .int (zi ((K : Int))))]) (pc := 3) hx hb dX3_power_3 hl (by decide) rfl (fun ls hl => ?_)
  exact loop 0 (by omega) _ _ (by rw [Int.pow_zero]) (by rfl) ls (lv_sub hl [2, 3, 1, 0] rfl)

/-- in how many ways k of n -/
def waysZ (n : Int) : Nat → Int
  | 0 => 1
  | k + 1 => waysZ n k * (n - k) / (k + 1)
theorem waysZ_tab : ∀ n : Fin 13, ∀ k : Fin 14, 0 ≤ waysZ (n.val : Int) k.val ∧ waysZ (n.val : Int) k.val ≤ 924 := by decide +kernel
theorem waysZ_rng {n k : Nat} (hn : n ≤ 12) (hk : k ≤ 13) : 0 ≤ waysZ (n : Int) k ∧ waysZ (n : Int) k ≤ 924 := waysZ_tab ⟨n, by omega⟩ ⟨k, by omega⟩

set_option maxHeartbeats 4000000 in
set_option maxRecDepth 100000 in
theorem c_X3_ways (D : va_G) (cI cJ : ClassId) (l : Launch)  (y z : Int) (N K : Nat) (hy : y = (N : Int)) (hz : z = (K : Int)) (hq : N ≤ 12 ∧ K ≤ N) : RD D cI cJ l yX3_ways cX3_ways 5 (some .long) 0 0 [.int (zi (y)), .int (zi (z))] [] (.long (zj (waysZ N K))) := by
  subst hy
  subst hz
  refine RD.of (by decide) (Nat.le_of_ble_eq_true rfl) ?_
  intro p e s m args below meth c hx hb hrt hml hown hT hlk hK hP ls hl
  replace hl : lv_has ls 5 [(0, .int (zi ((N : Int)))), (1, .int (zi ((K : Int))))] := hl
  have loop : ∀ u : Nat, u ≤ K → ∀ (z1 z2 : Int), (z1 = waysZ N u) → (z2 = (u : Int)) → ∀ ls : Array Slot, lv_has ls 5 [(0, .int (zi ((N : Int)))), (1, .int (zi ((K : Int)))), (2, .long (zj (z1))), (4, .int (zi (z2)))] → W p l e (RM 0 0) s m args below meth c s.heap [] 0 0 (MQ below (QR (.long (zj (waysZ N K))) s.heap) args s 0 0 (fun _ => False)) (F0 m 5 ls []) := by
    refine lp_up (fun u => ∀ (z1 z2 : Int), (z1 = waysZ N u) → (z2 = (u : Int)) → ∀ ls : Array Slot, lv_has ls 5 [(0, .int (zi ((N : Int)))), (1, .int (zi ((K : Int)))), (2, .long (zj (z1))), (4, .int (zi (z2)))] → W p l e (RM 0 0) s m args below meth c s.heap [] 0 0 (MQ below (QR (.long (zj (waysZ N K))) s.heap) args s 0 0 (fun _ => False)) (F0 m 5 ls [])) (K) ?_ ?_
    · intro z1 z2 e1 e2 ls hl
      have hw := waysZ_rng (n := N) (k := K) (by omega) (by omega)
      refine lv_iload (pc := 5) hx hb dX3_ways_5 (lv_at hl 3 rfl) ?_
      refine lv_iload_n (pc := 7) hx hb dX3_ways_7 rfl (lv_at hl 1 rfl) ?_
      refine z_icmp_ge (tgt := 31) (pc := 8) hx hb dX3_ways_8 (by decide) (by omega) (by omega) (fun c_1 => ?_) (fun c_1 => absurd c_1 (by omega))
      refine lv_lload_n (pc := 31) hx hb dX3_ways_31 rfl (lv_at hl 2 rfl) ?_
      exact rd_lret hx hb hrt hlk dX3_ways_32 (by rw [e1])
    · intro u hu ih z1 z2 e1 e2 ls hl
      have hw := waysZ_rng (n := N) (k := u) (by omega) (by omega)
      rw [← e1] at hw
      refine lv_iload (pc := 5) hx hb dX3_ways_5 (lv_at hl 3 rfl) ?_
      refine lv_iload_n (pc := 7) hx hb dX3_ways_7 rfl (lv_at hl 1 rfl) ?_
      refine z_icmp_ge (tgt := 31) (pc := 8) hx hb dX3_ways_8 (by decide) (by omega) (by omega) (fun c_2 => absurd c_2 (by omega)) (fun c_2 => ?_)
      refine lv_lload_n (pc := 11) hx hb dX3_ways_11 rfl (lv_at hl 2 rfl) ?_
      refine lv_iload_n (pc := 12) hx hb dX3_ways_12 rfl (lv_at hl 0 rfl) ?_
      refine lv_iload (pc := 13) hx hb dX3_ways_13 (lv_at hl 3 rfl) ?_
      refine z_isub (pc := 15) hx hb dX3_ways_15 ?_
      refine z_i2l (pc := 16) hx hb (by omega) dX3_ways_16 ?_
      refine z_lmul (pc := 17) hx hb dX3_ways_17 ?_
      refine lv_iload (pc := 18) hx hb dX3_ways_18 (lv_at hl 3 rfl) ?_
      refine z_iconst (pc := 20) hx hb dX3_ways_20 ?_
      refine z_iadd (pc := 21) hx hb dX3_ways_21 ?_
      refine z_i2l (pc := 22) hx hb (by omega) dX3_ways_22 ?_
      refine z_ldiv (pc := 23) hx hb ⟨Int.mul_nonneg (by omega) (by omega), Int.le_trans (Int.mul_le_mul (show z1 ≤ 924 by omega) (show (N : Int) - z2 ≤ 12 by omega) (by omega) (by omega)) (by omega), by omega, by omega⟩ dX3_ways_23 ?_
      refine lv_lstore_n (lv' := [(2, .long (zj (((z1 * ((N : Int) - z2)) / (z2 + 1))))), (0, .int (zi ((N : Int)))), (1, .int (zi ((K : Int)))), (4, .int (zi (z2)))]) (pc := 24) hx hb dX3_ways_24 rfl hl (by decide) rfl (fun ls hl => ?_)
      refine lv_iinc (v := zi (z2 + 1)) (lv' := [(4, .int (zi ((z2 + 1)))), (2, .long (zj (((z1 * ((N : Int) - z2)) / (z2 + 1))))), (0, .int (zi ((N : Int)))), (1, .int (zi ((K : Int))))]) (pc := 25) hx hb dX3_ways_25 hl (k := 3) rfl (zi_add _ _) (by decide) rfl (fun ls hl => ?_)
      refine lv_goto (tgt := 5) (pc := 28) hx hb dX3_ways_28 (by decide) ?_
      exact ih  _ _ (by rw [e1, e2]; rfl) (by rw [e2]; rfl) ls (lv_sub hl [2, 3, 1, 0] rfl)
  refine z_lconst1 (pc := 0) hx hb dX3_ways_0 ?_
  refine lv_lstore_n (lv' := [(2, .long (zj (1))), (0, .int (zi ((N : Int)))), (1, .int (zi ((K : Int))))]) (pc := 1) hx hb dX3_ways_1 rfl hl (by decide) rfl (fun ls hl => ?_)
  refine z_iconst (pc := 2) hx hb dX3_ways_2 ?_
  refine lv_istore (lv' := [(4, .int (zi (0))), (2, .long (zj (1))), (0, .int (zi ((N : Int)))), (1, .int (zi ((K : Int))))]) (pc := 3) hx hb dX3_ways_3 hl (by decide) rfl (fun ls hl => ?_)
  exact loop 0 (by omega) _ _ (by rfl) (by rfl) ls (lv_sub hl [2, 3, 1, 0] rfl)

/-- the sum of f at a, a + 1, .. (c of them) -/
def sumZ (f : Nat → Int) (a : Nat) : Nat → Int
  | 0 => 0
  | c + 1 => sumZ f a c + f (a + c)
/-- of the 10 to the Nth like cases those in which just i of N fail -/
def termZ (N : Nat) (j : Int) (i : Nat) : Int := waysZ N i * j ^ i * (10 - j) ^ (N - i)
theorem sumZ_nonneg {f : Nat → Int} {a : Nat} : ∀ c : Nat, (∀ i, i < a + c → 0 ≤ f i) → 0 ≤ sumZ f a c
  | 0, _ => by simp [sumZ]
  | c + 1, h => by
    have ih := sumZ_nonneg (f := f) (a := a) c (fun i hi => h i (by omega))
    have h1 := h (a + c) (by omega)
    simp only [sumZ]; omega
theorem sumZ_split (f : Nat → Int) (a : Nat) : ∀ c d : Nat, sumZ f a (c + d) = sumZ f a c + sumZ f (a + c) d
  | c, 0 => by simp [sumZ]
  | c, d + 1 => by
    have ih := sumZ_split f a c d
    have e : a + (c + d) = a + c + d := by omega
    rw [← Nat.add_assoc]
    simp only [sumZ]
    rw [ih, e]; omega
theorem termZ_nonneg {N i : Nat} {j : Int} (hN : N ≤ 12) (hi : i ≤ N) (hj : 0 ≤ j ∧ j ≤ 10) : 0 ≤ termZ N j i := by
  have h := waysZ_rng (n := N) (k := i) hN (by omega)
  exact Int.mul_nonneg (Int.mul_nonneg h.1 (Int.pow_nonneg hj.1)) (Int.pow_nonneg (by omega))
theorem termZ_all : ∀ N : Fin 13, ∀ j : Fin 11, sumZ (termZ N.val (j.val : Int)) 0 (N.val + 1) = 10 ^ N.val := by decide +kernel
theorem pow10_tab : ∀ N : Fin 13, (10 : Int) ^ N.val ≤ 1000000000000 ∧ (1 : Int) ≤ 10 ^ N.val := by decide +kernel
theorem pow10_rng {N : Nat} (h : N ≤ 12) : (10 : Int) ^ N ≤ 1000000000000 ∧ (1 : Int) ≤ 10 ^ N := pow10_tab ⟨N, by omega⟩
theorem cases_rng {N a c j : Nat} (hN : N ≤ 12) (hac : a + c ≤ N + 1) (hj : j ≤ 10) : 0 ≤ sumZ (termZ N (j : Int)) a c ∧ sumZ (termZ N (j : Int)) a c ≤ 10 ^ N := by
  have hf : ∀ i, i < N + 1 → 0 ≤ termZ N (j : Int) i := fun i hi => termZ_nonneg hN (by omega) (by omega)
  have h0 := sumZ_nonneg (f := termZ N (j : Int)) (a := a) c (fun i hi => hf i (by omega))
  have hall := termZ_all ⟨N, by omega⟩ ⟨j, by omega⟩
  simp only at hall
  have e : N + 1 = a + (c + (N + 1 - (a + c))) := by omega
  rw [e, sumZ_split, sumZ_split, Nat.zero_add] at hall
  have h1 := sumZ_nonneg (f := termZ N (j : Int)) (a := 0) a (fun i hi => hf i (by omega))
  have h2 := sumZ_nonneg (f := termZ N (j : Int)) (a := a + c) (N + 1 - (a + c)) (fun i hi => hf i (by omega))
  omega

set_option maxHeartbeats 4000000 in
set_option maxRecDepth 100000 in
theorem c_X3_casesOf (D : va_G) (cI cJ : ClassId) (l : Launch)  (y x q z : Int) (N a C j : Nat) (hy : y = (N : Int)) (hx0 : x = (a : Int)) (hz : z = (j : Int)) (hq : N ≤ 12 ∧ (a : Int) + C = q + 1 ∧ a + C ≤ N + 1 ∧ j ≤ 10) : RD D cI cJ l yX3_casesOf cX3_casesOf 7 (some .long) 1 24 [.int (zi (y)), .int (zi (x)), .int (zi (q)), .int (zi (z))] [] (.long (zj (sumZ (termZ N j) a C))) := by
  subst hy
  subst hx0
  subst hz
  refine RD.of (by decide) (Nat.le_of_ble_eq_true rfl) ?_
  intro p e s m args below meth c hx hb hrt hml hown hT hlk hK hP ls hl
  replace hl : lv_has ls 7 [(0, .int (zi ((N : Int)))), (1, .int (zi ((a : Int)))), (2, .int (zi (q))), (3, .int (zi ((j : Int))))] := hl
  have loop : ∀ u : Nat, u ≤ C → ∀ (z1 z2 : Int), (z1 = sumZ (termZ N j) a u) → (z2 = (a : Int) + (u : Int)) → ∀ ls : Array Slot, lv_has ls 7 [(0, .int (zi ((N : Int)))), (2, .int (zi (q))), (3, .int (zi ((j : Int)))), (4, .long (zj (z1))), (6, .int (zi (z2)))] → W p l e (RM 1 24) s m args below meth c s.heap [] 0 0 (MQ below (QR (.long (zj (sumZ (termZ N j) a C))) s.heap) args s 0 0 (fun _ => False)) (F0 m 6 ls []) := by
    refine lp_up (fun u => ∀ (z1 z2 : Int), (z1 = sumZ (termZ N j) a u) → (z2 = (a : Int) + (u : Int)) → ∀ ls : Array Slot, lv_has ls 7 [(0, .int (zi ((N : Int)))), (2, .int (zi (q))), (3, .int (zi ((j : Int)))), (4, .long (zj (z1))), (6, .int (zi (z2)))] → W p l e (RM 1 24) s m args below meth c s.heap [] 0 0 (MQ below (QR (.long (zj (sumZ (termZ N j) a C))) s.heap) args s 0 0 (fun _ => False)) (F0 m 6 ls [])) (C) ?_ ?_
    · intro z1 z2 e1 e2 ls hl
      refine lv_iload (pc := 6) hx hb dX3_casesOf_6 (lv_at hl 4 rfl) ?_
      refine lv_iload_n (pc := 8) hx hb dX3_casesOf_8 rfl (lv_at hl 1 rfl) ?_
      refine z_icmp_gt (tgt := 48) (pc := 9) hx hb dX3_casesOf_9 (by decide) (by omega) (by omega) (fun c_1 => ?_) (fun c_1 => absurd c_1 (by omega))
      refine lv_lload (pc := 48) hx hb dX3_casesOf_48 (lv_at hl 3 rfl) ?_
      exact rd_lret hx hb hrt hlk dX3_casesOf_50 (by rw [e1])
    · intro u hu ih z1 z2 e1 e2 ls hl
      refine lv_iload (pc := 6) hx hb dX3_casesOf_6 (lv_at hl 4 rfl) ?_
      refine lv_iload_n (pc := 8) hx hb dX3_casesOf_8 rfl (lv_at hl 1 rfl) ?_
      refine z_icmp_gt (tgt := 48) (pc := 9) hx hb dX3_casesOf_9 (by decide) (by omega) (by omega) (fun c_2 => absurd c_2 (by omega)) (fun c_2 => ?_)
      refine lv_lload (pc := 12) hx hb dX3_casesOf_12 (lv_at hl 3 rfl) ?_
      refine lv_iload_n (pc := 14) hx hb dX3_casesOf_14 rfl (lv_at hl 0 rfl) ?_
      refine lv_iload (pc := 15) hx hb dX3_casesOf_15 (lv_at hl 4 rfl) ?_
      refine rd_S (pc := 17) hx hb hml hown hT hK (c_X3_ways D cI cJ l ((N : Int)) (z2) N (a + u) (by omega) (by omega) (by omega)) ca_X3_ways tw_308 va_Pnil ⟨Nat.le_of_ble_eq_true rfl, Nat.le_of_ble_eq_true rfl⟩ rfl hl.1 (As := [.int (zi ((N : Int))), .int (zi (z2))]) (rest := [.long (zj (z1))]) rfl (Nat.le_of_ble_eq_true rfl) ⟨Nat.le_of_ble_eq_true rfl, Nat.le_of_ble_eq_true rfl⟩ dX3_casesOf_17 ?_
      refine lv_iload_n (pc := 20) hx hb dX3_casesOf_20 rfl (lv_at hl 2 rfl) ?_
      refine lv_iload (pc := 21) hx hb dX3_casesOf_21 (lv_at hl 4 rfl) ?_
      refine rd_S (pc := 23) hx hb hml hown hT hK (c_X3_power D cI cJ l ((j : Int)) (z2) ((a + u)) (by omega) (by omega)) ca_X3_power tw_311 va_Pnil ⟨Nat.le_of_ble_eq_true rfl, Nat.le_of_ble_eq_true rfl⟩ rfl hl.1 (As := [.int (zi ((j : Int))), .int (zi (z2))]) (rest := [.long (zj ((waysZ N (a + u)))), .long (zj (z1))]) rfl (Nat.le_of_ble_eq_true rfl) ⟨Nat.le_of_ble_eq_true rfl, Nat.le_of_ble_eq_true rfl⟩ dX3_casesOf_23 ?_
      refine z_lmul (pc := 26) hx hb dX3_casesOf_26 ?_
      refine z_bipush (pc := 27) hx hb dX3_casesOf_27 (by decide) ?_
      refine lv_iload_n (pc := 29) hx hb dX3_casesOf_29 rfl (lv_at hl 2 rfl) ?_
      refine z_isub (pc := 30) hx hb dX3_casesOf_30 ?_
      refine lv_iload_n (pc := 31) hx hb dX3_casesOf_31 rfl (lv_at hl 0 rfl) ?_
      refine lv_iload (pc := 32) hx hb dX3_casesOf_32 (lv_at hl 4 rfl) ?_
      refine z_isub (pc := 34) hx hb dX3_casesOf_34 ?_
      refine rd_S (pc := 35) hx hb hml hown hT hK (c_X3_power D cI cJ l ((10 - (j : Int))) (((N : Int) - z2)) ((N - (a + u))) (by omega) (by omega)) ca_X3_power tw_311 va_Pnil ⟨Nat.le_of_ble_eq_true rfl, Nat.le_of_ble_eq_true rfl⟩ rfl hl.1 (As := [.int (zi ((10 - (j : Int)))), .int (zi (((N : Int) - z2)))]) (rest := [.long (zj (((waysZ N (a + u)) * (((j : Int)) ^ ((a + u)))))), .long (zj (z1))]) rfl (Nat.le_of_ble_eq_true rfl) ⟨Nat.le_of_ble_eq_true rfl, Nat.le_of_ble_eq_true rfl⟩ dX3_casesOf_35 ?_
      refine z_lmul (pc := 38) hx hb dX3_casesOf_38 ?_
      refine z_ladd (pc := 39) hx hb dX3_casesOf_39 ?_
      refine lv_lstore (lv' := [(4, .long (zj ((z1 + (((waysZ N (a + u)) * (((j : Int)) ^ ((a + u)))) * (((10 - (j : Int))) ^ ((N - (a + u))))))))), (0, .int (zi ((N : Int)))), (2, .int (zi (q))), (3, .int (zi ((j : Int)))), (6, .int (zi (z2)))]) (pc := 40) hx hb dX3_casesOf_40 hl (by decide) rfl (fun ls hl => ?_)
      refine lv_iinc (v := zi (z2 + 1)) (lv' := [(6, .int (zi ((z2 + 1)))), (4, .long (zj ((z1 + (((waysZ N (a + u)) * (((j : Int)) ^ ((a + u)))) * (((10 - (j : Int))) ^ ((N - (a + u))))))))), (0, .int (zi ((N : Int)))), (2, .int (zi (q))), (3, .int (zi ((j : Int))))]) (pc := 42) hx hb dX3_casesOf_42 hl (k := 4) rfl (zi_add _ _) (by decide) rfl (fun ls hl => ?_)
      refine lv_goto (tgt := 6) (pc := 45) hx hb dX3_casesOf_45 (by decide) ?_
      exact ih  _ _ (by rw [e1]; rfl) (by omega) ls (lv_sub hl [2, 3, 4, 1, 0] rfl)
  refine z_lconst0 (pc := 0) hx hb dX3_casesOf_0 ?_
  refine lv_lstore (lv' := [(4, .long (zj (0))), (0, .int (zi ((N : Int)))), (1, .int (zi ((a : Int)))), (2, .int (zi (q))), (3, .int (zi ((j : Int))))]) (pc := 1) hx hb dX3_casesOf_1 hl (by decide) rfl (fun ls hl => ?_)
  refine lv_iload_n (pc := 3) hx hb dX3_casesOf_3 rfl (lv_at hl 2 rfl) ?_
  refine lv_istore (lv' := [(6, .int (zi ((a : Int)))), (4, .long (zj (0))), (0, .int (zi ((N : Int)))), (1, .int (zi ((a : Int)))), (2, .int (zi (q))), (3, .int (zi ((j : Int))))]) (pc := 4) hx hb dX3_casesOf_4 hl (by decide) rfl (fun ls hl => ?_)
  exact loop 0 (by omega) _ _ (by rfl) (by omega) ls (lv_sub hl [2, 4, 5, 1, 0] rfl)

set_option maxHeartbeats 4000000 in
set_option maxRecDepth 100000 in
theorem c_X3_isAtMost (D : va_G) (cI cJ : ClassId) (l : Launch)  (h y x : Int) (N : Nat) (hy : y = (N : Int)) (hq : 0 ≤ h ∧ h ≤ 50 ∧ N ≤ 12 ∧ 0 ≤ x ∧ x ≤ 1000000000000) : RD D cI cJ l yX3_isAtMost cX3_isAtMost 4 (some .boolean) 1 24 [.int (zi (h)), .int (zi (y)), .long (zj (x))] [] (.int (bI (x * 100 ≤ h * 10 ^ N))) := by
  subst hy
  refine RD.of (by decide) (Nat.le_of_ble_eq_true rfl) ?_
  intro p e s m args below meth c hx hb hrt hml hown hT hlk hK hP ls hl
  replace hl : lv_has ls 4 [(0, .int (zi (h))), (1, .int (zi ((N : Int)))), (2, .long (zj (x)))] := hl
  refine lv_lload_n (pc := 0) hx hb dX3_isAtMost_0 rfl (lv_at hl 2 rfl) ?_
  refine z_ldc2 (pc := 1) hx hb (100) hown (hT _ tw_317) (by decide) dX3_isAtMost_1 ?_
  refine z_lmul (pc := 4) hx hb dX3_isAtMost_4 ?_
  refine lv_iload_n (pc := 5) hx hb dX3_isAtMost_5 rfl (lv_at hl 0 rfl) ?_
  refine z_i2l (pc := 6) hx hb (by omega) dX3_isAtMost_6 ?_
  refine z_bipush (pc := 7) hx hb dX3_isAtMost_7 (by decide) ?_
  refine lv_iload_n (pc := 9) hx hb dX3_isAtMost_9 rfl (lv_at hl 1 rfl) ?_
  refine rd_S (pc := 10) hx hb hml hown hT hK (c_X3_power D cI cJ l (10) ((N : Int)) (N) (by omega) (by omega)) ca_X3_power tw_311 va_Pnil ⟨Nat.le_of_ble_eq_true rfl, Nat.le_of_ble_eq_true rfl⟩ rfl hl.1 (As := [.int (zi (10)), .int (zi ((N : Int)))]) (rest := [.long (zj (h)), .long (zj ((x * 100)))]) rfl (Nat.le_of_ble_eq_true rfl) ⟨Nat.le_of_ble_eq_true rfl, Nat.le_of_ble_eq_true rfl⟩ dX3_isAtMost_10 ?_
  refine z_lmul (pc := 13) hx hb dX3_isAtMost_13 ?_
  have hp := pow10_rng (N := N) (by omega)
  have hp2 := Int.mul_le_mul (show h ≤ 50 by omega) hp.1 (by omega) (by omega)
  have hp3 : 0 ≤ h * 10 ^ N := Int.mul_nonneg (by omega) (by omega)
  refine z_lcmp_gt (tgt := 22) (pc := 14) hx hb dX3_isAtMost_14 dX3_isAtMost_15 (by decide) (by omega) (by omega) (fun c_1 => ?_) (fun c_1 => ?_)
  · refine z_iconst (pc := 22) hx hb dX3_isAtMost_22 ?_
    exact rd_zret hx hb hrt hlk dX3_isAtMost_23 (bI0 (by omega))
  · refine z_iconst (pc := 18) hx hb dX3_isAtMost_18 ?_
    refine lv_goto (tgt := 23) (pc := 19) hx hb dX3_isAtMost_19 (by decide) ?_
    exact rd_zret hx hb hrt hlk dX3_isAtMost_23 (bI1 (by omega))

/-- the ends, as the class seeks them -/
def loF (T : Nat → Prop) [DecidablePred T] : Nat → Int
  | 0 => 0
  | j + 1 => if T (j + 1) then ((j + 1 : Nat) : Int) else loF T j
def hiF (T : Nat → Prop) [DecidablePred T] : Nat → Int
  | 0 => 10
  | d + 1 => if T (10 - (d + 1)) then ((10 - (d + 1) : Nat) : Int) else hiF T d
abbrev loT (N k : Nat) (h : Int) (j : Nat) : Prop := sumZ (termZ N (j : Int)) k (N + 1 - k) * 100 ≤ h * 10 ^ N
abbrev hiT (N k : Nat) (h : Int) (j : Nat) : Prop := sumZ (termZ N (j : Int)) 0 (k + 1) * 100 ≤ h * 10 ^ N

set_option maxHeartbeats 4000000 in
set_option maxRecDepth 100000 in
theorem c_X3_lowEnd (D : va_G) (cI cJ : ClassId) (l : Launch)  (y x h : Int) (N kk : Nat) (hy : y = (N : Int)) (hx0 : x = (kk : Int)) (hq : 1 ≤ N ∧ N ≤ 12 ∧ kk ≤ N ∧ 0 ≤ h ∧ h ≤ 50) : RD D cI cJ l yX3_lowEnd cX3_lowEnd 4 (some .int) 2 50 [.int (zi (y)), .int (zi (x)), .int (zi (h))] [] (.int (zi (loF (loT N kk h) 10))) := by
  subst hy
  subst hx0
  refine RD.of (by decide) (Nat.le_of_ble_eq_true rfl) ?_
  intro p e s m args below meth c hx hb hrt hml hown hT hlk hK hP ls hl
  replace hl : lv_has ls 4 [(0, .int (zi ((N : Int)))), (1, .int (zi ((kk : Int)))), (2, .int (zi (h)))] := hl
  have loop : ∀ u : Nat, u ≤ 10 → ∀ (z1 : Int), (z1 = 10 - (u : Int)) → (loF (loT N kk h) (10 - u) = loF (loT N kk h) 10) → ∀ ls : Array Slot, lv_has ls 4 [(0, .int (zi ((N : Int)))), (1, .int (zi ((kk : Int)))), (2, .int (zi (h))), (3, .int (zi (z1)))] → W p l e (RM 2 50) s m args below meth c s.heap [] 0 0 (MQ below (QR (.int (zi (loF (loT N kk h) 10))) s.heap) args s 0 0 (fun _ => False)) (F0 m 3 ls []) := by
    refine lp_up (fun u => ∀ (z1 : Int), (z1 = 10 - (u : Int)) → (loF (loT N kk h) (10 - u) = loF (loT N kk h) 10) → ∀ ls : Array Slot, lv_has ls 4 [(0, .int (zi ((N : Int)))), (1, .int (zi ((kk : Int)))), (2, .int (zi (h))), (3, .int (zi (z1)))] → W p l e (RM 2 50) s m args below meth c s.heap [] 0 0 (MQ below (QR (.int (zi (loF (loT N kk h) 10))) s.heap) args s 0 0 (fun _ => False)) (F0 m 3 ls [])) (10) ?_ ?_
    · intro z1 e1 e2 ls hl
      refine lv_iload_n (pc := 3) hx hb dX3_lowEnd_3 rfl (lv_at hl 3 rfl) ?_
      refine z_if_le (tgt := 30) (pc := 4) hx hb dX3_lowEnd_4 (by decide) (by omega) (fun c_1 => ?_) (fun c_1 => absurd c_1 (by omega))
      refine z_iconst (pc := 30) hx hb dX3_lowEnd_30 ?_
      exact rd_iret hx hb hrt hlk dX3_lowEnd_31 (by rw [← e2]; rfl)
    · intro u hu ih z1 e1 e2 ls hl
      refine lv_iload_n (pc := 3) hx hb dX3_lowEnd_3 rfl (lv_at hl 3 rfl) ?_
      refine z_if_le (tgt := 30) (pc := 4) hx hb dX3_lowEnd_4 (by decide) (by omega) (fun c_2 => absurd c_2 (by omega)) (fun c_2 => ?_)
      refine lv_iload_n (pc := 7) hx hb dX3_lowEnd_7 rfl (lv_at hl 2 rfl) ?_
      refine lv_iload_n (pc := 8) hx hb dX3_lowEnd_8 rfl (lv_at hl 0 rfl) ?_
      refine lv_iload_n (pc := 9) hx hb dX3_lowEnd_9 rfl (lv_at hl 0 rfl) ?_
      refine lv_iload_n (pc := 10) hx hb dX3_lowEnd_10 rfl (lv_at hl 1 rfl) ?_
      refine lv_iload_n (pc := 11) hx hb dX3_lowEnd_11 rfl (lv_at hl 0 rfl) ?_
      refine lv_iload_n (pc := 12) hx hb dX3_lowEnd_12 rfl (lv_at hl 3 rfl) ?_
      have hc := cases_rng (N := N) (a := kk) (c := N + 1 - kk) (j := 10 - u) (by omega) (by omega) (by omega)
      have hp := pow10_rng (N := N) (by omega)
      obtain ⟨w, hw⟩ : ∃ w, 10 - u = w + 1 := ⟨9 - u, by omega⟩
      have ej : 10 - u = (10 - (u + 1)) + 1 := by omega
      refine rd_S (pc := 13) hx hb hml hown hT hK (c_X3_casesOf D cI cJ l ((N : Int)) ((kk : Int)) ((N : Int)) (z1) N kk (N + 1 - kk) (10 - u) (by omega) (by omega) (by omega) (by omega)) ca_X3_casesOf tw_305 va_Pnil ⟨Nat.le_of_ble_eq_true rfl, Nat.le_of_ble_eq_true rfl⟩ rfl hl.1 (As := [.int (zi ((N : Int))), .int (zi ((kk : Int))), .int (zi ((N : Int))), .int (zi (z1))]) (rest := [.int (zi ((N : Int))), .int (zi (h))]) rfl (Nat.le_of_ble_eq_true rfl) ⟨Nat.le_of_ble_eq_true rfl, Nat.le_of_ble_eq_true rfl⟩ dX3_lowEnd_13 ?_
      refine rd_S (pc := 16) hx hb hml hown hT hK (c_X3_isAtMost D cI cJ l (h) ((N : Int)) ((sumZ (termZ N (((10 - u) : Nat) : Int)) kk (N + 1 - kk))) N (by omega) (by omega)) ca_X3_isAtMost tw_314 va_Pnil ⟨Nat.le_of_ble_eq_true rfl, Nat.le_of_ble_eq_true rfl⟩ rfl hl.1 (As := [.int (zi (h)), .int (zi ((N : Int))), .long (zj ((sumZ (termZ N (((10 - u) : Nat) : Int)) kk (N + 1 - kk))))]) (rest := []) rfl (Nat.le_of_ble_eq_true rfl) ⟨Nat.le_of_ble_eq_true rfl, Nat.le_of_ble_eq_true rfl⟩ dX3_lowEnd_16 ?_
      refine z_ifB_eq (tgt := 24) (pc := 19) hx hb dX3_lowEnd_19 (by decide) (fun c_3 => ?_) (fun c_3 => ?_)
      · refine lv_iinc (v := zi (z1 + (-1))) (lv' := [(3, .int (zi ((z1 + (-1))))), (0, .int (zi ((N : Int)))), (1, .int (zi ((kk : Int)))), (2, .int (zi (h)))]) (pc := 24) hx hb dX3_lowEnd_24 hl (k := 3) rfl (zi_add _ _) (by decide) rfl (fun ls hl => ?_)
        refine lv_goto (tgt := 3) (pc := 27) hx hb dX3_lowEnd_27 (by decide) ?_
        exact ih  _ (by omega) (by rw [← e2, ej, loF, if_neg (by rw [← ej]; exact c_3)]) ls (lv_sub hl [1, 2, 3, 0] rfl)
      · refine lv_iload_n (pc := 22) hx hb dX3_lowEnd_22 rfl (lv_at hl 3 rfl) ?_
        exact rd_iret hx hb hrt hlk dX3_lowEnd_23 (by rw [← e2, ej, loF, if_pos (by rw [← ej]; exact c_3), ← ej, show z1 = ((10 - u : Nat) : Int) by omega])
  refine z_bipush (pc := 0) hx hb dX3_lowEnd_0 (by decide) ?_
  refine lv_istore_n (lv' := [(3, .int (zi (10))), (0, .int (zi ((N : Int)))), (1, .int (zi ((kk : Int)))), (2, .int (zi (h)))]) (pc := 2) hx hb dX3_lowEnd_2 rfl hl (by decide) rfl (fun ls hl => ?_)
  exact loop 0 (by omega) _ (by omega) (by rfl) ls (lv_sub hl [1, 2, 3, 0] rfl)

set_option maxHeartbeats 4000000 in
set_option maxRecDepth 100000 in
theorem c_X3_highEnd (D : va_G) (cI cJ : ClassId) (l : Launch)  (y x h : Int) (N kk : Nat) (hy : y = (N : Int)) (hx0 : x = (kk : Int)) (hq : 1 ≤ N ∧ N ≤ 12 ∧ kk ≤ N ∧ 0 ≤ h ∧ h ≤ 50) : RD D cI cJ l yX3_highEnd cX3_highEnd 4 (some .int) 2 50 [.int (zi (y)), .int (zi (x)), .int (zi (h))] [] (.int (zi (hiF (hiT N kk h) 10))) := by
  subst hy
  subst hx0
  refine RD.of (by decide) (Nat.le_of_ble_eq_true rfl) ?_
  intro p e s m args below meth c hx hb hrt hml hown hT hlk hK hP ls hl
  replace hl : lv_has ls 4 [(0, .int (zi ((N : Int)))), (1, .int (zi ((kk : Int)))), (2, .int (zi (h)))] := hl
  have loop : ∀ u : Nat, u ≤ 10 → ∀ (z1 : Int), (z1 = (u : Int)) → (hiF (hiT N kk h) (10 - u) = hiF (hiT N kk h) 10) → ∀ ls : Array Slot, lv_has ls 4 [(0, .int (zi ((N : Int)))), (1, .int (zi ((kk : Int)))), (2, .int (zi (h))), (3, .int (zi (z1)))] → W p l e (RM 2 50) s m args below meth c s.heap [] 0 0 (MQ below (QR (.int (zi (hiF (hiT N kk h) 10))) s.heap) args s 0 0 (fun _ => False)) (F0 m 2 ls []) := by
    refine lp_up (fun u => ∀ (z1 : Int), (z1 = (u : Int)) → (hiF (hiT N kk h) (10 - u) = hiF (hiT N kk h) 10) → ∀ ls : Array Slot, lv_has ls 4 [(0, .int (zi ((N : Int)))), (1, .int (zi ((kk : Int)))), (2, .int (zi (h))), (3, .int (zi (z1)))] → W p l e (RM 2 50) s m args below meth c s.heap [] 0 0 (MQ below (QR (.int (zi (hiF (hiT N kk h) 10))) s.heap) args s 0 0 (fun _ => False)) (F0 m 2 ls [])) (10) ?_ ?_
    · intro z1 e1 e2 ls hl
      refine lv_iload_n (pc := 2) hx hb dX3_highEnd_2 rfl (lv_at hl 3 rfl) ?_
      refine z_bipush (pc := 3) hx hb dX3_highEnd_3 (by decide) ?_
      refine z_icmp_ge (tgt := 31) (pc := 5) hx hb dX3_highEnd_5 (by decide) (by omega) (by omega) (fun c_1 => ?_) (fun c_1 => absurd c_1 (by omega))
      refine z_bipush (pc := 31) hx hb dX3_highEnd_31 (by decide) ?_
      exact rd_iret hx hb hrt hlk dX3_highEnd_33 (by rw [← e2]; rfl)
    · intro u hu ih z1 e1 e2 ls hl
      refine lv_iload_n (pc := 2) hx hb dX3_highEnd_2 rfl (lv_at hl 3 rfl) ?_
      refine z_bipush (pc := 3) hx hb dX3_highEnd_3 (by decide) ?_
      refine z_icmp_ge (tgt := 31) (pc := 5) hx hb dX3_highEnd_5 (by decide) (by omega) (by omega) (fun c_2 => absurd c_2 (by omega)) (fun c_2 => ?_)
      refine lv_iload_n (pc := 8) hx hb dX3_highEnd_8 rfl (lv_at hl 2 rfl) ?_
      refine lv_iload_n (pc := 9) hx hb dX3_highEnd_9 rfl (lv_at hl 0 rfl) ?_
      refine lv_iload_n (pc := 10) hx hb dX3_highEnd_10 rfl (lv_at hl 0 rfl) ?_
      refine z_iconst (pc := 11) hx hb dX3_highEnd_11 ?_
      refine lv_iload_n (pc := 12) hx hb dX3_highEnd_12 rfl (lv_at hl 1 rfl) ?_
      refine lv_iload_n (pc := 13) hx hb dX3_highEnd_13 rfl (lv_at hl 3 rfl) ?_
      have hc := cases_rng (N := N) (a := 0) (c := kk + 1) (j := u) (by omega) (by omega) (by omega)
      have hp := pow10_rng (N := N) (by omega)
      have ej : 10 - u = (10 - (u + 1)) + 1 := by omega
      have ek : 10 - (10 - (u + 1) + 1) = u := by omega
      refine rd_S (pc := 14) hx hb hml hown hT hK (c_X3_casesOf D cI cJ l ((N : Int)) (0) ((kk : Int)) (z1) N 0 (kk + 1) u (by omega) (by omega) (by omega) (by omega)) ca_X3_casesOf tw_305 va_Pnil ⟨Nat.le_of_ble_eq_true rfl, Nat.le_of_ble_eq_true rfl⟩ rfl hl.1 (As := [.int (zi ((N : Int))), .int (zi (0)), .int (zi ((kk : Int))), .int (zi (z1))]) (rest := [.int (zi ((N : Int))), .int (zi (h))]) rfl (Nat.le_of_ble_eq_true rfl) ⟨Nat.le_of_ble_eq_true rfl, Nat.le_of_ble_eq_true rfl⟩ dX3_highEnd_14 ?_
      refine rd_S (pc := 17) hx hb hml hown hT hK (c_X3_isAtMost D cI cJ l (h) ((N : Int)) ((sumZ (termZ N ((u : Nat) : Int)) 0 (kk + 1))) N (by omega) (by omega)) ca_X3_isAtMost tw_314 va_Pnil ⟨Nat.le_of_ble_eq_true rfl, Nat.le_of_ble_eq_true rfl⟩ rfl hl.1 (As := [.int (zi (h)), .int (zi ((N : Int))), .long (zj ((sumZ (termZ N ((u : Nat) : Int)) 0 (kk + 1))))]) (rest := []) rfl (Nat.le_of_ble_eq_true rfl) ⟨Nat.le_of_ble_eq_true rfl, Nat.le_of_ble_eq_true rfl⟩ dX3_highEnd_17 ?_
      refine z_ifB_eq (tgt := 25) (pc := 20) hx hb dX3_highEnd_20 (by decide) (fun c_3 => ?_) (fun c_3 => ?_)
      · refine lv_iinc (v := zi (z1 + 1)) (lv' := [(3, .int (zi ((z1 + 1)))), (0, .int (zi ((N : Int)))), (1, .int (zi ((kk : Int)))), (2, .int (zi (h)))]) (pc := 25) hx hb dX3_highEnd_25 hl (k := 3) rfl (zi_add _ _) (by decide) rfl (fun ls hl => ?_)
        refine lv_goto (tgt := 2) (pc := 28) hx hb dX3_highEnd_28 (by decide) ?_
        exact ih  _ (by omega) (by rw [← e2, ej, hiF, if_neg (by rw [ek]; exact c_3)]) ls (lv_sub hl [1, 2, 3, 0] rfl)
      · refine lv_iload_n (pc := 23) hx hb dX3_highEnd_23 rfl (lv_at hl 3 rfl) ?_
        exact rd_iret hx hb hrt hlk dX3_highEnd_24 (by rw [← e2, ej, hiF, if_pos (by rw [ek]; exact c_3), ek, e1])
  refine z_iconst (pc := 0) hx hb dX3_highEnd_0 ?_
  refine lv_istore_n (lv' := [(3, .int (zi (0))), (0, .int (zi ((N : Int)))), (1, .int (zi ((kk : Int)))), (2, .int (zi (h)))]) (pc := 1) hx hb dX3_highEnd_1 rfl hl (by decide) rfl (fun ls hl => ?_)
  exact loop 0 (by omega) _ (by omega) (by rfl) ls (lv_sub hl [1, 2, 3, 0] rfl)
end
section
/-- a step of the common divisor's search, u rounds on -/
def GS (a b u : Nat) (z1 z2 : Int) : Prop := ∃ x y : Nat, z1 = (x : Int) ∧ z2 = (y : Int) ∧ Nat.gcd x y = Nat.gcd a b ∧ x ≤ 281474976710656 ∧ y ≤ 281474976710656 ∧ (u = 0 ∨ (y < x ∧ x * y * 2 ^ u ≤ 2 * (281474976710656 * 281474976710656)))
theorem GS_0 {a b : Nat} (h : a ≤ 281474976710656 ∧ b ≤ 281474976710656) : GS a b 0 (a : Int) (b : Int) := ⟨a, b, rfl, rfl, rfl, h.1, h.2, Or.inl rfl⟩
theorem GS_rng {a b u : Nat} {z1 z2 : Int} (h : GS a b u z1 z2) : 0 ≤ z1 ∧ z1 ≤ 281474976710656 ∧ 0 ≤ z2 ∧ z2 ≤ 281474976710656 := by
  obtain ⟨x, y, rfl, rfl, -, hx, hy, -⟩ := h
  omega
theorem GS_step {a b u : Nat} {z1 z2 : Int} (h : GS a b u z1 z2) (hz : ¬ z2 = 0) : GS a b (u + 1) z2 (z1 % z2) := by
  obtain ⟨x, y, rfl, rfl, hg, hx, hy, hm⟩ := h
  have hy0 : 0 < y := by omega
  have hlt : x % y < y := Nat.mod_lt x hy0
  refine ⟨y, x % y, rfl, rfl, ?_, hy, by omega, Or.inr ⟨hlt, ?_⟩⟩
  · rw [← hg, Nat.gcd_comm y, ← Nat.gcd_rec, Nat.gcd_comm]
  · rcases hm with rfl | ⟨hlt2, hm⟩
    · have h1 : y * (x % y) ≤ 281474976710656 * 281474976710656 := Nat.mul_le_mul hy (by omega)
      omega
    · have h2 : 2 * (x % y) ≤ x := by
        have h3 := Nat.div_add_mod x y
        have h4 : 1 ≤ x / y := (Nat.one_le_div_iff hy0).mpr (by omega)
        have h5 : y * 1 ≤ y * (x / y) := Nat.mul_le_mul_left y h4
        omega
      have h6 : y * (x % y) * 2 ^ (u + 1) = (2 * (x % y)) * y * 2 ^ u := by
        rw [Nat.pow_succ, Nat.mul_comm (2 ^ u) 2, ← Nat.mul_assoc]
        congr 1
        rw [Nat.mul_comm y, Nat.mul_comm _ 2, Nat.mul_assoc]
      rw [h6]
      exact Nat.le_trans (Nat.mul_le_mul_right _ (Nat.mul_le_mul_right y h2)) hm
theorem GS_end {a b u : Nat} {z1 z2 : Int} (h : GS a b u z1 z2) (hz : z2 = 0) : z1 = ((Nat.gcd a b : Nat) : Int) := by
  obtain ⟨x, y, rfl, hy, hg, -, -, -⟩ := h
  have e : y = 0 := by omega
  subst e
  rw [← hg, Nat.gcd_zero_right]
theorem GS_100 {a b : Nat} {z1 z2 : Int} (h : GS a b 100 z1 z2) : z2 = 0 := by
  obtain ⟨x, y, rfl, rfl, hg, -, -, hm⟩ := h
  rcases hm with h | ⟨hlt, hm⟩
  · omega
  · rcases Nat.eq_zero_or_pos y with h | h
    · omega
    · exfalso
      have h1 : 1 ≤ x * y := Nat.mul_pos (by omega) h
      have h2 : 1 * 2 ^ 100 ≤ x * y * 2 ^ 100 := Nat.mul_le_mul_right _ h1
      exact absurd (Nat.le_trans h2 hm) (by decide)

set_option maxHeartbeats 4000000 in
set_option maxRecDepth 100000 in
theorem c_X3_sharedFactor (D : va_G) (cI cJ : ClassId) (l : Launch)  (y z : Int) (a b : Nat) (hy : y = (a : Int)) (hz : z = (b : Int)) (hq : a ≤ 281474976710656 ∧ b ≤ 281474976710656) : RD D cI cJ l yX3_sharedFactor cX3_sharedFactor 11 (some .long) 0 0 [.long (zj (y)), .long (zj (z))] [] (.long (zj (((Nat.gcd a b : Nat) : Int)))) := by
  subst hy
  subst hz
  refine RD.of (by decide) (Nat.le_of_ble_eq_true rfl) ?_
  intro p e s m args below meth c hx hb hrt hml hown hT hlk hK hP ls hl
  replace hl : lv_has ls 11 [(0, .long (zj ((a : Int)))), (2, .long (zj ((b : Int))))] := hl
  have loop : ∀ u : Nat, u ≤ 100 → ∀ (z1 z2 z3 : Int), (GS a b u z1 z2) → (z3 = (u : Int)) → ∀ ls : Array Slot, lv_has ls 11 [(4, .long (zj (z1))), (6, .long (zj (z2))), (8, .int (zi (z3)))] → W p l e (RM 0 0) s m args below meth c s.heap [] 0 0 (MQ below (QR (.long (zj (((Nat.gcd a b : Nat) : Int)))) s.heap) args s 0 0 (fun _ => False)) (F0 m 9 ls []) := by
    refine lp_up (fun u => ∀ (z1 z2 z3 : Int), (GS a b u z1 z2) → (z3 = (u : Int)) → ∀ ls : Array Slot, lv_has ls 11 [(4, .long (zj (z1))), (6, .long (zj (z2))), (8, .int (zi (z3)))] → W p l e (RM 0 0) s m args below meth c s.heap [] 0 0 (MQ below (QR (.long (zj (((Nat.gcd a b : Nat) : Int)))) s.heap) args s 0 0 (fun _ => False)) (F0 m 9 ls [])) (100) ?_ ?_
    · intro z1 z2 z3 e1 e2 ls hl
      have hg := GS_rng e1
      refine lv_iload (pc := 9) hx hb dX3_sharedFactor_9 (lv_at hl 2 rfl) ?_
      refine z_bipush (pc := 11) hx hb dX3_sharedFactor_11 (by decide) ?_
      refine z_icmp_ge (tgt := 44) (pc := 13) hx hb dX3_sharedFactor_13 (by decide) (by omega) (by omega) (fun c_1 => ?_) (fun c_1 => absurd c_1 (by omega))
      refine lv_lload (pc := 44) hx hb dX3_sharedFactor_44 (lv_at hl 0 rfl) ?_
      exact rd_lret hx hb hrt hlk dX3_sharedFactor_46 (by rw [GS_end e1 (by first | assumption | exact GS_100 e1)])
    · intro u hu ih z1 z2 z3 e1 e2 ls hl
      have hg := GS_rng e1
      refine lv_iload (pc := 9) hx hb dX3_sharedFactor_9 (lv_at hl 2 rfl) ?_
      refine z_bipush (pc := 11) hx hb dX3_sharedFactor_11 (by decide) ?_
      refine z_icmp_ge (tgt := 44) (pc := 13) hx hb dX3_sharedFactor_13 (by decide) (by omega) (by omega) (fun c_2 => absurd c_2 (by omega)) (fun c_2 => ?_)
      refine lv_lload (pc := 16) hx hb dX3_sharedFactor_16 (lv_at hl 1 rfl) ?_
      refine z_lconst0 (pc := 18) hx hb dX3_sharedFactor_18 ?_
      refine z_lcmp_eq (tgt := 44) (pc := 19) hx hb dX3_sharedFactor_19 dX3_sharedFactor_20 (by decide) (by omega) (by omega) (fun c_3 => ?_) (fun c_3 => ?_)
      · refine lv_lload (pc := 44) hx hb dX3_sharedFactor_44 (lv_at hl 0 rfl) ?_
        exact rd_lret hx hb hrt hlk dX3_sharedFactor_46 (by rw [GS_end e1 (by first | assumption | exact GS_100 e1)])
      · refine lv_lload (pc := 23) hx hb dX3_sharedFactor_23 (lv_at hl 0 rfl) ?_
        refine lv_lload (pc := 25) hx hb dX3_sharedFactor_25 (lv_at hl 1 rfl) ?_
        refine z_lrem (pc := 27) hx hb (by omega) dX3_sharedFactor_27 ?_
        refine lv_lstore (lv' := [(9, .long (zj ((z1 % z2)))), (4, .long (zj (z1))), (6, .long (zj (z2))), (8, .int (zi (z3)))]) (pc := 28) hx hb dX3_sharedFactor_28 hl (by decide) rfl (fun ls hl => ?_)
        refine lv_lload (pc := 30) hx hb dX3_sharedFactor_30 (lv_at hl 2 rfl) ?_
        refine lv_lstore (lv' := [(4, .long (zj (z2))), (9, .long (zj ((z1 % z2)))), (6, .long (zj (z2))), (8, .int (zi (z3)))]) (pc := 32) hx hb dX3_sharedFactor_32 hl (by decide) rfl (fun ls hl => ?_)
        refine lv_lload (pc := 34) hx hb dX3_sharedFactor_34 (lv_at hl 1 rfl) ?_
        refine lv_lstore (lv' := [(6, .long (zj ((z1 % z2)))), (4, .long (zj (z2))), (9, .long (zj ((z1 % z2)))), (8, .int (zi (z3)))]) (pc := 36) hx hb dX3_sharedFactor_36 hl (by decide) rfl (fun ls hl => ?_)
        refine lv_iinc (v := zi (z3 + 1)) (lv' := [(8, .int (zi ((z3 + 1)))), (6, .long (zj ((z1 % z2)))), (4, .long (zj (z2))), (9, .long (zj ((z1 % z2))))]) (pc := 38) hx hb dX3_sharedFactor_38 hl (k := 3) rfl (zi_add _ _) (by decide) rfl (fun ls hl => ?_)
        refine lv_goto (tgt := 9) (pc := 41) hx hb dX3_sharedFactor_41 (by decide) ?_
        exact ih  _ _ _ (GS_step e1 c_3) (by rw [e2]; rfl) ls (lv_sub hl [2, 1, 0] rfl)
  refine lv_lload_n (pc := 0) hx hb dX3_sharedFactor_0 rfl (lv_at hl 0 rfl) ?_
  refine lv_lstore (lv' := [(4, .long (zj ((a : Int)))), (0, .long (zj ((a : Int)))), (2, .long (zj ((b : Int))))]) (pc := 1) hx hb dX3_sharedFactor_1 hl (by decide) rfl (fun ls hl => ?_)
  refine lv_lload_n (pc := 3) hx hb dX3_sharedFactor_3 rfl (lv_at hl 2 rfl) ?_
  refine lv_lstore (lv' := [(6, .long (zj ((b : Int)))), (4, .long (zj ((a : Int)))), (0, .long (zj ((a : Int)))), (2, .long (zj ((b : Int))))]) (pc := 4) hx hb dX3_sharedFactor_4 hl (by decide) rfl (fun ls hl => ?_)
  refine z_iconst (pc := 6) hx hb dX3_sharedFactor_6 ?_
  refine lv_istore (lv' := [(8, .int (zi (0))), (6, .long (zj ((b : Int)))), (4, .long (zj ((a : Int)))), (0, .long (zj ((a : Int)))), (2, .long (zj ((b : Int))))]) (pc := 7) hx hb dX3_sharedFactor_7 hl (by decide) rfl (fun ls hl => ?_)
  exact loop 0 (by omega) _ _ _ (GS_0 hq) (by rfl) ls (lv_sub hl [2, 1, 0] rfl)

set_option maxHeartbeats 4000000 in
set_option maxRecDepth 100000 in
theorem c_X3_leastTerms (D : va_G) (cI cJ : ClassId) (l : Launch)  (y z w : Int) (a b : Nat) (hy : y = (a : Int)) (hz : z = (b : Int)) (hq : a ≤ 281474976710656 ∧ b ≤ 281474976710656 ∧ 0 < b) (r_w : -2147483648 ≤ w ∧ w ≤ 2147483647) : RD D cI cJ l yX3_leastTerms cX3_leastTerms 9 (some .long) 1 30 [.long (zj (y)), .long (zj (z)), .int (zi (w))] [] (.long (zj (if w = 0 then ((a / Nat.gcd a b : Nat) : Int) else ((b / Nat.gcd a b : Nat) : Int)))) := by
  subst hy
  subst hz
  refine RD.of (by decide) (Nat.le_of_ble_eq_true rfl) ?_
  intro p e s m args below meth c hx hb hrt hml hown hT hlk hK hP ls hl
  replace hl : lv_has ls 9 [(0, .long (zj ((a : Int)))), (2, .long (zj ((b : Int)))), (4, .int (zi (w)))] := hl
  refine lv_lload_n (pc := 0) hx hb dX3_leastTerms_0 rfl (lv_at hl 0 rfl) ?_
  refine lv_lload_n (pc := 1) hx hb dX3_leastTerms_1 rfl (lv_at hl 1 rfl) ?_
  refine rd_S (pc := 2) hx hb hml hown hT hK (c_X3_sharedFactor D cI cJ l ((a : Int)) ((b : Int)) a b (by omega) (by omega) (by omega)) ca_X3_sharedFactor tw_200 va_Pnil ⟨Nat.le_of_ble_eq_true rfl, Nat.le_of_ble_eq_true rfl⟩ rfl hl.1 (As := [.long (zj ((a : Int))), .long (zj ((b : Int)))]) (rest := []) rfl (Nat.le_of_ble_eq_true rfl) ⟨Nat.le_of_ble_eq_true rfl, Nat.le_of_ble_eq_true rfl⟩ dX3_leastTerms_2 ?_
  have hg1 : 0 < Nat.gcd a b := Nat.gcd_pos_of_pos_right a (by omega)
  have hg2 : Nat.gcd a b ≤ b := Nat.gcd_le_right a (by omega)
  refine lv_lstore (lv' := [(5, .long (zj (((Nat.gcd a b : Nat) : Int)))), (0, .long (zj ((a : Int)))), (2, .long (zj ((b : Int)))), (4, .int (zi (w)))]) (pc := 5) hx hb dX3_leastTerms_5 hl (by decide) rfl (fun ls hl => ?_)
  refine lv_iload (pc := 7) hx hb dX3_leastTerms_7 (lv_at hl 3 rfl) ?_
  refine z_if_ne (tgt := 16) (pc := 9) hx hb dX3_leastTerms_9 (by decide) (by omega) (fun c_1 => ?_) (fun c_1 => ?_)
  · refine lv_lload_n (pc := 16) hx hb dX3_leastTerms_16 rfl (lv_at hl 2 rfl) ?_
    refine lv_lstore (lv' := [(7, .long (zj ((b : Int)))), (5, .long (zj (((Nat.gcd a b : Nat) : Int)))), (0, .long (zj ((a : Int)))), (2, .long (zj ((b : Int)))), (4, .int (zi (w)))]) (pc := 17) hx hb dX3_leastTerms_17 hl (by decide) rfl (fun ls hl => ?_)
    refine lv_lload (pc := 19) hx hb dX3_leastTerms_19 (lv_at hl 1 rfl) ?_
    refine z_lconst0 (pc := 21) hx hb dX3_leastTerms_21 ?_
    refine z_lcmp_le (tgt := 34) (pc := 22) hx hb dX3_leastTerms_22 dX3_leastTerms_23 (by decide) (by omega) (by omega) (fun c_2 => absurd c_2 (by omega)) (fun c_2 => ?_)
    refine lv_lload (pc := 26) hx hb dX3_leastTerms_26 (lv_at hl 0 rfl) ?_
    refine lv_lload (pc := 28) hx hb dX3_leastTerms_28 (lv_at hl 1 rfl) ?_
    refine z_ldiv (pc := 30) hx hb (by omega) dX3_leastTerms_30 ?_
    refine lv_goto (tgt := 36) (pc := 31) hx hb dX3_leastTerms_31 (by decide) ?_
    exact rd_lret hx hb hrt hlk dX3_leastTerms_36 (by rw [if_neg c_1]; rfl)
  · refine lv_lload_n (pc := 12) hx hb dX3_leastTerms_12 rfl (lv_at hl 1 rfl) ?_
    refine lv_goto (tgt := 17) (pc := 13) hx hb dX3_leastTerms_13 (by decide) ?_
    refine lv_lstore (lv' := [(7, .long (zj ((a : Int)))), (5, .long (zj (((Nat.gcd a b : Nat) : Int)))), (0, .long (zj ((a : Int)))), (2, .long (zj ((b : Int)))), (4, .int (zi (w)))]) (pc := 17) hx hb dX3_leastTerms_17 hl (by decide) rfl (fun ls hl => ?_)
    refine lv_lload (pc := 19) hx hb dX3_leastTerms_19 (lv_at hl 1 rfl) ?_
    refine z_lconst0 (pc := 21) hx hb dX3_leastTerms_21 ?_
    refine z_lcmp_le (tgt := 34) (pc := 22) hx hb dX3_leastTerms_22 dX3_leastTerms_23 (by decide) (by omega) (by omega) (fun c_3 => absurd c_3 (by omega)) (fun c_3 => ?_)
    refine lv_lload (pc := 26) hx hb dX3_leastTerms_26 (lv_at hl 0 rfl) ?_
    refine lv_lload (pc := 28) hx hb dX3_leastTerms_28 (lv_at hl 1 rfl) ?_
    refine z_ldiv (pc := 30) hx hb (by omega) dX3_leastTerms_30 ?_
    refine lv_goto (tgt := 36) (pc := 31) hx hb dX3_leastTerms_31 (by decide) ?_
    exact rd_lret hx hb hrt hlk dX3_leastTerms_36 (by rw [if_pos c_1]; rfl)
end
section
/-! the words of STANDING, unit by unit -/
abbrev bitS (S x : Int) : Prop := S / 2 ^ x.toNat % 2 = 1
abbrev fby (b c : Int) : Prop := ¬ c = -1 ∧ (b = -1 ∨ c = b)
def cRk (st hr : Nat → Int) (S t : Int) : Nat → Int
  | 0 => 0
  | u + 1 => cRk st hr S t u + (if bitS S (st u) ∧ t ≤ hr u then 1 else 0)
def cFl (st hr ca : Nat → Int) (S b t : Int) : Nat → Int
  | 0 => 0
  | u + 1 => cFl st hr ca S b t u + (if (bitS S (st u) ∧ fby b (ca u)) ∧ hr u = t then 1 else 0)
def cNx (st hr ca : Nat → Int) (S b t : Int) : Nat → Int
  | 0 => -1
  | u + 1 => if ((bitS S (st u) ∧ fby b (ca u)) ∧ t < hr u) ∧ (cNx st hr ca S b t u = -1 ∨ hr u < cNx st hr ca S b t u) then hr u else cNx st hr ca S b t u
theorem cNx_rng {st hr ca : Nat → Int} {S b t : Int} (hhr : ∀ j : Nat, 0 ≤ hr j ∧ hr j ≤ 500) : ∀ u, -1 ≤ cNx st hr ca S b t u ∧ cNx st hr ca S b t u ≤ 500
  | 0 => by simp [cNx]
  | u + 1 => by
    have ih := cNx_rng (st := st) (ca := ca) (S := S) (b := b) (t := t) hhr u
    have h := hhr u
    simp only [cNx]; split <;> omega

set_option maxHeartbeats 4000000 in
set_option maxRecDepth 100000 in
theorem c_X2_has (D : va_G) (cI cJ : ClassId) (l : Launch) (ad : Nat → Nat) (n : Int) (st hr ca : Nat → Int) (pcs : Int) (fr lv : Nat → Int) (k : Int) (ts th sp hv : Nat → Int) (pr hc : Int) (hn : 0 ≤ n ∧ n ≤ 12) (z : Int) (r_z : -2147483648 ≤ z ∧ z ≤ 2147483647) : RD D cI cJ l yX2_has cX2_has 2 (some .boolean) 1 22 [.ref (ad 1), .int (zi (z))] (wX ad cI cJ n st hr ca pcs fr lv k ts th sp hv pr hc) (.int (bI (0 ≤ z ∧ z ≤ n - 1))) := by
  refine RD.of (by decide) (Nat.le_of_ble_eq_true rfl) ?_
  intro p e s m args below meth c hx hb hrt hml hown hT hlk hK hP ls hl
  replace hl : lv_has ls 2 [(0, .ref (ad 1)), (1, .int (zi (z)))] := hl
  refine lv_iload_n (pc := 0) hx hb dX2_has_0 rfl (lv_at hl 1 rfl) ?_
  refine z_iconst (pc := 1) hx hb dX2_has_1 ?_
  refine lv_aload_n (pc := 2) hx hb dX2_has_2 rfl (lv_at hl 0 rfl) ?_
  refine va_get (D := D) (cl := vwCl) (ci := 2) (v := .int (zi (n))) (C := RX2) (T := TX2) (N := 4) (pc := 3) hx hb hT inT2 hown hK.1 hP 1 rfl rfl 3 (by decide) (hT _ tw_27) (fun _ h9 => h9) rfl dX2_has_3 ?_
  refine z_iconst (pc := 6) hx hb dX2_has_6 ?_
  refine z_isub (pc := 7) hx hb dX2_has_7 ?_
  refine rd_SN (pc := 8) hx hb hml hown hT hK (c_X3_isWithin D cI cJ l (z) (by omega) (0) (by omega) ((n - 1)) (by omega)) ca_X3_isWithin hK.2.2.2.2.1 va_Pnil ⟨Nat.le_of_ble_eq_true rfl, Nat.le_of_ble_eq_true rfl⟩ rfl hl.1 (As := [.int (zi (z)), .int (zi (0)), .int (zi ((n - 1)))]) (rest := []) rfl (Nat.le_of_ble_eq_true rfl) ⟨Nat.le_of_ble_eq_true rfl, Nat.le_of_ble_eq_true rfl⟩ dX2_has_8 ?_
  exact rd_zret hx hb hrt hlk dX2_has_11 (bI_c (by omega))

set_option maxHeartbeats 4000000 in
set_option maxRecDepth 100000 in
theorem c_X2_isIn (D : va_G) (cI cJ : ClassId) (l : Launch) (ad : Nat → Nat) (n : Int) (st hr ca : Nat → Int) (pcs : Int) (fr lv : Nat → Int) (k : Int) (ts th sp hv : Nat → Int) (pr hc : Int) (hU : VU n st hr ca) (z : Int) (u : Nat) (hz : z = (u : Int)) (hu : u < 12) (S : Int) (hS0 : 0 ≤ S ∧ S ≤ 15) : RD D cI cJ l yX2_isIn cX2_isIn 3 (some .boolean) 0 0 [.ref (ad 1), .int (zi (z)), .int (zi (S))] (wX ad cI cJ n st hr ca pcs fr lv k ts th sp hv pr hc) (.int (bI (bitS S (st u)))) := by
  subst hz
  refine RD.of (by decide) (Nat.le_of_ble_eq_true rfl) ?_
  intro p e s m args below meth c hx hb hrt hml hown hT hlk hK hP ls hl
  replace hl : lv_has ls 3 [(0, .ref (ad 1)), (1, .int (zi ((u : Int)))), (2, .int (zi (S)))] := hl
  obtain ⟨hn, hst, hhr, hh1, hca⟩ := id hU
  refine lv_iload_n (pc := 0) hx hb dX2_isIn_0 rfl (lv_at hl 2 rfl) ?_
  refine lv_aload_n (pc := 1) hx hb dX2_isIn_1 rfl (lv_at hl 0 rfl) ?_
  refine va_get (D := D) (cl := vwCl) (ci := 2) (v := .ref (ad 6)) (C := RX2) (T := TX2) (N := 4) (pc := 2) hx hb hT inT2 hown hK.1 hP 1 rfl rfl 0 (by decide) (hT _ tw_21) (fun _ h9 => h9) rfl dX2_isIn_2 ?_
  refine lv_iload_n (pc := 5) hx hb dX2_isIn_5 rfl (lv_at hl 1 rfl) ?_
  refine z_iald (pc := 6) hx hb hK hP 6 (u) (f := st) rfl (by omega) (by omega) (by omega) dX2_isIn_6 ?_
  have r_1 := hst (u)
  refine z_ishr (pc := 7) hx hb (by omega) dX2_isIn_7 ?_
  refine z_iconst (pc := 8) hx hb dX2_isIn_8 ?_
  refine z_iand1 (pc := 9) hx hb (by have h1 : 0 ≤ S / 2 ^ (st u).toNat := Int.ediv_nonneg (by omega) (Int.pow_nonneg (by omega)); have h2 : S / 2 ^ (st u).toNat ≤ S := Int.ediv_le_self _ (by omega); omega) dX2_isIn_9 ?_
  refine z_iconst (pc := 10) hx hb dX2_isIn_10 ?_
  refine z_icmp_ne (tgt := 18) (pc := 11) hx hb dX2_isIn_11 (by decide) (by omega) (by omega) (fun c_2 => ?_) (fun c_2 => ?_)
  · refine z_iconst (pc := 18) hx hb dX2_isIn_18 ?_
    exact rd_zret hx hb hrt hlk dX2_isIn_19 (bI0 (by assumption))
  · refine z_iconst (pc := 14) hx hb dX2_isIn_14 ?_
    refine lv_goto (tgt := 19) (pc := 15) hx hb dX2_isIn_15 (by decide) ?_
    exact rd_zret hx hb hrt hlk dX2_isIn_19 (bI1 (by assumption))

set_option maxHeartbeats 4000000 in
set_option maxRecDepth 100000 in
theorem c_X2_hasFailed (D : va_G) (cI cJ : ClassId) (l : Launch) (ad : Nat → Nat) (n : Int) (st hr ca : Nat → Int) (pcs : Int) (fr lv : Nat → Int) (k : Int) (ts th sp hv : Nat → Int) (pr hc : Int) (hU : VU n st hr ca) (z : Int) (u : Nat) (hz : z = (u : Int)) (hu : u < 12) (S : Int) (hS0 : 0 ≤ S ∧ S ≤ 15) (b : Int) (r_b : -1 ≤ b ∧ b ≤ 2) : RD D cI cJ l yX2_hasFailed cX2_hasFailed 4 (some .boolean) 1 22 [.ref (ad 1), .int (zi (z)), .int (zi (S)), .int (zi (b))] (wX ad cI cJ n st hr ca pcs fr lv k ts th sp hv pr hc) (.int (bI (bitS S (st u) ∧ fby b (ca u)))) := by
  subst hz
  refine RD.of (by decide) (Nat.le_of_ble_eq_true rfl) ?_
  intro p e s m args below meth c hx hb hrt hml hown hT hlk hK hP ls hl
  replace hl : lv_has ls 4 [(0, .ref (ad 1)), (1, .int (zi ((u : Int)))), (2, .int (zi (S))), (3, .int (zi (b)))] := hl
  obtain ⟨hn, hst, hhr, hh1, hca⟩ := id hU
  refine lv_aload_n (pc := 0) hx hb dX2_hasFailed_0 rfl (lv_at hl 0 rfl) ?_
  refine lv_iload_n (pc := 1) hx hb dX2_hasFailed_1 rfl (lv_at hl 1 rfl) ?_
  refine lv_iload_n (pc := 2) hx hb dX2_hasFailed_2 rfl (lv_at hl 2 rfl) ?_
  refine rd_V (pc := 3) hx hb hml hown hT hK (c_X2_isIn D cI cJ l ad n st hr ca pcs fr lv k ts th sp hv pr hc hU ((u : Int)) u (by omega) (by omega) (S) (by omega)) ca_X2_isIn tw_159 hP 1 2 rfl rfl rfl ⟨Nat.le_of_ble_eq_true rfl, Nat.le_of_ble_eq_true rfl⟩ rfl hl.1 (As := [.int (zi ((u : Int))), .int (zi (S))]) (rest := []) rfl (Nat.le_of_ble_eq_true rfl) ⟨Nat.le_of_ble_eq_true rfl, Nat.le_of_ble_eq_true rfl⟩ dX2_hasFailed_3 ?_
  refine z_ifB_eq (tgt := 38) (pc := 6) hx hb dX2_hasFailed_6 (by decide) (fun c_1 => ?_) (fun c_1 => ?_)
  · refine z_iconst (pc := 38) hx hb dX2_hasFailed_38 ?_
    exact rd_zret hx hb hrt hlk dX2_hasFailed_39 (bI0 (by first | exact (fun q => absurd q.1 (by assumption)) | (intro q; have q2 := q.2; omega)))
  · refine lv_aload_n (pc := 9) hx hb dX2_hasFailed_9 rfl (lv_at hl 0 rfl) ?_
    refine va_get (D := D) (cl := vwCl) (ci := 2) (v := .ref (ad 8)) (C := RX2) (T := TX2) (N := 4) (pc := 10) hx hb hT inT2 hown hK.1 hP 1 rfl rfl 2 (by decide) (hT _ tw_25) (fun _ h9 => h9) rfl dX2_hasFailed_10 ?_
    refine lv_iload_n (pc := 13) hx hb dX2_hasFailed_13 rfl (lv_at hl 1 rfl) ?_
    refine z_iald (pc := 14) hx hb hK hP 8 (u) (f := ca) rfl (by omega) (by omega) (by omega) dX2_hasFailed_14 ?_
    have r_2 := hca (u)
    refine z_iconst (pc := 15) hx hb dX2_hasFailed_15 ?_
    refine z_icmp_eq (tgt := 38) (pc := 16) hx hb dX2_hasFailed_16 (by decide) (by omega) (by omega) (fun c_3 => ?_) (fun c_3 => ?_)
    · refine z_iconst (pc := 38) hx hb dX2_hasFailed_38 ?_
      exact rd_zret hx hb hrt hlk dX2_hasFailed_39 (bI0 (by first | exact (fun q => absurd q.1 (by assumption)) | (intro q; have q2 := q.2; omega)))
    · refine lv_iload_n (pc := 19) hx hb dX2_hasFailed_19 rfl (lv_at hl 3 rfl) ?_
      refine z_iconst (pc := 20) hx hb dX2_hasFailed_20 ?_
      refine z_icmp_eq (tgt := 34) (pc := 21) hx hb dX2_hasFailed_21 (by decide) (by omega) (by omega) (fun c_4 => ?_) (fun c_4 => ?_)
      · refine z_iconst (pc := 34) hx hb dX2_hasFailed_34 ?_
        refine lv_goto (tgt := 39) (pc := 35) hx hb dX2_hasFailed_35 (by decide) ?_
        exact rd_zret hx hb hrt hlk dX2_hasFailed_39 (bI1 (by refine ⟨?_, ?_⟩ <;> first | assumption | omega))
      · refine lv_aload_n (pc := 24) hx hb dX2_hasFailed_24 rfl (lv_at hl 0 rfl) ?_
        refine va_get (D := D) (cl := vwCl) (ci := 2) (v := .ref (ad 8)) (C := RX2) (T := TX2) (N := 4) (pc := 25) hx hb hT inT2 hown hK.1 hP 1 rfl rfl 2 (by decide) (hT _ tw_25) (fun _ h9 => h9) rfl dX2_hasFailed_25 ?_
        refine lv_iload_n (pc := 28) hx hb dX2_hasFailed_28 rfl (lv_at hl 1 rfl) ?_
        refine z_iald (pc := 29) hx hb hK hP 8 (u) (f := ca) rfl (by omega) (by omega) (by omega) dX2_hasFailed_29 ?_
        have r_5 := hca (u)
        refine lv_iload_n (pc := 30) hx hb dX2_hasFailed_30 rfl (lv_at hl 3 rfl) ?_
        refine z_icmp_ne (tgt := 38) (pc := 31) hx hb dX2_hasFailed_31 (by decide) (by omega) (by omega) (fun c_6 => ?_) (fun c_6 => ?_)
        · refine z_iconst (pc := 38) hx hb dX2_hasFailed_38 ?_
          exact rd_zret hx hb hrt hlk dX2_hasFailed_39 (bI0 (by first | exact (fun q => absurd q.1 (by assumption)) | (intro q; have q2 := q.2; omega)))
        · refine z_iconst (pc := 34) hx hb dX2_hasFailed_34 ?_
          refine lv_goto (tgt := 39) (pc := 35) hx hb dX2_hasFailed_35 (by decide) ?_
          exact rd_zret hx hb hrt hlk dX2_hasFailed_39 (bI1 (by refine ⟨?_, ?_⟩ <;> first | assumption | omega))

set_option maxHeartbeats 4000000 in
set_option maxRecDepth 100000 in
theorem c_X2_atRisk (D : va_G) (cI cJ : ClassId) (l : Launch) (ad : Nat → Nat) (n : Int) (st hr ca : Nat → Int) (pcs : Int) (fr lv : Nat → Int) (k : Int) (ts th sp hv : Nat → Int) (pr hc : Int) (hU : VU n st hr ca) (S : Int) (hS0 : 0 ≤ S ∧ S ≤ 15) (t : Int) (r_t : -2147483648 ≤ t ∧ t ≤ 2147483647) : RD D cI cJ l yX2_atRisk cX2_atRisk 5 (some .int) 1 22 [.ref (ad 1), .int (zi (S)), .int (zi (t))] (wX ad cI cJ n st hr ca pcs fr lv k ts th sp hv pr hc) (.int (zi (cRk st hr S t n.toNat))) := by
  refine RD.of (by decide) (Nat.le_of_ble_eq_true rfl) ?_
  intro p e s m args below meth c hx hb hrt hml hown hT hlk hK hP ls hl
  replace hl : lv_has ls 5 [(0, .ref (ad 1)), (1, .int (zi (S))), (2, .int (zi (t)))] := hl
  obtain ⟨hn, hst, hhr, hh1, hca⟩ := id hU
  have loop : ∀ u : Nat, u ≤ n.toNat → ∀ (z1 z2 : Int), (z1 = cRk st hr S t u) → (z2 = (u : Int)) → ∀ ls : Array Slot, lv_has ls 5 [(0, .ref (ad 1)), (1, .int (zi (S))), (2, .int (zi (t))), (3, .int (zi (z1))), (4, .int (zi (z2)))] → W p l e (RM 1 22) s m args below meth c s.heap [] 0 0 (MQ below (QR (.int (zi (cRk st hr S t n.toNat))) s.heap) args s 0 0 (fun _ => False)) (F0 m 5 ls []) := by
    refine lp_up (fun u => ∀ (z1 z2 : Int), (z1 = cRk st hr S t u) → (z2 = (u : Int)) → ∀ ls : Array Slot, lv_has ls 5 [(0, .ref (ad 1)), (1, .int (zi (S))), (2, .int (zi (t))), (3, .int (zi (z1))), (4, .int (zi (z2)))] → W p l e (RM 1 22) s m args below meth c s.heap [] 0 0 (MQ below (QR (.int (zi (cRk st hr S t n.toNat))) s.heap) args s 0 0 (fun _ => False)) (F0 m 5 ls [])) (n.toNat) ?_ ?_
    · intro z1 z2 e1 e2 ls hl
      refine lv_iload (pc := 5) hx hb dX2_atRisk_5 (lv_at hl 4 rfl) ?_
      refine lv_aload_n (pc := 7) hx hb dX2_atRisk_7 rfl (lv_at hl 0 rfl) ?_
      refine va_get (D := D) (cl := vwCl) (ci := 2) (v := .int (zi (n))) (C := RX2) (T := TX2) (N := 4) (pc := 8) hx hb hT inT2 hown hK.1 hP 1 rfl rfl 3 (by decide) (hT _ tw_27) (fun _ h9 => h9) rfl dX2_atRisk_8 ?_
      refine z_icmp_ge (tgt := 44) (pc := 11) hx hb dX2_atRisk_11 (by decide) (by omega) (by omega) (fun c_1 => ?_) (fun c_1 => absurd c_1 (by omega))
      refine lv_iload_n (pc := 44) hx hb dX2_atRisk_44 rfl (lv_at hl 3 rfl) ?_
      exact rd_iret hx hb hrt hlk dX2_atRisk_45 (by rw [e1])
    · intro u hu ih z1 z2 e1 e2 ls hl
      refine lv_iload (pc := 5) hx hb dX2_atRisk_5 (lv_at hl 4 rfl) ?_
      refine lv_aload_n (pc := 7) hx hb dX2_atRisk_7 rfl (lv_at hl 0 rfl) ?_
      refine va_get (D := D) (cl := vwCl) (ci := 2) (v := .int (zi (n))) (C := RX2) (T := TX2) (N := 4) (pc := 8) hx hb hT inT2 hown hK.1 hP 1 rfl rfl 3 (by decide) (hT _ tw_27) (fun _ h9 => h9) rfl dX2_atRisk_8 ?_
      refine z_icmp_ge (tgt := 44) (pc := 11) hx hb dX2_atRisk_11 (by decide) (by omega) (by omega) (fun c_2 => absurd c_2 (by omega)) (fun c_2 => ?_)
      refine lv_aload_n (pc := 14) hx hb dX2_atRisk_14 rfl (lv_at hl 0 rfl) ?_
      refine lv_iload (pc := 15) hx hb dX2_atRisk_15 (lv_at hl 4 rfl) ?_
      refine lv_iload_n (pc := 17) hx hb dX2_atRisk_17 rfl (lv_at hl 1 rfl) ?_
      refine rd_V (pc := 18) hx hb hml hown hT hK (c_X2_isIn D cI cJ l ad n st hr ca pcs fr lv k ts th sp hv pr hc hU (z2) u (by omega) (by omega) (S) (by omega)) ca_X2_isIn tw_159 hP 1 2 rfl rfl rfl ⟨Nat.le_of_ble_eq_true rfl, Nat.le_of_ble_eq_true rfl⟩ rfl hl.1 (As := [.int (zi (z2)), .int (zi (S))]) (rest := []) rfl (Nat.le_of_ble_eq_true rfl) ⟨Nat.le_of_ble_eq_true rfl, Nat.le_of_ble_eq_true rfl⟩ dX2_atRisk_18 ?_
      refine z_ifB_eq (tgt := 38) (pc := 21) hx hb dX2_atRisk_21 (by decide) (fun c_3 => ?_) (fun c_3 => ?_)
      · refine lv_iinc (v := zi (z2 + 1)) (lv' := [(4, .int (zi ((z2 + 1)))), (0, .ref (ad 1)), (1, .int (zi (S))), (2, .int (zi (t))), (3, .int (zi (z1)))]) (pc := 38) hx hb dX2_atRisk_38 hl (k := 4) rfl (zi_add _ _) (by decide) rfl (fun ls hl => ?_)
        refine lv_goto (tgt := 5) (pc := 41) hx hb dX2_atRisk_41 (by decide) ?_
        exact ih  _ _ (by rw [e1]; simp only [cRk]; split <;> omega) (by rw [e2]; rfl) ls (lv_sub hl [1, 2, 3, 4, 0] rfl)
      · refine lv_aload_n (pc := 24) hx hb dX2_atRisk_24 rfl (lv_at hl 0 rfl) ?_
        refine va_get (D := D) (cl := vwCl) (ci := 2) (v := .ref (ad 7)) (C := RX2) (T := TX2) (N := 4) (pc := 25) hx hb hT inT2 hown hK.1 hP 1 rfl rfl 1 (by decide) (hT _ tw_23) (fun _ h9 => h9) rfl dX2_atRisk_25 ?_
        refine lv_iload (pc := 28) hx hb dX2_atRisk_28 (lv_at hl 4 rfl) ?_
        refine z_iald (pc := 30) hx hb hK hP 7 (u) (f := hr) rfl (by omega) (by omega) (by omega) dX2_atRisk_30 ?_
        have r_4 := hhr (u)
        refine lv_iload_n (pc := 31) hx hb dX2_atRisk_31 rfl (lv_at hl 2 rfl) ?_
        refine z_icmp_lt (tgt := 38) (pc := 32) hx hb dX2_atRisk_32 (by decide) (by omega) (by omega) (fun c_5 => ?_) (fun c_5 => ?_)
        · refine lv_iinc (v := zi (z2 + 1)) (lv' := [(4, .int (zi ((z2 + 1)))), (0, .ref (ad 1)), (1, .int (zi (S))), (2, .int (zi (t))), (3, .int (zi (z1)))]) (pc := 38) hx hb dX2_atRisk_38 hl (k := 4) rfl (zi_add _ _) (by decide) rfl (fun ls hl => ?_)
          refine lv_goto (tgt := 5) (pc := 41) hx hb dX2_atRisk_41 (by decide) ?_
          exact ih  _ _ (by rw [e1]; simp only [cRk]; split <;> omega) (by rw [e2]; rfl) ls (lv_sub hl [1, 2, 3, 4, 0] rfl)
        · refine lv_iinc (v := zi (z1 + 1)) (lv' := [(3, .int (zi ((z1 + 1)))), (0, .ref (ad 1)), (1, .int (zi (S))), (2, .int (zi (t))), (4, .int (zi (z2)))]) (pc := 35) hx hb dX2_atRisk_35 hl (k := 3) rfl (zi_add _ _) (by decide) rfl (fun ls hl => ?_)
          refine lv_iinc (v := zi (z2 + 1)) (lv' := [(4, .int (zi ((z2 + 1)))), (3, .int (zi ((z1 + 1)))), (0, .ref (ad 1)), (1, .int (zi (S))), (2, .int (zi (t)))]) (pc := 38) hx hb dX2_atRisk_38 hl (k := 4) rfl (zi_add _ _) (by decide) rfl (fun ls hl => ?_)
          refine lv_goto (tgt := 5) (pc := 41) hx hb dX2_atRisk_41 (by decide) ?_
          exact ih  _ _ (by rw [e1]; simp only [cRk]; split <;> omega) (by rw [e2]; rfl) ls (lv_sub hl [2, 3, 4, 1, 0] rfl)
  refine z_iconst (pc := 0) hx hb dX2_atRisk_0 ?_
  refine lv_istore_n (lv' := [(3, .int (zi (0))), (0, .ref (ad 1)), (1, .int (zi (S))), (2, .int (zi (t)))]) (pc := 1) hx hb dX2_atRisk_1 rfl hl (by decide) rfl (fun ls hl => ?_)
  refine z_iconst (pc := 2) hx hb dX2_atRisk_2 ?_
  refine lv_istore (lv' := [(4, .int (zi (0))), (3, .int (zi (0))), (0, .ref (ad 1)), (1, .int (zi (S))), (2, .int (zi (t)))]) (pc := 3) hx hb dX2_atRisk_3 hl (by decide) rfl (fun ls hl => ?_)
  exact loop 0 (by omega) _ _ (by rfl) (by rfl) ls (lv_sub hl [2, 3, 4, 1, 0] rfl)

set_option maxHeartbeats 4000000 in
set_option maxRecDepth 100000 in
theorem c_X2_failedAt (D : va_G) (cI cJ : ClassId) (l : Launch) (ad : Nat → Nat) (n : Int) (st hr ca : Nat → Int) (pcs : Int) (fr lv : Nat → Int) (k : Int) (ts th sp hv : Nat → Int) (pr hc : Int) (hU : VU n st hr ca) (S : Int) (hS0 : 0 ≤ S ∧ S ≤ 15) (b : Int) (r_b : -1 ≤ b ∧ b ≤ 2) (t : Int) (r_t : -2147483648 ≤ t ∧ t ≤ 2147483647) : RD D cI cJ l yX2_failedAt cX2_failedAt 6 (some .int) 2 45 [.ref (ad 1), .int (zi (S)), .int (zi (b)), .int (zi (t))] (wX ad cI cJ n st hr ca pcs fr lv k ts th sp hv pr hc) (.int (zi (cFl st hr ca S b t n.toNat))) := by
  refine RD.of (by decide) (Nat.le_of_ble_eq_true rfl) ?_
  intro p e s m args below meth c hx hb hrt hml hown hT hlk hK hP ls hl
  replace hl : lv_has ls 6 [(0, .ref (ad 1)), (1, .int (zi (S))), (2, .int (zi (b))), (3, .int (zi (t)))] := hl
  obtain ⟨hn, hst, hhr, hh1, hca⟩ := id hU
  have loop : ∀ u : Nat, u ≤ n.toNat → ∀ (z1 z2 : Int), (z1 = cFl st hr ca S b t u) → (z2 = (u : Int)) → ∀ ls : Array Slot, lv_has ls 6 [(0, .ref (ad 1)), (1, .int (zi (S))), (2, .int (zi (b))), (3, .int (zi (t))), (4, .int (zi (z1))), (5, .int (zi (z2)))] → W p l e (RM 2 45) s m args below meth c s.heap [] 0 0 (MQ below (QR (.int (zi (cFl st hr ca S b t n.toNat))) s.heap) args s 0 0 (fun _ => False)) (F0 m 6 ls []) := by
    refine lp_up (fun u => ∀ (z1 z2 : Int), (z1 = cFl st hr ca S b t u) → (z2 = (u : Int)) → ∀ ls : Array Slot, lv_has ls 6 [(0, .ref (ad 1)), (1, .int (zi (S))), (2, .int (zi (b))), (3, .int (zi (t))), (4, .int (zi (z1))), (5, .int (zi (z2)))] → W p l e (RM 2 45) s m args below meth c s.heap [] 0 0 (MQ below (QR (.int (zi (cFl st hr ca S b t n.toNat))) s.heap) args s 0 0 (fun _ => False)) (F0 m 6 ls [])) (n.toNat) ?_ ?_
    · intro z1 z2 e1 e2 ls hl
      refine lv_iload (pc := 6) hx hb dX2_failedAt_6 (lv_at hl 5 rfl) ?_
      refine lv_aload_n (pc := 8) hx hb dX2_failedAt_8 rfl (lv_at hl 0 rfl) ?_
      refine va_get (D := D) (cl := vwCl) (ci := 2) (v := .int (zi (n))) (C := RX2) (T := TX2) (N := 4) (pc := 9) hx hb hT inT2 hown hK.1 hP 1 rfl rfl 3 (by decide) (hT _ tw_27) (fun _ h9 => h9) rfl dX2_failedAt_9 ?_
      refine z_icmp_ge (tgt := 46) (pc := 12) hx hb dX2_failedAt_12 (by decide) (by omega) (by omega) (fun c_1 => ?_) (fun c_1 => absurd c_1 (by omega))
      refine lv_iload (pc := 46) hx hb dX2_failedAt_46 (lv_at hl 4 rfl) ?_
      exact rd_iret hx hb hrt hlk dX2_failedAt_48 (by rw [e1])
    · intro u hu ih z1 z2 e1 e2 ls hl
      refine lv_iload (pc := 6) hx hb dX2_failedAt_6 (lv_at hl 5 rfl) ?_
      refine lv_aload_n (pc := 8) hx hb dX2_failedAt_8 rfl (lv_at hl 0 rfl) ?_
      refine va_get (D := D) (cl := vwCl) (ci := 2) (v := .int (zi (n))) (C := RX2) (T := TX2) (N := 4) (pc := 9) hx hb hT inT2 hown hK.1 hP 1 rfl rfl 3 (by decide) (hT _ tw_27) (fun _ h9 => h9) rfl dX2_failedAt_9 ?_
      refine z_icmp_ge (tgt := 46) (pc := 12) hx hb dX2_failedAt_12 (by decide) (by omega) (by omega) (fun c_2 => absurd c_2 (by omega)) (fun c_2 => ?_)
      refine lv_aload_n (pc := 15) hx hb dX2_failedAt_15 rfl (lv_at hl 0 rfl) ?_
      refine lv_iload (pc := 16) hx hb dX2_failedAt_16 (lv_at hl 5 rfl) ?_
      refine lv_iload_n (pc := 18) hx hb dX2_failedAt_18 rfl (lv_at hl 1 rfl) ?_
      refine lv_iload_n (pc := 19) hx hb dX2_failedAt_19 rfl (lv_at hl 2 rfl) ?_
      refine rd_V (pc := 20) hx hb hml hown hT hK (c_X2_hasFailed D cI cJ l ad n st hr ca pcs fr lv k ts th sp hv pr hc hU (z2) u (by omega) (by omega) (S) (by omega) (b) (by omega)) ca_X2_hasFailed tw_176 hP 1 2 rfl rfl rfl ⟨Nat.le_of_ble_eq_true rfl, Nat.le_of_ble_eq_true rfl⟩ rfl hl.1 (As := [.int (zi (z2)), .int (zi (S)), .int (zi (b))]) (rest := []) rfl (Nat.le_of_ble_eq_true rfl) ⟨Nat.le_of_ble_eq_true rfl, Nat.le_of_ble_eq_true rfl⟩ dX2_failedAt_20 ?_
      refine z_ifB_eq (tgt := 40) (pc := 23) hx hb dX2_failedAt_23 (by decide) (fun c_3 => ?_) (fun c_3 => ?_)
      · refine lv_iinc (v := zi (z2 + 1)) (lv' := [(5, .int (zi ((z2 + 1)))), (0, .ref (ad 1)), (1, .int (zi (S))), (2, .int (zi (b))), (3, .int (zi (t))), (4, .int (zi (z1)))]) (pc := 40) hx hb dX2_failedAt_40 hl (k := 5) rfl (zi_add _ _) (by decide) rfl (fun ls hl => ?_)
        refine lv_goto (tgt := 6) (pc := 43) hx hb dX2_failedAt_43 (by decide) ?_
        exact ih  _ _ (by rw [e1]; simp only [cFl]; split <;> omega) (by rw [e2]; rfl) ls (lv_sub hl [1, 2, 3, 4, 5, 0] rfl)
      · refine lv_aload_n (pc := 26) hx hb dX2_failedAt_26 rfl (lv_at hl 0 rfl) ?_
        refine va_get (D := D) (cl := vwCl) (ci := 2) (v := .ref (ad 7)) (C := RX2) (T := TX2) (N := 4) (pc := 27) hx hb hT inT2 hown hK.1 hP 1 rfl rfl 1 (by decide) (hT _ tw_23) (fun _ h9 => h9) rfl dX2_failedAt_27 ?_
        refine lv_iload (pc := 30) hx hb dX2_failedAt_30 (lv_at hl 5 rfl) ?_
        refine z_iald (pc := 32) hx hb hK hP 7 (u) (f := hr) rfl (by omega) (by omega) (by omega) dX2_failedAt_32 ?_
        have r_4 := hhr (u)
        refine lv_iload_n (pc := 33) hx hb dX2_failedAt_33 rfl (lv_at hl 3 rfl) ?_
        refine z_icmp_ne (tgt := 40) (pc := 34) hx hb dX2_failedAt_34 (by decide) (by omega) (by omega) (fun c_5 => ?_) (fun c_5 => ?_)
        · refine lv_iinc (v := zi (z2 + 1)) (lv' := [(5, .int (zi ((z2 + 1)))), (0, .ref (ad 1)), (1, .int (zi (S))), (2, .int (zi (b))), (3, .int (zi (t))), (4, .int (zi (z1)))]) (pc := 40) hx hb dX2_failedAt_40 hl (k := 5) rfl (zi_add _ _) (by decide) rfl (fun ls hl => ?_)
          refine lv_goto (tgt := 6) (pc := 43) hx hb dX2_failedAt_43 (by decide) ?_
          exact ih  _ _ (by rw [e1]; simp only [cFl]; split <;> omega) (by rw [e2]; rfl) ls (lv_sub hl [1, 2, 3, 4, 5, 0] rfl)
        · refine lv_iinc (v := zi (z1 + 1)) (lv' := [(4, .int (zi ((z1 + 1)))), (0, .ref (ad 1)), (1, .int (zi (S))), (2, .int (zi (b))), (3, .int (zi (t))), (5, .int (zi (z2)))]) (pc := 37) hx hb dX2_failedAt_37 hl (k := 4) rfl (zi_add _ _) (by decide) rfl (fun ls hl => ?_)
          refine lv_iinc (v := zi (z2 + 1)) (lv' := [(5, .int (zi ((z2 + 1)))), (4, .int (zi ((z1 + 1)))), (0, .ref (ad 1)), (1, .int (zi (S))), (2, .int (zi (b))), (3, .int (zi (t)))]) (pc := 40) hx hb dX2_failedAt_40 hl (k := 5) rfl (zi_add _ _) (by decide) rfl (fun ls hl => ?_)
          refine lv_goto (tgt := 6) (pc := 43) hx hb dX2_failedAt_43 (by decide) ?_
          exact ih  _ _ (by rw [e1]; simp only [cFl]; split <;> omega) (by rw [e2]; rfl) ls (lv_sub hl [2, 3, 4, 5, 1, 0] rfl)
  refine z_iconst (pc := 0) hx hb dX2_failedAt_0 ?_
  refine lv_istore (lv' := [(4, .int (zi (0))), (0, .ref (ad 1)), (1, .int (zi (S))), (2, .int (zi (b))), (3, .int (zi (t)))]) (pc := 1) hx hb dX2_failedAt_1 hl (by decide) rfl (fun ls hl => ?_)
  refine z_iconst (pc := 3) hx hb dX2_failedAt_3 ?_
  refine lv_istore (lv' := [(5, .int (zi (0))), (4, .int (zi (0))), (0, .ref (ad 1)), (1, .int (zi (S))), (2, .int (zi (b))), (3, .int (zi (t)))]) (pc := 4) hx hb dX2_failedAt_4 hl (by decide) rfl (fun ls hl => ?_)
  exact loop 0 (by omega) _ _ (by rfl) (by rfl) ls (lv_sub hl [2, 3, 4, 5, 1, 0] rfl)

set_option maxHeartbeats 4000000 in
set_option maxRecDepth 100000 in
theorem c_X2_nextFailure (D : va_G) (cI cJ : ClassId) (l : Launch) (ad : Nat → Nat) (n : Int) (st hr ca : Nat → Int) (pcs : Int) (fr lv : Nat → Int) (k : Int) (ts th sp hv : Nat → Int) (pr hc : Int) (hU : VU n st hr ca) (S : Int) (hS0 : 0 ≤ S ∧ S ≤ 15) (b : Int) (r_b : -1 ≤ b ∧ b ≤ 2) (t : Int) (r_t : -2147483648 ≤ t ∧ t ≤ 2147483647) : RD D cI cJ l yX2_nextFailure cX2_nextFailure 6 (some .int) 2 45 [.ref (ad 1), .int (zi (S)), .int (zi (b)), .int (zi (t))] (wX ad cI cJ n st hr ca pcs fr lv k ts th sp hv pr hc) (.int (zi (cNx st hr ca S b t n.toNat))) := by
  refine RD.of (by decide) (Nat.le_of_ble_eq_true rfl) ?_
  intro p e s m args below meth c hx hb hrt hml hown hT hlk hK hP ls hl
  replace hl : lv_has ls 6 [(0, .ref (ad 1)), (1, .int (zi (S))), (2, .int (zi (b))), (3, .int (zi (t)))] := hl
  obtain ⟨hn, hst, hhr, hh1, hca⟩ := id hU
  have loop : ∀ u : Nat, u ≤ n.toNat → ∀ (z1 z2 : Int), (z1 = cNx st hr ca S b t u) → (z2 = (u : Int)) → ∀ ls : Array Slot, lv_has ls 6 [(0, .ref (ad 1)), (1, .int (zi (S))), (2, .int (zi (b))), (3, .int (zi (t))), (4, .int (zi (z1))), (5, .int (zi (z2)))] → W p l e (RM 2 45) s m args below meth c s.heap [] 0 0 (MQ below (QR (.int (zi (cNx st hr ca S b t n.toNat))) s.heap) args s 0 0 (fun _ => False)) (F0 m 6 ls []) := by
    refine lp_up (fun u => ∀ (z1 z2 : Int), (z1 = cNx st hr ca S b t u) → (z2 = (u : Int)) → ∀ ls : Array Slot, lv_has ls 6 [(0, .ref (ad 1)), (1, .int (zi (S))), (2, .int (zi (b))), (3, .int (zi (t))), (4, .int (zi (z1))), (5, .int (zi (z2)))] → W p l e (RM 2 45) s m args below meth c s.heap [] 0 0 (MQ below (QR (.int (zi (cNx st hr ca S b t n.toNat))) s.heap) args s 0 0 (fun _ => False)) (F0 m 6 ls [])) (n.toNat) ?_ ?_
    · intro z1 z2 e1 e2 ls hl
      have hcn := cNx_rng (st := st) (ca := ca) (S := S) (b := b) (t := t) hhr n.toNat
      refine lv_iload (pc := 6) hx hb dX2_nextFailure_6 (lv_at hl 5 rfl) ?_
      refine lv_aload_n (pc := 8) hx hb dX2_nextFailure_8 rfl (lv_at hl 0 rfl) ?_
      refine va_get (D := D) (cl := vwCl) (ci := 2) (v := .int (zi (n))) (C := RX2) (T := TX2) (N := 4) (pc := 9) hx hb hT inT2 hown hK.1 hP 1 rfl rfl 3 (by decide) (hT _ tw_27) (fun _ h9 => h9) rfl dX2_nextFailure_9 ?_
      refine z_icmp_ge (tgt := 70) (pc := 12) hx hb dX2_nextFailure_12 (by decide) (by omega) (by omega) (fun c_1 => ?_) (fun c_1 => absurd c_1 (by omega))
      refine lv_iload (pc := 70) hx hb dX2_nextFailure_70 (lv_at hl 4 rfl) ?_
      exact rd_iret hx hb hrt hlk dX2_nextFailure_72 (by rw [e1])
    · intro u hu ih z1 z2 e1 e2 ls hl
      have hcn := cNx_rng (st := st) (ca := ca) (S := S) (b := b) (t := t) hhr u
      refine lv_iload (pc := 6) hx hb dX2_nextFailure_6 (lv_at hl 5 rfl) ?_
      refine lv_aload_n (pc := 8) hx hb dX2_nextFailure_8 rfl (lv_at hl 0 rfl) ?_
      refine va_get (D := D) (cl := vwCl) (ci := 2) (v := .int (zi (n))) (C := RX2) (T := TX2) (N := 4) (pc := 9) hx hb hT inT2 hown hK.1 hP 1 rfl rfl 3 (by decide) (hT _ tw_27) (fun _ h9 => h9) rfl dX2_nextFailure_9 ?_
      refine z_icmp_ge (tgt := 70) (pc := 12) hx hb dX2_nextFailure_12 (by decide) (by omega) (by omega) (fun c_2 => absurd c_2 (by omega)) (fun c_2 => ?_)
      refine lv_aload_n (pc := 15) hx hb dX2_nextFailure_15 rfl (lv_at hl 0 rfl) ?_
      refine lv_iload (pc := 16) hx hb dX2_nextFailure_16 (lv_at hl 5 rfl) ?_
      refine lv_iload_n (pc := 18) hx hb dX2_nextFailure_18 rfl (lv_at hl 1 rfl) ?_
      refine lv_iload_n (pc := 19) hx hb dX2_nextFailure_19 rfl (lv_at hl 2 rfl) ?_
      refine rd_V (pc := 20) hx hb hml hown hT hK (c_X2_hasFailed D cI cJ l ad n st hr ca pcs fr lv k ts th sp hv pr hc hU (z2) u (by omega) (by omega) (S) (by omega) (b) (by omega)) ca_X2_hasFailed tw_176 hP 1 2 rfl rfl rfl ⟨Nat.le_of_ble_eq_true rfl, Nat.le_of_ble_eq_true rfl⟩ rfl hl.1 (As := [.int (zi (z2)), .int (zi (S)), .int (zi (b))]) (rest := []) rfl (Nat.le_of_ble_eq_true rfl) ⟨Nat.le_of_ble_eq_true rfl, Nat.le_of_ble_eq_true rfl⟩ dX2_nextFailure_20 ?_
      refine z_ifB_eq (tgt := 64) (pc := 23) hx hb dX2_nextFailure_23 (by decide) (fun c_3 => ?_) (fun c_3 => ?_)
      · refine lv_iinc (v := zi (z2 + 1)) (lv' := [(5, .int (zi ((z2 + 1)))), (0, .ref (ad 1)), (1, .int (zi (S))), (2, .int (zi (b))), (3, .int (zi (t))), (4, .int (zi (z1)))]) (pc := 64) hx hb dX2_nextFailure_64 hl (k := 5) rfl (zi_add _ _) (by decide) rfl (fun ls hl => ?_)
        refine lv_goto (tgt := 6) (pc := 67) hx hb dX2_nextFailure_67 (by decide) ?_
        exact ih  _ _ (by simp only [cNx]; rw [← e1]; split <;> first | rfl | omega) (by rw [e2]; rfl) ls (lv_sub hl [1, 2, 3, 4, 5, 0] rfl)
      · refine lv_aload_n (pc := 26) hx hb dX2_nextFailure_26 rfl (lv_at hl 0 rfl) ?_
        refine va_get (D := D) (cl := vwCl) (ci := 2) (v := .ref (ad 7)) (C := RX2) (T := TX2) (N := 4) (pc := 27) hx hb hT inT2 hown hK.1 hP 1 rfl rfl 1 (by decide) (hT _ tw_23) (fun _ h9 => h9) rfl dX2_nextFailure_27 ?_
        refine lv_iload (pc := 30) hx hb dX2_nextFailure_30 (lv_at hl 5 rfl) ?_
        refine z_iald (pc := 32) hx hb hK hP 7 (u) (f := hr) rfl (by omega) (by omega) (by omega) dX2_nextFailure_32 ?_
        have r_4 := hhr (u)
        refine lv_iload_n (pc := 33) hx hb dX2_nextFailure_33 rfl (lv_at hl 3 rfl) ?_
        refine z_icmp_le (tgt := 64) (pc := 34) hx hb dX2_nextFailure_34 (by decide) (by omega) (by omega) (fun c_5 => ?_) (fun c_5 => ?_)
        · refine lv_iinc (v := zi (z2 + 1)) (lv' := [(5, .int (zi ((z2 + 1)))), (0, .ref (ad 1)), (1, .int (zi (S))), (2, .int (zi (b))), (3, .int (zi (t))), (4, .int (zi (z1)))]) (pc := 64) hx hb dX2_nextFailure_64 hl (k := 5) rfl (zi_add _ _) (by decide) rfl (fun ls hl => ?_)
          refine lv_goto (tgt := 6) (pc := 67) hx hb dX2_nextFailure_67 (by decide) ?_
          exact ih  _ _ (by simp only [cNx]; rw [← e1]; split <;> first | rfl | omega) (by rw [e2]; rfl) ls (lv_sub hl [1, 2, 3, 4, 5, 0] rfl)
        · refine lv_iload (pc := 37) hx hb dX2_nextFailure_37 (lv_at hl 4 rfl) ?_
          refine z_iconst (pc := 39) hx hb dX2_nextFailure_39 ?_
          refine z_icmp_eq (tgt := 55) (pc := 40) hx hb dX2_nextFailure_40 (by decide) (by omega) (by omega) (fun c_6 => ?_) (fun c_6 => ?_)
          · refine lv_aload_n (pc := 55) hx hb dX2_nextFailure_55 rfl (lv_at hl 0 rfl) ?_
            refine va_get (D := D) (cl := vwCl) (ci := 2) (v := .ref (ad 7)) (C := RX2) (T := TX2) (N := 4) (pc := 56) hx hb hT inT2 hown hK.1 hP 1 rfl rfl 1 (by decide) (hT _ tw_23) (fun _ h9 => h9) rfl dX2_nextFailure_56 ?_
            refine lv_iload (pc := 59) hx hb dX2_nextFailure_59 (lv_at hl 5 rfl) ?_
            refine z_iald (pc := 61) hx hb hK hP 7 (u) (f := hr) rfl (by omega) (by omega) (by omega) dX2_nextFailure_61 ?_
            have r_7 := hhr (u)
            refine lv_istore (lv' := [(4, .int (zi ((hr (u))))), (0, .ref (ad 1)), (1, .int (zi (S))), (2, .int (zi (b))), (3, .int (zi (t))), (5, .int (zi (z2)))]) (pc := 62) hx hb dX2_nextFailure_62 hl (by decide) rfl (fun ls hl => ?_)
            refine lv_iinc (v := zi (z2 + 1)) (lv' := [(5, .int (zi ((z2 + 1)))), (4, .int (zi ((hr (u))))), (0, .ref (ad 1)), (1, .int (zi (S))), (2, .int (zi (b))), (3, .int (zi (t)))]) (pc := 64) hx hb dX2_nextFailure_64 hl (k := 5) rfl (zi_add _ _) (by decide) rfl (fun ls hl => ?_)
            refine lv_goto (tgt := 6) (pc := 67) hx hb dX2_nextFailure_67 (by decide) ?_
            exact ih  _ _ (by simp only [cNx]; rw [← e1]; split <;> first | rfl | omega) (by rw [e2]; rfl) ls (lv_sub hl [2, 3, 4, 5, 1, 0] rfl)
          · refine lv_aload_n (pc := 43) hx hb dX2_nextFailure_43 rfl (lv_at hl 0 rfl) ?_
            refine va_get (D := D) (cl := vwCl) (ci := 2) (v := .ref (ad 7)) (C := RX2) (T := TX2) (N := 4) (pc := 44) hx hb hT inT2 hown hK.1 hP 1 rfl rfl 1 (by decide) (hT _ tw_23) (fun _ h9 => h9) rfl dX2_nextFailure_44 ?_
            refine lv_iload (pc := 47) hx hb dX2_nextFailure_47 (lv_at hl 5 rfl) ?_
            refine z_iald (pc := 49) hx hb hK hP 7 (u) (f := hr) rfl (by omega) (by omega) (by omega) dX2_nextFailure_49 ?_
            have r_8 := hhr (u)
            refine lv_iload (pc := 50) hx hb dX2_nextFailure_50 (lv_at hl 4 rfl) ?_
            refine z_icmp_ge (tgt := 64) (pc := 52) hx hb dX2_nextFailure_52 (by decide) (by omega) (by omega) (fun c_9 => ?_) (fun c_9 => ?_)
            · refine lv_iinc (v := zi (z2 + 1)) (lv' := [(5, .int (zi ((z2 + 1)))), (0, .ref (ad 1)), (1, .int (zi (S))), (2, .int (zi (b))), (3, .int (zi (t))), (4, .int (zi (z1)))]) (pc := 64) hx hb dX2_nextFailure_64 hl (k := 5) rfl (zi_add _ _) (by decide) rfl (fun ls hl => ?_)
              refine lv_goto (tgt := 6) (pc := 67) hx hb dX2_nextFailure_67 (by decide) ?_
              exact ih  _ _ (by simp only [cNx]; rw [← e1]; split <;> first | rfl | omega) (by rw [e2]; rfl) ls (lv_sub hl [1, 2, 3, 4, 5, 0] rfl)
            · refine lv_aload_n (pc := 55) hx hb dX2_nextFailure_55 rfl (lv_at hl 0 rfl) ?_
              refine va_get (D := D) (cl := vwCl) (ci := 2) (v := .ref (ad 7)) (C := RX2) (T := TX2) (N := 4) (pc := 56) hx hb hT inT2 hown hK.1 hP 1 rfl rfl 1 (by decide) (hT _ tw_23) (fun _ h9 => h9) rfl dX2_nextFailure_56 ?_
              refine lv_iload (pc := 59) hx hb dX2_nextFailure_59 (lv_at hl 5 rfl) ?_
              refine z_iald (pc := 61) hx hb hK hP 7 (u) (f := hr) rfl (by omega) (by omega) (by omega) dX2_nextFailure_61 ?_
              have r_10 := hhr (u)
              refine lv_istore (lv' := [(4, .int (zi ((hr (u))))), (0, .ref (ad 1)), (1, .int (zi (S))), (2, .int (zi (b))), (3, .int (zi (t))), (5, .int (zi (z2)))]) (pc := 62) hx hb dX2_nextFailure_62 hl (by decide) rfl (fun ls hl => ?_)
              refine lv_iinc (v := zi (z2 + 1)) (lv' := [(5, .int (zi ((z2 + 1)))), (4, .int (zi ((hr (u))))), (0, .ref (ad 1)), (1, .int (zi (S))), (2, .int (zi (b))), (3, .int (zi (t)))]) (pc := 64) hx hb dX2_nextFailure_64 hl (k := 5) rfl (zi_add _ _) (by decide) rfl (fun ls hl => ?_)
              refine lv_goto (tgt := 6) (pc := 67) hx hb dX2_nextFailure_67 (by decide) ?_
              exact ih  _ _ (by simp only [cNx]; rw [← e1]; split <;> first | rfl | omega) (by rw [e2]; rfl) ls (lv_sub hl [2, 3, 4, 5, 1, 0] rfl)
  refine z_iconst (pc := 0) hx hb dX2_nextFailure_0 ?_
  refine lv_istore (lv' := [(4, .int (zi (-1))), (0, .ref (ad 1)), (1, .int (zi (S))), (2, .int (zi (b))), (3, .int (zi (t)))]) (pc := 1) hx hb dX2_nextFailure_1 hl (by decide) rfl (fun ls hl => ?_)
  refine z_iconst (pc := 3) hx hb dX2_nextFailure_3 ?_
  refine lv_istore (lv' := [(5, .int (zi (0))), (4, .int (zi (-1))), (0, .ref (ad 1)), (1, .int (zi (S))), (2, .int (zi (b))), (3, .int (zi (t)))]) (pc := 4) hx hb dX2_nextFailure_4 hl (by decide) rfl (fun ls hl => ?_)
  exact loop 0 (by omega) _ _ (by rfl) (by rfl) ls (lv_sub hl [2, 3, 4, 5, 1, 0] rfl)
end
section
/-! what the calls that change the UNITS, the TRIAL, the SPEEDS and the rules do -/
abbrev okU (a b d : Int) : Prop := (0 ≤ a ∧ a ≤ 3) ∧ (1 ≤ b ∧ b ≤ 500) ∧ (-1 ≤ d ∧ d ≤ 2)
def unitS (n : Int) (st hr ca : Nat → Int) (a b d : Int) : Int × Int × (Nat → Int) × (Nat → Int) × (Nat → Int) :=
  if okU a b d then (if n < 12 then (n, n + 1, uZ st n.toNat a, uZ hr n.toNat b, uZ ca n.toNat d) else (-1004, n, st, hr, ca)) else (-1002, n, st, hr, ca)
def setS (n : Int) (st hr ca : Nat → Int) (z a b d : Int) : Int × (Nat → Int) × (Nat → Int) × (Nat → Int) :=
  if 0 ≤ z ∧ z ≤ n - 1 then (if okU a b d then (1, uZ st z.toNat a, uZ hr z.toNat b, uZ ca z.toNat d) else (-1002, st, hr, ca)) else (-1001, st, hr, ca)
def dropS (n : Int) : Int × Int := if n = 0 then (-1003, n) else (n - 1, n - 1)
def speedS (sp : Nat → Int) (a v : Int) : Int × (Nat → Int) := if (0 ≤ a ∧ a ≤ 3) ∧ (1 ≤ v ∧ v ≤ 1000) then (sp a.toNat, uZ sp a.toNat v) else (-1002, sp)
def stepS (k : Int) (ts th : Nat → Int) (a b : Int) : Int × Int × (Nat → Int) × (Nat → Int) :=
  if (0 ≤ a ∧ a ≤ 3) ∧ (1 ≤ b ∧ b ≤ 500) then (if k < 10 then (k + 1, k + 1, uZ ts k.toNat a, uZ th k.toNat b) else (-1004, k, ts, th)) else (-1002, k, ts, th)
def ruleS (pr hc w v : Int) : Int × Int × Int :=
  if w = 0 ∧ (1 ≤ v ∧ v ≤ 500) then (pr, v, hc) else if w = 1 ∧ (0 ≤ v ∧ v ≤ 20) then (hc, pr, v) else (-1002, pr, hc)

set_option maxHeartbeats 4000000 in
set_option maxRecDepth 100000 in
theorem c_X2_put (D : va_G) (cI cJ : ClassId) (l : Launch) (ad : Nat → Nat) (n : Int) (st hr ca : Nat → Int) (pcs : Int) (fr lv : Nat → Int) (k : Int) (ts th sp hv : Nat → Int) (pr hc : Int) (hn : 0 ≤ n ∧ n ≤ 12) (z : Int) (hz : 0 ≤ z ∧ z < n) (a : Int) (r_a : -2147483648 ≤ a ∧ a ≤ 2147483647) (b : Int) (r_b : -2147483648 ≤ b ∧ b ≤ 2147483647) (d : Int) (r_d : -2147483648 ≤ d ∧ d ≤ 2147483647) : WV D cI cJ l yX2_put cX2_put 5 2 43 [.ref (ad 1), .int (zi (z)), .int (zi (a)), .int (zi (b)), .int (zi (d))] (wX ad cI cJ n st hr ca pcs fr lv k ts th sp hv pr hc) (fun ws' => ws' = (wX ad cI cJ n (uZ st z.toNat a) (uZ hr z.toNat b) (uZ ca z.toNat d) pcs fr lv k ts th sp hv pr hc)) := by
  refine WV.of (by decide) (Nat.le_of_ble_eq_true rfl) ?_
  intro p e s m args below meth c hx hb hrt hml hown hT hlk hK hP hD hS ls hl
  replace hl : lv_has ls 5 [(0, .ref (ad 1)), (1, .int (zi (z))), (2, .int (zi (a))), (3, .int (zi (b))), (4, .int (zi (d)))] := hl
  refine lv_aload_n (pc := 0) hx hb dX2_put_0 rfl (lv_at hl 0 rfl) ?_
  refine lv_iload_n (pc := 1) hx hb dX2_put_1 rfl (lv_at hl 1 rfl) ?_
  refine rd_V (pc := 2) hx hb hml hown hT hK (c_X2_has D cI cJ l ad n st hr ca pcs fr lv k ts th sp hv pr hc (by omega) (z) (by omega)) ca_X2_has tw_114 hP 1 2 rfl rfl rfl ⟨Nat.le_of_ble_eq_true rfl, Nat.le_of_ble_eq_true rfl⟩ rfl hl.1 (As := [.int (zi (z))]) (rest := []) rfl (Nat.le_of_ble_eq_true rfl) ⟨Nat.le_of_ble_eq_true rfl, Nat.le_of_ble_eq_true rfl⟩ dX2_put_2 ?_
  refine z_ifB_eq (tgt := 30) (pc := 5) hx hb dX2_put_5 (by decide) (fun c_1 => absurd c_1 (by omega)) (fun c_1 => ?_)
  refine lv_aload_n (pc := 8) hx hb dX2_put_8 rfl (lv_at hl 0 rfl) ?_
  refine va_get (D := D) (cl := vwCl) (ci := 2) (v := .ref (ad 6)) (C := RX2) (T := TX2) (N := 4) (pc := 9) hx hb hT inT2 hown hK.1 hP 1 rfl rfl 0 (by decide) (hT _ tw_21) (fun _ h9 => h9) rfl dX2_put_9 ?_
  refine lv_iload_n (pc := 12) hx hb dX2_put_12 rfl (lv_at hl 1 rfl) ?_
  refine lv_iload_n (pc := 13) hx hb dX2_put_13 rfl (lv_at hl 2 rfl) ?_
  refine z_iast (pc := 14) hx hb hK hP hD hS 6 (z.toNat) (f := st) (x := a) rfl (by omega) (by omega) (by omega) dX2_put_14 (fun H locs hP hD hS => ?_)
  replace hP : va_P D vwCl (wX ad cI cJ n (uZ st (z.toNat) (a)) hr ca pcs fr lv k ts th sp hv pr hc) H := hP
  replace hD : va_D (inW (wX ad cI cJ n st hr ca pcs fr lv k ts th sp hv pr hc)) (wX ad cI cJ n (uZ st (z.toNat) (a)) hr ca pcs fr lv k ts th sp hv pr hc) := hD
  refine lv_aload_n (pc := 15) hx hb dX2_put_15 rfl (lv_at hl 0 rfl) ?_
  refine va_get (D := D) (cl := vwCl) (ci := 2) (v := .ref (ad 7)) (C := RX2) (T := TX2) (N := 4) (pc := 16) hx hb hT inT2 hown hK.1 hP 1 rfl rfl 1 (by decide) (hT _ tw_23) (fun _ h9 => h9) rfl dX2_put_16 ?_
  refine lv_iload_n (pc := 19) hx hb dX2_put_19 rfl (lv_at hl 1 rfl) ?_
  refine lv_iload_n (pc := 20) hx hb dX2_put_20 rfl (lv_at hl 3 rfl) ?_
  refine z_iast (pc := 21) hx hb hK hP hD hS 7 (z.toNat) (f := hr) (x := b) rfl (by omega) (by omega) (by omega) dX2_put_21 (fun H locs hP hD hS => ?_)
  replace hP : va_P D vwCl (wX ad cI cJ n (uZ st (z.toNat) (a)) (uZ hr (z.toNat) (b)) ca pcs fr lv k ts th sp hv pr hc) H := hP
  replace hD : va_D (inW (wX ad cI cJ n st hr ca pcs fr lv k ts th sp hv pr hc)) (wX ad cI cJ n (uZ st (z.toNat) (a)) (uZ hr (z.toNat) (b)) ca pcs fr lv k ts th sp hv pr hc) := hD
  refine lv_aload_n (pc := 22) hx hb dX2_put_22 rfl (lv_at hl 0 rfl) ?_
  refine va_get (D := D) (cl := vwCl) (ci := 2) (v := .ref (ad 8)) (C := RX2) (T := TX2) (N := 4) (pc := 23) hx hb hT inT2 hown hK.1 hP 1 rfl rfl 2 (by decide) (hT _ tw_25) (fun _ h9 => h9) rfl dX2_put_23 ?_
  refine lv_iload_n (pc := 26) hx hb dX2_put_26 rfl (lv_at hl 1 rfl) ?_
  refine lv_iload (pc := 27) hx hb dX2_put_27 (lv_at hl 4 rfl) ?_
  refine z_iast (pc := 29) hx hb hK hP hD hS 8 (z.toNat) (f := ca) (x := d) rfl (by omega) (by omega) (by omega) dX2_put_29 (fun H locs hP hD hS => ?_)
  replace hP : va_P D vwCl (wX ad cI cJ n (uZ st (z.toNat) (a)) (uZ hr (z.toNat) (b)) (uZ ca (z.toNat) (d)) pcs fr lv k ts th sp hv pr hc) H := hP
  replace hD : va_D (inW (wX ad cI cJ n st hr ca pcs fr lv k ts th sp hv pr hc)) (wX ad cI cJ n (uZ st (z.toNat) (a)) (uZ hr (z.toNat) (b)) (uZ ca (z.toNat) (d)) pcs fr lv k ts th sp hv pr hc) := hD
  exact wv_ret hx hb hrt hlk dX2_put_30 hP hS (rfl)

set_option maxHeartbeats 4000000 in
set_option maxRecDepth 100000 in
theorem c_X3_unit (D : va_G) (cI cJ : ClassId) (l : Launch) (ad : Nat → Nat) (n : Int) (st hr ca : Nat → Int) (pcs : Int) (fr lv : Nat → Int) (k : Int) (ts th sp hv : Nat → Int) (pr hc : Int) (hU : VU n st hr ca) (a : Int) (r_a : -2147483648 ≤ a ∧ a ≤ 2147483647) (b : Int) (r_b : -2147483648 ≤ b ∧ b ≤ 2147483647) (d : Int) (r_d : -2147483648 ≤ d ∧ d ≤ 2147483647) : WR D cI cJ l yX3_unit cX3_unit 4 (some .int) 3 67 [.ref (ad 0), .int (zi (a)), .int (zi (b)), .int (zi (d))] (wX ad cI cJ n st hr ca pcs fr lv k ts th sp hv pr hc) (fun v' ws' => ∃ x : Int × Int × (Nat → Int) × (Nat → Int) × (Nat → Int), x = unitS n st hr ca a b d ∧ v' = .int (zi x.1) ∧ ws' = (wX ad cI cJ x.2.1 x.2.2.1 x.2.2.2.1 x.2.2.2.2 pcs fr lv k ts th sp hv pr hc)) := by
  refine WR.of (by decide) (Nat.le_of_ble_eq_true rfl) ?_
  intro p e s m args below meth c hx hb hrt hml hown hT hlk hK hP hD hS ls hl
  replace hl : lv_has ls 4 [(0, .ref (ad 0)), (1, .int (zi (a))), (2, .int (zi (b))), (3, .int (zi (d)))] := hl
  obtain ⟨hn, hst, hhr, hh1, hca⟩ := id hU
  refine lv_iload_n (pc := 0) hx hb dX3_unit_0 rfl (lv_at hl 1 rfl) ?_
  refine lv_iload_n (pc := 1) hx hb dX3_unit_1 rfl (lv_at hl 2 rfl) ?_
  refine lv_iload_n (pc := 2) hx hb dX3_unit_2 rfl (lv_at hl 3 rfl) ?_
  refine rd_S (pc := 3) hx hb hml hown hT hK (c_X3_isUnit D cI cJ l (a) (by omega) (b) (by omega) (d) (by omega)) ca_X3_isUnit tw_101 va_Pnil ⟨Nat.le_of_ble_eq_true rfl, Nat.le_of_ble_eq_true rfl⟩ rfl hl.1 (As := [.int (zi (a)), .int (zi (b)), .int (zi (d))]) (rest := []) rfl (Nat.le_of_ble_eq_true rfl) ⟨Nat.le_of_ble_eq_true rfl, Nat.le_of_ble_eq_true rfl⟩ dX3_unit_3 ?_
  refine z_ifB_ne (tgt := 13) (pc := 6) hx hb dX3_unit_6 (by decide) (fun c_1 => ?_) (fun c_1 => ?_)
  · refine lv_aload_n (pc := 13) hx hb dX3_unit_13 rfl (lv_at hl 0 rfl) ?_
    refine va_get (D := D) (cl := vwCl) (ci := 3) (v := .ref (ad 1)) (C := RX3) (T := TX3) (N := 7) (pc := 14) hx hb hT inT3 hown hK.1 hP 0 rfl rfl 0 (by decide) (hT _ tw_75) (fun _ h9 => h9) rfl dX3_unit_14 ?_
    refine va_get (D := D) (cl := vwCl) (ci := 2) (v := .int (zi (n))) (C := RX2) (T := TX2) (N := 4) (pc := 17) hx hb hT inT2 hown hK.1 hP 1 rfl rfl 3 (by decide) (hT _ tw_28) (fun _ h9 => h9) rfl dX3_unit_17 ?_
    refine z_bipush (pc := 20) hx hb dX3_unit_20 (by decide) ?_
    refine z_icmp_lt (tgt := 29) (pc := 22) hx hb dX3_unit_22 (by decide) (by omega) (by omega) (fun c_2 => ?_) (fun c_2 => ?_)
    · refine lv_aload_n (pc := 29) hx hb dX3_unit_29 rfl (lv_at hl 0 rfl) ?_
      refine va_get (D := D) (cl := vwCl) (ci := 3) (v := .ref (ad 1)) (C := RX3) (T := TX3) (N := 7) (pc := 30) hx hb hT inT3 hown hK.1 hP 0 rfl rfl 0 (by decide) (hT _ tw_75) (fun _ h9 => h9) rfl dX3_unit_30 ?_
      refine lv_dup (pc := 33) hx hb dX3_unit_33 rfl ?_
      refine va_get (D := D) (cl := vwCl) (ci := 2) (v := .int (zi (n))) (C := RX2) (T := TX2) (N := 4) (pc := 34) hx hb hT inT2 hown hK.1 hP 1 rfl rfl 3 (by decide) (hT _ tw_28) (fun _ h9 => h9) rfl dX3_unit_34 ?_
      refine z_iconst (pc := 37) hx hb dX3_unit_37 ?_
      refine z_iadd (pc := 38) hx hb dX3_unit_38 ?_
      refine va_put (D := D) (cl := vwCl) (ci := 2) (v := .int (zi ((n + 1)))) (ty := .int) (C := RX2) (T := TX2) (N := 4) (pc := 39) hx hb hT inT2 tyX2 tyX2_ok nmX2 hown hK.1 hP hD hS 1 rfl rfl 3 (by decide) (hT _ tw_28) (fun _ h9 => h9) rfl (by decide +kernel) rfl rfl (Nat.le_of_ble_eq_true rfl) dX3_unit_39 (fun H locs hP hD hS => ?_)
      replace hP : va_P D vwCl (wX ad cI cJ ((n + 1)) st hr ca pcs fr lv k ts th sp hv pr hc) H := hP
      replace hD : va_D (inW (wX ad cI cJ n st hr ca pcs fr lv k ts th sp hv pr hc)) (wX ad cI cJ ((n + 1)) st hr ca pcs fr lv k ts th sp hv pr hc) := hD
      refine lv_aload_n (pc := 42) hx hb dX3_unit_42 rfl (lv_at hl 0 rfl) ?_
      refine va_get (D := D) (cl := vwCl) (ci := 3) (v := .ref (ad 1)) (C := RX3) (T := TX3) (N := 7) (pc := 43) hx hb hT inT3 hown hK.1 hP 0 rfl rfl 0 (by decide) (hT _ tw_75) (fun _ h9 => h9) rfl dX3_unit_43 ?_
      refine lv_aload_n (pc := 46) hx hb dX3_unit_46 rfl (lv_at hl 0 rfl) ?_
      refine va_get (D := D) (cl := vwCl) (ci := 3) (v := .ref (ad 1)) (C := RX3) (T := TX3) (N := 7) (pc := 47) hx hb hT inT3 hown hK.1 hP 0 rfl rfl 0 (by decide) (hT _ tw_75) (fun _ h9 => h9) rfl dX3_unit_47 ?_
      refine va_get (D := D) (cl := vwCl) (ci := 2) (v := .int (zi ((n + 1)))) (C := RX2) (T := TX2) (N := 4) (pc := 50) hx hb hT inT2 hown hK.1 hP 1 rfl rfl 3 (by decide) (hT _ tw_28) (fun _ h9 => h9) rfl dX3_unit_50 ?_
      refine z_iconst (pc := 53) hx hb dX3_unit_53 ?_
      refine z_isub (pc := 54) hx hb dX3_unit_54 ?_
      refine lv_iload_n (pc := 55) hx hb dX3_unit_55 rfl (lv_at hl 1 rfl) ?_
      refine lv_iload_n (pc := 56) hx hb dX3_unit_56 rfl (lv_at hl 2 rfl) ?_
      refine lv_iload_n (pc := 57) hx hb dX3_unit_57 rfl (lv_at hl 3 rfl) ?_
      refine wv_V (pc := 58) hx hb hml hown hT hK (c_X2_put D cI cJ l ad ((n + 1)) st hr ca pcs fr lv k ts th sp hv pr hc (by omega) (((n + 1) - 1)) (by omega) (a) (by omega) (b) (by omega) (d) (by omega)) ca_X2_put tw_110 hP hD hS (fun q h => inW_same (by rfl) h) 1 2 rfl rfl rfl ⟨Nat.le_of_ble_eq_true rfl, Nat.le_of_ble_eq_true rfl⟩ rfl hl.1 (As := [.int (zi (((n + 1) - 1))), .int (zi (a)), .int (zi (b)), .int (zi (d))]) (rest := []) rfl (Nat.le_of_ble_eq_true rfl) ⟨Nat.le_of_ble_eq_true rfl, Nat.le_of_ble_eq_true rfl⟩ dX3_unit_58 (fun ws_ H locs hΦ hP hz_ hk_ hS => ?_)
      subst hΦ
      replace hP : va_P D vwCl (wX ad cI cJ ((n + 1)) (uZ st (((n + 1) - 1)).toNat (a)) (uZ hr (((n + 1) - 1)).toNat (b)) (uZ ca (((n + 1) - 1)).toNat (d)) pcs fr lv k ts th sp hv pr hc) H := hP
      replace hD : va_D (inW (wX ad cI cJ n st hr ca pcs fr lv k ts th sp hv pr hc)) (wX ad cI cJ ((n + 1)) (uZ st (((n + 1) - 1)).toNat (a)) (uZ hr (((n + 1) - 1)).toNat (b)) (uZ ca (((n + 1) - 1)).toNat (d)) pcs fr lv k ts th sp hv pr hc) := hD.same rfl
      refine lv_aload_n (pc := 61) hx hb dX3_unit_61 rfl (lv_at hl 0 rfl) ?_
      refine va_get (D := D) (cl := vwCl) (ci := 3) (v := .ref (ad 1)) (C := RX3) (T := TX3) (N := 7) (pc := 62) hx hb hT inT3 hown hK.1 hP 0 rfl rfl 0 (by decide) (hT _ tw_75) (fun _ h9 => h9) rfl dX3_unit_62 ?_
      refine va_get (D := D) (cl := vwCl) (ci := 2) (v := .int (zi ((n + 1)))) (C := RX2) (T := TX2) (N := 4) (pc := 65) hx hb hT inT2 hown hK.1 hP 1 rfl rfl 3 (by decide) (hT _ tw_28) (fun _ h9 => h9) rfl dX3_unit_65 ?_
      refine z_iconst (pc := 68) hx hb dX3_unit_68 ?_
      refine z_isub (pc := 69) hx hb dX3_unit_69 ?_
      exact wr_iret hx hb hrt hlk dX3_unit_70 hP hS (⟨(n, n + 1, uZ st n.toNat a, uZ hr n.toNat b, uZ ca n.toNat d), by rw [unitS, if_pos (by assumption), if_pos (by assumption)], by rw [show n + 1 - 1 = n by omega], by rw [show n + 1 - 1 = n by omega]⟩)
    · refine z_sipush (pc := 25) hx hb dX3_unit_25 (by decide) ?_
      exact wr_iret hx hb hrt hlk dX3_unit_28 hP hS (⟨(-1004, n, st, hr, ca), by rw [unitS, if_pos (by assumption), if_neg (by assumption)], rfl, rfl⟩)
  · refine z_sipush (pc := 9) hx hb dX3_unit_9 (by decide) ?_
    exact wr_iret hx hb hrt hlk dX3_unit_12 hP hS (⟨(-1002, n, st, hr, ca), by rw [unitS, if_neg (by assumption)], rfl, rfl⟩)

set_option maxHeartbeats 4000000 in
set_option maxRecDepth 100000 in
theorem c_X3_set (D : va_G) (cI cJ : ClassId) (l : Launch) (ad : Nat → Nat) (n : Int) (st hr ca : Nat → Int) (pcs : Int) (fr lv : Nat → Int) (k : Int) (ts th sp hv : Nat → Int) (pr hc : Int) (hU : VU n st hr ca) (z : Int) (r_z : -2147483648 ≤ z ∧ z ≤ 2147483647) (a : Int) (r_a : -2147483648 ≤ a ∧ a ≤ 2147483647) (b : Int) (r_b : -2147483648 ≤ b ∧ b ≤ 2147483647) (d : Int) (r_d : -2147483648 ≤ d ∧ d ≤ 2147483647) : WR D cI cJ l yX3_set cX3_set 5 (some .int) 3 67 [.ref (ad 0), .int (zi (z)), .int (zi (a)), .int (zi (b)), .int (zi (d))] (wX ad cI cJ n st hr ca pcs fr lv k ts th sp hv pr hc) (fun v' ws' => ∃ x : Int × (Nat → Int) × (Nat → Int) × (Nat → Int), x = setS n st hr ca z a b d ∧ v' = .int (zi x.1) ∧ ws' = (wX ad cI cJ n x.2.1 x.2.2.1 x.2.2.2 pcs fr lv k ts th sp hv pr hc)) := by
  refine WR.of (by decide) (Nat.le_of_ble_eq_true rfl) ?_
  intro p e s m args below meth c hx hb hrt hml hown hT hlk hK hP hD hS ls hl
  replace hl : lv_has ls 5 [(0, .ref (ad 0)), (1, .int (zi (z))), (2, .int (zi (a))), (3, .int (zi (b))), (4, .int (zi (d)))] := hl
  obtain ⟨hn, hst, hhr, hh1, hca⟩ := id hU
  refine lv_aload_n (pc := 0) hx hb dX3_set_0 rfl (lv_at hl 0 rfl) ?_
  refine va_get (D := D) (cl := vwCl) (ci := 3) (v := .ref (ad 1)) (C := RX3) (T := TX3) (N := 7) (pc := 1) hx hb hT inT3 hown hK.1 hP 0 rfl rfl 0 (by decide) (hT _ tw_75) (fun _ h9 => h9) rfl dX3_set_1 ?_
  refine lv_iload_n (pc := 4) hx hb dX3_set_4 rfl (lv_at hl 1 rfl) ?_
  refine rd_V (pc := 5) hx hb hml hown hT hK (c_X2_has D cI cJ l ad n st hr ca pcs fr lv k ts th sp hv pr hc (by omega) (z) (by omega)) ca_X2_has tw_123 hP 1 2 rfl rfl rfl ⟨Nat.le_of_ble_eq_true rfl, Nat.le_of_ble_eq_true rfl⟩ rfl hl.1 (As := [.int (zi (z))]) (rest := []) rfl (Nat.le_of_ble_eq_true rfl) ⟨Nat.le_of_ble_eq_true rfl, Nat.le_of_ble_eq_true rfl⟩ dX3_set_5 ?_
  refine z_ifB_ne (tgt := 15) (pc := 8) hx hb dX3_set_8 (by decide) (fun c_1 => ?_) (fun c_1 => ?_)
  · refine lv_iload_n (pc := 15) hx hb dX3_set_15 rfl (lv_at hl 2 rfl) ?_
    refine lv_iload_n (pc := 16) hx hb dX3_set_16 rfl (lv_at hl 3 rfl) ?_
    refine lv_iload (pc := 17) hx hb dX3_set_17 (lv_at hl 4 rfl) ?_
    refine rd_S (pc := 19) hx hb hml hown hT hK (c_X3_isUnit D cI cJ l (a) (by omega) (b) (by omega) (d) (by omega)) ca_X3_isUnit tw_101 va_Pnil ⟨Nat.le_of_ble_eq_true rfl, Nat.le_of_ble_eq_true rfl⟩ rfl hl.1 (As := [.int (zi (a)), .int (zi (b)), .int (zi (d))]) (rest := []) rfl (Nat.le_of_ble_eq_true rfl) ⟨Nat.le_of_ble_eq_true rfl, Nat.le_of_ble_eq_true rfl⟩ dX3_set_19 ?_
    refine z_ifB_ne (tgt := 29) (pc := 22) hx hb dX3_set_22 (by decide) (fun c_2 => ?_) (fun c_2 => ?_)
    · refine lv_aload_n (pc := 29) hx hb dX3_set_29 rfl (lv_at hl 0 rfl) ?_
      refine va_get (D := D) (cl := vwCl) (ci := 3) (v := .ref (ad 1)) (C := RX3) (T := TX3) (N := 7) (pc := 30) hx hb hT inT3 hown hK.1 hP 0 rfl rfl 0 (by decide) (hT _ tw_75) (fun _ h9 => h9) rfl dX3_set_30 ?_
      refine lv_iload_n (pc := 33) hx hb dX3_set_33 rfl (lv_at hl 1 rfl) ?_
      refine lv_iload_n (pc := 34) hx hb dX3_set_34 rfl (lv_at hl 2 rfl) ?_
      refine lv_iload_n (pc := 35) hx hb dX3_set_35 rfl (lv_at hl 3 rfl) ?_
      refine lv_iload (pc := 36) hx hb dX3_set_36 (lv_at hl 4 rfl) ?_
      refine wv_V (pc := 38) hx hb hml hown hT hK (c_X2_put D cI cJ l ad n st hr ca pcs fr lv k ts th sp hv pr hc (by omega) (z) (by omega) (a) (by omega) (b) (by omega) (d) (by omega)) ca_X2_put tw_110 hP hD hS (fun q h => inW_same (by rfl) h) 1 2 rfl rfl rfl ⟨Nat.le_of_ble_eq_true rfl, Nat.le_of_ble_eq_true rfl⟩ rfl hl.1 (As := [.int (zi (z)), .int (zi (a)), .int (zi (b)), .int (zi (d))]) (rest := []) rfl (Nat.le_of_ble_eq_true rfl) ⟨Nat.le_of_ble_eq_true rfl, Nat.le_of_ble_eq_true rfl⟩ dX3_set_38 (fun ws_ H locs hΦ hP hz_ hk_ hS => ?_)
      subst hΦ
      replace hP : va_P D vwCl (wX ad cI cJ n (uZ st (z).toNat (a)) (uZ hr (z).toNat (b)) (uZ ca (z).toNat (d)) pcs fr lv k ts th sp hv pr hc) H := hP
      replace hD : va_D (inW (wX ad cI cJ n st hr ca pcs fr lv k ts th sp hv pr hc)) (wX ad cI cJ n (uZ st (z).toNat (a)) (uZ hr (z).toNat (b)) (uZ ca (z).toNat (d)) pcs fr lv k ts th sp hv pr hc) := hD.same rfl
      refine z_iconst (pc := 41) hx hb dX3_set_41 ?_
      exact wr_iret hx hb hrt hlk dX3_set_42 hP hS (⟨(1, uZ st z.toNat a, uZ hr z.toNat b, uZ ca z.toNat d), by rw [setS, if_pos (by assumption), if_pos (by assumption)], rfl, rfl⟩)
    · refine z_sipush (pc := 25) hx hb dX3_set_25 (by decide) ?_
      exact wr_iret hx hb hrt hlk dX3_set_28 hP hS (⟨(-1002, st, hr, ca), by rw [setS, if_pos (by assumption), if_neg (by assumption)], rfl, rfl⟩)
  · refine z_sipush (pc := 11) hx hb dX3_set_11 (by decide) ?_
    exact wr_iret hx hb hrt hlk dX3_set_14 hP hS (⟨(-1001, st, hr, ca), by rw [setS, if_neg (by assumption)], rfl, rfl⟩)

set_option maxHeartbeats 4000000 in
set_option maxRecDepth 100000 in
theorem c_X3_drop (D : va_G) (cI cJ : ClassId) (l : Launch) (ad : Nat → Nat) (n : Int) (st hr ca : Nat → Int) (pcs : Int) (fr lv : Nat → Int) (k : Int) (ts th sp hv : Nat → Int) (pr hc : Int) (hU : VU n st hr ca) : WR D cI cJ l yX3_drop cX3_drop 1 (some .int) 0 0 [.ref (ad 0)] (wX ad cI cJ n st hr ca pcs fr lv k ts th sp hv pr hc) (fun v' ws' => ∃ x : Int × Int, x = dropS n ∧ v' = .int (zi x.1) ∧ ws' = (wX ad cI cJ x.2 st hr ca pcs fr lv k ts th sp hv pr hc)) := by
  refine WR.of (by decide) (Nat.le_of_ble_eq_true rfl) ?_
  intro p e s m args below meth c hx hb hrt hml hown hT hlk hK hP hD hS ls hl
  replace hl : lv_has ls 1 [(0, .ref (ad 0))] := hl
  obtain ⟨hn, hst, hhr, hh1, hca⟩ := id hU
  refine lv_aload_n (pc := 0) hx hb dX3_drop_0 rfl (lv_at hl 0 rfl) ?_
  refine va_get (D := D) (cl := vwCl) (ci := 3) (v := .ref (ad 1)) (C := RX3) (T := TX3) (N := 7) (pc := 1) hx hb hT inT3 hown hK.1 hP 0 rfl rfl 0 (by decide) (hT _ tw_75) (fun _ h9 => h9) rfl dX3_drop_1 ?_
  refine va_get (D := D) (cl := vwCl) (ci := 2) (v := .int (zi (n))) (C := RX2) (T := TX2) (N := 4) (pc := 4) hx hb hT inT2 hown hK.1 hP 1 rfl rfl 3 (by decide) (hT _ tw_28) (fun _ h9 => h9) rfl dX3_drop_4 ?_
  refine z_if_ne (tgt := 14) (pc := 7) hx hb dX3_drop_7 (by decide) (by omega) (fun c_1 => ?_) (fun c_1 => ?_)
  · refine lv_aload_n (pc := 14) hx hb dX3_drop_14 rfl (lv_at hl 0 rfl) ?_
    refine va_get (D := D) (cl := vwCl) (ci := 3) (v := .ref (ad 1)) (C := RX3) (T := TX3) (N := 7) (pc := 15) hx hb hT inT3 hown hK.1 hP 0 rfl rfl 0 (by decide) (hT _ tw_75) (fun _ h9 => h9) rfl dX3_drop_15 ?_
    refine lv_dup (pc := 18) hx hb dX3_drop_18 rfl ?_
    refine va_get (D := D) (cl := vwCl) (ci := 2) (v := .int (zi (n))) (C := RX2) (T := TX2) (N := 4) (pc := 19) hx hb hT inT2 hown hK.1 hP 1 rfl rfl 3 (by decide) (hT _ tw_28) (fun _ h9 => h9) rfl dX3_drop_19 ?_
    refine z_iconst (pc := 22) hx hb dX3_drop_22 ?_
    refine z_isub (pc := 23) hx hb dX3_drop_23 ?_
    refine va_put (D := D) (cl := vwCl) (ci := 2) (v := .int (zi ((n - 1)))) (ty := .int) (C := RX2) (T := TX2) (N := 4) (pc := 24) hx hb hT inT2 tyX2 tyX2_ok nmX2 hown hK.1 hP hD hS 1 rfl rfl 3 (by decide) (hT _ tw_28) (fun _ h9 => h9) rfl (by decide +kernel) rfl rfl (Nat.le_of_ble_eq_true rfl) dX3_drop_24 (fun H locs hP hD hS => ?_)
    replace hP : va_P D vwCl (wX ad cI cJ ((n - 1)) st hr ca pcs fr lv k ts th sp hv pr hc) H := hP
    replace hD : va_D (inW (wX ad cI cJ n st hr ca pcs fr lv k ts th sp hv pr hc)) (wX ad cI cJ ((n - 1)) st hr ca pcs fr lv k ts th sp hv pr hc) := hD
    refine lv_aload_n (pc := 27) hx hb dX3_drop_27 rfl (lv_at hl 0 rfl) ?_
    refine va_get (D := D) (cl := vwCl) (ci := 3) (v := .ref (ad 1)) (C := RX3) (T := TX3) (N := 7) (pc := 28) hx hb hT inT3 hown hK.1 hP 0 rfl rfl 0 (by decide) (hT _ tw_75) (fun _ h9 => h9) rfl dX3_drop_28 ?_
    refine va_get (D := D) (cl := vwCl) (ci := 2) (v := .int (zi ((n - 1)))) (C := RX2) (T := TX2) (N := 4) (pc := 31) hx hb hT inT2 hown hK.1 hP 1 rfl rfl 3 (by decide) (hT _ tw_28) (fun _ h9 => h9) rfl dX3_drop_31 ?_
    exact wr_iret hx hb hrt hlk dX3_drop_34 hP hS (⟨(n - 1, n - 1), by rw [dropS, if_neg (by assumption)], rfl, rfl⟩)
  · refine z_sipush (pc := 10) hx hb dX3_drop_10 (by decide) ?_
    exact wr_iret hx hb hrt hlk dX3_drop_13 hP hS (⟨(-1003, n), by rw [dropS, if_pos (by assumption)], rfl, rfl⟩)
end
section
theorem mul_rng {a b A B : Int} (ha : 0 ≤ a ∧ a ≤ A) (hb : 0 ≤ b ∧ b ≤ B) : 0 ≤ a * b ∧ a * b ≤ A * B := ⟨Int.mul_nonneg ha.1 hb.1, Int.mul_le_mul ha.2 hb.2 hb.1 (by omega)⟩
def useZ (st hr sp : Nat → Int) (u : Nat) : Int := hr u * sp (st u).toNat / 10
def shareZ (st hr ca sp : Nat → Int) (w : Int) (u : Nat) : Int :=
  if w = 0 then 1 else if w = 1 then (if ca u = -1 then 0 else 1) else if w = 2 then (if ca u = -1 then 1 else 0) else if w = 6 then hr u else if w = 7 then useZ st hr sp u else (if ca u = w - 3 then 1 else 0)
def cCt (st hr ca sp : Nat → Int) (S w : Int) : Nat → Int
  | 0 => 0
  | u + 1 => cCt st hr ca sp S w u + (if bitS S (st u) then shareZ st hr ca sp w u else 0)
def toldZ (n : Int) (st hr ca sp : Nat → Int) (z w : Int) : Int :=
  if 0 ≤ z ∧ z ≤ n - 1 then (if w = 0 then st z.toNat else if w = 1 then hr z.toNat else if w = 2 then ca z.toNat else if w = 3 then useZ st hr sp z.toNat else -1002) else -1001
def countZ (n : Int) (st hr ca sp : Nat → Int) (S w : Int) : Int :=
  if (0 ≤ S ∧ S ≤ 15) ∧ (0 ≤ w ∧ w ≤ 7) then cCt st hr ca sp S w n.toNat else -1002
def riskZ (n : Int) (st hr : Nat → Int) (S t : Int) : Int :=
  if (0 ≤ S ∧ S ≤ 15) ∧ (0 ≤ t ∧ t ≤ 500) then cRk st hr S t n.toNat else -1002

set_option maxHeartbeats 4000000 in
set_option maxRecDepth 100000 in
theorem c_X3_useHour (D : va_G) (cI cJ : ClassId) (l : Launch) (ad : Nat → Nat) (n : Int) (st hr ca : Nat → Int) (pcs : Int) (fr lv : Nat → Int) (k : Int) (ts th sp hv : Nat → Int) (pr hc : Int) (hU : VU n st hr ca) (hsp : ∀ j : Nat, j < 4 → 1 ≤ sp j ∧ sp j ≤ 1000) (z : Int) (u : Nat) (hz : z = (u : Int)) (hu : u < 12) : RD D cI cJ l yX3_useHour cX3_useHour 2 (some .int) 0 0 [.ref (ad 0), .int (zi (z))] (wX ad cI cJ n st hr ca pcs fr lv k ts th sp hv pr hc) (.int (zi (useZ st hr sp u))) := by
  subst hz
  refine RD.of (by decide) (Nat.le_of_ble_eq_true rfl) ?_
  intro p e s m args below meth c hx hb hrt hml hown hT hlk hK hP ls hl
  replace hl : lv_has ls 2 [(0, .ref (ad 0)), (1, .int (zi ((u : Int))))] := hl
  obtain ⟨hn, hst, hhr, hh1, hca⟩ := id hU
  refine lv_aload_n (pc := 0) hx hb dX3_useHour_0 rfl (lv_at hl 0 rfl) ?_
  refine va_get (D := D) (cl := vwCl) (ci := 3) (v := .ref (ad 1)) (C := RX3) (T := TX3) (N := 7) (pc := 1) hx hb hT inT3 hown hK.1 hP 0 rfl rfl 0 (by decide) (hT _ tw_75) (fun _ h9 => h9) rfl dX3_useHour_1 ?_
  refine va_get (D := D) (cl := vwCl) (ci := 2) (v := .ref (ad 7)) (C := RX2) (T := TX2) (N := 4) (pc := 4) hx hb hT inT2 hown hK.1 hP 1 rfl rfl 1 (by decide) (hT _ tw_24) (fun _ h9 => h9) rfl dX3_useHour_4 ?_
  refine lv_iload_n (pc := 7) hx hb dX3_useHour_7 rfl (lv_at hl 1 rfl) ?_
  refine z_iald (pc := 8) hx hb hK hP 7 (u) (f := hr) rfl (by omega) (by omega) (by omega) dX3_useHour_8 ?_
  have r_1 := hhr (u)
  refine lv_aload_n (pc := 9) hx hb dX3_useHour_9 rfl (lv_at hl 0 rfl) ?_
  refine va_get (D := D) (cl := vwCl) (ci := 3) (v := .ref (ad 4)) (C := RX3) (T := TX3) (N := 7) (pc := 10) hx hb hT inT3 hown hK.1 hP 0 rfl rfl 3 (by decide) (hT _ tw_78) (fun _ h9 => h9) rfl dX3_useHour_10 ?_
  refine lv_aload_n (pc := 13) hx hb dX3_useHour_13 rfl (lv_at hl 0 rfl) ?_
  refine va_get (D := D) (cl := vwCl) (ci := 3) (v := .ref (ad 1)) (C := RX3) (T := TX3) (N := 7) (pc := 14) hx hb hT inT3 hown hK.1 hP 0 rfl rfl 0 (by decide) (hT _ tw_75) (fun _ h9 => h9) rfl dX3_useHour_14 ?_
  refine va_get (D := D) (cl := vwCl) (ci := 2) (v := .ref (ad 6)) (C := RX2) (T := TX2) (N := 4) (pc := 17) hx hb hT inT2 hown hK.1 hP 1 rfl rfl 0 (by decide) (hT _ tw_22) (fun _ h9 => h9) rfl dX3_useHour_17 ?_
  refine lv_iload_n (pc := 20) hx hb dX3_useHour_20 rfl (lv_at hl 1 rfl) ?_
  refine z_iald (pc := 21) hx hb hK hP 6 (u) (f := st) rfl (by omega) (by omega) (by omega) dX3_useHour_21 ?_
  have r_2 := hst (u)
  refine z_iald (pc := 22) hx hb hK hP 4 (((st (u))).toNat) (f := sp) rfl (by omega) (by omega) (by omega) dX3_useHour_22 ?_
  have r_3 := hsp (((st (u))).toNat) (by omega)
  refine z_imul (pc := 23) hx hb dX3_useHour_23 ?_
  refine z_bipush (pc := 24) hx hb dX3_useHour_24 (by decide) ?_
  refine z_idiv (pc := 26) hx hb (by have h := mul_rng (a := hr u) (b := sp (st u).toNat) (A := 500) (B := 1000) (by omega) (by omega); omega) dX3_useHour_26 ?_
  exact rd_iret hx hb hrt hlk dX3_useHour_27 (rfl)

set_option maxHeartbeats 4000000 in
set_option maxRecDepth 100000 in
theorem c_X3_shareInCount (D : va_G) (cI cJ : ClassId) (l : Launch) (ad : Nat → Nat) (n : Int) (st hr ca : Nat → Int) (pcs : Int) (fr lv : Nat → Int) (k : Int) (ts th sp hv : Nat → Int) (pr hc : Int) (hU : VU n st hr ca) (hsp : ∀ j : Nat, j < 4 → 1 ≤ sp j ∧ sp j ≤ 1000) (z : Int) (u : Nat) (hz : z = (u : Int)) (hu : u < 12) (w : Int) (r_w : 0 ≤ w ∧ w ≤ 7) : RD D cI cJ l yX3_shareInCount cX3_shareInCount 4 (some .int) 1 21 [.ref (ad 0), .int (zi (z)), .int (zi (w))] (wX ad cI cJ n st hr ca pcs fr lv k ts th sp hv pr hc) (.int (zi (shareZ st hr ca sp w u))) := by
  subst hz
  refine RD.of (by decide) (Nat.le_of_ble_eq_true rfl) ?_
  intro p e s m args below meth c hx hb hrt hml hown hT hlk hK hP ls hl
  replace hl : lv_has ls 4 [(0, .ref (ad 0)), (1, .int (zi ((u : Int)))), (2, .int (zi (w)))] := hl
  obtain ⟨hn, hst, hhr, hh1, hca⟩ := id hU
  refine lv_aload_n (pc := 0) hx hb dX3_shareInCount_0 rfl (lv_at hl 0 rfl) ?_
  refine va_get (D := D) (cl := vwCl) (ci := 3) (v := .ref (ad 1)) (C := RX3) (T := TX3) (N := 7) (pc := 1) hx hb hT inT3 hown hK.1 hP 0 rfl rfl 0 (by decide) (hT _ tw_75) (fun _ h9 => h9) rfl dX3_shareInCount_1 ?_
  refine va_get (D := D) (cl := vwCl) (ci := 2) (v := .ref (ad 8)) (C := RX2) (T := TX2) (N := 4) (pc := 4) hx hb hT inT2 hown hK.1 hP 1 rfl rfl 2 (by decide) (hT _ tw_26) (fun _ h9 => h9) rfl dX3_shareInCount_4 ?_
  refine lv_iload_n (pc := 7) hx hb dX3_shareInCount_7 rfl (lv_at hl 1 rfl) ?_
  refine z_iald (pc := 8) hx hb hK hP 8 (u) (f := ca) rfl (by omega) (by omega) (by omega) dX3_shareInCount_8 ?_
  have r_1 := hca (u)
  refine lv_istore_n (lv' := [(3, .int (zi ((ca (u))))), (0, .ref (ad 0)), (1, .int (zi ((u : Int)))), (2, .int (zi (w)))]) (pc := 9) hx hb dX3_shareInCount_9 rfl hl (by decide) rfl (fun ls hl => ?_)
  refine lv_iload_n (pc := 10) hx hb dX3_shareInCount_10 rfl (lv_at hl 3 rfl) ?_
  rcases (show (w < 0 ∨ 7 < w) ∨ w = 0 ∨ w = 1 ∨ w = 2 ∨ w = 3 ∨ w = 4 ∨ w = 5 ∨ w = 6 ∨ w = 7 by omega) with q_2 | q_2 | q_2 | q_2 | q_2 | q_2 | q_2 | q_2 | q_2
  · exact absurd q_2 (by omega)
  · refine z_tabIn (tgt := 56) (pc := 11) hx hb (0) dX3_shareInCount_11 q_2 (by decide) (by decide) (by decide) rfl (by decide) ?_
    refine z_iconst (pc := 56) hx hb dX3_shareInCount_56 ?_
    exact rd_iret hx hb hrt hlk dX3_shareInCount_57 (by unfold shareZ; repeat (first | rw [if_pos (by omega)] | rw [if_neg (by omega)]))
  · refine z_tabIn (tgt := 58) (pc := 11) hx hb (1) dX3_shareInCount_11 q_2 (by decide) (by decide) (by decide) rfl (by decide) ?_
    refine lv_iload_n (pc := 58) hx hb dX3_shareInCount_58 rfl (lv_at hl 0 rfl) ?_
    refine z_iconst (pc := 59) hx hb dX3_shareInCount_59 ?_
    refine z_icmp_eq (tgt := 67) (pc := 60) hx hb dX3_shareInCount_60 (by decide) (by omega) (by omega) (fun c_3 => ?_) (fun c_3 => ?_)
    · refine z_iconst (pc := 67) hx hb dX3_shareInCount_67 ?_
      exact rd_iret hx hb hrt hlk dX3_shareInCount_68 (by unfold shareZ; repeat (first | rw [if_pos (by omega)] | rw [if_neg (by omega)]))
    · refine z_iconst (pc := 63) hx hb dX3_shareInCount_63 ?_
      refine lv_goto (tgt := 68) (pc := 64) hx hb dX3_shareInCount_64 (by decide) ?_
      exact rd_iret hx hb hrt hlk dX3_shareInCount_68 (by unfold shareZ; repeat (first | rw [if_pos (by omega)] | rw [if_neg (by omega)]))
  · refine z_tabIn (tgt := 69) (pc := 11) hx hb (2) dX3_shareInCount_11 q_2 (by decide) (by decide) (by decide) rfl (by decide) ?_
    refine lv_iload_n (pc := 69) hx hb dX3_shareInCount_69 rfl (lv_at hl 0 rfl) ?_
    refine z_iconst (pc := 70) hx hb dX3_shareInCount_70 ?_
    refine z_icmp_ne (tgt := 78) (pc := 71) hx hb dX3_shareInCount_71 (by decide) (by omega) (by omega) (fun c_4 => ?_) (fun c_4 => ?_)
    · refine z_iconst (pc := 78) hx hb dX3_shareInCount_78 ?_
      exact rd_iret hx hb hrt hlk dX3_shareInCount_79 (by unfold shareZ; repeat (first | rw [if_pos (by omega)] | rw [if_neg (by omega)]))
    · refine z_iconst (pc := 74) hx hb dX3_shareInCount_74 ?_
      refine lv_goto (tgt := 79) (pc := 75) hx hb dX3_shareInCount_75 (by decide) ?_
      exact rd_iret hx hb hrt hlk dX3_shareInCount_79 (by unfold shareZ; repeat (first | rw [if_pos (by omega)] | rw [if_neg (by omega)]))
  · refine z_tabIn (tgt := 96) (pc := 11) hx hb (3) dX3_shareInCount_11 q_2 (by decide) (by decide) (by decide) rfl (by decide) ?_
    refine lv_iload_n (pc := 96) hx hb dX3_shareInCount_96 rfl (lv_at hl 0 rfl) ?_
    refine lv_iload_n (pc := 97) hx hb dX3_shareInCount_97 rfl (lv_at hl 3 rfl) ?_
    refine z_iconst (pc := 98) hx hb dX3_shareInCount_98 ?_
    refine z_isub (pc := 99) hx hb dX3_shareInCount_99 ?_
    refine z_icmp_ne (tgt := 107) (pc := 100) hx hb dX3_shareInCount_100 (by decide) (by omega) (by omega) (fun c_5 => ?_) (fun c_5 => ?_)
    · refine z_iconst (pc := 107) hx hb dX3_shareInCount_107 ?_
      exact rd_iret hx hb hrt hlk dX3_shareInCount_108 (by unfold shareZ; repeat (first | rw [if_pos (by omega)] | rw [if_neg (by omega)]))
    · refine z_iconst (pc := 103) hx hb dX3_shareInCount_103 ?_
      refine lv_goto (tgt := 108) (pc := 104) hx hb dX3_shareInCount_104 (by decide) ?_
      exact rd_iret hx hb hrt hlk dX3_shareInCount_108 (by unfold shareZ; repeat (first | rw [if_pos (by omega)] | rw [if_neg (by omega)]))
  · refine z_tabIn (tgt := 96) (pc := 11) hx hb (4) dX3_shareInCount_11 q_2 (by decide) (by decide) (by decide) rfl (by decide) ?_
    refine lv_iload_n (pc := 96) hx hb dX3_shareInCount_96 rfl (lv_at hl 0 rfl) ?_
    refine lv_iload_n (pc := 97) hx hb dX3_shareInCount_97 rfl (lv_at hl 3 rfl) ?_
    refine z_iconst (pc := 98) hx hb dX3_shareInCount_98 ?_
    refine z_isub (pc := 99) hx hb dX3_shareInCount_99 ?_
    refine z_icmp_ne (tgt := 107) (pc := 100) hx hb dX3_shareInCount_100 (by decide) (by omega) (by omega) (fun c_6 => ?_) (fun c_6 => ?_)
    · refine z_iconst (pc := 107) hx hb dX3_shareInCount_107 ?_
      exact rd_iret hx hb hrt hlk dX3_shareInCount_108 (by unfold shareZ; repeat (first | rw [if_pos (by omega)] | rw [if_neg (by omega)]))
    · refine z_iconst (pc := 103) hx hb dX3_shareInCount_103 ?_
      refine lv_goto (tgt := 108) (pc := 104) hx hb dX3_shareInCount_104 (by decide) ?_
      exact rd_iret hx hb hrt hlk dX3_shareInCount_108 (by unfold shareZ; repeat (first | rw [if_pos (by omega)] | rw [if_neg (by omega)]))
  · refine z_tabIn (tgt := 96) (pc := 11) hx hb (5) dX3_shareInCount_11 q_2 (by decide) (by decide) (by decide) rfl (by decide) ?_
    refine lv_iload_n (pc := 96) hx hb dX3_shareInCount_96 rfl (lv_at hl 0 rfl) ?_
    refine lv_iload_n (pc := 97) hx hb dX3_shareInCount_97 rfl (lv_at hl 3 rfl) ?_
    refine z_iconst (pc := 98) hx hb dX3_shareInCount_98 ?_
    refine z_isub (pc := 99) hx hb dX3_shareInCount_99 ?_
    refine z_icmp_ne (tgt := 107) (pc := 100) hx hb dX3_shareInCount_100 (by decide) (by omega) (by omega) (fun c_7 => ?_) (fun c_7 => ?_)
    · refine z_iconst (pc := 107) hx hb dX3_shareInCount_107 ?_
      exact rd_iret hx hb hrt hlk dX3_shareInCount_108 (by unfold shareZ; repeat (first | rw [if_pos (by omega)] | rw [if_neg (by omega)]))
    · refine z_iconst (pc := 103) hx hb dX3_shareInCount_103 ?_
      refine lv_goto (tgt := 108) (pc := 104) hx hb dX3_shareInCount_104 (by decide) ?_
      exact rd_iret hx hb hrt hlk dX3_shareInCount_108 (by unfold shareZ; repeat (first | rw [if_pos (by omega)] | rw [if_neg (by omega)]))
  · refine z_tabIn (tgt := 80) (pc := 11) hx hb (6) dX3_shareInCount_11 q_2 (by decide) (by decide) (by decide) rfl (by decide) ?_
    refine lv_aload_n (pc := 80) hx hb dX3_shareInCount_80 rfl (lv_at hl 1 rfl) ?_
    refine va_get (D := D) (cl := vwCl) (ci := 3) (v := .ref (ad 1)) (C := RX3) (T := TX3) (N := 7) (pc := 81) hx hb hT inT3 hown hK.1 hP 0 rfl rfl 0 (by decide) (hT _ tw_75) (fun _ h9 => h9) rfl dX3_shareInCount_81 ?_
    refine va_get (D := D) (cl := vwCl) (ci := 2) (v := .ref (ad 7)) (C := RX2) (T := TX2) (N := 4) (pc := 84) hx hb hT inT2 hown hK.1 hP 1 rfl rfl 1 (by decide) (hT _ tw_24) (fun _ h9 => h9) rfl dX3_shareInCount_84 ?_
    refine lv_iload_n (pc := 87) hx hb dX3_shareInCount_87 rfl (lv_at hl 2 rfl) ?_
    refine z_iald (pc := 88) hx hb hK hP 7 (u) (f := hr) rfl (by omega) (by omega) (by omega) dX3_shareInCount_88 ?_
    have r_8 := hhr (u)
    exact rd_iret hx hb hrt hlk dX3_shareInCount_89 (by unfold shareZ; repeat (first | rw [if_pos (by omega)] | rw [if_neg (by omega)]))
  · refine z_tabIn (tgt := 90) (pc := 11) hx hb (7) dX3_shareInCount_11 q_2 (by decide) (by decide) (by decide) rfl (by decide) ?_
    refine lv_aload_n (pc := 90) hx hb dX3_shareInCount_90 rfl (lv_at hl 1 rfl) ?_
    refine lv_iload_n (pc := 91) hx hb dX3_shareInCount_91 rfl (lv_at hl 2 rfl) ?_
    refine rd_V (pc := 92) hx hb hml hown hT hK (c_X3_useHour D cI cJ l ad n st hr ca pcs fr lv k ts th sp hv pr hc hU hsp ((u : Int)) (u) (by omega) (by omega)) ca_X3_useHour tw_132 hP 0 3 rfl rfl rfl ⟨Nat.le_of_ble_eq_true rfl, Nat.le_of_ble_eq_true rfl⟩ rfl hl.1 (As := [.int (zi ((u : Int)))]) (rest := []) rfl (Nat.le_of_ble_eq_true rfl) ⟨Nat.le_of_ble_eq_true rfl, Nat.le_of_ble_eq_true rfl⟩ dX3_shareInCount_92 ?_
    exact rd_iret hx hb hrt hlk dX3_shareInCount_95 (by unfold shareZ; repeat (first | rw [if_pos (by omega)] | rw [if_neg (by omega)]))

set_option maxHeartbeats 4000000 in
set_option maxRecDepth 100000 in
theorem c_X3_told (D : va_G) (cI cJ : ClassId) (l : Launch) (ad : Nat → Nat) (n : Int) (st hr ca : Nat → Int) (pcs : Int) (fr lv : Nat → Int) (k : Int) (ts th sp hv : Nat → Int) (pr hc : Int) (hU : VU n st hr ca) (hsp : ∀ j : Nat, j < 4 → 1 ≤ sp j ∧ sp j ≤ 1000) (z : Int) (r_z : -2147483648 ≤ z ∧ z ≤ 2147483647) (w : Int) (r_w : -2147483648 ≤ w ∧ w ≤ 2147483647) : RD D cI cJ l yX3_told cX3_told 3 (some .int) 2 43 [.ref (ad 0), .int (zi (z)), .int (zi (w))] (wX ad cI cJ n st hr ca pcs fr lv k ts th sp hv pr hc) (.int (zi (toldZ n st hr ca sp z w))) := by
  refine RD.of (by decide) (Nat.le_of_ble_eq_true rfl) ?_
  intro p e s m args below meth c hx hb hrt hml hown hT hlk hK hP ls hl
  replace hl : lv_has ls 3 [(0, .ref (ad 0)), (1, .int (zi (z))), (2, .int (zi (w)))] := hl
  obtain ⟨hn, hst, hhr, hh1, hca⟩ := id hU
  refine lv_aload_n (pc := 0) hx hb dX3_told_0 rfl (lv_at hl 0 rfl) ?_
  refine va_get (D := D) (cl := vwCl) (ci := 3) (v := .ref (ad 1)) (C := RX3) (T := TX3) (N := 7) (pc := 1) hx hb hT inT3 hown hK.1 hP 0 rfl rfl 0 (by decide) (hT _ tw_75) (fun _ h9 => h9) rfl dX3_told_1 ?_
  refine lv_iload_n (pc := 4) hx hb dX3_told_4 rfl (lv_at hl 1 rfl) ?_
  refine rd_V (pc := 5) hx hb hml hown hT hK (c_X2_has D cI cJ l ad n st hr ca pcs fr lv k ts th sp hv pr hc (by omega) (z) (by omega)) ca_X2_has tw_123 hP 1 2 rfl rfl rfl ⟨Nat.le_of_ble_eq_true rfl, Nat.le_of_ble_eq_true rfl⟩ rfl hl.1 (As := [.int (zi (z))]) (rest := []) rfl (Nat.le_of_ble_eq_true rfl) ⟨Nat.le_of_ble_eq_true rfl, Nat.le_of_ble_eq_true rfl⟩ dX3_told_5 ?_
  refine z_ifB_ne (tgt := 15) (pc := 8) hx hb dX3_told_8 (by decide) (fun c_1 => ?_) (fun c_1 => ?_)
  · refine lv_iload_n (pc := 15) hx hb dX3_told_15 rfl (lv_at hl 2 rfl) ?_
    rcases (show (w < 0 ∨ 3 < w) ∨ w = 0 ∨ w = 1 ∨ w = 2 ∨ w = 3 by omega) with q_2 | q_2 | q_2 | q_2 | q_2
    · refine z_tabOut (tgt := 84) (pc := 16) hx hb dX3_told_16 (by omega) q_2 (by decide) ?_
      refine z_sipush (pc := 84) hx hb dX3_told_84 (by decide) ?_
      exact rd_iret hx hb hrt hlk dX3_told_87 (by unfold toldZ; repeat (first | rw [if_pos (by omega)] | rw [if_neg (by omega)]))
    · refine z_tabIn (tgt := 48) (pc := 16) hx hb (0) dX3_told_16 q_2 (by decide) (by decide) (by decide) rfl (by decide) ?_
      refine lv_aload_n (pc := 48) hx hb dX3_told_48 rfl (lv_at hl 0 rfl) ?_
      refine va_get (D := D) (cl := vwCl) (ci := 3) (v := .ref (ad 1)) (C := RX3) (T := TX3) (N := 7) (pc := 49) hx hb hT inT3 hown hK.1 hP 0 rfl rfl 0 (by decide) (hT _ tw_75) (fun _ h9 => h9) rfl dX3_told_49 ?_
      refine va_get (D := D) (cl := vwCl) (ci := 2) (v := .ref (ad 6)) (C := RX2) (T := TX2) (N := 4) (pc := 52) hx hb hT inT2 hown hK.1 hP 1 rfl rfl 0 (by decide) (hT _ tw_22) (fun _ h9 => h9) rfl dX3_told_52 ?_
      refine lv_iload_n (pc := 55) hx hb dX3_told_55 rfl (lv_at hl 1 rfl) ?_
      refine z_iald (pc := 56) hx hb hK hP 6 (z.toNat) (f := st) rfl (by omega) (by omega) (by omega) dX3_told_56 ?_
      have r_3 := hst (z.toNat)
      exact rd_iret hx hb hrt hlk dX3_told_57 (by unfold toldZ; repeat (first | rw [if_pos (by omega)] | rw [if_neg (by omega)]))
    · refine z_tabIn (tgt := 58) (pc := 16) hx hb (1) dX3_told_16 q_2 (by decide) (by decide) (by decide) rfl (by decide) ?_
      refine lv_aload_n (pc := 58) hx hb dX3_told_58 rfl (lv_at hl 0 rfl) ?_
      refine va_get (D := D) (cl := vwCl) (ci := 3) (v := .ref (ad 1)) (C := RX3) (T := TX3) (N := 7) (pc := 59) hx hb hT inT3 hown hK.1 hP 0 rfl rfl 0 (by decide) (hT _ tw_75) (fun _ h9 => h9) rfl dX3_told_59 ?_
      refine va_get (D := D) (cl := vwCl) (ci := 2) (v := .ref (ad 7)) (C := RX2) (T := TX2) (N := 4) (pc := 62) hx hb hT inT2 hown hK.1 hP 1 rfl rfl 1 (by decide) (hT _ tw_24) (fun _ h9 => h9) rfl dX3_told_62 ?_
      refine lv_iload_n (pc := 65) hx hb dX3_told_65 rfl (lv_at hl 1 rfl) ?_
      refine z_iald (pc := 66) hx hb hK hP 7 (z.toNat) (f := hr) rfl (by omega) (by omega) (by omega) dX3_told_66 ?_
      have r_4 := hhr (z.toNat)
      exact rd_iret hx hb hrt hlk dX3_told_67 (by unfold toldZ; repeat (first | rw [if_pos (by omega)] | rw [if_neg (by omega)]))
    · refine z_tabIn (tgt := 68) (pc := 16) hx hb (2) dX3_told_16 q_2 (by decide) (by decide) (by decide) rfl (by decide) ?_
      refine lv_aload_n (pc := 68) hx hb dX3_told_68 rfl (lv_at hl 0 rfl) ?_
      refine va_get (D := D) (cl := vwCl) (ci := 3) (v := .ref (ad 1)) (C := RX3) (T := TX3) (N := 7) (pc := 69) hx hb hT inT3 hown hK.1 hP 0 rfl rfl 0 (by decide) (hT _ tw_75) (fun _ h9 => h9) rfl dX3_told_69 ?_
      refine va_get (D := D) (cl := vwCl) (ci := 2) (v := .ref (ad 8)) (C := RX2) (T := TX2) (N := 4) (pc := 72) hx hb hT inT2 hown hK.1 hP 1 rfl rfl 2 (by decide) (hT _ tw_26) (fun _ h9 => h9) rfl dX3_told_72 ?_
      refine lv_iload_n (pc := 75) hx hb dX3_told_75 rfl (lv_at hl 1 rfl) ?_
      refine z_iald (pc := 76) hx hb hK hP 8 (z.toNat) (f := ca) rfl (by omega) (by omega) (by omega) dX3_told_76 ?_
      have r_5 := hca (z.toNat)
      exact rd_iret hx hb hrt hlk dX3_told_77 (by unfold toldZ; repeat (first | rw [if_pos (by omega)] | rw [if_neg (by omega)]))
    · refine z_tabIn (tgt := 78) (pc := 16) hx hb (3) dX3_told_16 q_2 (by decide) (by decide) (by decide) rfl (by decide) ?_
      refine lv_aload_n (pc := 78) hx hb dX3_told_78 rfl (lv_at hl 0 rfl) ?_
      refine lv_iload_n (pc := 79) hx hb dX3_told_79 rfl (lv_at hl 1 rfl) ?_
      refine rd_V (pc := 80) hx hb hml hown hT hK (c_X3_useHour D cI cJ l ad n st hr ca pcs fr lv k ts th sp hv pr hc hU hsp (z) (z.toNat) (by omega) (by omega)) ca_X3_useHour tw_132 hP 0 3 rfl rfl rfl ⟨Nat.le_of_ble_eq_true rfl, Nat.le_of_ble_eq_true rfl⟩ rfl hl.1 (As := [.int (zi (z))]) (rest := []) rfl (Nat.le_of_ble_eq_true rfl) ⟨Nat.le_of_ble_eq_true rfl, Nat.le_of_ble_eq_true rfl⟩ dX3_told_80 ?_
      exact rd_iret hx hb hrt hlk dX3_told_83 (by unfold toldZ; repeat (first | rw [if_pos (by omega)] | rw [if_neg (by omega)]))
  · refine z_sipush (pc := 11) hx hb dX3_told_11 (by decide) ?_
    exact rd_iret hx hb hrt hlk dX3_told_14 (by unfold toldZ; repeat (first | rw [if_pos (by omega)] | rw [if_neg (by omega)]))

set_option maxHeartbeats 4000000 in
set_option maxRecDepth 100000 in
theorem c_X3_count (D : va_G) (cI cJ : ClassId) (l : Launch) (ad : Nat → Nat) (n : Int) (st hr ca : Nat → Int) (pcs : Int) (fr lv : Nat → Int) (k : Int) (ts th sp hv : Nat → Int) (pr hc : Int) (hU : VU n st hr ca) (hsp : ∀ j : Nat, j < 4 → 1 ≤ sp j ∧ sp j ≤ 1000) (S : Int) (r_S : -2147483648 ≤ S ∧ S ≤ 2147483647) (w : Int) (r_w : -2147483648 ≤ w ∧ w ≤ 2147483647) : RD D cI cJ l yX3_count cX3_count 5 (some .int) 2 44 [.ref (ad 0), .int (zi (S)), .int (zi (w))] (wX ad cI cJ n st hr ca pcs fr lv k ts th sp hv pr hc) (.int (zi (countZ n st hr ca sp S w))) := by
  refine RD.of (by decide) (Nat.le_of_ble_eq_true rfl) ?_
  intro p e s m args below meth c hx hb hrt hml hown hT hlk hK hP ls hl
  replace hl : lv_has ls 5 [(0, .ref (ad 0)), (1, .int (zi (S))), (2, .int (zi (w)))] := hl
  obtain ⟨hn, hst, hhr, hh1, hca⟩ := id hU
  have loop : ∀ u : Nat, u ≤ n.toNat → ∀ (z1 z2 : Int), (z1 = cCt st hr ca sp S w u) → (z2 = (u : Int)) → ((0 ≤ S ∧ S ≤ 15) ∧ (0 ≤ w ∧ w ≤ 7)) → ∀ ls : Array Slot, lv_has ls 5 [(0, .ref (ad 0)), (1, .int (zi (S))), (2, .int (zi (w))), (3, .int (zi (z1))), (4, .int (zi (z2)))] → W p l e (RM 2 44) s m args below meth c s.heap [] 0 0 (MQ below (QR (.int (zi (countZ n st hr ca sp S w))) s.heap) args s 0 0 (fun _ => False)) (F0 m 26 ls []) := by
    refine lp_up (fun u => ∀ (z1 z2 : Int), (z1 = cCt st hr ca sp S w u) → (z2 = (u : Int)) → ((0 ≤ S ∧ S ≤ 15) ∧ (0 ≤ w ∧ w ≤ 7)) → ∀ ls : Array Slot, lv_has ls 5 [(0, .ref (ad 0)), (1, .int (zi (S))), (2, .int (zi (w))), (3, .int (zi (z1))), (4, .int (zi (z2)))] → W p l e (RM 2 44) s m args below meth c s.heap [] 0 0 (MQ below (QR (.int (zi (countZ n st hr ca sp S w))) s.heap) args s 0 0 (fun _ => False)) (F0 m 26 ls [])) (n.toNat) ?_ ?_
    · intro z1 z2 e1 e2 e3 ls hl
      refine lv_iload (pc := 26) hx hb dX3_count_26 (lv_at hl 4 rfl) ?_
      refine lv_aload_n (pc := 28) hx hb dX3_count_28 rfl (lv_at hl 0 rfl) ?_
      refine va_get (D := D) (cl := vwCl) (ci := 3) (v := .ref (ad 1)) (C := RX3) (T := TX3) (N := 7) (pc := 29) hx hb hT inT3 hown hK.1 hP 0 rfl rfl 0 (by decide) (hT _ tw_75) (fun _ h9 => h9) rfl dX3_count_29 ?_
      refine va_get (D := D) (cl := vwCl) (ci := 2) (v := .int (zi (n))) (C := RX2) (T := TX2) (N := 4) (pc := 32) hx hb hT inT2 hown hK.1 hP 1 rfl rfl 3 (by decide) (hT _ tw_28) (fun _ h9 => h9) rfl dX3_count_32 ?_
      refine z_icmp_ge (tgt := 67) (pc := 35) hx hb dX3_count_35 (by decide) (by omega) (by omega) (fun c_1 => ?_) (fun c_1 => absurd c_1 (by omega))
      refine lv_iload_n (pc := 67) hx hb dX3_count_67 rfl (lv_at hl 3 rfl) ?_
      exact rd_iret hx hb hrt hlk dX3_count_68 (by rw [countZ, if_pos e3, e1])
    · intro u hu ih z1 z2 e1 e2 e3 ls hl
      refine lv_iload (pc := 26) hx hb dX3_count_26 (lv_at hl 4 rfl) ?_
      refine lv_aload_n (pc := 28) hx hb dX3_count_28 rfl (lv_at hl 0 rfl) ?_
      refine va_get (D := D) (cl := vwCl) (ci := 3) (v := .ref (ad 1)) (C := RX3) (T := TX3) (N := 7) (pc := 29) hx hb hT inT3 hown hK.1 hP 0 rfl rfl 0 (by decide) (hT _ tw_75) (fun _ h9 => h9) rfl dX3_count_29 ?_
      refine va_get (D := D) (cl := vwCl) (ci := 2) (v := .int (zi (n))) (C := RX2) (T := TX2) (N := 4) (pc := 32) hx hb hT inT2 hown hK.1 hP 1 rfl rfl 3 (by decide) (hT _ tw_28) (fun _ h9 => h9) rfl dX3_count_32 ?_
      refine z_icmp_ge (tgt := 67) (pc := 35) hx hb dX3_count_35 (by decide) (by omega) (by omega) (fun c_2 => absurd c_2 (by omega)) (fun c_2 => ?_)
      refine lv_aload_n (pc := 38) hx hb dX3_count_38 rfl (lv_at hl 0 rfl) ?_
      refine va_get (D := D) (cl := vwCl) (ci := 3) (v := .ref (ad 1)) (C := RX3) (T := TX3) (N := 7) (pc := 39) hx hb hT inT3 hown hK.1 hP 0 rfl rfl 0 (by decide) (hT _ tw_75) (fun _ h9 => h9) rfl dX3_count_39 ?_
      refine lv_iload (pc := 42) hx hb dX3_count_42 (lv_at hl 4 rfl) ?_
      refine lv_iload_n (pc := 44) hx hb dX3_count_44 rfl (lv_at hl 1 rfl) ?_
      refine rd_V (pc := 45) hx hb hml hown hT hK (c_X2_isIn D cI cJ l ad n st hr ca pcs fr lv k ts th sp hv pr hc hU (z2) u (by omega) (by omega) (S) (by omega)) ca_X2_isIn tw_143 hP 1 2 rfl rfl rfl ⟨Nat.le_of_ble_eq_true rfl, Nat.le_of_ble_eq_true rfl⟩ rfl hl.1 (As := [.int (zi (z2)), .int (zi (S))]) (rest := []) rfl (Nat.le_of_ble_eq_true rfl) ⟨Nat.le_of_ble_eq_true rfl, Nat.le_of_ble_eq_true rfl⟩ dX3_count_45 ?_
      refine z_ifB_eq (tgt := 61) (pc := 48) hx hb dX3_count_48 (by decide) (fun c_3 => ?_) (fun c_3 => ?_)
      · refine lv_iinc (v := zi (z2 + 1)) (lv' := [(4, .int (zi ((z2 + 1)))), (0, .ref (ad 0)), (1, .int (zi (S))), (2, .int (zi (w))), (3, .int (zi (z1)))]) (pc := 61) hx hb dX3_count_61 hl (k := 4) rfl (zi_add _ _) (by decide) rfl (fun ls hl => ?_)
        refine lv_goto (tgt := 26) (pc := 64) hx hb dX3_count_64 (by decide) ?_
        exact ih  _ _ (by simp only [cCt]; rw [e1, if_neg (by assumption)]; omega) (by rw [e2]; rfl) (e3) ls (lv_sub hl [1, 2, 3, 4, 0] rfl)
      · refine lv_iload_n (pc := 51) hx hb dX3_count_51 rfl (lv_at hl 3 rfl) ?_
        refine lv_aload_n (pc := 52) hx hb dX3_count_52 rfl (lv_at hl 0 rfl) ?_
        refine lv_iload (pc := 53) hx hb dX3_count_53 (lv_at hl 4 rfl) ?_
        refine lv_iload_n (pc := 55) hx hb dX3_count_55 rfl (lv_at hl 2 rfl) ?_
        refine rd_V (pc := 56) hx hb hml hown hT hK (c_X3_shareInCount D cI cJ l ad n st hr ca pcs fr lv k ts th sp hv pr hc hU hsp (z2) (u) (by omega) (by omega) (w) (by omega)) ca_X3_shareInCount tw_147 hP 0 3 rfl rfl rfl ⟨Nat.le_of_ble_eq_true rfl, Nat.le_of_ble_eq_true rfl⟩ rfl hl.1 (As := [.int (zi (z2)), .int (zi (w))]) (rest := [.int (zi (z1))]) rfl (Nat.le_of_ble_eq_true rfl) ⟨Nat.le_of_ble_eq_true rfl, Nat.le_of_ble_eq_true rfl⟩ dX3_count_56 ?_
        refine z_iadd (pc := 59) hx hb dX3_count_59 ?_
        refine lv_istore_n (lv' := [(3, .int (zi ((z1 + (shareZ st hr ca sp (w) (u)))))), (0, .ref (ad 0)), (1, .int (zi (S))), (2, .int (zi (w))), (4, .int (zi (z2)))]) (pc := 60) hx hb dX3_count_60 rfl hl (by decide) rfl (fun ls hl => ?_)
        refine lv_iinc (v := zi (z2 + 1)) (lv' := [(4, .int (zi ((z2 + 1)))), (3, .int (zi ((z1 + (shareZ st hr ca sp (w) (u)))))), (0, .ref (ad 0)), (1, .int (zi (S))), (2, .int (zi (w)))]) (pc := 61) hx hb dX3_count_61 hl (k := 4) rfl (zi_add _ _) (by decide) rfl (fun ls hl => ?_)
        refine lv_goto (tgt := 26) (pc := 64) hx hb dX3_count_64 (by decide) ?_
        exact ih  _ _ (by simp only [cCt]; rw [e1, if_pos (by assumption)]) (by rw [e2]; rfl) (e3) ls (lv_sub hl [2, 3, 4, 1, 0] rfl)
  refine lv_iload_n (pc := 0) hx hb dX3_count_0 rfl (lv_at hl 1 rfl) ?_
  refine rd_S (pc := 1) hx hb hml hown hT hK (c_X3_isSet D cI cJ l (S) (by omega)) ca_X3_isSet tw_140 va_Pnil ⟨Nat.le_of_ble_eq_true rfl, Nat.le_of_ble_eq_true rfl⟩ rfl hl.1 (As := [.int (zi (S))]) (rest := []) rfl (Nat.le_of_ble_eq_true rfl) ⟨Nat.le_of_ble_eq_true rfl, Nat.le_of_ble_eq_true rfl⟩ dX3_count_1 ?_
  refine z_ifB_eq (tgt := 17) (pc := 4) hx hb dX3_count_4 (by decide) (fun c_4 => ?_) (fun c_4 => ?_)
  · refine z_sipush (pc := 17) hx hb dX3_count_17 (by decide) ?_
    exact rd_iret hx hb hrt hlk dX3_count_20 (by rw [countZ, if_neg (by omega)])
  · refine lv_iload_n (pc := 7) hx hb dX3_count_7 rfl (lv_at hl 2 rfl) ?_
    refine z_iconst (pc := 8) hx hb dX3_count_8 ?_
    refine z_bipush (pc := 9) hx hb dX3_count_9 (by decide) ?_
    refine rd_S (pc := 11) hx hb hml hown hT hK (c_X3_isWithin D cI cJ l (w) (by omega) (0) (by omega) (7) (by omega)) ca_X3_isWithin tw_107 va_Pnil ⟨Nat.le_of_ble_eq_true rfl, Nat.le_of_ble_eq_true rfl⟩ rfl hl.1 (As := [.int (zi (w)), .int (zi (0)), .int (zi (7))]) (rest := []) rfl (Nat.le_of_ble_eq_true rfl) ⟨Nat.le_of_ble_eq_true rfl, Nat.le_of_ble_eq_true rfl⟩ dX3_count_11 ?_
    refine z_ifB_ne (tgt := 21) (pc := 14) hx hb dX3_count_14 (by decide) (fun c_5 => ?_) (fun c_5 => ?_)
    · refine z_iconst (pc := 21) hx hb dX3_count_21 ?_
      refine lv_istore_n (lv' := [(3, .int (zi (0))), (0, .ref (ad 0)), (1, .int (zi (S))), (2, .int (zi (w)))]) (pc := 22) hx hb dX3_count_22 rfl hl (by decide) rfl (fun ls hl => ?_)
      refine z_iconst (pc := 23) hx hb dX3_count_23 ?_
      refine lv_istore (lv' := [(4, .int (zi (0))), (3, .int (zi (0))), (0, .ref (ad 0)), (1, .int (zi (S))), (2, .int (zi (w)))]) (pc := 24) hx hb dX3_count_24 hl (by decide) rfl (fun ls hl => ?_)
      exact loop 0 (by omega) _ _ (by rfl) (by rfl) (by omega) ls (lv_sub hl [2, 3, 4, 1, 0] rfl)
    · refine z_sipush (pc := 17) hx hb dX3_count_17 (by decide) ?_
      exact rd_iret hx hb hrt hlk dX3_count_20 (by rw [countZ, if_neg (by omega)])

set_option maxHeartbeats 4000000 in
set_option maxRecDepth 100000 in
theorem c_X3_risk (D : va_G) (cI cJ : ClassId) (l : Launch) (ad : Nat → Nat) (n : Int) (st hr ca : Nat → Int) (pcs : Int) (fr lv : Nat → Int) (k : Int) (ts th sp hv : Nat → Int) (pr hc : Int) (hU : VU n st hr ca) (S : Int) (r_S : -2147483648 ≤ S ∧ S ≤ 2147483647) (t : Int) (r_t : -2147483648 ≤ t ∧ t ≤ 2147483647) : RD D cI cJ l yX3_risk cX3_risk 3 (some .int) 2 46 [.ref (ad 0), .int (zi (S)), .int (zi (t))] (wX ad cI cJ n st hr ca pcs fr lv k ts th sp hv pr hc) (.int (zi (riskZ n st hr S t))) := by
  refine RD.of (by decide) (Nat.le_of_ble_eq_true rfl) ?_
  intro p e s m args below meth c hx hb hrt hml hown hT hlk hK hP ls hl
  replace hl : lv_has ls 3 [(0, .ref (ad 0)), (1, .int (zi (S))), (2, .int (zi (t)))] := hl
  obtain ⟨hn, hst, hhr, hh1, hca⟩ := id hU
  refine lv_iload_n (pc := 0) hx hb dX3_risk_0 rfl (lv_at hl 1 rfl) ?_
  refine rd_S (pc := 1) hx hb hml hown hT hK (c_X3_isSet D cI cJ l (S) (by omega)) ca_X3_isSet tw_140 va_Pnil ⟨Nat.le_of_ble_eq_true rfl, Nat.le_of_ble_eq_true rfl⟩ rfl hl.1 (As := [.int (zi (S))]) (rest := []) rfl (Nat.le_of_ble_eq_true rfl) ⟨Nat.le_of_ble_eq_true rfl, Nat.le_of_ble_eq_true rfl⟩ dX3_risk_1 ?_
  refine z_ifB_eq (tgt := 18) (pc := 4) hx hb dX3_risk_4 (by decide) (fun c_1 => ?_) (fun c_1 => ?_)
  · refine z_sipush (pc := 18) hx hb dX3_risk_18 (by decide) ?_
    exact rd_iret hx hb hrt hlk dX3_risk_21 (by rw [riskZ, if_neg (by omega)])
  · refine lv_iload_n (pc := 7) hx hb dX3_risk_7 rfl (lv_at hl 2 rfl) ?_
    refine z_iconst (pc := 8) hx hb dX3_risk_8 ?_
    refine z_sipush (pc := 9) hx hb dX3_risk_9 (by decide) ?_
    refine rd_S (pc := 12) hx hb hml hown hT hK (c_X3_isWithin D cI cJ l (t) (by omega) (0) (by omega) (500) (by omega)) ca_X3_isWithin tw_107 va_Pnil ⟨Nat.le_of_ble_eq_true rfl, Nat.le_of_ble_eq_true rfl⟩ rfl hl.1 (As := [.int (zi (t)), .int (zi (0)), .int (zi (500))]) (rest := []) rfl (Nat.le_of_ble_eq_true rfl) ⟨Nat.le_of_ble_eq_true rfl, Nat.le_of_ble_eq_true rfl⟩ dX3_risk_12 ?_
    refine z_ifB_ne (tgt := 22) (pc := 15) hx hb dX3_risk_15 (by decide) (fun c_2 => ?_) (fun c_2 => ?_)
    · refine lv_aload_n (pc := 22) hx hb dX3_risk_22 rfl (lv_at hl 0 rfl) ?_
      refine va_get (D := D) (cl := vwCl) (ci := 3) (v := .ref (ad 1)) (C := RX3) (T := TX3) (N := 7) (pc := 23) hx hb hT inT3 hown hK.1 hP 0 rfl rfl 0 (by decide) (hT _ tw_75) (fun _ h9 => h9) rfl dX3_risk_23 ?_
      refine lv_iload_n (pc := 26) hx hb dX3_risk_26 rfl (lv_at hl 1 rfl) ?_
      refine lv_iload_n (pc := 27) hx hb dX3_risk_27 rfl (lv_at hl 2 rfl) ?_
      refine rd_V (pc := 28) hx hb hml hown hT hK (c_X2_atRisk D cI cJ l ad n st hr ca pcs fr lv k ts th sp hv pr hc hU (S) (by omega) (t) (by omega)) ca_X2_atRisk tw_155 hP 1 2 rfl rfl rfl ⟨Nat.le_of_ble_eq_true rfl, Nat.le_of_ble_eq_true rfl⟩ rfl hl.1 (As := [.int (zi (S)), .int (zi (t))]) (rest := []) rfl (Nat.le_of_ble_eq_true rfl) ⟨Nat.le_of_ble_eq_true rfl, Nat.le_of_ble_eq_true rfl⟩ dX3_risk_28 ?_
      exact rd_iret hx hb hrt hlk dX3_risk_31 (by rw [riskZ, if_pos (by omega)])
    · refine z_sipush (pc := 18) hx hb dX3_risk_18 (by decide) ?_
      exact rd_iret hx hb hrt hlk dX3_risk_21 (by rw [riskZ, if_neg (by omega)])
end
section
def saysV (b s_ a : Int) : Int := if ((1 ≤ b ∧ b ≤ 100000) ∧ (1 ≤ s_ ∧ s_ ≤ 20)) ∧ (0 ≤ a ∧ a ≤ 3) then saysZ b s_ a.toNat else -1002
def cUs (ts th sp : Nat → Int) : Nat → Int
  | 0 => 0
  | u + 1 => cUs ts th sp u + th u * sp (ts u).toNat * 10
theorem cUs_rng {ts th sp : Nat → Int} (hts : ∀ j : Nat, 0 ≤ ts j ∧ ts j ≤ 3) (hth : ∀ j : Nat, 0 ≤ th j ∧ th j ≤ 500) (hsp : ∀ j : Nat, j < 4 → 1 ≤ sp j ∧ sp j ≤ 1000) : ∀ u : Nat, 0 ≤ cUs ts th sp u ∧ cUs ts th sp u ≤ 5000000 * (u : Int)
  | 0 => by simp [cUs]
  | u + 1 => by
    have ih := cUs_rng hts hth hsp u
    have h1 := hts u
    have h2 := hsp (ts u).toNat (by omega)
    have h3 := mul_rng (a := th u) (b := sp (ts u).toNat) (A := 500) (B := 1000) (hth u) (by omega)
    simp only [cUs]; omega
def usedV (k : Int) (ts th sp : Nat → Int) (f : Int) : Int := if 1 ≤ f ∧ f ≤ 100000 then cUs ts th sp k.toNat / f else -1002
/-- the TRIAL's steps from the (K - r)th on: g tenths to go, b HOURS before -/
def failC (K : Nat) (ts th sp : Nat → Int) : Nat → Int → Int → Int
  | 0, _, _ => -1
  | r + 1, g, b => if g ≤ th (K - (r + 1)) * sp (ts (K - (r + 1))).toNat then b + (g + sp (ts (K - (r + 1))).toNat - 1) / sp (ts (K - (r + 1))).toNat else failC K ts th sp r (g - th (K - (r + 1)) * sp (ts (K - (r + 1))).toNat) (b + th (K - (r + 1)))
def failsV (k : Int) (ts th sp : Nat → Int) (f : Int) : Int := if 1 ≤ f ∧ f ≤ 100000 then failC k.toNat ts th sp k.toNat (f * 10) 0 else -1002
def endV (n k t w : Int) : Int := if ((1 ≤ n ∧ n ≤ 12) ∧ (0 ≤ k ∧ k ≤ n)) ∧ (50 ≤ t ∧ t ≤ 99) ∧ (0 ≤ w ∧ w ≤ 1) then (if w = 0 then loF (loT n.toNat k.toNat (100 - t)) 10 else hiF (hiT n.toNat k.toNat (100 - t)) 10) else -1002
/-- a PLAN, and the best -/
abbrev feas (cu ch m a b : Int) : Prop := a * cu + b * ch ≤ m
def isBest (cu ch m a b : Int) : Prop := (0 ≤ a ∧ a ≤ 12) ∧ (0 ≤ b ∧ b ≤ 12) ∧ feas cu ch m a b ∧ ∀ x y : Int, (0 ≤ x ∧ x ≤ 12) → (0 ≤ y ∧ y ≤ 12) → feas cu ch m x y → x + y < a + b ∨ (x + y = a + b ∧ x ≤ a)
abbrev cuZ (pr hc h : Int) : Int := pr + h * hc
abbrev chZ (pr hc h s2 : Int) : Int := pr + (h * 10 + s2 - 1) / s2 * hc
def planV (pr hc m h w s2 a b : Int) : Int := if (0 ≤ m ∧ m ≤ 10000) ∧ (1 ≤ h ∧ h ≤ 500) ∧ (0 ≤ w ∧ w ≤ 2) then (if w = 0 then a else if w = 1 then b else a * cuZ pr hc h + b * chZ pr hc h s2) else -1002
theorem cost_rng {pr hc h s2 : Int} (h1 : 1 ≤ pr ∧ pr ≤ 500) (h2 : 0 ≤ hc ∧ hc ≤ 20) (h3 : 1 ≤ h ∧ h ≤ 500) (h4 : 1 ≤ s2 ∧ s2 ≤ 1000) : (1 ≤ cuZ pr hc h ∧ cuZ pr hc h ≤ 10500) ∧ (1 ≤ chZ pr hc h s2 ∧ chZ pr hc h s2 ≤ 120500) ∧ 0 ≤ (h * 10 + s2 - 1) / s2 ∧ (h * 10 + s2 - 1) / s2 ≤ 6000 := by
  have a1 := mul_rng (a := h) (b := hc) (A := 500) (B := 20) (by omega) h2
  have a2 : 0 ≤ (h * 10 + s2 - 1) / s2 := Int.ediv_nonneg (by omega) (by omega)
  have a3 : (h * 10 + s2 - 1) / s2 ≤ h * 10 + s2 - 1 := Int.ediv_le_self _ (by omega)
  have a4 := mul_rng (a := (h * 10 + s2 - 1) / s2) (b := hc) (A := 6000) (B := 20) (by omega) h2
  simp only [cuZ, chZ]; omega

set_option maxHeartbeats 4000000 in
set_option maxRecDepth 100000 in
theorem c_X3_speed (D : va_G) (cI cJ : ClassId) (l : Launch) (ad : Nat → Nat) (n : Int) (st hr ca : Nat → Int) (pcs : Int) (fr lv : Nat → Int) (k : Int) (ts th sp hv : Nat → Int) (pr hc : Int) (a : Int) (r_a : -2147483648 ≤ a ∧ a ≤ 2147483647) (v : Int) (r_v : -2147483648 ≤ v ∧ v ≤ 2147483647) : WR D cI cJ l yX3_speed cX3_speed 4 (some .int) 2 42 [.ref (ad 0), .int (zi (a)), .int (zi (v))] (wX ad cI cJ n st hr ca pcs fr lv k ts th sp hv pr hc) (fun v' ws' => ∃ x : Int × (Nat → Int), x = speedS sp a v ∧ v' = .int (zi x.1) ∧ ws' = (wX ad cI cJ n st hr ca pcs fr lv k ts th x.2 hv pr hc)) := by
  refine WR.of (by decide) (Nat.le_of_ble_eq_true rfl) ?_
  intro p e s m args below meth c hx hb hrt hml hown hT hlk hK hP hD hS ls hl
  replace hl : lv_has ls 4 [(0, .ref (ad 0)), (1, .int (zi (a))), (2, .int (zi (v)))] := hl
  refine lv_iload_n (pc := 0) hx hb dX3_speed_0 rfl (lv_at hl 1 rfl) ?_
  refine rd_S (pc := 1) hx hb hml hown hT hK (c_X3_isStress D cI cJ l (a) (by omega)) ca_X3_isStress tw_104 va_Pnil ⟨Nat.le_of_ble_eq_true rfl, Nat.le_of_ble_eq_true rfl⟩ rfl hl.1 (As := [.int (zi (a))]) (rest := []) rfl (Nat.le_of_ble_eq_true rfl) ⟨Nat.le_of_ble_eq_true rfl, Nat.le_of_ble_eq_true rfl⟩ dX3_speed_1 ?_
  refine z_ifB_eq (tgt := 18) (pc := 4) hx hb dX3_speed_4 (by decide) (fun c_1 => ?_) (fun c_1 => ?_)
  · refine z_sipush (pc := 18) hx hb dX3_speed_18 (by decide) ?_
    exact wr_iret hx hb hrt hlk dX3_speed_21 hP hS (⟨(-1002, sp), by rw [speedS, if_neg (by omega)], rfl, rfl⟩)
  · refine lv_iload_n (pc := 7) hx hb dX3_speed_7 rfl (lv_at hl 2 rfl) ?_
    refine z_iconst (pc := 8) hx hb dX3_speed_8 ?_
    refine z_sipush (pc := 9) hx hb dX3_speed_9 (by decide) ?_
    refine rd_S (pc := 12) hx hb hml hown hT hK (c_X3_isWithin D cI cJ l (v) (by omega) (1) (by omega) (1000) (by omega)) ca_X3_isWithin tw_107 va_Pnil ⟨Nat.le_of_ble_eq_true rfl, Nat.le_of_ble_eq_true rfl⟩ rfl hl.1 (As := [.int (zi (v)), .int (zi (1)), .int (zi (1000))]) (rest := []) rfl (Nat.le_of_ble_eq_true rfl) ⟨Nat.le_of_ble_eq_true rfl, Nat.le_of_ble_eq_true rfl⟩ dX3_speed_12 ?_
    refine z_ifB_ne (tgt := 22) (pc := 15) hx hb dX3_speed_15 (by decide) (fun c_2 => ?_) (fun c_2 => ?_)
    · refine lv_aload_n (pc := 22) hx hb dX3_speed_22 rfl (lv_at hl 0 rfl) ?_
      refine va_get (D := D) (cl := vwCl) (ci := 3) (v := .ref (ad 4)) (C := RX3) (T := TX3) (N := 7) (pc := 23) hx hb hT inT3 hown hK.1 hP 0 rfl rfl 3 (by decide) (hT _ tw_78) (fun _ h9 => h9) rfl dX3_speed_23 ?_
      refine lv_iload_n (pc := 26) hx hb dX3_speed_26 rfl (lv_at hl 1 rfl) ?_
      refine z_iald (pc := 27) hx hb hK hP 4 (a.toNat) (f := sp) rfl (by omega) (by omega) (by omega) dX3_speed_27 ?_
      refine lv_istore_n (lv' := [(3, .int (zi ((sp (a.toNat))))), (0, .ref (ad 0)), (1, .int (zi (a))), (2, .int (zi (v)))]) (pc := 28) hx hb dX3_speed_28 rfl hl (by decide) rfl (fun ls hl => ?_)
      refine lv_aload_n (pc := 29) hx hb dX3_speed_29 rfl (lv_at hl 1 rfl) ?_
      refine va_get (D := D) (cl := vwCl) (ci := 3) (v := .ref (ad 4)) (C := RX3) (T := TX3) (N := 7) (pc := 30) hx hb hT inT3 hown hK.1 hP 0 rfl rfl 3 (by decide) (hT _ tw_78) (fun _ h9 => h9) rfl dX3_speed_30 ?_
      refine lv_iload_n (pc := 33) hx hb dX3_speed_33 rfl (lv_at hl 2 rfl) ?_
      refine lv_iload_n (pc := 34) hx hb dX3_speed_34 rfl (lv_at hl 3 rfl) ?_
      refine z_iast (pc := 35) hx hb hK hP hD hS 4 (a.toNat) (f := sp) (x := v) rfl (by omega) (by omega) (by omega) dX3_speed_35 (fun H locs hP hD hS => ?_)
      replace hP : va_P D vwCl (wX ad cI cJ n st hr ca pcs fr lv k ts th (uZ sp (a.toNat) (v)) hv pr hc) H := hP
      replace hD : va_D (inW (wX ad cI cJ n st hr ca pcs fr lv k ts th sp hv pr hc)) (wX ad cI cJ n st hr ca pcs fr lv k ts th (uZ sp (a.toNat) (v)) hv pr hc) := hD
      refine lv_iload_n (pc := 36) hx hb dX3_speed_36 rfl (lv_at hl 0 rfl) ?_
      exact wr_iret hx hb hrt hlk dX3_speed_37 hP hS (⟨(sp a.toNat, uZ sp a.toNat v), by rw [speedS, if_pos (by omega)], rfl, rfl⟩)
    · refine z_sipush (pc := 18) hx hb dX3_speed_18 (by decide) ?_
      exact wr_iret hx hb hrt hlk dX3_speed_21 hP hS (⟨(-1002, sp), by rw [speedS, if_neg (by omega)], rfl, rfl⟩)

set_option maxHeartbeats 4000000 in
set_option maxRecDepth 100000 in
theorem c_X3_says (D : va_G) (cI cJ : ClassId) (l : Launch) (ad : Nat → Nat) (n : Int) (st hr ca : Nat → Int) (pcs : Int) (fr lv : Nat → Int) (k : Int) (ts th sp hv : Nat → Int) (pr hc : Int) (b : Int) (r_b : -2147483648 ≤ b ∧ b ≤ 2147483647) (s_ : Int) (r_s_ : -2147483648 ≤ s_ ∧ s_ ≤ 2147483647) (a : Int) (r_a : -2147483648 ≤ a ∧ a ≤ 2147483647) : RD D cI cJ l yX3_says cX3_says 4 (some .int) 2 45 [.ref (ad 0), .int (zi (b)), .int (zi (s_)), .int (zi (a))] (wX ad cI cJ n st hr ca pcs fr lv k ts th sp hv pr hc) (.int (zi (saysV b s_ a))) := by
  refine RD.of (by decide) (Nat.le_of_ble_eq_true rfl) ?_
  intro p e s m args below meth c hx hb hrt hml hown hT hlk hK hP ls hl
  replace hl : lv_has ls 4 [(0, .ref (ad 0)), (1, .int (zi (b))), (2, .int (zi (s_))), (3, .int (zi (a)))] := hl
  refine lv_iload_n (pc := 0) hx hb dX3_says_0 rfl (lv_at hl 1 rfl) ?_
  refine lv_iload_n (pc := 1) hx hb dX3_says_1 rfl (lv_at hl 2 rfl) ?_
  refine rd_S (pc := 2) hx hb hml hown hT hK (c_X3_isLaw D cI cJ l (b) (by omega) (s_) (by omega)) ca_X3_isLaw tw_250 va_Pnil ⟨Nat.le_of_ble_eq_true rfl, Nat.le_of_ble_eq_true rfl⟩ rfl hl.1 (As := [.int (zi (b)), .int (zi (s_))]) (rest := []) rfl (Nat.le_of_ble_eq_true rfl) ⟨Nat.le_of_ble_eq_true rfl, Nat.le_of_ble_eq_true rfl⟩ dX3_says_2 ?_
  refine z_ifB_eq (tgt := 15) (pc := 5) hx hb dX3_says_5 (by decide) (fun c_1 => ?_) (fun c_1 => ?_)
  · refine z_sipush (pc := 15) hx hb dX3_says_15 (by decide) ?_
    exact rd_iret hx hb hrt hlk dX3_says_18 (by rw [saysV, if_neg (by omega)])
  · refine lv_iload_n (pc := 8) hx hb dX3_says_8 rfl (lv_at hl 3 rfl) ?_
    refine rd_S (pc := 9) hx hb hml hown hT hK (c_X3_isStress D cI cJ l (a) (by omega)) ca_X3_isStress tw_104 va_Pnil ⟨Nat.le_of_ble_eq_true rfl, Nat.le_of_ble_eq_true rfl⟩ rfl hl.1 (As := [.int (zi (a))]) (rest := []) rfl (Nat.le_of_ble_eq_true rfl) ⟨Nat.le_of_ble_eq_true rfl, Nat.le_of_ble_eq_true rfl⟩ dX3_says_9 ?_
    refine z_ifB_ne (tgt := 19) (pc := 12) hx hb dX3_says_12 (by decide) (fun c_2 => ?_) (fun c_2 => ?_)
    · refine lv_iload_n (pc := 19) hx hb dX3_says_19 rfl (lv_at hl 1 rfl) ?_
      refine lv_iload_n (pc := 20) hx hb dX3_says_20 rfl (lv_at hl 2 rfl) ?_
      refine lv_iload_n (pc := 21) hx hb dX3_says_21 rfl (lv_at hl 3 rfl) ?_
      refine rd_S (pc := 22) hx hb hml hown hT hK (c_X3_lawAt D cI cJ l (b) (s_) (a) ((a).toNat) (by omega) (by omega)) ca_X3_lawAt tw_254 va_Pnil ⟨Nat.le_of_ble_eq_true rfl, Nat.le_of_ble_eq_true rfl⟩ rfl hl.1 (As := [.int (zi (b)), .int (zi (s_)), .int (zi (a))]) (rest := []) rfl (Nat.le_of_ble_eq_true rfl) ⟨Nat.le_of_ble_eq_true rfl, Nat.le_of_ble_eq_true rfl⟩ dX3_says_22 ?_
      exact rd_iret hx hb hrt hlk dX3_says_25 (by rw [saysV, if_pos (by omega)])
    · refine z_sipush (pc := 15) hx hb dX3_says_15 (by decide) ?_
      exact rd_iret hx hb hrt hlk dX3_says_18 (by rw [saysV, if_neg (by omega)])

set_option maxHeartbeats 4000000 in
set_option maxRecDepth 100000 in
theorem c_X3_step (D : va_G) (cI cJ : ClassId) (l : Launch) (ad : Nat → Nat) (n : Int) (st hr ca : Nat → Int) (pcs : Int) (fr lv : Nat → Int) (k : Int) (ts th sp hv : Nat → Int) (pr hc : Int) (hV : VT k ts th sp pr hc) (a : Int) (r_a : -2147483648 ≤ a ∧ a ≤ 2147483647) (b : Int) (r_b : -2147483648 ≤ b ∧ b ≤ 2147483647) : WR D cI cJ l yX3_step cX3_step 3 (some .int) 2 42 [.ref (ad 0), .int (zi (a)), .int (zi (b))] (wX ad cI cJ n st hr ca pcs fr lv k ts th sp hv pr hc) (fun v' ws' => ∃ x : Int × Int × (Nat → Int) × (Nat → Int), x = stepS k ts th a b ∧ v' = .int (zi x.1) ∧ ws' = (wX ad cI cJ n st hr ca pcs fr lv x.2.1 x.2.2.1 x.2.2.2 sp hv pr hc)) := by
  refine WR.of (by decide) (Nat.le_of_ble_eq_true rfl) ?_
  intro p e s m args below meth c hx hb hrt hml hown hT hlk hK hP hD hS ls hl
  replace hl : lv_has ls 3 [(0, .ref (ad 0)), (1, .int (zi (a))), (2, .int (zi (b)))] := hl
  obtain ⟨hk, hts, hth, ht1, hsp, hpr, hhc⟩ := id hV
  refine lv_iload_n (pc := 0) hx hb dX3_step_0 rfl (lv_at hl 1 rfl) ?_
  refine rd_S (pc := 1) hx hb hml hown hT hK (c_X3_isStress D cI cJ l (a) (by omega)) ca_X3_isStress tw_104 va_Pnil ⟨Nat.le_of_ble_eq_true rfl, Nat.le_of_ble_eq_true rfl⟩ rfl hl.1 (As := [.int (zi (a))]) (rest := []) rfl (Nat.le_of_ble_eq_true rfl) ⟨Nat.le_of_ble_eq_true rfl, Nat.le_of_ble_eq_true rfl⟩ dX3_step_1 ?_
  refine z_ifB_eq (tgt := 18) (pc := 4) hx hb dX3_step_4 (by decide) (fun c_1 => ?_) (fun c_1 => ?_)
  · refine z_sipush (pc := 18) hx hb dX3_step_18 (by decide) ?_
    exact wr_iret hx hb hrt hlk dX3_step_21 hP hS (⟨(-1002, k, ts, th), by rw [stepS, if_neg (by omega)], rfl, rfl⟩)
  · refine lv_iload_n (pc := 7) hx hb dX3_step_7 rfl (lv_at hl 2 rfl) ?_
    refine z_iconst (pc := 8) hx hb dX3_step_8 ?_
    refine z_sipush (pc := 9) hx hb dX3_step_9 (by decide) ?_
    refine rd_S (pc := 12) hx hb hml hown hT hK (c_X3_isWithin D cI cJ l (b) (by omega) (1) (by omega) (500) (by omega)) ca_X3_isWithin tw_107 va_Pnil ⟨Nat.le_of_ble_eq_true rfl, Nat.le_of_ble_eq_true rfl⟩ rfl hl.1 (As := [.int (zi (b)), .int (zi (1)), .int (zi (500))]) (rest := []) rfl (Nat.le_of_ble_eq_true rfl) ⟨Nat.le_of_ble_eq_true rfl, Nat.le_of_ble_eq_true rfl⟩ dX3_step_12 ?_
    refine z_ifB_ne (tgt := 22) (pc := 15) hx hb dX3_step_15 (by decide) (fun c_2 => ?_) (fun c_2 => ?_)
    · refine lv_aload_n (pc := 22) hx hb dX3_step_22 rfl (lv_at hl 0 rfl) ?_
      refine va_get (D := D) (cl := vwCl) (ci := 3) (v := .ref (ad 3)) (C := RX3) (T := TX3) (N := 7) (pc := 23) hx hb hT inT3 hown hK.1 hP 0 rfl rfl 2 (by decide) (hT _ tw_77) (fun _ h9 => h9) rfl dX3_step_23 ?_
      refine va_get (D := D) (cl := vwCl) (ci := 1) (v := .int (zi (k))) (C := RX1) (T := TX1) (N := 3) (pc := 26) hx hb hT inT1 hown hK.1 hP 3 rfl rfl 2 (by decide) (hT _ tw_67) (fun _ h9 => h9) rfl dX3_step_26 ?_
      refine z_bipush (pc := 29) hx hb dX3_step_29 (by decide) ?_
      refine z_icmp_lt (tgt := 38) (pc := 31) hx hb dX3_step_31 (by decide) (by omega) (by omega) (fun c_3 => ?_) (fun c_3 => ?_)
      · refine lv_aload_n (pc := 38) hx hb dX3_step_38 rfl (lv_at hl 0 rfl) ?_
        refine va_get (D := D) (cl := vwCl) (ci := 3) (v := .ref (ad 3)) (C := RX3) (T := TX3) (N := 7) (pc := 39) hx hb hT inT3 hown hK.1 hP 0 rfl rfl 2 (by decide) (hT _ tw_77) (fun _ h9 => h9) rfl dX3_step_39 ?_
        refine va_get (D := D) (cl := vwCl) (ci := 1) (v := .ref (ad 11)) (C := RX1) (T := TX1) (N := 3) (pc := 42) hx hb hT inT1 hown hK.1 hP 3 rfl rfl 0 (by decide) (hT _ tw_63) (fun _ h9 => h9) rfl dX3_step_42 ?_
        refine lv_aload_n (pc := 45) hx hb dX3_step_45 rfl (lv_at hl 0 rfl) ?_
        refine va_get (D := D) (cl := vwCl) (ci := 3) (v := .ref (ad 3)) (C := RX3) (T := TX3) (N := 7) (pc := 46) hx hb hT inT3 hown hK.1 hP 0 rfl rfl 2 (by decide) (hT _ tw_77) (fun _ h9 => h9) rfl dX3_step_46 ?_
        refine va_get (D := D) (cl := vwCl) (ci := 1) (v := .int (zi (k))) (C := RX1) (T := TX1) (N := 3) (pc := 49) hx hb hT inT1 hown hK.1 hP 3 rfl rfl 2 (by decide) (hT _ tw_67) (fun _ h9 => h9) rfl dX3_step_49 ?_
        refine lv_iload_n (pc := 52) hx hb dX3_step_52 rfl (lv_at hl 1 rfl) ?_
        refine z_iast (pc := 53) hx hb hK hP hD hS 11 (k.toNat) (f := ts) (x := a) rfl (by omega) (by omega) (by omega) dX3_step_53 (fun H locs hP hD hS => ?_)
        replace hP : va_P D vwCl (wX ad cI cJ n st hr ca pcs fr lv k (uZ ts (k.toNat) (a)) th sp hv pr hc) H := hP
        replace hD : va_D (inW (wX ad cI cJ n st hr ca pcs fr lv k ts th sp hv pr hc)) (wX ad cI cJ n st hr ca pcs fr lv k (uZ ts (k.toNat) (a)) th sp hv pr hc) := hD
        refine lv_aload_n (pc := 54) hx hb dX3_step_54 rfl (lv_at hl 0 rfl) ?_
        refine va_get (D := D) (cl := vwCl) (ci := 3) (v := .ref (ad 3)) (C := RX3) (T := TX3) (N := 7) (pc := 55) hx hb hT inT3 hown hK.1 hP 0 rfl rfl 2 (by decide) (hT _ tw_77) (fun _ h9 => h9) rfl dX3_step_55 ?_
        refine va_get (D := D) (cl := vwCl) (ci := 1) (v := .ref (ad 12)) (C := RX1) (T := TX1) (N := 3) (pc := 58) hx hb hT inT1 hown hK.1 hP 3 rfl rfl 1 (by decide) (hT _ tw_65) (fun _ h9 => h9) rfl dX3_step_58 ?_
        refine lv_aload_n (pc := 61) hx hb dX3_step_61 rfl (lv_at hl 0 rfl) ?_
        refine va_get (D := D) (cl := vwCl) (ci := 3) (v := .ref (ad 3)) (C := RX3) (T := TX3) (N := 7) (pc := 62) hx hb hT inT3 hown hK.1 hP 0 rfl rfl 2 (by decide) (hT _ tw_77) (fun _ h9 => h9) rfl dX3_step_62 ?_
        refine va_get (D := D) (cl := vwCl) (ci := 1) (v := .int (zi (k))) (C := RX1) (T := TX1) (N := 3) (pc := 65) hx hb hT inT1 hown hK.1 hP 3 rfl rfl 2 (by decide) (hT _ tw_67) (fun _ h9 => h9) rfl dX3_step_65 ?_
        refine lv_iload_n (pc := 68) hx hb dX3_step_68 rfl (lv_at hl 2 rfl) ?_
        refine z_iast (pc := 69) hx hb hK hP hD hS 12 (k.toNat) (f := th) (x := b) rfl (by omega) (by omega) (by omega) dX3_step_69 (fun H locs hP hD hS => ?_)
        replace hP : va_P D vwCl (wX ad cI cJ n st hr ca pcs fr lv k (uZ ts (k.toNat) (a)) (uZ th (k.toNat) (b)) sp hv pr hc) H := hP
        replace hD : va_D (inW (wX ad cI cJ n st hr ca pcs fr lv k ts th sp hv pr hc)) (wX ad cI cJ n st hr ca pcs fr lv k (uZ ts (k.toNat) (a)) (uZ th (k.toNat) (b)) sp hv pr hc) := hD
        refine lv_aload_n (pc := 70) hx hb dX3_step_70 rfl (lv_at hl 0 rfl) ?_
        refine va_get (D := D) (cl := vwCl) (ci := 3) (v := .ref (ad 3)) (C := RX3) (T := TX3) (N := 7) (pc := 71) hx hb hT inT3 hown hK.1 hP 0 rfl rfl 2 (by decide) (hT _ tw_77) (fun _ h9 => h9) rfl dX3_step_71 ?_
        refine lv_dup (pc := 74) hx hb dX3_step_74 rfl ?_
        refine va_get (D := D) (cl := vwCl) (ci := 1) (v := .int (zi (k))) (C := RX1) (T := TX1) (N := 3) (pc := 75) hx hb hT inT1 hown hK.1 hP 3 rfl rfl 2 (by decide) (hT _ tw_67) (fun _ h9 => h9) rfl dX3_step_75 ?_
        refine z_iconst (pc := 78) hx hb dX3_step_78 ?_
        refine z_iadd (pc := 79) hx hb dX3_step_79 ?_
        refine va_put (D := D) (cl := vwCl) (ci := 1) (v := .int (zi ((k + 1)))) (ty := .int) (C := RX1) (T := TX1) (N := 3) (pc := 80) hx hb hT inT1 tyX1 tyX1_ok nmX1 hown hK.1 hP hD hS 3 rfl rfl 2 (by decide) (hT _ tw_67) (fun _ h9 => h9) rfl (by decide +kernel) rfl rfl (Nat.le_of_ble_eq_true rfl) dX3_step_80 (fun H locs hP hD hS => ?_)
        replace hP : va_P D vwCl (wX ad cI cJ n st hr ca pcs fr lv ((k + 1)) (uZ ts (k.toNat) (a)) (uZ th (k.toNat) (b)) sp hv pr hc) H := hP
        replace hD : va_D (inW (wX ad cI cJ n st hr ca pcs fr lv k ts th sp hv pr hc)) (wX ad cI cJ n st hr ca pcs fr lv ((k + 1)) (uZ ts (k.toNat) (a)) (uZ th (k.toNat) (b)) sp hv pr hc) := hD
        refine lv_aload_n (pc := 83) hx hb dX3_step_83 rfl (lv_at hl 0 rfl) ?_
        refine va_get (D := D) (cl := vwCl) (ci := 3) (v := .ref (ad 3)) (C := RX3) (T := TX3) (N := 7) (pc := 84) hx hb hT inT3 hown hK.1 hP 0 rfl rfl 2 (by decide) (hT _ tw_77) (fun _ h9 => h9) rfl dX3_step_84 ?_
        refine va_get (D := D) (cl := vwCl) (ci := 1) (v := .int (zi ((k + 1)))) (C := RX1) (T := TX1) (N := 3) (pc := 87) hx hb hT inT1 hown hK.1 hP 3 rfl rfl 2 (by decide) (hT _ tw_67) (fun _ h9 => h9) rfl dX3_step_87 ?_
        exact wr_iret hx hb hrt hlk dX3_step_90 hP hS (⟨(k + 1, k + 1, uZ ts k.toNat a, uZ th k.toNat b), by rw [stepS, if_pos (by omega), if_pos (by omega)], rfl, rfl⟩)
      · refine z_sipush (pc := 34) hx hb dX3_step_34 (by decide) ?_
        exact wr_iret hx hb hrt hlk dX3_step_37 hP hS (⟨(-1004, k, ts, th), by rw [stepS, if_pos (by omega), if_neg (by omega)], rfl, rfl⟩)
    · refine z_sipush (pc := 18) hx hb dX3_step_18 (by decide) ?_
      exact wr_iret hx hb hrt hlk dX3_step_21 hP hS (⟨(-1002, k, ts, th), by rw [stepS, if_neg (by omega)], rfl, rfl⟩)

set_option maxHeartbeats 4000000 in
set_option maxRecDepth 100000 in
theorem c_X3_clear (D : va_G) (cI cJ : ClassId) (l : Launch) (ad : Nat → Nat) (n : Int) (st hr ca : Nat → Int) (pcs : Int) (fr lv : Nat → Int) (k : Int) (ts th sp hv : Nat → Int) (pr hc : Int)  : WR D cI cJ l yX3_clear cX3_clear 2 (some .int) 0 0 [.ref (ad 0)] (wX ad cI cJ n st hr ca pcs fr lv k ts th sp hv pr hc) (fun v' ws' => v' = .int (zi k) ∧ ws' = (wX ad cI cJ n st hr ca pcs fr lv 0 ts th sp hv pr hc)) := by
  refine WR.of (by decide) (Nat.le_of_ble_eq_true rfl) ?_
  intro p e s m args below meth c hx hb hrt hml hown hT hlk hK hP hD hS ls hl
  replace hl : lv_has ls 2 [(0, .ref (ad 0))] := hl
  refine lv_aload_n (pc := 0) hx hb dX3_clear_0 rfl (lv_at hl 0 rfl) ?_
  refine va_get (D := D) (cl := vwCl) (ci := 3) (v := .ref (ad 3)) (C := RX3) (T := TX3) (N := 7) (pc := 1) hx hb hT inT3 hown hK.1 hP 0 rfl rfl 2 (by decide) (hT _ tw_77) (fun _ h9 => h9) rfl dX3_clear_1 ?_
  refine va_get (D := D) (cl := vwCl) (ci := 1) (v := .int (zi (k))) (C := RX1) (T := TX1) (N := 3) (pc := 4) hx hb hT inT1 hown hK.1 hP 3 rfl rfl 2 (by decide) (hT _ tw_67) (fun _ h9 => h9) rfl dX3_clear_4 ?_
  refine lv_istore_n (lv' := [(1, .int (zi (k))), (0, .ref (ad 0))]) (pc := 7) hx hb dX3_clear_7 rfl hl (by decide) rfl (fun ls hl => ?_)
  refine lv_aload_n (pc := 8) hx hb dX3_clear_8 rfl (lv_at hl 1 rfl) ?_
  refine va_get (D := D) (cl := vwCl) (ci := 3) (v := .ref (ad 3)) (C := RX3) (T := TX3) (N := 7) (pc := 9) hx hb hT inT3 hown hK.1 hP 0 rfl rfl 2 (by decide) (hT _ tw_77) (fun _ h9 => h9) rfl dX3_clear_9 ?_
  refine z_iconst (pc := 12) hx hb dX3_clear_12 ?_
  refine va_put (D := D) (cl := vwCl) (ci := 1) (v := .int (zi (0))) (ty := .int) (C := RX1) (T := TX1) (N := 3) (pc := 13) hx hb hT inT1 tyX1 tyX1_ok nmX1 hown hK.1 hP hD hS 3 rfl rfl 2 (by decide) (hT _ tw_67) (fun _ h9 => h9) rfl (by decide +kernel) rfl rfl (Nat.le_of_ble_eq_true rfl) dX3_clear_13 (fun H locs hP hD hS => ?_)
  replace hP : va_P D vwCl (wX ad cI cJ n st hr ca pcs fr lv 0 ts th sp hv pr hc) H := hP
  replace hD : va_D (inW (wX ad cI cJ n st hr ca pcs fr lv k ts th sp hv pr hc)) (wX ad cI cJ n st hr ca pcs fr lv 0 ts th sp hv pr hc) := hD
  refine lv_iload_n (pc := 16) hx hb dX3_clear_16 rfl (lv_at hl 0 rfl) ?_
  exact wr_iret hx hb hrt hlk dX3_clear_17 hP hS (⟨rfl, rfl⟩)

set_option maxHeartbeats 4000000 in
set_option maxRecDepth 100000 in
theorem c_X3_used (D : va_G) (cI cJ : ClassId) (l : Launch) (ad : Nat → Nat) (n : Int) (st hr ca : Nat → Int) (pcs : Int) (fr lv : Nat → Int) (k : Int) (ts th sp hv : Nat → Int) (pr hc : Int) (hV : VT k ts th sp pr hc) (f : Int) (r_f : -2147483648 ≤ f ∧ f ≤ 2147483647) : RD D cI cJ l yX3_used cX3_used 4 (some .int) 1 22 [.ref (ad 0), .int (zi (f))] (wX ad cI cJ n st hr ca pcs fr lv k ts th sp hv pr hc) (.int (zi (usedV k ts th sp f))) := by
  refine RD.of (by decide) (Nat.le_of_ble_eq_true rfl) ?_
  intro p e s m args below meth c hx hb hrt hml hown hT hlk hK hP ls hl
  replace hl : lv_has ls 4 [(0, .ref (ad 0)), (1, .int (zi (f)))] := hl
  obtain ⟨hk, hts, hth, ht1, hsp, hpr, hhc⟩ := id hV
  have loop : ∀ u : Nat, u ≤ k.toNat → ∀ (z1 z2 : Int), (z1 = cUs ts th sp u) → (z2 = (u : Int)) → (1 ≤ f ∧ f ≤ 100000) → ∀ ls : Array Slot, lv_has ls 4 [(0, .ref (ad 0)), (1, .int (zi (f))), (2, .int (zi (z1))), (3, .int (zi (z2)))] → W p l e (RM 1 22) s m args below meth c s.heap [] 0 0 (MQ below (QR (.int (zi (usedV k ts th sp f))) s.heap) args s 0 0 (fun _ => False)) (F0 m 18 ls []) := by
    refine lp_up (fun u => ∀ (z1 z2 : Int), (z1 = cUs ts th sp u) → (z2 = (u : Int)) → (1 ≤ f ∧ f ≤ 100000) → ∀ ls : Array Slot, lv_has ls 4 [(0, .ref (ad 0)), (1, .int (zi (f))), (2, .int (zi (z1))), (3, .int (zi (z2)))] → W p l e (RM 1 22) s m args below meth c s.heap [] 0 0 (MQ below (QR (.int (zi (usedV k ts th sp f))) s.heap) args s 0 0 (fun _ => False)) (F0 m 18 ls [])) (k.toNat) ?_ ?_
    · intro z1 z2 e1 e2 e3 ls hl
      have hcu := cUs_rng hts hth hsp k.toNat
      refine lv_iload_n (pc := 18) hx hb dX3_used_18 rfl (lv_at hl 3 rfl) ?_
      refine lv_aload_n (pc := 19) hx hb dX3_used_19 rfl (lv_at hl 0 rfl) ?_
      refine va_get (D := D) (cl := vwCl) (ci := 3) (v := .ref (ad 3)) (C := RX3) (T := TX3) (N := 7) (pc := 20) hx hb hT inT3 hown hK.1 hP 0 rfl rfl 2 (by decide) (hT _ tw_77) (fun _ h9 => h9) rfl dX3_used_20 ?_
      refine va_get (D := D) (cl := vwCl) (ci := 1) (v := .int (zi (k))) (C := RX1) (T := TX1) (N := 3) (pc := 23) hx hb hT inT1 hown hK.1 hP 3 rfl rfl 2 (by decide) (hT _ tw_67) (fun _ h9 => h9) rfl dX3_used_23 ?_
      refine z_icmp_ge (tgt := 65) (pc := 26) hx hb dX3_used_26 (by decide) (by omega) (by omega) (fun c_1 => ?_) (fun c_1 => absurd c_1 (by omega))
      refine lv_iload_n (pc := 65) hx hb dX3_used_65 rfl (lv_at hl 2 rfl) ?_
      refine lv_iload_n (pc := 66) hx hb dX3_used_66 rfl (lv_at hl 1 rfl) ?_
      refine rd_S (pc := 67) hx hb hml hown hT hK (c_X3_cut D cI cJ l (z1) (f) (by omega)) ca_X3_cut tw_257 va_Pnil ⟨Nat.le_of_ble_eq_true rfl, Nat.le_of_ble_eq_true rfl⟩ rfl hl.1 (As := [.int (zi (z1)), .int (zi (f))]) (rest := []) rfl (Nat.le_of_ble_eq_true rfl) ⟨Nat.le_of_ble_eq_true rfl, Nat.le_of_ble_eq_true rfl⟩ dX3_used_67 ?_
      exact rd_iret hx hb hrt hlk dX3_used_70 (by rw [usedV, if_pos e3, e1])
    · intro u hu ih z1 z2 e1 e2 e3 ls hl
      refine lv_iload_n (pc := 18) hx hb dX3_used_18 rfl (lv_at hl 3 rfl) ?_
      refine lv_aload_n (pc := 19) hx hb dX3_used_19 rfl (lv_at hl 0 rfl) ?_
      refine va_get (D := D) (cl := vwCl) (ci := 3) (v := .ref (ad 3)) (C := RX3) (T := TX3) (N := 7) (pc := 20) hx hb hT inT3 hown hK.1 hP 0 rfl rfl 2 (by decide) (hT _ tw_77) (fun _ h9 => h9) rfl dX3_used_20 ?_
      refine va_get (D := D) (cl := vwCl) (ci := 1) (v := .int (zi (k))) (C := RX1) (T := TX1) (N := 3) (pc := 23) hx hb hT inT1 hown hK.1 hP 3 rfl rfl 2 (by decide) (hT _ tw_67) (fun _ h9 => h9) rfl dX3_used_23 ?_
      refine z_icmp_ge (tgt := 65) (pc := 26) hx hb dX3_used_26 (by decide) (by omega) (by omega) (fun c_2 => absurd c_2 (by omega)) (fun c_2 => ?_)
      refine lv_iload_n (pc := 29) hx hb dX3_used_29 rfl (lv_at hl 2 rfl) ?_
      refine lv_aload_n (pc := 30) hx hb dX3_used_30 rfl (lv_at hl 0 rfl) ?_
      refine va_get (D := D) (cl := vwCl) (ci := 3) (v := .ref (ad 3)) (C := RX3) (T := TX3) (N := 7) (pc := 31) hx hb hT inT3 hown hK.1 hP 0 rfl rfl 2 (by decide) (hT _ tw_77) (fun _ h9 => h9) rfl dX3_used_31 ?_
      refine va_get (D := D) (cl := vwCl) (ci := 1) (v := .ref (ad 12)) (C := RX1) (T := TX1) (N := 3) (pc := 34) hx hb hT inT1 hown hK.1 hP 3 rfl rfl 1 (by decide) (hT _ tw_65) (fun _ h9 => h9) rfl dX3_used_34 ?_
      refine lv_iload_n (pc := 37) hx hb dX3_used_37 rfl (lv_at hl 3 rfl) ?_
      refine z_iald (pc := 38) hx hb hK hP 12 (u) (f := th) rfl (by omega) (by omega) (by omega) dX3_used_38 ?_
      have r_3 := hth (u)
      refine lv_aload_n (pc := 39) hx hb dX3_used_39 rfl (lv_at hl 0 rfl) ?_
      refine va_get (D := D) (cl := vwCl) (ci := 3) (v := .ref (ad 4)) (C := RX3) (T := TX3) (N := 7) (pc := 40) hx hb hT inT3 hown hK.1 hP 0 rfl rfl 3 (by decide) (hT _ tw_78) (fun _ h9 => h9) rfl dX3_used_40 ?_
      refine lv_aload_n (pc := 43) hx hb dX3_used_43 rfl (lv_at hl 0 rfl) ?_
      refine va_get (D := D) (cl := vwCl) (ci := 3) (v := .ref (ad 3)) (C := RX3) (T := TX3) (N := 7) (pc := 44) hx hb hT inT3 hown hK.1 hP 0 rfl rfl 2 (by decide) (hT _ tw_77) (fun _ h9 => h9) rfl dX3_used_44 ?_
      refine va_get (D := D) (cl := vwCl) (ci := 1) (v := .ref (ad 11)) (C := RX1) (T := TX1) (N := 3) (pc := 47) hx hb hT inT1 hown hK.1 hP 3 rfl rfl 0 (by decide) (hT _ tw_63) (fun _ h9 => h9) rfl dX3_used_47 ?_
      refine lv_iload_n (pc := 50) hx hb dX3_used_50 rfl (lv_at hl 3 rfl) ?_
      refine z_iald (pc := 51) hx hb hK hP 11 (u) (f := ts) rfl (by omega) (by omega) (by omega) dX3_used_51 ?_
      have r_4 := hts (u)
      refine z_iald (pc := 52) hx hb hK hP 4 (((ts (u))).toNat) (f := sp) rfl (by omega) (by omega) (by omega) dX3_used_52 ?_
      have r_5 := hsp (((ts (u))).toNat) (by omega)
      refine z_imul (pc := 53) hx hb dX3_used_53 ?_
      refine z_bipush (pc := 54) hx hb dX3_used_54 (by decide) ?_
      refine z_imul (pc := 56) hx hb dX3_used_56 ?_
      refine z_iadd (pc := 57) hx hb dX3_used_57 ?_
      refine lv_istore_n (lv' := [(2, .int (zi ((z1 + (((th (u)) * (sp (((ts (u))).toNat))) * 10))))), (0, .ref (ad 0)), (1, .int (zi (f))), (3, .int (zi (z2)))]) (pc := 58) hx hb dX3_used_58 rfl hl (by decide) rfl (fun ls hl => ?_)
      refine lv_iinc (v := zi (z2 + 1)) (lv' := [(3, .int (zi ((z2 + 1)))), (2, .int (zi ((z1 + (((th (u)) * (sp (((ts (u))).toNat))) * 10))))), (0, .ref (ad 0)), (1, .int (zi (f)))]) (pc := 59) hx hb dX3_used_59 hl (k := 3) rfl (zi_add _ _) (by decide) rfl (fun ls hl => ?_)
      refine lv_goto (tgt := 18) (pc := 62) hx hb dX3_used_62 (by decide) ?_
      exact ih  _ _ (by rw [e1]; rfl) (by rw [e2]; rfl) (e3) ls (lv_sub hl [2, 3, 1, 0] rfl)
  refine lv_iload_n (pc := 0) hx hb dX3_used_0 rfl (lv_at hl 1 rfl) ?_
  refine z_iconst (pc := 1) hx hb dX3_used_1 ?_
  refine z_ldc (pc := 2) hx hb (100000) hown (hT _ tw_253) (by decide) dX3_used_2 ?_
  refine rd_S (pc := 4) hx hb hml hown hT hK (c_X3_isWithin D cI cJ l (f) (by omega) (1) (by omega) (100000) (by omega)) ca_X3_isWithin tw_107 va_Pnil ⟨Nat.le_of_ble_eq_true rfl, Nat.le_of_ble_eq_true rfl⟩ rfl hl.1 (As := [.int (zi (f)), .int (zi (1)), .int (zi (100000))]) (rest := []) rfl (Nat.le_of_ble_eq_true rfl) ⟨Nat.le_of_ble_eq_true rfl, Nat.le_of_ble_eq_true rfl⟩ dX3_used_4 ?_
  refine z_ifB_ne (tgt := 14) (pc := 7) hx hb dX3_used_7 (by decide) (fun c_6 => ?_) (fun c_6 => ?_)
  · refine z_iconst (pc := 14) hx hb dX3_used_14 ?_
    refine lv_istore_n (lv' := [(2, .int (zi (0))), (0, .ref (ad 0)), (1, .int (zi (f)))]) (pc := 15) hx hb dX3_used_15 rfl hl (by decide) rfl (fun ls hl => ?_)
    refine z_iconst (pc := 16) hx hb dX3_used_16 ?_
    refine lv_istore_n (lv' := [(3, .int (zi (0))), (2, .int (zi (0))), (0, .ref (ad 0)), (1, .int (zi (f)))]) (pc := 17) hx hb dX3_used_17 rfl hl (by decide) rfl (fun ls hl => ?_)
    exact loop 0 (by omega) _ _ (by rfl) (by rfl) (by omega) ls (lv_sub hl [2, 3, 1, 0] rfl)
  · refine z_sipush (pc := 10) hx hb dX3_used_10 (by decide) ?_
    exact rd_iret hx hb hrt hlk dX3_used_13 (by rw [usedV, if_neg (by omega)])

set_option maxHeartbeats 4000000 in
set_option maxRecDepth 100000 in
theorem c_X3_fails (D : va_G) (cI cJ : ClassId) (l : Launch) (ad : Nat → Nat) (n : Int) (st hr ca : Nat → Int) (pcs : Int) (fr lv : Nat → Int) (k : Int) (ts th sp hv : Nat → Int) (pr hc : Int) (hV : VT k ts th sp pr hc) (f : Int) (r_f : -2147483648 ≤ f ∧ f ≤ 2147483647) : RD D cI cJ l yX3_fails cX3_fails 6 (some .int) 2 42 [.ref (ad 0), .int (zi (f))] (wX ad cI cJ n st hr ca pcs fr lv k ts th sp hv pr hc) (.int (zi (failsV k ts th sp f))) := by
  refine RD.of (by decide) (Nat.le_of_ble_eq_true rfl) ?_
  intro p e s m args below meth c hx hb hrt hml hown hT hlk hK hP ls hl
  replace hl : lv_has ls 6 [(0, .ref (ad 0)), (1, .int (zi (f)))] := hl
  obtain ⟨hk, hts, hth, ht1, hsp, hpr, hhc⟩ := id hV
  have loop : ∀ u : Nat, u ≤ k.toNat → ∀ (z1 z2 z3 : Int), (failC k.toNat ts th sp (k.toNat - u) z1 z2 = failC k.toNat ts th sp k.toNat (f * 10) 0) → (z3 = (u : Int)) → (1 ≤ f ∧ f ≤ 100000) → (0 < z1 ∧ z1 ≤ 1000000) → (0 ≤ z2 ∧ z2 ≤ 500 * (u : Int)) → ∀ ls : Array Slot, lv_has ls 6 [(0, .ref (ad 0)), (2, .int (zi (z1))), (3, .int (zi (z2))), (4, .int (zi (z3)))] → W p l e (RM 2 42) s m args below meth c s.heap [] 0 0 (MQ below (QR (.int (zi (failsV k ts th sp f))) s.heap) args s 0 0 (fun _ => False)) (F0 m 24 ls []) := by
    refine lp_up (fun u => ∀ (z1 z2 z3 : Int), (failC k.toNat ts th sp (k.toNat - u) z1 z2 = failC k.toNat ts th sp k.toNat (f * 10) 0) → (z3 = (u : Int)) → (1 ≤ f ∧ f ≤ 100000) → (0 < z1 ∧ z1 ≤ 1000000) → (0 ≤ z2 ∧ z2 ≤ 500 * (u : Int)) → ∀ ls : Array Slot, lv_has ls 6 [(0, .ref (ad 0)), (2, .int (zi (z1))), (3, .int (zi (z2))), (4, .int (zi (z3)))] → W p l e (RM 2 42) s m args below meth c s.heap [] 0 0 (MQ below (QR (.int (zi (failsV k ts th sp f))) s.heap) args s 0 0 (fun _ => False)) (F0 m 24 ls [])) (k.toNat) ?_ ?_
    · intro z1 z2 z3 e1 e2 e3 e4 e5 ls hl
      refine lv_iload (pc := 24) hx hb dX3_fails_24 (lv_at hl 3 rfl) ?_
      refine lv_aload_n (pc := 26) hx hb dX3_fails_26 rfl (lv_at hl 0 rfl) ?_
      refine va_get (D := D) (cl := vwCl) (ci := 3) (v := .ref (ad 3)) (C := RX3) (T := TX3) (N := 7) (pc := 27) hx hb hT inT3 hown hK.1 hP 0 rfl rfl 2 (by decide) (hT _ tw_77) (fun _ h9 => h9) rfl dX3_fails_27 ?_
      refine va_get (D := D) (cl := vwCl) (ci := 1) (v := .int (zi (k))) (C := RX1) (T := TX1) (N := 3) (pc := 30) hx hb hT inT1 hown hK.1 hP 3 rfl rfl 2 (by decide) (hT _ tw_67) (fun _ h9 => h9) rfl dX3_fails_30 ?_
      refine z_icmp_ge (tgt := 114) (pc := 33) hx hb dX3_fails_33 (by decide) (by omega) (by omega) (fun c_1 => ?_) (fun c_1 => absurd c_1 (by omega))
      refine z_iconst (pc := 114) hx hb dX3_fails_114 ?_
      exact rd_iret hx hb hrt hlk dX3_fails_115 (by rw [failsV, if_pos e3, ← e1, Nat.sub_self, failC])
    · intro u hu ih z1 z2 z3 e1 e2 e3 e4 e5 ls hl
      refine lv_iload (pc := 24) hx hb dX3_fails_24 (lv_at hl 3 rfl) ?_
      refine lv_aload_n (pc := 26) hx hb dX3_fails_26 rfl (lv_at hl 0 rfl) ?_
      refine va_get (D := D) (cl := vwCl) (ci := 3) (v := .ref (ad 3)) (C := RX3) (T := TX3) (N := 7) (pc := 27) hx hb hT inT3 hown hK.1 hP 0 rfl rfl 2 (by decide) (hT _ tw_77) (fun _ h9 => h9) rfl dX3_fails_27 ?_
      refine va_get (D := D) (cl := vwCl) (ci := 1) (v := .int (zi (k))) (C := RX1) (T := TX1) (N := 3) (pc := 30) hx hb hT inT1 hown hK.1 hP 3 rfl rfl 2 (by decide) (hT _ tw_67) (fun _ h9 => h9) rfl dX3_fails_30 ?_
      refine z_icmp_ge (tgt := 114) (pc := 33) hx hb dX3_fails_33 (by decide) (by omega) (by omega) (fun c_2 => absurd c_2 (by omega)) (fun c_2 => ?_)
      have ej : k.toNat - u = (k.toNat - (u + 1)) + 1 := by omega
      have ek : k.toNat - (k.toNat - (u + 1) + 1) = u := by omega
      refine lv_aload_n (pc := 36) hx hb dX3_fails_36 rfl (lv_at hl 0 rfl) ?_
      refine va_get (D := D) (cl := vwCl) (ci := 3) (v := .ref (ad 4)) (C := RX3) (T := TX3) (N := 7) (pc := 37) hx hb hT inT3 hown hK.1 hP 0 rfl rfl 3 (by decide) (hT _ tw_78) (fun _ h9 => h9) rfl dX3_fails_37 ?_
      refine lv_aload_n (pc := 40) hx hb dX3_fails_40 rfl (lv_at hl 0 rfl) ?_
      refine va_get (D := D) (cl := vwCl) (ci := 3) (v := .ref (ad 3)) (C := RX3) (T := TX3) (N := 7) (pc := 41) hx hb hT inT3 hown hK.1 hP 0 rfl rfl 2 (by decide) (hT _ tw_77) (fun _ h9 => h9) rfl dX3_fails_41 ?_
      refine va_get (D := D) (cl := vwCl) (ci := 1) (v := .ref (ad 11)) (C := RX1) (T := TX1) (N := 3) (pc := 44) hx hb hT inT1 hown hK.1 hP 3 rfl rfl 0 (by decide) (hT _ tw_63) (fun _ h9 => h9) rfl dX3_fails_44 ?_
      refine lv_iload (pc := 47) hx hb dX3_fails_47 (lv_at hl 3 rfl) ?_
      refine z_iald (pc := 49) hx hb hK hP 11 (u) (f := ts) rfl (by omega) (by omega) (by omega) dX3_fails_49 ?_
      have r_3 := hts (u)
      refine z_iald (pc := 50) hx hb hK hP 4 (((ts (u))).toNat) (f := sp) rfl (by omega) (by omega) (by omega) dX3_fails_50 ?_
      have r_4 := hsp (((ts (u))).toNat) (by omega)
      refine lv_istore (lv' := [(5, .int (zi ((sp (((ts (u))).toNat))))), (0, .ref (ad 0)), (2, .int (zi (z1))), (3, .int (zi (z2))), (4, .int (zi (z3)))]) (pc := 51) hx hb dX3_fails_51 hl (by decide) rfl (fun ls hl => ?_)
      refine lv_aload_n (pc := 53) hx hb dX3_fails_53 rfl (lv_at hl 1 rfl) ?_
      refine va_get (D := D) (cl := vwCl) (ci := 3) (v := .ref (ad 3)) (C := RX3) (T := TX3) (N := 7) (pc := 54) hx hb hT inT3 hown hK.1 hP 0 rfl rfl 2 (by decide) (hT _ tw_77) (fun _ h9 => h9) rfl dX3_fails_54 ?_
      refine va_get (D := D) (cl := vwCl) (ci := 1) (v := .ref (ad 12)) (C := RX1) (T := TX1) (N := 3) (pc := 57) hx hb hT inT1 hown hK.1 hP 3 rfl rfl 1 (by decide) (hT _ tw_65) (fun _ h9 => h9) rfl dX3_fails_57 ?_
      refine lv_iload (pc := 60) hx hb dX3_fails_60 (lv_at hl 4 rfl) ?_
      refine z_iald (pc := 62) hx hb hK hP 12 (u) (f := th) rfl (by omega) (by omega) (by omega) dX3_fails_62 ?_
      have r_5 := hth (u)
      refine lv_iload (pc := 63) hx hb dX3_fails_63 (lv_at hl 0 rfl) ?_
      refine z_imul (pc := 65) hx hb dX3_fails_65 ?_
      have hm := mul_rng (a := th u) (b := sp (ts u).toNat) (A := 500) (B := 1000) (by omega) (by omega)
      refine lv_iload_n (pc := 66) hx hb dX3_fails_66 rfl (lv_at hl 2 rfl) ?_
      refine z_icmp_lt (tgt := 79) (pc := 67) hx hb dX3_fails_67 (by decide) (by omega) (by omega) (fun c_6 => ?_) (fun c_6 => ?_)
      · refine lv_iload_n (pc := 79) hx hb dX3_fails_79 rfl (lv_at hl 2 rfl) ?_
        refine lv_aload_n (pc := 80) hx hb dX3_fails_80 rfl (lv_at hl 1 rfl) ?_
        refine va_get (D := D) (cl := vwCl) (ci := 3) (v := .ref (ad 3)) (C := RX3) (T := TX3) (N := 7) (pc := 81) hx hb hT inT3 hown hK.1 hP 0 rfl rfl 2 (by decide) (hT _ tw_77) (fun _ h9 => h9) rfl dX3_fails_81 ?_
        refine va_get (D := D) (cl := vwCl) (ci := 1) (v := .ref (ad 12)) (C := RX1) (T := TX1) (N := 3) (pc := 84) hx hb hT inT1 hown hK.1 hP 3 rfl rfl 1 (by decide) (hT _ tw_65) (fun _ h9 => h9) rfl dX3_fails_84 ?_
        refine lv_iload (pc := 87) hx hb dX3_fails_87 (lv_at hl 4 rfl) ?_
        refine z_iald (pc := 89) hx hb hK hP 12 (u) (f := th) rfl (by omega) (by omega) (by omega) dX3_fails_89 ?_
        have r_7 := hth (u)
        refine lv_iload (pc := 90) hx hb dX3_fails_90 (lv_at hl 0 rfl) ?_
        refine z_imul (pc := 92) hx hb dX3_fails_92 ?_
        refine z_isub (pc := 93) hx hb dX3_fails_93 ?_
        refine lv_istore_n (lv' := [(2, .int (zi ((z1 - ((th (u)) * (sp (((ts (u))).toNat))))))), (5, .int (zi ((sp (((ts (u))).toNat))))), (0, .ref (ad 0)), (3, .int (zi (z2))), (4, .int (zi (z3)))]) (pc := 94) hx hb dX3_fails_94 rfl hl (by decide) rfl (fun ls hl => ?_)
        refine lv_iload_n (pc := 95) hx hb dX3_fails_95 rfl (lv_at hl 3 rfl) ?_
        refine lv_aload_n (pc := 96) hx hb dX3_fails_96 rfl (lv_at hl 2 rfl) ?_
        refine va_get (D := D) (cl := vwCl) (ci := 3) (v := .ref (ad 3)) (C := RX3) (T := TX3) (N := 7) (pc := 97) hx hb hT inT3 hown hK.1 hP 0 rfl rfl 2 (by decide) (hT _ tw_77) (fun _ h9 => h9) rfl dX3_fails_97 ?_
        refine va_get (D := D) (cl := vwCl) (ci := 1) (v := .ref (ad 12)) (C := RX1) (T := TX1) (N := 3) (pc := 100) hx hb hT inT1 hown hK.1 hP 3 rfl rfl 1 (by decide) (hT _ tw_65) (fun _ h9 => h9) rfl dX3_fails_100 ?_
        refine lv_iload (pc := 103) hx hb dX3_fails_103 (lv_at hl 4 rfl) ?_
        refine z_iald (pc := 105) hx hb hK hP 12 (u) (f := th) rfl (by omega) (by omega) (by omega) dX3_fails_105 ?_
        have r_8 := hth (u)
        refine z_iadd (pc := 106) hx hb dX3_fails_106 ?_
        refine lv_istore_n (lv' := [(3, .int (zi ((z2 + (th (u)))))), (2, .int (zi ((z1 - ((th (u)) * (sp (((ts (u))).toNat))))))), (5, .int (zi ((sp (((ts (u))).toNat))))), (0, .ref (ad 0)), (4, .int (zi (z3)))]) (pc := 107) hx hb dX3_fails_107 rfl hl (by decide) rfl (fun ls hl => ?_)
        refine lv_iinc (v := zi (z3 + 1)) (lv' := [(4, .int (zi ((z3 + 1)))), (3, .int (zi ((z2 + (th (u)))))), (2, .int (zi ((z1 - ((th (u)) * (sp (((ts (u))).toNat))))))), (5, .int (zi ((sp (((ts (u))).toNat))))), (0, .ref (ad 0))]) (pc := 108) hx hb dX3_fails_108 hl (k := 4) rfl (zi_add _ _) (by decide) rfl (fun ls hl => ?_)
        refine lv_goto (tgt := 24) (pc := 111) hx hb dX3_fails_111 (by decide) ?_
        exact ih  _ _ _ (by rw [← e1, ej, failC, ek, if_neg (by omega)]) (by rw [e2]; rfl) (e3) (by omega) (by omega) ls (lv_sub hl [4, 2, 1, 0] rfl)
      · refine lv_iload_n (pc := 70) hx hb dX3_fails_70 rfl (lv_at hl 3 rfl) ?_
        refine lv_iload_n (pc := 71) hx hb dX3_fails_71 rfl (lv_at hl 2 rfl) ?_
        refine lv_iload (pc := 72) hx hb dX3_fails_72 (lv_at hl 0 rfl) ?_
        refine rd_S (pc := 74) hx hb hml hown hT hK (c_X3_roundedUp D cI cJ l (z1) ((sp (((ts (u))).toNat))) (by omega)) ca_X3_roundedUp tw_295 va_Pnil ⟨Nat.le_of_ble_eq_true rfl, Nat.le_of_ble_eq_true rfl⟩ rfl hl.1 (As := [.int (zi (z1)), .int (zi ((sp (((ts (u))).toNat))))]) (rest := [.int (zi (z2))]) rfl (Nat.le_of_ble_eq_true rfl) ⟨Nat.le_of_ble_eq_true rfl, Nat.le_of_ble_eq_true rfl⟩ dX3_fails_74 ?_
        refine z_iadd (pc := 77) hx hb dX3_fails_77 ?_
        exact rd_iret hx hb hrt hlk dX3_fails_78 (by rw [failsV, if_pos e3, ← e1, ej, failC, ek, if_pos (by omega)])
  refine lv_iload_n (pc := 0) hx hb dX3_fails_0 rfl (lv_at hl 1 rfl) ?_
  refine z_iconst (pc := 1) hx hb dX3_fails_1 ?_
  refine z_ldc (pc := 2) hx hb (100000) hown (hT _ tw_253) (by decide) dX3_fails_2 ?_
  refine rd_S (pc := 4) hx hb hml hown hT hK (c_X3_isWithin D cI cJ l (f) (by omega) (1) (by omega) (100000) (by omega)) ca_X3_isWithin tw_107 va_Pnil ⟨Nat.le_of_ble_eq_true rfl, Nat.le_of_ble_eq_true rfl⟩ rfl hl.1 (As := [.int (zi (f)), .int (zi (1)), .int (zi (100000))]) (rest := []) rfl (Nat.le_of_ble_eq_true rfl) ⟨Nat.le_of_ble_eq_true rfl, Nat.le_of_ble_eq_true rfl⟩ dX3_fails_4 ?_
  refine z_ifB_ne (tgt := 14) (pc := 7) hx hb dX3_fails_7 (by decide) (fun c_9 => ?_) (fun c_9 => ?_)
  · refine lv_iload_n (pc := 14) hx hb dX3_fails_14 rfl (lv_at hl 1 rfl) ?_
    refine z_bipush (pc := 15) hx hb dX3_fails_15 (by decide) ?_
    refine z_imul (pc := 17) hx hb dX3_fails_17 ?_
    refine lv_istore_n (lv' := [(2, .int (zi ((f * 10)))), (0, .ref (ad 0)), (1, .int (zi (f)))]) (pc := 18) hx hb dX3_fails_18 rfl hl (by decide) rfl (fun ls hl => ?_)
    refine z_iconst (pc := 19) hx hb dX3_fails_19 ?_
    refine lv_istore_n (lv' := [(3, .int (zi (0))), (2, .int (zi ((f * 10)))), (0, .ref (ad 0)), (1, .int (zi (f)))]) (pc := 20) hx hb dX3_fails_20 rfl hl (by decide) rfl (fun ls hl => ?_)
    refine z_iconst (pc := 21) hx hb dX3_fails_21 ?_
    refine lv_istore (lv' := [(4, .int (zi (0))), (3, .int (zi (0))), (2, .int (zi ((f * 10)))), (0, .ref (ad 0)), (1, .int (zi (f)))]) (pc := 22) hx hb dX3_fails_22 hl (by decide) rfl (fun ls hl => ?_)
    exact loop 0 (by omega) _ _ _ (by rfl) (by rfl) (by omega) (by omega) (by omega) ls (lv_sub hl [3, 2, 1, 0] rfl)
  · refine z_sipush (pc := 10) hx hb dX3_fails_10 (by decide) ?_
    exact rd_iret hx hb hrt hlk dX3_fails_13 (by rw [failsV, if_neg (by omega)])

set_option maxHeartbeats 4000000 in
set_option maxRecDepth 100000 in
theorem c_X3_rule (D : va_G) (cI cJ : ClassId) (l : Launch) (ad : Nat → Nat) (n : Int) (st hr ca : Nat → Int) (pcs : Int) (fr lv : Nat → Int) (k : Int) (ts th sp hv : Nat → Int) (pr hc : Int) (w : Int) (r_w : -2147483648 ≤ w ∧ w ≤ 2147483647) (v : Int) (r_v : -2147483648 ≤ v ∧ v ≤ 2147483647) : WR D cI cJ l yX3_rule cX3_rule 4 (some .int) 1 22 [.ref (ad 0), .int (zi (w)), .int (zi (v))] (wX ad cI cJ n st hr ca pcs fr lv k ts th sp hv pr hc) (fun v' ws' => ∃ x : Int × Int × Int, x = ruleS pr hc w v ∧ v' = .int (zi x.1) ∧ ws' = (wX ad cI cJ n st hr ca pcs fr lv k ts th sp hv x.2.1 x.2.2)) := by
  refine WR.of (by decide) (Nat.le_of_ble_eq_true rfl) ?_
  intro p e s m args below meth c hx hb hrt hml hown hT hlk hK hP hD hS ls hl
  replace hl : lv_has ls 4 [(0, .ref (ad 0)), (1, .int (zi (w))), (2, .int (zi (v)))] := hl
  refine lv_iload_n (pc := 0) hx hb dX3_rule_0 rfl (lv_at hl 1 rfl) ?_
  refine z_if_ne (tgt := 27) (pc := 1) hx hb dX3_rule_1 (by decide) (by omega) (fun c_1 => ?_) (fun c_1 => ?_)
  · refine lv_iload_n (pc := 27) hx hb dX3_rule_27 rfl (lv_at hl 1 rfl) ?_
    refine z_iconst (pc := 28) hx hb dX3_rule_28 ?_
    refine z_icmp_ne (tgt := 54) (pc := 29) hx hb dX3_rule_29 (by decide) (by omega) (by omega) (fun c_2 => ?_) (fun c_2 => ?_)
    · refine z_sipush (pc := 54) hx hb dX3_rule_54 (by decide) ?_
      exact wr_iret hx hb hrt hlk dX3_rule_57 hP hS (⟨(-1002, pr, hc), by rw [ruleS, if_neg (by omega), if_neg (by omega)], rfl, rfl⟩)
    · refine lv_iload_n (pc := 32) hx hb dX3_rule_32 rfl (lv_at hl 2 rfl) ?_
      refine z_iconst (pc := 33) hx hb dX3_rule_33 ?_
      refine z_bipush (pc := 34) hx hb dX3_rule_34 (by decide) ?_
      refine rd_S (pc := 36) hx hb hml hown hT hK (c_X3_isWithin D cI cJ l (v) (by omega) (0) (by omega) (20) (by omega)) ca_X3_isWithin tw_107 va_Pnil ⟨Nat.le_of_ble_eq_true rfl, Nat.le_of_ble_eq_true rfl⟩ rfl hl.1 (As := [.int (zi (v)), .int (zi (0)), .int (zi (20))]) (rest := []) rfl (Nat.le_of_ble_eq_true rfl) ⟨Nat.le_of_ble_eq_true rfl, Nat.le_of_ble_eq_true rfl⟩ dX3_rule_36 ?_
      refine z_ifB_eq (tgt := 54) (pc := 39) hx hb dX3_rule_39 (by decide) (fun c_3 => ?_) (fun c_3 => ?_)
      · refine z_sipush (pc := 54) hx hb dX3_rule_54 (by decide) ?_
        exact wr_iret hx hb hrt hlk dX3_rule_57 hP hS (⟨(-1002, pr, hc), by rw [ruleS, if_neg (by omega), if_neg (by omega)], rfl, rfl⟩)
      · refine lv_aload_n (pc := 42) hx hb dX3_rule_42 rfl (lv_at hl 0 rfl) ?_
        refine va_get (D := D) (cl := vwCl) (ci := 3) (v := .int (zi (hc))) (C := RX3) (T := TX3) (N := 7) (pc := 43) hx hb hT inT3 hown hK.1 hP 0 rfl rfl 6 (by decide) (hT _ tw_81) (fun _ h9 => h9) rfl dX3_rule_43 ?_
        refine lv_istore_n (lv' := [(3, .int (zi (hc))), (0, .ref (ad 0)), (1, .int (zi (w))), (2, .int (zi (v)))]) (pc := 46) hx hb dX3_rule_46 rfl hl (by decide) rfl (fun ls hl => ?_)
        refine lv_aload_n (pc := 47) hx hb dX3_rule_47 rfl (lv_at hl 1 rfl) ?_
        refine lv_iload_n (pc := 48) hx hb dX3_rule_48 rfl (lv_at hl 3 rfl) ?_
        refine va_put (D := D) (cl := vwCl) (ci := 3) (v := .int (zi (v))) (ty := .int) (C := RX3) (T := TX3) (N := 7) (pc := 49) hx hb hT inT3 tyX3 tyX3_ok nmX3 hown hK.1 hP hD hS 0 rfl rfl 6 (by decide) (hT _ tw_81) (fun _ h9 => h9) rfl (by decide +kernel) rfl rfl (Nat.le_of_ble_eq_true rfl) dX3_rule_49 (fun H locs hP hD hS => ?_)
        replace hP : va_P D vwCl (wX ad cI cJ n st hr ca pcs fr lv k ts th sp hv pr v) H := hP
        replace hD : va_D (inW (wX ad cI cJ n st hr ca pcs fr lv k ts th sp hv pr hc)) (wX ad cI cJ n st hr ca pcs fr lv k ts th sp hv pr v) := hD
        refine lv_iload_n (pc := 52) hx hb dX3_rule_52 rfl (lv_at hl 0 rfl) ?_
        exact wr_iret hx hb hrt hlk dX3_rule_53 hP hS (⟨(hc, pr, v), by rw [ruleS, if_neg (by omega), if_pos (by omega)], rfl, rfl⟩)
  · refine lv_iload_n (pc := 4) hx hb dX3_rule_4 rfl (lv_at hl 2 rfl) ?_
    refine z_iconst (pc := 5) hx hb dX3_rule_5 ?_
    refine z_sipush (pc := 6) hx hb dX3_rule_6 (by decide) ?_
    refine rd_S (pc := 9) hx hb hml hown hT hK (c_X3_isWithin D cI cJ l (v) (by omega) (1) (by omega) (500) (by omega)) ca_X3_isWithin tw_107 va_Pnil ⟨Nat.le_of_ble_eq_true rfl, Nat.le_of_ble_eq_true rfl⟩ rfl hl.1 (As := [.int (zi (v)), .int (zi (1)), .int (zi (500))]) (rest := []) rfl (Nat.le_of_ble_eq_true rfl) ⟨Nat.le_of_ble_eq_true rfl, Nat.le_of_ble_eq_true rfl⟩ dX3_rule_9 ?_
    refine z_ifB_eq (tgt := 27) (pc := 12) hx hb dX3_rule_12 (by decide) (fun c_4 => ?_) (fun c_4 => ?_)
    · refine lv_iload_n (pc := 27) hx hb dX3_rule_27 rfl (lv_at hl 1 rfl) ?_
      refine z_iconst (pc := 28) hx hb dX3_rule_28 ?_
      refine z_icmp_ne (tgt := 54) (pc := 29) hx hb dX3_rule_29 (by decide) (by omega) (by omega) (fun c_5 => ?_) (fun c_5 => ?_)
      · refine z_sipush (pc := 54) hx hb dX3_rule_54 (by decide) ?_
        exact wr_iret hx hb hrt hlk dX3_rule_57 hP hS (⟨(-1002, pr, hc), by rw [ruleS, if_neg (by omega), if_neg (by omega)], rfl, rfl⟩)
      · refine lv_iload_n (pc := 32) hx hb dX3_rule_32 rfl (lv_at hl 2 rfl) ?_
        refine z_iconst (pc := 33) hx hb dX3_rule_33 ?_
        refine z_bipush (pc := 34) hx hb dX3_rule_34 (by decide) ?_
        refine rd_S (pc := 36) hx hb hml hown hT hK (c_X3_isWithin D cI cJ l (v) (by omega) (0) (by omega) (20) (by omega)) ca_X3_isWithin tw_107 va_Pnil ⟨Nat.le_of_ble_eq_true rfl, Nat.le_of_ble_eq_true rfl⟩ rfl hl.1 (As := [.int (zi (v)), .int (zi (0)), .int (zi (20))]) (rest := []) rfl (Nat.le_of_ble_eq_true rfl) ⟨Nat.le_of_ble_eq_true rfl, Nat.le_of_ble_eq_true rfl⟩ dX3_rule_36 ?_
        refine z_ifB_eq (tgt := 54) (pc := 39) hx hb dX3_rule_39 (by decide) (fun c_6 => ?_) (fun c_6 => ?_)
        · refine z_sipush (pc := 54) hx hb dX3_rule_54 (by decide) ?_
          exact wr_iret hx hb hrt hlk dX3_rule_57 hP hS (⟨(-1002, pr, hc), by rw [ruleS, if_neg (by omega), if_neg (by omega)], rfl, rfl⟩)
        · refine lv_aload_n (pc := 42) hx hb dX3_rule_42 rfl (lv_at hl 0 rfl) ?_
          refine va_get (D := D) (cl := vwCl) (ci := 3) (v := .int (zi (hc))) (C := RX3) (T := TX3) (N := 7) (pc := 43) hx hb hT inT3 hown hK.1 hP 0 rfl rfl 6 (by decide) (hT _ tw_81) (fun _ h9 => h9) rfl dX3_rule_43 ?_
          refine lv_istore_n (lv' := [(3, .int (zi (hc))), (0, .ref (ad 0)), (1, .int (zi (w))), (2, .int (zi (v)))]) (pc := 46) hx hb dX3_rule_46 rfl hl (by decide) rfl (fun ls hl => ?_)
          refine lv_aload_n (pc := 47) hx hb dX3_rule_47 rfl (lv_at hl 1 rfl) ?_
          refine lv_iload_n (pc := 48) hx hb dX3_rule_48 rfl (lv_at hl 3 rfl) ?_
          refine va_put (D := D) (cl := vwCl) (ci := 3) (v := .int (zi (v))) (ty := .int) (C := RX3) (T := TX3) (N := 7) (pc := 49) hx hb hT inT3 tyX3 tyX3_ok nmX3 hown hK.1 hP hD hS 0 rfl rfl 6 (by decide) (hT _ tw_81) (fun _ h9 => h9) rfl (by decide +kernel) rfl rfl (Nat.le_of_ble_eq_true rfl) dX3_rule_49 (fun H locs hP hD hS => ?_)
          replace hP : va_P D vwCl (wX ad cI cJ n st hr ca pcs fr lv k ts th sp hv pr v) H := hP
          replace hD : va_D (inW (wX ad cI cJ n st hr ca pcs fr lv k ts th sp hv pr hc)) (wX ad cI cJ n st hr ca pcs fr lv k ts th sp hv pr v) := hD
          refine lv_iload_n (pc := 52) hx hb dX3_rule_52 rfl (lv_at hl 0 rfl) ?_
          exact wr_iret hx hb hrt hlk dX3_rule_53 hP hS (⟨(hc, pr, v), by rw [ruleS, if_neg (by omega), if_pos (by omega)], rfl, rfl⟩)
    · refine lv_aload_n (pc := 15) hx hb dX3_rule_15 rfl (lv_at hl 0 rfl) ?_
      refine va_get (D := D) (cl := vwCl) (ci := 3) (v := .int (zi (pr))) (C := RX3) (T := TX3) (N := 7) (pc := 16) hx hb hT inT3 hown hK.1 hP 0 rfl rfl 5 (by decide) (hT _ tw_80) (fun _ h9 => h9) rfl dX3_rule_16 ?_
      refine lv_istore_n (lv' := [(3, .int (zi (pr))), (0, .ref (ad 0)), (1, .int (zi (w))), (2, .int (zi (v)))]) (pc := 19) hx hb dX3_rule_19 rfl hl (by decide) rfl (fun ls hl => ?_)
      refine lv_aload_n (pc := 20) hx hb dX3_rule_20 rfl (lv_at hl 1 rfl) ?_
      refine lv_iload_n (pc := 21) hx hb dX3_rule_21 rfl (lv_at hl 3 rfl) ?_
      refine va_put (D := D) (cl := vwCl) (ci := 3) (v := .int (zi (v))) (ty := .int) (C := RX3) (T := TX3) (N := 7) (pc := 22) hx hb hT inT3 tyX3 tyX3_ok nmX3 hown hK.1 hP hD hS 0 rfl rfl 5 (by decide) (hT _ tw_80) (fun _ h9 => h9) rfl (by decide +kernel) rfl rfl (Nat.le_of_ble_eq_true rfl) dX3_rule_22 (fun H locs hP hD hS => ?_)
      replace hP : va_P D vwCl (wX ad cI cJ n st hr ca pcs fr lv k ts th sp hv v hc) H := hP
      replace hD : va_D (inW (wX ad cI cJ n st hr ca pcs fr lv k ts th sp hv pr hc)) (wX ad cI cJ n st hr ca pcs fr lv k ts th sp hv v hc) := hD
      refine lv_iload_n (pc := 25) hx hb dX3_rule_25 rfl (lv_at hl 0 rfl) ?_
      exact wr_iret hx hb hrt hlk dX3_rule_26 hP hS (⟨(pr, v, hc), by rw [ruleS, if_pos (by omega)], rfl, rfl⟩)

set_option maxHeartbeats 4000000 in
set_option maxRecDepth 100000 in
theorem c_X3_end (D : va_G) (cI cJ : ClassId) (l : Launch) (ad : Nat → Nat) (n : Int) (st hr ca : Nat → Int) (pcs : Int) (fr lv : Nat → Int) (k : Int) (ts th sp hv : Nat → Int) (pr hc : Int) (x : Int) (r_x : -2147483648 ≤ x ∧ x ≤ 2147483647) (y : Int) (r_y : -2147483648 ≤ y ∧ y ≤ 2147483647) (t : Int) (r_t : -2147483648 ≤ t ∧ t ≤ 2147483647) (w : Int) (r_w : -2147483648 ≤ w ∧ w ≤ 2147483647) : RD D cI cJ l yX3_end cX3_end 5 (some .int) 3 73 [.ref (ad 0), .int (zi (x)), .int (zi (y)), .int (zi (t)), .int (zi (w))] (wX ad cI cJ n st hr ca pcs fr lv k ts th sp hv pr hc) (.int (zi (endV x y t w))) := by
  refine RD.of (by decide) (Nat.le_of_ble_eq_true rfl) ?_
  intro p e s m args below meth c hx hb hrt hml hown hT hlk hK hP ls hl
  replace hl : lv_has ls 5 [(0, .ref (ad 0)), (1, .int (zi (x))), (2, .int (zi (y))), (3, .int (zi (t))), (4, .int (zi (w)))] := hl
  refine lv_iload_n (pc := 0) hx hb dX3_end_0 rfl (lv_at hl 1 rfl) ?_
  refine z_iconst (pc := 1) hx hb dX3_end_1 ?_
  refine z_bipush (pc := 2) hx hb dX3_end_2 (by decide) ?_
  refine rd_S (pc := 4) hx hb hml hown hT hK (c_X3_isWithin D cI cJ l (x) (by omega) (1) (by omega) (12) (by omega)) ca_X3_isWithin tw_107 va_Pnil ⟨Nat.le_of_ble_eq_true rfl, Nat.le_of_ble_eq_true rfl⟩ rfl hl.1 (As := [.int (zi (x)), .int (zi (1)), .int (zi (12))]) (rest := []) rfl (Nat.le_of_ble_eq_true rfl) ⟨Nat.le_of_ble_eq_true rfl, Nat.le_of_ble_eq_true rfl⟩ dX3_end_4 ?_
  refine z_ifB_eq (tgt := 40) (pc := 7) hx hb dX3_end_7 (by decide) (fun c_1 => ?_) (fun c_1 => ?_)
  · refine z_sipush (pc := 40) hx hb dX3_end_40 (by decide) ?_
    exact rd_iret hx hb hrt hlk dX3_end_43 (by rw [endV, if_neg (by omega)])
  · refine lv_iload_n (pc := 10) hx hb dX3_end_10 rfl (lv_at hl 2 rfl) ?_
    refine z_iconst (pc := 11) hx hb dX3_end_11 ?_
    refine lv_iload_n (pc := 12) hx hb dX3_end_12 rfl (lv_at hl 1 rfl) ?_
    refine rd_S (pc := 13) hx hb hml hown hT hK (c_X3_isWithin D cI cJ l (y) (by omega) (0) (by omega) (x) (by omega)) ca_X3_isWithin tw_107 va_Pnil ⟨Nat.le_of_ble_eq_true rfl, Nat.le_of_ble_eq_true rfl⟩ rfl hl.1 (As := [.int (zi (y)), .int (zi (0)), .int (zi (x))]) (rest := []) rfl (Nat.le_of_ble_eq_true rfl) ⟨Nat.le_of_ble_eq_true rfl, Nat.le_of_ble_eq_true rfl⟩ dX3_end_13 ?_
    refine z_ifB_eq (tgt := 40) (pc := 16) hx hb dX3_end_16 (by decide) (fun c_2 => ?_) (fun c_2 => ?_)
    · refine z_sipush (pc := 40) hx hb dX3_end_40 (by decide) ?_
      exact rd_iret hx hb hrt hlk dX3_end_43 (by rw [endV, if_neg (by omega)])
    · refine lv_iload_n (pc := 19) hx hb dX3_end_19 rfl (lv_at hl 3 rfl) ?_
      refine z_bipush (pc := 20) hx hb dX3_end_20 (by decide) ?_
      refine z_bipush (pc := 22) hx hb dX3_end_22 (by decide) ?_
      refine rd_S (pc := 24) hx hb hml hown hT hK (c_X3_isWithin D cI cJ l (t) (by omega) (50) (by omega) (99) (by omega)) ca_X3_isWithin tw_107 va_Pnil ⟨Nat.le_of_ble_eq_true rfl, Nat.le_of_ble_eq_true rfl⟩ rfl hl.1 (As := [.int (zi (t)), .int (zi (50)), .int (zi (99))]) (rest := []) rfl (Nat.le_of_ble_eq_true rfl) ⟨Nat.le_of_ble_eq_true rfl, Nat.le_of_ble_eq_true rfl⟩ dX3_end_24 ?_
      refine z_ifB_eq (tgt := 40) (pc := 27) hx hb dX3_end_27 (by decide) (fun c_3 => ?_) (fun c_3 => ?_)
      · refine z_sipush (pc := 40) hx hb dX3_end_40 (by decide) ?_
        exact rd_iret hx hb hrt hlk dX3_end_43 (by rw [endV, if_neg (by omega)])
      · refine lv_iload (pc := 30) hx hb dX3_end_30 (lv_at hl 4 rfl) ?_
        refine z_iconst (pc := 32) hx hb dX3_end_32 ?_
        refine z_iconst (pc := 33) hx hb dX3_end_33 ?_
        refine rd_S (pc := 34) hx hb hml hown hT hK (c_X3_isWithin D cI cJ l (w) (by omega) (0) (by omega) (1) (by omega)) ca_X3_isWithin tw_107 va_Pnil ⟨Nat.le_of_ble_eq_true rfl, Nat.le_of_ble_eq_true rfl⟩ rfl hl.1 (As := [.int (zi (w)), .int (zi (0)), .int (zi (1))]) (rest := []) rfl (Nat.le_of_ble_eq_true rfl) ⟨Nat.le_of_ble_eq_true rfl, Nat.le_of_ble_eq_true rfl⟩ dX3_end_34 ?_
        refine z_ifB_ne (tgt := 44) (pc := 37) hx hb dX3_end_37 (by decide) (fun c_4 => ?_) (fun c_4 => ?_)
        · refine lv_iload (pc := 44) hx hb dX3_end_44 (lv_at hl 4 rfl) ?_
          refine z_if_ne (tgt := 61) (pc := 46) hx hb dX3_end_46 (by decide) (by omega) (fun c_5 => ?_) (fun c_5 => ?_)
          · refine lv_iload_n (pc := 61) hx hb dX3_end_61 rfl (lv_at hl 1 rfl) ?_
            refine lv_iload_n (pc := 62) hx hb dX3_end_62 rfl (lv_at hl 2 rfl) ?_
            refine z_bipush (pc := 63) hx hb dX3_end_63 (by decide) ?_
            refine lv_iload_n (pc := 65) hx hb dX3_end_65 rfl (lv_at hl 3 rfl) ?_
            refine z_isub (pc := 66) hx hb dX3_end_66 ?_
            refine rd_S (pc := 67) hx hb hml hown hT hK (c_X3_highEnd D cI cJ l (x) (y) ((100 - t)) x.toNat y.toNat (by omega) (by omega) (by omega)) ca_X3_highEnd tw_318 va_Pnil ⟨Nat.le_of_ble_eq_true rfl, Nat.le_of_ble_eq_true rfl⟩ rfl hl.1 (As := [.int (zi (x)), .int (zi (y)), .int (zi ((100 - t)))]) (rest := []) rfl (Nat.le_of_ble_eq_true rfl) ⟨Nat.le_of_ble_eq_true rfl, Nat.le_of_ble_eq_true rfl⟩ dX3_end_67 ?_
            exact rd_iret hx hb hrt hlk dX3_end_70 (by rw [endV, if_pos (by omega), if_neg (by omega)])
          · refine lv_iload_n (pc := 49) hx hb dX3_end_49 rfl (lv_at hl 1 rfl) ?_
            refine lv_iload_n (pc := 50) hx hb dX3_end_50 rfl (lv_at hl 2 rfl) ?_
            refine z_bipush (pc := 51) hx hb dX3_end_51 (by decide) ?_
            refine lv_iload_n (pc := 53) hx hb dX3_end_53 rfl (lv_at hl 3 rfl) ?_
            refine z_isub (pc := 54) hx hb dX3_end_54 ?_
            refine rd_S (pc := 55) hx hb hml hown hT hK (c_X3_lowEnd D cI cJ l (x) (y) ((100 - t)) x.toNat y.toNat (by omega) (by omega) (by omega)) ca_X3_lowEnd tw_302 va_Pnil ⟨Nat.le_of_ble_eq_true rfl, Nat.le_of_ble_eq_true rfl⟩ rfl hl.1 (As := [.int (zi (x)), .int (zi (y)), .int (zi ((100 - t)))]) (rest := []) rfl (Nat.le_of_ble_eq_true rfl) ⟨Nat.le_of_ble_eq_true rfl, Nat.le_of_ble_eq_true rfl⟩ dX3_end_55 ?_
            refine lv_goto (tgt := 70) (pc := 58) hx hb dX3_end_58 (by decide) ?_
            exact rd_iret hx hb hrt hlk dX3_end_70 (by rw [endV, if_pos (by omega), if_pos (by omega)])
        · refine z_sipush (pc := 40) hx hb dX3_end_40 (by decide) ?_
          exact rd_iret hx hb hrt hlk dX3_end_43 (by rw [endV, if_neg (by omega)])
end
section
set_option maxHeartbeats 4000000 in
set_option maxRecDepth 100000 in
theorem c_X3_plan (D : va_G) (cI cJ : ClassId) (l : Launch) (ad : Nat → Nat) (n : Int) (st hr ca : Nat → Int) (pcs : Int) (fr lv : Nat → Int) (k : Int) (ts th sp hv : Nat → Int) (pr hc : Int) (hV : VT k ts th sp pr hc) (m : Int) (r_m : -2147483648 ≤ m ∧ m ≤ 2147483647) (h : Int) (r_h : -2147483648 ≤ h ∧ h ≤ 2147483647) (w : Int) (r_w : -2147483648 ≤ w ∧ w ≤ 2147483647) (a b : Int) (hbest : isBest (cuZ pr hc h) (chZ pr hc h (sp 2)) m a b) : RD D cI cJ l yX3_plan cX3_plan 9 (some .int) 2 42 [.ref (ad 0), .int (zi (m)), .int (zi (h)), .int (zi (w))] (wX ad cI cJ n st hr ca pcs fr lv k ts th sp hv pr hc) (.int (zi (planV pr hc m h w (sp 2) a b))) := by
  refine RD.of (by decide) (Nat.le_of_ble_eq_true rfl) ?_
  intro p e s mm args below meth c hx hb hrt hml hown hT hlk hK hP ls hl
  replace hl : lv_has ls 9 [(0, .ref (ad 0)), (1, .int (zi (m))), (2, .int (zi (h))), (3, .int (zi (w)))] := hl
  obtain ⟨hk, hts, hth, ht1, hsp, hpr, hhc⟩ := id hV
  obtain ⟨hba, hbb, hfe, hbst⟩ := id hbest
  have inner : ∀ (z6 : Int), (1 ≤ z6 ∧ z6 ≤ 24) → ((0 ≤ m ∧ m ≤ 10000) ∧ (1 ≤ h ∧ h ≤ 500) ∧ (0 ≤ w ∧ w ≤ 2)) → (a + b < z6 → ∀ ls : Array Slot, lv_has ls 9 [(0, .ref (ad 0)), (1, .int (zi (m))), (3, .int (zi (w))), (4, .int (zi (cuZ pr hc h))), (5, .int (zi (chZ pr hc h (sp 2)))), (6, .int (zi (z6)))] → W p l e (RM 2 42) s mm args below meth c s.heap [] 0 0 (MQ below (QR (.int (zi (planV pr hc m h w (sp 2) a b))) s.heap) args s 0 0 (fun _ => False)) (F0 mm 158 ls [])) → ∀ u : Nat, u ≤ 13 → ∀ (z7 : Int), (z7 = min z6 12 - (u : Int)) → (a + b < z6 ∨ (a + b = z6 ∧ a ≤ z7)) → ∀ ls : Array Slot, lv_has ls 9 [(0, .ref (ad 0)), (1, .int (zi (m))), (3, .int (zi (w))), (4, .int (zi (cuZ pr hc h))), (5, .int (zi (chZ pr hc h (sp 2)))), (6, .int (zi (z6))), (7, .int (zi (z7)))] → W p l e (RM 2 42) s mm args below meth c s.heap [] 0 0 (MQ below (QR (.int (zi (planV pr hc m h w (sp 2) a b))) s.heap) args s 0 0 (fun _ => False)) (F0 mm 91 ls []) := by
    intro z6 h6 hok hex
    refine lp_up (fun u => ∀ (z7 : Int), (z7 = min z6 12 - (u : Int)) → (a + b < z6 ∨ (a + b = z6 ∧ a ≤ z7)) → ∀ ls : Array Slot, lv_has ls 9 [(0, .ref (ad 0)), (1, .int (zi (m))), (3, .int (zi (w))), (4, .int (zi (cuZ pr hc h))), (5, .int (zi (chZ pr hc h (sp 2)))), (6, .int (zi (z6))), (7, .int (zi (z7)))] → W p l e (RM 2 42) s mm args below meth c s.heap [] 0 0 (MQ below (QR (.int (zi (planV pr hc m h w (sp 2) a b))) s.heap) args s 0 0 (fun _ => False)) (F0 mm 91 ls [])) (13) ?_ ?_
    · intro z7 e7 e8 ls hl
      have hcr := cost_rng hpr hhc hok.2.1 (hsp 2 (by omega))
      refine lv_iload (pc := 91) hx hb dX3_plan_91 (lv_at hl 6 rfl) ?_
      refine z_iconst (pc := 93) hx hb dX3_plan_93 ?_
      refine lv_iload (pc := 94) hx hb dX3_plan_94 (lv_at hl 5 rfl) ?_
      refine z_bipush (pc := 96) hx hb dX3_plan_96 (by decide) ?_
      refine z_isub (pc := 98) hx hb dX3_plan_98 ?_
      refine z_mmax (pc := 99) hx hb (hml.trans hl.1.symm) hown (hT _ tw_330) (hT _ tw_224) (hT _ tw_6) (hT _ tw_225) (Nat.le_of_ble_eq_true rfl) (Nat.le_of_ble_eq_true rfl) (Nat.le_of_ble_eq_true rfl) (Nat.le_of_ble_eq_true rfl) (by omega) (by omega) dX3_plan_99 ?_
      refine z_icmp_lt (tgt := 158) (pc := 102) hx hb dX3_plan_102 (by decide) (by omega) (by omega) (fun c_1 => ?_) (fun c_1 => absurd c_1 (by omega))
      exact hex (by omega) ls (lv_sub hl [0, 1, 2, 3, 4, 5] rfl)
    · intro u hu ih z7 e7 e8 ls hl
      have hcr := cost_rng hpr hhc hok.2.1 (hsp 2 (by omega))
      refine lv_iload (pc := 91) hx hb dX3_plan_91 (lv_at hl 6 rfl) ?_
      refine z_iconst (pc := 93) hx hb dX3_plan_93 ?_
      refine lv_iload (pc := 94) hx hb dX3_plan_94 (lv_at hl 5 rfl) ?_
      refine z_bipush (pc := 96) hx hb dX3_plan_96 (by decide) ?_
      refine z_isub (pc := 98) hx hb dX3_plan_98 ?_
      refine z_mmax (pc := 99) hx hb (hml.trans hl.1.symm) hown (hT _ tw_330) (hT _ tw_224) (hT _ tw_6) (hT _ tw_225) (Nat.le_of_ble_eq_true rfl) (Nat.le_of_ble_eq_true rfl) (Nat.le_of_ble_eq_true rfl) (Nat.le_of_ble_eq_true rfl) (by omega) (by omega) dX3_plan_99 ?_
      refine z_icmp_lt (tgt := 158) (pc := 102) hx hb dX3_plan_102 (by decide) (by omega) (by omega) (fun c_2 => ?_) (fun c_2 => ?_)
      · exact hex (by omega) ls (lv_sub hl [0, 1, 2, 3, 4, 5] rfl)
      · have hm1 := mul_rng (a := z7) (b := cuZ pr hc h) (A := 12) (B := 10500) (by omega) (by omega)
        have hm2 := mul_rng (a := z6 - z7) (b := chZ pr hc h (sp 2)) (A := 12) (B := 120500) (by omega) (by omega)
        refine lv_iload (pc := 105) hx hb dX3_plan_105 (lv_at hl 6 rfl) ?_
        refine lv_iload (pc := 107) hx hb dX3_plan_107 (lv_at hl 3 rfl) ?_
        refine z_imul (pc := 109) hx hb dX3_plan_109 ?_
        refine lv_iload (pc := 110) hx hb dX3_plan_110 (lv_at hl 5 rfl) ?_
        refine lv_iload (pc := 112) hx hb dX3_plan_112 (lv_at hl 6 rfl) ?_
        refine z_isub (pc := 114) hx hb dX3_plan_114 ?_
        refine lv_iload (pc := 115) hx hb dX3_plan_115 (lv_at hl 4 rfl) ?_
        refine z_imul (pc := 117) hx hb dX3_plan_117 ?_
        refine z_iadd (pc := 118) hx hb dX3_plan_118 ?_
        refine lv_istore (lv' := [(8, .int (zi (((z7 * cuZ pr hc h) + ((z6 - z7) * chZ pr hc h (sp 2)))))), (0, .ref (ad 0)), (1, .int (zi (m))), (3, .int (zi (w))), (4, .int (zi (cuZ pr hc h))), (5, .int (zi (chZ pr hc h (sp 2)))), (6, .int (zi (z6))), (7, .int (zi (z7)))]) (pc := 119) hx hb dX3_plan_119 hl (by decide) rfl (fun ls hl => ?_)
        refine lv_iload (pc := 121) hx hb dX3_plan_121 (lv_at hl 0 rfl) ?_
        refine lv_iload_n (pc := 123) hx hb dX3_plan_123 rfl (lv_at hl 2 rfl) ?_
        refine z_icmp_gt (tgt := 152) (pc := 124) hx hb dX3_plan_124 (by decide) (by omega) (by omega) (fun c_3 => ?_) (fun c_3 => ?_)
        · have hne : a + b < z6 ∨ (a + b = z6 ∧ a ≤ z7 + (-1)) := by
            rcases e8 with e8 | e8
            · exact Or.inl e8
            · refine Or.inr ⟨e8.1, ?_⟩
              rcases Int.lt_or_le a z7 with q | q
              · omega
              · exfalso
                have ez : a = z7 := by omega
                have eb : b = z6 - z7 := by omega
                rw [ez, eb] at hfe
                omega
          refine lv_iinc (v := zi (z7 + (-1))) (lv' := [(7, .int (zi ((z7 + (-1))))), (8, .int (zi (((z7 * cuZ pr hc h) + ((z6 - z7) * chZ pr hc h (sp 2)))))), (0, .ref (ad 0)), (1, .int (zi (m))), (3, .int (zi (w))), (4, .int (zi (cuZ pr hc h))), (5, .int (zi (chZ pr hc h (sp 2)))), (6, .int (zi (z6)))]) (pc := 152) hx hb dX3_plan_152 hl (k := 7) rfl (zi_add _ _) (by decide) rfl (fun ls hl => ?_)
          refine lv_goto (tgt := 91) (pc := 155) hx hb dX3_plan_155 (by decide) ?_
          exact ih  _ (by omega) (hne) ls (lv_sub hl [2, 3, 4, 5, 6, 7, 0] rfl)
        · have hq := hbst z7 (z6 - z7) (by omega) (by omega) (by omega)
          have ez : z7 = a := by omega
          have ew : z6 - z7 = b := by omega
          refine lv_iload_n (pc := 127) hx hb dX3_plan_127 rfl (lv_at hl 3 rfl) ?_
          refine z_if_ne (tgt := 136) (pc := 128) hx hb dX3_plan_128 (by decide) (by omega) (fun c_4 => ?_) (fun c_4 => ?_)
          · refine lv_iload_n (pc := 136) hx hb dX3_plan_136 rfl (lv_at hl 3 rfl) ?_
            refine z_iconst (pc := 137) hx hb dX3_plan_137 ?_
            refine z_icmp_ne (tgt := 149) (pc := 138) hx hb dX3_plan_138 (by decide) (by omega) (by omega) (fun c_5 => ?_) (fun c_5 => ?_)
            · refine lv_iload (pc := 149) hx hb dX3_plan_149 (lv_at hl 0 rfl) ?_
              exact rd_iret hx hb hrt hlk dX3_plan_151 (by rw [planV, if_pos hok, if_neg (by omega), if_neg (by omega), ez, show z6 - a = b by omega])
            · refine lv_iload (pc := 141) hx hb dX3_plan_141 (lv_at hl 6 rfl) ?_
              refine lv_iload (pc := 143) hx hb dX3_plan_143 (lv_at hl 7 rfl) ?_
              refine z_isub (pc := 145) hx hb dX3_plan_145 ?_
              refine lv_goto (tgt := 151) (pc := 146) hx hb dX3_plan_146 (by decide) ?_
              exact rd_iret hx hb hrt hlk dX3_plan_151 (by rw [planV, if_pos hok, if_neg (by omega), if_pos (by omega), ew])
          · refine lv_iload (pc := 131) hx hb dX3_plan_131 (lv_at hl 7 rfl) ?_
            refine lv_goto (tgt := 151) (pc := 133) hx hb dX3_plan_133 (by decide) ?_
            exact rd_iret hx hb hrt hlk dX3_plan_151 (by rw [planV, if_pos hok, if_pos (by omega), ez])
  have outer : ∀ u : Nat, u ≤ 24 → ∀ (z6 : Int), (z6 = 24 - (u : Int)) → (a + b ≤ z6) → ((0 ≤ m ∧ m ≤ 10000) ∧ (1 ≤ h ∧ h ≤ 500) ∧ (0 ≤ w ∧ w ≤ 2)) → ∀ ls : Array Slot, lv_has ls 9 [(0, .ref (ad 0)), (1, .int (zi (m))), (3, .int (zi (w))), (4, .int (zi (cuZ pr hc h))), (5, .int (zi (chZ pr hc h (sp 2)))), (6, .int (zi (z6)))] → W p l e (RM 2 42) s mm args below meth c s.heap [] 0 0 (MQ below (QR (.int (zi (planV pr hc m h w (sp 2) a b))) s.heap) args s 0 0 (fun _ => False)) (F0 mm 77 ls []) := by
    refine lp_up (fun u => ∀ (z6 : Int), (z6 = 24 - (u : Int)) → (a + b ≤ z6) → ((0 ≤ m ∧ m ≤ 10000) ∧ (1 ≤ h ∧ h ≤ 500) ∧ (0 ≤ w ∧ w ≤ 2)) → ∀ ls : Array Slot, lv_has ls 9 [(0, .ref (ad 0)), (1, .int (zi (m))), (3, .int (zi (w))), (4, .int (zi (cuZ pr hc h))), (5, .int (zi (chZ pr hc h (sp 2)))), (6, .int (zi (z6)))] → W p l e (RM 2 42) s mm args below meth c s.heap [] 0 0 (MQ below (QR (.int (zi (planV pr hc m h w (sp 2) a b))) s.heap) args s 0 0 (fun _ => False)) (F0 mm 77 ls [])) (24) ?_ ?_
    · intro z6 e6 e5 hok ls hl
      refine lv_iload (pc := 77) hx hb dX3_plan_77 (lv_at hl 5 rfl) ?_
      refine z_if_le (tgt := 164) (pc := 79) hx hb dX3_plan_79 (by decide) (by omega) (fun c_6 => ?_) (fun c_6 => absurd c_6 (by omega))
      refine z_iconst (pc := 164) hx hb dX3_plan_164 ?_
      exact rd_iret hx hb hrt hlk dX3_plan_165 (by rw [planV, if_pos hok, show a = 0 by omega, show b = 0 by omega]; simp)
    · intro u hu ih z6 e6 e5 hok ls hl
      refine lv_iload (pc := 77) hx hb dX3_plan_77 (lv_at hl 5 rfl) ?_
      refine z_if_le (tgt := 164) (pc := 79) hx hb dX3_plan_79 (by decide) (by omega) (fun c_7 => absurd c_7 (by omega)) (fun c_7 => ?_)
      refine lv_iload (pc := 82) hx hb dX3_plan_82 (lv_at hl 5 rfl) ?_
      refine z_bipush (pc := 84) hx hb dX3_plan_84 (by decide) ?_
      refine z_mmin (pc := 86) hx hb (hml.trans hl.1.symm) hown (hT _ tw_329) (hT _ tw_221) (hT _ tw_6) (hT _ tw_222) (Nat.le_of_ble_eq_true rfl) (Nat.le_of_ble_eq_true rfl) (Nat.le_of_ble_eq_true rfl) (Nat.le_of_ble_eq_true rfl) (by omega) (by omega) dX3_plan_86 ?_
      refine lv_istore (lv' := [(7, .int (zi ((min z6 12)))), (0, .ref (ad 0)), (1, .int (zi (m))), (3, .int (zi (w))), (4, .int (zi (cuZ pr hc h))), (5, .int (zi (chZ pr hc h (sp 2)))), (6, .int (zi (z6)))]) (pc := 89) hx hb dX3_plan_89 hl (by decide) rfl (fun ls hl => ?_)
      refine inner _ (by omega) hok ?_ 0 (by omega) _ (by omega) (by omega) ls (lv_sub hl [1, 2, 3, 4, 5, 6, 0] rfl)
      intro hlt ls hl
      refine lv_iinc (v := zi (z6 + (-1))) (lv' := [(6, .int (zi ((z6 + (-1))))), (0, .ref (ad 0)), (1, .int (zi (m))), (3, .int (zi (w))), (4, .int (zi (cuZ pr hc h))), (5, .int (zi (chZ pr hc h (sp 2))))]) (pc := 158) hx hb dX3_plan_158 hl (k := 5) rfl (zi_add _ _) (by decide) rfl (fun ls hl => ?_)
      refine lv_goto (tgt := 77) (pc := 161) hx hb dX3_plan_161 (by decide) ?_
      exact ih  _ (by omega) (by omega) (hok) ls (lv_sub hl [1, 2, 3, 4, 5, 0] rfl)
  refine lv_iload_n (pc := 0) hx hb dX3_plan_0 rfl (lv_at hl 1 rfl) ?_
  refine z_iconst (pc := 1) hx hb dX3_plan_1 ?_
  refine z_sipush (pc := 2) hx hb dX3_plan_2 (by decide) ?_
  refine rd_S (pc := 5) hx hb hml hown hT hK (c_X3_isWithin D cI cJ l (m) (by omega) (0) (by omega) (10000) (by omega)) ca_X3_isWithin tw_107 va_Pnil ⟨Nat.le_of_ble_eq_true rfl, Nat.le_of_ble_eq_true rfl⟩ rfl hl.1 (As := [.int (zi (m)), .int (zi (0)), .int (zi (10000))]) (rest := []) rfl (Nat.le_of_ble_eq_true rfl) ⟨Nat.le_of_ble_eq_true rfl, Nat.le_of_ble_eq_true rfl⟩ dX3_plan_5 ?_
  refine z_ifB_eq (tgt := 31) (pc := 8) hx hb dX3_plan_8 (by decide) (fun c_8 => ?_) (fun c_8 => ?_)
  · refine z_sipush (pc := 31) hx hb dX3_plan_31 (by decide) ?_
    exact rd_iret hx hb hrt hlk dX3_plan_34 (by rw [planV, if_neg (by omega)])
  · refine lv_iload_n (pc := 11) hx hb dX3_plan_11 rfl (lv_at hl 2 rfl) ?_
    refine z_iconst (pc := 12) hx hb dX3_plan_12 ?_
    refine z_sipush (pc := 13) hx hb dX3_plan_13 (by decide) ?_
    refine rd_S (pc := 16) hx hb hml hown hT hK (c_X3_isWithin D cI cJ l (h) (by omega) (1) (by omega) (500) (by omega)) ca_X3_isWithin tw_107 va_Pnil ⟨Nat.le_of_ble_eq_true rfl, Nat.le_of_ble_eq_true rfl⟩ rfl hl.1 (As := [.int (zi (h)), .int (zi (1)), .int (zi (500))]) (rest := []) rfl (Nat.le_of_ble_eq_true rfl) ⟨Nat.le_of_ble_eq_true rfl, Nat.le_of_ble_eq_true rfl⟩ dX3_plan_16 ?_
    refine z_ifB_eq (tgt := 31) (pc := 19) hx hb dX3_plan_19 (by decide) (fun c_9 => ?_) (fun c_9 => ?_)
    · refine z_sipush (pc := 31) hx hb dX3_plan_31 (by decide) ?_
      exact rd_iret hx hb hrt hlk dX3_plan_34 (by rw [planV, if_neg (by omega)])
    · refine lv_iload_n (pc := 22) hx hb dX3_plan_22 rfl (lv_at hl 3 rfl) ?_
      refine z_iconst (pc := 23) hx hb dX3_plan_23 ?_
      refine z_iconst (pc := 24) hx hb dX3_plan_24 ?_
      refine rd_S (pc := 25) hx hb hml hown hT hK (c_X3_isWithin D cI cJ l (w) (by omega) (0) (by omega) (2) (by omega)) ca_X3_isWithin tw_107 va_Pnil ⟨Nat.le_of_ble_eq_true rfl, Nat.le_of_ble_eq_true rfl⟩ rfl hl.1 (As := [.int (zi (w)), .int (zi (0)), .int (zi (2))]) (rest := []) rfl (Nat.le_of_ble_eq_true rfl) ⟨Nat.le_of_ble_eq_true rfl, Nat.le_of_ble_eq_true rfl⟩ dX3_plan_25 ?_
      refine z_ifB_ne (tgt := 35) (pc := 28) hx hb dX3_plan_28 (by decide) (fun c_10 => ?_) (fun c_10 => ?_)
      · have hok : (0 ≤ m ∧ m ≤ 10000) ∧ (1 ≤ h ∧ h ≤ 500) ∧ (0 ≤ w ∧ w ≤ 2) := by omega
        have hcr := cost_rng hpr hhc hok.2.1 (hsp 2 (by omega))
        refine lv_aload_n (pc := 35) hx hb dX3_plan_35 rfl (lv_at hl 0 rfl) ?_
        refine va_get (D := D) (cl := vwCl) (ci := 3) (v := .int (zi (pr))) (C := RX3) (T := TX3) (N := 7) (pc := 36) hx hb hT inT3 hown hK.1 hP 0 rfl rfl 5 (by decide) (hT _ tw_80) (fun _ h9 => h9) rfl dX3_plan_36 ?_
        refine lv_iload_n (pc := 39) hx hb dX3_plan_39 rfl (lv_at hl 2 rfl) ?_
        refine lv_aload_n (pc := 40) hx hb dX3_plan_40 rfl (lv_at hl 0 rfl) ?_
        refine va_get (D := D) (cl := vwCl) (ci := 3) (v := .int (zi (hc))) (C := RX3) (T := TX3) (N := 7) (pc := 41) hx hb hT inT3 hown hK.1 hP 0 rfl rfl 6 (by decide) (hT _ tw_81) (fun _ h9 => h9) rfl dX3_plan_41 ?_
        refine z_imul (pc := 44) hx hb dX3_plan_44 ?_
        refine z_iadd (pc := 45) hx hb dX3_plan_45 ?_
        refine lv_istore (lv' := [(4, .int (zi ((pr + (h * hc))))), (0, .ref (ad 0)), (1, .int (zi (m))), (2, .int (zi (h))), (3, .int (zi (w)))]) (pc := 46) hx hb dX3_plan_46 hl (by decide) rfl (fun ls hl => ?_)
        refine lv_aload_n (pc := 48) hx hb dX3_plan_48 rfl (lv_at hl 1 rfl) ?_
        refine va_get (D := D) (cl := vwCl) (ci := 3) (v := .int (zi (pr))) (C := RX3) (T := TX3) (N := 7) (pc := 49) hx hb hT inT3 hown hK.1 hP 0 rfl rfl 5 (by decide) (hT _ tw_80) (fun _ h9 => h9) rfl dX3_plan_49 ?_
        refine lv_iload_n (pc := 52) hx hb dX3_plan_52 rfl (lv_at hl 3 rfl) ?_
        refine z_bipush (pc := 53) hx hb dX3_plan_53 (by decide) ?_
        refine z_imul (pc := 55) hx hb dX3_plan_55 ?_
        refine lv_aload_n (pc := 56) hx hb dX3_plan_56 rfl (lv_at hl 1 rfl) ?_
        refine va_get (D := D) (cl := vwCl) (ci := 3) (v := .ref (ad 4)) (C := RX3) (T := TX3) (N := 7) (pc := 57) hx hb hT inT3 hown hK.1 hP 0 rfl rfl 3 (by decide) (hT _ tw_78) (fun _ h9 => h9) rfl dX3_plan_57 ?_
        refine z_iconst (pc := 60) hx hb dX3_plan_60 ?_
        refine z_iald (pc := 61) hx hb hK hP 4 (2) (f := sp) rfl (by omega) (by omega) (by omega) dX3_plan_61 ?_
        have r_11 := hsp (2) (by omega)
        refine rd_S (pc := 62) hx hb hml hown hT hK (c_X3_roundedUp D cI cJ l ((h * 10)) ((sp (2))) (by omega)) ca_X3_roundedUp tw_295 va_Pnil ⟨Nat.le_of_ble_eq_true rfl, Nat.le_of_ble_eq_true rfl⟩ rfl hl.1 (As := [.int (zi ((h * 10))), .int (zi ((sp (2))))]) (rest := [.int (zi (pr))]) rfl (Nat.le_of_ble_eq_true rfl) ⟨Nat.le_of_ble_eq_true rfl, Nat.le_of_ble_eq_true rfl⟩ dX3_plan_62 ?_
        refine lv_aload_n (pc := 65) hx hb dX3_plan_65 rfl (lv_at hl 1 rfl) ?_
        refine va_get (D := D) (cl := vwCl) (ci := 3) (v := .int (zi (hc))) (C := RX3) (T := TX3) (N := 7) (pc := 66) hx hb hT inT3 hown hK.1 hP 0 rfl rfl 6 (by decide) (hT _ tw_81) (fun _ h9 => h9) rfl dX3_plan_66 ?_
        refine z_imul (pc := 69) hx hb dX3_plan_69 ?_
        refine z_iadd (pc := 70) hx hb dX3_plan_70 ?_
        refine lv_istore (lv' := [(5, .int (zi ((pr + ((((h * 10) + (sp (2)) - 1) / (sp (2))) * hc))))), (4, .int (zi ((pr + (h * hc))))), (0, .ref (ad 0)), (1, .int (zi (m))), (2, .int (zi (h))), (3, .int (zi (w)))]) (pc := 71) hx hb dX3_plan_71 hl (by decide) rfl (fun ls hl => ?_)
        refine z_bipush (pc := 73) hx hb dX3_plan_73 (by decide) ?_
        refine lv_istore (lv' := [(6, .int (zi (24))), (5, .int (zi ((pr + ((((h * 10) + (sp (2)) - 1) / (sp (2))) * hc))))), (4, .int (zi ((pr + (h * hc))))), (0, .ref (ad 0)), (1, .int (zi (m))), (2, .int (zi (h))), (3, .int (zi (w)))]) (pc := 75) hx hb dX3_plan_75 hl (by decide) rfl (fun ls hl => ?_)
        exact outer 0 (by omega) _ (by omega) (by omega) (by omega) ls (lv_sub hl [3, 4, 6, 2, 1, 0] rfl)
      · refine z_sipush (pc := 31) hx hb dX3_plan_31 (by decide) ?_
        exact rd_iret hx hb hrt hlk dX3_plan_34 (by rw [planV, if_neg (by omega)])
end
section
/-! STANDING as numbers: F fails, R at risk, hour by hour; lev t over lev 0 is what is LEFT at t -/
def STd (F R : Nat → Nat) : Prop := F 0 = 0 ∧ (∀ t, R (t + 1) + F t ≤ R t) ∧ (∀ t, R t ≤ 12) ∧ (∀ t, 500 < t → F t = 0)
def uF (F R : Nat → Nat) (t : Nat) : Nat := if F t = 0 then 1 else R t - F t
def dF (F R : Nat → Nat) (t : Nat) : Nat := if F t = 0 then 1 else R t
def prd (f : Nat → Nat) (a : Nat) : Nat → Nat
  | 0 => 1
  | k + 1 => prd f a k * f (a + k + 1)
def lev (F R : Nat → Nat) (t : Nat) : Nat := prd (uF F R) 0 t * prd (dF F R) t (500 - t)
theorem prd_add (f : Nat → Nat) (a k : Nat) : ∀ l, prd f a (k + l) = prd f a k * prd f (a + k) l
  | 0 => by simp [prd]
  | l + 1 => by
    have ih := prd_add f a k l
    rw [← Nat.add_assoc]
    simp only [prd]
    rw [ih, Nat.mul_assoc, show a + (k + l) + 1 = a + k + l + 1 by omega]
theorem prd_one {f : Nat → Nat} {a : Nat} : ∀ k, (∀ i, a < i → i ≤ a + k → f i = 1) → prd f a k = 1
  | 0, _ => rfl
  | k + 1, h => by
    simp only [prd]
    rw [prd_one k (fun i h1 h2 => h i h1 (by omega)), h (a + k + 1) (by omega) (by omega)]
theorem prd_pos {f : Nat → Nat} {a : Nat} : ∀ k, (∀ i, 0 < f i) → 0 < prd f a k
  | 0, _ => by simp [prd]
  | k + 1, h => by
    simp only [prd]
    exact Nat.mul_pos (prd_pos k h) (h _)
theorem prd_1 (f : Nat → Nat) (a : Nat) : prd f a 1 = f (a + 1) := by simp [prd]
theorem dF_pos {F R : Nat → Nat} (h : STd F R) (t : Nat) : 0 < dF F R t := by
  unfold dF
  have h1 := h.2.1 t
  split <;> omega
theorem uF_le {F R : Nat → Nat} (t : Nat) : uF F R t ≤ dF F R t := by
  unfold uF dF
  split <;> omega
theorem lev_step {F R : Nat → Nat} {t : Nat} (ht : t < 500) : lev F R (t + 1) * dF F R (t + 1) = lev F R t * uF F R (t + 1) := by
  unfold lev
  have e : 500 - t = 1 + (500 - (t + 1)) := by omega
  have e2 : prd (dF F R) t (1 + (500 - (t + 1))) = dF F R (t + 1) * prd (dF F R) (t + 1) (500 - (t + 1)) := by rw [prd_add, prd_1]
  have e3 : prd (uF F R) 0 (t + 1) = prd (uF F R) 0 t * uF F R (t + 1) := by simp only [prd, Nat.zero_add]
  rw [e, e2, e3]
  generalize prd (uF F R) 0 t = A
  generalize uF F R (t + 1) = B
  generalize prd (dF F R) (t + 1) (500 - (t + 1)) = X
  generalize dF F R (t + 1) = Y
  rw [Nat.mul_assoc, Nat.mul_assoc, Nat.mul_assoc, Nat.mul_comm B, Nat.mul_comm Y X]
theorem lev_same {F R : Nat → Nat} {t : Nat} (ht : t < 500) (hF : F (t + 1) = 0) : lev F R (t + 1) = lev F R t := by
  have h := lev_step (F := F) (R := R) ht
  have e1 : dF F R (t + 1) = 1 := by unfold dF; rw [if_pos hF]
  have e2 : uF F R (t + 1) = 1 := by unfold uF; rw [if_pos hF]
  rw [e1, e2, Nat.mul_one, Nat.mul_one] at h
  exact h
theorem lev_const {F R : Nat → Nat} {x : Nat} : ∀ k, x + k ≤ 500 → (∀ i, x < i → i ≤ x + k → F i = 0) → lev F R (x + k) = lev F R x
  | 0, _, _ => rfl
  | k + 1, hk, h => by
    rw [← Nat.add_assoc, lev_same (by omega) (h (x + k + 1) (by omega) (by omega)), lev_const k (by omega) (fun i h1 h2 => h i h1 (by omega))]
theorem lev_flat {F R : Nat → Nat} {x y : Nat} (hxy : x ≤ y) (hy : y ≤ 500) (h : ∀ i, x < i → i ≤ y → F i = 0) : lev F R y = lev F R x := by
  obtain ⟨k, rfl⟩ := Nat.exists_eq_add_of_le hxy
  exact lev_const k hy h
theorem lev_le1 {F R : Nat → Nat} (hs : STd F R) {t : Nat} (ht : t < 500) : lev F R (t + 1) ≤ lev F R t := by
  have h := lev_step (F := F) (R := R) ht
  have h1 := dF_pos hs (t + 1)
  have h2 : lev F R t * uF F R (t + 1) ≤ lev F R t * dF F R (t + 1) := Nat.mul_le_mul_left _ (uF_le _)
  rw [← h] at h2
  exact Nat.le_of_mul_le_mul_right h2 h1
theorem lev_le {F R : Nat → Nat} (hs : STd F R) {x : Nat} : ∀ k, x + k ≤ 500 → lev F R (x + k) ≤ lev F R x
  | 0, _ => Nat.le_refl _
  | k + 1, hk => Nat.le_trans (show lev F R (x + k + 1) ≤ lev F R (x + k) from lev_le1 hs (by omega)) (lev_le hs k (by omega))
theorem lev_mono {F R : Nat → Nat} (hs : STd F R) {x y : Nat} (hxy : x ≤ y) (hy : y ≤ 500) : lev F R y ≤ lev F R x := by
  obtain ⟨k, rfl⟩ := Nat.exists_eq_add_of_le hxy
  exact lev_le hs k hy
def fc : Nat → Nat
  | 0 => 1
  | n + 1 => (n + 1) * fc n
theorem fc_pos : ∀ n, 0 < fc n
  | 0 => by decide
  | n + 1 => Nat.mul_pos (by omega) (fc_pos n)
theorem fc_mono {a : Nat} : ∀ k, fc a ≤ fc (a + k)
  | 0 => Nat.le_refl _
  | k + 1 => Nat.le_trans (fc_mono k) (by show fc (a + k) ≤ (a + k + 1) * fc (a + k); exact Nat.le_mul_of_pos_left _ (by omega))
theorem prd_fc {F R : Nat → Nat} (hs : STd F R) : ∀ k, prd (dF F R) 0 k * fc (R (k + 1)) ≤ fc 12
  | 0 => by
    obtain ⟨d, hd⟩ := Nat.exists_eq_add_of_le (hs.2.2.1 1)
    simp only [prd, Nat.one_mul]
    rw [hd]; exact fc_mono d
  | k + 1 => by
    have ih := prd_fc hs k
    refine Nat.le_trans ?_ ih
    simp only [prd, Nat.zero_add]
    rw [Nat.mul_assoc]
    refine Nat.mul_le_mul_left _ ?_
    have h1 := hs.2.1 (k + 1)
    unfold dF
    split
    · rw [Nat.one_mul]
      obtain ⟨d, hd⟩ := Nat.exists_eq_add_of_le (show R (k + 1 + 1) ≤ R (k + 1) by omega)
      rw [hd]; exact fc_mono d
    · obtain ⟨r, hr⟩ : ∃ r, R (k + 1) = r + 1 := ⟨R (k + 1) - 1, by omega⟩
      rw [hr]
      show (r + 1) * fc (R (k + 1 + 1)) ≤ (r + 1) * fc r
      refine Nat.mul_le_mul_left _ ?_
      obtain ⟨d, hd⟩ := Nat.exists_eq_add_of_le (show R (k + 1 + 1) ≤ r by omega)
      rw [hd]; exact fc_mono d
theorem lev_0 {F R : Nat → Nat} (hs : STd F R) : 0 < lev F R 0 ∧ lev F R 0 ≤ 479001600 := by
  have e : lev F R 0 = prd (dF F R) 0 500 := by
    show prd (uF F R) 0 0 * prd (dF F R) 0 (500 - 0) = _
    rw [show prd (uF F R) 0 0 = 1 from rfl, Nat.one_mul]
  have h := prd_fc hs 500
  have h2 := fc_pos (R (500 + 1))
  have h3 : prd (dF F R) 0 500 * 1 ≤ prd (dF F R) 0 500 * fc (R (500 + 1)) := Nat.mul_le_mul_left _ h2
  rw [e]
  refine ⟨prd_pos 500 (dF_pos hs), ?_⟩
  have h4 : fc 12 = 479001600 := by decide
  omega
theorem lev_rng {F R : Nat → Nat} (hs : STd F R) {t : Nat} (ht : t ≤ 500) : lev F R t ≤ 479001600 := by
  have h1 := lev_mono hs (Nat.zero_le t) ht
  have h2 := lev_0 hs
  omega
theorem lev_zero {F R : Nat → Nat} (hs : STd F R) {x y : Nat} (hxy : x ≤ y) (hy : y ≤ 500) (h : lev F R x = 0) : lev F R y = 0 := by
  have h1 := lev_mono hs hxy hy
  omega
/-- a sum of LEFT's upper numbers -/
def sumL (f : Nat → Nat) (x : Nat) : Nat → Nat
  | 0 => 0
  | k + 1 => sumL f x k + f (x + k)
theorem sumL_add (f : Nat → Nat) (x k : Nat) : ∀ l, sumL f x (k + l) = sumL f x k + sumL f (x + k) l
  | 0 => by simp [sumL]
  | l + 1 => by
    have ih := sumL_add f x k l
    rw [← Nat.add_assoc]
    simp only [sumL]
    rw [ih, show x + (k + l) = x + k + l by omega]; omega
theorem sumL_const {f : Nat → Nat} {x v : Nat} : ∀ k, (∀ i, x ≤ i → i < x + k → f i = v) → sumL f x k = v * k
  | 0, _ => by simp [sumL]
  | k + 1, h => by
    simp only [sumL]
    rw [sumL_const k (fun i h1 h2 => h i h1 (by omega)), h (x + k) (by omega) (by omega), Nat.mul_succ]
theorem sumL_le {f : Nat → Nat} {x M : Nat} : ∀ k, (∀ i, x ≤ i → i < x + k → f i ≤ M) → sumL f x k ≤ M * k
  | 0, _ => by simp [sumL]
  | k + 1, h => by
    have ih := sumL_le (f := f) (x := x) (M := M) k (fun i h1 h2 => h i h1 (by omega))
    have h1 := h (x + k) (by omega) (by omega)
    simp only [sumL]; rw [Nat.mul_succ]; omega
/-! fractions in least terms -/
def rdU (a b : Nat) : Nat := a / Nat.gcd a b
def rdL (a b : Nat) : Nat := b / Nat.gcd a b
theorem rd_mul {a b g : Nat} (hg : 0 < g) : rdU (a * g) (b * g) = rdU a b ∧ rdL (a * g) (b * g) = rdL a b := by
  unfold rdU rdL
  rw [Nat.gcd_mul_right]
  exact ⟨Nat.mul_div_mul_right _ _ hg, Nat.mul_div_mul_right _ _ hg⟩
theorem rd_eq {a b x y : Nat} (hb : 0 < b) (hy : 0 < y) (h : a * y = x * b) : rdU a b = rdU x y ∧ rdL a b = rdL x y := by
  have h1 := rd_mul (a := a) (b := b) hy
  have h2 := rd_mul (a := x) (b := y) hb
  rw [h, Nat.mul_comm b y] at h1
  exact ⟨h1.1.symm.trans h2.1, h1.2.symm.trans h2.2⟩
theorem rd_back {a b : Nat} (hb : 0 < b) : rdU a b * Nat.gcd a b = a ∧ rdL a b * Nat.gcd a b = b ∧ 0 < Nat.gcd a b ∧ 0 < rdL a b := by
  have hg : 0 < Nat.gcd a b := Nat.gcd_pos_of_pos_right a hb
  refine ⟨Nat.div_mul_cancel (Nat.gcd_dvd_left a b), Nat.div_mul_cancel (Nat.gcd_dvd_right a b), hg, ?_⟩
  exact Nat.div_pos (Nat.gcd_le_right a hb) hg
theorem rd_cross {a b : Nat} (hb : 0 < b) : rdU a b * b = a * rdL a b := by
  obtain ⟨h1, h2, h3, h4⟩ := rd_back (a := a) hb
  have e1 : rdU a b * (rdL a b * Nat.gcd a b) = rdU a b * Nat.gcd a b * rdL a b := by rw [Nat.mul_comm (rdL a b), Nat.mul_assoc]
  rw [h1, h2] at e1
  exact e1
/-- the lower number divides every lower number -/
theorem rd_dvd {a b q x : Nat} (hb : 0 < b) (h : a * q = x * b) : rdL a b ∣ q := by
  obtain ⟨h1, h2, h3, h4⟩ := rd_back (a := a) hb
  have hc : Nat.Coprime (rdL a b) (rdU a b) := (Nat.coprime_div_gcd_div_gcd h3).symm
  refine hc.dvd_of_dvd_mul_left ⟨x, ?_⟩
  have e : (rdU a b * q) * Nat.gcd a b = (rdL a b * x) * Nat.gcd a b := by
    rw [Nat.mul_right_comm, h1, h, Nat.mul_right_comm, h2, Nat.mul_comm]
  exact Nat.eq_of_mul_eq_mul_right h3 e
end
section
/-! how great the lower numbers can be -/
def dfac : Nat → Nat
  | 0 => 1
  | 1 => 1
  | n + 2 => (n + 2) * dfac n
theorem dfac_tab : ∀ a : Fin 14, ∀ b : Fin 14, a.val ≤ b.val → dfac a.val ≤ dfac b.val := by decide +kernel
theorem dfac_tab2 : ∀ r : Fin 14, ∀ x : Fin 14, x.val < r.val → r.val * dfac (x.val - 1) ≤ dfac r.val := by decide +kernel
theorem dfac_tab3 : ∀ a : Fin 14, 1 ≤ dfac a.val := by decide +kernel
theorem dfac_mono {a b : Nat} (h : a ≤ b) (hb : b ≤ 13) : dfac a ≤ dfac b := dfac_tab ⟨a, by omega⟩ ⟨b, by omega⟩ h
theorem dfac_step {r x : Nat} (h : x < r) (hr : r ≤ 13) : r * dfac (x - 1) ≤ dfac r := dfac_tab2 ⟨r, by omega⟩ ⟨x, by omega⟩ h
theorem ds_ex {F R : Nat → Nat} (hs : STd F R) (B : Nat) : ∀ k, B + k ≤ 500 → ∃ A Ds c X : Nat, 0 < Ds ∧ c ≤ 13 ∧ R (B + k + 1) ≤ c ∧ Ds * dfac (c - 1) ≤ 599040 ∧ lev F R (B + k) * Ds = lev F R B * (A * c) ∧ sumL (lev F R) B (k + 1) * Ds = lev F R B * X
  | 0, _ => by
    refine ⟨1, 13, 13, 13, by omega, by omega, ?_, by decide, ?_, ?_⟩
    · have := hs.2.2.1 (B + 0 + 1); omega
    · simp
    · simp [sumL]
  | k + 1, hk => by
    obtain ⟨A, Ds, c, X, h1, h2, h3, h4, h5, h6⟩ := ds_ex hs B k (by omega)
    have hst := lev_step (F := F) (R := R) (t := B + k) (by omega)
    have hr1 := hs.2.1 (B + k + 1)
    have es : sumL (lev F R) B (k + 1 + 1) = sumL (lev F R) B (k + 1) + lev F R (B + k + 1) := rfl
    rw [es, show B + (k + 1) = B + k + 1 by omega]
    generalize lev F R B = LB at *
    generalize lev F R (B + k) = L0 at *
    generalize lev F R (B + k + 1) = L1 at *
    generalize sumL (lev F R) B (k + 1) = SM at *
    by_cases hF : F (B + k + 1) = 0
    · have e1 : dF F R (B + k + 1) = 1 := by unfold dF; rw [if_pos hF]
      have e2 : uF F R (B + k + 1) = 1 := by unfold uF; rw [if_pos hF]
      rw [e1, e2, Nat.mul_one, Nat.mul_one] at hst
      subst hst
      exact ⟨A, Ds, c, X + A * c, h1, h2, by omega, h4, h5, by rw [Nat.add_mul, h6, h5, Nat.mul_add]⟩
    · have e1 : dF F R (B + k + 1) = R (B + k + 1) := by unfold dF; rw [if_neg hF]
      have e2 : uF F R (B + k + 1) = R (B + k + 1) - F (B + k + 1) := by unfold uF; rw [if_neg hF]
      rw [e1, e2] at hst
      generalize hx : R (B + k + 1) - F (B + k + 1) = x at *
      generalize hr : R (B + k + 1) = r at *
      have hxr : x < r := by omega
      have hr13 : r ≤ 12 := by have := hs.2.2.1 (B + k + 1); omega
      by_cases hc : r = c
      · subst hc
        have e3 : L1 * Ds = LB * (A * x) := by
          have e4 : (L1 * Ds) * r = (LB * (A * x)) * r := by
            have a1 : (L1 * Ds) * r = (L1 * r) * Ds := by rw [Nat.mul_assoc, Nat.mul_comm Ds r, Nat.mul_assoc]
            have a2 : (LB * (A * x)) * r = (LB * (A * r)) * x := by rw [Nat.mul_assoc, Nat.mul_assoc, Nat.mul_comm x r, ← Nat.mul_assoc, ← Nat.mul_assoc, ← Nat.mul_assoc]
            rw [a1, a2, hst, ← h5, Nat.mul_assoc, Nat.mul_comm x Ds, ← Nat.mul_assoc]
          exact Nat.eq_of_mul_eq_mul_right (by omega) e4
        refine ⟨A, Ds, x, X + A * x, h1, by omega, by omega, ?_, e3, by rw [Nat.add_mul, h6, e3, Nat.mul_add]⟩
        exact Nat.le_trans (Nat.mul_le_mul_left _ (dfac_mono (show x - 1 ≤ r - 1 by omega) (by omega))) h4
      · have e3 : L1 * (Ds * r) = LB * (A * c * x) := by
          have a1 : L1 * (Ds * r) = (L1 * r) * Ds := by rw [Nat.mul_comm Ds r, ← Nat.mul_assoc]
          have a2 : LB * (A * c * x) = (LB * (A * c)) * x := by rw [← Nat.mul_assoc]
          rw [a1, a2, hst, ← h5, Nat.mul_assoc, Nat.mul_comm x Ds, ← Nat.mul_assoc]
        refine ⟨A * c, Ds * r, x, X * r + A * c * x, Nat.mul_pos h1 (by omega), by omega, by omega, ?_, e3, ?_⟩
        · have b1 : Ds * r * dfac (x - 1) ≤ Ds * dfac r := by rw [Nat.mul_assoc]; exact Nat.mul_le_mul_left _ (dfac_step hxr (by omega))
          have b2 : Ds * dfac r ≤ Ds * dfac (c - 1) := Nat.mul_le_mul_left _ (dfac_mono (by omega) (by omega))
          omega
        · rw [Nat.add_mul, e3, ← Nat.mul_assoc, h6, Nat.mul_add, Nat.mul_assoc]
theorem ds_le {Ds c : Nat} (hc : c ≤ 13) (h : Ds * dfac (c - 1) ≤ 599040) : Ds ≤ 599040 := by
  have h1 : 1 ≤ dfac (c - 1) := dfac_tab3 ⟨c - 1, by omega⟩
  have h2 : Ds * 1 ≤ Ds * dfac (c - 1) := Nat.mul_le_mul_left _ h1
  omega
theorem low_left {F R : Nat → Nat} (hs : STd F R) {B t : Nat} (hBt : B ≤ t) (ht : t ≤ 500) (hB : 0 < lev F R B) : rdL (lev F R t) (lev F R B) ≤ 599040 := by
  obtain ⟨k, rfl⟩ := Nat.exists_eq_add_of_le hBt
  obtain ⟨A, Ds, c, X, h1, h2, h3, h4, h5, h6⟩ := ds_ex hs B k ht
  exact Nat.le_trans (Nat.le_of_dvd h1 (rd_dvd hB (by rw [h5, Nat.mul_comm]))) (ds_le h2 h4)
theorem low_sum {F R : Nat → Nat} (hs : STd F R) {B k : Nat} (hk : B + k ≤ 501) (hB : 0 < lev F R B) : rdL (sumL (lev F R) B k) (lev F R B) ≤ 599040 := by
  match k, hk with
  | 0, _ =>
    have e : rdL (sumL (lev F R) B 0) (lev F R B) = 1 := by
      show lev F R B / Nat.gcd 0 (lev F R B) = 1
      rw [Nat.gcd_zero_left, Nat.div_self hB]
    omega
  | k + 1, hk =>
    obtain ⟨A, Ds, c, X, h1, h2, h3, h4, h5, h6⟩ := ds_ex hs B k (by omega)
    exact Nat.le_trans (Nat.le_of_dvd h1 (rd_dvd hB (by rw [h6, Nat.mul_comm]))) (ds_le h2 h4)
/-! the counts of the machine are such numbers -/
theorem cRk_rng {st hr : Nat → Int} {S t : Int} : ∀ u : Nat, 0 ≤ cRk st hr S t u ∧ cRk st hr S t u ≤ (u : Int)
  | 0 => by simp [cRk]
  | u + 1 => by
    have ih := cRk_rng (st := st) (hr := hr) (S := S) (t := t) u
    simp only [cRk]; split <;> omega
theorem cFl_rng {st hr ca : Nat → Int} {S b t : Int} : ∀ u : Nat, 0 ≤ cFl st hr ca S b t u ∧ cFl st hr ca S b t u ≤ (u : Int)
  | 0 => by simp [cFl]
  | u + 1 => by
    have ih := cFl_rng (st := st) (hr := hr) (ca := ca) (S := S) (b := b) (t := t) u
    simp only [cFl]; split <;> omega
theorem cRk_step {st hr ca : Nat → Int} {S b t : Int} : ∀ u : Nat, cRk st hr S (t + 1) u + cFl st hr ca S b t u ≤ cRk st hr S t u
  | 0 => by simp [cRk, cFl]
  | u + 1 => by
    have ih := cRk_step (st := st) (hr := hr) (ca := ca) (S := S) (b := b) (t := t) u
    simp only [cRk, cFl]
    by_cases hbit : bitS S (st u)
    · by_cases h1 : t ≤ hr u
      · rw [if_pos (show bitS S (st u) ∧ t ≤ hr u from ⟨hbit, h1⟩)]
        by_cases h2 : t + 1 ≤ hr u
        · rw [if_pos (show bitS S (st u) ∧ t + 1 ≤ hr u from ⟨hbit, h2⟩), if_neg (fun q => by have := q.2; omega)]; omega
        · rw [if_neg (fun q => h2 q.2)]; split <;> omega
      · rw [if_neg (fun q => by have := q.2; omega), if_neg (fun q => by have := q.2; omega), if_neg (fun q => by have := q.2; omega)]; omega
    · rw [if_neg (show ¬ (bitS S (st u) ∧ t + 1 ≤ hr u) from fun q => hbit q.1), if_neg (show ¬ (bitS S (st u) ∧ t ≤ hr u) from fun q => hbit q.1), if_neg (show ¬ ((bitS S (st u) ∧ fby b (ca u)) ∧ hr u = t) from fun q => hbit q.1.1)]; omega
theorem cFl_zero {st hr ca : Nat → Int} {S b t : Int} : ∀ u : Nat, (∀ j, j < u → hr j ≠ t) → cFl st hr ca S b t u = 0
  | 0, _ => rfl
  | u + 1, h => by
    simp only [cFl]
    rw [cFl_zero u (fun j hj => h j (by omega)), if_neg (fun q => h u (by omega) q.2)]; rfl
theorem cFl_pos {st hr ca : Nat → Int} {S b t : Int} : ∀ u : Nat, 0 < cFl st hr ca S b t u ↔ ∃ j, j < u ∧ (bitS S (st j) ∧ fby b (ca j)) ∧ hr j = t
  | 0 => by simp [cFl]
  | u + 1 => by
    have ih := cFl_pos (st := st) (hr := hr) (ca := ca) (S := S) (b := b) (t := t) u
    have hg := (cFl_rng (st := st) (hr := hr) (ca := ca) (S := S) (b := b) (t := t) u).1
    simp only [cFl]
    by_cases hc : (bitS S (st u) ∧ fby b (ca u)) ∧ hr u = t
    · rw [if_pos hc]
      exact ⟨fun _ => ⟨u, by omega, hc⟩, fun _ => by omega⟩
    · rw [if_neg hc, Int.add_zero, ih]
      refine ⟨fun ⟨j, h1, h2⟩ => ⟨j, by omega, h2⟩, fun ⟨j, h1, h2⟩ => ?_⟩
      rcases Nat.lt_or_ge j u with q | q
      · exact ⟨j, q, h2⟩
      · have e : j = u := by omega
        subst e
        exact absurd h2 hc
def FF (n : Int) (st hr ca : Nat → Int) (S b : Int) (t : Nat) : Nat := (cFl st hr ca S b (t : Int) n.toNat).toNat
def RR (n : Int) (st hr : Nat → Int) (S : Int) (t : Nat) : Nat := (cRk st hr S (t : Int) n.toNat).toNat
theorem FF_eq (n : Int) (st hr ca : Nat → Int) (S b : Int) (t : Nat) : cFl st hr ca S b (t : Int) n.toNat = (FF n st hr ca S b t : Int) := by
  have h := (cFl_rng (st := st) (hr := hr) (ca := ca) (S := S) (b := b) (t := (t : Int)) n.toNat).1
  unfold FF; omega
theorem RR_eq (n : Int) (st hr : Nat → Int) (S : Int) (t : Nat) : cRk st hr S (t : Int) n.toNat = (RR n st hr S t : Int) := by
  have h := (cRk_rng (st := st) (hr := hr) (S := S) (t := (t : Int)) n.toNat).1
  unfold RR; omega
theorem ST_of {n : Int} {st hr ca : Nat → Int} (hU : VU n st hr ca) (S b : Int) : STd (FF n st hr ca S b) (RR n st hr S) := by
  obtain ⟨hn, hst, hhr, hh1, hca⟩ := hU
  refine ⟨?_, fun t => ?_, fun t => ?_, fun t ht => ?_⟩
  · unfold FF
    rw [show ((0 : Nat) : Int) = 0 from rfl, cFl_zero n.toNat (fun j hj => by have := hh1 j (by omega); omega)]; rfl
  · have h := cRk_step (st := st) (hr := hr) (ca := ca) (S := S) (b := b) (t := (t : Int)) n.toNat
    rw [show (t : Int) + 1 = ((t + 1 : Nat) : Int) by omega, RR_eq, RR_eq, FF_eq] at h
    omega
  · have h := (cRk_rng (st := st) (hr := hr) (S := S) (t := (t : Int)) n.toNat).2
    rw [RR_eq] at h; omega
  · unfold FF
    rw [cFl_zero n.toNat (fun j hj => by have := hhr j; omega)]; rfl
theorem cNx_spec {st hr ca : Nat → Int} {S b t : Int} (hhr : ∀ j : Nat, 0 ≤ hr j ∧ hr j ≤ 500) : ∀ u : Nat, (cNx st hr ca S b t u = -1 ∧ ∀ j, j < u → (bitS S (st j) ∧ fby b (ca j)) → hr j ≤ t) ∨ ((∃ j, j < u ∧ (bitS S (st j) ∧ fby b (ca j)) ∧ hr j = cNx st hr ca S b t u) ∧ t < cNx st hr ca S b t u ∧ 0 ≤ cNx st hr ca S b t u ∧ ∀ j, j < u → (bitS S (st j) ∧ fby b (ca j)) → t < hr j → cNx st hr ca S b t u ≤ hr j)
  | 0 => Or.inl ⟨rfl, fun j hj => absurd hj (by omega)⟩
  | u + 1 => by
    have ih := cNx_spec (st := st) (ca := ca) (S := S) (b := b) (t := t) hhr u
    have hu := hhr u
    simp only [cNx]
    by_cases hc : ((bitS S (st u) ∧ fby b (ca u)) ∧ t < hr u) ∧ (cNx st hr ca S b t u = -1 ∨ hr u < cNx st hr ca S b t u)
    · rw [if_pos hc]
      refine Or.inr ⟨⟨u, by omega, hc.1.1, rfl⟩, hc.1.2, hu.1, fun j hj hf hlt => ?_⟩
      rcases Nat.lt_or_ge j u with q | q
      · rcases ih with ⟨h1, h2⟩ | ⟨h1, h2, h3, h4⟩
        · have := h2 j q hf; omega
        · have := h4 j q hf hlt
          rcases hc.2 with h5 | h5 <;> omega
      · have e : j = u := by omega
        subst e
        omega
    · rw [if_neg hc]
      rcases ih with ⟨h1, h2⟩ | ⟨⟨i, hi1, hi2, hi3⟩, h2, h3, h4⟩
      · refine Or.inl ⟨h1, fun j hj hf => ?_⟩
        rcases Nat.lt_or_ge j u with q | q
        · exact h2 j q hf
        · have e : j = u := by omega
          subst e
          rcases Int.lt_or_le t (hr j) with q2 | q2
          · exact absurd ⟨⟨hf, q2⟩, Or.inl h1⟩ hc
          · exact q2
      · refine Or.inr ⟨⟨i, by omega, hi2, hi3⟩, h2, h3, fun j hj hf hlt => ?_⟩
        rcases Nat.lt_or_ge j u with q | q
        · exact h4 j q hf hlt
        · have e : j = u := by omega
          subst e
          rcases Int.lt_or_le (hr j) (cNx st hr ca S b t j) with q2 | q2
          · exact absurd ⟨⟨hf, hlt⟩, Or.inr q2⟩ hc
          · exact q2
/-- the next HOUR at which a UNIT failed -/
theorem nx_of {n : Int} {st hr ca : Nat → Int} (hU : VU n st hr ca) (S b : Int) (t : Nat) : (cNx st hr ca S b (t : Int) n.toNat = -1 ∧ ∀ i : Nat, t < i → FF n st hr ca S b i = 0) ∨ (∃ i : Nat, cNx st hr ca S b (t : Int) n.toNat = (i : Int) ∧ t < i ∧ i ≤ 500 ∧ FF n st hr ca S b i ≠ 0 ∧ ∀ x : Nat, t < x → x < i → FF n st hr ca S b x = 0) := by
  obtain ⟨hn, hst, hhr, hh1, hca⟩ := hU
  have zero : ∀ x : Nat, (∀ j, j < n.toNat → (bitS S (st j) ∧ fby b (ca j)) → ¬ hr j = (x : Int)) → FF n st hr ca S b x = 0 := by
    intro x hx
    have h := (cFl_pos (st := st) (hr := hr) (ca := ca) (S := S) (b := b) (t := (x : Int)) n.toNat)
    have h2 := FF_eq n st hr ca S b x
    have h3 : ¬ 0 < cFl st hr ca S b (x : Int) n.toNat := fun q => by
      obtain ⟨j, h4, h5, h6⟩ := h.mp q
      exact hx j h4 h5 h6
    omega
  rcases cNx_spec (st := st) (ca := ca) (S := S) (b := b) (t := (t : Int)) hhr n.toNat with ⟨h1, h2⟩ | ⟨⟨j, hj1, hj2, hj3⟩, h2, h3, h4⟩
  · exact Or.inl ⟨h1, fun i hi => zero i (fun j hj hf q => by have := h2 j hj hf; omega)⟩
  · obtain ⟨i, hi⟩ := Int.eq_ofNat_of_zero_le h3
    have hb := hhr j
    refine Or.inr ⟨i, hi, by omega, by omega, ?_, fun x hx1 hx2 => zero x (fun j2 hj2 hf q => by have := h4 j2 hj2 hf (by omega); omega)⟩
    have h5 := (cFl_pos (st := st) (hr := hr) (ca := ca) (S := S) (b := b) (t := (i : Int)) n.toNat).mpr ⟨j, hj1, hj2, by omega⟩
    have h6 := FF_eq n st hr ca S b i
    omega
end
section
/-! the row of pieces -/
def raiseF (lv : Nat → Int) (f : Int) (u : Nat) : Nat → Int := fun j => if j < u then lv j * f else lv j
theorem raise_0 (lv : Nat → Int) (f : Int) : raiseF lv f 0 = lv := by funext j; simp [raiseF]
theorem raise_s (lv : Nat → Int) (f : Int) (u : Nat) : uZ (raiseF lv f u) u (raiseF lv f u u * f) = raiseF lv f (u + 1) := by
  funext j
  by_cases h : j = u
  · subst h; rw [uZ_s]; simp [raiseF]
  · rw [uZ_n h]; unfold raiseF
    by_cases h2 : j < u
    · rw [if_pos h2, if_pos (by omega)]
    · rw [if_neg h2, if_neg (by omega)]
theorem R_anti {F R : Nat → Nat} (hs : STd F R) {x : Nat} : ∀ k, R (x + k) ≤ R x
  | 0 => Nat.le_refl _
  | k + 1 => by
    have h1 := R_anti hs (x := x) k
    have h2 := hs.2.1 (x + k)
    rw [← Nat.add_assoc]; omega
theorem R_mono {F R : Nat → Nat} (hs : STd F R) {x y : Nat} (h : x ≤ y) : R y ≤ R x := by
  obtain ⟨k, rfl⟩ := Nat.exists_eq_add_of_le h
  exact R_anti hs k
def LK (F R : Nat → Nat) (i : Nat) (φ : Nat → Nat) (fr lv : Nat → Int) : Prop :=
  R (φ i + 1) + i ≤ 12 ∧ φ 0 = 0 ∧ φ i ≤ 500 ∧ (∀ j, j < i → φ j < φ (j + 1)) ∧ (∀ j, j < i → ∀ x, φ j < x → x < φ (j + 1) → F x = 0) ∧ (∀ j, j ≤ i → φ j ≤ φ i) ∧ (∀ j, j ≤ i → fr j = (φ j : Int)) ∧ (∀ j, j ≤ i → lv j = ((prd (uF F R) 0 (φ j) * prd (dF F R) (φ j) (φ i - φ j) : Nat) : Int))
def LE (F R : Nat → Nat) (i : Nat) (φ : Nat → Nat) (fr lv : Nat → Int) : Prop :=
  i ≤ 12 ∧ φ 0 = 0 ∧ φ i ≤ 500 ∧ (∀ j, j < i → φ j < φ (j + 1)) ∧ (∀ j, j < i → ∀ x, φ j < x → x < φ (j + 1) → F x = 0) ∧ (∀ x, φ i < x → F x = 0) ∧ (∀ j, j ≤ i → fr j = (φ j : Int) ∧ φ j ≤ φ i) ∧ (∀ j, j ≤ i → lv j = (lev F R (φ j) : Int))
theorem LK_0 {F R : Nat → Nat} (hs : STd F R) (fr lv : Nat → Int) : LK F R 0 (fun _ => 0) (uZ fr 0 0) (uZ lv 0 1) := by
  refine ⟨by have := hs.2.2.1 1; simpa using this, rfl, by simp, fun j hj => absurd hj (by omega), fun j hj => absurd hj (by omega), fun j hj => Nat.le_refl _, fun j hj => ?_, fun j hj => ?_⟩
  · have e : j = 0 := by omega
    subst e; rw [uZ_s]; rfl
  · have e : j = 0 := by omega
    subst e; rw [uZ_s]; rfl
theorem uF_one {F R : Nat → Nat} {x : Nat} (h : F x = 0) : uF F R x = 1 := by unfold uF; rw [if_pos h]
theorem dF_one {F R : Nat → Nat} {x : Nat} (h : F x = 0) : dF F R x = 1 := by unfold dF; rw [if_pos h]
/-- over a stretch with one failure at its end -/
theorem prd_to {F : Nat → Nat} {f : Nat → Nat} (hf : ∀ x, F x = 0 → f x = 1) {a h : Nat} (hlt : a < h) (hz : ∀ x, a < x → x < h → F x = 0) : prd f a (h - a) = f h := by
  obtain ⟨k, hk⟩ : ∃ k, h = a + k + 1 := ⟨h - a - 1, by omega⟩
  rw [show h - a = k + 1 by omega]
  simp only [prd]
  rw [prd_one k (fun i h1 h2 => hf i (hz i h1 (by omega))), Nat.one_mul, ← hk]
theorem LK_step {F R : Nat → Nat} (hs : STd F R) {i : Nat} {φ : Nat → Nat} {fr lv : Nat → Int} (hL : LK F R i φ fr lv) {h : Nat} (h1 : φ i < h) (h2 : h ≤ 500) (h3 : F h ≠ 0) (h4 : ∀ x, φ i < x → x < h → F x = 0) :
    i < 12 ∧ LK F R (i + 1) (fun j => if j = i + 1 then h else φ j) (uZ fr (i + 1) (h : Int)) (raiseF (uZ lv (i + 1) (lv i * ((R h : Int) - (F h : Int)))) (R h : Int) (i + 1)) := by
  obtain ⟨a1, a2, a3, a4, a5, a6, a7, a8⟩ := hL
  have hR1 := hs.2.1 h
  have hR2 : R h ≤ R (φ i + 1) := R_mono hs (by omega)
  have hφ : ∀ j, j ≤ i → (fun j => if j = i + 1 then h else φ j) j = φ j := fun j hj => by
    show (if j = i + 1 then h else φ j) = φ j
    rw [if_neg (by omega)]
  have hφ1 : (fun j => if j = i + 1 then h else φ j) (i + 1) = h := by
    show (if i + 1 = i + 1 then h else φ (i + 1)) = h
    rw [if_pos rfl]
  have eU : prd (uF F R) 0 h = prd (uF F R) 0 (φ i) * (R h - F h) := by
    have e : h = φ i + (h - φ i) := by omega
    have e2 := prd_add (uF F R) 0 (φ i) (h - φ i)
    rw [← e, Nat.zero_add, prd_to (F := F) (fun x hx => uF_one hx) h1 h4] at e2
    rw [e2]; congr 1; unfold uF; rw [if_neg h3]
  have eD : ∀ j, j ≤ i → prd (dF F R) (φ j) (h - φ j) = prd (dF F R) (φ j) (φ i - φ j) * R h := by
    intro j hj
    have h6 := a6 j hj
    have e : h - φ j = (φ i - φ j) + (h - φ i) := by omega
    rw [e, prd_add, show φ j + (φ i - φ j) = φ i by omega, prd_to (F := F) (fun x hx => dF_one hx) h1 h4]
    congr 1; unfold dF; rw [if_neg h3]
  refine ⟨by omega, ?_, ?_, ?_, ?_, ?_, ?_, ?_, ?_⟩
  · rw [hφ1]; omega
  · rw [hφ 0 (by omega)]; exact a2
  · rw [hφ1]; exact h2
  · intro j hj
    rcases Nat.lt_or_ge j i with q | q
    · rw [hφ j (by omega), hφ (j + 1) (by omega)]; exact a4 j q
    · have e : j = i := by omega
      subst e
      rw [hφ j (by omega), hφ1]; exact h1
  · intro j hj x hx1 hx2
    rcases Nat.lt_or_ge j i with q | q
    · rw [hφ j (by omega)] at hx1; rw [hφ (j + 1) (by omega)] at hx2; exact a5 j q x hx1 hx2
    · have e : j = i := by omega
      subst e
      rw [hφ j (by omega)] at hx1; rw [hφ1] at hx2; exact h4 x hx1 hx2
  · intro j hj
    rw [hφ1]
    rcases Nat.lt_or_ge j (i + 1) with q | q
    · rw [hφ j (by omega)]; have := a6 j (by omega); omega
    · have e : j = i + 1 := by omega
      subst e
      rw [hφ1]; exact Nat.le_refl _
  · intro j hj
    rcases Nat.lt_or_ge j (i + 1) with q | q
    · rw [hφ j (by omega), uZ_n (by omega)]; exact a7 j (by omega)
    · have e : j = i + 1 := by omega
      subst e
      rw [hφ1, uZ_s]
  · intro j hj
    rcases Nat.lt_or_ge j (i + 1) with q | q
    · rw [hφ j (by omega), hφ1]
      unfold raiseF
      rw [if_pos q, uZ_n (by omega), a8 j (by omega), eD j (by omega), ← Nat.mul_assoc]
      rfl
    · have e : j = i + 1 := by omega
      subst e
      rw [hφ1, Nat.sub_self]
      unfold raiseF
      rw [if_neg (by omega), uZ_s, a8 i (by omega), Nat.sub_self, eU]
      have e5 : (R h : Int) - (F h : Int) = ((R h - F h : Nat) : Int) := by omega
      rw [e5, show prd (dF F R) (φ i) 0 = 1 from rfl, show prd (dF F R) h 0 = 1 from rfl, Nat.mul_one, Nat.mul_one]
      rfl
theorem LE_of {F R : Nat → Nat} {i : Nat} {φ : Nat → Nat} {fr lv : Nat → Int} (hL : LK F R i φ fr lv) (hz : ∀ x, φ i < x → F x = 0) : LE F R i φ fr lv := by
  obtain ⟨a1, a2, a3, a4, a5, a6, a7, a8⟩ := hL
  refine ⟨by omega, a2, a3, a4, a5, hz, fun j hj => ⟨a7 j hj, a6 j hj⟩, fun j hj => ?_⟩
  rw [a8 j hj]
  have h6 := a6 j hj
  unfold lev
  rw [show 500 - φ j = (φ i - φ j) + (500 - φ i) by omega, prd_add, show φ j + (φ i - φ j) = φ i by omega, prd_one (f := dF F R) (a := φ i) (500 - φ i) (fun x h1 _ => dF_one (hz x h1)), Nat.mul_one]
/-- the end of a piece: the next piece's beginning, or 501 -/
def nxt (φ : Nat → Nat) (i u : Nat) : Nat := if u ≤ i then φ u else 501
theorem LE_nxt {F R : Nat → Nat} {i : Nat} {φ : Nat → Nat} {fr lv : Nat → Int} (hE : LE F R i φ fr lv) {u : Nat} (hu : u ≤ i) : φ u < nxt φ i (u + 1) ∧ nxt φ i (u + 1) ≤ 501 := by
  obtain ⟨a1, a2, a3, a4, a5, a6, a7, a8⟩ := hE
  unfold nxt
  by_cases h : u + 1 ≤ i
  · rw [if_pos h]
    have h1 := a4 u (by omega)
    have h2 := (a7 (u + 1) h).2
    omega
  · rw [if_neg h]
    have h2 := (a7 u hu).2
    omega
theorem LE_zero {F R : Nat → Nat} {i : Nat} {φ : Nat → Nat} {fr lv : Nat → Int} (hE : LE F R i φ fr lv) {u x : Nat} (hu : u ≤ i) (h1 : φ u < x) (h2 : x < nxt φ i (u + 1)) : F x = 0 := by
  obtain ⟨a1, a2, a3, a4, a5, a6, a7, a8⟩ := hE
  unfold nxt at h2
  by_cases h : u + 1 ≤ i
  · rw [if_pos h] at h2
    exact a5 u (by omega) x h1 h2
  · have e : u = i := by omega
    subst e
    exact a6 x h1
theorem LE_lev {F R : Nat → Nat} {i : Nat} {φ : Nat → Nat} {fr lv : Nat → Int} (hE : LE F R i φ fr lv) {u t : Nat} (hu : u ≤ i) (h1 : φ u ≤ t) (h2 : t < nxt φ i (u + 1)) : lev F R t = lev F R (φ u) := by
  have h3 := LE_nxt hE hu
  exact lev_flat h1 (by omega) (fun x hx1 hx2 => LE_zero hE hu hx1 (by omega))
/-! the first HOUR of a share -/
def timeF (T : Nat → Prop) [DecidablePred T] : Nat → Int
  | 0 => -1
  | d + 1 => if T (500 - d) then ((500 - d : Nat) : Int) else timeF T d
theorem timeF_hit {T : Nat → Prop} [DecidablePred T] {x : Nat} (hx : x ≤ 500) (h : T x) : timeF T (501 - x) = (x : Int) := by
  rw [show 501 - x = (500 - x) + 1 by omega]
  simp only [timeF]
  rw [show 500 - (500 - x) = x by omega, if_pos h]
theorem timeF_skip {T : Nat → Prop} [DecidablePred T] {x : Nat} : ∀ k, x + k ≤ 501 → (∀ t, x ≤ t → t < x + k → ¬ T t) → timeF T (501 - x) = timeF T (501 - (x + k))
  | 0, _, _ => rfl
  | k + 1, hk, h => by
    rw [timeF_skip k (by omega) (fun t h1 h2 => h t h1 (by omega)), show 501 - (x + k) = (501 - (x + (k + 1))) + 1 by omega]
    simp only [timeF]
    rw [if_neg (by rw [show 500 - (501 - (x + (k + 1))) = x + k by omega]; exact h (x + k) (by omega) (by omega))]
theorem timeF_to {T : Nat → Prop} [DecidablePred T] {x y : Nat} (hxy : x ≤ y) (hy : y ≤ 501) (h : ∀ t, x ≤ t → t < y → ¬ T t) : timeF T (501 - x) = timeF T (501 - y) := by
  obtain ⟨k, rfl⟩ := Nat.exists_eq_add_of_le hxy
  exact timeF_skip k hy h
abbrev tmT (F R : Nat → Nat) (a b : Int) (t : Nat) : Prop := (lev F R t : Int) * b ≤ (lev F R 0 : Int) * a
/-- one piece's share in a sum -/
theorem sum_piece {F R : Nat → Nat} {i : Nat} {φ : Nat → Nat} {fr lv : Nat → Int} (hE : LE F R i φ fr lv) {u B E : Nat} (hu : u ≤ i) (hBE : B ≤ E) (hE5 : E ≤ 500) :
    (sumL (lev F R) B (min (nxt φ i (u + 1)) E - B) : Int) = (sumL (lev F R) B (min (φ u) E - B) : Int) + (lev F R (φ u) : Int) * max 0 (min (nxt φ i (u + 1) : Int) E - max (φ u : Int) B) := by
  have h3 := LE_nxt hE hu
  obtain ⟨k, hk⟩ : ∃ k, min (nxt φ i (u + 1)) E - B = (min (φ u) E - B) + k := ⟨(min (nxt φ i (u + 1)) E - B) - (min (φ u) E - B), by omega⟩
  have hk2 : max 0 (min (nxt φ i (u + 1) : Int) E - max (φ u : Int) B) = (k : Int) := by omega
  rw [hk, hk2, sumL_add]
  have e : sumL (lev F R) (B + (min (φ u) E - B)) k = lev F R (φ u) * k := sumL_const k (fun x h1 h2 => LE_lev hE hu (by omega) (by omega))
  rw [e]
  rfl
end
section
set_option maxHeartbeats 4000000 in
set_option maxRecDepth 100000 in
theorem c_X0_raiseAllBefore (D : va_G) (cI cJ : ClassId) (l : Launch) (ad : Nat → Nat) (n : Int) (st hr ca : Nat → Int) (pcs : Int) (fr lv : Nat → Int) (k : Int) (ts th sp hv : Nat → Int) (pr hc : Int) (z f : Int) (K : Nat) (hz : z = (K : Int)) (hK13 : K ≤ 13) (r_f : -2147483648 ≤ f ∧ f ≤ 2147483647) : WV D cI cJ l yX0_raiseAllBefore cX0_raiseAllBefore 4 0 0 [.ref (ad 2), .int (zi (z)), .int (zi (f))] (wX ad cI cJ n st hr ca pcs fr lv k ts th sp hv pr hc) (fun ws' => ws' = (wX ad cI cJ n st hr ca pcs fr (raiseF lv f K) k ts th sp hv pr hc)) := by
  subst hz
  refine WV.of (by decide) (Nat.le_of_ble_eq_true rfl) ?_
  intro p e s m args below meth c hx hb hrt hml hown hT hlk hK hP hD hS ls hl
  replace hl : lv_has ls 4 [(0, .ref (ad 2)), (1, .int (zi ((K : Int)))), (2, .int (zi (f)))] := hl
  have loop : ∀ u : Nat, u ≤ K → ∀ (z1 : Int), ∀ (lw : Nat → Int) (H : Heap) (locs : List Loc), (z1 = (u : Int)) → (lw = raiseF lv f u) → va_P D vwCl (wX ad cI cJ n st hr ca pcs fr lw k ts th sp hv pr hc) H → va_D (inW (wX ad cI cJ n st hr ca pcs fr lv k ts th sp hv pr hc)) (wX ad cI cJ n st hr ca pcs fr lw k ts th sp hv pr hc) → va_S (inW (wX ad cI cJ n st hr ca pcs fr lv k ts th sp hv pr hc)) s.heap H locs → ∀ ls : Array Slot, lv_has ls 4 [(0, .ref (ad 2)), (1, .int (zi ((K : Int)))), (2, .int (zi (f))), (3, .int (zi (z1)))] → W p l e (RM 0 0) s m args below meth c H locs 0 0 (MQ below (QV D (wX ad cI cJ n st hr ca pcs fr lv k ts th sp hv pr hc) (fun ws' => ws' = (wX ad cI cJ n st hr ca pcs fr (raiseF lv f K) k ts th sp hv pr hc))) args s 0 0 (inW (wX ad cI cJ n st hr ca pcs fr lv k ts th sp hv pr hc))) (F0 m 2 ls []) := by
    refine lp_up (fun u => ∀ (z1 : Int), ∀ (lw : Nat → Int) (H : Heap) (locs : List Loc), (z1 = (u : Int)) → (lw = raiseF lv f u) → va_P D vwCl (wX ad cI cJ n st hr ca pcs fr lw k ts th sp hv pr hc) H → va_D (inW (wX ad cI cJ n st hr ca pcs fr lv k ts th sp hv pr hc)) (wX ad cI cJ n st hr ca pcs fr lw k ts th sp hv pr hc) → va_S (inW (wX ad cI cJ n st hr ca pcs fr lv k ts th sp hv pr hc)) s.heap H locs → ∀ ls : Array Slot, lv_has ls 4 [(0, .ref (ad 2)), (1, .int (zi ((K : Int)))), (2, .int (zi (f))), (3, .int (zi (z1)))] → W p l e (RM 0 0) s m args below meth c H locs 0 0 (MQ below (QV D (wX ad cI cJ n st hr ca pcs fr lv k ts th sp hv pr hc) (fun ws' => ws' = (wX ad cI cJ n st hr ca pcs fr (raiseF lv f K) k ts th sp hv pr hc))) args s 0 0 (inW (wX ad cI cJ n st hr ca pcs fr lv k ts th sp hv pr hc))) (F0 m 2 ls [])) (K) ?_ ?_
    · intro z1 lw H locs e1 e2 hP hD hS ls hl
      refine lv_iload_n (pc := 2) hx hb dX0_raiseAllBefore_2 rfl (lv_at hl 3 rfl) ?_
      refine lv_iload_n (pc := 3) hx hb dX0_raiseAllBefore_3 rfl (lv_at hl 1 rfl) ?_
      refine z_icmp_ge (tgt := 24) (pc := 4) hx hb dX0_raiseAllBefore_4 (by decide) (by omega) (by omega) (fun c_1 => ?_) (fun c_1 => absurd c_1 (by omega))
      exact wv_ret hx hb hrt hlk dX0_raiseAllBefore_24 hP hS (by rw [e2])
    · intro u hu ih z1 lw H locs e1 e2 hP hD hS ls hl
      refine lv_iload_n (pc := 2) hx hb dX0_raiseAllBefore_2 rfl (lv_at hl 3 rfl) ?_
      refine lv_iload_n (pc := 3) hx hb dX0_raiseAllBefore_3 rfl (lv_at hl 1 rfl) ?_
      refine z_icmp_ge (tgt := 24) (pc := 4) hx hb dX0_raiseAllBefore_4 (by decide) (by omega) (by omega) (fun c_2 => absurd c_2 (by omega)) (fun c_2 => ?_)
      refine lv_aload_n (pc := 7) hx hb dX0_raiseAllBefore_7 rfl (lv_at hl 0 rfl) ?_
      refine va_get (D := D) (cl := vwCl) (ci := 0) (v := .ref (ad 10)) (C := RX0) (T := TX0) (N := 3) (pc := 8) hx hb hT inT0 hown hK.1 hP 2 rfl rfl 1 (by decide) (hT _ tw_46) (fun _ h9 => h9) rfl dX0_raiseAllBefore_8 ?_
      refine lv_iload_n (pc := 11) hx hb dX0_raiseAllBefore_11 rfl (lv_at hl 3 rfl) ?_
      refine lv_dup2_11 (pc := 12) hx hb dX0_raiseAllBefore_12 rfl rfl ?_
      refine z_lald (pc := 13) hx hb hK hP 10 (u) (f := lw) rfl (by omega) (by omega) (by omega) dX0_raiseAllBefore_13 ?_
      refine lv_iload_n (pc := 14) hx hb dX0_raiseAllBefore_14 rfl (lv_at hl 2 rfl) ?_
      refine z_i2l (pc := 15) hx hb (by omega) dX0_raiseAllBefore_15 ?_
      refine z_lmul (pc := 16) hx hb dX0_raiseAllBefore_16 ?_
      refine z_last (pc := 17) hx hb hK hP hD hS 10 (u) (f := lw) (x := ((lw (u)) * f)) rfl (by omega) (by omega) (by omega) dX0_raiseAllBefore_17 (fun H locs hP hD hS => ?_)
      replace hP : va_P D vwCl (wX ad cI cJ n st hr ca pcs fr (uZ lw (u) (((lw (u)) * f))) k ts th sp hv pr hc) H := hP
      replace hD : va_D (inW (wX ad cI cJ n st hr ca pcs fr lv k ts th sp hv pr hc)) (wX ad cI cJ n st hr ca pcs fr (uZ lw (u) (((lw (u)) * f))) k ts th sp hv pr hc) := hD
      refine lv_iinc (v := zi (z1 + 1)) (lv' := [(3, .int (zi ((z1 + 1)))), (0, .ref (ad 2)), (1, .int (zi ((K : Int)))), (2, .int (zi (f)))]) (pc := 18) hx hb dX0_raiseAllBefore_18 hl (k := 3) rfl (zi_add _ _) (by decide) rfl (fun ls hl => ?_)
      refine lv_goto (tgt := 2) (pc := 21) hx hb dX0_raiseAllBefore_21 (by decide) ?_
      exact ih  _ _ _ _ (by rw [e1]; rfl) (by rw [e2]; exact raise_s lv f u) hP hD hS ls (lv_sub hl [1, 2, 3, 0] rfl)
  refine z_iconst (pc := 0) hx hb dX0_raiseAllBefore_0 ?_
  refine lv_istore_n (lv' := [(3, .int (zi (0))), (0, .ref (ad 2)), (1, .int (zi ((K : Int)))), (2, .int (zi (f)))]) (pc := 1) hx hb dX0_raiseAllBefore_1 rfl hl (by decide) rfl (fun ls hl => ?_)
  exact loop 0 (by omega) _ _ _ _ (by rfl) (by rw [raise_0]) hP hD hS ls (lv_sub hl [1, 2, 3, 0] rfl)

set_option maxHeartbeats 4000000 in
set_option maxRecDepth 100000 in
theorem c_X0_look (D : va_G) (cI cJ : ClassId) (l : Launch) (ad : Nat → Nat) (n : Int) (st hr ca : Nat → Int) (pcs : Int) (fr lv : Nat → Int) (k : Int) (ts th sp hv : Nat → Int) (pr hc : Int) (hU : VU n st hr ca) (S : Int) (hS0 : 0 ≤ S ∧ S ≤ 15) (b : Int) (r_b : -1 ≤ b ∧ b ≤ 2) : WV D cI cJ l yX0_look cX0_look 6 3 70 [.ref (ad 2), .ref (ad 1), .int (zi (S)), .int (zi (b))] (wX ad cI cJ n st hr ca pcs fr lv k ts th sp hv pr hc) (fun ws' => ∃ (i : Nat) (φ : Nat → Nat) (fr' lv' : Nat → Int), LE (FF n st hr ca S b) (RR n st hr S) i φ fr' lv' ∧ ws' = (wX ad cI cJ n st hr ca ((i : Int) + 1) fr' lv' k ts th sp hv pr hc)) := by
  refine WV.of (by decide) (Nat.le_of_ble_eq_true rfl) ?_
  intro p e s m args below meth c hx hb hrt hml hown hT hlk hK hP hD hS ls hl
  replace hl : lv_has ls 6 [(0, .ref (ad 2)), (1, .ref (ad 1)), (2, .int (zi (S))), (3, .int (zi (b)))] := hl
  obtain ⟨hn, hst, hhr, hh1, hca⟩ := id hU
  have hs := ST_of hU S b
  have loop : ∀ u : Nat, u ≤ 13 → ∀ (z1 zp : Int), ∀ (φ : Nat → Nat) (fw : Nat → Int) (lw : Nat → Int) (H : Heap) (locs : List Loc), (zp = (u : Int) + 1) → (LK (FF n st hr ca S b) (RR n st hr S) u φ fw lw) → (z1 = cNx st hr ca S b (φ u : Int) n.toNat) → va_P D vwCl (wX ad cI cJ n st hr ca zp fw lw k ts th sp hv pr hc) H → va_D (inW (wX ad cI cJ n st hr ca pcs fr lv k ts th sp hv pr hc)) (wX ad cI cJ n st hr ca zp fw lw k ts th sp hv pr hc) → va_S (inW (wX ad cI cJ n st hr ca pcs fr lv k ts th sp hv pr hc)) s.heap H locs → ∀ ls : Array Slot, lv_has ls 6 [(0, .ref (ad 2)), (1, .ref (ad 1)), (2, .int (zi (S))), (3, .int (zi (b))), (4, .int (zi (z1)))] → W p l e (RM 3 70) s m args below meth c H locs 0 0 (MQ below (QV D (wX ad cI cJ n st hr ca pcs fr lv k ts th sp hv pr hc) (fun ws' => ∃ (i : Nat) (φ : Nat → Nat) (fr' lv' : Nat → Int), LE (FF n st hr ca S b) (RR n st hr S) i φ fr' lv' ∧ ws' = (wX ad cI cJ n st hr ca ((i : Int) + 1) fr' lv' k ts th sp hv pr hc))) args s 0 0 (inW (wX ad cI cJ n st hr ca pcs fr lv k ts th sp hv pr hc))) (F0 m 28 ls []) := by
    refine lp_up (fun u => ∀ (z1 zp : Int), ∀ (φ : Nat → Nat) (fw : Nat → Int) (lw : Nat → Int) (H : Heap) (locs : List Loc), (zp = (u : Int) + 1) → (LK (FF n st hr ca S b) (RR n st hr S) u φ fw lw) → (z1 = cNx st hr ca S b (φ u : Int) n.toNat) → va_P D vwCl (wX ad cI cJ n st hr ca zp fw lw k ts th sp hv pr hc) H → va_D (inW (wX ad cI cJ n st hr ca pcs fr lv k ts th sp hv pr hc)) (wX ad cI cJ n st hr ca zp fw lw k ts th sp hv pr hc) → va_S (inW (wX ad cI cJ n st hr ca pcs fr lv k ts th sp hv pr hc)) s.heap H locs → ∀ ls : Array Slot, lv_has ls 6 [(0, .ref (ad 2)), (1, .ref (ad 1)), (2, .int (zi (S))), (3, .int (zi (b))), (4, .int (zi (z1)))] → W p l e (RM 3 70) s m args below meth c H locs 0 0 (MQ below (QV D (wX ad cI cJ n st hr ca pcs fr lv k ts th sp hv pr hc) (fun ws' => ∃ (i : Nat) (φ : Nat → Nat) (fr' lv' : Nat → Int), LE (FF n st hr ca S b) (RR n st hr S) i φ fr' lv' ∧ ws' = (wX ad cI cJ n st hr ca ((i : Int) + 1) fr' lv' k ts th sp hv pr hc))) args s 0 0 (inW (wX ad cI cJ n st hr ca pcs fr lv k ts th sp hv pr hc))) (F0 m 28 ls [])) (13) ?_ ?_
    · intro z1 zp φ fw lw H locs e0 e1 e2 hP hD hS ls hl
      exfalso; have h1 := e1.1; omega
    · intro u hu ih z1 zp φ fw lw H locs e0 e1 e2 hP hD hS ls hl
      refine lv_aload_n (pc := 28) hx hb dX0_look_28 rfl (lv_at hl 0 rfl) ?_
      refine va_get (D := D) (cl := vwCl) (ci := 0) (v := .int (zi (zp))) (C := RX0) (T := TX0) (N := 3) (pc := 29) hx hb hT inT0 hown hK.1 hP 2 rfl rfl 2 (by decide) (hT _ tw_47) (fun _ h9 => h9) rfl dX0_look_29 ?_
      refine lv_aload_n (pc := 32) hx hb dX0_look_32 rfl (lv_at hl 0 rfl) ?_
      refine va_get (D := D) (cl := vwCl) (ci := 0) (v := .ref (ad 9)) (C := RX0) (T := TX0) (N := 3) (pc := 33) hx hb hT inT0 hown hK.1 hP 2 rfl rfl 0 (by decide) (hT _ tw_45) (fun _ h9 => h9) rfl dX0_look_33 ?_
      refine z_alen (pc := 36) hx hb hK hP 9 rfl dX0_look_36 ?_
      refine z_icmp_ge (tgt := 132) (pc := 37) hx hb dX0_look_37 (by decide) (by omega) (by omega) (fun c_1 => ?_) (fun c_1 => ?_)
      · exact wv_ret hx hb hrt hlk dX0_look_132 hP hS (by
          rcases nx_of hU S b (φ u) with h | ⟨x, h1, h2, h3, h4, h5⟩
          · exact ⟨u, φ, fw, lw, LE_of e1 h.2, by rw [e0]⟩
          · have h6 := (LK_step hs e1 h2 h3 h4 h5).1
            exact absurd h6 (by omega))
      · have hcn := cNx_rng (st := st) (ca := ca) (S := S) (b := b) (t := (φ u : Int)) hhr n.toNat
        refine lv_iload (pc := 40) hx hb dX0_look_40 (lv_at hl 4 rfl) ?_
        refine z_iconst (pc := 42) hx hb dX0_look_42 ?_
        refine z_icmp_eq (tgt := 132) (pc := 43) hx hb dX0_look_43 (by decide) (by omega) (by omega) (fun c_2 => ?_) (fun c_2 => ?_)
        · exact wv_ret hx hb hrt hlk dX0_look_132 hP hS (by
            rcases nx_of hU S b (φ u) with h | ⟨x, h1, h2, h3, h4, h5⟩
            · exact ⟨u, φ, fw, lw, LE_of e1 h.2, by rw [e0]⟩
            · have h6 := (LK_step hs e1 h2 h3 h4 h5).1
              exact absurd h6 (by omega))
        · obtain ⟨x, hx2, hx3, hx4, hx5, hx6⟩ : ∃ x : Nat, z1 = (x : Int) ∧ φ u < x ∧ x ≤ 500 ∧ FF n st hr ca S b x ≠ 0 ∧ ∀ y : Nat, φ u < y → y < x → FF n st hr ca S b y = 0 := by
            rcases nx_of hU S b (φ u) with h | ⟨x, h1, h2, h3, h4, h5⟩
            · exact absurd (e2.trans h.1) (by omega)
            · exact ⟨x, e2.trans h1, h2, h3, h4, h5⟩
          have hst := LK_step hs e1 hx3 hx4 hx5 hx6
          have hRh := RR_eq n st hr S x
          have hFh := FF_eq n st hr ca S b x
          have hRg := cRk_rng (st := st) (hr := hr) (S := S) (t := z1) n.toNat
          have hFg := cFl_rng (st := st) (hr := hr) (ca := ca) (S := S) (b := b) (t := z1) n.toNat
          refine lv_aload_n (pc := 46) hx hb dX0_look_46 rfl (lv_at hl 1 rfl) ?_
          refine lv_iload_n (pc := 47) hx hb dX0_look_47 rfl (lv_at hl 2 rfl) ?_
          refine lv_iload (pc := 48) hx hb dX0_look_48 (lv_at hl 4 rfl) ?_
          refine rd_V (pc := 50) hx hb hml hown hT hK (c_X2_atRisk D cI cJ l ad n st hr ca zp fw lw k ts th sp hv pr hc hU (S) (by omega) (z1) (by omega)) ca_X2_atRisk tw_180 hP 1 2 rfl rfl rfl ⟨Nat.le_of_ble_eq_true rfl, Nat.le_of_ble_eq_true rfl⟩ rfl hl.1 (As := [.int (zi (S)), .int (zi (z1))]) (rest := []) rfl (Nat.le_of_ble_eq_true rfl) ⟨Nat.le_of_ble_eq_true rfl, Nat.le_of_ble_eq_true rfl⟩ dX0_look_50 ?_
          refine lv_istore (lv' := [(5, .int (zi ((cRk st hr (S) (z1) (n).toNat)))), (0, .ref (ad 2)), (1, .ref (ad 1)), (2, .int (zi (S))), (3, .int (zi (b))), (4, .int (zi (z1)))]) (pc := 53) hx hb dX0_look_53 hl (by decide) rfl (fun ls hl => ?_)
          refine lv_aload_n (pc := 55) hx hb dX0_look_55 rfl (lv_at hl 1 rfl) ?_
          refine va_get (D := D) (cl := vwCl) (ci := 0) (v := .ref (ad 9)) (C := RX0) (T := TX0) (N := 3) (pc := 56) hx hb hT inT0 hown hK.1 hP 2 rfl rfl 0 (by decide) (hT _ tw_45) (fun _ h9 => h9) rfl dX0_look_56 ?_
          refine lv_aload_n (pc := 59) hx hb dX0_look_59 rfl (lv_at hl 1 rfl) ?_
          refine va_get (D := D) (cl := vwCl) (ci := 0) (v := .int (zi (zp))) (C := RX0) (T := TX0) (N := 3) (pc := 60) hx hb hT inT0 hown hK.1 hP 2 rfl rfl 2 (by decide) (hT _ tw_47) (fun _ h9 => h9) rfl dX0_look_60 ?_
          refine lv_iload (pc := 63) hx hb dX0_look_63 (lv_at hl 5 rfl) ?_
          refine z_iast (pc := 65) hx hb hK hP hD hS 9 ((u + 1)) (f := fw) (x := z1) rfl (by omega) (by omega) (by omega) dX0_look_65 (fun H locs hP hD hS => ?_)
          replace hP : va_P D vwCl (wX ad cI cJ n st hr ca zp (uZ fw ((u + 1)) (z1)) lw k ts th sp hv pr hc) H := hP
          replace hD : va_D (inW (wX ad cI cJ n st hr ca pcs fr lv k ts th sp hv pr hc)) (wX ad cI cJ n st hr ca zp (uZ fw ((u + 1)) (z1)) lw k ts th sp hv pr hc) := hD
          refine lv_aload_n (pc := 66) hx hb dX0_look_66 rfl (lv_at hl 1 rfl) ?_
          refine va_get (D := D) (cl := vwCl) (ci := 0) (v := .ref (ad 10)) (C := RX0) (T := TX0) (N := 3) (pc := 67) hx hb hT inT0 hown hK.1 hP 2 rfl rfl 1 (by decide) (hT _ tw_46) (fun _ h9 => h9) rfl dX0_look_67 ?_
          refine lv_aload_n (pc := 70) hx hb dX0_look_70 rfl (lv_at hl 1 rfl) ?_
          refine va_get (D := D) (cl := vwCl) (ci := 0) (v := .int (zi (zp))) (C := RX0) (T := TX0) (N := 3) (pc := 71) hx hb hT inT0 hown hK.1 hP 2 rfl rfl 2 (by decide) (hT _ tw_47) (fun _ h9 => h9) rfl dX0_look_71 ?_
          refine lv_aload_n (pc := 74) hx hb dX0_look_74 rfl (lv_at hl 1 rfl) ?_
          refine va_get (D := D) (cl := vwCl) (ci := 0) (v := .ref (ad 10)) (C := RX0) (T := TX0) (N := 3) (pc := 75) hx hb hT inT0 hown hK.1 hP 2 rfl rfl 1 (by decide) (hT _ tw_46) (fun _ h9 => h9) rfl dX0_look_75 ?_
          refine lv_aload_n (pc := 78) hx hb dX0_look_78 rfl (lv_at hl 1 rfl) ?_
          refine va_get (D := D) (cl := vwCl) (ci := 0) (v := .int (zi (zp))) (C := RX0) (T := TX0) (N := 3) (pc := 79) hx hb hT inT0 hown hK.1 hP 2 rfl rfl 2 (by decide) (hT _ tw_47) (fun _ h9 => h9) rfl dX0_look_79 ?_
          refine z_iconst (pc := 82) hx hb dX0_look_82 ?_
          refine z_isub (pc := 83) hx hb dX0_look_83 ?_
          refine z_lald (pc := 84) hx hb hK hP 10 (u) (f := lw) rfl (by omega) (by omega) (by omega) dX0_look_84 ?_
          refine lv_iload (pc := 85) hx hb dX0_look_85 (lv_at hl 0 rfl) ?_
          refine lv_aload_n (pc := 87) hx hb dX0_look_87 rfl (lv_at hl 2 rfl) ?_
          refine lv_iload_n (pc := 88) hx hb dX0_look_88 rfl (lv_at hl 3 rfl) ?_
          refine lv_iload_n (pc := 89) hx hb dX0_look_89 rfl (lv_at hl 4 rfl) ?_
          refine lv_iload (pc := 90) hx hb dX0_look_90 (lv_at hl 5 rfl) ?_
          refine rd_V (pc := 92) hx hb hml hown hT hK (c_X2_failedAt D cI cJ l ad n st hr ca zp (uZ fw ((u + 1)) (z1)) lw k ts th sp hv pr hc hU (S) (by omega) (b) (by omega) (z1) (by omega)) ca_X2_failedAt tw_181 hP 1 2 rfl rfl rfl ⟨Nat.le_of_ble_eq_true rfl, Nat.le_of_ble_eq_true rfl⟩ rfl hl.1 (As := [.int (zi (S)), .int (zi (b)), .int (zi (z1))]) (rest := [.int (zi ((cRk st hr (S) (z1) (n).toNat))), .long (zj ((lw (u)))), .int (zi (zp)), .ref (ad 10)]) rfl (Nat.le_of_ble_eq_true rfl) ⟨Nat.le_of_ble_eq_true rfl, Nat.le_of_ble_eq_true rfl⟩ dX0_look_92 ?_
          refine z_isub (pc := 95) hx hb dX0_look_95 ?_
          refine z_i2l (pc := 96) hx hb (by omega) dX0_look_96 ?_
          refine z_lmul (pc := 97) hx hb dX0_look_97 ?_
          refine z_last (pc := 98) hx hb hK hP hD hS 10 ((u + 1)) (f := lw) (x := ((lw (u)) * ((cRk st hr (S) (z1) (n).toNat) - (cFl st hr ca (S) (b) (z1) (n).toNat)))) rfl (by omega) (by omega) (by omega) dX0_look_98 (fun H locs hP hD hS => ?_)
          replace hP : va_P D vwCl (wX ad cI cJ n st hr ca zp (uZ fw ((u + 1)) (z1)) (uZ lw ((u + 1)) (((lw (u)) * ((cRk st hr (S) (z1) (n).toNat) - (cFl st hr ca (S) (b) (z1) (n).toNat))))) k ts th sp hv pr hc) H := hP
          replace hD : va_D (inW (wX ad cI cJ n st hr ca pcs fr lv k ts th sp hv pr hc)) (wX ad cI cJ n st hr ca zp (uZ fw ((u + 1)) (z1)) (uZ lw ((u + 1)) (((lw (u)) * ((cRk st hr (S) (z1) (n).toNat) - (cFl st hr ca (S) (b) (z1) (n).toNat))))) k ts th sp hv pr hc) := hD
          refine lv_aload_n (pc := 99) hx hb dX0_look_99 rfl (lv_at hl 1 rfl) ?_
          refine lv_aload_n (pc := 100) hx hb dX0_look_100 rfl (lv_at hl 1 rfl) ?_
          refine va_get (D := D) (cl := vwCl) (ci := 0) (v := .int (zi (zp))) (C := RX0) (T := TX0) (N := 3) (pc := 101) hx hb hT inT0 hown hK.1 hP 2 rfl rfl 2 (by decide) (hT _ tw_47) (fun _ h9 => h9) rfl dX0_look_101 ?_
          refine lv_iload (pc := 104) hx hb dX0_look_104 (lv_at hl 0 rfl) ?_
          refine wv_V (pc := 106) hx hb hml hown hT hK (c_X0_raiseAllBefore D cI cJ l ad n st hr ca zp (uZ fw ((u + 1)) (z1)) (uZ lw ((u + 1)) (((lw (u)) * ((cRk st hr (S) (z1) (n).toNat) - (cFl st hr ca (S) (b) (z1) (n).toNat))))) k ts th sp hv pr hc (zp) ((cRk st hr (S) (z1) (n).toNat)) ((u + 1)) (by omega) (by omega) (by omega)) ca_X0_raiseAllBefore tw_185 hP hD hS (fun q h => inW_same (by rfl) h) 2 0 rfl rfl rfl ⟨Nat.le_of_ble_eq_true rfl, Nat.le_of_ble_eq_true rfl⟩ rfl hl.1 (As := [.int (zi (zp)), .int (zi ((cRk st hr (S) (z1) (n).toNat)))]) (rest := []) rfl (Nat.le_of_ble_eq_true rfl) ⟨Nat.le_of_ble_eq_true rfl, Nat.le_of_ble_eq_true rfl⟩ dX0_look_106 (fun ws_ H locs hΦ hP hz_ hk_ hS => ?_)
          subst hΦ
          replace hP : va_P D vwCl (wX ad cI cJ n st hr ca zp (uZ fw ((u + 1)) (z1)) (raiseF (uZ lw ((u + 1)) (((lw (u)) * ((cRk st hr (S) (z1) (n).toNat) - (cFl st hr ca (S) (b) (z1) (n).toNat))))) ((cRk st hr (S) (z1) (n).toNat)) ((u + 1))) k ts th sp hv pr hc) H := hP
          replace hD : va_D (inW (wX ad cI cJ n st hr ca pcs fr lv k ts th sp hv pr hc)) (wX ad cI cJ n st hr ca zp (uZ fw ((u + 1)) (z1)) (raiseF (uZ lw ((u + 1)) (((lw (u)) * ((cRk st hr (S) (z1) (n).toNat) - (cFl st hr ca (S) (b) (z1) (n).toNat))))) ((cRk st hr (S) (z1) (n).toNat)) ((u + 1))) k ts th sp hv pr hc) := hD.same rfl
          refine lv_aload_n (pc := 109) hx hb dX0_look_109 rfl (lv_at hl 2 rfl) ?_
          refine lv_iload_n (pc := 110) hx hb dX0_look_110 rfl (lv_at hl 3 rfl) ?_
          refine lv_iload_n (pc := 111) hx hb dX0_look_111 rfl (lv_at hl 4 rfl) ?_
          refine lv_iload (pc := 112) hx hb dX0_look_112 (lv_at hl 5 rfl) ?_
          refine rd_V (pc := 114) hx hb hml hown hT hK (c_X2_nextFailure D cI cJ l ad n st hr ca zp (uZ fw ((u + 1)) (z1)) (raiseF (uZ lw ((u + 1)) (((lw (u)) * ((cRk st hr (S) (z1) (n).toNat) - (cFl st hr ca (S) (b) (z1) (n).toNat))))) ((cRk st hr (S) (z1) (n).toNat)) ((u + 1))) k ts th sp hv pr hc hU (S) (by omega) (b) (by omega) (z1) (by omega)) ca_X2_nextFailure tw_172 hP 1 2 rfl rfl rfl ⟨Nat.le_of_ble_eq_true rfl, Nat.le_of_ble_eq_true rfl⟩ rfl hl.1 (As := [.int (zi (S)), .int (zi (b)), .int (zi (z1))]) (rest := []) rfl (Nat.le_of_ble_eq_true rfl) ⟨Nat.le_of_ble_eq_true rfl, Nat.le_of_ble_eq_true rfl⟩ dX0_look_114 ?_
          refine lv_istore (lv' := [(4, .int (zi ((cNx st hr ca (S) (b) (z1) (n).toNat)))), (5, .int (zi ((cRk st hr (S) (z1) (n).toNat)))), (0, .ref (ad 2)), (1, .ref (ad 1)), (2, .int (zi (S))), (3, .int (zi (b)))]) (pc := 117) hx hb dX0_look_117 hl (by decide) rfl (fun ls hl => ?_)
          refine lv_aload_n (pc := 119) hx hb dX0_look_119 rfl (lv_at hl 2 rfl) ?_
          refine lv_dup (pc := 120) hx hb dX0_look_120 rfl ?_
          refine va_get (D := D) (cl := vwCl) (ci := 0) (v := .int (zi (zp))) (C := RX0) (T := TX0) (N := 3) (pc := 121) hx hb hT inT0 hown hK.1 hP 2 rfl rfl 2 (by decide) (hT _ tw_47) (fun _ h9 => h9) rfl dX0_look_121 ?_
          refine z_iconst (pc := 124) hx hb dX0_look_124 ?_
          refine z_iadd (pc := 125) hx hb dX0_look_125 ?_
          refine va_put (D := D) (cl := vwCl) (ci := 0) (v := .int (zi ((zp + 1)))) (ty := .int) (C := RX0) (T := TX0) (N := 3) (pc := 126) hx hb hT inT0 tyX0 tyX0_ok nmX0 hown hK.1 hP hD hS 2 rfl rfl 2 (by decide) (hT _ tw_47) (fun _ h9 => h9) rfl (by decide +kernel) rfl rfl (Nat.le_of_ble_eq_true rfl) dX0_look_126 (fun H locs hP hD hS => ?_)
          replace hP : va_P D vwCl (wX ad cI cJ n st hr ca ((zp + 1)) (uZ fw ((u + 1)) (z1)) (raiseF (uZ lw ((u + 1)) (((lw (u)) * ((cRk st hr (S) (z1) (n).toNat) - (cFl st hr ca (S) (b) (z1) (n).toNat))))) ((cRk st hr (S) (z1) (n).toNat)) ((u + 1))) k ts th sp hv pr hc) H := hP
          replace hD : va_D (inW (wX ad cI cJ n st hr ca pcs fr lv k ts th sp hv pr hc)) (wX ad cI cJ n st hr ca ((zp + 1)) (uZ fw ((u + 1)) (z1)) (raiseF (uZ lw ((u + 1)) (((lw (u)) * ((cRk st hr (S) (z1) (n).toNat) - (cFl st hr ca (S) (b) (z1) (n).toNat))))) ((cRk st hr (S) (z1) (n).toNat)) ((u + 1))) k ts th sp hv pr hc) := hD
          refine lv_goto (tgt := 28) (pc := 129) hx hb dX0_look_129 (by decide) ?_
          exact ih  _ _ (fun j => if j = u + 1 then x else φ j) _ _ _ _ (by omega) (by rw [hx2, hRh, hFh]; exact hst.2) (by show _ = cNx st hr ca S b ((if u + 1 = u + 1 then x else φ (u + 1) : Nat) : Int) n.toNat; rw [if_pos rfl, ← hx2]) hP hD hS ls (lv_sub hl [2, 3, 4, 5, 0] rfl)
  refine lv_aload_n (pc := 0) hx hb dX0_look_0 rfl (lv_at hl 0 rfl) ?_
  refine va_get (D := D) (cl := vwCl) (ci := 0) (v := .ref (ad 9)) (C := RX0) (T := TX0) (N := 3) (pc := 1) hx hb hT inT0 hown hK.1 hP 2 rfl rfl 0 (by decide) (hT _ tw_45) (fun _ h9 => h9) rfl dX0_look_1 ?_
  refine z_iconst (pc := 4) hx hb dX0_look_4 ?_
  refine z_iconst (pc := 5) hx hb dX0_look_5 ?_
  refine z_iast (pc := 6) hx hb hK hP hD hS 9 (0) (f := fr) (x := 0) rfl (by omega) (by omega) (by omega) dX0_look_6 (fun H locs hP hD hS => ?_)
  replace hP : va_P D vwCl (wX ad cI cJ n st hr ca pcs (uZ fr (0) (0)) lv k ts th sp hv pr hc) H := hP
  replace hD : va_D (inW (wX ad cI cJ n st hr ca pcs fr lv k ts th sp hv pr hc)) (wX ad cI cJ n st hr ca pcs (uZ fr (0) (0)) lv k ts th sp hv pr hc) := hD
  refine lv_aload_n (pc := 7) hx hb dX0_look_7 rfl (lv_at hl 0 rfl) ?_
  refine va_get (D := D) (cl := vwCl) (ci := 0) (v := .ref (ad 10)) (C := RX0) (T := TX0) (N := 3) (pc := 8) hx hb hT inT0 hown hK.1 hP 2 rfl rfl 1 (by decide) (hT _ tw_46) (fun _ h9 => h9) rfl dX0_look_8 ?_
  refine z_iconst (pc := 11) hx hb dX0_look_11 ?_
  refine z_lconst1 (pc := 12) hx hb dX0_look_12 ?_
  refine z_last (pc := 13) hx hb hK hP hD hS 10 (0) (f := lv) (x := 1) rfl (by omega) (by omega) (by omega) dX0_look_13 (fun H locs hP hD hS => ?_)
  replace hP : va_P D vwCl (wX ad cI cJ n st hr ca pcs (uZ fr (0) (0)) (uZ lv (0) (1)) k ts th sp hv pr hc) H := hP
  replace hD : va_D (inW (wX ad cI cJ n st hr ca pcs fr lv k ts th sp hv pr hc)) (wX ad cI cJ n st hr ca pcs (uZ fr (0) (0)) (uZ lv (0) (1)) k ts th sp hv pr hc) := hD
  refine lv_aload_n (pc := 14) hx hb dX0_look_14 rfl (lv_at hl 1 rfl) ?_
  refine lv_iload_n (pc := 15) hx hb dX0_look_15 rfl (lv_at hl 2 rfl) ?_
  refine lv_iload_n (pc := 16) hx hb dX0_look_16 rfl (lv_at hl 3 rfl) ?_
  refine z_iconst (pc := 17) hx hb dX0_look_17 ?_
  refine rd_V (pc := 18) hx hb hml hown hT hK (c_X2_nextFailure D cI cJ l ad n st hr ca pcs (uZ fr (0) (0)) (uZ lv (0) (1)) k ts th sp hv pr hc hU (S) (by omega) (b) (by omega) (0) (by omega)) ca_X2_nextFailure tw_172 hP 1 2 rfl rfl rfl ⟨Nat.le_of_ble_eq_true rfl, Nat.le_of_ble_eq_true rfl⟩ rfl hl.1 (As := [.int (zi (S)), .int (zi (b)), .int (zi (0))]) (rest := []) rfl (Nat.le_of_ble_eq_true rfl) ⟨Nat.le_of_ble_eq_true rfl, Nat.le_of_ble_eq_true rfl⟩ dX0_look_18 ?_
  refine lv_istore (lv' := [(4, .int (zi ((cNx st hr ca (S) (b) (0) (n).toNat)))), (0, .ref (ad 2)), (1, .ref (ad 1)), (2, .int (zi (S))), (3, .int (zi (b)))]) (pc := 21) hx hb dX0_look_21 hl (by decide) rfl (fun ls hl => ?_)
  refine lv_aload_n (pc := 23) hx hb dX0_look_23 rfl (lv_at hl 1 rfl) ?_
  refine z_iconst (pc := 24) hx hb dX0_look_24 ?_
  refine va_put (D := D) (cl := vwCl) (ci := 0) (v := .int (zi (1))) (ty := .int) (C := RX0) (T := TX0) (N := 3) (pc := 25) hx hb hT inT0 tyX0 tyX0_ok nmX0 hown hK.1 hP hD hS 2 rfl rfl 2 (by decide) (hT _ tw_47) (fun _ h9 => h9) rfl (by decide +kernel) rfl rfl (Nat.le_of_ble_eq_true rfl) dX0_look_25 (fun H locs hP hD hS => ?_)
  replace hP : va_P D vwCl (wX ad cI cJ n st hr ca 1 (uZ fr (0) (0)) (uZ lv (0) (1)) k ts th sp hv pr hc) H := hP
  replace hD : va_D (inW (wX ad cI cJ n st hr ca pcs fr lv k ts th sp hv pr hc)) (wX ad cI cJ n st hr ca 1 (uZ fr (0) (0)) (uZ lv (0) (1)) k ts th sp hv pr hc) := hD
  exact loop 0 (by omega) _ _ _ _ _ _ _ (by omega) (LK_0 hs fr lv) (by rfl) hP hD hS ls (lv_sub hl [1, 2, 3, 4, 0] rfl)

set_option maxHeartbeats 4000000 in
set_option maxRecDepth 100000 in
theorem c_X0_whole (D : va_G) (cI cJ : ClassId) (l : Launch) (ad : Nat → Nat) (n : Int) (st hr ca : Nat → Int) (pcs : Int) (fr lv : Nat → Int) (k : Int) (ts th sp hv : Nat → Int) (pr hc : Int) (F R : Nat → Nat) (hs : STd F R) (i : Nat) (φ : Nat → Nat) (hE : LE F R i φ fr lv) (hp : pcs = (i : Int) + 1) : RD D cI cJ l yX0_whole cX0_whole 1 (some .long) 0 0 [.ref (ad 2)] (wX ad cI cJ n st hr ca pcs fr lv k ts th sp hv pr hc) (.long (zj ((lev F R 0 : Int)))) := by
  refine RD.of (by decide) (Nat.le_of_ble_eq_true rfl) ?_
  intro p e s m args below meth c hx hb hrt hml hown hT hlk hK hP ls hl
  replace hl : lv_has ls 1 [(0, .ref (ad 2))] := hl
  obtain ⟨hi12, hφ0, hφi, hφm, hφz, hφe, hfr0, hlv0⟩ := id hE
  have hfr : ∀ j : Nat, j ≤ i → fr j = (φ j : Int) ∧ φ j ≤ 500 := fun j hj => ⟨(hfr0 j hj).1, by have := (hfr0 j hj).2; omega⟩
  have hlv : ∀ j : Nat, j ≤ i → lv j = (lev F R (φ j) : Int) ∧ lev F R (φ j) ≤ 479001600 := fun j hj => ⟨hlv0 j hj, lev_rng hs (hfr j hj).2⟩
  refine lv_aload_n (pc := 0) hx hb dX0_whole_0 rfl (lv_at hl 0 rfl) ?_
  refine va_get (D := D) (cl := vwCl) (ci := 0) (v := .ref (ad 10)) (C := RX0) (T := TX0) (N := 3) (pc := 1) hx hb hT inT0 hown hK.1 hP 2 rfl rfl 1 (by decide) (hT _ tw_46) (fun _ h9 => h9) rfl dX0_whole_1 ?_
  refine z_iconst (pc := 4) hx hb dX0_whole_4 ?_
  refine z_lald (pc := 5) hx hb hK hP 10 (0) (f := lv) rfl (by omega) (by omega) (by omega) dX0_whole_5 ?_
  have r_1 := hlv (0) (by omega)
  exact rd_lret hx hb hrt hlk dX0_whole_6 (by rw [r_1.1, hφ0])

set_option maxHeartbeats 4000000 in
set_option maxRecDepth 100000 in
theorem c_X0_levelAt (D : va_G) (cI cJ : ClassId) (l : Launch) (ad : Nat → Nat) (n : Int) (st hr ca : Nat → Int) (pcs : Int) (fr lv : Nat → Int) (k : Int) (ts th sp hv : Nat → Int) (pr hc : Int) (F R : Nat → Nat) (hs : STd F R) (i : Nat) (φ : Nat → Nat) (hE : LE F R i φ fr lv) (hp : pcs = (i : Int) + 1) (z : Int) (t : Nat) (hz : z = (t : Int)) (ht : t ≤ 500) : RD D cI cJ l yX0_levelAt cX0_levelAt 4 (some .long) 0 0 [.ref (ad 2), .int (zi (z))] (wX ad cI cJ n st hr ca pcs fr lv k ts th sp hv pr hc) (.long (zj ((lev F R t : Int)))) := by
  subst hz
  refine RD.of (by decide) (Nat.le_of_ble_eq_true rfl) ?_
  intro p e s m args below meth c hx hb hrt hml hown hT hlk hK hP ls hl
  replace hl : lv_has ls 4 [(0, .ref (ad 2)), (1, .int (zi ((t : Int))))] := hl
  obtain ⟨hi12, hφ0, hφi, hφm, hφz, hφe, hfr0, hlv0⟩ := id hE
  have hfr : ∀ j : Nat, j ≤ i → fr j = (φ j : Int) ∧ φ j ≤ 500 := fun j hj => ⟨(hfr0 j hj).1, by have := (hfr0 j hj).2; omega⟩
  have hlv : ∀ j : Nat, j ≤ i → lv j = (lev F R (φ j) : Int) ∧ lev F R (φ j) ≤ 479001600 := fun j hj => ⟨hlv0 j hj, lev_rng hs (hfr j hj).2⟩
  have loop : ∀ u : Nat, u ≤ (i + 1) → ∀ (z1 z2 : Int), (1 ≤ u) → (z1 = (u : Int) - 1) → (z2 = (u : Int)) → (φ (u - 1) ≤ t) → ∀ ls : Array Slot, lv_has ls 4 [(0, .ref (ad 2)), (1, .int (zi ((t : Int)))), (2, .int (zi (z1))), (3, .int (zi (z2)))] → W p l e (RM 0 0) s m args below meth c s.heap [] 0 0 (MQ below (QR (.long (zj ((lev F R t : Int)))) s.heap) args s 0 0 (fun _ => False)) (F0 m 4 ls []) := by
    refine lp_up (fun u => ∀ (z1 z2 : Int), (1 ≤ u) → (z1 = (u : Int) - 1) → (z2 = (u : Int)) → (φ (u - 1) ≤ t) → ∀ ls : Array Slot, lv_has ls 4 [(0, .ref (ad 2)), (1, .int (zi ((t : Int)))), (2, .int (zi (z1))), (3, .int (zi (z2)))] → W p l e (RM 0 0) s m args below meth c s.heap [] 0 0 (MQ below (QR (.long (zj ((lev F R t : Int)))) s.heap) args s 0 0 (fun _ => False)) (F0 m 4 ls [])) ((i + 1)) ?_ ?_
    · intro z1 z2 e0 e1 e2 e3 ls hl
      refine lv_iload_n (pc := 4) hx hb dX0_levelAt_4 rfl (lv_at hl 3 rfl) ?_
      refine lv_aload_n (pc := 5) hx hb dX0_levelAt_5 rfl (lv_at hl 0 rfl) ?_
      refine va_get (D := D) (cl := vwCl) (ci := 0) (v := .int (zi (pcs))) (C := RX0) (T := TX0) (N := 3) (pc := 6) hx hb hT inT0 hown hK.1 hP 2 rfl rfl 2 (by decide) (hT _ tw_47) (fun _ h9 => h9) rfl dX0_levelAt_6 ?_
      refine z_icmp_ge (tgt := 30) (pc := 9) hx hb dX0_levelAt_9 (by decide) (by omega) (by omega) (fun c_1 => ?_) (fun c_1 => absurd c_1 (by omega))
      refine lv_aload_n (pc := 30) hx hb dX0_levelAt_30 rfl (lv_at hl 0 rfl) ?_
      refine va_get (D := D) (cl := vwCl) (ci := 0) (v := .ref (ad 10)) (C := RX0) (T := TX0) (N := 3) (pc := 31) hx hb hT inT0 hown hK.1 hP 2 rfl rfl 1 (by decide) (hT _ tw_46) (fun _ h9 => h9) rfl dX0_levelAt_31 ?_
      refine lv_iload_n (pc := 34) hx hb dX0_levelAt_34 rfl (lv_at hl 2 rfl) ?_
      refine z_lald (pc := 35) hx hb hK hP 10 ((((i + 1)) - 1)) (f := lv) rfl (by omega) (by omega) (by omega) dX0_levelAt_35 ?_
      have r_2 := hlv ((((i + 1)) - 1)) (by omega)
      exact rd_lret hx hb hrt hlk dX0_levelAt_36 (by rw [(hlv (i + 1 - 1) (by omega)).1, LE_lev hE (u := i + 1 - 1) (by omega) e3 (by rw [nxt, if_neg (by omega)]; omega)])
    · intro u hu ih z1 z2 e0 e1 e2 e3 ls hl
      refine lv_iload_n (pc := 4) hx hb dX0_levelAt_4 rfl (lv_at hl 3 rfl) ?_
      refine lv_aload_n (pc := 5) hx hb dX0_levelAt_5 rfl (lv_at hl 0 rfl) ?_
      refine va_get (D := D) (cl := vwCl) (ci := 0) (v := .int (zi (pcs))) (C := RX0) (T := TX0) (N := 3) (pc := 6) hx hb hT inT0 hown hK.1 hP 2 rfl rfl 2 (by decide) (hT _ tw_47) (fun _ h9 => h9) rfl dX0_levelAt_6 ?_
      refine z_icmp_ge (tgt := 30) (pc := 9) hx hb dX0_levelAt_9 (by decide) (by omega) (by omega) (fun c_3 => absurd c_3 (by omega)) (fun c_3 => ?_)
      refine lv_aload_n (pc := 12) hx hb dX0_levelAt_12 rfl (lv_at hl 0 rfl) ?_
      refine va_get (D := D) (cl := vwCl) (ci := 0) (v := .ref (ad 9)) (C := RX0) (T := TX0) (N := 3) (pc := 13) hx hb hT inT0 hown hK.1 hP 2 rfl rfl 0 (by decide) (hT _ tw_45) (fun _ h9 => h9) rfl dX0_levelAt_13 ?_
      refine lv_iload_n (pc := 16) hx hb dX0_levelAt_16 rfl (lv_at hl 3 rfl) ?_
      refine z_iald (pc := 17) hx hb hK hP 9 (u) (f := fr) rfl (by omega) (by omega) (by omega) dX0_levelAt_17 ?_
      have r_4 := hfr (u) (by omega)
      refine lv_iload_n (pc := 18) hx hb dX0_levelAt_18 rfl (lv_at hl 1 rfl) ?_
      refine z_icmp_gt (tgt := 30) (pc := 19) hx hb dX0_levelAt_19 (by decide) (by omega) (by omega) (fun c_5 => ?_) (fun c_5 => ?_)
      · refine lv_aload_n (pc := 30) hx hb dX0_levelAt_30 rfl (lv_at hl 0 rfl) ?_
        refine va_get (D := D) (cl := vwCl) (ci := 0) (v := .ref (ad 10)) (C := RX0) (T := TX0) (N := 3) (pc := 31) hx hb hT inT0 hown hK.1 hP 2 rfl rfl 1 (by decide) (hT _ tw_46) (fun _ h9 => h9) rfl dX0_levelAt_31 ?_
        refine lv_iload_n (pc := 34) hx hb dX0_levelAt_34 rfl (lv_at hl 2 rfl) ?_
        refine z_lald (pc := 35) hx hb hK hP 10 ((u - 1)) (f := lv) rfl (by omega) (by omega) (by omega) dX0_levelAt_35 ?_
        have r_6 := hlv ((u - 1)) (by omega)
        exact rd_lret hx hb hrt hlk dX0_levelAt_36 (by rw [(hlv (u - 1) (by omega)).1, LE_lev hE (u := u - 1) (by omega) e3 (by rw [nxt, show u - 1 + 1 = u by omega, if_pos (by omega)]; omega)])
      · refine lv_iload_n (pc := 22) hx hb dX0_levelAt_22 rfl (lv_at hl 3 rfl) ?_
        refine lv_istore_n (lv' := [(2, .int (zi (z2))), (0, .ref (ad 2)), (1, .int (zi ((t : Int)))), (3, .int (zi (z2)))]) (pc := 23) hx hb dX0_levelAt_23 rfl hl (by decide) rfl (fun ls hl => ?_)
        refine lv_iinc (v := zi (z2 + 1)) (lv' := [(3, .int (zi ((z2 + 1)))), (2, .int (zi (z2))), (0, .ref (ad 2)), (1, .int (zi ((t : Int))))]) (pc := 24) hx hb dX0_levelAt_24 hl (k := 3) rfl (zi_add _ _) (by decide) rfl (fun ls hl => ?_)
        refine lv_goto (tgt := 4) (pc := 27) hx hb dX0_levelAt_27 (by decide) ?_
        exact ih  _ _ (by omega) (by omega) (by omega) (by rw [Nat.add_sub_cancel]; omega) ls (lv_sub hl [2, 3, 1, 0] rfl)
  refine z_iconst (pc := 0) hx hb dX0_levelAt_0 ?_
  refine lv_istore_n (lv' := [(2, .int (zi (0))), (0, .ref (ad 2)), (1, .int (zi ((t : Int))))]) (pc := 1) hx hb dX0_levelAt_1 rfl hl (by decide) rfl (fun ls hl => ?_)
  refine z_iconst (pc := 2) hx hb dX0_levelAt_2 ?_
  refine lv_istore_n (lv' := [(3, .int (zi (1))), (2, .int (zi (0))), (0, .ref (ad 2)), (1, .int (zi ((t : Int))))]) (pc := 3) hx hb dX0_levelAt_3 rfl hl (by decide) rfl (fun ls hl => ?_)
  exact loop 1 (by omega) _ _ (by omega) (by omega) (by rfl) (by show φ 0 ≤ t; omega) ls (lv_sub hl [2, 3, 1, 0] rfl)

set_option maxHeartbeats 4000000 in
set_option maxRecDepth 100000 in
theorem c_X0_firstAtMost (D : va_G) (cI cJ : ClassId) (l : Launch) (ad : Nat → Nat) (n : Int) (st hr ca : Nat → Int) (pcs : Int) (fr lv : Nat → Int) (k : Int) (ts th sp hv : Nat → Int) (pr hc : Int) (F R : Nat → Nat) (hs : STd F R) (i : Nat) (φ : Nat → Nat) (hE : LE F R i φ fr lv) (hp : pcs = (i : Int) + 1) (a b : Int) (hab : 0 ≤ a ∧ a ≤ 1000 ∧ 1 ≤ b ∧ b ≤ 1000) : RD D cI cJ l yX0_firstAtMost cX0_firstAtMost 4 (some .int) 1 20 [.ref (ad 2), .int (zi (a)), .int (zi (b))] (wX ad cI cJ n st hr ca pcs fr lv k ts th sp hv pr hc) (.int (zi (timeF (tmT F R a b) 501))) := by
  refine RD.of (by decide) (Nat.le_of_ble_eq_true rfl) ?_
  intro p e s m args below meth c hx hb hrt hml hown hT hlk hK hP ls hl
  replace hl : lv_has ls 4 [(0, .ref (ad 2)), (1, .int (zi (a))), (2, .int (zi (b)))] := hl
  obtain ⟨hi12, hφ0, hφi, hφm, hφz, hφe, hfr0, hlv0⟩ := id hE
  have hfr : ∀ j : Nat, j ≤ i → fr j = (φ j : Int) ∧ φ j ≤ 500 := fun j hj => ⟨(hfr0 j hj).1, by have := (hfr0 j hj).2; omega⟩
  have hlv : ∀ j : Nat, j ≤ i → lv j = (lev F R (φ j) : Int) ∧ lev F R (φ j) ≤ 479001600 := fun j hj => ⟨hlv0 j hj, lev_rng hs (hfr j hj).2⟩
  have loop : ∀ u : Nat, u ≤ (i + 1) → ∀ (z1 : Int), (z1 = (u : Int)) → (timeF (tmT F R a b) 501 = timeF (tmT F R a b) (501 - nxt φ i u)) → ∀ ls : Array Slot, lv_has ls 4 [(0, .ref (ad 2)), (1, .int (zi (a))), (2, .int (zi (b))), (3, .int (zi (z1)))] → W p l e (RM 1 20) s m args below meth c s.heap [] 0 0 (MQ below (QR (.int (zi (timeF (tmT F R a b) 501))) s.heap) args s 0 0 (fun _ => False)) (F0 m 2 ls []) := by
    refine lp_up (fun u => ∀ (z1 : Int), (z1 = (u : Int)) → (timeF (tmT F R a b) 501 = timeF (tmT F R a b) (501 - nxt φ i u)) → ∀ ls : Array Slot, lv_has ls 4 [(0, .ref (ad 2)), (1, .int (zi (a))), (2, .int (zi (b))), (3, .int (zi (z1)))] → W p l e (RM 1 20) s m args below meth c s.heap [] 0 0 (MQ below (QR (.int (zi (timeF (tmT F R a b) 501))) s.heap) args s 0 0 (fun _ => False)) (F0 m 2 ls [])) ((i + 1)) ?_ ?_
    · intro z1 e1 e2 ls hl
      refine lv_iload_n (pc := 2) hx hb dX0_firstAtMost_2 rfl (lv_at hl 3 rfl) ?_
      refine lv_aload_n (pc := 3) hx hb dX0_firstAtMost_3 rfl (lv_at hl 0 rfl) ?_
      refine va_get (D := D) (cl := vwCl) (ci := 0) (v := .int (zi (pcs))) (C := RX0) (T := TX0) (N := 3) (pc := 4) hx hb hT inT0 hown hK.1 hP 2 rfl rfl 2 (by decide) (hT _ tw_47) (fun _ h9 => h9) rfl dX0_firstAtMost_4 ?_
      refine z_icmp_ge (tgt := 43) (pc := 7) hx hb dX0_firstAtMost_7 (by decide) (by omega) (by omega) (fun c_1 => ?_) (fun c_1 => absurd c_1 (by omega))
      refine z_iconst (pc := 43) hx hb dX0_firstAtMost_43 ?_
      exact rd_iret hx hb hrt hlk dX0_firstAtMost_44 (by rw [e2, nxt, if_neg (by omega)]; rfl)
    · intro u hu ih z1 e1 e2 ls hl
      refine lv_iload_n (pc := 2) hx hb dX0_firstAtMost_2 rfl (lv_at hl 3 rfl) ?_
      refine lv_aload_n (pc := 3) hx hb dX0_firstAtMost_3 rfl (lv_at hl 0 rfl) ?_
      refine va_get (D := D) (cl := vwCl) (ci := 0) (v := .int (zi (pcs))) (C := RX0) (T := TX0) (N := 3) (pc := 4) hx hb hT inT0 hown hK.1 hP 2 rfl rfl 2 (by decide) (hT _ tw_47) (fun _ h9 => h9) rfl dX0_firstAtMost_4 ?_
      refine z_icmp_ge (tgt := 43) (pc := 7) hx hb dX0_firstAtMost_7 (by decide) (by omega) (by omega) (fun c_2 => absurd c_2 (by omega)) (fun c_2 => ?_)
      refine lv_aload_n (pc := 10) hx hb dX0_firstAtMost_10 rfl (lv_at hl 0 rfl) ?_
      refine va_get (D := D) (cl := vwCl) (ci := 0) (v := .ref (ad 10)) (C := RX0) (T := TX0) (N := 3) (pc := 11) hx hb hT inT0 hown hK.1 hP 2 rfl rfl 1 (by decide) (hT _ tw_46) (fun _ h9 => h9) rfl dX0_firstAtMost_11 ?_
      refine lv_iload_n (pc := 14) hx hb dX0_firstAtMost_14 rfl (lv_at hl 3 rfl) ?_
      refine z_lald (pc := 15) hx hb hK hP 10 (u) (f := lv) rfl (by omega) (by omega) (by omega) dX0_firstAtMost_15 ?_
      have r_3 := hlv (u) (by omega)
      refine lv_iload_n (pc := 16) hx hb dX0_firstAtMost_16 rfl (lv_at hl 2 rfl) ?_
      refine z_i2l (pc := 17) hx hb (by omega) dX0_firstAtMost_17 ?_
      have hlu := hlv u (by omega)
      have hnx := LE_nxt hE (u := u) (by omega)
      have h0 := (lev_0 hs).2
      have hm1 := mul_rng (a := lv u) (b := b) (A := 479001600) (B := 1000) (by omega) (by omega)
      have hm2 := mul_rng (a := (lev F R 0 : Int)) (b := a) (A := 479001600) (B := 1000) (by omega) (by omega)
      refine z_lmul (pc := 18) hx hb dX0_firstAtMost_18 ?_
      refine lv_aload_n (pc := 19) hx hb dX0_firstAtMost_19 rfl (lv_at hl 0 rfl) ?_
      refine rd_V (pc := 20) hx hb hml hown hT hK (c_X0_whole D cI cJ l ad n st hr ca pcs fr lv k ts th sp hv pr hc F R hs i φ hE hp) ca_X0_whole tw_211 hP 2 0 rfl rfl rfl ⟨Nat.le_of_ble_eq_true rfl, Nat.le_of_ble_eq_true rfl⟩ rfl hl.1 (As := []) (rest := [.long (zj (((lv (u)) * b)))]) rfl (Nat.le_of_ble_eq_true rfl) ⟨Nat.le_of_ble_eq_true rfl, Nat.le_of_ble_eq_true rfl⟩ dX0_firstAtMost_20 ?_
      refine lv_iload_n (pc := 23) hx hb dX0_firstAtMost_23 rfl (lv_at hl 1 rfl) ?_
      refine z_i2l (pc := 24) hx hb (by omega) dX0_firstAtMost_24 ?_
      refine z_lmul (pc := 25) hx hb dX0_firstAtMost_25 ?_
      refine z_lcmp_gt (tgt := 37) (pc := 26) hx hb dX0_firstAtMost_26 dX0_firstAtMost_27 (by decide) (by omega) (by omega) (fun c_4 => ?_) (fun c_4 => ?_)
      · refine lv_iinc (v := zi (z1 + 1)) (lv' := [(3, .int (zi ((z1 + 1)))), (0, .ref (ad 2)), (1, .int (zi (a))), (2, .int (zi (b)))]) (pc := 37) hx hb dX0_firstAtMost_37 hl (k := 3) rfl (zi_add _ _) (by decide) rfl (fun ls hl => ?_)
        refine lv_goto (tgt := 2) (pc := 40) hx hb dX0_firstAtMost_40 (by decide) ?_
        exact ih  _ (by omega) (by rw [e2, nxt, if_pos (by omega)]; exact timeF_to (by omega) (by omega) (fun t h1 h2 => by rw [tmT, LE_lev hE (by omega) h1 h2, ← hlu.1]; omega)) ls (lv_sub hl [1, 2, 3, 0] rfl)
      · refine lv_aload_n (pc := 30) hx hb dX0_firstAtMost_30 rfl (lv_at hl 0 rfl) ?_
        refine va_get (D := D) (cl := vwCl) (ci := 0) (v := .ref (ad 9)) (C := RX0) (T := TX0) (N := 3) (pc := 31) hx hb hT inT0 hown hK.1 hP 2 rfl rfl 0 (by decide) (hT _ tw_45) (fun _ h9 => h9) rfl dX0_firstAtMost_31 ?_
        refine lv_iload_n (pc := 34) hx hb dX0_firstAtMost_34 rfl (lv_at hl 3 rfl) ?_
        refine z_iald (pc := 35) hx hb hK hP 9 (u) (f := fr) rfl (by omega) (by omega) (by omega) dX0_firstAtMost_35 ?_
        have r_5 := hfr (u) (by omega)
        exact rd_iret hx hb hrt hlk dX0_firstAtMost_36 (by rw [e2, nxt, if_pos (by omega), timeF_hit (hfr u (by omega)).2 (by rw [tmT, ← hlu.1]; omega), (hfr u (by omega)).1])
  refine z_iconst (pc := 0) hx hb dX0_firstAtMost_0 ?_
  refine lv_istore_n (lv' := [(3, .int (zi (0))), (0, .ref (ad 2)), (1, .int (zi (a))), (2, .int (zi (b)))]) (pc := 1) hx hb dX0_firstAtMost_1 rfl hl (by decide) rfl (fun ls hl => ?_)
  exact loop 0 (by omega) _ (by rfl) (by rw [nxt, if_pos (by omega), hφ0]) ls (lv_sub hl [1, 2, 3, 0] rfl)

set_option maxHeartbeats 4000000 in
set_option maxRecDepth 100000 in
theorem c_X0_sumOf (D : va_G) (cI cJ : ClassId) (l : Launch) (ad : Nat → Nat) (n : Int) (st hr ca : Nat → Int) (pcs : Int) (fr lv : Nat → Int) (k : Int) (ts th sp hv : Nat → Int) (pr hc : Int) (F R : Nat → Nat) (hs : STd F R) (i : Nat) (φ : Nat → Nat) (hE : LE F R i φ fr lv) (hp : pcs = (i : Int) + 1) (x y : Int) (B E : Nat) (hx0 : x = (B : Int)) (hy0 : y = (E : Int)) (hBE : B ≤ E ∧ E ≤ 500) : RD D cI cJ l yX0_sumOf cX0_sumOf 8 (some .long) 1 21 [.ref (ad 2), .int (zi (x)), .int (zi (y))] (wX ad cI cJ n st hr ca pcs fr lv k ts th sp hv pr hc) (.long (zj ((sumL (lev F R) B (E - B) : Int)))) := by
  subst hx0
  subst hy0
  refine RD.of (by decide) (Nat.le_of_ble_eq_true rfl) ?_
  intro p e s m args below meth c hx hb hrt hml hown hT hlk hK hP ls hl
  replace hl : lv_has ls 8 [(0, .ref (ad 2)), (1, .int (zi ((B : Int)))), (2, .int (zi ((E : Int))))] := hl
  obtain ⟨hi12, hφ0, hφi, hφm, hφz, hφe, hfr0, hlv0⟩ := id hE
  have hfr : ∀ j : Nat, j ≤ i → fr j = (φ j : Int) ∧ φ j ≤ 500 := fun j hj => ⟨(hfr0 j hj).1, by have := (hfr0 j hj).2; omega⟩
  have hlv : ∀ j : Nat, j ≤ i → lv j = (lev F R (φ j) : Int) ∧ lev F R (φ j) ≤ 479001600 := fun j hj => ⟨hlv0 j hj, lev_rng hs (hfr j hj).2⟩
  have loop : ∀ u : Nat, u ≤ (i + 1) → ∀ (z1 z2 : Int), (z1 = (sumL (lev F R) B (min (nxt φ i u) E - B) : Int)) → (z2 = (u : Int)) → ∀ ls : Array Slot, lv_has ls 8 [(0, .ref (ad 2)), (1, .int (zi ((B : Int)))), (2, .int (zi ((E : Int)))), (3, .long (zj (z1))), (5, .int (zi (z2)))] → W p l e (RM 1 21) s m args below meth c s.heap [] 0 0 (MQ below (QR (.long (zj ((sumL (lev F R) B (E - B) : Int)))) s.heap) args s 0 0 (fun _ => False)) (F0 m 5 ls []) := by
    refine lp_up (fun u => ∀ (z1 z2 : Int), (z1 = (sumL (lev F R) B (min (nxt φ i u) E - B) : Int)) → (z2 = (u : Int)) → ∀ ls : Array Slot, lv_has ls 8 [(0, .ref (ad 2)), (1, .int (zi ((B : Int)))), (2, .int (zi ((E : Int)))), (3, .long (zj (z1))), (5, .int (zi (z2)))] → W p l e (RM 1 21) s m args below meth c s.heap [] 0 0 (MQ below (QR (.long (zj ((sumL (lev F R) B (E - B) : Int)))) s.heap) args s 0 0 (fun _ => False)) (F0 m 5 ls [])) ((i + 1)) ?_ ?_
    · intro z1 z2 e1 e2 ls hl
      refine lv_iload (pc := 5) hx hb dX0_sumOf_5 (lv_at hl 4 rfl) ?_
      refine lv_aload_n (pc := 7) hx hb dX0_sumOf_7 rfl (lv_at hl 0 rfl) ?_
      refine va_get (D := D) (cl := vwCl) (ci := 0) (v := .int (zi (pcs))) (C := RX0) (T := TX0) (N := 3) (pc := 8) hx hb hT inT0 hown hK.1 hP 2 rfl rfl 2 (by decide) (hT _ tw_47) (fun _ h9 => h9) rfl dX0_sumOf_8 ?_
      refine z_icmp_ge (tgt := 84) (pc := 11) hx hb dX0_sumOf_11 (by decide) (by omega) (by omega) (fun c_1 => ?_) (fun c_1 => absurd c_1 (by omega))
      refine lv_lload_n (pc := 84) hx hb dX0_sumOf_84 rfl (lv_at hl 3 rfl) ?_
      exact rd_lret hx hb hrt hlk dX0_sumOf_85 (by rw [e1, nxt, if_neg (by omega), show min 501 E = E by omega])
    · intro u hu ih z1 z2 e1 e2 ls hl
      refine lv_iload (pc := 5) hx hb dX0_sumOf_5 (lv_at hl 4 rfl) ?_
      refine lv_aload_n (pc := 7) hx hb dX0_sumOf_7 rfl (lv_at hl 0 rfl) ?_
      refine va_get (D := D) (cl := vwCl) (ci := 0) (v := .int (zi (pcs))) (C := RX0) (T := TX0) (N := 3) (pc := 8) hx hb hT inT0 hown hK.1 hP 2 rfl rfl 2 (by decide) (hT _ tw_47) (fun _ h9 => h9) rfl dX0_sumOf_8 ?_
      refine z_icmp_ge (tgt := 84) (pc := 11) hx hb dX0_sumOf_11 (by decide) (by omega) (by omega) (fun c_2 => absurd c_2 (by omega)) (fun c_2 => ?_)
      refine lv_iload (pc := 14) hx hb dX0_sumOf_14 (lv_at hl 4 rfl) ?_
      refine z_iconst (pc := 16) hx hb dX0_sumOf_16 ?_
      refine z_iadd (pc := 17) hx hb dX0_sumOf_17 ?_
      refine lv_aload_n (pc := 18) hx hb dX0_sumOf_18 rfl (lv_at hl 0 rfl) ?_
      refine va_get (D := D) (cl := vwCl) (ci := 0) (v := .int (zi (pcs))) (C := RX0) (T := TX0) (N := 3) (pc := 19) hx hb hT inT0 hown hK.1 hP 2 rfl rfl 2 (by decide) (hT _ tw_47) (fun _ h9 => h9) rfl dX0_sumOf_19 ?_
      refine z_icmp_ge (tgt := 37) (pc := 22) hx hb dX0_sumOf_22 (by decide) (by omega) (by omega) (fun c_3 => ?_) (fun c_3 => ?_)
      · have hlu := hlv u (by omega)
        have hfu := hfr u (by omega)
        refine lv_iload_n (pc := 37) hx hb dX0_sumOf_37 rfl (lv_at hl 2 rfl) ?_
        refine lv_istore (lv' := [(6, .int (zi ((E : Int)))), (0, .ref (ad 2)), (1, .int (zi ((B : Int)))), (2, .int (zi ((E : Int)))), (3, .long (zj (z1))), (5, .int (zi (z2)))]) (pc := 38) hx hb dX0_sumOf_38 hl (by decide) rfl (fun ls hl => ?_)
        refine lv_iload (pc := 40) hx hb dX0_sumOf_40 (lv_at hl 0 rfl) ?_
        refine lv_iload_n (pc := 42) hx hb dX0_sumOf_42 rfl (lv_at hl 3 rfl) ?_
        refine z_mmin (pc := 43) hx hb (hml.trans hl.1.symm) hown (hT _ tw_220) (hT _ tw_221) (hT _ tw_6) (hT _ tw_222) (Nat.le_of_ble_eq_true rfl) (Nat.le_of_ble_eq_true rfl) (Nat.le_of_ble_eq_true rfl) (Nat.le_of_ble_eq_true rfl) (by omega) (by omega) dX0_sumOf_43 ?_
        refine lv_aload_n (pc := 46) hx hb dX0_sumOf_46 rfl (lv_at hl 1 rfl) ?_
        refine va_get (D := D) (cl := vwCl) (ci := 0) (v := .ref (ad 9)) (C := RX0) (T := TX0) (N := 3) (pc := 47) hx hb hT inT0 hown hK.1 hP 2 rfl rfl 0 (by decide) (hT _ tw_45) (fun _ h9 => h9) rfl dX0_sumOf_47 ?_
        refine lv_iload (pc := 50) hx hb dX0_sumOf_50 (lv_at hl 5 rfl) ?_
        refine z_iald (pc := 52) hx hb hK hP 9 (u) (f := fr) rfl (by omega) (by omega) (by omega) dX0_sumOf_52 ?_
        have r_4 := hfr (u) (by omega)
        refine lv_iload_n (pc := 53) hx hb dX0_sumOf_53 rfl (lv_at hl 2 rfl) ?_
        refine z_mmax (pc := 54) hx hb (hml.trans hl.1.symm) hown (hT _ tw_223) (hT _ tw_224) (hT _ tw_6) (hT _ tw_225) (Nat.le_of_ble_eq_true rfl) (Nat.le_of_ble_eq_true rfl) (Nat.le_of_ble_eq_true rfl) (Nat.le_of_ble_eq_true rfl) (by omega) (by omega) dX0_sumOf_54 ?_
        refine z_isub (pc := 57) hx hb dX0_sumOf_57 ?_
        refine lv_istore (lv' := [(7, .int (zi (((min (E : Int) (E : Int)) - (max (fr (u)) (B : Int)))))), (6, .int (zi ((E : Int)))), (0, .ref (ad 2)), (1, .int (zi ((B : Int)))), (2, .int (zi ((E : Int)))), (3, .long (zj (z1))), (5, .int (zi (z2)))]) (pc := 58) hx hb dX0_sumOf_58 hl (by decide) rfl (fun ls hl => ?_)
        refine lv_lload_n (pc := 60) hx hb dX0_sumOf_60 rfl (lv_at hl 5 rfl) ?_
        refine lv_aload_n (pc := 61) hx hb dX0_sumOf_61 rfl (lv_at hl 2 rfl) ?_
        refine va_get (D := D) (cl := vwCl) (ci := 0) (v := .ref (ad 10)) (C := RX0) (T := TX0) (N := 3) (pc := 62) hx hb hT inT0 hown hK.1 hP 2 rfl rfl 1 (by decide) (hT _ tw_46) (fun _ h9 => h9) rfl dX0_sumOf_62 ?_
        refine lv_iload (pc := 65) hx hb dX0_sumOf_65 (lv_at hl 6 rfl) ?_
        refine z_lald (pc := 67) hx hb hK hP 10 (u) (f := lv) rfl (by omega) (by omega) (by omega) dX0_sumOf_67 ?_
        have r_5 := hlv (u) (by omega)
        refine z_iconst (pc := 68) hx hb dX0_sumOf_68 ?_
        refine lv_iload (pc := 69) hx hb dX0_sumOf_69 (lv_at hl 0 rfl) ?_
        refine z_mmax (pc := 71) hx hb (hml.trans hl.1.symm) hown (hT _ tw_223) (hT _ tw_224) (hT _ tw_6) (hT _ tw_225) (Nat.le_of_ble_eq_true rfl) (Nat.le_of_ble_eq_true rfl) (Nat.le_of_ble_eq_true rfl) (Nat.le_of_ble_eq_true rfl) (by omega) (by omega) dX0_sumOf_71 ?_
        refine z_i2l (pc := 74) hx hb (by omega) dX0_sumOf_74 ?_
        refine z_lmul (pc := 75) hx hb dX0_sumOf_75 ?_
        refine z_ladd (pc := 76) hx hb dX0_sumOf_76 ?_
        refine lv_lstore_n (lv' := [(3, .long (zj ((z1 + ((lv (u)) * (max 0 ((min (E : Int) (E : Int)) - (max (fr (u)) (B : Int))))))))), (7, .int (zi (((min (E : Int) (E : Int)) - (max (fr (u)) (B : Int)))))), (6, .int (zi ((E : Int)))), (0, .ref (ad 2)), (1, .int (zi ((B : Int)))), (2, .int (zi ((E : Int)))), (5, .int (zi (z2)))]) (pc := 77) hx hb dX0_sumOf_77 rfl hl (by decide) rfl (fun ls hl => ?_)
        refine lv_iinc (v := zi (z2 + 1)) (lv' := [(5, .int (zi ((z2 + 1)))), (3, .long (zj ((z1 + ((lv (u)) * (max 0 ((min (E : Int) (E : Int)) - (max (fr (u)) (B : Int))))))))), (7, .int (zi (((min (E : Int) (E : Int)) - (max (fr (u)) (B : Int)))))), (6, .int (zi ((E : Int)))), (0, .ref (ad 2)), (1, .int (zi ((B : Int)))), (2, .int (zi ((E : Int))))]) (pc := 78) hx hb dX0_sumOf_78 hl (k := 6) rfl (zi_add _ _) (by decide) rfl (fun ls hl => ?_)
        refine lv_goto (tgt := 5) (pc := 81) hx hb dX0_sumOf_81 (by decide) ?_
        exact ih  _ _ (by rw [sum_piece hE (show u ≤ i by omega) (by omega) (by omega), e1, nxt, if_pos (by omega), hlu.1, hfu.1]; congr 2; (have hn1 : nxt φ i (u + 1) = 501 := by (rw [nxt, if_neg (by omega)])); omega) (by omega) ls (lv_sub hl [4, 5, 6, 1, 0] rfl)
      · have hlu := hlv u (by omega)
        have hfu := hfr u (by omega)
        refine lv_aload_n (pc := 25) hx hb dX0_sumOf_25 rfl (lv_at hl 0 rfl) ?_
        refine va_get (D := D) (cl := vwCl) (ci := 0) (v := .ref (ad 9)) (C := RX0) (T := TX0) (N := 3) (pc := 26) hx hb hT inT0 hown hK.1 hP 2 rfl rfl 0 (by decide) (hT _ tw_45) (fun _ h9 => h9) rfl dX0_sumOf_26 ?_
        refine lv_iload (pc := 29) hx hb dX0_sumOf_29 (lv_at hl 4 rfl) ?_
        refine z_iconst (pc := 31) hx hb dX0_sumOf_31 ?_
        refine z_iadd (pc := 32) hx hb dX0_sumOf_32 ?_
        refine z_iald (pc := 33) hx hb hK hP 9 ((u + 1)) (f := fr) rfl (by omega) (by omega) (by omega) dX0_sumOf_33 ?_
        have r_6 := hfr ((u + 1)) (by omega)
        refine lv_goto (tgt := 38) (pc := 34) hx hb dX0_sumOf_34 (by decide) ?_
        refine lv_istore (lv' := [(6, .int (zi ((fr ((u + 1)))))), (0, .ref (ad 2)), (1, .int (zi ((B : Int)))), (2, .int (zi ((E : Int)))), (3, .long (zj (z1))), (5, .int (zi (z2)))]) (pc := 38) hx hb dX0_sumOf_38 hl (by decide) rfl (fun ls hl => ?_)
        refine lv_iload (pc := 40) hx hb dX0_sumOf_40 (lv_at hl 0 rfl) ?_
        refine lv_iload_n (pc := 42) hx hb dX0_sumOf_42 rfl (lv_at hl 3 rfl) ?_
        refine z_mmin (pc := 43) hx hb (hml.trans hl.1.symm) hown (hT _ tw_220) (hT _ tw_221) (hT _ tw_6) (hT _ tw_222) (Nat.le_of_ble_eq_true rfl) (Nat.le_of_ble_eq_true rfl) (Nat.le_of_ble_eq_true rfl) (Nat.le_of_ble_eq_true rfl) (by omega) (by omega) dX0_sumOf_43 ?_
        refine lv_aload_n (pc := 46) hx hb dX0_sumOf_46 rfl (lv_at hl 1 rfl) ?_
        refine va_get (D := D) (cl := vwCl) (ci := 0) (v := .ref (ad 9)) (C := RX0) (T := TX0) (N := 3) (pc := 47) hx hb hT inT0 hown hK.1 hP 2 rfl rfl 0 (by decide) (hT _ tw_45) (fun _ h9 => h9) rfl dX0_sumOf_47 ?_
        refine lv_iload (pc := 50) hx hb dX0_sumOf_50 (lv_at hl 5 rfl) ?_
        refine z_iald (pc := 52) hx hb hK hP 9 (u) (f := fr) rfl (by omega) (by omega) (by omega) dX0_sumOf_52 ?_
        have r_7 := hfr (u) (by omega)
        refine lv_iload_n (pc := 53) hx hb dX0_sumOf_53 rfl (lv_at hl 2 rfl) ?_
        refine z_mmax (pc := 54) hx hb (hml.trans hl.1.symm) hown (hT _ tw_223) (hT _ tw_224) (hT _ tw_6) (hT _ tw_225) (Nat.le_of_ble_eq_true rfl) (Nat.le_of_ble_eq_true rfl) (Nat.le_of_ble_eq_true rfl) (Nat.le_of_ble_eq_true rfl) (by omega) (by omega) dX0_sumOf_54 ?_
        refine z_isub (pc := 57) hx hb dX0_sumOf_57 ?_
        refine lv_istore (lv' := [(7, .int (zi (((min (fr ((u + 1))) (E : Int)) - (max (fr (u)) (B : Int)))))), (6, .int (zi ((fr ((u + 1)))))), (0, .ref (ad 2)), (1, .int (zi ((B : Int)))), (2, .int (zi ((E : Int)))), (3, .long (zj (z1))), (5, .int (zi (z2)))]) (pc := 58) hx hb dX0_sumOf_58 hl (by decide) rfl (fun ls hl => ?_)
        refine lv_lload_n (pc := 60) hx hb dX0_sumOf_60 rfl (lv_at hl 5 rfl) ?_
        refine lv_aload_n (pc := 61) hx hb dX0_sumOf_61 rfl (lv_at hl 2 rfl) ?_
        refine va_get (D := D) (cl := vwCl) (ci := 0) (v := .ref (ad 10)) (C := RX0) (T := TX0) (N := 3) (pc := 62) hx hb hT inT0 hown hK.1 hP 2 rfl rfl 1 (by decide) (hT _ tw_46) (fun _ h9 => h9) rfl dX0_sumOf_62 ?_
        refine lv_iload (pc := 65) hx hb dX0_sumOf_65 (lv_at hl 6 rfl) ?_
        refine z_lald (pc := 67) hx hb hK hP 10 (u) (f := lv) rfl (by omega) (by omega) (by omega) dX0_sumOf_67 ?_
        have r_8 := hlv (u) (by omega)
        refine z_iconst (pc := 68) hx hb dX0_sumOf_68 ?_
        refine lv_iload (pc := 69) hx hb dX0_sumOf_69 (lv_at hl 0 rfl) ?_
        refine z_mmax (pc := 71) hx hb (hml.trans hl.1.symm) hown (hT _ tw_223) (hT _ tw_224) (hT _ tw_6) (hT _ tw_225) (Nat.le_of_ble_eq_true rfl) (Nat.le_of_ble_eq_true rfl) (Nat.le_of_ble_eq_true rfl) (Nat.le_of_ble_eq_true rfl) (by omega) (by omega) dX0_sumOf_71 ?_
        refine z_i2l (pc := 74) hx hb (by omega) dX0_sumOf_74 ?_
        refine z_lmul (pc := 75) hx hb dX0_sumOf_75 ?_
        refine z_ladd (pc := 76) hx hb dX0_sumOf_76 ?_
        refine lv_lstore_n (lv' := [(3, .long (zj ((z1 + ((lv (u)) * (max 0 ((min (fr ((u + 1))) (E : Int)) - (max (fr (u)) (B : Int))))))))), (7, .int (zi (((min (fr ((u + 1))) (E : Int)) - (max (fr (u)) (B : Int)))))), (6, .int (zi ((fr ((u + 1)))))), (0, .ref (ad 2)), (1, .int (zi ((B : Int)))), (2, .int (zi ((E : Int)))), (5, .int (zi (z2)))]) (pc := 77) hx hb dX0_sumOf_77 rfl hl (by decide) rfl (fun ls hl => ?_)
        refine lv_iinc (v := zi (z2 + 1)) (lv' := [(5, .int (zi ((z2 + 1)))), (3, .long (zj ((z1 + ((lv (u)) * (max 0 ((min (fr ((u + 1))) (E : Int)) - (max (fr (u)) (B : Int))))))))), (7, .int (zi (((min (fr ((u + 1))) (E : Int)) - (max (fr (u)) (B : Int)))))), (6, .int (zi ((fr ((u + 1)))))), (0, .ref (ad 2)), (1, .int (zi ((B : Int)))), (2, .int (zi ((E : Int))))]) (pc := 78) hx hb dX0_sumOf_78 hl (k := 6) rfl (zi_add _ _) (by decide) rfl (fun ls hl => ?_)
        refine lv_goto (tgt := 5) (pc := 81) hx hb dX0_sumOf_81 (by decide) ?_
        exact ih  _ _ (by rw [sum_piece hE (show u ≤ i by omega) (by omega) (by omega), e1, nxt, if_pos (by omega), hlu.1, hfu.1]; congr 2; (have hn1 : nxt φ i (u + 1) = φ (u + 1) := by (rw [nxt, if_pos (by omega)])); have hf2 := (hfr (u + 1) (by omega)).1; omega) (by omega) ls (lv_sub hl [4, 5, 6, 1, 0] rfl)
  refine z_lconst0 (pc := 0) hx hb dX0_sumOf_0 ?_
  refine lv_lstore_n (lv' := [(3, .long (zj (0))), (0, .ref (ad 2)), (1, .int (zi ((B : Int)))), (2, .int (zi ((E : Int))))]) (pc := 1) hx hb dX0_sumOf_1 rfl hl (by decide) rfl (fun ls hl => ?_)
  refine z_iconst (pc := 2) hx hb dX0_sumOf_2 ?_
  refine lv_istore (lv' := [(5, .int (zi (0))), (3, .long (zj (0))), (0, .ref (ad 2)), (1, .int (zi ((B : Int)))), (2, .int (zi ((E : Int))))]) (pc := 3) hx hb dX0_sumOf_3 hl (by decide) rfl (fun ls hl => ?_)
  exact loop 0 (by omega) _ _ (by rw [nxt, if_pos (by omega), hφ0, show min 0 E - B = 0 by omega]; rfl) (by rfl) ls (lv_sub hl [2, 3, 4, 1, 0] rfl)
end
section
/-! THE BEST RUN IN -/
def KU (F R : Nat → Nat) (h B : Nat) : Nat := rdU (sumL (lev F R) B (h - B)) (lev F R B)
def KL (F R : Nat → Nat) (h B : Nat) : Nat := rdL (sumL (lev F R) B (h - B)) (lev F R B)
def XU (F R : Nat → Nat) (h : Nat) (cost : Int) (B : Nat) : Int := 100 * (KU F R h B : Int) - (B : Int) * cost * (KL F R h B : Int)
def XV (F R : Nat → Nat) (h : Nat) (cost : Int) (B : Nat) : Int := 100 * (sumL (lev F R) B (h - B) : Int) - (B : Int) * cost * (lev F R B : Int)
def bestF (F R : Nat → Nat) (h : Nat) (cost : Int) : Nat → Nat
  | 0 => 0
  | k + 1 => if 0 < lev F R k ∧ XU F R h cost (bestF F R h cost k) * (KL F R h k : Int) < XU F R h cost k * (KL F R h (bestF F R h cost k) : Int) then k else bestF F R h cost k
theorem bestF_s (F R : Nat → Nat) (h : Nat) (cost : Int) (k : Nat) : bestF F R h cost (k + 1) = if 0 < lev F R k ∧ XU F R h cost (bestF F R h cost k) * (KL F R h k : Int) < XU F R h cost k * (KL F R h (bestF F R h cost k) : Int) then k else bestF F R h cost k := rfl
theorem KL_pos {F R : Nat → Nat} {h B : Nat} (hB : 0 < lev F R B) : 0 < KL F R h B := (rd_back (a := sumL (lev F R) B (h - B)) hB).2.2.2
theorem KL_rng {F R : Nat → Nat} (hs : STd F R) {h B : Nat} (hh : h ≤ 500) (hBh : B ≤ h) (hB : 0 < lev F R B) : 0 < KL F R h B ∧ KL F R h B ≤ 599040 ∧ KU F R h B ≤ 500 * KL F R h B := by
  refine ⟨KL_pos hB, low_sum hs (by omega) hB, ?_⟩
  have h1 := rd_cross (a := sumL (lev F R) B (h - B)) hB
  have h2 : sumL (lev F R) B (h - B) ≤ lev F R B * (h - B) := sumL_le (h - B) (fun x hx1 hx2 => lev_mono hs hx1 (by omega))
  have h3 : lev F R B * (h - B) ≤ lev F R B * 500 := Nat.mul_le_mul_left _ (by omega)
  have h4 : sumL (lev F R) B (h - B) * KL F R h B ≤ (lev F R B * 500) * KL F R h B := Nat.mul_le_mul_right _ (by omega)
  have h5 : KU F R h B * lev F R B ≤ (500 * KL F R h B) * lev F R B := by
    have e : (lev F R B * 500) * KL F R h B = (500 * KL F R h B) * lev F R B := by rw [Nat.mul_comm (lev F R B) 500, Nat.mul_assoc, Nat.mul_comm (lev F R B), ← Nat.mul_assoc]
    rw [← e]
    exact Nat.le_trans (Nat.le_of_eq h1) h4
  exact Nat.le_of_mul_le_mul_right h5 hB
theorem XU_rng {F R : Nat → Nat} (hs : STd F R) {h B : Nat} {cost : Int} (hh : h ≤ 500) (hBh : B ≤ h) (hc : 0 ≤ cost ∧ cost ≤ 100) (hB : 0 < lev F R B) : -29952000000 ≤ XU F R h cost B ∧ XU F R h cost B ≤ 29952000000 := by
  obtain ⟨k1, k2, k3⟩ := KL_rng hs hh hBh hB
  have m1 := mul_rng (a := (B : Int)) (b := cost) (A := 500) (B := 100) (by omega) hc
  have m2 := mul_rng (a := (B : Int) * cost) (b := (KL F R h B : Int)) (A := 50000) (B := 599040) (by omega) (by omega)
  unfold XU
  omega
theorem XUV {F R : Nat → Nat} {h B : Nat} {cost : Int} (hB : 0 < lev F R B) : XU F R h cost B * (lev F R B : Int) = XV F R h cost B * (KL F R h B : Int) := by
  have h1 := rd_cross (a := sumL (lev F R) B (h - B)) hB
  have h2 : (KU F R h B : Int) * (lev F R B : Int) = (sumL (lev F R) B (h - B) : Int) * (KL F R h B : Int) := by exact_mod_cast h1
  unfold XU XV
  grind
theorem X_iff {a b c d x y : Int} {p q : Int} (hp : 0 < p) (hq : 0 < q) (hx : 0 < x) (hy : 0 < y) (h1 : a * p = c * x) (h2 : b * q = d * y) : a * y ≤ b * x ↔ c * q ≤ d * p := by
  have e1 : (a * y) * (p * q) = (c * q) * (x * y) := by grind
  have e2 : (b * x) * (p * q) = (d * p) * (x * y) := by grind
  have hpq : 0 < p * q := Int.mul_pos hp hq
  have hxy : 0 < x * y := Int.mul_pos hx hy
  refine ⟨fun h => ?_, fun h => ?_⟩
  · have h3 := Int.mul_le_mul_of_nonneg_right h (Int.le_of_lt hpq)
    rw [e1, e2] at h3
    exact Int.le_of_mul_le_mul_right h3 hxy
  · have h3 := Int.mul_le_mul_of_nonneg_right h (Int.le_of_lt hxy)
    rw [← e1, ← e2] at h3
    exact Int.le_of_mul_le_mul_right h3 hpq
theorem X_trans {a b c x y z : Int} (hx : 0 ≤ x) (hy : 0 < y) (hz : 0 ≤ z) (h1 : a * y ≤ b * x) (h2 : b * z ≤ c * y) : a * z ≤ c * x := by
  have h3 := Int.mul_le_mul_of_nonneg_right h1 hz
  have h4 := Int.mul_le_mul_of_nonneg_right h2 hx
  have h5 : (a * z) * y ≤ (c * x) * y := by
    have e1 : a * y * z = (a * z) * y := by grind
    have e2 : b * x * z = b * z * x := by grind
    have e3 : c * y * x = (c * x) * y := by grind
    rw [← e1, ← e3]
    rw [e2] at h3
    exact Int.le_trans h3 h4
  exact Int.le_of_mul_le_mul_right h5 hy
theorem best_lt {F R : Nat → Nat} {h : Nat} {cost : Int} (h0 : 0 < lev F R 0) : ∀ k, 0 < lev F R (bestF F R h cost k) ∧ (bestF F R h cost k < k ∨ bestF F R h cost k = 0)
  | 0 => ⟨h0, Or.inr rfl⟩
  | k + 1 => by
    have ih := best_lt (h := h) (cost := cost) h0 k
    simp only [bestF]
    split
    · rename_i hc
      exact ⟨hc.1, Or.inl (by omega)⟩
    · exact ⟨ih.1, by omega⟩
theorem best_ge {F R : Nat → Nat} {h : Nat} {cost : Int} (h0 : 0 < lev F R 0) : ∀ k B, B < k → 0 < lev F R B → XV F R h cost B * (lev F R (bestF F R h cost k) : Int) ≤ XV F R h cost (bestF F R h cost k) * (lev F R B : Int)
  | 0, B, hB, _ => absurd hB (by omega)
  | k + 1, B, hB, hl => by
    have hy := (best_lt (h := h) (cost := cost) h0 k).1
    have ky := KL_pos (h := h) hy
    simp only [bestF]
    by_cases hc : 0 < lev F R k ∧ XU F R h cost (bestF F R h cost k) * (KL F R h k : Int) < XU F R h cost k * (KL F R h (bestF F R h cost k) : Int)
    · rw [if_pos hc]
      have kk := KL_pos (h := h) hc.1
      have hgt := (X_iff (by omega) (by omega) (by omega) (by omega) (XUV (h := h) (cost := cost) hy) (XUV (h := h) (cost := cost) hc.1)).mp (Int.le_of_lt hc.2)
      rcases Nat.lt_or_ge B k with q | q
      · have ih := best_ge (h := h) (cost := cost) h0 k B q hl
        exact X_trans (by omega) (by omega) (by omega) ih hgt
      · have e : B = k := by omega
        subst e
        exact Int.le_refl _
    · rw [if_neg hc]
      rcases Nat.lt_or_ge B k with q | q
      · exact best_ge (h := h) (cost := cost) h0 k B q hl
      · have e : B = k := by omega
        subst e
        have kk := KL_pos (h := h) hl
        have hle : XU F R h cost B * (KL F R h (bestF F R h cost B) : Int) ≤ XU F R h cost (bestF F R h cost B) * (KL F R h B : Int) := Int.not_lt.mp (fun q => hc ⟨hl, q⟩)
        exact (X_iff (by omega) (by omega) (by omega) (by omega) (XUV (h := h) (cost := cost) hl) (XUV (h := h) (cost := cost) hy)).mp hle
theorem best_skip {F R : Nat → Nat} {h : Nat} {cost : Int} (h0 : 0 < lev F R 0) (hc : 0 ≤ cost) {k : Nat} (hk : k + 1 < h) (hh : h ≤ 500) (hF : F (k + 1) = 0) : bestF F R h cost (k + 1 + 1) = bestF F R h cost (k + 1) := by
  have hy := (best_lt (h := h) (cost := cost) h0 (k + 1)).1
  have hge := best_ge (h := h) (cost := cost) h0 (k + 1) k (by omega)
  have es := lev_same (F := F) (R := R) (t := k) (by omega) hF
  rw [bestF_s F R h cost (k + 1), if_neg]
  intro hlt
  have hl : 0 < lev F R k := by rw [← es]; exact hlt.1
  have hg := hge hl
  have ky := KL_pos (h := h) hy
  have kk := KL_pos (h := h) hlt.1
  have hdec : XV F R h cost (k + 1) ≤ XV F R h cost k := by
    unfold XV
    rw [es]
    have e1 : h - k = 1 + (h - (k + 1)) := by omega
    rw [e1, sumL_add, show sumL (lev F R) k 1 = lev F R k by simp [sumL]]
    have m : 0 ≤ cost * (lev F R k : Int) := Int.mul_nonneg hc (by omega)
    have e2 : ((k + 1 : Nat) : Int) * cost * (lev F R k : Int) = (k : Int) * cost * (lev F R k : Int) + cost * (lev F R k : Int) := by
      have : ((k + 1 : Nat) : Int) = (k : Int) + 1 := by omega
      rw [this]; grind
    rw [e2]
    omega
  have hg2 : XV F R h cost (k + 1) * (lev F R (bestF F R h cost (k + 1)) : Int) ≤ XV F R h cost (bestF F R h cost (k + 1)) * (lev F R (k + 1) : Int) := by
    rw [es]
    exact Int.le_trans (Int.mul_le_mul_of_nonneg_right hdec (by omega)) hg
  have h9 := (X_iff (by omega) (by omega) (by omega) (by omega) (XUV (h := h) (cost := cost) hlt.1) (XUV (h := h) (cost := cost) hy)).mpr hg2
  have h10 := hlt.2
  omega
theorem best_to {F R : Nat → Nat} {h : Nat} {cost : Int} (h0 : 0 < lev F R 0) (hc : 0 ≤ cost) {x : Nat} (hh : h ≤ 500) : ∀ d, x + 1 + d ≤ h → (∀ t, x < t → t < x + 1 + d → F t = 0) → bestF F R h cost (x + 1 + d) = bestF F R h cost (x + 1)
  | 0, _, _ => rfl
  | d + 1, hd, hz => by
    have ih := best_to (cost := cost) h0 hc hh d (by omega) (fun t h1 h2 => hz t h1 (by omega))
    have e : x + 1 + (d + 1) = (x + d) + 1 + 1 := by omega
    rw [e, best_skip h0 hc (by omega) hh (hz (x + d + 1) (by omega) (by omega)), show x + d + 1 = x + 1 + d by omega, ih]
theorem best_zero {F R : Nat → Nat} {h : Nat} {cost : Int} {x : Nat} : ∀ d, (∀ t, x ≤ t → t < x + d → lev F R t = 0) → bestF F R h cost (x + d) = bestF F R h cost x
  | 0, _ => rfl
  | d + 1, hz => by
    rw [← Nat.add_assoc]
    conv => lhs; simp only [bestF]
    rw [if_neg (fun q => by have := hz (x + d) (by omega) (by omega); omega), best_zero d (fun t h1 h2 => hz t h1 (by omega))]
end
section
theorem mul_rngS {a b A B : Int} (ha : -A ≤ a ∧ a ≤ A) (hb : 0 ≤ b ∧ b ≤ B) : -(A * B) ≤ a * b ∧ a * b ≤ A * B := by
  have hA : 0 ≤ A := by omega
  have h1 : a * b ≤ A * b := Int.mul_le_mul_of_nonneg_right ha.2 hb.1
  have h2 : -A * b ≤ a * b := Int.mul_le_mul_of_nonneg_right ha.1 hb.1
  have h3 : A * b ≤ A * B := Int.mul_le_mul_of_nonneg_left hb.2 hA
  have h4 : -A * b = -(A * b) := Int.neg_mul A b
  omega
def BI (F R : Nat → Nat) (h : Nat) (cost : Int) (φ : Nat → Nat) (u : Nat) (z3 z4 z6 : Int) : Prop :=
  (u = 0 ∧ z3 = 0) ∨ (1 ≤ u ∧ φ (u - 1) < h ∧ 0 < lev F R (φ (u - 1)) ∧ z3 = (bestF F R h cost (φ (u - 1) + 1) : Int) ∧ z4 = XU F R h cost (bestF F R h cost (φ (u - 1) + 1)) ∧ z6 = (KL F R h (bestF F R h cost (φ (u - 1) + 1)) : Int))
theorem best_piece {F R : Nat → Nat} (hs : STd F R) {i : Nat} {φ : Nat → Nat} {fr lv : Nat → Int} (hE : LE F R i φ fr lv) {h : Nat} {cost : Int} (hh : h ≤ 500) (hc : 0 ≤ cost) {u y : Nat} (hu : u ≤ i) (h1 : φ u < y) (h2 : y ≤ nxt φ i (u + 1)) (h3 : y ≤ h) : bestF F R h cost y = bestF F R h cost (φ u + 1) := by
  obtain ⟨d, hd⟩ : ∃ d, y = φ u + 1 + d := ⟨y - (φ u + 1), by omega⟩
  subst hd
  exact best_to (lev_0 hs).1 hc hh d h3 (fun t h4 h5 => LE_zero hE hu h4 (by omega))
theorem BI_rng {F R : Nat → Nat} (hs : STd F R) {φ : Nat → Nat} {h : Nat} {cost : Int} (hh : h ≤ 500) (hc : 0 ≤ cost ∧ cost ≤ 100) {u : Nat} {z3 z4 z6 : Int} (hB : BI F R h cost φ u z3 z4 z6) (hu : u ≠ 0) : (-29952000000 ≤ z4 ∧ z4 ≤ 29952000000) ∧ 0 < z6 ∧ z6 ≤ 599040 := by
  rcases hB with hB | ⟨b1, b2, b3, b4, b5, b6⟩
  · exact absurd hB.1 hu
  · have hy := best_lt (F := F) (R := R) (h := h) (cost := cost) (lev_0 hs).1 (φ (u - 1) + 1)
    have k1 := KL_rng hs hh (B := bestF F R h cost (φ (u - 1) + 1)) (by omega) hy.1
    have k2 := XU_rng hs hh (B := bestF F R h cost (φ (u - 1) + 1)) (by omega) hc hy.1
    rw [b5, b6]
    omega
theorem BI_set {F R : Nat → Nat} (hs : STd F R) {i : Nat} {φ : Nat → Nat} {fr lv : Nat → Int} (hE : LE F R i φ fr lv) {h : Nat} {cost : Int} (hh : h ≤ 500) (hc : 0 ≤ cost ∧ cost ≤ 100) {u : Nat} {z3 z4 z6 : Int} (hB : BI F R h cost φ u z3 z4 z6) (hu : u ≤ i) (h1 : φ u < h) (h2 : 0 < lev F R (φ u)) (h3 : u = 0 ∨ z4 * (KL F R h (φ u) : Int) < XU F R h cost (φ u) * z6) : BI F R h cost φ (u + 1) (φ u : Int) (XU F R h cost (φ u)) (KL F R h (φ u) : Int) := by
  have e : bestF F R h cost (φ u + 1) = φ u := by
    rcases hB with hB | ⟨b1, b2, b3, b4, b5, b6⟩
    · rw [hB.1, hE.2.1, bestF_s]
      split <;> rfl
    · have h4 : φ (u - 1) < φ u := by have := hE.2.2.2.1 (u - 1) (by omega); rwa [show u - 1 + 1 = u by omega] at this
      have hp := best_piece hs hE (cost := cost) hh hc.1 (u := u - 1) (y := φ u) (by omega) h4 (by rw [nxt, show u - 1 + 1 = u by omega, if_pos hu]; exact Nat.le_refl _) (by omega)
      rw [bestF_s, if_pos]
      refine ⟨h2, ?_⟩
      rw [hp, ← b5, ← b6]
      rcases h3 with h3 | h3
      · omega
      · exact h3
  exact Or.inr ⟨by omega, by rw [Nat.add_sub_cancel]; exact h1, by rw [Nat.add_sub_cancel]; exact h2, by rw [Nat.add_sub_cancel, e], by rw [Nat.add_sub_cancel, e], by rw [Nat.add_sub_cancel, e]⟩
theorem BI_keep {F R : Nat → Nat} (hs : STd F R) {i : Nat} {φ : Nat → Nat} {fr lv : Nat → Int} (hE : LE F R i φ fr lv) {h : Nat} {cost : Int} (hh : h ≤ 500) (hc : 0 ≤ cost ∧ cost ≤ 100) {u : Nat} {z3 z4 z6 : Int} (hB : BI F R h cost φ u z3 z4 z6) (hu : u ≤ i) (hu0 : u ≠ 0) (h1 : φ u < h) (h2 : 0 < lev F R (φ u)) (h3 : XU F R h cost (φ u) * z6 ≤ z4 * (KL F R h (φ u) : Int)) : BI F R h cost φ (u + 1) z3 z4 z6 := by
  rcases hB with hB | ⟨b1, b2, b3, b4, b5, b6⟩
  · exact absurd hB.1 hu0
  · have h4 : φ (u - 1) < φ u := by have := hE.2.2.2.1 (u - 1) (by omega); rwa [show u - 1 + 1 = u by omega] at this
    have hp := best_piece hs hE (cost := cost) hh hc.1 (u := u - 1) (y := φ u) (by omega) h4 (by rw [nxt, show u - 1 + 1 = u by omega, if_pos hu]; exact Nat.le_refl _) (by omega)
    have e : bestF F R h cost (φ u + 1) = bestF F R h cost (φ (u - 1) + 1) := by
      rw [bestF_s, if_neg, hp]
      rw [hp, ← b5, ← b6]
      exact fun q => absurd q.2 (by omega)
    exact Or.inr ⟨by omega, by rw [Nat.add_sub_cancel]; exact h1, by rw [Nat.add_sub_cancel]; exact h2, by rw [Nat.add_sub_cancel, e]; exact b4, by rw [Nat.add_sub_cancel, e]; exact b5, by rw [Nat.add_sub_cancel, e]; exact b6⟩
theorem BI_end {F R : Nat → Nat} (hs : STd F R) {i : Nat} {φ : Nat → Nat} {fr lv : Nat → Int} (hE : LE F R i φ fr lv) {h : Nat} {cost : Int} (hh : 1 ≤ h ∧ h ≤ 500) (hc : 0 ≤ cost ∧ cost ≤ 100) {u : Nat} {z3 z4 z6 : Int} (hB : BI F R h cost φ u z3 z4 z6) (hu : u ≤ i + 1) (he : u = i + 1 ∨ h ≤ φ u ∨ lev F R (φ u) = 0) : z3 = (bestF F R h cost h : Int) := by
  rcases hB with hB | ⟨b1, b2, b3, b4, b5, b6⟩
  · exfalso
    have h0 := hE.2.1
    have h1 := (lev_0 hs).1
    rw [hB.1, h0] at he
    omega
  · rw [b4]
    have hn : nxt φ i (u - 1 + 1) = nxt φ i u := by rw [show u - 1 + 1 = u by omega]
    rcases Nat.lt_or_ge u (i + 1) with q | q
    · have h4 : φ (u - 1) < φ u := by have := hE.2.2.2.1 (u - 1) (by omega); rwa [show u - 1 + 1 = u by omega] at this
      have hnu : nxt φ i u = φ u := by rw [nxt, if_pos (by omega)]
      rcases Nat.lt_or_ge (φ u) h with q2 | q2
      · have hz : lev F R (φ u) = 0 := by omega
        have hp := best_piece hs hE (cost := cost) hh.2 hc.1 (u := u - 1) (y := φ u) (by omega) h4 (by omega) (by omega)
        obtain ⟨d, hd⟩ := Nat.exists_eq_add_of_le (Nat.le_of_lt q2)
        have hz2 := best_zero (F := F) (R := R) (h := h) (cost := cost) (x := φ u) d (fun t h5 h6 => lev_zero hs h5 (by omega) hz)
        rw [← hd] at hz2
        rw [hz2, hp]
      · have hp := best_piece hs hE (cost := cost) hh.2 hc.1 (u := u - 1) (y := h) (by omega) b2 (by omega) (Nat.le_refl _)
        rw [hp]
    · have hnu : nxt φ i u = 501 := by rw [nxt, if_neg (by omega)]
      have hp := best_piece hs hE (cost := cost) hh.2 hc.1 (u := u - 1) (y := h) (by omega) b2 (by omega) (Nat.le_refl _)
      rw [hp]
end
section
theorem c_lt0 (D : va_G) (cI cJ : ClassId) (l : Launch) (y z : Int) (a b : Nat) (hy : y = (a : Int)) (hz : z = (b : Int)) (hq : a ≤ 281474976710656 ∧ b ≤ 281474976710656 ∧ 0 < b) : RD D cI cJ l yX3_leastTerms cX3_leastTerms 9 (some .long) 1 30 [.long (zj y), .long (zj z), .int (zi 0)] [] (.long (zj (rdU a b : Int))) := by
  have h := c_X3_leastTerms D cI cJ l y z 0 a b hy hz hq (by omega)
  rw [if_pos rfl] at h
  exact h

theorem c_lt1 (D : va_G) (cI cJ : ClassId) (l : Launch) (y z : Int) (a b : Nat) (hy : y = (a : Int)) (hz : z = (b : Int)) (hq : a ≤ 281474976710656 ∧ b ≤ 281474976710656 ∧ 0 < b) : RD D cI cJ l yX3_leastTerms cX3_leastTerms 9 (some .long) 1 30 [.long (zj y), .long (zj z), .int (zi 1)] [] (.long (zj (rdL a b : Int))) := by
  have h := c_X3_leastTerms D cI cJ l y z 1 a b hy hz hq (by omega)
  rw [if_neg (by decide)] at h
  exact h

set_option maxHeartbeats 4000000 in
set_option maxRecDepth 100000 in
theorem c_X0_bestRunIn (D : va_G) (cI cJ : ClassId) (l : Launch) (ad : Nat → Nat) (n : Int) (st hr ca : Nat → Int) (pcs : Int) (fr lv : Nat → Int) (k : Int) (ts th sp hv : Nat → Int) (pr hc : Int) (F R : Nat → Nat) (hs : STd F R) (i : Nat) (φ : Nat → Nat) (hE : LE F R i φ fr lv) (hp : pcs = (i : Int) + 1) (y q : Int) (h : Nat) (hy : y = (h : Int)) (hh : 1 ≤ h ∧ h ≤ 500) (hq : 0 ≤ q ∧ q ≤ 100) : RD D cI cJ l yX0_bestRunIn cX0_bestRunIn 15 (some .int) 2 58 [.ref (ad 2), .int (zi (y)), .int (zi (q))] (wX ad cI cJ n st hr ca pcs fr lv k ts th sp hv pr hc) (.int (zi ((bestF F R h q h : Int)))) := by
  subst hy
  refine RD.of (by decide) (Nat.le_of_ble_eq_true rfl) ?_
  intro p e s m args below meth c hx hb hrt hml hown hT hlk hK hP ls hl
  replace hl : lv_has ls 15 [(0, .ref (ad 2)), (1, .int (zi ((h : Int)))), (2, .int (zi (q)))] := hl
  obtain ⟨hi12, hφ0, hφi, hφm, hφz, hφe, hfr0, hlv0⟩ := id hE
  have hfr : ∀ j : Nat, j ≤ i → fr j = (φ j : Int) ∧ φ j ≤ 500 := fun j hj => ⟨(hfr0 j hj).1, by have := (hfr0 j hj).2; omega⟩
  have hlv : ∀ j : Nat, j ≤ i → lv j = (lev F R (φ j) : Int) ∧ lev F R (φ j) ≤ 479001600 := fun j hj => ⟨hlv0 j hj, lev_rng hs (hfr j hj).2⟩
  have loop : ∀ u : Nat, u ≤ (i + 1) → ∀ (z3 z4 z6 z8 : Int), (z8 = (u : Int)) → (BI F R h q φ u z3 z4 z6) → ∀ ls : Array Slot, lv_has ls 15 [(0, .ref (ad 2)), (1, .int (zi ((h : Int)))), (2, .int (zi (q))), (3, .int (zi (z3))), (4, .long (zj (z4))), (6, .long (zj (z6))), (8, .int (zi (z8)))] → W p l e (RM 2 58) s m args below meth c s.heap [] 0 0 (MQ below (QR (.int (zi ((bestF F R h q h : Int)))) s.heap) args s 0 0 (fun _ => False)) (F0 m 11 ls []) := by
    refine lp_up (fun u => ∀ (z3 z4 z6 z8 : Int), (z8 = (u : Int)) → (BI F R h q φ u z3 z4 z6) → ∀ ls : Array Slot, lv_has ls 15 [(0, .ref (ad 2)), (1, .int (zi ((h : Int)))), (2, .int (zi (q))), (3, .int (zi (z3))), (4, .long (zj (z4))), (6, .long (zj (z6))), (8, .int (zi (z8)))] → W p l e (RM 2 58) s m args below meth c s.heap [] 0 0 (MQ below (QR (.int (zi ((bestF F R h q h : Int)))) s.heap) args s 0 0 (fun _ => False)) (F0 m 11 ls [])) ((i + 1)) ?_ ?_
    · intro z3 z4 z6 z8 e8 e1 ls hl
      refine lv_iload (pc := 11) hx hb dX0_bestRunIn_11 (lv_at hl 6 rfl) ?_
      refine lv_aload_n (pc := 13) hx hb dX0_bestRunIn_13 rfl (lv_at hl 0 rfl) ?_
      refine va_get (D := D) (cl := vwCl) (ci := 0) (v := .int (zi (pcs))) (C := RX0) (T := TX0) (N := 3) (pc := 14) hx hb hT inT0 hown hK.1 hP 2 rfl rfl 2 (by decide) (hT _ tw_47) (fun _ h9 => h9) rfl dX0_bestRunIn_14 ?_
      refine z_icmp_ge (tgt := 146) (pc := 17) hx hb dX0_bestRunIn_17 (by decide) (by omega) (by omega) (fun c_1 => ?_) (fun c_1 => absurd c_1 (by omega))
      refine lv_iload_n (pc := 146) hx hb dX0_bestRunIn_146 rfl (lv_at hl 3 rfl) ?_
      exact rd_iret hx hb hrt hlk dX0_bestRunIn_147 (by rw [BI_end hs hE (by omega) hq e1 (by omega) (by first | (left; omega) | (right; left; omega) | (right; right; omega))])
    · intro u hu ih z3 z4 z6 z8 e8 e1 ls hl
      refine lv_iload (pc := 11) hx hb dX0_bestRunIn_11 (lv_at hl 6 rfl) ?_
      refine lv_aload_n (pc := 13) hx hb dX0_bestRunIn_13 rfl (lv_at hl 0 rfl) ?_
      refine va_get (D := D) (cl := vwCl) (ci := 0) (v := .int (zi (pcs))) (C := RX0) (T := TX0) (N := 3) (pc := 14) hx hb hT inT0 hown hK.1 hP 2 rfl rfl 2 (by decide) (hT _ tw_47) (fun _ h9 => h9) rfl dX0_bestRunIn_14 ?_
      refine z_icmp_ge (tgt := 146) (pc := 17) hx hb dX0_bestRunIn_17 (by decide) (by omega) (by omega) (fun c_2 => absurd c_2 (by omega)) (fun c_2 => ?_)
      refine lv_aload_n (pc := 20) hx hb dX0_bestRunIn_20 rfl (lv_at hl 0 rfl) ?_
      refine va_get (D := D) (cl := vwCl) (ci := 0) (v := .ref (ad 9)) (C := RX0) (T := TX0) (N := 3) (pc := 21) hx hb hT inT0 hown hK.1 hP 2 rfl rfl 0 (by decide) (hT _ tw_45) (fun _ h9 => h9) rfl dX0_bestRunIn_21 ?_
      refine lv_iload (pc := 24) hx hb dX0_bestRunIn_24 (lv_at hl 6 rfl) ?_
      refine z_iald (pc := 26) hx hb hK hP 9 (u) (f := fr) rfl (by omega) (by omega) (by omega) dX0_bestRunIn_26 ?_
      have r_3 := hfr (u) (by omega)
      refine lv_iload_n (pc := 27) hx hb dX0_bestRunIn_27 rfl (lv_at hl 1 rfl) ?_
      refine z_icmp_ge (tgt := 146) (pc := 28) hx hb dX0_bestRunIn_28 (by decide) (by omega) (by omega) (fun c_4 => ?_) (fun c_4 => ?_)
      · refine lv_iload_n (pc := 146) hx hb dX0_bestRunIn_146 rfl (lv_at hl 3 rfl) ?_
        exact rd_iret hx hb hrt hlk dX0_bestRunIn_147 (by rw [BI_end hs hE (by omega) hq e1 (by omega) (by first | (left; omega) | (right; left; omega) | (right; right; omega))])
      · refine lv_aload_n (pc := 31) hx hb dX0_bestRunIn_31 rfl (lv_at hl 0 rfl) ?_
        refine va_get (D := D) (cl := vwCl) (ci := 0) (v := .ref (ad 10)) (C := RX0) (T := TX0) (N := 3) (pc := 32) hx hb hT inT0 hown hK.1 hP 2 rfl rfl 1 (by decide) (hT _ tw_46) (fun _ h9 => h9) rfl dX0_bestRunIn_32 ?_
        refine lv_iload (pc := 35) hx hb dX0_bestRunIn_35 (lv_at hl 6 rfl) ?_
        refine z_lald (pc := 37) hx hb hK hP 10 (u) (f := lv) rfl (by omega) (by omega) (by omega) dX0_bestRunIn_37 ?_
        have r_5 := hlv (u) (by omega)
        refine z_lconst0 (pc := 38) hx hb dX0_bestRunIn_38 ?_
        refine z_lcmp_le (tgt := 146) (pc := 39) hx hb dX0_bestRunIn_39 dX0_bestRunIn_40 (by decide) (by omega) (by omega) (fun c_6 => ?_) (fun c_6 => ?_)
        · refine lv_iload_n (pc := 146) hx hb dX0_bestRunIn_146 rfl (lv_at hl 3 rfl) ?_
          exact rd_iret hx hb hrt hlk dX0_bestRunIn_147 (by rw [BI_end hs hE (by omega) hq e1 (by omega) (by first | (left; omega) | (right; left; omega) | (right; right; omega))])
        · have hfu := hfr u (by omega)
          have hlu := hlv u (by omega)
          have hl0 : 0 < lev F R (φ u) := by omega
          have hsl : sumL (lev F R) (φ u) (h - φ u) ≤ 479001600 * (h - φ u) := sumL_le (h - φ u) (fun x h1 h2 => lev_rng hs (by omega))
          have hkl := KL_rng hs (B := φ u) (h := h) (by omega) (by omega) hl0
          have hxu := XU_rng hs (B := φ u) (h := h) (cost := q) (by omega) (by omega) hq hl0
          have hmf := mul_rng (a := fr u) (b := q) (A := 500) (B := 100) (by omega) hq
          have exu : 100 * (KU F R h (φ u) : Int) - fr u * q * (KL F R h (φ u) : Int) = XU F R h q (φ u) := by unfold XU; rw [hfu.1]
          refine lv_aload_n (pc := 43) hx hb dX0_bestRunIn_43 rfl (lv_at hl 0 rfl) ?_
          refine lv_aload_n (pc := 44) hx hb dX0_bestRunIn_44 rfl (lv_at hl 0 rfl) ?_
          refine va_get (D := D) (cl := vwCl) (ci := 0) (v := .ref (ad 9)) (C := RX0) (T := TX0) (N := 3) (pc := 45) hx hb hT inT0 hown hK.1 hP 2 rfl rfl 0 (by decide) (hT _ tw_45) (fun _ h9 => h9) rfl dX0_bestRunIn_45 ?_
          refine lv_iload (pc := 48) hx hb dX0_bestRunIn_48 (lv_at hl 6 rfl) ?_
          refine z_iald (pc := 50) hx hb hK hP 9 (u) (f := fr) rfl (by omega) (by omega) (by omega) dX0_bestRunIn_50 ?_
          have r_7 := hfr (u) (by omega)
          refine lv_iload_n (pc := 51) hx hb dX0_bestRunIn_51 rfl (lv_at hl 1 rfl) ?_
          refine rd_V (pc := 52) hx hb hml hown hT hK (c_X0_sumOf D cI cJ l ad n st hr ca pcs fr lv k ts th sp hv pr hc F R hs i φ hE hp ((fr (u))) ((h : Int)) (φ u) h (by omega) (by omega) (by omega)) ca_X0_sumOf tw_239 hP 2 0 rfl rfl rfl ⟨Nat.le_of_ble_eq_true rfl, Nat.le_of_ble_eq_true rfl⟩ rfl hl.1 (As := [.int (zi ((fr (u)))), .int (zi ((h : Int)))]) (rest := []) rfl (Nat.le_of_ble_eq_true rfl) ⟨Nat.le_of_ble_eq_true rfl, Nat.le_of_ble_eq_true rfl⟩ dX0_bestRunIn_52 ?_
          refine lv_lstore (lv' := [(9, .long (zj ((sumL (lev F R) (φ u) (h - (φ u)) : Int)))), (0, .ref (ad 2)), (1, .int (zi ((h : Int)))), (2, .int (zi (q))), (3, .int (zi (z3))), (4, .long (zj (z4))), (6, .long (zj (z6))), (8, .int (zi (z8)))]) (pc := 55) hx hb dX0_bestRunIn_55 hl (by decide) rfl (fun ls hl => ?_)
          refine lv_lload (pc := 57) hx hb dX0_bestRunIn_57 (lv_at hl 0 rfl) ?_
          refine lv_aload_n (pc := 59) hx hb dX0_bestRunIn_59 rfl (lv_at hl 1 rfl) ?_
          refine va_get (D := D) (cl := vwCl) (ci := 0) (v := .ref (ad 10)) (C := RX0) (T := TX0) (N := 3) (pc := 60) hx hb hT inT0 hown hK.1 hP 2 rfl rfl 1 (by decide) (hT _ tw_46) (fun _ h9 => h9) rfl dX0_bestRunIn_60 ?_
          refine lv_iload (pc := 63) hx hb dX0_bestRunIn_63 (lv_at hl 7 rfl) ?_
          refine z_lald (pc := 65) hx hb hK hP 10 (u) (f := lv) rfl (by omega) (by omega) (by omega) dX0_bestRunIn_65 ?_
          have r_8 := hlv (u) (by omega)
          refine z_iconst (pc := 66) hx hb dX0_bestRunIn_66 ?_
          refine rd_SN (pc := 67) hx hb hml hown hT hK (c_lt1 D cI cJ l ((sumL (lev F R) (φ u) (h - (φ u)) : Int)) ((lv (u))) (sumL (lev F R) (φ u) (h - φ u)) (lev F R (φ u)) (by omega) (by omega) (by omega)) ca_X3_leastTerms hK.2.2.2.2.2 va_Pnil ⟨Nat.le_of_ble_eq_true rfl, Nat.le_of_ble_eq_true rfl⟩ rfl hl.1 (As := [.long (zj ((sumL (lev F R) (φ u) (h - (φ u)) : Int))), .long (zj ((lv (u)))), .int (zi (1))]) (rest := []) rfl (Nat.le_of_ble_eq_true rfl) ⟨Nat.le_of_ble_eq_true rfl, Nat.le_of_ble_eq_true rfl⟩ dX0_bestRunIn_67 ?_
          refine lv_lstore (lv' := [(11, .long (zj ((rdL (sumL (lev F R) (φ u) (h - φ u)) (lev F R (φ u)) : Int)))), (9, .long (zj ((sumL (lev F R) (φ u) (h - (φ u)) : Int)))), (0, .ref (ad 2)), (1, .int (zi ((h : Int)))), (2, .int (zi (q))), (3, .int (zi (z3))), (4, .long (zj (z4))), (6, .long (zj (z6))), (8, .int (zi (z8)))]) (pc := 70) hx hb dX0_bestRunIn_70 hl (by decide) rfl (fun ls hl => ?_)
          refine z_ldc2 (pc := 72) hx hb (100) hown (hT _ tw_241) (by decide) dX0_bestRunIn_72 ?_
          refine lv_lload (pc := 75) hx hb dX0_bestRunIn_75 (lv_at hl 1 rfl) ?_
          refine lv_aload_n (pc := 77) hx hb dX0_bestRunIn_77 rfl (lv_at hl 2 rfl) ?_
          refine va_get (D := D) (cl := vwCl) (ci := 0) (v := .ref (ad 10)) (C := RX0) (T := TX0) (N := 3) (pc := 78) hx hb hT inT0 hown hK.1 hP 2 rfl rfl 1 (by decide) (hT _ tw_46) (fun _ h9 => h9) rfl dX0_bestRunIn_78 ?_
          refine lv_iload (pc := 81) hx hb dX0_bestRunIn_81 (lv_at hl 8 rfl) ?_
          refine z_lald (pc := 83) hx hb hK hP 10 (u) (f := lv) rfl (by omega) (by omega) (by omega) dX0_bestRunIn_83 ?_
          have r_9 := hlv (u) (by omega)
          refine z_iconst (pc := 84) hx hb dX0_bestRunIn_84 ?_
          refine rd_SN (pc := 85) hx hb hml hown hT hK (c_lt0 D cI cJ l ((sumL (lev F R) (φ u) (h - (φ u)) : Int)) ((lv (u))) (sumL (lev F R) (φ u) (h - φ u)) (lev F R (φ u)) (by omega) (by omega) (by omega)) ca_X3_leastTerms hK.2.2.2.2.2 va_Pnil ⟨Nat.le_of_ble_eq_true rfl, Nat.le_of_ble_eq_true rfl⟩ rfl hl.1 (As := [.long (zj ((sumL (lev F R) (φ u) (h - (φ u)) : Int))), .long (zj ((lv (u)))), .int (zi (0))]) (rest := [.long (zj (100))]) rfl (Nat.le_of_ble_eq_true rfl) ⟨Nat.le_of_ble_eq_true rfl, Nat.le_of_ble_eq_true rfl⟩ dX0_bestRunIn_85 ?_
          refine z_lmul (pc := 88) hx hb dX0_bestRunIn_88 ?_
          refine lv_aload_n (pc := 89) hx hb dX0_bestRunIn_89 rfl (lv_at hl 2 rfl) ?_
          refine va_get (D := D) (cl := vwCl) (ci := 0) (v := .ref (ad 9)) (C := RX0) (T := TX0) (N := 3) (pc := 90) hx hb hT inT0 hown hK.1 hP 2 rfl rfl 0 (by decide) (hT _ tw_45) (fun _ h9 => h9) rfl dX0_bestRunIn_90 ?_
          refine lv_iload (pc := 93) hx hb dX0_bestRunIn_93 (lv_at hl 8 rfl) ?_
          refine z_iald (pc := 95) hx hb hK hP 9 (u) (f := fr) rfl (by omega) (by omega) (by omega) dX0_bestRunIn_95 ?_
          have r_10 := hfr (u) (by omega)
          refine lv_iload_n (pc := 96) hx hb dX0_bestRunIn_96 rfl (lv_at hl 4 rfl) ?_
          refine z_imul (pc := 97) hx hb dX0_bestRunIn_97 ?_
          refine z_i2l (pc := 98) hx hb (by omega) dX0_bestRunIn_98 ?_
          refine lv_lload (pc := 99) hx hb dX0_bestRunIn_99 (lv_at hl 0 rfl) ?_
          refine z_lmul (pc := 101) hx hb dX0_bestRunIn_101 ?_
          refine z_lsub (pc := 102) hx hb dX0_bestRunIn_102 ?_
          refine lv_lstore (lv' := [(13, .long (zj (((100 * (rdU (sumL (lev F R) (φ u) (h - φ u)) (lev F R (φ u)) : Int)) - (((fr (u)) * q) * (rdL (sumL (lev F R) (φ u) (h - φ u)) (lev F R (φ u)) : Int)))))), (11, .long (zj ((rdL (sumL (lev F R) (φ u) (h - φ u)) (lev F R (φ u)) : Int)))), (9, .long (zj ((sumL (lev F R) (φ u) (h - (φ u)) : Int)))), (0, .ref (ad 2)), (1, .int (zi ((h : Int)))), (2, .int (zi (q))), (3, .int (zi (z3))), (4, .long (zj (z4))), (6, .long (zj (z6))), (8, .int (zi (z8)))]) (pc := 103) hx hb dX0_bestRunIn_103 hl (by decide) rfl (fun ls hl => ?_)
          refine lv_iload (pc := 105) hx hb dX0_bestRunIn_105 (lv_at hl 9 rfl) ?_
          refine z_if_eq (tgt := 124) (pc := 107) hx hb dX0_bestRunIn_107 (by decide) (by omega) (fun c_11 => ?_) (fun c_11 => ?_)
          · have hset : BI F R h q φ (u + 1) (fr u) (100 * (KU F R h (φ u) : Int) - fr u * q * (KL F R h (φ u) : Int)) (KL F R h (φ u) : Int) := by
              rw [exu, hfu.1]
              exact BI_set hs hE (by omega) hq e1 (by omega) (by omega) hl0 (by first | (left; omega) | (right; rw [← exu]; simp only [KU, KL] at *; omega))
            refine lv_aload_n (pc := 124) hx hb dX0_bestRunIn_124 rfl (lv_at hl 3 rfl) ?_
            refine va_get (D := D) (cl := vwCl) (ci := 0) (v := .ref (ad 9)) (C := RX0) (T := TX0) (N := 3) (pc := 125) hx hb hT inT0 hown hK.1 hP 2 rfl rfl 0 (by decide) (hT _ tw_45) (fun _ h9 => h9) rfl dX0_bestRunIn_125 ?_
            refine lv_iload (pc := 128) hx hb dX0_bestRunIn_128 (lv_at hl 9 rfl) ?_
            refine z_iald (pc := 130) hx hb hK hP 9 (u) (f := fr) rfl (by omega) (by omega) (by omega) dX0_bestRunIn_130 ?_
            have r_12 := hfr (u) (by omega)
            refine lv_istore_n (lv' := [(3, .int (zi ((fr (u))))), (13, .long (zj (((100 * (rdU (sumL (lev F R) (φ u) (h - φ u)) (lev F R (φ u)) : Int)) - (((fr (u)) * q) * (rdL (sumL (lev F R) (φ u) (h - φ u)) (lev F R (φ u)) : Int)))))), (11, .long (zj ((rdL (sumL (lev F R) (φ u) (h - φ u)) (lev F R (φ u)) : Int)))), (9, .long (zj ((sumL (lev F R) (φ u) (h - (φ u)) : Int)))), (0, .ref (ad 2)), (1, .int (zi ((h : Int)))), (2, .int (zi (q))), (4, .long (zj (z4))), (6, .long (zj (z6))), (8, .int (zi (z8)))]) (pc := 131) hx hb dX0_bestRunIn_131 rfl hl (by decide) rfl (fun ls hl => ?_)
            refine lv_lload (pc := 132) hx hb dX0_bestRunIn_132 (lv_at hl 1 rfl) ?_
            refine lv_lstore (lv' := [(4, .long (zj (((100 * (rdU (sumL (lev F R) (φ u) (h - φ u)) (lev F R (φ u)) : Int)) - (((fr (u)) * q) * (rdL (sumL (lev F R) (φ u) (h - φ u)) (lev F R (φ u)) : Int)))))), (3, .int (zi ((fr (u))))), (13, .long (zj (((100 * (rdU (sumL (lev F R) (φ u) (h - φ u)) (lev F R (φ u)) : Int)) - (((fr (u)) * q) * (rdL (sumL (lev F R) (φ u) (h - φ u)) (lev F R (φ u)) : Int)))))), (11, .long (zj ((rdL (sumL (lev F R) (φ u) (h - φ u)) (lev F R (φ u)) : Int)))), (9, .long (zj ((sumL (lev F R) (φ u) (h - (φ u)) : Int)))), (0, .ref (ad 2)), (1, .int (zi ((h : Int)))), (2, .int (zi (q))), (6, .long (zj (z6))), (8, .int (zi (z8)))]) (pc := 134) hx hb dX0_bestRunIn_134 hl (by decide) rfl (fun ls hl => ?_)
            refine lv_lload (pc := 136) hx hb dX0_bestRunIn_136 (lv_at hl 3 rfl) ?_
            refine lv_lstore (lv' := [(6, .long (zj ((rdL (sumL (lev F R) (φ u) (h - φ u)) (lev F R (φ u)) : Int)))), (4, .long (zj (((100 * (rdU (sumL (lev F R) (φ u) (h - φ u)) (lev F R (φ u)) : Int)) - (((fr (u)) * q) * (rdL (sumL (lev F R) (φ u) (h - φ u)) (lev F R (φ u)) : Int)))))), (3, .int (zi ((fr (u))))), (13, .long (zj (((100 * (rdU (sumL (lev F R) (φ u) (h - φ u)) (lev F R (φ u)) : Int)) - (((fr (u)) * q) * (rdL (sumL (lev F R) (φ u) (h - φ u)) (lev F R (φ u)) : Int)))))), (11, .long (zj ((rdL (sumL (lev F R) (φ u) (h - φ u)) (lev F R (φ u)) : Int)))), (9, .long (zj ((sumL (lev F R) (φ u) (h - (φ u)) : Int)))), (0, .ref (ad 2)), (1, .int (zi ((h : Int)))), (2, .int (zi (q))), (8, .int (zi (z8)))]) (pc := 138) hx hb dX0_bestRunIn_138 hl (by decide) rfl (fun ls hl => ?_)
            refine lv_iinc (v := zi (z8 + 1)) (lv' := [(8, .int (zi ((z8 + 1)))), (6, .long (zj ((rdL (sumL (lev F R) (φ u) (h - φ u)) (lev F R (φ u)) : Int)))), (4, .long (zj (((100 * (rdU (sumL (lev F R) (φ u) (h - φ u)) (lev F R (φ u)) : Int)) - (((fr (u)) * q) * (rdL (sumL (lev F R) (φ u) (h - φ u)) (lev F R (φ u)) : Int)))))), (3, .int (zi ((fr (u))))), (13, .long (zj (((100 * (rdU (sumL (lev F R) (φ u) (h - φ u)) (lev F R (φ u)) : Int)) - (((fr (u)) * q) * (rdL (sumL (lev F R) (φ u) (h - φ u)) (lev F R (φ u)) : Int)))))), (11, .long (zj ((rdL (sumL (lev F R) (φ u) (h - φ u)) (lev F R (φ u)) : Int)))), (9, .long (zj ((sumL (lev F R) (φ u) (h - (φ u)) : Int)))), (0, .ref (ad 2)), (1, .int (zi ((h : Int)))), (2, .int (zi (q)))]) (pc := 140) hx hb dX0_bestRunIn_140 hl (k := 9) rfl (zi_add _ _) (by decide) rfl (fun ls hl => ?_)
            refine lv_goto (tgt := 11) (pc := 143) hx hb dX0_bestRunIn_143 (by decide) ?_
            exact ih  _ _ _ _ (by omega) (hset) ls (lv_sub hl [7, 8, 9, 3, 2, 1, 0] rfl)
          · have hbr := BI_rng hs (by omega) hq e1 (by omega)
            have hp1 := mul_rngS (a := XU F R h q (φ u)) (b := z6) (A := 29952000000) (B := 599040) hxu (by omega)
            have hp2 := mul_rngS (a := z4) (b := (KL F R h (φ u) : Int)) (A := 29952000000) (B := 599040) hbr.1 (by omega)
            rw [← exu] at hp1
            refine lv_lload (pc := 110) hx hb dX0_bestRunIn_110 (lv_at hl 0 rfl) ?_
            refine lv_lload (pc := 112) hx hb dX0_bestRunIn_112 (lv_at hl 8 rfl) ?_
            refine z_lmul (pc := 114) hx hb dX0_bestRunIn_114 ?_
            refine lv_lload (pc := 115) hx hb dX0_bestRunIn_115 (lv_at hl 7 rfl) ?_
            refine lv_lload (pc := 117) hx hb dX0_bestRunIn_117 (lv_at hl 1 rfl) ?_
            refine z_lmul (pc := 119) hx hb dX0_bestRunIn_119 ?_
            refine z_lcmp_le (tgt := 140) (pc := 120) hx hb dX0_bestRunIn_120 dX0_bestRunIn_121 (by decide) (by simp only [KU, KL] at *; omega) (by simp only [KU, KL] at *; omega) (fun c_13 => ?_) (fun c_13 => ?_)
            · have hkeep : BI F R h q φ (u + 1) z3 z4 z6 := BI_keep hs hE (by omega) hq e1 (by omega) (by omega) (by omega) hl0 (by rw [← exu]; simp only [KU, KL] at *; omega)
              refine lv_iinc (v := zi (z8 + 1)) (lv' := [(8, .int (zi ((z8 + 1)))), (13, .long (zj (((100 * (rdU (sumL (lev F R) (φ u) (h - φ u)) (lev F R (φ u)) : Int)) - (((fr (u)) * q) * (rdL (sumL (lev F R) (φ u) (h - φ u)) (lev F R (φ u)) : Int)))))), (11, .long (zj ((rdL (sumL (lev F R) (φ u) (h - φ u)) (lev F R (φ u)) : Int)))), (9, .long (zj ((sumL (lev F R) (φ u) (h - (φ u)) : Int)))), (0, .ref (ad 2)), (1, .int (zi ((h : Int)))), (2, .int (zi (q))), (3, .int (zi (z3))), (4, .long (zj (z4))), (6, .long (zj (z6)))]) (pc := 140) hx hb dX0_bestRunIn_140 hl (k := 9) rfl (zi_add _ _) (by decide) rfl (fun ls hl => ?_)
              refine lv_goto (tgt := 11) (pc := 143) hx hb dX0_bestRunIn_143 (by decide) ?_
              exact ih  _ _ _ _ (by omega) (hkeep) ls (lv_sub hl [4, 5, 6, 7, 8, 9, 0] rfl)
            · have hset : BI F R h q φ (u + 1) (fr u) (100 * (KU F R h (φ u) : Int) - fr u * q * (KL F R h (φ u) : Int)) (KL F R h (φ u) : Int) := by
                rw [exu, hfu.1]
                exact BI_set hs hE (by omega) hq e1 (by omega) (by omega) hl0 (by first | (left; omega) | (right; rw [← exu]; simp only [KU, KL] at *; omega))
              refine lv_aload_n (pc := 124) hx hb dX0_bestRunIn_124 rfl (lv_at hl 3 rfl) ?_
              refine va_get (D := D) (cl := vwCl) (ci := 0) (v := .ref (ad 9)) (C := RX0) (T := TX0) (N := 3) (pc := 125) hx hb hT inT0 hown hK.1 hP 2 rfl rfl 0 (by decide) (hT _ tw_45) (fun _ h9 => h9) rfl dX0_bestRunIn_125 ?_
              refine lv_iload (pc := 128) hx hb dX0_bestRunIn_128 (lv_at hl 9 rfl) ?_
              refine z_iald (pc := 130) hx hb hK hP 9 (u) (f := fr) rfl (by omega) (by omega) (by omega) dX0_bestRunIn_130 ?_
              have r_14 := hfr (u) (by omega)
              refine lv_istore_n (lv' := [(3, .int (zi ((fr (u))))), (13, .long (zj (((100 * (rdU (sumL (lev F R) (φ u) (h - φ u)) (lev F R (φ u)) : Int)) - (((fr (u)) * q) * (rdL (sumL (lev F R) (φ u) (h - φ u)) (lev F R (φ u)) : Int)))))), (11, .long (zj ((rdL (sumL (lev F R) (φ u) (h - φ u)) (lev F R (φ u)) : Int)))), (9, .long (zj ((sumL (lev F R) (φ u) (h - (φ u)) : Int)))), (0, .ref (ad 2)), (1, .int (zi ((h : Int)))), (2, .int (zi (q))), (4, .long (zj (z4))), (6, .long (zj (z6))), (8, .int (zi (z8)))]) (pc := 131) hx hb dX0_bestRunIn_131 rfl hl (by decide) rfl (fun ls hl => ?_)
              refine lv_lload (pc := 132) hx hb dX0_bestRunIn_132 (lv_at hl 1 rfl) ?_
              refine lv_lstore (lv' := [(4, .long (zj (((100 * (rdU (sumL (lev F R) (φ u) (h - φ u)) (lev F R (φ u)) : Int)) - (((fr (u)) * q) * (rdL (sumL (lev F R) (φ u) (h - φ u)) (lev F R (φ u)) : Int)))))), (3, .int (zi ((fr (u))))), (13, .long (zj (((100 * (rdU (sumL (lev F R) (φ u) (h - φ u)) (lev F R (φ u)) : Int)) - (((fr (u)) * q) * (rdL (sumL (lev F R) (φ u) (h - φ u)) (lev F R (φ u)) : Int)))))), (11, .long (zj ((rdL (sumL (lev F R) (φ u) (h - φ u)) (lev F R (φ u)) : Int)))), (9, .long (zj ((sumL (lev F R) (φ u) (h - (φ u)) : Int)))), (0, .ref (ad 2)), (1, .int (zi ((h : Int)))), (2, .int (zi (q))), (6, .long (zj (z6))), (8, .int (zi (z8)))]) (pc := 134) hx hb dX0_bestRunIn_134 hl (by decide) rfl (fun ls hl => ?_)
              refine lv_lload (pc := 136) hx hb dX0_bestRunIn_136 (lv_at hl 3 rfl) ?_
              refine lv_lstore (lv' := [(6, .long (zj ((rdL (sumL (lev F R) (φ u) (h - φ u)) (lev F R (φ u)) : Int)))), (4, .long (zj (((100 * (rdU (sumL (lev F R) (φ u) (h - φ u)) (lev F R (φ u)) : Int)) - (((fr (u)) * q) * (rdL (sumL (lev F R) (φ u) (h - φ u)) (lev F R (φ u)) : Int)))))), (3, .int (zi ((fr (u))))), (13, .long (zj (((100 * (rdU (sumL (lev F R) (φ u) (h - φ u)) (lev F R (φ u)) : Int)) - (((fr (u)) * q) * (rdL (sumL (lev F R) (φ u) (h - φ u)) (lev F R (φ u)) : Int)))))), (11, .long (zj ((rdL (sumL (lev F R) (φ u) (h - φ u)) (lev F R (φ u)) : Int)))), (9, .long (zj ((sumL (lev F R) (φ u) (h - (φ u)) : Int)))), (0, .ref (ad 2)), (1, .int (zi ((h : Int)))), (2, .int (zi (q))), (8, .int (zi (z8)))]) (pc := 138) hx hb dX0_bestRunIn_138 hl (by decide) rfl (fun ls hl => ?_)
              refine lv_iinc (v := zi (z8 + 1)) (lv' := [(8, .int (zi ((z8 + 1)))), (6, .long (zj ((rdL (sumL (lev F R) (φ u) (h - φ u)) (lev F R (φ u)) : Int)))), (4, .long (zj (((100 * (rdU (sumL (lev F R) (φ u) (h - φ u)) (lev F R (φ u)) : Int)) - (((fr (u)) * q) * (rdL (sumL (lev F R) (φ u) (h - φ u)) (lev F R (φ u)) : Int)))))), (3, .int (zi ((fr (u))))), (13, .long (zj (((100 * (rdU (sumL (lev F R) (φ u) (h - φ u)) (lev F R (φ u)) : Int)) - (((fr (u)) * q) * (rdL (sumL (lev F R) (φ u) (h - φ u)) (lev F R (φ u)) : Int)))))), (11, .long (zj ((rdL (sumL (lev F R) (φ u) (h - φ u)) (lev F R (φ u)) : Int)))), (9, .long (zj ((sumL (lev F R) (φ u) (h - (φ u)) : Int)))), (0, .ref (ad 2)), (1, .int (zi ((h : Int)))), (2, .int (zi (q)))]) (pc := 140) hx hb dX0_bestRunIn_140 hl (k := 9) rfl (zi_add _ _) (by decide) rfl (fun ls hl => ?_)
              refine lv_goto (tgt := 11) (pc := 143) hx hb dX0_bestRunIn_143 (by decide) ?_
              exact ih  _ _ _ _ (by omega) (hset) ls (lv_sub hl [7, 8, 9, 3, 2, 1, 0] rfl)
  refine z_iconst (pc := 0) hx hb dX0_bestRunIn_0 ?_
  refine lv_istore_n (lv' := [(3, .int (zi (0))), (0, .ref (ad 2)), (1, .int (zi ((h : Int)))), (2, .int (zi (q)))]) (pc := 1) hx hb dX0_bestRunIn_1 rfl hl (by decide) rfl (fun ls hl => ?_)
  refine z_lconst0 (pc := 2) hx hb dX0_bestRunIn_2 ?_
  refine lv_lstore (lv' := [(4, .long (zj (0))), (3, .int (zi (0))), (0, .ref (ad 2)), (1, .int (zi ((h : Int)))), (2, .int (zi (q)))]) (pc := 3) hx hb dX0_bestRunIn_3 hl (by decide) rfl (fun ls hl => ?_)
  refine z_lconst0 (pc := 5) hx hb dX0_bestRunIn_5 ?_
  refine lv_lstore (lv' := [(6, .long (zj (0))), (4, .long (zj (0))), (3, .int (zi (0))), (0, .ref (ad 2)), (1, .int (zi ((h : Int)))), (2, .int (zi (q)))]) (pc := 6) hx hb dX0_bestRunIn_6 hl (by decide) rfl (fun ls hl => ?_)
  refine z_iconst (pc := 8) hx hb dX0_bestRunIn_8 ?_
  refine lv_istore (lv' := [(8, .int (zi (0))), (6, .long (zj (0))), (4, .long (zj (0))), (3, .int (zi (0))), (0, .ref (ad 2)), (1, .int (zi ((h : Int)))), (2, .int (zi (q)))]) (pc := 9) hx hb dX0_bestRunIn_9 hl (by decide) rfl (fun ls hl => ?_)
  exact loop 0 (by omega) _ _ _ _ (by rfl) (Or.inl ⟨rfl, rfl⟩) ls (lv_sub hl [4, 5, 6, 3, 2, 1, 0] rfl)
end
section
/-! what the calls of STANDING answer -/
abbrev okS (S b : Int) : Prop := (0 ≤ S ∧ S ≤ 15) ∧ (-1 ≤ b ∧ b ≤ 2)
def leftV (n : Int) (st hr ca : Nat → Int) (S b t w : Int) : Int := if okS S b ∧ (0 ≤ t ∧ t ≤ 500) ∧ (0 ≤ w ∧ w ≤ 1) then (if w = 0 then (rdU (lev (FF n st hr ca S b) (RR n st hr S) t.toNat) (lev (FF n st hr ca S b) (RR n st hr S) 0) : Int) else (rdL (lev (FF n st hr ca S b) (RR n st hr S) t.toNat) (lev (FF n st hr ca S b) (RR n st hr S) 0) : Int)) else -1002
def timeV (n : Int) (st hr ca : Nat → Int) (S b x y : Int) : Int := if okS S b ∧ (1 ≤ y ∧ y ≤ 1000) ∧ (0 ≤ x ∧ x ≤ y) then timeF (tmT (FF n st hr ca S b) (RR n st hr S) x y) 501 else -1002
def meanV (n : Int) (st hr ca : Nat → Int) (S b h w : Int) : Int := if okS S b ∧ (1 ≤ h ∧ h ≤ 500) ∧ (0 ≤ w ∧ w ≤ 1) then (if w = 0 then (rdU (sumL (lev (FF n st hr ca S b) (RR n st hr S)) 0 (h.toNat - 0)) (lev (FF n st hr ca S b) (RR n st hr S) 0) : Int) else (rdL (sumL (lev (FF n st hr ca S b) (RR n st hr S)) 0 (h.toNat - 0)) (lev (FF n st hr ca S b) (RR n st hr S) 0) : Int)) else -1002
def restV (n : Int) (st hr ca : Nat → Int) (S b x h w : Int) : Int := if okS S b ∧ (1 ≤ h ∧ h ≤ 500) ∧ (0 ≤ x ∧ x ≤ h - 1) ∧ (0 ≤ w ∧ w ≤ 1) then (if lev (FF n st hr ca S b) (RR n st hr S) x.toNat = 0 then -1003 else (if w = 0 then (rdU (sumL (lev (FF n st hr ca S b) (RR n st hr S)) x.toNat (h.toNat - x.toNat)) (lev (FF n st hr ca S b) (RR n st hr S) x.toNat) : Int) else (rdL (sumL (lev (FF n st hr ca S b) (RR n st hr S)) x.toNat (h.toNat - x.toNat)) (lev (FF n st hr ca S b) (RR n st hr S) x.toNat) : Int))) else -1002
def runInV (n : Int) (st hr ca : Nat → Int) (S b h q : Int) : Int := if okS S b ∧ (1 ≤ h ∧ h ≤ 500) ∧ (0 ≤ q ∧ q ≤ 100) then (bestF (FF n st hr ca S b) (RR n st hr S) h.toNat q h.toNat : Int) else -1002
theorem sum_rng {F R : Nat → Nat} (hs : STd F R) {B E : Nat} (hE : E ≤ 500) : sumL (lev F R) B (E - B) ≤ 239500800000 := by
  have h1 : sumL (lev F R) B (E - B) ≤ 479001600 * (E - B) := sumL_le (E - B) (fun x h1 h2 => lev_rng hs (by omega))
  have h2 : 479001600 * (E - B) ≤ 479001600 * 500 := Nat.mul_le_mul_left _ (by omega)
  omega
theorem timeF_rng {T : Nat → Prop} [DecidablePred T] : ∀ d, -1 ≤ timeF T d ∧ timeF T d ≤ 500
  | 0 => by simp [timeF]
  | d + 1 => by
    have ih := timeF_rng (T := T) d
    simp only [timeF]; split <;> omega

set_option maxHeartbeats 4000000 in
set_option maxRecDepth 100000 in
theorem c_X3_left (D : va_G) (cI cJ : ClassId) (l : Launch) (ad : Nat → Nat) (n : Int) (st hr ca : Nat → Int) (pcs : Int) (fr lv : Nat → Int) (k : Int) (ts th sp hv : Nat → Int) (pr hc : Int) (hU : VU n st hr ca) (S : Int) (r_S : -2147483648 ≤ S ∧ S ≤ 2147483647) (b : Int) (r_b : -2147483648 ≤ b ∧ b ≤ 2147483647) (t : Int) (r_t : -2147483648 ≤ t ∧ t ≤ 2147483647) (w : Int) (r_w : -2147483648 ≤ w ∧ w ≤ 2147483647) : WR D cI cJ l yX3_left cX3_left 5 (some .long) 4 95 [.ref (ad 0), .int (zi (S)), .int (zi (b)), .int (zi (t)), .int (zi (w))] (wX ad cI cJ n st hr ca pcs fr lv k ts th sp hv pr hc) (fun v' ws' => v' = .long (zj (leftV n st hr ca S b t w)) ∧ ∃ (pcs' : Int) (fr' lv' : Nat → Int), ws' = (wX ad cI cJ n st hr ca pcs' fr' lv' k ts th sp hv pr hc)) := by
  refine WR.of (by decide) (Nat.le_of_ble_eq_true rfl) ?_
  intro p e s m args below meth c hx hb hrt hml hown hT hlk hK hP hD hS ls hl
  replace hl : lv_has ls 5 [(0, .ref (ad 0)), (1, .int (zi (S))), (2, .int (zi (b))), (3, .int (zi (t))), (4, .int (zi (w)))] := hl
  refine lv_iload_n (pc := 0) hx hb dX3_left_0 rfl (lv_at hl 1 rfl) ?_
  refine lv_iload_n (pc := 1) hx hb dX3_left_1 rfl (lv_at hl 2 rfl) ?_
  refine rd_S (pc := 2) hx hb hml hown hT hK (c_X3_isSetByCause D cI cJ l (S) (by omega) (b) (by omega)) ca_X3_isSetByCause tw_164 va_Pnil ⟨Nat.le_of_ble_eq_true rfl, Nat.le_of_ble_eq_true rfl⟩ rfl hl.1 (As := [.int (zi (S)), .int (zi (b))]) (rest := []) rfl (Nat.le_of_ble_eq_true rfl) ⟨Nat.le_of_ble_eq_true rfl, Nat.le_of_ble_eq_true rfl⟩ dX3_left_2 ?_
  refine z_ifB_eq (tgt := 29) (pc := 5) hx hb dX3_left_5 (by decide) (fun c_1 => ?_) (fun c_1 => ?_)
  · refine z_ldc2 (pc := 29) hx hb (-1002) hown (hT _ tw_167) (by decide) dX3_left_29 ?_
    exact wr_lret hx hb hrt hlk dX3_left_32 hP hS (⟨by rw [leftV, if_neg (by omega)], pcs, fr, lv, rfl⟩)
  · refine lv_iload_n (pc := 8) hx hb dX3_left_8 rfl (lv_at hl 3 rfl) ?_
    refine z_iconst (pc := 9) hx hb dX3_left_9 ?_
    refine z_sipush (pc := 10) hx hb dX3_left_10 (by decide) ?_
    refine rd_S (pc := 13) hx hb hml hown hT hK (c_X3_isWithin D cI cJ l (t) (by omega) (0) (by omega) (500) (by omega)) ca_X3_isWithin tw_107 va_Pnil ⟨Nat.le_of_ble_eq_true rfl, Nat.le_of_ble_eq_true rfl⟩ rfl hl.1 (As := [.int (zi (t)), .int (zi (0)), .int (zi (500))]) (rest := []) rfl (Nat.le_of_ble_eq_true rfl) ⟨Nat.le_of_ble_eq_true rfl, Nat.le_of_ble_eq_true rfl⟩ dX3_left_13 ?_
    refine z_ifB_eq (tgt := 29) (pc := 16) hx hb dX3_left_16 (by decide) (fun c_2 => ?_) (fun c_2 => ?_)
    · refine z_ldc2 (pc := 29) hx hb (-1002) hown (hT _ tw_167) (by decide) dX3_left_29 ?_
      exact wr_lret hx hb hrt hlk dX3_left_32 hP hS (⟨by rw [leftV, if_neg (by omega)], pcs, fr, lv, rfl⟩)
    · refine lv_iload (pc := 19) hx hb dX3_left_19 (lv_at hl 4 rfl) ?_
      refine z_iconst (pc := 21) hx hb dX3_left_21 ?_
      refine z_iconst (pc := 22) hx hb dX3_left_22 ?_
      refine rd_S (pc := 23) hx hb hml hown hT hK (c_X3_isWithin D cI cJ l (w) (by omega) (0) (by omega) (1) (by omega)) ca_X3_isWithin tw_107 va_Pnil ⟨Nat.le_of_ble_eq_true rfl, Nat.le_of_ble_eq_true rfl⟩ rfl hl.1 (As := [.int (zi (w)), .int (zi (0)), .int (zi (1))]) (rest := []) rfl (Nat.le_of_ble_eq_true rfl) ⟨Nat.le_of_ble_eq_true rfl, Nat.le_of_ble_eq_true rfl⟩ dX3_left_23 ?_
      refine z_ifB_ne (tgt := 33) (pc := 26) hx hb dX3_left_26 (by decide) (fun c_3 => ?_) (fun c_3 => ?_)
      · refine lv_aload_n (pc := 33) hx hb dX3_left_33 rfl (lv_at hl 0 rfl) ?_
        refine va_get (D := D) (cl := vwCl) (ci := 3) (v := .ref (ad 2)) (C := RX3) (T := TX3) (N := 7) (pc := 34) hx hb hT inT3 hown hK.1 hP 0 rfl rfl 1 (by decide) (hT _ tw_76) (fun _ h9 => h9) rfl dX3_left_34 ?_
        refine lv_aload_n (pc := 37) hx hb dX3_left_37 rfl (lv_at hl 0 rfl) ?_
        refine va_get (D := D) (cl := vwCl) (ci := 3) (v := .ref (ad 1)) (C := RX3) (T := TX3) (N := 7) (pc := 38) hx hb hT inT3 hown hK.1 hP 0 rfl rfl 0 (by decide) (hT _ tw_75) (fun _ h9 => h9) rfl dX3_left_38 ?_
        refine lv_iload_n (pc := 41) hx hb dX3_left_41 rfl (lv_at hl 1 rfl) ?_
        refine lv_iload_n (pc := 42) hx hb dX3_left_42 rfl (lv_at hl 2 rfl) ?_
        refine wv_V (pc := 43) hx hb hml hown hT hK (c_X0_look D cI cJ l ad n st hr ca pcs fr lv k ts th sp hv pr hc hU (S) (by omega) (b) (by omega)) ca_X0_look tw_168 hP hD hS (fun q h => inW_same (by rfl) h) 2 0 rfl rfl rfl ⟨Nat.le_of_ble_eq_true rfl, Nat.le_of_ble_eq_true rfl⟩ rfl hl.1 (As := [.ref (ad 1), .int (zi (S)), .int (zi (b))]) (rest := []) rfl (Nat.le_of_ble_eq_true rfl) ⟨Nat.le_of_ble_eq_true rfl, Nat.le_of_ble_eq_true rfl⟩ dX3_left_43 (fun ws_ H locs hΦ hP hz_ hk_ hS => ?_)
        obtain ⟨i_4, φ_4, fr_4, lv_4, hE_4, rfl⟩ := hΦ
        replace hD : va_D (inW (wX ad cI cJ n st hr ca pcs fr lv k ts th sp hv pr hc)) (wX ad cI cJ n st hr ca (((i_4 : Int) + 1)) fr_4 lv_4 k ts th sp hv pr hc) := hD.same rfl
        refine lv_aload_n (pc := 46) hx hb dX3_left_46 rfl (lv_at hl 0 rfl) ?_
        refine va_get (D := D) (cl := vwCl) (ci := 3) (v := .ref (ad 2)) (C := RX3) (T := TX3) (N := 7) (pc := 47) hx hb hT inT3 hown hK.1 hP 0 rfl rfl 1 (by decide) (hT _ tw_76) (fun _ h9 => h9) rfl dX3_left_47 ?_
        refine lv_iload_n (pc := 50) hx hb dX3_left_50 rfl (lv_at hl 3 rfl) ?_
        have hs := ST_of hU S b
        have hl1 := lev_rng hs (t := t.toNat) (by omega)
        have hl0 := lev_0 hs
        refine rd_V (pc := 51) hx hb hml hown hT hK (c_X0_levelAt D cI cJ l ad n st hr ca (((i_4 : Int) + 1)) fr_4 lv_4 k ts th sp hv pr hc (FF n st hr ca S b) (RR n st hr S) (ST_of hU _ _) i_4 φ_4 hE_4 rfl (t) t.toNat (by omega) (by omega)) ca_X0_levelAt tw_189 hP 2 0 rfl rfl rfl ⟨Nat.le_of_ble_eq_true rfl, Nat.le_of_ble_eq_true rfl⟩ rfl hl.1 (As := [.int (zi (t))]) (rest := []) rfl (Nat.le_of_ble_eq_true rfl) ⟨Nat.le_of_ble_eq_true rfl, Nat.le_of_ble_eq_true rfl⟩ dX3_left_51 ?_
        refine lv_aload_n (pc := 54) hx hb dX3_left_54 rfl (lv_at hl 0 rfl) ?_
        refine va_get (D := D) (cl := vwCl) (ci := 3) (v := .ref (ad 2)) (C := RX3) (T := TX3) (N := 7) (pc := 55) hx hb hT inT3 hown hK.1 hP 0 rfl rfl 1 (by decide) (hT _ tw_76) (fun _ h9 => h9) rfl dX3_left_55 ?_
        refine rd_V (pc := 58) hx hb hml hown hT hK (c_X0_whole D cI cJ l ad n st hr ca (((i_4 : Int) + 1)) fr_4 lv_4 k ts th sp hv pr hc (FF n st hr ca S b) (RR n st hr S) (ST_of hU _ _) i_4 φ_4 hE_4 rfl) ca_X0_whole tw_193 hP 2 0 rfl rfl rfl ⟨Nat.le_of_ble_eq_true rfl, Nat.le_of_ble_eq_true rfl⟩ rfl hl.1 (As := []) (rest := [.long (zj ((lev (FF n st hr ca S b) (RR n st hr S) t.toNat : Int)))]) rfl (Nat.le_of_ble_eq_true rfl) ⟨Nat.le_of_ble_eq_true rfl, Nat.le_of_ble_eq_true rfl⟩ dX3_left_58 ?_
        refine lv_iload (pc := 61) hx hb dX3_left_61 (lv_at hl 4 rfl) ?_
        refine rd_S (pc := 63) hx hb hml hown hT hK (c_X3_leastTerms D cI cJ l ((lev (FF n st hr ca S b) (RR n st hr S) t.toNat : Int)) ((lev (FF n st hr ca S b) (RR n st hr S) 0 : Int)) (w) (lev (FF n st hr ca S b) (RR n st hr S) t.toNat) (lev (FF n st hr ca S b) (RR n st hr S) 0) (by omega) (by omega) (by omega) (by omega)) ca_X3_leastTerms tw_197 va_Pnil ⟨Nat.le_of_ble_eq_true rfl, Nat.le_of_ble_eq_true rfl⟩ rfl hl.1 (As := [.long (zj ((lev (FF n st hr ca S b) (RR n st hr S) t.toNat : Int))), .long (zj ((lev (FF n st hr ca S b) (RR n st hr S) 0 : Int))), .int (zi (w))]) (rest := []) rfl (Nat.le_of_ble_eq_true rfl) ⟨Nat.le_of_ble_eq_true rfl, Nat.le_of_ble_eq_true rfl⟩ dX3_left_63 ?_
        exact wr_lret hx hb hrt hlk dX3_left_66 hP hS (⟨congrArg (fun z => Value.long (zj z)) (if_pos (show okS S b ∧ (0 ≤ t ∧ t ≤ 500) ∧ (0 ≤ w ∧ w ≤ 1) by omega)).symm, _, _, _, rfl⟩)
      · refine z_ldc2 (pc := 29) hx hb (-1002) hown (hT _ tw_167) (by decide) dX3_left_29 ?_
        exact wr_lret hx hb hrt hlk dX3_left_32 hP hS (⟨by rw [leftV, if_neg (by omega)], pcs, fr, lv, rfl⟩)

set_option maxHeartbeats 4000000 in
set_option maxRecDepth 100000 in
theorem c_X3_time (D : va_G) (cI cJ : ClassId) (l : Launch) (ad : Nat → Nat) (n : Int) (st hr ca : Nat → Int) (pcs : Int) (fr lv : Nat → Int) (k : Int) (ts th sp hv : Nat → Int) (pr hc : Int) (hU : VU n st hr ca) (S : Int) (r_S : -2147483648 ≤ S ∧ S ≤ 2147483647) (b : Int) (r_b : -2147483648 ≤ b ∧ b ≤ 2147483647) (x : Int) (r_x : -2147483648 ≤ x ∧ x ≤ 2147483647) (y : Int) (r_y : -2147483648 ≤ y ∧ y ≤ 2147483647) : WR D cI cJ l yX3_time cX3_time 5 (some .int) 4 95 [.ref (ad 0), .int (zi (S)), .int (zi (b)), .int (zi (x)), .int (zi (y))] (wX ad cI cJ n st hr ca pcs fr lv k ts th sp hv pr hc) (fun v' ws' => v' = .int (zi (timeV n st hr ca S b x y)) ∧ ∃ (pcs' : Int) (fr' lv' : Nat → Int), ws' = (wX ad cI cJ n st hr ca pcs' fr' lv' k ts th sp hv pr hc)) := by
  refine WR.of (by decide) (Nat.le_of_ble_eq_true rfl) ?_
  intro p e s m args below meth c hx hb hrt hml hown hT hlk hK hP hD hS ls hl
  replace hl : lv_has ls 5 [(0, .ref (ad 0)), (1, .int (zi (S))), (2, .int (zi (b))), (3, .int (zi (x))), (4, .int (zi (y)))] := hl
  refine lv_iload_n (pc := 0) hx hb dX3_time_0 rfl (lv_at hl 1 rfl) ?_
  refine lv_iload_n (pc := 1) hx hb dX3_time_1 rfl (lv_at hl 2 rfl) ?_
  refine rd_S (pc := 2) hx hb hml hown hT hK (c_X3_isSetByCause D cI cJ l (S) (by omega) (b) (by omega)) ca_X3_isSetByCause tw_164 va_Pnil ⟨Nat.le_of_ble_eq_true rfl, Nat.le_of_ble_eq_true rfl⟩ rfl hl.1 (As := [.int (zi (S)), .int (zi (b))]) (rest := []) rfl (Nat.le_of_ble_eq_true rfl) ⟨Nat.le_of_ble_eq_true rfl, Nat.le_of_ble_eq_true rfl⟩ dX3_time_2 ?_
  refine z_ifB_eq (tgt := 30) (pc := 5) hx hb dX3_time_5 (by decide) (fun c_1 => ?_) (fun c_1 => ?_)
  · refine z_sipush (pc := 30) hx hb dX3_time_30 (by decide) ?_
    exact wr_iret hx hb hrt hlk dX3_time_33 hP hS (⟨by rw [timeV, if_neg (by omega)], pcs, fr, lv, rfl⟩)
  · refine lv_iload (pc := 8) hx hb dX3_time_8 (lv_at hl 4 rfl) ?_
    refine z_iconst (pc := 10) hx hb dX3_time_10 ?_
    refine z_sipush (pc := 11) hx hb dX3_time_11 (by decide) ?_
    refine rd_S (pc := 14) hx hb hml hown hT hK (c_X3_isWithin D cI cJ l (y) (by omega) (1) (by omega) (1000) (by omega)) ca_X3_isWithin tw_107 va_Pnil ⟨Nat.le_of_ble_eq_true rfl, Nat.le_of_ble_eq_true rfl⟩ rfl hl.1 (As := [.int (zi (y)), .int (zi (1)), .int (zi (1000))]) (rest := []) rfl (Nat.le_of_ble_eq_true rfl) ⟨Nat.le_of_ble_eq_true rfl, Nat.le_of_ble_eq_true rfl⟩ dX3_time_14 ?_
    refine z_ifB_eq (tgt := 30) (pc := 17) hx hb dX3_time_17 (by decide) (fun c_2 => ?_) (fun c_2 => ?_)
    · refine z_sipush (pc := 30) hx hb dX3_time_30 (by decide) ?_
      exact wr_iret hx hb hrt hlk dX3_time_33 hP hS (⟨by rw [timeV, if_neg (by omega)], pcs, fr, lv, rfl⟩)
    · refine lv_iload_n (pc := 20) hx hb dX3_time_20 rfl (lv_at hl 3 rfl) ?_
      refine z_iconst (pc := 21) hx hb dX3_time_21 ?_
      refine lv_iload (pc := 22) hx hb dX3_time_22 (lv_at hl 4 rfl) ?_
      refine rd_S (pc := 24) hx hb hml hown hT hK (c_X3_isWithin D cI cJ l (x) (by omega) (0) (by omega) (y) (by omega)) ca_X3_isWithin tw_107 va_Pnil ⟨Nat.le_of_ble_eq_true rfl, Nat.le_of_ble_eq_true rfl⟩ rfl hl.1 (As := [.int (zi (x)), .int (zi (0)), .int (zi (y))]) (rest := []) rfl (Nat.le_of_ble_eq_true rfl) ⟨Nat.le_of_ble_eq_true rfl, Nat.le_of_ble_eq_true rfl⟩ dX3_time_24 ?_
      refine z_ifB_ne (tgt := 34) (pc := 27) hx hb dX3_time_27 (by decide) (fun c_3 => ?_) (fun c_3 => ?_)
      · refine lv_aload_n (pc := 34) hx hb dX3_time_34 rfl (lv_at hl 0 rfl) ?_
        refine va_get (D := D) (cl := vwCl) (ci := 3) (v := .ref (ad 2)) (C := RX3) (T := TX3) (N := 7) (pc := 35) hx hb hT inT3 hown hK.1 hP 0 rfl rfl 1 (by decide) (hT _ tw_76) (fun _ h9 => h9) rfl dX3_time_35 ?_
        refine lv_aload_n (pc := 38) hx hb dX3_time_38 rfl (lv_at hl 0 rfl) ?_
        refine va_get (D := D) (cl := vwCl) (ci := 3) (v := .ref (ad 1)) (C := RX3) (T := TX3) (N := 7) (pc := 39) hx hb hT inT3 hown hK.1 hP 0 rfl rfl 0 (by decide) (hT _ tw_75) (fun _ h9 => h9) rfl dX3_time_39 ?_
        refine lv_iload_n (pc := 42) hx hb dX3_time_42 rfl (lv_at hl 1 rfl) ?_
        refine lv_iload_n (pc := 43) hx hb dX3_time_43 rfl (lv_at hl 2 rfl) ?_
        refine wv_V (pc := 44) hx hb hml hown hT hK (c_X0_look D cI cJ l ad n st hr ca pcs fr lv k ts th sp hv pr hc hU (S) (by omega) (b) (by omega)) ca_X0_look tw_168 hP hD hS (fun q h => inW_same (by rfl) h) 2 0 rfl rfl rfl ⟨Nat.le_of_ble_eq_true rfl, Nat.le_of_ble_eq_true rfl⟩ rfl hl.1 (As := [.ref (ad 1), .int (zi (S)), .int (zi (b))]) (rest := []) rfl (Nat.le_of_ble_eq_true rfl) ⟨Nat.le_of_ble_eq_true rfl, Nat.le_of_ble_eq_true rfl⟩ dX3_time_44 (fun ws_ H locs hΦ hP hz_ hk_ hS => ?_)
        obtain ⟨i_4, φ_4, fr_4, lv_4, hE_4, rfl⟩ := hΦ
        replace hD : va_D (inW (wX ad cI cJ n st hr ca pcs fr lv k ts th sp hv pr hc)) (wX ad cI cJ n st hr ca (((i_4 : Int) + 1)) fr_4 lv_4 k ts th sp hv pr hc) := hD.same rfl
        refine lv_aload_n (pc := 47) hx hb dX3_time_47 rfl (lv_at hl 0 rfl) ?_
        refine va_get (D := D) (cl := vwCl) (ci := 3) (v := .ref (ad 2)) (C := RX3) (T := TX3) (N := 7) (pc := 48) hx hb hT inT3 hown hK.1 hP 0 rfl rfl 1 (by decide) (hT _ tw_76) (fun _ h9 => h9) rfl dX3_time_48 ?_
        refine lv_iload_n (pc := 51) hx hb dX3_time_51 rfl (lv_at hl 3 rfl) ?_
        refine lv_iload (pc := 52) hx hb dX3_time_52 (lv_at hl 4 rfl) ?_
        refine rd_V (pc := 54) hx hb hml hown hT hK (c_X0_firstAtMost D cI cJ l ad n st hr ca (((i_4 : Int) + 1)) fr_4 lv_4 k ts th sp hv pr hc (FF n st hr ca S b) (RR n st hr S) (ST_of hU _ _) i_4 φ_4 hE_4 rfl (x) (y) (by omega)) ca_X0_firstAtMost tw_207 hP 2 0 rfl rfl rfl ⟨Nat.le_of_ble_eq_true rfl, Nat.le_of_ble_eq_true rfl⟩ rfl hl.1 (As := [.int (zi (x)), .int (zi (y))]) (rest := []) rfl (Nat.le_of_ble_eq_true rfl) ⟨Nat.le_of_ble_eq_true rfl, Nat.le_of_ble_eq_true rfl⟩ dX3_time_54 ?_
        exact wr_iret hx hb hrt hlk dX3_time_57 hP hS (⟨by rw [timeV, if_pos (by omega)], _, _, _, rfl⟩)
      · refine z_sipush (pc := 30) hx hb dX3_time_30 (by decide) ?_
        exact wr_iret hx hb hrt hlk dX3_time_33 hP hS (⟨by rw [timeV, if_neg (by omega)], pcs, fr, lv, rfl⟩)

set_option maxHeartbeats 4000000 in
set_option maxRecDepth 100000 in
theorem c_X3_mean (D : va_G) (cI cJ : ClassId) (l : Launch) (ad : Nat → Nat) (n : Int) (st hr ca : Nat → Int) (pcs : Int) (fr lv : Nat → Int) (k : Int) (ts th sp hv : Nat → Int) (pr hc : Int) (hU : VU n st hr ca) (S : Int) (r_S : -2147483648 ≤ S ∧ S ≤ 2147483647) (b : Int) (r_b : -2147483648 ≤ b ∧ b ≤ 2147483647) (h : Int) (r_h : -2147483648 ≤ h ∧ h ≤ 2147483647) (w : Int) (r_w : -2147483648 ≤ w ∧ w ≤ 2147483647) : WR D cI cJ l yX3_mean cX3_mean 5 (some .long) 4 95 [.ref (ad 0), .int (zi (S)), .int (zi (b)), .int (zi (h)), .int (zi (w))] (wX ad cI cJ n st hr ca pcs fr lv k ts th sp hv pr hc) (fun v' ws' => v' = .long (zj (meanV n st hr ca S b h w)) ∧ ∃ (pcs' : Int) (fr' lv' : Nat → Int), ws' = (wX ad cI cJ n st hr ca pcs' fr' lv' k ts th sp hv pr hc)) := by
  refine WR.of (by decide) (Nat.le_of_ble_eq_true rfl) ?_
  intro p e s m args below meth c hx hb hrt hml hown hT hlk hK hP hD hS ls hl
  replace hl : lv_has ls 5 [(0, .ref (ad 0)), (1, .int (zi (S))), (2, .int (zi (b))), (3, .int (zi (h))), (4, .int (zi (w)))] := hl
  refine lv_iload_n (pc := 0) hx hb dX3_mean_0 rfl (lv_at hl 1 rfl) ?_
  refine lv_iload_n (pc := 1) hx hb dX3_mean_1 rfl (lv_at hl 2 rfl) ?_
  refine rd_S (pc := 2) hx hb hml hown hT hK (c_X3_isSetByCause D cI cJ l (S) (by omega) (b) (by omega)) ca_X3_isSetByCause tw_164 va_Pnil ⟨Nat.le_of_ble_eq_true rfl, Nat.le_of_ble_eq_true rfl⟩ rfl hl.1 (As := [.int (zi (S)), .int (zi (b))]) (rest := []) rfl (Nat.le_of_ble_eq_true rfl) ⟨Nat.le_of_ble_eq_true rfl, Nat.le_of_ble_eq_true rfl⟩ dX3_mean_2 ?_
  refine z_ifB_eq (tgt := 29) (pc := 5) hx hb dX3_mean_5 (by decide) (fun c_1 => ?_) (fun c_1 => ?_)
  · refine z_ldc2 (pc := 29) hx hb (-1002) hown (hT _ tw_167) (by decide) dX3_mean_29 ?_
    exact wr_lret hx hb hrt hlk dX3_mean_32 hP hS (⟨by rw [meanV, if_neg (by omega)], pcs, fr, lv, rfl⟩)
  · refine lv_iload_n (pc := 8) hx hb dX3_mean_8 rfl (lv_at hl 3 rfl) ?_
    refine z_iconst (pc := 9) hx hb dX3_mean_9 ?_
    refine z_sipush (pc := 10) hx hb dX3_mean_10 (by decide) ?_
    refine rd_S (pc := 13) hx hb hml hown hT hK (c_X3_isWithin D cI cJ l (h) (by omega) (1) (by omega) (500) (by omega)) ca_X3_isWithin tw_107 va_Pnil ⟨Nat.le_of_ble_eq_true rfl, Nat.le_of_ble_eq_true rfl⟩ rfl hl.1 (As := [.int (zi (h)), .int (zi (1)), .int (zi (500))]) (rest := []) rfl (Nat.le_of_ble_eq_true rfl) ⟨Nat.le_of_ble_eq_true rfl, Nat.le_of_ble_eq_true rfl⟩ dX3_mean_13 ?_
    refine z_ifB_eq (tgt := 29) (pc := 16) hx hb dX3_mean_16 (by decide) (fun c_2 => ?_) (fun c_2 => ?_)
    · refine z_ldc2 (pc := 29) hx hb (-1002) hown (hT _ tw_167) (by decide) dX3_mean_29 ?_
      exact wr_lret hx hb hrt hlk dX3_mean_32 hP hS (⟨by rw [meanV, if_neg (by omega)], pcs, fr, lv, rfl⟩)
    · refine lv_iload (pc := 19) hx hb dX3_mean_19 (lv_at hl 4 rfl) ?_
      refine z_iconst (pc := 21) hx hb dX3_mean_21 ?_
      refine z_iconst (pc := 22) hx hb dX3_mean_22 ?_
      refine rd_S (pc := 23) hx hb hml hown hT hK (c_X3_isWithin D cI cJ l (w) (by omega) (0) (by omega) (1) (by omega)) ca_X3_isWithin tw_107 va_Pnil ⟨Nat.le_of_ble_eq_true rfl, Nat.le_of_ble_eq_true rfl⟩ rfl hl.1 (As := [.int (zi (w)), .int (zi (0)), .int (zi (1))]) (rest := []) rfl (Nat.le_of_ble_eq_true rfl) ⟨Nat.le_of_ble_eq_true rfl, Nat.le_of_ble_eq_true rfl⟩ dX3_mean_23 ?_
      refine z_ifB_ne (tgt := 33) (pc := 26) hx hb dX3_mean_26 (by decide) (fun c_3 => ?_) (fun c_3 => ?_)
      · refine lv_aload_n (pc := 33) hx hb dX3_mean_33 rfl (lv_at hl 0 rfl) ?_
        refine va_get (D := D) (cl := vwCl) (ci := 3) (v := .ref (ad 2)) (C := RX3) (T := TX3) (N := 7) (pc := 34) hx hb hT inT3 hown hK.1 hP 0 rfl rfl 1 (by decide) (hT _ tw_76) (fun _ h9 => h9) rfl dX3_mean_34 ?_
        refine lv_aload_n (pc := 37) hx hb dX3_mean_37 rfl (lv_at hl 0 rfl) ?_
        refine va_get (D := D) (cl := vwCl) (ci := 3) (v := .ref (ad 1)) (C := RX3) (T := TX3) (N := 7) (pc := 38) hx hb hT inT3 hown hK.1 hP 0 rfl rfl 0 (by decide) (hT _ tw_75) (fun _ h9 => h9) rfl dX3_mean_38 ?_
        refine lv_iload_n (pc := 41) hx hb dX3_mean_41 rfl (lv_at hl 1 rfl) ?_
        refine lv_iload_n (pc := 42) hx hb dX3_mean_42 rfl (lv_at hl 2 rfl) ?_
        refine wv_V (pc := 43) hx hb hml hown hT hK (c_X0_look D cI cJ l ad n st hr ca pcs fr lv k ts th sp hv pr hc hU (S) (by omega) (b) (by omega)) ca_X0_look tw_168 hP hD hS (fun q h => inW_same (by rfl) h) 2 0 rfl rfl rfl ⟨Nat.le_of_ble_eq_true rfl, Nat.le_of_ble_eq_true rfl⟩ rfl hl.1 (As := [.ref (ad 1), .int (zi (S)), .int (zi (b))]) (rest := []) rfl (Nat.le_of_ble_eq_true rfl) ⟨Nat.le_of_ble_eq_true rfl, Nat.le_of_ble_eq_true rfl⟩ dX3_mean_43 (fun ws_ H locs hΦ hP hz_ hk_ hS => ?_)
        obtain ⟨i_4, φ_4, fr_4, lv_4, hE_4, rfl⟩ := hΦ
        replace hD : va_D (inW (wX ad cI cJ n st hr ca pcs fr lv k ts th sp hv pr hc)) (wX ad cI cJ n st hr ca (((i_4 : Int) + 1)) fr_4 lv_4 k ts th sp hv pr hc) := hD.same rfl
        refine lv_aload_n (pc := 46) hx hb dX3_mean_46 rfl (lv_at hl 0 rfl) ?_
        refine va_get (D := D) (cl := vwCl) (ci := 3) (v := .ref (ad 2)) (C := RX3) (T := TX3) (N := 7) (pc := 47) hx hb hT inT3 hown hK.1 hP 0 rfl rfl 1 (by decide) (hT _ tw_76) (fun _ h9 => h9) rfl dX3_mean_47 ?_
        refine z_iconst (pc := 50) hx hb dX3_mean_50 ?_
        refine lv_iload_n (pc := 51) hx hb dX3_mean_51 rfl (lv_at hl 3 rfl) ?_
        have hs := ST_of hU S b
        have hl1 := sum_rng hs (B := 0) (E := h.toNat) (by omega)
        have hl0 := lev_0 hs
        refine rd_V (pc := 52) hx hb hml hown hT hK (c_X0_sumOf D cI cJ l ad n st hr ca (((i_4 : Int) + 1)) fr_4 lv_4 k ts th sp hv pr hc (FF n st hr ca S b) (RR n st hr S) (ST_of hU _ _) i_4 φ_4 hE_4 rfl (0) (h) 0 h.toNat (by omega) (by omega) (by omega)) ca_X0_sumOf tw_216 hP 2 0 rfl rfl rfl ⟨Nat.le_of_ble_eq_true rfl, Nat.le_of_ble_eq_true rfl⟩ rfl hl.1 (As := [.int (zi (0)), .int (zi (h))]) (rest := []) rfl (Nat.le_of_ble_eq_true rfl) ⟨Nat.le_of_ble_eq_true rfl, Nat.le_of_ble_eq_true rfl⟩ dX3_mean_52 ?_
        refine lv_aload_n (pc := 55) hx hb dX3_mean_55 rfl (lv_at hl 0 rfl) ?_
        refine va_get (D := D) (cl := vwCl) (ci := 3) (v := .ref (ad 2)) (C := RX3) (T := TX3) (N := 7) (pc := 56) hx hb hT inT3 hown hK.1 hP 0 rfl rfl 1 (by decide) (hT _ tw_76) (fun _ h9 => h9) rfl dX3_mean_56 ?_
        refine rd_V (pc := 59) hx hb hml hown hT hK (c_X0_whole D cI cJ l ad n st hr ca (((i_4 : Int) + 1)) fr_4 lv_4 k ts th sp hv pr hc (FF n st hr ca S b) (RR n st hr S) (ST_of hU _ _) i_4 φ_4 hE_4 rfl) ca_X0_whole tw_193 hP 2 0 rfl rfl rfl ⟨Nat.le_of_ble_eq_true rfl, Nat.le_of_ble_eq_true rfl⟩ rfl hl.1 (As := []) (rest := [.long (zj ((sumL (lev (FF n st hr ca S b) (RR n st hr S)) 0 (h.toNat - 0) : Int)))]) rfl (Nat.le_of_ble_eq_true rfl) ⟨Nat.le_of_ble_eq_true rfl, Nat.le_of_ble_eq_true rfl⟩ dX3_mean_59 ?_
        refine lv_iload (pc := 62) hx hb dX3_mean_62 (lv_at hl 4 rfl) ?_
        refine rd_S (pc := 64) hx hb hml hown hT hK (c_X3_leastTerms D cI cJ l ((sumL (lev (FF n st hr ca S b) (RR n st hr S)) 0 (h.toNat - 0) : Int)) ((lev (FF n st hr ca S b) (RR n st hr S) 0 : Int)) (w) (sumL (lev (FF n st hr ca S b) (RR n st hr S)) 0 (h.toNat - 0)) (lev (FF n st hr ca S b) (RR n st hr S) 0) (by omega) (by omega) (by omega) (by omega)) ca_X3_leastTerms tw_197 va_Pnil ⟨Nat.le_of_ble_eq_true rfl, Nat.le_of_ble_eq_true rfl⟩ rfl hl.1 (As := [.long (zj ((sumL (lev (FF n st hr ca S b) (RR n st hr S)) 0 (h.toNat - 0) : Int))), .long (zj ((lev (FF n st hr ca S b) (RR n st hr S) 0 : Int))), .int (zi (w))]) (rest := []) rfl (Nat.le_of_ble_eq_true rfl) ⟨Nat.le_of_ble_eq_true rfl, Nat.le_of_ble_eq_true rfl⟩ dX3_mean_64 ?_
        exact wr_lret hx hb hrt hlk dX3_mean_67 hP hS (⟨congrArg (fun z => Value.long (zj z)) (if_pos (show okS S b ∧ (1 ≤ h ∧ h ≤ 500) ∧ (0 ≤ w ∧ w ≤ 1) by omega)).symm, _, _, _, rfl⟩)
      · refine z_ldc2 (pc := 29) hx hb (-1002) hown (hT _ tw_167) (by decide) dX3_mean_29 ?_
        exact wr_lret hx hb hrt hlk dX3_mean_32 hP hS (⟨by rw [meanV, if_neg (by omega)], pcs, fr, lv, rfl⟩)

set_option maxHeartbeats 4000000 in
set_option maxRecDepth 100000 in
theorem c_X3_rest (D : va_G) (cI cJ : ClassId) (l : Launch) (ad : Nat → Nat) (n : Int) (st hr ca : Nat → Int) (pcs : Int) (fr lv : Nat → Int) (k : Int) (ts th sp hv : Nat → Int) (pr hc : Int) (hU : VU n st hr ca) (S : Int) (r_S : -2147483648 ≤ S ∧ S ≤ 2147483647) (b : Int) (r_b : -2147483648 ≤ b ∧ b ≤ 2147483647) (x : Int) (r_x : -2147483648 ≤ x ∧ x ≤ 2147483647) (h : Int) (r_h : -2147483648 ≤ h ∧ h ≤ 2147483647) (w : Int) (r_w : -2147483648 ≤ w ∧ w ≤ 2147483647) : WR D cI cJ l yX3_rest cX3_rest 6 (some .long) 4 95 [.ref (ad 0), .int (zi (S)), .int (zi (b)), .int (zi (x)), .int (zi (h)), .int (zi (w))] (wX ad cI cJ n st hr ca pcs fr lv k ts th sp hv pr hc) (fun v' ws' => v' = .long (zj (restV n st hr ca S b x h w)) ∧ ∃ (pcs' : Int) (fr' lv' : Nat → Int), ws' = (wX ad cI cJ n st hr ca pcs' fr' lv' k ts th sp hv pr hc)) := by
  refine WR.of (by decide) (Nat.le_of_ble_eq_true rfl) ?_
  intro p e s m args below meth c hx hb hrt hml hown hT hlk hK hP hD hS ls hl
  replace hl : lv_has ls 6 [(0, .ref (ad 0)), (1, .int (zi (S))), (2, .int (zi (b))), (3, .int (zi (x))), (4, .int (zi (h))), (5, .int (zi (w)))] := hl
  refine lv_iload_n (pc := 0) hx hb dX3_rest_0 rfl (lv_at hl 1 rfl) ?_
  refine lv_iload_n (pc := 1) hx hb dX3_rest_1 rfl (lv_at hl 2 rfl) ?_
  refine rd_S (pc := 2) hx hb hml hown hT hK (c_X3_isSetByCause D cI cJ l (S) (by omega) (b) (by omega)) ca_X3_isSetByCause tw_164 va_Pnil ⟨Nat.le_of_ble_eq_true rfl, Nat.le_of_ble_eq_true rfl⟩ rfl hl.1 (As := [.int (zi (S)), .int (zi (b))]) (rest := []) rfl (Nat.le_of_ble_eq_true rfl) ⟨Nat.le_of_ble_eq_true rfl, Nat.le_of_ble_eq_true rfl⟩ dX3_rest_2 ?_
  refine z_ifB_eq (tgt := 42) (pc := 5) hx hb dX3_rest_5 (by decide) (fun c_1 => ?_) (fun c_1 => ?_)
  · refine z_ldc2 (pc := 42) hx hb (-1002) hown (hT _ tw_167) (by decide) dX3_rest_42 ?_
    exact wr_lret hx hb hrt hlk dX3_rest_45 hP hS (⟨by rw [restV, if_neg (by omega)], pcs, fr, lv, rfl⟩)
  · refine lv_iload (pc := 8) hx hb dX3_rest_8 (lv_at hl 4 rfl) ?_
    refine z_iconst (pc := 10) hx hb dX3_rest_10 ?_
    refine z_sipush (pc := 11) hx hb dX3_rest_11 (by decide) ?_
    refine rd_S (pc := 14) hx hb hml hown hT hK (c_X3_isWithin D cI cJ l (h) (by omega) (1) (by omega) (500) (by omega)) ca_X3_isWithin tw_107 va_Pnil ⟨Nat.le_of_ble_eq_true rfl, Nat.le_of_ble_eq_true rfl⟩ rfl hl.1 (As := [.int (zi (h)), .int (zi (1)), .int (zi (500))]) (rest := []) rfl (Nat.le_of_ble_eq_true rfl) ⟨Nat.le_of_ble_eq_true rfl, Nat.le_of_ble_eq_true rfl⟩ dX3_rest_14 ?_
    refine z_ifB_eq (tgt := 42) (pc := 17) hx hb dX3_rest_17 (by decide) (fun c_2 => ?_) (fun c_2 => ?_)
    · refine z_ldc2 (pc := 42) hx hb (-1002) hown (hT _ tw_167) (by decide) dX3_rest_42 ?_
      exact wr_lret hx hb hrt hlk dX3_rest_45 hP hS (⟨by rw [restV, if_neg (by omega)], pcs, fr, lv, rfl⟩)
    · refine lv_iload_n (pc := 20) hx hb dX3_rest_20 rfl (lv_at hl 3 rfl) ?_
      refine z_iconst (pc := 21) hx hb dX3_rest_21 ?_
      refine lv_iload (pc := 22) hx hb dX3_rest_22 (lv_at hl 4 rfl) ?_
      refine z_iconst (pc := 24) hx hb dX3_rest_24 ?_
      refine z_isub (pc := 25) hx hb dX3_rest_25 ?_
      refine rd_S (pc := 26) hx hb hml hown hT hK (c_X3_isWithin D cI cJ l (x) (by omega) (0) (by omega) ((h - 1)) (by omega)) ca_X3_isWithin tw_107 va_Pnil ⟨Nat.le_of_ble_eq_true rfl, Nat.le_of_ble_eq_true rfl⟩ rfl hl.1 (As := [.int (zi (x)), .int (zi (0)), .int (zi ((h - 1)))]) (rest := []) rfl (Nat.le_of_ble_eq_true rfl) ⟨Nat.le_of_ble_eq_true rfl, Nat.le_of_ble_eq_true rfl⟩ dX3_rest_26 ?_
      refine z_ifB_eq (tgt := 42) (pc := 29) hx hb dX3_rest_29 (by decide) (fun c_3 => ?_) (fun c_3 => ?_)
      · refine z_ldc2 (pc := 42) hx hb (-1002) hown (hT _ tw_167) (by decide) dX3_rest_42 ?_
        exact wr_lret hx hb hrt hlk dX3_rest_45 hP hS (⟨by rw [restV, if_neg (by omega)], pcs, fr, lv, rfl⟩)
      · refine lv_iload (pc := 32) hx hb dX3_rest_32 (lv_at hl 5 rfl) ?_
        refine z_iconst (pc := 34) hx hb dX3_rest_34 ?_
        refine z_iconst (pc := 35) hx hb dX3_rest_35 ?_
        refine rd_S (pc := 36) hx hb hml hown hT hK (c_X3_isWithin D cI cJ l (w) (by omega) (0) (by omega) (1) (by omega)) ca_X3_isWithin tw_107 va_Pnil ⟨Nat.le_of_ble_eq_true rfl, Nat.le_of_ble_eq_true rfl⟩ rfl hl.1 (As := [.int (zi (w)), .int (zi (0)), .int (zi (1))]) (rest := []) rfl (Nat.le_of_ble_eq_true rfl) ⟨Nat.le_of_ble_eq_true rfl, Nat.le_of_ble_eq_true rfl⟩ dX3_rest_36 ?_
        refine z_ifB_ne (tgt := 46) (pc := 39) hx hb dX3_rest_39 (by decide) (fun c_4 => ?_) (fun c_4 => ?_)
        · refine lv_aload_n (pc := 46) hx hb dX3_rest_46 rfl (lv_at hl 0 rfl) ?_
          refine va_get (D := D) (cl := vwCl) (ci := 3) (v := .ref (ad 2)) (C := RX3) (T := TX3) (N := 7) (pc := 47) hx hb hT inT3 hown hK.1 hP 0 rfl rfl 1 (by decide) (hT _ tw_76) (fun _ h9 => h9) rfl dX3_rest_47 ?_
          refine lv_aload_n (pc := 50) hx hb dX3_rest_50 rfl (lv_at hl 0 rfl) ?_
          refine va_get (D := D) (cl := vwCl) (ci := 3) (v := .ref (ad 1)) (C := RX3) (T := TX3) (N := 7) (pc := 51) hx hb hT inT3 hown hK.1 hP 0 rfl rfl 0 (by decide) (hT _ tw_75) (fun _ h9 => h9) rfl dX3_rest_51 ?_
          refine lv_iload_n (pc := 54) hx hb dX3_rest_54 rfl (lv_at hl 1 rfl) ?_
          refine lv_iload_n (pc := 55) hx hb dX3_rest_55 rfl (lv_at hl 2 rfl) ?_
          refine wv_V (pc := 56) hx hb hml hown hT hK (c_X0_look D cI cJ l ad n st hr ca pcs fr lv k ts th sp hv pr hc hU (S) (by omega) (b) (by omega)) ca_X0_look tw_168 hP hD hS (fun q h => inW_same (by rfl) h) 2 0 rfl rfl rfl ⟨Nat.le_of_ble_eq_true rfl, Nat.le_of_ble_eq_true rfl⟩ rfl hl.1 (As := [.ref (ad 1), .int (zi (S)), .int (zi (b))]) (rest := []) rfl (Nat.le_of_ble_eq_true rfl) ⟨Nat.le_of_ble_eq_true rfl, Nat.le_of_ble_eq_true rfl⟩ dX3_rest_56 (fun ws_ H locs hΦ hP hz_ hk_ hS => ?_)
          obtain ⟨i_5, φ_5, fr_5, lv_5, hE_5, rfl⟩ := hΦ
          replace hD : va_D (inW (wX ad cI cJ n st hr ca pcs fr lv k ts th sp hv pr hc)) (wX ad cI cJ n st hr ca (((i_5 : Int) + 1)) fr_5 lv_5 k ts th sp hv pr hc) := hD.same rfl
          refine lv_aload_n (pc := 59) hx hb dX3_rest_59 rfl (lv_at hl 0 rfl) ?_
          refine va_get (D := D) (cl := vwCl) (ci := 3) (v := .ref (ad 2)) (C := RX3) (T := TX3) (N := 7) (pc := 60) hx hb hT inT3 hown hK.1 hP 0 rfl rfl 1 (by decide) (hT _ tw_76) (fun _ h9 => h9) rfl dX3_rest_60 ?_
          refine lv_iload_n (pc := 63) hx hb dX3_rest_63 rfl (lv_at hl 3 rfl) ?_
          have hs := ST_of hU S b
          have hl1 := sum_rng hs (B := x.toNat) (E := h.toNat) (by omega)
          have hl0 := lev_rng hs (t := x.toNat) (by omega)
          refine rd_V (pc := 64) hx hb hml hown hT hK (c_X0_levelAt D cI cJ l ad n st hr ca (((i_5 : Int) + 1)) fr_5 lv_5 k ts th sp hv pr hc (FF n st hr ca S b) (RR n st hr S) (ST_of hU _ _) i_5 φ_5 hE_5 rfl (x) x.toNat (by omega) (by omega)) ca_X0_levelAt tw_189 hP 2 0 rfl rfl rfl ⟨Nat.le_of_ble_eq_true rfl, Nat.le_of_ble_eq_true rfl⟩ rfl hl.1 (As := [.int (zi (x))]) (rest := []) rfl (Nat.le_of_ble_eq_true rfl) ⟨Nat.le_of_ble_eq_true rfl, Nat.le_of_ble_eq_true rfl⟩ dX3_rest_64 ?_
          refine z_lconst0 (pc := 67) hx hb dX3_rest_67 ?_
          refine z_lcmp_ne (tgt := 76) (pc := 68) hx hb dX3_rest_68 dX3_rest_69 (by decide) (by omega) (by omega) (fun c_6 => ?_) (fun c_6 => ?_)
          · refine lv_aload_n (pc := 76) hx hb dX3_rest_76 rfl (lv_at hl 0 rfl) ?_
            refine va_get (D := D) (cl := vwCl) (ci := 3) (v := .ref (ad 2)) (C := RX3) (T := TX3) (N := 7) (pc := 77) hx hb hT inT3 hown hK.1 hP 0 rfl rfl 1 (by decide) (hT _ tw_76) (fun _ h9 => h9) rfl dX3_rest_77 ?_
            refine lv_iload_n (pc := 80) hx hb dX3_rest_80 rfl (lv_at hl 3 rfl) ?_
            refine lv_iload (pc := 81) hx hb dX3_rest_81 (lv_at hl 4 rfl) ?_
            refine rd_V (pc := 83) hx hb hml hown hT hK (c_X0_sumOf D cI cJ l ad n st hr ca (((i_5 : Int) + 1)) fr_5 lv_5 k ts th sp hv pr hc (FF n st hr ca S b) (RR n st hr S) (ST_of hU _ _) i_5 φ_5 hE_5 rfl (x) (h) x.toNat h.toNat (by omega) (by omega) (by omega)) ca_X0_sumOf tw_216 hP 2 0 rfl rfl rfl ⟨Nat.le_of_ble_eq_true rfl, Nat.le_of_ble_eq_true rfl⟩ rfl hl.1 (As := [.int (zi (x)), .int (zi (h))]) (rest := []) rfl (Nat.le_of_ble_eq_true rfl) ⟨Nat.le_of_ble_eq_true rfl, Nat.le_of_ble_eq_true rfl⟩ dX3_rest_83 ?_
            refine lv_aload_n (pc := 86) hx hb dX3_rest_86 rfl (lv_at hl 0 rfl) ?_
            refine va_get (D := D) (cl := vwCl) (ci := 3) (v := .ref (ad 2)) (C := RX3) (T := TX3) (N := 7) (pc := 87) hx hb hT inT3 hown hK.1 hP 0 rfl rfl 1 (by decide) (hT _ tw_76) (fun _ h9 => h9) rfl dX3_rest_87 ?_
            refine lv_iload_n (pc := 90) hx hb dX3_rest_90 rfl (lv_at hl 3 rfl) ?_
            refine rd_V (pc := 91) hx hb hml hown hT hK (c_X0_levelAt D cI cJ l ad n st hr ca (((i_5 : Int) + 1)) fr_5 lv_5 k ts th sp hv pr hc (FF n st hr ca S b) (RR n st hr S) (ST_of hU _ _) i_5 φ_5 hE_5 rfl (x) x.toNat (by omega) (by omega)) ca_X0_levelAt tw_189 hP 2 0 rfl rfl rfl ⟨Nat.le_of_ble_eq_true rfl, Nat.le_of_ble_eq_true rfl⟩ rfl hl.1 (As := [.int (zi (x))]) (rest := [.long (zj ((sumL (lev (FF n st hr ca S b) (RR n st hr S)) x.toNat (h.toNat - x.toNat) : Int)))]) rfl (Nat.le_of_ble_eq_true rfl) ⟨Nat.le_of_ble_eq_true rfl, Nat.le_of_ble_eq_true rfl⟩ dX3_rest_91 ?_
            refine lv_iload (pc := 94) hx hb dX3_rest_94 (lv_at hl 5 rfl) ?_
            refine rd_S (pc := 96) hx hb hml hown hT hK (c_X3_leastTerms D cI cJ l ((sumL (lev (FF n st hr ca S b) (RR n st hr S)) x.toNat (h.toNat - x.toNat) : Int)) ((lev (FF n st hr ca S b) (RR n st hr S) x.toNat : Int)) (w) (sumL (lev (FF n st hr ca S b) (RR n st hr S)) x.toNat (h.toNat - x.toNat)) (lev (FF n st hr ca S b) (RR n st hr S) x.toNat) (by omega) (by omega) (by omega) (by omega)) ca_X3_leastTerms tw_197 va_Pnil ⟨Nat.le_of_ble_eq_true rfl, Nat.le_of_ble_eq_true rfl⟩ rfl hl.1 (As := [.long (zj ((sumL (lev (FF n st hr ca S b) (RR n st hr S)) x.toNat (h.toNat - x.toNat) : Int))), .long (zj ((lev (FF n st hr ca S b) (RR n st hr S) x.toNat : Int))), .int (zi (w))]) (rest := []) rfl (Nat.le_of_ble_eq_true rfl) ⟨Nat.le_of_ble_eq_true rfl, Nat.le_of_ble_eq_true rfl⟩ dX3_rest_96 ?_
            exact wr_lret hx hb hrt hlk dX3_rest_99 hP hS (⟨congrArg (fun z => Value.long (zj z)) ((if_pos (show okS S b ∧ (1 ≤ h ∧ h ≤ 500) ∧ (0 ≤ x ∧ x ≤ h - 1) ∧ (0 ≤ w ∧ w ≤ 1) by omega)).trans (if_neg (show ¬ lev (FF n st hr ca S b) (RR n st hr S) x.toNat = 0 by omega))).symm, _, _, _, rfl⟩)
          · refine z_ldc2 (pc := 72) hx hb (-1003) hown (hT _ tw_230) (by decide) dX3_rest_72 ?_
            exact wr_lret hx hb hrt hlk dX3_rest_75 hP hS (⟨by rw [restV, if_pos (by omega), if_pos (by omega)], _, _, _, rfl⟩)
        · refine z_ldc2 (pc := 42) hx hb (-1002) hown (hT _ tw_167) (by decide) dX3_rest_42 ?_
          exact wr_lret hx hb hrt hlk dX3_rest_45 hP hS (⟨by rw [restV, if_neg (by omega)], pcs, fr, lv, rfl⟩)

set_option maxHeartbeats 4000000 in
set_option maxRecDepth 100000 in
theorem c_X3_runIn (D : va_G) (cI cJ : ClassId) (l : Launch) (ad : Nat → Nat) (n : Int) (st hr ca : Nat → Int) (pcs : Int) (fr lv : Nat → Int) (k : Int) (ts th sp hv : Nat → Int) (pr hc : Int) (hU : VU n st hr ca) (S : Int) (r_S : -2147483648 ≤ S ∧ S ≤ 2147483647) (b : Int) (r_b : -2147483648 ≤ b ∧ b ≤ 2147483647) (h : Int) (r_h : -2147483648 ≤ h ∧ h ≤ 2147483647) (q : Int) (r_q : -2147483648 ≤ q ∧ q ≤ 2147483647) : WR D cI cJ l yX3_runIn cX3_runIn 5 (some .int) 4 95 [.ref (ad 0), .int (zi (S)), .int (zi (b)), .int (zi (h)), .int (zi (q))] (wX ad cI cJ n st hr ca pcs fr lv k ts th sp hv pr hc) (fun v' ws' => v' = .int (zi (runInV n st hr ca S b h q)) ∧ ∃ (pcs' : Int) (fr' lv' : Nat → Int), ws' = (wX ad cI cJ n st hr ca pcs' fr' lv' k ts th sp hv pr hc)) := by
  refine WR.of (by decide) (Nat.le_of_ble_eq_true rfl) ?_
  intro p e s m args below meth c hx hb hrt hml hown hT hlk hK hP hD hS ls hl
  replace hl : lv_has ls 5 [(0, .ref (ad 0)), (1, .int (zi (S))), (2, .int (zi (b))), (3, .int (zi (h))), (4, .int (zi (q)))] := hl
  refine lv_iload_n (pc := 0) hx hb dX3_runIn_0 rfl (lv_at hl 1 rfl) ?_
  refine lv_iload_n (pc := 1) hx hb dX3_runIn_1 rfl (lv_at hl 2 rfl) ?_
  refine rd_S (pc := 2) hx hb hml hown hT hK (c_X3_isSetByCause D cI cJ l (S) (by omega) (b) (by omega)) ca_X3_isSetByCause tw_164 va_Pnil ⟨Nat.le_of_ble_eq_true rfl, Nat.le_of_ble_eq_true rfl⟩ rfl hl.1 (As := [.int (zi (S)), .int (zi (b))]) (rest := []) rfl (Nat.le_of_ble_eq_true rfl) ⟨Nat.le_of_ble_eq_true rfl, Nat.le_of_ble_eq_true rfl⟩ dX3_runIn_2 ?_
  refine z_ifB_eq (tgt := 30) (pc := 5) hx hb dX3_runIn_5 (by decide) (fun c_1 => ?_) (fun c_1 => ?_)
  · refine z_sipush (pc := 30) hx hb dX3_runIn_30 (by decide) ?_
    exact wr_iret hx hb hrt hlk dX3_runIn_33 hP hS (⟨by rw [runInV, if_neg (by omega)], pcs, fr, lv, rfl⟩)
  · refine lv_iload_n (pc := 8) hx hb dX3_runIn_8 rfl (lv_at hl 3 rfl) ?_
    refine z_iconst (pc := 9) hx hb dX3_runIn_9 ?_
    refine z_sipush (pc := 10) hx hb dX3_runIn_10 (by decide) ?_
    refine rd_S (pc := 13) hx hb hml hown hT hK (c_X3_isWithin D cI cJ l (h) (by omega) (1) (by omega) (500) (by omega)) ca_X3_isWithin tw_107 va_Pnil ⟨Nat.le_of_ble_eq_true rfl, Nat.le_of_ble_eq_true rfl⟩ rfl hl.1 (As := [.int (zi (h)), .int (zi (1)), .int (zi (500))]) (rest := []) rfl (Nat.le_of_ble_eq_true rfl) ⟨Nat.le_of_ble_eq_true rfl, Nat.le_of_ble_eq_true rfl⟩ dX3_runIn_13 ?_
    refine z_ifB_eq (tgt := 30) (pc := 16) hx hb dX3_runIn_16 (by decide) (fun c_2 => ?_) (fun c_2 => ?_)
    · refine z_sipush (pc := 30) hx hb dX3_runIn_30 (by decide) ?_
      exact wr_iret hx hb hrt hlk dX3_runIn_33 hP hS (⟨by rw [runInV, if_neg (by omega)], pcs, fr, lv, rfl⟩)
    · refine lv_iload (pc := 19) hx hb dX3_runIn_19 (lv_at hl 4 rfl) ?_
      refine z_iconst (pc := 21) hx hb dX3_runIn_21 ?_
      refine z_bipush (pc := 22) hx hb dX3_runIn_22 (by decide) ?_
      refine rd_S (pc := 24) hx hb hml hown hT hK (c_X3_isWithin D cI cJ l (q) (by omega) (0) (by omega) (100) (by omega)) ca_X3_isWithin tw_107 va_Pnil ⟨Nat.le_of_ble_eq_true rfl, Nat.le_of_ble_eq_true rfl⟩ rfl hl.1 (As := [.int (zi (q)), .int (zi (0)), .int (zi (100))]) (rest := []) rfl (Nat.le_of_ble_eq_true rfl) ⟨Nat.le_of_ble_eq_true rfl, Nat.le_of_ble_eq_true rfl⟩ dX3_runIn_24 ?_
      refine z_ifB_ne (tgt := 34) (pc := 27) hx hb dX3_runIn_27 (by decide) (fun c_3 => ?_) (fun c_3 => ?_)
      · refine lv_aload_n (pc := 34) hx hb dX3_runIn_34 rfl (lv_at hl 0 rfl) ?_
        refine va_get (D := D) (cl := vwCl) (ci := 3) (v := .ref (ad 2)) (C := RX3) (T := TX3) (N := 7) (pc := 35) hx hb hT inT3 hown hK.1 hP 0 rfl rfl 1 (by decide) (hT _ tw_76) (fun _ h9 => h9) rfl dX3_runIn_35 ?_
        refine lv_aload_n (pc := 38) hx hb dX3_runIn_38 rfl (lv_at hl 0 rfl) ?_
        refine va_get (D := D) (cl := vwCl) (ci := 3) (v := .ref (ad 1)) (C := RX3) (T := TX3) (N := 7) (pc := 39) hx hb hT inT3 hown hK.1 hP 0 rfl rfl 0 (by decide) (hT _ tw_75) (fun _ h9 => h9) rfl dX3_runIn_39 ?_
        refine lv_iload_n (pc := 42) hx hb dX3_runIn_42 rfl (lv_at hl 1 rfl) ?_
        refine lv_iload_n (pc := 43) hx hb dX3_runIn_43 rfl (lv_at hl 2 rfl) ?_
        refine wv_V (pc := 44) hx hb hml hown hT hK (c_X0_look D cI cJ l ad n st hr ca pcs fr lv k ts th sp hv pr hc hU (S) (by omega) (b) (by omega)) ca_X0_look tw_168 hP hD hS (fun q h => inW_same (by rfl) h) 2 0 rfl rfl rfl ⟨Nat.le_of_ble_eq_true rfl, Nat.le_of_ble_eq_true rfl⟩ rfl hl.1 (As := [.ref (ad 1), .int (zi (S)), .int (zi (b))]) (rest := []) rfl (Nat.le_of_ble_eq_true rfl) ⟨Nat.le_of_ble_eq_true rfl, Nat.le_of_ble_eq_true rfl⟩ dX3_runIn_44 (fun ws_ H locs hΦ hP hz_ hk_ hS => ?_)
        obtain ⟨i_4, φ_4, fr_4, lv_4, hE_4, rfl⟩ := hΦ
        replace hD : va_D (inW (wX ad cI cJ n st hr ca pcs fr lv k ts th sp hv pr hc)) (wX ad cI cJ n st hr ca (((i_4 : Int) + 1)) fr_4 lv_4 k ts th sp hv pr hc) := hD.same rfl
        refine lv_aload_n (pc := 47) hx hb dX3_runIn_47 rfl (lv_at hl 0 rfl) ?_
        refine va_get (D := D) (cl := vwCl) (ci := 3) (v := .ref (ad 2)) (C := RX3) (T := TX3) (N := 7) (pc := 48) hx hb hT inT3 hown hK.1 hP 0 rfl rfl 1 (by decide) (hT _ tw_76) (fun _ h9 => h9) rfl dX3_runIn_48 ?_
        refine lv_iload_n (pc := 51) hx hb dX3_runIn_51 rfl (lv_at hl 3 rfl) ?_
        refine lv_iload (pc := 52) hx hb dX3_runIn_52 (lv_at hl 4 rfl) ?_
        refine rd_V (pc := 54) hx hb hml hown hT hK (c_X0_bestRunIn D cI cJ l ad n st hr ca (((i_4 : Int) + 1)) fr_4 lv_4 k ts th sp hv pr hc (FF n st hr ca S b) (RR n st hr S) (ST_of hU _ _) i_4 φ_4 hE_4 rfl (h) (q) h.toNat (by omega) (by omega) (by omega)) ca_X0_bestRunIn tw_235 hP 2 0 rfl rfl rfl ⟨Nat.le_of_ble_eq_true rfl, Nat.le_of_ble_eq_true rfl⟩ rfl hl.1 (As := [.int (zi (h)), .int (zi (q))]) (rest := []) rfl (Nat.le_of_ble_eq_true rfl) ⟨Nat.le_of_ble_eq_true rfl, Nat.le_of_ble_eq_true rfl⟩ dX3_runIn_54 ?_
        exact wr_iret hx hb hrt hlk dX3_runIn_57 hP hS (⟨by rw [runInV, if_pos (by omega)], _, _, _, rfl⟩)
      · refine z_sipush (pc := 30) hx hb dX3_runIn_30 (by decide) ?_
        exact wr_iret hx hb hrt hlk dX3_runIn_33 hP hS (⟨by rw [runInV, if_neg (by omega)], pcs, fr, lv, rfl⟩)
end
section
/-- the HOURS of half, STRESS by STRESS -/
def hvF (n : Int) (st hr ca : Nat → Int) (k : Nat) : Int := timeF (tmT (FF n st hr ca (1 * 2 ^ k) (-1)) (RR n st hr (1 * 2 ^ k)) 1 2) 501
theorem hvF_rng (n : Int) (st hr ca : Nat → Int) (k : Nat) : -1 ≤ hvF n st hr ca k ∧ hvF n st hr ca k ≤ 500 := timeF_rng 501
theorem pow4 : ∀ k : Fin 4, (1 : Int) * 2 ^ k.val ≤ 8 ∧ (1 : Int) ≤ 1 * 2 ^ k.val := by decide
def fndI (H : Nat → Int) : Nat → Int
  | 0 => 0
  | u + 1 => if fndI H u = 0 then (if H u = -1 then 0 else 1) else 1
theorem fndI_rng (H : Nat → Int) : ∀ u, fndI H u = 0 ∨ fndI H u = 1
  | 0 => Or.inl rfl
  | u + 1 => by simp only [fndI]; split <;> (try split) <;> simp
def msZ (H : Nat → Int) (b s_ : Int) : Nat → Int
  | 0 => 0
  | u + 1 => msZ H b s_ u + (if H u = -1 then 0 else zabs (H u - saysZ b s_ u))
theorem msZ_rng {H : Nat → Int} (hH : ∀ j : Nat, -1 ≤ H j ∧ H j ≤ 500) {b s_ : Int} (hb : 0 ≤ b ∧ b ≤ 100000) (hs : 1 ≤ s_) : ∀ u : Nat, 0 ≤ msZ H b s_ u ∧ msZ H b s_ u ≤ 100501 * (u : Int)
  | 0 => by simp [msZ]
  | u + 1 => by
    have ih := msZ_rng hH hb hs u
    have h1 := hH u
    have h2 := saysZ_rng b s_ hb.1 hs u
    simp only [msZ]
    unfold zabs
    split
    · omega
    · split <;> omega
def LW (H : Nat → Int) (b0 d : Int) : Nat → Int × Int × Int
  | 0 => (b0, 1, msZ H b0 1 4)
  | m + 1 => if msZ H (b0 + ((m / 20 : Nat) : Int) * d) (((m % 20 : Nat) : Int) + 1) 4 < (LW H b0 d m).2.2 then (b0 + ((m / 20 : Nat) : Int) * d, ((m % 20 : Nat) : Int) + 1, msZ H (b0 + ((m / 20 : Nat) : Int) * d) (((m % 20 : Nat) : Int) + 1) 4) else LW H b0 d m
theorem LW_s (H : Nat → Int) (b0 d : Int) {u v : Nat} (hv : v < 20) : LW H b0 d (20 * u + v + 1) = if msZ H (b0 + (u : Int) * d) ((v : Int) + 1) 4 < (LW H b0 d (20 * u + v)).2.2 then (b0 + (u : Int) * d, (v : Int) + 1, msZ H (b0 + (u : Int) * d) ((v : Int) + 1) 4) else LW H b0 d (20 * u + v) := by
  conv => lhs; unfold LW
  rw [show (20 * u + v) / 20 = u by omega, show (20 * u + v) % 20 = v by omega]
def missV (n : Int) (st hr ca : Nat → Int) (b s_ : Int) : Int := if (1 ≤ b ∧ b ≤ 100000) ∧ (1 ≤ s_ ∧ s_ ≤ 20) then msZ (hvF n st hr ca) b s_ 4 else -1002
def lawV (n : Int) (st hr ca : Nat → Int) (b d w : Int) : Int := if ((1 ≤ b ∧ b ≤ 100000) ∧ (0 ≤ d ∧ d ≤ 1000)) ∧ b + 9 * d ≤ 100000 ∧ (0 ≤ w ∧ w ≤ 2) then (if fndI (hvF n st hr ca) 4 = 0 then -1003 else (if w = 0 then (LW (hvF n st hr ca) b d 200).1 else if w = 1 then (LW (hvF n st hr ca) b d 200).2.1 else (LW (hvF n st hr ca) b d 200).2.2)) else -1002
theorem fndI_c {H H' : Nat → Int} : ∀ u, (∀ j, j < u → H j = H' j) → fndI H u = fndI H' u
  | 0, _ => rfl
  | u + 1, h => by simp only [fndI]; rw [fndI_c u (fun j hj => h j (by omega)), h u (by omega)]

set_option maxHeartbeats 4000000 in
set_option maxRecDepth 100000 in
theorem c_X3_findHalves (D : va_G) (cI cJ : ClassId) (l : Launch) (ad : Nat → Nat) (n : Int) (st hr ca : Nat → Int) (pcs : Int) (fr lv : Nat → Int) (k : Int) (ts th sp hv : Nat → Int) (pr hc : Int) (hU : VU n st hr ca) : WR D cI cJ l yX3_findHalves cX3_findHalves 3 (some .boolean) 4 95 [.ref (ad 0)] (wX ad cI cJ n st hr ca pcs fr lv k ts th sp hv pr hc) (fun v' ws' => v' = .int (bI (¬ fndI (hvF n st hr ca) 4 = 0)) ∧ ∃ (pcs' : Int) (fr' lv' hv' : Nat → Int), (∀ j, j < 4 → hv' j = hvF n st hr ca j) ∧ ws' = (wX ad cI cJ n st hr ca pcs' fr' lv' k ts th sp hv' pr hc)) := by
  refine WR.of (by decide) (Nat.le_of_ble_eq_true rfl) ?_
  intro p e s m args below meth c hx hb hrt hml hown hT hlk hK hP hD hS ls hl
  replace hl : lv_has ls 3 [(0, .ref (ad 0))] := hl
  have loop : ∀ u : Nat, u ≤ 4 → ∀ (z1 z2 zp : Int), ∀ (fw : Nat → Int) (lw : Nat → Int) (hw : Nat → Int) (H : Heap) (locs : List Loc), (z1 = fndI (hvF n st hr ca) u) → (z2 = (u : Int)) → (∀ j, j < u → hw j = hvF n st hr ca j) → va_P D vwCl (wX ad cI cJ n st hr ca zp fw lw k ts th sp hw pr hc) H → va_D (inW (wX ad cI cJ n st hr ca pcs fr lv k ts th sp hv pr hc)) (wX ad cI cJ n st hr ca zp fw lw k ts th sp hw pr hc) → va_S (inW (wX ad cI cJ n st hr ca pcs fr lv k ts th sp hv pr hc)) s.heap H locs → ∀ ls : Array Slot, lv_has ls 3 [(0, .ref (ad 0)), (1, .int (zi (z1))), (2, .int (zi (z2)))] → W p l e (RM 4 95) s m args below meth c H locs 0 0 (MQ below (QW D (wX ad cI cJ n st hr ca pcs fr lv k ts th sp hv pr hc) (fun v' ws' => v' = .int (bI (¬ fndI (hvF n st hr ca) 4 = 0)) ∧ ∃ (pcs' : Int) (fr' lv' hv' : Nat → Int), (∀ j, j < 4 → hv' j = hvF n st hr ca j) ∧ ws' = (wX ad cI cJ n st hr ca pcs' fr' lv' k ts th sp hv' pr hc))) args s 0 0 (inW (wX ad cI cJ n st hr ca pcs fr lv k ts th sp hv pr hc))) (F0 m 4 ls []) := by
    refine lp_up (fun u => ∀ (z1 z2 zp : Int), ∀ (fw : Nat → Int) (lw : Nat → Int) (hw : Nat → Int) (H : Heap) (locs : List Loc), (z1 = fndI (hvF n st hr ca) u) → (z2 = (u : Int)) → (∀ j, j < u → hw j = hvF n st hr ca j) → va_P D vwCl (wX ad cI cJ n st hr ca zp fw lw k ts th sp hw pr hc) H → va_D (inW (wX ad cI cJ n st hr ca pcs fr lv k ts th sp hv pr hc)) (wX ad cI cJ n st hr ca zp fw lw k ts th sp hw pr hc) → va_S (inW (wX ad cI cJ n st hr ca pcs fr lv k ts th sp hv pr hc)) s.heap H locs → ∀ ls : Array Slot, lv_has ls 3 [(0, .ref (ad 0)), (1, .int (zi (z1))), (2, .int (zi (z2)))] → W p l e (RM 4 95) s m args below meth c H locs 0 0 (MQ below (QW D (wX ad cI cJ n st hr ca pcs fr lv k ts th sp hv pr hc) (fun v' ws' => v' = .int (bI (¬ fndI (hvF n st hr ca) 4 = 0)) ∧ ∃ (pcs' : Int) (fr' lv' hv' : Nat → Int), (∀ j, j < 4 → hv' j = hvF n st hr ca j) ∧ ws' = (wX ad cI cJ n st hr ca pcs' fr' lv' k ts th sp hv' pr hc))) args s 0 0 (inW (wX ad cI cJ n st hr ca pcs fr lv k ts th sp hv pr hc))) (F0 m 4 ls [])) (4) ?_ ?_
    · intro z1 z2 zp fw lw hw H locs e1 e2 e3 hP hD hS ls hl
      refine lv_iload_n (pc := 4) hx hb dX3_findHalves_4 rfl (lv_at hl 2 rfl) ?_
      refine z_iconst (pc := 5) hx hb dX3_findHalves_5 ?_
      refine z_icmp_ge (tgt := 65) (pc := 6) hx hb dX3_findHalves_6 (by decide) (by omega) (by omega) (fun c_1 => ?_) (fun c_1 => absurd c_1 (by omega))
      refine lv_iload_n (pc := 65) hx hb dX3_findHalves_65 rfl (lv_at hl 1 rfl) ?_
      have hfr := fndI_rng (hvF n st hr ca) 4
      have hzb : zi z1 = bI (¬ fndI (hvF n st hr ca) 4 = 0) := by
        rw [e1]
        rcases hfr with q | q
        · rw [q]; exact bI0 (fun h => h rfl)
        · rw [q]; exact bI1 (by omega)
      exact wr_zret (φ := ¬ fndI (hvF n st hr ca) 4 = 0) hx hb hrt hlk dX3_findHalves_66 hzb hP hS ⟨rfl, _, _, _, _, e3, rfl⟩
    · intro u hu ih z1 z2 zp fw lw hw H locs e1 e2 e3 hP hD hS ls hl
      refine lv_iload_n (pc := 4) hx hb dX3_findHalves_4 rfl (lv_at hl 2 rfl) ?_
      refine z_iconst (pc := 5) hx hb dX3_findHalves_5 ?_
      refine z_icmp_ge (tgt := 65) (pc := 6) hx hb dX3_findHalves_6 (by decide) (by omega) (by omega) (fun c_2 => absurd c_2 (by omega)) (fun c_2 => ?_)
      have ez : z2.toNat = u := by omega
      have hp4 := pow4 ⟨u, by omega⟩
      simp only at hp4
      rw [← ez] at hp4
      refine lv_aload_n (pc := 9) hx hb dX3_findHalves_9 rfl (lv_at hl 0 rfl) ?_
      refine va_get (D := D) (cl := vwCl) (ci := 3) (v := .ref (ad 2)) (C := RX3) (T := TX3) (N := 7) (pc := 10) hx hb hT inT3 hown hK.1 hP 0 rfl rfl 1 (by decide) (hT _ tw_76) (fun _ h9 => h9) rfl dX3_findHalves_10 ?_
      refine lv_aload_n (pc := 13) hx hb dX3_findHalves_13 rfl (lv_at hl 0 rfl) ?_
      refine va_get (D := D) (cl := vwCl) (ci := 3) (v := .ref (ad 1)) (C := RX3) (T := TX3) (N := 7) (pc := 14) hx hb hT inT3 hown hK.1 hP 0 rfl rfl 0 (by decide) (hT _ tw_75) (fun _ h9 => h9) rfl dX3_findHalves_14 ?_
      refine z_iconst (pc := 17) hx hb dX3_findHalves_17 ?_
      refine lv_iload_n (pc := 18) hx hb dX3_findHalves_18 rfl (lv_at hl 2 rfl) ?_
      refine z_ishl (pc := 19) hx hb (by omega) dX3_findHalves_19 ?_
      refine z_iconst (pc := 20) hx hb dX3_findHalves_20 ?_
      refine wv_V (pc := 21) hx hb hml hown hT hK (c_X0_look D cI cJ l ad n st hr ca zp fw lw k ts th sp hw pr hc hU ((1 * 2 ^ (z2).toNat)) (by omega) (-1) (by omega)) ca_X0_look tw_168 hP hD hS (fun q h => inW_same (by rfl) h) 2 0 rfl rfl rfl ⟨Nat.le_of_ble_eq_true rfl, Nat.le_of_ble_eq_true rfl⟩ rfl hl.1 (As := [.ref (ad 1), .int (zi ((1 * 2 ^ (z2).toNat))), .int (zi (-1))]) (rest := []) rfl (Nat.le_of_ble_eq_true rfl) ⟨Nat.le_of_ble_eq_true rfl, Nat.le_of_ble_eq_true rfl⟩ dX3_findHalves_21 (fun ws_ H locs hΦ hP hz_ hk_ hS => ?_)
      obtain ⟨i_3, φ_3, fr_3, lv_3, hE_3, rfl⟩ := hΦ
      replace hD : va_D (inW (wX ad cI cJ n st hr ca pcs fr lv k ts th sp hv pr hc)) (wX ad cI cJ n st hr ca (((i_3 : Int) + 1)) fr_3 lv_3 k ts th sp hw pr hc) := hD.same rfl
      refine lv_aload_n (pc := 24) hx hb dX3_findHalves_24 rfl (lv_at hl 0 rfl) ?_
      refine va_get (D := D) (cl := vwCl) (ci := 3) (v := .ref (ad 5)) (C := RX3) (T := TX3) (N := 7) (pc := 25) hx hb hT inT3 hown hK.1 hP 0 rfl rfl 4 (by decide) (hT _ tw_79) (fun _ h9 => h9) rfl dX3_findHalves_25 ?_
      refine lv_iload_n (pc := 28) hx hb dX3_findHalves_28 rfl (lv_at hl 2 rfl) ?_
      refine lv_aload_n (pc := 29) hx hb dX3_findHalves_29 rfl (lv_at hl 0 rfl) ?_
      refine va_get (D := D) (cl := vwCl) (ci := 3) (v := .ref (ad 2)) (C := RX3) (T := TX3) (N := 7) (pc := 30) hx hb hT inT3 hown hK.1 hP 0 rfl rfl 1 (by decide) (hT _ tw_76) (fun _ h9 => h9) rfl dX3_findHalves_30 ?_
      refine z_iconst (pc := 33) hx hb dX3_findHalves_33 ?_
      refine z_iconst (pc := 34) hx hb dX3_findHalves_34 ?_
      refine rd_V (pc := 35) hx hb hml hown hT hK (c_X0_firstAtMost D cI cJ l ad n st hr ca (((i_3 : Int) + 1)) fr_3 lv_3 k ts th sp hw pr hc (FF n st hr ca (1 * 2 ^ (z2).toNat) (-1)) (RR n st hr (1 * 2 ^ (z2).toNat)) (ST_of hU _ _) i_3 φ_3 hE_3 rfl (1) (2) (by omega)) ca_X0_firstAtMost tw_207 hP 2 0 rfl rfl rfl ⟨Nat.le_of_ble_eq_true rfl, Nat.le_of_ble_eq_true rfl⟩ rfl hl.1 (As := [.int (zi (1)), .int (zi (2))]) (rest := [.int (zi (z2)), .ref (ad 5)]) rfl (Nat.le_of_ble_eq_true rfl) ⟨Nat.le_of_ble_eq_true rfl, Nat.le_of_ble_eq_true rfl⟩ dX3_findHalves_35 ?_
      refine z_iast (pc := 38) hx hb hK hP hD hS 5 (u) (f := hw) (x := (timeF (tmT (FF n st hr ca (1 * 2 ^ (z2).toNat) (-1)) (RR n st hr (1 * 2 ^ (z2).toNat)) (1) (2)) 501)) rfl (by omega) (by omega) (by omega) dX3_findHalves_38 (fun H locs hP hD hS => ?_)
      replace hP : va_P D vwCl (wX ad cI cJ n st hr ca (((i_3 : Int) + 1)) fr_3 lv_3 k ts th sp (uZ hw (u) ((timeF (tmT (FF n st hr ca (1 * 2 ^ (z2).toNat) (-1)) (RR n st hr (1 * 2 ^ (z2).toNat)) (1) (2)) 501))) pr hc) H := hP
      replace hD : va_D (inW (wX ad cI cJ n st hr ca pcs fr lv k ts th sp hv pr hc)) (wX ad cI cJ n st hr ca (((i_3 : Int) + 1)) fr_3 lv_3 k ts th sp (uZ hw (u) ((timeF (tmT (FF n st hr ca (1 * 2 ^ (z2).toNat) (-1)) (RR n st hr (1 * 2 ^ (z2).toNat)) (1) (2)) 501))) pr hc) := hD
      have hus := uZ_s hw u (timeF (tmT (FF n st hr ca (1 * 2 ^ (z2).toNat) (-1)) (RR n st hr (1 * 2 ^ (z2).toNat)) (1) (2)) 501)
      have hval : uZ hw u (timeF (tmT (FF n st hr ca (1 * 2 ^ (z2).toNat) (-1)) (RR n st hr (1 * 2 ^ (z2).toNat)) (1) (2)) 501) u = hvF n st hr ca u := by rw [hus, ez]; rfl
      have htr := hvF_rng n st hr ca u
      have hfr := fndI_rng (hvF n st hr ca) u
      have hall : ∀ j, j < u + 1 → uZ hw u (timeF (tmT (FF n st hr ca (1 * 2 ^ (z2).toNat) (-1)) (RR n st hr (1 * 2 ^ (z2).toNat)) (1) (2)) 501) j = hvF n st hr ca j := by
        intro j hj
        rcases Nat.lt_or_ge j u with q | q
        · rw [uZ_n (by omega)]; exact e3 j q
        · have e : j = u := by omega
          rw [e]; exact hval
      refine lv_iload_n (pc := 39) hx hb dX3_findHalves_39 rfl (lv_at hl 1 rfl) ?_
      refine z_if_ne (tgt := 53) (pc := 40) hx hb dX3_findHalves_40 (by decide) (by omega) (fun c_4 => ?_) (fun c_4 => ?_)
      · refine z_iconst (pc := 53) hx hb dX3_findHalves_53 ?_
        refine lv_goto (tgt := 58) (pc := 54) hx hb dX3_findHalves_54 (by decide) ?_
        refine lv_istore_n (lv' := [(1, .int (zi (1))), (0, .ref (ad 0)), (2, .int (zi (z2)))]) (pc := 58) hx hb dX3_findHalves_58 rfl hl (by decide) rfl (fun ls hl => ?_)
        refine lv_iinc (v := zi (z2 + 1)) (lv' := [(2, .int (zi ((z2 + 1)))), (1, .int (zi (1))), (0, .ref (ad 0))]) (pc := 59) hx hb dX3_findHalves_59 hl (k := 2) rfl (zi_add _ _) (by decide) rfl (fun ls hl => ?_)
        refine lv_goto (tgt := 4) (pc := 62) hx hb dX3_findHalves_62 (by decide) ?_
        exact ih  _ _ _ _ _ _ _ _ (by simp only [fndI]; rw [← hval, ← e1]; repeat (first | rw [if_pos (by omega)] | rw [if_neg (by omega)])) (by omega) (hall) hP hD hS ls (lv_sub hl [2, 1, 0] rfl)
      · refine lv_aload_n (pc := 43) hx hb dX3_findHalves_43 rfl (lv_at hl 0 rfl) ?_
        refine va_get (D := D) (cl := vwCl) (ci := 3) (v := .ref (ad 5)) (C := RX3) (T := TX3) (N := 7) (pc := 44) hx hb hT inT3 hown hK.1 hP 0 rfl rfl 4 (by decide) (hT _ tw_79) (fun _ h9 => h9) rfl dX3_findHalves_44 ?_
        refine lv_iload_n (pc := 47) hx hb dX3_findHalves_47 rfl (lv_at hl 2 rfl) ?_
        refine z_iald (pc := 48) hx hb hK hP 5 (u) (f := uZ hw (u) ((timeF (tmT (FF n st hr ca (1 * 2 ^ (z2).toNat) (-1)) (RR n st hr (1 * 2 ^ (z2).toNat)) (1) (2)) 501))) rfl (by omega) (by omega) (by omega) dX3_findHalves_48 ?_
        refine z_iconst (pc := 49) hx hb dX3_findHalves_49 ?_
        refine z_icmp_eq (tgt := 57) (pc := 50) hx hb dX3_findHalves_50 (by decide) (by omega) (by omega) (fun c_5 => ?_) (fun c_5 => ?_)
        · refine z_iconst (pc := 57) hx hb dX3_findHalves_57 ?_
          refine lv_istore_n (lv' := [(1, .int (zi (0))), (0, .ref (ad 0)), (2, .int (zi (z2)))]) (pc := 58) hx hb dX3_findHalves_58 rfl hl (by decide) rfl (fun ls hl => ?_)
          refine lv_iinc (v := zi (z2 + 1)) (lv' := [(2, .int (zi ((z2 + 1)))), (1, .int (zi (0))), (0, .ref (ad 0))]) (pc := 59) hx hb dX3_findHalves_59 hl (k := 2) rfl (zi_add _ _) (by decide) rfl (fun ls hl => ?_)
          refine lv_goto (tgt := 4) (pc := 62) hx hb dX3_findHalves_62 (by decide) ?_
          exact ih  _ _ _ _ _ _ _ _ (by simp only [fndI]; rw [← hval, ← e1]; repeat (first | rw [if_pos (by omega)] | rw [if_neg (by omega)])) (by omega) (hall) hP hD hS ls (lv_sub hl [2, 1, 0] rfl)
        · refine z_iconst (pc := 53) hx hb dX3_findHalves_53 ?_
          refine lv_goto (tgt := 58) (pc := 54) hx hb dX3_findHalves_54 (by decide) ?_
          refine lv_istore_n (lv' := [(1, .int (zi (1))), (0, .ref (ad 0)), (2, .int (zi (z2)))]) (pc := 58) hx hb dX3_findHalves_58 rfl hl (by decide) rfl (fun ls hl => ?_)
          refine lv_iinc (v := zi (z2 + 1)) (lv' := [(2, .int (zi ((z2 + 1)))), (1, .int (zi (1))), (0, .ref (ad 0))]) (pc := 59) hx hb dX3_findHalves_59 hl (k := 2) rfl (zi_add _ _) (by decide) rfl (fun ls hl => ?_)
          refine lv_goto (tgt := 4) (pc := 62) hx hb dX3_findHalves_62 (by decide) ?_
          exact ih  _ _ _ _ _ _ _ _ (by simp only [fndI]; rw [← hval, ← e1]; repeat (first | rw [if_pos (by omega)] | rw [if_neg (by omega)])) (by omega) (hall) hP hD hS ls (lv_sub hl [2, 1, 0] rfl)
  refine z_iconst (pc := 0) hx hb dX3_findHalves_0 ?_
  refine lv_istore_n (lv' := [(1, .int (zi (0))), (0, .ref (ad 0))]) (pc := 1) hx hb dX3_findHalves_1 rfl hl (by decide) rfl (fun ls hl => ?_)
  refine z_iconst (pc := 2) hx hb dX3_findHalves_2 ?_
  refine lv_istore_n (lv' := [(2, .int (zi (0))), (1, .int (zi (0))), (0, .ref (ad 0))]) (pc := 3) hx hb dX3_findHalves_3 rfl hl (by decide) rfl (fun ls hl => ?_)
  exact loop 0 (by omega) _ _ _ _ _ _ _ _ (by rfl) (by rfl) (fun j hj => absurd hj (by omega)) hP hD hS ls (lv_sub hl [2, 1, 0] rfl)

set_option maxHeartbeats 4000000 in
set_option maxRecDepth 100000 in
theorem c_X3_missOfHalves (D : va_G) (cI cJ : ClassId) (l : Launch) (ad : Nat → Nat) (n : Int) (st hr ca : Nat → Int) (pcs : Int) (fr lv : Nat → Int) (k : Int) (ts th sp hv : Nat → Int) (pr hc : Int) (X : Nat → Int) (hX : ∀ j : Nat, -1 ≤ X j ∧ X j ≤ 500) (hH : ∀ j, j < 4 → hv j = X j) (b s_ : Int) (hq : 0 ≤ b ∧ b ≤ 100000 ∧ 1 ≤ s_ ∧ s_ ≤ 20) : RD D cI cJ l yX3_missOfHalves cX3_missOfHalves 5 (some .int) 2 45 [.ref (ad 0), .int (zi (b)), .int (zi (s_))] (wX ad cI cJ n st hr ca pcs fr lv k ts th sp hv pr hc) (.int (zi (msZ X b s_ 4))) := by
  refine RD.of (by decide) (Nat.le_of_ble_eq_true rfl) ?_
  intro p e s m args below meth c hx hb hrt hml hown hT hlk hK hP ls hl
  replace hl : lv_has ls 5 [(0, .ref (ad 0)), (1, .int (zi (b))), (2, .int (zi (s_)))] := hl
  have loop : ∀ u : Nat, u ≤ 4 → ∀ (z1 z2 : Int), (z1 = msZ X b s_ u) → (z2 = (u : Int)) → ∀ ls : Array Slot, lv_has ls 5 [(0, .ref (ad 0)), (1, .int (zi (b))), (2, .int (zi (s_))), (3, .int (zi (z1))), (4, .int (zi (z2)))] → W p l e (RM 2 45) s m args below meth c s.heap [] 0 0 (MQ below (QR (.int (zi (msZ X b s_ 4))) s.heap) args s 0 0 (fun _ => False)) (F0 m 5 ls []) := by
    refine lp_up (fun u => ∀ (z1 z2 : Int), (z1 = msZ X b s_ u) → (z2 = (u : Int)) → ∀ ls : Array Slot, lv_has ls 5 [(0, .ref (ad 0)), (1, .int (zi (b))), (2, .int (zi (s_))), (3, .int (zi (z1))), (4, .int (zi (z2)))] → W p l e (RM 2 45) s m args below meth c s.heap [] 0 0 (MQ below (QR (.int (zi (msZ X b s_ 4))) s.heap) args s 0 0 (fun _ => False)) (F0 m 5 ls [])) (4) ?_ ?_
    · intro z1 z2 e1 e2 ls hl
      refine lv_iload (pc := 5) hx hb dX3_missOfHalves_5 (lv_at hl 4 rfl) ?_
      refine z_iconst (pc := 7) hx hb dX3_missOfHalves_7 ?_
      refine z_icmp_ge (tgt := 49) (pc := 8) hx hb dX3_missOfHalves_8 (by decide) (by omega) (by omega) (fun c_1 => ?_) (fun c_1 => absurd c_1 (by omega))
      refine lv_iload_n (pc := 49) hx hb dX3_missOfHalves_49 rfl (lv_at hl 3 rfl) ?_
      exact rd_iret hx hb hrt hlk dX3_missOfHalves_50 (by rw [e1])
    · intro u hu ih z1 z2 e1 e2 ls hl
      refine lv_iload (pc := 5) hx hb dX3_missOfHalves_5 (lv_at hl 4 rfl) ?_
      refine z_iconst (pc := 7) hx hb dX3_missOfHalves_7 ?_
      refine z_icmp_ge (tgt := 49) (pc := 8) hx hb dX3_missOfHalves_8 (by decide) (by omega) (by omega) (fun c_2 => absurd c_2 (by omega)) (fun c_2 => ?_)
      have hHu : hv u = X u ∧ -1 ≤ X u ∧ X u ≤ 500 := ⟨hH u (by omega), hX u⟩
      have hsz := saysZ_rng b s_ (by omega) (by omega) u
      refine lv_aload_n (pc := 11) hx hb dX3_missOfHalves_11 rfl (lv_at hl 0 rfl) ?_
      refine va_get (D := D) (cl := vwCl) (ci := 3) (v := .ref (ad 5)) (C := RX3) (T := TX3) (N := 7) (pc := 12) hx hb hT inT3 hown hK.1 hP 0 rfl rfl 4 (by decide) (hT _ tw_79) (fun _ h9 => h9) rfl dX3_missOfHalves_12 ?_
      refine lv_iload (pc := 15) hx hb dX3_missOfHalves_15 (lv_at hl 4 rfl) ?_
      refine z_iald (pc := 17) hx hb hK hP 5 (u) (f := hv) rfl (by omega) (by omega) (by omega) dX3_missOfHalves_17 ?_
      refine z_iconst (pc := 18) hx hb dX3_missOfHalves_18 ?_
      refine z_icmp_eq (tgt := 43) (pc := 19) hx hb dX3_missOfHalves_19 (by decide) (by omega) (by omega) (fun c_3 => ?_) (fun c_3 => ?_)
      · refine lv_iinc (v := zi (z2 + 1)) (lv' := [(4, .int (zi ((z2 + 1)))), (0, .ref (ad 0)), (1, .int (zi (b))), (2, .int (zi (s_))), (3, .int (zi (z1)))]) (pc := 43) hx hb dX3_missOfHalves_43 hl (k := 4) rfl (zi_add _ _) (by decide) rfl (fun ls hl => ?_)
        refine lv_goto (tgt := 5) (pc := 46) hx hb dX3_missOfHalves_46 (by decide) ?_
        exact ih  _ _ (by rw [e1]; simp only [msZ]; rw [← hHu.1]; first | (rw [if_pos (by omega)]; omega) | rw [if_neg (by omega)]) (by omega) ls (lv_sub hl [1, 2, 3, 4, 0] rfl)
      · refine lv_iload_n (pc := 22) hx hb dX3_missOfHalves_22 rfl (lv_at hl 3 rfl) ?_
        refine lv_aload_n (pc := 23) hx hb dX3_missOfHalves_23 rfl (lv_at hl 0 rfl) ?_
        refine va_get (D := D) (cl := vwCl) (ci := 3) (v := .ref (ad 5)) (C := RX3) (T := TX3) (N := 7) (pc := 24) hx hb hT inT3 hown hK.1 hP 0 rfl rfl 4 (by decide) (hT _ tw_79) (fun _ h9 => h9) rfl dX3_missOfHalves_24 ?_
        refine lv_iload (pc := 27) hx hb dX3_missOfHalves_27 (lv_at hl 4 rfl) ?_
        refine z_iald (pc := 29) hx hb hK hP 5 (u) (f := hv) rfl (by omega) (by omega) (by omega) dX3_missOfHalves_29 ?_
        refine lv_iload_n (pc := 30) hx hb dX3_missOfHalves_30 rfl (lv_at hl 1 rfl) ?_
        refine lv_iload_n (pc := 31) hx hb dX3_missOfHalves_31 rfl (lv_at hl 2 rfl) ?_
        refine lv_iload (pc := 32) hx hb dX3_missOfHalves_32 (lv_at hl 4 rfl) ?_
        refine rd_S (pc := 34) hx hb hml hown hT hK (c_X3_lawAt D cI cJ l (b) (s_) (z2) (u) (by omega) (by omega)) ca_X3_lawAt tw_254 va_Pnil ⟨Nat.le_of_ble_eq_true rfl, Nat.le_of_ble_eq_true rfl⟩ rfl hl.1 (As := [.int (zi (b)), .int (zi (s_)), .int (zi (z2))]) (rest := [.int (zi ((hv (u)))), .int (zi (z1))]) rfl (Nat.le_of_ble_eq_true rfl) ⟨Nat.le_of_ble_eq_true rfl, Nat.le_of_ble_eq_true rfl⟩ dX3_missOfHalves_34 ?_
        refine z_isub (pc := 37) hx hb dX3_missOfHalves_37 ?_
        refine z_mabs (pc := 38) hx hb (hml.trans hl.1.symm) hown (hT _ tw_272) (hT _ tw_273) (hT _ tw_6) (hT _ tw_274) (Nat.le_of_ble_eq_true rfl) (Nat.le_of_ble_eq_true rfl) (Nat.le_of_ble_eq_true rfl) (Nat.le_of_ble_eq_true rfl) (by omega) dX3_missOfHalves_38 ?_
        refine z_iadd (pc := 41) hx hb dX3_missOfHalves_41 ?_
        refine lv_istore_n (lv' := [(3, .int (zi ((z1 + (zabs ((hv (u)) - (saysZ (b) (s_) (u)))))))), (0, .ref (ad 0)), (1, .int (zi (b))), (2, .int (zi (s_))), (4, .int (zi (z2)))]) (pc := 42) hx hb dX3_missOfHalves_42 rfl hl (by decide) rfl (fun ls hl => ?_)
        refine lv_iinc (v := zi (z2 + 1)) (lv' := [(4, .int (zi ((z2 + 1)))), (3, .int (zi ((z1 + (zabs ((hv (u)) - (saysZ (b) (s_) (u)))))))), (0, .ref (ad 0)), (1, .int (zi (b))), (2, .int (zi (s_)))]) (pc := 43) hx hb dX3_missOfHalves_43 hl (k := 4) rfl (zi_add _ _) (by decide) rfl (fun ls hl => ?_)
        refine lv_goto (tgt := 5) (pc := 46) hx hb dX3_missOfHalves_46 (by decide) ?_
        exact ih  _ _ (by rw [e1]; simp only [msZ]; rw [← hHu.1]; first | (rw [if_pos (by omega)]; omega) | rw [if_neg (by omega)]) (by omega) ls (lv_sub hl [2, 3, 4, 1, 0] rfl)
  refine z_iconst (pc := 0) hx hb dX3_missOfHalves_0 ?_
  refine lv_istore_n (lv' := [(3, .int (zi (0))), (0, .ref (ad 0)), (1, .int (zi (b))), (2, .int (zi (s_)))]) (pc := 1) hx hb dX3_missOfHalves_1 rfl hl (by decide) rfl (fun ls hl => ?_)
  refine z_iconst (pc := 2) hx hb dX3_missOfHalves_2 ?_
  refine lv_istore (lv' := [(4, .int (zi (0))), (3, .int (zi (0))), (0, .ref (ad 0)), (1, .int (zi (b))), (2, .int (zi (s_)))]) (pc := 3) hx hb dX3_missOfHalves_3 hl (by decide) rfl (fun ls hl => ?_)
  exact loop 0 (by omega) _ _ (by rfl) (by rfl) ls (lv_sub hl [2, 3, 4, 1, 0] rfl)

set_option maxHeartbeats 4000000 in
set_option maxRecDepth 100000 in
theorem c_X3_miss (D : va_G) (cI cJ : ClassId) (l : Launch) (ad : Nat → Nat) (n : Int) (st hr ca : Nat → Int) (pcs : Int) (fr lv : Nat → Int) (k : Int) (ts th sp hv : Nat → Int) (pr hc : Int) (hU : VU n st hr ca) (b : Int) (r_b : -2147483648 ≤ b ∧ b ≤ 2147483647) (s_ : Int) (r_s_ : -2147483648 ≤ s_ ∧ s_ ≤ 2147483647) : WR D cI cJ l yX3_miss cX3_miss 3 (some .int) 5 117 [.ref (ad 0), .int (zi (b)), .int (zi (s_))] (wX ad cI cJ n st hr ca pcs fr lv k ts th sp hv pr hc) (fun v' ws' => v' = .int (zi (missV n st hr ca b s_)) ∧ ∃ (pcs' : Int) (fr' lv' hv' : Nat → Int), ws' = (wX ad cI cJ n st hr ca pcs' fr' lv' k ts th sp hv' pr hc)) := by
  refine WR.of (by decide) (Nat.le_of_ble_eq_true rfl) ?_
  intro p e s m args below meth c hx hb hrt hml hown hT hlk hK hP hD hS ls hl
  replace hl : lv_has ls 3 [(0, .ref (ad 0)), (1, .int (zi (b))), (2, .int (zi (s_)))] := hl
  refine lv_iload_n (pc := 0) hx hb dX3_miss_0 rfl (lv_at hl 1 rfl) ?_
  refine lv_iload_n (pc := 1) hx hb dX3_miss_1 rfl (lv_at hl 2 rfl) ?_
  refine rd_S (pc := 2) hx hb hml hown hT hK (c_X3_isLaw D cI cJ l (b) (by omega) (s_) (by omega)) ca_X3_isLaw tw_250 va_Pnil ⟨Nat.le_of_ble_eq_true rfl, Nat.le_of_ble_eq_true rfl⟩ rfl hl.1 (As := [.int (zi (b)), .int (zi (s_))]) (rest := []) rfl (Nat.le_of_ble_eq_true rfl) ⟨Nat.le_of_ble_eq_true rfl, Nat.le_of_ble_eq_true rfl⟩ dX3_miss_2 ?_
  refine z_ifB_ne (tgt := 12) (pc := 5) hx hb dX3_miss_5 (by decide) (fun c_1 => ?_) (fun c_1 => ?_)
  · refine lv_aload_n (pc := 12) hx hb dX3_miss_12 rfl (lv_at hl 0 rfl) ?_
    refine wr_V (pc := 13) hx hb hml hown hT hK (c_X3_findHalves D cI cJ l ad n st hr ca pcs fr lv k ts th sp hv pr hc hU) ca_X3_findHalves tw_264 hP hD hS (fun q h => inW_same (by rfl) h) 0 3 rfl rfl rfl ⟨Nat.le_of_ble_eq_true rfl, Nat.le_of_ble_eq_true rfl⟩ rfl hl.1 (As := []) (rest := []) rfl (Nat.le_of_ble_eq_true rfl) ⟨Nat.le_of_ble_eq_true rfl, Nat.le_of_ble_eq_true rfl⟩ dX3_miss_13 (fun v_ ws_ H locs hΦ hP hz_ hk_ hS => ?_)
    obtain ⟨rfl, pcs_2, fr_2, lv_2, hv_2, hH_2, rfl⟩ := hΦ
    replace hD : va_D (inW (wX ad cI cJ n st hr ca pcs fr lv k ts th sp hv pr hc)) (wX ad cI cJ n st hr ca pcs_2 fr_2 lv_2 k ts th sp hv_2 pr hc) := hD.same rfl
    refine lv_pop (pc := 16) hx hb dX3_miss_16 rfl ?_
    refine lv_aload_n (pc := 17) hx hb dX3_miss_17 rfl (lv_at hl 0 rfl) ?_
    refine lv_iload_n (pc := 18) hx hb dX3_miss_18 rfl (lv_at hl 1 rfl) ?_
    refine lv_iload_n (pc := 19) hx hb dX3_miss_19 rfl (lv_at hl 2 rfl) ?_
    refine rd_V (pc := 20) hx hb hml hown hT hK (c_X3_missOfHalves D cI cJ l ad n st hr ca pcs_2 fr_2 lv_2 k ts th sp hv_2 pr hc (hvF n st hr ca) (hvF_rng n st hr ca) hH_2 (b) (s_) (by omega)) ca_X3_missOfHalves tw_268 hP 0 3 rfl rfl rfl ⟨Nat.le_of_ble_eq_true rfl, Nat.le_of_ble_eq_true rfl⟩ rfl hl.1 (As := [.int (zi (b)), .int (zi (s_))]) (rest := []) rfl (Nat.le_of_ble_eq_true rfl) ⟨Nat.le_of_ble_eq_true rfl, Nat.le_of_ble_eq_true rfl⟩ dX3_miss_20 ?_
    exact wr_iret hx hb hrt hlk dX3_miss_23 hP hS (⟨by rw [missV, if_pos (by omega)], _, _, _, _, rfl⟩)
  · refine z_sipush (pc := 8) hx hb dX3_miss_8 (by decide) ?_
    exact wr_iret hx hb hrt hlk dX3_miss_11 hP hS (⟨by rw [missV, if_neg (by omega)], pcs, fr, lv, hv, rfl⟩)
end
