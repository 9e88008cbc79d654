section
-- ===== PART A: goes FIRST, ahead of the names: the tables' words, and 'selects' of the private methods out of them =====
/-- a private method of a class that the tables say can be made, by its rows of tables_1 -/
def lw_okq (q : MethodName × Nat) : Prop := (q.1.cls ≠ "java/lang/invoke/MethodHandle" ∧ q.1.cls ≠ "java/lang/invoke/VarHandle") ∧ Cond.instantiable q.1.cls q.2 ∈ tables_1 ∧ Cond.privateMethod q.1 ∈ tables_1 ∧ Cond.instanceMethod q.1 ∈ tables_1
theorem lw_p0 : lw_okq (⟨"TankSidings", "tell", "(I)I"⟩, 6) := ⟨⟨by decide +kernel, by decide +kernel⟩, List.mem_of_getElem? (i := 8) (by decide +kernel), List.mem_of_getElem? (i := 101) (by decide +kernel), List.mem_of_getElem? (i := 102) (by decide +kernel)⟩
theorem lw_p1 : lw_okq (⟨"TankSidings", "tellLevel", "(II)I"⟩, 6) := ⟨⟨by decide +kernel, by decide +kernel⟩, List.mem_of_getElem? (i := 8) (by decide +kernel), List.mem_of_getElem? (i := 173) (by decide +kernel), List.mem_of_getElem? (i := 174) (by decide +kernel)⟩
theorem lw_p2 : lw_okq (⟨"TankSidings", "whyNoPlace", "(I)I"⟩, 6) := ⟨⟨by decide +kernel, by decide +kernel⟩, List.mem_of_getElem? (i := 8) (by decide +kernel), List.mem_of_getElem? (i := 222) (by decide +kernel), List.mem_of_getElem? (i := 223) (by decide +kernel)⟩
theorem lw_p3 : lw_okq (⟨"TankSidings", "whyNoNumber", "(II)I"⟩, 6) := ⟨⟨by decide +kernel, by decide +kernel⟩, List.mem_of_getElem? (i := 8) (by decide +kernel), List.mem_of_getElem? (i := 261) (by decide +kernel), List.mem_of_getElem? (i := 262) (by decide +kernel)⟩
theorem lw_p4 : lw_okq (⟨"TankSidings", "whyNoPlanRow", "(I)I"⟩, 6) := ⟨⟨by decide +kernel, by decide +kernel⟩, List.mem_of_getElem? (i := 8) (by decide +kernel), List.mem_of_getElem? (i := 265) (by decide +kernel), List.mem_of_getElem? (i := 266) (by decide +kernel)⟩
theorem lw_p5 : lw_okq (⟨"TankSidingsModel", "countOf", "(I)I"⟩, 16) := ⟨⟨by decide +kernel, by decide +kernel⟩, List.mem_of_getElem? (i := 297) (by decide +kernel), List.mem_of_getElem? (i := 363) (by decide +kernel), List.mem_of_getElem? (i := 364) (by decide +kernel)⟩
theorem lw_p6 : lw_okq (⟨"TankSidingsModel", "no", "(I)I"⟩, 16) := ⟨⟨by decide +kernel, by decide +kernel⟩, List.mem_of_getElem? (i := 297) (by decide +kernel), List.mem_of_getElem? (i := 371) (by decide +kernel), List.mem_of_getElem? (i := 372) (by decide +kernel)⟩
theorem lw_p7 : lw_okq (⟨"TankSidingsModel", "loadOf", "(I)I"⟩, 16) := ⟨⟨by decide +kernel, by decide +kernel⟩, List.mem_of_getElem? (i := 297) (by decide +kernel), List.mem_of_getElem? (i := 375) (by decide +kernel), List.mem_of_getElem? (i := 376) (by decide +kernel)⟩
theorem lw_p8 : lw_okq (⟨"TankSidingsModel", "at", "(II)I"⟩, 16) := ⟨⟨by decide +kernel, by decide +kernel⟩, List.mem_of_getElem? (i := 297) (by decide +kernel), List.mem_of_getElem? (i := 383) (by decide +kernel), List.mem_of_getElem? (i := 384) (by decide +kernel)⟩
theorem lw_p9 : lw_okq (⟨"TankSidingsModel", "against", "(II)I"⟩, 16) := ⟨⟨by decide +kernel, by decide +kernel⟩, List.mem_of_getElem? (i := 297) (by decide +kernel), List.mem_of_getElem? (i := 399) (by decide +kernel), List.mem_of_getElem? (i := 400) (by decide +kernel)⟩
theorem lw_p10 : lw_okq (⟨"TankSidingsModel", "reported", "(I)I"⟩, 16) := ⟨⟨by decide +kernel, by decide +kernel⟩, List.mem_of_getElem? (i := 297) (by decide +kernel), List.mem_of_getElem? (i := 423) (by decide +kernel), List.mem_of_getElem? (i := 424) (by decide +kernel)⟩
theorem lw_p11 : lw_okq (⟨"TankSidingsModel", "clear", "()V"⟩, 16) := ⟨⟨by decide +kernel, by decide +kernel⟩, List.mem_of_getElem? (i := 297) (by decide +kernel), List.mem_of_getElem? (i := 439) (by decide +kernel), List.mem_of_getElem? (i := 440) (by decide +kernel)⟩
theorem lw_p12 : lw_okq (⟨"TankSidingsModel", "empty", "(I)V"⟩, 16) := ⟨⟨by decide +kernel, by decide +kernel⟩, List.mem_of_getElem? (i := 297) (by decide +kernel), List.mem_of_getElem? (i := 443) (by decide +kernel), List.mem_of_getElem? (i := 444) (by decide +kernel)⟩
theorem lw_p13 : lw_okq (⟨"TankSidingsModel", "against", "(III)I"⟩, 16) := ⟨⟨by decide +kernel, by decide +kernel⟩, List.mem_of_getElem? (i := 297) (by decide +kernel), List.mem_of_getElem? (i := 467) (by decide +kernel), List.mem_of_getElem? (i := 468) (by decide +kernel)⟩
def lw_privs_1 : List (MethodName × Nat) := [(⟨"TankSidings", "tell", "(I)I"⟩, 6), (⟨"TankSidings", "tellLevel", "(II)I"⟩, 6), (⟨"TankSidings", "whyNoPlace", "(I)I"⟩, 6), (⟨"TankSidings", "whyNoNumber", "(II)I"⟩, 6), (⟨"TankSidings", "whyNoPlanRow", "(I)I"⟩, 6), (⟨"TankSidingsModel", "countOf", "(I)I"⟩, 16), (⟨"TankSidingsModel", "no", "(I)I"⟩, 16), (⟨"TankSidingsModel", "loadOf", "(I)I"⟩, 16), (⟨"TankSidingsModel", "at", "(II)I"⟩, 16), (⟨"TankSidingsModel", "against", "(II)I"⟩, 16), (⟨"TankSidingsModel", "reported", "(I)I"⟩, 16), (⟨"TankSidingsModel", "clear", "()V"⟩, 16), (⟨"TankSidingsModel", "empty", "(I)V"⟩, 16), (⟨"TankSidingsModel", "against", "(III)I"⟩, 16)]
theorem lw_r1 : ∀ q ∈ lw_privs_1, lw_okq q := List.forall_mem_cons.mpr ⟨lw_p0, List.forall_mem_cons.mpr ⟨lw_p1, List.forall_mem_cons.mpr ⟨lw_p2, List.forall_mem_cons.mpr ⟨lw_p3, List.forall_mem_cons.mpr ⟨lw_p4, List.forall_mem_cons.mpr ⟨lw_p5, List.forall_mem_cons.mpr ⟨lw_p6, List.forall_mem_cons.mpr ⟨lw_p7, List.forall_mem_cons.mpr ⟨lw_p8, List.forall_mem_cons.mpr ⟨lw_p9, List.forall_mem_cons.mpr ⟨lw_p10, List.forall_mem_cons.mpr ⟨lw_p11, List.forall_mem_cons.mpr ⟨lw_p12, List.forall_mem_cons.mpr ⟨lw_p13, fun _ h => absurd h List.not_mem_nil⟩⟩⟩⟩⟩⟩⟩⟩⟩⟩⟩⟩⟩⟩
def lw_privs : List (MethodName × Nat) := lw_privs_1
def lw_tbl : List Cond := k2_sels lw_privs ++ tables_1
theorem lw_privs_ok : ∀ q ∈ lw_privs, lw_okq q := lw_r1
/-! ===== BEGIN words of one list among another's, by their places ===== -/
theorem goodIn_r {big : List Cond} (ws : List Cond) (ps : List Nat) (hp : ws = ps.filterMap (fun i => big[i]?)) (h : ws.all goodWord = true) : GoodIn big ws := by
  intro w hw
  have h1 := List.all_eq_true.mp h w hw
  rw [hp] at hw
  obtain ⟨i, -, hi⟩ := List.mem_filterMap.mp hw
  have hm : w ∈ big := by first | exact List.mem_of_getElem? hi | exact List.getElem?_mem hi
  exact ⟨hm, good_of_word h1⟩
theorem goodIn_app {big a b : List Cond} (ha : GoodIn big a) (hb : GoodIn big b) : GoodIn big (a ++ b) := fun w h => (List.mem_append.mp h).elim (ha w) (hb w)
theorem goodIn_ca {big a b : List Cond} {c : Cond} (ha : GoodIn big (c :: a)) (hb : GoodIn big b) : GoodIn big (c :: (a ++ b)) := fun w h => (List.mem_cons.mp h).elim (fun e => ha w (List.mem_cons.mpr (Or.inl e))) (fun h => (List.mem_append.mp h).elim (fun h => ha w (List.mem_cons.mpr (Or.inr h))) (hb w))
theorem goodIn_sub {big ws : List Cond} (hm : ∀ w ∈ ws, w ∈ big) (h : ws.all goodWord = true) : GoodIn big ws := fun w hw => ⟨hm w hw, good_of_word (List.all_eq_true.mp h w hw)⟩
/-! ===== END ===== -/

/-! ===== BEGIN printed: names, fields, word lists, decode rows ===== -/
def RX0 : String := "TankSidings$Plan"
def TX0 : u_T := fun k => match k with
  | 0 => ("TankSidings$Plan", "rows", "I", true)
  | 1 => ("TankSidings$Plan", "width", "I", true)
  | _ => ("TankSidings$Plan", "numbers", "[I", true)
def tyX0 : Nat → FieldType := fun k => match k with
  | 0 => .int
  | 1 => .int
  | _ => .array .int
abbrev wsX00 : List Cond := u_ws RX0 TX0 3
theorem nmX0 : ∀ a, a < 3 → ∀ b, b < 3 → a ≠ b → (TX0 a).2.1 ≠ (TX0 b).2.1 := by decide +kernel
theorem tyX0_ok : ∀ k, k < 3 → parseFieldDescriptor (TX0 k).2.2.1 = some (tyX0 k) := by decide +kernel
abbrev cX0_init : ByteArray := prog_2_method_1_code
def yX0_init : MethodName := ⟨RX0, "<init>", "(II)V"⟩
abbrev cX0_slot : ByteArray := prog_2_method_2_code
def yX0_slot : MethodName := ⟨RX0, "slot", "(II)I"⟩
def RX1 : String := "TankSidings$Siding"
def TX1 : u_T := fun k => match k with
  | 0 => ("TankSidings$Siding", "places", "[LTankSidings$Vehicle;", true)
  | _ => ("TankSidings$Siding", "tanksAlone", "Z", true)
def tyX1 : Nat → FieldType := fun k => match k with
  | 0 => .array (.object "TankSidings$Vehicle")
  | _ => .boolean
abbrev wsX10 : List Cond := u_ws RX1 TX1 2
theorem nmX1 : ∀ a, a < 2 → ∀ b, b < 2 → a ≠ b → (TX1 a).2.1 ≠ (TX1 b).2.1 := by decide +kernel
theorem tyX1_ok : ∀ k, k < 2 → parseFieldDescriptor (TX1 k).2.2.1 = some (tyX1 k) := by decide +kernel
abbrev cX1_init : ByteArray := prog_3_method_1_code
def yX1_init : MethodName := ⟨RX1, "<init>", "(IZ)V"⟩
abbrev cX1_accepts : ByteArray := prog_3_method_2_code
def yX1_accepts : MethodName := ⟨RX1, "accepts", "(LTankSidings$Vehicle;)Z"⟩
def RX2 : String := "TankSidings$Track"
def TX2 : u_T := fun k => match k with
  | 0 => ("TankSidings$Track", "front", "LTankSidings$Vehicle;", false)
  | _ => ("TankSidings$Track", "size", "I", false)
def tyX2 : Nat → FieldType := fun k => match k with
  | 0 => .object "TankSidings$Vehicle"
  | _ => .int
abbrev wsX20 : List Cond := u_ws RX2 TX2 2
theorem nmX2 : ∀ a, a < 2 → ∀ b, b < 2 → a ≠ b → (TX2 a).2.1 ≠ (TX2 b).2.1 := by decide +kernel
theorem tyX2_ok : ∀ k, k < 2 → parseFieldDescriptor (TX2 k).2.2.1 = some (tyX2 k) := by decide +kernel
abbrev cX2_init : ByteArray := prog_4_method_1_code
def yX2_init : MethodName := ⟨RX2, "<init>", "()V"⟩
abbrev cX2_vehicleAt : ByteArray := prog_4_method_2_code
def yX2_vehicleAt : MethodName := ⟨RX2, "vehicleAt", "(I)LTankSidings$Vehicle;"⟩
abbrev cX2_firstGraveBehindFront : ByteArray := prog_4_method_3_code
def yX2_firstGraveBehindFront : MethodName := ⟨RX2, "firstGraveBehindFront", "()LTankSidings$Vehicle;"⟩
abbrev cX2_weightBehindFront : ByteArray := prog_4_method_4_code
def yX2_weightBehindFront : MethodName := ⟨RX2, "weightBehindFront", "()I"⟩
abbrev cX2_putAhead : ByteArray := prog_4_method_5_code
def yX2_putAhead : MethodName := ⟨RX2, "putAhead", "(LTankSidings$Vehicle;)V"⟩
abbrev cX2_removeFront : ByteArray := prog_4_method_6_code
def yX2_removeFront : MethodName := ⟨RX2, "removeFront", "()LTankSidings$Vehicle;"⟩
abbrev cX2_moveFirst : ByteArray := prog_4_method_7_code
def yX2_moveFirst : MethodName := ⟨RX2, "moveFirst", "(ILTankSidings$Track;)Z"⟩
abbrev cX2_appendAll : ByteArray := prog_4_method_8_code
def yX2_appendAll : MethodName := ⟨RX2, "appendAll", "(LTankSidings$Track;)Z"⟩
def RX3 : String := "TankSidings$Vehicle"
def TX3 : u_T := fun k => match k with
  | 0 => ("TankSidings$Vehicle", "sort", "I", true)
  | 1 => ("TankSidings$Vehicle", "weight", "I", true)
  | 2 => ("TankSidings$Vehicle", "defectLevel", "I", false)
  | 3 => ("TankSidings$Vehicle", "row", "[I", false)
  | _ => ("TankSidings$Vehicle", "behind", "LTankSidings$Vehicle;", false)
def tyX3 : Nat → FieldType := fun k => match k with
  | 0 => .int
  | 1 => .int
  | 2 => .int
  | 3 => .array .int
  | _ => .object "TankSidings$Vehicle"
abbrev wsX30 : List Cond := u_ws RX3 TX3 5
theorem nmX3 : ∀ a, a < 5 → ∀ b, b < 5 → a ≠ b → (TX3 a).2.1 ≠ (TX3 b).2.1 := by decide +kernel
theorem tyX3_ok : ∀ k, k < 5 → parseFieldDescriptor (TX3 k).2.2.1 = some (tyX3 k) := by decide +kernel
abbrev cX3_init : ByteArray := prog_5_method_1_code
def yX3_init : MethodName := ⟨RX3, "<init>", "(II)V"⟩
abbrev cX3_fullWeight : ByteArray := prog_5_method_2_code
def yX3_fullWeight : MethodName := ⟨RX3, "fullWeight", "()I"⟩
def RX4 : String := "TankSidings"
def TX4 : u_T := fun k => match k with
  | 0 => ("TankSidings", "tracks", "[LTankSidings$Track;", true)
  | 1 => ("TankSidings", "told", "[I", true)
  | 2 => ("TankSidings", "yardSiding", "LTankSidings$Siding;", false)
  | 3 => ("TankSidings", "yardPlan", "LTankSidings$Plan;", false)
  | 4 => ("TankSidings", "latestLevel", "I", false)
  | _ => ("TankSidings", "placed", "I", false)
def tyX4 : Nat → FieldType := fun k => match k with
  | 0 => .array (.object "TankSidings$Track")
  | 1 => .array .int
  | 2 => .object "TankSidings$Siding"
  | 3 => .object "TankSidings$Plan"
  | 4 => .int
  | _ => .int
abbrev wsX40 : List Cond := u_ws RX4 TX4 6
theorem nmX4 : ∀ a, a < 6 → ∀ b, b < 6 → a ≠ b → (TX4 a).2.1 ≠ (TX4 b).2.1 := by decide +kernel
theorem tyX4_ok : ∀ k, k < 6 → parseFieldDescriptor (TX4 k).2.2.1 = some (tyX4 k) := by decide +kernel
abbrev cX4_init : ByteArray := prog_1_method_1_code
def yX4_init : MethodName := ⟨RX4, "<init>", "()V"⟩
abbrev cX4_place : ByteArray := prog_1_method_2_code
def yX4_place : MethodName := ⟨RX4, "place", "(III)I"⟩
abbrev cX4_take : ByteArray := prog_1_method_3_code
def yX4_take : MethodName := ⟨RX4, "take", "(I)I"⟩
abbrev cX4_shunt : ByteArray := prog_1_method_4_code
def yX4_shunt : MethodName := ⟨RX4, "shunt", "(III)I"⟩
abbrev cX4_couple : ByteArray := prog_1_method_5_code
def yX4_couple : MethodName := ⟨RX4, "couple", "(II)I"⟩
abbrev cX4_crates : ByteArray := prog_1_method_6_code
def yX4_crates : MethodName := ⟨RX4, "crates", "(III)I"⟩
abbrev cX4_load : ByteArray := prog_1_method_7_code
def yX4_load : MethodName := ⟨RX4, "load", "(IIII)I"⟩
abbrev cX4_crate : ByteArray := prog_1_method_8_code
def yX4_crate : MethodName := ⟨RX4, "crate", "(III)I"⟩
abbrev cX4_length : ByteArray := prog_1_method_9_code
def yX4_length : MethodName := ⟨RX4, "length", "(II)I"⟩
abbrev cX4_weigh : ByteArray := prog_1_method_10_code
def yX4_weigh : MethodName := ⟨RX4, "weigh", "(II)I"⟩
abbrev cX4_defect : ByteArray := prog_1_method_11_code
def yX4_defect : MethodName := ⟨RX4, "defect", "(III)I"⟩
abbrev cX4_report : ByteArray := prog_1_method_12_code
def yX4_report : MethodName := ⟨RX4, "report", "(II)I"⟩
abbrev cX4_draw : ByteArray := prog_1_method_13_code
def yX4_draw : MethodName := ⟨RX4, "draw", "(I)I"⟩
abbrev cX4_level : ByteArray := prog_1_method_14_code
def yX4_level : MethodName := ⟨RX4, "level", "()I"⟩
abbrev cX4_siding : ByteArray := prog_1_method_15_code
def yX4_siding : MethodName := ⟨RX4, "siding", "(IZ)I"⟩
abbrev cX4_room : ByteArray := prog_1_method_16_code
def yX4_room : MethodName := ⟨RX4, "room", "()I"⟩
abbrev cX4_stow : ByteArray := prog_1_method_17_code
def yX4_stow : MethodName := ⟨RX4, "stow", "(II)I"⟩
abbrev cX4_fetch : ByteArray := prog_1_method_18_code
def yX4_fetch : MethodName := ⟨RX4, "fetch", "(II)I"⟩
abbrev cX4_plan : ByteArray := prog_1_method_19_code
def yX4_plan : MethodName := ⟨RX4, "plan", "(II)I"⟩
abbrev cX4_note : ByteArray := prog_1_method_20_code
def yX4_note : MethodName := ⟨RX4, "note", "(III)I"⟩
abbrev cX4_noted : ByteArray := prog_1_method_21_code
def yX4_noted : MethodName := ⟨RX4, "noted", "(II)I"⟩
abbrev cX4_wide : ByteArray := prog_1_method_22_code
def yX4_wide : MethodName := ⟨RX4, "wide", "(I)I"⟩
abbrev cX4_away : ByteArray := prog_1_method_23_code
def yX4_away : MethodName := ⟨RX4, "away", "(I)I"⟩
abbrev cX4_about : ByteArray := prog_1_method_24_code
def yX4_about : MethodName := ⟨RX4, "about", "(III)I"⟩
abbrev cX4_count : ByteArray := prog_1_method_25_code
def yX4_count : MethodName := ⟨RX4, "count", "(I)I"⟩
abbrev cX4_reasons : ByteArray := prog_1_method_26_code
def yX4_reasons : MethodName := ⟨RX4, "reasons", "(I)I"⟩
abbrev cX4_isWithin : ByteArray := prog_1_method_27_code
def yX4_isWithin : MethodName := ⟨RX4, "isWithin", "(III)Z"⟩
abbrev cX4_isTrack : ByteArray := prog_1_method_28_code
def yX4_isTrack : MethodName := ⟨RX4, "isTrack", "(I)Z"⟩
abbrev cX4_areTwoTracks : ByteArray := prog_1_method_29_code
def yX4_areTwoTracks : MethodName := ⟨RX4, "areTwoTracks", "(II)Z"⟩
abbrev cX4_isPosition : ByteArray := prog_1_method_30_code
def yX4_isPosition : MethodName := ⟨RX4, "isPosition", "(II)Z"⟩
abbrev cX4_isEngine : ByteArray := prog_1_method_31_code
def yX4_isEngine : MethodName := ⟨RX4, "isEngine", "(LTankSidings$Vehicle;)Z"⟩
abbrev cX4_tell : ByteArray := prog_1_method_32_code
def yX4_tell : MethodName := ⟨RX4, "tell", "(I)I"⟩
abbrev cX4_tellLevel : ByteArray := prog_1_method_33_code
def yX4_tellLevel : MethodName := ⟨RX4, "tellLevel", "(II)I"⟩
abbrev cX4_whyNoRow : ByteArray := prog_1_method_34_code
def yX4_whyNoRow : MethodName := ⟨RX4, "whyNoRow", "(LTankSidings$Vehicle;)I"⟩
abbrev cX4_whyNoCrate : ByteArray := prog_1_method_35_code
def yX4_whyNoCrate : MethodName := ⟨RX4, "whyNoCrate", "(LTankSidings$Vehicle;I)I"⟩
abbrev cX4_whyNoPlace : ByteArray := prog_1_method_36_code
def yX4_whyNoPlace : MethodName := ⟨RX4, "whyNoPlace", "(I)I"⟩
abbrev cX4_whyNoPlanRow : ByteArray := prog_1_method_37_code
def yX4_whyNoPlanRow : MethodName := ⟨RX4, "whyNoPlanRow", "(I)I"⟩
abbrev cX4_whyNoNumber : ByteArray := prog_1_method_38_code
def yX4_whyNoNumber : MethodName := ⟨RX4, "whyNoNumber", "(II)I"⟩
def RX5 : String := "TankSidingsModel"
def TX5 : u_T := fun k => match k with
  | 0 => ("TankSidingsModel", "sort", "[I", true)
  | 1 => ("TankSidingsModel", "weight", "[I", true)
  | 2 => ("TankSidingsModel", "defect", "[I", true)
  | 3 => ("TankSidingsModel", "crates", "[I", true)
  | 4 => ("TankSidingsModel", "crate", "[I", true)
  | 5 => ("TankSidingsModel", "behind", "[I", true)
  | 6 => ("TankSidingsModel", "isUsed", "[Z", true)
  | 7 => ("TankSidingsModel", "front", "[I", true)
  | 8 => ("TankSidingsModel", "siding", "I", false)
  | 9 => ("TankSidingsModel", "isNarrow", "Z", false)
  | 10 => ("TankSidingsModel", "place", "[I", true)
  | 11 => ("TankSidingsModel", "rows", "I", false)
  | 12 => ("TankSidingsModel", "wide", "I", false)
  | 13 => ("TankSidingsModel", "plan", "[I", true)
  | 14 => ("TankSidingsModel", "level", "I", false)
  | _ => ("TankSidingsModel", "told", "[I", true)
def tyX5 : Nat → FieldType := fun k => match k with
  | 0 => .array .int
  | 1 => .array .int
  | 2 => .array .int
  | 3 => .array .int
  | 4 => .array .int
  | 5 => .array .int
  | 6 => .array .boolean
  | 7 => .array .int
  | 8 => .int
  | 9 => .boolean
  | 10 => .array .int
  | 11 => .int
  | 12 => .int
  | 13 => .array .int
  | 14 => .int
  | _ => .array .int
abbrev wsX50 : List Cond := u_ws RX5 TX5 16
theorem nmX5 : ∀ a, a < 16 → ∀ b, b < 16 → a ≠ b → (TX5 a).2.1 ≠ (TX5 b).2.1 := by decide +kernel
theorem tyX5_ok : ∀ k, k < 16 → parseFieldDescriptor (TX5 k).2.2.1 = some (tyX5 k) := by decide +kernel
abbrev cX5_init : ByteArray := prog_7_method_1_code
def yX5_init : MethodName := ⟨RX5, "<init>", "()V"⟩
abbrev cX5_in : ByteArray := prog_7_method_2_code
def yX5_in : MethodName := ⟨RX5, "in", "(III)Z"⟩
abbrev cX5_isTrack : ByteArray := prog_7_method_3_code
def yX5_isTrack : MethodName := ⟨RX5, "isTrack", "(I)Z"⟩
abbrev cX5_no : ByteArray := prog_7_method_4_code
def yX5_no : MethodName := ⟨RX5, "no", "(I)I"⟩
abbrev cX5_countOf : ByteArray := prog_7_method_5_code
def yX5_countOf : MethodName := ⟨RX5, "countOf", "(I)I"⟩
abbrev cX5_at : ByteArray := prog_7_method_6_code
def yX5_at : MethodName := ⟨RX5, "at", "(II)I"⟩
abbrev cX5_loadOf : ByteArray := prog_7_method_7_code
def yX5_loadOf : MethodName := ⟨RX5, "loadOf", "(I)I"⟩
abbrev cX5_place : ByteArray := prog_7_method_8_code
def yX5_place : MethodName := ⟨RX5, "place", "(III)I"⟩
abbrev cX5_take : ByteArray := prog_7_method_9_code
def yX5_take : MethodName := ⟨RX5, "take", "(I)I"⟩
abbrev cX5_shunt : ByteArray := prog_7_method_10_code
def yX5_shunt : MethodName := ⟨RX5, "shunt", "(III)I"⟩
abbrev cX5_couple : ByteArray := prog_7_method_11_code
def yX5_couple : MethodName := ⟨RX5, "couple", "(II)I"⟩
abbrev cX5_crates : ByteArray := prog_7_method_12_code
def yX5_crates : MethodName := ⟨RX5, "crates", "(III)I"⟩
abbrev cX5_against : ByteArray := prog_7_method_13_code
def yX5_against : MethodName := ⟨RX5, "against", "(II)I"⟩
abbrev cX5_load : ByteArray := prog_7_method_14_code
def yX5_load : MethodName := ⟨RX5, "load", "(IIII)I"⟩
abbrev cX5_crate : ByteArray := prog_7_method_15_code
def yX5_crate : MethodName := ⟨RX5, "crate", "(III)I"⟩
abbrev cX5_length : ByteArray := prog_7_method_16_code
def yX5_length : MethodName := ⟨RX5, "length", "(II)I"⟩
abbrev cX5_weigh : ByteArray := prog_7_method_17_code
def yX5_weigh : MethodName := ⟨RX5, "weigh", "(II)I"⟩
abbrev cX5_defect : ByteArray := prog_7_method_18_code
def yX5_defect : MethodName := ⟨RX5, "defect", "(III)I"⟩
abbrev cX5_reported : ByteArray := prog_7_method_19_code
def yX5_reported : MethodName := ⟨RX5, "reported", "(I)I"⟩
abbrev cX5_report : ByteArray := prog_7_method_20_code
def yX5_report : MethodName := ⟨RX5, "report", "(II)I"⟩
abbrev cX5_draw : ByteArray := prog_7_method_21_code
def yX5_draw : MethodName := ⟨RX5, "draw", "(I)I"⟩
abbrev cX5_level : ByteArray := prog_7_method_22_code
def yX5_level : MethodName := ⟨RX5, "level", "()I"⟩
abbrev cX5_clear : ByteArray := prog_7_method_23_code
def yX5_clear : MethodName := ⟨RX5, "clear", "()V"⟩
abbrev cX5_empty : ByteArray := prog_7_method_24_code
def yX5_empty : MethodName := ⟨RX5, "empty", "(I)V"⟩
abbrev cX5_siding : ByteArray := prog_7_method_25_code
def yX5_siding : MethodName := ⟨RX5, "siding", "(IZ)I"⟩
abbrev cX5_room : ByteArray := prog_7_method_26_code
def yX5_room : MethodName := ⟨RX5, "room", "()I"⟩
abbrev cX5_stow : ByteArray := prog_7_method_27_code
def yX5_stow : MethodName := ⟨RX5, "stow", "(II)I"⟩
abbrev cX5_fetch : ByteArray := prog_7_method_28_code
def yX5_fetch : MethodName := ⟨RX5, "fetch", "(II)I"⟩
abbrev cX5_plan : ByteArray := prog_7_method_29_code
def yX5_plan : MethodName := ⟨RX5, "plan", "(II)I"⟩
abbrev cX5_against_ : ByteArray := prog_7_method_30_code
def yX5_against_ : MethodName := ⟨RX5, "against", "(III)I"⟩
abbrev cX5_note : ByteArray := prog_7_method_31_code
def yX5_note : MethodName := ⟨RX5, "note", "(III)I"⟩
abbrev cX5_noted : ByteArray := prog_7_method_32_code
def yX5_noted : MethodName := ⟨RX5, "noted", "(II)I"⟩
abbrev cX5_wide : ByteArray := prog_7_method_33_code
def yX5_wide : MethodName := ⟨RX5, "wide", "(I)I"⟩
abbrev cX5_away : ByteArray := prog_7_method_34_code
def yX5_away : MethodName := ⟨RX5, "away", "(I)I"⟩
abbrev cX5_about : ByteArray := prog_7_method_35_code
def yX5_about : MethodName := ⟨RX5, "about", "(III)I"⟩
abbrev cX5_count : ByteArray := prog_7_method_36_code
def yX5_count : MethodName := ⟨RX5, "count", "(I)I"⟩
abbrev cX5_reasons : ByteArray := prog_7_method_37_code
def yX5_reasons : MethodName := ⟨RX5, "reasons", "(I)I"⟩
def RL : String := "TankSidingsLaw"
abbrev cL_law : ByteArray := code
def yL_law : MethodName := ⟨RL, "law", "([I)Z"⟩
def wsX0_init : List Cond := .code yX0_init cX0_init 3 none :: ([.methodLink RX0 1 objectInit, .instanceMethod objectInit, .code objectInit ⟨#[0xb1]⟩ 1 none, .fieldLink RX0 7 "TankSidings$Plan" "rows" "I", .fieldLink RX0 13 "TankSidings$Plan" "width" "I", .arrayClass .int, .fieldLink RX0 16 "TankSidings$Plan" "numbers" "[I"] ++ wsX00)
def wsX0_slot : List Cond := .code yX0_slot cX0_slot 3 (some .int) :: ([.fieldLink RX0 13 "TankSidings$Plan" "width" "I"] ++ wsX00)
def wsX1_init : List Cond := .code yX1_init cX1_init 3 none :: ([.methodLink RX1 3 objectInit, .instanceMethod objectInit, .code objectInit ⟨#[0xb1]⟩ 1 none, .classLink RX1 9 RX3, .fieldLink RX1 11 "TankSidings$Siding" "places" "[LTankSidings$Vehicle;", .fieldLink RX1 17 "TankSidings$Siding" "tanksAlone" "Z"] ++ wsX10)
def wsX1_accepts : List Cond := .code yX1_accepts cX1_accepts 2 (some .boolean) :: ([.fieldLink RX1 17 "TankSidings$Siding" "tanksAlone" "Z", .fieldLink RX1 21 "TankSidings$Vehicle" "sort" "I"] ++ wsX10 ++ wsX30)
def wsX2_init : List Cond := .code yX2_init cX2_init 1 none :: ([.methodLink RX2 3 objectInit, .instanceMethod objectInit, .code objectInit ⟨#[0xb1]⟩ 1 none])
def wsX2_vehicleAt : List Cond := .code yX2_vehicleAt cX2_vehicleAt 4 (some (.object "TankSidings$Vehicle")) :: ([.fieldLink RX2 9 "TankSidings$Track" "size" "I", .fieldLink RX2 15 "TankSidings$Track" "front" "LTankSidings$Vehicle;", .fieldLink RX2 19 "TankSidings$Vehicle" "behind" "LTankSidings$Vehicle;"] ++ wsX20 ++ wsX30)
def wsX2_firstGraveBehindFront : List Cond := .code yX2_firstGraveBehindFront cX2_firstGraveBehindFront 3 (some (.object "TankSidings$Vehicle")) :: ([.fieldLink RX2 9 "TankSidings$Track" "size" "I", .fieldLink RX2 28 "TankSidings$Vehicle" "defectLevel" "I", .fieldLink RX2 19 "TankSidings$Vehicle" "behind" "LTankSidings$Vehicle;", .methodLink RX2 24 yX2_vehicleAt, .instanceMethod yX2_vehicleAt, .selects RX2 yX2_vehicleAt yX2_vehicleAt, .initialized RX2, .code yX2_vehicleAt cX2_vehicleAt 4 (some (.object "TankSidings$Vehicle")), .fieldLink RX2 15 "TankSidings$Track" "front" "LTankSidings$Vehicle;"] ++ wsX20 ++ wsX30)
def wsX3_fullWeight : List Cond := .code yX3_fullWeight cX3_fullWeight 6 (some .int) :: ([.fieldLink RX3 13 "TankSidings$Vehicle" "weight" "I", .fieldLink RX3 16 "TankSidings$Vehicle" "row" "[I"] ++ wsX30)
def wsX2_weightBehindFront : List Cond := .code yX2_weightBehindFront cX2_weightBehindFront 4 (some .int) :: ([.fieldLink RX2 9 "TankSidings$Track" "size" "I", .fieldLink RX2 19 "TankSidings$Vehicle" "behind" "LTankSidings$Vehicle;", .methodLink RX2 24 yX2_vehicleAt, .instanceMethod yX2_vehicleAt, .selects RX2 yX2_vehicleAt yX2_vehicleAt, .initialized RX2, .code yX2_vehicleAt cX2_vehicleAt 4 (some (.object "TankSidings$Vehicle")), .fieldLink RX2 15 "TankSidings$Track" "front" "LTankSidings$Vehicle;", .methodLink RX2 31 yX3_fullWeight, .instanceMethod yX3_fullWeight, .selects RX3 yX3_fullWeight yX3_fullWeight, .initialized RX3, .code yX3_fullWeight cX3_fullWeight 6 (some .int), .fieldLink RX3 13 "TankSidings$Vehicle" "weight" "I", .fieldLink RX3 16 "TankSidings$Vehicle" "row" "[I"] ++ wsX20 ++ wsX30)
def wsX2_putAhead : List Cond := .code yX2_putAhead cX2_putAhead 2 none :: ([.fieldLink RX2 15 "TankSidings$Track" "front" "LTankSidings$Vehicle;", .fieldLink RX2 19 "TankSidings$Vehicle" "behind" "LTankSidings$Vehicle;", .fieldLink RX2 9 "TankSidings$Track" "size" "I"] ++ wsX20 ++ wsX30)
def wsX2_removeFront : List Cond := .code yX2_removeFront cX2_removeFront 2 (some (.object "TankSidings$Vehicle")) :: ([.fieldLink RX2 15 "TankSidings$Track" "front" "LTankSidings$Vehicle;", .fieldLink RX2 19 "TankSidings$Vehicle" "behind" "LTankSidings$Vehicle;", .fieldLink RX2 9 "TankSidings$Track" "size" "I"] ++ wsX20 ++ wsX30)
def wsX2_moveFirst : List Cond := .code yX2_moveFirst cX2_moveFirst 5 (some .boolean) :: ([.fieldLink RX2 19 "TankSidings$Vehicle" "behind" "LTankSidings$Vehicle;", .fieldLink RX2 15 "TankSidings$Track" "front" "LTankSidings$Vehicle;", .fieldLink RX2 9 "TankSidings$Track" "size" "I", .methodLink RX2 24 yX2_vehicleAt, .instanceMethod yX2_vehicleAt, .selects RX2 yX2_vehicleAt yX2_vehicleAt, .initialized RX2, .code yX2_vehicleAt cX2_vehicleAt 4 (some (.object "TankSidings$Vehicle"))] ++ wsX30 ++ wsX20)
def wsX2_appendAll : List Cond := .code yX2_appendAll cX2_appendAll 3 (some .boolean) :: ([.fieldLink RX2 9 "TankSidings$Track" "size" "I", .fieldLink RX2 15 "TankSidings$Track" "front" "LTankSidings$Vehicle;", .fieldLink RX2 19 "TankSidings$Vehicle" "behind" "LTankSidings$Vehicle;", .methodLink RX2 24 yX2_vehicleAt, .instanceMethod yX2_vehicleAt, .selects RX2 yX2_vehicleAt yX2_vehicleAt, .initialized RX2, .code yX2_vehicleAt cX2_vehicleAt 4 (some (.object "TankSidings$Vehicle"))] ++ wsX20 ++ wsX30)
def wsX3_init : List Cond := .code yX3_init cX3_init 3 none :: ([.methodLink RX3 1 objectInit, .instanceMethod objectInit, .code objectInit ⟨#[0xb1]⟩ 1 none, .fieldLink RX3 7 "TankSidings$Vehicle" "sort" "I", .fieldLink RX3 13 "TankSidings$Vehicle" "weight" "I"] ++ wsX30)
def wsX4_init : List Cond := .code yX4_init cX4_init 2 none :: ([.methodLink RX4 1 objectInit, .instanceMethod objectInit, .code objectInit ⟨#[0xb1]⟩ 1 none, .classLink RX4 9 RX2, .fieldLink RX4 11 "TankSidings" "tracks" "[LTankSidings$Track;", .arrayClass .int, .fieldLink RX4 15 "TankSidings" "told" "[I", .instantiable RX2 2, .initialized RX2, .instanceMethod yX2_init, .code yX2_init cX2_init 1 none, .methodLink RX2 3 objectInit] ++ wsX40 ++ wsX20)
def wsX4_isTrack : List Cond := .code yX4_isTrack cX4_isTrack 1 (some .boolean) :: ([])
def wsX4_isWithin : List Cond := .code yX4_isWithin cX4_isWithin 3 (some .boolean) :: ([])
def wsX4_place_r1 : List Cond := [Cond.fieldLink RX4 28 "TankSidings" "placed" "I", Cond.fieldLink RX4 11 "TankSidings" "tracks" "[LTankSidings$Track;", Cond.classLink RX4 32 RX3, Cond.instantiable RX3 5, Cond.initialized RX3, Cond.fieldLink RX4 41 "TankSidings$Track" "size" "I", Cond.methodLink RX4 20 yX4_isTrack, Cond.static yX4_isTrack, Cond.initialized RX4, Cond.code yX4_isTrack cX4_isTrack 1 (some .boolean), Cond.methodLink RX4 24 yX4_isWithin, Cond.static yX4_isWithin, Cond.code yX4_isWithin cX4_isWithin 3 (some .boolean), Cond.methodLink RX4 34 yX3_init, Cond.instanceMethod yX3_init, Cond.code yX3_init cX3_init 3 none, Cond.methodLink RX3 1 objectInit, Cond.instanceMethod objectInit, Cond.code objectInit ⟨#[0xb1]⟩ 1 none, Cond.fieldLink RX3 7 "TankSidings$Vehicle" "sort" "I", Cond.fieldLink RX3 13 "TankSidings$Vehicle" "weight" "I", Cond.methodLink RX4 37 yX2_putAhead, Cond.instanceMethod yX2_putAhead, Cond.selects RX2 yX2_putAhead yX2_putAhead]
def wsX4_place_r2 : List Cond := [Cond.initialized RX2, Cond.code yX2_putAhead cX2_putAhead 2 none, Cond.fieldLink RX2 15 "TankSidings$Track" "front" "LTankSidings$Vehicle;", Cond.fieldLink RX2 19 "TankSidings$Vehicle" "behind" "LTankSidings$Vehicle;", Cond.fieldLink RX2 9 "TankSidings$Track" "size" "I"]
def wsX4_place : List Cond := .code yX4_place cX4_place 5 (some .int) :: ((wsX4_place_r1 ++ wsX4_place_r2) ++ wsX40 ++ wsX30 ++ wsX20)
def wsX4_tell : List Cond := .code yX4_tell cX4_tell 2 (some .int) :: ([.fieldLink RX4 15 "TankSidings" "told" "[I"] ++ wsX40)
def wsX4_take_r1 : List Cond := [Cond.fieldLink RX4 11 "TankSidings" "tracks" "[LTankSidings$Track;", Cond.methodLink RX4 20 yX4_isTrack, Cond.static yX4_isTrack, Cond.initialized RX4, Cond.code yX4_isTrack cX4_isTrack 1 (some .boolean), Cond.methodLink RX4 44 yX2_removeFront, Cond.instanceMethod yX2_removeFront, Cond.selects RX2 yX2_removeFront yX2_removeFront, Cond.initialized RX2, Cond.code yX2_removeFront cX2_removeFront 2 (some (.object "TankSidings$Vehicle")), Cond.fieldLink RX2 15 "TankSidings$Track" "front" "LTankSidings$Vehicle;", Cond.fieldLink RX2 19 "TankSidings$Vehicle" "behind" "LTankSidings$Vehicle;", Cond.fieldLink RX2 9 "TankSidings$Track" "size" "I", Cond.methodLink RX4 48 yX4_tell, Cond.instanceMethod yX4_tell, Cond.selects RX4 yX4_tell yX4_tell, Cond.code yX4_tell cX4_tell 2 (some .int), Cond.fieldLink RX4 15 "TankSidings" "told" "[I", Cond.methodLink RX4 52 yX3_fullWeight, Cond.instanceMethod yX3_fullWeight, Cond.selects RX3 yX3_fullWeight yX3_fullWeight, Cond.initialized RX3, Cond.code yX3_fullWeight cX3_fullWeight 6 (some .int), Cond.fieldLink RX3 13 "TankSidings$Vehicle" "weight" "I"]
def wsX4_take_r2 : List Cond := [Cond.fieldLink RX3 16 "TankSidings$Vehicle" "row" "[I"]
def wsX4_take : List Cond := .code yX4_take cX4_take 3 (some .int) :: ((wsX4_take_r1 ++ wsX4_take_r2) ++ wsX40 ++ wsX20 ++ wsX30)
def wsX4_areTwoTracks : List Cond := .code yX4_areTwoTracks cX4_areTwoTracks 2 (some .boolean) :: ([.methodLink RX4 20 yX4_isTrack, .static yX4_isTrack, .initialized RX4, .code yX4_isTrack cX4_isTrack 1 (some .boolean)])
def wsX4_shunt_r1 : List Cond := [Cond.fieldLink RX4 11 "TankSidings" "tracks" "[LTankSidings$Track;", Cond.methodLink RX4 56 yX4_areTwoTracks, Cond.static yX4_areTwoTracks, Cond.initialized RX4, Cond.code yX4_areTwoTracks cX4_areTwoTracks 2 (some .boolean), Cond.methodLink RX4 20 yX4_isTrack, Cond.static yX4_isTrack, Cond.code yX4_isTrack cX4_isTrack 1 (some .boolean), Cond.methodLink RX4 24 yX4_isWithin, Cond.static yX4_isWithin, Cond.code yX4_isWithin cX4_isWithin 3 (some .boolean), Cond.methodLink RX4 60 yX2_moveFirst, Cond.instanceMethod yX2_moveFirst, Cond.selects RX2 yX2_moveFirst yX2_moveFirst, Cond.initialized RX2, Cond.code yX2_moveFirst cX2_moveFirst 5 (some .boolean), Cond.fieldLink RX2 19 "TankSidings$Vehicle" "behind" "LTankSidings$Vehicle;", Cond.fieldLink RX2 15 "TankSidings$Track" "front" "LTankSidings$Vehicle;", Cond.fieldLink RX2 9 "TankSidings$Track" "size" "I", Cond.methodLink RX2 24 yX2_vehicleAt, Cond.instanceMethod yX2_vehicleAt, Cond.selects RX2 yX2_vehicleAt yX2_vehicleAt, Cond.code yX2_vehicleAt cX2_vehicleAt 4 (some (.object "TankSidings$Vehicle")), Cond.methodLink RX4 48 yX4_tell]
def wsX4_shunt_r2 : List Cond := [Cond.instanceMethod yX4_tell, Cond.selects RX4 yX4_tell yX4_tell, Cond.code yX4_tell cX4_tell 2 (some .int), Cond.fieldLink RX4 15 "TankSidings" "told" "[I"]
def wsX4_shunt : List Cond := .code yX4_shunt cX4_shunt 4 (some .int) :: ((wsX4_shunt_r1 ++ wsX4_shunt_r2) ++ wsX40 ++ wsX30 ++ wsX20)
def wsX4_couple_r1 : List Cond := [Cond.fieldLink RX4 11 "TankSidings" "tracks" "[LTankSidings$Track;", Cond.fieldLink RX4 41 "TankSidings$Track" "size" "I", Cond.methodLink RX4 56 yX4_areTwoTracks, Cond.static yX4_areTwoTracks, Cond.initialized RX4, Cond.code yX4_areTwoTracks cX4_areTwoTracks 2 (some .boolean), Cond.methodLink RX4 20 yX4_isTrack, Cond.static yX4_isTrack, Cond.code yX4_isTrack cX4_isTrack 1 (some .boolean), Cond.methodLink RX4 64 yX2_appendAll, Cond.instanceMethod yX2_appendAll, Cond.selects RX2 yX2_appendAll yX2_appendAll, Cond.initialized RX2, Cond.code yX2_appendAll cX2_appendAll 3 (some .boolean), Cond.fieldLink RX2 9 "TankSidings$Track" "size" "I", Cond.fieldLink RX2 15 "TankSidings$Track" "front" "LTankSidings$Vehicle;", Cond.fieldLink RX2 19 "TankSidings$Vehicle" "behind" "LTankSidings$Vehicle;", Cond.methodLink RX2 24 yX2_vehicleAt, Cond.instanceMethod yX2_vehicleAt, Cond.selects RX2 yX2_vehicleAt yX2_vehicleAt, Cond.code yX2_vehicleAt cX2_vehicleAt 4 (some (.object "TankSidings$Vehicle")), Cond.methodLink RX4 48 yX4_tell, Cond.instanceMethod yX4_tell, Cond.selects RX4 yX4_tell yX4_tell]
def wsX4_couple_r2 : List Cond := [Cond.code yX4_tell cX4_tell 2 (some .int), Cond.fieldLink RX4 15 "TankSidings" "told" "[I"]
def wsX4_couple : List Cond := .code yX4_couple cX4_couple 3 (some .int) :: ((wsX4_couple_r1 ++ wsX4_couple_r2) ++ wsX40 ++ wsX20 ++ wsX30)
def wsX4_isPosition : List Cond := .code yX4_isPosition cX4_isPosition 2 (some .boolean) :: ([.methodLink RX4 20 yX4_isTrack, .static yX4_isTrack, .initialized RX4, .code yX4_isTrack cX4_isTrack 1 (some .boolean)])
def wsX4_isEngine : List Cond := .code yX4_isEngine cX4_isEngine 1 (some .boolean) :: ([.fieldLink RX4 154 "TankSidings$Vehicle" "sort" "I"] ++ wsX30)
def wsX4_crates_r1 : List Cond := [Cond.fieldLink RX4 11 "TankSidings" "tracks" "[LTankSidings$Track;", Cond.arrayClass .int, Cond.fieldLink RX4 79 "TankSidings$Vehicle" "row" "[I", Cond.methodLink RX4 68 yX4_isPosition, Cond.static yX4_isPosition, Cond.initialized RX4, Cond.code yX4_isPosition cX4_isPosition 2 (some .boolean), Cond.methodLink RX4 20 yX4_isTrack, Cond.static yX4_isTrack, Cond.code yX4_isTrack cX4_isTrack 1 (some .boolean), Cond.methodLink RX4 71 yX2_vehicleAt, Cond.instanceMethod yX2_vehicleAt, Cond.selects RX2 yX2_vehicleAt yX2_vehicleAt, Cond.initialized RX2, Cond.code yX2_vehicleAt cX2_vehicleAt 4 (some (.object "TankSidings$Vehicle")), Cond.fieldLink RX2 9 "TankSidings$Track" "size" "I", Cond.fieldLink RX2 15 "TankSidings$Track" "front" "LTankSidings$Vehicle;", Cond.fieldLink RX2 19 "TankSidings$Vehicle" "behind" "LTankSidings$Vehicle;", Cond.methodLink RX4 75 yX4_isEngine, Cond.static yX4_isEngine, Cond.code yX4_isEngine cX4_isEngine 1 (some .boolean), Cond.fieldLink RX4 154 "TankSidings$Vehicle" "sort" "I", Cond.methodLink RX4 48 yX4_tell, Cond.instanceMethod yX4_tell]
def wsX4_crates_r2 : List Cond := [Cond.selects RX4 yX4_tell yX4_tell, Cond.code yX4_tell cX4_tell 2 (some .int), Cond.fieldLink RX4 15 "TankSidings" "told" "[I"]
def wsX4_crates : List Cond := .code yX4_crates cX4_crates 5 (some .int) :: ((wsX4_crates_r1 ++ wsX4_crates_r2) ++ wsX40 ++ wsX30 ++ wsX20)
def wsX4_whyNoRow : List Cond := .code yX4_whyNoRow cX4_whyNoRow 1 (some .int) :: ([.fieldLink RX4 79 "TankSidings$Vehicle" "row" "[I", .methodLink RX4 75 yX4_isEngine, .static yX4_isEngine, .initialized RX4, .code yX4_isEngine cX4_isEngine 1 (some .boolean), .fieldLink RX4 154 "TankSidings$Vehicle" "sort" "I"] ++ wsX30)
def wsX4_whyNoCrate : List Cond := .code yX4_whyNoCrate cX4_whyNoCrate 3 (some .int) :: ([.fieldLink RX4 79 "TankSidings$Vehicle" "row" "[I", .methodLink RX4 86 yX4_whyNoRow, .static yX4_whyNoRow, .initialized RX4, .code yX4_whyNoRow cX4_whyNoRow 1 (some .int), .methodLink RX4 75 yX4_isEngine, .static yX4_isEngine, .code yX4_isEngine cX4_isEngine 1 (some .boolean), .fieldLink RX4 154 "TankSidings$Vehicle" "sort" "I"] ++ wsX30)
def wsX4_load_r1 : List Cond := [Cond.fieldLink RX4 11 "TankSidings" "tracks" "[LTankSidings$Track;", Cond.fieldLink RX4 79 "TankSidings$Vehicle" "row" "[I", Cond.methodLink RX4 68 yX4_isPosition, Cond.static yX4_isPosition, Cond.initialized RX4, Cond.code yX4_isPosition cX4_isPosition 2 (some .boolean), Cond.methodLink RX4 20 yX4_isTrack, Cond.static yX4_isTrack, Cond.code yX4_isTrack cX4_isTrack 1 (some .boolean), Cond.methodLink RX4 24 yX4_isWithin, Cond.static yX4_isWithin, Cond.code yX4_isWithin cX4_isWithin 3 (some .boolean), Cond.methodLink RX4 71 yX2_vehicleAt, Cond.instanceMethod yX2_vehicleAt, Cond.selects RX2 yX2_vehicleAt yX2_vehicleAt, Cond.initialized RX2, Cond.code yX2_vehicleAt cX2_vehicleAt 4 (some (.object "TankSidings$Vehicle")), Cond.fieldLink RX2 9 "TankSidings$Track" "size" "I", Cond.fieldLink RX2 15 "TankSidings$Track" "front" "LTankSidings$Vehicle;", Cond.fieldLink RX2 19 "TankSidings$Vehicle" "behind" "LTankSidings$Vehicle;", Cond.methodLink RX4 82 yX4_whyNoCrate, Cond.static yX4_whyNoCrate, Cond.code yX4_whyNoCrate cX4_whyNoCrate 3 (some .int), Cond.methodLink RX4 86 yX4_whyNoRow]
def wsX4_load_r2 : List Cond := [Cond.static yX4_whyNoRow, Cond.code yX4_whyNoRow cX4_whyNoRow 1 (some .int), Cond.methodLink RX4 75 yX4_isEngine, Cond.static yX4_isEngine, Cond.code yX4_isEngine cX4_isEngine 1 (some .boolean), Cond.fieldLink RX4 154 "TankSidings$Vehicle" "sort" "I", Cond.methodLink RX4 48 yX4_tell, Cond.instanceMethod yX4_tell, Cond.selects RX4 yX4_tell yX4_tell, Cond.code yX4_tell cX4_tell 2 (some .int), Cond.fieldLink RX4 15 "TankSidings" "told" "[I"]
def wsX4_load : List Cond := .code yX4_load cX4_load 7 (some .int) :: ((wsX4_load_r1 ++ wsX4_load_r2) ++ wsX40 ++ wsX30 ++ wsX20)
def wsX4_crate_r1 : List Cond := [Cond.fieldLink RX4 11 "TankSidings" "tracks" "[LTankSidings$Track;", Cond.fieldLink RX4 79 "TankSidings$Vehicle" "row" "[I", Cond.methodLink RX4 68 yX4_isPosition, Cond.static yX4_isPosition, Cond.initialized RX4, Cond.code yX4_isPosition cX4_isPosition 2 (some .boolean), Cond.methodLink RX4 20 yX4_isTrack, Cond.static yX4_isTrack, Cond.code yX4_isTrack cX4_isTrack 1 (some .boolean), Cond.methodLink RX4 71 yX2_vehicleAt, Cond.instanceMethod yX2_vehicleAt, Cond.selects RX2 yX2_vehicleAt yX2_vehicleAt, Cond.initialized RX2, Cond.code yX2_vehicleAt cX2_vehicleAt 4 (some (.object "TankSidings$Vehicle")), Cond.fieldLink RX2 9 "TankSidings$Track" "size" "I", Cond.fieldLink RX2 15 "TankSidings$Track" "front" "LTankSidings$Vehicle;", Cond.fieldLink RX2 19 "TankSidings$Vehicle" "behind" "LTankSidings$Vehicle;", Cond.methodLink RX4 82 yX4_whyNoCrate, Cond.static yX4_whyNoCrate, Cond.code yX4_whyNoCrate cX4_whyNoCrate 3 (some .int), Cond.methodLink RX4 86 yX4_whyNoRow, Cond.static yX4_whyNoRow, Cond.code yX4_whyNoRow cX4_whyNoRow 1 (some .int), Cond.methodLink RX4 75 yX4_isEngine]
def wsX4_crate_r2 : List Cond := [Cond.static yX4_isEngine, Cond.code yX4_isEngine cX4_isEngine 1 (some .boolean), Cond.fieldLink RX4 154 "TankSidings$Vehicle" "sort" "I", Cond.methodLink RX4 48 yX4_tell, Cond.instanceMethod yX4_tell, Cond.selects RX4 yX4_tell yX4_tell, Cond.code yX4_tell cX4_tell 2 (some .int), Cond.fieldLink RX4 15 "TankSidings" "told" "[I"]
def wsX4_crate : List Cond := .code yX4_crate cX4_crate 6 (some .int) :: ((wsX4_crate_r1 ++ wsX4_crate_r2) ++ wsX40 ++ wsX30 ++ wsX20)
def wsX4_length_r1 : List Cond := [Cond.fieldLink RX4 11 "TankSidings" "tracks" "[LTankSidings$Track;", Cond.fieldLink RX4 79 "TankSidings$Vehicle" "row" "[I", Cond.methodLink RX4 68 yX4_isPosition, Cond.static yX4_isPosition, Cond.initialized RX4, Cond.code yX4_isPosition cX4_isPosition 2 (some .boolean), Cond.methodLink RX4 20 yX4_isTrack, Cond.static yX4_isTrack, Cond.code yX4_isTrack cX4_isTrack 1 (some .boolean), Cond.methodLink RX4 71 yX2_vehicleAt, Cond.instanceMethod yX2_vehicleAt, Cond.selects RX2 yX2_vehicleAt yX2_vehicleAt, Cond.initialized RX2, Cond.code yX2_vehicleAt cX2_vehicleAt 4 (some (.object "TankSidings$Vehicle")), Cond.fieldLink RX2 9 "TankSidings$Track" "size" "I", Cond.fieldLink RX2 15 "TankSidings$Track" "front" "LTankSidings$Vehicle;", Cond.fieldLink RX2 19 "TankSidings$Vehicle" "behind" "LTankSidings$Vehicle;", Cond.methodLink RX4 86 yX4_whyNoRow, Cond.static yX4_whyNoRow, Cond.code yX4_whyNoRow cX4_whyNoRow 1 (some .int), Cond.methodLink RX4 75 yX4_isEngine, Cond.static yX4_isEngine, Cond.code yX4_isEngine cX4_isEngine 1 (some .boolean), Cond.fieldLink RX4 154 "TankSidings$Vehicle" "sort" "I"]
def wsX4_length_r2 : List Cond := [Cond.methodLink RX4 48 yX4_tell, Cond.instanceMethod yX4_tell, Cond.selects RX4 yX4_tell yX4_tell, Cond.code yX4_tell cX4_tell 2 (some .int), Cond.fieldLink RX4 15 "TankSidings" "told" "[I"]
def wsX4_length : List Cond := .code yX4_length cX4_length 5 (some .int) :: ((wsX4_length_r1 ++ wsX4_length_r2) ++ wsX40 ++ wsX30 ++ wsX20)
def wsX4_weigh_r1 : List Cond := [Cond.fieldLink RX4 11 "TankSidings" "tracks" "[LTankSidings$Track;", Cond.methodLink RX4 68 yX4_isPosition, Cond.static yX4_isPosition, Cond.initialized RX4, Cond.code yX4_isPosition cX4_isPosition 2 (some .boolean), Cond.methodLink RX4 20 yX4_isTrack, Cond.static yX4_isTrack, Cond.code yX4_isTrack cX4_isTrack 1 (some .boolean), Cond.methodLink RX4 71 yX2_vehicleAt, Cond.instanceMethod yX2_vehicleAt, Cond.selects RX2 yX2_vehicleAt yX2_vehicleAt, Cond.initialized RX2, Cond.code yX2_vehicleAt cX2_vehicleAt 4 (some (.object "TankSidings$Vehicle")), Cond.fieldLink RX2 9 "TankSidings$Track" "size" "I", Cond.fieldLink RX2 15 "TankSidings$Track" "front" "LTankSidings$Vehicle;", Cond.fieldLink RX2 19 "TankSidings$Vehicle" "behind" "LTankSidings$Vehicle;", Cond.methodLink RX4 48 yX4_tell, Cond.instanceMethod yX4_tell, Cond.selects RX4 yX4_tell yX4_tell, Cond.code yX4_tell cX4_tell 2 (some .int), Cond.fieldLink RX4 15 "TankSidings" "told" "[I", Cond.methodLink RX4 52 yX3_fullWeight, Cond.instanceMethod yX3_fullWeight, Cond.selects RX3 yX3_fullWeight yX3_fullWeight]
def wsX4_weigh_r2 : List Cond := [Cond.initialized RX3, Cond.code yX3_fullWeight cX3_fullWeight 6 (some .int), Cond.fieldLink RX3 13 "TankSidings$Vehicle" "weight" "I", Cond.fieldLink RX3 16 "TankSidings$Vehicle" "row" "[I"]
def wsX4_weigh : List Cond := .code yX4_weigh cX4_weigh 4 (some .int) :: ((wsX4_weigh_r1 ++ wsX4_weigh_r2) ++ wsX40 ++ wsX20 ++ wsX30)
def wsX4_defect_r1 : List Cond := [Cond.fieldLink RX4 11 "TankSidings" "tracks" "[LTankSidings$Track;", Cond.fieldLink RX4 90 "TankSidings$Vehicle" "defectLevel" "I", Cond.methodLink RX4 68 yX4_isPosition, Cond.static yX4_isPosition, Cond.initialized RX4, Cond.code yX4_isPosition cX4_isPosition 2 (some .boolean), Cond.methodLink RX4 20 yX4_isTrack, Cond.static yX4_isTrack, Cond.code yX4_isTrack cX4_isTrack 1 (some .boolean), Cond.methodLink RX4 24 yX4_isWithin, Cond.static yX4_isWithin, Cond.code yX4_isWithin cX4_isWithin 3 (some .boolean), Cond.methodLink RX4 71 yX2_vehicleAt, Cond.instanceMethod yX2_vehicleAt, Cond.selects RX2 yX2_vehicleAt yX2_vehicleAt, Cond.initialized RX2, Cond.code yX2_vehicleAt cX2_vehicleAt 4 (some (.object "TankSidings$Vehicle")), Cond.fieldLink RX2 9 "TankSidings$Track" "size" "I", Cond.fieldLink RX2 15 "TankSidings$Track" "front" "LTankSidings$Vehicle;", Cond.fieldLink RX2 19 "TankSidings$Vehicle" "behind" "LTankSidings$Vehicle;", Cond.methodLink RX4 48 yX4_tell, Cond.instanceMethod yX4_tell, Cond.selects RX4 yX4_tell yX4_tell, Cond.code yX4_tell cX4_tell 2 (some .int)]
def wsX4_defect_r2 : List Cond := [Cond.fieldLink RX4 15 "TankSidings" "told" "[I"]
def wsX4_defect : List Cond := .code yX4_defect cX4_defect 5 (some .int) :: ((wsX4_defect_r1 ++ wsX4_defect_r2) ++ wsX40 ++ wsX30 ++ wsX20)
def wsX4_tellLevel : List Cond := .code yX4_tellLevel cX4_tellLevel 3 (some .int) :: ([.fieldLink RX4 110 "TankSidings" "latestLevel" "I", .methodLink RX4 48 yX4_tell, .instanceMethod yX4_tell, .selects RX4 yX4_tell yX4_tell, .initialized RX4, .code yX4_tell cX4_tell 2 (some .int), .fieldLink RX4 15 "TankSidings" "told" "[I"] ++ wsX40)
def wsX4_report_r1 : List Cond := [Cond.fieldLink RX4 11 "TankSidings" "tracks" "[LTankSidings$Track;", Cond.fieldLink RX4 90 "TankSidings$Vehicle" "defectLevel" "I", Cond.methodLink RX4 68 yX4_isPosition, Cond.static yX4_isPosition, Cond.initialized RX4, Cond.code yX4_isPosition cX4_isPosition 2 (some .boolean), Cond.methodLink RX4 20 yX4_isTrack, Cond.static yX4_isTrack, Cond.code yX4_isTrack cX4_isTrack 1 (some .boolean), Cond.methodLink RX4 71 yX2_vehicleAt, Cond.instanceMethod yX2_vehicleAt, Cond.selects RX2 yX2_vehicleAt yX2_vehicleAt, Cond.initialized RX2, Cond.code yX2_vehicleAt cX2_vehicleAt 4 (some (.object "TankSidings$Vehicle")), Cond.fieldLink RX2 9 "TankSidings$Track" "size" "I", Cond.fieldLink RX2 15 "TankSidings$Track" "front" "LTankSidings$Vehicle;", Cond.fieldLink RX2 19 "TankSidings$Vehicle" "behind" "LTankSidings$Vehicle;", Cond.methodLink RX4 48 yX4_tell, Cond.instanceMethod yX4_tell, Cond.selects RX4 yX4_tell yX4_tell, Cond.code yX4_tell cX4_tell 2 (some .int), Cond.fieldLink RX4 15 "TankSidings" "told" "[I", Cond.methodLink RX4 93 yX4_tellLevel, Cond.instanceMethod yX4_tellLevel]
def wsX4_report_r2 : List Cond := [Cond.selects RX4 yX4_tellLevel yX4_tellLevel, Cond.code yX4_tellLevel cX4_tellLevel 3 (some .int), Cond.fieldLink RX4 110 "TankSidings" "latestLevel" "I"]
def wsX4_report : List Cond := .code yX4_report cX4_report 4 (some .int) :: ((wsX4_report_r1 ++ wsX4_report_r2) ++ wsX40 ++ wsX30 ++ wsX20)
def wsX4_draw_r1 : List Cond := [Cond.fieldLink RX4 11 "TankSidings" "tracks" "[LTankSidings$Track;", Cond.fieldLink RX4 97 "TankSidings$Track" "front" "LTankSidings$Vehicle;", Cond.fieldLink RX4 90 "TankSidings$Vehicle" "defectLevel" "I", Cond.fieldLink RX4 107 "TankSidings$Vehicle" "weight" "I", Cond.methodLink RX4 20 yX4_isTrack, Cond.static yX4_isTrack, Cond.initialized RX4, Cond.code yX4_isTrack cX4_isTrack 1 (some .boolean), Cond.methodLink RX4 48 yX4_tell, Cond.instanceMethod yX4_tell, Cond.selects RX4 yX4_tell yX4_tell, Cond.code yX4_tell cX4_tell 2 (some .int), Cond.fieldLink RX4 15 "TankSidings" "told" "[I", Cond.methodLink RX4 75 yX4_isEngine, Cond.static yX4_isEngine, Cond.code yX4_isEngine cX4_isEngine 1 (some .boolean), Cond.fieldLink RX4 154 "TankSidings$Vehicle" "sort" "I", Cond.methodLink RX4 101 yX2_firstGraveBehindFront, Cond.instanceMethod yX2_firstGraveBehindFront, Cond.selects RX2 yX2_firstGraveBehindFront yX2_firstGraveBehindFront, Cond.initialized RX2, Cond.code yX2_firstGraveBehindFront cX2_firstGraveBehindFront 3 (some (.object "TankSidings$Vehicle")), Cond.fieldLink RX2 9 "TankSidings$Track" "size" "I", Cond.fieldLink RX2 28 "TankSidings$Vehicle" "defectLevel" "I"]
def wsX4_draw_r2 : List Cond := [Cond.fieldLink RX2 19 "TankSidings$Vehicle" "behind" "LTankSidings$Vehicle;", Cond.methodLink RX2 24 yX2_vehicleAt, Cond.instanceMethod yX2_vehicleAt, Cond.selects RX2 yX2_vehicleAt yX2_vehicleAt, Cond.code yX2_vehicleAt cX2_vehicleAt 4 (some (.object "TankSidings$Vehicle")), Cond.fieldLink RX2 15 "TankSidings$Track" "front" "LTankSidings$Vehicle;", Cond.methodLink RX4 93 yX4_tellLevel, Cond.instanceMethod yX4_tellLevel, Cond.selects RX4 yX4_tellLevel yX4_tellLevel, Cond.code yX4_tellLevel cX4_tellLevel 3 (some .int), Cond.fieldLink RX4 110 "TankSidings" "latestLevel" "I", Cond.methodLink RX4 104 yX2_weightBehindFront, Cond.instanceMethod yX2_weightBehindFront, Cond.selects RX2 yX2_weightBehindFront yX2_weightBehindFront, Cond.code yX2_weightBehindFront cX2_weightBehindFront 4 (some .int), Cond.methodLink RX2 31 yX3_fullWeight, Cond.instanceMethod yX3_fullWeight, Cond.selects RX3 yX3_fullWeight yX3_fullWeight, Cond.initialized RX3, Cond.code yX3_fullWeight cX3_fullWeight 6 (some .int), Cond.fieldLink RX3 13 "TankSidings$Vehicle" "weight" "I", Cond.fieldLink RX3 16 "TankSidings$Vehicle" "row" "[I"]
def wsX4_draw : List Cond := .code yX4_draw cX4_draw 6 (some .int) :: ((wsX4_draw_r1 ++ wsX4_draw_r2) ++ wsX40 ++ wsX20 ++ wsX30)
def wsX4_level : List Cond := .code yX4_level cX4_level 1 (some .int) :: ([.fieldLink RX4 110 "TankSidings" "latestLevel" "I"] ++ wsX40)
def wsX4_siding : List Cond := .code yX4_siding cX4_siding 3 (some .int) :: ([.classLink RX4 113 RX1, .instantiable RX1 2, .initialized RX1, .fieldLink RX4 118 "TankSidings" "yardSiding" "LTankSidings$Siding;", .methodLink RX4 48 yX4_tell, .instanceMethod yX4_tell, .selects RX4 yX4_tell yX4_tell, .initialized RX4, .code yX4_tell cX4_tell 2 (some .int), .fieldLink RX4 15 "TankSidings" "told" "[I", .methodLink RX4 115 yX1_init, .instanceMethod yX1_init, .code yX1_init cX1_init 3 none, .methodLink RX1 3 objectInit, .instanceMethod objectInit, .code objectInit ⟨#[0xb1]⟩ 1 none, .classLink RX1 9 RX3, .fieldLink RX1 11 "TankSidings$Siding" "places" "[LTankSidings$Vehicle;", .fieldLink RX1 17 "TankSidings$Siding" "tanksAlone" "Z"] ++ wsX10 ++ wsX40)
def wsX4_room : List Cond := .code yX4_room cX4_room 1 (some .int) :: ([.fieldLink RX4 118 "TankSidings" "yardSiding" "LTankSidings$Siding;", .fieldLink RX4 122 "TankSidings$Siding" "places" "[LTankSidings$Vehicle;", .methodLink RX4 48 yX4_tell, .instanceMethod yX4_tell, .selects RX4 yX4_tell yX4_tell, .initialized RX4, .code yX4_tell cX4_tell 2 (some .int), .fieldLink RX4 15 "TankSidings" "told" "[I"] ++ wsX40 ++ wsX10)
def wsX4_whyNoPlace : List Cond := .code yX4_whyNoPlace cX4_whyNoPlace 2 (some .int) :: ([.fieldLink RX4 118 "TankSidings" "yardSiding" "LTankSidings$Siding;", .fieldLink RX4 122 "TankSidings$Siding" "places" "[LTankSidings$Vehicle;"] ++ wsX40 ++ wsX10)
def wsX4_stow_r1 : List Cond := [Cond.fieldLink RX4 11 "TankSidings" "tracks" "[LTankSidings$Track;", Cond.fieldLink RX4 97 "TankSidings$Track" "front" "LTankSidings$Vehicle;", Cond.fieldLink RX4 118 "TankSidings" "yardSiding" "LTankSidings$Siding;", Cond.fieldLink RX4 122 "TankSidings$Siding" "places" "[LTankSidings$Vehicle;", Cond.fieldLink RX4 41 "TankSidings$Track" "size" "I", Cond.methodLink RX4 20 yX4_isTrack, Cond.static yX4_isTrack, Cond.initialized RX4, Cond.code yX4_isTrack cX4_isTrack 1 (some .boolean), Cond.methodLink RX4 75 yX4_isEngine, Cond.static yX4_isEngine, Cond.code yX4_isEngine cX4_isEngine 1 (some .boolean), Cond.fieldLink RX4 154 "TankSidings$Vehicle" "sort" "I", Cond.methodLink RX4 48 yX4_tell, Cond.instanceMethod yX4_tell, Cond.selects RX4 yX4_tell yX4_tell, Cond.code yX4_tell cX4_tell 2 (some .int), Cond.fieldLink RX4 15 "TankSidings" "told" "[I", Cond.methodLink RX4 126 yX4_whyNoPlace, Cond.instanceMethod yX4_whyNoPlace, Cond.selects RX4 yX4_whyNoPlace yX4_whyNoPlace, Cond.code yX4_whyNoPlace cX4_whyNoPlace 2 (some .int), Cond.methodLink RX4 129 yX1_accepts, Cond.instanceMethod yX1_accepts]
def wsX4_stow_r2 : List Cond := [Cond.selects RX1 yX1_accepts yX1_accepts, Cond.initialized RX1, Cond.code yX1_accepts cX1_accepts 2 (some .boolean), Cond.fieldLink RX1 17 "TankSidings$Siding" "tanksAlone" "Z", Cond.fieldLink RX1 21 "TankSidings$Vehicle" "sort" "I", Cond.methodLink RX4 44 yX2_removeFront, Cond.instanceMethod yX2_removeFront, Cond.selects RX2 yX2_removeFront yX2_removeFront, Cond.initialized RX2, Cond.code yX2_removeFront cX2_removeFront 2 (some (.object "TankSidings$Vehicle")), Cond.fieldLink RX2 15 "TankSidings$Track" "front" "LTankSidings$Vehicle;", Cond.fieldLink RX2 19 "TankSidings$Vehicle" "behind" "LTankSidings$Vehicle;", Cond.fieldLink RX2 9 "TankSidings$Track" "size" "I"]
def wsX4_stow : List Cond := .code yX4_stow cX4_stow 5 (some .int) :: ((wsX4_stow_r1 ++ wsX4_stow_r2) ++ wsX40 ++ wsX20 ++ wsX10 ++ wsX30)
def wsX4_fetch_r1 : List Cond := [Cond.fieldLink RX4 118 "TankSidings" "yardSiding" "LTankSidings$Siding;", Cond.fieldLink RX4 122 "TankSidings$Siding" "places" "[LTankSidings$Vehicle;", Cond.fieldLink RX4 11 "TankSidings" "tracks" "[LTankSidings$Track;", Cond.fieldLink RX4 41 "TankSidings$Track" "size" "I", Cond.methodLink RX4 20 yX4_isTrack, Cond.static yX4_isTrack, Cond.initialized RX4, Cond.code yX4_isTrack cX4_isTrack 1 (some .boolean), Cond.methodLink RX4 126 yX4_whyNoPlace, Cond.instanceMethod yX4_whyNoPlace, Cond.selects RX4 yX4_whyNoPlace yX4_whyNoPlace, Cond.code yX4_whyNoPlace cX4_whyNoPlace 2 (some .int), Cond.methodLink RX4 48 yX4_tell, Cond.instanceMethod yX4_tell, Cond.selects RX4 yX4_tell yX4_tell, Cond.code yX4_tell cX4_tell 2 (some .int), Cond.fieldLink RX4 15 "TankSidings" "told" "[I", Cond.methodLink RX4 37 yX2_putAhead, Cond.instanceMethod yX2_putAhead, Cond.selects RX2 yX2_putAhead yX2_putAhead, Cond.initialized RX2, Cond.code yX2_putAhead cX2_putAhead 2 none, Cond.fieldLink RX2 15 "TankSidings$Track" "front" "LTankSidings$Vehicle;", Cond.fieldLink RX2 19 "TankSidings$Vehicle" "behind" "LTankSidings$Vehicle;"]
def wsX4_fetch_r2 : List Cond := [Cond.fieldLink RX2 9 "TankSidings$Track" "size" "I"]
def wsX4_fetch : List Cond := .code yX4_fetch cX4_fetch 5 (some .int) :: ((wsX4_fetch_r1 ++ wsX4_fetch_r2) ++ wsX40 ++ wsX10 ++ wsX20 ++ wsX30)
def wsX4_plan : List Cond := .code yX4_plan cX4_plan 3 (some .int) :: ([.classLink RX4 132 RX0, .instantiable RX0 3, .initialized RX0, .fieldLink RX4 135 "TankSidings" "yardPlan" "LTankSidings$Plan;", .methodLink RX4 48 yX4_tell, .instanceMethod yX4_tell, .selects RX4 yX4_tell yX4_tell, .initialized RX4, .code yX4_tell cX4_tell 2 (some .int), .fieldLink RX4 15 "TankSidings" "told" "[I", .methodLink RX4 134 yX0_init, .instanceMethod yX0_init, .code yX0_init cX0_init 3 none, .methodLink RX0 1 objectInit, .instanceMethod objectInit, .code objectInit ⟨#[0xb1]⟩ 1 none, .fieldLink RX0 7 "TankSidings$Plan" "rows" "I", .fieldLink RX0 13 "TankSidings$Plan" "width" "I", .arrayClass .int, .fieldLink RX0 16 "TankSidings$Plan" "numbers" "[I"] ++ wsX00 ++ wsX40)
def wsX4_whyNoPlanRow : List Cond := .code yX4_whyNoPlanRow cX4_whyNoPlanRow 2 (some .int) :: ([.fieldLink RX4 135 "TankSidings" "yardPlan" "LTankSidings$Plan;", .fieldLink RX4 157 "TankSidings$Plan" "rows" "I"] ++ wsX40 ++ wsX00)
def wsX4_whyNoNumber : List Cond := .code yX4_whyNoNumber cX4_whyNoNumber 4 (some .int) :: ([.fieldLink RX4 135 "TankSidings" "yardPlan" "LTankSidings$Plan;", .fieldLink RX4 151 "TankSidings$Plan" "width" "I", .methodLink RX4 148 yX4_whyNoPlanRow, .instanceMethod yX4_whyNoPlanRow, .selects RX4 yX4_whyNoPlanRow yX4_whyNoPlanRow, .initialized RX4, .code yX4_whyNoPlanRow cX4_whyNoPlanRow 2 (some .int), .fieldLink RX4 157 "TankSidings$Plan" "rows" "I"] ++ wsX40 ++ wsX00)
def wsX4_note_r1 : List Cond := [Cond.fieldLink RX4 135 "TankSidings" "yardPlan" "LTankSidings$Plan;", Cond.fieldLink RX4 142 "TankSidings$Plan" "numbers" "[I", Cond.methodLink RX4 24 yX4_isWithin, Cond.static yX4_isWithin, Cond.initialized RX4, Cond.code yX4_isWithin cX4_isWithin 3 (some .boolean), Cond.methodLink RX4 139 yX4_whyNoNumber, Cond.instanceMethod yX4_whyNoNumber, Cond.selects RX4 yX4_whyNoNumber yX4_whyNoNumber, Cond.code yX4_whyNoNumber cX4_whyNoNumber 4 (some .int), Cond.fieldLink RX4 151 "TankSidings$Plan" "width" "I", Cond.methodLink RX4 148 yX4_whyNoPlanRow, Cond.instanceMethod yX4_whyNoPlanRow, Cond.selects RX4 yX4_whyNoPlanRow yX4_whyNoPlanRow, Cond.code yX4_whyNoPlanRow cX4_whyNoPlanRow 2 (some .int), Cond.fieldLink RX4 157 "TankSidings$Plan" "rows" "I", Cond.methodLink RX4 48 yX4_tell, Cond.instanceMethod yX4_tell, Cond.selects RX4 yX4_tell yX4_tell, Cond.code yX4_tell cX4_tell 2 (some .int), Cond.fieldLink RX4 15 "TankSidings" "told" "[I", Cond.methodLink RX4 145 yX0_slot, Cond.instanceMethod yX0_slot, Cond.selects RX0 yX0_slot yX0_slot]
def wsX4_note_r2 : List Cond := [Cond.initialized RX0, Cond.code yX0_slot cX0_slot 3 (some .int), Cond.fieldLink RX0 13 "TankSidings$Plan" "width" "I"]
def wsX4_note : List Cond := .code yX4_note cX4_note 5 (some .int) :: ((wsX4_note_r1 ++ wsX4_note_r2) ++ wsX40 ++ wsX00)
def wsX4_noted : List Cond := .code yX4_noted cX4_noted 4 (some .int) :: ([.fieldLink RX4 135 "TankSidings" "yardPlan" "LTankSidings$Plan;", .fieldLink RX4 142 "TankSidings$Plan" "numbers" "[I", .methodLink RX4 139 yX4_whyNoNumber, .instanceMethod yX4_whyNoNumber, .selects RX4 yX4_whyNoNumber yX4_whyNoNumber, .initialized RX4, .code yX4_whyNoNumber cX4_whyNoNumber 4 (some .int), .fieldLink RX4 151 "TankSidings$Plan" "width" "I", .methodLink RX4 148 yX4_whyNoPlanRow, .instanceMethod yX4_whyNoPlanRow, .selects RX4 yX4_whyNoPlanRow yX4_whyNoPlanRow, .code yX4_whyNoPlanRow cX4_whyNoPlanRow 2 (some .int), .fieldLink RX4 157 "TankSidings$Plan" "rows" "I", .methodLink RX4 48 yX4_tell, .instanceMethod yX4_tell, .selects RX4 yX4_tell yX4_tell, .code yX4_tell cX4_tell 2 (some .int), .fieldLink RX4 15 "TankSidings" "told" "[I", .methodLink RX4 145 yX0_slot, .instanceMethod yX0_slot, .selects RX0 yX0_slot yX0_slot, .initialized RX0, .code yX0_slot cX0_slot 3 (some .int), .fieldLink RX0 13 "TankSidings$Plan" "width" "I"] ++ wsX40 ++ wsX00)
def wsX4_wide : List Cond := .code yX4_wide cX4_wide 3 (some .int) :: ([.fieldLink RX4 135 "TankSidings" "yardPlan" "LTankSidings$Plan;", .fieldLink RX4 151 "TankSidings$Plan" "width" "I", .methodLink RX4 148 yX4_whyNoPlanRow, .instanceMethod yX4_whyNoPlanRow, .selects RX4 yX4_whyNoPlanRow yX4_whyNoPlanRow, .initialized RX4, .code yX4_whyNoPlanRow cX4_whyNoPlanRow 2 (some .int), .fieldLink RX4 157 "TankSidings$Plan" "rows" "I", .methodLink RX4 48 yX4_tell, .instanceMethod yX4_tell, .selects RX4 yX4_tell yX4_tell, .code yX4_tell cX4_tell 2 (some .int), .fieldLink RX4 15 "TankSidings" "told" "[I"] ++ wsX40 ++ wsX00)
def wsX4_away : List Cond := .code yX4_away cX4_away 3 (some .int) :: ([.fieldLink RX4 118 "TankSidings" "yardSiding" "LTankSidings$Siding;", .fieldLink RX4 135 "TankSidings" "yardPlan" "LTankSidings$Plan;"] ++ wsX40)
def wsX4_about : List Cond := .code yX4_about cX4_about 5 (some .int) :: ([.fieldLink RX4 11 "TankSidings" "tracks" "[LTankSidings$Track;", .fieldLink RX4 154 "TankSidings$Vehicle" "sort" "I", .fieldLink RX4 107 "TankSidings$Vehicle" "weight" "I", .fieldLink RX4 90 "TankSidings$Vehicle" "defectLevel" "I", .fieldLink RX4 79 "TankSidings$Vehicle" "row" "[I", .methodLink RX4 68 yX4_isPosition, .static yX4_isPosition, .initialized RX4, .code yX4_isPosition cX4_isPosition 2 (some .boolean), .methodLink RX4 20 yX4_isTrack, .static yX4_isTrack, .code yX4_isTrack cX4_isTrack 1 (some .boolean), .methodLink RX4 24 yX4_isWithin, .static yX4_isWithin, .code yX4_isWithin cX4_isWithin 3 (some .boolean), .methodLink RX4 71 yX2_vehicleAt, .instanceMethod yX2_vehicleAt, .selects RX2 yX2_vehicleAt yX2_vehicleAt, .initialized RX2, .code yX2_vehicleAt cX2_vehicleAt 4 (some (.object "TankSidings$Vehicle")), .fieldLink RX2 9 "TankSidings$Track" "size" "I", .fieldLink RX2 15 "TankSidings$Track" "front" "LTankSidings$Vehicle;", .fieldLink RX2 19 "TankSidings$Vehicle" "behind" "LTankSidings$Vehicle;"] ++ wsX40 ++ wsX30 ++ wsX20)
def wsX4_count : List Cond := .code yX4_count cX4_count 2 (some .int) :: ([.fieldLink RX4 11 "TankSidings" "tracks" "[LTankSidings$Track;", .fieldLink RX4 41 "TankSidings$Track" "size" "I", .methodLink RX4 20 yX4_isTrack, .static yX4_isTrack, .initialized RX4, .code yX4_isTrack cX4_isTrack 1 (some .boolean)] ++ wsX40 ++ wsX20)
def wsX4_reasons : List Cond := .code yX4_reasons cX4_reasons 2 (some .int) :: ([.fieldLink RX4 15 "TankSidings" "told" "[I", .methodLink RX4 24 yX4_isWithin, .static yX4_isWithin, .initialized RX4, .code yX4_isWithin cX4_isWithin 3 (some .boolean)] ++ wsX40)
def wsX5_init : List Cond := .code yX5_init cX5_init 1 none :: ([.methodLink RX5 1 objectInit, .instanceMethod objectInit, .code objectInit ⟨#[0xb1]⟩ 1 none, .arrayClass .int, .fieldLink RX5 7 "TankSidingsModel" "sort" "[I", .fieldLink RX5 13 "TankSidingsModel" "weight" "[I", .fieldLink RX5 16 "TankSidingsModel" "defect" "[I", .fieldLink RX5 19 "TankSidingsModel" "crates" "[I", .fieldLink RX5 22 "TankSidingsModel" "crate" "[I", .fieldLink RX5 25 "TankSidingsModel" "behind" "[I", .arrayClass .boolean, .fieldLink RX5 28 "TankSidingsModel" "isUsed" "[Z", .fieldLink RX5 32 "TankSidingsModel" "front" "[I", .fieldLink RX5 35 "TankSidingsModel" "siding" "I", .fieldLink RX5 39 "TankSidingsModel" "place" "[I", .fieldLink RX5 42 "TankSidingsModel" "rows" "I", .fieldLink RX5 45 "TankSidingsModel" "plan" "[I", .fieldLink RX5 48 "TankSidingsModel" "told" "[I"] ++ wsX50)
def wsX5_in : List Cond := .code yX5_in cX5_in 3 (some .boolean) :: ([])
def wsX5_isTrack : List Cond := .code yX5_isTrack cX5_isTrack 1 (some .boolean) :: ([.methodLink RX5 51 yX5_in, .static yX5_in, .initialized RX5, .code yX5_in cX5_in 3 (some .boolean)])
def wsX5_no : List Cond := .code yX5_no cX5_no 2 (some .int) :: ([.fieldLink RX5 48 "TankSidingsModel" "told" "[I"] ++ wsX50)
def wsX5_countOf : List Cond := .code yX5_countOf cX5_countOf 4 (some .int) :: ([.fieldLink RX5 32 "TankSidingsModel" "front" "[I", .fieldLink RX5 25 "TankSidingsModel" "behind" "[I"] ++ wsX50)
def wsX5_at : List Cond := .code yX5_at cX5_at 5 (some .int) :: ([.fieldLink RX5 32 "TankSidingsModel" "front" "[I", .fieldLink RX5 25 "TankSidingsModel" "behind" "[I"] ++ wsX50)
def wsX5_loadOf : List Cond := .code yX5_loadOf cX5_loadOf 4 (some .int) :: ([.fieldLink RX5 13 "TankSidingsModel" "weight" "[I", .fieldLink RX5 19 "TankSidingsModel" "crates" "[I", .fieldLink RX5 22 "TankSidingsModel" "crate" "[I"] ++ wsX50)
def wsX5_place : List Cond := .code yX5_place cX5_place 5 (some .int) :: ([.fieldLink RX5 28 "TankSidingsModel" "isUsed" "[Z", .fieldLink RX5 7 "TankSidingsModel" "sort" "[I", .fieldLink RX5 13 "TankSidingsModel" "weight" "[I", .fieldLink RX5 16 "TankSidingsModel" "defect" "[I", .fieldLink RX5 19 "TankSidingsModel" "crates" "[I", .fieldLink RX5 25 "TankSidingsModel" "behind" "[I", .fieldLink RX5 32 "TankSidingsModel" "front" "[I", .methodLink RX5 55 yX5_isTrack, .static yX5_isTrack, .initialized RX5, .code yX5_isTrack cX5_isTrack 1 (some .boolean), .methodLink RX5 51 yX5_in, .static yX5_in, .code yX5_in cX5_in 3 (some .boolean), .methodLink RX5 59 yX5_countOf, .instanceMethod yX5_countOf, .selects RX5 yX5_countOf yX5_countOf, .code yX5_countOf cX5_countOf 4 (some .int)] ++ wsX50)
def wsX5_take : List Cond := .code yX5_take cX5_take 3 (some .int) :: ([.fieldLink RX5 32 "TankSidingsModel" "front" "[I", .fieldLink RX5 25 "TankSidingsModel" "behind" "[I", .fieldLink RX5 28 "TankSidingsModel" "isUsed" "[Z", .methodLink RX5 55 yX5_isTrack, .static yX5_isTrack, .initialized RX5, .code yX5_isTrack cX5_isTrack 1 (some .boolean), .methodLink RX5 51 yX5_in, .static yX5_in, .code yX5_in cX5_in 3 (some .boolean), .methodLink RX5 63 yX5_no, .instanceMethod yX5_no, .selects RX5 yX5_no yX5_no, .code yX5_no cX5_no 2 (some .int), .fieldLink RX5 48 "TankSidingsModel" "told" "[I", .methodLink RX5 66 yX5_loadOf, .instanceMethod yX5_loadOf, .selects RX5 yX5_loadOf yX5_loadOf, .code yX5_loadOf cX5_loadOf 4 (some .int), .fieldLink RX5 13 "TankSidingsModel" "weight" "[I", .fieldLink RX5 19 "TankSidingsModel" "crates" "[I", .fieldLink RX5 22 "TankSidingsModel" "crate" "[I"] ++ wsX50)
def wsX5_shunt : List Cond := .code yX5_shunt cX5_shunt 6 (some .int) :: ([.fieldLink RX5 32 "TankSidingsModel" "front" "[I", .fieldLink RX5 25 "TankSidingsModel" "behind" "[I", .methodLink RX5 55 yX5_isTrack, .static yX5_isTrack, .initialized RX5, .code yX5_isTrack cX5_isTrack 1 (some .boolean), .methodLink RX5 51 yX5_in, .static yX5_in, .code yX5_in cX5_in 3 (some .boolean), .methodLink RX5 69 yX5_at, .instanceMethod yX5_at, .selects RX5 yX5_at yX5_at, .code yX5_at cX5_at 5 (some .int), .methodLink RX5 63 yX5_no, .instanceMethod yX5_no, .selects RX5 yX5_no yX5_no, .code yX5_no cX5_no 2 (some .int), .fieldLink RX5 48 "TankSidingsModel" "told" "[I"] ++ wsX50)
def wsX5_couple : List Cond := .code yX5_couple cX5_couple 4 (some .int) :: ([.fieldLink RX5 25 "TankSidingsModel" "behind" "[I", .fieldLink RX5 32 "TankSidingsModel" "front" "[I", .methodLink RX5 55 yX5_isTrack, .static yX5_isTrack, .initialized RX5, .code yX5_isTrack cX5_isTrack 1 (some .boolean), .methodLink RX5 51 yX5_in, .static yX5_in, .code yX5_in cX5_in 3 (some .boolean), .methodLink RX5 59 yX5_countOf, .instanceMethod yX5_countOf, .selects RX5 yX5_countOf yX5_countOf, .code yX5_countOf cX5_countOf 4 (some .int), .methodLink RX5 63 yX5_no, .instanceMethod yX5_no, .selects RX5 yX5_no yX5_no, .code yX5_no cX5_no 2 (some .int), .fieldLink RX5 48 "TankSidingsModel" "told" "[I", .methodLink RX5 69 yX5_at, .instanceMethod yX5_at, .selects RX5 yX5_at yX5_at, .code yX5_at cX5_at 5 (some .int)] ++ wsX50)
def wsX5_crates : List Cond := .code yX5_crates cX5_crates 6 (some .int) :: ([.fieldLink RX5 7 "TankSidingsModel" "sort" "[I", .fieldLink RX5 19 "TankSidingsModel" "crates" "[I", .fieldLink RX5 22 "TankSidingsModel" "crate" "[I", .methodLink RX5 55 yX5_isTrack, .static yX5_isTrack, .initialized RX5, .code yX5_isTrack cX5_isTrack 1 (some .boolean), .methodLink RX5 51 yX5_in, .static yX5_in, .code yX5_in cX5_in 3 (some .boolean), .methodLink RX5 69 yX5_at, .instanceMethod yX5_at, .selects RX5 yX5_at yX5_at, .code yX5_at cX5_at 5 (some .int), .fieldLink RX5 32 "TankSidingsModel" "front" "[I", .fieldLink RX5 25 "TankSidingsModel" "behind" "[I", .methodLink RX5 63 yX5_no, .instanceMethod yX5_no, .selects RX5 yX5_no yX5_no, .code yX5_no cX5_no 2 (some .int), .fieldLink RX5 48 "TankSidingsModel" "told" "[I"] ++ wsX50)
def wsX5_against : List Cond := .code yX5_against cX5_against 3 (some .int) :: ([.fieldLink RX5 7 "TankSidingsModel" "sort" "[I", .fieldLink RX5 19 "TankSidingsModel" "crates" "[I", .methodLink RX5 51 yX5_in, .static yX5_in, .initialized RX5, .code yX5_in cX5_in 3 (some .boolean)] ++ wsX50)
def wsX5_load_r1 : List Cond := [Cond.fieldLink RX5 22 "TankSidingsModel" "crate" "[I", Cond.methodLink RX5 55 yX5_isTrack, Cond.static yX5_isTrack, Cond.initialized RX5, Cond.code yX5_isTrack cX5_isTrack 1 (some .boolean), Cond.methodLink RX5 51 yX5_in, Cond.static yX5_in, Cond.code yX5_in cX5_in 3 (some .boolean), Cond.methodLink RX5 69 yX5_at, Cond.instanceMethod yX5_at, Cond.selects RX5 yX5_at yX5_at, Cond.code yX5_at cX5_at 5 (some .int), Cond.fieldLink RX5 32 "TankSidingsModel" "front" "[I", Cond.fieldLink RX5 25 "TankSidingsModel" "behind" "[I", Cond.methodLink RX5 73 yX5_against, Cond.instanceMethod yX5_against, Cond.selects RX5 yX5_against yX5_against, Cond.code yX5_against cX5_against 3 (some .int), Cond.fieldLink RX5 7 "TankSidingsModel" "sort" "[I", Cond.fieldLink RX5 19 "TankSidingsModel" "crates" "[I", Cond.methodLink RX5 63 yX5_no, Cond.instanceMethod yX5_no, Cond.selects RX5 yX5_no yX5_no, Cond.code yX5_no cX5_no 2 (some .int)]
def wsX5_load_r2 : List Cond := [Cond.fieldLink RX5 48 "TankSidingsModel" "told" "[I"]
def wsX5_load : List Cond := .code yX5_load cX5_load 7 (some .int) :: ((wsX5_load_r1 ++ wsX5_load_r2) ++ wsX50)
def wsX5_crate_r1 : List Cond := [Cond.fieldLink RX5 22 "TankSidingsModel" "crate" "[I", Cond.methodLink RX5 55 yX5_isTrack, Cond.static yX5_isTrack, Cond.initialized RX5, Cond.code yX5_isTrack cX5_isTrack 1 (some .boolean), Cond.methodLink RX5 51 yX5_in, Cond.static yX5_in, Cond.code yX5_in cX5_in 3 (some .boolean), Cond.methodLink RX5 69 yX5_at, Cond.instanceMethod yX5_at, Cond.selects RX5 yX5_at yX5_at, Cond.code yX5_at cX5_at 5 (some .int), Cond.fieldLink RX5 32 "TankSidingsModel" "front" "[I", Cond.fieldLink RX5 25 "TankSidingsModel" "behind" "[I", Cond.methodLink RX5 73 yX5_against, Cond.instanceMethod yX5_against, Cond.selects RX5 yX5_against yX5_against, Cond.code yX5_against cX5_against 3 (some .int), Cond.fieldLink RX5 7 "TankSidingsModel" "sort" "[I", Cond.fieldLink RX5 19 "TankSidingsModel" "crates" "[I", Cond.methodLink RX5 63 yX5_no, Cond.instanceMethod yX5_no, Cond.selects RX5 yX5_no yX5_no, Cond.code yX5_no cX5_no 2 (some .int)]
def wsX5_crate_r2 : List Cond := [Cond.fieldLink RX5 48 "TankSidingsModel" "told" "[I"]
def wsX5_crate : List Cond := .code yX5_crate cX5_crate 6 (some .int) :: ((wsX5_crate_r1 ++ wsX5_crate_r2) ++ wsX50)
def wsX5_length : List Cond := .code yX5_length cX5_length 4 (some .int) :: ([.fieldLink RX5 7 "TankSidingsModel" "sort" "[I", .fieldLink RX5 19 "TankSidingsModel" "crates" "[I", .methodLink RX5 55 yX5_isTrack, .static yX5_isTrack, .initialized RX5, .code yX5_isTrack cX5_isTrack 1 (some .boolean), .methodLink RX5 51 yX5_in, .static yX5_in, .code yX5_in cX5_in 3 (some .boolean), .methodLink RX5 69 yX5_at, .instanceMethod yX5_at, .selects RX5 yX5_at yX5_at, .code yX5_at cX5_at 5 (some .int), .fieldLink RX5 32 "TankSidingsModel" "front" "[I", .fieldLink RX5 25 "TankSidingsModel" "behind" "[I", .methodLink RX5 63 yX5_no, .instanceMethod yX5_no, .selects RX5 yX5_no yX5_no, .code yX5_no cX5_no 2 (some .int), .fieldLink RX5 48 "TankSidingsModel" "told" "[I"] ++ wsX50)
def wsX5_weigh_r1 : List Cond := [Cond.methodLink RX5 55 yX5_isTrack, Cond.static yX5_isTrack, Cond.initialized RX5, Cond.code yX5_isTrack cX5_isTrack 1 (some .boolean), Cond.methodLink RX5 51 yX5_in, Cond.static yX5_in, Cond.code yX5_in cX5_in 3 (some .boolean), Cond.methodLink RX5 69 yX5_at, Cond.instanceMethod yX5_at, Cond.selects RX5 yX5_at yX5_at, Cond.code yX5_at cX5_at 5 (some .int), Cond.fieldLink RX5 32 "TankSidingsModel" "front" "[I", Cond.fieldLink RX5 25 "TankSidingsModel" "behind" "[I", Cond.methodLink RX5 63 yX5_no, Cond.instanceMethod yX5_no, Cond.selects RX5 yX5_no yX5_no, Cond.code yX5_no cX5_no 2 (some .int), Cond.fieldLink RX5 48 "TankSidingsModel" "told" "[I", Cond.methodLink RX5 66 yX5_loadOf, Cond.instanceMethod yX5_loadOf, Cond.selects RX5 yX5_loadOf yX5_loadOf, Cond.code yX5_loadOf cX5_loadOf 4 (some .int), Cond.fieldLink RX5 13 "TankSidingsModel" "weight" "[I", Cond.fieldLink RX5 19 "TankSidingsModel" "crates" "[I"]
def wsX5_weigh_r2 : List Cond := [Cond.fieldLink RX5 22 "TankSidingsModel" "crate" "[I"]
def wsX5_weigh : List Cond := .code yX5_weigh cX5_weigh 4 (some .int) :: ((wsX5_weigh_r1 ++ wsX5_weigh_r2) ++ wsX50)
def wsX5_defect : List Cond := .code yX5_defect cX5_defect 5 (some .int) :: ([.fieldLink RX5 16 "TankSidingsModel" "defect" "[I", .methodLink RX5 55 yX5_isTrack, .static yX5_isTrack, .initialized RX5, .code yX5_isTrack cX5_isTrack 1 (some .boolean), .methodLink RX5 51 yX5_in, .static yX5_in, .code yX5_in cX5_in 3 (some .boolean), .methodLink RX5 69 yX5_at, .instanceMethod yX5_at, .selects RX5 yX5_at yX5_at, .code yX5_at cX5_at 5 (some .int), .fieldLink RX5 32 "TankSidingsModel" "front" "[I", .fieldLink RX5 25 "TankSidingsModel" "behind" "[I", .methodLink RX5 63 yX5_no, .instanceMethod yX5_no, .selects RX5 yX5_no yX5_no, .code yX5_no cX5_no 2 (some .int), .fieldLink RX5 48 "TankSidingsModel" "told" "[I"] ++ wsX50)
def wsX5_reported : List Cond := .code yX5_reported cX5_reported 2 (some .int) :: ([.fieldLink RX5 16 "TankSidingsModel" "defect" "[I", .fieldLink RX5 76 "TankSidingsModel" "level" "I", .methodLink RX5 63 yX5_no, .instanceMethod yX5_no, .selects RX5 yX5_no yX5_no, .initialized RX5, .code yX5_no cX5_no 2 (some .int), .fieldLink RX5 48 "TankSidingsModel" "told" "[I"] ++ wsX50)
def wsX5_report : List Cond := .code yX5_report cX5_report 4 (some .int) :: ([.fieldLink RX5 16 "TankSidingsModel" "defect" "[I", .methodLink RX5 55 yX5_isTrack, .static yX5_isTrack, .initialized RX5, .code yX5_isTrack cX5_isTrack 1 (some .boolean), .methodLink RX5 51 yX5_in, .static yX5_in, .code yX5_in cX5_in 3 (some .boolean), .methodLink RX5 69 yX5_at, .instanceMethod yX5_at, .selects RX5 yX5_at yX5_at, .code yX5_at cX5_at 5 (some .int), .fieldLink RX5 32 "TankSidingsModel" "front" "[I", .fieldLink RX5 25 "TankSidingsModel" "behind" "[I", .methodLink RX5 63 yX5_no, .instanceMethod yX5_no, .selects RX5 yX5_no yX5_no, .code yX5_no cX5_no 2 (some .int), .fieldLink RX5 48 "TankSidingsModel" "told" "[I", .methodLink RX5 79 yX5_reported, .instanceMethod yX5_reported, .selects RX5 yX5_reported yX5_reported, .code yX5_reported cX5_reported 2 (some .int), .fieldLink RX5 76 "TankSidingsModel" "level" "I"] ++ wsX50)
def wsX5_draw_r1 : List Cond := [Cond.fieldLink RX5 32 "TankSidingsModel" "front" "[I", Cond.fieldLink RX5 7 "TankSidingsModel" "sort" "[I", Cond.fieldLink RX5 13 "TankSidingsModel" "weight" "[I", Cond.fieldLink RX5 25 "TankSidingsModel" "behind" "[I", Cond.fieldLink RX5 16 "TankSidingsModel" "defect" "[I", Cond.fieldLink RX5 76 "TankSidingsModel" "level" "I", Cond.methodLink RX5 55 yX5_isTrack, Cond.static yX5_isTrack, Cond.initialized RX5, Cond.code yX5_isTrack cX5_isTrack 1 (some .boolean), Cond.methodLink RX5 51 yX5_in, Cond.static yX5_in, Cond.code yX5_in cX5_in 3 (some .boolean), Cond.methodLink RX5 63 yX5_no, Cond.instanceMethod yX5_no, Cond.selects RX5 yX5_no yX5_no, Cond.code yX5_no cX5_no 2 (some .int), Cond.fieldLink RX5 48 "TankSidingsModel" "told" "[I", Cond.methodLink RX5 79 yX5_reported, Cond.instanceMethod yX5_reported, Cond.selects RX5 yX5_reported yX5_reported, Cond.code yX5_reported cX5_reported 2 (some .int), Cond.methodLink RX5 66 yX5_loadOf, Cond.instanceMethod yX5_loadOf]
def wsX5_draw_r2 : List Cond := [Cond.selects RX5 yX5_loadOf yX5_loadOf, Cond.code yX5_loadOf cX5_loadOf 4 (some .int), Cond.fieldLink RX5 19 "TankSidingsModel" "crates" "[I", Cond.fieldLink RX5 22 "TankSidingsModel" "crate" "[I"]
def wsX5_draw : List Cond := .code yX5_draw cX5_draw 6 (some .int) :: ((wsX5_draw_r1 ++ wsX5_draw_r2) ++ wsX50)
def wsX5_level : List Cond := .code yX5_level cX5_level 1 (some .int) :: ([.fieldLink RX5 76 "TankSidingsModel" "level" "I"] ++ wsX50)
def wsX5_empty : List Cond := .code yX5_empty cX5_empty 2 none :: ([.fieldLink RX5 39 "TankSidingsModel" "place" "[I", .fieldLink RX5 28 "TankSidingsModel" "isUsed" "[Z"] ++ wsX50)
def wsX5_clear : List Cond := .code yX5_clear cX5_clear 2 none :: ([.fieldLink RX5 35 "TankSidingsModel" "siding" "I", .methodLink RX5 82 yX5_empty, .instanceMethod yX5_empty, .selects RX5 yX5_empty yX5_empty, .initialized RX5, .code yX5_empty cX5_empty 2 none, .fieldLink RX5 39 "TankSidingsModel" "place" "[I", .fieldLink RX5 28 "TankSidingsModel" "isUsed" "[Z"] ++ wsX50)
def wsX5_siding : List Cond := .code yX5_siding cX5_siding 4 (some .int) :: ([.fieldLink RX5 35 "TankSidingsModel" "siding" "I", .fieldLink RX5 89 "TankSidingsModel" "isNarrow" "Z", .fieldLink RX5 39 "TankSidingsModel" "place" "[I", .methodLink RX5 63 yX5_no, .instanceMethod yX5_no, .selects RX5 yX5_no yX5_no, .initialized RX5, .code yX5_no cX5_no 2 (some .int), .fieldLink RX5 48 "TankSidingsModel" "told" "[I", .methodLink RX5 86 yX5_clear, .instanceMethod yX5_clear, .selects RX5 yX5_clear yX5_clear, .code yX5_clear cX5_clear 2 none, .methodLink RX5 82 yX5_empty, .instanceMethod yX5_empty, .selects RX5 yX5_empty yX5_empty, .code yX5_empty cX5_empty 2 none, .fieldLink RX5 28 "TankSidingsModel" "isUsed" "[Z"] ++ wsX50)
def wsX5_room : List Cond := .code yX5_room cX5_room 1 (some .int) :: ([.fieldLink RX5 35 "TankSidingsModel" "siding" "I", .methodLink RX5 63 yX5_no, .instanceMethod yX5_no, .selects RX5 yX5_no yX5_no, .initialized RX5, .code yX5_no cX5_no 2 (some .int), .fieldLink RX5 48 "TankSidingsModel" "told" "[I"] ++ wsX50)
def wsX5_stow_r1 : List Cond := [Cond.fieldLink RX5 32 "TankSidingsModel" "front" "[I", Cond.fieldLink RX5 7 "TankSidingsModel" "sort" "[I", Cond.fieldLink RX5 35 "TankSidingsModel" "siding" "I", Cond.fieldLink RX5 89 "TankSidingsModel" "isNarrow" "Z", Cond.fieldLink RX5 25 "TankSidingsModel" "behind" "[I", Cond.fieldLink RX5 39 "TankSidingsModel" "place" "[I", Cond.methodLink RX5 55 yX5_isTrack, Cond.static yX5_isTrack, Cond.initialized RX5, Cond.code yX5_isTrack cX5_isTrack 1 (some .boolean), Cond.methodLink RX5 51 yX5_in, Cond.static yX5_in, Cond.code yX5_in cX5_in 3 (some .boolean), Cond.methodLink RX5 63 yX5_no, Cond.instanceMethod yX5_no, Cond.selects RX5 yX5_no yX5_no, Cond.code yX5_no cX5_no 2 (some .int), Cond.fieldLink RX5 48 "TankSidingsModel" "told" "[I", Cond.methodLink RX5 82 yX5_empty, Cond.instanceMethod yX5_empty, Cond.selects RX5 yX5_empty yX5_empty, Cond.code yX5_empty cX5_empty 2 none, Cond.fieldLink RX5 28 "TankSidingsModel" "isUsed" "[Z", Cond.methodLink RX5 59 yX5_countOf]
def wsX5_stow_r2 : List Cond := [Cond.instanceMethod yX5_countOf, Cond.selects RX5 yX5_countOf yX5_countOf, Cond.code yX5_countOf cX5_countOf 4 (some .int)]
def wsX5_stow : List Cond := .code yX5_stow cX5_stow 4 (some .int) :: ((wsX5_stow_r1 ++ wsX5_stow_r2) ++ wsX50)
def wsX5_fetch : List Cond := .code yX5_fetch cX5_fetch 4 (some .int) :: ([.fieldLink RX5 35 "TankSidingsModel" "siding" "I", .fieldLink RX5 39 "TankSidingsModel" "place" "[I", .fieldLink RX5 25 "TankSidingsModel" "behind" "[I", .fieldLink RX5 32 "TankSidingsModel" "front" "[I", .methodLink RX5 55 yX5_isTrack, .static yX5_isTrack, .initialized RX5, .code yX5_isTrack cX5_isTrack 1 (some .boolean), .methodLink RX5 51 yX5_in, .static yX5_in, .code yX5_in cX5_in 3 (some .boolean), .methodLink RX5 63 yX5_no, .instanceMethod yX5_no, .selects RX5 yX5_no yX5_no, .code yX5_no cX5_no 2 (some .int), .fieldLink RX5 48 "TankSidingsModel" "told" "[I", .methodLink RX5 59 yX5_countOf, .instanceMethod yX5_countOf, .selects RX5 yX5_countOf yX5_countOf, .code yX5_countOf cX5_countOf 4 (some .int)] ++ wsX50)
def wsX5_plan : List Cond := .code yX5_plan cX5_plan 4 (some .int) :: ([.fieldLink RX5 42 "TankSidingsModel" "rows" "I", .fieldLink RX5 93 "TankSidingsModel" "wide" "I", .fieldLink RX5 45 "TankSidingsModel" "plan" "[I", .methodLink RX5 63 yX5_no, .instanceMethod yX5_no, .selects RX5 yX5_no yX5_no, .initialized RX5, .code yX5_no cX5_no 2 (some .int), .fieldLink RX5 48 "TankSidingsModel" "told" "[I"] ++ wsX50)
def wsX5_against_ : List Cond := .code yX5_against_ cX5_against_ 4 (some .int) :: ([.fieldLink RX5 42 "TankSidingsModel" "rows" "I", .methodLink RX5 51 yX5_in, .static yX5_in, .initialized RX5, .code yX5_in cX5_in 3 (some .boolean)] ++ wsX50)
def wsX5_note : List Cond := .code yX5_note cX5_note 5 (some .int) :: ([.fieldLink RX5 93 "TankSidingsModel" "wide" "I", .fieldLink RX5 45 "TankSidingsModel" "plan" "[I", .methodLink RX5 51 yX5_in, .static yX5_in, .initialized RX5, .code yX5_in cX5_in 3 (some .boolean), .methodLink RX5 96 yX5_against_, .instanceMethod yX5_against_, .selects RX5 yX5_against_ yX5_against_, .code yX5_against_ cX5_against_ 4 (some .int), .fieldLink RX5 42 "TankSidingsModel" "rows" "I", .methodLink RX5 63 yX5_no, .instanceMethod yX5_no, .selects RX5 yX5_no yX5_no, .code yX5_no cX5_no 2 (some .int), .fieldLink RX5 48 "TankSidingsModel" "told" "[I"] ++ wsX50)
def wsX5_noted : List Cond := .code yX5_noted cX5_noted 4 (some .int) :: ([.fieldLink RX5 93 "TankSidingsModel" "wide" "I", .fieldLink RX5 45 "TankSidingsModel" "plan" "[I", .methodLink RX5 96 yX5_against_, .instanceMethod yX5_against_, .selects RX5 yX5_against_ yX5_against_, .initialized RX5, .code yX5_against_ cX5_against_ 4 (some .int), .fieldLink RX5 42 "TankSidingsModel" "rows" "I", .methodLink RX5 51 yX5_in, .static yX5_in, .code yX5_in cX5_in 3 (some .boolean), .methodLink RX5 63 yX5_no, .instanceMethod yX5_no, .selects RX5 yX5_no yX5_no, .code yX5_no cX5_no 2 (some .int), .fieldLink RX5 48 "TankSidingsModel" "told" "[I"] ++ wsX50)
def wsX5_wide : List Cond := .code yX5_wide cX5_wide 3 (some .int) :: ([.fieldLink RX5 93 "TankSidingsModel" "wide" "I", .methodLink RX5 96 yX5_against_, .instanceMethod yX5_against_, .selects RX5 yX5_against_ yX5_against_, .initialized RX5, .code yX5_against_ cX5_against_ 4 (some .int), .fieldLink RX5 42 "TankSidingsModel" "rows" "I", .methodLink RX5 51 yX5_in, .static yX5_in, .code yX5_in cX5_in 3 (some .boolean), .methodLink RX5 63 yX5_no, .instanceMethod yX5_no, .selects RX5 yX5_no yX5_no, .code yX5_no cX5_no 2 (some .int), .fieldLink RX5 48 "TankSidingsModel" "told" "[I"] ++ wsX50)
def wsX5_away : List Cond := .code yX5_away cX5_away 3 (some .int) :: ([.fieldLink RX5 35 "TankSidingsModel" "siding" "I", .fieldLink RX5 42 "TankSidingsModel" "rows" "I", .methodLink RX5 51 yX5_in, .static yX5_in, .initialized RX5, .code yX5_in cX5_in 3 (some .boolean), .methodLink RX5 86 yX5_clear, .instanceMethod yX5_clear, .selects RX5 yX5_clear yX5_clear, .code yX5_clear cX5_clear 2 none, .methodLink RX5 82 yX5_empty, .instanceMethod yX5_empty, .selects RX5 yX5_empty yX5_empty, .code yX5_empty cX5_empty 2 none, .fieldLink RX5 39 "TankSidingsModel" "place" "[I", .fieldLink RX5 28 "TankSidingsModel" "isUsed" "[Z"] ++ wsX50)
def wsX5_about : List Cond := .code yX5_about cX5_about 5 (some .int) :: ([.fieldLink RX5 7 "TankSidingsModel" "sort" "[I", .fieldLink RX5 13 "TankSidingsModel" "weight" "[I", .fieldLink RX5 16 "TankSidingsModel" "defect" "[I", .fieldLink RX5 19 "TankSidingsModel" "crates" "[I", .methodLink RX5 55 yX5_isTrack, .static yX5_isTrack, .initialized RX5, .code yX5_isTrack cX5_isTrack 1 (some .boolean), .methodLink RX5 51 yX5_in, .static yX5_in, .code yX5_in cX5_in 3 (some .boolean), .methodLink RX5 69 yX5_at, .instanceMethod yX5_at, .selects RX5 yX5_at yX5_at, .code yX5_at cX5_at 5 (some .int), .fieldLink RX5 32 "TankSidingsModel" "front" "[I", .fieldLink RX5 25 "TankSidingsModel" "behind" "[I"] ++ wsX50)
def wsX5_count : List Cond := .code yX5_count cX5_count 2 (some .int) :: ([.methodLink RX5 55 yX5_isTrack, .static yX5_isTrack, .initialized RX5, .code yX5_isTrack cX5_isTrack 1 (some .boolean), .methodLink RX5 51 yX5_in, .static yX5_in, .code yX5_in cX5_in 3 (some .boolean), .methodLink RX5 59 yX5_countOf, .instanceMethod yX5_countOf, .selects RX5 yX5_countOf yX5_countOf, .code yX5_countOf cX5_countOf 4 (some .int), .fieldLink RX5 32 "TankSidingsModel" "front" "[I", .fieldLink RX5 25 "TankSidingsModel" "behind" "[I"] ++ wsX50)
def wsX5_reasons : List Cond := .code yX5_reasons cX5_reasons 2 (some .int) :: ([.fieldLink RX5 48 "TankSidingsModel" "told" "[I", .methodLink RX5 51 yX5_in, .static yX5_in, .initialized RX5, .code yX5_in cX5_in 3 (some .boolean)] ++ wsX50)
def wsL_law_r1 : List Cond := [Cond.classLink RL 7 RX4, Cond.instantiable RX4 6, Cond.initialized RX4, Cond.classLink RL 10 RX5, Cond.instantiable RX5 16, Cond.initialized RX5, Cond.methodLink RL 9 yX4_init, Cond.instanceMethod yX4_init, Cond.code yX4_init cX4_init 2 none, Cond.methodLink RX4 1 objectInit, Cond.instanceMethod objectInit, Cond.code objectInit ⟨#[0xb1]⟩ 1 none, Cond.classLink RX4 9 RX2, Cond.fieldLink RX4 11 "TankSidings" "tracks" "[LTankSidings$Track;", Cond.arrayClass .int, Cond.fieldLink RX4 15 "TankSidings" "told" "[I", Cond.instantiable RX2 2, Cond.initialized RX2, Cond.instanceMethod yX2_init, Cond.code yX2_init cX2_init 1 none, Cond.methodLink RX2 3 objectInit, Cond.methodLink RL 12 yX5_init, Cond.instanceMethod yX5_init, Cond.code yX5_init cX5_init 1 none]
def wsL_law_r2 : List Cond := [Cond.methodLink RX5 1 objectInit, Cond.fieldLink RX5 7 "TankSidingsModel" "sort" "[I", Cond.fieldLink RX5 13 "TankSidingsModel" "weight" "[I", Cond.fieldLink RX5 16 "TankSidingsModel" "defect" "[I", Cond.fieldLink RX5 19 "TankSidingsModel" "crates" "[I", Cond.fieldLink RX5 22 "TankSidingsModel" "crate" "[I", Cond.fieldLink RX5 25 "TankSidingsModel" "behind" "[I", Cond.arrayClass .boolean, Cond.fieldLink RX5 28 "TankSidingsModel" "isUsed" "[Z", Cond.fieldLink RX5 32 "TankSidingsModel" "front" "[I", Cond.fieldLink RX5 35 "TankSidingsModel" "siding" "I", Cond.fieldLink RX5 39 "TankSidingsModel" "place" "[I", Cond.fieldLink RX5 42 "TankSidingsModel" "rows" "I", Cond.fieldLink RX5 45 "TankSidingsModel" "plan" "[I", Cond.fieldLink RX5 48 "TankSidingsModel" "told" "[I", Cond.methodLink RL 13 yX4_place, Cond.instanceMethod yX4_place, Cond.selects RX4 yX4_place yX4_place, Cond.code yX4_place cX4_place 5 (some .int), Cond.fieldLink RX4 28 "TankSidings" "placed" "I", Cond.classLink RX4 32 RX3, Cond.instantiable RX3 5, Cond.initialized RX3, Cond.fieldLink RX4 41 "TankSidings$Track" "size" "I"]
def wsL_law_r3 : List Cond := [Cond.methodLink RX4 20 yX4_isTrack, Cond.static yX4_isTrack, Cond.code yX4_isTrack cX4_isTrack 1 (some .boolean), Cond.methodLink RX4 24 yX4_isWithin, Cond.static yX4_isWithin, Cond.code yX4_isWithin cX4_isWithin 3 (some .boolean), Cond.methodLink RX4 34 yX3_init, Cond.instanceMethod yX3_init, Cond.code yX3_init cX3_init 3 none, Cond.methodLink RX3 1 objectInit, Cond.fieldLink RX3 7 "TankSidings$Vehicle" "sort" "I", Cond.fieldLink RX3 13 "TankSidings$Vehicle" "weight" "I", Cond.methodLink RX4 37 yX2_putAhead, Cond.instanceMethod yX2_putAhead, Cond.selects RX2 yX2_putAhead yX2_putAhead, Cond.code yX2_putAhead cX2_putAhead 2 none, Cond.fieldLink RX2 15 "TankSidings$Track" "front" "LTankSidings$Vehicle;", Cond.fieldLink RX2 19 "TankSidings$Vehicle" "behind" "LTankSidings$Vehicle;", Cond.fieldLink RX2 9 "TankSidings$Track" "size" "I", Cond.methodLink RL 17 yX5_place, Cond.instanceMethod yX5_place, Cond.selects RX5 yX5_place yX5_place, Cond.code yX5_place cX5_place 5 (some .int), Cond.methodLink RX5 55 yX5_isTrack]
def wsL_law_r4 : List Cond := [Cond.static yX5_isTrack, Cond.code yX5_isTrack cX5_isTrack 1 (some .boolean), Cond.methodLink RX5 51 yX5_in, Cond.static yX5_in, Cond.code yX5_in cX5_in 3 (some .boolean), Cond.methodLink RX5 59 yX5_countOf, Cond.instanceMethod yX5_countOf, Cond.selects RX5 yX5_countOf yX5_countOf, Cond.code yX5_countOf cX5_countOf 4 (some .int), Cond.methodLink RL 18 yX4_take, Cond.instanceMethod yX4_take, Cond.selects RX4 yX4_take yX4_take, Cond.code yX4_take cX4_take 3 (some .int), Cond.methodLink RX4 44 yX2_removeFront, Cond.instanceMethod yX2_removeFront, Cond.selects RX2 yX2_removeFront yX2_removeFront, Cond.code yX2_removeFront cX2_removeFront 2 (some (.object "TankSidings$Vehicle")), Cond.methodLink RX4 48 yX4_tell, Cond.instanceMethod yX4_tell, Cond.selects RX4 yX4_tell yX4_tell, Cond.code yX4_tell cX4_tell 2 (some .int), Cond.methodLink RX4 52 yX3_fullWeight, Cond.instanceMethod yX3_fullWeight, Cond.selects RX3 yX3_fullWeight yX3_fullWeight]
def wsL_law_r5 : List Cond := [Cond.code yX3_fullWeight cX3_fullWeight 6 (some .int), Cond.fieldLink RX3 16 "TankSidings$Vehicle" "row" "[I", Cond.methodLink RL 22 yX5_take, Cond.instanceMethod yX5_take, Cond.selects RX5 yX5_take yX5_take, Cond.code yX5_take cX5_take 3 (some .int), Cond.methodLink RX5 63 yX5_no, Cond.instanceMethod yX5_no, Cond.selects RX5 yX5_no yX5_no, Cond.code yX5_no cX5_no 2 (some .int), Cond.methodLink RX5 66 yX5_loadOf, Cond.instanceMethod yX5_loadOf, Cond.selects RX5 yX5_loadOf yX5_loadOf, Cond.code yX5_loadOf cX5_loadOf 4 (some .int), Cond.methodLink RL 23 yX4_shunt, Cond.instanceMethod yX4_shunt, Cond.selects RX4 yX4_shunt yX4_shunt, Cond.code yX4_shunt cX4_shunt 4 (some .int), Cond.methodLink RX4 56 yX4_areTwoTracks, Cond.static yX4_areTwoTracks, Cond.code yX4_areTwoTracks cX4_areTwoTracks 2 (some .boolean), Cond.methodLink RX4 60 yX2_moveFirst, Cond.instanceMethod yX2_moveFirst, Cond.selects RX2 yX2_moveFirst yX2_moveFirst]
def wsL_law_r6 : List Cond := [Cond.code yX2_moveFirst cX2_moveFirst 5 (some .boolean), Cond.methodLink RX2 24 yX2_vehicleAt, Cond.instanceMethod yX2_vehicleAt, Cond.selects RX2 yX2_vehicleAt yX2_vehicleAt, Cond.code yX2_vehicleAt cX2_vehicleAt 4 (some (.object "TankSidings$Vehicle")), Cond.methodLink RL 26 yX5_shunt, Cond.instanceMethod yX5_shunt, Cond.selects RX5 yX5_shunt yX5_shunt, Cond.code yX5_shunt cX5_shunt 6 (some .int), Cond.methodLink RX5 69 yX5_at, Cond.instanceMethod yX5_at, Cond.selects RX5 yX5_at yX5_at, Cond.code yX5_at cX5_at 5 (some .int), Cond.methodLink RL 27 yX4_couple, Cond.instanceMethod yX4_couple, Cond.selects RX4 yX4_couple yX4_couple, Cond.code yX4_couple cX4_couple 3 (some .int), Cond.methodLink RX4 64 yX2_appendAll, Cond.instanceMethod yX2_appendAll, Cond.selects RX2 yX2_appendAll yX2_appendAll, Cond.code yX2_appendAll cX2_appendAll 3 (some .boolean), Cond.methodLink RL 31 yX5_couple, Cond.instanceMethod yX5_couple, Cond.selects RX5 yX5_couple yX5_couple]
def wsL_law_r7 : List Cond := [Cond.code yX5_couple cX5_couple 4 (some .int), Cond.methodLink RL 32 yX4_crates, Cond.instanceMethod yX4_crates, Cond.selects RX4 yX4_crates yX4_crates, Cond.code yX4_crates cX4_crates 5 (some .int), Cond.fieldLink RX4 79 "TankSidings$Vehicle" "row" "[I", Cond.methodLink RX4 68 yX4_isPosition, Cond.static yX4_isPosition, Cond.code yX4_isPosition cX4_isPosition 2 (some .boolean), Cond.methodLink RX4 71 yX2_vehicleAt, Cond.methodLink RX4 75 yX4_isEngine, Cond.static yX4_isEngine, Cond.code yX4_isEngine cX4_isEngine 1 (some .boolean), Cond.fieldLink RX4 154 "TankSidings$Vehicle" "sort" "I", Cond.methodLink RL 35 yX5_crates, Cond.instanceMethod yX5_crates, Cond.selects RX5 yX5_crates yX5_crates, Cond.code yX5_crates cX5_crates 6 (some .int), Cond.methodLink RL 36 yX4_load, Cond.instanceMethod yX4_load, Cond.selects RX4 yX4_load yX4_load, Cond.code yX4_load cX4_load 7 (some .int), Cond.methodLink RX4 82 yX4_whyNoCrate, Cond.static yX4_whyNoCrate]
def wsL_law_r8 : List Cond := [Cond.code yX4_whyNoCrate cX4_whyNoCrate 3 (some .int), Cond.methodLink RX4 86 yX4_whyNoRow, Cond.static yX4_whyNoRow, Cond.code yX4_whyNoRow cX4_whyNoRow 1 (some .int), Cond.methodLink RL 40 yX5_load, Cond.instanceMethod yX5_load, Cond.selects RX5 yX5_load yX5_load, Cond.code yX5_load cX5_load 7 (some .int), Cond.methodLink RX5 73 yX5_against, Cond.instanceMethod yX5_against, Cond.selects RX5 yX5_against yX5_against, Cond.code yX5_against cX5_against 3 (some .int), Cond.methodLink RL 41 yX4_crate, Cond.instanceMethod yX4_crate, Cond.selects RX4 yX4_crate yX4_crate, Cond.code yX4_crate cX4_crate 6 (some .int), Cond.methodLink RL 44 yX5_crate, Cond.instanceMethod yX5_crate, Cond.selects RX5 yX5_crate yX5_crate, Cond.code yX5_crate cX5_crate 6 (some .int), Cond.methodLink RL 45 yX4_length, Cond.instanceMethod yX4_length, Cond.selects RX4 yX4_length yX4_length, Cond.code yX4_length cX4_length 5 (some .int)]
def wsL_law_r9 : List Cond := [Cond.methodLink RL 48 yX5_length, Cond.instanceMethod yX5_length, Cond.selects RX5 yX5_length yX5_length, Cond.code yX5_length cX5_length 4 (some .int), Cond.methodLink RL 49 yX4_weigh, Cond.instanceMethod yX4_weigh, Cond.selects RX4 yX4_weigh yX4_weigh, Cond.code yX4_weigh cX4_weigh 4 (some .int), Cond.methodLink RL 52 yX5_weigh, Cond.instanceMethod yX5_weigh, Cond.selects RX5 yX5_weigh yX5_weigh, Cond.code yX5_weigh cX5_weigh 4 (some .int), Cond.methodLink RL 53 yX4_defect, Cond.instanceMethod yX4_defect, Cond.selects RX4 yX4_defect yX4_defect, Cond.code yX4_defect cX4_defect 5 (some .int), Cond.fieldLink RX4 90 "TankSidings$Vehicle" "defectLevel" "I", Cond.methodLink RL 56 yX5_defect, Cond.instanceMethod yX5_defect, Cond.selects RX5 yX5_defect yX5_defect, Cond.code yX5_defect cX5_defect 5 (some .int), Cond.methodLink RL 57 yX4_report, Cond.instanceMethod yX4_report, Cond.selects RX4 yX4_report yX4_report]
def wsL_law_r10 : List Cond := [Cond.code yX4_report cX4_report 4 (some .int), Cond.methodLink RX4 93 yX4_tellLevel, Cond.instanceMethod yX4_tellLevel, Cond.selects RX4 yX4_tellLevel yX4_tellLevel, Cond.code yX4_tellLevel cX4_tellLevel 3 (some .int), Cond.fieldLink RX4 110 "TankSidings" "latestLevel" "I", Cond.methodLink RL 60 yX5_report, Cond.instanceMethod yX5_report, Cond.selects RX5 yX5_report yX5_report, Cond.code yX5_report cX5_report 4 (some .int), Cond.methodLink RX5 79 yX5_reported, Cond.instanceMethod yX5_reported, Cond.selects RX5 yX5_reported yX5_reported, Cond.code yX5_reported cX5_reported 2 (some .int), Cond.fieldLink RX5 76 "TankSidingsModel" "level" "I", Cond.methodLink RL 61 yX4_draw, Cond.instanceMethod yX4_draw, Cond.selects RX4 yX4_draw yX4_draw, Cond.code yX4_draw cX4_draw 6 (some .int), Cond.fieldLink RX4 97 "TankSidings$Track" "front" "LTankSidings$Vehicle;", Cond.fieldLink RX4 107 "TankSidings$Vehicle" "weight" "I", Cond.methodLink RX4 101 yX2_firstGraveBehindFront, Cond.instanceMethod yX2_firstGraveBehindFront, Cond.selects RX2 yX2_firstGraveBehindFront yX2_firstGraveBehindFront]
def wsL_law_r11 : List Cond := [Cond.code yX2_firstGraveBehindFront cX2_firstGraveBehindFront 3 (some (.object "TankSidings$Vehicle")), Cond.fieldLink RX2 28 "TankSidings$Vehicle" "defectLevel" "I", Cond.methodLink RX4 104 yX2_weightBehindFront, Cond.instanceMethod yX2_weightBehindFront, Cond.selects RX2 yX2_weightBehindFront yX2_weightBehindFront, Cond.code yX2_weightBehindFront cX2_weightBehindFront 4 (some .int), Cond.methodLink RX2 31 yX3_fullWeight, Cond.methodLink RL 64 yX5_draw, Cond.instanceMethod yX5_draw, Cond.selects RX5 yX5_draw yX5_draw, Cond.code yX5_draw cX5_draw 6 (some .int), Cond.methodLink RL 65 yX4_level, Cond.instanceMethod yX4_level, Cond.selects RX4 yX4_level yX4_level, Cond.code yX4_level cX4_level 1 (some .int), Cond.methodLink RL 69 yX5_level, Cond.instanceMethod yX5_level, Cond.selects RX5 yX5_level yX5_level, Cond.code yX5_level cX5_level 1 (some .int), Cond.methodLink RL 70 yX4_siding, Cond.instanceMethod yX4_siding, Cond.selects RX4 yX4_siding yX4_siding, Cond.code yX4_siding cX4_siding 3 (some .int), Cond.classLink RX4 113 RX1]
def wsL_law_r12 : List Cond := [Cond.instantiable RX1 2, Cond.initialized RX1, Cond.fieldLink RX4 118 "TankSidings" "yardSiding" "LTankSidings$Siding;", Cond.methodLink RX4 115 yX1_init, Cond.instanceMethod yX1_init, Cond.code yX1_init cX1_init 3 none, Cond.methodLink RX1 3 objectInit, Cond.classLink RX1 9 RX3, Cond.fieldLink RX1 11 "TankSidings$Siding" "places" "[LTankSidings$Vehicle;", Cond.fieldLink RX1 17 "TankSidings$Siding" "tanksAlone" "Z", Cond.methodLink RL 74 yX5_siding, Cond.instanceMethod yX5_siding, Cond.selects RX5 yX5_siding yX5_siding, Cond.code yX5_siding cX5_siding 4 (some .int), Cond.fieldLink RX5 89 "TankSidingsModel" "isNarrow" "Z", Cond.methodLink RX5 86 yX5_clear, Cond.instanceMethod yX5_clear, Cond.selects RX5 yX5_clear yX5_clear, Cond.code yX5_clear cX5_clear 2 none, Cond.methodLink RX5 82 yX5_empty, Cond.instanceMethod yX5_empty, Cond.selects RX5 yX5_empty yX5_empty, Cond.code yX5_empty cX5_empty 2 none, Cond.methodLink RL 75 yX4_room]
def wsL_law_r13 : List Cond := [Cond.instanceMethod yX4_room, Cond.selects RX4 yX4_room yX4_room, Cond.code yX4_room cX4_room 1 (some .int), Cond.fieldLink RX4 122 "TankSidings$Siding" "places" "[LTankSidings$Vehicle;", Cond.methodLink RL 78 yX5_room, Cond.instanceMethod yX5_room, Cond.selects RX5 yX5_room yX5_room, Cond.code yX5_room cX5_room 1 (some .int), Cond.methodLink RL 79 yX4_stow, Cond.instanceMethod yX4_stow, Cond.selects RX4 yX4_stow yX4_stow, Cond.code yX4_stow cX4_stow 5 (some .int), Cond.methodLink RX4 126 yX4_whyNoPlace, Cond.instanceMethod yX4_whyNoPlace, Cond.selects RX4 yX4_whyNoPlace yX4_whyNoPlace, Cond.code yX4_whyNoPlace cX4_whyNoPlace 2 (some .int), Cond.methodLink RX4 129 yX1_accepts, Cond.instanceMethod yX1_accepts, Cond.selects RX1 yX1_accepts yX1_accepts, Cond.code yX1_accepts cX1_accepts 2 (some .boolean), Cond.fieldLink RX1 21 "TankSidings$Vehicle" "sort" "I", Cond.methodLink RL 82 yX5_stow, Cond.instanceMethod yX5_stow, Cond.selects RX5 yX5_stow yX5_stow]
def wsL_law_r14 : List Cond := [Cond.code yX5_stow cX5_stow 4 (some .int), Cond.methodLink RL 83 yX4_fetch, Cond.instanceMethod yX4_fetch, Cond.selects RX4 yX4_fetch yX4_fetch, Cond.code yX4_fetch cX4_fetch 5 (some .int), Cond.methodLink RL 86 yX5_fetch, Cond.instanceMethod yX5_fetch, Cond.selects RX5 yX5_fetch yX5_fetch, Cond.code yX5_fetch cX5_fetch 4 (some .int), Cond.methodLink RL 87 yX4_plan, Cond.instanceMethod yX4_plan, Cond.selects RX4 yX4_plan yX4_plan, Cond.code yX4_plan cX4_plan 3 (some .int), Cond.classLink RX4 132 RX0, Cond.instantiable RX0 3, Cond.initialized RX0, Cond.fieldLink RX4 135 "TankSidings" "yardPlan" "LTankSidings$Plan;", Cond.methodLink RX4 134 yX0_init, Cond.instanceMethod yX0_init, Cond.code yX0_init cX0_init 3 none, Cond.methodLink RX0 1 objectInit, Cond.fieldLink RX0 7 "TankSidings$Plan" "rows" "I", Cond.fieldLink RX0 13 "TankSidings$Plan" "width" "I", Cond.fieldLink RX0 16 "TankSidings$Plan" "numbers" "[I"]
def wsL_law_r15 : List Cond := [Cond.methodLink RL 90 yX5_plan, Cond.instanceMethod yX5_plan, Cond.selects RX5 yX5_plan yX5_plan, Cond.code yX5_plan cX5_plan 4 (some .int), Cond.fieldLink RX5 93 "TankSidingsModel" "wide" "I", Cond.methodLink RL 91 yX4_note, Cond.instanceMethod yX4_note, Cond.selects RX4 yX4_note yX4_note, Cond.code yX4_note cX4_note 5 (some .int), Cond.fieldLink RX4 142 "TankSidings$Plan" "numbers" "[I", Cond.methodLink RX4 139 yX4_whyNoNumber, Cond.instanceMethod yX4_whyNoNumber, Cond.selects RX4 yX4_whyNoNumber yX4_whyNoNumber, Cond.code yX4_whyNoNumber cX4_whyNoNumber 4 (some .int), Cond.fieldLink RX4 151 "TankSidings$Plan" "width" "I", Cond.methodLink RX4 148 yX4_whyNoPlanRow, Cond.instanceMethod yX4_whyNoPlanRow, Cond.selects RX4 yX4_whyNoPlanRow yX4_whyNoPlanRow, Cond.code yX4_whyNoPlanRow cX4_whyNoPlanRow 2 (some .int), Cond.fieldLink RX4 157 "TankSidings$Plan" "rows" "I", Cond.methodLink RX4 145 yX0_slot, Cond.instanceMethod yX0_slot, Cond.selects RX0 yX0_slot yX0_slot, Cond.code yX0_slot cX0_slot 3 (some .int)]
def wsL_law_r16 : List Cond := [Cond.methodLink RL 94 yX5_note, Cond.instanceMethod yX5_note, Cond.selects RX5 yX5_note yX5_note, Cond.code yX5_note cX5_note 5 (some .int), Cond.methodLink RX5 96 yX5_against_, Cond.instanceMethod yX5_against_, Cond.selects RX5 yX5_against_ yX5_against_, Cond.code yX5_against_ cX5_against_ 4 (some .int), Cond.methodLink RL 95 yX4_noted, Cond.instanceMethod yX4_noted, Cond.selects RX4 yX4_noted yX4_noted, Cond.code yX4_noted cX4_noted 4 (some .int), Cond.methodLink RL 98 yX5_noted, Cond.instanceMethod yX5_noted, Cond.selects RX5 yX5_noted yX5_noted, Cond.code yX5_noted cX5_noted 4 (some .int), Cond.methodLink RL 99 yX4_wide, Cond.instanceMethod yX4_wide, Cond.selects RX4 yX4_wide yX4_wide, Cond.code yX4_wide cX4_wide 3 (some .int), Cond.methodLink RL 102 yX5_wide, Cond.instanceMethod yX5_wide, Cond.selects RX5 yX5_wide yX5_wide, Cond.code yX5_wide cX5_wide 3 (some .int)]
def wsL_law_r17 : List Cond := [Cond.methodLink RL 103 yX4_away, Cond.instanceMethod yX4_away, Cond.selects RX4 yX4_away yX4_away, Cond.code yX4_away cX4_away 3 (some .int), Cond.methodLink RL 106 yX5_away, Cond.instanceMethod yX5_away, Cond.selects RX5 yX5_away yX5_away, Cond.code yX5_away cX5_away 3 (some .int), Cond.methodLink RL 107 yX4_about, Cond.instanceMethod yX4_about, Cond.selects RX4 yX4_about yX4_about, Cond.code yX4_about cX4_about 5 (some .int), Cond.methodLink RL 110 yX5_about, Cond.instanceMethod yX5_about, Cond.selects RX5 yX5_about yX5_about, Cond.code yX5_about cX5_about 5 (some .int), Cond.methodLink RL 111 yX4_count, Cond.instanceMethod yX4_count, Cond.selects RX4 yX4_count yX4_count, Cond.code yX4_count cX4_count 2 (some .int), Cond.methodLink RL 114 yX5_count, Cond.instanceMethod yX5_count, Cond.selects RX5 yX5_count yX5_count, Cond.code yX5_count cX5_count 2 (some .int)]
def wsL_law_r18 : List Cond := [Cond.methodLink RL 115 yX4_reasons, Cond.instanceMethod yX4_reasons, Cond.selects RX4 yX4_reasons yX4_reasons, Cond.code yX4_reasons cX4_reasons 2 (some .int), Cond.methodLink RL 118 yX5_reasons, Cond.instanceMethod yX5_reasons, Cond.selects RX5 yX5_reasons yX5_reasons, Cond.code yX5_reasons cX5_reasons 2 (some .int)]
def wsL_law : List Cond := (wsL_law_r1 ++ (wsL_law_r2 ++ (wsL_law_r3 ++ (wsL_law_r4 ++ (wsL_law_r5 ++ (wsL_law_r6 ++ (wsL_law_r7 ++ (wsL_law_r8 ++ (wsL_law_r9 ++ (wsL_law_r10 ++ (wsL_law_r11 ++ (wsL_law_r12 ++ (wsL_law_r13 ++ (wsL_law_r14 ++ (wsL_law_r15 ++ (wsL_law_r16 ++ (wsL_law_r17 ++ wsL_law_r18))))))))))))))))) ++ wsX40 ++ wsX50 ++ wsX20 ++ wsX30 ++ wsX10 ++ wsX00 ++ ([] : List Cond)
set_option maxRecDepth 20000 in
theorem wsL_law_in : ∀ w ∈ wsL_law, w ∈ lw_tbl := fun w h => (goodIn_p wsL_law [25, 28, 34, 314, 68, 71, 74, 79, 105, 369, 372, 375, 379, 109, 113, 117, 121, 383, 387, 391, 125, 128, 132, 136, 395, 399, 140, 144, 403, 148, 151, 155, 407, 159, 162, 165, 411, 415, 169, 419, 173, 423, 177, 427, 181, 431, 185, 189, 435, 439, 193, 197, 201, 443, 206, 447, 210, 215, 451, 455, 459, 230, 463, 234, 238, 242, 467, 246, 471, 250, 255, 475, 273, 277, 281, 285, 479, 483, 289, 487, 293, 491, 297, 495, 301, 499, 305, 503, 309, 507] (by decide +kernel) (by decide +kernel) w h).1
theorem inlX0 : ∀ w ∈ wsX00, w ∈ wsL_law := fun _ h => List.mem_append_left _ (List.mem_append_right _ h)
theorem inX0 : ∀ w ∈ wsX00, w ∈ lw_tbl := fun w h => wsL_law_in w (inlX0 w h)
theorem inlX1 : ∀ w ∈ wsX10, w ∈ wsL_law := fun _ h => List.mem_append_left _ (List.mem_append_left _ (List.mem_append_right _ h))
theorem inX1 : ∀ w ∈ wsX10, w ∈ lw_tbl := fun w h => wsL_law_in w (inlX1 w h)
theorem inlX2 : ∀ w ∈ wsX20, w ∈ wsL_law := fun _ h => List.mem_append_left _ (List.mem_append_left _ (List.mem_append_left _ (List.mem_append_left _ (List.mem_append_right _ h))))
theorem inX2 : ∀ w ∈ wsX20, w ∈ lw_tbl := fun w h => wsL_law_in w (inlX2 w h)
theorem inlX3 : ∀ w ∈ wsX30, w ∈ wsL_law := fun _ h => List.mem_append_left _ (List.mem_append_left _ (List.mem_append_left _ (List.mem_append_right _ h)))
theorem inX3 : ∀ w ∈ wsX30, w ∈ lw_tbl := fun w h => wsL_law_in w (inlX3 w h)
theorem inlX4 : ∀ w ∈ wsX40, w ∈ wsL_law := fun _ h => List.mem_append_left _ (List.mem_append_left _ (List.mem_append_left _ (List.mem_append_left _ (List.mem_append_left _ (List.mem_append_left _ (List.mem_append_right _ h))))))
theorem inX4 : ∀ w ∈ wsX40, w ∈ lw_tbl := fun w h => wsL_law_in w (inlX4 w h)
theorem inlX5 : ∀ w ∈ wsX50, w ∈ wsL_law := fun _ h => List.mem_append_left _ (List.mem_append_left _ (List.mem_append_left _ (List.mem_append_left _ (List.mem_append_left _ (List.mem_append_right _ h)))))
theorem inX5 : ∀ w ∈ wsX50, w ∈ lw_tbl := fun w h => wsL_law_in w (inlX5 w h)
theorem dX0_init_0 : decode cX0_init 0 = .ok (.aload_n 0, 1) := by decide +kernel
theorem dX0_init_1 : decode cX0_init 1 = .ok (.invokespecial 1, 3) := by decide +kernel
theorem dX0_init_4 : decode cX0_init 4 = .ok (.aload_n 0, 1) := by decide +kernel
theorem dX0_init_5 : decode cX0_init 5 = .ok (.iload_n 1, 1) := by decide +kernel
theorem dX0_init_6 : decode cX0_init 6 = .ok (.putfield 7, 3) := by decide +kernel
theorem dX0_init_9 : decode cX0_init 9 = .ok (.aload_n 0, 1) := by decide +kernel
theorem dX0_init_10 : decode cX0_init 10 = .ok (.iload_n 2, 1) := by decide +kernel
theorem dX0_init_11 : decode cX0_init 11 = .ok (.putfield 13, 3) := by decide +kernel
theorem dX0_init_14 : decode cX0_init 14 = .ok (.aload_n 0, 1) := by decide +kernel
theorem dX0_init_15 : decode cX0_init 15 = .ok (.iload_n 1, 1) := by decide +kernel
theorem dX0_init_16 : decode cX0_init 16 = .ok (.iload_n 2, 1) := by decide +kernel
theorem dX0_init_17 : decode cX0_init 17 = .ok (.imul, 1) := by decide +kernel
theorem dX0_init_18 : decode cX0_init 18 = .ok (.newarray .int, 2) := by decide +kernel
theorem dX0_init_20 : decode cX0_init 20 = .ok (.putfield 16, 3) := by decide +kernel
theorem dX0_init_23 : decode cX0_init 23 = .ok (.return_, 1) := by decide +kernel
theorem dX0_slot_0 : decode cX0_slot 0 = .ok (.iload_n 1, 1) := by decide +kernel
theorem dX0_slot_1 : decode cX0_slot 1 = .ok (.aload_n 0, 1) := by decide +kernel
theorem dX0_slot_2 : decode cX0_slot 2 = .ok (.getfield 13, 3) := by decide +kernel
theorem dX0_slot_5 : decode cX0_slot 5 = .ok (.imul, 1) := by decide +kernel
theorem dX0_slot_6 : decode cX0_slot 6 = .ok (.iload_n 2, 1) := by decide +kernel
theorem dX0_slot_7 : decode cX0_slot 7 = .ok (.iadd, 1) := by decide +kernel
theorem dX0_slot_8 : decode cX0_slot 8 = .ok (.ireturn, 1) := by decide +kernel
theorem dX1_init_0 : decode cX1_init 0 = .ok (.aload_n 0, 1) := by decide +kernel
theorem dX1_init_1 : decode cX1_init 1 = .ok (.invokespecial 3, 3) := by decide +kernel
theorem dX1_init_4 : decode cX1_init 4 = .ok (.aload_n 0, 1) := by decide +kernel
theorem dX1_init_5 : decode cX1_init 5 = .ok (.iload_n 1, 1) := by decide +kernel
theorem dX1_init_6 : decode cX1_init 6 = .ok (.anewarray 9, 3) := by decide +kernel
theorem dX1_init_9 : decode cX1_init 9 = .ok (.putfield 11, 3) := by decide +kernel
theorem dX1_init_12 : decode cX1_init 12 = .ok (.aload_n 0, 1) := by decide +kernel
theorem dX1_init_13 : decode cX1_init 13 = .ok (.iload_n 2, 1) := by decide +kernel
theorem dX1_init_14 : decode cX1_init 14 = .ok (.putfield 17, 3) := by decide +kernel
theorem dX1_init_17 : decode cX1_init 17 = .ok (.return_, 1) := by decide +kernel
theorem dX1_accepts_0 : decode cX1_accepts 0 = .ok (.aload_n 0, 1) := by decide +kernel
theorem dX1_accepts_1 : decode cX1_accepts 1 = .ok (.getfield 17, 3) := by decide +kernel
theorem dX1_accepts_4 : decode cX1_accepts 4 = .ok (.ifCond .eq 11, 3) := by decide +kernel
theorem dX1_accepts_7 : decode cX1_accepts 7 = .ok (.aload_n 1, 1) := by decide +kernel
theorem dX1_accepts_8 : decode cX1_accepts 8 = .ok (.getfield 21, 3) := by decide +kernel
theorem dX1_accepts_11 : decode cX1_accepts 11 = .ok (.iconst 3, 1) := by decide +kernel
theorem dX1_accepts_12 : decode cX1_accepts 12 = .ok (.if_icmp .ne 7, 3) := by decide +kernel
theorem dX1_accepts_15 : decode cX1_accepts 15 = .ok (.iconst 1, 1) := by decide +kernel
theorem dX1_accepts_16 : decode cX1_accepts 16 = .ok (.goto 4, 3) := by decide +kernel
theorem dX1_accepts_19 : decode cX1_accepts 19 = .ok (.iconst 0, 1) := by decide +kernel
theorem dX1_accepts_20 : decode cX1_accepts 20 = .ok (.ireturn, 1) := by decide +kernel
theorem dX2_init_0 : decode cX2_init 0 = .ok (.aload_n 0, 1) := by decide +kernel
theorem dX2_init_1 : decode cX2_init 1 = .ok (.invokespecial 3, 3) := by decide +kernel
theorem dX2_init_4 : decode cX2_init 4 = .ok (.return_, 1) := by decide +kernel
theorem dX2_vehicleAt_0 : decode cX2_vehicleAt 0 = .ok (.iload_n 1, 1) := by decide +kernel
theorem dX2_vehicleAt_1 : decode cX2_vehicleAt 1 = .ok (.ifCond .lt 11, 3) := by decide +kernel
theorem dX2_vehicleAt_4 : decode cX2_vehicleAt 4 = .ok (.iload_n 1, 1) := by decide +kernel
theorem dX2_vehicleAt_5 : decode cX2_vehicleAt 5 = .ok (.aload_n 0, 1) := by decide +kernel
theorem dX2_vehicleAt_6 : decode cX2_vehicleAt 6 = .ok (.getfield 9, 3) := by decide +kernel
theorem dX2_vehicleAt_9 : decode cX2_vehicleAt 9 = .ok (.if_icmp .lt 5, 3) := by decide +kernel
theorem dX2_vehicleAt_12 : decode cX2_vehicleAt 12 = .ok (.aconst_null, 1) := by decide +kernel
theorem dX2_vehicleAt_13 : decode cX2_vehicleAt 13 = .ok (.areturn, 1) := by decide +kernel
theorem dX2_vehicleAt_14 : decode cX2_vehicleAt 14 = .ok (.aload_n 0, 1) := by decide +kernel
theorem dX2_vehicleAt_15 : decode cX2_vehicleAt 15 = .ok (.getfield 15, 3) := by decide +kernel
theorem dX2_vehicleAt_18 : decode cX2_vehicleAt 18 = .ok (.astore_n 2, 1) := by decide +kernel
theorem dX2_vehicleAt_19 : decode cX2_vehicleAt 19 = .ok (.iconst 0, 1) := by decide +kernel
theorem dX2_vehicleAt_20 : decode cX2_vehicleAt 20 = .ok (.istore_n 3, 1) := by decide +kernel
theorem dX2_vehicleAt_21 : decode cX2_vehicleAt 21 = .ok (.iload_n 3, 1) := by decide +kernel
theorem dX2_vehicleAt_22 : decode cX2_vehicleAt 22 = .ok (.iload_n 1, 1) := by decide +kernel
theorem dX2_vehicleAt_23 : decode cX2_vehicleAt 23 = .ok (.if_icmp .ge 18, 3) := by decide +kernel
theorem dX2_vehicleAt_26 : decode cX2_vehicleAt 26 = .ok (.aload_n 2, 1) := by decide +kernel
theorem dX2_vehicleAt_27 : decode cX2_vehicleAt 27 = .ok (.ifnull 14, 3) := by decide +kernel
theorem dX2_vehicleAt_30 : decode cX2_vehicleAt 30 = .ok (.aload_n 2, 1) := by decide +kernel
theorem dX2_vehicleAt_31 : decode cX2_vehicleAt 31 = .ok (.getfield 19, 3) := by decide +kernel
theorem dX2_vehicleAt_34 : decode cX2_vehicleAt 34 = .ok (.astore_n 2, 1) := by decide +kernel
theorem dX2_vehicleAt_35 : decode cX2_vehicleAt 35 = .ok (.iinc 3 1, 3) := by decide +kernel
theorem dX2_vehicleAt_38 : decode cX2_vehicleAt 38 = .ok (.goto (-17), 3) := by decide +kernel
theorem dX2_vehicleAt_41 : decode cX2_vehicleAt 41 = .ok (.aload_n 2, 1) := by decide +kernel
theorem dX2_vehicleAt_42 : decode cX2_vehicleAt 42 = .ok (.areturn, 1) := by decide +kernel
set_option maxRecDepth 20000 in
theorem ggX2_firstGraveBehindFront_X2_vehicleAt : GoodIn wsX2_firstGraveBehindFront wsX2_vehicleAt := goodIn_r _ [8, 1, 9, 3, 10, 11, 12, 13, 14, 15, 16] (by decide +kernel) (by decide +kernel)
set_option maxRecDepth 20000 in
theorem gX2_firstGraveBehindFront_X2_vehicleAt : GoodIn wsX2_firstGraveBehindFront (wsV RX2 24 RX2 yX2_vehicleAt wsX2_vehicleAt) := goodIn_app (goodIn_of _ (by decide +kernel)) ggX2_firstGraveBehindFront_X2_vehicleAt
theorem dX2_firstGraveBehindFront_0 : decode cX2_firstGraveBehindFront 0 = .ok (.aload_n 0, 1) := by decide +kernel
theorem dX2_firstGraveBehindFront_1 : decode cX2_firstGraveBehindFront 1 = .ok (.iconst 1, 1) := by decide +kernel
theorem dX2_firstGraveBehindFront_2 : decode cX2_firstGraveBehindFront 2 = .ok (.invokevirtual 24, 3) := by decide +kernel
theorem dX2_firstGraveBehindFront_5 : decode cX2_firstGraveBehindFront 5 = .ok (.astore_n 1, 1) := by decide +kernel
theorem dX2_firstGraveBehindFront_6 : decode cX2_firstGraveBehindFront 6 = .ok (.iconst 1, 1) := by decide +kernel
theorem dX2_firstGraveBehindFront_7 : decode cX2_firstGraveBehindFront 7 = .ok (.istore_n 2, 1) := by decide +kernel
theorem dX2_firstGraveBehindFront_8 : decode cX2_firstGraveBehindFront 8 = .ok (.iload_n 2, 1) := by decide +kernel
theorem dX2_firstGraveBehindFront_9 : decode cX2_firstGraveBehindFront 9 = .ok (.aload_n 0, 1) := by decide +kernel
theorem dX2_firstGraveBehindFront_10 : decode cX2_firstGraveBehindFront 10 = .ok (.getfield 9, 3) := by decide +kernel
theorem dX2_firstGraveBehindFront_13 : decode cX2_firstGraveBehindFront 13 = .ok (.if_icmp .ge 29, 3) := by decide +kernel
theorem dX2_firstGraveBehindFront_16 : decode cX2_firstGraveBehindFront 16 = .ok (.aload_n 1, 1) := by decide +kernel
theorem dX2_firstGraveBehindFront_17 : decode cX2_firstGraveBehindFront 17 = .ok (.ifnull 25, 3) := by decide +kernel
theorem dX2_firstGraveBehindFront_20 : decode cX2_firstGraveBehindFront 20 = .ok (.aload_n 1, 1) := by decide +kernel
theorem dX2_firstGraveBehindFront_21 : decode cX2_firstGraveBehindFront 21 = .ok (.getfield 28, 3) := by decide +kernel
theorem dX2_firstGraveBehindFront_24 : decode cX2_firstGraveBehindFront 24 = .ok (.bipush 50, 2) := by decide +kernel
theorem dX2_firstGraveBehindFront_26 : decode cX2_firstGraveBehindFront 26 = .ok (.if_icmp .lt 5, 3) := by decide +kernel
theorem dX2_firstGraveBehindFront_29 : decode cX2_firstGraveBehindFront 29 = .ok (.aload_n 1, 1) := by decide +kernel
theorem dX2_firstGraveBehindFront_30 : decode cX2_firstGraveBehindFront 30 = .ok (.areturn, 1) := by decide +kernel
theorem dX2_firstGraveBehindFront_31 : decode cX2_firstGraveBehindFront 31 = .ok (.aload_n 1, 1) := by decide +kernel
theorem dX2_firstGraveBehindFront_32 : decode cX2_firstGraveBehindFront 32 = .ok (.getfield 19, 3) := by decide +kernel
theorem dX2_firstGraveBehindFront_35 : decode cX2_firstGraveBehindFront 35 = .ok (.astore_n 1, 1) := by decide +kernel
theorem dX2_firstGraveBehindFront_36 : decode cX2_firstGraveBehindFront 36 = .ok (.iinc 2 1, 3) := by decide +kernel
theorem dX2_firstGraveBehindFront_39 : decode cX2_firstGraveBehindFront 39 = .ok (.goto (-31), 3) := by decide +kernel
theorem dX2_firstGraveBehindFront_42 : decode cX2_firstGraveBehindFront 42 = .ok (.aconst_null, 1) := by decide +kernel
theorem dX2_firstGraveBehindFront_43 : decode cX2_firstGraveBehindFront 43 = .ok (.areturn, 1) := by decide +kernel
set_option maxRecDepth 20000 in
theorem ggX2_weightBehindFront_X2_vehicleAt : GoodIn wsX2_weightBehindFront wsX2_vehicleAt := goodIn_r _ [7, 1, 8, 2, 16, 17, 18, 19, 20, 21, 22] (by decide +kernel) (by decide +kernel)
set_option maxRecDepth 20000 in
theorem gX2_weightBehindFront_X2_vehicleAt : GoodIn wsX2_weightBehindFront (wsV RX2 24 RX2 yX2_vehicleAt wsX2_vehicleAt) := goodIn_app (goodIn_of _ (by decide +kernel)) ggX2_weightBehindFront_X2_vehicleAt
set_option maxRecDepth 20000 in
theorem ggX2_weightBehindFront_X3_fullWeight : GoodIn wsX2_weightBehindFront wsX3_fullWeight := goodIn_r _ [13, 14, 15, 18, 19, 20, 21, 22] (by decide +kernel) (by decide +kernel)
set_option maxRecDepth 20000 in
theorem gX2_weightBehindFront_X3_fullWeight : GoodIn wsX2_weightBehindFront (wsV RX2 31 RX3 yX3_fullWeight wsX3_fullWeight) := goodIn_app (goodIn_of _ (by decide +kernel)) ggX2_weightBehindFront_X3_fullWeight
theorem dX2_weightBehindFront_0 : decode cX2_weightBehindFront 0 = .ok (.iconst 0, 1) := by decide +kernel
theorem dX2_weightBehindFront_1 : decode cX2_weightBehindFront 1 = .ok (.istore_n 1, 1) := by decide +kernel
theorem dX2_weightBehindFront_2 : decode cX2_weightBehindFront 2 = .ok (.aload_n 0, 1) := by decide +kernel
theorem dX2_weightBehindFront_3 : decode cX2_weightBehindFront 3 = .ok (.iconst 1, 1) := by decide +kernel
theorem dX2_weightBehindFront_4 : decode cX2_weightBehindFront 4 = .ok (.invokevirtual 24, 3) := by decide +kernel
theorem dX2_weightBehindFront_7 : decode cX2_weightBehindFront 7 = .ok (.astore_n 2, 1) := by decide +kernel
theorem dX2_weightBehindFront_8 : decode cX2_weightBehindFront 8 = .ok (.iconst 1, 1) := by decide +kernel
theorem dX2_weightBehindFront_9 : decode cX2_weightBehindFront 9 = .ok (.istore_n 3, 1) := by decide +kernel
theorem dX2_weightBehindFront_10 : decode cX2_weightBehindFront 10 = .ok (.iload_n 3, 1) := by decide +kernel
theorem dX2_weightBehindFront_11 : decode cX2_weightBehindFront 11 = .ok (.aload_n 0, 1) := by decide +kernel
theorem dX2_weightBehindFront_12 : decode cX2_weightBehindFront 12 = .ok (.getfield 9, 3) := by decide +kernel
theorem dX2_weightBehindFront_15 : decode cX2_weightBehindFront 15 = .ok (.if_icmp .ge 25, 3) := by decide +kernel
theorem dX2_weightBehindFront_18 : decode cX2_weightBehindFront 18 = .ok (.aload_n 2, 1) := by decide +kernel
theorem dX2_weightBehindFront_19 : decode cX2_weightBehindFront 19 = .ok (.ifnull 21, 3) := by decide +kernel
theorem dX2_weightBehindFront_22 : decode cX2_weightBehindFront 22 = .ok (.iload_n 1, 1) := by decide +kernel
theorem dX2_weightBehindFront_23 : decode cX2_weightBehindFront 23 = .ok (.aload_n 2, 1) := by decide +kernel
theorem dX2_weightBehindFront_24 : decode cX2_weightBehindFront 24 = .ok (.invokevirtual 31, 3) := by decide +kernel
theorem dX2_weightBehindFront_27 : decode cX2_weightBehindFront 27 = .ok (.iadd, 1) := by decide +kernel
theorem dX2_weightBehindFront_28 : decode cX2_weightBehindFront 28 = .ok (.istore_n 1, 1) := by decide +kernel
theorem dX2_weightBehindFront_29 : decode cX2_weightBehindFront 29 = .ok (.aload_n 2, 1) := by decide +kernel
theorem dX2_weightBehindFront_30 : decode cX2_weightBehindFront 30 = .ok (.getfield 19, 3) := by decide +kernel
theorem dX2_weightBehindFront_33 : decode cX2_weightBehindFront 33 = .ok (.astore_n 2, 1) := by decide +kernel
theorem dX2_weightBehindFront_34 : decode cX2_weightBehindFront 34 = .ok (.iinc 3 1, 3) := by decide +kernel
theorem dX2_weightBehindFront_37 : decode cX2_weightBehindFront 37 = .ok (.goto (-27), 3) := by decide +kernel
theorem dX2_weightBehindFront_40 : decode cX2_weightBehindFront 40 = .ok (.iload_n 1, 1) := by decide +kernel
theorem dX2_weightBehindFront_41 : decode cX2_weightBehindFront 41 = .ok (.ireturn, 1) := by decide +kernel
theorem dX2_putAhead_0 : decode cX2_putAhead 0 = .ok (.aload_n 1, 1) := by decide +kernel
theorem dX2_putAhead_1 : decode cX2_putAhead 1 = .ok (.aload_n 0, 1) := by decide +kernel
theorem dX2_putAhead_2 : decode cX2_putAhead 2 = .ok (.getfield 15, 3) := by decide +kernel
theorem dX2_putAhead_5 : decode cX2_putAhead 5 = .ok (.putfield 19, 3) := by decide +kernel
theorem dX2_putAhead_8 : decode cX2_putAhead 8 = .ok (.aload_n 0, 1) := by decide +kernel
theorem dX2_putAhead_9 : decode cX2_putAhead 9 = .ok (.aload_n 1, 1) := by decide +kernel
theorem dX2_putAhead_10 : decode cX2_putAhead 10 = .ok (.putfield 15, 3) := by decide +kernel
theorem dX2_putAhead_13 : decode cX2_putAhead 13 = .ok (.aload_n 0, 1) := by decide +kernel
theorem dX2_putAhead_14 : decode cX2_putAhead 14 = .ok (.dup, 1) := by decide +kernel
theorem dX2_putAhead_15 : decode cX2_putAhead 15 = .ok (.getfield 9, 3) := by decide +kernel
theorem dX2_putAhead_18 : decode cX2_putAhead 18 = .ok (.iconst 1, 1) := by decide +kernel
theorem dX2_putAhead_19 : decode cX2_putAhead 19 = .ok (.iadd, 1) := by decide +kernel
theorem dX2_putAhead_20 : decode cX2_putAhead 20 = .ok (.putfield 9, 3) := by decide +kernel
theorem dX2_putAhead_23 : decode cX2_putAhead 23 = .ok (.return_, 1) := by decide +kernel
theorem dX2_removeFront_0 : decode cX2_removeFront 0 = .ok (.aload_n 0, 1) := by decide +kernel
theorem dX2_removeFront_1 : decode cX2_removeFront 1 = .ok (.getfield 15, 3) := by decide +kernel
theorem dX2_removeFront_4 : decode cX2_removeFront 4 = .ok (.astore_n 1, 1) := by decide +kernel
theorem dX2_removeFront_5 : decode cX2_removeFront 5 = .ok (.aload_n 1, 1) := by decide +kernel
theorem dX2_removeFront_6 : decode cX2_removeFront 6 = .ok (.ifnull 26, 3) := by decide +kernel
theorem dX2_removeFront_9 : decode cX2_removeFront 9 = .ok (.aload_n 0, 1) := by decide +kernel
theorem dX2_removeFront_10 : decode cX2_removeFront 10 = .ok (.aload_n 1, 1) := by decide +kernel
theorem dX2_removeFront_11 : decode cX2_removeFront 11 = .ok (.getfield 19, 3) := by decide +kernel
theorem dX2_removeFront_14 : decode cX2_removeFront 14 = .ok (.putfield 15, 3) := by decide +kernel
theorem dX2_removeFront_17 : decode cX2_removeFront 17 = .ok (.aload_n 1, 1) := by decide +kernel
theorem dX2_removeFront_18 : decode cX2_removeFront 18 = .ok (.aconst_null, 1) := by decide +kernel
theorem dX2_removeFront_19 : decode cX2_removeFront 19 = .ok (.putfield 19, 3) := by decide +kernel
theorem dX2_removeFront_22 : decode cX2_removeFront 22 = .ok (.aload_n 0, 1) := by decide +kernel
theorem dX2_removeFront_23 : decode cX2_removeFront 23 = .ok (.dup, 1) := by decide +kernel
theorem dX2_removeFront_24 : decode cX2_removeFront 24 = .ok (.getfield 9, 3) := by decide +kernel
theorem dX2_removeFront_27 : decode cX2_removeFront 27 = .ok (.iconst 1, 1) := by decide +kernel
theorem dX2_removeFront_28 : decode cX2_removeFront 28 = .ok (.isub, 1) := by decide +kernel
theorem dX2_removeFront_29 : decode cX2_removeFront 29 = .ok (.putfield 9, 3) := by decide +kernel
theorem dX2_removeFront_32 : decode cX2_removeFront 32 = .ok (.aload_n 1, 1) := by decide +kernel
theorem dX2_removeFront_33 : decode cX2_removeFront 33 = .ok (.areturn, 1) := by decide +kernel
set_option maxRecDepth 20000 in
theorem ggX2_moveFirst_X2_vehicleAt : GoodIn wsX2_moveFirst wsX2_vehicleAt := goodIn_r _ [8, 3, 2, 1, 14, 15, 9, 10, 11, 12, 13] (by decide +kernel) (by decide +kernel)
set_option maxRecDepth 20000 in
theorem gX2_moveFirst_X2_vehicleAt : GoodIn wsX2_moveFirst (wsV RX2 24 RX2 yX2_vehicleAt wsX2_vehicleAt) := goodIn_app (goodIn_of _ (by decide +kernel)) ggX2_moveFirst_X2_vehicleAt
theorem dX2_moveFirst_0 : decode cX2_moveFirst 0 = .ok (.aload_n 0, 1) := by decide +kernel
theorem dX2_moveFirst_1 : decode cX2_moveFirst 1 = .ok (.iload_n 1, 1) := by decide +kernel
theorem dX2_moveFirst_2 : decode cX2_moveFirst 2 = .ok (.iconst 1, 1) := by decide +kernel
theorem dX2_moveFirst_3 : decode cX2_moveFirst 3 = .ok (.isub, 1) := by decide +kernel
theorem dX2_moveFirst_4 : decode cX2_moveFirst 4 = .ok (.invokevirtual 24, 3) := by decide +kernel
theorem dX2_moveFirst_7 : decode cX2_moveFirst 7 = .ok (.astore_n 3, 1) := by decide +kernel
theorem dX2_moveFirst_8 : decode cX2_moveFirst 8 = .ok (.aload_n 3, 1) := by decide +kernel
theorem dX2_moveFirst_9 : decode cX2_moveFirst 9 = .ok (.ifnonnull 5, 3) := by decide +kernel
theorem dX2_moveFirst_12 : decode cX2_moveFirst 12 = .ok (.iconst 0, 1) := by decide +kernel
theorem dX2_moveFirst_13 : decode cX2_moveFirst 13 = .ok (.ireturn, 1) := by decide +kernel
theorem dX2_moveFirst_14 : decode cX2_moveFirst 14 = .ok (.aload_n 3, 1) := by decide +kernel
theorem dX2_moveFirst_15 : decode cX2_moveFirst 15 = .ok (.getfield 19, 3) := by decide +kernel
theorem dX2_moveFirst_18 : decode cX2_moveFirst 18 = .ok (.astore 4, 2) := by decide +kernel
theorem dX2_moveFirst_20 : decode cX2_moveFirst 20 = .ok (.aload_n 3, 1) := by decide +kernel
theorem dX2_moveFirst_21 : decode cX2_moveFirst 21 = .ok (.aload_n 2, 1) := by decide +kernel
theorem dX2_moveFirst_22 : decode cX2_moveFirst 22 = .ok (.getfield 15, 3) := by decide +kernel
theorem dX2_moveFirst_25 : decode cX2_moveFirst 25 = .ok (.putfield 19, 3) := by decide +kernel
theorem dX2_moveFirst_28 : decode cX2_moveFirst 28 = .ok (.aload_n 2, 1) := by decide +kernel
theorem dX2_moveFirst_29 : decode cX2_moveFirst 29 = .ok (.aload_n 0, 1) := by decide +kernel
theorem dX2_moveFirst_30 : decode cX2_moveFirst 30 = .ok (.getfield 15, 3) := by decide +kernel
theorem dX2_moveFirst_33 : decode cX2_moveFirst 33 = .ok (.putfield 15, 3) := by decide +kernel
theorem dX2_moveFirst_36 : decode cX2_moveFirst 36 = .ok (.aload_n 2, 1) := by decide +kernel
theorem dX2_moveFirst_37 : decode cX2_moveFirst 37 = .ok (.dup, 1) := by decide +kernel
theorem dX2_moveFirst_38 : decode cX2_moveFirst 38 = .ok (.getfield 9, 3) := by decide +kernel
theorem dX2_moveFirst_41 : decode cX2_moveFirst 41 = .ok (.iload_n 1, 1) := by decide +kernel
theorem dX2_moveFirst_42 : decode cX2_moveFirst 42 = .ok (.iadd, 1) := by decide +kernel
theorem dX2_moveFirst_43 : decode cX2_moveFirst 43 = .ok (.putfield 9, 3) := by decide +kernel
theorem dX2_moveFirst_46 : decode cX2_moveFirst 46 = .ok (.aload_n 0, 1) := by decide +kernel
theorem dX2_moveFirst_47 : decode cX2_moveFirst 47 = .ok (.aload 4, 2) := by decide +kernel
theorem dX2_moveFirst_49 : decode cX2_moveFirst 49 = .ok (.putfield 15, 3) := by decide +kernel
theorem dX2_moveFirst_52 : decode cX2_moveFirst 52 = .ok (.aload_n 0, 1) := by decide +kernel
theorem dX2_moveFirst_53 : decode cX2_moveFirst 53 = .ok (.dup, 1) := by decide +kernel
theorem dX2_moveFirst_54 : decode cX2_moveFirst 54 = .ok (.getfield 9, 3) := by decide +kernel
theorem dX2_moveFirst_57 : decode cX2_moveFirst 57 = .ok (.iload_n 1, 1) := by decide +kernel
theorem dX2_moveFirst_58 : decode cX2_moveFirst 58 = .ok (.isub, 1) := by decide +kernel
theorem dX2_moveFirst_59 : decode cX2_moveFirst 59 = .ok (.putfield 9, 3) := by decide +kernel
theorem dX2_moveFirst_62 : decode cX2_moveFirst 62 = .ok (.iconst 1, 1) := by decide +kernel
theorem dX2_moveFirst_63 : decode cX2_moveFirst 63 = .ok (.ireturn, 1) := by decide +kernel
set_option maxRecDepth 20000 in
theorem ggX2_appendAll_X2_vehicleAt : GoodIn wsX2_appendAll wsX2_vehicleAt := goodIn_r _ [8, 1, 2, 3, 9, 10, 11, 12, 13, 14, 15] (by decide +kernel) (by decide +kernel)
set_option maxRecDepth 20000 in
theorem gX2_appendAll_X2_vehicleAt : GoodIn wsX2_appendAll (wsV RX2 24 RX2 yX2_vehicleAt wsX2_vehicleAt) := goodIn_app (goodIn_of _ (by decide +kernel)) ggX2_appendAll_X2_vehicleAt
theorem dX2_appendAll_0 : decode cX2_appendAll 0 = .ok (.aload_n 0, 1) := by decide +kernel
theorem dX2_appendAll_1 : decode cX2_appendAll 1 = .ok (.aload_n 0, 1) := by decide +kernel
theorem dX2_appendAll_2 : decode cX2_appendAll 2 = .ok (.getfield 9, 3) := by decide +kernel
theorem dX2_appendAll_5 : decode cX2_appendAll 5 = .ok (.iconst 1, 1) := by decide +kernel
theorem dX2_appendAll_6 : decode cX2_appendAll 6 = .ok (.isub, 1) := by decide +kernel
theorem dX2_appendAll_7 : decode cX2_appendAll 7 = .ok (.invokevirtual 24, 3) := by decide +kernel
theorem dX2_appendAll_10 : decode cX2_appendAll 10 = .ok (.astore_n 2, 1) := by decide +kernel
theorem dX2_appendAll_11 : decode cX2_appendAll 11 = .ok (.aload_n 2, 1) := by decide +kernel
theorem dX2_appendAll_12 : decode cX2_appendAll 12 = .ok (.ifnonnull 5, 3) := by decide +kernel
theorem dX2_appendAll_15 : decode cX2_appendAll 15 = .ok (.iconst 0, 1) := by decide +kernel
theorem dX2_appendAll_16 : decode cX2_appendAll 16 = .ok (.ireturn, 1) := by decide +kernel
theorem dX2_appendAll_17 : decode cX2_appendAll 17 = .ok (.aload_n 2, 1) := by decide +kernel
theorem dX2_appendAll_18 : decode cX2_appendAll 18 = .ok (.aload_n 1, 1) := by decide +kernel
theorem dX2_appendAll_19 : decode cX2_appendAll 19 = .ok (.getfield 15, 3) := by decide +kernel
theorem dX2_appendAll_22 : decode cX2_appendAll 22 = .ok (.putfield 19, 3) := by decide +kernel
theorem dX2_appendAll_25 : decode cX2_appendAll 25 = .ok (.aload_n 0, 1) := by decide +kernel
theorem dX2_appendAll_26 : decode cX2_appendAll 26 = .ok (.dup, 1) := by decide +kernel
theorem dX2_appendAll_27 : decode cX2_appendAll 27 = .ok (.getfield 9, 3) := by decide +kernel
theorem dX2_appendAll_30 : decode cX2_appendAll 30 = .ok (.aload_n 1, 1) := by decide +kernel
theorem dX2_appendAll_31 : decode cX2_appendAll 31 = .ok (.getfield 9, 3) := by decide +kernel
theorem dX2_appendAll_34 : decode cX2_appendAll 34 = .ok (.iadd, 1) := by decide +kernel
theorem dX2_appendAll_35 : decode cX2_appendAll 35 = .ok (.putfield 9, 3) := by decide +kernel
theorem dX2_appendAll_38 : decode cX2_appendAll 38 = .ok (.aload_n 1, 1) := by decide +kernel
theorem dX2_appendAll_39 : decode cX2_appendAll 39 = .ok (.aconst_null, 1) := by decide +kernel
theorem dX2_appendAll_40 : decode cX2_appendAll 40 = .ok (.putfield 15, 3) := by decide +kernel
theorem dX2_appendAll_43 : decode cX2_appendAll 43 = .ok (.aload_n 1, 1) := by decide +kernel
theorem dX2_appendAll_44 : decode cX2_appendAll 44 = .ok (.iconst 0, 1) := by decide +kernel
theorem dX2_appendAll_45 : decode cX2_appendAll 45 = .ok (.putfield 9, 3) := by decide +kernel
theorem dX2_appendAll_48 : decode cX2_appendAll 48 = .ok (.iconst 1, 1) := by decide +kernel
theorem dX2_appendAll_49 : decode cX2_appendAll 49 = .ok (.ireturn, 1) := by decide +kernel
theorem dX3_init_0 : decode cX3_init 0 = .ok (.aload_n 0, 1) := by decide +kernel
theorem dX3_init_1 : decode cX3_init 1 = .ok (.invokespecial 1, 3) := by decide +kernel
theorem dX3_init_4 : decode cX3_init 4 = .ok (.aload_n 0, 1) := by decide +kernel
theorem dX3_init_5 : decode cX3_init 5 = .ok (.iload_n 1, 1) := by decide +kernel
theorem dX3_init_6 : decode cX3_init 6 = .ok (.putfield 7, 3) := by decide +kernel
theorem dX3_init_9 : decode cX3_init 9 = .ok (.aload_n 0, 1) := by decide +kernel
theorem dX3_init_10 : decode cX3_init 10 = .ok (.iload_n 2, 1) := by decide +kernel
theorem dX3_init_11 : decode cX3_init 11 = .ok (.putfield 13, 3) := by decide +kernel
theorem dX3_init_14 : decode cX3_init 14 = .ok (.return_, 1) := by decide +kernel
theorem dX3_fullWeight_0 : decode cX3_fullWeight 0 = .ok (.aload_n 0, 1) := by decide +kernel
theorem dX3_fullWeight_1 : decode cX3_fullWeight 1 = .ok (.getfield 13, 3) := by decide +kernel
theorem dX3_fullWeight_4 : decode cX3_fullWeight 4 = .ok (.istore_n 1, 1) := by decide +kernel
theorem dX3_fullWeight_5 : decode cX3_fullWeight 5 = .ok (.aload_n 0, 1) := by decide +kernel
theorem dX3_fullWeight_6 : decode cX3_fullWeight 6 = .ok (.getfield 16, 3) := by decide +kernel
theorem dX3_fullWeight_9 : decode cX3_fullWeight 9 = .ok (.ifnull 37, 3) := by decide +kernel
theorem dX3_fullWeight_12 : decode cX3_fullWeight 12 = .ok (.aload_n 0, 1) := by decide +kernel
theorem dX3_fullWeight_13 : decode cX3_fullWeight 13 = .ok (.getfield 16, 3) := by decide +kernel
theorem dX3_fullWeight_16 : decode cX3_fullWeight 16 = .ok (.astore_n 2, 1) := by decide +kernel
theorem dX3_fullWeight_17 : decode cX3_fullWeight 17 = .ok (.aload_n 2, 1) := by decide +kernel
theorem dX3_fullWeight_18 : decode cX3_fullWeight 18 = .ok (.arraylength, 1) := by decide +kernel
theorem dX3_fullWeight_19 : decode cX3_fullWeight 19 = .ok (.istore_n 3, 1) := by decide +kernel
theorem dX3_fullWeight_20 : decode cX3_fullWeight 20 = .ok (.iconst 0, 1) := by decide +kernel
theorem dX3_fullWeight_21 : decode cX3_fullWeight 21 = .ok (.istore 4, 2) := by decide +kernel
theorem dX3_fullWeight_23 : decode cX3_fullWeight 23 = .ok (.iload 4, 2) := by decide +kernel
theorem dX3_fullWeight_25 : decode cX3_fullWeight 25 = .ok (.iload_n 3, 1) := by decide +kernel
theorem dX3_fullWeight_26 : decode cX3_fullWeight 26 = .ok (.if_icmp .ge 20, 3) := by decide +kernel
theorem dX3_fullWeight_29 : decode cX3_fullWeight 29 = .ok (.aload_n 2, 1) := by decide +kernel
theorem dX3_fullWeight_30 : decode cX3_fullWeight 30 = .ok (.iload 4, 2) := by decide +kernel
theorem dX3_fullWeight_32 : decode cX3_fullWeight 32 = .ok (.iaload, 1) := by decide +kernel
theorem dX3_fullWeight_33 : decode cX3_fullWeight 33 = .ok (.istore 5, 2) := by decide +kernel
theorem dX3_fullWeight_35 : decode cX3_fullWeight 35 = .ok (.iload_n 1, 1) := by decide +kernel
theorem dX3_fullWeight_36 : decode cX3_fullWeight 36 = .ok (.iload 5, 2) := by decide +kernel
theorem dX3_fullWeight_38 : decode cX3_fullWeight 38 = .ok (.iadd, 1) := by decide +kernel
theorem dX3_fullWeight_39 : decode cX3_fullWeight 39 = .ok (.istore_n 1, 1) := by decide +kernel
theorem dX3_fullWeight_40 : decode cX3_fullWeight 40 = .ok (.iinc 4 1, 3) := by decide +kernel
theorem dX3_fullWeight_43 : decode cX3_fullWeight 43 = .ok (.goto (-20), 3) := by decide +kernel
theorem dX3_fullWeight_46 : decode cX3_fullWeight 46 = .ok (.iload_n 1, 1) := by decide +kernel
theorem dX3_fullWeight_47 : decode cX3_fullWeight 47 = .ok (.ireturn, 1) := by decide +kernel
set_option maxRecDepth 20000 in
theorem ggX4_init_X2_init : GoodIn wsX4_init wsX2_init := goodIn_r _ [11, 12, 2, 3] (by decide +kernel) (by decide +kernel)
set_option maxRecDepth 20000 in
theorem gX4_init_X2_init_n19 : GoodIn wsX4_init (wsX2_init) := ggX4_init_X2_init
theorem dX4_init_0 : decode cX4_init 0 = .ok (.aload_n 0, 1) := by decide +kernel
theorem dX4_init_1 : decode cX4_init 1 = .ok (.invokespecial 1, 3) := by decide +kernel
theorem dX4_init_4 : decode cX4_init 4 = .ok (.aload_n 0, 1) := by decide +kernel
theorem dX4_init_5 : decode cX4_init 5 = .ok (.bipush 6, 2) := by decide +kernel
theorem dX4_init_7 : decode cX4_init 7 = .ok (.anewarray 9, 3) := by decide +kernel
theorem dX4_init_10 : decode cX4_init 10 = .ok (.putfield 11, 3) := by decide +kernel
theorem dX4_init_13 : decode cX4_init 13 = .ok (.aload_n 0, 1) := by decide +kernel
theorem dX4_init_14 : decode cX4_init 14 = .ok (.bipush 8, 2) := by decide +kernel
theorem dX4_init_16 : decode cX4_init 16 = .ok (.newarray .int, 2) := by decide +kernel
theorem dX4_init_18 : decode cX4_init 18 = .ok (.putfield 15, 3) := by decide +kernel
theorem dX4_init_21 : decode cX4_init 21 = .ok (.iconst 0, 1) := by decide +kernel
theorem dX4_init_22 : decode cX4_init 22 = .ok (.istore_n 1, 1) := by decide +kernel
theorem dX4_init_23 : decode cX4_init 23 = .ok (.iload_n 1, 1) := by decide +kernel
theorem dX4_init_24 : decode cX4_init 24 = .ok (.bipush 6, 2) := by decide +kernel
theorem dX4_init_26 : decode cX4_init 26 = .ok (.if_icmp .ge 22, 3) := by decide +kernel
theorem dX4_init_29 : decode cX4_init 29 = .ok (.aload_n 0, 1) := by decide +kernel
theorem dX4_init_30 : decode cX4_init 30 = .ok (.getfield 11, 3) := by decide +kernel
theorem dX4_init_33 : decode cX4_init 33 = .ok (.iload_n 1, 1) := by decide +kernel
theorem dX4_init_34 : decode cX4_init 34 = .ok (.new 9, 3) := by decide +kernel
theorem dX4_init_37 : decode cX4_init 37 = .ok (.dup, 1) := by decide +kernel
theorem dX4_init_38 : decode cX4_init 38 = .ok (.invokespecial 19, 3) := by decide +kernel
theorem dX4_init_41 : decode cX4_init 41 = .ok (.aastore, 1) := by decide +kernel
theorem dX4_init_42 : decode cX4_init 42 = .ok (.iinc 1 1, 3) := by decide +kernel
theorem dX4_init_45 : decode cX4_init 45 = .ok (.goto (-22), 3) := by decide +kernel
theorem dX4_init_48 : decode cX4_init 48 = .ok (.return_, 1) := by decide +kernel
set_option maxRecDepth 20000 in
theorem ggX4_place_X4_isTrack : GoodIn wsX4_place wsX4_isTrack := goodIn_r _ [10] (by decide +kernel) (by decide +kernel)
set_option maxRecDepth 20000 in
theorem gX4_place_X4_isTrack : GoodIn wsX4_place (va_wsS RX4 20 yX4_isTrack wsX4_isTrack) := goodIn_app (goodIn_of _ (by decide +kernel)) ggX4_place_X4_isTrack
set_option maxRecDepth 20000 in
theorem ggX4_place_X4_isWithin : GoodIn wsX4_place wsX4_isWithin := goodIn_r _ [13] (by decide +kernel) (by decide +kernel)
set_option maxRecDepth 20000 in
theorem gX4_place_X4_isWithin : GoodIn wsX4_place (va_wsS RX4 24 yX4_isWithin wsX4_isWithin) := goodIn_app (goodIn_of _ (by decide +kernel)) ggX4_place_X4_isWithin
set_option maxRecDepth 20000 in
theorem ggX4_place_X3_init : GoodIn wsX4_place wsX3_init := goodIn_r _ [16, 17, 18, 19, 20, 21, 36, 37, 38, 39, 40] (by decide +kernel) (by decide +kernel)
set_option maxRecDepth 20000 in
theorem gX4_place_X3_init : GoodIn wsX4_place (wsX3_init) := ggX4_place_X3_init
set_option maxRecDepth 20000 in
theorem ggX4_place_X2_putAhead : GoodIn wsX4_place wsX2_putAhead := goodIn_r _ [26, 27, 28, 29, 41, 42, 36, 37, 38, 39, 40] (by decide +kernel) (by decide +kernel)
set_option maxRecDepth 20000 in
theorem gX4_place_X2_putAhead : GoodIn wsX4_place (wsV RX4 37 RX2 yX2_putAhead wsX2_putAhead) := goodIn_app (goodIn_of _ (by decide +kernel)) ggX4_place_X2_putAhead
theorem dX4_place_0 : decode cX4_place 0 = .ok (.iload_n 1, 1) := by decide +kernel
theorem dX4_place_1 : decode cX4_place 1 = .ok (.invokestatic 20, 3) := by decide +kernel
theorem dX4_place_4 : decode cX4_place 4 = .ok (.ifCond .eq 27, 3) := by decide +kernel
theorem dX4_place_7 : decode cX4_place 7 = .ok (.iload_n 2, 1) := by decide +kernel
theorem dX4_place_8 : decode cX4_place 8 = .ok (.iconst 1, 1) := by decide +kernel
theorem dX4_place_9 : decode cX4_place 9 = .ok (.iconst 3, 1) := by decide +kernel
theorem dX4_place_10 : decode cX4_place 10 = .ok (.invokestatic 24, 3) := by decide +kernel
theorem dX4_place_13 : decode cX4_place 13 = .ok (.ifCond .eq 18, 3) := by decide +kernel
theorem dX4_place_16 : decode cX4_place 16 = .ok (.iload_n 3, 1) := by decide +kernel
theorem dX4_place_17 : decode cX4_place 17 = .ok (.iconst 1, 1) := by decide +kernel
theorem dX4_place_18 : decode cX4_place 18 = .ok (.sipush 1000, 3) := by decide +kernel
theorem dX4_place_21 : decode cX4_place 21 = .ok (.invokestatic 24, 3) := by decide +kernel
theorem dX4_place_24 : decode cX4_place 24 = .ok (.ifCond .eq 7, 3) := by decide +kernel
theorem dX4_place_27 : decode cX4_place 27 = .ok (.iconst 1, 1) := by decide +kernel
theorem dX4_place_28 : decode cX4_place 28 = .ok (.goto 4, 3) := by decide +kernel
theorem dX4_place_31 : decode cX4_place 31 = .ok (.iconst 0, 1) := by decide +kernel
theorem dX4_place_32 : decode cX4_place 32 = .ok (.istore 4, 2) := by decide +kernel
theorem dX4_place_34 : decode cX4_place 34 = .ok (.iload 4, 2) := by decide +kernel
theorem dX4_place_36 : decode cX4_place 36 = .ok (.ifCond .eq 13, 3) := by decide +kernel
theorem dX4_place_39 : decode cX4_place 39 = .ok (.aload_n 0, 1) := by decide +kernel
theorem dX4_place_40 : decode cX4_place 40 = .ok (.getfield 28, 3) := by decide +kernel
theorem dX4_place_43 : decode cX4_place 43 = .ok (.sipush 512, 3) := by decide +kernel
theorem dX4_place_46 : decode cX4_place 46 = .ok (.if_icmp .lt 5, 3) := by decide +kernel
theorem dX4_place_49 : decode cX4_place 49 = .ok (.iconst (-1), 1) := by decide +kernel
theorem dX4_place_50 : decode cX4_place 50 = .ok (.ireturn, 1) := by decide +kernel
theorem dX4_place_51 : decode cX4_place 51 = .ok (.aload_n 0, 1) := by decide +kernel
theorem dX4_place_52 : decode cX4_place 52 = .ok (.dup, 1) := by decide +kernel
theorem dX4_place_53 : decode cX4_place 53 = .ok (.getfield 28, 3) := by decide +kernel
theorem dX4_place_56 : decode cX4_place 56 = .ok (.iconst 1, 1) := by decide +kernel
theorem dX4_place_57 : decode cX4_place 57 = .ok (.iadd, 1) := by decide +kernel
theorem dX4_place_58 : decode cX4_place 58 = .ok (.putfield 28, 3) := by decide +kernel
theorem dX4_place_61 : decode cX4_place 61 = .ok (.aload_n 0, 1) := by decide +kernel
theorem dX4_place_62 : decode cX4_place 62 = .ok (.getfield 11, 3) := by decide +kernel
theorem dX4_place_65 : decode cX4_place 65 = .ok (.iload_n 1, 1) := by decide +kernel
theorem dX4_place_66 : decode cX4_place 66 = .ok (.aaload, 1) := by decide +kernel
theorem dX4_place_67 : decode cX4_place 67 = .ok (.new 32, 3) := by decide +kernel
theorem dX4_place_70 : decode cX4_place 70 = .ok (.dup, 1) := by decide +kernel
theorem dX4_place_71 : decode cX4_place 71 = .ok (.iload_n 2, 1) := by decide +kernel
theorem dX4_place_72 : decode cX4_place 72 = .ok (.iload_n 3, 1) := by decide +kernel
theorem dX4_place_73 : decode cX4_place 73 = .ok (.invokespecial 34, 3) := by decide +kernel
theorem dX4_place_76 : decode cX4_place 76 = .ok (.invokevirtual 37, 3) := by decide +kernel
theorem dX4_place_79 : decode cX4_place 79 = .ok (.aload_n 0, 1) := by decide +kernel
theorem dX4_place_80 : decode cX4_place 80 = .ok (.getfield 11, 3) := by decide +kernel
theorem dX4_place_83 : decode cX4_place 83 = .ok (.iload_n 1, 1) := by decide +kernel
theorem dX4_place_84 : decode cX4_place 84 = .ok (.aaload, 1) := by decide +kernel
theorem dX4_place_85 : decode cX4_place 85 = .ok (.getfield 41, 3) := by decide +kernel
theorem dX4_place_88 : decode cX4_place 88 = .ok (.ireturn, 1) := by decide +kernel
set_option maxRecDepth 20000 in
theorem ggX4_take_X4_isTrack : GoodIn wsX4_take wsX4_isTrack := goodIn_r _ [5] (by decide +kernel) (by decide +kernel)
set_option maxRecDepth 20000 in
theorem gX4_take_X4_isTrack : GoodIn wsX4_take (va_wsS RX4 20 yX4_isTrack wsX4_isTrack) := goodIn_app (goodIn_of _ (by decide +kernel)) ggX4_take_X4_isTrack
set_option maxRecDepth 20000 in
theorem ggX4_take_X2_removeFront : GoodIn wsX4_take wsX2_removeFront := goodIn_r _ [10, 11, 12, 13, 32, 33, 34, 35, 36, 37, 38] (by decide +kernel) (by decide +kernel)
set_option maxRecDepth 20000 in
theorem gX4_take_X2_removeFront : GoodIn wsX4_take (wsV RX4 44 RX2 yX2_removeFront wsX2_removeFront) := goodIn_app (goodIn_of _ (by decide +kernel)) ggX4_take_X2_removeFront
set_option maxRecDepth 20000 in
theorem ggX4_take_X4_tell : GoodIn wsX4_take wsX4_tell := goodIn_r _ [17, 18, 26, 27, 28, 29, 30, 31] (by decide +kernel) (by decide +kernel)
set_option maxRecDepth 20000 in
theorem gX4_take_X4_tell : GoodIn wsX4_take (wsV RX4 48 RX4 yX4_tell wsX4_tell) := goodIn_app (goodIn_of _ (by decide +kernel)) ggX4_take_X4_tell
set_option maxRecDepth 20000 in
theorem ggX4_take_X3_fullWeight : GoodIn wsX4_take wsX3_fullWeight := goodIn_r _ [23, 24, 25, 34, 35, 36, 37, 38] (by decide +kernel) (by decide +kernel)
set_option maxRecDepth 20000 in
theorem gX4_take_X3_fullWeight : GoodIn wsX4_take (wsV RX4 52 RX3 yX3_fullWeight wsX3_fullWeight) := goodIn_app (goodIn_of _ (by decide +kernel)) ggX4_take_X3_fullWeight
theorem dX4_take_0 : decode cX4_take 0 = .ok (.iload_n 1, 1) := by decide +kernel
theorem dX4_take_1 : decode cX4_take 1 = .ok (.invokestatic 20, 3) := by decide +kernel
theorem dX4_take_4 : decode cX4_take 4 = .ok (.ifCond .ne 5, 3) := by decide +kernel
theorem dX4_take_7 : decode cX4_take 7 = .ok (.iconst (-1), 1) := by decide +kernel
theorem dX4_take_8 : decode cX4_take 8 = .ok (.ireturn, 1) := by decide +kernel
theorem dX4_take_9 : decode cX4_take 9 = .ok (.aload_n 0, 1) := by decide +kernel
theorem dX4_take_10 : decode cX4_take 10 = .ok (.getfield 11, 3) := by decide +kernel
theorem dX4_take_13 : decode cX4_take 13 = .ok (.iload_n 1, 1) := by decide +kernel
theorem dX4_take_14 : decode cX4_take 14 = .ok (.aaload, 1) := by decide +kernel
theorem dX4_take_15 : decode cX4_take 15 = .ok (.invokevirtual 44, 3) := by decide +kernel
theorem dX4_take_18 : decode cX4_take 18 = .ok (.astore_n 2, 1) := by decide +kernel
theorem dX4_take_19 : decode cX4_take 19 = .ok (.aload_n 2, 1) := by decide +kernel
theorem dX4_take_20 : decode cX4_take 20 = .ok (.ifnonnull 11, 3) := by decide +kernel
theorem dX4_take_23 : decode cX4_take 23 = .ok (.aload_n 0, 1) := by decide +kernel
theorem dX4_take_24 : decode cX4_take 24 = .ok (.iconst 1, 1) := by decide +kernel
theorem dX4_take_25 : decode cX4_take 25 = .ok (.invokevirtual 48, 3) := by decide +kernel
theorem dX4_take_28 : decode cX4_take 28 = .ok (.goto 7, 3) := by decide +kernel
theorem dX4_take_31 : decode cX4_take 31 = .ok (.aload_n 2, 1) := by decide +kernel
theorem dX4_take_32 : decode cX4_take 32 = .ok (.invokevirtual 52, 3) := by decide +kernel
theorem dX4_take_35 : decode cX4_take 35 = .ok (.ireturn, 1) := by decide +kernel
set_option maxRecDepth 20000 in
theorem ggX4_shunt_X4_areTwoTracks : GoodIn wsX4_shunt wsX4_areTwoTracks := goodIn_r _ [5, 6, 7, 4, 8] (by decide +kernel) (by decide +kernel)
set_option maxRecDepth 20000 in
theorem gX4_shunt_X4_areTwoTracks : GoodIn wsX4_shunt (va_wsS RX4 56 yX4_areTwoTracks wsX4_areTwoTracks) := goodIn_app (goodIn_of _ (by decide +kernel)) ggX4_shunt_X4_areTwoTracks
set_option maxRecDepth 20000 in
theorem ggX4_shunt_X4_isWithin : GoodIn wsX4_shunt wsX4_isWithin := goodIn_r _ [11] (by decide +kernel) (by decide +kernel)
set_option maxRecDepth 20000 in
theorem gX4_shunt_X4_isWithin : GoodIn wsX4_shunt (va_wsS RX4 24 yX4_isWithin wsX4_isWithin) := goodIn_app (goodIn_of _ (by decide +kernel)) ggX4_shunt_X4_isWithin
set_option maxRecDepth 20000 in
theorem ggX4_shunt_X2_moveFirst : GoodIn wsX4_shunt wsX2_moveFirst := goodIn_r _ [16, 17, 18, 19, 20, 21, 22, 15, 23, 35, 36, 37, 38, 39, 40, 41] (by decide +kernel) (by decide +kernel)
set_option maxRecDepth 20000 in
theorem gX4_shunt_X2_moveFirst : GoodIn wsX4_shunt (wsV RX4 60 RX2 yX2_moveFirst wsX2_moveFirst) := goodIn_app (goodIn_of _ (by decide +kernel)) ggX4_shunt_X2_moveFirst
set_option maxRecDepth 20000 in
theorem ggX4_shunt_X4_tell : GoodIn wsX4_shunt wsX4_tell := goodIn_r _ [27, 28, 29, 30, 31, 32, 33, 34] (by decide +kernel) (by decide +kernel)
set_option maxRecDepth 20000 in
theorem gX4_shunt_X4_tell : GoodIn wsX4_shunt (wsV RX4 48 RX4 yX4_tell wsX4_tell) := goodIn_app (goodIn_of _ (by decide +kernel)) ggX4_shunt_X4_tell
theorem dX4_shunt_0 : decode cX4_shunt 0 = .ok (.iload_n 1, 1) := by decide +kernel
theorem dX4_shunt_1 : decode cX4_shunt 1 = .ok (.iload_n 3, 1) := by decide +kernel
theorem dX4_shunt_2 : decode cX4_shunt 2 = .ok (.invokestatic 56, 3) := by decide +kernel
theorem dX4_shunt_5 : decode cX4_shunt 5 = .ok (.ifCond .eq 13, 3) := by decide +kernel
theorem dX4_shunt_8 : decode cX4_shunt 8 = .ok (.iload_n 2, 1) := by decide +kernel
theorem dX4_shunt_9 : decode cX4_shunt 9 = .ok (.iconst 1, 1) := by decide +kernel
theorem dX4_shunt_10 : decode cX4_shunt 10 = .ok (.bipush 99, 2) := by decide +kernel
theorem dX4_shunt_12 : decode cX4_shunt 12 = .ok (.invokestatic 24, 3) := by decide +kernel
theorem dX4_shunt_15 : decode cX4_shunt 15 = .ok (.ifCond .ne 5, 3) := by decide +kernel
theorem dX4_shunt_18 : decode cX4_shunt 18 = .ok (.iconst (-1), 1) := by decide +kernel
theorem dX4_shunt_19 : decode cX4_shunt 19 = .ok (.ireturn, 1) := by decide +kernel
theorem dX4_shunt_20 : decode cX4_shunt 20 = .ok (.aload_n 0, 1) := by decide +kernel
theorem dX4_shunt_21 : decode cX4_shunt 21 = .ok (.getfield 11, 3) := by decide +kernel
theorem dX4_shunt_24 : decode cX4_shunt 24 = .ok (.iload_n 1, 1) := by decide +kernel
theorem dX4_shunt_25 : decode cX4_shunt 25 = .ok (.aaload, 1) := by decide +kernel
theorem dX4_shunt_26 : decode cX4_shunt 26 = .ok (.iload_n 2, 1) := by decide +kernel
theorem dX4_shunt_27 : decode cX4_shunt 27 = .ok (.aload_n 0, 1) := by decide +kernel
theorem dX4_shunt_28 : decode cX4_shunt 28 = .ok (.getfield 11, 3) := by decide +kernel
theorem dX4_shunt_31 : decode cX4_shunt 31 = .ok (.iload_n 3, 1) := by decide +kernel
theorem dX4_shunt_32 : decode cX4_shunt 32 = .ok (.aaload, 1) := by decide +kernel
theorem dX4_shunt_33 : decode cX4_shunt 33 = .ok (.invokevirtual 60, 3) := by decide +kernel
theorem dX4_shunt_36 : decode cX4_shunt 36 = .ok (.ifCond .eq 7, 3) := by decide +kernel
theorem dX4_shunt_39 : decode cX4_shunt 39 = .ok (.iload_n 2, 1) := by decide +kernel
theorem dX4_shunt_40 : decode cX4_shunt 40 = .ok (.goto 8, 3) := by decide +kernel
theorem dX4_shunt_43 : decode cX4_shunt 43 = .ok (.aload_n 0, 1) := by decide +kernel
theorem dX4_shunt_44 : decode cX4_shunt 44 = .ok (.iconst 1, 1) := by decide +kernel
theorem dX4_shunt_45 : decode cX4_shunt 45 = .ok (.invokevirtual 48, 3) := by decide +kernel
theorem dX4_shunt_48 : decode cX4_shunt 48 = .ok (.ireturn, 1) := by decide +kernel
set_option maxRecDepth 20000 in
theorem ggX4_couple_X4_areTwoTracks : GoodIn wsX4_couple wsX4_areTwoTracks := goodIn_r _ [6, 7, 8, 5, 9] (by decide +kernel) (by decide +kernel)
set_option maxRecDepth 20000 in
theorem gX4_couple_X4_areTwoTracks : GoodIn wsX4_couple (va_wsS RX4 56 yX4_areTwoTracks wsX4_areTwoTracks) := goodIn_app (goodIn_of _ (by decide +kernel)) ggX4_couple_X4_areTwoTracks
set_option maxRecDepth 20000 in
theorem ggX4_couple_X2_appendAll : GoodIn wsX4_couple wsX2_appendAll := goodIn_r _ [14, 15, 16, 17, 18, 19, 20, 13, 21, 33, 34, 35, 36, 37, 38, 39] (by decide +kernel) (by decide +kernel)
set_option maxRecDepth 20000 in
theorem gX4_couple_X2_appendAll : GoodIn wsX4_couple (wsV RX4 64 RX2 yX2_appendAll wsX2_appendAll) := goodIn_app (goodIn_of _ (by decide +kernel)) ggX4_couple_X2_appendAll
set_option maxRecDepth 20000 in
theorem ggX4_couple_X4_tell : GoodIn wsX4_couple wsX4_tell := goodIn_r _ [25, 26, 27, 28, 29, 30, 31, 32] (by decide +kernel) (by decide +kernel)
set_option maxRecDepth 20000 in
theorem gX4_couple_X4_tell : GoodIn wsX4_couple (wsV RX4 48 RX4 yX4_tell wsX4_tell) := goodIn_app (goodIn_of _ (by decide +kernel)) ggX4_couple_X4_tell
theorem dX4_couple_0 : decode cX4_couple 0 = .ok (.iload_n 1, 1) := by decide +kernel
theorem dX4_couple_1 : decode cX4_couple 1 = .ok (.iload_n 2, 1) := by decide +kernel
theorem dX4_couple_2 : decode cX4_couple 2 = .ok (.invokestatic 56, 3) := by decide +kernel
theorem dX4_couple_5 : decode cX4_couple 5 = .ok (.ifCond .ne 5, 3) := by decide +kernel
theorem dX4_couple_8 : decode cX4_couple 8 = .ok (.iconst (-1), 1) := by decide +kernel
theorem dX4_couple_9 : decode cX4_couple 9 = .ok (.ireturn, 1) := by decide +kernel
theorem dX4_couple_10 : decode cX4_couple 10 = .ok (.aload_n 0, 1) := by decide +kernel
theorem dX4_couple_11 : decode cX4_couple 11 = .ok (.getfield 11, 3) := by decide +kernel
theorem dX4_couple_14 : decode cX4_couple 14 = .ok (.iload_n 1, 1) := by decide +kernel
theorem dX4_couple_15 : decode cX4_couple 15 = .ok (.aaload, 1) := by decide +kernel
theorem dX4_couple_16 : decode cX4_couple 16 = .ok (.aload_n 0, 1) := by decide +kernel
theorem dX4_couple_17 : decode cX4_couple 17 = .ok (.getfield 11, 3) := by decide +kernel
theorem dX4_couple_20 : decode cX4_couple 20 = .ok (.iload_n 2, 1) := by decide +kernel
theorem dX4_couple_21 : decode cX4_couple 21 = .ok (.aaload, 1) := by decide +kernel
theorem dX4_couple_22 : decode cX4_couple 22 = .ok (.invokevirtual 64, 3) := by decide +kernel
theorem dX4_couple_25 : decode cX4_couple 25 = .ok (.ifCond .eq 15, 3) := by decide +kernel
theorem dX4_couple_28 : decode cX4_couple 28 = .ok (.aload_n 0, 1) := by decide +kernel
theorem dX4_couple_29 : decode cX4_couple 29 = .ok (.getfield 11, 3) := by decide +kernel
theorem dX4_couple_32 : decode cX4_couple 32 = .ok (.iload_n 1, 1) := by decide +kernel
theorem dX4_couple_33 : decode cX4_couple 33 = .ok (.aaload, 1) := by decide +kernel
theorem dX4_couple_34 : decode cX4_couple 34 = .ok (.getfield 41, 3) := by decide +kernel
theorem dX4_couple_37 : decode cX4_couple 37 = .ok (.goto 8, 3) := by decide +kernel
theorem dX4_couple_40 : decode cX4_couple 40 = .ok (.aload_n 0, 1) := by decide +kernel
theorem dX4_couple_41 : decode cX4_couple 41 = .ok (.iconst 1, 1) := by decide +kernel
theorem dX4_couple_42 : decode cX4_couple 42 = .ok (.invokevirtual 48, 3) := by decide +kernel
theorem dX4_couple_45 : decode cX4_couple 45 = .ok (.ireturn, 1) := by decide +kernel
set_option maxRecDepth 20000 in
theorem ggX4_crates_X4_isPosition : GoodIn wsX4_crates wsX4_isPosition := goodIn_r _ [7, 8, 9, 6, 10] (by decide +kernel) (by decide +kernel)
set_option maxRecDepth 20000 in
theorem gX4_crates_X4_isPosition : GoodIn wsX4_crates (va_wsS RX4 68 yX4_isPosition wsX4_isPosition) := goodIn_app (goodIn_of _ (by decide +kernel)) ggX4_crates_X4_isPosition
set_option maxRecDepth 20000 in
theorem ggX4_crates_X2_vehicleAt : GoodIn wsX4_crates wsX2_vehicleAt := goodIn_r _ [15, 16, 17, 18, 39, 40, 34, 35, 36, 37, 38] (by decide +kernel) (by decide +kernel)
set_option maxRecDepth 20000 in
theorem gX4_crates_X2_vehicleAt : GoodIn wsX4_crates (wsV RX4 71 RX2 yX2_vehicleAt wsX2_vehicleAt) := goodIn_app (goodIn_of _ (by decide +kernel)) ggX4_crates_X2_vehicleAt
set_option maxRecDepth 20000 in
theorem ggX4_crates_X4_isEngine : GoodIn wsX4_crates wsX4_isEngine := goodIn_r _ [21, 22, 34, 35, 36, 37, 38] (by decide +kernel) (by decide +kernel)
set_option maxRecDepth 20000 in
theorem gX4_crates_X4_isEngine : GoodIn wsX4_crates (va_wsS RX4 75 yX4_isEngine wsX4_isEngine) := goodIn_app (goodIn_of _ (by decide +kernel)) ggX4_crates_X4_isEngine
set_option maxRecDepth 20000 in
theorem ggX4_crates_X4_tell : GoodIn wsX4_crates wsX4_tell := goodIn_r _ [26, 27, 28, 29, 30, 31, 32, 33] (by decide +kernel) (by decide +kernel)
set_option maxRecDepth 20000 in
theorem gX4_crates_X4_tell : GoodIn wsX4_crates (wsV RX4 48 RX4 yX4_tell wsX4_tell) := goodIn_app (goodIn_of _ (by decide +kernel)) ggX4_crates_X4_tell
theorem dX4_crates_0 : decode cX4_crates 0 = .ok (.iload_n 1, 1) := by decide +kernel
theorem dX4_crates_1 : decode cX4_crates 1 = .ok (.iload_n 2, 1) := by decide +kernel
theorem dX4_crates_2 : decode cX4_crates 2 = .ok (.invokestatic 68, 3) := by decide +kernel
theorem dX4_crates_5 : decode cX4_crates 5 = .ok (.ifCond .eq 9, 3) := by decide +kernel
theorem dX4_crates_8 : decode cX4_crates 8 = .ok (.iload_n 3, 1) := by decide +kernel
theorem dX4_crates_9 : decode cX4_crates 9 = .ok (.bipush 12, 2) := by decide +kernel
theorem dX4_crates_11 : decode cX4_crates 11 = .ok (.if_icmp .le 5, 3) := by decide +kernel
theorem dX4_crates_14 : decode cX4_crates 14 = .ok (.iconst (-1), 1) := by decide +kernel
theorem dX4_crates_15 : decode cX4_crates 15 = .ok (.ireturn, 1) := by decide +kernel
theorem dX4_crates_16 : decode cX4_crates 16 = .ok (.aload_n 0, 1) := by decide +kernel
theorem dX4_crates_17 : decode cX4_crates 17 = .ok (.getfield 11, 3) := by decide +kernel
theorem dX4_crates_20 : decode cX4_crates 20 = .ok (.iload_n 1, 1) := by decide +kernel
theorem dX4_crates_21 : decode cX4_crates 21 = .ok (.aaload, 1) := by decide +kernel
theorem dX4_crates_22 : decode cX4_crates 22 = .ok (.iload_n 2, 1) := by decide +kernel
theorem dX4_crates_23 : decode cX4_crates 23 = .ok (.invokevirtual 71, 3) := by decide +kernel
theorem dX4_crates_26 : decode cX4_crates 26 = .ok (.astore 4, 2) := by decide +kernel
theorem dX4_crates_28 : decode cX4_crates 28 = .ok (.aload 4, 2) := by decide +kernel
theorem dX4_crates_30 : decode cX4_crates 30 = .ok (.invokestatic 75, 3) := by decide +kernel
theorem dX4_crates_33 : decode cX4_crates 33 = .ok (.ifCond .eq 9, 3) := by decide +kernel
theorem dX4_crates_36 : decode cX4_crates 36 = .ok (.aload_n 0, 1) := by decide +kernel
theorem dX4_crates_37 : decode cX4_crates 37 = .ok (.iconst 2, 1) := by decide +kernel
theorem dX4_crates_38 : decode cX4_crates 38 = .ok (.invokevirtual 48, 3) := by decide +kernel
theorem dX4_crates_41 : decode cX4_crates 41 = .ok (.ireturn, 1) := by decide +kernel
theorem dX4_crates_42 : decode cX4_crates 42 = .ok (.iload_n 3, 1) := by decide +kernel
theorem dX4_crates_43 : decode cX4_crates 43 = .ok (.ifCond .ge 9, 3) := by decide +kernel
theorem dX4_crates_46 : decode cX4_crates 46 = .ok (.aload_n 0, 1) := by decide +kernel
theorem dX4_crates_47 : decode cX4_crates 47 = .ok (.iconst 4, 1) := by decide +kernel
theorem dX4_crates_48 : decode cX4_crates 48 = .ok (.invokevirtual 48, 3) := by decide +kernel
theorem dX4_crates_51 : decode cX4_crates 51 = .ok (.ireturn, 1) := by decide +kernel
theorem dX4_crates_52 : decode cX4_crates 52 = .ok (.aload 4, 2) := by decide +kernel
theorem dX4_crates_54 : decode cX4_crates 54 = .ok (.ifnonnull 9, 3) := by decide +kernel
theorem dX4_crates_57 : decode cX4_crates 57 = .ok (.aload_n 0, 1) := by decide +kernel
theorem dX4_crates_58 : decode cX4_crates 58 = .ok (.iconst 1, 1) := by decide +kernel
theorem dX4_crates_59 : decode cX4_crates 59 = .ok (.invokevirtual 48, 3) := by decide +kernel
theorem dX4_crates_62 : decode cX4_crates 62 = .ok (.ireturn, 1) := by decide +kernel
theorem dX4_crates_63 : decode cX4_crates 63 = .ok (.aload 4, 2) := by decide +kernel
theorem dX4_crates_65 : decode cX4_crates 65 = .ok (.iload_n 3, 1) := by decide +kernel
theorem dX4_crates_66 : decode cX4_crates 66 = .ok (.newarray .int, 2) := by decide +kernel
theorem dX4_crates_68 : decode cX4_crates 68 = .ok (.putfield 79, 3) := by decide +kernel
theorem dX4_crates_71 : decode cX4_crates 71 = .ok (.iload_n 3, 1) := by decide +kernel
theorem dX4_crates_72 : decode cX4_crates 72 = .ok (.ireturn, 1) := by decide +kernel
set_option maxRecDepth 20000 in
theorem ggX4_load_X4_isPosition : GoodIn wsX4_load wsX4_isPosition := goodIn_r _ [6, 7, 8, 5, 9] (by decide +kernel) (by decide +kernel)
set_option maxRecDepth 20000 in
theorem gX4_load_X4_isPosition : GoodIn wsX4_load (va_wsS RX4 68 yX4_isPosition wsX4_isPosition) := goodIn_app (goodIn_of _ (by decide +kernel)) ggX4_load_X4_isPosition
set_option maxRecDepth 20000 in
theorem ggX4_load_X4_isWithin : GoodIn wsX4_load wsX4_isWithin := goodIn_r _ [12] (by decide +kernel) (by decide +kernel)
set_option maxRecDepth 20000 in
theorem gX4_load_X4_isWithin : GoodIn wsX4_load (va_wsS RX4 24 yX4_isWithin wsX4_isWithin) := goodIn_app (goodIn_of _ (by decide +kernel)) ggX4_load_X4_isWithin
set_option maxRecDepth 20000 in
theorem ggX4_load_X2_vehicleAt : GoodIn wsX4_load wsX2_vehicleAt := goodIn_r _ [17, 18, 19, 20, 47, 48, 42, 43, 44, 45, 46] (by decide +kernel) (by decide +kernel)
set_option maxRecDepth 20000 in
theorem gX4_load_X2_vehicleAt : GoodIn wsX4_load (wsV RX4 71 RX2 yX2_vehicleAt wsX2_vehicleAt) := goodIn_app (goodIn_of _ (by decide +kernel)) ggX4_load_X2_vehicleAt
set_option maxRecDepth 20000 in
theorem ggX4_load_X4_whyNoCrate : GoodIn wsX4_load wsX4_whyNoCrate := goodIn_r _ [23, 2, 24, 25, 5, 26, 27, 28, 29, 30, 42, 43, 44, 45, 46] (by decide +kernel) (by decide +kernel)
set_option maxRecDepth 20000 in
theorem gX4_load_X4_whyNoCrate : GoodIn wsX4_load (va_wsS RX4 82 yX4_whyNoCrate wsX4_whyNoCrate) := goodIn_app (goodIn_of _ (by decide +kernel)) ggX4_load_X4_whyNoCrate
set_option maxRecDepth 20000 in
theorem ggX4_load_X4_tell : GoodIn wsX4_load wsX4_tell := goodIn_r _ [34, 35, 36, 37, 38, 39, 40, 41] (by decide +kernel) (by decide +kernel)
set_option maxRecDepth 20000 in
theorem gX4_load_X4_tell : GoodIn wsX4_load (wsV RX4 48 RX4 yX4_tell wsX4_tell) := goodIn_app (goodIn_of _ (by decide +kernel)) ggX4_load_X4_tell
theorem dX4_load_0 : decode cX4_load 0 = .ok (.iload_n 1, 1) := by decide +kernel
theorem dX4_load_1 : decode cX4_load 1 = .ok (.iload_n 2, 1) := by decide +kernel
theorem dX4_load_2 : decode cX4_load 2 = .ok (.invokestatic 68, 3) := by decide +kernel
theorem dX4_load_5 : decode cX4_load 5 = .ok (.ifCond .eq 14, 3) := by decide +kernel
theorem dX4_load_8 : decode cX4_load 8 = .ok (.iload 4, 2) := by decide +kernel
theorem dX4_load_10 : decode cX4_load 10 = .ok (.iconst 0, 1) := by decide +kernel
theorem dX4_load_11 : decode cX4_load 11 = .ok (.bipush 99, 2) := by decide +kernel
theorem dX4_load_13 : decode cX4_load 13 = .ok (.invokestatic 24, 3) := by decide +kernel
theorem dX4_load_16 : decode cX4_load 16 = .ok (.ifCond .ne 5, 3) := by decide +kernel
theorem dX4_load_19 : decode cX4_load 19 = .ok (.iconst (-1), 1) := by decide +kernel
theorem dX4_load_20 : decode cX4_load 20 = .ok (.ireturn, 1) := by decide +kernel
theorem dX4_load_21 : decode cX4_load 21 = .ok (.aload_n 0, 1) := by decide +kernel
theorem dX4_load_22 : decode cX4_load 22 = .ok (.getfield 11, 3) := by decide +kernel
theorem dX4_load_25 : decode cX4_load 25 = .ok (.iload_n 1, 1) := by decide +kernel
theorem dX4_load_26 : decode cX4_load 26 = .ok (.aaload, 1) := by decide +kernel
theorem dX4_load_27 : decode cX4_load 27 = .ok (.iload_n 2, 1) := by decide +kernel
theorem dX4_load_28 : decode cX4_load 28 = .ok (.invokevirtual 71, 3) := by decide +kernel
theorem dX4_load_31 : decode cX4_load 31 = .ok (.astore 5, 2) := by decide +kernel
theorem dX4_load_33 : decode cX4_load 33 = .ok (.aload 5, 2) := by decide +kernel
theorem dX4_load_35 : decode cX4_load 35 = .ok (.iload_n 3, 1) := by decide +kernel
theorem dX4_load_36 : decode cX4_load 36 = .ok (.invokestatic 82, 3) := by decide +kernel
theorem dX4_load_39 : decode cX4_load 39 = .ok (.istore 6, 2) := by decide +kernel
theorem dX4_load_41 : decode cX4_load 41 = .ok (.iload 6, 2) := by decide +kernel
theorem dX4_load_43 : decode cX4_load 43 = .ok (.ifCond .eq 10, 3) := by decide +kernel
theorem dX4_load_46 : decode cX4_load 46 = .ok (.aload_n 0, 1) := by decide +kernel
theorem dX4_load_47 : decode cX4_load 47 = .ok (.iload 6, 2) := by decide +kernel
theorem dX4_load_49 : decode cX4_load 49 = .ok (.invokevirtual 48, 3) := by decide +kernel
theorem dX4_load_52 : decode cX4_load 52 = .ok (.ireturn, 1) := by decide +kernel
theorem dX4_load_53 : decode cX4_load 53 = .ok (.aload 5, 2) := by decide +kernel
theorem dX4_load_55 : decode cX4_load 55 = .ok (.getfield 79, 3) := by decide +kernel
theorem dX4_load_58 : decode cX4_load 58 = .ok (.iload_n 3, 1) := by decide +kernel
theorem dX4_load_59 : decode cX4_load 59 = .ok (.iload 4, 2) := by decide +kernel
theorem dX4_load_61 : decode cX4_load 61 = .ok (.iastore, 1) := by decide +kernel
theorem dX4_load_62 : decode cX4_load 62 = .ok (.iload 4, 2) := by decide +kernel
theorem dX4_load_64 : decode cX4_load 64 = .ok (.ireturn, 1) := by decide +kernel
set_option maxRecDepth 20000 in
theorem ggX4_crate_X4_isPosition : GoodIn wsX4_crate wsX4_isPosition := goodIn_r _ [6, 7, 8, 5, 9] (by decide +kernel) (by decide +kernel)
set_option maxRecDepth 20000 in
theorem gX4_crate_X4_isPosition : GoodIn wsX4_crate (va_wsS RX4 68 yX4_isPosition wsX4_isPosition) := goodIn_app (goodIn_of _ (by decide +kernel)) ggX4_crate_X4_isPosition
set_option maxRecDepth 20000 in
theorem ggX4_crate_X2_vehicleAt : GoodIn wsX4_crate wsX2_vehicleAt := goodIn_r _ [14, 15, 16, 17, 44, 45, 39, 40, 41, 42, 43] (by decide +kernel) (by decide +kernel)
set_option maxRecDepth 20000 in
theorem gX4_crate_X2_vehicleAt : GoodIn wsX4_crate (wsV RX4 71 RX2 yX2_vehicleAt wsX2_vehicleAt) := goodIn_app (goodIn_of _ (by decide +kernel)) ggX4_crate_X2_vehicleAt
set_option maxRecDepth 20000 in
theorem ggX4_crate_X4_whyNoCrate : GoodIn wsX4_crate wsX4_whyNoCrate := goodIn_r _ [20, 2, 21, 22, 5, 23, 24, 25, 26, 27, 39, 40, 41, 42, 43] (by decide +kernel) (by decide +kernel)
set_option maxRecDepth 20000 in
theorem gX4_crate_X4_whyNoCrate : GoodIn wsX4_crate (va_wsS RX4 82 yX4_whyNoCrate wsX4_whyNoCrate) := goodIn_app (goodIn_of _ (by decide +kernel)) ggX4_crate_X4_whyNoCrate
set_option maxRecDepth 20000 in
theorem ggX4_crate_X4_tell : GoodIn wsX4_crate wsX4_tell := goodIn_r _ [31, 32, 33, 34, 35, 36, 37, 38] (by decide +kernel) (by decide +kernel)
set_option maxRecDepth 20000 in
theorem gX4_crate_X4_tell : GoodIn wsX4_crate (wsV RX4 48 RX4 yX4_tell wsX4_tell) := goodIn_app (goodIn_of _ (by decide +kernel)) ggX4_crate_X4_tell
theorem dX4_crate_0 : decode cX4_crate 0 = .ok (.iload_n 1, 1) := by decide +kernel
theorem dX4_crate_1 : decode cX4_crate 1 = .ok (.iload_n 2, 1) := by decide +kernel
theorem dX4_crate_2 : decode cX4_crate 2 = .ok (.invokestatic 68, 3) := by decide +kernel
theorem dX4_crate_5 : decode cX4_crate 5 = .ok (.ifCond .ne 5, 3) := by decide +kernel
theorem dX4_crate_8 : decode cX4_crate 8 = .ok (.iconst (-1), 1) := by decide +kernel
theorem dX4_crate_9 : decode cX4_crate 9 = .ok (.ireturn, 1) := by decide +kernel
theorem dX4_crate_10 : decode cX4_crate 10 = .ok (.aload_n 0, 1) := by decide +kernel
theorem dX4_crate_11 : decode cX4_crate 11 = .ok (.getfield 11, 3) := by decide +kernel
theorem dX4_crate_14 : decode cX4_crate 14 = .ok (.iload_n 1, 1) := by decide +kernel
theorem dX4_crate_15 : decode cX4_crate 15 = .ok (.aaload, 1) := by decide +kernel
theorem dX4_crate_16 : decode cX4_crate 16 = .ok (.iload_n 2, 1) := by decide +kernel
theorem dX4_crate_17 : decode cX4_crate 17 = .ok (.invokevirtual 71, 3) := by decide +kernel
theorem dX4_crate_20 : decode cX4_crate 20 = .ok (.astore 4, 2) := by decide +kernel
theorem dX4_crate_22 : decode cX4_crate 22 = .ok (.aload 4, 2) := by decide +kernel
theorem dX4_crate_24 : decode cX4_crate 24 = .ok (.iload_n 3, 1) := by decide +kernel
theorem dX4_crate_25 : decode cX4_crate 25 = .ok (.invokestatic 82, 3) := by decide +kernel
theorem dX4_crate_28 : decode cX4_crate 28 = .ok (.istore 5, 2) := by decide +kernel
theorem dX4_crate_30 : decode cX4_crate 30 = .ok (.iload 5, 2) := by decide +kernel
theorem dX4_crate_32 : decode cX4_crate 32 = .ok (.ifCond .eq 12, 3) := by decide +kernel
theorem dX4_crate_35 : decode cX4_crate 35 = .ok (.aload_n 0, 1) := by decide +kernel
theorem dX4_crate_36 : decode cX4_crate 36 = .ok (.iload 5, 2) := by decide +kernel
theorem dX4_crate_38 : decode cX4_crate 38 = .ok (.invokevirtual 48, 3) := by decide +kernel
theorem dX4_crate_41 : decode cX4_crate 41 = .ok (.goto 10, 3) := by decide +kernel
theorem dX4_crate_44 : decode cX4_crate 44 = .ok (.aload 4, 2) := by decide +kernel
theorem dX4_crate_46 : decode cX4_crate 46 = .ok (.getfield 79, 3) := by decide +kernel
theorem dX4_crate_49 : decode cX4_crate 49 = .ok (.iload_n 3, 1) := by decide +kernel
theorem dX4_crate_50 : decode cX4_crate 50 = .ok (.iaload, 1) := by decide +kernel
theorem dX4_crate_51 : decode cX4_crate 51 = .ok (.ireturn, 1) := by decide +kernel
set_option maxRecDepth 20000 in
theorem ggX4_length_X4_isPosition : GoodIn wsX4_length wsX4_isPosition := goodIn_r _ [6, 7, 8, 5, 9] (by decide +kernel) (by decide +kernel)
set_option maxRecDepth 20000 in
theorem gX4_length_X4_isPosition : GoodIn wsX4_length (va_wsS RX4 68 yX4_isPosition wsX4_isPosition) := goodIn_app (goodIn_of _ (by decide +kernel)) ggX4_length_X4_isPosition
set_option maxRecDepth 20000 in
theorem ggX4_length_X2_vehicleAt : GoodIn wsX4_length wsX2_vehicleAt := goodIn_r _ [14, 15, 16, 17, 41, 42, 36, 37, 38, 39, 40] (by decide +kernel) (by decide +kernel)
set_option maxRecDepth 20000 in
theorem gX4_length_X2_vehicleAt : GoodIn wsX4_length (wsV RX4 71 RX2 yX2_vehicleAt wsX2_vehicleAt) := goodIn_app (goodIn_of _ (by decide +kernel)) ggX4_length_X2_vehicleAt
set_option maxRecDepth 20000 in
theorem ggX4_length_X4_whyNoRow : GoodIn wsX4_length wsX4_whyNoRow := goodIn_r _ [20, 2, 21, 22, 5, 23, 24, 36, 37, 38, 39, 40] (by decide +kernel) (by decide +kernel)
set_option maxRecDepth 20000 in
theorem gX4_length_X4_whyNoRow : GoodIn wsX4_length (va_wsS RX4 86 yX4_whyNoRow wsX4_whyNoRow) := goodIn_app (goodIn_of _ (by decide +kernel)) ggX4_length_X4_whyNoRow
set_option maxRecDepth 20000 in
theorem ggX4_length_X4_tell : GoodIn wsX4_length wsX4_tell := goodIn_r _ [28, 29, 30, 31, 32, 33, 34, 35] (by decide +kernel) (by decide +kernel)
set_option maxRecDepth 20000 in
theorem gX4_length_X4_tell : GoodIn wsX4_length (wsV RX4 48 RX4 yX4_tell wsX4_tell) := goodIn_app (goodIn_of _ (by decide +kernel)) ggX4_length_X4_tell
theorem dX4_length_0 : decode cX4_length 0 = .ok (.iload_n 1, 1) := by decide +kernel
theorem dX4_length_1 : decode cX4_length 1 = .ok (.iload_n 2, 1) := by decide +kernel
theorem dX4_length_2 : decode cX4_length 2 = .ok (.invokestatic 68, 3) := by decide +kernel
theorem dX4_length_5 : decode cX4_length 5 = .ok (.ifCond .ne 5, 3) := by decide +kernel
theorem dX4_length_8 : decode cX4_length 8 = .ok (.iconst (-1), 1) := by decide +kernel
theorem dX4_length_9 : decode cX4_length 9 = .ok (.ireturn, 1) := by decide +kernel
theorem dX4_length_10 : decode cX4_length 10 = .ok (.aload_n 0, 1) := by decide +kernel
theorem dX4_length_11 : decode cX4_length 11 = .ok (.getfield 11, 3) := by decide +kernel
theorem dX4_length_14 : decode cX4_length 14 = .ok (.iload_n 1, 1) := by decide +kernel
theorem dX4_length_15 : decode cX4_length 15 = .ok (.aaload, 1) := by decide +kernel
theorem dX4_length_16 : decode cX4_length 16 = .ok (.iload_n 2, 1) := by decide +kernel
theorem dX4_length_17 : decode cX4_length 17 = .ok (.invokevirtual 71, 3) := by decide +kernel
theorem dX4_length_20 : decode cX4_length 20 = .ok (.astore_n 3, 1) := by decide +kernel
theorem dX4_length_21 : decode cX4_length 21 = .ok (.aload_n 3, 1) := by decide +kernel
theorem dX4_length_22 : decode cX4_length 22 = .ok (.invokestatic 86, 3) := by decide +kernel
theorem dX4_length_25 : decode cX4_length 25 = .ok (.istore 4, 2) := by decide +kernel
theorem dX4_length_27 : decode cX4_length 27 = .ok (.iload 4, 2) := by decide +kernel
theorem dX4_length_29 : decode cX4_length 29 = .ok (.ifCond .eq 12, 3) := by decide +kernel
theorem dX4_length_32 : decode cX4_length 32 = .ok (.aload_n 0, 1) := by decide +kernel
theorem dX4_length_33 : decode cX4_length 33 = .ok (.iload 4, 2) := by decide +kernel
theorem dX4_length_35 : decode cX4_length 35 = .ok (.invokevirtual 48, 3) := by decide +kernel
theorem dX4_length_38 : decode cX4_length 38 = .ok (.goto 8, 3) := by decide +kernel
theorem dX4_length_41 : decode cX4_length 41 = .ok (.aload_n 3, 1) := by decide +kernel
theorem dX4_length_42 : decode cX4_length 42 = .ok (.getfield 79, 3) := by decide +kernel
theorem dX4_length_45 : decode cX4_length 45 = .ok (.arraylength, 1) := by decide +kernel
theorem dX4_length_46 : decode cX4_length 46 = .ok (.ireturn, 1) := by decide +kernel
set_option maxRecDepth 20000 in
theorem ggX4_weigh_X4_isPosition : GoodIn wsX4_weigh wsX4_isPosition := goodIn_r _ [5, 6, 7, 4, 8] (by decide +kernel) (by decide +kernel)
set_option maxRecDepth 20000 in
theorem gX4_weigh_X4_isPosition : GoodIn wsX4_weigh (va_wsS RX4 68 yX4_isPosition wsX4_isPosition) := goodIn_app (goodIn_of _ (by decide +kernel)) ggX4_weigh_X4_isPosition
set_option maxRecDepth 20000 in
theorem ggX4_weigh_X2_vehicleAt : GoodIn wsX4_weigh wsX2_vehicleAt := goodIn_r _ [13, 14, 15, 16, 35, 36, 37, 38, 39, 40, 41] (by decide +kernel) (by decide +kernel)
set_option maxRecDepth 20000 in
theorem gX4_weigh_X2_vehicleAt : GoodIn wsX4_weigh (wsV RX4 71 RX2 yX2_vehicleAt wsX2_vehicleAt) := goodIn_app (goodIn_of _ (by decide +kernel)) ggX4_weigh_X2_vehicleAt
set_option maxRecDepth 20000 in
theorem ggX4_weigh_X4_tell : GoodIn wsX4_weigh wsX4_tell := goodIn_r _ [20, 21, 29, 30, 31, 32, 33, 34] (by decide +kernel) (by decide +kernel)
set_option maxRecDepth 20000 in
theorem gX4_weigh_X4_tell : GoodIn wsX4_weigh (wsV RX4 48 RX4 yX4_tell wsX4_tell) := goodIn_app (goodIn_of _ (by decide +kernel)) ggX4_weigh_X4_tell
set_option maxRecDepth 20000 in
theorem ggX4_weigh_X3_fullWeight : GoodIn wsX4_weigh wsX3_fullWeight := goodIn_r _ [26, 27, 28, 37, 38, 39, 40, 41] (by decide +kernel) (by decide +kernel)
set_option maxRecDepth 20000 in
theorem gX4_weigh_X3_fullWeight : GoodIn wsX4_weigh (wsV RX4 52 RX3 yX3_fullWeight wsX3_fullWeight) := goodIn_app (goodIn_of _ (by decide +kernel)) ggX4_weigh_X3_fullWeight
theorem dX4_weigh_0 : decode cX4_weigh 0 = .ok (.iload_n 1, 1) := by decide +kernel
theorem dX4_weigh_1 : decode cX4_weigh 1 = .ok (.iload_n 2, 1) := by decide +kernel
theorem dX4_weigh_2 : decode cX4_weigh 2 = .ok (.invokestatic 68, 3) := by decide +kernel
theorem dX4_weigh_5 : decode cX4_weigh 5 = .ok (.ifCond .ne 5, 3) := by decide +kernel
theorem dX4_weigh_8 : decode cX4_weigh 8 = .ok (.iconst (-1), 1) := by decide +kernel
theorem dX4_weigh_9 : decode cX4_weigh 9 = .ok (.ireturn, 1) := by decide +kernel
theorem dX4_weigh_10 : decode cX4_weigh 10 = .ok (.aload_n 0, 1) := by decide +kernel
theorem dX4_weigh_11 : decode cX4_weigh 11 = .ok (.getfield 11, 3) := by decide +kernel
theorem dX4_weigh_14 : decode cX4_weigh 14 = .ok (.iload_n 1, 1) := by decide +kernel
theorem dX4_weigh_15 : decode cX4_weigh 15 = .ok (.aaload, 1) := by decide +kernel
theorem dX4_weigh_16 : decode cX4_weigh 16 = .ok (.iload_n 2, 1) := by decide +kernel
theorem dX4_weigh_17 : decode cX4_weigh 17 = .ok (.invokevirtual 71, 3) := by decide +kernel
theorem dX4_weigh_20 : decode cX4_weigh 20 = .ok (.astore_n 3, 1) := by decide +kernel
theorem dX4_weigh_21 : decode cX4_weigh 21 = .ok (.aload_n 3, 1) := by decide +kernel
theorem dX4_weigh_22 : decode cX4_weigh 22 = .ok (.ifnonnull 11, 3) := by decide +kernel
theorem dX4_weigh_25 : decode cX4_weigh 25 = .ok (.aload_n 0, 1) := by decide +kernel
theorem dX4_weigh_26 : decode cX4_weigh 26 = .ok (.iconst 1, 1) := by decide +kernel
theorem dX4_weigh_27 : decode cX4_weigh 27 = .ok (.invokevirtual 48, 3) := by decide +kernel
theorem dX4_weigh_30 : decode cX4_weigh 30 = .ok (.goto 7, 3) := by decide +kernel
theorem dX4_weigh_33 : decode cX4_weigh 33 = .ok (.aload_n 3, 1) := by decide +kernel
theorem dX4_weigh_34 : decode cX4_weigh 34 = .ok (.invokevirtual 52, 3) := by decide +kernel
theorem dX4_weigh_37 : decode cX4_weigh 37 = .ok (.ireturn, 1) := by decide +kernel
set_option maxRecDepth 20000 in
theorem ggX4_defect_X4_isPosition : GoodIn wsX4_defect wsX4_isPosition := goodIn_r _ [6, 7, 8, 5, 9] (by decide +kernel) (by decide +kernel)
set_option maxRecDepth 20000 in
theorem gX4_defect_X4_isPosition : GoodIn wsX4_defect (va_wsS RX4 68 yX4_isPosition wsX4_isPosition) := goodIn_app (goodIn_of _ (by decide +kernel)) ggX4_defect_X4_isPosition
set_option maxRecDepth 20000 in
theorem ggX4_defect_X4_isWithin : GoodIn wsX4_defect wsX4_isWithin := goodIn_r _ [12] (by decide +kernel) (by decide +kernel)
set_option maxRecDepth 20000 in
theorem gX4_defect_X4_isWithin : GoodIn wsX4_defect (va_wsS RX4 24 yX4_isWithin wsX4_isWithin) := goodIn_app (goodIn_of _ (by decide +kernel)) ggX4_defect_X4_isWithin
set_option maxRecDepth 20000 in
theorem ggX4_defect_X2_vehicleAt : GoodIn wsX4_defect wsX2_vehicleAt := goodIn_r _ [17, 18, 19, 20, 37, 38, 32, 33, 34, 35, 36] (by decide +kernel) (by decide +kernel)
set_option maxRecDepth 20000 in
theorem gX4_defect_X2_vehicleAt : GoodIn wsX4_defect (wsV RX4 71 RX2 yX2_vehicleAt wsX2_vehicleAt) := goodIn_app (goodIn_of _ (by decide +kernel)) ggX4_defect_X2_vehicleAt
set_option maxRecDepth 20000 in
theorem ggX4_defect_X4_tell : GoodIn wsX4_defect wsX4_tell := goodIn_r _ [24, 25, 26, 27, 28, 29, 30, 31] (by decide +kernel) (by decide +kernel)
set_option maxRecDepth 20000 in
theorem gX4_defect_X4_tell : GoodIn wsX4_defect (wsV RX4 48 RX4 yX4_tell wsX4_tell) := goodIn_app (goodIn_of _ (by decide +kernel)) ggX4_defect_X4_tell
theorem dX4_defect_0 : decode cX4_defect 0 = .ok (.iload_n 1, 1) := by decide +kernel
theorem dX4_defect_1 : decode cX4_defect 1 = .ok (.iload_n 2, 1) := by decide +kernel
theorem dX4_defect_2 : decode cX4_defect 2 = .ok (.invokestatic 68, 3) := by decide +kernel
theorem dX4_defect_5 : decode cX4_defect 5 = .ok (.ifCond .eq 13, 3) := by decide +kernel
theorem dX4_defect_8 : decode cX4_defect 8 = .ok (.iload_n 3, 1) := by decide +kernel
theorem dX4_defect_9 : decode cX4_defect 9 = .ok (.iconst 0, 1) := by decide +kernel
theorem dX4_defect_10 : decode cX4_defect 10 = .ok (.bipush 99, 2) := by decide +kernel
theorem dX4_defect_12 : decode cX4_defect 12 = .ok (.invokestatic 24, 3) := by decide +kernel
theorem dX4_defect_15 : decode cX4_defect 15 = .ok (.ifCond .ne 5, 3) := by decide +kernel
theorem dX4_defect_18 : decode cX4_defect 18 = .ok (.iconst (-1), 1) := by decide +kernel
theorem dX4_defect_19 : decode cX4_defect 19 = .ok (.ireturn, 1) := by decide +kernel
theorem dX4_defect_20 : decode cX4_defect 20 = .ok (.aload_n 0, 1) := by decide +kernel
theorem dX4_defect_21 : decode cX4_defect 21 = .ok (.getfield 11, 3) := by decide +kernel
theorem dX4_defect_24 : decode cX4_defect 24 = .ok (.iload_n 1, 1) := by decide +kernel
theorem dX4_defect_25 : decode cX4_defect 25 = .ok (.aaload, 1) := by decide +kernel
theorem dX4_defect_26 : decode cX4_defect 26 = .ok (.iload_n 2, 1) := by decide +kernel
theorem dX4_defect_27 : decode cX4_defect 27 = .ok (.invokevirtual 71, 3) := by decide +kernel
theorem dX4_defect_30 : decode cX4_defect 30 = .ok (.astore 4, 2) := by decide +kernel
theorem dX4_defect_32 : decode cX4_defect 32 = .ok (.aload 4, 2) := by decide +kernel
theorem dX4_defect_34 : decode cX4_defect 34 = .ok (.ifnonnull 9, 3) := by decide +kernel
theorem dX4_defect_37 : decode cX4_defect 37 = .ok (.aload_n 0, 1) := by decide +kernel
theorem dX4_defect_38 : decode cX4_defect 38 = .ok (.iconst 1, 1) := by decide +kernel
theorem dX4_defect_39 : decode cX4_defect 39 = .ok (.invokevirtual 48, 3) := by decide +kernel
theorem dX4_defect_42 : decode cX4_defect 42 = .ok (.ireturn, 1) := by decide +kernel
theorem dX4_defect_43 : decode cX4_defect 43 = .ok (.aload 4, 2) := by decide +kernel
theorem dX4_defect_45 : decode cX4_defect 45 = .ok (.iload_n 3, 1) := by decide +kernel
theorem dX4_defect_46 : decode cX4_defect 46 = .ok (.putfield 90, 3) := by decide +kernel
theorem dX4_defect_49 : decode cX4_defect 49 = .ok (.iload_n 3, 1) := by decide +kernel
theorem dX4_defect_50 : decode cX4_defect 50 = .ok (.ireturn, 1) := by decide +kernel
set_option maxRecDepth 20000 in
theorem ggX4_report_X4_isPosition : GoodIn wsX4_report wsX4_isPosition := goodIn_r _ [6, 7, 8, 5, 9] (by decide +kernel) (by decide +kernel)
set_option maxRecDepth 20000 in
theorem gX4_report_X4_isPosition : GoodIn wsX4_report (va_wsS RX4 68 yX4_isPosition wsX4_isPosition) := goodIn_app (goodIn_of _ (by decide +kernel)) ggX4_report_X4_isPosition
set_option maxRecDepth 20000 in
theorem ggX4_report_X2_vehicleAt : GoodIn wsX4_report wsX2_vehicleAt := goodIn_r _ [14, 15, 16, 17, 39, 40, 34, 35, 36, 37, 38] (by decide +kernel) (by decide +kernel)
set_option maxRecDepth 20000 in
theorem gX4_report_X2_vehicleAt : GoodIn wsX4_report (wsV RX4 71 RX2 yX2_vehicleAt wsX2_vehicleAt) := goodIn_app (goodIn_of _ (by decide +kernel)) ggX4_report_X2_vehicleAt
set_option maxRecDepth 20000 in
theorem ggX4_report_X4_tell : GoodIn wsX4_report wsX4_tell := goodIn_r _ [21, 22, 28, 29, 30, 31, 32, 33] (by decide +kernel) (by decide +kernel)
set_option maxRecDepth 20000 in
theorem gX4_report_X4_tell : GoodIn wsX4_report (wsV RX4 48 RX4 yX4_tell wsX4_tell) := goodIn_app (goodIn_of _ (by decide +kernel)) ggX4_report_X4_tell
set_option maxRecDepth 20000 in
theorem ggX4_report_X4_tellLevel : GoodIn wsX4_report wsX4_tellLevel := goodIn_r _ [26, 27, 18, 19, 20, 5, 21, 22, 28, 29, 30, 31, 32, 33] (by decide +kernel) (by decide +kernel)
set_option maxRecDepth 20000 in
theorem gX4_report_X4_tellLevel : GoodIn wsX4_report (wsV RX4 93 RX4 yX4_tellLevel wsX4_tellLevel) := goodIn_app (goodIn_of _ (by decide +kernel)) ggX4_report_X4_tellLevel
theorem dX4_report_0 : decode cX4_report 0 = .ok (.iload_n 1, 1) := by decide +kernel
theorem dX4_report_1 : decode cX4_report 1 = .ok (.iload_n 2, 1) := by decide +kernel
theorem dX4_report_2 : decode cX4_report 2 = .ok (.invokestatic 68, 3) := by decide +kernel
theorem dX4_report_5 : decode cX4_report 5 = .ok (.ifCond .ne 5, 3) := by decide +kernel
theorem dX4_report_8 : decode cX4_report 8 = .ok (.iconst (-1), 1) := by decide +kernel
theorem dX4_report_9 : decode cX4_report 9 = .ok (.ireturn, 1) := by decide +kernel
theorem dX4_report_10 : decode cX4_report 10 = .ok (.aload_n 0, 1) := by decide +kernel
theorem dX4_report_11 : decode cX4_report 11 = .ok (.getfield 11, 3) := by decide +kernel
theorem dX4_report_14 : decode cX4_report 14 = .ok (.iload_n 1, 1) := by decide +kernel
theorem dX4_report_15 : decode cX4_report 15 = .ok (.aaload, 1) := by decide +kernel
theorem dX4_report_16 : decode cX4_report 16 = .ok (.iload_n 2, 1) := by decide +kernel
theorem dX4_report_17 : decode cX4_report 17 = .ok (.invokevirtual 71, 3) := by decide +kernel
theorem dX4_report_20 : decode cX4_report 20 = .ok (.astore_n 3, 1) := by decide +kernel
theorem dX4_report_21 : decode cX4_report 21 = .ok (.aload_n 3, 1) := by decide +kernel
theorem dX4_report_22 : decode cX4_report 22 = .ok (.ifnull 10, 3) := by decide +kernel
theorem dX4_report_25 : decode cX4_report 25 = .ok (.aload_n 3, 1) := by decide +kernel
theorem dX4_report_26 : decode cX4_report 26 = .ok (.getfield 90, 3) := by decide +kernel
theorem dX4_report_29 : decode cX4_report 29 = .ok (.ifCond .ne 9, 3) := by decide +kernel
theorem dX4_report_32 : decode cX4_report 32 = .ok (.aload_n 0, 1) := by decide +kernel
theorem dX4_report_33 : decode cX4_report 33 = .ok (.iconst 1, 1) := by decide +kernel
theorem dX4_report_34 : decode cX4_report 34 = .ok (.invokevirtual 48, 3) := by decide +kernel
theorem dX4_report_37 : decode cX4_report 37 = .ok (.ireturn, 1) := by decide +kernel
theorem dX4_report_38 : decode cX4_report 38 = .ok (.aload_n 0, 1) := by decide +kernel
theorem dX4_report_39 : decode cX4_report 39 = .ok (.bipush 7, 2) := by decide +kernel
theorem dX4_report_41 : decode cX4_report 41 = .ok (.aload_n 3, 1) := by decide +kernel
theorem dX4_report_42 : decode cX4_report 42 = .ok (.getfield 90, 3) := by decide +kernel
theorem dX4_report_45 : decode cX4_report 45 = .ok (.invokevirtual 93, 3) := by decide +kernel
theorem dX4_report_48 : decode cX4_report 48 = .ok (.ireturn, 1) := by decide +kernel
set_option maxRecDepth 20000 in
theorem ggX4_draw_X4_isTrack : GoodIn wsX4_draw wsX4_isTrack := goodIn_r _ [8] (by decide +kernel) (by decide +kernel)
set_option maxRecDepth 20000 in
theorem gX4_draw_X4_isTrack : GoodIn wsX4_draw (va_wsS RX4 20 yX4_isTrack wsX4_isTrack) := goodIn_app (goodIn_of _ (by decide +kernel)) ggX4_draw_X4_isTrack
set_option maxRecDepth 20000 in
theorem ggX4_draw_X4_tell : GoodIn wsX4_draw wsX4_tell := goodIn_r _ [12, 13, 47, 48, 49, 50, 51, 52] (by decide +kernel) (by decide +kernel)
set_option maxRecDepth 20000 in
theorem gX4_draw_X4_tell : GoodIn wsX4_draw (wsV RX4 48 RX4 yX4_tell wsX4_tell) := goodIn_app (goodIn_of _ (by decide +kernel)) ggX4_draw_X4_tell
set_option maxRecDepth 20000 in
theorem ggX4_draw_X4_isEngine : GoodIn wsX4_draw wsX4_isEngine := goodIn_r _ [16, 17, 55, 56, 57, 58, 59] (by decide +kernel) (by decide +kernel)
set_option maxRecDepth 20000 in
theorem gX4_draw_X4_isEngine : GoodIn wsX4_draw (va_wsS RX4 75 yX4_isEngine wsX4_isEngine) := goodIn_app (goodIn_of _ (by decide +kernel)) ggX4_draw_X4_isEngine
set_option maxRecDepth 20000 in
theorem ggX4_draw_X2_firstGraveBehindFront : GoodIn wsX4_draw wsX2_firstGraveBehindFront := goodIn_r _ [22, 23, 24, 25, 26, 27, 28, 21, 29, 30, 53, 54, 55, 56, 57, 58, 59] (by decide +kernel) (by decide +kernel)
set_option maxRecDepth 20000 in
theorem gX4_draw_X2_firstGraveBehindFront : GoodIn wsX4_draw (wsV RX4 101 RX2 yX2_firstGraveBehindFront wsX2_firstGraveBehindFront) := goodIn_app (goodIn_of _ (by decide +kernel)) ggX4_draw_X2_firstGraveBehindFront
set_option maxRecDepth 20000 in
theorem ggX4_draw_X4_tellLevel : GoodIn wsX4_draw wsX4_tellLevel := goodIn_r _ [34, 35, 9, 10, 11, 7, 12, 13, 47, 48, 49, 50, 51, 52] (by decide +kernel) (by decide +kernel)
set_option maxRecDepth 20000 in
theorem gX4_draw_X4_tellLevel : GoodIn wsX4_draw (wsV RX4 93 RX4 yX4_tellLevel wsX4_tellLevel) := goodIn_app (goodIn_of _ (by decide +kernel)) ggX4_draw_X4_tellLevel
set_option maxRecDepth 20000 in
theorem ggX4_draw_X2_weightBehindFront : GoodIn wsX4_draw wsX2_weightBehindFront := goodIn_r _ [39, 23, 25, 26, 27, 28, 21, 29, 30, 40, 41, 42, 43, 44, 45, 46, 53, 54, 55, 56, 57, 58, 59] (by decide +kernel) (by decide +kernel)
set_option maxRecDepth 20000 in
theorem gX4_draw_X2_weightBehindFront : GoodIn wsX4_draw (wsV RX4 104 RX2 yX2_weightBehindFront wsX2_weightBehindFront) := goodIn_app (goodIn_of _ (by decide +kernel)) ggX4_draw_X2_weightBehindFront
theorem dX4_draw_0 : decode cX4_draw 0 = .ok (.iload_n 1, 1) := by decide +kernel
theorem dX4_draw_1 : decode cX4_draw 1 = .ok (.invokestatic 20, 3) := by decide +kernel
theorem dX4_draw_4 : decode cX4_draw 4 = .ok (.ifCond .ne 5, 3) := by decide +kernel
theorem dX4_draw_7 : decode cX4_draw 7 = .ok (.iconst (-1), 1) := by decide +kernel
theorem dX4_draw_8 : decode cX4_draw 8 = .ok (.ireturn, 1) := by decide +kernel
theorem dX4_draw_9 : decode cX4_draw 9 = .ok (.aload_n 0, 1) := by decide +kernel
theorem dX4_draw_10 : decode cX4_draw 10 = .ok (.getfield 11, 3) := by decide +kernel
theorem dX4_draw_13 : decode cX4_draw 13 = .ok (.iload_n 1, 1) := by decide +kernel
theorem dX4_draw_14 : decode cX4_draw 14 = .ok (.aaload, 1) := by decide +kernel
theorem dX4_draw_15 : decode cX4_draw 15 = .ok (.getfield 97, 3) := by decide +kernel
theorem dX4_draw_18 : decode cX4_draw 18 = .ok (.astore_n 2, 1) := by decide +kernel
theorem dX4_draw_19 : decode cX4_draw 19 = .ok (.aload_n 2, 1) := by decide +kernel
theorem dX4_draw_20 : decode cX4_draw 20 = .ok (.ifnonnull 9, 3) := by decide +kernel
theorem dX4_draw_23 : decode cX4_draw 23 = .ok (.aload_n 0, 1) := by decide +kernel
theorem dX4_draw_24 : decode cX4_draw 24 = .ok (.iconst 1, 1) := by decide +kernel
theorem dX4_draw_25 : decode cX4_draw 25 = .ok (.invokevirtual 48, 3) := by decide +kernel
theorem dX4_draw_28 : decode cX4_draw 28 = .ok (.ireturn, 1) := by decide +kernel
theorem dX4_draw_29 : decode cX4_draw 29 = .ok (.aload_n 2, 1) := by decide +kernel
theorem dX4_draw_30 : decode cX4_draw 30 = .ok (.invokestatic 75, 3) := by decide +kernel
theorem dX4_draw_33 : decode cX4_draw 33 = .ok (.ifCond .ne 9, 3) := by decide +kernel
theorem dX4_draw_36 : decode cX4_draw 36 = .ok (.aload_n 0, 1) := by decide +kernel
theorem dX4_draw_37 : decode cX4_draw 37 = .ok (.iconst 2, 1) := by decide +kernel
theorem dX4_draw_38 : decode cX4_draw 38 = .ok (.invokevirtual 48, 3) := by decide +kernel
theorem dX4_draw_41 : decode cX4_draw 41 = .ok (.ireturn, 1) := by decide +kernel
theorem dX4_draw_42 : decode cX4_draw 42 = .ok (.aload_n 0, 1) := by decide +kernel
theorem dX4_draw_43 : decode cX4_draw 43 = .ok (.getfield 11, 3) := by decide +kernel
theorem dX4_draw_46 : decode cX4_draw 46 = .ok (.iload_n 1, 1) := by decide +kernel
theorem dX4_draw_47 : decode cX4_draw 47 = .ok (.aaload, 1) := by decide +kernel
theorem dX4_draw_48 : decode cX4_draw 48 = .ok (.invokevirtual 101, 3) := by decide +kernel
theorem dX4_draw_51 : decode cX4_draw 51 = .ok (.astore_n 3, 1) := by decide +kernel
theorem dX4_draw_52 : decode cX4_draw 52 = .ok (.aload_n 3, 1) := by decide +kernel
theorem dX4_draw_53 : decode cX4_draw 53 = .ok (.ifnull 14, 3) := by decide +kernel
theorem dX4_draw_56 : decode cX4_draw 56 = .ok (.aload_n 0, 1) := by decide +kernel
theorem dX4_draw_57 : decode cX4_draw 57 = .ok (.bipush 7, 2) := by decide +kernel
theorem dX4_draw_59 : decode cX4_draw 59 = .ok (.aload_n 3, 1) := by decide +kernel
theorem dX4_draw_60 : decode cX4_draw 60 = .ok (.getfield 90, 3) := by decide +kernel
theorem dX4_draw_63 : decode cX4_draw 63 = .ok (.invokevirtual 93, 3) := by decide +kernel
theorem dX4_draw_66 : decode cX4_draw 66 = .ok (.ireturn, 1) := by decide +kernel
theorem dX4_draw_67 : decode cX4_draw 67 = .ok (.aload_n 0, 1) := by decide +kernel
theorem dX4_draw_68 : decode cX4_draw 68 = .ok (.getfield 11, 3) := by decide +kernel
theorem dX4_draw_71 : decode cX4_draw 71 = .ok (.iload_n 1, 1) := by decide +kernel
theorem dX4_draw_72 : decode cX4_draw 72 = .ok (.aaload, 1) := by decide +kernel
theorem dX4_draw_73 : decode cX4_draw 73 = .ok (.invokevirtual 104, 3) := by decide +kernel
theorem dX4_draw_76 : decode cX4_draw 76 = .ok (.istore 4, 2) := by decide +kernel
theorem dX4_draw_78 : decode cX4_draw 78 = .ok (.iload 4, 2) := by decide +kernel
theorem dX4_draw_80 : decode cX4_draw 80 = .ok (.bipush 10, 2) := by decide +kernel
theorem dX4_draw_82 : decode cX4_draw 82 = .ok (.aload_n 2, 1) := by decide +kernel
theorem dX4_draw_83 : decode cX4_draw 83 = .ok (.getfield 107, 3) := by decide +kernel
theorem dX4_draw_86 : decode cX4_draw 86 = .ok (.imul, 1) := by decide +kernel
theorem dX4_draw_87 : decode cX4_draw 87 = .ok (.isub, 1) := by decide +kernel
theorem dX4_draw_88 : decode cX4_draw 88 = .ok (.istore 5, 2) := by decide +kernel
theorem dX4_draw_90 : decode cX4_draw 90 = .ok (.iload 5, 2) := by decide +kernel
theorem dX4_draw_92 : decode cX4_draw 92 = .ok (.ifCond .le 14, 3) := by decide +kernel
theorem dX4_draw_95 : decode cX4_draw 95 = .ok (.aload_n 0, 1) := by decide +kernel
theorem dX4_draw_96 : decode cX4_draw 96 = .ok (.bipush 6, 2) := by decide +kernel
theorem dX4_draw_98 : decode cX4_draw 98 = .ok (.iload 5, 2) := by decide +kernel
theorem dX4_draw_100 : decode cX4_draw 100 = .ok (.invokevirtual 93, 3) := by decide +kernel
theorem dX4_draw_103 : decode cX4_draw 103 = .ok (.goto 5, 3) := by decide +kernel
theorem dX4_draw_106 : decode cX4_draw 106 = .ok (.iload 4, 2) := by decide +kernel
theorem dX4_draw_108 : decode cX4_draw 108 = .ok (.ireturn, 1) := by decide +kernel
theorem dX4_level_0 : decode cX4_level 0 = .ok (.aload_n 0, 1) := by decide +kernel
theorem dX4_level_1 : decode cX4_level 1 = .ok (.getfield 110, 3) := by decide +kernel
theorem dX4_level_4 : decode cX4_level 4 = .ok (.ireturn, 1) := by decide +kernel
set_option maxRecDepth 20000 in
theorem ggX4_siding_X4_tell : GoodIn wsX4_siding wsX4_tell := goodIn_r _ [9, 10, 22, 23, 24, 25, 26, 27] (by decide +kernel) (by decide +kernel)
set_option maxRecDepth 20000 in
theorem gX4_siding_X4_tell : GoodIn wsX4_siding (wsV RX4 48 RX4 yX4_tell wsX4_tell) := goodIn_app (goodIn_of _ (by decide +kernel)) ggX4_siding_X4_tell
set_option maxRecDepth 20000 in
theorem ggX4_siding_X1_init : GoodIn wsX4_siding wsX1_init := goodIn_r _ [13, 14, 15, 16, 17, 18, 19, 20, 21] (by decide +kernel) (by decide +kernel)
set_option maxRecDepth 20000 in
theorem gX4_siding_X1_init : GoodIn wsX4_siding (wsX1_init) := ggX4_siding_X1_init
theorem dX4_siding_0 : decode cX4_siding 0 = .ok (.iload_n 1, 1) := by decide +kernel
theorem dX4_siding_1 : decode cX4_siding 1 = .ok (.bipush 12, 2) := by decide +kernel
theorem dX4_siding_3 : decode cX4_siding 3 = .ok (.if_icmp .le 5, 3) := by decide +kernel
theorem dX4_siding_6 : decode cX4_siding 6 = .ok (.iconst (-1), 1) := by decide +kernel
theorem dX4_siding_7 : decode cX4_siding 7 = .ok (.ireturn, 1) := by decide +kernel
theorem dX4_siding_8 : decode cX4_siding 8 = .ok (.iload_n 1, 1) := by decide +kernel
theorem dX4_siding_9 : decode cX4_siding 9 = .ok (.ifCond .ge 9, 3) := by decide +kernel
theorem dX4_siding_12 : decode cX4_siding 12 = .ok (.aload_n 0, 1) := by decide +kernel
theorem dX4_siding_13 : decode cX4_siding 13 = .ok (.iconst 4, 1) := by decide +kernel
theorem dX4_siding_14 : decode cX4_siding 14 = .ok (.invokevirtual 48, 3) := by decide +kernel
theorem dX4_siding_17 : decode cX4_siding 17 = .ok (.ireturn, 1) := by decide +kernel
theorem dX4_siding_18 : decode cX4_siding 18 = .ok (.aload_n 0, 1) := by decide +kernel
theorem dX4_siding_19 : decode cX4_siding 19 = .ok (.new 113, 3) := by decide +kernel
theorem dX4_siding_22 : decode cX4_siding 22 = .ok (.dup, 1) := by decide +kernel
theorem dX4_siding_23 : decode cX4_siding 23 = .ok (.iload_n 1, 1) := by decide +kernel
theorem dX4_siding_24 : decode cX4_siding 24 = .ok (.iload_n 2, 1) := by decide +kernel
theorem dX4_siding_25 : decode cX4_siding 25 = .ok (.invokespecial 115, 3) := by decide +kernel
theorem dX4_siding_28 : decode cX4_siding 28 = .ok (.putfield 118, 3) := by decide +kernel
theorem dX4_siding_31 : decode cX4_siding 31 = .ok (.iload_n 1, 1) := by decide +kernel
theorem dX4_siding_32 : decode cX4_siding 32 = .ok (.ireturn, 1) := by decide +kernel
set_option maxRecDepth 20000 in
theorem ggX4_room_X4_tell : GoodIn wsX4_room wsX4_tell := goodIn_r _ [7, 8, 9, 10, 11, 12, 13, 14] (by decide +kernel) (by decide +kernel)
set_option maxRecDepth 20000 in
theorem gX4_room_X4_tell : GoodIn wsX4_room (wsV RX4 48 RX4 yX4_tell wsX4_tell) := goodIn_app (goodIn_of _ (by decide +kernel)) ggX4_room_X4_tell
theorem dX4_room_0 : decode cX4_room 0 = .ok (.aload_n 0, 1) := by decide +kernel
theorem dX4_room_1 : decode cX4_room 1 = .ok (.getfield 118, 3) := by decide +kernel
theorem dX4_room_4 : decode cX4_room 4 = .ok (.ifnonnull 11, 3) := by decide +kernel
theorem dX4_room_7 : decode cX4_room 7 = .ok (.aload_n 0, 1) := by decide +kernel
theorem dX4_room_8 : decode cX4_room 8 = .ok (.iconst 1, 1) := by decide +kernel
theorem dX4_room_9 : decode cX4_room 9 = .ok (.invokevirtual 48, 3) := by decide +kernel
theorem dX4_room_12 : decode cX4_room 12 = .ok (.goto 11, 3) := by decide +kernel
theorem dX4_room_15 : decode cX4_room 15 = .ok (.aload_n 0, 1) := by decide +kernel
theorem dX4_room_16 : decode cX4_room 16 = .ok (.getfield 118, 3) := by decide +kernel
theorem dX4_room_19 : decode cX4_room 19 = .ok (.getfield 122, 3) := by decide +kernel
theorem dX4_room_22 : decode cX4_room 22 = .ok (.arraylength, 1) := by decide +kernel
theorem dX4_room_23 : decode cX4_room 23 = .ok (.ireturn, 1) := by decide +kernel
set_option maxRecDepth 20000 in
theorem ggX4_stow_X4_isTrack : GoodIn wsX4_stow wsX4_isTrack := goodIn_r _ [9] (by decide +kernel) (by decide +kernel)
set_option maxRecDepth 20000 in
theorem gX4_stow_X4_isTrack : GoodIn wsX4_stow (va_wsS RX4 20 yX4_isTrack wsX4_isTrack) := goodIn_app (goodIn_of _ (by decide +kernel)) ggX4_stow_X4_isTrack
set_option maxRecDepth 20000 in
theorem ggX4_stow_X4_isEngine : GoodIn wsX4_stow wsX4_isEngine := goodIn_r _ [12, 13, 48, 49, 50, 51, 52] (by decide +kernel) (by decide +kernel)
set_option maxRecDepth 20000 in
theorem gX4_stow_X4_isEngine : GoodIn wsX4_stow (va_wsS RX4 75 yX4_isEngine wsX4_isEngine) := goodIn_app (goodIn_of _ (by decide +kernel)) ggX4_stow_X4_isEngine
set_option maxRecDepth 20000 in
theorem ggX4_stow_X4_tell : GoodIn wsX4_stow wsX4_tell := goodIn_r _ [17, 18, 38, 39, 40, 41, 42, 43] (by decide +kernel) (by decide +kernel)
set_option maxRecDepth 20000 in
theorem gX4_stow_X4_tell : GoodIn wsX4_stow (wsV RX4 48 RX4 yX4_tell wsX4_tell) := goodIn_app (goodIn_of _ (by decide +kernel)) ggX4_stow_X4_tell
set_option maxRecDepth 20000 in
theorem ggX4_stow_X4_whyNoPlace : GoodIn wsX4_stow wsX4_whyNoPlace := goodIn_r _ [22, 3, 4, 38, 39, 40, 41, 42, 43, 46, 47] (by decide +kernel) (by decide +kernel)
set_option maxRecDepth 20000 in
theorem gX4_stow_X4_whyNoPlace : GoodIn wsX4_stow (wsV RX4 126 RX4 yX4_whyNoPlace wsX4_whyNoPlace) := goodIn_app (goodIn_of _ (by decide +kernel)) ggX4_stow_X4_whyNoPlace
set_option maxRecDepth 20000 in
theorem ggX4_stow_X1_accepts : GoodIn wsX4_stow wsX1_accepts := goodIn_r _ [27, 28, 29, 46, 47, 48, 49, 50, 51, 52] (by decide +kernel) (by decide +kernel)
set_option maxRecDepth 20000 in
theorem gX4_stow_X1_accepts : GoodIn wsX4_stow (wsV RX4 129 RX1 yX1_accepts wsX1_accepts) := goodIn_app (goodIn_of _ (by decide +kernel)) ggX4_stow_X1_accepts
set_option maxRecDepth 20000 in
theorem ggX4_stow_X2_removeFront : GoodIn wsX4_stow wsX2_removeFront := goodIn_r _ [34, 35, 36, 37, 44, 45, 48, 49, 50, 51, 52] (by decide +kernel) (by decide +kernel)
set_option maxRecDepth 20000 in
theorem gX4_stow_X2_removeFront : GoodIn wsX4_stow (wsV RX4 44 RX2 yX2_removeFront wsX2_removeFront) := goodIn_app (goodIn_of _ (by decide +kernel)) ggX4_stow_X2_removeFront
theorem dX4_stow_0 : decode cX4_stow 0 = .ok (.iload_n 2, 1) := by decide +kernel
theorem dX4_stow_1 : decode cX4_stow 1 = .ok (.invokestatic 20, 3) := by decide +kernel
theorem dX4_stow_4 : decode cX4_stow 4 = .ok (.ifCond .ne 5, 3) := by decide +kernel
theorem dX4_stow_7 : decode cX4_stow 7 = .ok (.iconst (-1), 1) := by decide +kernel
theorem dX4_stow_8 : decode cX4_stow 8 = .ok (.ireturn, 1) := by decide +kernel
theorem dX4_stow_9 : decode cX4_stow 9 = .ok (.aload_n 0, 1) := by decide +kernel
theorem dX4_stow_10 : decode cX4_stow 10 = .ok (.getfield 11, 3) := by decide +kernel
theorem dX4_stow_13 : decode cX4_stow 13 = .ok (.iload_n 2, 1) := by decide +kernel
theorem dX4_stow_14 : decode cX4_stow 14 = .ok (.aaload, 1) := by decide +kernel
theorem dX4_stow_15 : decode cX4_stow 15 = .ok (.getfield 97, 3) := by decide +kernel
theorem dX4_stow_18 : decode cX4_stow 18 = .ok (.astore_n 3, 1) := by decide +kernel
theorem dX4_stow_19 : decode cX4_stow 19 = .ok (.aload_n 3, 1) := by decide +kernel
theorem dX4_stow_20 : decode cX4_stow 20 = .ok (.invokestatic 75, 3) := by decide +kernel
theorem dX4_stow_23 : decode cX4_stow 23 = .ok (.ifCond .eq 9, 3) := by decide +kernel
theorem dX4_stow_26 : decode cX4_stow 26 = .ok (.aload_n 0, 1) := by decide +kernel
theorem dX4_stow_27 : decode cX4_stow 27 = .ok (.iconst 2, 1) := by decide +kernel
theorem dX4_stow_28 : decode cX4_stow 28 = .ok (.invokevirtual 48, 3) := by decide +kernel
theorem dX4_stow_31 : decode cX4_stow 31 = .ok (.ireturn, 1) := by decide +kernel
theorem dX4_stow_32 : decode cX4_stow 32 = .ok (.aload_n 0, 1) := by decide +kernel
theorem dX4_stow_33 : decode cX4_stow 33 = .ok (.iload_n 1, 1) := by decide +kernel
theorem dX4_stow_34 : decode cX4_stow 34 = .ok (.invokevirtual 126, 3) := by decide +kernel
theorem dX4_stow_37 : decode cX4_stow 37 = .ok (.istore 4, 2) := by decide +kernel
theorem dX4_stow_39 : decode cX4_stow 39 = .ok (.iload 4, 2) := by decide +kernel
theorem dX4_stow_41 : decode cX4_stow 41 = .ok (.ifCond .eq 10, 3) := by decide +kernel
theorem dX4_stow_44 : decode cX4_stow 44 = .ok (.aload_n 0, 1) := by decide +kernel
theorem dX4_stow_45 : decode cX4_stow 45 = .ok (.iload 4, 2) := by decide +kernel
theorem dX4_stow_47 : decode cX4_stow 47 = .ok (.invokevirtual 48, 3) := by decide +kernel
theorem dX4_stow_50 : decode cX4_stow 50 = .ok (.ireturn, 1) := by decide +kernel
theorem dX4_stow_51 : decode cX4_stow 51 = .ok (.aload_n 3, 1) := by decide +kernel
theorem dX4_stow_52 : decode cX4_stow 52 = .ok (.ifnull 20, 3) := by decide +kernel
theorem dX4_stow_55 : decode cX4_stow 55 = .ok (.aload_n 0, 1) := by decide +kernel
theorem dX4_stow_56 : decode cX4_stow 56 = .ok (.getfield 118, 3) := by decide +kernel
theorem dX4_stow_59 : decode cX4_stow 59 = .ok (.aload_n 3, 1) := by decide +kernel
theorem dX4_stow_60 : decode cX4_stow 60 = .ok (.invokevirtual 129, 3) := by decide +kernel
theorem dX4_stow_63 : decode cX4_stow 63 = .ok (.ifCond .ne 9, 3) := by decide +kernel
theorem dX4_stow_66 : decode cX4_stow 66 = .ok (.aload_n 0, 1) := by decide +kernel
theorem dX4_stow_67 : decode cX4_stow 67 = .ok (.iconst 3, 1) := by decide +kernel
theorem dX4_stow_68 : decode cX4_stow 68 = .ok (.invokevirtual 48, 3) := by decide +kernel
theorem dX4_stow_71 : decode cX4_stow 71 = .ok (.ireturn, 1) := by decide +kernel
theorem dX4_stow_72 : decode cX4_stow 72 = .ok (.aload_n 0, 1) := by decide +kernel
theorem dX4_stow_73 : decode cX4_stow 73 = .ok (.getfield 118, 3) := by decide +kernel
theorem dX4_stow_76 : decode cX4_stow 76 = .ok (.getfield 122, 3) := by decide +kernel
theorem dX4_stow_79 : decode cX4_stow 79 = .ok (.iload_n 1, 1) := by decide +kernel
theorem dX4_stow_80 : decode cX4_stow 80 = .ok (.aload_n 0, 1) := by decide +kernel
theorem dX4_stow_81 : decode cX4_stow 81 = .ok (.getfield 11, 3) := by decide +kernel
theorem dX4_stow_84 : decode cX4_stow 84 = .ok (.iload_n 2, 1) := by decide +kernel
theorem dX4_stow_85 : decode cX4_stow 85 = .ok (.aaload, 1) := by decide +kernel
theorem dX4_stow_86 : decode cX4_stow 86 = .ok (.invokevirtual 44, 3) := by decide +kernel
theorem dX4_stow_89 : decode cX4_stow 89 = .ok (.aastore, 1) := by decide +kernel
theorem dX4_stow_90 : decode cX4_stow 90 = .ok (.aload_n 3, 1) := by decide +kernel
theorem dX4_stow_91 : decode cX4_stow 91 = .ok (.ifnonnull 11, 3) := by decide +kernel
theorem dX4_stow_94 : decode cX4_stow 94 = .ok (.aload_n 0, 1) := by decide +kernel
theorem dX4_stow_95 : decode cX4_stow 95 = .ok (.iconst 1, 1) := by decide +kernel
theorem dX4_stow_96 : decode cX4_stow 96 = .ok (.invokevirtual 48, 3) := by decide +kernel
theorem dX4_stow_99 : decode cX4_stow 99 = .ok (.goto 12, 3) := by decide +kernel
theorem dX4_stow_102 : decode cX4_stow 102 = .ok (.aload_n 0, 1) := by decide +kernel
theorem dX4_stow_103 : decode cX4_stow 103 = .ok (.getfield 11, 3) := by decide +kernel
theorem dX4_stow_106 : decode cX4_stow 106 = .ok (.iload_n 2, 1) := by decide +kernel
theorem dX4_stow_107 : decode cX4_stow 107 = .ok (.aaload, 1) := by decide +kernel
theorem dX4_stow_108 : decode cX4_stow 108 = .ok (.getfield 41, 3) := by decide +kernel
theorem dX4_stow_111 : decode cX4_stow 111 = .ok (.ireturn, 1) := by decide +kernel
set_option maxRecDepth 20000 in
theorem ggX4_fetch_X4_isTrack : GoodIn wsX4_fetch wsX4_isTrack := goodIn_r _ [8] (by decide +kernel) (by decide +kernel)
set_option maxRecDepth 20000 in
theorem gX4_fetch_X4_isTrack : GoodIn wsX4_fetch (va_wsS RX4 20 yX4_isTrack wsX4_isTrack) := goodIn_app (goodIn_of _ (by decide +kernel)) ggX4_fetch_X4_isTrack
set_option maxRecDepth 20000 in
theorem ggX4_fetch_X4_whyNoPlace : GoodIn wsX4_fetch wsX4_whyNoPlace := goodIn_r _ [12, 1, 2, 26, 27, 28, 29, 30, 31, 32, 33] (by decide +kernel) (by decide +kernel)
set_option maxRecDepth 20000 in
theorem gX4_fetch_X4_whyNoPlace : GoodIn wsX4_fetch (wsV RX4 126 RX4 yX4_whyNoPlace wsX4_whyNoPlace) := goodIn_app (goodIn_of _ (by decide +kernel)) ggX4_fetch_X4_whyNoPlace
set_option maxRecDepth 20000 in
theorem ggX4_fetch_X4_tell : GoodIn wsX4_fetch wsX4_tell := goodIn_r _ [16, 17, 26, 27, 28, 29, 30, 31] (by decide +kernel) (by decide +kernel)
set_option maxRecDepth 20000 in
theorem gX4_fetch_X4_tell : GoodIn wsX4_fetch (wsV RX4 48 RX4 yX4_tell wsX4_tell) := goodIn_app (goodIn_of _ (by decide +kernel)) ggX4_fetch_X4_tell
set_option maxRecDepth 20000 in
theorem ggX4_fetch_X2_putAhead : GoodIn wsX4_fetch wsX2_putAhead := goodIn_r _ [22, 23, 24, 25, 34, 35, 36, 37, 38, 39, 40] (by decide +kernel) (by decide +kernel)
set_option maxRecDepth 20000 in
theorem gX4_fetch_X2_putAhead : GoodIn wsX4_fetch (wsV RX4 37 RX2 yX2_putAhead wsX2_putAhead) := goodIn_app (goodIn_of _ (by decide +kernel)) ggX4_fetch_X2_putAhead
theorem dX4_fetch_0 : decode cX4_fetch 0 = .ok (.iload_n 2, 1) := by decide +kernel
theorem dX4_fetch_1 : decode cX4_fetch 1 = .ok (.invokestatic 20, 3) := by decide +kernel
theorem dX4_fetch_4 : decode cX4_fetch 4 = .ok (.ifCond .ne 5, 3) := by decide +kernel
theorem dX4_fetch_7 : decode cX4_fetch 7 = .ok (.iconst (-1), 1) := by decide +kernel
theorem dX4_fetch_8 : decode cX4_fetch 8 = .ok (.ireturn, 1) := by decide +kernel
theorem dX4_fetch_9 : decode cX4_fetch 9 = .ok (.aload_n 0, 1) := by decide +kernel
theorem dX4_fetch_10 : decode cX4_fetch 10 = .ok (.iload_n 1, 1) := by decide +kernel
theorem dX4_fetch_11 : decode cX4_fetch 11 = .ok (.invokevirtual 126, 3) := by decide +kernel
theorem dX4_fetch_14 : decode cX4_fetch 14 = .ok (.istore_n 3, 1) := by decide +kernel
theorem dX4_fetch_15 : decode cX4_fetch 15 = .ok (.iload_n 3, 1) := by decide +kernel
theorem dX4_fetch_16 : decode cX4_fetch 16 = .ok (.ifCond .eq 9, 3) := by decide +kernel
theorem dX4_fetch_19 : decode cX4_fetch 19 = .ok (.aload_n 0, 1) := by decide +kernel
theorem dX4_fetch_20 : decode cX4_fetch 20 = .ok (.iload_n 3, 1) := by decide +kernel
theorem dX4_fetch_21 : decode cX4_fetch 21 = .ok (.invokevirtual 48, 3) := by decide +kernel
theorem dX4_fetch_24 : decode cX4_fetch 24 = .ok (.ireturn, 1) := by decide +kernel
theorem dX4_fetch_25 : decode cX4_fetch 25 = .ok (.aload_n 0, 1) := by decide +kernel
theorem dX4_fetch_26 : decode cX4_fetch 26 = .ok (.getfield 118, 3) := by decide +kernel
theorem dX4_fetch_29 : decode cX4_fetch 29 = .ok (.getfield 122, 3) := by decide +kernel
theorem dX4_fetch_32 : decode cX4_fetch 32 = .ok (.iload_n 1, 1) := by decide +kernel
theorem dX4_fetch_33 : decode cX4_fetch 33 = .ok (.aaload, 1) := by decide +kernel
theorem dX4_fetch_34 : decode cX4_fetch 34 = .ok (.astore 4, 2) := by decide +kernel
theorem dX4_fetch_36 : decode cX4_fetch 36 = .ok (.aload 4, 2) := by decide +kernel
theorem dX4_fetch_38 : decode cX4_fetch 38 = .ok (.ifnonnull 9, 3) := by decide +kernel
theorem dX4_fetch_41 : decode cX4_fetch 41 = .ok (.aload_n 0, 1) := by decide +kernel
theorem dX4_fetch_42 : decode cX4_fetch 42 = .ok (.iconst 1, 1) := by decide +kernel
theorem dX4_fetch_43 : decode cX4_fetch 43 = .ok (.invokevirtual 48, 3) := by decide +kernel
theorem dX4_fetch_46 : decode cX4_fetch 46 = .ok (.ireturn, 1) := by decide +kernel
theorem dX4_fetch_47 : decode cX4_fetch 47 = .ok (.aload_n 0, 1) := by decide +kernel
theorem dX4_fetch_48 : decode cX4_fetch 48 = .ok (.getfield 118, 3) := by decide +kernel
theorem dX4_fetch_51 : decode cX4_fetch 51 = .ok (.getfield 122, 3) := by decide +kernel
theorem dX4_fetch_54 : decode cX4_fetch 54 = .ok (.iload_n 1, 1) := by decide +kernel
theorem dX4_fetch_55 : decode cX4_fetch 55 = .ok (.aconst_null, 1) := by decide +kernel
theorem dX4_fetch_56 : decode cX4_fetch 56 = .ok (.aastore, 1) := by decide +kernel
theorem dX4_fetch_57 : decode cX4_fetch 57 = .ok (.aload_n 0, 1) := by decide +kernel
theorem dX4_fetch_58 : decode cX4_fetch 58 = .ok (.getfield 11, 3) := by decide +kernel
theorem dX4_fetch_61 : decode cX4_fetch 61 = .ok (.iload_n 2, 1) := by decide +kernel
theorem dX4_fetch_62 : decode cX4_fetch 62 = .ok (.aaload, 1) := by decide +kernel
theorem dX4_fetch_63 : decode cX4_fetch 63 = .ok (.aload 4, 2) := by decide +kernel
theorem dX4_fetch_65 : decode cX4_fetch 65 = .ok (.invokevirtual 37, 3) := by decide +kernel
theorem dX4_fetch_68 : decode cX4_fetch 68 = .ok (.aload_n 0, 1) := by decide +kernel
theorem dX4_fetch_69 : decode cX4_fetch 69 = .ok (.getfield 11, 3) := by decide +kernel
theorem dX4_fetch_72 : decode cX4_fetch 72 = .ok (.iload_n 2, 1) := by decide +kernel
theorem dX4_fetch_73 : decode cX4_fetch 73 = .ok (.aaload, 1) := by decide +kernel
theorem dX4_fetch_74 : decode cX4_fetch 74 = .ok (.getfield 41, 3) := by decide +kernel
theorem dX4_fetch_77 : decode cX4_fetch 77 = .ok (.ireturn, 1) := by decide +kernel
set_option maxRecDepth 20000 in
theorem ggX4_plan_X4_tell : GoodIn wsX4_plan wsX4_tell := goodIn_r _ [9, 10, 24, 25, 26, 27, 28, 29] (by decide +kernel) (by decide +kernel)
set_option maxRecDepth 20000 in
theorem gX4_plan_X4_tell : GoodIn wsX4_plan (wsV RX4 48 RX4 yX4_tell wsX4_tell) := goodIn_app (goodIn_of _ (by decide +kernel)) ggX4_plan_X4_tell
set_option maxRecDepth 20000 in
theorem ggX4_plan_X0_init : GoodIn wsX4_plan wsX0_init := goodIn_r _ [13, 14, 15, 16, 17, 18, 19, 20, 21, 22, 23] (by decide +kernel) (by decide +kernel)
set_option maxRecDepth 20000 in
theorem gX4_plan_X0_init : GoodIn wsX4_plan (wsX0_init) := ggX4_plan_X0_init
theorem dX4_plan_0 : decode cX4_plan 0 = .ok (.iload_n 1, 1) := by decide +kernel
theorem dX4_plan_1 : decode cX4_plan 1 = .ok (.bipush 12, 2) := by decide +kernel
theorem dX4_plan_3 : decode cX4_plan 3 = .ok (.if_icmp .gt 9, 3) := by decide +kernel
theorem dX4_plan_6 : decode cX4_plan 6 = .ok (.iload_n 2, 1) := by decide +kernel
theorem dX4_plan_7 : decode cX4_plan 7 = .ok (.bipush 12, 2) := by decide +kernel
theorem dX4_plan_9 : decode cX4_plan 9 = .ok (.if_icmp .le 5, 3) := by decide +kernel
theorem dX4_plan_12 : decode cX4_plan 12 = .ok (.iconst (-1), 1) := by decide +kernel
theorem dX4_plan_13 : decode cX4_plan 13 = .ok (.ireturn, 1) := by decide +kernel
theorem dX4_plan_14 : decode cX4_plan 14 = .ok (.iload_n 1, 1) := by decide +kernel
theorem dX4_plan_15 : decode cX4_plan 15 = .ok (.ifCond .lt 7, 3) := by decide +kernel
theorem dX4_plan_18 : decode cX4_plan 18 = .ok (.iload_n 2, 1) := by decide +kernel
theorem dX4_plan_19 : decode cX4_plan 19 = .ok (.ifCond .ge 9, 3) := by decide +kernel
theorem dX4_plan_22 : decode cX4_plan 22 = .ok (.aload_n 0, 1) := by decide +kernel
theorem dX4_plan_23 : decode cX4_plan 23 = .ok (.iconst 4, 1) := by decide +kernel
theorem dX4_plan_24 : decode cX4_plan 24 = .ok (.invokevirtual 48, 3) := by decide +kernel
theorem dX4_plan_27 : decode cX4_plan 27 = .ok (.ireturn, 1) := by decide +kernel
theorem dX4_plan_28 : decode cX4_plan 28 = .ok (.aload_n 0, 1) := by decide +kernel
theorem dX4_plan_29 : decode cX4_plan 29 = .ok (.new 132, 3) := by decide +kernel
theorem dX4_plan_32 : decode cX4_plan 32 = .ok (.dup, 1) := by decide +kernel
theorem dX4_plan_33 : decode cX4_plan 33 = .ok (.iload_n 1, 1) := by decide +kernel
theorem dX4_plan_34 : decode cX4_plan 34 = .ok (.iload_n 2, 1) := by decide +kernel
theorem dX4_plan_35 : decode cX4_plan 35 = .ok (.invokespecial 134, 3) := by decide +kernel
theorem dX4_plan_38 : decode cX4_plan 38 = .ok (.putfield 135, 3) := by decide +kernel
theorem dX4_plan_41 : decode cX4_plan 41 = .ok (.iload_n 1, 1) := by decide +kernel
theorem dX4_plan_42 : decode cX4_plan 42 = .ok (.iload_n 2, 1) := by decide +kernel
theorem dX4_plan_43 : decode cX4_plan 43 = .ok (.imul, 1) := by decide +kernel
theorem dX4_plan_44 : decode cX4_plan 44 = .ok (.ireturn, 1) := by decide +kernel
set_option maxRecDepth 20000 in
theorem ggX4_note_X4_isWithin : GoodIn wsX4_note wsX4_isWithin := goodIn_r _ [6] (by decide +kernel) (by decide +kernel)
set_option maxRecDepth 20000 in
theorem gX4_note_X4_isWithin : GoodIn wsX4_note (va_wsS RX4 24 yX4_isWithin wsX4_isWithin) := goodIn_app (goodIn_of _ (by decide +kernel)) ggX4_note_X4_isWithin
set_option maxRecDepth 20000 in
theorem ggX4_note_X4_whyNoNumber : GoodIn wsX4_note wsX4_whyNoNumber := goodIn_r _ [10, 1, 11, 12, 13, 14, 5, 15, 16, 28, 29, 30, 31, 32, 33, 34, 35, 36] (by decide +kernel) (by decide +kernel)
set_option maxRecDepth 20000 in
theorem gX4_note_X4_whyNoNumber : GoodIn wsX4_note (wsV RX4 139 RX4 yX4_whyNoNumber wsX4_whyNoNumber) := goodIn_app (goodIn_of _ (by decide +kernel)) ggX4_note_X4_whyNoNumber
set_option maxRecDepth 20000 in
theorem ggX4_note_X4_tell : GoodIn wsX4_note wsX4_tell := goodIn_r _ [20, 21, 28, 29, 30, 31, 32, 33] (by decide +kernel) (by decide +kernel)
set_option maxRecDepth 20000 in
theorem gX4_note_X4_tell : GoodIn wsX4_note (wsV RX4 48 RX4 yX4_tell wsX4_tell) := goodIn_app (goodIn_of _ (by decide +kernel)) ggX4_note_X4_tell
set_option maxRecDepth 20000 in
theorem ggX4_note_X0_slot : GoodIn wsX4_note wsX0_slot := goodIn_r _ [26, 27, 34, 35, 36] (by decide +kernel) (by decide +kernel)
set_option maxRecDepth 20000 in
theorem gX4_note_X0_slot : GoodIn wsX4_note (wsV RX4 145 RX0 yX0_slot wsX0_slot) := goodIn_app (goodIn_of _ (by decide +kernel)) ggX4_note_X0_slot
theorem dX4_note_0 : decode cX4_note 0 = .ok (.iload_n 3, 1) := by decide +kernel
theorem dX4_note_1 : decode cX4_note 1 = .ok (.iconst 0, 1) := by decide +kernel
theorem dX4_note_2 : decode cX4_note 2 = .ok (.bipush 99, 2) := by decide +kernel
theorem dX4_note_4 : decode cX4_note 4 = .ok (.invokestatic 24, 3) := by decide +kernel
theorem dX4_note_7 : decode cX4_note 7 = .ok (.ifCond .ne 5, 3) := by decide +kernel
theorem dX4_note_10 : decode cX4_note 10 = .ok (.iconst (-1), 1) := by decide +kernel
theorem dX4_note_11 : decode cX4_note 11 = .ok (.ireturn, 1) := by decide +kernel
theorem dX4_note_12 : decode cX4_note 12 = .ok (.aload_n 0, 1) := by decide +kernel
theorem dX4_note_13 : decode cX4_note 13 = .ok (.iload_n 1, 1) := by decide +kernel
theorem dX4_note_14 : decode cX4_note 14 = .ok (.iload_n 2, 1) := by decide +kernel
theorem dX4_note_15 : decode cX4_note 15 = .ok (.invokevirtual 139, 3) := by decide +kernel
theorem dX4_note_18 : decode cX4_note 18 = .ok (.istore 4, 2) := by decide +kernel
theorem dX4_note_20 : decode cX4_note 20 = .ok (.iload 4, 2) := by decide +kernel
theorem dX4_note_22 : decode cX4_note 22 = .ok (.ifCond .eq 10, 3) := by decide +kernel
theorem dX4_note_25 : decode cX4_note 25 = .ok (.aload_n 0, 1) := by decide +kernel
theorem dX4_note_26 : decode cX4_note 26 = .ok (.iload 4, 2) := by decide +kernel
theorem dX4_note_28 : decode cX4_note 28 = .ok (.invokevirtual 48, 3) := by decide +kernel
theorem dX4_note_31 : decode cX4_note 31 = .ok (.ireturn, 1) := by decide +kernel
theorem dX4_note_32 : decode cX4_note 32 = .ok (.aload_n 0, 1) := by decide +kernel
theorem dX4_note_33 : decode cX4_note 33 = .ok (.getfield 135, 3) := by decide +kernel
theorem dX4_note_36 : decode cX4_note 36 = .ok (.getfield 142, 3) := by decide +kernel
theorem dX4_note_39 : decode cX4_note 39 = .ok (.aload_n 0, 1) := by decide +kernel
theorem dX4_note_40 : decode cX4_note 40 = .ok (.getfield 135, 3) := by decide +kernel
theorem dX4_note_43 : decode cX4_note 43 = .ok (.iload_n 1, 1) := by decide +kernel
theorem dX4_note_44 : decode cX4_note 44 = .ok (.iload_n 2, 1) := by decide +kernel
theorem dX4_note_45 : decode cX4_note 45 = .ok (.invokevirtual 145, 3) := by decide +kernel
theorem dX4_note_48 : decode cX4_note 48 = .ok (.iload_n 3, 1) := by decide +kernel
theorem dX4_note_49 : decode cX4_note 49 = .ok (.iastore, 1) := by decide +kernel
theorem dX4_note_50 : decode cX4_note 50 = .ok (.iload_n 3, 1) := by decide +kernel
theorem dX4_note_51 : decode cX4_note 51 = .ok (.ireturn, 1) := by decide +kernel
set_option maxRecDepth 20000 in
theorem ggX4_noted_X4_whyNoNumber : GoodIn wsX4_noted wsX4_whyNoNumber := goodIn_r _ [7, 1, 8, 9, 10, 11, 6, 12, 13, 25, 26, 27, 28, 29, 30, 31, 32, 33] (by decide +kernel) (by decide +kernel)
set_option maxRecDepth 20000 in
theorem gX4_noted_X4_whyNoNumber : GoodIn wsX4_noted (wsV RX4 139 RX4 yX4_whyNoNumber wsX4_whyNoNumber) := goodIn_app (goodIn_of _ (by decide +kernel)) ggX4_noted_X4_whyNoNumber
set_option maxRecDepth 20000 in
theorem ggX4_noted_X4_tell : GoodIn wsX4_noted wsX4_tell := goodIn_r _ [17, 18, 25, 26, 27, 28, 29, 30] (by decide +kernel) (by decide +kernel)
set_option maxRecDepth 20000 in
theorem gX4_noted_X4_tell : GoodIn wsX4_noted (wsV RX4 48 RX4 yX4_tell wsX4_tell) := goodIn_app (goodIn_of _ (by decide +kernel)) ggX4_noted_X4_tell
set_option maxRecDepth 20000 in
theorem ggX4_noted_X0_slot : GoodIn wsX4_noted wsX0_slot := goodIn_r _ [23, 24, 31, 32, 33] (by decide +kernel) (by decide +kernel)
set_option maxRecDepth 20000 in
theorem gX4_noted_X0_slot : GoodIn wsX4_noted (wsV RX4 145 RX0 yX0_slot wsX0_slot) := goodIn_app (goodIn_of _ (by decide +kernel)) ggX4_noted_X0_slot
theorem dX4_noted_0 : decode cX4_noted 0 = .ok (.aload_n 0, 1) := by decide +kernel
theorem dX4_noted_1 : decode cX4_noted 1 = .ok (.iload_n 1, 1) := by decide +kernel
theorem dX4_noted_2 : decode cX4_noted 2 = .ok (.iload_n 2, 1) := by decide +kernel
theorem dX4_noted_3 : decode cX4_noted 3 = .ok (.invokevirtual 139, 3) := by decide +kernel
theorem dX4_noted_6 : decode cX4_noted 6 = .ok (.istore_n 3, 1) := by decide +kernel
theorem dX4_noted_7 : decode cX4_noted 7 = .ok (.iload_n 3, 1) := by decide +kernel
theorem dX4_noted_8 : decode cX4_noted 8 = .ok (.ifCond .eq 11, 3) := by decide +kernel
theorem dX4_noted_11 : decode cX4_noted 11 = .ok (.aload_n 0, 1) := by decide +kernel
theorem dX4_noted_12 : decode cX4_noted 12 = .ok (.iload_n 3, 1) := by decide +kernel
theorem dX4_noted_13 : decode cX4_noted 13 = .ok (.invokevirtual 48, 3) := by decide +kernel
theorem dX4_noted_16 : decode cX4_noted 16 = .ok (.goto 20, 3) := by decide +kernel
theorem dX4_noted_19 : decode cX4_noted 19 = .ok (.aload_n 0, 1) := by decide +kernel
theorem dX4_noted_20 : decode cX4_noted 20 = .ok (.getfield 135, 3) := by decide +kernel
theorem dX4_noted_23 : decode cX4_noted 23 = .ok (.getfield 142, 3) := by decide +kernel
theorem dX4_noted_26 : decode cX4_noted 26 = .ok (.aload_n 0, 1) := by decide +kernel
theorem dX4_noted_27 : decode cX4_noted 27 = .ok (.getfield 135, 3) := by decide +kernel
theorem dX4_noted_30 : decode cX4_noted 30 = .ok (.iload_n 1, 1) := by decide +kernel
theorem dX4_noted_31 : decode cX4_noted 31 = .ok (.iload_n 2, 1) := by decide +kernel
theorem dX4_noted_32 : decode cX4_noted 32 = .ok (.invokevirtual 145, 3) := by decide +kernel
theorem dX4_noted_35 : decode cX4_noted 35 = .ok (.iaload, 1) := by decide +kernel
theorem dX4_noted_36 : decode cX4_noted 36 = .ok (.ireturn, 1) := by decide +kernel
set_option maxRecDepth 20000 in
theorem ggX4_wide_X4_whyNoPlanRow : GoodIn wsX4_wide wsX4_whyNoPlanRow := goodIn_r _ [7, 1, 8, 14, 15, 16, 17, 18, 19, 20, 21, 22] (by decide +kernel) (by decide +kernel)
set_option maxRecDepth 20000 in
theorem gX4_wide_X4_whyNoPlanRow : GoodIn wsX4_wide (wsV RX4 148 RX4 yX4_whyNoPlanRow wsX4_whyNoPlanRow) := goodIn_app (goodIn_of _ (by decide +kernel)) ggX4_wide_X4_whyNoPlanRow
set_option maxRecDepth 20000 in
theorem ggX4_wide_X4_tell : GoodIn wsX4_wide wsX4_tell := goodIn_r _ [12, 13, 14, 15, 16, 17, 18, 19] (by decide +kernel) (by decide +kernel)
set_option maxRecDepth 20000 in
theorem gX4_wide_X4_tell : GoodIn wsX4_wide (wsV RX4 48 RX4 yX4_tell wsX4_tell) := goodIn_app (goodIn_of _ (by decide +kernel)) ggX4_wide_X4_tell
theorem dX4_wide_0 : decode cX4_wide 0 = .ok (.aload_n 0, 1) := by decide +kernel
theorem dX4_wide_1 : decode cX4_wide 1 = .ok (.iload_n 1, 1) := by decide +kernel
theorem dX4_wide_2 : decode cX4_wide 2 = .ok (.invokevirtual 148, 3) := by decide +kernel
theorem dX4_wide_5 : decode cX4_wide 5 = .ok (.istore_n 2, 1) := by decide +kernel
theorem dX4_wide_6 : decode cX4_wide 6 = .ok (.iload_n 2, 1) := by decide +kernel
theorem dX4_wide_7 : decode cX4_wide 7 = .ok (.ifCond .eq 11, 3) := by decide +kernel
theorem dX4_wide_10 : decode cX4_wide 10 = .ok (.aload_n 0, 1) := by decide +kernel
theorem dX4_wide_11 : decode cX4_wide 11 = .ok (.iload_n 2, 1) := by decide +kernel
theorem dX4_wide_12 : decode cX4_wide 12 = .ok (.invokevirtual 48, 3) := by decide +kernel
theorem dX4_wide_15 : decode cX4_wide 15 = .ok (.goto 10, 3) := by decide +kernel
theorem dX4_wide_18 : decode cX4_wide 18 = .ok (.aload_n 0, 1) := by decide +kernel
theorem dX4_wide_19 : decode cX4_wide 19 = .ok (.getfield 135, 3) := by decide +kernel
theorem dX4_wide_22 : decode cX4_wide 22 = .ok (.getfield 151, 3) := by decide +kernel
theorem dX4_wide_25 : decode cX4_wide 25 = .ok (.ireturn, 1) := by decide +kernel
theorem dX4_away_0 : decode cX4_away 0 = .ok (.iload_n 1, 1) := by decide +kernel
theorem dX4_away_1 : decode cX4_away 1 = .ok (.ifCond .ne 24, 3) := by decide +kernel
theorem dX4_away_4 : decode cX4_away 4 = .ok (.aload_n 0, 1) := by decide +kernel
theorem dX4_away_5 : decode cX4_away 5 = .ok (.getfield 118, 3) := by decide +kernel
theorem dX4_away_8 : decode cX4_away 8 = .ok (.ifnull 7, 3) := by decide +kernel
theorem dX4_away_11 : decode cX4_away 11 = .ok (.iconst 1, 1) := by decide +kernel
theorem dX4_away_12 : decode cX4_away 12 = .ok (.goto 4, 3) := by decide +kernel
theorem dX4_away_15 : decode cX4_away 15 = .ok (.iconst 0, 1) := by decide +kernel
theorem dX4_away_16 : decode cX4_away 16 = .ok (.istore_n 2, 1) := by decide +kernel
theorem dX4_away_17 : decode cX4_away 17 = .ok (.aload_n 0, 1) := by decide +kernel
theorem dX4_away_18 : decode cX4_away 18 = .ok (.aconst_null, 1) := by decide +kernel
theorem dX4_away_19 : decode cX4_away 19 = .ok (.putfield 118, 3) := by decide +kernel
theorem dX4_away_22 : decode cX4_away 22 = .ok (.goto 31, 3) := by decide +kernel
theorem dX4_away_25 : decode cX4_away 25 = .ok (.iload_n 1, 1) := by decide +kernel
theorem dX4_away_26 : decode cX4_away 26 = .ok (.iconst 1, 1) := by decide +kernel
theorem dX4_away_27 : decode cX4_away 27 = .ok (.if_icmp .ne 24, 3) := by decide +kernel
theorem dX4_away_30 : decode cX4_away 30 = .ok (.aload_n 0, 1) := by decide +kernel
theorem dX4_away_31 : decode cX4_away 31 = .ok (.getfield 135, 3) := by decide +kernel
theorem dX4_away_34 : decode cX4_away 34 = .ok (.ifnull 7, 3) := by decide +kernel
theorem dX4_away_37 : decode cX4_away 37 = .ok (.iconst 1, 1) := by decide +kernel
theorem dX4_away_38 : decode cX4_away 38 = .ok (.goto 4, 3) := by decide +kernel
theorem dX4_away_41 : decode cX4_away 41 = .ok (.iconst 0, 1) := by decide +kernel
theorem dX4_away_42 : decode cX4_away 42 = .ok (.istore_n 2, 1) := by decide +kernel
theorem dX4_away_43 : decode cX4_away 43 = .ok (.aload_n 0, 1) := by decide +kernel
theorem dX4_away_44 : decode cX4_away 44 = .ok (.aconst_null, 1) := by decide +kernel
theorem dX4_away_45 : decode cX4_away 45 = .ok (.putfield 135, 3) := by decide +kernel
theorem dX4_away_48 : decode cX4_away 48 = .ok (.goto 5, 3) := by decide +kernel
theorem dX4_away_51 : decode cX4_away 51 = .ok (.iconst (-1), 1) := by decide +kernel
theorem dX4_away_52 : decode cX4_away 52 = .ok (.ireturn, 1) := by decide +kernel
theorem dX4_away_53 : decode cX4_away 53 = .ok (.iload_n 2, 1) := by decide +kernel
theorem dX4_away_54 : decode cX4_away 54 = .ok (.ifCond .eq 7, 3) := by decide +kernel
theorem dX4_away_57 : decode cX4_away 57 = .ok (.iconst 1, 1) := by decide +kernel
theorem dX4_away_58 : decode cX4_away 58 = .ok (.goto 4, 3) := by decide +kernel
theorem dX4_away_61 : decode cX4_away 61 = .ok (.iconst 0, 1) := by decide +kernel
theorem dX4_away_62 : decode cX4_away 62 = .ok (.ireturn, 1) := by decide +kernel
set_option maxRecDepth 20000 in
theorem ggX4_about_X4_isPosition : GoodIn wsX4_about wsX4_isPosition := goodIn_r _ [9, 10, 11, 8, 12] (by decide +kernel) (by decide +kernel)
set_option maxRecDepth 20000 in
theorem gX4_about_X4_isPosition : GoodIn wsX4_about (va_wsS RX4 68 yX4_isPosition wsX4_isPosition) := goodIn_app (goodIn_of _ (by decide +kernel)) ggX4_about_X4_isPosition
set_option maxRecDepth 20000 in
theorem ggX4_about_X4_isWithin : GoodIn wsX4_about wsX4_isWithin := goodIn_r _ [15] (by decide +kernel) (by decide +kernel)
set_option maxRecDepth 20000 in
theorem gX4_about_X4_isWithin : GoodIn wsX4_about (va_wsS RX4 24 yX4_isWithin wsX4_isWithin) := goodIn_app (goodIn_of _ (by decide +kernel)) ggX4_about_X4_isWithin
set_option maxRecDepth 20000 in
theorem ggX4_about_X2_vehicleAt : GoodIn wsX4_about wsX2_vehicleAt := goodIn_r _ [20, 21, 22, 23, 35, 36, 30, 31, 32, 33, 34] (by decide +kernel) (by decide +kernel)
set_option maxRecDepth 20000 in
theorem gX4_about_X2_vehicleAt : GoodIn wsX4_about (wsV RX4 71 RX2 yX2_vehicleAt wsX2_vehicleAt) := goodIn_app (goodIn_of _ (by decide +kernel)) ggX4_about_X2_vehicleAt
theorem dX4_about_0 : decode cX4_about 0 = .ok (.iload_n 1, 1) := by decide +kernel
theorem dX4_about_1 : decode cX4_about 1 = .ok (.iload_n 2, 1) := by decide +kernel
theorem dX4_about_2 : decode cX4_about 2 = .ok (.invokestatic 68, 3) := by decide +kernel
theorem dX4_about_5 : decode cX4_about 5 = .ok (.ifCond .eq 12, 3) := by decide +kernel
theorem dX4_about_8 : decode cX4_about 8 = .ok (.iload_n 3, 1) := by decide +kernel
theorem dX4_about_9 : decode cX4_about 9 = .ok (.iconst 0, 1) := by decide +kernel
theorem dX4_about_10 : decode cX4_about 10 = .ok (.iconst 3, 1) := by decide +kernel
theorem dX4_about_11 : decode cX4_about 11 = .ok (.invokestatic 24, 3) := by decide +kernel
theorem dX4_about_14 : decode cX4_about 14 = .ok (.ifCond .ne 5, 3) := by decide +kernel
theorem dX4_about_17 : decode cX4_about 17 = .ok (.iconst (-1), 1) := by decide +kernel
theorem dX4_about_18 : decode cX4_about 18 = .ok (.ireturn, 1) := by decide +kernel
theorem dX4_about_19 : decode cX4_about 19 = .ok (.aload_n 0, 1) := by decide +kernel
theorem dX4_about_20 : decode cX4_about 20 = .ok (.getfield 11, 3) := by decide +kernel
theorem dX4_about_23 : decode cX4_about 23 = .ok (.iload_n 1, 1) := by decide +kernel
theorem dX4_about_24 : decode cX4_about 24 = .ok (.aaload, 1) := by decide +kernel
theorem dX4_about_25 : decode cX4_about 25 = .ok (.iload_n 2, 1) := by decide +kernel
theorem dX4_about_26 : decode cX4_about 26 = .ok (.invokevirtual 71, 3) := by decide +kernel
theorem dX4_about_29 : decode cX4_about 29 = .ok (.astore 4, 2) := by decide +kernel
theorem dX4_about_31 : decode cX4_about 31 = .ok (.aload 4, 2) := by decide +kernel
theorem dX4_about_33 : decode cX4_about 33 = .ok (.ifnonnull 5, 3) := by decide +kernel
theorem dX4_about_36 : decode cX4_about 36 = .ok (.iconst 0, 1) := by decide +kernel
theorem dX4_about_37 : decode cX4_about 37 = .ok (.ireturn, 1) := by decide +kernel
theorem dX4_about_38 : decode cX4_about 38 = .ok (.iload_n 3, 1) := by decide +kernel
theorem dX4_about_39 : decode cX4_about 39 = .ok (.tableswitch 43 0 2 #[25, 31, 37], 25) := by decide +kernel
theorem dX4_about_64 : decode cX4_about 64 = .ok (.aload 4, 2) := by decide +kernel
theorem dX4_about_66 : decode cX4_about 66 = .ok (.getfield 154, 3) := by decide +kernel
theorem dX4_about_69 : decode cX4_about 69 = .ok (.ireturn, 1) := by decide +kernel
theorem dX4_about_70 : decode cX4_about 70 = .ok (.aload 4, 2) := by decide +kernel
theorem dX4_about_72 : decode cX4_about 72 = .ok (.getfield 107, 3) := by decide +kernel
theorem dX4_about_75 : decode cX4_about 75 = .ok (.ireturn, 1) := by decide +kernel
theorem dX4_about_76 : decode cX4_about 76 = .ok (.aload 4, 2) := by decide +kernel
theorem dX4_about_78 : decode cX4_about 78 = .ok (.getfield 90, 3) := by decide +kernel
theorem dX4_about_81 : decode cX4_about 81 = .ok (.ireturn, 1) := by decide +kernel
theorem dX4_about_82 : decode cX4_about 82 = .ok (.aload 4, 2) := by decide +kernel
theorem dX4_about_84 : decode cX4_about 84 = .ok (.getfield 79, 3) := by decide +kernel
theorem dX4_about_87 : decode cX4_about 87 = .ok (.ifnonnull 7, 3) := by decide +kernel
theorem dX4_about_90 : decode cX4_about 90 = .ok (.iconst 0, 1) := by decide +kernel
theorem dX4_about_91 : decode cX4_about 91 = .ok (.goto 9, 3) := by decide +kernel
theorem dX4_about_94 : decode cX4_about 94 = .ok (.aload 4, 2) := by decide +kernel
theorem dX4_about_96 : decode cX4_about 96 = .ok (.getfield 79, 3) := by decide +kernel
theorem dX4_about_99 : decode cX4_about 99 = .ok (.arraylength, 1) := by decide +kernel
theorem dX4_about_100 : decode cX4_about 100 = .ok (.ireturn, 1) := by decide +kernel
set_option maxRecDepth 20000 in
theorem ggX4_count_X4_isTrack : GoodIn wsX4_count wsX4_isTrack := goodIn_r _ [6] (by decide +kernel) (by decide +kernel)
set_option maxRecDepth 20000 in
theorem gX4_count_X4_isTrack : GoodIn wsX4_count (va_wsS RX4 20 yX4_isTrack wsX4_isTrack) := goodIn_app (goodIn_of _ (by decide +kernel)) ggX4_count_X4_isTrack
theorem dX4_count_0 : decode cX4_count 0 = .ok (.iload_n 1, 1) := by decide +kernel
theorem dX4_count_1 : decode cX4_count 1 = .ok (.invokestatic 20, 3) := by decide +kernel
theorem dX4_count_4 : decode cX4_count 4 = .ok (.ifCond .eq 15, 3) := by decide +kernel
theorem dX4_count_7 : decode cX4_count 7 = .ok (.aload_n 0, 1) := by decide +kernel
theorem dX4_count_8 : decode cX4_count 8 = .ok (.getfield 11, 3) := by decide +kernel
theorem dX4_count_11 : decode cX4_count 11 = .ok (.iload_n 1, 1) := by decide +kernel
theorem dX4_count_12 : decode cX4_count 12 = .ok (.aaload, 1) := by decide +kernel
theorem dX4_count_13 : decode cX4_count 13 = .ok (.getfield 41, 3) := by decide +kernel
theorem dX4_count_16 : decode cX4_count 16 = .ok (.goto 4, 3) := by decide +kernel
theorem dX4_count_19 : decode cX4_count 19 = .ok (.iconst (-1), 1) := by decide +kernel
theorem dX4_count_20 : decode cX4_count 20 = .ok (.ireturn, 1) := by decide +kernel
set_option maxRecDepth 20000 in
theorem ggX4_reasons_X4_isWithin : GoodIn wsX4_reasons wsX4_isWithin := goodIn_r _ [5] (by decide +kernel) (by decide +kernel)
set_option maxRecDepth 20000 in
theorem gX4_reasons_X4_isWithin : GoodIn wsX4_reasons (va_wsS RX4 24 yX4_isWithin wsX4_isWithin) := goodIn_app (goodIn_of _ (by decide +kernel)) ggX4_reasons_X4_isWithin
theorem dX4_reasons_0 : decode cX4_reasons 0 = .ok (.iload_n 1, 1) := by decide +kernel
theorem dX4_reasons_1 : decode cX4_reasons 1 = .ok (.iconst 1, 1) := by decide +kernel
theorem dX4_reasons_2 : decode cX4_reasons 2 = .ok (.bipush 7, 2) := by decide +kernel
theorem dX4_reasons_4 : decode cX4_reasons 4 = .ok (.invokestatic 24, 3) := by decide +kernel
theorem dX4_reasons_7 : decode cX4_reasons 7 = .ok (.ifCond .eq 12, 3) := by decide +kernel
theorem dX4_reasons_10 : decode cX4_reasons 10 = .ok (.aload_n 0, 1) := by decide +kernel
theorem dX4_reasons_11 : decode cX4_reasons 11 = .ok (.getfield 15, 3) := by decide +kernel
theorem dX4_reasons_14 : decode cX4_reasons 14 = .ok (.iload_n 1, 1) := by decide +kernel
theorem dX4_reasons_15 : decode cX4_reasons 15 = .ok (.iaload, 1) := by decide +kernel
theorem dX4_reasons_16 : decode cX4_reasons 16 = .ok (.goto 4, 3) := by decide +kernel
theorem dX4_reasons_19 : decode cX4_reasons 19 = .ok (.iconst (-1), 1) := by decide +kernel
theorem dX4_reasons_20 : decode cX4_reasons 20 = .ok (.ireturn, 1) := by decide +kernel
theorem dX4_isWithin_0 : decode cX4_isWithin 0 = .ok (.iload_n 0, 1) := by decide +kernel
theorem dX4_isWithin_1 : decode cX4_isWithin 1 = .ok (.iload_n 1, 1) := by decide +kernel
theorem dX4_isWithin_2 : decode cX4_isWithin 2 = .ok (.if_icmp .lt 12, 3) := by decide +kernel
theorem dX4_isWithin_5 : decode cX4_isWithin 5 = .ok (.iload_n 0, 1) := by decide +kernel
theorem dX4_isWithin_6 : decode cX4_isWithin 6 = .ok (.iload_n 2, 1) := by decide +kernel
theorem dX4_isWithin_7 : decode cX4_isWithin 7 = .ok (.if_icmp .gt 7, 3) := by decide +kernel
theorem dX4_isWithin_10 : decode cX4_isWithin 10 = .ok (.iconst 1, 1) := by decide +kernel
theorem dX4_isWithin_11 : decode cX4_isWithin 11 = .ok (.goto 4, 3) := by decide +kernel
theorem dX4_isWithin_14 : decode cX4_isWithin 14 = .ok (.iconst 0, 1) := by decide +kernel
theorem dX4_isWithin_15 : decode cX4_isWithin 15 = .ok (.ireturn, 1) := by decide +kernel
theorem dX4_isTrack_0 : decode cX4_isTrack 0 = .ok (.iload_n 0, 1) := by decide +kernel
theorem dX4_isTrack_1 : decode cX4_isTrack 1 = .ok (.ifCond .lt 13, 3) := by decide +kernel
theorem dX4_isTrack_4 : decode cX4_isTrack 4 = .ok (.iload_n 0, 1) := by decide +kernel
theorem dX4_isTrack_5 : decode cX4_isTrack 5 = .ok (.bipush 6, 2) := by decide +kernel
theorem dX4_isTrack_7 : decode cX4_isTrack 7 = .ok (.if_icmp .ge 7, 3) := by decide +kernel
theorem dX4_isTrack_10 : decode cX4_isTrack 10 = .ok (.iconst 1, 1) := by decide +kernel
theorem dX4_isTrack_11 : decode cX4_isTrack 11 = .ok (.goto 4, 3) := by decide +kernel
theorem dX4_isTrack_14 : decode cX4_isTrack 14 = .ok (.iconst 0, 1) := by decide +kernel
theorem dX4_isTrack_15 : decode cX4_isTrack 15 = .ok (.ireturn, 1) := by decide +kernel
set_option maxRecDepth 20000 in
theorem ggX4_areTwoTracks_X4_isTrack : GoodIn wsX4_areTwoTracks wsX4_isTrack := goodIn_r _ [4] (by decide +kernel) (by decide +kernel)
set_option maxRecDepth 20000 in
theorem gX4_areTwoTracks_X4_isTrack : GoodIn wsX4_areTwoTracks (va_wsS RX4 20 yX4_isTrack wsX4_isTrack) := goodIn_app (goodIn_of _ (by decide +kernel)) ggX4_areTwoTracks_X4_isTrack
theorem dX4_areTwoTracks_0 : decode cX4_areTwoTracks 0 = .ok (.iload_n 0, 1) := by decide +kernel
theorem dX4_areTwoTracks_1 : decode cX4_areTwoTracks 1 = .ok (.invokestatic 20, 3) := by decide +kernel
theorem dX4_areTwoTracks_4 : decode cX4_areTwoTracks 4 = .ok (.ifCond .eq 19, 3) := by decide +kernel
theorem dX4_areTwoTracks_7 : decode cX4_areTwoTracks 7 = .ok (.iload_n 1, 1) := by decide +kernel
theorem dX4_areTwoTracks_8 : decode cX4_areTwoTracks 8 = .ok (.invokestatic 20, 3) := by decide +kernel
theorem dX4_areTwoTracks_11 : decode cX4_areTwoTracks 11 = .ok (.ifCond .eq 12, 3) := by decide +kernel
theorem dX4_areTwoTracks_14 : decode cX4_areTwoTracks 14 = .ok (.iload_n 0, 1) := by decide +kernel
theorem dX4_areTwoTracks_15 : decode cX4_areTwoTracks 15 = .ok (.iload_n 1, 1) := by decide +kernel
theorem dX4_areTwoTracks_16 : decode cX4_areTwoTracks 16 = .ok (.if_icmp .eq 7, 3) := by decide +kernel
theorem dX4_areTwoTracks_19 : decode cX4_areTwoTracks 19 = .ok (.iconst 1, 1) := by decide +kernel
theorem dX4_areTwoTracks_20 : decode cX4_areTwoTracks 20 = .ok (.goto 4, 3) := by decide +kernel
theorem dX4_areTwoTracks_23 : decode cX4_areTwoTracks 23 = .ok (.iconst 0, 1) := by decide +kernel
theorem dX4_areTwoTracks_24 : decode cX4_areTwoTracks 24 = .ok (.ireturn, 1) := by decide +kernel
set_option maxRecDepth 20000 in
theorem ggX4_isPosition_X4_isTrack : GoodIn wsX4_isPosition wsX4_isTrack := goodIn_r _ [4] (by decide +kernel) (by decide +kernel)
set_option maxRecDepth 20000 in
theorem gX4_isPosition_X4_isTrack : GoodIn wsX4_isPosition (va_wsS RX4 20 yX4_isTrack wsX4_isTrack) := goodIn_app (goodIn_of _ (by decide +kernel)) ggX4_isPosition_X4_isTrack
theorem dX4_isPosition_0 : decode cX4_isPosition 0 = .ok (.iload_n 0, 1) := by decide +kernel
theorem dX4_isPosition_1 : decode cX4_isPosition 1 = .ok (.invokestatic 20, 3) := by decide +kernel
theorem dX4_isPosition_4 : decode cX4_isPosition 4 = .ok (.ifCond .eq 11, 3) := by decide +kernel
theorem dX4_isPosition_7 : decode cX4_isPosition 7 = .ok (.iload_n 1, 1) := by decide +kernel
theorem dX4_isPosition_8 : decode cX4_isPosition 8 = .ok (.ifCond .lt 7, 3) := by decide +kernel
theorem dX4_isPosition_11 : decode cX4_isPosition 11 = .ok (.iconst 1, 1) := by decide +kernel
theorem dX4_isPosition_12 : decode cX4_isPosition 12 = .ok (.goto 4, 3) := by decide +kernel
theorem dX4_isPosition_15 : decode cX4_isPosition 15 = .ok (.iconst 0, 1) := by decide +kernel
theorem dX4_isPosition_16 : decode cX4_isPosition 16 = .ok (.ireturn, 1) := by decide +kernel
theorem dX4_isEngine_0 : decode cX4_isEngine 0 = .ok (.aload_n 0, 1) := by decide +kernel
theorem dX4_isEngine_1 : decode cX4_isEngine 1 = .ok (.ifnull 15, 3) := by decide +kernel
theorem dX4_isEngine_4 : decode cX4_isEngine 4 = .ok (.aload_n 0, 1) := by decide +kernel
theorem dX4_isEngine_5 : decode cX4_isEngine 5 = .ok (.getfield 154, 3) := by decide +kernel
theorem dX4_isEngine_8 : decode cX4_isEngine 8 = .ok (.iconst 1, 1) := by decide +kernel
theorem dX4_isEngine_9 : decode cX4_isEngine 9 = .ok (.if_icmp .ne 7, 3) := by decide +kernel
theorem dX4_isEngine_12 : decode cX4_isEngine 12 = .ok (.iconst 1, 1) := by decide +kernel
theorem dX4_isEngine_13 : decode cX4_isEngine 13 = .ok (.goto 4, 3) := by decide +kernel
theorem dX4_isEngine_16 : decode cX4_isEngine 16 = .ok (.iconst 0, 1) := by decide +kernel
theorem dX4_isEngine_17 : decode cX4_isEngine 17 = .ok (.ireturn, 1) := by decide +kernel
theorem dX4_tell_0 : decode cX4_tell 0 = .ok (.aload_n 0, 1) := by decide +kernel
theorem dX4_tell_1 : decode cX4_tell 1 = .ok (.getfield 15, 3) := by decide +kernel
theorem dX4_tell_4 : decode cX4_tell 4 = .ok (.iload_n 1, 1) := by decide +kernel
theorem dX4_tell_5 : decode cX4_tell 5 = .ok (.dup2, 1) := by decide +kernel
theorem dX4_tell_6 : decode cX4_tell 6 = .ok (.iaload, 1) := by decide +kernel
theorem dX4_tell_7 : decode cX4_tell 7 = .ok (.iconst 1, 1) := by decide +kernel
theorem dX4_tell_8 : decode cX4_tell 8 = .ok (.iadd, 1) := by decide +kernel
theorem dX4_tell_9 : decode cX4_tell 9 = .ok (.iastore, 1) := by decide +kernel
theorem dX4_tell_10 : decode cX4_tell 10 = .ok (.bipush (-10), 2) := by decide +kernel
theorem dX4_tell_12 : decode cX4_tell 12 = .ok (.iload_n 1, 1) := by decide +kernel
theorem dX4_tell_13 : decode cX4_tell 13 = .ok (.isub, 1) := by decide +kernel
theorem dX4_tell_14 : decode cX4_tell 14 = .ok (.ireturn, 1) := by decide +kernel
set_option maxRecDepth 20000 in
theorem ggX4_tellLevel_X4_tell : GoodIn wsX4_tellLevel wsX4_tell := goodIn_r _ [6, 7, 8, 9, 10, 11, 12, 13] (by decide +kernel) (by decide +kernel)
set_option maxRecDepth 20000 in
theorem gX4_tellLevel_X4_tell : GoodIn wsX4_tellLevel (wsV RX4 48 RX4 yX4_tell wsX4_tell) := goodIn_app (goodIn_of _ (by decide +kernel)) ggX4_tellLevel_X4_tell
theorem dX4_tellLevel_0 : decode cX4_tellLevel 0 = .ok (.aload_n 0, 1) := by decide +kernel
theorem dX4_tellLevel_1 : decode cX4_tellLevel 1 = .ok (.iload_n 2, 1) := by decide +kernel
theorem dX4_tellLevel_2 : decode cX4_tellLevel 2 = .ok (.putfield 110, 3) := by decide +kernel
theorem dX4_tellLevel_5 : decode cX4_tellLevel 5 = .ok (.aload_n 0, 1) := by decide +kernel
theorem dX4_tellLevel_6 : decode cX4_tellLevel 6 = .ok (.iload_n 1, 1) := by decide +kernel
theorem dX4_tellLevel_7 : decode cX4_tellLevel 7 = .ok (.invokevirtual 48, 3) := by decide +kernel
theorem dX4_tellLevel_10 : decode cX4_tellLevel 10 = .ok (.ireturn, 1) := by decide +kernel
set_option maxRecDepth 20000 in
theorem ggX4_whyNoRow_X4_isEngine : GoodIn wsX4_whyNoRow wsX4_isEngine := goodIn_r _ [5, 6, 7, 8, 9, 10, 11] (by decide +kernel) (by decide +kernel)
set_option maxRecDepth 20000 in
theorem gX4_whyNoRow_X4_isEngine : GoodIn wsX4_whyNoRow (va_wsS RX4 75 yX4_isEngine wsX4_isEngine) := goodIn_app (goodIn_of _ (by decide +kernel)) ggX4_whyNoRow_X4_isEngine
theorem dX4_whyNoRow_0 : decode cX4_whyNoRow 0 = .ok (.aload_n 0, 1) := by decide +kernel
theorem dX4_whyNoRow_1 : decode cX4_whyNoRow 1 = .ok (.invokestatic 75, 3) := by decide +kernel
theorem dX4_whyNoRow_4 : decode cX4_whyNoRow 4 = .ok (.ifCond .eq 5, 3) := by decide +kernel
theorem dX4_whyNoRow_7 : decode cX4_whyNoRow 7 = .ok (.iconst 2, 1) := by decide +kernel
theorem dX4_whyNoRow_8 : decode cX4_whyNoRow 8 = .ok (.ireturn, 1) := by decide +kernel
theorem dX4_whyNoRow_9 : decode cX4_whyNoRow 9 = .ok (.aload_n 0, 1) := by decide +kernel
theorem dX4_whyNoRow_10 : decode cX4_whyNoRow 10 = .ok (.ifnull 10, 3) := by decide +kernel
theorem dX4_whyNoRow_13 : decode cX4_whyNoRow 13 = .ok (.aload_n 0, 1) := by decide +kernel
theorem dX4_whyNoRow_14 : decode cX4_whyNoRow 14 = .ok (.getfield 79, 3) := by decide +kernel
theorem dX4_whyNoRow_17 : decode cX4_whyNoRow 17 = .ok (.ifnonnull 7, 3) := by decide +kernel
theorem dX4_whyNoRow_20 : decode cX4_whyNoRow 20 = .ok (.iconst 1, 1) := by decide +kernel
theorem dX4_whyNoRow_21 : decode cX4_whyNoRow 21 = .ok (.goto 4, 3) := by decide +kernel
theorem dX4_whyNoRow_24 : decode cX4_whyNoRow 24 = .ok (.iconst 0, 1) := by decide +kernel
theorem dX4_whyNoRow_25 : decode cX4_whyNoRow 25 = .ok (.ireturn, 1) := by decide +kernel
set_option maxRecDepth 20000 in
theorem ggX4_whyNoCrate_X4_whyNoRow : GoodIn wsX4_whyNoCrate wsX4_whyNoRow := goodIn_r _ [5, 1, 6, 7, 4, 8, 9, 10, 11, 12, 13, 14] (by decide +kernel) (by decide +kernel)
set_option maxRecDepth 20000 in
theorem gX4_whyNoCrate_X4_whyNoRow : GoodIn wsX4_whyNoCrate (va_wsS RX4 86 yX4_whyNoRow wsX4_whyNoRow) := goodIn_app (goodIn_of _ (by decide +kernel)) ggX4_whyNoCrate_X4_whyNoRow
theorem dX4_whyNoCrate_0 : decode cX4_whyNoCrate 0 = .ok (.aload_n 0, 1) := by decide +kernel
theorem dX4_whyNoCrate_1 : decode cX4_whyNoCrate 1 = .ok (.invokestatic 86, 3) := by decide +kernel
theorem dX4_whyNoCrate_4 : decode cX4_whyNoCrate 4 = .ok (.istore_n 2, 1) := by decide +kernel
theorem dX4_whyNoCrate_5 : decode cX4_whyNoCrate 5 = .ok (.iload_n 2, 1) := by decide +kernel
theorem dX4_whyNoCrate_6 : decode cX4_whyNoCrate 6 = .ok (.ifCond .eq 5, 3) := by decide +kernel
theorem dX4_whyNoCrate_9 : decode cX4_whyNoCrate 9 = .ok (.iload_n 2, 1) := by decide +kernel
theorem dX4_whyNoCrate_10 : decode cX4_whyNoCrate 10 = .ok (.ireturn, 1) := by decide +kernel
theorem dX4_whyNoCrate_11 : decode cX4_whyNoCrate 11 = .ok (.iload_n 1, 1) := by decide +kernel
theorem dX4_whyNoCrate_12 : decode cX4_whyNoCrate 12 = .ok (.ifCond .lt 16, 3) := by decide +kernel
theorem dX4_whyNoCrate_15 : decode cX4_whyNoCrate 15 = .ok (.iload_n 1, 1) := by decide +kernel
theorem dX4_whyNoCrate_16 : decode cX4_whyNoCrate 16 = .ok (.aload_n 0, 1) := by decide +kernel
theorem dX4_whyNoCrate_17 : decode cX4_whyNoCrate 17 = .ok (.getfield 79, 3) := by decide +kernel
theorem dX4_whyNoCrate_20 : decode cX4_whyNoCrate 20 = .ok (.arraylength, 1) := by decide +kernel
theorem dX4_whyNoCrate_21 : decode cX4_whyNoCrate 21 = .ok (.if_icmp .ge 7, 3) := by decide +kernel
theorem dX4_whyNoCrate_24 : decode cX4_whyNoCrate 24 = .ok (.iconst 0, 1) := by decide +kernel
theorem dX4_whyNoCrate_25 : decode cX4_whyNoCrate 25 = .ok (.goto 4, 3) := by decide +kernel
theorem dX4_whyNoCrate_28 : decode cX4_whyNoCrate 28 = .ok (.iconst 5, 1) := by decide +kernel
theorem dX4_whyNoCrate_29 : decode cX4_whyNoCrate 29 = .ok (.ireturn, 1) := by decide +kernel
theorem dX4_whyNoPlace_0 : decode cX4_whyNoPlace 0 = .ok (.aload_n 0, 1) := by decide +kernel
theorem dX4_whyNoPlace_1 : decode cX4_whyNoPlace 1 = .ok (.getfield 118, 3) := by decide +kernel
theorem dX4_whyNoPlace_4 : decode cX4_whyNoPlace 4 = .ok (.ifnonnull 5, 3) := by decide +kernel
theorem dX4_whyNoPlace_7 : decode cX4_whyNoPlace 7 = .ok (.iconst 1, 1) := by decide +kernel
theorem dX4_whyNoPlace_8 : decode cX4_whyNoPlace 8 = .ok (.ireturn, 1) := by decide +kernel
theorem dX4_whyNoPlace_9 : decode cX4_whyNoPlace 9 = .ok (.iload_n 1, 1) := by decide +kernel
theorem dX4_whyNoPlace_10 : decode cX4_whyNoPlace 10 = .ok (.ifCond .lt 19, 3) := by decide +kernel
theorem dX4_whyNoPlace_13 : decode cX4_whyNoPlace 13 = .ok (.iload_n 1, 1) := by decide +kernel
theorem dX4_whyNoPlace_14 : decode cX4_whyNoPlace 14 = .ok (.aload_n 0, 1) := by decide +kernel
theorem dX4_whyNoPlace_15 : decode cX4_whyNoPlace 15 = .ok (.getfield 118, 3) := by decide +kernel
theorem dX4_whyNoPlace_18 : decode cX4_whyNoPlace 18 = .ok (.getfield 122, 3) := by decide +kernel
theorem dX4_whyNoPlace_21 : decode cX4_whyNoPlace 21 = .ok (.arraylength, 1) := by decide +kernel
theorem dX4_whyNoPlace_22 : decode cX4_whyNoPlace 22 = .ok (.if_icmp .ge 7, 3) := by decide +kernel
theorem dX4_whyNoPlace_25 : decode cX4_whyNoPlace 25 = .ok (.iconst 0, 1) := by decide +kernel
theorem dX4_whyNoPlace_26 : decode cX4_whyNoPlace 26 = .ok (.goto 4, 3) := by decide +kernel
theorem dX4_whyNoPlace_29 : decode cX4_whyNoPlace 29 = .ok (.iconst 5, 1) := by decide +kernel
theorem dX4_whyNoPlace_30 : decode cX4_whyNoPlace 30 = .ok (.ireturn, 1) := by decide +kernel
theorem dX4_whyNoPlanRow_0 : decode cX4_whyNoPlanRow 0 = .ok (.aload_n 0, 1) := by decide +kernel
theorem dX4_whyNoPlanRow_1 : decode cX4_whyNoPlanRow 1 = .ok (.getfield 135, 3) := by decide +kernel
theorem dX4_whyNoPlanRow_4 : decode cX4_whyNoPlanRow 4 = .ok (.ifnonnull 5, 3) := by decide +kernel
theorem dX4_whyNoPlanRow_7 : decode cX4_whyNoPlanRow 7 = .ok (.iconst 1, 1) := by decide +kernel
theorem dX4_whyNoPlanRow_8 : decode cX4_whyNoPlanRow 8 = .ok (.ireturn, 1) := by decide +kernel
theorem dX4_whyNoPlanRow_9 : decode cX4_whyNoPlanRow 9 = .ok (.iload_n 1, 1) := by decide +kernel
theorem dX4_whyNoPlanRow_10 : decode cX4_whyNoPlanRow 10 = .ok (.ifCond .lt 18, 3) := by decide +kernel
theorem dX4_whyNoPlanRow_13 : decode cX4_whyNoPlanRow 13 = .ok (.iload_n 1, 1) := by decide +kernel
theorem dX4_whyNoPlanRow_14 : decode cX4_whyNoPlanRow 14 = .ok (.aload_n 0, 1) := by decide +kernel
theorem dX4_whyNoPlanRow_15 : decode cX4_whyNoPlanRow 15 = .ok (.getfield 135, 3) := by decide +kernel
theorem dX4_whyNoPlanRow_18 : decode cX4_whyNoPlanRow 18 = .ok (.getfield 157, 3) := by decide +kernel
theorem dX4_whyNoPlanRow_21 : decode cX4_whyNoPlanRow 21 = .ok (.if_icmp .ge 7, 3) := by decide +kernel
theorem dX4_whyNoPlanRow_24 : decode cX4_whyNoPlanRow 24 = .ok (.iconst 0, 1) := by decide +kernel
theorem dX4_whyNoPlanRow_25 : decode cX4_whyNoPlanRow 25 = .ok (.goto 4, 3) := by decide +kernel
theorem dX4_whyNoPlanRow_28 : decode cX4_whyNoPlanRow 28 = .ok (.iconst 5, 1) := by decide +kernel
theorem dX4_whyNoPlanRow_29 : decode cX4_whyNoPlanRow 29 = .ok (.ireturn, 1) := by decide +kernel
set_option maxRecDepth 20000 in
theorem ggX4_whyNoNumber_X4_whyNoPlanRow : GoodIn wsX4_whyNoNumber wsX4_whyNoPlanRow := goodIn_r _ [7, 1, 8, 9, 10, 11, 12, 13, 14, 15, 16, 17] (by decide +kernel) (by decide +kernel)
set_option maxRecDepth 20000 in
theorem gX4_whyNoNumber_X4_whyNoPlanRow : GoodIn wsX4_whyNoNumber (wsV RX4 148 RX4 yX4_whyNoPlanRow wsX4_whyNoPlanRow) := goodIn_app (goodIn_of _ (by decide +kernel)) ggX4_whyNoNumber_X4_whyNoPlanRow
theorem dX4_whyNoNumber_0 : decode cX4_whyNoNumber 0 = .ok (.aload_n 0, 1) := by decide +kernel
theorem dX4_whyNoNumber_1 : decode cX4_whyNoNumber 1 = .ok (.iload_n 1, 1) := by decide +kernel
theorem dX4_whyNoNumber_2 : decode cX4_whyNoNumber 2 = .ok (.invokevirtual 148, 3) := by decide +kernel
theorem dX4_whyNoNumber_5 : decode cX4_whyNoNumber 5 = .ok (.istore_n 3, 1) := by decide +kernel
theorem dX4_whyNoNumber_6 : decode cX4_whyNoNumber 6 = .ok (.iload_n 3, 1) := by decide +kernel
theorem dX4_whyNoNumber_7 : decode cX4_whyNoNumber 7 = .ok (.ifCond .eq 5, 3) := by decide +kernel
theorem dX4_whyNoNumber_10 : decode cX4_whyNoNumber 10 = .ok (.iload_n 3, 1) := by decide +kernel
theorem dX4_whyNoNumber_11 : decode cX4_whyNoNumber 11 = .ok (.ireturn, 1) := by decide +kernel
theorem dX4_whyNoNumber_12 : decode cX4_whyNoNumber 12 = .ok (.iload_n 2, 1) := by decide +kernel
theorem dX4_whyNoNumber_13 : decode cX4_whyNoNumber 13 = .ok (.ifCond .lt 18, 3) := by decide +kernel
theorem dX4_whyNoNumber_16 : decode cX4_whyNoNumber 16 = .ok (.iload_n 2, 1) := by decide +kernel
theorem dX4_whyNoNumber_17 : decode cX4_whyNoNumber 17 = .ok (.aload_n 0, 1) := by decide +kernel
theorem dX4_whyNoNumber_18 : decode cX4_whyNoNumber 18 = .ok (.getfield 135, 3) := by decide +kernel
theorem dX4_whyNoNumber_21 : decode cX4_whyNoNumber 21 = .ok (.getfield 151, 3) := by decide +kernel
theorem dX4_whyNoNumber_24 : decode cX4_whyNoNumber 24 = .ok (.if_icmp .ge 7, 3) := by decide +kernel
theorem dX4_whyNoNumber_27 : decode cX4_whyNoNumber 27 = .ok (.iconst 0, 1) := by decide +kernel
theorem dX4_whyNoNumber_28 : decode cX4_whyNoNumber 28 = .ok (.goto 4, 3) := by decide +kernel
theorem dX4_whyNoNumber_31 : decode cX4_whyNoNumber 31 = .ok (.iconst 5, 1) := by decide +kernel
theorem dX4_whyNoNumber_32 : decode cX4_whyNoNumber 32 = .ok (.ireturn, 1) := by decide +kernel
theorem dX5_init_0 : decode cX5_init 0 = .ok (.aload_n 0, 1) := by decide +kernel
theorem dX5_init_1 : decode cX5_init 1 = .ok (.invokespecial 1, 3) := by decide +kernel
theorem dX5_init_4 : decode cX5_init 4 = .ok (.aload_n 0, 1) := by decide +kernel
theorem dX5_init_5 : decode cX5_init 5 = .ok (.sipush 600, 3) := by decide +kernel
theorem dX5_init_8 : decode cX5_init 8 = .ok (.newarray .int, 2) := by decide +kernel
theorem dX5_init_10 : decode cX5_init 10 = .ok (.putfield 7, 3) := by decide +kernel
theorem dX5_init_13 : decode cX5_init 13 = .ok (.aload_n 0, 1) := by decide +kernel
theorem dX5_init_14 : decode cX5_init 14 = .ok (.sipush 600, 3) := by decide +kernel
theorem dX5_init_17 : decode cX5_init 17 = .ok (.newarray .int, 2) := by decide +kernel
theorem dX5_init_19 : decode cX5_init 19 = .ok (.putfield 13, 3) := by decide +kernel
theorem dX5_init_22 : decode cX5_init 22 = .ok (.aload_n 0, 1) := by decide +kernel
theorem dX5_init_23 : decode cX5_init 23 = .ok (.sipush 600, 3) := by decide +kernel
theorem dX5_init_26 : decode cX5_init 26 = .ok (.newarray .int, 2) := by decide +kernel
theorem dX5_init_28 : decode cX5_init 28 = .ok (.putfield 16, 3) := by decide +kernel
theorem dX5_init_31 : decode cX5_init 31 = .ok (.aload_n 0, 1) := by decide +kernel
theorem dX5_init_32 : decode cX5_init 32 = .ok (.sipush 600, 3) := by decide +kernel
theorem dX5_init_35 : decode cX5_init 35 = .ok (.newarray .int, 2) := by decide +kernel
theorem dX5_init_37 : decode cX5_init 37 = .ok (.putfield 19, 3) := by decide +kernel
theorem dX5_init_40 : decode cX5_init 40 = .ok (.aload_n 0, 1) := by decide +kernel
theorem dX5_init_41 : decode cX5_init 41 = .ok (.sipush 7200, 3) := by decide +kernel
theorem dX5_init_44 : decode cX5_init 44 = .ok (.newarray .int, 2) := by decide +kernel
theorem dX5_init_46 : decode cX5_init 46 = .ok (.putfield 22, 3) := by decide +kernel
theorem dX5_init_49 : decode cX5_init 49 = .ok (.aload_n 0, 1) := by decide +kernel
theorem dX5_init_50 : decode cX5_init 50 = .ok (.sipush 600, 3) := by decide +kernel
theorem dX5_init_53 : decode cX5_init 53 = .ok (.newarray .int, 2) := by decide +kernel
theorem dX5_init_55 : decode cX5_init 55 = .ok (.putfield 25, 3) := by decide +kernel
theorem dX5_init_58 : decode cX5_init 58 = .ok (.aload_n 0, 1) := by decide +kernel
theorem dX5_init_59 : decode cX5_init 59 = .ok (.sipush 600, 3) := by decide +kernel
theorem dX5_init_62 : decode cX5_init 62 = .ok (.newarray .boolean, 2) := by decide +kernel
theorem dX5_init_64 : decode cX5_init 64 = .ok (.putfield 28, 3) := by decide +kernel
theorem dX5_init_67 : decode cX5_init 67 = .ok (.aload_n 0, 1) := by decide +kernel
theorem dX5_init_68 : decode cX5_init 68 = .ok (.bipush 6, 2) := by decide +kernel
theorem dX5_init_70 : decode cX5_init 70 = .ok (.newarray .int, 2) := by decide +kernel
theorem dX5_init_72 : decode cX5_init 72 = .ok (.dup, 1) := by decide +kernel
theorem dX5_init_73 : decode cX5_init 73 = .ok (.iconst 0, 1) := by decide +kernel
theorem dX5_init_74 : decode cX5_init 74 = .ok (.iconst (-1), 1) := by decide +kernel
theorem dX5_init_75 : decode cX5_init 75 = .ok (.iastore, 1) := by decide +kernel
theorem dX5_init_76 : decode cX5_init 76 = .ok (.dup, 1) := by decide +kernel
theorem dX5_init_77 : decode cX5_init 77 = .ok (.iconst 1, 1) := by decide +kernel
theorem dX5_init_78 : decode cX5_init 78 = .ok (.iconst (-1), 1) := by decide +kernel
theorem dX5_init_79 : decode cX5_init 79 = .ok (.iastore, 1) := by decide +kernel
theorem dX5_init_80 : decode cX5_init 80 = .ok (.dup, 1) := by decide +kernel
theorem dX5_init_81 : decode cX5_init 81 = .ok (.iconst 2, 1) := by decide +kernel
theorem dX5_init_82 : decode cX5_init 82 = .ok (.iconst (-1), 1) := by decide +kernel
theorem dX5_init_83 : decode cX5_init 83 = .ok (.iastore, 1) := by decide +kernel
theorem dX5_init_84 : decode cX5_init 84 = .ok (.dup, 1) := by decide +kernel
theorem dX5_init_85 : decode cX5_init 85 = .ok (.iconst 3, 1) := by decide +kernel
theorem dX5_init_86 : decode cX5_init 86 = .ok (.iconst (-1), 1) := by decide +kernel
theorem dX5_init_87 : decode cX5_init 87 = .ok (.iastore, 1) := by decide +kernel
theorem dX5_init_88 : decode cX5_init 88 = .ok (.dup, 1) := by decide +kernel
theorem dX5_init_89 : decode cX5_init 89 = .ok (.iconst 4, 1) := by decide +kernel
theorem dX5_init_90 : decode cX5_init 90 = .ok (.iconst (-1), 1) := by decide +kernel
theorem dX5_init_91 : decode cX5_init 91 = .ok (.iastore, 1) := by decide +kernel
theorem dX5_init_92 : decode cX5_init 92 = .ok (.dup, 1) := by decide +kernel
theorem dX5_init_93 : decode cX5_init 93 = .ok (.iconst 5, 1) := by decide +kernel
theorem dX5_init_94 : decode cX5_init 94 = .ok (.iconst (-1), 1) := by decide +kernel
theorem dX5_init_95 : decode cX5_init 95 = .ok (.iastore, 1) := by decide +kernel
theorem dX5_init_96 : decode cX5_init 96 = .ok (.putfield 32, 3) := by decide +kernel
theorem dX5_init_99 : decode cX5_init 99 = .ok (.aload_n 0, 1) := by decide +kernel
theorem dX5_init_100 : decode cX5_init 100 = .ok (.iconst (-1), 1) := by decide +kernel
theorem dX5_init_101 : decode cX5_init 101 = .ok (.putfield 35, 3) := by decide +kernel
theorem dX5_init_104 : decode cX5_init 104 = .ok (.aload_n 0, 1) := by decide +kernel
theorem dX5_init_105 : decode cX5_init 105 = .ok (.bipush 12, 2) := by decide +kernel
theorem dX5_init_107 : decode cX5_init 107 = .ok (.newarray .int, 2) := by decide +kernel
theorem dX5_init_109 : decode cX5_init 109 = .ok (.putfield 39, 3) := by decide +kernel
theorem dX5_init_112 : decode cX5_init 112 = .ok (.aload_n 0, 1) := by decide +kernel
theorem dX5_init_113 : decode cX5_init 113 = .ok (.iconst (-1), 1) := by decide +kernel
theorem dX5_init_114 : decode cX5_init 114 = .ok (.putfield 42, 3) := by decide +kernel
theorem dX5_init_117 : decode cX5_init 117 = .ok (.aload_n 0, 1) := by decide +kernel
theorem dX5_init_118 : decode cX5_init 118 = .ok (.sipush 144, 3) := by decide +kernel
theorem dX5_init_121 : decode cX5_init 121 = .ok (.newarray .int, 2) := by decide +kernel
theorem dX5_init_123 : decode cX5_init 123 = .ok (.putfield 45, 3) := by decide +kernel
theorem dX5_init_126 : decode cX5_init 126 = .ok (.aload_n 0, 1) := by decide +kernel
theorem dX5_init_127 : decode cX5_init 127 = .ok (.bipush 8, 2) := by decide +kernel
theorem dX5_init_129 : decode cX5_init 129 = .ok (.newarray .int, 2) := by decide +kernel
theorem dX5_init_131 : decode cX5_init 131 = .ok (.putfield 48, 3) := by decide +kernel
theorem dX5_init_134 : decode cX5_init 134 = .ok (.return_, 1) := by decide +kernel
theorem dX5_in_0 : decode cX5_in 0 = .ok (.iload_n 0, 1) := by decide +kernel
theorem dX5_in_1 : decode cX5_in 1 = .ok (.iload_n 1, 1) := by decide +kernel
theorem dX5_in_2 : decode cX5_in 2 = .ok (.if_icmp .lt 12, 3) := by decide +kernel
theorem dX5_in_5 : decode cX5_in 5 = .ok (.iload_n 0, 1) := by decide +kernel
theorem dX5_in_6 : decode cX5_in 6 = .ok (.iload_n 2, 1) := by decide +kernel
theorem dX5_in_7 : decode cX5_in 7 = .ok (.if_icmp .gt 7, 3) := by decide +kernel
theorem dX5_in_10 : decode cX5_in 10 = .ok (.iconst 1, 1) := by decide +kernel
theorem dX5_in_11 : decode cX5_in 11 = .ok (.goto 4, 3) := by decide +kernel
theorem dX5_in_14 : decode cX5_in 14 = .ok (.iconst 0, 1) := by decide +kernel
theorem dX5_in_15 : decode cX5_in 15 = .ok (.ireturn, 1) := by decide +kernel
set_option maxRecDepth 20000 in
theorem ggX5_isTrack_X5_in : GoodIn wsX5_isTrack wsX5_in := goodIn_r _ [4] (by decide +kernel) (by decide +kernel)
set_option maxRecDepth 20000 in
theorem gX5_isTrack_X5_in : GoodIn wsX5_isTrack (va_wsS RX5 51 yX5_in wsX5_in) := goodIn_app (goodIn_of _ (by decide +kernel)) ggX5_isTrack_X5_in
theorem dX5_isTrack_0 : decode cX5_isTrack 0 = .ok (.iload_n 0, 1) := by decide +kernel
theorem dX5_isTrack_1 : decode cX5_isTrack 1 = .ok (.iconst 0, 1) := by decide +kernel
theorem dX5_isTrack_2 : decode cX5_isTrack 2 = .ok (.iconst 5, 1) := by decide +kernel
theorem dX5_isTrack_3 : decode cX5_isTrack 3 = .ok (.invokestatic 51, 3) := by decide +kernel
theorem dX5_isTrack_6 : decode cX5_isTrack 6 = .ok (.ireturn, 1) := by decide +kernel
theorem dX5_no_0 : decode cX5_no 0 = .ok (.aload_n 0, 1) := by decide +kernel
theorem dX5_no_1 : decode cX5_no 1 = .ok (.getfield 48, 3) := by decide +kernel
theorem dX5_no_4 : decode cX5_no 4 = .ok (.iload_n 1, 1) := by decide +kernel
theorem dX5_no_5 : decode cX5_no 5 = .ok (.dup2, 1) := by decide +kernel
theorem dX5_no_6 : decode cX5_no 6 = .ok (.iaload, 1) := by decide +kernel
theorem dX5_no_7 : decode cX5_no 7 = .ok (.iconst 1, 1) := by decide +kernel
theorem dX5_no_8 : decode cX5_no 8 = .ok (.iadd, 1) := by decide +kernel
theorem dX5_no_9 : decode cX5_no 9 = .ok (.iastore, 1) := by decide +kernel
theorem dX5_no_10 : decode cX5_no 10 = .ok (.bipush (-10), 2) := by decide +kernel
theorem dX5_no_12 : decode cX5_no 12 = .ok (.iload_n 1, 1) := by decide +kernel
theorem dX5_no_13 : decode cX5_no 13 = .ok (.isub, 1) := by decide +kernel
theorem dX5_no_14 : decode cX5_no 14 = .ok (.ireturn, 1) := by decide +kernel
theorem dX5_countOf_0 : decode cX5_countOf 0 = .ok (.iconst 0, 1) := by decide +kernel
theorem dX5_countOf_1 : decode cX5_countOf 1 = .ok (.istore_n 2, 1) := by decide +kernel
theorem dX5_countOf_2 : decode cX5_countOf 2 = .ok (.aload_n 0, 1) := by decide +kernel
theorem dX5_countOf_3 : decode cX5_countOf 3 = .ok (.getfield 32, 3) := by decide +kernel
theorem dX5_countOf_6 : decode cX5_countOf 6 = .ok (.iload_n 1, 1) := by decide +kernel
theorem dX5_countOf_7 : decode cX5_countOf 7 = .ok (.iaload, 1) := by decide +kernel
theorem dX5_countOf_8 : decode cX5_countOf 8 = .ok (.istore_n 3, 1) := by decide +kernel
theorem dX5_countOf_9 : decode cX5_countOf 9 = .ok (.iload_n 3, 1) := by decide +kernel
theorem dX5_countOf_10 : decode cX5_countOf 10 = .ok (.iconst (-1), 1) := by decide +kernel
theorem dX5_countOf_11 : decode cX5_countOf 11 = .ok (.if_icmp .eq 16, 3) := by decide +kernel
theorem dX5_countOf_14 : decode cX5_countOf 14 = .ok (.iinc 2 1, 3) := by decide +kernel
theorem dX5_countOf_17 : decode cX5_countOf 17 = .ok (.aload_n 0, 1) := by decide +kernel
theorem dX5_countOf_18 : decode cX5_countOf 18 = .ok (.getfield 25, 3) := by decide +kernel
theorem dX5_countOf_21 : decode cX5_countOf 21 = .ok (.iload_n 3, 1) := by decide +kernel
theorem dX5_countOf_22 : decode cX5_countOf 22 = .ok (.iaload, 1) := by decide +kernel
theorem dX5_countOf_23 : decode cX5_countOf 23 = .ok (.istore_n 3, 1) := by decide +kernel
theorem dX5_countOf_24 : decode cX5_countOf 24 = .ok (.goto (-15), 3) := by decide +kernel
theorem dX5_countOf_27 : decode cX5_countOf 27 = .ok (.iload_n 2, 1) := by decide +kernel
theorem dX5_countOf_28 : decode cX5_countOf 28 = .ok (.ireturn, 1) := by decide +kernel
theorem dX5_at_0 : decode cX5_at 0 = .ok (.aload_n 0, 1) := by decide +kernel
theorem dX5_at_1 : decode cX5_at 1 = .ok (.getfield 32, 3) := by decide +kernel
theorem dX5_at_4 : decode cX5_at 4 = .ok (.iload_n 1, 1) := by decide +kernel
theorem dX5_at_5 : decode cX5_at 5 = .ok (.iaload, 1) := by decide +kernel
theorem dX5_at_6 : decode cX5_at 6 = .ok (.istore_n 3, 1) := by decide +kernel
theorem dX5_at_7 : decode cX5_at 7 = .ok (.iload_n 2, 1) := by decide +kernel
theorem dX5_at_8 : decode cX5_at 8 = .ok (.istore 4, 2) := by decide +kernel
theorem dX5_at_10 : decode cX5_at 10 = .ok (.iload_n 3, 1) := by decide +kernel
theorem dX5_at_11 : decode cX5_at 11 = .ok (.iconst (-1), 1) := by decide +kernel
theorem dX5_at_12 : decode cX5_at 12 = .ok (.if_icmp .eq 21, 3) := by decide +kernel
theorem dX5_at_15 : decode cX5_at 15 = .ok (.iload 4, 2) := by decide +kernel
theorem dX5_at_17 : decode cX5_at 17 = .ok (.ifCond .le 16, 3) := by decide +kernel
theorem dX5_at_20 : decode cX5_at 20 = .ok (.aload_n 0, 1) := by decide +kernel
theorem dX5_at_21 : decode cX5_at 21 = .ok (.getfield 25, 3) := by decide +kernel
theorem dX5_at_24 : decode cX5_at 24 = .ok (.iload_n 3, 1) := by decide +kernel
theorem dX5_at_25 : decode cX5_at 25 = .ok (.iaload, 1) := by decide +kernel
theorem dX5_at_26 : decode cX5_at 26 = .ok (.istore_n 3, 1) := by decide +kernel
theorem dX5_at_27 : decode cX5_at 27 = .ok (.iinc 4 (-1), 3) := by decide +kernel
theorem dX5_at_30 : decode cX5_at 30 = .ok (.goto (-20), 3) := by decide +kernel
theorem dX5_at_33 : decode cX5_at 33 = .ok (.iload_n 3, 1) := by decide +kernel
theorem dX5_at_34 : decode cX5_at 34 = .ok (.ireturn, 1) := by decide +kernel
theorem dX5_loadOf_0 : decode cX5_loadOf 0 = .ok (.aload_n 0, 1) := by decide +kernel
theorem dX5_loadOf_1 : decode cX5_loadOf 1 = .ok (.getfield 13, 3) := by decide +kernel
theorem dX5_loadOf_4 : decode cX5_loadOf 4 = .ok (.iload_n 1, 1) := by decide +kernel
theorem dX5_loadOf_5 : decode cX5_loadOf 5 = .ok (.iaload, 1) := by decide +kernel
theorem dX5_loadOf_6 : decode cX5_loadOf 6 = .ok (.istore_n 2, 1) := by decide +kernel
theorem dX5_loadOf_7 : decode cX5_loadOf 7 = .ok (.iconst 0, 1) := by decide +kernel
theorem dX5_loadOf_8 : decode cX5_loadOf 8 = .ok (.istore_n 3, 1) := by decide +kernel
theorem dX5_loadOf_9 : decode cX5_loadOf 9 = .ok (.iload_n 3, 1) := by decide +kernel
theorem dX5_loadOf_10 : decode cX5_loadOf 10 = .ok (.aload_n 0, 1) := by decide +kernel
theorem dX5_loadOf_11 : decode cX5_loadOf 11 = .ok (.getfield 19, 3) := by decide +kernel
theorem dX5_loadOf_14 : decode cX5_loadOf 14 = .ok (.iload_n 1, 1) := by decide +kernel
theorem dX5_loadOf_15 : decode cX5_loadOf 15 = .ok (.iaload, 1) := by decide +kernel
theorem dX5_loadOf_16 : decode cX5_loadOf 16 = .ok (.if_icmp .ge 23, 3) := by decide +kernel
theorem dX5_loadOf_19 : decode cX5_loadOf 19 = .ok (.iload_n 2, 1) := by decide +kernel
theorem dX5_loadOf_20 : decode cX5_loadOf 20 = .ok (.aload_n 0, 1) := by decide +kernel
theorem dX5_loadOf_21 : decode cX5_loadOf 21 = .ok (.getfield 22, 3) := by decide +kernel
theorem dX5_loadOf_24 : decode cX5_loadOf 24 = .ok (.bipush 12, 2) := by decide +kernel
theorem dX5_loadOf_26 : decode cX5_loadOf 26 = .ok (.iload_n 1, 1) := by decide +kernel
theorem dX5_loadOf_27 : decode cX5_loadOf 27 = .ok (.imul, 1) := by decide +kernel
theorem dX5_loadOf_28 : decode cX5_loadOf 28 = .ok (.iload_n 3, 1) := by decide +kernel
theorem dX5_loadOf_29 : decode cX5_loadOf 29 = .ok (.iadd, 1) := by decide +kernel
theorem dX5_loadOf_30 : decode cX5_loadOf 30 = .ok (.iaload, 1) := by decide +kernel
theorem dX5_loadOf_31 : decode cX5_loadOf 31 = .ok (.iadd, 1) := by decide +kernel
theorem dX5_loadOf_32 : decode cX5_loadOf 32 = .ok (.istore_n 2, 1) := by decide +kernel
theorem dX5_loadOf_33 : decode cX5_loadOf 33 = .ok (.iinc 3 1, 3) := by decide +kernel
theorem dX5_loadOf_36 : decode cX5_loadOf 36 = .ok (.goto (-27), 3) := by decide +kernel
theorem dX5_loadOf_39 : decode cX5_loadOf 39 = .ok (.iload_n 2, 1) := by decide +kernel
theorem dX5_loadOf_40 : decode cX5_loadOf 40 = .ok (.ireturn, 1) := by decide +kernel
set_option maxRecDepth 20000 in
theorem ggX5_place_X5_isTrack : GoodIn wsX5_place wsX5_isTrack := goodIn_r _ [11, 12, 13, 10, 14] (by decide +kernel) (by decide +kernel)
set_option maxRecDepth 20000 in
theorem gX5_place_X5_isTrack : GoodIn wsX5_place (va_wsS RX5 55 yX5_isTrack wsX5_isTrack) := goodIn_app (goodIn_of _ (by decide +kernel)) ggX5_place_X5_isTrack
set_option maxRecDepth 20000 in
theorem ggX5_place_X5_in : GoodIn wsX5_place wsX5_in := goodIn_r _ [14] (by decide +kernel) (by decide +kernel)
set_option maxRecDepth 20000 in
theorem gX5_place_X5_in : GoodIn wsX5_place (va_wsS RX5 51 yX5_in wsX5_in) := goodIn_app (goodIn_of _ (by decide +kernel)) ggX5_place_X5_in
set_option maxRecDepth 20000 in
theorem ggX5_place_X5_countOf : GoodIn wsX5_place wsX5_countOf := goodIn_r _ [18, 7, 6, 19, 20, 21, 22, 23, 24, 25, 26, 27, 28, 29, 30, 31, 32, 33, 34] (by decide +kernel) (by decide +kernel)
set_option maxRecDepth 20000 in
theorem gX5_place_X5_countOf : GoodIn wsX5_place (wsV RX5 59 RX5 yX5_countOf wsX5_countOf) := goodIn_app (goodIn_of _ (by decide +kernel)) ggX5_place_X5_countOf
theorem dX5_place_0 : decode cX5_place 0 = .ok (.iload_n 1, 1) := by decide +kernel
theorem dX5_place_1 : decode cX5_place 1 = .ok (.invokestatic 55, 3) := by decide +kernel
theorem dX5_place_4 : decode cX5_place 4 = .ok (.ifCond .eq 23, 3) := by decide +kernel
theorem dX5_place_7 : decode cX5_place 7 = .ok (.iload_n 2, 1) := by decide +kernel
theorem dX5_place_8 : decode cX5_place 8 = .ok (.iconst 1, 1) := by decide +kernel
theorem dX5_place_9 : decode cX5_place 9 = .ok (.iconst 3, 1) := by decide +kernel
theorem dX5_place_10 : decode cX5_place 10 = .ok (.invokestatic 51, 3) := by decide +kernel
theorem dX5_place_13 : decode cX5_place 13 = .ok (.ifCond .eq 14, 3) := by decide +kernel
theorem dX5_place_16 : decode cX5_place 16 = .ok (.iload_n 3, 1) := by decide +kernel
theorem dX5_place_17 : decode cX5_place 17 = .ok (.iconst 1, 1) := by decide +kernel
theorem dX5_place_18 : decode cX5_place 18 = .ok (.sipush 1000, 3) := by decide +kernel
theorem dX5_place_21 : decode cX5_place 21 = .ok (.invokestatic 51, 3) := by decide +kernel
theorem dX5_place_24 : decode cX5_place 24 = .ok (.ifCond .ne 5, 3) := by decide +kernel
theorem dX5_place_27 : decode cX5_place 27 = .ok (.iconst (-1), 1) := by decide +kernel
theorem dX5_place_28 : decode cX5_place 28 = .ok (.ireturn, 1) := by decide +kernel
theorem dX5_place_29 : decode cX5_place 29 = .ok (.iconst 0, 1) := by decide +kernel
theorem dX5_place_30 : decode cX5_place 30 = .ok (.istore 4, 2) := by decide +kernel
theorem dX5_place_32 : decode cX5_place 32 = .ok (.aload_n 0, 1) := by decide +kernel
theorem dX5_place_33 : decode cX5_place 33 = .ok (.getfield 28, 3) := by decide +kernel
theorem dX5_place_36 : decode cX5_place 36 = .ok (.iload 4, 2) := by decide +kernel
theorem dX5_place_38 : decode cX5_place 38 = .ok (.baload, 1) := by decide +kernel
theorem dX5_place_39 : decode cX5_place 39 = .ok (.ifCond .eq 9, 3) := by decide +kernel
theorem dX5_place_42 : decode cX5_place 42 = .ok (.iinc 4 1, 3) := by decide +kernel
theorem dX5_place_45 : decode cX5_place 45 = .ok (.goto (-13), 3) := by decide +kernel
theorem dX5_place_48 : decode cX5_place 48 = .ok (.aload_n 0, 1) := by decide +kernel
theorem dX5_place_49 : decode cX5_place 49 = .ok (.getfield 28, 3) := by decide +kernel
theorem dX5_place_52 : decode cX5_place 52 = .ok (.iload 4, 2) := by decide +kernel
theorem dX5_place_54 : decode cX5_place 54 = .ok (.iconst 1, 1) := by decide +kernel
theorem dX5_place_55 : decode cX5_place 55 = .ok (.bastore, 1) := by decide +kernel
theorem dX5_place_56 : decode cX5_place 56 = .ok (.aload_n 0, 1) := by decide +kernel
theorem dX5_place_57 : decode cX5_place 57 = .ok (.getfield 7, 3) := by decide +kernel
theorem dX5_place_60 : decode cX5_place 60 = .ok (.iload 4, 2) := by decide +kernel
theorem dX5_place_62 : decode cX5_place 62 = .ok (.iload_n 2, 1) := by decide +kernel
theorem dX5_place_63 : decode cX5_place 63 = .ok (.iastore, 1) := by decide +kernel
theorem dX5_place_64 : decode cX5_place 64 = .ok (.aload_n 0, 1) := by decide +kernel
theorem dX5_place_65 : decode cX5_place 65 = .ok (.getfield 13, 3) := by decide +kernel
theorem dX5_place_68 : decode cX5_place 68 = .ok (.iload 4, 2) := by decide +kernel
theorem dX5_place_70 : decode cX5_place 70 = .ok (.iload_n 3, 1) := by decide +kernel
theorem dX5_place_71 : decode cX5_place 71 = .ok (.iastore, 1) := by decide +kernel
theorem dX5_place_72 : decode cX5_place 72 = .ok (.aload_n 0, 1) := by decide +kernel
theorem dX5_place_73 : decode cX5_place 73 = .ok (.getfield 16, 3) := by decide +kernel
theorem dX5_place_76 : decode cX5_place 76 = .ok (.iload 4, 2) := by decide +kernel
theorem dX5_place_78 : decode cX5_place 78 = .ok (.iconst 0, 1) := by decide +kernel
theorem dX5_place_79 : decode cX5_place 79 = .ok (.iastore, 1) := by decide +kernel
theorem dX5_place_80 : decode cX5_place 80 = .ok (.aload_n 0, 1) := by decide +kernel
theorem dX5_place_81 : decode cX5_place 81 = .ok (.getfield 19, 3) := by decide +kernel
theorem dX5_place_84 : decode cX5_place 84 = .ok (.iload 4, 2) := by decide +kernel
theorem dX5_place_86 : decode cX5_place 86 = .ok (.iconst (-1), 1) := by decide +kernel
theorem dX5_place_87 : decode cX5_place 87 = .ok (.iastore, 1) := by decide +kernel
theorem dX5_place_88 : decode cX5_place 88 = .ok (.aload_n 0, 1) := by decide +kernel
theorem dX5_place_89 : decode cX5_place 89 = .ok (.getfield 25, 3) := by decide +kernel
theorem dX5_place_92 : decode cX5_place 92 = .ok (.iload 4, 2) := by decide +kernel
theorem dX5_place_94 : decode cX5_place 94 = .ok (.aload_n 0, 1) := by decide +kernel
theorem dX5_place_95 : decode cX5_place 95 = .ok (.getfield 32, 3) := by decide +kernel
theorem dX5_place_98 : decode cX5_place 98 = .ok (.iload_n 1, 1) := by decide +kernel
theorem dX5_place_99 : decode cX5_place 99 = .ok (.iaload, 1) := by decide +kernel
theorem dX5_place_100 : decode cX5_place 100 = .ok (.iastore, 1) := by decide +kernel
theorem dX5_place_101 : decode cX5_place 101 = .ok (.aload_n 0, 1) := by decide +kernel
theorem dX5_place_102 : decode cX5_place 102 = .ok (.getfield 32, 3) := by decide +kernel
theorem dX5_place_105 : decode cX5_place 105 = .ok (.iload_n 1, 1) := by decide +kernel
theorem dX5_place_106 : decode cX5_place 106 = .ok (.iload 4, 2) := by decide +kernel
theorem dX5_place_108 : decode cX5_place 108 = .ok (.iastore, 1) := by decide +kernel
theorem dX5_place_109 : decode cX5_place 109 = .ok (.aload_n 0, 1) := by decide +kernel
theorem dX5_place_110 : decode cX5_place 110 = .ok (.iload_n 1, 1) := by decide +kernel
theorem dX5_place_111 : decode cX5_place 111 = .ok (.invokevirtual 59, 3) := by decide +kernel
theorem dX5_place_114 : decode cX5_place 114 = .ok (.ireturn, 1) := by decide +kernel
set_option maxRecDepth 20000 in
theorem ggX5_take_X5_isTrack : GoodIn wsX5_take wsX5_isTrack := goodIn_r _ [7, 8, 9, 6, 10] (by decide +kernel) (by decide +kernel)
set_option maxRecDepth 20000 in
theorem gX5_take_X5_isTrack : GoodIn wsX5_take (va_wsS RX5 55 yX5_isTrack wsX5_isTrack) := goodIn_app (goodIn_of _ (by decide +kernel)) ggX5_take_X5_isTrack
set_option maxRecDepth 20000 in
theorem ggX5_take_X5_no : GoodIn wsX5_take wsX5_no := goodIn_r _ [14, 15, 23, 24, 25, 26, 27, 28, 29, 30, 31, 32, 33, 34, 35, 36, 37, 38] (by decide +kernel) (by decide +kernel)
set_option maxRecDepth 20000 in
theorem gX5_take_X5_no : GoodIn wsX5_take (wsV RX5 63 RX5 yX5_no wsX5_no) := goodIn_app (goodIn_of _ (by decide +kernel)) ggX5_take_X5_no
set_option maxRecDepth 20000 in
theorem ggX5_take_X5_loadOf : GoodIn wsX5_take wsX5_loadOf := goodIn_r _ [19, 20, 21, 22, 23, 24, 25, 26, 27, 28, 29, 30, 31, 32, 33, 34, 35, 36, 37, 38] (by decide +kernel) (by decide +kernel)
set_option maxRecDepth 20000 in
theorem gX5_take_X5_loadOf : GoodIn wsX5_take (wsV RX5 66 RX5 yX5_loadOf wsX5_loadOf) := goodIn_app (goodIn_of _ (by decide +kernel)) ggX5_take_X5_loadOf
theorem dX5_take_0 : decode cX5_take 0 = .ok (.iload_n 1, 1) := by decide +kernel
theorem dX5_take_1 : decode cX5_take 1 = .ok (.invokestatic 55, 3) := by decide +kernel
theorem dX5_take_4 : decode cX5_take 4 = .ok (.ifCond .ne 5, 3) := by decide +kernel
theorem dX5_take_7 : decode cX5_take 7 = .ok (.iconst (-1), 1) := by decide +kernel
theorem dX5_take_8 : decode cX5_take 8 = .ok (.ireturn, 1) := by decide +kernel
theorem dX5_take_9 : decode cX5_take 9 = .ok (.aload_n 0, 1) := by decide +kernel
theorem dX5_take_10 : decode cX5_take 10 = .ok (.getfield 32, 3) := by decide +kernel
theorem dX5_take_13 : decode cX5_take 13 = .ok (.iload_n 1, 1) := by decide +kernel
theorem dX5_take_14 : decode cX5_take 14 = .ok (.iaload, 1) := by decide +kernel
theorem dX5_take_15 : decode cX5_take 15 = .ok (.istore_n 2, 1) := by decide +kernel
theorem dX5_take_16 : decode cX5_take 16 = .ok (.iload_n 2, 1) := by decide +kernel
theorem dX5_take_17 : decode cX5_take 17 = .ok (.iconst (-1), 1) := by decide +kernel
theorem dX5_take_18 : decode cX5_take 18 = .ok (.if_icmp .ne 9, 3) := by decide +kernel
theorem dX5_take_21 : decode cX5_take 21 = .ok (.aload_n 0, 1) := by decide +kernel
theorem dX5_take_22 : decode cX5_take 22 = .ok (.iconst 1, 1) := by decide +kernel
theorem dX5_take_23 : decode cX5_take 23 = .ok (.invokevirtual 63, 3) := by decide +kernel
theorem dX5_take_26 : decode cX5_take 26 = .ok (.ireturn, 1) := by decide +kernel
theorem dX5_take_27 : decode cX5_take 27 = .ok (.aload_n 0, 1) := by decide +kernel
theorem dX5_take_28 : decode cX5_take 28 = .ok (.getfield 32, 3) := by decide +kernel
theorem dX5_take_31 : decode cX5_take 31 = .ok (.iload_n 1, 1) := by decide +kernel
theorem dX5_take_32 : decode cX5_take 32 = .ok (.aload_n 0, 1) := by decide +kernel
theorem dX5_take_33 : decode cX5_take 33 = .ok (.getfield 25, 3) := by decide +kernel
theorem dX5_take_36 : decode cX5_take 36 = .ok (.iload_n 2, 1) := by decide +kernel
theorem dX5_take_37 : decode cX5_take 37 = .ok (.iaload, 1) := by decide +kernel
theorem dX5_take_38 : decode cX5_take 38 = .ok (.iastore, 1) := by decide +kernel
theorem dX5_take_39 : decode cX5_take 39 = .ok (.aload_n 0, 1) := by decide +kernel
theorem dX5_take_40 : decode cX5_take 40 = .ok (.getfield 28, 3) := by decide +kernel
theorem dX5_take_43 : decode cX5_take 43 = .ok (.iload_n 2, 1) := by decide +kernel
theorem dX5_take_44 : decode cX5_take 44 = .ok (.iconst 0, 1) := by decide +kernel
theorem dX5_take_45 : decode cX5_take 45 = .ok (.bastore, 1) := by decide +kernel
theorem dX5_take_46 : decode cX5_take 46 = .ok (.aload_n 0, 1) := by decide +kernel
theorem dX5_take_47 : decode cX5_take 47 = .ok (.iload_n 2, 1) := by decide +kernel
theorem dX5_take_48 : decode cX5_take 48 = .ok (.invokevirtual 66, 3) := by decide +kernel
theorem dX5_take_51 : decode cX5_take 51 = .ok (.ireturn, 1) := by decide +kernel
set_option maxRecDepth 20000 in
theorem ggX5_shunt_X5_isTrack : GoodIn wsX5_shunt wsX5_isTrack := goodIn_r _ [6, 7, 8, 5, 9] (by decide +kernel) (by decide +kernel)
set_option maxRecDepth 20000 in
theorem gX5_shunt_X5_isTrack : GoodIn wsX5_shunt (va_wsS RX5 55 yX5_isTrack wsX5_isTrack) := goodIn_app (goodIn_of _ (by decide +kernel)) ggX5_shunt_X5_isTrack
set_option maxRecDepth 20000 in
theorem ggX5_shunt_X5_in : GoodIn wsX5_shunt wsX5_in := goodIn_r _ [9] (by decide +kernel) (by decide +kernel)
set_option maxRecDepth 20000 in
theorem gX5_shunt_X5_in : GoodIn wsX5_shunt (va_wsS RX5 51 yX5_in wsX5_in) := goodIn_app (goodIn_of _ (by decide +kernel)) ggX5_shunt_X5_in
set_option maxRecDepth 20000 in
theorem ggX5_shunt_X5_at : GoodIn wsX5_shunt wsX5_at := goodIn_r _ [13, 1, 2, 19, 20, 21, 22, 23, 24, 25, 26, 27, 28, 29, 30, 31, 32, 33, 34] (by decide +kernel) (by decide +kernel)
set_option maxRecDepth 20000 in
theorem gX5_shunt_X5_at : GoodIn wsX5_shunt (wsV RX5 69 RX5 yX5_at wsX5_at) := goodIn_app (goodIn_of _ (by decide +kernel)) ggX5_shunt_X5_at
set_option maxRecDepth 20000 in
theorem ggX5_shunt_X5_no : GoodIn wsX5_shunt wsX5_no := goodIn_r _ [17, 18, 19, 20, 21, 22, 23, 24, 25, 26, 27, 28, 29, 30, 31, 32, 33, 34] (by decide +kernel) (by decide +kernel)
set_option maxRecDepth 20000 in
theorem gX5_shunt_X5_no : GoodIn wsX5_shunt (wsV RX5 63 RX5 yX5_no wsX5_no) := goodIn_app (goodIn_of _ (by decide +kernel)) ggX5_shunt_X5_no
theorem dX5_shunt_0 : decode cX5_shunt 0 = .ok (.iload_n 1, 1) := by decide +kernel
theorem dX5_shunt_1 : decode cX5_shunt 1 = .ok (.invokestatic 55, 3) := by decide +kernel
theorem dX5_shunt_4 : decode cX5_shunt 4 = .ok (.ifCond .eq 25, 3) := by decide +kernel
theorem dX5_shunt_7 : decode cX5_shunt 7 = .ok (.iload_n 2, 1) := by decide +kernel
theorem dX5_shunt_8 : decode cX5_shunt 8 = .ok (.iconst 1, 1) := by decide +kernel
theorem dX5_shunt_9 : decode cX5_shunt 9 = .ok (.bipush 99, 2) := by decide +kernel
theorem dX5_shunt_11 : decode cX5_shunt 11 = .ok (.invokestatic 51, 3) := by decide +kernel
theorem dX5_shunt_14 : decode cX5_shunt 14 = .ok (.ifCond .eq 15, 3) := by decide +kernel
theorem dX5_shunt_17 : decode cX5_shunt 17 = .ok (.iload_n 3, 1) := by decide +kernel
theorem dX5_shunt_18 : decode cX5_shunt 18 = .ok (.invokestatic 55, 3) := by decide +kernel
theorem dX5_shunt_21 : decode cX5_shunt 21 = .ok (.ifCond .eq 8, 3) := by decide +kernel
theorem dX5_shunt_24 : decode cX5_shunt 24 = .ok (.iload_n 1, 1) := by decide +kernel
theorem dX5_shunt_25 : decode cX5_shunt 25 = .ok (.iload_n 3, 1) := by decide +kernel
theorem dX5_shunt_26 : decode cX5_shunt 26 = .ok (.if_icmp .ne 5, 3) := by decide +kernel
theorem dX5_shunt_29 : decode cX5_shunt 29 = .ok (.iconst (-1), 1) := by decide +kernel
theorem dX5_shunt_30 : decode cX5_shunt 30 = .ok (.ireturn, 1) := by decide +kernel
theorem dX5_shunt_31 : decode cX5_shunt 31 = .ok (.aload_n 0, 1) := by decide +kernel
theorem dX5_shunt_32 : decode cX5_shunt 32 = .ok (.iload_n 1, 1) := by decide +kernel
theorem dX5_shunt_33 : decode cX5_shunt 33 = .ok (.iload_n 2, 1) := by decide +kernel
theorem dX5_shunt_34 : decode cX5_shunt 34 = .ok (.iconst 1, 1) := by decide +kernel
theorem dX5_shunt_35 : decode cX5_shunt 35 = .ok (.isub, 1) := by decide +kernel
theorem dX5_shunt_36 : decode cX5_shunt 36 = .ok (.invokevirtual 69, 3) := by decide +kernel
theorem dX5_shunt_39 : decode cX5_shunt 39 = .ok (.istore 4, 2) := by decide +kernel
theorem dX5_shunt_41 : decode cX5_shunt 41 = .ok (.iload 4, 2) := by decide +kernel
theorem dX5_shunt_43 : decode cX5_shunt 43 = .ok (.iconst (-1), 1) := by decide +kernel
theorem dX5_shunt_44 : decode cX5_shunt 44 = .ok (.if_icmp .ne 9, 3) := by decide +kernel
theorem dX5_shunt_47 : decode cX5_shunt 47 = .ok (.aload_n 0, 1) := by decide +kernel
theorem dX5_shunt_48 : decode cX5_shunt 48 = .ok (.iconst 1, 1) := by decide +kernel
theorem dX5_shunt_49 : decode cX5_shunt 49 = .ok (.invokevirtual 63, 3) := by decide +kernel
theorem dX5_shunt_52 : decode cX5_shunt 52 = .ok (.ireturn, 1) := by decide +kernel
theorem dX5_shunt_53 : decode cX5_shunt 53 = .ok (.aload_n 0, 1) := by decide +kernel
theorem dX5_shunt_54 : decode cX5_shunt 54 = .ok (.getfield 32, 3) := by decide +kernel
theorem dX5_shunt_57 : decode cX5_shunt 57 = .ok (.iload_n 1, 1) := by decide +kernel
theorem dX5_shunt_58 : decode cX5_shunt 58 = .ok (.iaload, 1) := by decide +kernel
theorem dX5_shunt_59 : decode cX5_shunt 59 = .ok (.istore 5, 2) := by decide +kernel
theorem dX5_shunt_61 : decode cX5_shunt 61 = .ok (.aload_n 0, 1) := by decide +kernel
theorem dX5_shunt_62 : decode cX5_shunt 62 = .ok (.getfield 32, 3) := by decide +kernel
theorem dX5_shunt_65 : decode cX5_shunt 65 = .ok (.iload_n 1, 1) := by decide +kernel
theorem dX5_shunt_66 : decode cX5_shunt 66 = .ok (.aload_n 0, 1) := by decide +kernel
theorem dX5_shunt_67 : decode cX5_shunt 67 = .ok (.getfield 25, 3) := by decide +kernel
theorem dX5_shunt_70 : decode cX5_shunt 70 = .ok (.iload 4, 2) := by decide +kernel
theorem dX5_shunt_72 : decode cX5_shunt 72 = .ok (.iaload, 1) := by decide +kernel
theorem dX5_shunt_73 : decode cX5_shunt 73 = .ok (.iastore, 1) := by decide +kernel
theorem dX5_shunt_74 : decode cX5_shunt 74 = .ok (.aload_n 0, 1) := by decide +kernel
theorem dX5_shunt_75 : decode cX5_shunt 75 = .ok (.getfield 25, 3) := by decide +kernel
theorem dX5_shunt_78 : decode cX5_shunt 78 = .ok (.iload 4, 2) := by decide +kernel
theorem dX5_shunt_80 : decode cX5_shunt 80 = .ok (.aload_n 0, 1) := by decide +kernel
theorem dX5_shunt_81 : decode cX5_shunt 81 = .ok (.getfield 32, 3) := by decide +kernel
theorem dX5_shunt_84 : decode cX5_shunt 84 = .ok (.iload_n 3, 1) := by decide +kernel
theorem dX5_shunt_85 : decode cX5_shunt 85 = .ok (.iaload, 1) := by decide +kernel
theorem dX5_shunt_86 : decode cX5_shunt 86 = .ok (.iastore, 1) := by decide +kernel
theorem dX5_shunt_87 : decode cX5_shunt 87 = .ok (.aload_n 0, 1) := by decide +kernel
theorem dX5_shunt_88 : decode cX5_shunt 88 = .ok (.getfield 32, 3) := by decide +kernel
theorem dX5_shunt_91 : decode cX5_shunt 91 = .ok (.iload_n 3, 1) := by decide +kernel
theorem dX5_shunt_92 : decode cX5_shunt 92 = .ok (.iload 5, 2) := by decide +kernel
theorem dX5_shunt_94 : decode cX5_shunt 94 = .ok (.iastore, 1) := by decide +kernel
theorem dX5_shunt_95 : decode cX5_shunt 95 = .ok (.iload_n 2, 1) := by decide +kernel
theorem dX5_shunt_96 : decode cX5_shunt 96 = .ok (.ireturn, 1) := by decide +kernel
set_option maxRecDepth 20000 in
theorem ggX5_couple_X5_isTrack : GoodIn wsX5_couple wsX5_isTrack := goodIn_r _ [6, 7, 8, 5, 9] (by decide +kernel) (by decide +kernel)
set_option maxRecDepth 20000 in
theorem gX5_couple_X5_isTrack : GoodIn wsX5_couple (va_wsS RX5 55 yX5_isTrack wsX5_isTrack) := goodIn_app (goodIn_of _ (by decide +kernel)) ggX5_couple_X5_isTrack
set_option maxRecDepth 20000 in
theorem ggX5_couple_X5_countOf : GoodIn wsX5_couple wsX5_countOf := goodIn_r _ [13, 2, 1, 23, 24, 25, 26, 27, 28, 29, 30, 31, 32, 33, 34, 35, 36, 37, 38] (by decide +kernel) (by decide +kernel)
set_option maxRecDepth 20000 in
theorem gX5_couple_X5_countOf : GoodIn wsX5_couple (wsV RX5 59 RX5 yX5_countOf wsX5_countOf) := goodIn_app (goodIn_of _ (by decide +kernel)) ggX5_couple_X5_countOf
set_option maxRecDepth 20000 in
theorem ggX5_couple_X5_no : GoodIn wsX5_couple wsX5_no := goodIn_r _ [17, 18, 23, 24, 25, 26, 27, 28, 29, 30, 31, 32, 33, 34, 35, 36, 37, 38] (by decide +kernel) (by decide +kernel)
set_option maxRecDepth 20000 in
theorem gX5_couple_X5_no : GoodIn wsX5_couple (wsV RX5 63 RX5 yX5_no wsX5_no) := goodIn_app (goodIn_of _ (by decide +kernel)) ggX5_couple_X5_no
set_option maxRecDepth 20000 in
theorem ggX5_couple_X5_at : GoodIn wsX5_couple wsX5_at := goodIn_r _ [22, 2, 1, 23, 24, 25, 26, 27, 28, 29, 30, 31, 32, 33, 34, 35, 36, 37, 38] (by decide +kernel) (by decide +kernel)
set_option maxRecDepth 20000 in
theorem gX5_couple_X5_at : GoodIn wsX5_couple (wsV RX5 69 RX5 yX5_at wsX5_at) := goodIn_app (goodIn_of _ (by decide +kernel)) ggX5_couple_X5_at
theorem dX5_couple_0 : decode cX5_couple 0 = .ok (.iload_n 1, 1) := by decide +kernel
theorem dX5_couple_1 : decode cX5_couple 1 = .ok (.invokestatic 55, 3) := by decide +kernel
theorem dX5_couple_4 : decode cX5_couple 4 = .ok (.ifCond .eq 15, 3) := by decide +kernel
theorem dX5_couple_7 : decode cX5_couple 7 = .ok (.iload_n 2, 1) := by decide +kernel
theorem dX5_couple_8 : decode cX5_couple 8 = .ok (.invokestatic 55, 3) := by decide +kernel
theorem dX5_couple_11 : decode cX5_couple 11 = .ok (.ifCond .eq 8, 3) := by decide +kernel
theorem dX5_couple_14 : decode cX5_couple 14 = .ok (.iload_n 1, 1) := by decide +kernel
theorem dX5_couple_15 : decode cX5_couple 15 = .ok (.iload_n 2, 1) := by decide +kernel
theorem dX5_couple_16 : decode cX5_couple 16 = .ok (.if_icmp .ne 5, 3) := by decide +kernel
theorem dX5_couple_19 : decode cX5_couple 19 = .ok (.iconst (-1), 1) := by decide +kernel
theorem dX5_couple_20 : decode cX5_couple 20 = .ok (.ireturn, 1) := by decide +kernel
theorem dX5_couple_21 : decode cX5_couple 21 = .ok (.aload_n 0, 1) := by decide +kernel
theorem dX5_couple_22 : decode cX5_couple 22 = .ok (.iload_n 1, 1) := by decide +kernel
theorem dX5_couple_23 : decode cX5_couple 23 = .ok (.invokevirtual 59, 3) := by decide +kernel
theorem dX5_couple_26 : decode cX5_couple 26 = .ok (.istore_n 3, 1) := by decide +kernel
theorem dX5_couple_27 : decode cX5_couple 27 = .ok (.iload_n 3, 1) := by decide +kernel
theorem dX5_couple_28 : decode cX5_couple 28 = .ok (.ifCond .ne 9, 3) := by decide +kernel
theorem dX5_couple_31 : decode cX5_couple 31 = .ok (.aload_n 0, 1) := by decide +kernel
theorem dX5_couple_32 : decode cX5_couple 32 = .ok (.iconst 1, 1) := by decide +kernel
theorem dX5_couple_33 : decode cX5_couple 33 = .ok (.invokevirtual 63, 3) := by decide +kernel
theorem dX5_couple_36 : decode cX5_couple 36 = .ok (.ireturn, 1) := by decide +kernel
theorem dX5_couple_37 : decode cX5_couple 37 = .ok (.aload_n 0, 1) := by decide +kernel
theorem dX5_couple_38 : decode cX5_couple 38 = .ok (.getfield 25, 3) := by decide +kernel
theorem dX5_couple_41 : decode cX5_couple 41 = .ok (.aload_n 0, 1) := by decide +kernel
theorem dX5_couple_42 : decode cX5_couple 42 = .ok (.iload_n 1, 1) := by decide +kernel
theorem dX5_couple_43 : decode cX5_couple 43 = .ok (.iload_n 3, 1) := by decide +kernel
theorem dX5_couple_44 : decode cX5_couple 44 = .ok (.iconst 1, 1) := by decide +kernel
theorem dX5_couple_45 : decode cX5_couple 45 = .ok (.isub, 1) := by decide +kernel
theorem dX5_couple_46 : decode cX5_couple 46 = .ok (.invokevirtual 69, 3) := by decide +kernel
theorem dX5_couple_49 : decode cX5_couple 49 = .ok (.aload_n 0, 1) := by decide +kernel
theorem dX5_couple_50 : decode cX5_couple 50 = .ok (.getfield 32, 3) := by decide +kernel
theorem dX5_couple_53 : decode cX5_couple 53 = .ok (.iload_n 2, 1) := by decide +kernel
theorem dX5_couple_54 : decode cX5_couple 54 = .ok (.iaload, 1) := by decide +kernel
theorem dX5_couple_55 : decode cX5_couple 55 = .ok (.iastore, 1) := by decide +kernel
theorem dX5_couple_56 : decode cX5_couple 56 = .ok (.aload_n 0, 1) := by decide +kernel
theorem dX5_couple_57 : decode cX5_couple 57 = .ok (.getfield 32, 3) := by decide +kernel
theorem dX5_couple_60 : decode cX5_couple 60 = .ok (.iload_n 2, 1) := by decide +kernel
theorem dX5_couple_61 : decode cX5_couple 61 = .ok (.iconst (-1), 1) := by decide +kernel
theorem dX5_couple_62 : decode cX5_couple 62 = .ok (.iastore, 1) := by decide +kernel
theorem dX5_couple_63 : decode cX5_couple 63 = .ok (.aload_n 0, 1) := by decide +kernel
theorem dX5_couple_64 : decode cX5_couple 64 = .ok (.iload_n 1, 1) := by decide +kernel
theorem dX5_couple_65 : decode cX5_couple 65 = .ok (.invokevirtual 59, 3) := by decide +kernel
theorem dX5_couple_68 : decode cX5_couple 68 = .ok (.ireturn, 1) := by decide +kernel
set_option maxRecDepth 20000 in
theorem ggX5_crates_X5_isTrack : GoodIn wsX5_crates wsX5_isTrack := goodIn_r _ [7, 8, 9, 6, 10] (by decide +kernel) (by decide +kernel)
set_option maxRecDepth 20000 in
theorem gX5_crates_X5_isTrack : GoodIn wsX5_crates (va_wsS RX5 55 yX5_isTrack wsX5_isTrack) := goodIn_app (goodIn_of _ (by decide +kernel)) ggX5_crates_X5_isTrack
set_option maxRecDepth 20000 in
theorem ggX5_crates_X5_at : GoodIn wsX5_crates wsX5_at := goodIn_r _ [14, 15, 16, 22, 23, 24, 25, 26, 27, 28, 29, 30, 31, 32, 33, 34, 35, 36, 37] (by decide +kernel) (by decide +kernel)
set_option maxRecDepth 20000 in
theorem gX5_crates_X5_at : GoodIn wsX5_crates (wsV RX5 69 RX5 yX5_at wsX5_at) := goodIn_app (goodIn_of _ (by decide +kernel)) ggX5_crates_X5_at
set_option maxRecDepth 20000 in
theorem ggX5_crates_X5_no : GoodIn wsX5_crates wsX5_no := goodIn_r _ [20, 21, 22, 23, 24, 25, 26, 27, 28, 29, 30, 31, 32, 33, 34, 35, 36, 37] (by decide +kernel) (by decide +kernel)
set_option maxRecDepth 20000 in
theorem gX5_crates_X5_no : GoodIn wsX5_crates (wsV RX5 63 RX5 yX5_no wsX5_no) := goodIn_app (goodIn_of _ (by decide +kernel)) ggX5_crates_X5_no
theorem dX5_crates_0 : decode cX5_crates 0 = .ok (.iload_n 1, 1) := by decide +kernel
theorem dX5_crates_1 : decode cX5_crates 1 = .ok (.invokestatic 55, 3) := by decide +kernel
theorem dX5_crates_4 : decode cX5_crates 4 = .ok (.ifCond .eq 13, 3) := by decide +kernel
theorem dX5_crates_7 : decode cX5_crates 7 = .ok (.iload_n 2, 1) := by decide +kernel
theorem dX5_crates_8 : decode cX5_crates 8 = .ok (.ifCond .lt 9, 3) := by decide +kernel
theorem dX5_crates_11 : decode cX5_crates 11 = .ok (.iload_n 3, 1) := by decide +kernel
theorem dX5_crates_12 : decode cX5_crates 12 = .ok (.bipush 12, 2) := by decide +kernel
theorem dX5_crates_14 : decode cX5_crates 14 = .ok (.if_icmp .le 5, 3) := by decide +kernel
theorem dX5_crates_17 : decode cX5_crates 17 = .ok (.iconst (-1), 1) := by decide +kernel
theorem dX5_crates_18 : decode cX5_crates 18 = .ok (.ireturn, 1) := by decide +kernel
theorem dX5_crates_19 : decode cX5_crates 19 = .ok (.aload_n 0, 1) := by decide +kernel
theorem dX5_crates_20 : decode cX5_crates 20 = .ok (.iload_n 1, 1) := by decide +kernel
theorem dX5_crates_21 : decode cX5_crates 21 = .ok (.iload_n 2, 1) := by decide +kernel
theorem dX5_crates_22 : decode cX5_crates 22 = .ok (.invokevirtual 69, 3) := by decide +kernel
theorem dX5_crates_25 : decode cX5_crates 25 = .ok (.istore 4, 2) := by decide +kernel
theorem dX5_crates_27 : decode cX5_crates 27 = .ok (.iload 4, 2) := by decide +kernel
theorem dX5_crates_29 : decode cX5_crates 29 = .ok (.iconst (-1), 1) := by decide +kernel
theorem dX5_crates_30 : decode cX5_crates 30 = .ok (.if_icmp .eq 20, 3) := by decide +kernel
theorem dX5_crates_33 : decode cX5_crates 33 = .ok (.aload_n 0, 1) := by decide +kernel
theorem dX5_crates_34 : decode cX5_crates 34 = .ok (.getfield 7, 3) := by decide +kernel
theorem dX5_crates_37 : decode cX5_crates 37 = .ok (.iload 4, 2) := by decide +kernel
theorem dX5_crates_39 : decode cX5_crates 39 = .ok (.iaload, 1) := by decide +kernel
theorem dX5_crates_40 : decode cX5_crates 40 = .ok (.iconst 1, 1) := by decide +kernel
theorem dX5_crates_41 : decode cX5_crates 41 = .ok (.if_icmp .ne 9, 3) := by decide +kernel
theorem dX5_crates_44 : decode cX5_crates 44 = .ok (.aload_n 0, 1) := by decide +kernel
theorem dX5_crates_45 : decode cX5_crates 45 = .ok (.iconst 2, 1) := by decide +kernel
theorem dX5_crates_46 : decode cX5_crates 46 = .ok (.invokevirtual 63, 3) := by decide +kernel
theorem dX5_crates_49 : decode cX5_crates 49 = .ok (.ireturn, 1) := by decide +kernel
theorem dX5_crates_50 : decode cX5_crates 50 = .ok (.iload_n 3, 1) := by decide +kernel
theorem dX5_crates_51 : decode cX5_crates 51 = .ok (.ifCond .ge 9, 3) := by decide +kernel
theorem dX5_crates_54 : decode cX5_crates 54 = .ok (.aload_n 0, 1) := by decide +kernel
theorem dX5_crates_55 : decode cX5_crates 55 = .ok (.iconst 4, 1) := by decide +kernel
theorem dX5_crates_56 : decode cX5_crates 56 = .ok (.invokevirtual 63, 3) := by decide +kernel
theorem dX5_crates_59 : decode cX5_crates 59 = .ok (.ireturn, 1) := by decide +kernel
theorem dX5_crates_60 : decode cX5_crates 60 = .ok (.iload 4, 2) := by decide +kernel
theorem dX5_crates_62 : decode cX5_crates 62 = .ok (.iconst (-1), 1) := by decide +kernel
theorem dX5_crates_63 : decode cX5_crates 63 = .ok (.if_icmp .ne 9, 3) := by decide +kernel
theorem dX5_crates_66 : decode cX5_crates 66 = .ok (.aload_n 0, 1) := by decide +kernel
theorem dX5_crates_67 : decode cX5_crates 67 = .ok (.iconst 1, 1) := by decide +kernel
theorem dX5_crates_68 : decode cX5_crates 68 = .ok (.invokevirtual 63, 3) := by decide +kernel
theorem dX5_crates_71 : decode cX5_crates 71 = .ok (.ireturn, 1) := by decide +kernel
theorem dX5_crates_72 : decode cX5_crates 72 = .ok (.aload_n 0, 1) := by decide +kernel
theorem dX5_crates_73 : decode cX5_crates 73 = .ok (.getfield 19, 3) := by decide +kernel
theorem dX5_crates_76 : decode cX5_crates 76 = .ok (.iload 4, 2) := by decide +kernel
theorem dX5_crates_78 : decode cX5_crates 78 = .ok (.iload_n 3, 1) := by decide +kernel
theorem dX5_crates_79 : decode cX5_crates 79 = .ok (.iastore, 1) := by decide +kernel
theorem dX5_crates_80 : decode cX5_crates 80 = .ok (.iconst 0, 1) := by decide +kernel
theorem dX5_crates_81 : decode cX5_crates 81 = .ok (.istore 5, 2) := by decide +kernel
theorem dX5_crates_83 : decode cX5_crates 83 = .ok (.iload 5, 2) := by decide +kernel
theorem dX5_crates_85 : decode cX5_crates 85 = .ok (.bipush 12, 2) := by decide +kernel
theorem dX5_crates_87 : decode cX5_crates 87 = .ok (.if_icmp .ge 23, 3) := by decide +kernel
theorem dX5_crates_90 : decode cX5_crates 90 = .ok (.aload_n 0, 1) := by decide +kernel
theorem dX5_crates_91 : decode cX5_crates 91 = .ok (.getfield 22, 3) := by decide +kernel
theorem dX5_crates_94 : decode cX5_crates 94 = .ok (.bipush 12, 2) := by decide +kernel
theorem dX5_crates_96 : decode cX5_crates 96 = .ok (.iload 4, 2) := by decide +kernel
theorem dX5_crates_98 : decode cX5_crates 98 = .ok (.imul, 1) := by decide +kernel
theorem dX5_crates_99 : decode cX5_crates 99 = .ok (.iload 5, 2) := by decide +kernel
theorem dX5_crates_101 : decode cX5_crates 101 = .ok (.iadd, 1) := by decide +kernel
theorem dX5_crates_102 : decode cX5_crates 102 = .ok (.iconst 0, 1) := by decide +kernel
theorem dX5_crates_103 : decode cX5_crates 103 = .ok (.iastore, 1) := by decide +kernel
theorem dX5_crates_104 : decode cX5_crates 104 = .ok (.iinc 5 1, 3) := by decide +kernel
theorem dX5_crates_107 : decode cX5_crates 107 = .ok (.goto (-24), 3) := by decide +kernel
theorem dX5_crates_110 : decode cX5_crates 110 = .ok (.iload_n 3, 1) := by decide +kernel
theorem dX5_crates_111 : decode cX5_crates 111 = .ok (.ireturn, 1) := by decide +kernel
set_option maxRecDepth 20000 in
theorem ggX5_against_X5_in : GoodIn wsX5_against wsX5_in := goodIn_r _ [6] (by decide +kernel) (by decide +kernel)
set_option maxRecDepth 20000 in
theorem gX5_against_X5_in : GoodIn wsX5_against (va_wsS RX5 51 yX5_in wsX5_in) := goodIn_app (goodIn_of _ (by decide +kernel)) ggX5_against_X5_in
theorem dX5_against_0 : decode cX5_against 0 = .ok (.iload_n 1, 1) := by decide +kernel
theorem dX5_against_1 : decode cX5_against 1 = .ok (.iconst (-1), 1) := by decide +kernel
theorem dX5_against_2 : decode cX5_against 2 = .ok (.if_icmp .ne 5, 3) := by decide +kernel
theorem dX5_against_5 : decode cX5_against 5 = .ok (.iconst 1, 1) := by decide +kernel
theorem dX5_against_6 : decode cX5_against 6 = .ok (.ireturn, 1) := by decide +kernel
theorem dX5_against_7 : decode cX5_against 7 = .ok (.aload_n 0, 1) := by decide +kernel
theorem dX5_against_8 : decode cX5_against 8 = .ok (.getfield 7, 3) := by decide +kernel
theorem dX5_against_11 : decode cX5_against 11 = .ok (.iload_n 1, 1) := by decide +kernel
theorem dX5_against_12 : decode cX5_against 12 = .ok (.iaload, 1) := by decide +kernel
theorem dX5_against_13 : decode cX5_against 13 = .ok (.iconst 1, 1) := by decide +kernel
theorem dX5_against_14 : decode cX5_against 14 = .ok (.if_icmp .ne 7, 3) := by decide +kernel
theorem dX5_against_17 : decode cX5_against 17 = .ok (.iconst 2, 1) := by decide +kernel
theorem dX5_against_18 : decode cX5_against 18 = .ok (.goto 38, 3) := by decide +kernel
theorem dX5_against_21 : decode cX5_against 21 = .ok (.aload_n 0, 1) := by decide +kernel
theorem dX5_against_22 : decode cX5_against 22 = .ok (.getfield 19, 3) := by decide +kernel
theorem dX5_against_25 : decode cX5_against 25 = .ok (.iload_n 1, 1) := by decide +kernel
theorem dX5_against_26 : decode cX5_against 26 = .ok (.iaload, 1) := by decide +kernel
theorem dX5_against_27 : decode cX5_against 27 = .ok (.iconst (-1), 1) := by decide +kernel
theorem dX5_against_28 : decode cX5_against 28 = .ok (.if_icmp .ne 7, 3) := by decide +kernel
theorem dX5_against_31 : decode cX5_against 31 = .ok (.iconst 1, 1) := by decide +kernel
theorem dX5_against_32 : decode cX5_against 32 = .ok (.goto 24, 3) := by decide +kernel
theorem dX5_against_35 : decode cX5_against 35 = .ok (.iload_n 2, 1) := by decide +kernel
theorem dX5_against_36 : decode cX5_against 36 = .ok (.iconst 0, 1) := by decide +kernel
theorem dX5_against_37 : decode cX5_against 37 = .ok (.aload_n 0, 1) := by decide +kernel
theorem dX5_against_38 : decode cX5_against 38 = .ok (.getfield 19, 3) := by decide +kernel
theorem dX5_against_41 : decode cX5_against 41 = .ok (.iload_n 1, 1) := by decide +kernel
theorem dX5_against_42 : decode cX5_against 42 = .ok (.iaload, 1) := by decide +kernel
theorem dX5_against_43 : decode cX5_against 43 = .ok (.iconst 1, 1) := by decide +kernel
theorem dX5_against_44 : decode cX5_against 44 = .ok (.isub, 1) := by decide +kernel
theorem dX5_against_45 : decode cX5_against 45 = .ok (.invokestatic 51, 3) := by decide +kernel
theorem dX5_against_48 : decode cX5_against 48 = .ok (.ifCond .eq 7, 3) := by decide +kernel
theorem dX5_against_51 : decode cX5_against 51 = .ok (.iconst 0, 1) := by decide +kernel
theorem dX5_against_52 : decode cX5_against 52 = .ok (.goto 4, 3) := by decide +kernel
theorem dX5_against_55 : decode cX5_against 55 = .ok (.iconst 5, 1) := by decide +kernel
theorem dX5_against_56 : decode cX5_against 56 = .ok (.ireturn, 1) := by decide +kernel
set_option maxRecDepth 20000 in
theorem ggX5_load_X5_isTrack : GoodIn wsX5_load wsX5_isTrack := goodIn_r _ [5, 6, 7, 4, 8] (by decide +kernel) (by decide +kernel)
set_option maxRecDepth 20000 in
theorem gX5_load_X5_isTrack : GoodIn wsX5_load (va_wsS RX5 55 yX5_isTrack wsX5_isTrack) := goodIn_app (goodIn_of _ (by decide +kernel)) ggX5_load_X5_isTrack
set_option maxRecDepth 20000 in
theorem ggX5_load_X5_in : GoodIn wsX5_load wsX5_in := goodIn_r _ [8] (by decide +kernel) (by decide +kernel)
set_option maxRecDepth 20000 in
theorem gX5_load_X5_in : GoodIn wsX5_load (va_wsS RX5 51 yX5_in wsX5_in) := goodIn_app (goodIn_of _ (by decide +kernel)) ggX5_load_X5_in
set_option maxRecDepth 20000 in
theorem ggX5_load_X5_at : GoodIn wsX5_load wsX5_at := goodIn_r _ [12, 13, 14, 26, 27, 28, 29, 30, 31, 32, 33, 34, 35, 36, 37, 38, 39, 40, 41] (by decide +kernel) (by decide +kernel)
set_option maxRecDepth 20000 in
theorem gX5_load_X5_at : GoodIn wsX5_load (wsV RX5 69 RX5 yX5_at wsX5_at) := goodIn_app (goodIn_of _ (by decide +kernel)) ggX5_load_X5_at
set_option maxRecDepth 20000 in
theorem ggX5_load_X5_against : GoodIn wsX5_load wsX5_against := goodIn_r _ [18, 19, 20, 6, 7, 4, 8, 26, 27, 28, 29, 30, 31, 32, 33, 34, 35, 36, 37, 38, 39, 40, 41] (by decide +kernel) (by decide +kernel)
set_option maxRecDepth 20000 in
theorem gX5_load_X5_against : GoodIn wsX5_load (wsV RX5 73 RX5 yX5_against wsX5_against) := goodIn_app (goodIn_of _ (by decide +kernel)) ggX5_load_X5_against
set_option maxRecDepth 20000 in
theorem ggX5_load_X5_no : GoodIn wsX5_load wsX5_no := goodIn_r _ [24, 25, 26, 27, 28, 29, 30, 31, 32, 33, 34, 35, 36, 37, 38, 39, 40, 41] (by decide +kernel) (by decide +kernel)
set_option maxRecDepth 20000 in
theorem gX5_load_X5_no : GoodIn wsX5_load (wsV RX5 63 RX5 yX5_no wsX5_no) := goodIn_app (goodIn_of _ (by decide +kernel)) ggX5_load_X5_no
theorem dX5_load_0 : decode cX5_load 0 = .ok (.iload_n 1, 1) := by decide +kernel
theorem dX5_load_1 : decode cX5_load 1 = .ok (.invokestatic 55, 3) := by decide +kernel
theorem dX5_load_4 : decode cX5_load 4 = .ok (.ifCond .eq 18, 3) := by decide +kernel
theorem dX5_load_7 : decode cX5_load 7 = .ok (.iload_n 2, 1) := by decide +kernel
theorem dX5_load_8 : decode cX5_load 8 = .ok (.ifCond .lt 14, 3) := by decide +kernel
theorem dX5_load_11 : decode cX5_load 11 = .ok (.iload 4, 2) := by decide +kernel
theorem dX5_load_13 : decode cX5_load 13 = .ok (.iconst 0, 1) := by decide +kernel
theorem dX5_load_14 : decode cX5_load 14 = .ok (.bipush 99, 2) := by decide +kernel
theorem dX5_load_16 : decode cX5_load 16 = .ok (.invokestatic 51, 3) := by decide +kernel
theorem dX5_load_19 : decode cX5_load 19 = .ok (.ifCond .ne 5, 3) := by decide +kernel
theorem dX5_load_22 : decode cX5_load 22 = .ok (.iconst (-1), 1) := by decide +kernel
theorem dX5_load_23 : decode cX5_load 23 = .ok (.ireturn, 1) := by decide +kernel
theorem dX5_load_24 : decode cX5_load 24 = .ok (.aload_n 0, 1) := by decide +kernel
theorem dX5_load_25 : decode cX5_load 25 = .ok (.iload_n 1, 1) := by decide +kernel
theorem dX5_load_26 : decode cX5_load 26 = .ok (.iload_n 2, 1) := by decide +kernel
theorem dX5_load_27 : decode cX5_load 27 = .ok (.invokevirtual 69, 3) := by decide +kernel
theorem dX5_load_30 : decode cX5_load 30 = .ok (.istore 5, 2) := by decide +kernel
theorem dX5_load_32 : decode cX5_load 32 = .ok (.aload_n 0, 1) := by decide +kernel
theorem dX5_load_33 : decode cX5_load 33 = .ok (.iload 5, 2) := by decide +kernel
theorem dX5_load_35 : decode cX5_load 35 = .ok (.iload_n 3, 1) := by decide +kernel
theorem dX5_load_36 : decode cX5_load 36 = .ok (.invokevirtual 73, 3) := by decide +kernel
theorem dX5_load_39 : decode cX5_load 39 = .ok (.istore 6, 2) := by decide +kernel
theorem dX5_load_41 : decode cX5_load 41 = .ok (.iload 6, 2) := by decide +kernel
theorem dX5_load_43 : decode cX5_load 43 = .ok (.ifCond .le 10, 3) := by decide +kernel
theorem dX5_load_46 : decode cX5_load 46 = .ok (.aload_n 0, 1) := by decide +kernel
theorem dX5_load_47 : decode cX5_load 47 = .ok (.iload 6, 2) := by decide +kernel
theorem dX5_load_49 : decode cX5_load 49 = .ok (.invokevirtual 63, 3) := by decide +kernel
theorem dX5_load_52 : decode cX5_load 52 = .ok (.ireturn, 1) := by decide +kernel
theorem dX5_load_53 : decode cX5_load 53 = .ok (.aload_n 0, 1) := by decide +kernel
theorem dX5_load_54 : decode cX5_load 54 = .ok (.getfield 22, 3) := by decide +kernel
theorem dX5_load_57 : decode cX5_load 57 = .ok (.bipush 12, 2) := by decide +kernel
theorem dX5_load_59 : decode cX5_load 59 = .ok (.iload 5, 2) := by decide +kernel
theorem dX5_load_61 : decode cX5_load 61 = .ok (.imul, 1) := by decide +kernel
theorem dX5_load_62 : decode cX5_load 62 = .ok (.iload_n 3, 1) := by decide +kernel
theorem dX5_load_63 : decode cX5_load 63 = .ok (.iadd, 1) := by decide +kernel
theorem dX5_load_64 : decode cX5_load 64 = .ok (.iload 4, 2) := by decide +kernel
theorem dX5_load_66 : decode cX5_load 66 = .ok (.iastore, 1) := by decide +kernel
theorem dX5_load_67 : decode cX5_load 67 = .ok (.iload 4, 2) := by decide +kernel
theorem dX5_load_69 : decode cX5_load 69 = .ok (.ireturn, 1) := by decide +kernel
set_option maxRecDepth 20000 in
theorem ggX5_crate_X5_isTrack : GoodIn wsX5_crate wsX5_isTrack := goodIn_r _ [5, 6, 7, 4, 8] (by decide +kernel) (by decide +kernel)
set_option maxRecDepth 20000 in
theorem gX5_crate_X5_isTrack : GoodIn wsX5_crate (va_wsS RX5 55 yX5_isTrack wsX5_isTrack) := goodIn_app (goodIn_of _ (by decide +kernel)) ggX5_crate_X5_isTrack
set_option maxRecDepth 20000 in
theorem ggX5_crate_X5_at : GoodIn wsX5_crate wsX5_at := goodIn_r _ [12, 13, 14, 26, 27, 28, 29, 30, 31, 32, 33, 34, 35, 36, 37, 38, 39, 40, 41] (by decide +kernel) (by decide +kernel)
set_option maxRecDepth 20000 in
theorem gX5_crate_X5_at : GoodIn wsX5_crate (wsV RX5 69 RX5 yX5_at wsX5_at) := goodIn_app (goodIn_of _ (by decide +kernel)) ggX5_crate_X5_at
set_option maxRecDepth 20000 in
theorem ggX5_crate_X5_against : GoodIn wsX5_crate wsX5_against := goodIn_r _ [18, 19, 20, 6, 7, 4, 8, 26, 27, 28, 29, 30, 31, 32, 33, 34, 35, 36, 37, 38, 39, 40, 41] (by decide +kernel) (by decide +kernel)
set_option maxRecDepth 20000 in
theorem gX5_crate_X5_against : GoodIn wsX5_crate (wsV RX5 73 RX5 yX5_against wsX5_against) := goodIn_app (goodIn_of _ (by decide +kernel)) ggX5_crate_X5_against
set_option maxRecDepth 20000 in
theorem ggX5_crate_X5_no : GoodIn wsX5_crate wsX5_no := goodIn_r _ [24, 25, 26, 27, 28, 29, 30, 31, 32, 33, 34, 35, 36, 37, 38, 39, 40, 41] (by decide +kernel) (by decide +kernel)
set_option maxRecDepth 20000 in
theorem gX5_crate_X5_no : GoodIn wsX5_crate (wsV RX5 63 RX5 yX5_no wsX5_no) := goodIn_app (goodIn_of _ (by decide +kernel)) ggX5_crate_X5_no
theorem dX5_crate_0 : decode cX5_crate 0 = .ok (.iload_n 1, 1) := by decide +kernel
theorem dX5_crate_1 : decode cX5_crate 1 = .ok (.invokestatic 55, 3) := by decide +kernel
theorem dX5_crate_4 : decode cX5_crate 4 = .ok (.ifCond .eq 7, 3) := by decide +kernel
theorem dX5_crate_7 : decode cX5_crate 7 = .ok (.iload_n 2, 1) := by decide +kernel
theorem dX5_crate_8 : decode cX5_crate 8 = .ok (.ifCond .ge 5, 3) := by decide +kernel
theorem dX5_crate_11 : decode cX5_crate 11 = .ok (.iconst (-1), 1) := by decide +kernel
theorem dX5_crate_12 : decode cX5_crate 12 = .ok (.ireturn, 1) := by decide +kernel
theorem dX5_crate_13 : decode cX5_crate 13 = .ok (.aload_n 0, 1) := by decide +kernel
theorem dX5_crate_14 : decode cX5_crate 14 = .ok (.iload_n 1, 1) := by decide +kernel
theorem dX5_crate_15 : decode cX5_crate 15 = .ok (.iload_n 2, 1) := by decide +kernel
theorem dX5_crate_16 : decode cX5_crate 16 = .ok (.invokevirtual 69, 3) := by decide +kernel
theorem dX5_crate_19 : decode cX5_crate 19 = .ok (.istore 4, 2) := by decide +kernel
theorem dX5_crate_21 : decode cX5_crate 21 = .ok (.aload_n 0, 1) := by decide +kernel
theorem dX5_crate_22 : decode cX5_crate 22 = .ok (.iload 4, 2) := by decide +kernel
theorem dX5_crate_24 : decode cX5_crate 24 = .ok (.iload_n 3, 1) := by decide +kernel
theorem dX5_crate_25 : decode cX5_crate 25 = .ok (.invokevirtual 73, 3) := by decide +kernel
theorem dX5_crate_28 : decode cX5_crate 28 = .ok (.istore 5, 2) := by decide +kernel
theorem dX5_crate_30 : decode cX5_crate 30 = .ok (.iload 5, 2) := by decide +kernel
theorem dX5_crate_32 : decode cX5_crate 32 = .ok (.ifCond .le 12, 3) := by decide +kernel
theorem dX5_crate_35 : decode cX5_crate 35 = .ok (.aload_n 0, 1) := by decide +kernel
theorem dX5_crate_36 : decode cX5_crate 36 = .ok (.iload 5, 2) := by decide +kernel
theorem dX5_crate_38 : decode cX5_crate 38 = .ok (.invokevirtual 63, 3) := by decide +kernel
theorem dX5_crate_41 : decode cX5_crate 41 = .ok (.goto 15, 3) := by decide +kernel
theorem dX5_crate_44 : decode cX5_crate 44 = .ok (.aload_n 0, 1) := by decide +kernel
theorem dX5_crate_45 : decode cX5_crate 45 = .ok (.getfield 22, 3) := by decide +kernel
theorem dX5_crate_48 : decode cX5_crate 48 = .ok (.bipush 12, 2) := by decide +kernel
theorem dX5_crate_50 : decode cX5_crate 50 = .ok (.iload 4, 2) := by decide +kernel
theorem dX5_crate_52 : decode cX5_crate 52 = .ok (.imul, 1) := by decide +kernel
theorem dX5_crate_53 : decode cX5_crate 53 = .ok (.iload_n 3, 1) := by decide +kernel
theorem dX5_crate_54 : decode cX5_crate 54 = .ok (.iadd, 1) := by decide +kernel
theorem dX5_crate_55 : decode cX5_crate 55 = .ok (.iaload, 1) := by decide +kernel
theorem dX5_crate_56 : decode cX5_crate 56 = .ok (.ireturn, 1) := by decide +kernel
set_option maxRecDepth 20000 in
theorem ggX5_length_X5_isTrack : GoodIn wsX5_length wsX5_isTrack := goodIn_r _ [6, 7, 8, 5, 9] (by decide +kernel) (by decide +kernel)
set_option maxRecDepth 20000 in
theorem gX5_length_X5_isTrack : GoodIn wsX5_length (va_wsS RX5 55 yX5_isTrack wsX5_isTrack) := goodIn_app (goodIn_of _ (by decide +kernel)) ggX5_length_X5_isTrack
set_option maxRecDepth 20000 in
theorem ggX5_length_X5_at : GoodIn wsX5_length wsX5_at := goodIn_r _ [13, 14, 15, 21, 22, 23, 24, 25, 26, 27, 28, 29, 30, 31, 32, 33, 34, 35, 36] (by decide +kernel) (by decide +kernel)
set_option maxRecDepth 20000 in
theorem gX5_length_X5_at : GoodIn wsX5_length (wsV RX5 69 RX5 yX5_at wsX5_at) := goodIn_app (goodIn_of _ (by decide +kernel)) ggX5_length_X5_at
set_option maxRecDepth 20000 in
theorem ggX5_length_X5_no : GoodIn wsX5_length wsX5_no := goodIn_r _ [19, 20, 21, 22, 23, 24, 25, 26, 27, 28, 29, 30, 31, 32, 33, 34, 35, 36] (by decide +kernel) (by decide +kernel)
set_option maxRecDepth 20000 in
theorem gX5_length_X5_no : GoodIn wsX5_length (wsV RX5 63 RX5 yX5_no wsX5_no) := goodIn_app (goodIn_of _ (by decide +kernel)) ggX5_length_X5_no
theorem dX5_length_0 : decode cX5_length 0 = .ok (.iload_n 1, 1) := by decide +kernel
theorem dX5_length_1 : decode cX5_length 1 = .ok (.invokestatic 55, 3) := by decide +kernel
theorem dX5_length_4 : decode cX5_length 4 = .ok (.ifCond .eq 7, 3) := by decide +kernel
theorem dX5_length_7 : decode cX5_length 7 = .ok (.iload_n 2, 1) := by decide +kernel
theorem dX5_length_8 : decode cX5_length 8 = .ok (.ifCond .ge 5, 3) := by decide +kernel
theorem dX5_length_11 : decode cX5_length 11 = .ok (.iconst (-1), 1) := by decide +kernel
theorem dX5_length_12 : decode cX5_length 12 = .ok (.ireturn, 1) := by decide +kernel
theorem dX5_length_13 : decode cX5_length 13 = .ok (.aload_n 0, 1) := by decide +kernel
theorem dX5_length_14 : decode cX5_length 14 = .ok (.iload_n 1, 1) := by decide +kernel
theorem dX5_length_15 : decode cX5_length 15 = .ok (.iload_n 2, 1) := by decide +kernel
theorem dX5_length_16 : decode cX5_length 16 = .ok (.invokevirtual 69, 3) := by decide +kernel
theorem dX5_length_19 : decode cX5_length 19 = .ok (.istore_n 3, 1) := by decide +kernel
theorem dX5_length_20 : decode cX5_length 20 = .ok (.iload_n 3, 1) := by decide +kernel
theorem dX5_length_21 : decode cX5_length 21 = .ok (.iconst (-1), 1) := by decide +kernel
theorem dX5_length_22 : decode cX5_length 22 = .ok (.if_icmp .eq 19, 3) := by decide +kernel
theorem dX5_length_25 : decode cX5_length 25 = .ok (.aload_n 0, 1) := by decide +kernel
theorem dX5_length_26 : decode cX5_length 26 = .ok (.getfield 7, 3) := by decide +kernel
theorem dX5_length_29 : decode cX5_length 29 = .ok (.iload_n 3, 1) := by decide +kernel
theorem dX5_length_30 : decode cX5_length 30 = .ok (.iaload, 1) := by decide +kernel
theorem dX5_length_31 : decode cX5_length 31 = .ok (.iconst 1, 1) := by decide +kernel
theorem dX5_length_32 : decode cX5_length 32 = .ok (.if_icmp .ne 9, 3) := by decide +kernel
theorem dX5_length_35 : decode cX5_length 35 = .ok (.aload_n 0, 1) := by decide +kernel
theorem dX5_length_36 : decode cX5_length 36 = .ok (.iconst 2, 1) := by decide +kernel
theorem dX5_length_37 : decode cX5_length 37 = .ok (.invokevirtual 63, 3) := by decide +kernel
theorem dX5_length_40 : decode cX5_length 40 = .ok (.ireturn, 1) := by decide +kernel
theorem dX5_length_41 : decode cX5_length 41 = .ok (.iload_n 3, 1) := by decide +kernel
theorem dX5_length_42 : decode cX5_length 42 = .ok (.iconst (-1), 1) := by decide +kernel
theorem dX5_length_43 : decode cX5_length 43 = .ok (.if_icmp .eq 13, 3) := by decide +kernel
theorem dX5_length_46 : decode cX5_length 46 = .ok (.aload_n 0, 1) := by decide +kernel
theorem dX5_length_47 : decode cX5_length 47 = .ok (.getfield 19, 3) := by decide +kernel
theorem dX5_length_50 : decode cX5_length 50 = .ok (.iload_n 3, 1) := by decide +kernel
theorem dX5_length_51 : decode cX5_length 51 = .ok (.iaload, 1) := by decide +kernel
theorem dX5_length_52 : decode cX5_length 52 = .ok (.iconst (-1), 1) := by decide +kernel
theorem dX5_length_53 : decode cX5_length 53 = .ok (.if_icmp .ne 11, 3) := by decide +kernel
theorem dX5_length_56 : decode cX5_length 56 = .ok (.aload_n 0, 1) := by decide +kernel
theorem dX5_length_57 : decode cX5_length 57 = .ok (.iconst 1, 1) := by decide +kernel
theorem dX5_length_58 : decode cX5_length 58 = .ok (.invokevirtual 63, 3) := by decide +kernel
theorem dX5_length_61 : decode cX5_length 61 = .ok (.goto 9, 3) := by decide +kernel
theorem dX5_length_64 : decode cX5_length 64 = .ok (.aload_n 0, 1) := by decide +kernel
theorem dX5_length_65 : decode cX5_length 65 = .ok (.getfield 19, 3) := by decide +kernel
theorem dX5_length_68 : decode cX5_length 68 = .ok (.iload_n 3, 1) := by decide +kernel
theorem dX5_length_69 : decode cX5_length 69 = .ok (.iaload, 1) := by decide +kernel
theorem dX5_length_70 : decode cX5_length 70 = .ok (.ireturn, 1) := by decide +kernel
set_option maxRecDepth 20000 in
theorem ggX5_weigh_X5_isTrack : GoodIn wsX5_weigh wsX5_isTrack := goodIn_r _ [4, 5, 6, 3, 7] (by decide +kernel) (by decide +kernel)
set_option maxRecDepth 20000 in
theorem gX5_weigh_X5_isTrack : GoodIn wsX5_weigh (va_wsS RX5 55 yX5_isTrack wsX5_isTrack) := goodIn_app (goodIn_of _ (by decide +kernel)) ggX5_weigh_X5_isTrack
set_option maxRecDepth 20000 in
theorem ggX5_weigh_X5_at : GoodIn wsX5_weigh wsX5_at := goodIn_r _ [11, 12, 13, 26, 27, 28, 29, 30, 31, 32, 33, 34, 35, 36, 37, 38, 39, 40, 41] (by decide +kernel) (by decide +kernel)
set_option maxRecDepth 20000 in
theorem gX5_weigh_X5_at : GoodIn wsX5_weigh (wsV RX5 69 RX5 yX5_at wsX5_at) := goodIn_app (goodIn_of _ (by decide +kernel)) ggX5_weigh_X5_at
set_option maxRecDepth 20000 in
theorem ggX5_weigh_X5_no : GoodIn wsX5_weigh wsX5_no := goodIn_r _ [17, 18, 26, 27, 28, 29, 30, 31, 32, 33, 34, 35, 36, 37, 38, 39, 40, 41] (by decide +kernel) (by decide +kernel)
set_option maxRecDepth 20000 in
theorem gX5_weigh_X5_no : GoodIn wsX5_weigh (wsV RX5 63 RX5 yX5_no wsX5_no) := goodIn_app (goodIn_of _ (by decide +kernel)) ggX5_weigh_X5_no
set_option maxRecDepth 20000 in
theorem ggX5_weigh_X5_loadOf : GoodIn wsX5_weigh wsX5_loadOf := goodIn_r _ [22, 23, 24, 25, 26, 27, 28, 29, 30, 31, 32, 33, 34, 35, 36, 37, 38, 39, 40, 41] (by decide +kernel) (by decide +kernel)
set_option maxRecDepth 20000 in
theorem gX5_weigh_X5_loadOf : GoodIn wsX5_weigh (wsV RX5 66 RX5 yX5_loadOf wsX5_loadOf) := goodIn_app (goodIn_of _ (by decide +kernel)) ggX5_weigh_X5_loadOf
theorem dX5_weigh_0 : decode cX5_weigh 0 = .ok (.iload_n 1, 1) := by decide +kernel
theorem dX5_weigh_1 : decode cX5_weigh 1 = .ok (.invokestatic 55, 3) := by decide +kernel
theorem dX5_weigh_4 : decode cX5_weigh 4 = .ok (.ifCond .eq 7, 3) := by decide +kernel
theorem dX5_weigh_7 : decode cX5_weigh 7 = .ok (.iload_n 2, 1) := by decide +kernel
theorem dX5_weigh_8 : decode cX5_weigh 8 = .ok (.ifCond .ge 5, 3) := by decide +kernel
theorem dX5_weigh_11 : decode cX5_weigh 11 = .ok (.iconst (-1), 1) := by decide +kernel
theorem dX5_weigh_12 : decode cX5_weigh 12 = .ok (.ireturn, 1) := by decide +kernel
theorem dX5_weigh_13 : decode cX5_weigh 13 = .ok (.aload_n 0, 1) := by decide +kernel
theorem dX5_weigh_14 : decode cX5_weigh 14 = .ok (.iload_n 1, 1) := by decide +kernel
theorem dX5_weigh_15 : decode cX5_weigh 15 = .ok (.iload_n 2, 1) := by decide +kernel
theorem dX5_weigh_16 : decode cX5_weigh 16 = .ok (.invokevirtual 69, 3) := by decide +kernel
theorem dX5_weigh_19 : decode cX5_weigh 19 = .ok (.istore_n 3, 1) := by decide +kernel
theorem dX5_weigh_20 : decode cX5_weigh 20 = .ok (.iload_n 3, 1) := by decide +kernel
theorem dX5_weigh_21 : decode cX5_weigh 21 = .ok (.iconst (-1), 1) := by decide +kernel
theorem dX5_weigh_22 : decode cX5_weigh 22 = .ok (.if_icmp .ne 11, 3) := by decide +kernel
theorem dX5_weigh_25 : decode cX5_weigh 25 = .ok (.aload_n 0, 1) := by decide +kernel
theorem dX5_weigh_26 : decode cX5_weigh 26 = .ok (.iconst 1, 1) := by decide +kernel
theorem dX5_weigh_27 : decode cX5_weigh 27 = .ok (.invokevirtual 63, 3) := by decide +kernel
theorem dX5_weigh_30 : decode cX5_weigh 30 = .ok (.goto 8, 3) := by decide +kernel
theorem dX5_weigh_33 : decode cX5_weigh 33 = .ok (.aload_n 0, 1) := by decide +kernel
theorem dX5_weigh_34 : decode cX5_weigh 34 = .ok (.iload_n 3, 1) := by decide +kernel
theorem dX5_weigh_35 : decode cX5_weigh 35 = .ok (.invokevirtual 66, 3) := by decide +kernel
theorem dX5_weigh_38 : decode cX5_weigh 38 = .ok (.ireturn, 1) := by decide +kernel
set_option maxRecDepth 20000 in
theorem ggX5_defect_X5_isTrack : GoodIn wsX5_defect wsX5_isTrack := goodIn_r _ [5, 6, 7, 4, 8] (by decide +kernel) (by decide +kernel)
set_option maxRecDepth 20000 in
theorem gX5_defect_X5_isTrack : GoodIn wsX5_defect (va_wsS RX5 55 yX5_isTrack wsX5_isTrack) := goodIn_app (goodIn_of _ (by decide +kernel)) ggX5_defect_X5_isTrack
set_option maxRecDepth 20000 in
theorem ggX5_defect_X5_in : GoodIn wsX5_defect wsX5_in := goodIn_r _ [8] (by decide +kernel) (by decide +kernel)
set_option maxRecDepth 20000 in
theorem gX5_defect_X5_in : GoodIn wsX5_defect (va_wsS RX5 51 yX5_in wsX5_in) := goodIn_app (goodIn_of _ (by decide +kernel)) ggX5_defect_X5_in
set_option maxRecDepth 20000 in
theorem ggX5_defect_X5_at : GoodIn wsX5_defect wsX5_at := goodIn_r _ [12, 13, 14, 20, 21, 22, 23, 24, 25, 26, 27, 28, 29, 30, 31, 32, 33, 34, 35] (by decide +kernel) (by decide +kernel)
set_option maxRecDepth 20000 in
theorem gX5_defect_X5_at : GoodIn wsX5_defect (wsV RX5 69 RX5 yX5_at wsX5_at) := goodIn_app (goodIn_of _ (by decide +kernel)) ggX5_defect_X5_at
set_option maxRecDepth 20000 in
theorem ggX5_defect_X5_no : GoodIn wsX5_defect wsX5_no := goodIn_r _ [18, 19, 20, 21, 22, 23, 24, 25, 26, 27, 28, 29, 30, 31, 32, 33, 34, 35] (by decide +kernel) (by decide +kernel)
set_option maxRecDepth 20000 in
theorem gX5_defect_X5_no : GoodIn wsX5_defect (wsV RX5 63 RX5 yX5_no wsX5_no) := goodIn_app (goodIn_of _ (by decide +kernel)) ggX5_defect_X5_no
theorem dX5_defect_0 : decode cX5_defect 0 = .ok (.iload_n 1, 1) := by decide +kernel
theorem dX5_defect_1 : decode cX5_defect 1 = .ok (.invokestatic 55, 3) := by decide +kernel
theorem dX5_defect_4 : decode cX5_defect 4 = .ok (.ifCond .eq 17, 3) := by decide +kernel
theorem dX5_defect_7 : decode cX5_defect 7 = .ok (.iload_n 2, 1) := by decide +kernel
theorem dX5_defect_8 : decode cX5_defect 8 = .ok (.ifCond .lt 13, 3) := by decide +kernel
theorem dX5_defect_11 : decode cX5_defect 11 = .ok (.iload_n 3, 1) := by decide +kernel
theorem dX5_defect_12 : decode cX5_defect 12 = .ok (.iconst 0, 1) := by decide +kernel
theorem dX5_defect_13 : decode cX5_defect 13 = .ok (.bipush 99, 2) := by decide +kernel
theorem dX5_defect_15 : decode cX5_defect 15 = .ok (.invokestatic 51, 3) := by decide +kernel
theorem dX5_defect_18 : decode cX5_defect 18 = .ok (.ifCond .ne 5, 3) := by decide +kernel
theorem dX5_defect_21 : decode cX5_defect 21 = .ok (.iconst (-1), 1) := by decide +kernel
theorem dX5_defect_22 : decode cX5_defect 22 = .ok (.ireturn, 1) := by decide +kernel
theorem dX5_defect_23 : decode cX5_defect 23 = .ok (.aload_n 0, 1) := by decide +kernel
theorem dX5_defect_24 : decode cX5_defect 24 = .ok (.iload_n 1, 1) := by decide +kernel
theorem dX5_defect_25 : decode cX5_defect 25 = .ok (.iload_n 2, 1) := by decide +kernel
theorem dX5_defect_26 : decode cX5_defect 26 = .ok (.invokevirtual 69, 3) := by decide +kernel
theorem dX5_defect_29 : decode cX5_defect 29 = .ok (.istore 4, 2) := by decide +kernel
theorem dX5_defect_31 : decode cX5_defect 31 = .ok (.iload 4, 2) := by decide +kernel
theorem dX5_defect_33 : decode cX5_defect 33 = .ok (.iconst (-1), 1) := by decide +kernel
theorem dX5_defect_34 : decode cX5_defect 34 = .ok (.if_icmp .ne 9, 3) := by decide +kernel
theorem dX5_defect_37 : decode cX5_defect 37 = .ok (.aload_n 0, 1) := by decide +kernel
theorem dX5_defect_38 : decode cX5_defect 38 = .ok (.iconst 1, 1) := by decide +kernel
theorem dX5_defect_39 : decode cX5_defect 39 = .ok (.invokevirtual 63, 3) := by decide +kernel
theorem dX5_defect_42 : decode cX5_defect 42 = .ok (.ireturn, 1) := by decide +kernel
theorem dX5_defect_43 : decode cX5_defect 43 = .ok (.aload_n 0, 1) := by decide +kernel
theorem dX5_defect_44 : decode cX5_defect 44 = .ok (.getfield 16, 3) := by decide +kernel
theorem dX5_defect_47 : decode cX5_defect 47 = .ok (.iload 4, 2) := by decide +kernel
theorem dX5_defect_49 : decode cX5_defect 49 = .ok (.iload_n 3, 1) := by decide +kernel
theorem dX5_defect_50 : decode cX5_defect 50 = .ok (.iastore, 1) := by decide +kernel
theorem dX5_defect_51 : decode cX5_defect 51 = .ok (.iload_n 3, 1) := by decide +kernel
theorem dX5_defect_52 : decode cX5_defect 52 = .ok (.ireturn, 1) := by decide +kernel
set_option maxRecDepth 20000 in
theorem ggX5_reported_X5_no : GoodIn wsX5_reported wsX5_no := goodIn_r _ [7, 8, 9, 10, 11, 12, 13, 14, 15, 16, 17, 18, 19, 20, 21, 22, 23, 24] (by decide +kernel) (by decide +kernel)
set_option maxRecDepth 20000 in
theorem gX5_reported_X5_no : GoodIn wsX5_reported (wsV RX5 63 RX5 yX5_no wsX5_no) := goodIn_app (goodIn_of _ (by decide +kernel)) ggX5_reported_X5_no
theorem dX5_reported_0 : decode cX5_reported 0 = .ok (.aload_n 0, 1) := by decide +kernel
theorem dX5_reported_1 : decode cX5_reported 1 = .ok (.aload_n 0, 1) := by decide +kernel
theorem dX5_reported_2 : decode cX5_reported 2 = .ok (.getfield 16, 3) := by decide +kernel
theorem dX5_reported_5 : decode cX5_reported 5 = .ok (.iload_n 1, 1) := by decide +kernel
theorem dX5_reported_6 : decode cX5_reported 6 = .ok (.iaload, 1) := by decide +kernel
theorem dX5_reported_7 : decode cX5_reported 7 = .ok (.putfield 76, 3) := by decide +kernel
theorem dX5_reported_10 : decode cX5_reported 10 = .ok (.aload_n 0, 1) := by decide +kernel
theorem dX5_reported_11 : decode cX5_reported 11 = .ok (.bipush 7, 2) := by decide +kernel
theorem dX5_reported_13 : decode cX5_reported 13 = .ok (.invokevirtual 63, 3) := by decide +kernel
theorem dX5_reported_16 : decode cX5_reported 16 = .ok (.ireturn, 1) := by decide +kernel
set_option maxRecDepth 20000 in
theorem ggX5_report_X5_isTrack : GoodIn wsX5_report wsX5_isTrack := goodIn_r _ [5, 6, 7, 4, 8] (by decide +kernel) (by decide +kernel)
set_option maxRecDepth 20000 in
theorem gX5_report_X5_isTrack : GoodIn wsX5_report (va_wsS RX5 55 yX5_isTrack wsX5_isTrack) := goodIn_app (goodIn_of _ (by decide +kernel)) ggX5_report_X5_isTrack
set_option maxRecDepth 20000 in
theorem ggX5_report_X5_at : GoodIn wsX5_report wsX5_at := goodIn_r _ [12, 13, 14, 25, 26, 27, 28, 29, 30, 31, 32, 33, 34, 35, 36, 37, 38, 39, 40] (by decide +kernel) (by decide +kernel)
set_option maxRecDepth 20000 in
theorem gX5_report_X5_at : GoodIn wsX5_report (wsV RX5 69 RX5 yX5_at wsX5_at) := goodIn_app (goodIn_of _ (by decide +kernel)) ggX5_report_X5_at
set_option maxRecDepth 20000 in
theorem ggX5_report_X5_no : GoodIn wsX5_report wsX5_no := goodIn_r _ [18, 19, 25, 26, 27, 28, 29, 30, 31, 32, 33, 34, 35, 36, 37, 38, 39, 40] (by decide +kernel) (by decide +kernel)
set_option maxRecDepth 20000 in
theorem gX5_report_X5_no : GoodIn wsX5_report (wsV RX5 63 RX5 yX5_no wsX5_no) := goodIn_app (goodIn_of _ (by decide +kernel)) ggX5_report_X5_no
set_option maxRecDepth 20000 in
theorem ggX5_report_X5_reported : GoodIn wsX5_report wsX5_reported := goodIn_r _ [23, 1, 24, 15, 16, 17, 4, 18, 19, 25, 26, 27, 28, 29, 30, 31, 32, 33, 34, 35, 36, 37, 38, 39, 40] (by decide +kernel) (by decide +kernel)
set_option maxRecDepth 20000 in
theorem gX5_report_X5_reported : GoodIn wsX5_report (wsV RX5 79 RX5 yX5_reported wsX5_reported) := goodIn_app (goodIn_of _ (by decide +kernel)) ggX5_report_X5_reported
theorem dX5_report_0 : decode cX5_report 0 = .ok (.iload_n 1, 1) := by decide +kernel
theorem dX5_report_1 : decode cX5_report 1 = .ok (.invokestatic 55, 3) := by decide +kernel
theorem dX5_report_4 : decode cX5_report 4 = .ok (.ifCond .eq 7, 3) := by decide +kernel
theorem dX5_report_7 : decode cX5_report 7 = .ok (.iload_n 2, 1) := by decide +kernel
theorem dX5_report_8 : decode cX5_report 8 = .ok (.ifCond .ge 5, 3) := by decide +kernel
theorem dX5_report_11 : decode cX5_report 11 = .ok (.iconst (-1), 1) := by decide +kernel
theorem dX5_report_12 : decode cX5_report 12 = .ok (.ireturn, 1) := by decide +kernel
theorem dX5_report_13 : decode cX5_report 13 = .ok (.aload_n 0, 1) := by decide +kernel
theorem dX5_report_14 : decode cX5_report 14 = .ok (.iload_n 1, 1) := by decide +kernel
theorem dX5_report_15 : decode cX5_report 15 = .ok (.iload_n 2, 1) := by decide +kernel
theorem dX5_report_16 : decode cX5_report 16 = .ok (.invokevirtual 69, 3) := by decide +kernel
theorem dX5_report_19 : decode cX5_report 19 = .ok (.istore_n 3, 1) := by decide +kernel
theorem dX5_report_20 : decode cX5_report 20 = .ok (.iload_n 3, 1) := by decide +kernel
theorem dX5_report_21 : decode cX5_report 21 = .ok (.iconst (-1), 1) := by decide +kernel
theorem dX5_report_22 : decode cX5_report 22 = .ok (.if_icmp .eq 12, 3) := by decide +kernel
theorem dX5_report_25 : decode cX5_report 25 = .ok (.aload_n 0, 1) := by decide +kernel
theorem dX5_report_26 : decode cX5_report 26 = .ok (.getfield 16, 3) := by decide +kernel
theorem dX5_report_29 : decode cX5_report 29 = .ok (.iload_n 3, 1) := by decide +kernel
theorem dX5_report_30 : decode cX5_report 30 = .ok (.iaload, 1) := by decide +kernel
theorem dX5_report_31 : decode cX5_report 31 = .ok (.ifCond .ne 11, 3) := by decide +kernel
theorem dX5_report_34 : decode cX5_report 34 = .ok (.aload_n 0, 1) := by decide +kernel
theorem dX5_report_35 : decode cX5_report 35 = .ok (.iconst 1, 1) := by decide +kernel
theorem dX5_report_36 : decode cX5_report 36 = .ok (.invokevirtual 63, 3) := by decide +kernel
theorem dX5_report_39 : decode cX5_report 39 = .ok (.goto 8, 3) := by decide +kernel
theorem dX5_report_42 : decode cX5_report 42 = .ok (.aload_n 0, 1) := by decide +kernel
theorem dX5_report_43 : decode cX5_report 43 = .ok (.iload_n 3, 1) := by decide +kernel
theorem dX5_report_44 : decode cX5_report 44 = .ok (.invokevirtual 79, 3) := by decide +kernel
theorem dX5_report_47 : decode cX5_report 47 = .ok (.ireturn, 1) := by decide +kernel
set_option maxRecDepth 20000 in
theorem ggX5_draw_X5_isTrack : GoodIn wsX5_draw wsX5_isTrack := goodIn_r _ [10, 11, 12, 9, 13] (by decide +kernel) (by decide +kernel)
set_option maxRecDepth 20000 in
theorem gX5_draw_X5_isTrack : GoodIn wsX5_draw (va_wsS RX5 55 yX5_isTrack wsX5_isTrack) := goodIn_app (goodIn_of _ (by decide +kernel)) ggX5_draw_X5_isTrack
set_option maxRecDepth 20000 in
theorem ggX5_draw_X5_no : GoodIn wsX5_draw wsX5_no := goodIn_r _ [17, 18, 29, 30, 31, 32, 33, 34, 35, 36, 37, 38, 39, 40, 41, 42, 43, 44] (by decide +kernel) (by decide +kernel)
set_option maxRecDepth 20000 in
theorem gX5_draw_X5_no : GoodIn wsX5_draw (wsV RX5 63 RX5 yX5_no wsX5_no) := goodIn_app (goodIn_of _ (by decide +kernel)) ggX5_draw_X5_no
set_option maxRecDepth 20000 in
theorem ggX5_draw_X5_reported : GoodIn wsX5_draw wsX5_reported := goodIn_r _ [22, 5, 6, 14, 15, 16, 9, 17, 18, 29, 30, 31, 32, 33, 34, 35, 36, 37, 38, 39, 40, 41, 42, 43, 44] (by decide +kernel) (by decide +kernel)
set_option maxRecDepth 20000 in
theorem gX5_draw_X5_reported : GoodIn wsX5_draw (wsV RX5 79 RX5 yX5_reported wsX5_reported) := goodIn_app (goodIn_of _ (by decide +kernel)) ggX5_draw_X5_reported
set_option maxRecDepth 20000 in
theorem ggX5_draw_X5_loadOf : GoodIn wsX5_draw wsX5_loadOf := goodIn_r _ [26, 3, 27, 28, 29, 30, 31, 32, 33, 34, 35, 36, 37, 38, 39, 40, 41, 42, 43, 44] (by decide +kernel) (by decide +kernel)
set_option maxRecDepth 20000 in
theorem gX5_draw_X5_loadOf : GoodIn wsX5_draw (wsV RX5 66 RX5 yX5_loadOf wsX5_loadOf) := goodIn_app (goodIn_of _ (by decide +kernel)) ggX5_draw_X5_loadOf
theorem dX5_draw_0 : decode cX5_draw 0 = .ok (.iload_n 1, 1) := by decide +kernel
theorem dX5_draw_1 : decode cX5_draw 1 = .ok (.invokestatic 55, 3) := by decide +kernel
theorem dX5_draw_4 : decode cX5_draw 4 = .ok (.ifCond .ne 5, 3) := by decide +kernel
theorem dX5_draw_7 : decode cX5_draw 7 = .ok (.iconst (-1), 1) := by decide +kernel
theorem dX5_draw_8 : decode cX5_draw 8 = .ok (.ireturn, 1) := by decide +kernel
theorem dX5_draw_9 : decode cX5_draw 9 = .ok (.aload_n 0, 1) := by decide +kernel
theorem dX5_draw_10 : decode cX5_draw 10 = .ok (.getfield 32, 3) := by decide +kernel
theorem dX5_draw_13 : decode cX5_draw 13 = .ok (.iload_n 1, 1) := by decide +kernel
theorem dX5_draw_14 : decode cX5_draw 14 = .ok (.iaload, 1) := by decide +kernel
theorem dX5_draw_15 : decode cX5_draw 15 = .ok (.istore_n 2, 1) := by decide +kernel
theorem dX5_draw_16 : decode cX5_draw 16 = .ok (.iload_n 2, 1) := by decide +kernel
theorem dX5_draw_17 : decode cX5_draw 17 = .ok (.iconst (-1), 1) := by decide +kernel
theorem dX5_draw_18 : decode cX5_draw 18 = .ok (.if_icmp .ne 9, 3) := by decide +kernel
theorem dX5_draw_21 : decode cX5_draw 21 = .ok (.aload_n 0, 1) := by decide +kernel
theorem dX5_draw_22 : decode cX5_draw 22 = .ok (.iconst 1, 1) := by decide +kernel
theorem dX5_draw_23 : decode cX5_draw 23 = .ok (.invokevirtual 63, 3) := by decide +kernel
theorem dX5_draw_26 : decode cX5_draw 26 = .ok (.ireturn, 1) := by decide +kernel
theorem dX5_draw_27 : decode cX5_draw 27 = .ok (.aload_n 0, 1) := by decide +kernel
theorem dX5_draw_28 : decode cX5_draw 28 = .ok (.getfield 7, 3) := by decide +kernel
theorem dX5_draw_31 : decode cX5_draw 31 = .ok (.iload_n 2, 1) := by decide +kernel
theorem dX5_draw_32 : decode cX5_draw 32 = .ok (.iaload, 1) := by decide +kernel
theorem dX5_draw_33 : decode cX5_draw 33 = .ok (.iconst 1, 1) := by decide +kernel
theorem dX5_draw_34 : decode cX5_draw 34 = .ok (.if_icmp .eq 9, 3) := by decide +kernel
theorem dX5_draw_37 : decode cX5_draw 37 = .ok (.aload_n 0, 1) := by decide +kernel
theorem dX5_draw_38 : decode cX5_draw 38 = .ok (.iconst 2, 1) := by decide +kernel
theorem dX5_draw_39 : decode cX5_draw 39 = .ok (.invokevirtual 63, 3) := by decide +kernel
theorem dX5_draw_42 : decode cX5_draw 42 = .ok (.ireturn, 1) := by decide +kernel
theorem dX5_draw_43 : decode cX5_draw 43 = .ok (.bipush 10, 2) := by decide +kernel
theorem dX5_draw_45 : decode cX5_draw 45 = .ok (.aload_n 0, 1) := by decide +kernel
theorem dX5_draw_46 : decode cX5_draw 46 = .ok (.getfield 13, 3) := by decide +kernel
theorem dX5_draw_49 : decode cX5_draw 49 = .ok (.iload_n 2, 1) := by decide +kernel
theorem dX5_draw_50 : decode cX5_draw 50 = .ok (.iaload, 1) := by decide +kernel
theorem dX5_draw_51 : decode cX5_draw 51 = .ok (.imul, 1) := by decide +kernel
theorem dX5_draw_52 : decode cX5_draw 52 = .ok (.istore_n 3, 1) := by decide +kernel
theorem dX5_draw_53 : decode cX5_draw 53 = .ok (.iconst 0, 1) := by decide +kernel
theorem dX5_draw_54 : decode cX5_draw 54 = .ok (.istore 4, 2) := by decide +kernel
theorem dX5_draw_56 : decode cX5_draw 56 = .ok (.aload_n 0, 1) := by decide +kernel
theorem dX5_draw_57 : decode cX5_draw 57 = .ok (.getfield 25, 3) := by decide +kernel
theorem dX5_draw_60 : decode cX5_draw 60 = .ok (.iload_n 2, 1) := by decide +kernel
theorem dX5_draw_61 : decode cX5_draw 61 = .ok (.iaload, 1) := by decide +kernel
theorem dX5_draw_62 : decode cX5_draw 62 = .ok (.istore 5, 2) := by decide +kernel
theorem dX5_draw_64 : decode cX5_draw 64 = .ok (.iload 5, 2) := by decide +kernel
theorem dX5_draw_66 : decode cX5_draw 66 = .ok (.iconst (-1), 1) := by decide +kernel
theorem dX5_draw_67 : decode cX5_draw 67 = .ok (.if_icmp .eq 45, 3) := by decide +kernel
theorem dX5_draw_70 : decode cX5_draw 70 = .ok (.aload_n 0, 1) := by decide +kernel
theorem dX5_draw_71 : decode cX5_draw 71 = .ok (.getfield 16, 3) := by decide +kernel
theorem dX5_draw_74 : decode cX5_draw 74 = .ok (.iload 5, 2) := by decide +kernel
theorem dX5_draw_76 : decode cX5_draw 76 = .ok (.iaload, 1) := by decide +kernel
theorem dX5_draw_77 : decode cX5_draw 77 = .ok (.bipush 50, 2) := by decide +kernel
theorem dX5_draw_79 : decode cX5_draw 79 = .ok (.if_icmp .lt 10, 3) := by decide +kernel
theorem dX5_draw_82 : decode cX5_draw 82 = .ok (.aload_n 0, 1) := by decide +kernel
theorem dX5_draw_83 : decode cX5_draw 83 = .ok (.iload 5, 2) := by decide +kernel
theorem dX5_draw_85 : decode cX5_draw 85 = .ok (.invokevirtual 79, 3) := by decide +kernel
theorem dX5_draw_88 : decode cX5_draw 88 = .ok (.ireturn, 1) := by decide +kernel
theorem dX5_draw_89 : decode cX5_draw 89 = .ok (.iload 4, 2) := by decide +kernel
theorem dX5_draw_91 : decode cX5_draw 91 = .ok (.aload_n 0, 1) := by decide +kernel
theorem dX5_draw_92 : decode cX5_draw 92 = .ok (.iload 5, 2) := by decide +kernel
theorem dX5_draw_94 : decode cX5_draw 94 = .ok (.invokevirtual 66, 3) := by decide +kernel
theorem dX5_draw_97 : decode cX5_draw 97 = .ok (.iadd, 1) := by decide +kernel
theorem dX5_draw_98 : decode cX5_draw 98 = .ok (.istore 4, 2) := by decide +kernel
theorem dX5_draw_100 : decode cX5_draw 100 = .ok (.aload_n 0, 1) := by decide +kernel
theorem dX5_draw_101 : decode cX5_draw 101 = .ok (.getfield 25, 3) := by decide +kernel
theorem dX5_draw_104 : decode cX5_draw 104 = .ok (.iload 5, 2) := by decide +kernel
theorem dX5_draw_106 : decode cX5_draw 106 = .ok (.iaload, 1) := by decide +kernel
theorem dX5_draw_107 : decode cX5_draw 107 = .ok (.istore 5, 2) := by decide +kernel
theorem dX5_draw_109 : decode cX5_draw 109 = .ok (.goto (-45), 3) := by decide +kernel
theorem dX5_draw_112 : decode cX5_draw 112 = .ok (.iload 4, 2) := by decide +kernel
theorem dX5_draw_114 : decode cX5_draw 114 = .ok (.iload_n 3, 1) := by decide +kernel
theorem dX5_draw_115 : decode cX5_draw 115 = .ok (.if_icmp .le 18, 3) := by decide +kernel
theorem dX5_draw_118 : decode cX5_draw 118 = .ok (.aload_n 0, 1) := by decide +kernel
theorem dX5_draw_119 : decode cX5_draw 119 = .ok (.iload 4, 2) := by decide +kernel
theorem dX5_draw_121 : decode cX5_draw 121 = .ok (.iload_n 3, 1) := by decide +kernel
theorem dX5_draw_122 : decode cX5_draw 122 = .ok (.isub, 1) := by decide +kernel
theorem dX5_draw_123 : decode cX5_draw 123 = .ok (.putfield 76, 3) := by decide +kernel
theorem dX5_draw_126 : decode cX5_draw 126 = .ok (.aload_n 0, 1) := by decide +kernel
theorem dX5_draw_127 : decode cX5_draw 127 = .ok (.bipush 6, 2) := by decide +kernel
theorem dX5_draw_129 : decode cX5_draw 129 = .ok (.invokevirtual 63, 3) := by decide +kernel
theorem dX5_draw_132 : decode cX5_draw 132 = .ok (.ireturn, 1) := by decide +kernel
theorem dX5_draw_133 : decode cX5_draw 133 = .ok (.iload 4, 2) := by decide +kernel
theorem dX5_draw_135 : decode cX5_draw 135 = .ok (.ireturn, 1) := by decide +kernel
theorem dX5_level_0 : decode cX5_level 0 = .ok (.aload_n 0, 1) := by decide +kernel
theorem dX5_level_1 : decode cX5_level 1 = .ok (.getfield 76, 3) := by decide +kernel
theorem dX5_level_4 : decode cX5_level 4 = .ok (.ireturn, 1) := by decide +kernel
set_option maxRecDepth 20000 in
theorem ggX5_clear_X5_empty : GoodIn wsX5_clear wsX5_empty := goodIn_r _ [6, 7, 8, 9, 10, 11, 12, 13, 14, 15, 16, 17, 18, 19, 20, 21, 22, 23, 24] (by decide +kernel) (by decide +kernel)
set_option maxRecDepth 20000 in
theorem gX5_clear_X5_empty : GoodIn wsX5_clear (wsV RX5 82 RX5 yX5_empty wsX5_empty) := goodIn_app (goodIn_of _ (by decide +kernel)) ggX5_clear_X5_empty
theorem dX5_clear_0 : decode cX5_clear 0 = .ok (.iconst 0, 1) := by decide +kernel
theorem dX5_clear_1 : decode cX5_clear 1 = .ok (.istore_n 1, 1) := by decide +kernel
theorem dX5_clear_2 : decode cX5_clear 2 = .ok (.iload_n 1, 1) := by decide +kernel
theorem dX5_clear_3 : decode cX5_clear 3 = .ok (.aload_n 0, 1) := by decide +kernel
theorem dX5_clear_4 : decode cX5_clear 4 = .ok (.getfield 35, 3) := by decide +kernel
theorem dX5_clear_7 : decode cX5_clear 7 = .ok (.if_icmp .ge 14, 3) := by decide +kernel
theorem dX5_clear_10 : decode cX5_clear 10 = .ok (.aload_n 0, 1) := by decide +kernel
theorem dX5_clear_11 : decode cX5_clear 11 = .ok (.iload_n 1, 1) := by decide +kernel
theorem dX5_clear_12 : decode cX5_clear 12 = .ok (.invokevirtual 82, 3) := by decide +kernel
theorem dX5_clear_15 : decode cX5_clear 15 = .ok (.iinc 1 1, 3) := by decide +kernel
theorem dX5_clear_18 : decode cX5_clear 18 = .ok (.goto (-16), 3) := by decide +kernel
theorem dX5_clear_21 : decode cX5_clear 21 = .ok (.return_, 1) := by decide +kernel
theorem dX5_empty_0 : decode cX5_empty 0 = .ok (.aload_n 0, 1) := by decide +kernel
theorem dX5_empty_1 : decode cX5_empty 1 = .ok (.getfield 39, 3) := by decide +kernel
theorem dX5_empty_4 : decode cX5_empty 4 = .ok (.iload_n 1, 1) := by decide +kernel
theorem dX5_empty_5 : decode cX5_empty 5 = .ok (.iaload, 1) := by decide +kernel
theorem dX5_empty_6 : decode cX5_empty 6 = .ok (.iconst (-1), 1) := by decide +kernel
theorem dX5_empty_7 : decode cX5_empty 7 = .ok (.if_icmp .eq 22, 3) := by decide +kernel
theorem dX5_empty_10 : decode cX5_empty 10 = .ok (.aload_n 0, 1) := by decide +kernel
theorem dX5_empty_11 : decode cX5_empty 11 = .ok (.getfield 28, 3) := by decide +kernel
theorem dX5_empty_14 : decode cX5_empty 14 = .ok (.aload_n 0, 1) := by decide +kernel
theorem dX5_empty_15 : decode cX5_empty 15 = .ok (.getfield 39, 3) := by decide +kernel
theorem dX5_empty_18 : decode cX5_empty 18 = .ok (.iload_n 1, 1) := by decide +kernel
theorem dX5_empty_19 : decode cX5_empty 19 = .ok (.iaload, 1) := by decide +kernel
theorem dX5_empty_20 : decode cX5_empty 20 = .ok (.iconst 0, 1) := by decide +kernel
theorem dX5_empty_21 : decode cX5_empty 21 = .ok (.bastore, 1) := by decide +kernel
theorem dX5_empty_22 : decode cX5_empty 22 = .ok (.aload_n 0, 1) := by decide +kernel
theorem dX5_empty_23 : decode cX5_empty 23 = .ok (.getfield 39, 3) := by decide +kernel
theorem dX5_empty_26 : decode cX5_empty 26 = .ok (.iload_n 1, 1) := by decide +kernel
theorem dX5_empty_27 : decode cX5_empty 27 = .ok (.iconst (-1), 1) := by decide +kernel
theorem dX5_empty_28 : decode cX5_empty 28 = .ok (.iastore, 1) := by decide +kernel
theorem dX5_empty_29 : decode cX5_empty 29 = .ok (.return_, 1) := by decide +kernel
set_option maxRecDepth 20000 in
theorem ggX5_siding_X5_no : GoodIn wsX5_siding wsX5_no := goodIn_r _ [8, 9, 19, 20, 21, 22, 23, 24, 25, 26, 27, 28, 29, 30, 31, 32, 33, 34] (by decide +kernel) (by decide +kernel)
set_option maxRecDepth 20000 in
theorem gX5_siding_X5_no : GoodIn wsX5_siding (wsV RX5 63 RX5 yX5_no wsX5_no) := goodIn_app (goodIn_of _ (by decide +kernel)) ggX5_siding_X5_no
set_option maxRecDepth 20000 in
theorem ggX5_siding_X5_clear : GoodIn wsX5_siding wsX5_clear := goodIn_r _ [13, 1, 14, 15, 16, 7, 17, 3, 18, 19, 20, 21, 22, 23, 24, 25, 26, 27, 28, 29, 30, 31, 32, 33, 34] (by decide +kernel) (by decide +kernel)
set_option maxRecDepth 20000 in
theorem gX5_siding_X5_clear : GoodIn wsX5_siding (wsV RX5 86 RX5 yX5_clear wsX5_clear) := goodIn_app (goodIn_of _ (by decide +kernel)) ggX5_siding_X5_clear
theorem dX5_siding_0 : decode cX5_siding 0 = .ok (.iload_n 1, 1) := by decide +kernel
theorem dX5_siding_1 : decode cX5_siding 1 = .ok (.bipush 12, 2) := by decide +kernel
theorem dX5_siding_3 : decode cX5_siding 3 = .ok (.if_icmp .le 5, 3) := by decide +kernel
theorem dX5_siding_6 : decode cX5_siding 6 = .ok (.iconst (-1), 1) := by decide +kernel
theorem dX5_siding_7 : decode cX5_siding 7 = .ok (.ireturn, 1) := by decide +kernel
theorem dX5_siding_8 : decode cX5_siding 8 = .ok (.iload_n 1, 1) := by decide +kernel
theorem dX5_siding_9 : decode cX5_siding 9 = .ok (.ifCond .ge 9, 3) := by decide +kernel
theorem dX5_siding_12 : decode cX5_siding 12 = .ok (.aload_n 0, 1) := by decide +kernel
theorem dX5_siding_13 : decode cX5_siding 13 = .ok (.iconst 4, 1) := by decide +kernel
theorem dX5_siding_14 : decode cX5_siding 14 = .ok (.invokevirtual 63, 3) := by decide +kernel
theorem dX5_siding_17 : decode cX5_siding 17 = .ok (.ireturn, 1) := by decide +kernel
theorem dX5_siding_18 : decode cX5_siding 18 = .ok (.aload_n 0, 1) := by decide +kernel
theorem dX5_siding_19 : decode cX5_siding 19 = .ok (.invokevirtual 86, 3) := by decide +kernel
theorem dX5_siding_22 : decode cX5_siding 22 = .ok (.aload_n 0, 1) := by decide +kernel
theorem dX5_siding_23 : decode cX5_siding 23 = .ok (.iload_n 1, 1) := by decide +kernel
theorem dX5_siding_24 : decode cX5_siding 24 = .ok (.putfield 35, 3) := by decide +kernel
theorem dX5_siding_27 : decode cX5_siding 27 = .ok (.aload_n 0, 1) := by decide +kernel
theorem dX5_siding_28 : decode cX5_siding 28 = .ok (.iload_n 2, 1) := by decide +kernel
theorem dX5_siding_29 : decode cX5_siding 29 = .ok (.putfield 89, 3) := by decide +kernel
theorem dX5_siding_32 : decode cX5_siding 32 = .ok (.iconst 0, 1) := by decide +kernel
theorem dX5_siding_33 : decode cX5_siding 33 = .ok (.istore_n 3, 1) := by decide +kernel
theorem dX5_siding_34 : decode cX5_siding 34 = .ok (.iload_n 3, 1) := by decide +kernel
theorem dX5_siding_35 : decode cX5_siding 35 = .ok (.bipush 12, 2) := by decide +kernel
theorem dX5_siding_37 : decode cX5_siding 37 = .ok (.if_icmp .ge 16, 3) := by decide +kernel
theorem dX5_siding_40 : decode cX5_siding 40 = .ok (.aload_n 0, 1) := by decide +kernel
theorem dX5_siding_41 : decode cX5_siding 41 = .ok (.getfield 39, 3) := by decide +kernel
theorem dX5_siding_44 : decode cX5_siding 44 = .ok (.iload_n 3, 1) := by decide +kernel
theorem dX5_siding_45 : decode cX5_siding 45 = .ok (.iconst (-1), 1) := by decide +kernel
theorem dX5_siding_46 : decode cX5_siding 46 = .ok (.iastore, 1) := by decide +kernel
theorem dX5_siding_47 : decode cX5_siding 47 = .ok (.iinc 3 1, 3) := by decide +kernel
theorem dX5_siding_50 : decode cX5_siding 50 = .ok (.goto (-16), 3) := by decide +kernel
theorem dX5_siding_53 : decode cX5_siding 53 = .ok (.iload_n 1, 1) := by decide +kernel
theorem dX5_siding_54 : decode cX5_siding 54 = .ok (.ireturn, 1) := by decide +kernel
set_option maxRecDepth 20000 in
theorem ggX5_room_X5_no : GoodIn wsX5_room wsX5_no := goodIn_r _ [6, 7, 8, 9, 10, 11, 12, 13, 14, 15, 16, 17, 18, 19, 20, 21, 22, 23] (by decide +kernel) (by decide +kernel)
set_option maxRecDepth 20000 in
theorem gX5_room_X5_no : GoodIn wsX5_room (wsV RX5 63 RX5 yX5_no wsX5_no) := goodIn_app (goodIn_of _ (by decide +kernel)) ggX5_room_X5_no
theorem dX5_room_0 : decode cX5_room 0 = .ok (.aload_n 0, 1) := by decide +kernel
theorem dX5_room_1 : decode cX5_room 1 = .ok (.getfield 35, 3) := by decide +kernel
theorem dX5_room_4 : decode cX5_room 4 = .ok (.iconst (-1), 1) := by decide +kernel
theorem dX5_room_5 : decode cX5_room 5 = .ok (.if_icmp .ne 11, 3) := by decide +kernel
theorem dX5_room_8 : decode cX5_room 8 = .ok (.aload_n 0, 1) := by decide +kernel
theorem dX5_room_9 : decode cX5_room 9 = .ok (.iconst 1, 1) := by decide +kernel
theorem dX5_room_10 : decode cX5_room 10 = .ok (.invokevirtual 63, 3) := by decide +kernel
theorem dX5_room_13 : decode cX5_room 13 = .ok (.goto 7, 3) := by decide +kernel
theorem dX5_room_16 : decode cX5_room 16 = .ok (.aload_n 0, 1) := by decide +kernel
theorem dX5_room_17 : decode cX5_room 17 = .ok (.getfield 35, 3) := by decide +kernel
theorem dX5_room_20 : decode cX5_room 20 = .ok (.ireturn, 1) := by decide +kernel
set_option maxRecDepth 20000 in
theorem ggX5_stow_X5_isTrack : GoodIn wsX5_stow wsX5_isTrack := goodIn_r _ [10, 11, 12, 9, 13] (by decide +kernel) (by decide +kernel)
set_option maxRecDepth 20000 in
theorem gX5_stow_X5_isTrack : GoodIn wsX5_stow (va_wsS RX5 55 yX5_isTrack wsX5_isTrack) := goodIn_app (goodIn_of _ (by decide +kernel)) ggX5_stow_X5_isTrack
set_option maxRecDepth 20000 in
theorem ggX5_stow_X5_no : GoodIn wsX5_stow wsX5_no := goodIn_r _ [17, 18, 28, 29, 30, 31, 32, 33, 34, 35, 36, 37, 38, 39, 40, 41, 42, 43] (by decide +kernel) (by decide +kernel)
set_option maxRecDepth 20000 in
theorem gX5_stow_X5_no : GoodIn wsX5_stow (wsV RX5 63 RX5 yX5_no wsX5_no) := goodIn_app (goodIn_of _ (by decide +kernel)) ggX5_stow_X5_no
set_option maxRecDepth 20000 in
theorem ggX5_stow_X5_in : GoodIn wsX5_stow wsX5_in := goodIn_r _ [13] (by decide +kernel) (by decide +kernel)
set_option maxRecDepth 20000 in
theorem gX5_stow_X5_in : GoodIn wsX5_stow (va_wsS RX5 51 yX5_in wsX5_in) := goodIn_app (goodIn_of _ (by decide +kernel)) ggX5_stow_X5_in
set_option maxRecDepth 20000 in
theorem ggX5_stow_X5_empty : GoodIn wsX5_stow wsX5_empty := goodIn_r _ [22, 6, 23, 28, 29, 30, 31, 32, 33, 34, 35, 36, 37, 38, 39, 40, 41, 42, 43] (by decide +kernel) (by decide +kernel)
set_option maxRecDepth 20000 in
theorem gX5_stow_X5_empty : GoodIn wsX5_stow (wsV RX5 82 RX5 yX5_empty wsX5_empty) := goodIn_app (goodIn_of _ (by decide +kernel)) ggX5_stow_X5_empty
set_option maxRecDepth 20000 in
theorem ggX5_stow_X5_countOf : GoodIn wsX5_stow wsX5_countOf := goodIn_r _ [27, 1, 5, 28, 29, 30, 31, 32, 33, 34, 35, 36, 37, 38, 39, 40, 41, 42, 43] (by decide +kernel) (by decide +kernel)
set_option maxRecDepth 20000 in
theorem gX5_stow_X5_countOf : GoodIn wsX5_stow (wsV RX5 59 RX5 yX5_countOf wsX5_countOf) := goodIn_app (goodIn_of _ (by decide +kernel)) ggX5_stow_X5_countOf
theorem dX5_stow_0 : decode cX5_stow 0 = .ok (.iload_n 2, 1) := by decide +kernel
theorem dX5_stow_1 : decode cX5_stow 1 = .ok (.invokestatic 55, 3) := by decide +kernel
theorem dX5_stow_4 : decode cX5_stow 4 = .ok (.ifCond .ne 5, 3) := by decide +kernel
theorem dX5_stow_7 : decode cX5_stow 7 = .ok (.iconst (-1), 1) := by decide +kernel
theorem dX5_stow_8 : decode cX5_stow 8 = .ok (.ireturn, 1) := by decide +kernel
theorem dX5_stow_9 : decode cX5_stow 9 = .ok (.aload_n 0, 1) := by decide +kernel
theorem dX5_stow_10 : decode cX5_stow 10 = .ok (.getfield 32, 3) := by decide +kernel
theorem dX5_stow_13 : decode cX5_stow 13 = .ok (.iload_n 2, 1) := by decide +kernel
theorem dX5_stow_14 : decode cX5_stow 14 = .ok (.iaload, 1) := by decide +kernel
theorem dX5_stow_15 : decode cX5_stow 15 = .ok (.istore_n 3, 1) := by decide +kernel
theorem dX5_stow_16 : decode cX5_stow 16 = .ok (.iload_n 3, 1) := by decide +kernel
theorem dX5_stow_17 : decode cX5_stow 17 = .ok (.iconst (-1), 1) := by decide +kernel
theorem dX5_stow_18 : decode cX5_stow 18 = .ok (.if_icmp .eq 19, 3) := by decide +kernel
theorem dX5_stow_21 : decode cX5_stow 21 = .ok (.aload_n 0, 1) := by decide +kernel
theorem dX5_stow_22 : decode cX5_stow 22 = .ok (.getfield 7, 3) := by decide +kernel
theorem dX5_stow_25 : decode cX5_stow 25 = .ok (.iload_n 3, 1) := by decide +kernel
theorem dX5_stow_26 : decode cX5_stow 26 = .ok (.iaload, 1) := by decide +kernel
theorem dX5_stow_27 : decode cX5_stow 27 = .ok (.iconst 1, 1) := by decide +kernel
theorem dX5_stow_28 : decode cX5_stow 28 = .ok (.if_icmp .ne 9, 3) := by decide +kernel
theorem dX5_stow_31 : decode cX5_stow 31 = .ok (.aload_n 0, 1) := by decide +kernel
theorem dX5_stow_32 : decode cX5_stow 32 = .ok (.iconst 2, 1) := by decide +kernel
theorem dX5_stow_33 : decode cX5_stow 33 = .ok (.invokevirtual 63, 3) := by decide +kernel
theorem dX5_stow_36 : decode cX5_stow 36 = .ok (.ireturn, 1) := by decide +kernel
theorem dX5_stow_37 : decode cX5_stow 37 = .ok (.aload_n 0, 1) := by decide +kernel
theorem dX5_stow_38 : decode cX5_stow 38 = .ok (.getfield 35, 3) := by decide +kernel
theorem dX5_stow_41 : decode cX5_stow 41 = .ok (.iconst (-1), 1) := by decide +kernel
theorem dX5_stow_42 : decode cX5_stow 42 = .ok (.if_icmp .ne 9, 3) := by decide +kernel
theorem dX5_stow_45 : decode cX5_stow 45 = .ok (.aload_n 0, 1) := by decide +kernel
theorem dX5_stow_46 : decode cX5_stow 46 = .ok (.iconst 1, 1) := by decide +kernel
theorem dX5_stow_47 : decode cX5_stow 47 = .ok (.invokevirtual 63, 3) := by decide +kernel
theorem dX5_stow_50 : decode cX5_stow 50 = .ok (.ireturn, 1) := by decide +kernel
theorem dX5_stow_51 : decode cX5_stow 51 = .ok (.iload_n 1, 1) := by decide +kernel
theorem dX5_stow_52 : decode cX5_stow 52 = .ok (.iconst 0, 1) := by decide +kernel
theorem dX5_stow_53 : decode cX5_stow 53 = .ok (.aload_n 0, 1) := by decide +kernel
theorem dX5_stow_54 : decode cX5_stow 54 = .ok (.getfield 35, 3) := by decide +kernel
theorem dX5_stow_57 : decode cX5_stow 57 = .ok (.iconst 1, 1) := by decide +kernel
theorem dX5_stow_58 : decode cX5_stow 58 = .ok (.isub, 1) := by decide +kernel
theorem dX5_stow_59 : decode cX5_stow 59 = .ok (.invokestatic 51, 3) := by decide +kernel
theorem dX5_stow_62 : decode cX5_stow 62 = .ok (.ifCond .ne 9, 3) := by decide +kernel
theorem dX5_stow_65 : decode cX5_stow 65 = .ok (.aload_n 0, 1) := by decide +kernel
theorem dX5_stow_66 : decode cX5_stow 66 = .ok (.iconst 5, 1) := by decide +kernel
theorem dX5_stow_67 : decode cX5_stow 67 = .ok (.invokevirtual 63, 3) := by decide +kernel
theorem dX5_stow_70 : decode cX5_stow 70 = .ok (.ireturn, 1) := by decide +kernel
theorem dX5_stow_71 : decode cX5_stow 71 = .ok (.aload_n 0, 1) := by decide +kernel
theorem dX5_stow_72 : decode cX5_stow 72 = .ok (.getfield 89, 3) := by decide +kernel
theorem dX5_stow_75 : decode cX5_stow 75 = .ok (.ifCond .eq 24, 3) := by decide +kernel
theorem dX5_stow_78 : decode cX5_stow 78 = .ok (.iload_n 3, 1) := by decide +kernel
theorem dX5_stow_79 : decode cX5_stow 79 = .ok (.iconst (-1), 1) := by decide +kernel
theorem dX5_stow_80 : decode cX5_stow 80 = .ok (.if_icmp .eq 19, 3) := by decide +kernel
theorem dX5_stow_83 : decode cX5_stow 83 = .ok (.aload_n 0, 1) := by decide +kernel
theorem dX5_stow_84 : decode cX5_stow 84 = .ok (.getfield 7, 3) := by decide +kernel
theorem dX5_stow_87 : decode cX5_stow 87 = .ok (.iload_n 3, 1) := by decide +kernel
theorem dX5_stow_88 : decode cX5_stow 88 = .ok (.iaload, 1) := by decide +kernel
theorem dX5_stow_89 : decode cX5_stow 89 = .ok (.iconst 2, 1) := by decide +kernel
theorem dX5_stow_90 : decode cX5_stow 90 = .ok (.if_icmp .ne 9, 3) := by decide +kernel
theorem dX5_stow_93 : decode cX5_stow 93 = .ok (.aload_n 0, 1) := by decide +kernel
theorem dX5_stow_94 : decode cX5_stow 94 = .ok (.iconst 3, 1) := by decide +kernel
theorem dX5_stow_95 : decode cX5_stow 95 = .ok (.invokevirtual 63, 3) := by decide +kernel
theorem dX5_stow_98 : decode cX5_stow 98 = .ok (.ireturn, 1) := by decide +kernel
theorem dX5_stow_99 : decode cX5_stow 99 = .ok (.aload_n 0, 1) := by decide +kernel
theorem dX5_stow_100 : decode cX5_stow 100 = .ok (.iload_n 1, 1) := by decide +kernel
theorem dX5_stow_101 : decode cX5_stow 101 = .ok (.invokevirtual 82, 3) := by decide +kernel
theorem dX5_stow_104 : decode cX5_stow 104 = .ok (.iload_n 3, 1) := by decide +kernel
theorem dX5_stow_105 : decode cX5_stow 105 = .ok (.iconst (-1), 1) := by decide +kernel
theorem dX5_stow_106 : decode cX5_stow 106 = .ok (.if_icmp .ne 9, 3) := by decide +kernel
theorem dX5_stow_109 : decode cX5_stow 109 = .ok (.aload_n 0, 1) := by decide +kernel
theorem dX5_stow_110 : decode cX5_stow 110 = .ok (.iconst 1, 1) := by decide +kernel
theorem dX5_stow_111 : decode cX5_stow 111 = .ok (.invokevirtual 63, 3) := by decide +kernel
theorem dX5_stow_114 : decode cX5_stow 114 = .ok (.ireturn, 1) := by decide +kernel
theorem dX5_stow_115 : decode cX5_stow 115 = .ok (.aload_n 0, 1) := by decide +kernel
theorem dX5_stow_116 : decode cX5_stow 116 = .ok (.getfield 32, 3) := by decide +kernel
theorem dX5_stow_119 : decode cX5_stow 119 = .ok (.iload_n 2, 1) := by decide +kernel
theorem dX5_stow_120 : decode cX5_stow 120 = .ok (.aload_n 0, 1) := by decide +kernel
theorem dX5_stow_121 : decode cX5_stow 121 = .ok (.getfield 25, 3) := by decide +kernel
theorem dX5_stow_124 : decode cX5_stow 124 = .ok (.iload_n 3, 1) := by decide +kernel
theorem dX5_stow_125 : decode cX5_stow 125 = .ok (.iaload, 1) := by decide +kernel
theorem dX5_stow_126 : decode cX5_stow 126 = .ok (.iastore, 1) := by decide +kernel
theorem dX5_stow_127 : decode cX5_stow 127 = .ok (.aload_n 0, 1) := by decide +kernel
theorem dX5_stow_128 : decode cX5_stow 128 = .ok (.getfield 25, 3) := by decide +kernel
theorem dX5_stow_131 : decode cX5_stow 131 = .ok (.iload_n 3, 1) := by decide +kernel
theorem dX5_stow_132 : decode cX5_stow 132 = .ok (.iconst (-1), 1) := by decide +kernel
theorem dX5_stow_133 : decode cX5_stow 133 = .ok (.iastore, 1) := by decide +kernel
theorem dX5_stow_134 : decode cX5_stow 134 = .ok (.aload_n 0, 1) := by decide +kernel
theorem dX5_stow_135 : decode cX5_stow 135 = .ok (.getfield 39, 3) := by decide +kernel
theorem dX5_stow_138 : decode cX5_stow 138 = .ok (.iload_n 1, 1) := by decide +kernel
theorem dX5_stow_139 : decode cX5_stow 139 = .ok (.iload_n 3, 1) := by decide +kernel
theorem dX5_stow_140 : decode cX5_stow 140 = .ok (.iastore, 1) := by decide +kernel
theorem dX5_stow_141 : decode cX5_stow 141 = .ok (.aload_n 0, 1) := by decide +kernel
theorem dX5_stow_142 : decode cX5_stow 142 = .ok (.iload_n 2, 1) := by decide +kernel
theorem dX5_stow_143 : decode cX5_stow 143 = .ok (.invokevirtual 59, 3) := by decide +kernel
theorem dX5_stow_146 : decode cX5_stow 146 = .ok (.ireturn, 1) := by decide +kernel
set_option maxRecDepth 20000 in
theorem ggX5_fetch_X5_isTrack : GoodIn wsX5_fetch wsX5_isTrack := goodIn_r _ [8, 9, 10, 7, 11] (by decide +kernel) (by decide +kernel)
set_option maxRecDepth 20000 in
theorem gX5_fetch_X5_isTrack : GoodIn wsX5_fetch (va_wsS RX5 55 yX5_isTrack wsX5_isTrack) := goodIn_app (goodIn_of _ (by decide +kernel)) ggX5_fetch_X5_isTrack
set_option maxRecDepth 20000 in
theorem ggX5_fetch_X5_no : GoodIn wsX5_fetch wsX5_no := goodIn_r _ [15, 16, 21, 22, 23, 24, 25, 26, 27, 28, 29, 30, 31, 32, 33, 34, 35, 36] (by decide +kernel) (by decide +kernel)
set_option maxRecDepth 20000 in
theorem gX5_fetch_X5_no : GoodIn wsX5_fetch (wsV RX5 63 RX5 yX5_no wsX5_no) := goodIn_app (goodIn_of _ (by decide +kernel)) ggX5_fetch_X5_no
set_option maxRecDepth 20000 in
theorem ggX5_fetch_X5_in : GoodIn wsX5_fetch wsX5_in := goodIn_r _ [11] (by decide +kernel) (by decide +kernel)
set_option maxRecDepth 20000 in
theorem gX5_fetch_X5_in : GoodIn wsX5_fetch (va_wsS RX5 51 yX5_in wsX5_in) := goodIn_app (goodIn_of _ (by decide +kernel)) ggX5_fetch_X5_in
set_option maxRecDepth 20000 in
theorem ggX5_fetch_X5_countOf : GoodIn wsX5_fetch wsX5_countOf := goodIn_r _ [20, 4, 3, 21, 22, 23, 24, 25, 26, 27, 28, 29, 30, 31, 32, 33, 34, 35, 36] (by decide +kernel) (by decide +kernel)
set_option maxRecDepth 20000 in
theorem gX5_fetch_X5_countOf : GoodIn wsX5_fetch (wsV RX5 59 RX5 yX5_countOf wsX5_countOf) := goodIn_app (goodIn_of _ (by decide +kernel)) ggX5_fetch_X5_countOf
theorem dX5_fetch_0 : decode cX5_fetch 0 = .ok (.iload_n 2, 1) := by decide +kernel
theorem dX5_fetch_1 : decode cX5_fetch 1 = .ok (.invokestatic 55, 3) := by decide +kernel
theorem dX5_fetch_4 : decode cX5_fetch 4 = .ok (.ifCond .ne 5, 3) := by decide +kernel
theorem dX5_fetch_7 : decode cX5_fetch 7 = .ok (.iconst (-1), 1) := by decide +kernel
theorem dX5_fetch_8 : decode cX5_fetch 8 = .ok (.ireturn, 1) := by decide +kernel
theorem dX5_fetch_9 : decode cX5_fetch 9 = .ok (.aload_n 0, 1) := by decide +kernel
theorem dX5_fetch_10 : decode cX5_fetch 10 = .ok (.getfield 35, 3) := by decide +kernel
theorem dX5_fetch_13 : decode cX5_fetch 13 = .ok (.iconst (-1), 1) := by decide +kernel
theorem dX5_fetch_14 : decode cX5_fetch 14 = .ok (.if_icmp .ne 9, 3) := by decide +kernel
theorem dX5_fetch_17 : decode cX5_fetch 17 = .ok (.aload_n 0, 1) := by decide +kernel
theorem dX5_fetch_18 : decode cX5_fetch 18 = .ok (.iconst 1, 1) := by decide +kernel
theorem dX5_fetch_19 : decode cX5_fetch 19 = .ok (.invokevirtual 63, 3) := by decide +kernel
theorem dX5_fetch_22 : decode cX5_fetch 22 = .ok (.ireturn, 1) := by decide +kernel
theorem dX5_fetch_23 : decode cX5_fetch 23 = .ok (.iload_n 1, 1) := by decide +kernel
theorem dX5_fetch_24 : decode cX5_fetch 24 = .ok (.iconst 0, 1) := by decide +kernel
theorem dX5_fetch_25 : decode cX5_fetch 25 = .ok (.aload_n 0, 1) := by decide +kernel
theorem dX5_fetch_26 : decode cX5_fetch 26 = .ok (.getfield 35, 3) := by decide +kernel
theorem dX5_fetch_29 : decode cX5_fetch 29 = .ok (.iconst 1, 1) := by decide +kernel
theorem dX5_fetch_30 : decode cX5_fetch 30 = .ok (.isub, 1) := by decide +kernel
theorem dX5_fetch_31 : decode cX5_fetch 31 = .ok (.invokestatic 51, 3) := by decide +kernel
theorem dX5_fetch_34 : decode cX5_fetch 34 = .ok (.ifCond .ne 9, 3) := by decide +kernel
theorem dX5_fetch_37 : decode cX5_fetch 37 = .ok (.aload_n 0, 1) := by decide +kernel
theorem dX5_fetch_38 : decode cX5_fetch 38 = .ok (.iconst 5, 1) := by decide +kernel
theorem dX5_fetch_39 : decode cX5_fetch 39 = .ok (.invokevirtual 63, 3) := by decide +kernel
theorem dX5_fetch_42 : decode cX5_fetch 42 = .ok (.ireturn, 1) := by decide +kernel
theorem dX5_fetch_43 : decode cX5_fetch 43 = .ok (.aload_n 0, 1) := by decide +kernel
theorem dX5_fetch_44 : decode cX5_fetch 44 = .ok (.getfield 39, 3) := by decide +kernel
theorem dX5_fetch_47 : decode cX5_fetch 47 = .ok (.iload_n 1, 1) := by decide +kernel
theorem dX5_fetch_48 : decode cX5_fetch 48 = .ok (.iaload, 1) := by decide +kernel
theorem dX5_fetch_49 : decode cX5_fetch 49 = .ok (.istore_n 3, 1) := by decide +kernel
theorem dX5_fetch_50 : decode cX5_fetch 50 = .ok (.iload_n 3, 1) := by decide +kernel
theorem dX5_fetch_51 : decode cX5_fetch 51 = .ok (.iconst (-1), 1) := by decide +kernel
theorem dX5_fetch_52 : decode cX5_fetch 52 = .ok (.if_icmp .ne 9, 3) := by decide +kernel
theorem dX5_fetch_55 : decode cX5_fetch 55 = .ok (.aload_n 0, 1) := by decide +kernel
theorem dX5_fetch_56 : decode cX5_fetch 56 = .ok (.iconst 1, 1) := by decide +kernel
theorem dX5_fetch_57 : decode cX5_fetch 57 = .ok (.invokevirtual 63, 3) := by decide +kernel
theorem dX5_fetch_60 : decode cX5_fetch 60 = .ok (.ireturn, 1) := by decide +kernel
theorem dX5_fetch_61 : decode cX5_fetch 61 = .ok (.aload_n 0, 1) := by decide +kernel
theorem dX5_fetch_62 : decode cX5_fetch 62 = .ok (.getfield 39, 3) := by decide +kernel
theorem dX5_fetch_65 : decode cX5_fetch 65 = .ok (.iload_n 1, 1) := by decide +kernel
theorem dX5_fetch_66 : decode cX5_fetch 66 = .ok (.iconst (-1), 1) := by decide +kernel
theorem dX5_fetch_67 : decode cX5_fetch 67 = .ok (.iastore, 1) := by decide +kernel
theorem dX5_fetch_68 : decode cX5_fetch 68 = .ok (.aload_n 0, 1) := by decide +kernel
theorem dX5_fetch_69 : decode cX5_fetch 69 = .ok (.getfield 25, 3) := by decide +kernel
theorem dX5_fetch_72 : decode cX5_fetch 72 = .ok (.iload_n 3, 1) := by decide +kernel
theorem dX5_fetch_73 : decode cX5_fetch 73 = .ok (.aload_n 0, 1) := by decide +kernel
theorem dX5_fetch_74 : decode cX5_fetch 74 = .ok (.getfield 32, 3) := by decide +kernel
theorem dX5_fetch_77 : decode cX5_fetch 77 = .ok (.iload_n 2, 1) := by decide +kernel
theorem dX5_fetch_78 : decode cX5_fetch 78 = .ok (.iaload, 1) := by decide +kernel
theorem dX5_fetch_79 : decode cX5_fetch 79 = .ok (.iastore, 1) := by decide +kernel
theorem dX5_fetch_80 : decode cX5_fetch 80 = .ok (.aload_n 0, 1) := by decide +kernel
theorem dX5_fetch_81 : decode cX5_fetch 81 = .ok (.getfield 32, 3) := by decide +kernel
theorem dX5_fetch_84 : decode cX5_fetch 84 = .ok (.iload_n 2, 1) := by decide +kernel
theorem dX5_fetch_85 : decode cX5_fetch 85 = .ok (.iload_n 3, 1) := by decide +kernel
theorem dX5_fetch_86 : decode cX5_fetch 86 = .ok (.iastore, 1) := by decide +kernel
theorem dX5_fetch_87 : decode cX5_fetch 87 = .ok (.aload_n 0, 1) := by decide +kernel
theorem dX5_fetch_88 : decode cX5_fetch 88 = .ok (.iload_n 2, 1) := by decide +kernel
theorem dX5_fetch_89 : decode cX5_fetch 89 = .ok (.invokevirtual 59, 3) := by decide +kernel
theorem dX5_fetch_92 : decode cX5_fetch 92 = .ok (.ireturn, 1) := by decide +kernel
set_option maxRecDepth 20000 in
theorem ggX5_plan_X5_no : GoodIn wsX5_plan wsX5_no := goodIn_r _ [8, 9, 10, 11, 12, 13, 14, 15, 16, 17, 18, 19, 20, 21, 22, 23, 24, 25] (by decide +kernel) (by decide +kernel)
set_option maxRecDepth 20000 in
theorem gX5_plan_X5_no : GoodIn wsX5_plan (wsV RX5 63 RX5 yX5_no wsX5_no) := goodIn_app (goodIn_of _ (by decide +kernel)) ggX5_plan_X5_no
theorem dX5_plan_0 : decode cX5_plan 0 = .ok (.iload_n 1, 1) := by decide +kernel
theorem dX5_plan_1 : decode cX5_plan 1 = .ok (.bipush 12, 2) := by decide +kernel
theorem dX5_plan_3 : decode cX5_plan 3 = .ok (.if_icmp .gt 9, 3) := by decide +kernel
theorem dX5_plan_6 : decode cX5_plan 6 = .ok (.iload_n 2, 1) := by decide +kernel
theorem dX5_plan_7 : decode cX5_plan 7 = .ok (.bipush 12, 2) := by decide +kernel
theorem dX5_plan_9 : decode cX5_plan 9 = .ok (.if_icmp .le 5, 3) := by decide +kernel
theorem dX5_plan_12 : decode cX5_plan 12 = .ok (.iconst (-1), 1) := by decide +kernel
theorem dX5_plan_13 : decode cX5_plan 13 = .ok (.ireturn, 1) := by decide +kernel
theorem dX5_plan_14 : decode cX5_plan 14 = .ok (.iload_n 1, 1) := by decide +kernel
theorem dX5_plan_15 : decode cX5_plan 15 = .ok (.ifCond .lt 7, 3) := by decide +kernel
theorem dX5_plan_18 : decode cX5_plan 18 = .ok (.iload_n 2, 1) := by decide +kernel
theorem dX5_plan_19 : decode cX5_plan 19 = .ok (.ifCond .ge 9, 3) := by decide +kernel
theorem dX5_plan_22 : decode cX5_plan 22 = .ok (.aload_n 0, 1) := by decide +kernel
theorem dX5_plan_23 : decode cX5_plan 23 = .ok (.iconst 4, 1) := by decide +kernel
theorem dX5_plan_24 : decode cX5_plan 24 = .ok (.invokevirtual 63, 3) := by decide +kernel
theorem dX5_plan_27 : decode cX5_plan 27 = .ok (.ireturn, 1) := by decide +kernel
theorem dX5_plan_28 : decode cX5_plan 28 = .ok (.aload_n 0, 1) := by decide +kernel
theorem dX5_plan_29 : decode cX5_plan 29 = .ok (.iload_n 1, 1) := by decide +kernel
theorem dX5_plan_30 : decode cX5_plan 30 = .ok (.putfield 42, 3) := by decide +kernel
theorem dX5_plan_33 : decode cX5_plan 33 = .ok (.aload_n 0, 1) := by decide +kernel
theorem dX5_plan_34 : decode cX5_plan 34 = .ok (.iload_n 2, 1) := by decide +kernel
theorem dX5_plan_35 : decode cX5_plan 35 = .ok (.putfield 93, 3) := by decide +kernel
theorem dX5_plan_38 : decode cX5_plan 38 = .ok (.iconst 0, 1) := by decide +kernel
theorem dX5_plan_39 : decode cX5_plan 39 = .ok (.istore_n 3, 1) := by decide +kernel
theorem dX5_plan_40 : decode cX5_plan 40 = .ok (.iload_n 3, 1) := by decide +kernel
theorem dX5_plan_41 : decode cX5_plan 41 = .ok (.sipush 144, 3) := by decide +kernel
theorem dX5_plan_44 : decode cX5_plan 44 = .ok (.if_icmp .ge 16, 3) := by decide +kernel
theorem dX5_plan_47 : decode cX5_plan 47 = .ok (.aload_n 0, 1) := by decide +kernel
theorem dX5_plan_48 : decode cX5_plan 48 = .ok (.getfield 45, 3) := by decide +kernel
theorem dX5_plan_51 : decode cX5_plan 51 = .ok (.iload_n 3, 1) := by decide +kernel
theorem dX5_plan_52 : decode cX5_plan 52 = .ok (.iconst 0, 1) := by decide +kernel
theorem dX5_plan_53 : decode cX5_plan 53 = .ok (.iastore, 1) := by decide +kernel
theorem dX5_plan_54 : decode cX5_plan 54 = .ok (.iinc 3 1, 3) := by decide +kernel
theorem dX5_plan_57 : decode cX5_plan 57 = .ok (.goto (-17), 3) := by decide +kernel
theorem dX5_plan_60 : decode cX5_plan 60 = .ok (.iload_n 1, 1) := by decide +kernel
theorem dX5_plan_61 : decode cX5_plan 61 = .ok (.iload_n 2, 1) := by decide +kernel
theorem dX5_plan_62 : decode cX5_plan 62 = .ok (.imul, 1) := by decide +kernel
theorem dX5_plan_63 : decode cX5_plan 63 = .ok (.ireturn, 1) := by decide +kernel
set_option maxRecDepth 20000 in
theorem ggX5_against__X5_in : GoodIn wsX5_against_ wsX5_in := goodIn_r _ [5] (by decide +kernel) (by decide +kernel)
set_option maxRecDepth 20000 in
theorem gX5_against__X5_in : GoodIn wsX5_against_ (va_wsS RX5 51 yX5_in wsX5_in) := goodIn_app (goodIn_of _ (by decide +kernel)) ggX5_against__X5_in
theorem dX5_against__0 : decode cX5_against_ 0 = .ok (.aload_n 0, 1) := by decide +kernel
theorem dX5_against__1 : decode cX5_against_ 1 = .ok (.getfield 42, 3) := by decide +kernel
theorem dX5_against__4 : decode cX5_against_ 4 = .ok (.iconst (-1), 1) := by decide +kernel
theorem dX5_against__5 : decode cX5_against_ 5 = .ok (.if_icmp .ne 7, 3) := by decide +kernel
theorem dX5_against__8 : decode cX5_against_ 8 = .ok (.iconst 1, 1) := by decide +kernel
theorem dX5_against__9 : decode cX5_against_ 9 = .ok (.goto 33, 3) := by decide +kernel
theorem dX5_against__12 : decode cX5_against_ 12 = .ok (.iload_n 1, 1) := by decide +kernel
theorem dX5_against__13 : decode cX5_against_ 13 = .ok (.iconst 0, 1) := by decide +kernel
theorem dX5_against__14 : decode cX5_against_ 14 = .ok (.aload_n 0, 1) := by decide +kernel
theorem dX5_against__15 : decode cX5_against_ 15 = .ok (.getfield 42, 3) := by decide +kernel
theorem dX5_against__18 : decode cX5_against_ 18 = .ok (.iconst 1, 1) := by decide +kernel
theorem dX5_against__19 : decode cX5_against_ 19 = .ok (.isub, 1) := by decide +kernel
theorem dX5_against__20 : decode cX5_against_ 20 = .ok (.invokestatic 51, 3) := by decide +kernel
theorem dX5_against__23 : decode cX5_against_ 23 = .ok (.ifCond .eq 14, 3) := by decide +kernel
theorem dX5_against__26 : decode cX5_against_ 26 = .ok (.iload_n 2, 1) := by decide +kernel
theorem dX5_against__27 : decode cX5_against_ 27 = .ok (.iconst 0, 1) := by decide +kernel
theorem dX5_against__28 : decode cX5_against_ 28 = .ok (.iload_n 3, 1) := by decide +kernel
theorem dX5_against__29 : decode cX5_against_ 29 = .ok (.iconst 1, 1) := by decide +kernel
theorem dX5_against__30 : decode cX5_against_ 30 = .ok (.isub, 1) := by decide +kernel
theorem dX5_against__31 : decode cX5_against_ 31 = .ok (.invokestatic 51, 3) := by decide +kernel
theorem dX5_against__34 : decode cX5_against_ 34 = .ok (.ifCond .ne 7, 3) := by decide +kernel
theorem dX5_against__37 : decode cX5_against_ 37 = .ok (.iconst 5, 1) := by decide +kernel
theorem dX5_against__38 : decode cX5_against_ 38 = .ok (.goto 4, 3) := by decide +kernel
theorem dX5_against__41 : decode cX5_against_ 41 = .ok (.iconst 0, 1) := by decide +kernel
theorem dX5_against__42 : decode cX5_against_ 42 = .ok (.ireturn, 1) := by decide +kernel
set_option maxRecDepth 20000 in
theorem ggX5_note_X5_in : GoodIn wsX5_note wsX5_in := goodIn_r _ [6] (by decide +kernel) (by decide +kernel)
set_option maxRecDepth 20000 in
theorem gX5_note_X5_in : GoodIn wsX5_note (va_wsS RX5 51 yX5_in wsX5_in) := goodIn_app (goodIn_of _ (by decide +kernel)) ggX5_note_X5_in
set_option maxRecDepth 20000 in
theorem ggX5_note_X5_against_ : GoodIn wsX5_note wsX5_against_ := goodIn_r _ [10, 11, 3, 4, 5, 6, 17, 18, 19, 20, 21, 22, 23, 24, 25, 26, 27, 28, 29, 30, 31, 32] (by decide +kernel) (by decide +kernel)
set_option maxRecDepth 20000 in
theorem gX5_note_X5_against_ : GoodIn wsX5_note (wsV RX5 96 RX5 yX5_against_ wsX5_against_) := goodIn_app (goodIn_of _ (by decide +kernel)) ggX5_note_X5_against_
set_option maxRecDepth 20000 in
theorem ggX5_note_X5_no : GoodIn wsX5_note wsX5_no := goodIn_r _ [15, 16, 17, 18, 19, 20, 21, 22, 23, 24, 25, 26, 27, 28, 29, 30, 31, 32] (by decide +kernel) (by decide +kernel)
set_option maxRecDepth 20000 in
theorem gX5_note_X5_no : GoodIn wsX5_note (wsV RX5 63 RX5 yX5_no wsX5_no) := goodIn_app (goodIn_of _ (by decide +kernel)) ggX5_note_X5_no
theorem dX5_note_0 : decode cX5_note 0 = .ok (.iload_n 3, 1) := by decide +kernel
theorem dX5_note_1 : decode cX5_note 1 = .ok (.iconst 0, 1) := by decide +kernel
theorem dX5_note_2 : decode cX5_note 2 = .ok (.bipush 99, 2) := by decide +kernel
theorem dX5_note_4 : decode cX5_note 4 = .ok (.invokestatic 51, 3) := by decide +kernel
theorem dX5_note_7 : decode cX5_note 7 = .ok (.ifCond .ne 5, 3) := by decide +kernel
theorem dX5_note_10 : decode cX5_note 10 = .ok (.iconst (-1), 1) := by decide +kernel
theorem dX5_note_11 : decode cX5_note 11 = .ok (.ireturn, 1) := by decide +kernel
theorem dX5_note_12 : decode cX5_note 12 = .ok (.aload_n 0, 1) := by decide +kernel
theorem dX5_note_13 : decode cX5_note 13 = .ok (.iload_n 1, 1) := by decide +kernel
theorem dX5_note_14 : decode cX5_note 14 = .ok (.iload_n 2, 1) := by decide +kernel
theorem dX5_note_15 : decode cX5_note 15 = .ok (.aload_n 0, 1) := by decide +kernel
theorem dX5_note_16 : decode cX5_note 16 = .ok (.getfield 93, 3) := by decide +kernel
theorem dX5_note_19 : decode cX5_note 19 = .ok (.invokevirtual 96, 3) := by decide +kernel
theorem dX5_note_22 : decode cX5_note 22 = .ok (.istore 4, 2) := by decide +kernel
theorem dX5_note_24 : decode cX5_note 24 = .ok (.iload 4, 2) := by decide +kernel
theorem dX5_note_26 : decode cX5_note 26 = .ok (.ifCond .le 10, 3) := by decide +kernel
theorem dX5_note_29 : decode cX5_note 29 = .ok (.aload_n 0, 1) := by decide +kernel
theorem dX5_note_30 : decode cX5_note 30 = .ok (.iload 4, 2) := by decide +kernel
theorem dX5_note_32 : decode cX5_note 32 = .ok (.invokevirtual 63, 3) := by decide +kernel
theorem dX5_note_35 : decode cX5_note 35 = .ok (.ireturn, 1) := by decide +kernel
theorem dX5_note_36 : decode cX5_note 36 = .ok (.aload_n 0, 1) := by decide +kernel
theorem dX5_note_37 : decode cX5_note 37 = .ok (.getfield 45, 3) := by decide +kernel
theorem dX5_note_40 : decode cX5_note 40 = .ok (.bipush 12, 2) := by decide +kernel
theorem dX5_note_42 : decode cX5_note 42 = .ok (.iload_n 1, 1) := by decide +kernel
theorem dX5_note_43 : decode cX5_note 43 = .ok (.imul, 1) := by decide +kernel
theorem dX5_note_44 : decode cX5_note 44 = .ok (.iload_n 2, 1) := by decide +kernel
theorem dX5_note_45 : decode cX5_note 45 = .ok (.iadd, 1) := by decide +kernel
theorem dX5_note_46 : decode cX5_note 46 = .ok (.iload_n 3, 1) := by decide +kernel
theorem dX5_note_47 : decode cX5_note 47 = .ok (.iastore, 1) := by decide +kernel
theorem dX5_note_48 : decode cX5_note 48 = .ok (.iload_n 3, 1) := by decide +kernel
theorem dX5_note_49 : decode cX5_note 49 = .ok (.ireturn, 1) := by decide +kernel
set_option maxRecDepth 20000 in
theorem ggX5_noted_X5_against_ : GoodIn wsX5_noted wsX5_against_ := goodIn_r _ [7, 8, 9, 10, 6, 11, 17, 18, 19, 20, 21, 22, 23, 24, 25, 26, 27, 28, 29, 30, 31, 32] (by decide +kernel) (by decide +kernel)
set_option maxRecDepth 20000 in
theorem gX5_noted_X5_against_ : GoodIn wsX5_noted (wsV RX5 96 RX5 yX5_against_ wsX5_against_) := goodIn_app (goodIn_of _ (by decide +kernel)) ggX5_noted_X5_against_
set_option maxRecDepth 20000 in
theorem ggX5_noted_X5_no : GoodIn wsX5_noted wsX5_no := goodIn_r _ [15, 16, 17, 18, 19, 20, 21, 22, 23, 24, 25, 26, 27, 28, 29, 30, 31, 32] (by decide +kernel) (by decide +kernel)
set_option maxRecDepth 20000 in
theorem gX5_noted_X5_no : GoodIn wsX5_noted (wsV RX5 63 RX5 yX5_no wsX5_no) := goodIn_app (goodIn_of _ (by decide +kernel)) ggX5_noted_X5_no
theorem dX5_noted_0 : decode cX5_noted 0 = .ok (.aload_n 0, 1) := by decide +kernel
theorem dX5_noted_1 : decode cX5_noted 1 = .ok (.iload_n 1, 1) := by decide +kernel
theorem dX5_noted_2 : decode cX5_noted 2 = .ok (.iload_n 2, 1) := by decide +kernel
theorem dX5_noted_3 : decode cX5_noted 3 = .ok (.aload_n 0, 1) := by decide +kernel
theorem dX5_noted_4 : decode cX5_noted 4 = .ok (.getfield 93, 3) := by decide +kernel
theorem dX5_noted_7 : decode cX5_noted 7 = .ok (.invokevirtual 96, 3) := by decide +kernel
theorem dX5_noted_10 : decode cX5_noted 10 = .ok (.istore_n 3, 1) := by decide +kernel
theorem dX5_noted_11 : decode cX5_noted 11 = .ok (.iload_n 3, 1) := by decide +kernel
theorem dX5_noted_12 : decode cX5_noted 12 = .ok (.ifCond .le 11, 3) := by decide +kernel
theorem dX5_noted_15 : decode cX5_noted 15 = .ok (.aload_n 0, 1) := by decide +kernel
theorem dX5_noted_16 : decode cX5_noted 16 = .ok (.iload_n 3, 1) := by decide +kernel
theorem dX5_noted_17 : decode cX5_noted 17 = .ok (.invokevirtual 63, 3) := by decide +kernel
theorem dX5_noted_20 : decode cX5_noted 20 = .ok (.goto 14, 3) := by decide +kernel
theorem dX5_noted_23 : decode cX5_noted 23 = .ok (.aload_n 0, 1) := by decide +kernel
theorem dX5_noted_24 : decode cX5_noted 24 = .ok (.getfield 45, 3) := by decide +kernel
theorem dX5_noted_27 : decode cX5_noted 27 = .ok (.bipush 12, 2) := by decide +kernel
theorem dX5_noted_29 : decode cX5_noted 29 = .ok (.iload_n 1, 1) := by decide +kernel
theorem dX5_noted_30 : decode cX5_noted 30 = .ok (.imul, 1) := by decide +kernel
theorem dX5_noted_31 : decode cX5_noted 31 = .ok (.iload_n 2, 1) := by decide +kernel
theorem dX5_noted_32 : decode cX5_noted 32 = .ok (.iadd, 1) := by decide +kernel
theorem dX5_noted_33 : decode cX5_noted 33 = .ok (.iaload, 1) := by decide +kernel
theorem dX5_noted_34 : decode cX5_noted 34 = .ok (.ireturn, 1) := by decide +kernel
set_option maxRecDepth 20000 in
theorem ggX5_wide_X5_against_ : GoodIn wsX5_wide wsX5_against_ := goodIn_r _ [6, 7, 8, 9, 5, 10, 16, 17, 18, 19, 20, 21, 22, 23, 24, 25, 26, 27, 28, 29, 30, 31] (by decide +kernel) (by decide +kernel)
set_option maxRecDepth 20000 in
theorem gX5_wide_X5_against_ : GoodIn wsX5_wide (wsV RX5 96 RX5 yX5_against_ wsX5_against_) := goodIn_app (goodIn_of _ (by decide +kernel)) ggX5_wide_X5_against_
set_option maxRecDepth 20000 in
theorem ggX5_wide_X5_no : GoodIn wsX5_wide wsX5_no := goodIn_r _ [14, 15, 16, 17, 18, 19, 20, 21, 22, 23, 24, 25, 26, 27, 28, 29, 30, 31] (by decide +kernel) (by decide +kernel)
set_option maxRecDepth 20000 in
theorem gX5_wide_X5_no : GoodIn wsX5_wide (wsV RX5 63 RX5 yX5_no wsX5_no) := goodIn_app (goodIn_of _ (by decide +kernel)) ggX5_wide_X5_no
theorem dX5_wide_0 : decode cX5_wide 0 = .ok (.aload_n 0, 1) := by decide +kernel
theorem dX5_wide_1 : decode cX5_wide 1 = .ok (.iload_n 1, 1) := by decide +kernel
theorem dX5_wide_2 : decode cX5_wide 2 = .ok (.iconst 0, 1) := by decide +kernel
theorem dX5_wide_3 : decode cX5_wide 3 = .ok (.iconst 1, 1) := by decide +kernel
theorem dX5_wide_4 : decode cX5_wide 4 = .ok (.invokevirtual 96, 3) := by decide +kernel
theorem dX5_wide_7 : decode cX5_wide 7 = .ok (.istore_n 2, 1) := by decide +kernel
theorem dX5_wide_8 : decode cX5_wide 8 = .ok (.iload_n 2, 1) := by decide +kernel
theorem dX5_wide_9 : decode cX5_wide 9 = .ok (.ifCond .le 11, 3) := by decide +kernel
theorem dX5_wide_12 : decode cX5_wide 12 = .ok (.aload_n 0, 1) := by decide +kernel
theorem dX5_wide_13 : decode cX5_wide 13 = .ok (.iload_n 2, 1) := by decide +kernel
theorem dX5_wide_14 : decode cX5_wide 14 = .ok (.invokevirtual 63, 3) := by decide +kernel
theorem dX5_wide_17 : decode cX5_wide 17 = .ok (.goto 7, 3) := by decide +kernel
theorem dX5_wide_20 : decode cX5_wide 20 = .ok (.aload_n 0, 1) := by decide +kernel
theorem dX5_wide_21 : decode cX5_wide 21 = .ok (.getfield 93, 3) := by decide +kernel
theorem dX5_wide_24 : decode cX5_wide 24 = .ok (.ireturn, 1) := by decide +kernel
set_option maxRecDepth 20000 in
theorem ggX5_away_X5_in : GoodIn wsX5_away wsX5_in := goodIn_r _ [6] (by decide +kernel) (by decide +kernel)
set_option maxRecDepth 20000 in
theorem gX5_away_X5_in : GoodIn wsX5_away (va_wsS RX5 51 yX5_in wsX5_in) := goodIn_app (goodIn_of _ (by decide +kernel)) ggX5_away_X5_in
set_option maxRecDepth 20000 in
theorem ggX5_away_X5_clear : GoodIn wsX5_away wsX5_clear := goodIn_r _ [10, 1, 11, 12, 13, 5, 14, 15, 16, 17, 18, 19, 20, 21, 22, 23, 24, 25, 26, 27, 28, 29, 30, 31, 32] (by decide +kernel) (by decide +kernel)
set_option maxRecDepth 20000 in
theorem gX5_away_X5_clear : GoodIn wsX5_away (wsV RX5 86 RX5 yX5_clear wsX5_clear) := goodIn_app (goodIn_of _ (by decide +kernel)) ggX5_away_X5_clear
theorem dX5_away_0 : decode cX5_away 0 = .ok (.iload_n 1, 1) := by decide +kernel
theorem dX5_away_1 : decode cX5_away 1 = .ok (.iconst 0, 1) := by decide +kernel
theorem dX5_away_2 : decode cX5_away 2 = .ok (.iconst 1, 1) := by decide +kernel
theorem dX5_away_3 : decode cX5_away 3 = .ok (.invokestatic 51, 3) := by decide +kernel
theorem dX5_away_6 : decode cX5_away 6 = .ok (.ifCond .ne 5, 3) := by decide +kernel
theorem dX5_away_9 : decode cX5_away 9 = .ok (.iconst (-1), 1) := by decide +kernel
theorem dX5_away_10 : decode cX5_away 10 = .ok (.ireturn, 1) := by decide +kernel
theorem dX5_away_11 : decode cX5_away 11 = .ok (.iload_n 1, 1) := by decide +kernel
theorem dX5_away_12 : decode cX5_away 12 = .ok (.ifCond .ne 19, 3) := by decide +kernel
theorem dX5_away_15 : decode cX5_away 15 = .ok (.aload_n 0, 1) := by decide +kernel
theorem dX5_away_16 : decode cX5_away 16 = .ok (.getfield 35, 3) := by decide +kernel
theorem dX5_away_19 : decode cX5_away 19 = .ok (.iconst (-1), 1) := by decide +kernel
theorem dX5_away_20 : decode cX5_away 20 = .ok (.if_icmp .eq 7, 3) := by decide +kernel
theorem dX5_away_23 : decode cX5_away 23 = .ok (.iconst 1, 1) := by decide +kernel
theorem dX5_away_24 : decode cX5_away 24 = .ok (.goto 20, 3) := by decide +kernel
theorem dX5_away_27 : decode cX5_away 27 = .ok (.iconst 0, 1) := by decide +kernel
theorem dX5_away_28 : decode cX5_away 28 = .ok (.goto 16, 3) := by decide +kernel
theorem dX5_away_31 : decode cX5_away 31 = .ok (.aload_n 0, 1) := by decide +kernel
theorem dX5_away_32 : decode cX5_away 32 = .ok (.getfield 42, 3) := by decide +kernel
theorem dX5_away_35 : decode cX5_away 35 = .ok (.iconst (-1), 1) := by decide +kernel
theorem dX5_away_36 : decode cX5_away 36 = .ok (.if_icmp .eq 7, 3) := by decide +kernel
theorem dX5_away_39 : decode cX5_away 39 = .ok (.iconst 1, 1) := by decide +kernel
theorem dX5_away_40 : decode cX5_away 40 = .ok (.goto 4, 3) := by decide +kernel
theorem dX5_away_43 : decode cX5_away 43 = .ok (.iconst 0, 1) := by decide +kernel
theorem dX5_away_44 : decode cX5_away 44 = .ok (.istore_n 2, 1) := by decide +kernel
theorem dX5_away_45 : decode cX5_away 45 = .ok (.iload_n 1, 1) := by decide +kernel
theorem dX5_away_46 : decode cX5_away 46 = .ok (.ifCond .ne 15, 3) := by decide +kernel
theorem dX5_away_49 : decode cX5_away 49 = .ok (.aload_n 0, 1) := by decide +kernel
theorem dX5_away_50 : decode cX5_away 50 = .ok (.invokevirtual 86, 3) := by decide +kernel
theorem dX5_away_53 : decode cX5_away 53 = .ok (.aload_n 0, 1) := by decide +kernel
theorem dX5_away_54 : decode cX5_away 54 = .ok (.iconst (-1), 1) := by decide +kernel
theorem dX5_away_55 : decode cX5_away 55 = .ok (.putfield 35, 3) := by decide +kernel
theorem dX5_away_58 : decode cX5_away 58 = .ok (.goto 8, 3) := by decide +kernel
theorem dX5_away_61 : decode cX5_away 61 = .ok (.aload_n 0, 1) := by decide +kernel
theorem dX5_away_62 : decode cX5_away 62 = .ok (.iconst (-1), 1) := by decide +kernel
theorem dX5_away_63 : decode cX5_away 63 = .ok (.putfield 42, 3) := by decide +kernel
theorem dX5_away_66 : decode cX5_away 66 = .ok (.iload_n 2, 1) := by decide +kernel
theorem dX5_away_67 : decode cX5_away 67 = .ok (.ifCond .eq 7, 3) := by decide +kernel
theorem dX5_away_70 : decode cX5_away 70 = .ok (.iconst 1, 1) := by decide +kernel
theorem dX5_away_71 : decode cX5_away 71 = .ok (.goto 4, 3) := by decide +kernel
theorem dX5_away_74 : decode cX5_away 74 = .ok (.iconst 0, 1) := by decide +kernel
theorem dX5_away_75 : decode cX5_away 75 = .ok (.ireturn, 1) := by decide +kernel
set_option maxRecDepth 20000 in
theorem ggX5_about_X5_isTrack : GoodIn wsX5_about wsX5_isTrack := goodIn_r _ [8, 9, 10, 7, 11] (by decide +kernel) (by decide +kernel)
set_option maxRecDepth 20000 in
theorem gX5_about_X5_isTrack : GoodIn wsX5_about (va_wsS RX5 55 yX5_isTrack wsX5_isTrack) := goodIn_app (goodIn_of _ (by decide +kernel)) ggX5_about_X5_isTrack
set_option maxRecDepth 20000 in
theorem ggX5_about_X5_in : GoodIn wsX5_about wsX5_in := goodIn_r _ [11] (by decide +kernel) (by decide +kernel)
set_option maxRecDepth 20000 in
theorem gX5_about_X5_in : GoodIn wsX5_about (va_wsS RX5 51 yX5_in wsX5_in) := goodIn_app (goodIn_of _ (by decide +kernel)) ggX5_about_X5_in
set_option maxRecDepth 20000 in
theorem ggX5_about_X5_at : GoodIn wsX5_about wsX5_at := goodIn_r _ [15, 16, 17, 18, 19, 20, 21, 22, 23, 24, 25, 26, 27, 28, 29, 30, 31, 32, 33] (by decide +kernel) (by decide +kernel)
set_option maxRecDepth 20000 in
theorem gX5_about_X5_at : GoodIn wsX5_about (wsV RX5 69 RX5 yX5_at wsX5_at) := goodIn_app (goodIn_of _ (by decide +kernel)) ggX5_about_X5_at
theorem dX5_about_0 : decode cX5_about 0 = .ok (.iload_n 1, 1) := by decide +kernel
theorem dX5_about_1 : decode cX5_about 1 = .ok (.invokestatic 55, 3) := by decide +kernel
theorem dX5_about_4 : decode cX5_about 4 = .ok (.ifCond .eq 16, 3) := by decide +kernel
theorem dX5_about_7 : decode cX5_about 7 = .ok (.iload_n 2, 1) := by decide +kernel
theorem dX5_about_8 : decode cX5_about 8 = .ok (.ifCond .lt 12, 3) := by decide +kernel
theorem dX5_about_11 : decode cX5_about 11 = .ok (.iload_n 3, 1) := by decide +kernel
theorem dX5_about_12 : decode cX5_about 12 = .ok (.iconst 0, 1) := by decide +kernel
theorem dX5_about_13 : decode cX5_about 13 = .ok (.iconst 3, 1) := by decide +kernel
theorem dX5_about_14 : decode cX5_about 14 = .ok (.invokestatic 51, 3) := by decide +kernel
theorem dX5_about_17 : decode cX5_about 17 = .ok (.ifCond .ne 5, 3) := by decide +kernel
theorem dX5_about_20 : decode cX5_about 20 = .ok (.iconst (-1), 1) := by decide +kernel
theorem dX5_about_21 : decode cX5_about 21 = .ok (.ireturn, 1) := by decide +kernel
theorem dX5_about_22 : decode cX5_about 22 = .ok (.aload_n 0, 1) := by decide +kernel
theorem dX5_about_23 : decode cX5_about 23 = .ok (.iload_n 1, 1) := by decide +kernel
theorem dX5_about_24 : decode cX5_about 24 = .ok (.iload_n 2, 1) := by decide +kernel
theorem dX5_about_25 : decode cX5_about 25 = .ok (.invokevirtual 69, 3) := by decide +kernel
theorem dX5_about_28 : decode cX5_about 28 = .ok (.istore 4, 2) := by decide +kernel
theorem dX5_about_30 : decode cX5_about 30 = .ok (.iload 4, 2) := by decide +kernel
theorem dX5_about_32 : decode cX5_about 32 = .ok (.iconst (-1), 1) := by decide +kernel
theorem dX5_about_33 : decode cX5_about 33 = .ok (.if_icmp .ne 5, 3) := by decide +kernel
theorem dX5_about_36 : decode cX5_about 36 = .ok (.iconst 0, 1) := by decide +kernel
theorem dX5_about_37 : decode cX5_about 37 = .ok (.ireturn, 1) := by decide +kernel
theorem dX5_about_38 : decode cX5_about 38 = .ok (.iload_n 3, 1) := by decide +kernel
theorem dX5_about_39 : decode cX5_about 39 = .ok (.ifCond .ne 13, 3) := by decide +kernel
theorem dX5_about_42 : decode cX5_about 42 = .ok (.aload_n 0, 1) := by decide +kernel
theorem dX5_about_43 : decode cX5_about 43 = .ok (.getfield 7, 3) := by decide +kernel
theorem dX5_about_46 : decode cX5_about 46 = .ok (.iload 4, 2) := by decide +kernel
theorem dX5_about_48 : decode cX5_about 48 = .ok (.iaload, 1) := by decide +kernel
theorem dX5_about_49 : decode cX5_about 49 = .ok (.goto 55, 3) := by decide +kernel
theorem dX5_about_52 : decode cX5_about 52 = .ok (.iload_n 3, 1) := by decide +kernel
theorem dX5_about_53 : decode cX5_about 53 = .ok (.iconst 1, 1) := by decide +kernel
theorem dX5_about_54 : decode cX5_about 54 = .ok (.if_icmp .ne 13, 3) := by decide +kernel
theorem dX5_about_57 : decode cX5_about 57 = .ok (.aload_n 0, 1) := by decide +kernel
theorem dX5_about_58 : decode cX5_about 58 = .ok (.getfield 13, 3) := by decide +kernel
theorem dX5_about_61 : decode cX5_about 61 = .ok (.iload 4, 2) := by decide +kernel
theorem dX5_about_63 : decode cX5_about 63 = .ok (.iaload, 1) := by decide +kernel
theorem dX5_about_64 : decode cX5_about 64 = .ok (.goto 40, 3) := by decide +kernel
theorem dX5_about_67 : decode cX5_about 67 = .ok (.iload_n 3, 1) := by decide +kernel
theorem dX5_about_68 : decode cX5_about 68 = .ok (.iconst 2, 1) := by decide +kernel
theorem dX5_about_69 : decode cX5_about 69 = .ok (.if_icmp .ne 13, 3) := by decide +kernel
theorem dX5_about_72 : decode cX5_about 72 = .ok (.aload_n 0, 1) := by decide +kernel
theorem dX5_about_73 : decode cX5_about 73 = .ok (.getfield 16, 3) := by decide +kernel
theorem dX5_about_76 : decode cX5_about 76 = .ok (.iload 4, 2) := by decide +kernel
theorem dX5_about_78 : decode cX5_about 78 = .ok (.iaload, 1) := by decide +kernel
theorem dX5_about_79 : decode cX5_about 79 = .ok (.goto 25, 3) := by decide +kernel
theorem dX5_about_82 : decode cX5_about 82 = .ok (.aload_n 0, 1) := by decide +kernel
theorem dX5_about_83 : decode cX5_about 83 = .ok (.getfield 19, 3) := by decide +kernel
theorem dX5_about_86 : decode cX5_about 86 = .ok (.iload 4, 2) := by decide +kernel
theorem dX5_about_88 : decode cX5_about 88 = .ok (.iaload, 1) := by decide +kernel
theorem dX5_about_89 : decode cX5_about 89 = .ok (.iconst (-1), 1) := by decide +kernel
theorem dX5_about_90 : decode cX5_about 90 = .ok (.if_icmp .ne 7, 3) := by decide +kernel
theorem dX5_about_93 : decode cX5_about 93 = .ok (.iconst 0, 1) := by decide +kernel
theorem dX5_about_94 : decode cX5_about 94 = .ok (.goto 10, 3) := by decide +kernel
theorem dX5_about_97 : decode cX5_about 97 = .ok (.aload_n 0, 1) := by decide +kernel
theorem dX5_about_98 : decode cX5_about 98 = .ok (.getfield 19, 3) := by decide +kernel
theorem dX5_about_101 : decode cX5_about 101 = .ok (.iload 4, 2) := by decide +kernel
theorem dX5_about_103 : decode cX5_about 103 = .ok (.iaload, 1) := by decide +kernel
theorem dX5_about_104 : decode cX5_about 104 = .ok (.ireturn, 1) := by decide +kernel
set_option maxRecDepth 20000 in
theorem ggX5_count_X5_isTrack : GoodIn wsX5_count wsX5_isTrack := goodIn_r _ [4, 5, 6, 3, 7] (by decide +kernel) (by decide +kernel)
set_option maxRecDepth 20000 in
theorem gX5_count_X5_isTrack : GoodIn wsX5_count (va_wsS RX5 55 yX5_isTrack wsX5_isTrack) := goodIn_app (goodIn_of _ (by decide +kernel)) ggX5_count_X5_isTrack
set_option maxRecDepth 20000 in
theorem ggX5_count_X5_countOf : GoodIn wsX5_count wsX5_countOf := goodIn_r _ [11, 12, 13, 14, 15, 16, 17, 18, 19, 20, 21, 22, 23, 24, 25, 26, 27, 28, 29] (by decide +kernel) (by decide +kernel)
set_option maxRecDepth 20000 in
theorem gX5_count_X5_countOf : GoodIn wsX5_count (wsV RX5 59 RX5 yX5_countOf wsX5_countOf) := goodIn_app (goodIn_of _ (by decide +kernel)) ggX5_count_X5_countOf
theorem dX5_count_0 : decode cX5_count 0 = .ok (.iload_n 1, 1) := by decide +kernel
theorem dX5_count_1 : decode cX5_count 1 = .ok (.invokestatic 55, 3) := by decide +kernel
theorem dX5_count_4 : decode cX5_count 4 = .ok (.ifCond .eq 11, 3) := by decide +kernel
theorem dX5_count_7 : decode cX5_count 7 = .ok (.aload_n 0, 1) := by decide +kernel
theorem dX5_count_8 : decode cX5_count 8 = .ok (.iload_n 1, 1) := by decide +kernel
theorem dX5_count_9 : decode cX5_count 9 = .ok (.invokevirtual 59, 3) := by decide +kernel
theorem dX5_count_12 : decode cX5_count 12 = .ok (.goto 4, 3) := by decide +kernel
theorem dX5_count_15 : decode cX5_count 15 = .ok (.iconst (-1), 1) := by decide +kernel
theorem dX5_count_16 : decode cX5_count 16 = .ok (.ireturn, 1) := by decide +kernel
set_option maxRecDepth 20000 in
theorem ggX5_reasons_X5_in : GoodIn wsX5_reasons wsX5_in := goodIn_r _ [5] (by decide +kernel) (by decide +kernel)
set_option maxRecDepth 20000 in
theorem gX5_reasons_X5_in : GoodIn wsX5_reasons (va_wsS RX5 51 yX5_in wsX5_in) := goodIn_app (goodIn_of _ (by decide +kernel)) ggX5_reasons_X5_in
theorem dX5_reasons_0 : decode cX5_reasons 0 = .ok (.iload_n 1, 1) := by decide +kernel
theorem dX5_reasons_1 : decode cX5_reasons 1 = .ok (.iconst 1, 1) := by decide +kernel
theorem dX5_reasons_2 : decode cX5_reasons 2 = .ok (.bipush 7, 2) := by decide +kernel
theorem dX5_reasons_4 : decode cX5_reasons 4 = .ok (.invokestatic 51, 3) := by decide +kernel
theorem dX5_reasons_7 : decode cX5_reasons 7 = .ok (.ifCond .eq 12, 3) := by decide +kernel
theorem dX5_reasons_10 : decode cX5_reasons 10 = .ok (.aload_n 0, 1) := by decide +kernel
theorem dX5_reasons_11 : decode cX5_reasons 11 = .ok (.getfield 48, 3) := by decide +kernel
theorem dX5_reasons_14 : decode cX5_reasons 14 = .ok (.iload_n 1, 1) := by decide +kernel
theorem dX5_reasons_15 : decode cX5_reasons 15 = .ok (.iaload, 1) := by decide +kernel
theorem dX5_reasons_16 : decode cX5_reasons 16 = .ok (.goto 4, 3) := by decide +kernel
theorem dX5_reasons_19 : decode cX5_reasons 19 = .ok (.iconst (-1), 1) := by decide +kernel
theorem dX5_reasons_20 : decode cX5_reasons 20 = .ok (.ireturn, 1) := by decide +kernel
set_option maxRecDepth 20000 in
theorem ggL_law_X4_init : GoodIn wsL_law wsX4_init := goodIn_r _ [8, 9, 10, 11, 12, 13, 14, 15, 16, 17, 18, 19, 20, 416, 417, 418, 419, 420, 421, 438, 439] (by decide +kernel) (by decide +kernel)
set_option maxRecDepth 20000 in
theorem gL_law_X4_init : GoodIn wsL_law (wsX4_init) := ggL_law_X4_init
set_option maxRecDepth 20000 in
theorem ggL_law_X5_init : GoodIn wsL_law wsX5_init := goodIn_r _ [23, 24, 10, 11, 14, 25, 26, 27, 28, 29, 30, 31, 32, 33, 34, 35, 36, 37, 38, 422, 423, 424, 425, 426, 427, 428, 429, 430, 431, 432, 433, 434, 435, 436, 437] (by decide +kernel) (by decide +kernel)
set_option maxRecDepth 20000 in
theorem gL_law_X5_init : GoodIn wsL_law (wsX5_init) := ggL_law_X5_init
set_option maxRecDepth 20000 in
theorem ggL_law_X4_place : GoodIn wsL_law wsX4_place := goodIn_r _ [42, 43, 13, 44, 45, 46, 47, 48, 49, 2, 50, 51, 52, 53, 54, 55, 56, 57, 10, 11, 58, 59, 60, 61, 62, 17, 63, 64, 65, 66, 416, 417, 418, 419, 420, 421, 440, 441, 442, 443, 444, 438, 439] (by decide +kernel) (by decide +kernel)
set_option maxRecDepth 20000 in
theorem gL_law_X4_place : GoodIn wsL_law (wsV RL 13 RX4 yX4_place wsX4_place) := goodIn_app (goodIn_of _ (by decide +kernel)) ggL_law_X4_place
set_option maxRecDepth 20000 in
theorem ggL_law_X5_place : GoodIn wsL_law wsX5_place := goodIn_r _ [70, 32, 25, 26, 27, 28, 30, 33, 71, 72, 5, 73, 74, 75, 76, 77, 78, 79, 80, 422, 423, 424, 425, 426, 427, 428, 429, 430, 431, 432, 433, 434, 435, 436, 437] (by decide +kernel) (by decide +kernel)
set_option maxRecDepth 20000 in
theorem gL_law_X5_place : GoodIn wsL_law (wsV RL 17 RX5 yX5_place wsX5_place) := goodIn_app (goodIn_of _ (by decide +kernel)) ggL_law_X5_place
set_option maxRecDepth 20000 in
theorem ggL_law_X4_take : GoodIn wsL_law wsX4_take := goodIn_r _ [84, 13, 48, 49, 2, 50, 85, 86, 87, 17, 88, 64, 65, 66, 89, 90, 91, 92, 15, 93, 94, 95, 46, 96, 59, 97, 416, 417, 418, 419, 420, 421, 438, 439, 440, 441, 442, 443, 444] (by decide +kernel) (by decide +kernel)
set_option maxRecDepth 20000 in
theorem gL_law_X4_take : GoodIn wsL_law (wsV RL 18 RX4 yX4_take wsX4_take) := goodIn_app (goodIn_of _ (by decide +kernel)) ggL_law_X4_take
set_option maxRecDepth 20000 in
theorem ggL_law_X5_take : GoodIn wsL_law wsX5_take := goodIn_r _ [101, 33, 30, 32, 71, 72, 5, 73, 74, 75, 76, 102, 103, 104, 105, 38, 106, 107, 108, 109, 26, 28, 29, 422, 423, 424, 425, 426, 427, 428, 429, 430, 431, 432, 433, 434, 435, 436, 437] (by decide +kernel) (by decide +kernel)
set_option maxRecDepth 20000 in
theorem gL_law_X5_take : GoodIn wsL_law (wsV RL 22 RX5 yX5_take wsX5_take) := goodIn_app (goodIn_of _ (by decide +kernel)) ggL_law_X5_take
set_option maxRecDepth 20000 in
theorem ggL_law_X4_shunt : GoodIn wsL_law wsX4_shunt := goodIn_r _ [113, 13, 114, 115, 2, 116, 48, 49, 50, 51, 52, 53, 117, 118, 119, 17, 120, 65, 64, 66, 121, 122, 123, 124, 89, 90, 91, 92, 15, 416, 417, 418, 419, 420, 421, 440, 441, 442, 443, 444, 438, 439] (by decide +kernel) (by decide +kernel)
set_option maxRecDepth 20000 in
theorem gL_law_X4_shunt : GoodIn wsL_law (wsV RL 23 RX4 yX4_shunt wsX4_shunt) := goodIn_app (goodIn_of _ (by decide +kernel)) ggL_law_X4_shunt
set_option maxRecDepth 20000 in
theorem ggL_law_X5_shunt : GoodIn wsL_law wsX5_shunt := goodIn_r _ [128, 33, 30, 71, 72, 5, 73, 74, 75, 76, 129, 130, 131, 132, 102, 103, 104, 105, 38, 422, 423, 424, 425, 426, 427, 428, 429, 430, 431, 432, 433, 434, 435, 436, 437] (by decide +kernel) (by decide +kernel)
set_option maxRecDepth 20000 in
theorem gL_law_X5_shunt : GoodIn wsL_law (wsV RL 26 RX5 yX5_shunt wsX5_shunt) := goodIn_app (goodIn_of _ (by decide +kernel)) ggL_law_X5_shunt
set_option maxRecDepth 20000 in
theorem ggL_law_X4_couple : GoodIn wsL_law wsX4_couple := goodIn_r _ [136, 13, 47, 114, 115, 2, 116, 48, 49, 50, 137, 138, 139, 17, 140, 66, 64, 65, 121, 122, 123, 124, 89, 90, 91, 92, 15, 416, 417, 418, 419, 420, 421, 438, 439, 440, 441, 442, 443, 444] (by decide +kernel) (by decide +kernel)
set_option maxRecDepth 20000 in
theorem gL_law_X4_couple : GoodIn wsL_law (wsV RL 27 RX4 yX4_couple wsX4_couple) := goodIn_app (goodIn_of _ (by decide +kernel)) ggL_law_X4_couple
set_option maxRecDepth 20000 in
theorem ggL_law_X5_couple : GoodIn wsL_law wsX5_couple := goodIn_r _ [144, 30, 33, 71, 72, 5, 73, 74, 75, 76, 77, 78, 79, 80, 102, 103, 104, 105, 38, 129, 130, 131, 132, 422, 423, 424, 425, 426, 427, 428, 429, 430, 431, 432, 433, 434, 435, 436, 437] (by decide +kernel) (by decide +kernel)
set_option maxRecDepth 20000 in
theorem gL_law_X5_couple : GoodIn wsL_law (wsV RL 31 RX5 yX5_couple wsX5_couple) := goodIn_app (goodIn_of _ (by decide +kernel)) ggL_law_X5_couple
set_option maxRecDepth 20000 in
theorem ggL_law_X4_crates : GoodIn wsL_law wsX4_crates := goodIn_r _ [148, 13, 14, 149, 150, 151, 2, 152, 48, 49, 50, 153, 122, 123, 17, 124, 66, 64, 65, 154, 155, 156, 157, 89, 90, 91, 92, 15, 416, 417, 418, 419, 420, 421, 440, 441, 442, 443, 444, 438, 439] (by decide +kernel) (by decide +kernel)
set_option maxRecDepth 20000 in
theorem gL_law_X4_crates : GoodIn wsL_law (wsV RL 32 RX4 yX4_crates wsX4_crates) := goodIn_app (goodIn_of _ (by decide +kernel)) ggL_law_X4_crates
set_option maxRecDepth 20000 in
theorem ggL_law_X5_crates : GoodIn wsL_law wsX5_crates := goodIn_r _ [161, 25, 28, 29, 71, 72, 5, 73, 74, 75, 76, 129, 130, 131, 132, 33, 30, 102, 103, 104, 105, 38, 422, 423, 424, 425, 426, 427, 428, 429, 430, 431, 432, 433, 434, 435, 436, 437] (by decide +kernel) (by decide +kernel)
set_option maxRecDepth 20000 in
theorem gL_law_X5_crates : GoodIn wsL_law (wsV RL 35 RX5 yX5_crates wsX5_crates) := goodIn_app (goodIn_of _ (by decide +kernel)) ggL_law_X5_crates
set_option maxRecDepth 20000 in
theorem ggL_law_X4_load : GoodIn wsL_law wsX4_load := goodIn_r _ [165, 13, 149, 150, 151, 2, 152, 48, 49, 50, 51, 52, 53, 153, 122, 123, 17, 124, 66, 64, 65, 166, 167, 168, 169, 170, 171, 154, 155, 156, 157, 89, 90, 91, 92, 15, 416, 417, 418, 419, 420, 421, 440, 441, 442, 443, 444, 438, 439] (by decide +kernel) (by decide +kernel)
set_option maxRecDepth 20000 in
theorem gL_law_X4_load : GoodIn wsL_law (wsV RL 36 RX4 yX4_load wsX4_load) := goodIn_app (goodIn_of _ (by decide +kernel)) ggL_law_X4_load
set_option maxRecDepth 20000 in
theorem ggL_law_X5_load : GoodIn wsL_law wsX5_load := goodIn_r _ [175, 29, 71, 72, 5, 73, 74, 75, 76, 129, 130, 131, 132, 33, 30, 176, 177, 178, 179, 25, 28, 102, 103, 104, 105, 38, 422, 423, 424, 425, 426, 427, 428, 429, 430, 431, 432, 433, 434, 435, 436, 437] (by decide +kernel) (by decide +kernel)
set_option maxRecDepth 20000 in
theorem gL_law_X5_load : GoodIn wsL_law (wsV RL 40 RX5 yX5_load wsX5_load) := goodIn_app (goodIn_of _ (by decide +kernel)) ggL_law_X5_load
set_option maxRecDepth 20000 in
theorem ggL_law_X4_crate : GoodIn wsL_law wsX4_crate := goodIn_r _ [183, 13, 149, 150, 151, 2, 152, 48, 49, 50, 153, 122, 123, 17, 124, 66, 64, 65, 166, 167, 168, 169, 170, 171, 154, 155, 156, 157, 89, 90, 91, 92, 15, 416, 417, 418, 419, 420, 421, 440, 441, 442, 443, 444, 438, 439] (by decide +kernel) (by decide +kernel)
set_option maxRecDepth 20000 in
theorem gL_law_X4_crate : GoodIn wsL_law (wsV RL 41 RX4 yX4_crate wsX4_crate) := goodIn_app (goodIn_of _ (by decide +kernel)) ggL_law_X4_crate
set_option maxRecDepth 20000 in
theorem ggL_law_X5_crate : GoodIn wsL_law wsX5_crate := goodIn_r _ [187, 29, 71, 72, 5, 73, 74, 75, 76, 129, 130, 131, 132, 33, 30, 176, 177, 178, 179, 25, 28, 102, 103, 104, 105, 38, 422, 423, 424, 425, 426, 427, 428, 429, 430, 431, 432, 433, 434, 435, 436, 437] (by decide +kernel) (by decide +kernel)
set_option maxRecDepth 20000 in
theorem gL_law_X5_crate : GoodIn wsL_law (wsV RL 44 RX5 yX5_crate wsX5_crate) := goodIn_app (goodIn_of _ (by decide +kernel)) ggL_law_X5_crate
set_option maxRecDepth 20000 in
theorem ggL_law_X4_length : GoodIn wsL_law wsX4_length := goodIn_r _ [191, 13, 149, 150, 151, 2, 152, 48, 49, 50, 153, 122, 123, 17, 124, 66, 64, 65, 169, 170, 171, 154, 155, 156, 157, 89, 90, 91, 92, 15, 416, 417, 418, 419, 420, 421, 440, 441, 442, 443, 444, 438, 439] (by decide +kernel) (by decide +kernel)
set_option maxRecDepth 20000 in
theorem gL_law_X4_length : GoodIn wsL_law (wsV RL 45 RX4 yX4_length wsX4_length) := goodIn_app (goodIn_of _ (by decide +kernel)) ggL_law_X4_length
set_option maxRecDepth 20000 in
theorem ggL_law_X5_length : GoodIn wsL_law wsX5_length := goodIn_r _ [195, 25, 28, 71, 72, 5, 73, 74, 75, 76, 129, 130, 131, 132, 33, 30, 102, 103, 104, 105, 38, 422, 423, 424, 425, 426, 427, 428, 429, 430, 431, 432, 433, 434, 435, 436, 437] (by decide +kernel) (by decide +kernel)
set_option maxRecDepth 20000 in
theorem gL_law_X5_length : GoodIn wsL_law (wsV RL 48 RX5 yX5_length wsX5_length) := goodIn_app (goodIn_of _ (by decide +kernel)) ggL_law_X5_length
set_option maxRecDepth 20000 in
theorem ggL_law_X4_weigh : GoodIn wsL_law wsX4_weigh := goodIn_r _ [199, 13, 150, 151, 2, 152, 48, 49, 50, 153, 122, 123, 17, 124, 66, 64, 65, 89, 90, 91, 92, 15, 93, 94, 95, 46, 96, 59, 97, 416, 417, 418, 419, 420, 421, 438, 439, 440, 441, 442, 443, 444] (by decide +kernel) (by decide +kernel)
set_option maxRecDepth 20000 in
theorem gL_law_X4_weigh : GoodIn wsL_law (wsV RL 49 RX4 yX4_weigh wsX4_weigh) := goodIn_app (goodIn_of _ (by decide +kernel)) ggL_law_X4_weigh
set_option maxRecDepth 20000 in
theorem ggL_law_X5_weigh : GoodIn wsL_law wsX5_weigh := goodIn_r _ [203, 71, 72, 5, 73, 74, 75, 76, 129, 130, 131, 132, 33, 30, 102, 103, 104, 105, 38, 106, 107, 108, 109, 26, 28, 29, 422, 423, 424, 425, 426, 427, 428, 429, 430, 431, 432, 433, 434, 435, 436, 437] (by decide +kernel) (by decide +kernel)
set_option maxRecDepth 20000 in
theorem gL_law_X5_weigh : GoodIn wsL_law (wsV RL 52 RX5 yX5_weigh wsX5_weigh) := goodIn_app (goodIn_of _ (by decide +kernel)) ggL_law_X5_weigh
set_option maxRecDepth 20000 in
theorem ggL_law_X4_defect : GoodIn wsL_law wsX4_defect := goodIn_r _ [207, 13, 208, 150, 151, 2, 152, 48, 49, 50, 51, 52, 53, 153, 122, 123, 17, 124, 66, 64, 65, 89, 90, 91, 92, 15, 416, 417, 418, 419, 420, 421, 440, 441, 442, 443, 444, 438, 439] (by decide +kernel) (by decide +kernel)
set_option maxRecDepth 20000 in
theorem gL_law_X4_defect : GoodIn wsL_law (wsV RL 53 RX4 yX4_defect wsX4_defect) := goodIn_app (goodIn_of _ (by decide +kernel)) ggL_law_X4_defect
set_option maxRecDepth 20000 in
theorem ggL_law_X5_defect : GoodIn wsL_law wsX5_defect := goodIn_r _ [212, 27, 71, 72, 5, 73, 74, 75, 76, 129, 130, 131, 132, 33, 30, 102, 103, 104, 105, 38, 422, 423, 424, 425, 426, 427, 428, 429, 430, 431, 432, 433, 434, 435, 436, 437] (by decide +kernel) (by decide +kernel)
set_option maxRecDepth 20000 in
theorem gL_law_X5_defect : GoodIn wsL_law (wsV RL 56 RX5 yX5_defect wsX5_defect) := goodIn_app (goodIn_of _ (by decide +kernel)) ggL_law_X5_defect
set_option maxRecDepth 20000 in
theorem ggL_law_X4_report : GoodIn wsL_law wsX4_report := goodIn_r _ [216, 13, 208, 150, 151, 2, 152, 48, 49, 50, 153, 122, 123, 17, 124, 66, 64, 65, 89, 90, 91, 92, 15, 217, 218, 219, 220, 221, 416, 417, 418, 419, 420, 421, 440, 441, 442, 443, 444, 438, 439] (by decide +kernel) (by decide +kernel)
set_option maxRecDepth 20000 in
theorem gL_law_X4_report : GoodIn wsL_law (wsV RL 57 RX4 yX4_report wsX4_report) := goodIn_app (goodIn_of _ (by decide +kernel)) ggL_law_X4_report
set_option maxRecDepth 20000 in
theorem ggL_law_X5_report : GoodIn wsL_law wsX5_report := goodIn_r _ [225, 27, 71, 72, 5, 73, 74, 75, 76, 129, 130, 131, 132, 33, 30, 102, 103, 104, 105, 38, 226, 227, 228, 229, 230, 422, 423, 424, 425, 426, 427, 428, 429, 430, 431, 432, 433, 434, 435, 436, 437] (by decide +kernel) (by decide +kernel)
set_option maxRecDepth 20000 in
theorem gL_law_X5_report : GoodIn wsL_law (wsV RL 60 RX5 yX5_report wsX5_report) := goodIn_app (goodIn_of _ (by decide +kernel)) ggL_law_X5_report
set_option maxRecDepth 20000 in
theorem ggL_law_X4_draw : GoodIn wsL_law wsX4_draw := goodIn_r _ [234, 13, 235, 208, 236, 48, 49, 2, 50, 89, 90, 91, 92, 15, 154, 155, 156, 157, 237, 238, 239, 17, 240, 66, 241, 65, 121, 122, 123, 124, 64, 217, 218, 219, 220, 221, 242, 243, 244, 245, 246, 94, 95, 46, 96, 59, 97, 416, 417, 418, 419, 420, 421, 438, 439, 440, 441, 442, 443, 444] (by decide +kernel) (by decide +kernel)
set_option maxRecDepth 20000 in
theorem gL_law_X4_draw : GoodIn wsL_law (wsV RL 61 RX4 yX4_draw wsX4_draw) := goodIn_app (goodIn_of _ (by decide +kernel)) ggL_law_X4_draw
set_option maxRecDepth 20000 in
theorem ggL_law_X5_draw : GoodIn wsL_law wsX5_draw := goodIn_r _ [250, 33, 25, 26, 30, 27, 230, 71, 72, 5, 73, 74, 75, 76, 102, 103, 104, 105, 38, 226, 227, 228, 229, 106, 107, 108, 109, 28, 29, 422, 423, 424, 425, 426, 427, 428, 429, 430, 431, 432, 433, 434, 435, 436, 437] (by decide +kernel) (by decide +kernel)
set_option maxRecDepth 20000 in
theorem gL_law_X5_draw : GoodIn wsL_law (wsV RL 64 RX5 yX5_draw wsX5_draw) := goodIn_app (goodIn_of _ (by decide +kernel)) ggL_law_X5_draw
set_option maxRecDepth 20000 in
theorem ggL_law_X4_level : GoodIn wsL_law wsX4_level := goodIn_r _ [254, 221, 416, 417, 418, 419, 420, 421] (by decide +kernel) (by decide +kernel)
set_option maxRecDepth 20000 in
theorem gL_law_X4_level : GoodIn wsL_law (wsV RL 65 RX4 yX4_level wsX4_level) := goodIn_app (goodIn_of _ (by decide +kernel)) ggL_law_X4_level
set_option maxRecDepth 20000 in
theorem ggL_law_X5_level : GoodIn wsL_law wsX5_level := goodIn_r _ [258, 230, 422, 423, 424, 425, 426, 427, 428, 429, 430, 431, 432, 433, 434, 435, 436, 437] (by decide +kernel) (by decide +kernel)
set_option maxRecDepth 20000 in
theorem gL_law_X5_level : GoodIn wsL_law (wsV RL 69 RX5 yX5_level wsX5_level) := goodIn_app (goodIn_of _ (by decide +kernel)) ggL_law_X5_level
set_option maxRecDepth 20000 in
theorem ggL_law_X4_siding : GoodIn wsL_law wsX4_siding := goodIn_r _ [262, 263, 264, 265, 266, 89, 90, 91, 2, 92, 15, 267, 268, 269, 270, 10, 11, 271, 272, 273, 445, 446, 416, 417, 418, 419, 420, 421] (by decide +kernel) (by decide +kernel)
set_option maxRecDepth 20000 in
theorem gL_law_X4_siding : GoodIn wsL_law (wsV RL 70 RX4 yX4_siding wsX4_siding) := goodIn_app (goodIn_of _ (by decide +kernel)) ggL_law_X4_siding
set_option maxRecDepth 20000 in
theorem ggL_law_X5_siding : GoodIn wsL_law wsX5_siding := goodIn_r _ [277, 34, 278, 35, 102, 103, 104, 5, 105, 38, 279, 280, 281, 282, 283, 284, 285, 286, 32, 422, 423, 424, 425, 426, 427, 428, 429, 430, 431, 432, 433, 434, 435, 436, 437] (by decide +kernel) (by decide +kernel)
set_option maxRecDepth 20000 in
theorem gL_law_X5_siding : GoodIn wsL_law (wsV RL 74 RX5 yX5_siding wsX5_siding) := goodIn_app (goodIn_of _ (by decide +kernel)) ggL_law_X5_siding
set_option maxRecDepth 20000 in
theorem ggL_law_X4_room : GoodIn wsL_law wsX4_room := goodIn_r _ [290, 266, 291, 89, 90, 91, 2, 92, 15, 416, 417, 418, 419, 420, 421, 445, 446] (by decide +kernel) (by decide +kernel)
set_option maxRecDepth 20000 in
theorem gL_law_X4_room : GoodIn wsL_law (wsV RL 75 RX4 yX4_room wsX4_room) := goodIn_app (goodIn_of _ (by decide +kernel)) ggL_law_X4_room
set_option maxRecDepth 20000 in
theorem ggL_law_X5_room : GoodIn wsL_law wsX5_room := goodIn_r _ [295, 34, 102, 103, 104, 5, 105, 38, 422, 423, 424, 425, 426, 427, 428, 429, 430, 431, 432, 433, 434, 435, 436, 437] (by decide +kernel) (by decide +kernel)
set_option maxRecDepth 20000 in
theorem gL_law_X5_room : GoodIn wsL_law (wsV RL 78 RX5 yX5_room wsX5_room) := goodIn_app (goodIn_of _ (by decide +kernel)) ggL_law_X5_room
set_option maxRecDepth 20000 in
theorem ggL_law_X4_stow : GoodIn wsL_law wsX4_stow := goodIn_r _ [299, 13, 235, 266, 291, 47, 48, 49, 2, 50, 154, 155, 156, 157, 89, 90, 91, 92, 15, 300, 301, 302, 303, 304, 305, 306, 265, 307, 273, 308, 85, 86, 87, 17, 88, 64, 65, 66, 416, 417, 418, 419, 420, 421, 438, 439, 445, 446, 440, 441, 442, 443, 444] (by decide +kernel) (by decide +kernel)
set_option maxRecDepth 20000 in
theorem gL_law_X4_stow : GoodIn wsL_law (wsV RL 79 RX4 yX4_stow wsX4_stow) := goodIn_app (goodIn_of _ (by decide +kernel)) ggL_law_X4_stow
set_option maxRecDepth 20000 in
theorem ggL_law_X5_stow : GoodIn wsL_law wsX5_stow := goodIn_r _ [312, 33, 25, 34, 278, 30, 35, 71, 72, 5, 73, 74, 75, 76, 102, 103, 104, 105, 38, 283, 284, 285, 286, 32, 77, 78, 79, 80, 422, 423, 424, 425, 426, 427, 428, 429, 430, 431, 432, 433, 434, 435, 436, 437] (by decide +kernel) (by decide +kernel)
set_option maxRecDepth 20000 in
theorem gL_law_X5_stow : GoodIn wsL_law (wsV RL 82 RX5 yX5_stow wsX5_stow) := goodIn_app (goodIn_of _ (by decide +kernel)) ggL_law_X5_stow
set_option maxRecDepth 20000 in
theorem ggL_law_X4_fetch : GoodIn wsL_law wsX4_fetch := goodIn_r _ [316, 266, 291, 13, 47, 48, 49, 2, 50, 300, 301, 302, 303, 89, 90, 91, 92, 15, 60, 61, 62, 17, 63, 64, 65, 66, 416, 417, 418, 419, 420, 421, 445, 446, 438, 439, 440, 441, 442, 443, 444] (by decide +kernel) (by decide +kernel)
set_option maxRecDepth 20000 in
theorem gL_law_X4_fetch : GoodIn wsL_law (wsV RL 83 RX4 yX4_fetch wsX4_fetch) := goodIn_app (goodIn_of _ (by decide +kernel)) ggL_law_X4_fetch
set_option maxRecDepth 20000 in
theorem ggL_law_X5_fetch : GoodIn wsL_law wsX5_fetch := goodIn_r _ [320, 34, 35, 30, 33, 71, 72, 5, 73, 74, 75, 76, 102, 103, 104, 105, 38, 77, 78, 79, 80, 422, 423, 424, 425, 426, 427, 428, 429, 430, 431, 432, 433, 434, 435, 436, 437] (by decide +kernel) (by decide +kernel)
set_option maxRecDepth 20000 in
theorem gL_law_X5_fetch : GoodIn wsL_law (wsV RL 86 RX5 yX5_fetch wsX5_fetch) := goodIn_app (goodIn_of _ (by decide +kernel)) ggL_law_X5_fetch
set_option maxRecDepth 20000 in
theorem ggL_law_X4_plan : GoodIn wsL_law wsX4_plan := goodIn_r _ [324, 325, 326, 327, 328, 89, 90, 91, 2, 92, 15, 329, 330, 331, 332, 10, 11, 333, 334, 14, 335, 447, 448, 449, 416, 417, 418, 419, 420, 421] (by decide +kernel) (by decide +kernel)
set_option maxRecDepth 20000 in
theorem gL_law_X4_plan : GoodIn wsL_law (wsV RL 87 RX4 yX4_plan wsX4_plan) := goodIn_app (goodIn_of _ (by decide +kernel)) ggL_law_X4_plan
set_option maxRecDepth 20000 in
theorem ggL_law_X5_plan : GoodIn wsL_law wsX5_plan := goodIn_r _ [339, 36, 340, 37, 102, 103, 104, 5, 105, 38, 422, 423, 424, 425, 426, 427, 428, 429, 430, 431, 432, 433, 434, 435, 436, 437] (by decide +kernel) (by decide +kernel)
set_option maxRecDepth 20000 in
theorem gL_law_X5_plan : GoodIn wsL_law (wsV RL 90 RX5 yX5_plan wsX5_plan) := goodIn_app (goodIn_of _ (by decide +kernel)) ggL_law_X5_plan
set_option maxRecDepth 20000 in
theorem ggL_law_X4_note : GoodIn wsL_law wsX4_note := goodIn_r _ [344, 328, 345, 51, 52, 2, 53, 346, 347, 348, 349, 350, 351, 352, 353, 354, 355, 89, 90, 91, 92, 15, 356, 357, 358, 327, 359, 334, 416, 417, 418, 419, 420, 421, 447, 448, 449] (by decide +kernel) (by decide +kernel)
set_option maxRecDepth 20000 in
theorem gL_law_X4_note : GoodIn wsL_law (wsV RL 91 RX4 yX4_note wsX4_note) := goodIn_app (goodIn_of _ (by decide +kernel)) ggL_law_X4_note
set_option maxRecDepth 20000 in
theorem ggL_law_X5_note : GoodIn wsL_law wsX5_note := goodIn_r _ [363, 340, 37, 74, 75, 5, 76, 364, 365, 366, 367, 36, 102, 103, 104, 105, 38, 422, 423, 424, 425, 426, 427, 428, 429, 430, 431, 432, 433, 434, 435, 436, 437] (by decide +kernel) (by decide +kernel)
set_option maxRecDepth 20000 in
theorem gL_law_X5_note : GoodIn wsL_law (wsV RL 94 RX5 yX5_note wsX5_note) := goodIn_app (goodIn_of _ (by decide +kernel)) ggL_law_X5_note
set_option maxRecDepth 20000 in
theorem ggL_law_X4_noted : GoodIn wsL_law wsX4_noted := goodIn_r _ [371, 328, 345, 346, 347, 348, 2, 349, 350, 351, 352, 353, 354, 355, 89, 90, 91, 92, 15, 356, 357, 358, 327, 359, 334, 416, 417, 418, 419, 420, 421, 447, 448, 449] (by decide +kernel) (by decide +kernel)
set_option maxRecDepth 20000 in
theorem gL_law_X4_noted : GoodIn wsL_law (wsV RL 95 RX4 yX4_noted wsX4_noted) := goodIn_app (goodIn_of _ (by decide +kernel)) ggL_law_X4_noted
set_option maxRecDepth 20000 in
theorem ggL_law_X5_noted : GoodIn wsL_law wsX5_noted := goodIn_r _ [375, 340, 37, 364, 365, 366, 5, 367, 36, 74, 75, 76, 102, 103, 104, 105, 38, 422, 423, 424, 425, 426, 427, 428, 429, 430, 431, 432, 433, 434, 435, 436, 437] (by decide +kernel) (by decide +kernel)
set_option maxRecDepth 20000 in
theorem gL_law_X5_noted : GoodIn wsL_law (wsV RL 98 RX5 yX5_noted wsX5_noted) := goodIn_app (goodIn_of _ (by decide +kernel)) ggL_law_X5_noted
set_option maxRecDepth 20000 in
theorem ggL_law_X4_wide : GoodIn wsL_law wsX4_wide := goodIn_r _ [379, 328, 350, 351, 352, 353, 2, 354, 355, 89, 90, 91, 92, 15, 416, 417, 418, 419, 420, 421, 447, 448, 449] (by decide +kernel) (by decide +kernel)
set_option maxRecDepth 20000 in
theorem gL_law_X4_wide : GoodIn wsL_law (wsV RL 99 RX4 yX4_wide wsX4_wide) := goodIn_app (goodIn_of _ (by decide +kernel)) ggL_law_X4_wide
set_option maxRecDepth 20000 in
theorem ggL_law_X5_wide : GoodIn wsL_law wsX5_wide := goodIn_r _ [383, 340, 364, 365, 366, 5, 367, 36, 74, 75, 76, 102, 103, 104, 105, 38, 422, 423, 424, 425, 426, 427, 428, 429, 430, 431, 432, 433, 434, 435, 436, 437] (by decide +kernel) (by decide +kernel)
set_option maxRecDepth 20000 in
theorem gL_law_X5_wide : GoodIn wsL_law (wsV RL 102 RX5 yX5_wide wsX5_wide) := goodIn_app (goodIn_of _ (by decide +kernel)) ggL_law_X5_wide
set_option maxRecDepth 20000 in
theorem ggL_law_X4_away : GoodIn wsL_law wsX4_away := goodIn_r _ [387, 266, 328, 416, 417, 418, 419, 420, 421] (by decide +kernel) (by decide +kernel)
set_option maxRecDepth 20000 in
theorem gL_law_X4_away : GoodIn wsL_law (wsV RL 103 RX4 yX4_away wsX4_away) := goodIn_app (goodIn_of _ (by decide +kernel)) ggL_law_X4_away
set_option maxRecDepth 20000 in
theorem ggL_law_X5_away : GoodIn wsL_law wsX5_away := goodIn_r _ [391, 34, 36, 74, 75, 5, 76, 279, 280, 281, 282, 283, 284, 285, 286, 35, 32, 422, 423, 424, 425, 426, 427, 428, 429, 430, 431, 432, 433, 434, 435, 436, 437] (by decide +kernel) (by decide +kernel)
set_option maxRecDepth 20000 in
theorem gL_law_X5_away : GoodIn wsL_law (wsV RL 106 RX5 yX5_away wsX5_away) := goodIn_app (goodIn_of _ (by decide +kernel)) ggL_law_X5_away
set_option maxRecDepth 20000 in
theorem ggL_law_X4_about : GoodIn wsL_law wsX4_about := goodIn_r _ [395, 13, 157, 236, 208, 149, 150, 151, 2, 152, 48, 49, 50, 51, 52, 53, 153, 122, 123, 17, 124, 66, 64, 65, 416, 417, 418, 419, 420, 421, 440, 441, 442, 443, 444, 438, 439] (by decide +kernel) (by decide +kernel)
set_option maxRecDepth 20000 in
theorem gL_law_X4_about : GoodIn wsL_law (wsV RL 107 RX4 yX4_about wsX4_about) := goodIn_app (goodIn_of _ (by decide +kernel)) ggL_law_X4_about
set_option maxRecDepth 20000 in
theorem ggL_law_X5_about : GoodIn wsL_law wsX5_about := goodIn_r _ [399, 25, 26, 27, 28, 71, 72, 5, 73, 74, 75, 76, 129, 130, 131, 132, 33, 30, 422, 423, 424, 425, 426, 427, 428, 429, 430, 431, 432, 433, 434, 435, 436, 437] (by decide +kernel) (by decide +kernel)
set_option maxRecDepth 20000 in
theorem gL_law_X5_about : GoodIn wsL_law (wsV RL 110 RX5 yX5_about wsX5_about) := goodIn_app (goodIn_of _ (by decide +kernel)) ggL_law_X5_about
set_option maxRecDepth 20000 in
theorem ggL_law_X4_count : GoodIn wsL_law wsX4_count := goodIn_r _ [403, 13, 47, 48, 49, 2, 50, 416, 417, 418, 419, 420, 421, 438, 439] (by decide +kernel) (by decide +kernel)
set_option maxRecDepth 20000 in
theorem gL_law_X4_count : GoodIn wsL_law (wsV RL 111 RX4 yX4_count wsX4_count) := goodIn_app (goodIn_of _ (by decide +kernel)) ggL_law_X4_count
set_option maxRecDepth 20000 in
theorem ggL_law_X5_count : GoodIn wsL_law wsX5_count := goodIn_r _ [407, 71, 72, 5, 73, 74, 75, 76, 77, 78, 79, 80, 33, 30, 422, 423, 424, 425, 426, 427, 428, 429, 430, 431, 432, 433, 434, 435, 436, 437] (by decide +kernel) (by decide +kernel)
set_option maxRecDepth 20000 in
theorem gL_law_X5_count : GoodIn wsL_law (wsV RL 114 RX5 yX5_count wsX5_count) := goodIn_app (goodIn_of _ (by decide +kernel)) ggL_law_X5_count
set_option maxRecDepth 20000 in
theorem ggL_law_X4_reasons : GoodIn wsL_law wsX4_reasons := goodIn_r _ [411, 15, 51, 52, 2, 53, 416, 417, 418, 419, 420, 421] (by decide +kernel) (by decide +kernel)
set_option maxRecDepth 20000 in
theorem gL_law_X4_reasons : GoodIn wsL_law (wsV RL 115 RX4 yX4_reasons wsX4_reasons) := goodIn_app (goodIn_of _ (by decide +kernel)) ggL_law_X4_reasons
set_option maxRecDepth 20000 in
theorem ggL_law_X5_reasons : GoodIn wsL_law wsX5_reasons := goodIn_r _ [415, 38, 74, 75, 5, 76, 422, 423, 424, 425, 426, 427, 428, 429, 430, 431, 432, 433, 434, 435, 436, 437] (by decide +kernel) (by decide +kernel)
set_option maxRecDepth 20000 in
theorem gL_law_X5_reasons : GoodIn wsL_law (wsV RL 118 RX5 yX5_reasons wsX5_reasons) := goodIn_app (goodIn_of _ (by decide +kernel)) ggL_law_X5_reasons
theorem dL_law_0 : decode cL_law 0 = .ok (.new 7, 3) := by decide +kernel
theorem dL_law_3 : decode cL_law 3 = .ok (.dup, 1) := by decide +kernel
theorem dL_law_4 : decode cL_law 4 = .ok (.invokespecial 9, 3) := by decide +kernel
theorem dL_law_7 : decode cL_law 7 = .ok (.astore_n 1, 1) := by decide +kernel
theorem dL_law_8 : decode cL_law 8 = .ok (.new 10, 3) := by decide +kernel
theorem dL_law_11 : decode cL_law 11 = .ok (.dup, 1) := by decide +kernel
theorem dL_law_12 : decode cL_law 12 = .ok (.invokespecial 12, 3) := by decide +kernel
theorem dL_law_15 : decode cL_law 15 = .ok (.astore_n 2, 1) := by decide +kernel
theorem dL_law_16 : decode cL_law 16 = .ok (.iconst 0, 1) := by decide +kernel
theorem dL_law_17 : decode cL_law 17 = .ok (.istore_n 3, 1) := by decide +kernel
theorem dL_law_18 : decode cL_law 18 = .ok (.iload_n 3, 1) := by decide +kernel
theorem dL_law_19 : decode cL_law 19 = .ok (.aload_n 0, 1) := by decide +kernel
theorem dL_law_20 : decode cL_law 20 = .ok (.arraylength, 1) := by decide +kernel
theorem dL_law_21 : decode cL_law 21 = .ok (.iconst 5, 1) := by decide +kernel
theorem dL_law_22 : decode cL_law 22 = .ok (.isub, 1) := by decide +kernel
theorem dL_law_23 : decode cL_law 23 = .ok (.if_icmp .gt 962, 3) := by decide +kernel
theorem dL_law_26 : decode cL_law 26 = .ok (.aload_n 0, 1) := by decide +kernel
theorem dL_law_27 : decode cL_law 27 = .ok (.iload_n 3, 1) := by decide +kernel
theorem dL_law_28 : decode cL_law 28 = .ok (.iaload, 1) := by decide +kernel
theorem dL_law_29 : decode cL_law 29 = .ok (.bipush 31, 2) := by decide +kernel
theorem dL_law_31 : decode cL_law 31 = .ok (.iand, 1) := by decide +kernel
theorem dL_law_32 : decode cL_law 32 = .ok (.tableswitch 947 0 24 #[116, 159, 182, 225, 258, 301, 354, 397, 430, 463, 506, 539, 562, 575, 624, 637, 670, 703, 736, 779, 812, 835, 858, 901, 924], 116) := by decide +kernel
theorem dL_law_148 : decode cL_law 148 = .ok (.aload_n 1, 1) := by decide +kernel
theorem dL_law_149 : decode cL_law 149 = .ok (.aload_n 0, 1) := by decide +kernel
theorem dL_law_150 : decode cL_law 150 = .ok (.iload_n 3, 1) := by decide +kernel
theorem dL_law_151 : decode cL_law 151 = .ok (.iconst 1, 1) := by decide +kernel
theorem dL_law_152 : decode cL_law 152 = .ok (.iadd, 1) := by decide +kernel
theorem dL_law_153 : decode cL_law 153 = .ok (.iaload, 1) := by decide +kernel
theorem dL_law_154 : decode cL_law 154 = .ok (.aload_n 0, 1) := by decide +kernel
theorem dL_law_155 : decode cL_law 155 = .ok (.iload_n 3, 1) := by decide +kernel
theorem dL_law_156 : decode cL_law 156 = .ok (.iconst 2, 1) := by decide +kernel
theorem dL_law_157 : decode cL_law 157 = .ok (.iadd, 1) := by decide +kernel
theorem dL_law_158 : decode cL_law 158 = .ok (.iaload, 1) := by decide +kernel
theorem dL_law_159 : decode cL_law 159 = .ok (.aload_n 0, 1) := by decide +kernel
theorem dL_law_160 : decode cL_law 160 = .ok (.iload_n 3, 1) := by decide +kernel
theorem dL_law_161 : decode cL_law 161 = .ok (.iconst 3, 1) := by decide +kernel
theorem dL_law_162 : decode cL_law 162 = .ok (.iadd, 1) := by decide +kernel
theorem dL_law_163 : decode cL_law 163 = .ok (.iaload, 1) := by decide +kernel
theorem dL_law_164 : decode cL_law 164 = .ok (.invokevirtual 13, 3) := by decide +kernel
theorem dL_law_167 : decode cL_law 167 = .ok (.aload_n 2, 1) := by decide +kernel
theorem dL_law_168 : decode cL_law 168 = .ok (.aload_n 0, 1) := by decide +kernel
theorem dL_law_169 : decode cL_law 169 = .ok (.iload_n 3, 1) := by decide +kernel
theorem dL_law_170 : decode cL_law 170 = .ok (.iconst 1, 1) := by decide +kernel
theorem dL_law_171 : decode cL_law 171 = .ok (.iadd, 1) := by decide +kernel
theorem dL_law_172 : decode cL_law 172 = .ok (.iaload, 1) := by decide +kernel
theorem dL_law_173 : decode cL_law 173 = .ok (.aload_n 0, 1) := by decide +kernel
theorem dL_law_174 : decode cL_law 174 = .ok (.iload_n 3, 1) := by decide +kernel
theorem dL_law_175 : decode cL_law 175 = .ok (.iconst 2, 1) := by decide +kernel
theorem dL_law_176 : decode cL_law 176 = .ok (.iadd, 1) := by decide +kernel
theorem dL_law_177 : decode cL_law 177 = .ok (.iaload, 1) := by decide +kernel
theorem dL_law_178 : decode cL_law 178 = .ok (.aload_n 0, 1) := by decide +kernel
theorem dL_law_179 : decode cL_law 179 = .ok (.iload_n 3, 1) := by decide +kernel
theorem dL_law_180 : decode cL_law 180 = .ok (.iconst 3, 1) := by decide +kernel
theorem dL_law_181 : decode cL_law 181 = .ok (.iadd, 1) := by decide +kernel
theorem dL_law_182 : decode cL_law 182 = .ok (.iaload, 1) := by decide +kernel
theorem dL_law_183 : decode cL_law 183 = .ok (.invokevirtual 17, 3) := by decide +kernel
theorem dL_law_186 : decode cL_law 186 = .ok (.if_icmp .eq 793, 3) := by decide +kernel
theorem dL_law_189 : decode cL_law 189 = .ok (.iconst 0, 1) := by decide +kernel
theorem dL_law_190 : decode cL_law 190 = .ok (.ireturn, 1) := by decide +kernel
theorem dL_law_191 : decode cL_law 191 = .ok (.aload_n 1, 1) := by decide +kernel
theorem dL_law_192 : decode cL_law 192 = .ok (.aload_n 0, 1) := by decide +kernel
theorem dL_law_193 : decode cL_law 193 = .ok (.iload_n 3, 1) := by decide +kernel
theorem dL_law_194 : decode cL_law 194 = .ok (.iconst 1, 1) := by decide +kernel
theorem dL_law_195 : decode cL_law 195 = .ok (.iadd, 1) := by decide +kernel
theorem dL_law_196 : decode cL_law 196 = .ok (.iaload, 1) := by decide +kernel
theorem dL_law_197 : decode cL_law 197 = .ok (.invokevirtual 18, 3) := by decide +kernel
theorem dL_law_200 : decode cL_law 200 = .ok (.aload_n 2, 1) := by decide +kernel
theorem dL_law_201 : decode cL_law 201 = .ok (.aload_n 0, 1) := by decide +kernel
theorem dL_law_202 : decode cL_law 202 = .ok (.iload_n 3, 1) := by decide +kernel
theorem dL_law_203 : decode cL_law 203 = .ok (.iconst 1, 1) := by decide +kernel
theorem dL_law_204 : decode cL_law 204 = .ok (.iadd, 1) := by decide +kernel
theorem dL_law_205 : decode cL_law 205 = .ok (.iaload, 1) := by decide +kernel
theorem dL_law_206 : decode cL_law 206 = .ok (.invokevirtual 22, 3) := by decide +kernel
theorem dL_law_209 : decode cL_law 209 = .ok (.if_icmp .eq 770, 3) := by decide +kernel
theorem dL_law_212 : decode cL_law 212 = .ok (.iconst 0, 1) := by decide +kernel
theorem dL_law_213 : decode cL_law 213 = .ok (.ireturn, 1) := by decide +kernel
theorem dL_law_214 : decode cL_law 214 = .ok (.aload_n 1, 1) := by decide +kernel
theorem dL_law_215 : decode cL_law 215 = .ok (.aload_n 0, 1) := by decide +kernel
theorem dL_law_216 : decode cL_law 216 = .ok (.iload_n 3, 1) := by decide +kernel
theorem dL_law_217 : decode cL_law 217 = .ok (.iconst 1, 1) := by decide +kernel
theorem dL_law_218 : decode cL_law 218 = .ok (.iadd, 1) := by decide +kernel
theorem dL_law_219 : decode cL_law 219 = .ok (.iaload, 1) := by decide +kernel
theorem dL_law_220 : decode cL_law 220 = .ok (.aload_n 0, 1) := by decide +kernel
theorem dL_law_221 : decode cL_law 221 = .ok (.iload_n 3, 1) := by decide +kernel
theorem dL_law_222 : decode cL_law 222 = .ok (.iconst 2, 1) := by decide +kernel
theorem dL_law_223 : decode cL_law 223 = .ok (.iadd, 1) := by decide +kernel
theorem dL_law_224 : decode cL_law 224 = .ok (.iaload, 1) := by decide +kernel
theorem dL_law_225 : decode cL_law 225 = .ok (.aload_n 0, 1) := by decide +kernel
theorem dL_law_226 : decode cL_law 226 = .ok (.iload_n 3, 1) := by decide +kernel
theorem dL_law_227 : decode cL_law 227 = .ok (.iconst 3, 1) := by decide +kernel
theorem dL_law_228 : decode cL_law 228 = .ok (.iadd, 1) := by decide +kernel
theorem dL_law_229 : decode cL_law 229 = .ok (.iaload, 1) := by decide +kernel
theorem dL_law_230 : decode cL_law 230 = .ok (.invokevirtual 23, 3) := by decide +kernel
theorem dL_law_233 : decode cL_law 233 = .ok (.aload_n 2, 1) := by decide +kernel
theorem dL_law_234 : decode cL_law 234 = .ok (.aload_n 0, 1) := by decide +kernel
theorem dL_law_235 : decode cL_law 235 = .ok (.iload_n 3, 1) := by decide +kernel
theorem dL_law_236 : decode cL_law 236 = .ok (.iconst 1, 1) := by decide +kernel
theorem dL_law_237 : decode cL_law 237 = .ok (.iadd, 1) := by decide +kernel
theorem dL_law_238 : decode cL_law 238 = .ok (.iaload, 1) := by decide +kernel
theorem dL_law_239 : decode cL_law 239 = .ok (.aload_n 0, 1) := by decide +kernel
theorem dL_law_240 : decode cL_law 240 = .ok (.iload_n 3, 1) := by decide +kernel
theorem dL_law_241 : decode cL_law 241 = .ok (.iconst 2, 1) := by decide +kernel
theorem dL_law_242 : decode cL_law 242 = .ok (.iadd, 1) := by decide +kernel
theorem dL_law_243 : decode cL_law 243 = .ok (.iaload, 1) := by decide +kernel
theorem dL_law_244 : decode cL_law 244 = .ok (.aload_n 0, 1) := by decide +kernel
theorem dL_law_245 : decode cL_law 245 = .ok (.iload_n 3, 1) := by decide +kernel
theorem dL_law_246 : decode cL_law 246 = .ok (.iconst 3, 1) := by decide +kernel
theorem dL_law_247 : decode cL_law 247 = .ok (.iadd, 1) := by decide +kernel
theorem dL_law_248 : decode cL_law 248 = .ok (.iaload, 1) := by decide +kernel
theorem dL_law_249 : decode cL_law 249 = .ok (.invokevirtual 26, 3) := by decide +kernel
theorem dL_law_252 : decode cL_law 252 = .ok (.if_icmp .eq 727, 3) := by decide +kernel
theorem dL_law_255 : decode cL_law 255 = .ok (.iconst 0, 1) := by decide +kernel
theorem dL_law_256 : decode cL_law 256 = .ok (.ireturn, 1) := by decide +kernel
theorem dL_law_257 : decode cL_law 257 = .ok (.aload_n 1, 1) := by decide +kernel
theorem dL_law_258 : decode cL_law 258 = .ok (.aload_n 0, 1) := by decide +kernel
theorem dL_law_259 : decode cL_law 259 = .ok (.iload_n 3, 1) := by decide +kernel
theorem dL_law_260 : decode cL_law 260 = .ok (.iconst 1, 1) := by decide +kernel
theorem dL_law_261 : decode cL_law 261 = .ok (.iadd, 1) := by decide +kernel
theorem dL_law_262 : decode cL_law 262 = .ok (.iaload, 1) := by decide +kernel
theorem dL_law_263 : decode cL_law 263 = .ok (.aload_n 0, 1) := by decide +kernel
theorem dL_law_264 : decode cL_law 264 = .ok (.iload_n 3, 1) := by decide +kernel
theorem dL_law_265 : decode cL_law 265 = .ok (.iconst 2, 1) := by decide +kernel
theorem dL_law_266 : decode cL_law 266 = .ok (.iadd, 1) := by decide +kernel
theorem dL_law_267 : decode cL_law 267 = .ok (.iaload, 1) := by decide +kernel
theorem dL_law_268 : decode cL_law 268 = .ok (.invokevirtual 27, 3) := by decide +kernel
theorem dL_law_271 : decode cL_law 271 = .ok (.aload_n 2, 1) := by decide +kernel
theorem dL_law_272 : decode cL_law 272 = .ok (.aload_n 0, 1) := by decide +kernel
theorem dL_law_273 : decode cL_law 273 = .ok (.iload_n 3, 1) := by decide +kernel
theorem dL_law_274 : decode cL_law 274 = .ok (.iconst 1, 1) := by decide +kernel
theorem dL_law_275 : decode cL_law 275 = .ok (.iadd, 1) := by decide +kernel
theorem dL_law_276 : decode cL_law 276 = .ok (.iaload, 1) := by decide +kernel
theorem dL_law_277 : decode cL_law 277 = .ok (.aload_n 0, 1) := by decide +kernel
theorem dL_law_278 : decode cL_law 278 = .ok (.iload_n 3, 1) := by decide +kernel
theorem dL_law_279 : decode cL_law 279 = .ok (.iconst 2, 1) := by decide +kernel
theorem dL_law_280 : decode cL_law 280 = .ok (.iadd, 1) := by decide +kernel
theorem dL_law_281 : decode cL_law 281 = .ok (.iaload, 1) := by decide +kernel
theorem dL_law_282 : decode cL_law 282 = .ok (.invokevirtual 31, 3) := by decide +kernel
theorem dL_law_285 : decode cL_law 285 = .ok (.if_icmp .eq 694, 3) := by decide +kernel
theorem dL_law_288 : decode cL_law 288 = .ok (.iconst 0, 1) := by decide +kernel
theorem dL_law_289 : decode cL_law 289 = .ok (.ireturn, 1) := by decide +kernel
theorem dL_law_290 : decode cL_law 290 = .ok (.aload_n 1, 1) := by decide +kernel
theorem dL_law_291 : decode cL_law 291 = .ok (.aload_n 0, 1) := by decide +kernel
theorem dL_law_292 : decode cL_law 292 = .ok (.iload_n 3, 1) := by decide +kernel
theorem dL_law_293 : decode cL_law 293 = .ok (.iconst 1, 1) := by decide +kernel
theorem dL_law_294 : decode cL_law 294 = .ok (.iadd, 1) := by decide +kernel
theorem dL_law_295 : decode cL_law 295 = .ok (.iaload, 1) := by decide +kernel
theorem dL_law_296 : decode cL_law 296 = .ok (.aload_n 0, 1) := by decide +kernel
theorem dL_law_297 : decode cL_law 297 = .ok (.iload_n 3, 1) := by decide +kernel
theorem dL_law_298 : decode cL_law 298 = .ok (.iconst 2, 1) := by decide +kernel
theorem dL_law_299 : decode cL_law 299 = .ok (.iadd, 1) := by decide +kernel
theorem dL_law_300 : decode cL_law 300 = .ok (.iaload, 1) := by decide +kernel
theorem dL_law_301 : decode cL_law 301 = .ok (.aload_n 0, 1) := by decide +kernel
theorem dL_law_302 : decode cL_law 302 = .ok (.iload_n 3, 1) := by decide +kernel
theorem dL_law_303 : decode cL_law 303 = .ok (.iconst 3, 1) := by decide +kernel
theorem dL_law_304 : decode cL_law 304 = .ok (.iadd, 1) := by decide +kernel
theorem dL_law_305 : decode cL_law 305 = .ok (.iaload, 1) := by decide +kernel
theorem dL_law_306 : decode cL_law 306 = .ok (.invokevirtual 32, 3) := by decide +kernel
theorem dL_law_309 : decode cL_law 309 = .ok (.aload_n 2, 1) := by decide +kernel
theorem dL_law_310 : decode cL_law 310 = .ok (.aload_n 0, 1) := by decide +kernel
theorem dL_law_311 : decode cL_law 311 = .ok (.iload_n 3, 1) := by decide +kernel
theorem dL_law_312 : decode cL_law 312 = .ok (.iconst 1, 1) := by decide +kernel
theorem dL_law_313 : decode cL_law 313 = .ok (.iadd, 1) := by decide +kernel
theorem dL_law_314 : decode cL_law 314 = .ok (.iaload, 1) := by decide +kernel
theorem dL_law_315 : decode cL_law 315 = .ok (.aload_n 0, 1) := by decide +kernel
theorem dL_law_316 : decode cL_law 316 = .ok (.iload_n 3, 1) := by decide +kernel
theorem dL_law_317 : decode cL_law 317 = .ok (.iconst 2, 1) := by decide +kernel
theorem dL_law_318 : decode cL_law 318 = .ok (.iadd, 1) := by decide +kernel
theorem dL_law_319 : decode cL_law 319 = .ok (.iaload, 1) := by decide +kernel
theorem dL_law_320 : decode cL_law 320 = .ok (.aload_n 0, 1) := by decide +kernel
theorem dL_law_321 : decode cL_law 321 = .ok (.iload_n 3, 1) := by decide +kernel
theorem dL_law_322 : decode cL_law 322 = .ok (.iconst 3, 1) := by decide +kernel
theorem dL_law_323 : decode cL_law 323 = .ok (.iadd, 1) := by decide +kernel
theorem dL_law_324 : decode cL_law 324 = .ok (.iaload, 1) := by decide +kernel
theorem dL_law_325 : decode cL_law 325 = .ok (.invokevirtual 35, 3) := by decide +kernel
theorem dL_law_328 : decode cL_law 328 = .ok (.if_icmp .eq 651, 3) := by decide +kernel
theorem dL_law_331 : decode cL_law 331 = .ok (.iconst 0, 1) := by decide +kernel
theorem dL_law_332 : decode cL_law 332 = .ok (.ireturn, 1) := by decide +kernel
theorem dL_law_333 : decode cL_law 333 = .ok (.aload_n 1, 1) := by decide +kernel
theorem dL_law_334 : decode cL_law 334 = .ok (.aload_n 0, 1) := by decide +kernel
theorem dL_law_335 : decode cL_law 335 = .ok (.iload_n 3, 1) := by decide +kernel
theorem dL_law_336 : decode cL_law 336 = .ok (.iconst 1, 1) := by decide +kernel
theorem dL_law_337 : decode cL_law 337 = .ok (.iadd, 1) := by decide +kernel
theorem dL_law_338 : decode cL_law 338 = .ok (.iaload, 1) := by decide +kernel
theorem dL_law_339 : decode cL_law 339 = .ok (.aload_n 0, 1) := by decide +kernel
theorem dL_law_340 : decode cL_law 340 = .ok (.iload_n 3, 1) := by decide +kernel
theorem dL_law_341 : decode cL_law 341 = .ok (.iconst 2, 1) := by decide +kernel
theorem dL_law_342 : decode cL_law 342 = .ok (.iadd, 1) := by decide +kernel
theorem dL_law_343 : decode cL_law 343 = .ok (.iaload, 1) := by decide +kernel
theorem dL_law_344 : decode cL_law 344 = .ok (.aload_n 0, 1) := by decide +kernel
theorem dL_law_345 : decode cL_law 345 = .ok (.iload_n 3, 1) := by decide +kernel
theorem dL_law_346 : decode cL_law 346 = .ok (.iconst 3, 1) := by decide +kernel
theorem dL_law_347 : decode cL_law 347 = .ok (.iadd, 1) := by decide +kernel
theorem dL_law_348 : decode cL_law 348 = .ok (.iaload, 1) := by decide +kernel
theorem dL_law_349 : decode cL_law 349 = .ok (.aload_n 0, 1) := by decide +kernel
theorem dL_law_350 : decode cL_law 350 = .ok (.iload_n 3, 1) := by decide +kernel
theorem dL_law_351 : decode cL_law 351 = .ok (.iconst 4, 1) := by decide +kernel
theorem dL_law_352 : decode cL_law 352 = .ok (.iadd, 1) := by decide +kernel
theorem dL_law_353 : decode cL_law 353 = .ok (.iaload, 1) := by decide +kernel
theorem dL_law_354 : decode cL_law 354 = .ok (.invokevirtual 36, 3) := by decide +kernel
theorem dL_law_357 : decode cL_law 357 = .ok (.aload_n 2, 1) := by decide +kernel
theorem dL_law_358 : decode cL_law 358 = .ok (.aload_n 0, 1) := by decide +kernel
theorem dL_law_359 : decode cL_law 359 = .ok (.iload_n 3, 1) := by decide +kernel
theorem dL_law_360 : decode cL_law 360 = .ok (.iconst 1, 1) := by decide +kernel
theorem dL_law_361 : decode cL_law 361 = .ok (.iadd, 1) := by decide +kernel
theorem dL_law_362 : decode cL_law 362 = .ok (.iaload, 1) := by decide +kernel
theorem dL_law_363 : decode cL_law 363 = .ok (.aload_n 0, 1) := by decide +kernel
theorem dL_law_364 : decode cL_law 364 = .ok (.iload_n 3, 1) := by decide +kernel
theorem dL_law_365 : decode cL_law 365 = .ok (.iconst 2, 1) := by decide +kernel
theorem dL_law_366 : decode cL_law 366 = .ok (.iadd, 1) := by decide +kernel
theorem dL_law_367 : decode cL_law 367 = .ok (.iaload, 1) := by decide +kernel
theorem dL_law_368 : decode cL_law 368 = .ok (.aload_n 0, 1) := by decide +kernel
theorem dL_law_369 : decode cL_law 369 = .ok (.iload_n 3, 1) := by decide +kernel
theorem dL_law_370 : decode cL_law 370 = .ok (.iconst 3, 1) := by decide +kernel
theorem dL_law_371 : decode cL_law 371 = .ok (.iadd, 1) := by decide +kernel
theorem dL_law_372 : decode cL_law 372 = .ok (.iaload, 1) := by decide +kernel
theorem dL_law_373 : decode cL_law 373 = .ok (.aload_n 0, 1) := by decide +kernel
theorem dL_law_374 : decode cL_law 374 = .ok (.iload_n 3, 1) := by decide +kernel
theorem dL_law_375 : decode cL_law 375 = .ok (.iconst 4, 1) := by decide +kernel
theorem dL_law_376 : decode cL_law 376 = .ok (.iadd, 1) := by decide +kernel
theorem dL_law_377 : decode cL_law 377 = .ok (.iaload, 1) := by decide +kernel
theorem dL_law_378 : decode cL_law 378 = .ok (.invokevirtual 40, 3) := by decide +kernel
theorem dL_law_381 : decode cL_law 381 = .ok (.if_icmp .eq 598, 3) := by decide +kernel
theorem dL_law_384 : decode cL_law 384 = .ok (.iconst 0, 1) := by decide +kernel
theorem dL_law_385 : decode cL_law 385 = .ok (.ireturn, 1) := by decide +kernel
theorem dL_law_386 : decode cL_law 386 = .ok (.aload_n 1, 1) := by decide +kernel
theorem dL_law_387 : decode cL_law 387 = .ok (.aload_n 0, 1) := by decide +kernel
theorem dL_law_388 : decode cL_law 388 = .ok (.iload_n 3, 1) := by decide +kernel
theorem dL_law_389 : decode cL_law 389 = .ok (.iconst 1, 1) := by decide +kernel
theorem dL_law_390 : decode cL_law 390 = .ok (.iadd, 1) := by decide +kernel
theorem dL_law_391 : decode cL_law 391 = .ok (.iaload, 1) := by decide +kernel
theorem dL_law_392 : decode cL_law 392 = .ok (.aload_n 0, 1) := by decide +kernel
theorem dL_law_393 : decode cL_law 393 = .ok (.iload_n 3, 1) := by decide +kernel
theorem dL_law_394 : decode cL_law 394 = .ok (.iconst 2, 1) := by decide +kernel
theorem dL_law_395 : decode cL_law 395 = .ok (.iadd, 1) := by decide +kernel
theorem dL_law_396 : decode cL_law 396 = .ok (.iaload, 1) := by decide +kernel
theorem dL_law_397 : decode cL_law 397 = .ok (.aload_n 0, 1) := by decide +kernel
theorem dL_law_398 : decode cL_law 398 = .ok (.iload_n 3, 1) := by decide +kernel
theorem dL_law_399 : decode cL_law 399 = .ok (.iconst 3, 1) := by decide +kernel
theorem dL_law_400 : decode cL_law 400 = .ok (.iadd, 1) := by decide +kernel
theorem dL_law_401 : decode cL_law 401 = .ok (.iaload, 1) := by decide +kernel
theorem dL_law_402 : decode cL_law 402 = .ok (.invokevirtual 41, 3) := by decide +kernel
theorem dL_law_405 : decode cL_law 405 = .ok (.aload_n 2, 1) := by decide +kernel
theorem dL_law_406 : decode cL_law 406 = .ok (.aload_n 0, 1) := by decide +kernel
theorem dL_law_407 : decode cL_law 407 = .ok (.iload_n 3, 1) := by decide +kernel
theorem dL_law_408 : decode cL_law 408 = .ok (.iconst 1, 1) := by decide +kernel
theorem dL_law_409 : decode cL_law 409 = .ok (.iadd, 1) := by decide +kernel
theorem dL_law_410 : decode cL_law 410 = .ok (.iaload, 1) := by decide +kernel
theorem dL_law_411 : decode cL_law 411 = .ok (.aload_n 0, 1) := by decide +kernel
theorem dL_law_412 : decode cL_law 412 = .ok (.iload_n 3, 1) := by decide +kernel
theorem dL_law_413 : decode cL_law 413 = .ok (.iconst 2, 1) := by decide +kernel
theorem dL_law_414 : decode cL_law 414 = .ok (.iadd, 1) := by decide +kernel
theorem dL_law_415 : decode cL_law 415 = .ok (.iaload, 1) := by decide +kernel
theorem dL_law_416 : decode cL_law 416 = .ok (.aload_n 0, 1) := by decide +kernel
theorem dL_law_417 : decode cL_law 417 = .ok (.iload_n 3, 1) := by decide +kernel
theorem dL_law_418 : decode cL_law 418 = .ok (.iconst 3, 1) := by decide +kernel
theorem dL_law_419 : decode cL_law 419 = .ok (.iadd, 1) := by decide +kernel
theorem dL_law_420 : decode cL_law 420 = .ok (.iaload, 1) := by decide +kernel
theorem dL_law_421 : decode cL_law 421 = .ok (.invokevirtual 44, 3) := by decide +kernel
theorem dL_law_424 : decode cL_law 424 = .ok (.if_icmp .eq 555, 3) := by decide +kernel
theorem dL_law_427 : decode cL_law 427 = .ok (.iconst 0, 1) := by decide +kernel
theorem dL_law_428 : decode cL_law 428 = .ok (.ireturn, 1) := by decide +kernel
theorem dL_law_429 : decode cL_law 429 = .ok (.aload_n 1, 1) := by decide +kernel
theorem dL_law_430 : decode cL_law 430 = .ok (.aload_n 0, 1) := by decide +kernel
theorem dL_law_431 : decode cL_law 431 = .ok (.iload_n 3, 1) := by decide +kernel
theorem dL_law_432 : decode cL_law 432 = .ok (.iconst 1, 1) := by decide +kernel
theorem dL_law_433 : decode cL_law 433 = .ok (.iadd, 1) := by decide +kernel
theorem dL_law_434 : decode cL_law 434 = .ok (.iaload, 1) := by decide +kernel
theorem dL_law_435 : decode cL_law 435 = .ok (.aload_n 0, 1) := by decide +kernel
theorem dL_law_436 : decode cL_law 436 = .ok (.iload_n 3, 1) := by decide +kernel
theorem dL_law_437 : decode cL_law 437 = .ok (.iconst 2, 1) := by decide +kernel
theorem dL_law_438 : decode cL_law 438 = .ok (.iadd, 1) := by decide +kernel
theorem dL_law_439 : decode cL_law 439 = .ok (.iaload, 1) := by decide +kernel
theorem dL_law_440 : decode cL_law 440 = .ok (.invokevirtual 45, 3) := by decide +kernel
theorem dL_law_443 : decode cL_law 443 = .ok (.aload_n 2, 1) := by decide +kernel
theorem dL_law_444 : decode cL_law 444 = .ok (.aload_n 0, 1) := by decide +kernel
theorem dL_law_445 : decode cL_law 445 = .ok (.iload_n 3, 1) := by decide +kernel
theorem dL_law_446 : decode cL_law 446 = .ok (.iconst 1, 1) := by decide +kernel
theorem dL_law_447 : decode cL_law 447 = .ok (.iadd, 1) := by decide +kernel
theorem dL_law_448 : decode cL_law 448 = .ok (.iaload, 1) := by decide +kernel
theorem dL_law_449 : decode cL_law 449 = .ok (.aload_n 0, 1) := by decide +kernel
theorem dL_law_450 : decode cL_law 450 = .ok (.iload_n 3, 1) := by decide +kernel
theorem dL_law_451 : decode cL_law 451 = .ok (.iconst 2, 1) := by decide +kernel
theorem dL_law_452 : decode cL_law 452 = .ok (.iadd, 1) := by decide +kernel
theorem dL_law_453 : decode cL_law 453 = .ok (.iaload, 1) := by decide +kernel
theorem dL_law_454 : decode cL_law 454 = .ok (.invokevirtual 48, 3) := by decide +kernel
theorem dL_law_457 : decode cL_law 457 = .ok (.if_icmp .eq 522, 3) := by decide +kernel
theorem dL_law_460 : decode cL_law 460 = .ok (.iconst 0, 1) := by decide +kernel
theorem dL_law_461 : decode cL_law 461 = .ok (.ireturn, 1) := by decide +kernel
theorem dL_law_462 : decode cL_law 462 = .ok (.aload_n 1, 1) := by decide +kernel
theorem dL_law_463 : decode cL_law 463 = .ok (.aload_n 0, 1) := by decide +kernel
theorem dL_law_464 : decode cL_law 464 = .ok (.iload_n 3, 1) := by decide +kernel
theorem dL_law_465 : decode cL_law 465 = .ok (.iconst 1, 1) := by decide +kernel
theorem dL_law_466 : decode cL_law 466 = .ok (.iadd, 1) := by decide +kernel
theorem dL_law_467 : decode cL_law 467 = .ok (.iaload, 1) := by decide +kernel
theorem dL_law_468 : decode cL_law 468 = .ok (.aload_n 0, 1) := by decide +kernel
theorem dL_law_469 : decode cL_law 469 = .ok (.iload_n 3, 1) := by decide +kernel
theorem dL_law_470 : decode cL_law 470 = .ok (.iconst 2, 1) := by decide +kernel
theorem dL_law_471 : decode cL_law 471 = .ok (.iadd, 1) := by decide +kernel
theorem dL_law_472 : decode cL_law 472 = .ok (.iaload, 1) := by decide +kernel
theorem dL_law_473 : decode cL_law 473 = .ok (.invokevirtual 49, 3) := by decide +kernel
theorem dL_law_476 : decode cL_law 476 = .ok (.aload_n 2, 1) := by decide +kernel
theorem dL_law_477 : decode cL_law 477 = .ok (.aload_n 0, 1) := by decide +kernel
theorem dL_law_478 : decode cL_law 478 = .ok (.iload_n 3, 1) := by decide +kernel
theorem dL_law_479 : decode cL_law 479 = .ok (.iconst 1, 1) := by decide +kernel
theorem dL_law_480 : decode cL_law 480 = .ok (.iadd, 1) := by decide +kernel
theorem dL_law_481 : decode cL_law 481 = .ok (.iaload, 1) := by decide +kernel
theorem dL_law_482 : decode cL_law 482 = .ok (.aload_n 0, 1) := by decide +kernel
theorem dL_law_483 : decode cL_law 483 = .ok (.iload_n 3, 1) := by decide +kernel
theorem dL_law_484 : decode cL_law 484 = .ok (.iconst 2, 1) := by decide +kernel
theorem dL_law_485 : decode cL_law 485 = .ok (.iadd, 1) := by decide +kernel
theorem dL_law_486 : decode cL_law 486 = .ok (.iaload, 1) := by decide +kernel
theorem dL_law_487 : decode cL_law 487 = .ok (.invokevirtual 52, 3) := by decide +kernel
theorem dL_law_490 : decode cL_law 490 = .ok (.if_icmp .eq 489, 3) := by decide +kernel
theorem dL_law_493 : decode cL_law 493 = .ok (.iconst 0, 1) := by decide +kernel
theorem dL_law_494 : decode cL_law 494 = .ok (.ireturn, 1) := by decide +kernel
theorem dL_law_495 : decode cL_law 495 = .ok (.aload_n 1, 1) := by decide +kernel
theorem dL_law_496 : decode cL_law 496 = .ok (.aload_n 0, 1) := by decide +kernel
theorem dL_law_497 : decode cL_law 497 = .ok (.iload_n 3, 1) := by decide +kernel
theorem dL_law_498 : decode cL_law 498 = .ok (.iconst 1, 1) := by decide +kernel
theorem dL_law_499 : decode cL_law 499 = .ok (.iadd, 1) := by decide +kernel
theorem dL_law_500 : decode cL_law 500 = .ok (.iaload, 1) := by decide +kernel
theorem dL_law_501 : decode cL_law 501 = .ok (.aload_n 0, 1) := by decide +kernel
theorem dL_law_502 : decode cL_law 502 = .ok (.iload_n 3, 1) := by decide +kernel
theorem dL_law_503 : decode cL_law 503 = .ok (.iconst 2, 1) := by decide +kernel
theorem dL_law_504 : decode cL_law 504 = .ok (.iadd, 1) := by decide +kernel
theorem dL_law_505 : decode cL_law 505 = .ok (.iaload, 1) := by decide +kernel
theorem dL_law_506 : decode cL_law 506 = .ok (.aload_n 0, 1) := by decide +kernel
theorem dL_law_507 : decode cL_law 507 = .ok (.iload_n 3, 1) := by decide +kernel
theorem dL_law_508 : decode cL_law 508 = .ok (.iconst 3, 1) := by decide +kernel
theorem dL_law_509 : decode cL_law 509 = .ok (.iadd, 1) := by decide +kernel
theorem dL_law_510 : decode cL_law 510 = .ok (.iaload, 1) := by decide +kernel
theorem dL_law_511 : decode cL_law 511 = .ok (.invokevirtual 53, 3) := by decide +kernel
theorem dL_law_514 : decode cL_law 514 = .ok (.aload_n 2, 1) := by decide +kernel
theorem dL_law_515 : decode cL_law 515 = .ok (.aload_n 0, 1) := by decide +kernel
theorem dL_law_516 : decode cL_law 516 = .ok (.iload_n 3, 1) := by decide +kernel
theorem dL_law_517 : decode cL_law 517 = .ok (.iconst 1, 1) := by decide +kernel
theorem dL_law_518 : decode cL_law 518 = .ok (.iadd, 1) := by decide +kernel
theorem dL_law_519 : decode cL_law 519 = .ok (.iaload, 1) := by decide +kernel
theorem dL_law_520 : decode cL_law 520 = .ok (.aload_n 0, 1) := by decide +kernel
theorem dL_law_521 : decode cL_law 521 = .ok (.iload_n 3, 1) := by decide +kernel
theorem dL_law_522 : decode cL_law 522 = .ok (.iconst 2, 1) := by decide +kernel
theorem dL_law_523 : decode cL_law 523 = .ok (.iadd, 1) := by decide +kernel
theorem dL_law_524 : decode cL_law 524 = .ok (.iaload, 1) := by decide +kernel
theorem dL_law_525 : decode cL_law 525 = .ok (.aload_n 0, 1) := by decide +kernel
theorem dL_law_526 : decode cL_law 526 = .ok (.iload_n 3, 1) := by decide +kernel
theorem dL_law_527 : decode cL_law 527 = .ok (.iconst 3, 1) := by decide +kernel
theorem dL_law_528 : decode cL_law 528 = .ok (.iadd, 1) := by decide +kernel
theorem dL_law_529 : decode cL_law 529 = .ok (.iaload, 1) := by decide +kernel
theorem dL_law_530 : decode cL_law 530 = .ok (.invokevirtual 56, 3) := by decide +kernel
theorem dL_law_533 : decode cL_law 533 = .ok (.if_icmp .eq 446, 3) := by decide +kernel
theorem dL_law_536 : decode cL_law 536 = .ok (.iconst 0, 1) := by decide +kernel
theorem dL_law_537 : decode cL_law 537 = .ok (.ireturn, 1) := by decide +kernel
theorem dL_law_538 : decode cL_law 538 = .ok (.aload_n 1, 1) := by decide +kernel
theorem dL_law_539 : decode cL_law 539 = .ok (.aload_n 0, 1) := by decide +kernel
theorem dL_law_540 : decode cL_law 540 = .ok (.iload_n 3, 1) := by decide +kernel
theorem dL_law_541 : decode cL_law 541 = .ok (.iconst 1, 1) := by decide +kernel
theorem dL_law_542 : decode cL_law 542 = .ok (.iadd, 1) := by decide +kernel
theorem dL_law_543 : decode cL_law 543 = .ok (.iaload, 1) := by decide +kernel
theorem dL_law_544 : decode cL_law 544 = .ok (.aload_n 0, 1) := by decide +kernel
theorem dL_law_545 : decode cL_law 545 = .ok (.iload_n 3, 1) := by decide +kernel
theorem dL_law_546 : decode cL_law 546 = .ok (.iconst 2, 1) := by decide +kernel
theorem dL_law_547 : decode cL_law 547 = .ok (.iadd, 1) := by decide +kernel
theorem dL_law_548 : decode cL_law 548 = .ok (.iaload, 1) := by decide +kernel
theorem dL_law_549 : decode cL_law 549 = .ok (.invokevirtual 57, 3) := by decide +kernel
theorem dL_law_552 : decode cL_law 552 = .ok (.aload_n 2, 1) := by decide +kernel
theorem dL_law_553 : decode cL_law 553 = .ok (.aload_n 0, 1) := by decide +kernel
theorem dL_law_554 : decode cL_law 554 = .ok (.iload_n 3, 1) := by decide +kernel
theorem dL_law_555 : decode cL_law 555 = .ok (.iconst 1, 1) := by decide +kernel
theorem dL_law_556 : decode cL_law 556 = .ok (.iadd, 1) := by decide +kernel
theorem dL_law_557 : decode cL_law 557 = .ok (.iaload, 1) := by decide +kernel
theorem dL_law_558 : decode cL_law 558 = .ok (.aload_n 0, 1) := by decide +kernel
theorem dL_law_559 : decode cL_law 559 = .ok (.iload_n 3, 1) := by decide +kernel
theorem dL_law_560 : decode cL_law 560 = .ok (.iconst 2, 1) := by decide +kernel
theorem dL_law_561 : decode cL_law 561 = .ok (.iadd, 1) := by decide +kernel
theorem dL_law_562 : decode cL_law 562 = .ok (.iaload, 1) := by decide +kernel
theorem dL_law_563 : decode cL_law 563 = .ok (.invokevirtual 60, 3) := by decide +kernel
theorem dL_law_566 : decode cL_law 566 = .ok (.if_icmp .eq 413, 3) := by decide +kernel
theorem dL_law_569 : decode cL_law 569 = .ok (.iconst 0, 1) := by decide +kernel
theorem dL_law_570 : decode cL_law 570 = .ok (.ireturn, 1) := by decide +kernel
theorem dL_law_571 : decode cL_law 571 = .ok (.aload_n 1, 1) := by decide +kernel
theorem dL_law_572 : decode cL_law 572 = .ok (.aload_n 0, 1) := by decide +kernel
theorem dL_law_573 : decode cL_law 573 = .ok (.iload_n 3, 1) := by decide +kernel
theorem dL_law_574 : decode cL_law 574 = .ok (.iconst 1, 1) := by decide +kernel
theorem dL_law_575 : decode cL_law 575 = .ok (.iadd, 1) := by decide +kernel
theorem dL_law_576 : decode cL_law 576 = .ok (.iaload, 1) := by decide +kernel
theorem dL_law_577 : decode cL_law 577 = .ok (.invokevirtual 61, 3) := by decide +kernel
theorem dL_law_580 : decode cL_law 580 = .ok (.aload_n 2, 1) := by decide +kernel
theorem dL_law_581 : decode cL_law 581 = .ok (.aload_n 0, 1) := by decide +kernel
theorem dL_law_582 : decode cL_law 582 = .ok (.iload_n 3, 1) := by decide +kernel
theorem dL_law_583 : decode cL_law 583 = .ok (.iconst 1, 1) := by decide +kernel
theorem dL_law_584 : decode cL_law 584 = .ok (.iadd, 1) := by decide +kernel
theorem dL_law_585 : decode cL_law 585 = .ok (.iaload, 1) := by decide +kernel
theorem dL_law_586 : decode cL_law 586 = .ok (.invokevirtual 64, 3) := by decide +kernel
theorem dL_law_589 : decode cL_law 589 = .ok (.if_icmp .eq 390, 3) := by decide +kernel
theorem dL_law_592 : decode cL_law 592 = .ok (.iconst 0, 1) := by decide +kernel
theorem dL_law_593 : decode cL_law 593 = .ok (.ireturn, 1) := by decide +kernel
theorem dL_law_594 : decode cL_law 594 = .ok (.aload_n 1, 1) := by decide +kernel
theorem dL_law_595 : decode cL_law 595 = .ok (.invokevirtual 65, 3) := by decide +kernel
theorem dL_law_598 : decode cL_law 598 = .ok (.aload_n 2, 1) := by decide +kernel
theorem dL_law_599 : decode cL_law 599 = .ok (.invokevirtual 69, 3) := by decide +kernel
theorem dL_law_602 : decode cL_law 602 = .ok (.if_icmp .eq 377, 3) := by decide +kernel
theorem dL_law_605 : decode cL_law 605 = .ok (.iconst 0, 1) := by decide +kernel
theorem dL_law_606 : decode cL_law 606 = .ok (.ireturn, 1) := by decide +kernel
theorem dL_law_607 : decode cL_law 607 = .ok (.aload_n 1, 1) := by decide +kernel
theorem dL_law_608 : decode cL_law 608 = .ok (.aload_n 0, 1) := by decide +kernel
theorem dL_law_609 : decode cL_law 609 = .ok (.iload_n 3, 1) := by decide +kernel
theorem dL_law_610 : decode cL_law 610 = .ok (.iconst 1, 1) := by decide +kernel
theorem dL_law_611 : decode cL_law 611 = .ok (.iadd, 1) := by decide +kernel
theorem dL_law_612 : decode cL_law 612 = .ok (.iaload, 1) := by decide +kernel
theorem dL_law_613 : decode cL_law 613 = .ok (.aload_n 0, 1) := by decide +kernel
theorem dL_law_614 : decode cL_law 614 = .ok (.iload_n 3, 1) := by decide +kernel
theorem dL_law_615 : decode cL_law 615 = .ok (.iconst 2, 1) := by decide +kernel
theorem dL_law_616 : decode cL_law 616 = .ok (.iadd, 1) := by decide +kernel
theorem dL_law_617 : decode cL_law 617 = .ok (.iaload, 1) := by decide +kernel
theorem dL_law_618 : decode cL_law 618 = .ok (.ifCond .eq 7, 3) := by decide +kernel
theorem dL_law_621 : decode cL_law 621 = .ok (.iconst 1, 1) := by decide +kernel
theorem dL_law_622 : decode cL_law 622 = .ok (.goto 4, 3) := by decide +kernel
theorem dL_law_625 : decode cL_law 625 = .ok (.iconst 0, 1) := by decide +kernel
theorem dL_law_626 : decode cL_law 626 = .ok (.invokevirtual 70, 3) := by decide +kernel
theorem dL_law_629 : decode cL_law 629 = .ok (.aload_n 2, 1) := by decide +kernel
theorem dL_law_630 : decode cL_law 630 = .ok (.aload_n 0, 1) := by decide +kernel
theorem dL_law_631 : decode cL_law 631 = .ok (.iload_n 3, 1) := by decide +kernel
theorem dL_law_632 : decode cL_law 632 = .ok (.iconst 1, 1) := by decide +kernel
theorem dL_law_633 : decode cL_law 633 = .ok (.iadd, 1) := by decide +kernel
theorem dL_law_634 : decode cL_law 634 = .ok (.iaload, 1) := by decide +kernel
theorem dL_law_635 : decode cL_law 635 = .ok (.aload_n 0, 1) := by decide +kernel
theorem dL_law_636 : decode cL_law 636 = .ok (.iload_n 3, 1) := by decide +kernel
theorem dL_law_637 : decode cL_law 637 = .ok (.iconst 2, 1) := by decide +kernel
theorem dL_law_638 : decode cL_law 638 = .ok (.iadd, 1) := by decide +kernel
theorem dL_law_639 : decode cL_law 639 = .ok (.iaload, 1) := by decide +kernel
theorem dL_law_640 : decode cL_law 640 = .ok (.ifCond .eq 7, 3) := by decide +kernel
theorem dL_law_643 : decode cL_law 643 = .ok (.iconst 1, 1) := by decide +kernel
theorem dL_law_644 : decode cL_law 644 = .ok (.goto 4, 3) := by decide +kernel
theorem dL_law_647 : decode cL_law 647 = .ok (.iconst 0, 1) := by decide +kernel
theorem dL_law_648 : decode cL_law 648 = .ok (.invokevirtual 74, 3) := by decide +kernel
theorem dL_law_651 : decode cL_law 651 = .ok (.if_icmp .eq 328, 3) := by decide +kernel
theorem dL_law_654 : decode cL_law 654 = .ok (.iconst 0, 1) := by decide +kernel
theorem dL_law_655 : decode cL_law 655 = .ok (.ireturn, 1) := by decide +kernel
theorem dL_law_656 : decode cL_law 656 = .ok (.aload_n 1, 1) := by decide +kernel
theorem dL_law_657 : decode cL_law 657 = .ok (.invokevirtual 75, 3) := by decide +kernel
theorem dL_law_660 : decode cL_law 660 = .ok (.aload_n 2, 1) := by decide +kernel
theorem dL_law_661 : decode cL_law 661 = .ok (.invokevirtual 78, 3) := by decide +kernel
theorem dL_law_664 : decode cL_law 664 = .ok (.if_icmp .eq 315, 3) := by decide +kernel
theorem dL_law_667 : decode cL_law 667 = .ok (.iconst 0, 1) := by decide +kernel
theorem dL_law_668 : decode cL_law 668 = .ok (.ireturn, 1) := by decide +kernel
theorem dL_law_669 : decode cL_law 669 = .ok (.aload_n 1, 1) := by decide +kernel
theorem dL_law_670 : decode cL_law 670 = .ok (.aload_n 0, 1) := by decide +kernel
theorem dL_law_671 : decode cL_law 671 = .ok (.iload_n 3, 1) := by decide +kernel
theorem dL_law_672 : decode cL_law 672 = .ok (.iconst 1, 1) := by decide +kernel
theorem dL_law_673 : decode cL_law 673 = .ok (.iadd, 1) := by decide +kernel
theorem dL_law_674 : decode cL_law 674 = .ok (.iaload, 1) := by decide +kernel
theorem dL_law_675 : decode cL_law 675 = .ok (.aload_n 0, 1) := by decide +kernel
theorem dL_law_676 : decode cL_law 676 = .ok (.iload_n 3, 1) := by decide +kernel
theorem dL_law_677 : decode cL_law 677 = .ok (.iconst 2, 1) := by decide +kernel
theorem dL_law_678 : decode cL_law 678 = .ok (.iadd, 1) := by decide +kernel
theorem dL_law_679 : decode cL_law 679 = .ok (.iaload, 1) := by decide +kernel
theorem dL_law_680 : decode cL_law 680 = .ok (.invokevirtual 79, 3) := by decide +kernel
theorem dL_law_683 : decode cL_law 683 = .ok (.aload_n 2, 1) := by decide +kernel
theorem dL_law_684 : decode cL_law 684 = .ok (.aload_n 0, 1) := by decide +kernel
theorem dL_law_685 : decode cL_law 685 = .ok (.iload_n 3, 1) := by decide +kernel
theorem dL_law_686 : decode cL_law 686 = .ok (.iconst 1, 1) := by decide +kernel
theorem dL_law_687 : decode cL_law 687 = .ok (.iadd, 1) := by decide +kernel
theorem dL_law_688 : decode cL_law 688 = .ok (.iaload, 1) := by decide +kernel
theorem dL_law_689 : decode cL_law 689 = .ok (.aload_n 0, 1) := by decide +kernel
theorem dL_law_690 : decode cL_law 690 = .ok (.iload_n 3, 1) := by decide +kernel
theorem dL_law_691 : decode cL_law 691 = .ok (.iconst 2, 1) := by decide +kernel
theorem dL_law_692 : decode cL_law 692 = .ok (.iadd, 1) := by decide +kernel
theorem dL_law_693 : decode cL_law 693 = .ok (.iaload, 1) := by decide +kernel
theorem dL_law_694 : decode cL_law 694 = .ok (.invokevirtual 82, 3) := by decide +kernel
theorem dL_law_697 : decode cL_law 697 = .ok (.if_icmp .eq 282, 3) := by decide +kernel
theorem dL_law_700 : decode cL_law 700 = .ok (.iconst 0, 1) := by decide +kernel
theorem dL_law_701 : decode cL_law 701 = .ok (.ireturn, 1) := by decide +kernel
theorem dL_law_702 : decode cL_law 702 = .ok (.aload_n 1, 1) := by decide +kernel
theorem dL_law_703 : decode cL_law 703 = .ok (.aload_n 0, 1) := by decide +kernel
theorem dL_law_704 : decode cL_law 704 = .ok (.iload_n 3, 1) := by decide +kernel
theorem dL_law_705 : decode cL_law 705 = .ok (.iconst 1, 1) := by decide +kernel
theorem dL_law_706 : decode cL_law 706 = .ok (.iadd, 1) := by decide +kernel
theorem dL_law_707 : decode cL_law 707 = .ok (.iaload, 1) := by decide +kernel
theorem dL_law_708 : decode cL_law 708 = .ok (.aload_n 0, 1) := by decide +kernel
theorem dL_law_709 : decode cL_law 709 = .ok (.iload_n 3, 1) := by decide +kernel
theorem dL_law_710 : decode cL_law 710 = .ok (.iconst 2, 1) := by decide +kernel
theorem dL_law_711 : decode cL_law 711 = .ok (.iadd, 1) := by decide +kernel
theorem dL_law_712 : decode cL_law 712 = .ok (.iaload, 1) := by decide +kernel
theorem dL_law_713 : decode cL_law 713 = .ok (.invokevirtual 83, 3) := by decide +kernel
theorem dL_law_716 : decode cL_law 716 = .ok (.aload_n 2, 1) := by decide +kernel
theorem dL_law_717 : decode cL_law 717 = .ok (.aload_n 0, 1) := by decide +kernel
theorem dL_law_718 : decode cL_law 718 = .ok (.iload_n 3, 1) := by decide +kernel
theorem dL_law_719 : decode cL_law 719 = .ok (.iconst 1, 1) := by decide +kernel
theorem dL_law_720 : decode cL_law 720 = .ok (.iadd, 1) := by decide +kernel
theorem dL_law_721 : decode cL_law 721 = .ok (.iaload, 1) := by decide +kernel
theorem dL_law_722 : decode cL_law 722 = .ok (.aload_n 0, 1) := by decide +kernel
theorem dL_law_723 : decode cL_law 723 = .ok (.iload_n 3, 1) := by decide +kernel
theorem dL_law_724 : decode cL_law 724 = .ok (.iconst 2, 1) := by decide +kernel
theorem dL_law_725 : decode cL_law 725 = .ok (.iadd, 1) := by decide +kernel
theorem dL_law_726 : decode cL_law 726 = .ok (.iaload, 1) := by decide +kernel
theorem dL_law_727 : decode cL_law 727 = .ok (.invokevirtual 86, 3) := by decide +kernel
theorem dL_law_730 : decode cL_law 730 = .ok (.if_icmp .eq 249, 3) := by decide +kernel
theorem dL_law_733 : decode cL_law 733 = .ok (.iconst 0, 1) := by decide +kernel
theorem dL_law_734 : decode cL_law 734 = .ok (.ireturn, 1) := by decide +kernel
theorem dL_law_735 : decode cL_law 735 = .ok (.aload_n 1, 1) := by decide +kernel
theorem dL_law_736 : decode cL_law 736 = .ok (.aload_n 0, 1) := by decide +kernel
theorem dL_law_737 : decode cL_law 737 = .ok (.iload_n 3, 1) := by decide +kernel
theorem dL_law_738 : decode cL_law 738 = .ok (.iconst 1, 1) := by decide +kernel
theorem dL_law_739 : decode cL_law 739 = .ok (.iadd, 1) := by decide +kernel
theorem dL_law_740 : decode cL_law 740 = .ok (.iaload, 1) := by decide +kernel
theorem dL_law_741 : decode cL_law 741 = .ok (.aload_n 0, 1) := by decide +kernel
theorem dL_law_742 : decode cL_law 742 = .ok (.iload_n 3, 1) := by decide +kernel
theorem dL_law_743 : decode cL_law 743 = .ok (.iconst 2, 1) := by decide +kernel
theorem dL_law_744 : decode cL_law 744 = .ok (.iadd, 1) := by decide +kernel
theorem dL_law_745 : decode cL_law 745 = .ok (.iaload, 1) := by decide +kernel
theorem dL_law_746 : decode cL_law 746 = .ok (.invokevirtual 87, 3) := by decide +kernel
theorem dL_law_749 : decode cL_law 749 = .ok (.aload_n 2, 1) := by decide +kernel
theorem dL_law_750 : decode cL_law 750 = .ok (.aload_n 0, 1) := by decide +kernel
theorem dL_law_751 : decode cL_law 751 = .ok (.iload_n 3, 1) := by decide +kernel
theorem dL_law_752 : decode cL_law 752 = .ok (.iconst 1, 1) := by decide +kernel
theorem dL_law_753 : decode cL_law 753 = .ok (.iadd, 1) := by decide +kernel
theorem dL_law_754 : decode cL_law 754 = .ok (.iaload, 1) := by decide +kernel
theorem dL_law_755 : decode cL_law 755 = .ok (.aload_n 0, 1) := by decide +kernel
theorem dL_law_756 : decode cL_law 756 = .ok (.iload_n 3, 1) := by decide +kernel
theorem dL_law_757 : decode cL_law 757 = .ok (.iconst 2, 1) := by decide +kernel
theorem dL_law_758 : decode cL_law 758 = .ok (.iadd, 1) := by decide +kernel
theorem dL_law_759 : decode cL_law 759 = .ok (.iaload, 1) := by decide +kernel
theorem dL_law_760 : decode cL_law 760 = .ok (.invokevirtual 90, 3) := by decide +kernel
theorem dL_law_763 : decode cL_law 763 = .ok (.if_icmp .eq 216, 3) := by decide +kernel
theorem dL_law_766 : decode cL_law 766 = .ok (.iconst 0, 1) := by decide +kernel
theorem dL_law_767 : decode cL_law 767 = .ok (.ireturn, 1) := by decide +kernel
theorem dL_law_768 : decode cL_law 768 = .ok (.aload_n 1, 1) := by decide +kernel
theorem dL_law_769 : decode cL_law 769 = .ok (.aload_n 0, 1) := by decide +kernel
theorem dL_law_770 : decode cL_law 770 = .ok (.iload_n 3, 1) := by decide +kernel
theorem dL_law_771 : decode cL_law 771 = .ok (.iconst 1, 1) := by decide +kernel
theorem dL_law_772 : decode cL_law 772 = .ok (.iadd, 1) := by decide +kernel
theorem dL_law_773 : decode cL_law 773 = .ok (.iaload, 1) := by decide +kernel
theorem dL_law_774 : decode cL_law 774 = .ok (.aload_n 0, 1) := by decide +kernel
theorem dL_law_775 : decode cL_law 775 = .ok (.iload_n 3, 1) := by decide +kernel
theorem dL_law_776 : decode cL_law 776 = .ok (.iconst 2, 1) := by decide +kernel
theorem dL_law_777 : decode cL_law 777 = .ok (.iadd, 1) := by decide +kernel
theorem dL_law_778 : decode cL_law 778 = .ok (.iaload, 1) := by decide +kernel
theorem dL_law_779 : decode cL_law 779 = .ok (.aload_n 0, 1) := by decide +kernel
theorem dL_law_780 : decode cL_law 780 = .ok (.iload_n 3, 1) := by decide +kernel
theorem dL_law_781 : decode cL_law 781 = .ok (.iconst 3, 1) := by decide +kernel
theorem dL_law_782 : decode cL_law 782 = .ok (.iadd, 1) := by decide +kernel
theorem dL_law_783 : decode cL_law 783 = .ok (.iaload, 1) := by decide +kernel
theorem dL_law_784 : decode cL_law 784 = .ok (.invokevirtual 91, 3) := by decide +kernel
theorem dL_law_787 : decode cL_law 787 = .ok (.aload_n 2, 1) := by decide +kernel
theorem dL_law_788 : decode cL_law 788 = .ok (.aload_n 0, 1) := by decide +kernel
theorem dL_law_789 : decode cL_law 789 = .ok (.iload_n 3, 1) := by decide +kernel
theorem dL_law_790 : decode cL_law 790 = .ok (.iconst 1, 1) := by decide +kernel
theorem dL_law_791 : decode cL_law 791 = .ok (.iadd, 1) := by decide +kernel
theorem dL_law_792 : decode cL_law 792 = .ok (.iaload, 1) := by decide +kernel
theorem dL_law_793 : decode cL_law 793 = .ok (.aload_n 0, 1) := by decide +kernel
theorem dL_law_794 : decode cL_law 794 = .ok (.iload_n 3, 1) := by decide +kernel
theorem dL_law_795 : decode cL_law 795 = .ok (.iconst 2, 1) := by decide +kernel
theorem dL_law_796 : decode cL_law 796 = .ok (.iadd, 1) := by decide +kernel
theorem dL_law_797 : decode cL_law 797 = .ok (.iaload, 1) := by decide +kernel
theorem dL_law_798 : decode cL_law 798 = .ok (.aload_n 0, 1) := by decide +kernel
theorem dL_law_799 : decode cL_law 799 = .ok (.iload_n 3, 1) := by decide +kernel
theorem dL_law_800 : decode cL_law 800 = .ok (.iconst 3, 1) := by decide +kernel
theorem dL_law_801 : decode cL_law 801 = .ok (.iadd, 1) := by decide +kernel
theorem dL_law_802 : decode cL_law 802 = .ok (.iaload, 1) := by decide +kernel
theorem dL_law_803 : decode cL_law 803 = .ok (.invokevirtual 94, 3) := by decide +kernel
theorem dL_law_806 : decode cL_law 806 = .ok (.if_icmp .eq 173, 3) := by decide +kernel
theorem dL_law_809 : decode cL_law 809 = .ok (.iconst 0, 1) := by decide +kernel
theorem dL_law_810 : decode cL_law 810 = .ok (.ireturn, 1) := by decide +kernel
theorem dL_law_811 : decode cL_law 811 = .ok (.aload_n 1, 1) := by decide +kernel
theorem dL_law_812 : decode cL_law 812 = .ok (.aload_n 0, 1) := by decide +kernel
theorem dL_law_813 : decode cL_law 813 = .ok (.iload_n 3, 1) := by decide +kernel
theorem dL_law_814 : decode cL_law 814 = .ok (.iconst 1, 1) := by decide +kernel
theorem dL_law_815 : decode cL_law 815 = .ok (.iadd, 1) := by decide +kernel
theorem dL_law_816 : decode cL_law 816 = .ok (.iaload, 1) := by decide +kernel
theorem dL_law_817 : decode cL_law 817 = .ok (.aload_n 0, 1) := by decide +kernel
theorem dL_law_818 : decode cL_law 818 = .ok (.iload_n 3, 1) := by decide +kernel
theorem dL_law_819 : decode cL_law 819 = .ok (.iconst 2, 1) := by decide +kernel
theorem dL_law_820 : decode cL_law 820 = .ok (.iadd, 1) := by decide +kernel
theorem dL_law_821 : decode cL_law 821 = .ok (.iaload, 1) := by decide +kernel
theorem dL_law_822 : decode cL_law 822 = .ok (.invokevirtual 95, 3) := by decide +kernel
theorem dL_law_825 : decode cL_law 825 = .ok (.aload_n 2, 1) := by decide +kernel
theorem dL_law_826 : decode cL_law 826 = .ok (.aload_n 0, 1) := by decide +kernel
theorem dL_law_827 : decode cL_law 827 = .ok (.iload_n 3, 1) := by decide +kernel
theorem dL_law_828 : decode cL_law 828 = .ok (.iconst 1, 1) := by decide +kernel
theorem dL_law_829 : decode cL_law 829 = .ok (.iadd, 1) := by decide +kernel
theorem dL_law_830 : decode cL_law 830 = .ok (.iaload, 1) := by decide +kernel
theorem dL_law_831 : decode cL_law 831 = .ok (.aload_n 0, 1) := by decide +kernel
theorem dL_law_832 : decode cL_law 832 = .ok (.iload_n 3, 1) := by decide +kernel
theorem dL_law_833 : decode cL_law 833 = .ok (.iconst 2, 1) := by decide +kernel
theorem dL_law_834 : decode cL_law 834 = .ok (.iadd, 1) := by decide +kernel
theorem dL_law_835 : decode cL_law 835 = .ok (.iaload, 1) := by decide +kernel
theorem dL_law_836 : decode cL_law 836 = .ok (.invokevirtual 98, 3) := by decide +kernel
theorem dL_law_839 : decode cL_law 839 = .ok (.if_icmp .eq 140, 3) := by decide +kernel
theorem dL_law_842 : decode cL_law 842 = .ok (.iconst 0, 1) := by decide +kernel
theorem dL_law_843 : decode cL_law 843 = .ok (.ireturn, 1) := by decide +kernel
theorem dL_law_844 : decode cL_law 844 = .ok (.aload_n 1, 1) := by decide +kernel
theorem dL_law_845 : decode cL_law 845 = .ok (.aload_n 0, 1) := by decide +kernel
theorem dL_law_846 : decode cL_law 846 = .ok (.iload_n 3, 1) := by decide +kernel
theorem dL_law_847 : decode cL_law 847 = .ok (.iconst 1, 1) := by decide +kernel
theorem dL_law_848 : decode cL_law 848 = .ok (.iadd, 1) := by decide +kernel
theorem dL_law_849 : decode cL_law 849 = .ok (.iaload, 1) := by decide +kernel
theorem dL_law_850 : decode cL_law 850 = .ok (.invokevirtual 99, 3) := by decide +kernel
theorem dL_law_853 : decode cL_law 853 = .ok (.aload_n 2, 1) := by decide +kernel
theorem dL_law_854 : decode cL_law 854 = .ok (.aload_n 0, 1) := by decide +kernel
theorem dL_law_855 : decode cL_law 855 = .ok (.iload_n 3, 1) := by decide +kernel
theorem dL_law_856 : decode cL_law 856 = .ok (.iconst 1, 1) := by decide +kernel
theorem dL_law_857 : decode cL_law 857 = .ok (.iadd, 1) := by decide +kernel
theorem dL_law_858 : decode cL_law 858 = .ok (.iaload, 1) := by decide +kernel
theorem dL_law_859 : decode cL_law 859 = .ok (.invokevirtual 102, 3) := by decide +kernel
theorem dL_law_862 : decode cL_law 862 = .ok (.if_icmp .eq 117, 3) := by decide +kernel
theorem dL_law_865 : decode cL_law 865 = .ok (.iconst 0, 1) := by decide +kernel
theorem dL_law_866 : decode cL_law 866 = .ok (.ireturn, 1) := by decide +kernel
theorem dL_law_867 : decode cL_law 867 = .ok (.aload_n 1, 1) := by decide +kernel
theorem dL_law_868 : decode cL_law 868 = .ok (.aload_n 0, 1) := by decide +kernel
theorem dL_law_869 : decode cL_law 869 = .ok (.iload_n 3, 1) := by decide +kernel
theorem dL_law_870 : decode cL_law 870 = .ok (.iconst 1, 1) := by decide +kernel
theorem dL_law_871 : decode cL_law 871 = .ok (.iadd, 1) := by decide +kernel
theorem dL_law_872 : decode cL_law 872 = .ok (.iaload, 1) := by decide +kernel
theorem dL_law_873 : decode cL_law 873 = .ok (.invokevirtual 103, 3) := by decide +kernel
theorem dL_law_876 : decode cL_law 876 = .ok (.aload_n 2, 1) := by decide +kernel
theorem dL_law_877 : decode cL_law 877 = .ok (.aload_n 0, 1) := by decide +kernel
theorem dL_law_878 : decode cL_law 878 = .ok (.iload_n 3, 1) := by decide +kernel
theorem dL_law_879 : decode cL_law 879 = .ok (.iconst 1, 1) := by decide +kernel
theorem dL_law_880 : decode cL_law 880 = .ok (.iadd, 1) := by decide +kernel
theorem dL_law_881 : decode cL_law 881 = .ok (.iaload, 1) := by decide +kernel
theorem dL_law_882 : decode cL_law 882 = .ok (.invokevirtual 106, 3) := by decide +kernel
theorem dL_law_885 : decode cL_law 885 = .ok (.if_icmp .eq 94, 3) := by decide +kernel
theorem dL_law_888 : decode cL_law 888 = .ok (.iconst 0, 1) := by decide +kernel
theorem dL_law_889 : decode cL_law 889 = .ok (.ireturn, 1) := by decide +kernel
theorem dL_law_890 : decode cL_law 890 = .ok (.aload_n 1, 1) := by decide +kernel
theorem dL_law_891 : decode cL_law 891 = .ok (.aload_n 0, 1) := by decide +kernel
theorem dL_law_892 : decode cL_law 892 = .ok (.iload_n 3, 1) := by decide +kernel
theorem dL_law_893 : decode cL_law 893 = .ok (.iconst 1, 1) := by decide +kernel
theorem dL_law_894 : decode cL_law 894 = .ok (.iadd, 1) := by decide +kernel
theorem dL_law_895 : decode cL_law 895 = .ok (.iaload, 1) := by decide +kernel
theorem dL_law_896 : decode cL_law 896 = .ok (.aload_n 0, 1) := by decide +kernel
theorem dL_law_897 : decode cL_law 897 = .ok (.iload_n 3, 1) := by decide +kernel
theorem dL_law_898 : decode cL_law 898 = .ok (.iconst 2, 1) := by decide +kernel
theorem dL_law_899 : decode cL_law 899 = .ok (.iadd, 1) := by decide +kernel
theorem dL_law_900 : decode cL_law 900 = .ok (.iaload, 1) := by decide +kernel
theorem dL_law_901 : decode cL_law 901 = .ok (.aload_n 0, 1) := by decide +kernel
theorem dL_law_902 : decode cL_law 902 = .ok (.iload_n 3, 1) := by decide +kernel
theorem dL_law_903 : decode cL_law 903 = .ok (.iconst 3, 1) := by decide +kernel
theorem dL_law_904 : decode cL_law 904 = .ok (.iadd, 1) := by decide +kernel
theorem dL_law_905 : decode cL_law 905 = .ok (.iaload, 1) := by decide +kernel
theorem dL_law_906 : decode cL_law 906 = .ok (.invokevirtual 107, 3) := by decide +kernel
theorem dL_law_909 : decode cL_law 909 = .ok (.aload_n 2, 1) := by decide +kernel
theorem dL_law_910 : decode cL_law 910 = .ok (.aload_n 0, 1) := by decide +kernel
theorem dL_law_911 : decode cL_law 911 = .ok (.iload_n 3, 1) := by decide +kernel
theorem dL_law_912 : decode cL_law 912 = .ok (.iconst 1, 1) := by decide +kernel
theorem dL_law_913 : decode cL_law 913 = .ok (.iadd, 1) := by decide +kernel
theorem dL_law_914 : decode cL_law 914 = .ok (.iaload, 1) := by decide +kernel
theorem dL_law_915 : decode cL_law 915 = .ok (.aload_n 0, 1) := by decide +kernel
theorem dL_law_916 : decode cL_law 916 = .ok (.iload_n 3, 1) := by decide +kernel
theorem dL_law_917 : decode cL_law 917 = .ok (.iconst 2, 1) := by decide +kernel
theorem dL_law_918 : decode cL_law 918 = .ok (.iadd, 1) := by decide +kernel
theorem dL_law_919 : decode cL_law 919 = .ok (.iaload, 1) := by decide +kernel
theorem dL_law_920 : decode cL_law 920 = .ok (.aload_n 0, 1) := by decide +kernel
theorem dL_law_921 : decode cL_law 921 = .ok (.iload_n 3, 1) := by decide +kernel
theorem dL_law_922 : decode cL_law 922 = .ok (.iconst 3, 1) := by decide +kernel
theorem dL_law_923 : decode cL_law 923 = .ok (.iadd, 1) := by decide +kernel
theorem dL_law_924 : decode cL_law 924 = .ok (.iaload, 1) := by decide +kernel
theorem dL_law_925 : decode cL_law 925 = .ok (.invokevirtual 110, 3) := by decide +kernel
theorem dL_law_928 : decode cL_law 928 = .ok (.if_icmp .eq 51, 3) := by decide +kernel
theorem dL_law_931 : decode cL_law 931 = .ok (.iconst 0, 1) := by decide +kernel
theorem dL_law_932 : decode cL_law 932 = .ok (.ireturn, 1) := by decide +kernel
theorem dL_law_933 : decode cL_law 933 = .ok (.aload_n 1, 1) := by decide +kernel
theorem dL_law_934 : decode cL_law 934 = .ok (.aload_n 0, 1) := by decide +kernel
theorem dL_law_935 : decode cL_law 935 = .ok (.iload_n 3, 1) := by decide +kernel
theorem dL_law_936 : decode cL_law 936 = .ok (.iconst 1, 1) := by decide +kernel
theorem dL_law_937 : decode cL_law 937 = .ok (.iadd, 1) := by decide +kernel
theorem dL_law_938 : decode cL_law 938 = .ok (.iaload, 1) := by decide +kernel
theorem dL_law_939 : decode cL_law 939 = .ok (.invokevirtual 111, 3) := by decide +kernel
theorem dL_law_942 : decode cL_law 942 = .ok (.aload_n 2, 1) := by decide +kernel
theorem dL_law_943 : decode cL_law 943 = .ok (.aload_n 0, 1) := by decide +kernel
theorem dL_law_944 : decode cL_law 944 = .ok (.iload_n 3, 1) := by decide +kernel
theorem dL_law_945 : decode cL_law 945 = .ok (.iconst 1, 1) := by decide +kernel
theorem dL_law_946 : decode cL_law 946 = .ok (.iadd, 1) := by decide +kernel
theorem dL_law_947 : decode cL_law 947 = .ok (.iaload, 1) := by decide +kernel
theorem dL_law_948 : decode cL_law 948 = .ok (.invokevirtual 114, 3) := by decide +kernel
theorem dL_law_951 : decode cL_law 951 = .ok (.if_icmp .eq 28, 3) := by decide +kernel
theorem dL_law_954 : decode cL_law 954 = .ok (.iconst 0, 1) := by decide +kernel
theorem dL_law_955 : decode cL_law 955 = .ok (.ireturn, 1) := by decide +kernel
theorem dL_law_956 : decode cL_law 956 = .ok (.aload_n 1, 1) := by decide +kernel
theorem dL_law_957 : decode cL_law 957 = .ok (.aload_n 0, 1) := by decide +kernel
theorem dL_law_958 : decode cL_law 958 = .ok (.iload_n 3, 1) := by decide +kernel
theorem dL_law_959 : decode cL_law 959 = .ok (.iconst 1, 1) := by decide +kernel
theorem dL_law_960 : decode cL_law 960 = .ok (.iadd, 1) := by decide +kernel
theorem dL_law_961 : decode cL_law 961 = .ok (.iaload, 1) := by decide +kernel
theorem dL_law_962 : decode cL_law 962 = .ok (.invokevirtual 115, 3) := by decide +kernel
theorem dL_law_965 : decode cL_law 965 = .ok (.aload_n 2, 1) := by decide +kernel
theorem dL_law_966 : decode cL_law 966 = .ok (.aload_n 0, 1) := by decide +kernel
theorem dL_law_967 : decode cL_law 967 = .ok (.iload_n 3, 1) := by decide +kernel
theorem dL_law_968 : decode cL_law 968 = .ok (.iconst 1, 1) := by decide +kernel
theorem dL_law_969 : decode cL_law 969 = .ok (.iadd, 1) := by decide +kernel
theorem dL_law_970 : decode cL_law 970 = .ok (.iaload, 1) := by decide +kernel
theorem dL_law_971 : decode cL_law 971 = .ok (.invokevirtual 118, 3) := by decide +kernel
theorem dL_law_974 : decode cL_law 974 = .ok (.if_icmp .eq 5, 3) := by decide +kernel
theorem dL_law_977 : decode cL_law 977 = .ok (.iconst 0, 1) := by decide +kernel
theorem dL_law_978 : decode cL_law 978 = .ok (.ireturn, 1) := by decide +kernel
theorem dL_law_979 : decode cL_law 979 = .ok (.iinc 3 5, 3) := by decide +kernel
theorem dL_law_982 : decode cL_law 982 = .ok (.goto (-964), 3) := by decide +kernel
theorem dL_law_985 : decode cL_law 985 = .ok (.iconst 1, 1) := by decide +kernel
theorem dL_law_986 : decode cL_law 986 = .ok (.ireturn, 1) := by decide +kernel
abbrev vwCl : List vw_C := [(RX0, TX0, 3), (RX1, TX1, 2), (RX2, TX2, 2), (RX3, TX3, 5), (RX4, TX4, 6), (RX5, TX5, 16)]
end
section
/-! THE LAYER: the heap from a base on as ONE function from addresses to cells; a row an instruction, a row a call, over it -/
abbrev wT : Type := Nat → Option va_E
abbrev gT : Type := va_G × (Nat → ClassId) × Nat
abbrev tyl (cs : Nat → ClassId) : List (ClassId × FieldType) := [(cs 0, .int), (cs 1, .boolean), (cs 2, .object RX2), (cs 3, .object RX3)]
def wH (G : gT) (w : wT) (H : Heap) : Prop := ∀ a e, w a = some e → G.2.2 ≤ a ∧ va_at G.1 vwCl (a, e) H
def fr (G : gT) : Nat → Prop := fun q => G.2.2 ≤ q
def wAO (U : State) : Prop := va_AO RX2 U ∧ va_AO RX3 U ∧ va_Nw (.methodLinkNest RX4 19 yX2_init RX4) U
def wG (G : gT) (w : wT) (U : State) : Prop := G.2.2 ≤ U.heap.size ∧ wH G w U.heap ∧ va_K G.1 vwCl (tyl G.2.1) U ∧ wAO U
def wZ (G : gT) (w : wT) (s : State) (H : Heap) (locs : List Loc) : Prop := G.2.2 ≤ s.heap.size ∧ wH G w H ∧ va_K G.1 vwCl (tyl G.2.1) s ∧ va_S (fr G) s.heap H locs ∧ wAO s
theorem wAO.warm {u U : State} (hW : u.WarmedH U.vm) (h : wAO u) : wAO U := ⟨h.1.moved hW.alike, h.2.1.moved hW.alike, h.2.2.warmM hW⟩
theorem wAO.same {u U : State} (hW : u.vm = U.vm) (h : wAO u) : wAO U := ⟨h.1.moved (by rw [hW]; exact Vm.Alike.refl _), h.2.1.moved (by rw [hW]; exact Vm.Alike.refl _), h.2.2.same rfl hW⟩
theorem wH.one {G : gT} {w : wT} {H : Heap} (h : wH G w H) {a : Nat} {e : va_E} (ha : w a = some e) : va_P G.1 vwCl [(a, e)] H := by
  intro k q hk
  cases k with
  | zero => cases hk; exact (h a e ha).2
  | succ k => simp at hk
theorem wH.lt {G : gT} {w : wT} {H : Heap} (h : wH G w H) {a : Nat} {e : va_E} (ha : w a = some e) : a < H.size := (h a e ha).2.lt
theorem up_eq {w : wT} {a : Nat} {x : Option va_E} : va_up w a x a = x := by simp [va_up]
theorem up_ne {w : wT} {a b : Nat} {x : Option va_E} (h : b ≠ a) : va_up w a x b = w b := by simp [va_up, h]
theorem lk_ne {w : wT} {a b : Nat} {x y : Option va_E} (h : b ≠ a) (hy : w b = y) : va_up w a x b = y := by rw [up_ne h]; exact hy
theorem ad_ne {w : wT} {a b : Nat} {x y : va_E} (ha : w a = some x) (hb : w b = some y) (h : x ≠ y) : a ≠ b := fun e => h (by subst e; exact Option.some.inj (ha.symm.trans hb))
theorem ad_new {w : wT} {a b : Nat} {x : va_E} (ha : w a = some x) (hb : w b = none) : a ≠ b := fun e => by subst e; rw [ha] at hb; cases hb
theorem wH.put {G : gT} {w : wT} {H H1 : Heap} {a : Nat} {e0 e : va_E} (h : wH G w H) (ha : w a = some e0) (he : va_at G.1 vwCl (a, e) H1) (oq : ∀ q : Nat, q ≠ a → H1[q]? = H[q]?) : wH G (va_up w a (some e)) H1 := by
  intro b x hb
  by_cases hba : b = a
  · subst hba
    rw [up_eq] at hb
    cases hb
    exact ⟨(h b e0 ha).1, he⟩
  · rw [up_ne hba] at hb
    exact ⟨(h b x hb).1, (h b x hb).2.kept (oq b hba)⟩
theorem wH.push {G : gT} {w : wT} {H H1 : Heap} {e : va_E} (h : wH G w H) (hB : G.2.2 ≤ H.size) (he : va_at G.1 vwCl (H.size, e) H1) (oq : ∀ q : Nat, q < H.size → H1[q]? = H[q]?) : w H.size = none ∧ wH G (va_up w H.size (some e)) H1 := by
  have hn : w H.size = none := by
    cases hq : w H.size with
    | none => rfl
    | some x => exact absurd (h.lt hq) (Nat.lt_irrefl _)
  refine ⟨hn, fun b x hb => ?_⟩
  by_cases hba : b = H.size
  · subst hba
    rw [up_eq] at hb
    cases hb
    exact ⟨hB, he⟩
  · rw [up_ne hba] at hb
    exact ⟨(h b x hb).1, (h b x hb).2.kept (oq b (h.lt hb))⟩
theorem wZ.put {G : gT} {w : wT} {s : State} {H H1 : Heap} {locs : List Loc} {a k : Nat} {e0 e : va_E} (Z : wZ G w s H locs) (ha : w a = some e0) (he : va_at G.1 vwCl (a, e) H1) (z : H1.size = H.size) (oq : ∀ q : Nat, q ≠ a → H1[q]? = H[q]?) : wZ G (va_up w a (some e)) s H1 (locs ++ [⟨a, k⟩]) :=
  ⟨Z.1, Z.2.1.put ha he oq, Z.2.2.1, Z.2.2.2.1.put z oq (Z.2.1 a e0 ha).1, Z.2.2.2.2⟩
theorem wZ.push {G : gT} {w : wT} {s : State} {H H1 : Heap} {locs : List Loc} {e : va_E} (Z : wZ G w s H locs) (he : va_at G.1 vwCl (H.size, e) H1) (z : H1.size = H.size + 1) (oq : ∀ q : Nat, q < H.size → H1[q]? = H[q]?) : w H.size = none ∧ wZ G (va_up w H.size (some e)) s H1 locs := by
  obtain ⟨h1, h2, h3, h4, h5⟩ := Z
  obtain ⟨a1, a2⟩ := h2.push (Nat.le_trans h1 h4.1) he oq
  exact ⟨a1, h1, a2, h3, ⟨Nat.le_trans h4.1 (by omega), fun x g1 g2 => (oq x (Nat.lt_of_lt_of_le g1 h4.1)).trans (h4.2.1 x g1 g2), h4.2.2⟩, h5⟩
/-! the locals as a row of options -/
def lV (ls : Array Slot) (nL : Nat) (vs : List (Option Value)) : Prop := ls.size = nL ∧ lv_wf ls ∧ (∀ (i : Nat) (v : Value), vs[i]? = some (some v) → ls[i]? = some (.val v)) ∧ vs.length = nL ∧ ∀ (i : Nat) (v : Value), vs[i]? = some (some v) → v.category = 1
theorem lV_at {ls : Array Slot} {nL : Nat} {vs : List (Option Value)} (h : lV ls nL vs) (i : Nat) {v : Value} (hv : vs[i]? = some (some v)) : ls[i]? = some (.val v) := h.2.2.1 i v hv
def lL (nL : Nat) (vs : List (Option Value)) : List (Nat × Value) := (List.range nL).filterMap (fun j => (vs[j]?.join).map (fun v => (j, v)))
theorem lV_L {ls : Array Slot} {nL : Nat} {vs : List (Option Value)} (h : lV ls nL vs) : lv_has ls nL (lL nL vs) := by
  obtain ⟨h1, h2, h3, h4, h5⟩ := h
  refine ⟨h1, h2, fun q hq => ?_⟩
  obtain ⟨j, -, hj⟩ := List.mem_filterMap.mp hq
  cases hv : vs[j]? with
  | none => rw [hv] at hj; simp at hj
  | some o =>
    cases o with
    | none => rw [hv] at hj; simp at hj
    | some v =>
      rw [hv] at hj
      simp at hj
      rw [← hj]
      exact h3 j v hv
theorem lV_of {ls ls' : Array Slot} {nL i : Nat} {v : Value} {vs : List (Option Value)} (h : lV ls nL vs) (hi : i < nL) (hc : v.category = 1) (e2 : lv_has ls' nL ((i, v) :: (lL nL vs).filter (fun q => !(q.1 == i) && !(q.1 + 1 == i && q.2.category == 2)))) : lV ls' nL (vs.set i (some v)) := by
  obtain ⟨h1, h2, h3, h4, h5⟩ := h
  refine ⟨e2.1, e2.2.1, fun j v' hj => ?_, by simp [h4], fun j v' hj => ?_⟩
  · by_cases hji : j = i
    · subst hji
      rw [List.getElem?_set_self (by omega)] at hj
      cases hj
      exact e2.2.2 (j, v) List.mem_cons_self
    · rw [List.getElem?_set_ne (Ne.symm hji)] at hj
      refine e2.2.2 (j, v') (List.mem_cons_of_mem _ (List.mem_filter.mpr ⟨List.mem_filterMap.mpr ⟨j, ?_, ?_⟩, ?_⟩))
      · have := (List.getElem?_eq_some_iff.mp hj).1
        exact List.mem_range.mpr (by omega)
      · rw [hj]; rfl
      · have := h5 j v' hj
        simp [hji, this]
  · by_cases hji : j = i
    · subst hji
      rw [List.getElem?_set_self (by omega)] at hj
      cases hj
      exact hc
    · rw [List.getElem?_set_ne (Ne.symm hji)] at hj
      exact h5 j v' hj
theorem va_rf_cat (r : Option Nat) : (va_rf r).category = 1 := by cases r <;> rfl
theorem nr_o (C : String) (r : Option Nat) : narrow (.object C) (va_rf r) = va_rf r := by cases r <;> rfl
theorem nr_a (t : FieldType) (r : Option Nat) : narrow (.array t) (va_rf r) = va_rf r := by cases r <;> rfl
theorem ft_o (C : String) (r : Option Nat) : fits (.object C) (va_rf r) = true := by cases r <;> rfl
theorem ft_a (t : FieldType) (r : Option Nat) : fits (.array t) (va_rf r) = true := by cases r <;> rfl
section FW
variable {p : Program} {l : Launch} {e : Env} {R : Room} {s : State} {m : MethodId} {args : Array Value} {below : List Frame} {meth : Method} {c : Code} {H : Heap} {locs : List Loc} {cells slots : Nat} {Q : State → Prop}
variable {cc : ByteArray} {pc nL : Nat} {ls : Array Slot} {rest : List Value} {G : gT} {w : wT} {Ts : List Cond} {own : String}
/-! locals -/
theorem f_iload (X : CallFix p m c cc nL s args Ts own) {i : Nat} {x : Int32} {vs : List (Option Value)} (hl : lV ls nL vs) (hdg : (∃ k : Fin 4, (k : Nat) = i ∧ decode cc pc = .ok (.iload_n k, 1))) (hv : vs[i]? = some (some (.int x))) (kk : W p l e R s m args below meth c H locs cells slots Q (F0 m (pc + 1) ls (.int x :: rest))) : W p l e R s m args below meth c H locs cells slots Q (F0 m pc ls rest) := by
  obtain ⟨k, hk, hd⟩ := hdg
  exact lv_iload_n X.1 X.2.1 hd hk (lV_at hl i hv) kk
theorem f_iload2 (X : CallFix p m c cc nL s args Ts own) {i : Nat} {x : Int32} {vs : List (Option Value)} (hl : lV ls nL vs) (hdg : decode cc pc = .ok (.iload i, 2)) (hv : vs[i]? = some (some (.int x))) (kk : W p l e R s m args below meth c H locs cells slots Q (F0 m (pc + 2) ls (.int x :: rest))) : W p l e R s m args below meth c H locs cells slots Q (F0 m pc ls rest) :=
  lv_iload X.1 X.2.1 hdg (lV_at hl i hv) kk
theorem f_aload (X : CallFix p m c cc nL s args Ts own) {i : Nat} {v : Value} {vs : List (Option Value)} (hl : lV ls nL vs) (hdg : (∃ k : Fin 4, (k : Nat) = i ∧ decode cc pc = .ok (.aload_n k, 1))) (hv : vs[i]? = some (some v)) (ha : ∃ r, v = va_rf r) (kk : W p l e R s m args below meth c H locs cells slots Q (F0 m (pc + 1) ls (v :: rest))) : W p l e R s m args below meth c H locs cells slots Q (F0 m pc ls rest) := by
  obtain ⟨k, hk, hd⟩ := hdg
  obtain ⟨r, rfl⟩ := ha
  cases r with
  | none => exact lv_aload_nN X.1 X.2.1 hd hk (lV_at hl i hv) kk
  | some a => exact lv_aload_n X.1 X.2.1 hd hk (lV_at hl i hv) kk
theorem f_aload2 (X : CallFix p m c cc nL s args Ts own) {i : Nat} {v : Value} {vs : List (Option Value)} (hl : lV ls nL vs) (hdg : decode cc pc = .ok (.aload i, 2)) (hv : vs[i]? = some (some v)) (ha : ∃ r, v = va_rf r) (kk : W p l e R s m args below meth c H locs cells slots Q (F0 m (pc + 2) ls (v :: rest))) : W p l e R s m args below meth c H locs cells slots Q (F0 m pc ls rest) := by
  obtain ⟨r, rfl⟩ := ha
  cases r with
  | none => exact lv_aloadN X.1 X.2.1 hdg (lV_at hl i hv) kk
  | some a => exact lv_aload X.1 X.2.1 hdg (lV_at hl i hv) kk
theorem f_istore (X : CallFix p m c cc nL s args Ts own) {i : Nat} {x : Int32} {vs : List (Option Value)} (hl : lV ls nL vs) (hdg : (∃ k : Fin 4, (k : Nat) = i ∧ decode cc pc = .ok (.istore_n k, 1))) (hi : i < nL) (kk : ∀ ls' : Array Slot, lV ls' nL (vs.set i (some (.int x))) → W p l e R s m args below meth c H locs cells slots Q (F0 m (pc + 1) ls' rest)) : W p l e R s m args below meth c H locs cells slots Q (F0 m pc ls (.int x :: rest)) := by
  obtain ⟨k, hk, hd⟩ := hdg
  exact lv_istore_n X.1 X.2.1 hd hk (lV_L hl) hi rfl (fun ls' h => kk ls' (lV_of hl hi rfl h))
theorem f_istore2 (X : CallFix p m c cc nL s args Ts own) {i : Nat} {x : Int32} {vs : List (Option Value)} (hl : lV ls nL vs) (hdg : decode cc pc = .ok (.istore i, 2)) (hi : i < nL) (kk : ∀ ls' : Array Slot, lV ls' nL (vs.set i (some (.int x))) → W p l e R s m args below meth c H locs cells slots Q (F0 m (pc + 2) ls' rest)) : W p l e R s m args below meth c H locs cells slots Q (F0 m pc ls (.int x :: rest)) :=
  lv_istore X.1 X.2.1 hdg (lV_L hl) hi rfl (fun ls' h => kk ls' (lV_of hl hi rfl h))
theorem f_astore (X : CallFix p m c cc nL s args Ts own) {i : Nat} {v : Value} {vs : List (Option Value)} (hl : lV ls nL vs) (hdg : (∃ k : Fin 4, (k : Nat) = i ∧ decode cc pc = .ok (.astore_n k, 1))) (hi : i < nL) (ha : ∃ r, v = va_rf r) (kk : ∀ ls' : Array Slot, lV ls' nL (vs.set i (some v)) → W p l e R s m args below meth c H locs cells slots Q (F0 m (pc + 1) ls' rest)) : W p l e R s m args below meth c H locs cells slots Q (F0 m pc ls (v :: rest)) := by
  obtain ⟨k, hk, hd⟩ := hdg
  obtain ⟨r, rfl⟩ := ha
  cases r with
  | none => exact lv_astore_nN X.1 X.2.1 hd hk (lV_L hl) hi rfl (fun ls' h => kk ls' (lV_of hl hi rfl h))
  | some a => exact lv_astore_n X.1 X.2.1 hd hk (lV_L hl) hi rfl (fun ls' h => kk ls' (lV_of hl hi rfl h))
theorem f_astore2 (X : CallFix p m c cc nL s args Ts own) {i : Nat} {v : Value} {vs : List (Option Value)} (hl : lV ls nL vs) (hdg : decode cc pc = .ok (.astore i, 2)) (hi : i < nL) (ha : ∃ r, v = va_rf r) (kk : ∀ ls' : Array Slot, lV ls' nL (vs.set i (some v)) → W p l e R s m args below meth c H locs cells slots Q (F0 m (pc + 2) ls' rest)) : W p l e R s m args below meth c H locs cells slots Q (F0 m pc ls (v :: rest)) := by
  obtain ⟨r, rfl⟩ := ha
  cases r with
  | none => exact lv_astoreN X.1 X.2.1 hdg (lV_L hl) hi rfl (fun ls' h => kk ls' (lV_of hl hi rfl h))
  | some a => exact lv_astore X.1 X.2.1 hdg (lV_L hl) hi rfl (fun ls' h => kk ls' (lV_of hl hi rfl h))
theorem lL_at {nL i : Nat} {v : Value} {vs : List (Option Value)} (hi : i < nL) (hv : vs[i]? = some (some v)) : ∃ k : Nat, (lL nL vs)[k]? = some (i, v) := by
  have : (i, v) ∈ lL nL vs := List.mem_filterMap.mpr ⟨i, List.mem_range.mpr hi, by rw [hv]; rfl⟩
  exact List.getElem?_of_mem this
theorem f_iinc (X : CallFix p m c cc nL s args Ts own) {i : Nat} {n : Int} {x v : Int32} {vs : List (Option Value)} (hl : lV ls nL vs) (hdg : decode cc pc = .ok (.iinc i n, 3)) (hi : i < nL) (hv : vs[i]? = some (some (.int x))) (hx : Int32.ofInt n = v) (kk : ∀ ls' : Array Slot, lV ls' nL (vs.set i (some (.int (x + v)))) → W p l e R s m args below meth c H locs cells slots Q (F0 m (pc + 3) ls' rest)) : W p l e R s m args below meth c H locs cells slots Q (F0 m pc ls rest) := by
  obtain ⟨k, hk⟩ := lL_at hi hv
  subst hx
  exact lv_iinc X.1 X.2.1 hdg (lV_L hl) hk rfl hi rfl (fun ls' h => kk ls' (lV_of hl hi rfl h))
/-! null tests -/
theorem f_ifnull (X : CallFix p m c cc nL s args Ts own) {r : Option Nat} {off : Int} {tgt : Nat} (hdg : decode cc pc = .ok (.ifnull off, 3)) (ht : (pc : Int) + off = (tgt : Int)) (k1 : r = none → W p l e R s m args below meth c H locs cells slots Q (F0 m tgt ls rest)) (k2 : ∀ a, r = some a → W p l e R s m args below meth c H locs cells slots Q (F0 m (pc + 3) ls rest)) : W p l e R s m args below meth c H locs cells slots Q (F0 m pc ls (va_rf r :: rest)) := by
  cases r with
  | none => exact lv_ifnullN X.1 X.2.1 hdg ht (k1 rfl)
  | some a => exact lv_ifnull X.1 X.2.1 hdg (k2 a rfl)
theorem f_ifnonnull (X : CallFix p m c cc nL s args Ts own) {r : Option Nat} {off : Int} {tgt : Nat} (hdg : decode cc pc = .ok (.ifnonnull off, 3)) (ht : (pc : Int) + off = (tgt : Int)) (k1 : ∀ a, r = some a → W p l e R s m args below meth c H locs cells slots Q (F0 m tgt ls rest)) (k2 : r = none → W p l e R s m args below meth c H locs cells slots Q (F0 m (pc + 3) ls rest)) : W p l e R s m args below meth c H locs cells slots Q (F0 m pc ls (va_rf r :: rest)) := by
  cases r with
  | none => exact lv_ifnonnullN X.1 X.2.1 hdg (k2 rfl)
  | some a => exact lv_ifnonnull X.1 X.2.1 hdg ht (k1 a rfl)
/-! fields -/
theorem f_get (X : CallFix p m c cc nL s args Ts own) (Z : wZ G w s H locs) {C : String} {T : u_T} {N ci index k a : Nat} {fs : List Value} {v : Value} (hin : ∀ w ∈ u_ws C T N, w ∈ Ts) (hc : vwCl[ci]? = some (C, T, N)) (hk : k < N) (hlink : Cond.fieldLink own index (T k).1 (T k).2.1 (T k).2.2.1 ∈ Ts) (hdg : decode cc pc = .ok (.getfield index, 3)) (ha : w a = some (.inr (ci, fs))) (hv : fs[k]? = some v)
    (kk : W p l e R s m args below meth c H locs cells slots Q (F0 m (pc + 3) ls (v :: rest))) : W p l e R s m args below meth c H locs cells slots Q (F0 m pc ls (.ref a :: rest)) :=
  va_get X.1 X.2.1 X.2.2.2.2 hin X.2.2.2.1 Z.2.2.1 (Z.2.1.one ha) 0 rfl hc k hk (X.2.2.2.2 _ hlink) (fun _ h => h) hv hdg kk
theorem f_put (X : CallFix p m c cc nL s args Ts own) (Z : wZ G w s H locs) {C : String} {T : u_T} {N ci index k a : Nat} {fs : List Value} {v : Value} {ty0 : Nat → FieldType} (hin : ∀ w ∈ u_ws C T N, w ∈ Ts) (hty : ∀ k, k < N → parseFieldDescriptor (T k).2.2.1 = some (ty0 k)) (hnm : ∀ a, a < N → ∀ b, b < N → a ≠ b → (T a).2.1 ≠ (T b).2.1) (hc : vwCl[ci]? = some (C, T, N)) (hk : k < N) (hlink : Cond.fieldLink own index (T k).1 (T k).2.1 (T k).2.2.1 ∈ Ts) (hfin : (T k).2.2.2 = false) (hdg : decode cc pc = .ok (.putfield index, 3)) (ha : w a = some (.inr (ci, fs))) (hn : narrow (ty0 k) v = v) (hfit : fits (ty0 k) v = true) (hl : k < fs.length)
    (kk : ∀ (H1 : Heap) (locs1 : List Loc) (w1 : wT), w1 = va_up w a (some (.inr (ci, fs.set k v))) → wZ G w1 s H1 locs1 → W p l e R s m args below meth c H1 locs1 cells slots Q (F0 m (pc + 3) ls rest)) : W p l e R s m args below meth c H locs cells slots Q (F0 m pc ls (v :: .ref a :: rest)) := by
  have hts := X.2.2.2.2
  have hK := Z.2.2.1
  have hap := va_apart (own := own) hts hin ty0 hty hnm hK hc
  obtain ⟨r, h1, cell, q1, q2, q3, q4⟩ := (Z.2.1 a _ ha).2
  have hr : r = (C, T, N) := Option.some.inj (h1.symm.trans hc)
  subst hr
  obtain ⟨hS, hfc, kC, hkC, hkind⟩ := hK.1 ci _ hc
  obtain ⟨cf, kf, fi, f, hi, hsl⟩ := hS k hk
  have hlay := hts _ (hin _ (u_in_lay hk))
  unfold u_lay at hlay
  rw [if_neg (by rw [hfin]; decide)] at hlay
  have hst := (u_facts hfc hkC (u_lays hts hin hk) hi).1
  have h6 := u_store hfc hkC hkind hlay hi (hty k hk) hn hfit
  refine W.putK X.1 X.2.1 (f := f) ⟨X.2.2.2.1, hts _ hlink, ⟨_, _, _, hi⟩, hst⟩ (by rw [q2]; exact h6) q1 q3 (by rw [hsl]; exact k2_hasslot (q4 k hk)) rfl rfl hdg fun H' e1 e2 e3 => ?_
  rw [hsl] at e1 ⊢
  exact kk H' _ _ rfl (Z.put ha ⟨_, hc, t_OB.to (V := updV (vp_V fs) k v) ⟨_, e1, q2, q3, t_set q4 hap hk v⟩ (fun j _ => vp_updV_set hl v j)⟩ e2 e3)
theorem f_putF (X : CallFix p m c cc nL s args Ts own) (Z : wZ G w s H locs) {C : String} {T : u_T} {N ci index k a : Nat} {fs : List Value} {v : Value} {ty0 : Nat → FieldType} (hin : ∀ w ∈ u_ws C T N, w ∈ Ts) (hty : ∀ k, k < N → parseFieldDescriptor (T k).2.2.1 = some (ty0 k)) (hnm : ∀ a, a < N → ∀ b, b < N → a ≠ b → (T a).2.1 ≠ (T b).2.1) (hc : vwCl[ci]? = some (C, T, N)) (hk : k < N) (hlink : Cond.fieldLink own index (T k).1 (T k).2.1 (T k).2.2.1 ∈ Ts) (hfin : (T k).2.2.2 = true) (hin2 : meth.name = "<init>") (hdecl : (T k).1 = own) (hdg : decode cc pc = .ok (.putfield index, 3)) (ha : w a = some (.inr (ci, fs))) (hn : narrow (ty0 k) v = v) (hfit : fits (ty0 k) v = true) (hl : k < fs.length)
    (kk : ∀ (H1 : Heap) (locs1 : List Loc) (w1 : wT), w1 = va_up w a (some (.inr (ci, fs.set k v))) → wZ G w1 s H1 locs1 → W p l e R s m args below meth c H1 locs1 cells slots Q (F0 m (pc + 3) ls rest)) : W p l e R s m args below meth c H locs cells slots Q (F0 m pc ls (v :: .ref a :: rest)) := by
  have hts := X.2.2.2.2
  have hown := X.2.2.2.1
  have hK := Z.2.2.1
  have hap := va_apart (own := own) hts hin ty0 hty hnm hK hc
  obtain ⟨r, h1, cell, q1, q2, q3, q4⟩ := (Z.2.1 a _ ha).2
  have hr : r = (C, T, N) := Option.some.inj (h1.symm.trans hc)
  subst hr
  obtain ⟨hS, hfc, kC, hkC, hkind⟩ := hK.1 ci _ hc
  obtain ⟨cf, kf, fi, f, hi, hsl⟩ := hS k hk
  have hlay := hts _ (hin _ (u_in_lay hk))
  unfold u_lay at hlay
  rw [if_pos hfin] at hlay
  have hst := (u_facts hfc hkC (u_lays hts hin hk) hi).1
  have hcf : m.cls = cf := by
    obtain ⟨_, _, c', _, _, _, -, -, hf', -, -, -, hown2, -⟩ := Cond.laysFinal_spec hlay
    have e1 : c' = cf := by have := hi.symm.trans hf'; simp at this; exact this.1.symm
    rw [hdecl] at hown2
    rw [← e1]; exact Option.some.inj (hown.symm.trans hown2)
  have h6 := u_fits hfc hkC hkind (Or.inr hlay) hi (hty k hk) hn hfit
  refine W.putFinK X.1 X.2.1 hown (hts _ hlink) hi hst hcf hin2 (by rw [q2]; exact h6) q1 q3 (by rw [hsl]; exact k2_hasslot (q4 k hk)) rfl rfl hdg fun H' e1 e2 e3 => ?_
  rw [hsl] at e1 ⊢
  exact kk H' _ _ rfl (Z.put ha ⟨_, hc, t_OB.to (V := updV (vp_V fs) k v) ⟨_, e1, q2, q3, t_set q4 hap hk v⟩ (fun j _ => vp_updV_set hl v j)⟩ e2 e3)
/-! arrays -/
theorem f_iald (X : CallFix p m c cc nL s args Ts own) (Z : wZ G w s H locs) {a n : Nat} {f : Nat → Int32} {i : Int32} (hdg : decode cc pc = .ok (.iaload, 1)) (ha : w a = some (.inl (G.2.1 0, n, .inl f))) (hin : vp_in i n)
    (kk : W p l e R s m args below meth c H locs cells slots Q (F0 m (pc + 1) ls (.int (f i.toNatClampNeg) :: rest))) : W p l e R s m args below meth c H locs cells slots Q (F0 m pc ls (.int i :: .ref a :: rest)) :=
  va_iald X.1 X.2.1 Z.2.2.1 (Z.2.1.one ha) 0 0 rfl rfl hin hdg kk
theorem f_zald (X : CallFix p m c cc nL s args Ts own) (Z : wZ G w s H locs) {a n : Nat} {f : Nat → Int32} {i : Int32} (hdg : decode cc pc = .ok (.baload, 1)) (ha : w a = some (.inl (G.2.1 1, n, .inl f))) (hin : vp_in i n)
    (kk : W p l e R s m args below meth c H locs cells slots Q (F0 m (pc + 1) ls (.int (f i.toNatClampNeg) :: rest))) : W p l e R s m args below meth c H locs cells slots Q (F0 m pc ls (.int i :: .ref a :: rest)) :=
  va_zald X.1 X.2.1 Z.2.2.1 (Z.2.1.one ha) 0 1 rfl rfl hin hdg kk
theorem f_tald (X : CallFix p m c cc nL s args Ts own) (Z : wZ G w s H locs) {a n : Nat} {f : Nat → Option Nat} {i : Int32} (hdg : decode cc pc = .ok (.aaload, 1)) (ha : w a = some (.inl (G.2.1 2, n, .inr (.inr (.inr (.inr f)))))) (hin : vp_in i n)
    (kk : W p l e R s m args below meth c H locs cells slots Q (F0 m (pc + 1) ls (va_rf (f i.toNatClampNeg) :: rest))) : W p l e R s m args below meth c H locs cells slots Q (F0 m pc ls (.int i :: .ref a :: rest)) :=
  va_aldq X.1 X.2.1 Z.2.2.1 (Z.2.1.one ha) 0 2 rfl rfl hin hdg kk
theorem f_vald (X : CallFix p m c cc nL s args Ts own) (Z : wZ G w s H locs) {a n : Nat} {f : Nat → Option Nat} {i : Int32} (hdg : decode cc pc = .ok (.aaload, 1)) (ha : w a = some (.inl (G.2.1 3, n, .inr (.inr (.inr (.inr f)))))) (hin : vp_in i n)
    (kk : W p l e R s m args below meth c H locs cells slots Q (F0 m (pc + 1) ls (va_rf (f i.toNatClampNeg) :: rest))) : W p l e R s m args below meth c H locs cells slots Q (F0 m pc ls (.int i :: .ref a :: rest)) :=
  va_aldq X.1 X.2.1 Z.2.2.1 (Z.2.1.one ha) 0 3 rfl rfl hin hdg kk
theorem f_alenI (X : CallFix p m c cc nL s args Ts own) (Z : wZ G w s H locs) {a n : Nat} {x} (hdg : decode cc pc = .ok (.arraylength, 1)) (ha : w a = some (.inl (G.2.1 0, n, x)))
    (kk : W p l e R s m args below meth c H locs cells slots Q (F0 m (pc + 1) ls (.int (nI n) :: rest))) : W p l e R s m args below meth c H locs cells slots Q (F0 m pc ls (.ref a :: rest)) :=
  va_alen X.1 X.2.1 Z.2.2.1 (Z.2.1.one ha) 0 0 rfl rfl rfl hdg kk
theorem f_alenV (X : CallFix p m c cc nL s args Ts own) (Z : wZ G w s H locs) {a n : Nat} {x} (hdg : decode cc pc = .ok (.arraylength, 1)) (ha : w a = some (.inl (G.2.1 3, n, x)))
    (kk : W p l e R s m args below meth c H locs cells slots Q (F0 m (pc + 1) ls (.int (nI n) :: rest))) : W p l e R s m args below meth c H locs cells slots Q (F0 m pc ls (.ref a :: rest)) :=
  va_alen X.1 X.2.1 Z.2.2.1 (Z.2.1.one ha) 0 3 rfl rfl rfl hdg kk
theorem f_iast (X : CallFix p m c cc nL s args Ts own) (Z : wZ G w s H locs) {a n : Nat} {f : Nat → Int32} {i x : Int32} (hdg : decode cc pc = .ok (.iastore, 1)) (ha : w a = some (.inl (G.2.1 0, n, .inl f))) (hin : vp_in i n)
    (kk : ∀ (H1 : Heap) (locs1 : List Loc) (w1 : wT), w1 = va_up w a (some (.inl (G.2.1 0, n, .inl (upd f i.toNatClampNeg x)))) → wZ G w1 s H1 locs1 → W p l e R s m args below meth c H1 locs1 cells slots Q (F0 m (pc + 1) ls rest)) : W p l e R s m args below meth c H locs cells slots Q (F0 m pc ls (.int x :: .int i :: .ref a :: rest)) := by
  refine W.iast X.1 X.2.1 ((Z.2.1 a _ ha).2) ((Z.2.2.1.2 0 _ rfl).1 n (fun j => .int (f j))) (fun q => by cases q) (by show ¬ (i < 0 ∨ (arrV _ _ _).slots.size ≤ _); rw [arrV_size]; exact hin) rfl rfl hdg fun H1 e z oq => ?_
  refine kk H1 _ _ rfl (Z.put ha ?_ z oq)
  show H1[a]? = some (vp_cell _ _)
  rw [e]
  rw [vp_cell_i, vp_cell_i, arrV_store]
  congr 2
  funext q
  by_cases hq : q = i.toNatClampNeg
  · subst hq
    simp [updV, upd]
  · simp [updV, upd, hq]
theorem f_zast (X : CallFix p m c cc nL s args Ts own) (Z : wZ G w s H locs) {a n : Nat} {f : Nat → Int32} {i x : Int32} (hdg : decode cc pc = .ok (.bastore, 1)) (ha : w a = some (.inl (G.2.1 1, n, .inl f))) (hin : vp_in i n) (hx : x &&& 1 = x)
    (kk : ∀ (H1 : Heap) (locs1 : List Loc) (w1 : wT), w1 = va_up w a (some (.inl (G.2.1 1, n, .inl (upd f i.toNatClampNeg x)))) → wZ G w1 s H1 locs1 → W p l e R s m args below meth c H1 locs1 cells slots Q (F0 m (pc + 1) ls rest)) : W p l e R s m args below meth c H locs cells slots Q (F0 m pc ls (.int x :: .int i :: .ref a :: rest)) := by
  refine W.zast X.1 X.2.1 ((Z.2.1 a _ ha).2) ((Z.2.2.1.2 1 _ rfl).1 n (fun j => .int (f j))) (fun q => by cases q) (by show ¬ (i < 0 ∨ (arrV _ _ _).slots.size ≤ _); rw [arrV_size]; exact hin) rfl rfl hdg fun H1 e z oq => ?_
  refine kk H1 _ _ rfl (Z.put ha ?_ z oq)
  show H1[a]? = some (vp_cell _ _)
  rw [e]
  rw [vp_cell_i, vp_cell_i, arrV_store]
  congr 2
  funext q
  by_cases hq : q = i.toNatClampNeg
  · subst hq
    simp [updV, upd, narrow, hx]
  · simp [updV, upd, hq]
theorem f_aast {ti ci : Nat} {r : vw_C} (X : CallFix p m c cc nL s args Ts own) (Z : wZ G w s H locs) (hc : vwCl[ci]? = some r) (ht : (tyl G.2.1)[ti]? = some (G.2.1 ti, .object r.1)) {a n : Nat} {f : Nat → Option Nat} {i : Int32} {v : Nat} {vs : List Value} (hdg : decode cc pc = .ok (.aastore, 1)) (ha : w a = some (.inl (G.2.1 ti, n, .inr (.inr (.inr (.inr f)))))) (hv : w v = some (.inr (ci, vs))) (hin : vp_in i n)
    (kk : ∀ (H1 : Heap) (locs1 : List Loc) (w1 : wT), w1 = va_up w a (some (.inl (G.2.1 ti, n, .inr (.inr (.inr (.inr (va_up f i.toNatClampNeg (some v)))))))) → wZ G w1 s H1 locs1 → W p l e R s m args below meth c H1 locs1 cells slots Q (F0 m (pc + 1) ls rest)) : W p l e R s m args below meth c H locs cells slots Q (F0 m pc ls (.ref v :: .int i :: .ref a :: rest)) := by
  have hK := Z.2.2.1
  have hlt : i.toNatClampNeg < n := Nat.not_le.mp fun q => hin (Or.inr q)
  have h0 : ¬ i < 0 := fun q => hin (Or.inl q)
  obtain ⟨r', hr', cellV, g1, g2, g3, -⟩ := (Z.2.1 v _ hv).2
  have hcls := (hK.1 ci r hc).2
  obtain ⟨kA, comp, k1, k2, k3, -⟩ := (hK.2 ti _ ht).2
  have hcomp : comp = G.1.1 ci := Option.some.inj (k3.symm.trans hcls.1)
  subst hcomp
  obtain ⟨kC, hkC, -⟩ := hcls.2
  refine W.aast X.1 X.2.1 ((Z.2.1 a _ ha).2) (fun q h => by cases h) (fun h => by cases h) k1 k2 rfl hkC ⟨h0, by show _ < (arrV _ _ _).slots.size; rw [arrV_size]; exact hlt⟩ g1 (fun q h => by rw [g3] at h; cases h) (by rw [g2]; exact hkC) (by rw [g2]; exact va_assign hcls) rfl rfl hdg fun H1 e z oq => ?_
  refine kk H1 _ _ rfl (Z.put ha ?_ z oq)
  show H1[a]? = some (vp_cell _ _)
  rw [e]
  rw [vp_cell_q, vp_cell_q, arrV_store]
  congr 2
  funext q
  by_cases hq : q = i.toNatClampNeg
  · subst hq
    simp [updV, va_up, va_rf]
  · simp [updV, va_up, hq]
theorem f_aastN {ti : Nat} {C : String} (X : CallFix p m c cc nL s args Ts own) (Z : wZ G w s H locs) (ht : (tyl G.2.1)[ti]? = some (G.2.1 ti, .object C)) {a n : Nat} {f : Nat → Option Nat} {i : Int32} (hdg : decode cc pc = .ok (.aastore, 1)) (ha : w a = some (.inl (G.2.1 ti, n, .inr (.inr (.inr (.inr f)))))) (hin : vp_in i n)
    (kk : ∀ (H1 : Heap) (locs1 : List Loc) (w1 : wT), w1 = va_up w a (some (.inl (G.2.1 ti, n, .inr (.inr (.inr (.inr (va_up f i.toNatClampNeg none))))))) → wZ G w1 s H1 locs1 → W p l e R s m args below meth c H1 locs1 cells slots Q (F0 m (pc + 1) ls rest)) : W p l e R s m args below meth c H locs cells slots Q (F0 m pc ls (.null :: .int i :: .ref a :: rest)) := by
  refine va_WaastN (C := C) X.1 X.2.1 ((Z.2.1 a _ ha).2) ((Z.2.2.1.2 ti _ ht).1 n (fun j => va_rf (f j))) (fun h => by cases h) (by show ¬ (i < 0 ∨ (arrV _ _ _).slots.size ≤ _); rw [arrV_size]; exact hin) rfl rfl hdg fun H1 e z oq => ?_
  refine kk H1 _ _ rfl (Z.put ha ?_ z oq)
  show H1[a]? = some (vp_cell _ _)
  rw [e]
  rw [vp_cell_q, vp_cell_q, arrV_store]
  congr 2
  funext q
  by_cases hq : q = i.toNatClampNeg
  · subst hq
    simp [updV, va_up, va_rf]
  · simp [updV, va_up, hq]
/-! new cells -/
theorem f_new (X : CallFix p m c cc nL s args Ts own) (Z : wZ G w s H locs) {C : String} {T : u_T} {N ci index : Nat} {ty : Nat → FieldType} {fs : List Value} (hin : ∀ w ∈ u_ws C T N, w ∈ Ts) (hty : ∀ k, k < N → parseFieldDescriptor (T k).2.2.1 = some (ty k)) (hc : vwCl[ci]? = some (C, T, N)) (hcl : Cond.classLink own index C ∈ Ts) (hinst : Cond.instantiable C N ∈ Ts) (hini : Cond.initialized C ∈ Ts) (hfs : ∀ j, j < N → defaultValue (ty j) = vp_V fs j) (hdg : decode cc pc = .ok (.new index, 3)) (hcells : cells + 1 ≤ R.cells) (hslots : slots + N ≤ R.slots)
    (kk : ∀ (q : Nat) (H1 : Heap) (w1 : wT), w q = none → w1 = va_up w q (some (.inr (ci, fs))) → wZ G w1 s H1 locs → W p l e R s m args below meth c H1 locs (cells + 1) (slots + N) Q (F0 m (pc + 3) ls (.ref q :: rest))) : W p l e R s m args below meth c H locs cells slots Q (F0 m pc ls rest) := by
  have hts := X.2.2.2.2
  have hKn := Z.2.2.1.1 ci _ hc
  refine W.newcK X.1 X.2.1 X.2.2.2.1 (hts _ hcl) (hts _ hinst) (hts _ hini) rfl hdg hcells hslots hKn.2.1 rfl fun H1 kC hkC e1 z1 o1 => ?_
  obtain ⟨a1, a2⟩ := Z.push (e := .inr (ci, fs)) (H1 := H1) ⟨_, hc, (u_born ty hts hin hKn hkC e1 hty).to hfs⟩ z1 o1
  exact kk H.size H1 _ a1 rfl a2
theorem f_newa {ti : Nat} {ty : FieldType} (X : CallFix p m c cc nL s args Ts own) (Z : wZ G w s H locs) {atype : ArrayType} (ht : (tyl G.2.1)[ti]? = some (G.2.1 ti, ty)) (harr : Cond.arrayClass (newarray.typeOf atype) ∈ Ts) (hty : newarray.typeOf atype = ty) (hpr : ∀ C, ty ≠ .object C) (hdf : defaultValue ty = .int 0) {n : Int32} {N' : Nat} (hn : ¬ n < 0) (hN : n.toNatClampNeg = N') (hbytes : N' * componentBytes ty ≤ 536870912) (hcells : cells + 1 ≤ R.cells) (hslots : slots + N' ≤ R.slots) (hdg : decode cc pc = .ok (.newarray atype, 2))
    (kk : ∀ (q : Nat) (H1 : Heap) (w1 : wT), w q = none → w1 = va_up w q (some (.inl (G.2.1 ti, N', .inl (fun _ => 0)))) → wZ G w1 s H1 locs → W p l e R s m args below meth c H1 locs (cells + 1) (slots + N') Q (F0 m (pc + 2) ls (.ref q :: rest))) : W p l e R s m args below meth c H locs cells slots Q (F0 m pc ls (.int n :: rest)) := by
  subst hty
  refine va_newaK X.1 X.2.1 (X.2.2.2.2 _ harr) rfl hdg rfl hn hN hbytes hcells hslots rfl fun H1 cA e1 z1 o1 hAr hNm => ?_
  have hcA : cA = G.2.1 ti := by
    have h2 := (Z.2.2.1.2 ti _ ht).2
    unfold va_RA at h2
    split at h2
    · rename_i C hC
      exact absurd hC (hpr C)
    · exact Option.some.inj (hNm.symm.trans h2)
  subst hcA
  obtain ⟨a1, a2⟩ := Z.push (e := .inl (G.2.1 ti, N', .inl (fun _ => 0))) (H1 := H1) (by
    show H1[H.size]? = some (vp_cell _ _)
    rw [e1, vp_cell_i, hdf]) z1 o1
  exact kk H.size H1 _ a1 rfl a2
theorem f_anew {ti index : Nat} {C : String} (X : CallFix p m c cc nL s args Ts own) (Z : wZ G w s H locs) (ht : (tyl G.2.1)[ti]? = some (G.2.1 ti, .object C)) (hcl : Cond.classLink own index C ∈ Ts) (hao : va_AO C s) {n : Int32} {N' : Nat} (hn : ¬ n < 0) (hN : n.toNatClampNeg = N') (hbytes : N' * 4 ≤ 536870912) (hcells : cells + 1 ≤ R.cells) (hslots : slots + N' ≤ R.slots) (hdg : decode cc pc = .ok (.anewarray index, 3))
    (kk : ∀ (q : Nat) (H1 : Heap) (w1 : wT), w q = none → w1 = va_up w q (some (.inl (G.2.1 ti, N', .inr (.inr (.inr (.inr (fun _ => none))))))) → wZ G w1 s H1 locs → W p l e R s m args below meth c H1 locs (cells + 1) (slots + N') Q (F0 m (pc + 3) ls (.ref q :: rest))) : W p l e R s m args below meth c H locs cells slots Q (F0 m pc ls (.int n :: rest)) := by
  subst hN
  refine W.anew X.1 X.2.1 X.2.2.2.1 (X.2.2.2.2 _ hcl) (va_AO.use hao) rfl hdg rfl hn hbytes hcells hslots fun cA kA comp f1 f2 f3 f4 => ?_
  generalize hH1 : H.push ({ cls := cA, slots := Array.replicate n.toNatClampNeg .null, vm := .none } : Cell) = H1
  have z1 : H1.size = H.size + 1 := by rw [← hH1, Array.size_push]
  have e1 : H1[H.size]? = some (arrV cA n.toNatClampNeg (fun _ => .null)) := by rw [← hH1, Array.getElem?_push_size, ← arrV_new]
  have o1 : ∀ q : Nat, q < H.size → H1[q]? = H[q]? := fun q hq => by rw [← hH1, Array.getElem?_push, if_neg (Nat.ne_of_lt hq)]
  have hcA : cA = G.2.1 ti := by
    obtain ⟨kA', comp', g1, g2, g3, g4⟩ := (Z.2.2.1.2 ti _ ht).2
    exact Option.some.inj (f1.symm.trans g4)
  subst hcA
  obtain ⟨a1, a2⟩ := Z.push (e := .inl (G.2.1 ti, n.toNatClampNeg, .inr (.inr (.inr (.inr (fun _ => none)))))) (H1 := H1) (by
    show H1[H.size]? = some (vp_cell _ _)
    rw [e1, vp_cell_q]
    rfl) z1 o1
  exact kk H.size H1 _ a1 rfl a2
/-! ends -/
def Qi (G : gT) (post : Int32 → wT → Prop) : Array Value → State → Outcome → State → Prop := va_Qi post (wG G) (fr G)
def Qv (G : gT) (post : wT → Prop) : Array Value → State → Outcome → State → Prop := va_Qv post (wG G) (fr G)
def Qq (G : gT) (post : Option Nat → wT → Prop) : Array Value → State → Outcome → State → Prop := va_Qq post (wG G) (fr G)
theorem wZ.end {t : State} (Z : wZ G w s H locs) (ht : t.heap = H) (hW : s.WarmedH t.vm) : wG G w t := ⟨by rw [ht]; exact Nat.le_trans Z.1 Z.2.2.2.1.1, by rw [ht]; exact Z.2.1, va_K.moved hW.alike Z.2.2.1, Z.2.2.2.2.warm hW⟩
theorem f_iret {mc ms : Nat} {post : Int32 → wT → Prop} (X : CallFix p m c cc nL s args Ts own) (hr : meth.sig.returnType = some .int) (hlk : meth.locks = false) (Z : wZ G w s H locs) (h1 : cells ≤ mc) (h2 : slots ≤ ms) (hdg : decode cc pc = .ok (.ireturn, 1)) {v : Int32} (hq : post v w) : W p l e R s m args below meth c H locs cells slots (MQ below (Qi G post) args s mc ms (fr G)) (F0 m pc ls [.int v]) := by
  refine W.widen h1 h2 ?_
  exact W.iret X.1 X.2.1 hr (fun t ht hW => ⟨⟨v, w, rfl, hq, Z.end ht hW⟩, Z.2.2.2.1.F ht⟩) Z.2.2.2.1.2.2 hdg hlk
theorem f_zret {mc ms : Nat} {post : Int32 → wT → Prop} (X : CallFix p m c cc nL s args Ts own) (hr : meth.sig.returnType = some .boolean) (hlk : meth.locks = false) (Z : wZ G w s H locs) (h1 : cells ≤ mc) (h2 : slots ≤ ms) (hdg : decode cc pc = .ok (.ireturn, 1)) {v : Int32} (hn : narrow .boolean (.int v) = .int v) (hq : post v w) : W p l e R s m args below meth c H locs cells slots (MQ below (Qi G post) args s mc ms (fr G)) (F0 m pc ls [.int v]) := by
  refine W.widen h1 h2 ?_
  exact W.zret X.1 X.2.1 hr hn (fun t ht hW => ⟨⟨v, w, rfl, hq, Z.end ht hW⟩, Z.2.2.2.1.F ht⟩) Z.2.2.2.1.2.2 hdg hlk
theorem f_vret {mc ms : Nat} {post : wT → Prop} (X : CallFix p m c cc nL s args Ts own) (hr : meth.sig.returnType = none) (hlk : meth.locks = false) (Z : wZ G w s H locs) (h1 : cells ≤ mc) (h2 : slots ≤ ms) (hdg : decode cc pc = .ok (.return_, 1)) (hq : post w) : W p l e R s m args below meth c H locs cells slots (MQ below (Qv G post) args s mc ms (fr G)) (F0 m pc ls []) := by
  refine W.widen h1 h2 ?_
  exact W.vret X.1 X.2.1 hr (fun t ht hW => ⟨⟨w, rfl, hq, Z.end ht hW⟩, Z.2.2.2.1.F ht⟩) Z.2.2.2.1.2.2 hdg hlk
theorem f_aret {mc ms : Nat} {post : Option Nat → wT → Prop} {C : String} (X : CallFix p m c cc nL s args Ts own) (hr : meth.sig.returnType = some (.object C)) (hlk : meth.locks = false) (Z : wZ G w s H locs) (h1 : cells ≤ mc) (h2 : slots ≤ ms) (hdg : decode cc pc = .ok (.areturn, 1)) {v : Value} {r : Option Nat} (hv : v = va_rf r) (hq : post r w) : W p l e R s m args below meth c H locs cells slots (MQ below (Qq G post) args s mc ms (fr G)) (F0 m pc ls [v]) := by
  refine W.widen h1 h2 ?_
  subst hv
  exact W.aret X.1 X.2.1 hr (Or.inl ⟨C, rfl⟩) (va_rf_or r) (fun t ht hW => ⟨⟨r, w, rfl, hq, Z.end ht hW⟩, Z.2.2.2.1.F ht⟩) Z.2.2.2.1.2.2 hdg hlk
/-! calls -/
theorem wPc_blind (As : List Value) : FrameBlind (va_Pc As (wG G w)) := fun a U g mk q => ⟨q.1, q.2.1, q.2.2.1, va_K.moved (u := U) (U := U.calling g mk a) (Vm.Alike.refl U.vm) q.2.2.2.1, wAO.same (u := U) (U := U.calling g mk a) rfl q.2.2.2.2⟩
theorem wPc_pre (Z : wZ G w s H locs) (As : List Value) : PreS s H (va_Pc As (wG G w)) As := ⟨wPc_blind As, fun U hU hW => ⟨rfl, by rw [hU]; exact Nat.le_trans Z.1 Z.2.2.2.1.1, by rw [hU]; exact Z.2.1, va_K.moved hW.alike Z.2.2.1, Z.2.2.2.2.warm hW⟩⟩
theorem wZ.back {w' : wT} {t : State} {H1 : Heap} {locs1 : List Loc} (Z : wZ G w s H locs) (ht : t.heap = H1) (hvm : s.vm.Alike t.vm) (hB : wG G w' t) (hS : va_S (fr G) s.heap H1 locs1) : wZ G w' s H1 locs1 := ⟨Z.1, by rw [← ht]; exact hB.2.1, Z.2.2.1, hS, Z.2.2.2.2⟩
variable {y : MethodName} {bytes : ByteArray} {maxL mc ms n index ci : Nat} {ret : Option FieldType} {ws : List Cond} {rm : Room} {C : String} {T : u_T} {N b : Nat} {As st : List Value} {fs : List Value}
theorem f_callVi {post : Int32 → wT → Prop} (X : CallFix p m c cc nL s args Ts own) (Z : wZ G w s H locs) (hsz : ls.size = nL) (hM : Met l y ws rm (va_Pc (.ref b :: As) (wG G w)) (Qi G post) mc ms (fr G)) (cw : CallW R s args own C index y bytes maxL ret ws rm mc ms n) (hc : vwCl[ci]? = some (C, T, N)) (hn : As.length = n) (hdg : decode cc pc = .ok (.invokevirtual index, 3)) (hf : cells + mc ≤ R.cells ∧ slots + ms ≤ R.slots) (hst : st = As.reverse ++ .ref b :: rest) (hrm : (rest.map fun v => v.category).sum ≤ 8) (hb : w b = some (.inr (ci, fs)))
    (kk : ∀ (r : Int32) (w' : wT) (H1 : Heap) (locs1 : List Loc), post r w' → wZ G w' s H1 locs1 → W p l e R s m args below meth c H1 locs1 (cells + mc) (slots + ms) Q (F0 m (pc + 3) ls (.int r :: rest))) : W p l e R s m args below meth c H locs cells slots Q (F0 m pc ls st) := by
  subst hst
  refine va_calli (va_runV (As := As) (rest := rest) X hM cw ⟨(wPc_pre Z _).1, va_recv Z.2.2.1 (Z.2.1.one hb) (q0 := 0) hc rfl, (wPc_pre Z _).2⟩ rfl hn hsz rfl (lv_room hrm) hdg hf) Z.2.2.2.1 (fun q _ h => h) (fun q h => h) (fun r u t H1 locs1 ht hvm hw hB _ _ hS => ?_)
  exact kk r u H1 locs1 hw (Z.back ht hvm hB hS)
theorem f_callVv {post : wT → Prop} (X : CallFix p m c cc nL s args Ts own) (Z : wZ G w s H locs) (hsz : ls.size = nL) (hM : Met l y ws rm (va_Pc (.ref b :: As) (wG G w)) (Qv G post) mc ms (fr G)) (cw : CallW R s args own C index y bytes maxL ret ws rm mc ms n) (hc : vwCl[ci]? = some (C, T, N)) (hn : As.length = n) (hdg : decode cc pc = .ok (.invokevirtual index, 3)) (hf : cells + mc ≤ R.cells ∧ slots + ms ≤ R.slots) (hst : st = As.reverse ++ .ref b :: rest) (hrm : (rest.map fun v => v.category).sum ≤ 8) (hb : w b = some (.inr (ci, fs)))
    (kk : ∀ (w' : wT) (H1 : Heap) (locs1 : List Loc), post w' → wZ G w' s H1 locs1 → W p l e R s m args below meth c H1 locs1 (cells + mc) (slots + ms) Q (F0 m (pc + 3) ls rest)) : W p l e R s m args below meth c H locs cells slots Q (F0 m pc ls st) := by
  subst hst
  refine va_callv (va_runV (As := As) (rest := rest) X hM cw ⟨(wPc_pre Z _).1, va_recv Z.2.2.1 (Z.2.1.one hb) (q0 := 0) hc rfl, (wPc_pre Z _).2⟩ rfl hn hsz rfl (lv_room hrm) hdg hf) Z.2.2.2.1 (fun q _ h => h) (fun q h => h) (fun u t H1 locs1 ht hvm hw hB _ _ hS => ?_)
  exact kk u H1 locs1 hw (Z.back ht hvm hB hS)
theorem f_callVq {post : Option Nat → wT → Prop} (X : CallFix p m c cc nL s args Ts own) (Z : wZ G w s H locs) (hsz : ls.size = nL) (hM : Met l y ws rm (va_Pc (.ref b :: As) (wG G w)) (Qq G post) mc ms (fr G)) (cw : CallW R s args own C index y bytes maxL ret ws rm mc ms n) (hc : vwCl[ci]? = some (C, T, N)) (hn : As.length = n) (hdg : decode cc pc = .ok (.invokevirtual index, 3)) (hf : cells + mc ≤ R.cells ∧ slots + ms ≤ R.slots) (hst : st = As.reverse ++ .ref b :: rest) (hrm : (rest.map fun v => v.category).sum ≤ 8) (hb : w b = some (.inr (ci, fs)))
    (kk : ∀ (r : Option Nat) (w' : wT) (H1 : Heap) (locs1 : List Loc), post r w' → wZ G w' s H1 locs1 → W p l e R s m args below meth c H1 locs1 (cells + mc) (slots + ms) Q (F0 m (pc + 3) ls (va_rf r :: rest))) : W p l e R s m args below meth c H locs cells slots Q (F0 m pc ls st) := by
  subst hst
  refine va_callq (va_runV (As := As) (rest := rest) X hM cw ⟨(wPc_pre Z _).1, va_recv Z.2.2.1 (Z.2.1.one hb) (q0 := 0) hc rfl, (wPc_pre Z _).2⟩ rfl hn hsz rfl (lv_room hrm) hdg hf) Z.2.2.2.1 (fun q _ h => h) (fun q h => h) (fun r u t H1 locs1 ht hvm hw hB _ _ hS => ?_)
  exact kk r u H1 locs1 hw (Z.back ht hvm hB hS)
theorem f_callSi {post : Int32 → wT → Prop} (X : CallFix p m c cc nL s args Ts own) (Z : wZ G w s H locs) (hsz : ls.size = nL) (hM : Met l y ws rm (va_Pc As (wG G w)) (Qi G post) mc ms (fr G)) (cw : CallB R s args own index y bytes maxL ret ws rm mc ms n ∧ (Cond.static y).before args s = true) (hn : As.length = n) (hdg : decode cc pc = .ok (.invokestatic index, 3)) (hf : cells + mc ≤ R.cells ∧ slots + ms ≤ R.slots) (hst : st = As.reverse ++ rest) (hrm : (rest.map fun v => v.category).sum ≤ 8)
    (kk : ∀ (r : Int32) (w' : wT) (H1 : Heap) (locs1 : List Loc), post r w' → wZ G w' s H1 locs1 → W p l e R s m args below meth c H1 locs1 (cells + mc) (slots + ms) Q (F0 m (pc + 3) ls (.int r :: rest))) : W p l e R s m args below meth c H locs cells slots Q (F0 m pc ls st) := by
  subst hst
  refine va_calli (va_runS (As := As) (rest := rest) X hM cw (wPc_pre Z _) rfl hn hsz rfl (lv_room hrm) hdg hf) Z.2.2.2.1 (fun q _ h => h) (fun q h => h) (fun r u t H1 locs1 ht hvm hw hB _ _ hS => ?_)
  exact kk r u H1 locs1 hw (Z.back ht hvm hB hS)
theorem f_callIv {post : wT → Prop} (X : CallFix p m c cc nL s args Ts own) (Z : wZ G w s H locs) (hsz : ls.size = nL) (hM : Met l y ws rm (va_Pc (.ref b :: As) (wG G w)) (Qv G post) mc ms (fr G)) (cw : CallB R s args own index y bytes maxL none ws rm mc ms n ∧ y.name = "<init>" ∧ (Cond.instanceMethod y).before args s = true) (hn : As.length = n) (hdg : decode cc pc = .ok (.invokespecial index, 3)) (hf : cells + mc ≤ R.cells ∧ slots + ms ≤ R.slots) (hst : st = As.reverse ++ .ref b :: rest) (hrm : (rest.map fun v => v.category).sum ≤ 8)
    (kk : ∀ (w' : wT) (H1 : Heap) (locs1 : List Loc), post w' → wZ G w' s H1 locs1 → W p l e R s m args below meth c H1 locs1 (cells + mc) (slots + ms) Q (F0 m (pc + 3) ls rest)) : W p l e R s m args below meth c H locs cells slots Q (F0 m pc ls st) := by
  subst hst
  refine va_callv (va_runI (As := As) (rest := rest) X hM cw (wPc_pre Z _) rfl hn hsz rfl (lv_room hrm) hdg hf) Z.2.2.2.1 (fun q _ h => h) (fun q h => h) (fun u t H1 locs1 ht hvm hw hB _ _ hS => ?_)
  exact kk u H1 locs1 hw (Z.back ht hvm hB hS)
theorem f_callINv {post : wT → Prop} {host : String} (X : CallFix p m c cc nL s args Ts own) (Z : wZ G w s H locs) (hsz : ls.size = nL) (hM : Met l y ws rm (va_Pc (.ref b :: As) (wG G w)) (Qv G post) mc ms (fr G)) (cw : va_CN R s args own index y host bytes maxL none ws rm mc ms n ∧ y.name = "<init>" ∧ (Cond.instanceMethod y).before args s = true) (hn : As.length = n) (hdg : decode cc pc = .ok (.invokespecial index, 3)) (hf : cells + mc ≤ R.cells ∧ slots + ms ≤ R.slots) (hst : st = As.reverse ++ .ref b :: rest) (hrm : (rest.map fun v => v.category).sum ≤ 8)
    (kk : ∀ (w' : wT) (H1 : Heap) (locs1 : List Loc), post w' → wZ G w' s H1 locs1 → W p l e R s m args below meth c H1 locs1 (cells + mc) (slots + ms) Q (F0 m (pc + 3) ls rest)) : W p l e R s m args below meth c H locs cells slots Q (F0 m pc ls st) := by
  subst hst
  refine va_callv (va_runIN (As := As) (rest := rest) X hM cw (wPc_pre Z _) rfl hn hsz rfl (lv_room hrm) hdg hf) Z.2.2.2.1 (fun q _ h => h) (fun q h => h) (fun u t H1 locs1 ht hvm hw hB _ _ hS => ?_)
  exact kk u H1 locs1 hw (Z.back ht hvm hB hS)
end FW

theorem f_met {l : Launch} {y : MethodName} {ws ws' : List Cond} {rm : Room} {Qc : Array Value → State → Outcome → State → Prop} {mc ms : Nat} {cc : ByteArray} {maxL : Nat} {ret : Option FieldType} {G : gT} {w : wT} {As : List Value} (hy : plainName y.cls = true) (hw : ws = Cond.code y cc maxL ret :: ws') (hA : As.all (fun v => v.category == 1) = true) (hn : As.length ≤ maxL)
    (body : ∀ (p : Program) (e : Env) (s : State) (m : MethodId) (below : List Frame) (meth : Method) (c : Code), CallFix p m c cc maxL s As.toArray ws y.cls → meth.sig.returnType = ret → meth.locks = false → meth.name = y.name → wZ G w s s.heap [] → ∀ ls : Array Slot, lV ls maxL (As.map some ++ List.replicate (maxL - As.length) none) → W p l e rm s m As.toArray below meth c s.heap [] 0 0 (MQ below Qc As.toArray s mc ms (fr G)) (F0 m 0 ls [])) : Met l y ws rm (va_Pc As (wG G w)) Qc mc ms (fr G) := by
  refine Met.ofW (cc := cc) (maxL := maxL) (ret := ret) hy hw ?_
  intro p e s m args below meth c s₁ B hml hv
  obtain ⟨rfl, h1, h2, h3, h4⟩ := hv
  have hcat : ∀ v ∈ As, v.category = 1 := fun v hv => by simpa using List.all_eq_true.mp hA v hv
  have hsl : ∀ (L : List Value), (∀ v ∈ L, v.category = 1) → (lg_sl L).length = L.length ∧ ∀ (k i : Nat) (v : Value), L[i]? = some v → (k + i, v) ∈ lv_args k L := by
    intro L
    induction L with
    | nil => intro _; exact ⟨rfl, fun k i v h => by simp at h⟩
    | cons x L ih =>
      intro hL
      obtain ⟨i1, i2⟩ := ih (fun v hv => hL v (List.mem_cons_of_mem _ hv))
      have hx := hL x List.mem_cons_self
      refine ⟨?_, fun k i v h => ?_⟩
      · simp [lg_sl] at i1 ⊢
        first | (simp [hx]; omega) | (simp [Value.category] at hx ⊢; cases x <;> simp_all <;> omega) | omega
      · cases i with
        | zero =>
          simp at h
          subst h
          simp [lv_args]
        | succ i =>
          simp at h
          simp only [lv_args, hx]
          refine List.mem_cons_of_mem _ ?_
          have := i2 (k + 1) i v h
          rw [show k + (i + 1) = k + 1 + i by omega]
          simpa using this
  have hl := lv_entry As (n := maxL) (by rw [(hsl As hcat).1]; exact hn)
  rw [lg_entry_eq]
  generalize (lg_sl As ++ List.replicate (maxL - (lg_sl As).length) Slot.unset).toArray = ls at hl ⊢
  refine body p e s m below meth c ⟨B.exec, B.bytes, hml, findClass_of_methodNamed B.named, atoms_spec (ws := ws) B.pre⟩ B.returns B.notSynchronized (name_of_methodNamed B.named B.method).1 ⟨h1, h2, h3, va_S.rf, h4⟩ ls ⟨hl.1, hl.2.1, fun i v hv => ?_, by simp; omega, fun i v hv => ?_⟩
  · have hi : As[i]? = some v := by
      by_cases hlt : i < As.length
      · rw [List.getElem?_append_left (by simpa using hlt), List.getElem?_map] at hv
        cases hq : As[i]? with
        | none => rw [hq] at hv; simp at hv
        | some x => rw [hq] at hv; simp at hv; rw [hv]
      · rw [List.getElem?_append_right (by simp; omega)] at hv
        have := List.eq_of_mem_replicate (List.mem_of_getElem? hv)
        cases this
    have := (hsl As hcat).2 0 i v hi
    rw [Nat.zero_add] at this
    exact hl.2.2 _ this
  · rcases List.mem_append.mp (List.mem_of_getElem? hv) with h | h
    · obtain ⟨x, hx, e⟩ := List.mem_map.mp h
      cases e
      exact hcat _ hx
    · have := List.eq_of_mem_replicate h
      cases this
end
section
/-! the cells -/
abbrev cPln (r wi : Int32) (nu : Option Nat) : va_E := .inr (0, [.int r, .int wi, va_rf nu])
abbrev cSid (pl : Option Nat) (tk : Int32) : va_E := .inr (1, [va_rf pl, .int tk])
abbrev cTrk (fo : Option Nat) (sz : Int32) : va_E := .inr (2, [va_rf fo, .int sz])
abbrev cVeh (so we de : Int32) (ro bh : Option Nat) : va_E := .inr (3, [.int so, .int we, .int de, va_rf ro, va_rf bh])
abbrev cTs (ta to sd pl : Option Nat) (lv pc : Int32) : va_E := .inr (4, [va_rf ta, va_rf to, va_rf sd, va_rf pl, .int lv, .int pc])
abbrev cMo (so we de cs cr bh us fo : Option Nat) (sd na : Int32) (pl : Option Nat) (ro wi : Int32) (pn : Option Nat) (lv : Int32) (to : Option Nat) : va_E := .inr (5, [va_rf so, va_rf we, va_rf de, va_rf cs, va_rf cr, va_rf bh, va_rf us, va_rf fo, .int sd, .int na, va_rf pl, .int ro, .int wi, va_rf pn, .int lv, va_rf to])
abbrev aI (G : gT) (n : Nat) (f : Nat → Int32) : va_E := .inl (G.2.1 0, n, .inl f)
abbrev aZ (G : gT) (n : Nat) (f : Nat → Int32) : va_E := .inl (G.2.1 1, n, .inl f)
abbrev aT (G : gT) (n : Nat) (f : Nat → Option Nat) : va_E := .inl (G.2.1 2, n, .inr (.inr (.inr (.inr f))))
abbrev aV (G : gT) (n : Nat) (f : Nat → Option Nat) : va_E := .inl (G.2.1 3, n, .inr (.inr (.inr (.inr f))))
theorem dx_io {x : ClassId × vp_A} {y : Nat × List Value} : (Sum.inl x : va_E) ≠ .inr y := fun h => by cases h
theorem dx_oi {x : ClassId × vp_A} {y : Nat × List Value} : (Sum.inr y : va_E) ≠ .inl x := fun h => by cases h
theorem dx_oo {a b : Nat} {x y : List Value} (h : a ≠ b) : (Sum.inr (a, x) : va_E) ≠ .inr (b, y) := fun e => by cases e; exact h rfl
theorem dx_ir {a b : ClassId} {n k : Nat} {f : Nat → Int32} {g} : (Sum.inl (a, n, .inl f) : va_E) ≠ .inl (b, k, .inr g) := fun e => by cases e
theorem dx_ri {a b : ClassId} {n k : Nat} {f : Nat → Int32} {g} : (Sum.inl (b, k, .inr g) : va_E) ≠ .inl (a, n, .inl f) := fun e => by cases e
theorem va_uu {w : wT} {a : Nat} {x y : Option va_E} : va_up (va_up w a x) a y = va_up w a y := bx_uu w a x y
theorem va_comm {w : wT} {a b : Nat} {x y : Option va_E} (h : a ≠ b) : va_up (va_up w a x) b y = va_up (va_up w b y) a x := by
  funext q
  by_cases h1 : q = a <;> by_cases h2 : q = b <;> simp [va_up, h1, h2, h, Ne.symm h]
def bI (c : Prop) [Decidable c] : Int32 := if c then 1 else 0
theorem bI_t {c : Prop} [Decidable c] (h : c) : bI c = 1 := if_pos h
theorem bI_f {c : Prop} [Decidable c] (h : ¬ c) : bI c = 0 := if_neg h
theorem bI_0 {c : Prop} [Decidable c] : bI c = 0 ↔ ¬ c := by unfold bI; split <;> simp_all
theorem bI_n {c : Prop} [Decidable c] : narrow .boolean (.int (bI c)) = .int (bI c) := by unfold bI; split <;> decide
end
section
theorem kc_0 : (0 : Int32).toInt = 0 := by decide
theorem kc_1 : (1 : Int32).toInt = 1 := by decide
theorem kc_2 : (2 : Int32).toInt = 2 := by decide
theorem kc_3 : (3 : Int32).toInt = 3 := by decide
theorem kc_5 : (5 : Int32).toInt = 5 := by decide
theorem kc_6 : (6 : Int32).toInt = 6 := by decide
theorem kc_7 : (7 : Int32).toInt = 7 := by decide
theorem kc_12 : (12 : Int32).toInt = 12 := by decide
theorem kc_50 : (50 : Int32).toInt = 50 := by decide
theorem kc_99 : (99 : Int32).toInt = 99 := by decide
theorem kc_144 : (144 : Int32).toInt = 144 := by decide
theorem kc_512 : (512 : Int32).toInt = 512 := by decide
theorem kc_1000 : (1000 : Int32).toInt = 1000 := by decide
theorem kc_m1 : (-1 : Int32).toInt = -1 := by decide
set_option maxHeartbeats 4000000 in
set_option maxRecDepth 100000 in
theorem c_X4_isWithin (l : Launch) (G : gT) (w : wT) (x a b : Int32) : Met l yX4_isWithin wsX4_isWithin ({ frames := 0, cells := 0, slots := 0, locals := 0 }) (va_Pc [.int x, .int a, .int b] (wG G w)) (Qi G (fun r w' => w' = w ∧ r = bI (a.toInt ≤ x.toInt ∧ x.toInt ≤ b.toInt))) 0 0 (fr G) := by
  refine f_met (cc := cX4_isWithin) (maxL := 3) (ret := (some .boolean)) (by decide) rfl rfl (Nat.le_of_ble_eq_true rfl) ?_
  intro p e s m below meth cd X hr hlk hnm Z ls hl
  have X : CallFix p m cd cX4_isWithin 3 s [.int x, .int a, .int b].toArray wsX4_isWithin RX4 := X
  have hl : lV ls _ [some (.int x), some (.int a), some (.int b)] := hl
  refine f_iload X hl ⟨_, rfl, dX4_isWithin_0⟩ rfl ?_
  refine f_iload X hl ⟨_, rfl, dX4_isWithin_1⟩ rfl ?_
  refine lv_icmp_lt (tgt := 14) X.1 X.2.1 dX4_isWithin_2 (by decide) (fun c2 => ?_) (fun c2 => ?_)
  · refine lv_iconst (v := 0) X.1 X.2.1 dX4_isWithin_14 (by decide) ?_
    exact f_zret X hr hlk Z (Nat.le_of_ble_eq_true rfl) (Nat.le_of_ble_eq_true rfl) dX4_isWithin_15 (by decide) ⟨rfl, by unfold bI; split <;> first | rfl | (exfalso; (try simp only [Int32.lt_iff_toInt_lt, Int32.le_iff_toInt_le, ← Int32.toInt_inj, ne_eq, kc_0, kc_1, kc_6] at *; omega))⟩
  · refine f_iload X hl ⟨_, rfl, dX4_isWithin_5⟩ rfl ?_
    refine f_iload X hl ⟨_, rfl, dX4_isWithin_6⟩ rfl ?_
    refine lv_icmp_gt (tgt := 14) X.1 X.2.1 dX4_isWithin_7 (by decide) (fun c7 => ?_) (fun c7 => ?_)
    · refine lv_iconst (v := 0) X.1 X.2.1 dX4_isWithin_14 (by decide) ?_
      exact f_zret X hr hlk Z (Nat.le_of_ble_eq_true rfl) (Nat.le_of_ble_eq_true rfl) dX4_isWithin_15 (by decide) ⟨rfl, by unfold bI; split <;> first | rfl | (exfalso; (try simp only [Int32.lt_iff_toInt_lt, Int32.le_iff_toInt_le, ← Int32.toInt_inj, ne_eq, kc_0, kc_1, kc_6] at *; omega))⟩
    · refine lv_iconst (v := 1) X.1 X.2.1 dX4_isWithin_10 (by decide) ?_
      refine lv_goto (tgt := 15) X.1 X.2.1 dX4_isWithin_11 (by decide) ?_
      exact f_zret X hr hlk Z (Nat.le_of_ble_eq_true rfl) (Nat.le_of_ble_eq_true rfl) dX4_isWithin_15 (by decide) ⟨rfl, by unfold bI; split <;> first | rfl | (exfalso; (try simp only [Int32.lt_iff_toInt_lt, Int32.le_iff_toInt_le, ← Int32.toInt_inj, ne_eq, kc_0, kc_1, kc_6] at *; omega))⟩
set_option maxHeartbeats 4000000 in
set_option maxRecDepth 100000 in
theorem c_X4_isTrack (l : Launch) (G : gT) (w : wT) (x : Int32) : Met l yX4_isTrack wsX4_isTrack ({ frames := 0, cells := 0, slots := 0, locals := 0 }) (va_Pc [.int x] (wG G w)) (Qi G (fun r w' => w' = w ∧ r = bI (0 ≤ x.toInt ∧ x.toInt < 6))) 0 0 (fr G) := by
  refine f_met (cc := cX4_isTrack) (maxL := 1) (ret := (some .boolean)) (by decide) rfl rfl (Nat.le_of_ble_eq_true rfl) ?_
  intro p e s m below meth cd X hr hlk hnm Z ls hl
  have X : CallFix p m cd cX4_isTrack 1 s [.int x].toArray wsX4_isTrack RX4 := X
  have hl : lV ls _ [some (.int x)] := hl
  refine f_iload X hl ⟨_, rfl, dX4_isTrack_0⟩ rfl ?_
  refine lv_if_lt (tgt := 14) X.1 X.2.1 dX4_isTrack_1 (by decide) (fun c1 => ?_) (fun c1 => ?_)
  · refine lv_iconst (v := 0) X.1 X.2.1 dX4_isTrack_14 (by decide) ?_
    exact f_zret X hr hlk Z (Nat.le_of_ble_eq_true rfl) (Nat.le_of_ble_eq_true rfl) dX4_isTrack_15 (by decide) ⟨rfl, by unfold bI; split <;> first | rfl | (exfalso; (try simp only [Int32.lt_iff_toInt_lt, Int32.le_iff_toInt_le, ← Int32.toInt_inj, ne_eq, kc_0, kc_1, kc_6] at *; omega))⟩
  · refine f_iload X hl ⟨_, rfl, dX4_isTrack_4⟩ rfl ?_
    refine lv_bipush (v := 6) X.1 X.2.1 dX4_isTrack_5 (by decide) ?_
    refine lv_icmp_ge (tgt := 14) X.1 X.2.1 dX4_isTrack_7 (by decide) (fun c7 => ?_) (fun c7 => ?_)
    · refine lv_iconst (v := 0) X.1 X.2.1 dX4_isTrack_14 (by decide) ?_
      exact f_zret X hr hlk Z (Nat.le_of_ble_eq_true rfl) (Nat.le_of_ble_eq_true rfl) dX4_isTrack_15 (by decide) ⟨rfl, by unfold bI; split <;> first | rfl | (exfalso; (try simp only [Int32.lt_iff_toInt_lt, Int32.le_iff_toInt_le, ← Int32.toInt_inj, ne_eq, kc_0, kc_1, kc_6] at *; omega))⟩
    · refine lv_iconst (v := 1) X.1 X.2.1 dX4_isTrack_10 (by decide) ?_
      refine lv_goto (tgt := 15) X.1 X.2.1 dX4_isTrack_11 (by decide) ?_
      exact f_zret X hr hlk Z (Nat.le_of_ble_eq_true rfl) (Nat.le_of_ble_eq_true rfl) dX4_isTrack_15 (by decide) ⟨rfl, by unfold bI; split <;> first | rfl | (exfalso; (try simp only [Int32.lt_iff_toInt_lt, Int32.le_iff_toInt_le, ← Int32.toInt_inj, ne_eq, kc_0, kc_1, kc_6] at *; omega))⟩
set_option maxHeartbeats 4000000 in
set_option maxRecDepth 100000 in
theorem c_X4_areTwoTracks (l : Launch) (G : gT) (w : wT) (x y : Int32) : Met l yX4_areTwoTracks wsX4_areTwoTracks ({ frames := 1, cells := 0, slots := 0, locals := 20 }) (va_Pc [.int x, .int y] (wG G w)) (Qi G (fun r w' => w' = w ∧ r = bI ((0 ≤ x.toInt ∧ x.toInt < 6) ∧ (0 ≤ y.toInt ∧ y.toInt < 6) ∧ x ≠ y))) 0 0 (fr G) := by
  refine f_met (cc := cX4_areTwoTracks) (maxL := 2) (ret := (some .boolean)) (by decide) rfl rfl (Nat.le_of_ble_eq_true rfl) ?_
  intro p e s m below meth cd X hr hlk hnm Z ls hl
  have X : CallFix p m cd cX4_areTwoTracks 2 s [.int x, .int y].toArray wsX4_areTwoTracks RX4 := X
  have hl : lV ls _ [some (.int x), some (.int y)] := hl
  refine f_iload X hl ⟨_, rfl, dX4_areTwoTracks_0⟩ rfl ?_
  refine f_callSi (rest := []) X Z hl.1 (c_X4_isTrack l G _ _) (va_cwS 1 X.2.2.2.2 gX4_areTwoTracks_X4_isTrack rfl rfl rfl (by decide +kernel) ⟨(Nat.le_of_ble_eq_true rfl), (Nat.le_of_ble_eq_true rfl)⟩) rfl dX4_areTwoTracks_1 ⟨(Nat.le_of_ble_eq_true rfl), (Nat.le_of_ble_eq_true rfl)⟩ rfl (Nat.le_of_ble_eq_true rfl) (fun r1 w1 H locs p1 Z => ?_)
  obtain ⟨w1e, hr1⟩ := p1
  have w1e := w1e.symm
  subst w1e
  refine lv_if_eq (tgt := 23) X.1 X.2.1 dX4_areTwoTracks_4 (by decide) (fun c4 => ?_) (fun c4 => ?_)
  · rw [hr1, bI_0] at c4
    refine lv_iconst (v := 0) X.1 X.2.1 dX4_areTwoTracks_23 (by decide) ?_
    exact f_zret X hr hlk Z (Nat.le_of_ble_eq_true rfl) (Nat.le_of_ble_eq_true rfl) dX4_areTwoTracks_24 (by decide) ⟨rfl, by unfold bI; split <;> first | rfl | (exfalso; (try simp only [Int32.lt_iff_toInt_lt, Int32.le_iff_toInt_le, ← Int32.toInt_inj, ne_eq, kc_0, kc_1, kc_6] at *; omega))⟩
  · rw [hr1, bI_0, Classical.not_not] at c4
    refine f_iload X hl ⟨_, rfl, dX4_areTwoTracks_7⟩ rfl ?_
    refine f_callSi (rest := []) X Z hl.1 (c_X4_isTrack l G _ _) (va_cwS 1 X.2.2.2.2 gX4_areTwoTracks_X4_isTrack rfl rfl rfl (by decide +kernel) ⟨(Nat.le_of_ble_eq_true rfl), (Nat.le_of_ble_eq_true rfl)⟩) rfl dX4_areTwoTracks_8 ⟨(Nat.le_of_ble_eq_true rfl), (Nat.le_of_ble_eq_true rfl)⟩ rfl (Nat.le_of_ble_eq_true rfl) (fun r8 w2 H locs p8 Z => ?_)
    obtain ⟨w2e, hr8⟩ := p8
    have w2e := w2e.symm
    subst w2e
    refine lv_if_eq (tgt := 23) X.1 X.2.1 dX4_areTwoTracks_11 (by decide) (fun c11 => ?_) (fun c11 => ?_)
    · rw [hr8, bI_0] at c11
      refine lv_iconst (v := 0) X.1 X.2.1 dX4_areTwoTracks_23 (by decide) ?_
      exact f_zret X hr hlk Z (Nat.le_of_ble_eq_true rfl) (Nat.le_of_ble_eq_true rfl) dX4_areTwoTracks_24 (by decide) ⟨rfl, by unfold bI; split <;> first | rfl | (exfalso; (try simp only [Int32.lt_iff_toInt_lt, Int32.le_iff_toInt_le, ← Int32.toInt_inj, ne_eq, kc_0, kc_1, kc_6] at *; omega))⟩
    · rw [hr8, bI_0, Classical.not_not] at c11
      refine f_iload X hl ⟨_, rfl, dX4_areTwoTracks_14⟩ rfl ?_
      refine f_iload X hl ⟨_, rfl, dX4_areTwoTracks_15⟩ rfl ?_
      refine lv_icmp_eq (tgt := 23) X.1 X.2.1 dX4_areTwoTracks_16 (by decide) (fun c16 => ?_) (fun c16 => ?_)
      · refine lv_iconst (v := 0) X.1 X.2.1 dX4_areTwoTracks_23 (by decide) ?_
        exact f_zret X hr hlk Z (Nat.le_of_ble_eq_true rfl) (Nat.le_of_ble_eq_true rfl) dX4_areTwoTracks_24 (by decide) ⟨rfl, by unfold bI; split <;> first | rfl | (exfalso; (try simp only [Int32.lt_iff_toInt_lt, Int32.le_iff_toInt_le, ← Int32.toInt_inj, ne_eq, kc_0, kc_1, kc_6] at *; omega))⟩
      · refine lv_iconst (v := 1) X.1 X.2.1 dX4_areTwoTracks_19 (by decide) ?_
        refine lv_goto (tgt := 24) X.1 X.2.1 dX4_areTwoTracks_20 (by decide) ?_
        exact f_zret X hr hlk Z (Nat.le_of_ble_eq_true rfl) (Nat.le_of_ble_eq_true rfl) dX4_areTwoTracks_24 (by decide) ⟨rfl, by unfold bI; split <;> first | rfl | (exfalso; (try simp only [Int32.lt_iff_toInt_lt, Int32.le_iff_toInt_le, ← Int32.toInt_inj, ne_eq, kc_0, kc_1, kc_6] at *; omega))⟩
set_option maxHeartbeats 4000000 in
set_option maxRecDepth 100000 in
theorem c_X4_isPosition (l : Launch) (G : gT) (w : wT) (x y : Int32) : Met l yX4_isPosition wsX4_isPosition ({ frames := 1, cells := 0, slots := 0, locals := 20 }) (va_Pc [.int x, .int y] (wG G w)) (Qi G (fun r w' => w' = w ∧ r = bI ((0 ≤ x.toInt ∧ x.toInt < 6) ∧ 0 ≤ y.toInt))) 0 0 (fr G) := by
  refine f_met (cc := cX4_isPosition) (maxL := 2) (ret := (some .boolean)) (by decide) rfl rfl (Nat.le_of_ble_eq_true rfl) ?_
  intro p e s m below meth cd X hr hlk hnm Z ls hl
  have X : CallFix p m cd cX4_isPosition 2 s [.int x, .int y].toArray wsX4_isPosition RX4 := X
  have hl : lV ls _ [some (.int x), some (.int y)] := hl
  refine f_iload X hl ⟨_, rfl, dX4_isPosition_0⟩ rfl ?_
  refine f_callSi (rest := []) X Z hl.1 (c_X4_isTrack l G _ _) (va_cwS 1 X.2.2.2.2 gX4_isPosition_X4_isTrack rfl rfl rfl (by decide +kernel) ⟨(Nat.le_of_ble_eq_true rfl), (Nat.le_of_ble_eq_true rfl)⟩) rfl dX4_isPosition_1 ⟨(Nat.le_of_ble_eq_true rfl), (Nat.le_of_ble_eq_true rfl)⟩ rfl (Nat.le_of_ble_eq_true rfl) (fun r1 w1 H locs p1 Z => ?_)
  obtain ⟨w1e, hr1⟩ := p1
  have w1e := w1e.symm
  subst w1e
  refine lv_if_eq (tgt := 15) X.1 X.2.1 dX4_isPosition_4 (by decide) (fun c4 => ?_) (fun c4 => ?_)
  · rw [hr1, bI_0] at c4
    refine lv_iconst (v := 0) X.1 X.2.1 dX4_isPosition_15 (by decide) ?_
    exact f_zret X hr hlk Z (Nat.le_of_ble_eq_true rfl) (Nat.le_of_ble_eq_true rfl) dX4_isPosition_16 (by decide) ⟨rfl, by unfold bI; split <;> first | rfl | (exfalso; (try simp only [Int32.lt_iff_toInt_lt, Int32.le_iff_toInt_le, ← Int32.toInt_inj, ne_eq, kc_0, kc_1, kc_6] at *; omega))⟩
  · rw [hr1, bI_0, Classical.not_not] at c4
    refine f_iload X hl ⟨_, rfl, dX4_isPosition_7⟩ rfl ?_
    refine lv_if_lt (tgt := 15) X.1 X.2.1 dX4_isPosition_8 (by decide) (fun c8 => ?_) (fun c8 => ?_)
    · refine lv_iconst (v := 0) X.1 X.2.1 dX4_isPosition_15 (by decide) ?_
      exact f_zret X hr hlk Z (Nat.le_of_ble_eq_true rfl) (Nat.le_of_ble_eq_true rfl) dX4_isPosition_16 (by decide) ⟨rfl, by unfold bI; split <;> first | rfl | (exfalso; (try simp only [Int32.lt_iff_toInt_lt, Int32.le_iff_toInt_le, ← Int32.toInt_inj, ne_eq, kc_0, kc_1, kc_6] at *; omega))⟩
    · refine lv_iconst (v := 1) X.1 X.2.1 dX4_isPosition_11 (by decide) ?_
      refine lv_goto (tgt := 16) X.1 X.2.1 dX4_isPosition_12 (by decide) ?_
      exact f_zret X hr hlk Z (Nat.le_of_ble_eq_true rfl) (Nat.le_of_ble_eq_true rfl) dX4_isPosition_16 (by decide) ⟨rfl, by unfold bI; split <;> first | rfl | (exfalso; (try simp only [Int32.lt_iff_toInt_lt, Int32.le_iff_toInt_le, ← Int32.toInt_inj, ne_eq, kc_0, kc_1, kc_6] at *; omega))⟩
set_option maxHeartbeats 4000000 in
set_option maxRecDepth 100000 in
theorem c_X4_isEngine (l : Launch) (G : gT) (w : wT) (v : Option Nat) (so : Int32) (hv : ∀ a, v = some a → ∃ we de ro bh, w a = some (cVeh so we de ro bh)) : Met l yX4_isEngine wsX4_isEngine ({ frames := 0, cells := 0, slots := 0, locals := 0 }) (va_Pc [va_rf v] (wG G w)) (Qi G (fun r w' => w' = w ∧ r = bI (v ≠ none ∧ so.toInt = 1))) 0 0 (fr G) := by
  refine f_met (cc := cX4_isEngine) (maxL := 1) (ret := (some .boolean)) (by decide) rfl (by cases v <;> rfl) (Nat.le_of_ble_eq_true rfl) ?_
  intro p e s m below meth cd X hr hlk hnm Z ls hl
  have X : CallFix p m cd cX4_isEngine 1 s [va_rf v].toArray wsX4_isEngine RX4 := X
  have hl : lV ls _ [some (va_rf v)] := hl
  have i3 : ∀ w ∈ wsX30, w ∈ wsX4_isEngine := by decide +kernel
  refine f_aload (v := va_rf v) X hl ⟨_, rfl, dX4_isEngine_0⟩ rfl ⟨v, rfl⟩ ?_
  refine f_ifnull (tgt := 16) X dX4_isEngine_1 (by decide) (fun c1 => ?_) (fun a1 c1 => ?_)
  · subst c1
    refine lv_iconst (v := 0) X.1 X.2.1 dX4_isEngine_16 (by decide) ?_
    exact f_zret X hr hlk Z (Nat.le_of_ble_eq_true rfl) (Nat.le_of_ble_eq_true rfl) dX4_isEngine_17 (by decide) ⟨rfl, by unfold bI; split <;> first | rfl | (exfalso; simp only [ne_eq, not_true_eq_false, false_and, reduceCtorEq, not_false_eq_true, true_and] at *; done) | (exfalso; simp only [ne_eq, not_true_eq_false, false_and, reduceCtorEq, not_false_eq_true, true_and] at *; (try simp only [Int32.lt_iff_toInt_lt, Int32.le_iff_toInt_le, ← Int32.toInt_inj, ne_eq, kc_0, kc_1, kc_6] at *; omega))⟩
  · subst c1
    obtain ⟨we, de, ro, bh, hc⟩ := hv _ rfl
    refine f_aload (v := .ref a1) X hl ⟨_, rfl, dX4_isEngine_4⟩ rfl ⟨(some a1), rfl⟩ ?_
    refine f_get (v := .int so) (k := 0) X Z i3 rfl (by decide) (by decide +kernel) dX4_isEngine_5 hc rfl ?_
    refine lv_iconst (v := 1) X.1 X.2.1 dX4_isEngine_8 (by decide) ?_
    refine lv_icmp_ne (tgt := 16) X.1 X.2.1 dX4_isEngine_9 (by decide) (fun c9 => ?_) (fun c9 => ?_)
    · refine lv_iconst (v := 0) X.1 X.2.1 dX4_isEngine_16 (by decide) ?_
      exact f_zret X hr hlk Z (Nat.le_of_ble_eq_true rfl) (Nat.le_of_ble_eq_true rfl) dX4_isEngine_17 (by decide) ⟨rfl, by unfold bI; split <;> first | rfl | (exfalso; simp only [ne_eq, not_true_eq_false, false_and, reduceCtorEq, not_false_eq_true, true_and] at *; done) | (exfalso; simp only [ne_eq, not_true_eq_false, false_and, reduceCtorEq, not_false_eq_true, true_and] at *; (try simp only [Int32.lt_iff_toInt_lt, Int32.le_iff_toInt_le, ← Int32.toInt_inj, ne_eq, kc_0, kc_1, kc_6] at *; omega))⟩
    · refine lv_iconst (v := 1) X.1 X.2.1 dX4_isEngine_12 (by decide) ?_
      refine lv_goto (tgt := 17) X.1 X.2.1 dX4_isEngine_13 (by decide) ?_
      exact f_zret X hr hlk Z (Nat.le_of_ble_eq_true rfl) (Nat.le_of_ble_eq_true rfl) dX4_isEngine_17 (by decide) ⟨rfl, by unfold bI; split <;> first | rfl | (exfalso; simp only [ne_eq, not_true_eq_false, false_and, reduceCtorEq, not_false_eq_true, true_and] at *; done) | (exfalso; simp only [ne_eq, not_true_eq_false, false_and, reduceCtorEq, not_false_eq_true, true_and] at *; (try simp only [Int32.lt_iff_toInt_lt, Int32.le_iff_toInt_le, ← Int32.toInt_inj, ne_eq, kc_0, kc_1, kc_6] at *; omega))⟩
end
section
/-! the mathematical state: crates, vehicles, tracks as lists; places 6 .. 17 are tracks of at most one vehicle -/
abbrev CR : Type := Option (Nat × (Nat → Int32))
abbrev VR : Type := Int32 × Int32 × Int32 × CR
abbrev LV : Type := List (Nat × VR)
def sumTo (a : Int32) (f : Nat → Int32) : Nat → Int32
  | 0 => a
  | n + 1 => sumTo a f n + f n
def ldOf (we : Int32) (cr : CR) : Int32 := match cr with
  | none => we
  | some (n, f) => sumTo we f n
def hd (L : LV) : Option Nat := L[0]?.map Prod.fst
def nx (L : LV) (i : Nat) : Option Nat := L[i + 1]?.map Prod.fst
/-- a forest of chains: every member is held with what is behind it, and stands at one place only -/
def Forest (P : Nat → VR → Option Nat → Prop) (T : Nat → LV) : Prop :=
  (∀ (t i a : Nat) (d : VR), (T t)[i]? = some (a, d) → P a d (nx (T t) i)) ∧
  ∀ (t i u j a : Nat) (d e : VR), (T t)[i]? = some (a, d) → (T u)[j]? = some (a, e) → t = u ∧ i = j
theorem Forest.keep {P P' : Nat → VR → Option Nat → Prop} {T : Nat → LV} (h : Forest P T) (hk : ∀ (t i a : Nat) (d : VR), (T t)[i]? = some (a, d) → P a d (nx (T t) i) → P' a d (nx (T t) i)) : Forest P' T :=
  ⟨fun t i a d q => hk t i a d q (h.1 t i a d q), h.2⟩
theorem Forest.push {P P' : Nat → VR → Option Nat → Prop} {T : Nat → LV} {t a : Nat} {d : VR} (h : Forest P T) (hn : ∀ (u i : Nat) (e : VR), (T u)[i]? ≠ some (a, e)) (ha : P' a d (hd (T t))) (hk : ∀ (b : Nat) (e : VR) (bh : Option Nat), b ≠ a → P b e bh → P' b e bh) : Forest P' (va_up T t ((a, d) :: T t)) := by
  have loc : ∀ (u i b : Nat) (e : VR), (va_up T t ((a, d) :: T t) u)[i]? = some (b, e) → (u = t ∧ i = 0 ∧ b = a ∧ e = d) ∨ (∃ j, (T u)[j]? = some (b, e) ∧ ((u = t ∧ i = j + 1) ∨ (u ≠ t ∧ i = j))) := by
    intro u i b e hq
    by_cases hu : u = t
    · subst hu
      simp only [va_up, if_pos] at hq
      cases i with
      | zero => simp at hq; exact Or.inl ⟨rfl, rfl, hq.1.symm, hq.2.symm⟩
      | succ i => simp at hq; exact Or.inr ⟨i, hq, Or.inl ⟨rfl, rfl⟩⟩
    · simp only [va_up, if_neg hu] at hq
      exact Or.inr ⟨i, hq, Or.inr ⟨hu, rfl⟩⟩
  refine ⟨fun u i b e hq => ?_, fun u i v j b e1 e2 h1 h2 => ?_⟩
  · rcases loc u i b e hq with ⟨rfl, rfl, rfl, rfl⟩ | ⟨j, hj, ⟨rfl, rfl⟩ | ⟨hu, rfl⟩⟩
    · have : nx (va_up T u ((b, e) :: T u) u) 0 = hd (T u) := by simp [nx, hd, va_up]
      rw [this]; exact ha
    · have : nx (va_up T u ((a, d) :: T u) u) (j + 1) = nx (T u) j := by simp [nx, va_up]
      rw [this]
      exact hk b e _ (fun z => hn u j e (z ▸ hj)) (h.1 u j b e hj)
    · have : nx (va_up T t ((a, d) :: T t) u) i = nx (T u) i := by simp [nx, va_up, hu]
      rw [this]
      exact hk b e _ (fun z => hn u i e (z ▸ hj)) (h.1 u i b e hj)
  · rcases loc u i b e1 h1 with ⟨rfl, rfl, rfl, rfl⟩ | ⟨p, hp, hp2⟩ <;> rcases loc v j b e2 h2 with ⟨rfl, rfl, hb, rfl⟩ | ⟨q, hq, hq2⟩
    · exact ⟨rfl, rfl⟩
    · exact absurd hq (hn _ _ _)
    · subst hb; exact absurd hp (hn _ _ _)
    · obtain ⟨e3, e4⟩ := h.2 u p v q b e1 e2 hp hq
      subst e3; subst e4
      rcases hp2 with ⟨a1, a2⟩ | ⟨a1, a2⟩ <;> rcases hq2 with ⟨b1, b2⟩ | ⟨b1, b2⟩
      · exact ⟨rfl, by omega⟩
      · exact absurd a1 b1
      · exact absurd b1 a1
      · exact ⟨rfl, by omega⟩
/-- a part of a list, at the end of it -/
theorem Forest.drop {P P' : Nat → VR → Option Nat → Prop} {T : Nat → LV} {t : Nat} (k : Nat) (h : Forest P T) (hk : ∀ (u i b : Nat) (e : VR), (T u)[i]? = some (b, e) → (u = t → k ≤ i) → P b e (nx (T u) i) → P' b e (nx (T u) i)) : Forest P' (va_up T t ((T t).drop k)) := by
  have loc : ∀ (u i b : Nat) (e : VR), (va_up T t ((T t).drop k) u)[i]? = some (b, e) → (u = t ∧ (T u)[k + i]? = some (b, e)) ∨ (u ≠ t ∧ (T u)[i]? = some (b, e)) := by
    intro u i b e hq
    by_cases hu : u = t
    · subst hu
      simp only [va_up, if_pos, List.getElem?_drop] at hq
      exact Or.inl ⟨rfl, hq⟩
    · simp only [va_up, if_neg hu] at hq
      exact Or.inr ⟨hu, hq⟩
  refine ⟨fun u i b e hq => ?_, fun u i v j b e1 e2 h1 h2 => ?_⟩
  · rcases loc u i b e hq with ⟨rfl, hz⟩ | ⟨hu, hz⟩
    · have : nx (va_up T u ((T u).drop k) u) i = nx (T u) (k + i) := by simp [nx, va_up, List.getElem?_drop, Nat.add_assoc]
      rw [this]
      exact hk u (k + i) b e hz (fun _ => by omega) (h.1 u _ b e hz)
    · have : nx (va_up T t ((T t).drop k) u) i = nx (T u) i := by simp [nx, va_up, hu]
      rw [this]
      exact hk u i b e hz (fun z => absurd z hu) (h.1 u _ b e hz)
  · rcases loc u i b e1 h1 with ⟨a1, a2⟩ | ⟨a1, a2⟩ <;> rcases loc v j b e2 h2 with ⟨b1, b2⟩ | ⟨b1, b2⟩
    · obtain ⟨c1, c2⟩ := h.2 _ _ _ _ _ _ _ a2 b2
      exact ⟨c1, by omega⟩
    · obtain ⟨c1, c2⟩ := h.2 _ _ _ _ _ _ _ a2 b2
      exact absurd (c1 ▸ a1) b1
    · obtain ⟨c1, c2⟩ := h.2 _ _ _ _ _ _ _ a2 b2
      exact absurd (c1.symm ▸ b1) a1
    · exact h.2 _ _ _ _ _ _ _ a2 b2
theorem Forest.put {P P' : Nat → VR → Option Nat → Prop} {T : Nat → LV} {t k a : Nat} {d d' : VR} (h : Forest P T) (ht : (T t)[k]? = some (a, d)) (ha : P' a d' (nx (T t) k)) (hk : ∀ (b : Nat) (e : VR) (bh : Option Nat), b ≠ a → P b e bh → P' b e bh) : Forest P' (va_up T t ((T t).set k (a, d'))) := by
  have hlt := (List.getElem?_eq_some_iff.mp ht).1
  have loc : ∀ (u i b : Nat) (e : VR), (va_up T t ((T t).set k (a, d')) u)[i]? = some (b, e) → (u = t ∧ i = k ∧ b = a ∧ e = d') ∨ (∃ e', (T u)[i]? = some (b, e') ∧ e = e' ∧ b ≠ a) := by
    intro u i b e hq
    by_cases hu : u = t
    · subst hu
      simp only [va_up, if_pos] at hq
      by_cases hi : i = k
      · subst hi
        rw [List.getElem?_set_self hlt] at hq
        simp at hq
        exact Or.inl ⟨rfl, rfl, hq.1.symm, hq.2.symm⟩
      · rw [List.getElem?_set_ne (Ne.symm hi)] at hq
        exact Or.inr ⟨e, hq, rfl, fun z => hi (h.2 _ _ _ _ _ _ _ (z ▸ hq) ht).2⟩
    · simp only [va_up, if_neg hu] at hq
      exact Or.inr ⟨e, hq, rfl, fun z => hu (h.2 _ _ _ _ _ _ _ (z ▸ hq) ht).1⟩
  have nxe : ∀ u i, nx (va_up T t ((T t).set k (a, d')) u) i = nx (T u) i := by
    intro u i
    by_cases hu : u = t
    · subst hu
      simp only [nx, va_up, if_pos]
      by_cases hi : i + 1 = k
      · subst hi
        rw [List.getElem?_set_self hlt, ht]; rfl
      · rw [List.getElem?_set_ne (Ne.symm hi)]
    · simp [nx, va_up, hu]
  refine ⟨fun u i b e hq => ?_, fun u i v j b e1 e2 h1 h2 => ?_⟩
  · rw [nxe]
    rcases loc u i b e hq with ⟨rfl, rfl, rfl, rfl⟩ | ⟨e', h1, rfl, h3⟩
    · exact ha
    · exact hk b _ _ h3 (h.1 _ _ _ _ h1)
  · rcases loc u i b e1 h1 with ⟨rfl, rfl, rfl, rfl⟩ | ⟨e', g1, -, g3⟩ <;> rcases loc v j b e2 h2 with ⟨rfl, rfl, hb, rfl⟩ | ⟨e'', q1, -, q3⟩
    · exact ⟨rfl, rfl⟩
    · exact absurd rfl q3
    · exact absurd hb g3
    · exact h.2 _ _ _ _ _ _ _ g1 q1
/-- the first k of t come ahead of all of u -/
theorem Forest.move {P P' : Nat → VR → Option Nat → Prop} {T : Nat → LV} {t u k a : Nat} {d : VR} (h : Forest P T) (htu : t ≠ u) (ht : (T t)[k]? = some (a, d)) (ha : P' a d (hd (T u))) (hk : ∀ (b : Nat) (e : VR) (bh : Option Nat), b ≠ a → P b e bh → P' b e bh) : Forest P' (va_up (va_up T t ((T t).drop (k + 1))) u ((T t).take (k + 1) ++ T u)) := by
  have hlt := (List.getElem?_eq_some_iff.mp ht).1
  have hlen : ((T t).take (k + 1)).length = k + 1 := by rw [List.length_take]; omega
  have at_u : va_up (va_up T t ((T t).drop (k + 1))) u ((T t).take (k + 1) ++ T u) u = (T t).take (k + 1) ++ T u := by simp [va_up]
  have at_t : va_up (va_up T t ((T t).drop (k + 1))) u ((T t).take (k + 1) ++ T u) t = (T t).drop (k + 1) := by simp [va_up, htu]
  have at_o : ∀ v, v ≠ t → v ≠ u → va_up (va_up T t ((T t).drop (k + 1))) u ((T t).take (k + 1) ++ T u) v = T v := by intro v h1 h2; simp [va_up, h1, h2]
  have gu : ∀ i, ((T t).take (k + 1) ++ T u)[i]? = if i < k + 1 then (T t)[i]? else (T u)[i - (k + 1)]? := by
    intro i
    by_cases hi : i < k + 1
    · rw [if_pos hi, List.getElem?_append_left (by omega), List.getElem?_take, if_pos hi]
    · rw [if_neg hi, List.getElem?_append_right (by omega), hlen]
  have loc : ∀ (v i b : Nat) (e : VR), (va_up (va_up T t ((T t).drop (k + 1))) u ((T t).take (k + 1) ++ T u) v)[i]? = some (b, e) → (v = u ∧ i < k + 1 ∧ (T t)[i]? = some (b, e)) ∨ (v = u ∧ k + 1 ≤ i ∧ (T u)[i - (k + 1)]? = some (b, e)) ∨ (v = t ∧ (T t)[k + 1 + i]? = some (b, e)) ∨ (v ≠ t ∧ v ≠ u ∧ (T v)[i]? = some (b, e)) := by
    intro v i b e hq
    by_cases h1 : v = u
    · subst h1
      rw [at_u, gu] at hq
      by_cases hi : i < k + 1
      · rw [if_pos hi] at hq; exact Or.inl ⟨rfl, hi, hq⟩
      · rw [if_neg hi] at hq; exact Or.inr (Or.inl ⟨rfl, by omega, hq⟩)
    · by_cases h2 : v = t
      · subst h2
        rw [at_t, List.getElem?_drop] at hq
        exact Or.inr (Or.inr (Or.inl ⟨rfl, hq⟩))
      · rw [at_o v h2 h1] at hq
        exact Or.inr (Or.inr (Or.inr ⟨h2, h1, hq⟩))
  refine ⟨fun v i b e hq => ?_, fun v i v' j b e1 e2 h1 h2 => ?_⟩
  · rcases loc v i b e hq with ⟨rfl, hi, hz⟩ | ⟨rfl, hi, hz⟩ | ⟨rfl, hz⟩ | ⟨g1, g2, hz⟩
    · simp only [nx]
      rw [at_u, gu]
      by_cases hik : i = k
      · subst hik
        rw [hz] at ht
        cases ht
        rw [if_neg (by omega), Nat.sub_self]
        exact ha
      · rw [if_pos (by omega)]
        exact hk b e _ (fun z => hik (h.2 _ _ _ _ _ _ _ (z ▸ hz) ht).2) (h.1 _ _ _ _ hz)
    · simp only [nx]
      rw [at_u, gu, if_neg (by omega), show i + 1 - (k + 1) = i - (k + 1) + 1 by omega]
      exact hk b e _ (fun z => htu (h.2 _ _ _ _ _ _ _ (z ▸ hz) ht).1.symm) (h.1 _ _ _ _ hz)
    · simp only [nx]
      rw [at_t, List.getElem?_drop, show k + 1 + (i + 1) = k + 1 + i + 1 by omega]
      exact hk b e _ (fun z => by have := (h.2 _ _ _ _ _ _ _ (z ▸ hz) ht).2; omega) (h.1 _ _ _ _ hz)
    · simp only [nx]
      rw [at_o v g1 g2]
      exact hk b e _ (fun z => g1 (h.2 _ _ _ _ _ _ _ (z ▸ hz) ht).1) (h.1 _ _ _ _ hz)
  · rcases loc v i b e1 h1 with ⟨a0, a1, a2⟩ | ⟨a0, a1, a2⟩ | ⟨a0, a2⟩ | ⟨a0, a1, a2⟩ <;> rcases loc v' j b e2 h2 with ⟨b0, b1, b2⟩ | ⟨b0, b1, b2⟩ | ⟨b0, b2⟩ | ⟨b0, b1, b2⟩ <;> obtain ⟨c1, c2⟩ := h.2 _ _ _ _ _ _ _ a2 b2 <;> first | exact ⟨by omega, by omega⟩ | (exfalso; omega)
/-- all of u come behind all of t -/
theorem Forest.append {P P' : Nat → VR → Option Nat → Prop} {T : Nat → LV} {t u k a : Nat} {d : VR} (h : Forest P T) (htu : t ≠ u) (hl : (T t).length = k + 1) (ht : (T t)[k]? = some (a, d)) (ha : P' a d (hd (T u))) (hk : ∀ (b : Nat) (e : VR) (bh : Option Nat), b ≠ a → P b e bh → P' b e bh) : Forest P' (va_up (va_up T t (T t ++ T u)) u []) := by
  have at_u : va_up (va_up T t (T t ++ T u)) u [] u = [] := by simp [va_up]
  have at_t : va_up (va_up T t (T t ++ T u)) u [] t = T t ++ T u := by simp [va_up, htu]
  have at_o : ∀ v, v ≠ t → v ≠ u → va_up (va_up T t (T t ++ T u)) u [] v = T v := by intro v h1 h2; simp [va_up, h1, h2]
  have gu : ∀ i, (T t ++ T u)[i]? = if i < k + 1 then (T t)[i]? else (T u)[i - (k + 1)]? := by
    intro i
    by_cases hi : i < k + 1
    · rw [if_pos hi, List.getElem?_append_left (by omega)]
    · rw [if_neg hi, List.getElem?_append_right (by omega), hl]
  have loc : ∀ (v i b : Nat) (e : VR), (va_up (va_up T t (T t ++ T u)) u [] v)[i]? = some (b, e) → (v = t ∧ i < k + 1 ∧ (T t)[i]? = some (b, e)) ∨ (v = t ∧ k + 1 ≤ i ∧ (T u)[i - (k + 1)]? = some (b, e)) ∨ (v ≠ t ∧ v ≠ u ∧ (T v)[i]? = some (b, e)) := by
    intro v i b e hq
    by_cases h1 : v = u
    · subst h1
      rw [at_u] at hq
      simp at hq
    · by_cases h2 : v = t
      · subst h2
        rw [at_t, gu] at hq
        by_cases hi : i < k + 1
        · rw [if_pos hi] at hq; exact Or.inl ⟨rfl, hi, hq⟩
        · rw [if_neg hi] at hq; exact Or.inr (Or.inl ⟨rfl, by omega, hq⟩)
      · rw [at_o v h2 h1] at hq
        exact Or.inr (Or.inr ⟨h2, h1, hq⟩)
  refine ⟨fun v i b e hq => ?_, fun v i v' j b e1 e2 h1 h2 => ?_⟩
  · rcases loc v i b e hq with ⟨rfl, hi, hz⟩ | ⟨rfl, hi, hz⟩ | ⟨g1, g2, hz⟩
    · simp only [nx]
      rw [at_t, gu]
      by_cases hik : i = k
      · subst hik
        rw [hz] at ht
        cases ht
        rw [if_neg (by omega), Nat.sub_self]
        exact ha
      · rw [if_pos (by omega)]
        exact hk b e _ (fun z => hik (h.2 _ _ _ _ _ _ _ (z ▸ hz) ht).2) (h.1 _ _ _ _ hz)
    · simp only [nx]
      rw [at_t, gu, if_neg (by omega), show i + 1 - (k + 1) = i - (k + 1) + 1 by omega]
      exact hk b e _ (fun z => htu (h.2 _ _ _ _ _ _ _ (z ▸ hz) ht).1.symm) (h.1 _ _ _ _ hz)
    · simp only [nx]
      rw [at_o v g1 g2]
      exact hk b e _ (fun z => g1 (h.2 _ _ _ _ _ _ _ (z ▸ hz) ht).1) (h.1 _ _ _ _ hz)
  · rcases loc v i b e1 h1 with ⟨a0, a1, a2⟩ | ⟨a0, a1, a2⟩ | ⟨a0, a1, a2⟩ <;> rcases loc v' j b e2 h2 with ⟨b0, b1, b2⟩ | ⟨b0, b1, b2⟩ | ⟨b0, b1, b2⟩ <;> obtain ⟨c1, c2⟩ := h.2 _ _ _ _ _ _ _ a2 b2 <;> first | exact ⟨by omega, by omega⟩ | (exfalso; omega)
/-- some lists are emptied -/
theorem Forest.clear {P P' : Nat → VR → Option Nat → Prop} {T T' : Nat → LV} (h : Forest P T) (hT : ∀ t, T' t = T t ∨ T' t = []) (hk : ∀ (t i a : Nat) (d : VR), (T' t)[i]? = some (a, d) → P a d (nx (T' t) i) → P' a d (nx (T' t) i)) : Forest P' T' := by
  have loc : ∀ (u i b : Nat) (e : VR), (T' u)[i]? = some (b, e) → T' u = T u := by
    intro u i b e hq
    rcases hT u with z | z
    · exact z
    · rw [z] at hq; simp at hq
  refine ⟨fun u i b e hq => hk u i b e hq ?_, fun u i v j b e1 e2 h1 h2 => ?_⟩
  · have := loc u i b e hq
    rw [this] at hq ⊢
    exact h.1 u i b e hq
  · rw [loc u i b e1 h1] at h1
    rw [loc v j b e2 h2] at h2
    exact h.2 _ _ _ _ _ _ _ h1 h2
end
section
theorem lV_un {ls : Array Slot} {nL : Nat} {vs : List (Option Value)} (i : Nat) (h : lV ls nL vs) : lV ls nL (vs.set i none) := by
  obtain ⟨h1, h2, h3, h4, h5⟩ := h
  have key : ∀ (j : Nat) (v : Value), (vs.set i none)[j]? = some (some v) → vs[j]? = some (some v) := by
    intro j v hj
    by_cases hji : j = i
    · subst hji
      by_cases hl : j < vs.length
      · rw [List.getElem?_set_self hl] at hj; cases hj
      · rw [List.getElem?_eq_none (by simp; omega)] at hj; cases hj
    · rwa [List.getElem?_set_ne (Ne.symm hji)] at hj
  exact ⟨h1, h2, fun j v hj => h3 j v (key j v hj), by simp [h4], fun j v hj => h5 j v (key j v hj)⟩
def rowAt (G : gT) (w : wT) (ro : Option Nat) (cr : CR) : Prop := match cr with
  | none => ro = none
  | some (n, f) => n ≤ 12 ∧ ∃ r, ro = some r ∧ w r = some (aI G n f)
def vehAt (G : gT) (w : wT) (a : Nat) (d : VR) (bh : Option Nat) : Prop := ∃ ro, w a = some (cVeh d.1 d.2.1 d.2.2.1 ro bh) ∧ rowAt G w ro d.2.2.2
def trk (G : gT) (w : wT) (tr : Nat) (L : LV) : Prop := w tr = some (cTrk (hd L) (nI L.length)) ∧ L.length ≤ 512 ∧ ∀ (i a : Nat) (d : VR), L[i]? = some (a, d) → vehAt G w a d (nx L i)
def vix (L : LV) (k : Int32) : Option (Nat × VR) := if k.toInt < 0 then none else L[k.toNatClampNeg]?
theorem rowAt_none {G : gT} {w : wT} {cr : CR} (h : rowAt G w none cr) : cr = none := by
  cases cr with
  | none => rfl
  | some q => obtain ⟨n, f⟩ := q; obtain ⟨-, r, h1, -⟩ := h; cases h1
theorem rowAt_some {G : gT} {w : wT} {r : Nat} {cr : CR} (h : rowAt G w (some r) cr) : ∃ n f, cr = some (n, f) ∧ n ≤ 12 ∧ w r = some (aI G n f) := by
  cases cr with
  | none => cases h
  | some q => obtain ⟨n, f⟩ := q; obtain ⟨h0, r', h1, h2⟩ := h; cases h1; exact ⟨n, f, rfl, h0, h2⟩
set_option maxHeartbeats 4000000 in
set_option maxRecDepth 100000 in
theorem c_X3_init (l : Launch) (G : gT) (w : wT) (v : Nat) (so we : Int32) (h1 : w v = some (cVeh 0 0 0 none none)) : Met l yX3_init wsX3_init ({ frames := 1, cells := 0, slots := 0, locals := 16 }) (va_Pc [.ref v, .int so, .int we] (wG G w)) (Qv G (fun w' => w' = va_up w v (some (cVeh so we 0 none none)))) 0 0 (fr G) := by
  refine f_met (cc := cX3_init) (maxL := 3) (ret := none) (by decide) rfl rfl (Nat.le_of_ble_eq_true rfl) ?_
  intro p e s m below meth cd X hr hlk hnm Z ls hl
  have X : CallFix p m cd cX3_init 3 s [.ref v, .int so, .int we].toArray wsX3_init RX3 := X
  have hl : lV ls _ [some (.ref v), some (.int so), some (.int we)] := hl
  have i3 : ∀ w ∈ wsX30, w ∈ wsX3_init := by decide +kernel
  refine f_aload (v := .ref v) X hl ⟨_, rfl, dX3_init_0⟩ rfl ⟨(some v), rfl⟩ ?_
  refine W.objInit X.1 X.2.1 X.2.2.2.1 (X.2.2.2.2 (.methodLink RX3 1 objectInit) (by decide +kernel)) (X.2.2.2.2 (.instanceMethod objectInit) (by decide +kernel)) (X.2.2.2.2 (.code objectInit ⟨#[0xb1]⟩ 1 none) (by decide +kernel)) rfl (by rw [X.2.2.1]; exact hl.1) rfl dX3_init_1 (Nat.le_of_ble_eq_true rfl) (Nat.le_of_ble_eq_true rfl) ?_
  refine W.eq (g2 := F0 m 4 ls []) rfl ?_
  refine f_aload (v := .ref v) X hl ⟨_, rfl, dX3_init_4⟩ rfl ⟨(some v), rfl⟩ ?_
  refine f_iload X hl ⟨_, rfl, dX3_init_5⟩ rfl ?_
  refine f_putF (v := .int so) (ty0 := tyX3) (k := 0) X Z i3 tyX3_ok nmX3 rfl (by decide) (by decide +kernel) rfl hnm rfl dX3_init_6 h1 rfl rfl (Nat.le_of_ble_eq_true rfl) (fun H locs w1 e2 Z => ?_)
  have e2 : w1 = va_up w v (some (cVeh so 0 0 none none)) := e2
  have k3 : w1 v = some (cVeh so 0 0 none none) := by rw [e2]; exact up_eq
  refine f_aload (v := .ref v) X hl ⟨_, rfl, dX3_init_9⟩ rfl ⟨(some v), rfl⟩ ?_
  refine f_iload X hl ⟨_, rfl, dX3_init_10⟩ rfl ?_
  refine f_putF (v := .int we) (ty0 := tyX3) (k := 1) X Z i3 tyX3_ok nmX3 rfl (by decide) (by decide +kernel) rfl hnm rfl dX3_init_11 k3 rfl rfl (Nat.le_of_ble_eq_true rfl) (fun H locs w4 e5 Z => ?_)
  have e5 : w4 = va_up w1 v (some (cVeh so we 0 none none)) := e5
  have k6 : w4 v = some (cVeh so we 0 none none) := by rw [e5]; exact up_eq
  exact f_vret X hr hlk Z (Nat.le_of_ble_eq_true rfl) (Nat.le_of_ble_eq_true rfl) dX3_init_14 (by rw [e5, e2]; exact va_uu)
set_option maxHeartbeats 4000000 in
set_option maxRecDepth 100000 in
theorem c_X3_fullWeight (l : Launch) (G : gT) (w : wT) (v : Nat) (d : VR) (bh : Option Nat) (hv : vehAt G w v d bh) : Met l yX3_fullWeight wsX3_fullWeight ({ frames := 0, cells := 0, slots := 0, locals := 0 }) (va_Pc [.ref v] (wG G w)) (Qi G (fun r w' => w' = w ∧ r = ldOf d.2.1 d.2.2.2)) 0 0 (fr G) := by
  refine f_met (cc := cX3_fullWeight) (maxL := 6) (ret := (some .int)) (by decide) rfl rfl (Nat.le_of_ble_eq_true rfl) ?_
  intro p e s m below meth cd X hr hlk hnm Z ls hl
  have X : CallFix p m cd cX3_fullWeight 6 s [.ref v].toArray wsX3_fullWeight RX3 := X
  have hl : lV ls _ [some (.ref v), none, none, none, none, none] := hl
  have i3 : ∀ w ∈ wsX30, w ∈ wsX3_fullWeight := by decide +kernel
  obtain ⟨ro, h1, h2⟩ := hv
  refine f_aload (v := .ref v) X hl ⟨_, rfl, dX3_fullWeight_0⟩ rfl ⟨(some v), rfl⟩ ?_
  refine f_get (v := .int d.2.1) (k := 1) X Z i3 rfl (by decide) (by decide +kernel) dX3_fullWeight_1 h1 rfl ?_
  refine f_istore X hl ⟨_, rfl, dX3_fullWeight_4⟩ (by decide) (fun ls hl => ?_)
  have hl : lV ls _ [some (.ref v), some (.int d.2.1), none, none, none, none] := hl
  refine f_aload (v := .ref v) X hl ⟨_, rfl, dX3_fullWeight_5⟩ rfl ⟨(some v), rfl⟩ ?_
  refine f_get (v := va_rf ro) (k := 3) X Z i3 rfl (by decide) (by decide +kernel) dX3_fullWeight_6 h1 rfl ?_
  refine f_ifnull (tgt := 46) X dX3_fullWeight_9 (by decide) (fun c9 => ?_) (fun a9 c9 => ?_)
  · subst c9
    have h3 := rowAt_none h2
    refine f_iload X hl ⟨_, rfl, dX3_fullWeight_46⟩ rfl ?_
    exact f_iret X hr hlk Z (Nat.le_of_ble_eq_true rfl) (Nat.le_of_ble_eq_true rfl) dX3_fullWeight_47 ⟨rfl, by rw [h3]; rfl⟩
  · subst c9
    obtain ⟨n, f, h3, h4, h5⟩ := rowAt_some h2
    refine f_aload (v := .ref v) X hl ⟨_, rfl, dX3_fullWeight_12⟩ rfl ⟨(some v), rfl⟩ ?_
    refine f_get (v := .ref a9) (k := 3) X Z i3 rfl (by decide) (by decide +kernel) dX3_fullWeight_13 h1 rfl ?_
    refine f_astore X hl ⟨_, rfl, dX3_fullWeight_16⟩ (by decide) ⟨(some a9), rfl⟩ (fun ls hl => ?_)
    have hl : lV ls _ [some (.ref v), some (.int d.2.1), some (.ref a9), none, none, none] := hl
    refine f_aload (v := .ref a9) X hl ⟨_, rfl, dX3_fullWeight_17⟩ rfl ⟨(some a9), rfl⟩ ?_
    refine f_alenI X Z dX3_fullWeight_18 h5 ?_
    refine f_istore X hl ⟨_, rfl, dX3_fullWeight_19⟩ (by decide) (fun ls hl => ?_)
    have hl : lV ls _ [some (.ref v), some (.int d.2.1), some (.ref a9), some (.int (nI n)), none, none] := hl
    refine lv_iconst (v := 0) X.1 X.2.1 dX3_fullWeight_20 (by decide) ?_
    refine f_istore2 X hl dX3_fullWeight_21 (by decide) (fun ls hl => ?_)
    have hl : lV ls _ [some (.ref v), some (.int d.2.1), some (.ref a9), some (.int (nI n)), some (.int 0), none] := hl
    have hloop : ∀ (fu : Nat) (i : Nat) (x1 x4 : Int32), x4 = nI i → x1 = sumTo d.2.1 f i → i ≤ n → n < i + fu → ∀ (H : Heap) (locs : List Loc) (ls : Array Slot), wZ G w s H locs → lV ls 6 [some (.ref v), some (.int x1), some (.ref a9), some (.int (nI n)), some (.int x4), none] → W p l e ({ frames := 0, cells := 0, slots := 0, locals := 0 }) s m [.ref v].toArray below meth cd H locs 0 0 (MQ below (Qi G (fun r w' => w' = w ∧ r = ldOf d.2.1 d.2.2.2)) [.ref v].toArray s 0 0 (fr G)) (F0 m 23 ls []) := by
      clear hl Z
      intro fu
      induction fu with
      | zero => intro i x1 x4 hi hx hle hfu H locs ls Z hl; exact absurd hfu (by omega)
      | succ fu ih =>
        intro i x1 x4 hi hx hle hfu H locs ls Z hl
        refine f_iload2 X hl dX3_fullWeight_23 rfl ?_
        refine f_iload X hl ⟨_, rfl, dX3_fullWeight_25⟩ rfl ?_
        refine lv_icmp_ge (tgt := 46) X.1 X.2.1 dX3_fullWeight_26 (by decide) (fun c26 => ?_) (fun c26 => ?_)
        · refine f_iload X hl ⟨_, rfl, dX3_fullWeight_46⟩ rfl ?_
          exact f_iret X hr hlk Z (Nat.le_of_ble_eq_true rfl) (Nat.le_of_ble_eq_true rfl) dX3_fullWeight_47 ⟨rfl, by rw [h3, hx, show i = n from by have := (nI_leI (by omega) (by omega)).mp (hi ▸ c26); omega]; rfl⟩
        · have hlt : i < n := by
            rcases Nat.lt_or_ge i n with q | q
            · exact q
            · exact absurd (by rw [hi]; exact nI_le q (by omega)) c26
          refine f_aload (v := .ref a9) X hl ⟨_, rfl, dX3_fullWeight_29⟩ rfl ⟨(some a9), rfl⟩ ?_
          refine f_iload2 X hl dX3_fullWeight_30 rfl ?_
          refine f_iald X Z dX3_fullWeight_32 h5 (by rw [hi]; exact vp_in_nI hlt (by omega)) ?_
          refine f_istore2 X hl dX3_fullWeight_33 (by decide) (fun ls hl => ?_)
          have hl : lV ls _ [some (.ref v), some (.int x1), some (.ref a9), some (.int (nI n)), some (.int x4), some (.int (f x4.toNatClampNeg))] := hl
          refine f_iload X hl ⟨_, rfl, dX3_fullWeight_35⟩ rfl ?_
          refine f_iload2 X hl dX3_fullWeight_36 rfl ?_
          refine lv_iadd X.1 X.2.1 dX3_fullWeight_38 ?_
          refine f_istore X hl ⟨_, rfl, dX3_fullWeight_39⟩ (by decide) (fun ls hl => ?_)
          have hl : lV ls _ [some (.ref v), some (.int (x1 + (f x4.toNatClampNeg))), some (.ref a9), some (.int (nI n)), some (.int x4), some (.int (f x4.toNatClampNeg))] := hl
          refine f_iinc (v := 1) X hl dX3_fullWeight_40 (by decide) rfl (by decide) (fun ls hl => ?_)
          have hl : lV ls _ [some (.ref v), some (.int (x1 + (f x4.toNatClampNeg))), some (.ref a9), some (.int (nI n)), some (.int (x4 + 1)), some (.int (f x4.toNatClampNeg))] := hl
          refine lv_goto (tgt := 23) X.1 X.2.1 dX3_fullWeight_43 (by decide) ?_
          have hl := lV_un 5 hl
          exact ih (i + 1) _ _ (by rw [hi]; exact nI_1 i) (by rw [hx, hi, nI_clamp (by omega)]; rfl) (by omega) (by omega) _ _ _ Z hl
    exact hloop (n + 1) 0 _ _ nI_0.symm rfl (Nat.zero_le _) (by omega) _ _ _ Z hl
set_option maxHeartbeats 4000000 in
set_option maxRecDepth 100000 in
theorem c_X2_init (l : Launch) (G : gT) (w : wT) (v : Nat) : Met l yX2_init wsX2_init ({ frames := 1, cells := 0, slots := 0, locals := 16 }) (va_Pc [.ref v] (wG G w)) (Qv G (fun w' => w' = w)) 0 0 (fr G) := by
  refine f_met (cc := cX2_init) (maxL := 1) (ret := none) (by decide) rfl rfl (Nat.le_of_ble_eq_true rfl) ?_
  intro p e s m below meth cd X hr hlk hnm Z ls hl
  have X : CallFix p m cd cX2_init 1 s [.ref v].toArray wsX2_init RX2 := X
  have hl : lV ls _ [some (.ref v)] := hl
  refine f_aload (v := .ref v) X hl ⟨_, rfl, dX2_init_0⟩ rfl ⟨(some v), rfl⟩ ?_
  refine W.objInit X.1 X.2.1 X.2.2.2.1 (X.2.2.2.2 (.methodLink RX2 3 objectInit) (by decide +kernel)) (X.2.2.2.2 (.instanceMethod objectInit) (by decide +kernel)) (X.2.2.2.2 (.code objectInit ⟨#[0xb1]⟩ 1 none) (by decide +kernel)) rfl (by rw [X.2.2.1]; exact hl.1) rfl dX2_init_1 (Nat.le_of_ble_eq_true rfl) (Nat.le_of_ble_eq_true rfl) ?_
  refine W.eq (g2 := F0 m 4 ls []) rfl ?_
  exact f_vret X hr hlk Z (Nat.le_of_ble_eq_true rfl) (Nat.le_of_ble_eq_true rfl) dX2_init_4 rfl
end
section
theorem mf {L : LV} {i a : Nat} (h : some a = L[i]?.map Prod.fst) : ∃ d, L[i]? = some (a, d) := by
  cases hq : L[i]? with
  | none => rw [hq] at h; cases h
  | some q => rw [hq] at h; obtain ⟨b, d⟩ := q; cases h; exact ⟨d, rfl⟩
theorem mfn {L : LV} {i : Nat} (h : none = L[i]?.map Prod.fst) : L.length ≤ i := by
  cases hq : L[i]? with
  | none => simpa using hq
  | some q => rw [hq] at h; cases h
theorem vix_n {L : LV} {kn : Nat} (h : kn < 2 ^ 31) : vix L (nI kn) = L[kn]? := by
  have : ¬ ((kn : Int) < 0) := by omega
  simp [vix, nI_toInt h, nI_clamp h, this]
theorem vix_neg {L : LV} {k : Int32} (h : k < 0) : vix L k = none := by
  have : k.toInt < 0 := by simpa [Int32.lt_iff_toInt_lt] using h
  simp [vix, this]
def sLd (a : Int32) : List VR → Int32
  | [] => a
  | v :: l => sLd (a + ldOf v.2.1 v.2.2.2) l
def gP (q : Nat × VR) : Bool := decide (50 ≤ q.2.2.2.1.toInt)
theorem drop_at {α : Type} {l : List α} {i : Nat} {x : α} (h : l[i]? = some x) : l.drop i = x :: l.drop (i + 1) := by
  obtain ⟨h1, h2⟩ := List.getElem?_eq_some_iff.mp h
  rw [List.drop_eq_getElem_cons h1, h2]
theorem drop_off {α : Type} {l : List α} {i : Nat} (h : l.length ≤ i) : l.drop i = [] := List.drop_eq_nil_of_le h
set_option maxHeartbeats 4000000 in
set_option maxRecDepth 100000 in
theorem c_X2_vehicleAt (l : Launch) (G : gT) (w : wT) (tr : Nat) (L : LV) (k : Int32) (ht : trk G w tr L) : Met l yX2_vehicleAt wsX2_vehicleAt ({ frames := 0, cells := 0, slots := 0, locals := 0 }) (va_Pc [.ref tr, .int k] (wG G w)) (Qq G (fun r w' => w' = w ∧ r = (vix L k).map Prod.fst)) 0 0 (fr G) := by
  refine f_met (cc := cX2_vehicleAt) (maxL := 4) (ret := (some (.object "TankSidings$Vehicle"))) (by decide) rfl rfl (Nat.le_of_ble_eq_true rfl) ?_
  intro p e s m below meth cd X hr hlk hnm Z ls hl
  have X : CallFix p m cd cX2_vehicleAt 4 s [.ref tr, .int k].toArray wsX2_vehicleAt RX2 := X
  have hl : lV ls _ [some (.ref tr), some (.int k), none, none] := hl
  have i2 : ∀ w ∈ wsX20, w ∈ wsX2_vehicleAt := by decide +kernel
  have i3 : ∀ w ∈ wsX30, w ∈ wsX2_vehicleAt := by decide +kernel
  obtain ⟨h1, hL, hn⟩ := ht
  refine f_iload X hl ⟨_, rfl, dX2_vehicleAt_0⟩ rfl ?_
  refine lv_if_lt (tgt := 12) X.1 X.2.1 dX2_vehicleAt_1 (by decide) (fun c1 => ?_) (fun c1 => ?_)
  · refine lv_null X.1 X.2.1 dX2_vehicleAt_12 ?_
    exact f_aret (v := .null) (r := none) X hr hlk Z (Nat.le_of_ble_eq_true rfl) (Nat.le_of_ble_eq_true rfl) dX2_vehicleAt_13 rfl ⟨rfl, by rw [vix_neg c1]; rfl⟩
  · refine f_iload X hl ⟨_, rfl, dX2_vehicleAt_4⟩ rfl ?_
    refine f_aload (v := .ref tr) X hl ⟨_, rfl, dX2_vehicleAt_5⟩ rfl ⟨(some tr), rfl⟩ ?_
    refine f_get (v := .int (nI L.length)) (k := 1) X Z i2 rfl (by decide) (by decide +kernel) dX2_vehicleAt_6 h1 rfl ?_
    refine lv_icmp_lt (tgt := 14) X.1 X.2.1 dX2_vehicleAt_9 (by decide) (fun c9 => ?_) (fun c9 => ?_)
    · obtain ⟨kn, hkn, hk⟩ := nI_of c1
      refine f_aload (v := .ref tr) X hl ⟨_, rfl, dX2_vehicleAt_14⟩ rfl ⟨(some tr), rfl⟩ ?_
      refine f_get (v := va_rf (hd L)) (k := 0) X Z i2 rfl (by decide) (by decide +kernel) dX2_vehicleAt_15 h1 rfl ?_
      refine f_astore X hl ⟨_, rfl, dX2_vehicleAt_18⟩ (by decide) ⟨(hd L), rfl⟩ (fun ls hl => ?_)
      have hl : lV ls _ [some (.ref tr), some (.int k), some (va_rf (hd L)), none] := hl
      refine lv_iconst (v := 0) X.1 X.2.1 dX2_vehicleAt_19 (by decide) ?_
      refine f_istore X hl ⟨_, rfl, dX2_vehicleAt_20⟩ (by decide) (fun ls hl => ?_)
      have hl : lV ls _ [some (.ref tr), some (.int k), some (va_rf (hd L)), some (.int 0)] := hl
      have hloop : ∀ (fu : Nat) (i : Nat) (x3 : Int32) (fo : Option Nat), x3 = nI i → fo = L[i]?.map Prod.fst → i ≤ kn → kn < i + fu → ∀ (H : Heap) (locs : List Loc) (ls : Array Slot), wZ G w s H locs → lV ls 4 [some (.ref tr), some (.int k), some (va_rf fo), some (.int x3)] → W p l e ({ frames := 0, cells := 0, slots := 0, locals := 0 }) s m [.ref tr, .int k].toArray below meth cd H locs 0 0 (MQ below (Qq G (fun r w' => w' = w ∧ r = (vix L k).map Prod.fst)) [.ref tr, .int k].toArray s 0 0 (fr G)) (F0 m 21 ls []) := by
        clear hl Z
        intro fu
        induction fu with
        | zero => intro i x3 fo hi hfo hle hfu H locs ls Z hl; exact absurd hfu (by omega)
        | succ fu ih =>
          intro i x3 fo hi hfo hle hfu H locs ls Z hl
          refine f_iload X hl ⟨_, rfl, dX2_vehicleAt_21⟩ rfl ?_
          refine f_iload X hl ⟨_, rfl, dX2_vehicleAt_22⟩ rfl ?_
          refine lv_icmp_ge (tgt := 41) X.1 X.2.1 dX2_vehicleAt_23 (by decide) (fun c23 => ?_) (fun c23 => ?_)
          · refine f_aload (v := va_rf fo) X hl ⟨_, rfl, dX2_vehicleAt_41⟩ rfl ⟨fo, rfl⟩ ?_
            exact f_aret (v := va_rf fo) (r := fo) X hr hlk Z (Nat.le_of_ble_eq_true rfl) (Nat.le_of_ble_eq_true rfl) dX2_vehicleAt_42 rfl ⟨rfl, by rw [hfo, hk, vix_n hkn, show i = kn from by have := (nI_leI (by omega) (by omega)).mp (hk ▸ hi ▸ c23); omega]⟩
          · refine f_aload (v := va_rf fo) X hl ⟨_, rfl, dX2_vehicleAt_26⟩ rfl ⟨fo, rfl⟩ ?_
            refine f_ifnull (tgt := 41) X dX2_vehicleAt_27 (by decide) (fun c27 => ?_) (fun a27 c27 => ?_)
            · subst c27
              refine f_aload (v := .null) X hl ⟨_, rfl, dX2_vehicleAt_41⟩ rfl ⟨none, rfl⟩ ?_
              exact f_aret (v := .null) (r := none) X hr hlk Z (Nat.le_of_ble_eq_true rfl) (Nat.le_of_ble_eq_true rfl) dX2_vehicleAt_42 rfl ⟨rfl, by rw [hk, vix_n hkn, List.getElem?_eq_none (Nat.le_trans (mfn hfo) hle)]; rfl⟩
            · subst c27
              obtain ⟨d, hd1⟩ := mf hfo
              obtain ⟨ro, hc, hro⟩ := hn i a27 d hd1
              refine f_aload (v := .ref a27) X hl ⟨_, rfl, dX2_vehicleAt_30⟩ rfl ⟨(some a27), rfl⟩ ?_
              refine f_get (v := va_rf (nx L i)) (k := 4) X Z i3 rfl (by decide) (by decide +kernel) dX2_vehicleAt_31 hc rfl ?_
              refine f_astore X hl ⟨_, rfl, dX2_vehicleAt_34⟩ (by decide) ⟨(nx L i), rfl⟩ (fun ls hl => ?_)
              have hl : lV ls _ [some (.ref tr), some (.int k), some (va_rf (nx L i)), some (.int x3)] := hl
              refine f_iinc (v := 1) X hl dX2_vehicleAt_35 (by decide) rfl (by decide) (fun ls hl => ?_)
              have hl : lV ls _ [some (.ref tr), some (.int k), some (va_rf (nx L i)), some (.int (x3 + 1))] := hl
              refine lv_goto (tgt := 21) X.1 X.2.1 dX2_vehicleAt_38 (by decide) ?_
              exact ih (i + 1) _ _ (by rw [hi]; exact nI_1 i) rfl (by have : i < kn := Nat.lt_of_not_le (fun q => c23 (by rw [hk, hi]; exact nI_le q (by omega))); omega) (by omega) _ _ _ Z hl
      exact hloop (kn + 1) 0 _ _ nI_0.symm rfl (Nat.zero_le _) (by omega) _ _ _ Z hl
    · obtain ⟨kn, hkn, hk⟩ := nI_of c1
      refine lv_null X.1 X.2.1 dX2_vehicleAt_12 ?_
      exact f_aret (v := .null) (r := none) X hr hlk Z (Nat.le_of_ble_eq_true rfl) (Nat.le_of_ble_eq_true rfl) dX2_vehicleAt_13 rfl ⟨rfl, by rw [hk, vix_n hkn, List.getElem?_eq_none (Nat.le_of_not_lt (fun q => c9 (by rw [hk]; exact nI_lt q (by omega))))]; rfl⟩
set_option maxHeartbeats 4000000 in
set_option maxRecDepth 100000 in
theorem c_X2_firstGraveBehindFront (l : Launch) (G : gT) (w : wT) (tr : Nat) (L : LV) (ht : trk G w tr L) : Met l yX2_firstGraveBehindFront wsX2_firstGraveBehindFront ({ frames := 1, cells := 0, slots := 0, locals := 23 }) (va_Pc [.ref tr] (wG G w)) (Qq G (fun r w' => w' = w ∧ r = ((L.drop 1).find? gP).map Prod.fst)) 0 0 (fr G) := by
  refine f_met (cc := cX2_firstGraveBehindFront) (maxL := 3) (ret := (some (.object "TankSidings$Vehicle"))) (by decide) rfl rfl (Nat.le_of_ble_eq_true rfl) ?_
  intro p e s m below meth cd X hr hlk hnm Z ls hl
  have X : CallFix p m cd cX2_firstGraveBehindFront 3 s [.ref tr].toArray wsX2_firstGraveBehindFront RX2 := X
  have hl : lV ls _ [some (.ref tr), none, none] := hl
  have i2 : ∀ w ∈ wsX20, w ∈ wsX2_firstGraveBehindFront := by decide +kernel
  have i3 : ∀ w ∈ wsX30, w ∈ wsX2_firstGraveBehindFront := by decide +kernel
  obtain ⟨h1, hL, hn⟩ := id ht
  refine f_aload (v := .ref tr) X hl ⟨_, rfl, dX2_firstGraveBehindFront_0⟩ rfl ⟨(some tr), rfl⟩ ?_
  refine lv_iconst (v := 1) X.1 X.2.1 dX2_firstGraveBehindFront_1 (by decide) ?_
  refine f_callVq (rest := []) X Z hl.1 (c_X2_vehicleAt l G w tr L _ ht) (cwV 1 X.2.2.2.2 gX2_firstGraveBehindFront_X2_vehicleAt rfl rfl rfl (by decide +kernel) ⟨(Nat.le_of_ble_eq_true rfl), (Nat.le_of_ble_eq_true rfl)⟩) rfl rfl dX2_firstGraveBehindFront_2 ⟨(Nat.le_of_ble_eq_true rfl), (Nat.le_of_ble_eq_true rfl)⟩ rfl (Nat.le_of_ble_eq_true rfl) h1 (fun r2 w1 H locs p2 Z => ?_)
  obtain ⟨w1e, hr2⟩ := p2
  have w1e := w1e.symm
  subst w1e
  refine f_astore X hl ⟨_, rfl, dX2_firstGraveBehindFront_5⟩ (by decide) ⟨r2, rfl⟩ (fun ls hl => ?_)
  have hl : lV ls _ [some (.ref tr), some (va_rf r2), none] := hl
  refine lv_iconst (v := 1) X.1 X.2.1 dX2_firstGraveBehindFront_6 (by decide) ?_
  refine f_istore X hl ⟨_, rfl, dX2_firstGraveBehindFront_7⟩ (by decide) (fun ls hl => ?_)
  have hl : lV ls _ [some (.ref tr), some (va_rf r2), some (.int 1)] := hl
  have hloop : ∀ (fu : Nat) (i : Nat) (x2 : Int32) (v : Option Nat), x2 = nI i → v = L[i]?.map Prod.fst → ((L.drop 1).find? gP) = ((L.drop i).find? gP) → i ≤ L.length + 1 → L.length + 1 < i + fu → ∀ (H : Heap) (locs : List Loc) (ls : Array Slot), wZ G w s H locs → lV ls 3 [some (.ref tr), some (va_rf v), some (.int x2)] → W p l e ({ frames := 1, cells := 0, slots := 0, locals := 23 }) s m [.ref tr].toArray below meth cd H locs 0 0 (MQ below (Qq G (fun r w' => w' = w ∧ r = ((L.drop 1).find? gP).map Prod.fst)) [.ref tr].toArray s 0 0 (fr G)) (F0 m 8 ls []) := by
    clear hl Z
    intro fu
    induction fu with
    | zero => intro i x2 v hi hfo hf hle hfu H locs ls Z hl; exact absurd hfu (by omega)
    | succ fu ih =>
      intro i x2 v hi hfo hf hle hfu H locs ls Z hl
      refine f_iload X hl ⟨_, rfl, dX2_firstGraveBehindFront_8⟩ rfl ?_
      refine f_aload (v := .ref tr) X hl ⟨_, rfl, dX2_firstGraveBehindFront_9⟩ rfl ⟨(some tr), rfl⟩ ?_
      refine f_get (v := .int (nI L.length)) (k := 1) X Z i2 rfl (by decide) (by decide +kernel) dX2_firstGraveBehindFront_10 h1 rfl ?_
      refine lv_icmp_ge (tgt := 42) X.1 X.2.1 dX2_firstGraveBehindFront_13 (by decide) (fun c13 => ?_) (fun c13 => ?_)
      · refine lv_null X.1 X.2.1 dX2_firstGraveBehindFront_42 ?_
        exact f_aret (v := .null) (r := none) X hr hlk Z (Nat.le_of_ble_eq_true rfl) (Nat.le_of_ble_eq_true rfl) dX2_firstGraveBehindFront_43 rfl ⟨rfl, by rw [hf, drop_off ((nI_leI (by omega) (by omega)).mp (hi ▸ c13))]; rfl⟩
      · have hlt : i < L.length := by
          rcases Nat.lt_or_ge i L.length with q | q
          · exact q
          · exact absurd (by rw [hi]; exact nI_le q (by omega)) c13
        refine f_aload (v := va_rf v) X hl ⟨_, rfl, dX2_firstGraveBehindFront_16⟩ rfl ⟨v, rfl⟩ ?_
        refine f_ifnull (tgt := 42) X dX2_firstGraveBehindFront_17 (by decide) (fun c17 => ?_) (fun a17 c17 => ?_)
        · subst c17
          refine lv_null X.1 X.2.1 dX2_firstGraveBehindFront_42 ?_
          exact f_aret (v := .null) (r := none) X hr hlk Z (Nat.le_of_ble_eq_true rfl) (Nat.le_of_ble_eq_true rfl) dX2_firstGraveBehindFront_43 rfl ⟨rfl, by rw [hf, drop_off (mfn hfo)]; rfl⟩
        · subst c17
          obtain ⟨d, hd1⟩ := mf hfo
          obtain ⟨ro, hc, hro⟩ := hn i a17 d hd1
          refine f_aload (v := .ref a17) X hl ⟨_, rfl, dX2_firstGraveBehindFront_20⟩ rfl ⟨(some a17), rfl⟩ ?_
          refine f_get (v := .int d.2.2.1) (k := 2) X Z i3 rfl (by decide) (by decide +kernel) dX2_firstGraveBehindFront_21 hc rfl ?_
          refine lv_bipush (v := 50) X.1 X.2.1 dX2_firstGraveBehindFront_24 (by decide) ?_
          refine lv_icmp_lt (tgt := 31) X.1 X.2.1 dX2_firstGraveBehindFront_26 (by decide) (fun c26 => ?_) (fun c26 => ?_)
          · refine f_aload (v := .ref a17) X hl ⟨_, rfl, dX2_firstGraveBehindFront_31⟩ rfl ⟨(some a17), rfl⟩ ?_
            refine f_get (v := va_rf (nx L i)) (k := 4) X Z i3 rfl (by decide) (by decide +kernel) dX2_firstGraveBehindFront_32 hc rfl ?_
            refine f_astore X hl ⟨_, rfl, dX2_firstGraveBehindFront_35⟩ (by decide) ⟨(nx L i), rfl⟩ (fun ls hl => ?_)
            have hl : lV ls _ [some (.ref tr), some (va_rf (nx L i)), some (.int x2)] := hl
            refine f_iinc (v := 1) X hl dX2_firstGraveBehindFront_36 (by decide) rfl (by decide) (fun ls hl => ?_)
            have hl : lV ls _ [some (.ref tr), some (va_rf (nx L i)), some (.int (x2 + 1))] := hl
            refine lv_goto (tgt := 8) X.1 X.2.1 dX2_firstGraveBehindFront_39 (by decide) ?_
            exact ih (i + 1) _ _ (by rw [hi]; exact nI_1 i) rfl (by rw [hf, drop_at hd1, List.find?_cons, show gP (a17, d) = false from by simp only [gP, decide_eq_false_iff_not]; simp only [Int32.lt_iff_toInt_lt, kc_50] at c26; omega]) (by omega) (by omega) _ _ _ Z hl
          · refine f_aload (v := .ref a17) X hl ⟨_, rfl, dX2_firstGraveBehindFront_29⟩ rfl ⟨(some a17), rfl⟩ ?_
            exact f_aret (v := .ref a17) (r := (some a17)) X hr hlk Z (Nat.le_of_ble_eq_true rfl) (Nat.le_of_ble_eq_true rfl) dX2_firstGraveBehindFront_30 rfl ⟨rfl, by rw [hf, drop_at hd1, List.find?_cons, show gP (a17, d) = true from by simp only [gP, decide_eq_true_eq]; simp only [Int32.lt_iff_toInt_lt, kc_50] at c26; omega]; rfl⟩
  exact hloop (L.length + 1) 1 _ _ rfl (by rw [hr2]; exact congrArg _ (vix_n (L := L) (kn := 1) (by decide))) rfl (by omega) (by omega) _ _ _ Z hl
set_option maxHeartbeats 4000000 in
set_option maxRecDepth 100000 in
theorem c_X2_weightBehindFront (l : Launch) (G : gT) (w : wT) (tr : Nat) (L : LV) (ht : trk G w tr L) : Met l yX2_weightBehindFront wsX2_weightBehindFront ({ frames := 1, cells := 0, slots := 0, locals := 25 }) (va_Pc [.ref tr] (wG G w)) (Qi G (fun r w' => w' = w ∧ r = sLd 0 ((L.drop 1).map Prod.snd))) 0 0 (fr G) := by
  refine f_met (cc := cX2_weightBehindFront) (maxL := 4) (ret := (some .int)) (by decide) rfl rfl (Nat.le_of_ble_eq_true rfl) ?_
  intro p e s m below meth cd X hr hlk hnm Z ls hl
  have X : CallFix p m cd cX2_weightBehindFront 4 s [.ref tr].toArray wsX2_weightBehindFront RX2 := X
  have hl : lV ls _ [some (.ref tr), none, none, none] := hl
  have i2 : ∀ w ∈ wsX20, w ∈ wsX2_weightBehindFront := by decide +kernel
  have i3 : ∀ w ∈ wsX30, w ∈ wsX2_weightBehindFront := by decide +kernel
  obtain ⟨h1, hL, hn⟩ := id ht
  refine lv_iconst (v := 0) X.1 X.2.1 dX2_weightBehindFront_0 (by decide) ?_
  refine f_istore X hl ⟨_, rfl, dX2_weightBehindFront_1⟩ (by decide) (fun ls hl => ?_)
  have hl : lV ls _ [some (.ref tr), some (.int 0), none, none] := hl
  refine f_aload (v := .ref tr) X hl ⟨_, rfl, dX2_weightBehindFront_2⟩ rfl ⟨(some tr), rfl⟩ ?_
  refine lv_iconst (v := 1) X.1 X.2.1 dX2_weightBehindFront_3 (by decide) ?_
  refine f_callVq (rest := []) X Z hl.1 (c_X2_vehicleAt l G w tr L _ ht) (cwV 1 X.2.2.2.2 gX2_weightBehindFront_X2_vehicleAt rfl rfl rfl (by decide +kernel) ⟨(Nat.le_of_ble_eq_true rfl), (Nat.le_of_ble_eq_true rfl)⟩) rfl rfl dX2_weightBehindFront_4 ⟨(Nat.le_of_ble_eq_true rfl), (Nat.le_of_ble_eq_true rfl)⟩ rfl (Nat.le_of_ble_eq_true rfl) h1 (fun r4 w1 H locs p4 Z => ?_)
  obtain ⟨w1e, hr4⟩ := p4
  have w1e := w1e.symm
  subst w1e
  refine f_astore X hl ⟨_, rfl, dX2_weightBehindFront_7⟩ (by decide) ⟨r4, rfl⟩ (fun ls hl => ?_)
  have hl : lV ls _ [some (.ref tr), some (.int 0), some (va_rf r4), none] := hl
  refine lv_iconst (v := 1) X.1 X.2.1 dX2_weightBehindFront_8 (by decide) ?_
  refine f_istore X hl ⟨_, rfl, dX2_weightBehindFront_9⟩ (by decide) (fun ls hl => ?_)
  have hl : lV ls _ [some (.ref tr), some (.int 0), some (va_rf r4), some (.int 1)] := hl
  have hloop : ∀ (fu : Nat) (i : Nat) (x1 x3 : Int32) (v : Option Nat), x3 = nI i → v = L[i]?.map Prod.fst → sLd 0 ((L.drop 1).map Prod.snd) = sLd x1 ((L.drop i).map Prod.snd) → i ≤ L.length + 1 → L.length + 1 < i + fu → ∀ (H : Heap) (locs : List Loc) (ls : Array Slot), wZ G w s H locs → lV ls 4 [some (.ref tr), some (.int x1), some (va_rf v), some (.int x3)] → W p l e ({ frames := 1, cells := 0, slots := 0, locals := 25 }) s m [.ref tr].toArray below meth cd H locs 0 0 (MQ below (Qi G (fun r w' => w' = w ∧ r = sLd 0 ((L.drop 1).map Prod.snd))) [.ref tr].toArray s 0 0 (fr G)) (F0 m 10 ls []) := by
    clear hl Z
    intro fu
    induction fu with
    | zero => intro i x1 x3 v hi hfo hf hle hfu H locs ls Z hl; exact absurd hfu (by omega)
    | succ fu ih =>
      intro i x1 x3 v hi hfo hf hle hfu H locs ls Z hl
      refine f_iload X hl ⟨_, rfl, dX2_weightBehindFront_10⟩ rfl ?_
      refine f_aload (v := .ref tr) X hl ⟨_, rfl, dX2_weightBehindFront_11⟩ rfl ⟨(some tr), rfl⟩ ?_
      refine f_get (v := .int (nI L.length)) (k := 1) X Z i2 rfl (by decide) (by decide +kernel) dX2_weightBehindFront_12 h1 rfl ?_
      refine lv_icmp_ge (tgt := 40) X.1 X.2.1 dX2_weightBehindFront_15 (by decide) (fun c15 => ?_) (fun c15 => ?_)
      · refine f_iload X hl ⟨_, rfl, dX2_weightBehindFront_40⟩ rfl ?_
        exact f_iret X hr hlk Z (Nat.le_of_ble_eq_true rfl) (Nat.le_of_ble_eq_true rfl) dX2_weightBehindFront_41 ⟨rfl, by rw [hf, drop_off ((nI_leI (by omega) (by omega)).mp (hi ▸ c15))]; rfl⟩
      · have hlt : i < L.length := by
          rcases Nat.lt_or_ge i L.length with q | q
          · exact q
          · exact absurd (by rw [hi]; exact nI_le q (by omega)) c15
        refine f_aload (v := va_rf v) X hl ⟨_, rfl, dX2_weightBehindFront_18⟩ rfl ⟨v, rfl⟩ ?_
        refine f_ifnull (tgt := 40) X dX2_weightBehindFront_19 (by decide) (fun c19 => ?_) (fun a19 c19 => ?_)
        · subst c19
          refine f_iload X hl ⟨_, rfl, dX2_weightBehindFront_40⟩ rfl ?_
          exact f_iret X hr hlk Z (Nat.le_of_ble_eq_true rfl) (Nat.le_of_ble_eq_true rfl) dX2_weightBehindFront_41 ⟨rfl, by rw [hf, drop_off (mfn hfo)]; rfl⟩
        · subst c19
          obtain ⟨d, hd1⟩ := mf hfo
          obtain ⟨ro, hc, hro⟩ := hn i a19 d hd1
          refine f_iload X hl ⟨_, rfl, dX2_weightBehindFront_22⟩ rfl ?_
          refine f_aload (v := .ref a19) X hl ⟨_, rfl, dX2_weightBehindFront_23⟩ rfl ⟨(some a19), rfl⟩ ?_
          refine f_callVi (rest := [.int x1]) X Z hl.1 (c_X3_fullWeight l G w a19 d _ (hn i a19 d hd1)) (cwV 0 X.2.2.2.2 gX2_weightBehindFront_X3_fullWeight rfl rfl rfl (by decide +kernel) ⟨(Nat.le_of_ble_eq_true rfl), (Nat.le_of_ble_eq_true rfl)⟩) rfl rfl dX2_weightBehindFront_24 ⟨(Nat.le_of_ble_eq_true rfl), (Nat.le_of_ble_eq_true rfl)⟩ rfl (Nat.le_of_ble_eq_true rfl) hc (fun r24 w2 H locs p24 Z => ?_)
          obtain ⟨w2e, hr24⟩ := p24
          have w2e := w2e.symm
          subst w2e
          refine lv_iadd X.1 X.2.1 dX2_weightBehindFront_27 ?_
          refine f_istore X hl ⟨_, rfl, dX2_weightBehindFront_28⟩ (by decide) (fun ls hl => ?_)
          have hl : lV ls _ [some (.ref tr), some (.int (x1 + r24)), some (.ref a19), some (.int x3)] := hl
          refine f_aload (v := .ref a19) X hl ⟨_, rfl, dX2_weightBehindFront_29⟩ rfl ⟨(some a19), rfl⟩ ?_
          refine f_get (v := va_rf (nx L i)) (k := 4) X Z i3 rfl (by decide) (by decide +kernel) dX2_weightBehindFront_30 hc rfl ?_
          refine f_astore X hl ⟨_, rfl, dX2_weightBehindFront_33⟩ (by decide) ⟨(nx L i), rfl⟩ (fun ls hl => ?_)
          have hl : lV ls _ [some (.ref tr), some (.int (x1 + r24)), some (va_rf (nx L i)), some (.int x3)] := hl
          refine f_iinc (v := 1) X hl dX2_weightBehindFront_34 (by decide) rfl (by decide) (fun ls hl => ?_)
          have hl : lV ls _ [some (.ref tr), some (.int (x1 + r24)), some (va_rf (nx L i)), some (.int (x3 + 1))] := hl
          refine lv_goto (tgt := 10) X.1 X.2.1 dX2_weightBehindFront_37 (by decide) ?_
          exact ih (i + 1) _ _ _ (by rw [hi]; exact nI_1 i) rfl (by rw [hf, drop_at hd1, hr24]; rfl) (by omega) (by omega) _ _ _ Z hl
  exact hloop (L.length + 1) 1 _ _ _ rfl (by rw [hr4]; exact congrArg _ (vix_n (L := L) (kn := 1) (by decide))) rfl (by omega) (by omega) _ _ _ Z hl
set_option maxHeartbeats 4000000 in
set_option maxRecDepth 100000 in
theorem c_X2_putAhead (l : Launch) (G : gT) (w : wT) (tr v : Nat) (fo : Option Nat) (sz so we de : Int32) (ro bh : Option Nat) (h1 : w tr = some (cTrk fo sz)) (h2 : w v = some (cVeh so we de ro bh)) : Met l yX2_putAhead wsX2_putAhead ({ frames := 0, cells := 0, slots := 0, locals := 0 }) (va_Pc [.ref tr, .ref v] (wG G w)) (Qv G (fun w' => w' = va_up (va_up w v (some (cVeh so we de ro fo))) tr (some (cTrk (some v) (sz + 1))))) 0 0 (fr G) := by
  refine f_met (cc := cX2_putAhead) (maxL := 2) (ret := none) (by decide) rfl rfl (Nat.le_of_ble_eq_true rfl) ?_
  intro p e s m below meth cd X hr hlk hnm Z ls hl
  have X : CallFix p m cd cX2_putAhead 2 s [.ref tr, .ref v].toArray wsX2_putAhead RX2 := X
  have hl : lV ls _ [some (.ref tr), some (.ref v)] := hl
  have i2 : ∀ w ∈ wsX20, w ∈ wsX2_putAhead := by decide +kernel
  have i3 : ∀ w ∈ wsX30, w ∈ wsX2_putAhead := by decide +kernel
  refine f_aload (v := .ref v) X hl ⟨_, rfl, dX2_putAhead_0⟩ rfl ⟨(some v), rfl⟩ ?_
  refine f_aload (v := .ref tr) X hl ⟨_, rfl, dX2_putAhead_1⟩ rfl ⟨(some tr), rfl⟩ ?_
  refine f_get (v := va_rf fo) (k := 0) X Z i2 rfl (by decide) (by decide +kernel) dX2_putAhead_2 h1 rfl ?_
  refine f_put (v := va_rf fo) (ty0 := tyX3) (k := 4) X Z i3 tyX3_ok nmX3 rfl (by decide) (by decide +kernel) rfl dX2_putAhead_5 h2 (nr_o _ fo) (ft_o _ fo) (Nat.le_of_ble_eq_true rfl) (fun H locs w1 e2 Z => ?_)
  have e2 : w1 = va_up w v (some (cVeh so we de ro fo)) := e2
  have k3 : w1 tr = some (cTrk fo sz) := by rw [e2]; exact lk_ne (ad_ne h1 h2 (dx_oo (by decide))) h1
  have k4 : w1 v = some (cVeh so we de ro fo) := by rw [e2]; exact up_eq
  refine f_aload (v := .ref tr) X hl ⟨_, rfl, dX2_putAhead_8⟩ rfl ⟨(some tr), rfl⟩ ?_
  refine f_aload (v := .ref v) X hl ⟨_, rfl, dX2_putAhead_9⟩ rfl ⟨(some v), rfl⟩ ?_
  refine f_put (v := .ref v) (ty0 := tyX2) (k := 0) X Z i2 tyX2_ok nmX2 rfl (by decide) (by decide +kernel) rfl dX2_putAhead_10 k3 (nr_o _ (some v)) (ft_o _ (some v)) (Nat.le_of_ble_eq_true rfl) (fun H locs w5 e6 Z => ?_)
  have e6 : w5 = va_up w1 tr (some (cTrk (some v) sz)) := e6
  have k7 : w5 v = some (cVeh so we de ro fo) := by rw [e6]; exact lk_ne (ad_ne k4 k3 (dx_oo (by decide))) k4
  have k8 : w5 tr = some (cTrk (some v) sz) := by rw [e6]; exact up_eq
  refine f_aload (v := .ref tr) X hl ⟨_, rfl, dX2_putAhead_13⟩ rfl ⟨(some tr), rfl⟩ ?_
  refine lv_dup X.1 X.2.1 dX2_putAhead_14 rfl ?_
  refine f_get (v := .int sz) (k := 1) X Z i2 rfl (by decide) (by decide +kernel) dX2_putAhead_15 k8 rfl ?_
  refine lv_iconst (v := 1) X.1 X.2.1 dX2_putAhead_18 (by decide) ?_
  refine lv_iadd X.1 X.2.1 dX2_putAhead_19 ?_
  refine f_put (v := .int (sz + 1)) (ty0 := tyX2) (k := 1) X Z i2 tyX2_ok nmX2 rfl (by decide) (by decide +kernel) rfl dX2_putAhead_20 k8 rfl rfl (Nat.le_of_ble_eq_true rfl) (fun H locs w9 e10 Z => ?_)
  have e10 : w9 = va_up w5 tr (some (cTrk (some v) (sz + 1))) := e10
  have k11 : w9 v = some (cVeh so we de ro fo) := by rw [e10]; exact lk_ne (ad_ne k7 k8 (dx_oo (by decide))) k7
  have k12 : w9 tr = some (cTrk (some v) (sz + 1)) := by rw [e10]; exact up_eq
  exact f_vret X hr hlk Z (Nat.le_of_ble_eq_true rfl) (Nat.le_of_ble_eq_true rfl) dX2_putAhead_23 (by rw [e10, e6, e2, va_uu])
set_option maxHeartbeats 4000000 in
set_option maxRecDepth 100000 in
theorem c_X2_removeFront (l : Launch) (G : gT) (w : wT) (tr : Nat) (fo : Option Nat) (sz so we de : Int32) (ro bh : Option Nat) (h1 : w tr = some (cTrk fo sz)) (hv : ∀ a, fo = some a → w a = some (cVeh so we de ro bh)) : Met l yX2_removeFront wsX2_removeFront ({ frames := 0, cells := 0, slots := 0, locals := 0 }) (va_Pc [.ref tr] (wG G w)) (Qq G (fun r w' => r = fo ∧ (fo = none → w' = w) ∧ ∀ a, fo = some a → w' = va_up (va_up w a (some (cVeh so we de ro none))) tr (some (cTrk bh (sz - 1))))) 0 0 (fr G) := by
  refine f_met (cc := cX2_removeFront) (maxL := 2) (ret := (some (.object "TankSidings$Vehicle"))) (by decide) rfl rfl (Nat.le_of_ble_eq_true rfl) ?_
  intro p e s m below meth cd X hr hlk hnm Z ls hl
  have X : CallFix p m cd cX2_removeFront 2 s [.ref tr].toArray wsX2_removeFront RX2 := X
  have hl : lV ls _ [some (.ref tr), none] := hl
  have i2 : ∀ w ∈ wsX20, w ∈ wsX2_removeFront := by decide +kernel
  have i3 : ∀ w ∈ wsX30, w ∈ wsX2_removeFront := by decide +kernel
  refine f_aload (v := .ref tr) X hl ⟨_, rfl, dX2_removeFront_0⟩ rfl ⟨(some tr), rfl⟩ ?_
  refine f_get (v := va_rf fo) (k := 0) X Z i2 rfl (by decide) (by decide +kernel) dX2_removeFront_1 h1 rfl ?_
  refine f_astore X hl ⟨_, rfl, dX2_removeFront_4⟩ (by decide) ⟨fo, rfl⟩ (fun ls hl => ?_)
  have hl : lV ls _ [some (.ref tr), some (va_rf fo)] := hl
  refine f_aload (v := va_rf fo) X hl ⟨_, rfl, dX2_removeFront_5⟩ rfl ⟨fo, rfl⟩ ?_
  refine f_ifnull (tgt := 32) X dX2_removeFront_6 (by decide) (fun c6 => ?_) (fun a6 c6 => ?_)
  · subst c6
    refine f_aload (v := .null) X hl ⟨_, rfl, dX2_removeFront_32⟩ rfl ⟨none, rfl⟩ ?_
    exact f_aret (v := .null) (r := none) X hr hlk Z (Nat.le_of_ble_eq_true rfl) (Nat.le_of_ble_eq_true rfl) dX2_removeFront_33 rfl ⟨rfl, (fun _ => rfl), fun a h => by cases h⟩
  · subst c6
    have h2 := hv a6 rfl
    refine f_aload (v := .ref tr) X hl ⟨_, rfl, dX2_removeFront_9⟩ rfl ⟨(some tr), rfl⟩ ?_
    refine f_aload (v := .ref a6) X hl ⟨_, rfl, dX2_removeFront_10⟩ rfl ⟨(some a6), rfl⟩ ?_
    refine f_get (v := va_rf bh) (k := 4) X Z i3 rfl (by decide) (by decide +kernel) dX2_removeFront_11 h2 rfl ?_
    refine f_put (v := va_rf bh) (ty0 := tyX2) (k := 0) X Z i2 tyX2_ok nmX2 rfl (by decide) (by decide +kernel) rfl dX2_removeFront_14 h1 (nr_o _ bh) (ft_o _ bh) (Nat.le_of_ble_eq_true rfl) (fun H locs w1 e2 Z => ?_)
    have e2 : w1 = va_up w tr (some (cTrk bh sz)) := e2
    have k3 : w1 a6 = some (cVeh so we de ro bh) := by rw [e2]; exact lk_ne (ad_ne h2 h1 (dx_oo (by decide))) h2
    have k4 : w1 tr = some (cTrk bh sz) := by rw [e2]; exact up_eq
    refine f_aload (v := .ref a6) X hl ⟨_, rfl, dX2_removeFront_17⟩ rfl ⟨(some a6), rfl⟩ ?_
    refine lv_null X.1 X.2.1 dX2_removeFront_18 ?_
    refine f_put (v := .null) (ty0 := tyX3) (k := 4) X Z i3 tyX3_ok nmX3 rfl (by decide) (by decide +kernel) rfl dX2_removeFront_19 k3 (nr_o _ none) (ft_o _ none) (Nat.le_of_ble_eq_true rfl) (fun H locs w5 e6 Z => ?_)
    have e6 : w5 = va_up w1 a6 (some (cVeh so we de ro none)) := e6
    have k7 : w5 tr = some (cTrk bh sz) := by rw [e6]; exact lk_ne (ad_ne k4 k3 (dx_oo (by decide))) k4
    have k8 : w5 a6 = some (cVeh so we de ro none) := by rw [e6]; exact up_eq
    refine f_aload (v := .ref tr) X hl ⟨_, rfl, dX2_removeFront_22⟩ rfl ⟨(some tr), rfl⟩ ?_
    refine lv_dup X.1 X.2.1 dX2_removeFront_23 rfl ?_
    refine f_get (v := .int sz) (k := 1) X Z i2 rfl (by decide) (by decide +kernel) dX2_removeFront_24 k7 rfl ?_
    refine lv_iconst (v := 1) X.1 X.2.1 dX2_removeFront_27 (by decide) ?_
    refine lv_isub X.1 X.2.1 dX2_removeFront_28 ?_
    refine f_put (v := .int (sz - 1)) (ty0 := tyX2) (k := 1) X Z i2 tyX2_ok nmX2 rfl (by decide) (by decide +kernel) rfl dX2_removeFront_29 k7 rfl rfl (Nat.le_of_ble_eq_true rfl) (fun H locs w9 e10 Z => ?_)
    have e10 : w9 = va_up w5 tr (some (cTrk bh (sz - 1))) := e10
    have k11 : w9 a6 = some (cVeh so we de ro none) := by rw [e10]; exact lk_ne (ad_ne k8 k7 (dx_oo (by decide))) k8
    have k12 : w9 tr = some (cTrk bh (sz - 1)) := by rw [e10]; exact up_eq
    refine f_aload (v := .ref a6) X hl ⟨_, rfl, dX2_removeFront_32⟩ rfl ⟨(some a6), rfl⟩ ?_
    exact f_aret (v := .ref a6) (r := (some a6)) X hr hlk Z (Nat.le_of_ble_eq_true rfl) (Nat.le_of_ble_eq_true rfl) dX2_removeFront_33 rfl ⟨rfl, (fun h => by cases h), fun a h => by cases h; rw [e10, e6, e2, va_comm (ad_ne h1 h2 (dx_oo (by decide))), va_uu]⟩
set_option maxHeartbeats 4000000 in
set_option maxRecDepth 100000 in
theorem c_X2_moveFirst (l : Launch) (G : gT) (w : wT) (tr to : Nat) (L : LV) (fo2 : Option Nat) (sz2 : Int32) (kn : Nat) (hkn : kn < 2 ^ 30) (ht : trk G w tr L) (h2 : w to = some (cTrk fo2 sz2)) (hne : tr ≠ to) : Met l yX2_moveFirst wsX2_moveFirst ({ frames := 1, cells := 0, slots := 0, locals := 23 }) (va_Pc [.ref tr, .int (nI (kn + 1)), .ref to] (wG G w)) (Qi G (fun r w' => (L[kn]? = none ∧ r = 0 ∧ w' = w) ∨ ∃ a d ro, L[kn]? = some (a, d) ∧ w a = some (cVeh d.1 d.2.1 d.2.2.1 ro (nx L kn)) ∧ r = 1 ∧ w' = va_up (va_up (va_up w a (some (cVeh d.1 d.2.1 d.2.2.1 ro fo2))) to (some (cTrk (hd L) (sz2 + nI (kn + 1))))) tr (some (cTrk (nx L kn) (nI L.length - nI (kn + 1)))))) 0 0 (fr G) := by
  refine f_met (cc := cX2_moveFirst) (maxL := 5) (ret := (some .boolean)) (by decide) rfl rfl (Nat.le_of_ble_eq_true rfl) ?_
  intro p e s m below meth cd X hr hlk hnm Z ls hl
  have X : CallFix p m cd cX2_moveFirst 5 s [.ref tr, .int (nI (kn + 1)), .ref to].toArray wsX2_moveFirst RX2 := X
  have hl : lV ls _ [some (.ref tr), some (.int (nI (kn + 1))), some (.ref to), none, none] := hl
  have i2 : ∀ w ∈ wsX20, w ∈ wsX2_moveFirst := by decide +kernel
  have i3 : ∀ w ∈ wsX30, w ∈ wsX2_moveFirst := by decide +kernel
  obtain ⟨h1, hL, hn⟩ := id ht
  refine f_aload (v := .ref tr) X hl ⟨_, rfl, dX2_moveFirst_0⟩ rfl ⟨(some tr), rfl⟩ ?_
  refine f_iload X hl ⟨_, rfl, dX2_moveFirst_1⟩ rfl ?_
  refine lv_iconst (v := 1) X.1 X.2.1 dX2_moveFirst_2 (by decide) ?_
  refine lv_isub X.1 X.2.1 dX2_moveFirst_3 ?_
  refine f_callVq (rest := []) X Z hl.1 (c_X2_vehicleAt l G w tr L _ ht) (cwV 1 X.2.2.2.2 gX2_moveFirst_X2_vehicleAt rfl rfl rfl (by decide +kernel) ⟨(Nat.le_of_ble_eq_true rfl), (Nat.le_of_ble_eq_true rfl)⟩) rfl rfl dX2_moveFirst_4 ⟨(Nat.le_of_ble_eq_true rfl), (Nat.le_of_ble_eq_true rfl)⟩ rfl (Nat.le_of_ble_eq_true rfl) h1 (fun r4 w1 H locs p4 Z => ?_)
  obtain ⟨w1e, hr4⟩ := p4
  have w1e := w1e.symm
  subst w1e
  refine f_astore X hl ⟨_, rfl, dX2_moveFirst_7⟩ (by decide) ⟨r4, rfl⟩ (fun ls hl => ?_)
  have hl : lV ls _ [some (.ref tr), some (.int (nI (kn + 1))), some (.ref to), some (va_rf r4), none] := hl
  refine f_aload (v := va_rf r4) X hl ⟨_, rfl, dX2_moveFirst_8⟩ rfl ⟨r4, rfl⟩ ?_
  refine f_ifnonnull (tgt := 14) X dX2_moveFirst_9 (by decide) (fun a9 c9 => ?_) (fun c9 => ?_)
  · subst c9
    rw [nI_pred, vix_n (by omega)] at hr4
    obtain ⟨d, hd1⟩ := mf (hr4)
    obtain ⟨ro, hc, hro⟩ := hn kn a9 d hd1
    refine f_aload (v := .ref a9) X hl ⟨_, rfl, dX2_moveFirst_14⟩ rfl ⟨(some a9), rfl⟩ ?_
    refine f_get (v := va_rf (nx L kn)) (k := 4) X Z i3 rfl (by decide) (by decide +kernel) dX2_moveFirst_15 hc rfl ?_
    refine f_astore2 X hl dX2_moveFirst_18 (by decide) ⟨(nx L kn), rfl⟩ (fun ls hl => ?_)
    have hl : lV ls _ [some (.ref tr), some (.int (nI (kn + 1))), some (.ref to), some (.ref a9), some (va_rf (nx L kn))] := hl
    refine f_aload (v := .ref a9) X hl ⟨_, rfl, dX2_moveFirst_20⟩ rfl ⟨(some a9), rfl⟩ ?_
    refine f_aload (v := .ref to) X hl ⟨_, rfl, dX2_moveFirst_21⟩ rfl ⟨(some to), rfl⟩ ?_
    refine f_get (v := va_rf fo2) (k := 0) X Z i2 rfl (by decide) (by decide +kernel) dX2_moveFirst_22 h2 rfl ?_
    refine f_put (v := va_rf fo2) (ty0 := tyX3) (k := 4) X Z i3 tyX3_ok nmX3 rfl (by decide) (by decide +kernel) rfl dX2_moveFirst_25 hc (nr_o _ fo2) (ft_o _ fo2) (Nat.le_of_ble_eq_true rfl) (fun H locs w2 e3 Z => ?_)
    have e3 : w2 = va_up w a9 (some (cVeh d.1 d.2.1 d.2.2.1 ro fo2)) := e3
    have k4 : w2 tr = some (cTrk (hd L) (nI L.length)) := by rw [e3]; exact lk_ne (ad_ne h1 hc (dx_oo (by decide))) h1
    have k5 : w2 to = some (cTrk fo2 sz2) := by rw [e3]; exact lk_ne (ad_ne h2 hc (dx_oo (by decide))) h2
    have k6 : w2 a9 = some (cVeh d.1 d.2.1 d.2.2.1 ro fo2) := by rw [e3]; exact up_eq
    refine f_aload (v := .ref to) X hl ⟨_, rfl, dX2_moveFirst_28⟩ rfl ⟨(some to), rfl⟩ ?_
    refine f_aload (v := .ref tr) X hl ⟨_, rfl, dX2_moveFirst_29⟩ rfl ⟨(some tr), rfl⟩ ?_
    refine f_get (v := va_rf (hd L)) (k := 0) X Z i2 rfl (by decide) (by decide +kernel) dX2_moveFirst_30 k4 rfl ?_
    refine f_put (v := va_rf (hd L)) (ty0 := tyX2) (k := 0) X Z i2 tyX2_ok nmX2 rfl (by decide) (by decide +kernel) rfl dX2_moveFirst_33 k5 (nr_o _ (hd L)) (ft_o _ (hd L)) (Nat.le_of_ble_eq_true rfl) (fun H locs w7 e8 Z => ?_)
    have e8 : w7 = va_up w2 to (some (cTrk (hd L) sz2)) := e8
    have k9 : w7 tr = some (cTrk (hd L) (nI L.length)) := by rw [e8]; exact lk_ne hne k4
    have k10 : w7 a9 = some (cVeh d.1 d.2.1 d.2.2.1 ro fo2) := by rw [e8]; exact lk_ne (ad_ne k6 k5 (dx_oo (by decide))) k6
    have k11 : w7 to = some (cTrk (hd L) sz2) := by rw [e8]; exact up_eq
    refine f_aload (v := .ref to) X hl ⟨_, rfl, dX2_moveFirst_36⟩ rfl ⟨(some to), rfl⟩ ?_
    refine lv_dup X.1 X.2.1 dX2_moveFirst_37 rfl ?_
    refine f_get (v := .int sz2) (k := 1) X Z i2 rfl (by decide) (by decide +kernel) dX2_moveFirst_38 k11 rfl ?_
    refine f_iload X hl ⟨_, rfl, dX2_moveFirst_41⟩ rfl ?_
    refine lv_iadd X.1 X.2.1 dX2_moveFirst_42 ?_
    refine f_put (v := .int (sz2 + (nI (kn + 1)))) (ty0 := tyX2) (k := 1) X Z i2 tyX2_ok nmX2 rfl (by decide) (by decide +kernel) rfl dX2_moveFirst_43 k11 rfl rfl (Nat.le_of_ble_eq_true rfl) (fun H locs w12 e13 Z => ?_)
    have e13 : w12 = va_up w7 to (some (cTrk (hd L) (sz2 + (nI (kn + 1))))) := e13
    have k14 : w12 tr = some (cTrk (hd L) (nI L.length)) := by rw [e13]; exact lk_ne hne k9
    have k15 : w12 a9 = some (cVeh d.1 d.2.1 d.2.2.1 ro fo2) := by rw [e13]; exact lk_ne (ad_ne k10 k11 (dx_oo (by decide))) k10
    have k16 : w12 to = some (cTrk (hd L) (sz2 + (nI (kn + 1)))) := by rw [e13]; exact up_eq
    refine f_aload (v := .ref tr) X hl ⟨_, rfl, dX2_moveFirst_46⟩ rfl ⟨(some tr), rfl⟩ ?_
    refine f_aload2 (v := va_rf (nx L kn)) X hl dX2_moveFirst_47 rfl ⟨(nx L kn), rfl⟩ ?_
    refine f_put (v := va_rf (nx L kn)) (ty0 := tyX2) (k := 0) X Z i2 tyX2_ok nmX2 rfl (by decide) (by decide +kernel) rfl dX2_moveFirst_49 k14 (nr_o _ (nx L kn)) (ft_o _ (nx L kn)) (Nat.le_of_ble_eq_true rfl) (fun H locs w17 e18 Z => ?_)
    have e18 : w17 = va_up w12 tr (some (cTrk (nx L kn) (nI L.length))) := e18
    have k19 : w17 a9 = some (cVeh d.1 d.2.1 d.2.2.1 ro fo2) := by rw [e18]; exact lk_ne (ad_ne k15 k14 (dx_oo (by decide))) k15
    have k20 : w17 to = some (cTrk (hd L) (sz2 + (nI (kn + 1)))) := by rw [e18]; exact lk_ne (Ne.symm hne) k16
    have k21 : w17 tr = some (cTrk (nx L kn) (nI L.length)) := by rw [e18]; exact up_eq
    refine f_aload (v := .ref tr) X hl ⟨_, rfl, dX2_moveFirst_52⟩ rfl ⟨(some tr), rfl⟩ ?_
    refine lv_dup X.1 X.2.1 dX2_moveFirst_53 rfl ?_
    refine f_get (v := .int (nI L.length)) (k := 1) X Z i2 rfl (by decide) (by decide +kernel) dX2_moveFirst_54 k21 rfl ?_
    refine f_iload X hl ⟨_, rfl, dX2_moveFirst_57⟩ rfl ?_
    refine lv_isub X.1 X.2.1 dX2_moveFirst_58 ?_
    refine f_put (v := .int ((nI L.length) - (nI (kn + 1)))) (ty0 := tyX2) (k := 1) X Z i2 tyX2_ok nmX2 rfl (by decide) (by decide +kernel) rfl dX2_moveFirst_59 k21 rfl rfl (Nat.le_of_ble_eq_true rfl) (fun H locs w22 e23 Z => ?_)
    have e23 : w22 = va_up w17 tr (some (cTrk (nx L kn) ((nI L.length) - (nI (kn + 1))))) := e23
    have k24 : w22 a9 = some (cVeh d.1 d.2.1 d.2.2.1 ro fo2) := by rw [e23]; exact lk_ne (ad_ne k19 k21 (dx_oo (by decide))) k19
    have k25 : w22 to = some (cTrk (hd L) (sz2 + (nI (kn + 1)))) := by rw [e23]; exact lk_ne (Ne.symm hne) k20
    have k26 : w22 tr = some (cTrk (nx L kn) ((nI L.length) - (nI (kn + 1)))) := by rw [e23]; exact up_eq
    refine lv_iconst (v := 1) X.1 X.2.1 dX2_moveFirst_62 (by decide) ?_
    exact f_zret X hr hlk Z (Nat.le_of_ble_eq_true rfl) (Nat.le_of_ble_eq_true rfl) dX2_moveFirst_63 (by decide) (Or.inr ⟨a9, d, ro, hd1, hc, rfl, by rw [e23, e18, e13, e8, e3, va_uu, va_uu]⟩)
  · subst c9
    rw [nI_pred, vix_n (by omega)] at hr4
    refine lv_iconst (v := 0) X.1 X.2.1 dX2_moveFirst_12 (by decide) ?_
    exact f_zret X hr hlk Z (Nat.le_of_ble_eq_true rfl) (Nat.le_of_ble_eq_true rfl) dX2_moveFirst_13 (by decide) (Or.inl ⟨by have := mfn hr4; exact List.getElem?_eq_none this, rfl, rfl⟩)
set_option maxHeartbeats 4000000 in
set_option maxRecDepth 100000 in
theorem c_X2_appendAll (l : Launch) (G : gT) (w : wT) (tr ot : Nat) (L : LV) (fo2 : Option Nat) (sz2 : Int32) (ht : trk G w tr L) (h2 : w ot = some (cTrk fo2 sz2)) (hne : tr ≠ ot) : Met l yX2_appendAll wsX2_appendAll ({ frames := 1, cells := 0, slots := 0, locals := 23 }) (va_Pc [.ref tr, .ref ot] (wG G w)) (Qi G (fun r w' => (L = [] ∧ r = 0 ∧ w' = w) ∨ ∃ kn a d ro, L.length = kn + 1 ∧ L[kn]? = some (a, d) ∧ w a = some (cVeh d.1 d.2.1 d.2.2.1 ro (nx L kn)) ∧ r = 1 ∧ w' = va_up (va_up (va_up w a (some (cVeh d.1 d.2.1 d.2.2.1 ro fo2))) tr (some (cTrk (hd L) (nI L.length + sz2)))) ot (some (cTrk none 0)))) 0 0 (fr G) := by
  refine f_met (cc := cX2_appendAll) (maxL := 3) (ret := (some .boolean)) (by decide) rfl rfl (Nat.le_of_ble_eq_true rfl) ?_
  intro p e s m below meth cd X hr hlk hnm Z ls hl
  have X : CallFix p m cd cX2_appendAll 3 s [.ref tr, .ref ot].toArray wsX2_appendAll RX2 := X
  have hl : lV ls _ [some (.ref tr), some (.ref ot), none] := hl
  have i2 : ∀ w ∈ wsX20, w ∈ wsX2_appendAll := by decide +kernel
  have i3 : ∀ w ∈ wsX30, w ∈ wsX2_appendAll := by decide +kernel
  obtain ⟨h1, hL, hn⟩ := id ht
  refine f_aload (v := .ref tr) X hl ⟨_, rfl, dX2_appendAll_0⟩ rfl ⟨(some tr), rfl⟩ ?_
  refine f_aload (v := .ref tr) X hl ⟨_, rfl, dX2_appendAll_1⟩ rfl ⟨(some tr), rfl⟩ ?_
  refine f_get (v := .int (nI L.length)) (k := 1) X Z i2 rfl (by decide) (by decide +kernel) dX2_appendAll_2 h1 rfl ?_
  refine lv_iconst (v := 1) X.1 X.2.1 dX2_appendAll_5 (by decide) ?_
  refine lv_isub X.1 X.2.1 dX2_appendAll_6 ?_
  refine f_callVq (rest := []) X Z hl.1 (c_X2_vehicleAt l G w tr L _ ht) (cwV 1 X.2.2.2.2 gX2_appendAll_X2_vehicleAt rfl rfl rfl (by decide +kernel) ⟨(Nat.le_of_ble_eq_true rfl), (Nat.le_of_ble_eq_true rfl)⟩) rfl rfl dX2_appendAll_7 ⟨(Nat.le_of_ble_eq_true rfl), (Nat.le_of_ble_eq_true rfl)⟩ rfl (Nat.le_of_ble_eq_true rfl) h1 (fun r7 w1 H locs p7 Z => ?_)
  obtain ⟨w1e, hr7⟩ := p7
  have w1e := w1e.symm
  subst w1e
  refine f_astore X hl ⟨_, rfl, dX2_appendAll_10⟩ (by decide) ⟨r7, rfl⟩ (fun ls hl => ?_)
  have hl : lV ls _ [some (.ref tr), some (.ref ot), some (va_rf r7)] := hl
  refine f_aload (v := va_rf r7) X hl ⟨_, rfl, dX2_appendAll_11⟩ rfl ⟨r7, rfl⟩ ?_
  refine f_ifnonnull (tgt := 17) X dX2_appendAll_12 (by decide) (fun a12 c12 => ?_) (fun c12 => ?_)
  · subst c12
    obtain ⟨kn, hkl⟩ : ∃ kn, L.length = kn + 1 := by
      cases hq : L.length with
      | zero => rw [hq, show nI 0 - 1 = (-1 : Int32) from by decide, vix_neg (by decide)] at hr7; cases hr7
      | succ kn => exact ⟨kn, rfl⟩
    rw [hkl, nI_pred, vix_n (by omega)] at hr7
    obtain ⟨d, hd1⟩ := mf (hr7)
    obtain ⟨ro, hc, hro⟩ := hn kn a12 d hd1
    refine f_aload (v := .ref a12) X hl ⟨_, rfl, dX2_appendAll_17⟩ rfl ⟨(some a12), rfl⟩ ?_
    refine f_aload (v := .ref ot) X hl ⟨_, rfl, dX2_appendAll_18⟩ rfl ⟨(some ot), rfl⟩ ?_
    refine f_get (v := va_rf fo2) (k := 0) X Z i2 rfl (by decide) (by decide +kernel) dX2_appendAll_19 h2 rfl ?_
    refine f_put (v := va_rf fo2) (ty0 := tyX3) (k := 4) X Z i3 tyX3_ok nmX3 rfl (by decide) (by decide +kernel) rfl dX2_appendAll_22 hc (nr_o _ fo2) (ft_o _ fo2) (Nat.le_of_ble_eq_true rfl) (fun H locs w2 e3 Z => ?_)
    have e3 : w2 = va_up w a12 (some (cVeh d.1 d.2.1 d.2.2.1 ro fo2)) := e3
    have k4 : w2 tr = some (cTrk (hd L) (nI L.length)) := by rw [e3]; exact lk_ne (ad_ne h1 hc (dx_oo (by decide))) h1
    have k5 : w2 ot = some (cTrk fo2 sz2) := by rw [e3]; exact lk_ne (ad_ne h2 hc (dx_oo (by decide))) h2
    have k6 : w2 a12 = some (cVeh d.1 d.2.1 d.2.2.1 ro fo2) := by rw [e3]; exact up_eq
    refine f_aload (v := .ref tr) X hl ⟨_, rfl, dX2_appendAll_25⟩ rfl ⟨(some tr), rfl⟩ ?_
    refine lv_dup X.1 X.2.1 dX2_appendAll_26 rfl ?_
    refine f_get (v := .int (nI L.length)) (k := 1) X Z i2 rfl (by decide) (by decide +kernel) dX2_appendAll_27 k4 rfl ?_
    refine f_aload (v := .ref ot) X hl ⟨_, rfl, dX2_appendAll_30⟩ rfl ⟨(some ot), rfl⟩ ?_
    refine f_get (v := .int sz2) (k := 1) X Z i2 rfl (by decide) (by decide +kernel) dX2_appendAll_31 k5 rfl ?_
    refine lv_iadd X.1 X.2.1 dX2_appendAll_34 ?_
    refine f_put (v := .int ((nI L.length) + sz2)) (ty0 := tyX2) (k := 1) X Z i2 tyX2_ok nmX2 rfl (by decide) (by decide +kernel) rfl dX2_appendAll_35 k4 rfl rfl (Nat.le_of_ble_eq_true rfl) (fun H locs w7 e8 Z => ?_)
    have e8 : w7 = va_up w2 tr (some (cTrk (hd L) ((nI L.length) + sz2))) := e8
    have k9 : w7 ot = some (cTrk fo2 sz2) := by rw [e8]; exact lk_ne (Ne.symm hne) k5
    have k10 : w7 a12 = some (cVeh d.1 d.2.1 d.2.2.1 ro fo2) := by rw [e8]; exact lk_ne (ad_ne k6 k4 (dx_oo (by decide))) k6
    have k11 : w7 tr = some (cTrk (hd L) ((nI L.length) + sz2)) := by rw [e8]; exact up_eq
    refine f_aload (v := .ref ot) X hl ⟨_, rfl, dX2_appendAll_38⟩ rfl ⟨(some ot), rfl⟩ ?_
    refine lv_null X.1 X.2.1 dX2_appendAll_39 ?_
    refine f_put (v := .null) (ty0 := tyX2) (k := 0) X Z i2 tyX2_ok nmX2 rfl (by decide) (by decide +kernel) rfl dX2_appendAll_40 k9 (nr_o _ none) (ft_o _ none) (Nat.le_of_ble_eq_true rfl) (fun H locs w12 e13 Z => ?_)
    have e13 : w12 = va_up w7 ot (some (cTrk none sz2)) := e13
    have k14 : w12 a12 = some (cVeh d.1 d.2.1 d.2.2.1 ro fo2) := by rw [e13]; exact lk_ne (ad_ne k10 k9 (dx_oo (by decide))) k10
    have k15 : w12 tr = some (cTrk (hd L) ((nI L.length) + sz2)) := by rw [e13]; exact lk_ne hne k11
    have k16 : w12 ot = some (cTrk none sz2) := by rw [e13]; exact up_eq
    refine f_aload (v := .ref ot) X hl ⟨_, rfl, dX2_appendAll_43⟩ rfl ⟨(some ot), rfl⟩ ?_
    refine lv_iconst (v := 0) X.1 X.2.1 dX2_appendAll_44 (by decide) ?_
    refine f_put (v := .int 0) (ty0 := tyX2) (k := 1) X Z i2 tyX2_ok nmX2 rfl (by decide) (by decide +kernel) rfl dX2_appendAll_45 k16 rfl rfl (Nat.le_of_ble_eq_true rfl) (fun H locs w17 e18 Z => ?_)
    have e18 : w17 = va_up w12 ot (some (cTrk none 0)) := e18
    have k19 : w17 a12 = some (cVeh d.1 d.2.1 d.2.2.1 ro fo2) := by rw [e18]; exact lk_ne (ad_ne k14 k16 (dx_oo (by decide))) k14
    have k20 : w17 tr = some (cTrk (hd L) ((nI L.length) + sz2)) := by rw [e18]; exact lk_ne hne k15
    have k21 : w17 ot = some (cTrk none 0) := by rw [e18]; exact up_eq
    refine lv_iconst (v := 1) X.1 X.2.1 dX2_appendAll_48 (by decide) ?_
    exact f_zret X hr hlk Z (Nat.le_of_ble_eq_true rfl) (Nat.le_of_ble_eq_true rfl) dX2_appendAll_49 (by decide) (Or.inr ⟨kn, a12, d, ro, hkl, hd1, hc, rfl, by rw [e18, e13, e8, e3, va_uu]⟩)
  · subst c12
    refine lv_iconst (v := 0) X.1 X.2.1 dX2_appendAll_15 (by decide) ?_
    exact f_zret X hr hlk Z (Nat.le_of_ble_eq_true rfl) (Nat.le_of_ble_eq_true rfl) dX2_appendAll_16 (by decide) (Or.inl ⟨by
              cases hq : L.length with
              | zero => exact List.length_eq_zero_iff.mp hq
              | succ kn =>
                rw [hq, nI_pred, vix_n (by omega)] at hr7
                have := mfn hr7
                omega, rfl, rfl⟩)
end
section
def vopt (G : gT) (w : wT) (v : Option Nat) (od : Option VR) : Prop := (v = none ∧ od = none) ∨ ∃ a d bh, v = some a ∧ od = some d ∧ vehAt G w a d bh
theorem vopt_none {G : gT} {w : wT} {od : Option VR} (h : vopt G w none od) : od = none := by
  rcases h with ⟨-, h⟩ | ⟨a, d, bh, h, -⟩
  · exact h
  · cases h
theorem vopt_some {G : gT} {w : wT} {a : Nat} {od : Option VR} (h : vopt G w (some a) od) : ∃ d ro bh, od = some d ∧ w a = some (cVeh d.1 d.2.1 d.2.2.1 ro bh) ∧ rowAt G w ro d.2.2.2 := by
  rcases h with ⟨h, -⟩ | ⟨a', d, bh, h, h2, ro, h3, h4⟩
  · cases h
  · cases h; exact ⟨d, ro, bh, h2, h3, h4⟩
def isE (od : Option VR) : Bool := match od with
  | none => false
  | some d => decide (d.1.toInt = 1)
def whyR (od : Option VR) : Nat := match od with
  | none => 1
  | some d => if d.1.toInt = 1 then 2 else match d.2.2.2 with
    | none => 1
    | some _ => 0
def whyC (od : Option VR) (i : Int32) : Nat := match od with
  | none => 1
  | some d => if d.1.toInt = 1 then 2 else match d.2.2.2 with
    | none => 1
    | some q => if 0 ≤ i.toInt ∧ i.toInt < q.1 then 0 else 5
abbrev OS : Type := Option (Nat × Int32)
def sopt (G : gT) (w : wT) (sd : Option Nat) (os : OS) : Prop := (sd = none ∧ os = none) ∨ ∃ sa pa n b f, sd = some sa ∧ w sa = some (cSid (some pa) b) ∧ w pa = some (aV G n f) ∧ os = some (n, b) ∧ n ≤ 12
theorem sopt_none {G : gT} {w : wT} {os : OS} (h : sopt G w none os) : os = none := by
  rcases h with ⟨-, h⟩ | ⟨a, b, n, c, f, h, -⟩
  · exact h
  · cases h
theorem sopt_some {G : gT} {w : wT} {a : Nat} {os : OS} (h : sopt G w (some a) os) : ∃ pa n b f, w a = some (cSid (some pa) b) ∧ w pa = some (aV G n f) ∧ os = some (n, b) ∧ n ≤ 12 := by
  rcases h with ⟨h, -⟩ | ⟨sa, pa, n, b, f, h, h2⟩
  · cases h
  · cases h; exact ⟨pa, n, b, f, h2⟩
def whyP (os : OS) (p : Int32) : Nat := match os with
  | none => 1
  | some q => if 0 ≤ p.toInt ∧ p.toInt < q.1 then 0 else 5
abbrev OP : Type := Option (Nat × Nat)
def popt (G : gT) (w : wT) (pl : Option Nat) (op : OP) : Prop := (pl = none ∧ op = none) ∨ ∃ pa nu r c f, pl = some pa ∧ w pa = some (cPln (nI r) (nI c) (some nu)) ∧ w nu = some (aI G (r * c) f) ∧ op = some (r, c) ∧ r ≤ 12 ∧ c ≤ 12
theorem popt_none {G : gT} {w : wT} {os : OP} (h : popt G w none os) : os = none := by
  rcases h with ⟨-, h⟩ | ⟨a, b, n, c, f, h, -⟩
  · exact h
  · cases h
theorem popt_some {G : gT} {w : wT} {a : Nat} {os : OP} (h : popt G w (some a) os) : ∃ nu r c f, w a = some (cPln (nI r) (nI c) (some nu)) ∧ w nu = some (aI G (r * c) f) ∧ os = some (r, c) ∧ r ≤ 12 ∧ c ≤ 12 := by
  rcases h with ⟨h, -⟩ | ⟨sa, pa, n, b, f, h, h2⟩
  · cases h
  · cases h; exact ⟨pa, n, b, f, h2⟩
def whyL (op : OP) (i : Int32) : Nat := match op with
  | none => 1
  | some q => if 0 ≤ i.toInt ∧ i.toInt < q.1 then 0 else 5
def whyN (op : OP) (i j : Int32) : Nat := match op with
  | none => 1
  | some q => if (0 ≤ i.toInt ∧ i.toInt < q.1) ∧ 0 ≤ j.toInt ∧ j.toInt < q.2 then 0 else 5
theorem nI_toI {n : Nat} (h : n ≤ 12) : (nI n).toInt = (n : Int) := nI_toInt (by omega)
theorem whyR_C {od : Option VR} {i : Int32} (h : ¬ nI (whyR od) = 0) : whyR od = whyC od i := by
  cases od with
  | none => rfl
  | some d =>
    simp only [whyR, whyC] at h ⊢
    split
    · rfl
    · rename_i hne
      simp only [if_neg hne] at h
      cases hcr : d.2.2.2 with
      | none => rfl
      | some q => rw [hcr] at h; exact absurd rfl h
theorem whyR0 {G : gT} {w : wT} {v : Option Nat} {od : Option VR} (hv : vopt G w v od) (h : nI (whyR od) = 0) : ∃ (a : Nat) (d : VR) (ro n : Nat) (f : Nat → Int32), v = some a ∧ od = some d ∧ (∃ bh, w a = some (cVeh d.1 d.2.1 d.2.2.1 (some ro) bh)) ∧ ¬ d.1.toInt = 1 ∧ d.2.2.2 = some (n, f) ∧ n ≤ 12 ∧ w ro = some (aI G n f) := by
  rcases hv with ⟨-, rfl⟩ | ⟨a, d, bh, rfl, rfl, ro, h1, h2⟩
  · exact absurd h (by decide)
  · simp only [whyR] at h
    by_cases hne : d.1.toInt = 1
    · rw [if_pos hne] at h; exact absurd h (by decide)
    · rw [if_neg hne] at h
      cases hcr : d.2.2.2 with
      | none => rw [hcr] at h; exact absurd h (by decide)
      | some q =>
        obtain ⟨n, f⟩ := q
        rw [hcr] at h2
        obtain ⟨h3, r, rfl, h4⟩ := h2
        exact ⟨a, d, r, n, f, rfl, rfl, ⟨bh, h1⟩, hne, hcr, h3, h4⟩
theorem whyL_N {op : OP} {i j : Int32} (h : ¬ nI (whyL op i) = 0) : whyL op i = whyN op i j := by
  cases op with
  | none => rfl
  | some q =>
    simp only [whyL, whyN] at h ⊢
    split
    · rename_i h1; rw [if_pos h1] at h; exact absurd rfl h
    · rename_i h1; rw [if_neg (fun z => h1 z.1)]
theorem whyL0 {G : gT} {w : wT} {pl : Option Nat} {op : OP} {i : Int32} (hs : popt G w pl op) (h : nI (whyL op i) = 0) : ∃ (pa nu r c : Nat) (f : Nat → Int32), pl = some pa ∧ w pa = some (cPln (nI r) (nI c) (some nu)) ∧ w nu = some (aI G (r * c) f) ∧ op = some (r, c) ∧ r ≤ 12 ∧ c ≤ 12 ∧ (0 ≤ i.toInt ∧ i.toInt < r) := by
  rcases hs with ⟨-, rfl⟩ | ⟨pa, nu, r, c, f, rfl, h1, h2, rfl, h3, h4⟩
  · exact absurd h (by show ¬ nI 1 = 0; decide)
  · simp only [whyL] at h
    by_cases hi : 0 ≤ i.toInt ∧ i.toInt < r
    · exact ⟨pa, nu, r, c, f, rfl, h1, h2, rfl, h3, h4, hi⟩
    · rw [if_neg hi] at h; exact absurd h (by decide)
set_option maxHeartbeats 4000000 in
set_option maxRecDepth 100000 in
theorem c_X4_isEngine2 (l : Launch) (G : gT) (w : wT) (v : Option Nat) (od : Option VR) (hv : vopt G w v od) : Met l yX4_isEngine wsX4_isEngine ({ frames := 0, cells := 0, slots := 0, locals := 0 }) (va_Pc [va_rf v] (wG G w)) (Qi G (fun r w' => w' = w ∧ r = bI (isE od = true))) 0 0 (fr G) := by
  refine f_met (cc := cX4_isEngine) (maxL := 1) (ret := (some .boolean)) (by decide) rfl (by cases v <;> rfl) (Nat.le_of_ble_eq_true rfl) ?_
  intro p e s m below meth cd X hr hlk hnm Z ls hl
  have X : CallFix p m cd cX4_isEngine 1 s [va_rf v].toArray wsX4_isEngine RX4 := X
  have hl : lV ls _ [some (va_rf v)] := hl
  have i3 : ∀ w ∈ wsX30, w ∈ wsX4_isEngine := by decide +kernel
  refine f_aload (v := va_rf v) X hl ⟨_, rfl, dX4_isEngine_0⟩ rfl ⟨v, rfl⟩ ?_
  refine f_ifnull (tgt := 16) X dX4_isEngine_1 (by decide) (fun c1 => ?_) (fun a1 c1 => ?_)
  · subst c1
    have ho := vopt_none hv; subst ho
    refine lv_iconst (v := 0) X.1 X.2.1 dX4_isEngine_16 (by decide) ?_
    exact f_zret X hr hlk Z (Nat.le_of_ble_eq_true rfl) (Nat.le_of_ble_eq_true rfl) dX4_isEngine_17 (by decide) ⟨rfl, (bI_f (by simp [isE])).symm⟩
  · subst c1
    obtain ⟨d, ro, bh, ho, hc, hro⟩ := vopt_some hv
    subst ho
    refine f_aload (v := .ref a1) X hl ⟨_, rfl, dX4_isEngine_4⟩ rfl ⟨(some a1), rfl⟩ ?_
    refine f_get (v := .int d.1) (k := 0) X Z i3 rfl (by decide) (by decide +kernel) dX4_isEngine_5 hc rfl ?_
    refine lv_iconst (v := 1) X.1 X.2.1 dX4_isEngine_8 (by decide) ?_
    refine lv_icmp_ne (tgt := 16) X.1 X.2.1 dX4_isEngine_9 (by decide) (fun c9 => ?_) (fun c9 => ?_)
    · refine lv_iconst (v := 0) X.1 X.2.1 dX4_isEngine_16 (by decide) ?_
      exact f_zret X hr hlk Z (Nat.le_of_ble_eq_true rfl) (Nat.le_of_ble_eq_true rfl) dX4_isEngine_17 (by decide) ⟨rfl, (bI_f (by simp only [isE, decide_eq_true_eq]; intro h; exact c9 (Int32.toInt_inj.mp h))).symm⟩
    · refine lv_iconst (v := 1) X.1 X.2.1 dX4_isEngine_12 (by decide) ?_
      refine lv_goto (tgt := 17) X.1 X.2.1 dX4_isEngine_13 (by decide) ?_
      exact f_zret X hr hlk Z (Nat.le_of_ble_eq_true rfl) (Nat.le_of_ble_eq_true rfl) dX4_isEngine_17 (by decide) ⟨rfl, (bI_t (by simp only [isE, decide_eq_true_eq]; rw [c9]; rfl)).symm⟩
set_option maxHeartbeats 4000000 in
set_option maxRecDepth 100000 in
theorem c_X1_init (l : Launch) (G : gT) (w : wT) (sd nn : Nat) (b : Int32) (hnn : nn ≤ 12) (hb : b = 0 ∨ b = 1) (h1 : w sd = some (cSid none 0)) : Met l yX1_init wsX1_init ({ frames := 1, cells := 1, slots := 12, locals := 16 }) (va_Pc [.ref sd, .int (nI nn), .int b] (wG G w)) (Qv G (fun w' => ∃ q, w q = none ∧ w' = va_up (va_up w q (some (aV G nn (fun _ => none)))) sd (some (cSid (some q) b)))) 1 12 (fr G) := by
  refine f_met (cc := cX1_init) (maxL := 3) (ret := none) (by decide) rfl rfl (Nat.le_of_ble_eq_true rfl) ?_
  intro p e s m below meth cd X hr hlk hnm Z ls hl
  have X : CallFix p m cd cX1_init 3 s [.ref sd, .int (nI nn), .int b].toArray wsX1_init RX1 := X
  have hl : lV ls _ [some (.ref sd), some (.int (nI nn)), some (.int b)] := hl
  have i1 : ∀ w ∈ wsX10, w ∈ wsX1_init := by decide +kernel
  refine f_aload (v := .ref sd) X hl ⟨_, rfl, dX1_init_0⟩ rfl ⟨(some sd), rfl⟩ ?_
  refine W.objInit X.1 X.2.1 X.2.2.2.1 (X.2.2.2.2 (.methodLink RX1 3 objectInit) (by decide +kernel)) (X.2.2.2.2 (.instanceMethod objectInit) (by decide +kernel)) (X.2.2.2.2 (.code objectInit ⟨#[0xb1]⟩ 1 none) (by decide +kernel)) rfl (by rw [X.2.2.1]; exact hl.1) rfl dX1_init_1 (Nat.le_of_ble_eq_true rfl) (Nat.le_of_ble_eq_true rfl) ?_
  refine W.eq (g2 := F0 m 4 ls []) rfl ?_
  refine f_aload (v := .ref sd) X hl ⟨_, rfl, dX1_init_4⟩ rfl ⟨(some sd), rfl⟩ ?_
  refine f_iload X hl ⟨_, rfl, dX1_init_5⟩ rfl ?_
  refine f_anew (ti := 3) X Z rfl (by decide +kernel) Z.2.2.2.2.2.1 (nI_pos (by omega)) (nI_clamp (by omega)) (by omega) (Nat.le_of_ble_eq_true rfl) (show 0 + nn ≤ 12 by omega) dX1_init_6 (fun q6 H w1 hq6 e2 Z => ?_)
  have e2 : w1 = va_up w q6 (some (aV G nn (fun _ => none))) := e2
  have k3 : w1 sd = some (cSid none 0) := by rw [e2]; exact lk_ne (ad_new h1 hq6) h1
  have k4 : w1 q6 = some (aV G nn (fun _ => none)) := by rw [e2]; exact up_eq
  refine f_putF (v := .ref q6) (ty0 := tyX1) (k := 0) X Z i1 tyX1_ok nmX1 rfl (by decide) (by decide +kernel) rfl hnm rfl dX1_init_9 k3 (nr_a _ (some q6)) (ft_a _ (some q6)) (Nat.le_of_ble_eq_true rfl) (fun H locs w5 e6 Z => ?_)
  have e6 : w5 = va_up w1 sd (some (cSid (some q6) 0)) := e6
  have k7 : w5 q6 = some (aV G nn (fun _ => none)) := by rw [e6]; exact lk_ne (ad_ne k4 k3 dx_io) k4
  have k8 : w5 sd = some (cSid (some q6) 0) := by rw [e6]; exact up_eq
  refine f_aload (v := .ref sd) X hl ⟨_, rfl, dX1_init_12⟩ rfl ⟨(some sd), rfl⟩ ?_
  refine f_iload X hl ⟨_, rfl, dX1_init_13⟩ rfl ?_
  refine f_putF (v := .int b) (ty0 := tyX1) (k := 1) X Z i1 tyX1_ok nmX1 rfl (by decide) (by decide +kernel) rfl hnm rfl dX1_init_14 k8 (by rcases hb with rfl | rfl <;> rfl) (by rcases hb with rfl | rfl <;> rfl) (Nat.le_of_ble_eq_true rfl) (fun H locs w9 e10 Z => ?_)
  have e10 : w9 = va_up w5 sd (some (cSid (some q6) b)) := e10
  have k11 : w9 q6 = some (aV G nn (fun _ => none)) := by rw [e10]; exact lk_ne (ad_ne k7 k8 dx_io) k7
  have k12 : w9 sd = some (cSid (some q6) b) := by rw [e10]; exact up_eq
  exact f_vret X hr hlk Z (Nat.le_of_ble_eq_true rfl) (show 0 + nn ≤ 12 by omega) dX1_init_17 ⟨q6, hq6, by rw [e10, e6, e2, va_uu]⟩
set_option maxHeartbeats 4000000 in
set_option maxRecDepth 100000 in
theorem c_X1_accepts (l : Launch) (G : gT) (w : wT) (sd v : Nat) (pl : Option Nat) (b so we de : Int32) (ro bh : Option Nat) (h1 : w sd = some (cSid pl b)) (h2 : w v = some (cVeh so we de ro bh)) : Met l yX1_accepts wsX1_accepts ({ frames := 0, cells := 0, slots := 0, locals := 0 }) (va_Pc [.ref sd, .ref v] (wG G w)) (Qi G (fun r w' => w' = w ∧ r = bI (b = 0 ∨ so = 3))) 0 0 (fr G) := by
  refine f_met (cc := cX1_accepts) (maxL := 2) (ret := (some .boolean)) (by decide) rfl rfl (Nat.le_of_ble_eq_true rfl) ?_
  intro p e s m below meth cd X hr hlk hnm Z ls hl
  have X : CallFix p m cd cX1_accepts 2 s [.ref sd, .ref v].toArray wsX1_accepts RX1 := X
  have hl : lV ls _ [some (.ref sd), some (.ref v)] := hl
  have i1 : ∀ w ∈ wsX10, w ∈ wsX1_accepts := by decide +kernel
  have i3 : ∀ w ∈ wsX30, w ∈ wsX1_accepts := by decide +kernel
  refine f_aload (v := .ref sd) X hl ⟨_, rfl, dX1_accepts_0⟩ rfl ⟨(some sd), rfl⟩ ?_
  refine f_get (v := .int b) (k := 1) X Z i1 rfl (by decide) (by decide +kernel) dX1_accepts_1 h1 rfl ?_
  refine lv_if_eq (tgt := 15) X.1 X.2.1 dX1_accepts_4 (by decide) (fun c4 => ?_) (fun c4 => ?_)
  · refine lv_iconst (v := 1) X.1 X.2.1 dX1_accepts_15 (by decide) ?_
    refine lv_goto (tgt := 20) X.1 X.2.1 dX1_accepts_16 (by decide) ?_
    exact f_zret X hr hlk Z (Nat.le_of_ble_eq_true rfl) (Nat.le_of_ble_eq_true rfl) dX1_accepts_20 (by decide) ⟨rfl, (bI_t (Or.inl c4)).symm⟩
  · refine f_aload (v := .ref v) X hl ⟨_, rfl, dX1_accepts_7⟩ rfl ⟨(some v), rfl⟩ ?_
    refine f_get (v := .int so) (k := 0) X Z i3 rfl (by decide) (by decide +kernel) dX1_accepts_8 h2 rfl ?_
    refine lv_iconst (v := 3) X.1 X.2.1 dX1_accepts_11 (by decide) ?_
    refine lv_icmp_ne (tgt := 19) X.1 X.2.1 dX1_accepts_12 (by decide) (fun c12 => ?_) (fun c12 => ?_)
    · refine lv_iconst (v := 0) X.1 X.2.1 dX1_accepts_19 (by decide) ?_
      exact f_zret X hr hlk Z (Nat.le_of_ble_eq_true rfl) (Nat.le_of_ble_eq_true rfl) dX1_accepts_20 (by decide) ⟨rfl, (bI_f (fun h => h.elim c4 c12)).symm⟩
    · refine lv_iconst (v := 1) X.1 X.2.1 dX1_accepts_15 (by decide) ?_
      refine lv_goto (tgt := 20) X.1 X.2.1 dX1_accepts_16 (by decide) ?_
      exact f_zret X hr hlk Z (Nat.le_of_ble_eq_true rfl) (Nat.le_of_ble_eq_true rfl) dX1_accepts_20 (by decide) ⟨rfl, (bI_t (Or.inr c12)).symm⟩
set_option maxHeartbeats 4000000 in
set_option maxRecDepth 100000 in
theorem c_X0_init (l : Launch) (G : gT) (w : wT) (pn r k : Nat) (hr0 : r ≤ 12) (hk0 : k ≤ 12) (hrk : r * k ≤ 144) (h1 : w pn = some (cPln 0 0 none)) : Met l yX0_init wsX0_init ({ frames := 1, cells := 1, slots := 144, locals := 16 }) (va_Pc [.ref pn, .int (nI r), .int (nI k)] (wG G w)) (Qv G (fun w' => ∃ q, w q = none ∧ w' = va_up (va_up w q (some (aI G (r * k) (fun _ => 0)))) pn (some (cPln (nI r) (nI k) (some q))))) 1 144 (fr G) := by
  refine f_met (cc := cX0_init) (maxL := 3) (ret := none) (by decide) rfl rfl (Nat.le_of_ble_eq_true rfl) ?_
  intro p e s m below meth cd X hr hlk hnm Z ls hl
  have X : CallFix p m cd cX0_init 3 s [.ref pn, .int (nI r), .int (nI k)].toArray wsX0_init RX0 := X
  have hl : lV ls _ [some (.ref pn), some (.int (nI r)), some (.int (nI k))] := hl
  have i0 : ∀ w ∈ wsX00, w ∈ wsX0_init := by decide +kernel
  refine f_aload (v := .ref pn) X hl ⟨_, rfl, dX0_init_0⟩ rfl ⟨(some pn), rfl⟩ ?_
  refine W.objInit X.1 X.2.1 X.2.2.2.1 (X.2.2.2.2 (.methodLink RX0 1 objectInit) (by decide +kernel)) (X.2.2.2.2 (.instanceMethod objectInit) (by decide +kernel)) (X.2.2.2.2 (.code objectInit ⟨#[0xb1]⟩ 1 none) (by decide +kernel)) rfl (by rw [X.2.2.1]; exact hl.1) rfl dX0_init_1 (Nat.le_of_ble_eq_true rfl) (Nat.le_of_ble_eq_true rfl) ?_
  refine W.eq (g2 := F0 m 4 ls []) rfl ?_
  refine f_aload (v := .ref pn) X hl ⟨_, rfl, dX0_init_4⟩ rfl ⟨(some pn), rfl⟩ ?_
  refine f_iload X hl ⟨_, rfl, dX0_init_5⟩ rfl ?_
  refine f_putF (v := .int (nI r)) (ty0 := tyX0) (k := 0) X Z i0 tyX0_ok nmX0 rfl (by decide) (by decide +kernel) rfl hnm rfl dX0_init_6 h1 rfl rfl (Nat.le_of_ble_eq_true rfl) (fun H locs w1 e2 Z => ?_)
  have e2 : w1 = va_up w pn (some (cPln (nI r) 0 none)) := e2
  have k3 : w1 pn = some (cPln (nI r) 0 none) := by rw [e2]; exact up_eq
  refine f_aload (v := .ref pn) X hl ⟨_, rfl, dX0_init_9⟩ rfl ⟨(some pn), rfl⟩ ?_
  refine f_iload X hl ⟨_, rfl, dX0_init_10⟩ rfl ?_
  refine f_putF (v := .int (nI k)) (ty0 := tyX0) (k := 1) X Z i0 tyX0_ok nmX0 rfl (by decide) (by decide +kernel) rfl hnm rfl dX0_init_11 k3 rfl rfl (Nat.le_of_ble_eq_true rfl) (fun H locs w4 e5 Z => ?_)
  have e5 : w4 = va_up w1 pn (some (cPln (nI r) (nI k) none)) := e5
  have k6 : w4 pn = some (cPln (nI r) (nI k) none) := by rw [e5]; exact up_eq
  refine f_aload (v := .ref pn) X hl ⟨_, rfl, dX0_init_14⟩ rfl ⟨(some pn), rfl⟩ ?_
  refine f_iload X hl ⟨_, rfl, dX0_init_15⟩ rfl ?_
  refine f_iload X hl ⟨_, rfl, dX0_init_16⟩ rfl ?_
  refine lv_imul X.1 X.2.1 dX0_init_17 ?_
  refine f_newa (ti := 0) X Z rfl (by decide +kernel) rfl (fun _ h => by cases h) rfl (by rw [pk_mul]; exact nI_pos (by omega)) (by rw [pk_mul]; exact nI_clamp (by omega)) (show r * k * 4 ≤ 536870912 by omega) (Nat.le_of_ble_eq_true rfl) (show 0 + r * k ≤ 144 by omega) dX0_init_18 (fun q18 H w7 hq18 e8 Z => ?_)
  have e8 : w7 = va_up w4 q18 (some (aI G (r * k) (fun _ => 0))) := e8
  have k9 : w7 pn = some (cPln (nI r) (nI k) none) := by rw [e8]; exact lk_ne (ad_new k6 hq18) k6
  have k10 : w7 q18 = some (aI G (r * k) (fun _ => 0)) := by rw [e8]; exact up_eq
  refine f_putF (v := .ref q18) (ty0 := tyX0) (k := 2) X Z i0 tyX0_ok nmX0 rfl (by decide) (by decide +kernel) rfl hnm rfl dX0_init_20 k9 (nr_a _ (some q18)) (ft_a _ (some q18)) (Nat.le_of_ble_eq_true rfl) (fun H locs w11 e12 Z => ?_)
  have e12 : w11 = va_up w7 pn (some (cPln (nI r) (nI k) (some q18))) := e12
  have k13 : w11 q18 = some (aI G (r * k) (fun _ => 0)) := by rw [e12]; exact lk_ne (ad_ne k10 k9 dx_io) k10
  have k14 : w11 pn = some (cPln (nI r) (nI k) (some q18)) := by rw [e12]; exact up_eq
  exact f_vret X hr hlk Z (Nat.le_of_ble_eq_true rfl) (show 0 + r * k ≤ 144 by omega) dX0_init_23 (by
      have hpq : pn ≠ q18 := ad_new (by assumption) hq18
      rw [e5, e2, va_uu, up_ne hpq.symm] at hq18
      exact ⟨q18, hq18, by rw [e12, e8, e5, e2, va_uu, va_comm hpq, va_uu]⟩)
set_option maxHeartbeats 4000000 in
set_option maxRecDepth 100000 in
theorem c_X0_slot (l : Launch) (G : gT) (w : wT) (pn : Nat) (r k i j : Int32) (nu : Option Nat) (h1 : w pn = some (cPln r k nu)) : Met l yX0_slot wsX0_slot ({ frames := 0, cells := 0, slots := 0, locals := 0 }) (va_Pc [.ref pn, .int i, .int j] (wG G w)) (Qi G (fun v w' => w' = w ∧ v = i * k + j)) 0 0 (fr G) := by
  refine f_met (cc := cX0_slot) (maxL := 3) (ret := (some .int)) (by decide) rfl rfl (Nat.le_of_ble_eq_true rfl) ?_
  intro p e s m below meth cd X hr hlk hnm Z ls hl
  have X : CallFix p m cd cX0_slot 3 s [.ref pn, .int i, .int j].toArray wsX0_slot RX0 := X
  have hl : lV ls _ [some (.ref pn), some (.int i), some (.int j)] := hl
  have i0 : ∀ w ∈ wsX00, w ∈ wsX0_slot := by decide +kernel
  refine f_iload X hl ⟨_, rfl, dX0_slot_0⟩ rfl ?_
  refine f_aload (v := .ref pn) X hl ⟨_, rfl, dX0_slot_1⟩ rfl ⟨(some pn), rfl⟩ ?_
  refine f_get (v := .int k) (k := 1) X Z i0 rfl (by decide) (by decide +kernel) dX0_slot_2 h1 rfl ?_
  refine lv_imul X.1 X.2.1 dX0_slot_5 ?_
  refine f_iload X hl ⟨_, rfl, dX0_slot_6⟩ rfl ?_
  refine lv_iadd X.1 X.2.1 dX0_slot_7 ?_
  exact f_iret X hr hlk Z (Nat.le_of_ble_eq_true rfl) (Nat.le_of_ble_eq_true rfl) dX0_slot_8 ⟨rfl, rfl⟩
set_option maxHeartbeats 4000000 in
set_option maxRecDepth 100000 in
theorem c_X4_tell (l : Launch) (G : gT) (w : wT) (h0 ta to : Nat) (sd pl : Option Nat) (lv pc : Int32) (h1 : w h0 = some (cTs (some ta) (some to) sd pl lv pc)) (td : Nat → Int32) (k : Nat) (hk : k < 8) (h2 : w to = some (aI G 8 td)) : Met l yX4_tell wsX4_tell ({ frames := 0, cells := 0, slots := 0, locals := 0 }) (va_Pc [.ref h0, .int (nI k)] (wG G w)) (Qi G (fun r w' => r = -10 - nI k ∧ w' = va_up w to (some (aI G 8 (upd td k (td k + 1)))))) 0 0 (fr G) := by
  refine f_met (cc := cX4_tell) (maxL := 2) (ret := (some .int)) (by decide) rfl rfl (Nat.le_of_ble_eq_true rfl) ?_
  intro p e s m below meth cd X hr hlk hnm Z ls hl
  have X : CallFix p m cd cX4_tell 2 s [.ref h0, .int (nI k)].toArray wsX4_tell RX4 := X
  have hl : lV ls _ [some (.ref h0), some (.int (nI k))] := hl
  have i4 : ∀ w ∈ wsX40, w ∈ wsX4_tell := by decide +kernel
  refine f_aload (v := .ref h0) X hl ⟨_, rfl, dX4_tell_0⟩ rfl ⟨(some h0), rfl⟩ ?_
  refine f_get (v := .ref to) (k := 1) X Z i4 rfl (by decide) (by decide +kernel) dX4_tell_1 h1 rfl ?_
  refine f_iload X hl ⟨_, rfl, dX4_tell_4⟩ rfl ?_
  refine lv_dup2_11 X.1 X.2.1 dX4_tell_5 rfl rfl ?_
  refine f_iald X Z dX4_tell_6 h2 (vp_in_nI hk (by omega)) ?_
  refine lv_iconst (v := 1) X.1 X.2.1 dX4_tell_7 (by decide) ?_
  refine lv_iadd X.1 X.2.1 dX4_tell_8 ?_
  refine f_iast X Z dX4_tell_9 h2 (vp_in_nI hk (by omega)) (fun H locs w1 e2 Z => ?_)
  have e2 : w1 = va_up w to (some (aI G 8 (upd td (nI k).toNatClampNeg ((td (nI k).toNatClampNeg) + 1)))) := e2
  have k3 : w1 h0 = some (cTs (some ta) (some to) sd pl lv pc) := by rw [e2]; exact lk_ne (ad_ne h1 h2 dx_oi) h1
  have k4 : w1 to = some (aI G 8 (upd td (nI k).toNatClampNeg ((td (nI k).toNatClampNeg) + 1))) := by rw [e2]; exact up_eq
  refine lv_bipush (v := (-10)) X.1 X.2.1 dX4_tell_10 (by decide) ?_
  refine f_iload X hl ⟨_, rfl, dX4_tell_12⟩ rfl ?_
  refine lv_isub X.1 X.2.1 dX4_tell_13 ?_
  exact f_iret X hr hlk Z (Nat.le_of_ble_eq_true rfl) (Nat.le_of_ble_eq_true rfl) dX4_tell_14 ⟨rfl, by rw [e2, nI_clamp (by omega)]⟩
set_option maxHeartbeats 4000000 in
set_option maxRecDepth 100000 in
theorem c_X4_tellLevel (l : Launch) (G : gT) (w : wT) (h0 ta to : Nat) (sd pl : Option Nat) (lv pc : Int32) (h1 : w h0 = some (cTs (some ta) (some to) sd pl lv pc)) (td : Nat → Int32) (k : Nat) (x : Int32) (hk : k < 8) (h2 : w to = some (aI G 8 td)) : Met l yX4_tellLevel wsX4_tellLevel ({ frames := 1, cells := 0, slots := 0, locals := 21 }) (va_Pc [.ref h0, .int (nI k), .int x] (wG G w)) (Qi G (fun r w' => r = -10 - nI k ∧ w' = va_up (va_up w h0 (some (cTs (some ta) (some to) sd pl x pc))) to (some (aI G 8 (upd td k (td k + 1)))))) 0 0 (fr G) := by
  refine f_met (cc := cX4_tellLevel) (maxL := 3) (ret := (some .int)) (by decide) rfl rfl (Nat.le_of_ble_eq_true rfl) ?_
  intro p e s m below meth cd X hr hlk hnm Z ls hl
  have X : CallFix p m cd cX4_tellLevel 3 s [.ref h0, .int (nI k), .int x].toArray wsX4_tellLevel RX4 := X
  have hl : lV ls _ [some (.ref h0), some (.int (nI k)), some (.int x)] := hl
  have i4 : ∀ w ∈ wsX40, w ∈ wsX4_tellLevel := by decide +kernel
  refine f_aload (v := .ref h0) X hl ⟨_, rfl, dX4_tellLevel_0⟩ rfl ⟨(some h0), rfl⟩ ?_
  refine f_iload X hl ⟨_, rfl, dX4_tellLevel_1⟩ rfl ?_
  refine f_put (v := .int x) (ty0 := tyX4) (k := 4) X Z i4 tyX4_ok nmX4 rfl (by decide) (by decide +kernel) rfl dX4_tellLevel_2 h1 rfl rfl (Nat.le_of_ble_eq_true rfl) (fun H locs w1 e2 Z => ?_)
  have e2 : w1 = va_up w h0 (some (cTs (some ta) (some to) sd pl x pc)) := e2
  have k3 : w1 to = some (aI G 8 td) := by rw [e2]; exact lk_ne (ad_ne h2 h1 dx_io) h2
  have k4 : w1 h0 = some (cTs (some ta) (some to) sd pl x pc) := by rw [e2]; exact up_eq
  refine f_aload (v := .ref h0) X hl ⟨_, rfl, dX4_tellLevel_5⟩ rfl ⟨(some h0), rfl⟩ ?_
  refine f_iload X hl ⟨_, rfl, dX4_tellLevel_6⟩ rfl ?_
  refine f_callVi (rest := []) X Z hl.1 (c_X4_tell l G w1 h0 ta to sd pl x pc k4 td k hk k3) (cwV 1 X.2.2.2.2 gX4_tellLevel_X4_tell rfl rfl rfl (by decide +kernel) ⟨(Nat.le_of_ble_eq_true rfl), (Nat.le_of_ble_eq_true rfl)⟩) rfl rfl dX4_tellLevel_7 ⟨(Nat.le_of_ble_eq_true rfl), (Nat.le_of_ble_eq_true rfl)⟩ rfl (Nat.le_of_ble_eq_true rfl) k4 (fun r7 w5 H locs p7 Z => ?_)
  obtain ⟨hr7, hw7⟩ := p7
  exact f_iret X hr hlk Z (Nat.le_of_ble_eq_true rfl) (Nat.le_of_ble_eq_true rfl) dX4_tellLevel_10 ⟨hr7, by rw [hw7, e2]⟩
set_option maxHeartbeats 4000000 in
set_option maxRecDepth 100000 in
theorem c_X4_whyNoRow (l : Launch) (G : gT) (w : wT) (v : Option Nat) (od : Option VR) (hv : vopt G w v od) : Met l yX4_whyNoRow wsX4_whyNoRow ({ frames := 1, cells := 0, slots := 0, locals := 20 }) (va_Pc [va_rf v] (wG G w)) (Qi G (fun r w' => w' = w ∧ r = nI (whyR od))) 0 0 (fr G) := by
  refine f_met (cc := cX4_whyNoRow) (maxL := 1) (ret := (some .int)) (by decide) rfl (by cases v <;> rfl) (Nat.le_of_ble_eq_true rfl) ?_
  intro p e s m below meth cd X hr hlk hnm Z ls hl
  have X : CallFix p m cd cX4_whyNoRow 1 s [va_rf v].toArray wsX4_whyNoRow RX4 := X
  have hl : lV ls _ [some (va_rf v)] := hl
  have i3 : ∀ w ∈ wsX30, w ∈ wsX4_whyNoRow := by decide +kernel
  refine f_aload (v := va_rf v) X hl ⟨_, rfl, dX4_whyNoRow_0⟩ rfl ⟨v, rfl⟩ ?_
  refine f_callSi (rest := []) X Z hl.1 (c_X4_isEngine2 l G w _ _ hv) (va_cwS 1 X.2.2.2.2 gX4_whyNoRow_X4_isEngine rfl rfl rfl (by decide +kernel) ⟨(Nat.le_of_ble_eq_true rfl), (Nat.le_of_ble_eq_true rfl)⟩) rfl dX4_whyNoRow_1 ⟨(Nat.le_of_ble_eq_true rfl), (Nat.le_of_ble_eq_true rfl)⟩ rfl (Nat.le_of_ble_eq_true rfl) (fun r1 w1 H locs p1 Z => ?_)
  obtain ⟨w1e, hr1⟩ := p1
  have w1e := w1e.symm
  subst w1e
  refine lv_if_eq (tgt := 9) X.1 X.2.1 dX4_whyNoRow_4 (by decide) (fun c4 => ?_) (fun c4 => ?_)
  · rw [hr1, bI_0] at c4
    refine f_aload (v := va_rf v) X hl ⟨_, rfl, dX4_whyNoRow_9⟩ rfl ⟨v, rfl⟩ ?_
    refine f_ifnull (tgt := 20) X dX4_whyNoRow_10 (by decide) (fun c10 => ?_) (fun a10 c10 => ?_)
    · subst c10
      have ho := vopt_none hv; subst ho
      refine lv_iconst (v := 1) X.1 X.2.1 dX4_whyNoRow_20 (by decide) ?_
      refine lv_goto (tgt := 25) X.1 X.2.1 dX4_whyNoRow_21 (by decide) ?_
      exact f_iret X hr hlk Z (Nat.le_of_ble_eq_true rfl) (Nat.le_of_ble_eq_true rfl) dX4_whyNoRow_25 ⟨rfl, rfl⟩
    · subst c10
      obtain ⟨d, ro, bh, ho, hc, hro⟩ := vopt_some hv
      subst ho
      refine f_aload (v := .ref a10) X hl ⟨_, rfl, dX4_whyNoRow_13⟩ rfl ⟨(some a10), rfl⟩ ?_
      refine f_get (v := va_rf ro) (k := 3) X Z i3 rfl (by decide) (by decide +kernel) dX4_whyNoRow_14 hc rfl ?_
      refine f_ifnonnull (tgt := 24) X dX4_whyNoRow_17 (by decide) (fun a17 c17 => ?_) (fun c17 => ?_)
      · subst c17
        obtain ⟨n, f, hcr, hn12, -⟩ := rowAt_some hro
        refine lv_iconst (v := 0) X.1 X.2.1 dX4_whyNoRow_24 (by decide) ?_
        exact f_iret X hr hlk Z (Nat.le_of_ble_eq_true rfl) (Nat.le_of_ble_eq_true rfl) dX4_whyNoRow_25 ⟨rfl, by simp only [isE, decide_eq_true_eq] at c4; simp only [whyR, hcr, if_neg c4]; rfl⟩
      · subst c17
        have hcr := rowAt_none hro
        refine lv_iconst (v := 1) X.1 X.2.1 dX4_whyNoRow_20 (by decide) ?_
        refine lv_goto (tgt := 25) X.1 X.2.1 dX4_whyNoRow_21 (by decide) ?_
        exact f_iret X hr hlk Z (Nat.le_of_ble_eq_true rfl) (Nat.le_of_ble_eq_true rfl) dX4_whyNoRow_25 ⟨rfl, by simp only [isE, decide_eq_true_eq] at c4; simp only [whyR, hcr, if_neg c4]; rfl⟩
  · rw [hr1, bI_0, Classical.not_not] at c4
    refine lv_iconst (v := 2) X.1 X.2.1 dX4_whyNoRow_7 (by decide) ?_
    exact f_iret X hr hlk Z (Nat.le_of_ble_eq_true rfl) (Nat.le_of_ble_eq_true rfl) dX4_whyNoRow_8 ⟨rfl, by
        cases od with
        | none => simp [isE] at c4
        | some d => simp only [isE, decide_eq_true_eq] at c4; simp only [whyR, c4, if_pos]; rfl⟩
set_option maxHeartbeats 4000000 in
set_option maxRecDepth 100000 in
theorem c_X4_whyNoCrate (l : Launch) (G : gT) (w : wT) (v : Option Nat) (od : Option VR) (i : Int32) (hv : vopt G w v od) : Met l yX4_whyNoCrate wsX4_whyNoCrate ({ frames := 2, cells := 0, slots := 0, locals := 40 }) (va_Pc [va_rf v, .int i] (wG G w)) (Qi G (fun r w' => w' = w ∧ r = nI (whyC od i))) 0 0 (fr G) := by
  refine f_met (cc := cX4_whyNoCrate) (maxL := 3) (ret := (some .int)) (by decide) rfl (by cases v <;> rfl) (Nat.le_of_ble_eq_true rfl) ?_
  intro p e s m below meth cd X hr hlk hnm Z ls hl
  have X : CallFix p m cd cX4_whyNoCrate 3 s [va_rf v, .int i].toArray wsX4_whyNoCrate RX4 := X
  have hl : lV ls _ [some (va_rf v), some (.int i), none] := hl
  have i3 : ∀ w ∈ wsX30, w ∈ wsX4_whyNoCrate := by decide +kernel
  refine f_aload (v := va_rf v) X hl ⟨_, rfl, dX4_whyNoCrate_0⟩ rfl ⟨v, rfl⟩ ?_
  refine f_callSi (rest := []) X Z hl.1 (c_X4_whyNoRow l G w _ _ hv) (va_cwS 1 X.2.2.2.2 gX4_whyNoCrate_X4_whyNoRow rfl rfl rfl (by decide +kernel) ⟨(Nat.le_of_ble_eq_true rfl), (Nat.le_of_ble_eq_true rfl)⟩) rfl dX4_whyNoCrate_1 ⟨(Nat.le_of_ble_eq_true rfl), (Nat.le_of_ble_eq_true rfl)⟩ rfl (Nat.le_of_ble_eq_true rfl) (fun r1 w1 H locs p1 Z => ?_)
  obtain ⟨w1e, hr1⟩ := p1
  have w1e := w1e.symm
  subst w1e
  refine f_istore X hl ⟨_, rfl, dX4_whyNoCrate_4⟩ (by decide) (fun ls hl => ?_)
  have hl : lV ls _ [some (va_rf v), some (.int i), some (.int r1)] := hl
  refine f_iload X hl ⟨_, rfl, dX4_whyNoCrate_5⟩ rfl ?_
  refine lv_if_eq (tgt := 11) X.1 X.2.1 dX4_whyNoCrate_6 (by decide) (fun c6 => ?_) (fun c6 => ?_)
  · rw [hr1] at c6
    obtain ⟨a1, d, ro, n, f, rfl, rfl, ⟨bh0, hc⟩, hne, hcr, h5, hcf⟩ := whyR0 hv c6
    refine f_iload X hl ⟨_, rfl, dX4_whyNoCrate_11⟩ rfl ?_
    refine lv_if_lt (tgt := 28) X.1 X.2.1 dX4_whyNoCrate_12 (by decide) (fun c12 => ?_) (fun c12 => ?_)
    · refine lv_iconst (v := 5) X.1 X.2.1 dX4_whyNoCrate_28 (by decide) ?_
      exact f_iret X hr hlk Z (Nat.le_of_ble_eq_true rfl) (Nat.le_of_ble_eq_true rfl) dX4_whyNoCrate_29 ⟨rfl, by
          have h6 := h5
          simp only [whyC, if_neg hne, hcr]; split <;> first | rfl | (exfalso; (try simp only [Int32.lt_iff_toInt_lt, Int32.le_iff_toInt_le, kc_0, nI_toI h5, nI_toI h6] at *; omega))⟩
    · refine f_iload X hl ⟨_, rfl, dX4_whyNoCrate_15⟩ rfl ?_
      refine f_aload (v := .ref a1) X hl ⟨_, rfl, dX4_whyNoCrate_16⟩ rfl ⟨(some a1), rfl⟩ ?_
      refine f_get (v := .ref ro) (k := 3) X Z i3 rfl (by decide) (by decide +kernel) dX4_whyNoCrate_17 hc rfl ?_
      refine f_alenI X Z dX4_whyNoCrate_20 hcf ?_
      refine lv_icmp_ge (tgt := 28) X.1 X.2.1 dX4_whyNoCrate_21 (by decide) (fun c21 => ?_) (fun c21 => ?_)
      · refine lv_iconst (v := 5) X.1 X.2.1 dX4_whyNoCrate_28 (by decide) ?_
        exact f_iret X hr hlk Z (Nat.le_of_ble_eq_true rfl) (Nat.le_of_ble_eq_true rfl) dX4_whyNoCrate_29 ⟨rfl, by
            have h6 := h5
            simp only [whyC, if_neg hne, hcr]; split <;> first | rfl | (exfalso; (try simp only [Int32.lt_iff_toInt_lt, Int32.le_iff_toInt_le, kc_0, nI_toI h5, nI_toI h6] at *; omega))⟩
      · refine lv_iconst (v := 0) X.1 X.2.1 dX4_whyNoCrate_24 (by decide) ?_
        refine lv_goto (tgt := 29) X.1 X.2.1 dX4_whyNoCrate_25 (by decide) ?_
        exact f_iret X hr hlk Z (Nat.le_of_ble_eq_true rfl) (Nat.le_of_ble_eq_true rfl) dX4_whyNoCrate_29 ⟨rfl, by
            have h6 := h5
            simp only [whyC, if_neg hne, hcr]; split <;> first | rfl | (exfalso; (try simp only [Int32.lt_iff_toInt_lt, Int32.le_iff_toInt_le, kc_0, nI_toI h5, nI_toI h6] at *; omega))⟩
  · refine f_iload X hl ⟨_, rfl, dX4_whyNoCrate_9⟩ rfl ?_
    exact f_iret X hr hlk Z (Nat.le_of_ble_eq_true rfl) (Nat.le_of_ble_eq_true rfl) dX4_whyNoCrate_10 ⟨rfl, by
        rw [hr1] at c6 ⊢
        exact congrArg nI (whyR_C c6)⟩
set_option maxHeartbeats 4000000 in
set_option maxRecDepth 100000 in
theorem c_X4_whyNoPlace (l : Launch) (G : gT) (w : wT) (h0 ta to : Nat) (sd pl : Option Nat) (lv pc : Int32) (h1 : w h0 = some (cTs (some ta) (some to) sd pl lv pc)) (os : OS) (p0 : Int32) (hs : sopt G w sd os) : Met l yX4_whyNoPlace wsX4_whyNoPlace ({ frames := 0, cells := 0, slots := 0, locals := 0 }) (va_Pc [.ref h0, .int p0] (wG G w)) (Qi G (fun r w' => w' = w ∧ r = nI (whyP os p0))) 0 0 (fr G) := by
  refine f_met (cc := cX4_whyNoPlace) (maxL := 2) (ret := (some .int)) (by decide) rfl rfl (Nat.le_of_ble_eq_true rfl) ?_
  intro p e s m below meth cd X hr hlk hnm Z ls hl
  have X : CallFix p m cd cX4_whyNoPlace 2 s [.ref h0, .int p0].toArray wsX4_whyNoPlace RX4 := X
  have hl : lV ls _ [some (.ref h0), some (.int p0)] := hl
  have i1 : ∀ w ∈ wsX10, w ∈ wsX4_whyNoPlace := by decide +kernel
  have i4 : ∀ w ∈ wsX40, w ∈ wsX4_whyNoPlace := by decide +kernel
  refine f_aload (v := .ref h0) X hl ⟨_, rfl, dX4_whyNoPlace_0⟩ rfl ⟨(some h0), rfl⟩ ?_
  refine f_get (v := va_rf sd) (k := 2) X Z i4 rfl (by decide) (by decide +kernel) dX4_whyNoPlace_1 h1 rfl ?_
  refine f_ifnonnull (tgt := 9) X dX4_whyNoPlace_4 (by decide) (fun a4 c4 => ?_) (fun c4 => ?_)
  · subst c4
    obtain ⟨pa, n, b, f, hc, hf, ho, h5⟩ := sopt_some hs
    subst ho
    refine f_iload X hl ⟨_, rfl, dX4_whyNoPlace_9⟩ rfl ?_
    refine lv_if_lt (tgt := 29) X.1 X.2.1 dX4_whyNoPlace_10 (by decide) (fun c10 => ?_) (fun c10 => ?_)
    · refine lv_iconst (v := 5) X.1 X.2.1 dX4_whyNoPlace_29 (by decide) ?_
      exact f_iret X hr hlk Z (Nat.le_of_ble_eq_true rfl) (Nat.le_of_ble_eq_true rfl) dX4_whyNoPlace_30 ⟨rfl, by
          have h6 := h5
          simp only [whyP]; split <;> first | rfl | (exfalso; (try simp only [Int32.lt_iff_toInt_lt, Int32.le_iff_toInt_le, kc_0, nI_toI h5, nI_toI h6] at *; omega))⟩
    · refine f_iload X hl ⟨_, rfl, dX4_whyNoPlace_13⟩ rfl ?_
      refine f_aload (v := .ref h0) X hl ⟨_, rfl, dX4_whyNoPlace_14⟩ rfl ⟨(some h0), rfl⟩ ?_
      refine f_get (v := .ref a4) (k := 2) X Z i4 rfl (by decide) (by decide +kernel) dX4_whyNoPlace_15 h1 rfl ?_
      refine f_get (v := .ref pa) (k := 0) X Z i1 rfl (by decide) (by decide +kernel) dX4_whyNoPlace_18 hc rfl ?_
      refine f_alenV X Z dX4_whyNoPlace_21 hf ?_
      refine lv_icmp_ge (tgt := 29) X.1 X.2.1 dX4_whyNoPlace_22 (by decide) (fun c22 => ?_) (fun c22 => ?_)
      · refine lv_iconst (v := 5) X.1 X.2.1 dX4_whyNoPlace_29 (by decide) ?_
        exact f_iret X hr hlk Z (Nat.le_of_ble_eq_true rfl) (Nat.le_of_ble_eq_true rfl) dX4_whyNoPlace_30 ⟨rfl, by
            have h6 := h5
            simp only [whyP]; split <;> first | rfl | (exfalso; (try simp only [Int32.lt_iff_toInt_lt, Int32.le_iff_toInt_le, kc_0, nI_toI h5, nI_toI h6] at *; omega))⟩
      · refine lv_iconst (v := 0) X.1 X.2.1 dX4_whyNoPlace_25 (by decide) ?_
        refine lv_goto (tgt := 30) X.1 X.2.1 dX4_whyNoPlace_26 (by decide) ?_
        exact f_iret X hr hlk Z (Nat.le_of_ble_eq_true rfl) (Nat.le_of_ble_eq_true rfl) dX4_whyNoPlace_30 ⟨rfl, by
            have h6 := h5
            simp only [whyP]; split <;> first | rfl | (exfalso; (try simp only [Int32.lt_iff_toInt_lt, Int32.le_iff_toInt_le, kc_0, nI_toI h5, nI_toI h6] at *; omega))⟩
  · subst c4
    have ho := sopt_none hs; subst ho
    refine lv_iconst (v := 1) X.1 X.2.1 dX4_whyNoPlace_7 (by decide) ?_
    exact f_iret X hr hlk Z (Nat.le_of_ble_eq_true rfl) (Nat.le_of_ble_eq_true rfl) dX4_whyNoPlace_8 ⟨rfl, rfl⟩
set_option maxHeartbeats 4000000 in
set_option maxRecDepth 100000 in
theorem c_X4_whyNoPlanRow (l : Launch) (G : gT) (w : wT) (h0 ta to : Nat) (sd pl : Option Nat) (lv pc : Int32) (h1 : w h0 = some (cTs (some ta) (some to) sd pl lv pc)) (op : OP) (i : Int32) (hs : popt G w pl op) : Met l yX4_whyNoPlanRow wsX4_whyNoPlanRow ({ frames := 0, cells := 0, slots := 0, locals := 0 }) (va_Pc [.ref h0, .int i] (wG G w)) (Qi G (fun r w' => w' = w ∧ r = nI (whyL op i))) 0 0 (fr G) := by
  refine f_met (cc := cX4_whyNoPlanRow) (maxL := 2) (ret := (some .int)) (by decide) rfl rfl (Nat.le_of_ble_eq_true rfl) ?_
  intro p e s m below meth cd X hr hlk hnm Z ls hl
  have X : CallFix p m cd cX4_whyNoPlanRow 2 s [.ref h0, .int i].toArray wsX4_whyNoPlanRow RX4 := X
  have hl : lV ls _ [some (.ref h0), some (.int i)] := hl
  have i0 : ∀ w ∈ wsX00, w ∈ wsX4_whyNoPlanRow := by decide +kernel
  have i4 : ∀ w ∈ wsX40, w ∈ wsX4_whyNoPlanRow := by decide +kernel
  refine f_aload (v := .ref h0) X hl ⟨_, rfl, dX4_whyNoPlanRow_0⟩ rfl ⟨(some h0), rfl⟩ ?_
  refine f_get (v := va_rf pl) (k := 3) X Z i4 rfl (by decide) (by decide +kernel) dX4_whyNoPlanRow_1 h1 rfl ?_
  refine f_ifnonnull (tgt := 9) X dX4_whyNoPlanRow_4 (by decide) (fun a4 c4 => ?_) (fun c4 => ?_)
  · subst c4
    obtain ⟨nu, r, k, f, hc, hf, ho, h5, h6⟩ := popt_some hs
    subst ho
    refine f_iload X hl ⟨_, rfl, dX4_whyNoPlanRow_9⟩ rfl ?_
    refine lv_if_lt (tgt := 28) X.1 X.2.1 dX4_whyNoPlanRow_10 (by decide) (fun c10 => ?_) (fun c10 => ?_)
    · refine lv_iconst (v := 5) X.1 X.2.1 dX4_whyNoPlanRow_28 (by decide) ?_
      exact f_iret X hr hlk Z (Nat.le_of_ble_eq_true rfl) (Nat.le_of_ble_eq_true rfl) dX4_whyNoPlanRow_29 ⟨rfl, by
          simp only [whyL]; split <;> first | rfl | (exfalso; (try simp only [Int32.lt_iff_toInt_lt, Int32.le_iff_toInt_le, kc_0, nI_toI h5, nI_toI h6] at *; omega))⟩
    · refine f_iload X hl ⟨_, rfl, dX4_whyNoPlanRow_13⟩ rfl ?_
      refine f_aload (v := .ref h0) X hl ⟨_, rfl, dX4_whyNoPlanRow_14⟩ rfl ⟨(some h0), rfl⟩ ?_
      refine f_get (v := .ref a4) (k := 3) X Z i4 rfl (by decide) (by decide +kernel) dX4_whyNoPlanRow_15 h1 rfl ?_
      refine f_get (v := .int (nI r)) (k := 0) X Z i0 rfl (by decide) (by decide +kernel) dX4_whyNoPlanRow_18 hc rfl ?_
      refine lv_icmp_ge (tgt := 28) X.1 X.2.1 dX4_whyNoPlanRow_21 (by decide) (fun c21 => ?_) (fun c21 => ?_)
      · refine lv_iconst (v := 5) X.1 X.2.1 dX4_whyNoPlanRow_28 (by decide) ?_
        exact f_iret X hr hlk Z (Nat.le_of_ble_eq_true rfl) (Nat.le_of_ble_eq_true rfl) dX4_whyNoPlanRow_29 ⟨rfl, by
            simp only [whyL]; split <;> first | rfl | (exfalso; (try simp only [Int32.lt_iff_toInt_lt, Int32.le_iff_toInt_le, kc_0, nI_toI h5, nI_toI h6] at *; omega))⟩
      · refine lv_iconst (v := 0) X.1 X.2.1 dX4_whyNoPlanRow_24 (by decide) ?_
        refine lv_goto (tgt := 29) X.1 X.2.1 dX4_whyNoPlanRow_25 (by decide) ?_
        exact f_iret X hr hlk Z (Nat.le_of_ble_eq_true rfl) (Nat.le_of_ble_eq_true rfl) dX4_whyNoPlanRow_29 ⟨rfl, by
            simp only [whyL]; split <;> first | rfl | (exfalso; (try simp only [Int32.lt_iff_toInt_lt, Int32.le_iff_toInt_le, kc_0, nI_toI h5, nI_toI h6] at *; omega))⟩
  · subst c4
    have ho := popt_none hs; subst ho
    refine lv_iconst (v := 1) X.1 X.2.1 dX4_whyNoPlanRow_7 (by decide) ?_
    exact f_iret X hr hlk Z (Nat.le_of_ble_eq_true rfl) (Nat.le_of_ble_eq_true rfl) dX4_whyNoPlanRow_8 ⟨rfl, rfl⟩
set_option maxHeartbeats 4000000 in
set_option maxRecDepth 100000 in
theorem c_X4_whyNoNumber (l : Launch) (G : gT) (w : wT) (h0 ta to : Nat) (sd pl : Option Nat) (lv pc : Int32) (h1 : w h0 = some (cTs (some ta) (some to) sd pl lv pc)) (op : OP) (i j : Int32) (hs : popt G w pl op) : Met l yX4_whyNoNumber wsX4_whyNoNumber ({ frames := 1, cells := 0, slots := 0, locals := 21 }) (va_Pc [.ref h0, .int i, .int j] (wG G w)) (Qi G (fun r w' => w' = w ∧ r = nI (whyN op i j))) 0 0 (fr G) := by
  refine f_met (cc := cX4_whyNoNumber) (maxL := 4) (ret := (some .int)) (by decide) rfl rfl (Nat.le_of_ble_eq_true rfl) ?_
  intro p e s m below meth cd X hr hlk hnm Z ls hl
  have X : CallFix p m cd cX4_whyNoNumber 4 s [.ref h0, .int i, .int j].toArray wsX4_whyNoNumber RX4 := X
  have hl : lV ls _ [some (.ref h0), some (.int i), some (.int j), none] := hl
  have i0 : ∀ w ∈ wsX00, w ∈ wsX4_whyNoNumber := by decide +kernel
  have i4 : ∀ w ∈ wsX40, w ∈ wsX4_whyNoNumber := by decide +kernel
  refine f_aload (v := .ref h0) X hl ⟨_, rfl, dX4_whyNoNumber_0⟩ rfl ⟨(some h0), rfl⟩ ?_
  refine f_iload X hl ⟨_, rfl, dX4_whyNoNumber_1⟩ rfl ?_
  refine f_callVi (rest := []) X Z hl.1 (c_X4_whyNoPlanRow l G w h0 ta to sd pl lv pc h1 op i hs) (cwV 1 X.2.2.2.2 gX4_whyNoNumber_X4_whyNoPlanRow rfl rfl rfl (by decide +kernel) ⟨(Nat.le_of_ble_eq_true rfl), (Nat.le_of_ble_eq_true rfl)⟩) rfl rfl dX4_whyNoNumber_2 ⟨(Nat.le_of_ble_eq_true rfl), (Nat.le_of_ble_eq_true rfl)⟩ rfl (Nat.le_of_ble_eq_true rfl) h1 (fun r2 w1 H locs p2 Z => ?_)
  obtain ⟨w1e, hr2⟩ := p2
  have w1e := w1e.symm
  subst w1e
  refine f_istore X hl ⟨_, rfl, dX4_whyNoNumber_5⟩ (by decide) (fun ls hl => ?_)
  have hl : lV ls _ [some (.ref h0), some (.int i), some (.int j), some (.int r2)] := hl
  refine f_iload X hl ⟨_, rfl, dX4_whyNoNumber_6⟩ rfl ?_
  refine lv_if_eq (tgt := 12) X.1 X.2.1 dX4_whyNoNumber_7 (by decide) (fun c7 => ?_) (fun c7 => ?_)
  · rw [hr2] at c7
    obtain ⟨pa, nu, r, k, f, rfl, hc, hf, rfl, h5, h6, hin⟩ := whyL0 hs c7
    refine f_iload X hl ⟨_, rfl, dX4_whyNoNumber_12⟩ rfl ?_
    refine lv_if_lt (tgt := 31) X.1 X.2.1 dX4_whyNoNumber_13 (by decide) (fun c13 => ?_) (fun c13 => ?_)
    · refine lv_iconst (v := 5) X.1 X.2.1 dX4_whyNoNumber_31 (by decide) ?_
      exact f_iret X hr hlk Z (Nat.le_of_ble_eq_true rfl) (Nat.le_of_ble_eq_true rfl) dX4_whyNoNumber_32 ⟨rfl, by
          simp only [whyN]; split <;> first | rfl | (exfalso; (try simp only [Int32.lt_iff_toInt_lt, Int32.le_iff_toInt_le, kc_0, nI_toI h5, nI_toI h6] at *; omega))⟩
    · refine f_iload X hl ⟨_, rfl, dX4_whyNoNumber_16⟩ rfl ?_
      refine f_aload (v := .ref h0) X hl ⟨_, rfl, dX4_whyNoNumber_17⟩ rfl ⟨(some h0), rfl⟩ ?_
      refine f_get (v := .ref pa) (k := 3) X Z i4 rfl (by decide) (by decide +kernel) dX4_whyNoNumber_18 h1 rfl ?_
      refine f_get (v := .int (nI k)) (k := 1) X Z i0 rfl (by decide) (by decide +kernel) dX4_whyNoNumber_21 hc rfl ?_
      refine lv_icmp_ge (tgt := 31) X.1 X.2.1 dX4_whyNoNumber_24 (by decide) (fun c24 => ?_) (fun c24 => ?_)
      · refine lv_iconst (v := 5) X.1 X.2.1 dX4_whyNoNumber_31 (by decide) ?_
        exact f_iret X hr hlk Z (Nat.le_of_ble_eq_true rfl) (Nat.le_of_ble_eq_true rfl) dX4_whyNoNumber_32 ⟨rfl, by
            simp only [whyN]; split <;> first | rfl | (exfalso; (try simp only [Int32.lt_iff_toInt_lt, Int32.le_iff_toInt_le, kc_0, nI_toI h5, nI_toI h6] at *; omega))⟩
      · refine lv_iconst (v := 0) X.1 X.2.1 dX4_whyNoNumber_27 (by decide) ?_
        refine lv_goto (tgt := 32) X.1 X.2.1 dX4_whyNoNumber_28 (by decide) ?_
        exact f_iret X hr hlk Z (Nat.le_of_ble_eq_true rfl) (Nat.le_of_ble_eq_true rfl) dX4_whyNoNumber_32 ⟨rfl, by
            simp only [whyN]; split <;> first | rfl | (exfalso; (try simp only [Int32.lt_iff_toInt_lt, Int32.le_iff_toInt_le, kc_0, nI_toI h5, nI_toI h6] at *; omega))⟩
  · refine f_iload X hl ⟨_, rfl, dX4_whyNoNumber_10⟩ rfl ?_
    exact f_iret X hr hlk Z (Nat.le_of_ble_eq_true rfl) (Nat.le_of_ble_eq_true rfl) dX4_whyNoNumber_11 ⟨rfl, by
        rw [hr2] at c7 ⊢
        exact congrArg nI (whyL_N c7)⟩
end
section
/-! what each call answers and makes of the state: the document as a function -/
abbrev Yd : Type := (Nat → List VR) × OS × OP × (Nat → Nat → Int32) × Int32 × (Nat → Int32)
abbrev okT (t : Int32) : Prop := 0 ≤ t.toInt ∧ t.toInt < 6
abbrev okB (x a b : Int32) : Prop := a.toInt ≤ x.toInt ∧ x.toInt ≤ b.toInt
abbrev tn (t : Int32) : Nat := t.toNatClampNeg
def yno (k : Nat) (y : Yd) : Int32 × Yd := (-10 - nI k, y.1, y.2.1, y.2.2.1, y.2.2.2.1, y.2.2.2.2.1, upd y.2.2.2.2.2 k (y.2.2.2.2.2 k + 1))
def ylev (x : Int32) (y : Yd) : Yd := (y.1, y.2.1, y.2.2.1, y.2.2.2.1, x, y.2.2.2.2.2)
def yset (t : Nat) (l : List VR) (y : Yd) : Yd := (va_up y.1 t l, y.2)
def yat (y : Yd) (t k : Int32) : Option VR := (y.1 (tn t))[tn k]?
def yput (t k : Int32) (d : VR) (y : Yd) : Yd := yset (tn t) ((y.1 (tn t)).set (tn k) d) y
def sp_place (t so we : Int32) (y : Yd) : Int32 × Yd :=
  if okT t ∧ okB so 1 3 ∧ okB we 1 1000 then (nI ((y.1 (tn t)).length + 1), yset (tn t) ((so, we, 0, none) :: y.1 (tn t)) y) else (-1, y)
def sp_take (t : Int32) (y : Yd) : Int32 × Yd :=
  if okT t then match y.1 (tn t) with
    | [] => yno 1 y
    | d :: l => (ldOf d.2.1 d.2.2.2, yset (tn t) l y)
  else (-1, y)
def sp_shunt (f n t : Int32) (y : Yd) : Int32 × Yd :=
  if (okT f ∧ okT t ∧ f ≠ t) ∧ okB n 1 99 then
    (if tn n ≤ (y.1 (tn f)).length then (n, yset (tn t) ((y.1 (tn f)).take (tn n) ++ y.1 (tn t)) (yset (tn f) ((y.1 (tn f)).drop (tn n)) y)) else yno 1 y)
  else (-1, y)
def sp_couple (t o : Int32) (y : Yd) : Int32 × Yd :=
  if okT t ∧ okT o ∧ t ≠ o then
    (if y.1 (tn t) = [] then yno 1 y else (nI ((y.1 (tn t)).length + (y.1 (tn o)).length), yset (tn o) [] (yset (tn t) (y.1 (tn t) ++ y.1 (tn o)) y)))
  else (-1, y)
def sp_crates (t k n : Int32) (y : Yd) : Int32 × Yd :=
  if (okT t ∧ 0 ≤ k.toInt) ∧ n.toInt ≤ 12 then
    (if isE (yat y t k) = true then yno 2 y else if n.toInt < 0 then yno 4 y else match yat y t k with
      | none => yno 1 y
      | some d => (n, yput t k (d.1, d.2.1, d.2.2.1, some (tn n, fun _ => 0)) y))
  else (-1, y)
def sp_load (t k i x : Int32) (y : Yd) : Int32 × Yd :=
  if (okT t ∧ 0 ≤ k.toInt) ∧ okB x 0 99 then
    (if whyC (yat y t k) i ≠ 0 then yno (whyC (yat y t k) i) y else match yat y t k with
      | some (so, we, de, some (n, f)) => (x, yput t k (so, we, de, some (n, upd f (tn i) x)) y)
      | _ => (0, y))
  else (-1, y)
def sp_crate (t k i : Int32) (y : Yd) : Int32 × Yd :=
  if okT t ∧ 0 ≤ k.toInt then
    (if whyC (yat y t k) i ≠ 0 then yno (whyC (yat y t k) i) y else match yat y t k with
      | some (_, _, _, some (_, f)) => (f (tn i), y)
      | _ => (0, y))
  else (-1, y)
def sp_length (t k : Int32) (y : Yd) : Int32 × Yd :=
  if okT t ∧ 0 ≤ k.toInt then
    (if whyR (yat y t k) ≠ 0 then yno (whyR (yat y t k)) y else match yat y t k with
      | some (_, _, _, some (n, _)) => (nI n, y)
      | _ => (0, y))
  else (-1, y)
def sp_weigh (t k : Int32) (y : Yd) : Int32 × Yd :=
  if okT t ∧ 0 ≤ k.toInt then match yat y t k with
    | none => yno 1 y
    | some d => (ldOf d.2.1 d.2.2.2, y)
  else (-1, y)
def sp_defect (t k x : Int32) (y : Yd) : Int32 × Yd :=
  if (okT t ∧ 0 ≤ k.toInt) ∧ okB x 0 99 then match yat y t k with
    | none => yno 1 y
    | some d => (x, yput t k (d.1, d.2.1, x, d.2.2.2) y)
  else (-1, y)
def sp_report (t k : Int32) (y : Yd) : Int32 × Yd :=
  if okT t ∧ 0 ≤ k.toInt then match yat y t k with
    | none => yno 1 y
    | some d => if d.2.2.1 = 0 then yno 1 y else yno 7 (ylev d.2.2.1 y)
  else (-1, y)
def gV (d : VR) : Bool := decide (50 ≤ d.2.2.1.toInt)
def sp_draw (t : Int32) (y : Yd) : Int32 × Yd :=
  if okT t then match y.1 (tn t) with
    | [] => yno 1 y
    | d :: l => if d.1.toInt = 1 then match l.find? gV with
        | some b => yno 7 (ylev b.2.2.1 y)
        | none => if 0 < (sLd 0 l - 10 * d.2.1).toInt then yno 6 (ylev (sLd 0 l - 10 * d.2.1) y) else (sLd 0 l, y)
      else yno 2 y
  else (-1, y)
def sp_level (y : Yd) : Int32 × Yd := (y.2.2.2.2.1, y)
def yclr (T : Nat → List VR) : Nat → List VR := fun t => if t < 6 then T t else []
def sp_siding (n b : Int32) (y : Yd) : Int32 × Yd :=
  if n.toInt ≤ 12 then (if n.toInt < 0 then yno 4 y else (n, yclr y.1, some (tn n, b), y.2.2)) else (-1, y)
def sp_room (y : Yd) : Int32 × Yd := match y.2.1 with
  | none => yno 1 y
  | some q => (nI q.1, y)
def sp_stow (p t : Int32) (y : Yd) : Int32 × Yd :=
  if okT t then
    (if isE ((y.1 (tn t))[0]?) = true then yno 2 y else if whyP y.2.1 p ≠ 0 then yno (whyP y.2.1 p) y else match y.1 (tn t), y.2.1 with
      | [], _ => yno 1 (yset (6 + tn p) [] y)
      | d :: l, some (_, b) => if b = 0 ∨ d.1 = 3 then (nI l.length, yset (6 + tn p) [d] (yset (tn t) l y)) else yno 3 y
      | _, _ => (0, y))
  else (-1, y)
def sp_fetch (p t : Int32) (y : Yd) : Int32 × Yd :=
  if okT t then
    (if whyP y.2.1 p ≠ 0 then yno (whyP y.2.1 p) y else match y.1 (6 + tn p) with
      | [] => yno 1 y
      | d :: _ => (nI ((y.1 (tn t)).length + 1), yset (tn t) (d :: y.1 (tn t)) (yset (6 + tn p) [] y)))
  else (-1, y)
def sp_plan (n k : Int32) (y : Yd) : Int32 × Yd :=
  if n.toInt ≤ 12 ∧ k.toInt ≤ 12 then (if n.toInt < 0 ∨ k.toInt < 0 then yno 4 y else (n * k, y.1, y.2.1, some (tn n, tn k), fun _ _ => 0, y.2.2.2.2)) else (-1, y)
def upd2 (f : Nat → Nat → Int32) (i j : Nat) (x : Int32) : Nat → Nat → Int32 := fun a b => if a = i ∧ b = j then x else f a b
def sp_note (i j x : Int32) (y : Yd) : Int32 × Yd :=
  if okB x 0 99 then (if whyN y.2.2.1 i j ≠ 0 then yno (whyN y.2.2.1 i j) y else (x, y.1, y.2.1, y.2.2.1, upd2 y.2.2.2.1 (tn i) (tn j) x, y.2.2.2.2)) else (-1, y)
def sp_noted (i j : Int32) (y : Yd) : Int32 × Yd :=
  if whyN y.2.2.1 i j ≠ 0 then yno (whyN y.2.2.1 i j) y else (y.2.2.2.1 (tn i) (tn j), y)
def sp_wide (i : Int32) (y : Yd) : Int32 × Yd :=
  if whyL y.2.2.1 i ≠ 0 then yno (whyL y.2.2.1 i) y else match y.2.2.1 with
    | some q => (nI q.2, y)
    | none => (0, y)
def sp_away (x : Int32) (y : Yd) : Int32 × Yd :=
  if x = 0 then (bI (y.2.1 ≠ none), yclr y.1, none, y.2.2) else if x = 1 then (bI (y.2.2.1 ≠ none), y.1, y.2.1, none, y.2.2.2) else (-1, y)
def sp_about (t k x : Int32) (y : Yd) : Int32 × Yd :=
  if (okT t ∧ 0 ≤ k.toInt) ∧ okB x 0 3 then match yat y t k with
    | none => (0, y)
    | some d => (if x = 0 then d.1 else if x = 1 then d.2.1 else if x = 2 then d.2.2.1 else match d.2.2.2 with
        | none => 0
        | some q => nI q.1, y)
  else (-1, y)
def sp_count (t : Int32) (y : Yd) : Int32 × Yd := if okT t then (nI (y.1 (tn t)).length, y) else (-1, y)
def sp_reasons (k : Int32) (y : Yd) : Int32 × Yd := if okB k 1 7 then (y.2.2.2.2.2 (tn k), y) else (-1, y)
/-- what every state has: weights, crates, lengths within their bounds; c calls of place were made -/
def vok (d : VR) : Prop := okB d.1 1 3 ∧ okB d.2.1 1 1000 ∧ okB d.2.2.1 0 99 ∧ ∀ n f, d.2.2.2 = some (n, f) → n ≤ 12 ∧ ∀ i, i < n → okB (f i) 0 99
def tot (T : Nat → List VR) : Nat → Nat
  | 0 => 0
  | n + 1 => tot T n + (T n).length
def Yok (c : Nat) (y : Yd) : Prop := tot y.1 18 ≤ c ∧ (∀ t d, d ∈ y.1 t → vok d) ∧ (∀ q, y.2.1 = some q → q.1 ≤ 12 ∧ (q.2 = 0 ∨ q.2 = 1)) ∧ (∀ q, y.2.2.1 = some q → q.1 ≤ 12 ∧ q.2 ≤ 12) ∧ ∀ p, 6 ≤ p → (y.1 p).length ≤ 1
theorem tot_le {T : Nat → List VR} : ∀ {n t : Nat}, t < n → (T t).length ≤ tot T n := by
  intro n
  induction n with
  | zero => intro t h; omega
  | succ n ih =>
    intro t h
    simp only [tot]
    rcases Nat.lt_or_ge t n with q | q
    · have := ih q; omega
    · have : t = n := by omega
      subst this; omega
theorem Yok.len {c : Nat} {y : Yd} (h : Yok c y) {t : Nat} (ht : t < 18) : (y.1 t).length ≤ c := Nat.le_trans (tot_le ht) h.1
/-! how a class's cells hold it -/
abbrev tT : Type := Nat → Nat × Nat
def PC (G : gT) (w : wT) (tg : tT) (a : Nat) (d : VR) (bh : Option Nat) : Prop := tg a = (4, 0) ∧ ∃ ro, w a = some (cVeh d.1 d.2.1 d.2.2.1 ro bh) ∧ rowAt G w ro d.2.2.2 ∧ ∀ r, ro = some r → tg r = (5, a)
def SC (G : gT) (w : wT) (tg : tT) (sd : Option Nat) (os : OS) (T : Nat → LV) : Prop := (sd = none ∧ os = none) ∨ ∃ sa pa n b f, sd = some sa ∧ (w sa = some (cSid (some pa) b) ∧ tg sa = (6, 0)) ∧ (w pa = some (aV G n f) ∧ tg pa = (7, 0)) ∧ os = some (n, b) ∧ n ≤ 12 ∧ ∀ p, p < n → f p = hd (T (6 + p))
def PP (G : gT) (w : wT) (tg : tT) (pl : Option Nat) (op : OP) (N : Nat → Nat → Int32) : Prop := (pl = none ∧ op = none) ∨ ∃ pa nu r c f, pl = some pa ∧ (w pa = some (cPln (nI r) (nI c) (some nu)) ∧ tg pa = (8, 0)) ∧ (w nu = some (aI G (r * c) f) ∧ tg nu = (9, 0)) ∧ op = some (r, c) ∧ r ≤ 12 ∧ c ≤ 12 ∧ ∀ i j, i < r → j < c → f (i * c + j) = N i j
def RepCx (G : gT) (tg : tT) (w : wT) (h0 c : Nat) (y : Yd) (ta to : Nat) (tf : Nat → Option Nat) (tk : Nat → Nat) (sd pl : Option Nat) (T : Nat → LV) : Prop :=
  (w h0 = some (cTs (some ta) (some to) sd pl y.2.2.2.2.1 (nI c)) ∧ tg h0 = (0, 0)) ∧
  (w ta = some (aT G 6 tf) ∧ tg ta = (1, 0)) ∧ (∀ t, t < 6 → tf t = some (tk t)) ∧
  (w to = some (aI G 8 y.2.2.2.2.2) ∧ tg to = (2, 0)) ∧
  (∀ t, t < 6 → w (tk t) = some (cTrk (hd (T t)) (nI (T t).length)) ∧ tg (tk t) = (3, t)) ∧
  Forest (PC G w tg) T ∧ (∀ t, (T t).map Prod.snd = y.1 t) ∧
  SC G w tg sd y.2.1 T ∧ PP G w tg pl y.2.2.1 y.2.2.2.1
def RepC (G : gT) (tg : tT) (w : wT) (h0 c : Nat) (y : Yd) : Prop := ∃ ta to tf tk sd pl T, RepCx G tg w h0 c y ta to tf tk sd pl T
/-! a change: which addresses it touches -/
def Up (S : Nat → Prop) (w : wT) (tg : tT) (w' : wT) (tg' : tT) : Prop := ∀ b e, w b = some e → tg' b = tg b ∧ (∃ e', w' b = some e') ∧ (¬ S b → w' b = some e)
theorem Up.of {S : Nat → Prop} {w w' : wT} {tg tg' : tT} (h : ∀ b, ¬ S b → w' b = w b) (hs : ∀ b, S b → ∃ e, w' b = some e) (ht : ∀ b e, w b = some e → tg' b = tg b) : Up S w tg w' tg' := by
  intro b e hb
  refine ⟨ht b e hb, ?_, fun hS => by rw [h b hS]; exact hb⟩
  by_cases hS : S b
  · exact hs b hS
  · exact ⟨e, by rw [h b hS]; exact hb⟩
theorem cu {S : Nat → Prop} {w w' : wT} {tg tg' : tT} {a : Nat} {e : va_E} {τ : Nat × Nat} (hc : w a = some e ∧ tg a = τ) (hU : Up S w tg w' tg') (hS : ∀ b, S b → tg b ≠ τ) : w' a = some e ∧ tg' a = τ :=
  ⟨(hU a e hc.1).2.2 (fun h => hS a h hc.2), (hU a e hc.1).1.trans hc.2⟩
theorem PC.up {G : gT} {S : Nat → Prop} {w w' : wT} {tg tg' : tT} {a : Nat} {d : VR} {bh : Option Nat} (h : PC G w tg a d bh) (hU : Up S w tg w' tg') (ha : ¬ S a) (hr : ∀ r, S r → tg r ≠ (5, a)) : PC G w' tg' a d bh := by
  obtain ⟨h1, ro, h2, h3, h4⟩ := h
  refine ⟨(hU a _ h2).1.trans h1, ro, (hU a _ h2).2.2 ha, ?_, ?_⟩
  · cases hq : d.2.2.2 with
    | none => rw [hq] at h3; exact h3
    | some q =>
      obtain ⟨n, f⟩ := q
      rw [hq] at h3
      obtain ⟨g1, r, g2, g3⟩ := h3
      exact ⟨g1, r, g2, (hU r _ g3).2.2 (fun z => hr r z (h4 r g2))⟩
  · intro r hro
    cases hq : d.2.2.2 with
    | none => rw [hq] at h3; rw [h3] at hro; cases hro
    | some q =>
      obtain ⟨n, f⟩ := q
      rw [hq] at h3
      obtain ⟨g1, r', g2, g3⟩ := h3
      rw [g2] at hro
      cases hro
      exact (hU r _ g3).1.trans (h4 r g2)
theorem SC.up {G : gT} {S : Nat → Prop} {w w' : wT} {tg tg' : tT} {sd : Option Nat} {os : OS} {T T' : Nat → LV} (h : SC G w tg sd os T) (hU : Up S w tg w' tg') (hS : ∀ b, S b → tg b ≠ (6, 0) ∧ tg b ≠ (7, 0)) (hT : ∀ p, 6 ≤ p → T' p = T p) : SC G w' tg' sd os T' := by
  rcases h with h | ⟨sa, pa, n, b, f, h1, h2, h3, h4, h5, h6⟩
  · exact Or.inl h
  · exact Or.inr ⟨sa, pa, n, b, f, h1, cu h2 hU (fun b hb => (hS b hb).1), cu h3 hU (fun b hb => (hS b hb).2), h4, h5, fun p hp => by rw [hT (6 + p) (by omega)]; exact h6 p hp⟩
theorem PP.up {G : gT} {S : Nat → Prop} {w w' : wT} {tg tg' : tT} {pl : Option Nat} {op : OP} {N : Nat → Nat → Int32} (h : PP G w tg pl op N) (hU : Up S w tg w' tg') (hS : ∀ b, S b → tg b ≠ (8, 0) ∧ tg b ≠ (9, 0)) : PP G w' tg' pl op N := by
  rcases h with h | ⟨pa, nu, r, c, f, h1, h2, h3, h4⟩
  · exact Or.inl h
  · exact Or.inr ⟨pa, nu, r, c, f, h1, cu h2 hU (fun b hb => (hS b hb).1), cu h3 hU (fun b hb => (hS b hb).2), h4⟩
theorem SC.opt {G : gT} {w : wT} {tg : tT} {sd : Option Nat} {os : OS} {T : Nat → LV} (h : SC G w tg sd os T) : sopt G w sd os := by
  rcases h with h | ⟨sa, pa, n, b, f, h1, h2, h3, h4, h5, -⟩
  · exact Or.inl h
  · exact Or.inr ⟨sa, pa, n, b, f, h1, h2.1, h3.1, h4, h5⟩
theorem PP.opt {G : gT} {w : wT} {tg : tT} {pl : Option Nat} {op : OP} {N : Nat → Nat → Int32} (h : PP G w tg pl op N) : popt G w pl op := by
  rcases h with h | ⟨pa, nu, r, c, f, h1, h2, h3, h4, h5, h6, -⟩
  · exact Or.inl h
  · exact Or.inr ⟨pa, nu, r, c, f, h1, h2.1, h3.1, h4, h5, h6⟩
theorem PC.veh {G : gT} {w : wT} {tg : tT} {a : Nat} {d : VR} {bh : Option Nat} (h : PC G w tg a d bh) : vehAt G w a d bh := by
  obtain ⟨-, ro, h1, h2, -⟩ := h
  exact ⟨ro, h1, h2⟩
end
section
theorem Up.by {S : Nat → Prop} {w w' : wT} {tg tg' : tT} (h : ∀ b e, w b = some e → ¬ S b → w' b = w b) (hs : ∀ b, S b → ∃ e, w' b = some e) (ht : ∀ b e, w b = some e → tg' b = tg b) : Up S w tg w' tg' := by
  intro b e hb
  refine ⟨ht b e hb, ?_, fun hS => by rw [h b e hb hS]; exact hb⟩
  by_cases hS : S b
  · exact hs b hS
  · exact ⟨e, by rw [h b e hb hS]; exact hb⟩
theorem FC.up {G : gT} {S : Nat → Prop} {w w' : wT} {tg tg' : tT} {T : Nat → LV} (hF : Forest (PC G w tg) T) (hU : Up S w tg w' tg') (hS : ∀ b, S b → (tg b).1 ≠ 4 ∧ (tg b).1 ≠ 5) : Forest (PC G w' tg') T :=
  hF.keep (fun t i a d hq hp => hp.up hU (fun z => (hS a z).1 (by rw [hp.1])) (fun r z e => (hS r z).2 (by rw [e])))
theorem RepCx.make {G : gT} {S : Nat → Prop} {tg tg' : tT} {w w' : wT} {h0 c c' ta to : Nat} {y y' : Yd} {tf : Nat → Option Nat} {tk : Nat → Nat} {sd pl sd' pl' : Option Nat} {T T' : Nat → LV} (h : RepCx G tg w h0 c y ta to tf tk sd pl T) (hU : Up S w tg w' tg') (hS : ∀ b, S b → tg b ≠ (1, 0))
    (e0 : w' h0 = some (cTs (some ta) (some to) sd' pl' y'.2.2.2.2.1 (nI c'))) (e2 : w' to = some (aI G 8 y'.2.2.2.2.2)) (e3 : ∀ t, t < 6 → w' (tk t) = some (cTrk (hd (T' t)) (nI (T' t).length)))
    (eF : Forest (PC G w' tg') T') (eT : ∀ t, (T' t).map Prod.snd = y'.1 t) (eS : SC G w' tg' sd' y'.2.1 T') (eP : PP G w' tg' pl' y'.2.2.1 y'.2.2.2.1) : RepCx G tg' w' h0 c' y' ta to tf tk sd' pl' T' := by
  obtain ⟨h1, h2, h3, h4, h5, -⟩ := h
  exact ⟨⟨e0, (hU _ _ h1.1).1.trans h1.2⟩, cu h2 hU hS, h3, ⟨e2, (hU _ _ h4.1).1.trans h4.2⟩, fun t ht => ⟨e3 t ht, (hU _ _ (h5 t ht).1).1.trans (h5 t ht).2⟩, eF, eT, eS, eP⟩
section RC
variable {G : gT} {tg : tT} {w w' : wT} {h0 c ta to : Nat} {y : Yd} {tf : Nat → Option Nat} {tk : Nat → Nat} {sd pl : Option Nat} {T : Nat → LV}
theorem RepCx.len (h : RepCx G tg w h0 c y ta to tf tk sd pl T) (t : Nat) : (T t).length = (y.1 t).length := by
  have := congrArg List.length (h.2.2.2.2.2.2.1 t)
  simpa using this
theorem RepCx.trk {n : Nat} (h : RepCx G tg w h0 c y ta to tf tk sd pl T) (hY : Yok n y) (hc : n ≤ 512) {t : Nat} (ht : t < 6) : trk G w (tk t) (T t) := by
  refine ⟨(h.2.2.2.2.1 t ht).1, ?_, fun i a d hq => (h.2.2.2.2.2.1.1 t i a d hq).veh⟩
  rw [h.len]
  exact Nat.le_trans (hY.len (by omega)) hc
theorem RepCx.at (h : RepCx G tg w h0 c y ta to tf tk sd pl T) (t k : Nat) : (y.1 t)[k]? = ((T t)[k]?).map Prod.snd := by
  rw [← h.2.2.2.2.2.2.1 t, List.getElem?_map]
theorem RepCx.vopt (h : RepCx G tg w h0 c y ta to tf tk sd pl T) (t k : Nat) : vopt G w ((T t)[k]?.map Prod.fst) ((y.1 t)[k]?) := by
  rw [h.at]
  cases hq : (T t)[k]? with
  | none => exact Or.inl ⟨rfl, rfl⟩
  | some q => exact Or.inr ⟨q.1, q.2, _, rfl, rfl, (h.2.2.2.2.2.1.1 t k q.1 q.2 hq).veh⟩
theorem RepCx.tell (h : RepCx G tg w h0 c y ta to tf tk sd pl T) (k : Nat) (hw : w' = va_up w to (some (aI G 8 (upd y.2.2.2.2.2 k (y.2.2.2.2.2 k + 1))))) : RepCx G tg w' h0 c (yno k y).2 ta to tf tk sd pl T := by
  subst hw
  obtain ⟨h1, h2, h3, h4, h5, h6, h7, h8, h9⟩ := id h
  have hU : Up (fun b => b = to) w tg (va_up w to (some (aI G 8 (upd y.2.2.2.2.2 k (y.2.2.2.2.2 k + 1))))) tg := Up.by (fun b e _ hb => up_ne hb) (by rintro _ rfl; exact ⟨_, up_eq⟩) (fun _ _ _ => rfl)
  have g : tg to = (2, 0) := h4.2
  refine h.make (y' := (yno k y).2) hU (by rintro _ rfl; rw [g]; decide) (cu h1 hU (by rintro _ rfl; rw [g]; decide)).1 up_eq (fun t ht => (cu (h5 t ht) hU (by rintro _ rfl; rw [g]; simp)).1) (FC.up h6 hU (by rintro _ rfl; rw [g]; decide)) h7 (h8.up hU (by rintro _ rfl; rw [g]; decide) (fun _ _ => rfl)) (h9.up hU (by rintro _ rfl; rw [g]; decide))
/-- only the object's own fields change -/
theorem RepCx.obj {sd' pl' : Option Nat} {c' : Nat} {tg' : tT} {y' : Yd} {T' : Nat → LV} (h : RepCx G tg w h0 c y ta to tf tk sd pl T) (hU : Up (fun b => b = h0) w tg w' tg') (e0 : w' h0 = some (cTs (some ta) (some to) sd' pl' y'.2.2.2.2.1 (nI c'))) (e2 : y'.2.2.2.2.2 = y.2.2.2.2.2) (e3 : ∀ t, t < 6 → T' t = T t) (eF : Forest (PC G w' tg') T → Forest (PC G w' tg') T') (eT : ∀ t, (T' t).map Prod.snd = y'.1 t) (eS : SC G w' tg' sd' y'.2.1 T') (eP : PP G w' tg' pl' y'.2.2.1 y'.2.2.2.1) : RepCx G tg' w' h0 c' y' ta to tf tk sd' pl' T' := by
  obtain ⟨h1, h2, h3, h4, h5, h6, h7, h8, h9⟩ := id h
  have g : tg h0 = (0, 0) := h1.2
  exact h.make hU (by rintro _ rfl; rw [g]; decide) e0 (by rw [e2]; exact (cu h4 hU (by rintro _ rfl; rw [g]; decide)).1) (fun t ht => by rw [e3 t ht]; exact (cu (h5 t ht) hU (by rintro _ rfl; rw [g]; simp)).1) (eF (FC.up h6 hU (by rintro _ rfl; rw [g]; decide))) eT eS eP
theorem Up.obj {e : va_E} : Up (fun b => b = h0) w tg (va_up w h0 (some e)) tg := Up.by (fun b e _ hb => up_ne hb) (by rintro _ rfl; exact ⟨_, up_eq⟩) (fun _ _ _ => rfl)
theorem RepCx.lev (h : RepCx G tg w h0 c y ta to tf tk sd pl T) (x : Int32) (hw : w' = va_up w h0 (some (cTs (some ta) (some to) sd pl x (nI c)))) : RepCx G tg w' h0 c (ylev x y) ta to tf tk sd pl T := by
  subst hw
  obtain ⟨h1, h2, h3, h4, h5, h6, h7, h8, h9⟩ := id h
  have g : tg h0 = (0, 0) := h1.2
  exact h.obj (y' := ylev x y) Up.obj up_eq rfl (fun _ _ => rfl) id h7 (h8.up Up.obj (by rintro _ rfl; rw [g]; decide) (fun _ _ => rfl)) (h9.up Up.obj (by rintro _ rfl; rw [g]; decide))
theorem RepCx.tellLevel (h : RepCx G tg w h0 c y ta to tf tk sd pl T) (k : Nat) (x : Int32) (hw : w' = va_up (va_up w h0 (some (cTs (some ta) (some to) sd pl x (nI c)))) to (some (aI G 8 (upd y.2.2.2.2.2 k (y.2.2.2.2.2 k + 1))))) : RepCx G tg w' h0 c (yno k (ylev x y)).2 ta to tf tk sd pl T :=
  (h.lev x rfl).tell k hw
theorem map_up {T : Nat → LV} {Y : Nat → List VR} (h : ∀ t, (T t).map Prod.snd = Y t) {t : Nat} {L : LV} {l : List VR} (hl : L.map Prod.snd = l) : ∀ u, (va_up T t L u).map Prod.snd = va_up Y t l u := by
  intro u
  by_cases hu : u = t
  · subst hu; simp [va_up, hl]
  · simp [va_up, hu, h u]
theorem up_at {α : Type} {f : Nat → α} {k : Nat} {v : α} : va_up f k v k = v := by simp [va_up]
theorem up_off {α : Type} {f : Nat → α} {k j : Nat} {v : α} (h : j ≠ k) : va_up f k v j = f j := by simp [va_up, h]
theorem RepCx.push {c' t q : Nat} {d : VR} (h : RepCx G tg w h0 c y ta to tf tk sd pl T) (ht : t < 6) (hq : w q = none) (hd0 : d.2.2.2 = none) (e0 : w' h0 = some (cTs (some ta) (some to) sd pl y.2.2.2.2.1 (nI c'))) (e1 : w' q = some (cVeh d.1 d.2.1 d.2.2.1 none (hd (T t)))) (e2 : w' (tk t) = some (cTrk (some q) (nI (T t).length + 1))) (eo : ∀ b, b ≠ h0 → b ≠ q → b ≠ tk t → w' b = w b) : RepCx G (va_up tg q (4, 0)) w' h0 c' (yset t (d :: y.1 t) y) ta to tf tk sd pl (va_up T t ((q, d) :: T t)) := by
  obtain ⟨h1, h2, h3, h4, h5, h6, h7, h8, h9⟩ := id h
  have g0 : tg h0 = (0, 0) := h1.2
  have g1 : tg (tk t) = (3, t) := (h5 t ht).2
  have nq : ∀ b e, w b = some e → b ≠ q := fun b e hb => ad_new hb hq
  have hU : Up (fun b => b = h0 ∨ b = tk t) w tg w' (va_up tg q (4, 0)) := Up.by (fun b e hb hS => eo b (fun z => hS (Or.inl z)) (nq b e hb) (fun z => hS (Or.inr z))) (by rintro _ (rfl | rfl); exact ⟨_, e0⟩; exact ⟨_, e2⟩) (fun b e hb => up_off (nq b e hb))
  refine h.make (y' := yset t (d :: y.1 t) y) hU (by rintro _ (rfl | rfl); rw [g0]; decide; rw [g1]; simp) e0 (cu h4 hU (by rintro _ (rfl | rfl); rw [g0]; decide; rw [g1]; simp)).1 (fun u hu => ?_) (Forest.push h6 ?_ ?_ ?_) (map_up h7 (by simp [h7 t])) (h8.up hU (by rintro _ (rfl | rfl); rw [g0]; decide; rw [g1]; simp) (fun p hp => up_off (by omega))) (h9.up hU (by rintro _ (rfl | rfl); rw [g0]; decide; rw [g1]; simp))
  · by_cases hut : u = t
    · subst hut
      rw [up_at, e2, List.length_cons, nI_1]; rfl
    · rw [up_off hut]
      exact (cu (h5 u hu) hU (by rintro _ (rfl | rfl); rw [g0]; simp; rw [g1]; simp [Ne.symm hut])).1
  · intro u i e z
    obtain ⟨-, ro, z2, -⟩ := h6.1 u i q e z
    rw [hq] at z2; cases z2
  · exact ⟨up_at, none, e1, by rw [hd0]; rfl, fun r z => by cases z⟩
  · intro b e bh hb hp
    exact hp.up hU (by rintro (rfl | rfl); have := hp.1; rw [g0] at this; cases this; have := hp.1; rw [g1] at this; cases this) (by rintro _ (rfl | rfl); rw [g0]; simp; rw [g1]; simp)
theorem RepCx.pop {t a : Nat} {d : VR} {L : LV} {x : va_E} (h : RepCx G tg w h0 c y ta to tf tk sd pl T) (ht : t < 6) (hT : T t = (a, d) :: L) (e1 : w' a = some x) (e2 : w' (tk t) = some (cTrk (hd L) (nI L.length))) (eo : ∀ b, b ≠ a → b ≠ tk t → w' b = w b) : RepCx G tg w' h0 c (yset t (L.map Prod.snd) y) ta to tf tk sd pl (va_up T t L) := by
  obtain ⟨h1, h2, h3, h4, h5, h6, h7, h8, h9⟩ := id h
  have h0t : (T t)[0]? = some (a, d) := by rw [hT]; rfl
  have ga : tg a = (4, 0) := (h6.1 t 0 a d h0t).1
  have g1 : tg (tk t) = (3, t) := (h5 t ht).2
  have hU : Up (fun b => b = a ∨ b = tk t) w tg w' tg := Up.by (fun b e hb hS => eo b (fun z => hS (Or.inl z)) (fun z => hS (Or.inr z))) (by rintro _ (rfl | rfl); exact ⟨_, e1⟩; exact ⟨_, e2⟩) (fun b e hb => rfl)
  have hTd : L = (T t).drop 1 := by rw [hT]; rfl
  refine h.make (y' := yset t (L.map Prod.snd) y) hU (by rintro _ (rfl | rfl); rw [ga]; decide; rw [g1]; simp) (cu h1 hU (by rintro _ (rfl | rfl); rw [ga]; decide; rw [g1]; simp)).1 (cu h4 hU (by rintro _ (rfl | rfl); rw [ga]; decide; rw [g1]; simp)).1 (fun u hu => ?_) ?_ (map_up h7 rfl) (h8.up hU (by rintro _ (rfl | rfl); rw [ga]; decide; rw [g1]; simp) (fun p hp => up_off (by omega))) (h9.up hU (by rintro _ (rfl | rfl); rw [ga]; decide; rw [g1]; simp))
  · by_cases hut : u = t
    · subst hut
      rw [up_at]; exact e2
    · rw [up_off hut]
      exact (cu (h5 u hu) hU (by rintro _ (rfl | rfl); rw [ga]; simp; rw [g1]; simp [Ne.symm hut])).1
  · rw [hTd]
    refine Forest.drop 1 h6 (fun u i b e hq hi hp => hp.up hU ?_ (by rintro _ (rfl | rfl); rw [ga]; simp; rw [g1]; simp))
    rintro (rfl | rfl)
    · obtain ⟨z1, z2⟩ := h6.2 _ _ _ _ _ _ _ hq h0t
      have := hi z1
      omega
    · have := hp.1; rw [g1] at this; cases this
theorem RepCx.move {t u k a : Nat} {d : VR} (h : RepCx G tg w h0 c y ta to tf tk sd pl T) (ht : t < 6) (hu : u < 6) (htu : t ≠ u) (hT : (T t)[k]? = some (a, d)) (e1 : ∀ ro bh, w a = some (cVeh d.1 d.2.1 d.2.2.1 ro bh) → w' a = some (cVeh d.1 d.2.1 d.2.2.1 ro (hd (T u)))) (e2 : w' (tk t) = some (cTrk (nx (T t) k) (nI (T t).length - nI (k + 1)))) (e3 : w' (tk u) = some (cTrk (hd (T t)) (nI (T u).length + nI (k + 1)))) (eo : ∀ b, b ≠ a → b ≠ tk t → b ≠ tk u → w' b = w b) : RepCx G tg w' h0 c (yset u ((y.1 t).take (k + 1) ++ y.1 u) (yset t ((y.1 t).drop (k + 1)) y)) ta to tf tk sd pl (va_up (va_up T t ((T t).drop (k + 1))) u ((T t).take (k + 1) ++ T u)) := by
  obtain ⟨h1, h2, h3, h4, h5, h6, h7, h8, h9⟩ := id h
  have hlt := (List.getElem?_eq_some_iff.mp hT).1
  obtain ⟨ga, ro, c1, c2, c3⟩ := h6.1 t k a d hT
  have g1 : tg (tk t) = (3, t) := (h5 t ht).2
  have g2 : tg (tk u) = (3, u) := (h5 u hu).2
  have hU : Up (fun b => b = a ∨ b = tk t ∨ b = tk u) w tg w' tg := Up.by (fun b e hb hS => eo b (fun z => hS (Or.inl z)) (fun z => hS (Or.inr (Or.inl z))) (fun z => hS (Or.inr (Or.inr z)))) (by rintro _ (rfl | rfl | rfl); exact ⟨_, e1 _ _ c1⟩; exact ⟨_, e2⟩; exact ⟨_, e3⟩) (fun b e hb => rfl)
  refine h.make (y' := yset u ((y.1 t).take (k + 1) ++ y.1 u) (yset t ((y.1 t).drop (k + 1)) y)) hU (by rintro _ (rfl | rfl | rfl); rw [ga]; decide; rw [g1]; simp; rw [g2]; simp) (cu h1 hU (by rintro _ (rfl | rfl | rfl); rw [ga]; decide; rw [g1]; simp; rw [g2]; simp)).1 (cu h4 hU (by rintro _ (rfl | rfl | rfl); rw [ga]; decide; rw [g1]; simp; rw [g2]; simp)).1 (fun v hv => ?_) (h6.move htu hT ⟨ga, ro, e1 _ _ c1, ?_, c3⟩ ?_) (map_up (map_up h7 (by simp [h7 t, List.map_drop])) (by simp [h7 t, h7 u, List.map_take])) (h8.up hU (by rintro _ (rfl | rfl | rfl); rw [ga]; decide; rw [g1]; simp; rw [g2]; simp) (fun p hp => by rw [up_off (by omega), up_off (by omega)])) (h9.up hU (by rintro _ (rfl | rfl | rfl); rw [ga]; decide; rw [g1]; simp; rw [g2]; simp))
  · by_cases hvu : v = u
    · subst hvu
      rw [up_at, e3]
      have : hd ((T t).take (k + 1) ++ T v) = hd (T t) := by
        unfold hd
        rw [List.getElem?_append_left (by rw [List.length_take]; omega), List.getElem?_take, if_pos (by omega)]
      rw [this, nI_add, List.length_append, List.length_take, Nat.min_eq_left (by omega), Nat.add_comm]
    · rw [up_off hvu]
      by_cases hvt : v = t
      · subst hvt
        rw [up_at, e2]
        have : hd ((T v).drop (k + 1)) = nx (T v) k := by simp [hd, nx, List.getElem?_drop]
        rw [this, pk_sub (by omega), List.length_drop]
      · rw [up_off hvt]
        exact (cu (h5 v hv) hU (by rintro _ (rfl | rfl | rfl); rw [ga]; simp; rw [g1]; simp [Ne.symm hvt]; rw [g2]; simp [Ne.symm hvu])).1
  · cases hq : d.2.2.2 with
    | none => rw [hq] at c2; exact c2
    | some q =>
      obtain ⟨n, f⟩ := q
      rw [hq] at c2
      obtain ⟨q1, r, q2, q3⟩ := c2
      refine ⟨q1, r, q2, (hU r _ q3).2.2 ?_⟩
      have := c3 r q2
      rintro (rfl | rfl | rfl)
      · rw [ga] at this; cases this
      · rw [g1] at this; cases this
      · rw [g2] at this; cases this
  · intro b e bh hb hp
    exact hp.up hU (by rintro (rfl | rfl | rfl); exact hb rfl; have := hp.1; rw [g1] at this; cases this; have := hp.1; rw [g2] at this; cases this) (by rintro _ (rfl | rfl | rfl); rw [ga]; simp; rw [g1]; simp; rw [g2]; simp)
theorem RepCx.append {t u k a : Nat} {d : VR} (h : RepCx G tg w h0 c y ta to tf tk sd pl T) (ht : t < 6) (hu : u < 6) (htu : t ≠ u) (hl : (T t).length = k + 1) (hT : (T t)[k]? = some (a, d)) (e1 : ∀ ro bh, w a = some (cVeh d.1 d.2.1 d.2.2.1 ro bh) → w' a = some (cVeh d.1 d.2.1 d.2.2.1 ro (hd (T u)))) (e2 : w' (tk t) = some (cTrk (hd (T t)) (nI (T t).length + nI (T u).length))) (e3 : w' (tk u) = some (cTrk none 0)) (eo : ∀ b, b ≠ a → b ≠ tk t → b ≠ tk u → w' b = w b) : RepCx G tg w' h0 c (yset u [] (yset t (y.1 t ++ y.1 u) y)) ta to tf tk sd pl (va_up (va_up T t (T t ++ T u)) u []) := by
  obtain ⟨h1, h2, h3, h4, h5, h6, h7, h8, h9⟩ := id h
  have hlt := (List.getElem?_eq_some_iff.mp hT).1
  obtain ⟨ga, ro, c1, c2, c3⟩ := h6.1 t k a d hT
  have g1 : tg (tk t) = (3, t) := (h5 t ht).2
  have g2 : tg (tk u) = (3, u) := (h5 u hu).2
  have hU : Up (fun b => b = a ∨ b = tk t ∨ b = tk u) w tg w' tg := Up.by (fun b e hb hS => eo b (fun z => hS (Or.inl z)) (fun z => hS (Or.inr (Or.inl z))) (fun z => hS (Or.inr (Or.inr z)))) (by rintro _ (rfl | rfl | rfl); exact ⟨_, e1 _ _ c1⟩; exact ⟨_, e2⟩; exact ⟨_, e3⟩) (fun b e hb => rfl)
  refine h.make (y' := yset u [] (yset t (y.1 t ++ y.1 u) y)) hU (by rintro _ (rfl | rfl | rfl); rw [ga]; decide; rw [g1]; simp; rw [g2]; simp) (cu h1 hU (by rintro _ (rfl | rfl | rfl); rw [ga]; decide; rw [g1]; simp; rw [g2]; simp)).1 (cu h4 hU (by rintro _ (rfl | rfl | rfl); rw [ga]; decide; rw [g1]; simp; rw [g2]; simp)).1 (fun v hv => ?_) (h6.append htu hl hT ⟨ga, ro, e1 _ _ c1, ?_, c3⟩ ?_) (map_up (map_up h7 (by simp [h7 t, h7 u])) rfl) (h8.up hU (by rintro _ (rfl | rfl | rfl); rw [ga]; decide; rw [g1]; simp; rw [g2]; simp) (fun p hp => by rw [up_off (by omega), up_off (by omega)])) (h9.up hU (by rintro _ (rfl | rfl | rfl); rw [ga]; decide; rw [g1]; simp; rw [g2]; simp))
  · by_cases hvu : v = u
    · subst hvu
      rw [up_at, e3]; rfl
    · rw [up_off hvu]
      by_cases hvt : v = t
      · subst hvt
        rw [up_at, e2]
        have : hd (T v ++ T u) = hd (T v) := by unfold hd; rw [List.getElem?_append_left (by omega)]
        rw [this, nI_add, List.length_append]
      · rw [up_off hvt]
        exact (cu (h5 v hv) hU (by rintro _ (rfl | rfl | rfl); rw [ga]; simp; rw [g1]; simp [Ne.symm hvt]; rw [g2]; simp [Ne.symm hvu])).1
  · cases hq : d.2.2.2 with
    | none => rw [hq] at c2; exact c2
    | some q =>
      obtain ⟨n, f⟩ := q
      rw [hq] at c2
      obtain ⟨q1, r, q2, q3⟩ := c2
      refine ⟨q1, r, q2, (hU r _ q3).2.2 ?_⟩
      have := c3 r q2
      rintro (rfl | rfl | rfl)
      · rw [ga] at this; cases this
      · rw [g1] at this; cases this
      · rw [g2] at this; cases this
  · intro b e bh hb hp
    exact hp.up hU (by rintro (rfl | rfl | rfl); exact hb rfl; have := hp.1; rw [g1] at this; cases this; have := hp.1; rw [g2] at this; cases this) (by rintro _ (rfl | rfl | rfl); rw [ga]; simp; rw [g1]; simp; rw [g2]; simp)
end RC
end
section
section RC2
variable {G : gT} {tg : tT} {w w' : wT} {h0 c ta to : Nat} {y : Yd} {tf : Nat → Option Nat} {tk : Nat → Nat} {sd pl : Option Nat} {T : Nat → LV}
theorem rowAt.up {S : Nat → Prop} {tg' : tT} {ro : Option Nat} {cr : CR} {a : Nat} (h : rowAt G w ro cr) (ht : ∀ r, ro = some r → tg r = (5, a)) (hU : Up S w tg w' tg') (hS : ∀ r, S r → tg r ≠ (5, a)) : rowAt G w' ro cr ∧ ∀ r, ro = some r → tg' r = (5, a) := by
  cases cr with
  | none => exact ⟨h, fun r z => by rw [show ro = none from h] at z; cases z⟩
  | some q =>
    obtain ⟨n, f⟩ := q
    obtain ⟨q1, r, q2, q3⟩ := h
    exact ⟨⟨q1, r, q2, (hU r _ q3).2.2 (fun z => hS r z (ht r q2))⟩, fun r' z => by rw [q2] at z; cases z; exact (hU r _ q3).1.trans (ht r q2)⟩
/-- one vehicle's record changes: its own cell, and perhaps its crates' -/
theorem RepCx.put {S : Nat → Prop} {tg' : tT} {t k a : Nat} {d d' : VR} (h : RepCx G tg w h0 c y ta to tf tk sd pl T) (ht : t < 6) (hT : (T t)[k]? = some (a, d)) (hU : Up S w tg w' tg') (hS : ∀ b, S b → b = a ∨ tg b = (5, a)) (hp : PC G w' tg' a d' (nx (T t) k)) : RepCx G tg' w' h0 c (yset t ((y.1 t).set k d') y) ta to tf tk sd pl (va_up T t ((T t).set k (a, d'))) := by
  obtain ⟨h1, h2, h3, h4, h5, h6, h7, h8, h9⟩ := id h
  have hlt := (List.getElem?_eq_some_iff.mp hT).1
  have ga : tg a = (4, 0) := (h6.1 t k a d hT).1
  have hS' : ∀ b, S b → tg b = (4, 0) ∨ tg b = (5, a) := fun b hb => (hS b hb).elim (fun z => Or.inl (by rw [z]; exact ga)) Or.inr
  have no : ∀ τ : Nat × Nat, τ.1 ≠ 4 → τ.1 ≠ 5 → ∀ b, S b → tg b ≠ τ := by
    intro τ n1 n2 b hb z
    rcases hS' b hb with q | q
    · rw [q] at z; exact n1 (by rw [← z])
    · rw [q] at z; exact n2 (by rw [← z])
  refine h.make (y' := yset t ((y.1 t).set k d') y) hU (no _ (by decide) (by decide)) (cu h1 hU (no _ (by decide) (by decide))).1 (cu h4 hU (no _ (by decide) (by decide))).1 (fun u hu => ?_) (h6.put hT hp ?_) (map_up h7 (by rw [List.map_set, h7 t])) (h8.up (T' := va_up T t ((T t).set k (a, d'))) hU (fun b hb => ⟨no _ (by decide) (by decide) b hb, no _ (by decide) (by decide) b hb⟩) ?_) (h9.up hU (fun b hb => ⟨no _ (by decide) (by decide) b hb, no _ (by decide) (by decide) b hb⟩))
  · have e := (cu (h5 u hu) hU (no _ (by show (3 : Nat) ≠ 4; decide) (by show (3 : Nat) ≠ 5; decide))).1
    by_cases hut : u = t
    · subst hut
      rw [up_at, e]
      have : hd ((T u).set k (a, d')) = hd (T u) := by
        unfold hd
        by_cases hk : k = 0
        · subst hk
          rw [List.getElem?_set_self hlt, hT]; rfl
        · rw [List.getElem?_set_ne hk]
      rw [this, List.length_set]
    · rw [up_off hut]; exact e
  · intro b e bh hb hpb
    exact hpb.up hU (fun z => (hS b z).elim hb (fun q => by rw [hpb.1] at q; cases q)) (fun r z q => by
      rcases hS' r z with p | p
      · rw [p] at q; cases q
      · rw [p] at q; cases q; exact hb rfl)
  · exact fun p hp => up_off (by omega)
def Tclr (T : Nat → LV) : Nat → LV := fun t => if t < 6 then T t else []
theorem Tclr_map (h : ∀ t, (T t).map Prod.snd = y.1 t) : ∀ t, (Tclr T t).map Prod.snd = yclr y.1 t := by
  intro t
  by_cases ht : t < 6
  · simp [Tclr, yclr, ht, h t]
  · simp [Tclr, yclr, ht]
theorem Tclr_F {P : Nat → VR → Option Nat → Prop} (h : Forest P T) : Forest P (Tclr T) := h.clear (fun t => by by_cases ht : t < 6 <;> simp [Tclr, ht]) (fun _ _ _ _ _ h => h)
theorem RepCx.siding {n sa pa : Nat} {b : Int32} (h : RepCx G tg w h0 c y ta to tf tk sd pl T) (hn : n ≤ 12) (n1 : w sa = none) (n2 : w pa = none) (hne : sa ≠ pa) (e0 : w' h0 = some (cTs (some ta) (some to) (some sa) pl y.2.2.2.2.1 (nI c))) (e1 : w' sa = some (cSid (some pa) b)) (e2 : w' pa = some (aV G n (fun _ => none))) (eo : ∀ b, b ≠ h0 → b ≠ sa → b ≠ pa → w' b = w b) : RepCx G (va_up (va_up tg sa (6, 0)) pa (7, 0)) w' h0 c (yclr y.1, some (n, b), y.2.2) ta to tf tk (some sa) pl (Tclr T) := by
  obtain ⟨h1, h2, h3, h4, h5, h6, h7, h8, h9⟩ := id h
  have g : tg h0 = (0, 0) := h1.2
  have hU : Up (fun b => b = h0) w tg w' (va_up (va_up tg sa (6, 0)) pa (7, 0)) := Up.by (fun b e hb hS => eo b hS (ad_new hb n1) (ad_new hb n2)) (by rintro _ rfl; exact ⟨_, e0⟩) (fun b e hb => by rw [up_off (ad_new hb n2), up_off (ad_new hb n1)])
  exact h.obj (y' := (yclr y.1, some (n, b), y.2.2)) hU e0 rfl (fun t ht => by simp [Tclr, ht]) Tclr_F (Tclr_map h7) (Or.inr ⟨sa, pa, n, b, _, rfl, ⟨e1, by rw [up_off hne, up_at]⟩, ⟨e2, up_at⟩, rfl, hn, fun p hp => by simp [Tclr, hd, show ¬ 6 + p < 6 by omega]⟩) (h9.up hU (by rintro _ rfl; rw [g]; decide))
theorem RepCx.awayS (h : RepCx G tg w h0 c y ta to tf tk sd pl T) (hw : w' = va_up w h0 (some (cTs (some ta) (some to) none pl y.2.2.2.2.1 (nI c)))) : RepCx G tg w' h0 c (yclr y.1, none, y.2.2) ta to tf tk none pl (Tclr T) := by
  subst hw
  obtain ⟨h1, h2, h3, h4, h5, h6, h7, h8, h9⟩ := id h
  have g : tg h0 = (0, 0) := h1.2
  exact h.obj (y' := (yclr y.1, none, y.2.2)) Up.obj up_eq rfl (fun t ht => by simp [Tclr, ht]) Tclr_F (Tclr_map h7) (Or.inl ⟨rfl, rfl⟩) (h9.up Up.obj (by rintro _ rfl; rw [g]; decide))
theorem RepCx.awayP (h : RepCx G tg w h0 c y ta to tf tk sd pl T) (hw : w' = va_up w h0 (some (cTs (some ta) (some to) sd none y.2.2.2.2.1 (nI c)))) : RepCx G tg w' h0 c (y.1, y.2.1, none, y.2.2.2) ta to tf tk sd none T := by
  subst hw
  obtain ⟨h1, h2, h3, h4, h5, h6, h7, h8, h9⟩ := id h
  have g : tg h0 = (0, 0) := h1.2
  exact h.obj (y' := (y.1, y.2.1, none, y.2.2.2)) Up.obj up_eq rfl (fun t ht => rfl) id h7 (h8.up Up.obj (by rintro _ rfl; rw [g]; decide) (fun _ _ => rfl)) (Or.inl ⟨rfl, rfl⟩)
theorem RepCx.plan {r k pa nu : Nat} (h : RepCx G tg w h0 c y ta to tf tk sd pl T) (hr : r ≤ 12) (hk : k ≤ 12) (n1 : w pa = none) (n2 : w nu = none) (hne : pa ≠ nu) (e0 : w' h0 = some (cTs (some ta) (some to) sd (some pa) y.2.2.2.2.1 (nI c))) (e1 : w' pa = some (cPln (nI r) (nI k) (some nu))) (e2 : w' nu = some (aI G (r * k) (fun _ => 0))) (eo : ∀ b, b ≠ h0 → b ≠ pa → b ≠ nu → w' b = w b) : RepCx G (va_up (va_up tg pa (8, 0)) nu (9, 0)) w' h0 c (y.1, y.2.1, some (r, k), fun _ _ => 0, y.2.2.2.2) ta to tf tk sd (some pa) T := by
  obtain ⟨h1, h2, h3, h4, h5, h6, h7, h8, h9⟩ := id h
  have g : tg h0 = (0, 0) := h1.2
  have hU : Up (fun b => b = h0) w tg w' (va_up (va_up tg pa (8, 0)) nu (9, 0)) := Up.by (fun b e hb hS => eo b hS (ad_new hb n1) (ad_new hb n2)) (by rintro _ rfl; exact ⟨_, e0⟩) (fun b e hb => by rw [up_off (ad_new hb n2), up_off (ad_new hb n1)])
  exact h.obj (y' := (y.1, y.2.1, some (r, k), fun _ _ => 0, y.2.2.2.2)) hU e0 rfl (fun t ht => rfl) id h7 (h8.up hU (by rintro _ rfl; rw [g]; decide) (fun _ _ => rfl)) (Or.inr ⟨pa, nu, r, k, _, rfl, ⟨e1, by rw [up_off hne, up_at]⟩, ⟨e2, up_at⟩, rfl, hr, hk, fun i j hi hj => rfl⟩)
theorem ix_inj {c i j i' j' : Nat} (hj : j < c) (hj' : j' < c) (h : i * c + j = i' * c + j') : i = i' ∧ j = j' := by
  have h1 : (i * c + j) / c = i := by rw [Nat.mul_comm, Nat.mul_add_div (by omega), Nat.div_eq_of_lt hj, Nat.add_zero]
  have h2 : (i' * c + j') / c = i' := by rw [Nat.mul_comm, Nat.mul_add_div (by omega), Nat.div_eq_of_lt hj', Nat.add_zero]
  rw [h, h2] at h1
  subst h1
  exact ⟨rfl, by omega⟩
theorem RepCx.note {i j r k nu pa : Nat} {x : Int32} {f : Nat → Int32} (h : RepCx G tg w h0 c y ta to tf tk sd pl T) (hop : y.2.2.1 = some (r, k)) (hpl : pl = some pa) (hpa : w pa = some (cPln (nI r) (nI k) (some nu))) (hnu : w nu = some (aI G (r * k) f)) (hi : i < r) (hj : j < k) (hw : w' = va_up w nu (some (aI G (r * k) (upd f (i * k + j) x)))) : RepCx G tg w' h0 c (y.1, y.2.1, y.2.2.1, upd2 y.2.2.2.1 i j x, y.2.2.2.2) ta to tf tk sd pl T := by
  subst hw
  obtain ⟨h1, h2, h3, h4, h5, h6, h7, h8, h9⟩ := id h
  rcases h9 with ⟨-, z⟩ | ⟨pa', nu', r', k', f', q1, q2, q3, q4, q5, q6, q7⟩
  · rw [hop] at z; cases z
  rw [hop] at q4; cases q4
  rw [hpl] at q1; cases q1
  have e1 := q2.1.symm.trans hpa
  simp at e1
  have e2 : nu' = nu := by
    have := e1; cases this; rfl
  subst e2
  have e3 : f' = f := by have := q3.1.symm.trans hnu; simp at this; exact this
  subst e3
  have g : tg nu' = (9, 0) := q3.2
  have hU : Up (fun b => b = nu') w tg (va_up w nu' (some (aI G (r * k) (upd f' (i * k + j) x)))) tg := Up.by (fun b e _ hb => up_ne hb) (by rintro _ rfl; exact ⟨_, up_eq⟩) (fun _ _ _ => rfl)
  refine h.make (y' := (y.1, y.2.1, y.2.2.1, upd2 y.2.2.2.1 i j x, y.2.2.2.2)) hU (by rintro _ rfl; rw [g]; decide) (cu h1 hU (by rintro _ rfl; rw [g]; decide)).1 (cu h4 hU (by rintro _ rfl; rw [g]; decide)).1 (fun t ht => (cu (h5 t ht) hU (by rintro _ rfl; rw [g]; simp)).1) (FC.up h6 hU (by rintro _ rfl; rw [g]; decide)) h7 (h8.up hU (by rintro _ rfl; rw [g]; decide) (fun _ _ => rfl)) (Or.inr ⟨pa, nu', r, k, _, hpl, cu q2 hU (by rintro _ rfl; rw [g]; decide), ⟨up_eq, g⟩, hop, q5, q6, fun a b ha hb => ?_⟩)
  by_cases hab : a = i ∧ b = j
  · obtain ⟨rfl, rfl⟩ := hab
    simp [upd, upd2]
  · have : ¬ a * k + b = i * k + j := fun z => hab (ix_inj hb hj z)
    simp only [upd, upd2, if_neg this, if_neg hab]
    exact q7 a b ha hb
theorem RepCx.stow {t p a n sa pa : Nat} {b : Int32} {f : Nat → Option Nat} {d : VR} {L : LV} (h : RepCx G tg w h0 c y ta to tf tk sd pl T) (ht : t < 6) (hT : T t = (a, d) :: L) (hos : y.2.1 = some (n, b)) (hsd : sd = some sa) (hsa : w sa = some (cSid (some pa) b)) (hpa : w pa = some (aV G n f)) (hp : p < n) (e1 : ∀ ro bh, w a = some (cVeh d.1 d.2.1 d.2.2.1 ro bh) → w' a = some (cVeh d.1 d.2.1 d.2.2.1 ro none)) (e2 : w' (tk t) = some (cTrk (hd L) (nI L.length))) (e3 : w' pa = some (aV G n (va_up f p (some a)))) (eo : ∀ b, b ≠ a → b ≠ tk t → b ≠ pa → w' b = w b) : RepCx G tg w' h0 c (yset (6 + p) [d] (yset t (L.map Prod.snd) y)) ta to tf tk sd pl (va_up (va_up T t L) (6 + p) [(a, d)]) := by
  obtain ⟨h1, h2, h3, h4, h5, h6, h7, h8, h9⟩ := id h
  rcases h8 with ⟨-, z⟩ | ⟨sa', pa', n', b', f', q1, q2, q3, q4, q5, q6⟩
  · rw [hos] at z; cases z
  rw [hos] at q4; cases q4
  rw [hsd] at q1; cases q1
  have e4 : pa' = pa := by have := q2.1.symm.trans hsa; cases this; rfl
  subst e4
  have e5 : f' = f := by have := q3.1.symm.trans hpa; simp at this; exact this
  subst e5
  have g2 : tg pa' = (7, 0) := q3.2
  have h0t : (T t)[0]? = some (a, d) := by rw [hT]; rfl
  obtain ⟨ga, ro, c1, c2, c3⟩ := h6.1 t 0 a d h0t
  have g1 : tg (tk t) = (3, t) := (h5 t ht).2
  have hU : Up (fun b => b = a ∨ b = tk t ∨ b = pa') w tg w' tg := Up.by (fun b e hb hS => eo b (fun z => hS (Or.inl z)) (fun z => hS (Or.inr (Or.inl z))) (fun z => hS (Or.inr (Or.inr z)))) (by rintro _ (rfl | rfl | rfl); exact ⟨_, e1 _ _ c1⟩; exact ⟨_, e2⟩; exact ⟨_, e3⟩) (fun b e hb => rfl)
  have hLd : L = (T t).drop 1 := by rw [hT]; rfl
  have hrow := c2.up c3 hU (by rintro _ (rfl | rfl | rfl); rw [ga]; simp; rw [g1]; simp; rw [g2]; simp)
  have F1 : Forest (PC G w tg) (va_up T (6 + p) []) := h6.clear (fun u => by by_cases hu : u = 6 + p <;> simp [va_up, hu]) (fun _ _ _ _ _ z => z)
  have T1t : va_up T (6 + p) [] t = T t := up_off (by omega)
  have keep : ∀ (b : Nat) (e : VR) (bh : Option Nat), b ≠ a → PC G w tg b e bh → PC G w' tg b e bh := fun b e bh hb hp => hp.up hU (by rintro (rfl | rfl | rfl); exact hb rfl; have := hp.1; rw [g1] at this; cases this; have := hp.1; rw [g2] at this; cases this) (by rintro _ (rfl | rfl | rfl); rw [ga]; simp; rw [g1]; simp; rw [g2]; simp)
  have F2 : Forest (PC G w' tg) (va_up (va_up T (6 + p) []) t ((va_up T (6 + p) [] t).drop 1)) := Forest.drop 1 F1 (fun u i b e hq hi hpb => keep b e _ (by
    rintro rfl
    obtain ⟨z1, z2⟩ := F1.2 _ _ _ _ _ _ _ hq (show (va_up T (6 + p) [] t)[0]? = some (b, d) by rw [T1t]; exact h0t)
    have := hi z1
    omega) hpb)
  have F3 := Forest.push (P' := PC G w' tg) (t := 6 + p) (a := a) (d := d) F2 (by
    intro u i e z
    by_cases hu : u = t
    · subst hu
      rw [up_at, T1t, List.getElem?_drop] at z
      have := (h6.2 _ _ _ _ _ _ _ z h0t).2
      omega
    · rw [up_off hu] at z
      by_cases hu2 : u = 6 + p
      · subst hu2; rw [up_at] at z; simp at z
      · rw [up_off hu2] at z
        exact hu (h6.2 _ _ _ _ _ _ _ z h0t).1) ⟨ga, ro, by
      have : hd (va_up (va_up T (6 + p) []) t ((va_up T (6 + p) [] t).drop 1) (6 + p)) = none := by rw [up_off (by omega), up_at]; rfl
      rw [this]; exact e1 _ _ c1, hrow⟩ (fun b e bh _ z => z)
  have hTT : va_up (va_up (va_up T (6 + p) []) t ((va_up T (6 + p) [] t).drop 1)) (6 + p) ((a, d) :: va_up (va_up T (6 + p) []) t ((va_up T (6 + p) [] t).drop 1) (6 + p)) = va_up (va_up T t L) (6 + p) [(a, d)] := by
    funext u
    by_cases hu2 : u = 6 + p
    · subst hu2; rw [up_at, up_at, up_off (by omega), up_at]
    · rw [up_off hu2, up_off hu2]
      by_cases hu : u = t
      · subst hu; rw [up_at, up_at, T1t, ← hLd]
      · rw [up_off hu, up_off hu, up_off hu2]
  rw [hTT] at F3
  refine h.make (y' := yset (6 + p) [d] (yset t (L.map Prod.snd) y)) hU (by rintro _ (rfl | rfl | rfl); rw [ga]; decide; rw [g1]; simp; rw [g2]; simp) (cu h1 hU (by rintro _ (rfl | rfl | rfl); rw [ga]; decide; rw [g1]; simp; rw [g2]; simp)).1 (cu h4 hU (by rintro _ (rfl | rfl | rfl); rw [ga]; decide; rw [g1]; simp; rw [g2]; simp)).1 (fun v hv => ?_) F3 (map_up (map_up h7 rfl) rfl) (Or.inr ⟨sa, pa', n, b, _, hsd, cu q2 hU (by rintro _ (rfl | rfl | rfl); rw [ga]; decide; rw [g1]; simp; rw [g2]; simp), ⟨e3, g2⟩, hos, q5, fun p' hp' => ?_⟩) (h9.up hU (by rintro _ (rfl | rfl | rfl); rw [ga]; decide; rw [g1]; simp; rw [g2]; simp))
  · rw [up_off (by omega)]
    by_cases hvt : v = t
    · subst hvt
      rw [up_at]; exact e2
    · rw [up_off hvt]
      exact (cu (h5 v hv) hU (by rintro _ (rfl | rfl | rfl); rw [ga]; simp; rw [g1]; simp [Ne.symm hvt]; rw [g2]; simp)).1
  · by_cases hpp : p' = p
    · subst hpp; rw [up_at, up_at]; rfl
    · rw [up_off hpp, up_off (by omega), up_off (by omega)]; exact q6 p' hp'
theorem RepCx.stowN {p n sa pa : Nat} {b : Int32} {f : Nat → Option Nat} (h : RepCx G tg w h0 c y ta to tf tk sd pl T) (hos : y.2.1 = some (n, b)) (hsd : sd = some sa) (hsa : w sa = some (cSid (some pa) b)) (hpa : w pa = some (aV G n f)) (hp : p < n) (hw : w' = va_up w pa (some (aV G n (va_up f p none)))) : RepCx G tg w' h0 c (yset (6 + p) [] y) ta to tf tk sd pl (va_up T (6 + p) []) := by
  subst hw
  obtain ⟨h1, h2, h3, h4, h5, h6, h7, h8, h9⟩ := id h
  rcases h8 with ⟨-, z⟩ | ⟨sa', pa', n', b', f', q1, q2, q3, q4, q5, q6⟩
  · rw [hos] at z; cases z
  rw [hos] at q4; cases q4
  rw [hsd] at q1; cases q1
  have e4 : pa' = pa := by have := q2.1.symm.trans hsa; cases this; rfl
  subst e4
  have e5 : f' = f := by have := q3.1.symm.trans hpa; simp at this; exact this
  subst e5
  have g : tg pa' = (7, 0) := q3.2
  have hU : Up (fun b => b = pa') w tg (va_up w pa' (some (aV G n (va_up f' p none)))) tg := Up.by (fun b e _ hb => up_ne hb) (by rintro _ rfl; exact ⟨_, up_eq⟩) (fun _ _ _ => rfl)
  refine h.make (y' := yset (6 + p) [] y) hU (by rintro _ rfl; rw [g]; decide) (cu h1 hU (by rintro _ rfl; rw [g]; decide)).1 (cu h4 hU (by rintro _ rfl; rw [g]; decide)).1 (fun v hv => by rw [show va_up T (6 + p) [] v = T v from up_off (by omega)]; exact (cu (h5 v hv) hU (by rintro _ rfl; rw [g]; simp)).1) ((FC.up h6 hU (by rintro _ rfl; rw [g]; decide)).clear (fun u => by by_cases hu : u = 6 + p <;> simp [va_up, hu]) (fun _ _ _ _ _ z => z)) (map_up h7 rfl) (Or.inr ⟨sa, pa', n, b, _, hsd, cu q2 hU (by rintro _ rfl; rw [g]; decide), ⟨up_eq, g⟩, hos, q5, fun p' hp' => ?_⟩) (h9.up hU (by rintro _ rfl; rw [g]; decide))
  by_cases hpp : p' = p
  · subst hpp; rw [up_at, up_at]; rfl
  · rw [up_off hpp, up_off (by omega)]; exact q6 p' hp'
theorem RepCx.fetch {t p a n sa pa : Nat} {b : Int32} {f : Nat → Option Nat} {d : VR} {L : LV} (h : RepCx G tg w h0 c y ta to tf tk sd pl T) (ht : t < 6) (hT : T (6 + p) = (a, d) :: L) (hos : y.2.1 = some (n, b)) (hsd : sd = some sa) (hsa : w sa = some (cSid (some pa) b)) (hpa : w pa = some (aV G n f)) (hp : p < n) (e1 : ∀ ro bh, w a = some (cVeh d.1 d.2.1 d.2.2.1 ro bh) → w' a = some (cVeh d.1 d.2.1 d.2.2.1 ro (hd (T t)))) (e2 : w' (tk t) = some (cTrk (some a) (nI (T t).length + 1))) (e3 : w' pa = some (aV G n (va_up f p none))) (eo : ∀ b, b ≠ a → b ≠ tk t → b ≠ pa → w' b = w b) : RepCx G tg w' h0 c (yset t (d :: y.1 t) (yset (6 + p) [] y)) ta to tf tk sd pl (va_up (va_up T (6 + p) []) t ((a, d) :: T t)) := by
  obtain ⟨h1, h2, h3, h4, h5, h6, h7, h8, h9⟩ := id h
  rcases h8 with ⟨-, z⟩ | ⟨sa', pa', n', b', f', q1, q2, q3, q4, q5, q6⟩
  · rw [hos] at z; cases z
  rw [hos] at q4; cases q4
  rw [hsd] at q1; cases q1
  have e4 : pa' = pa := by have := q2.1.symm.trans hsa; cases this; rfl
  subst e4
  have e5 : f' = f := by have := q3.1.symm.trans hpa; simp at this; exact this
  subst e5
  have g2 : tg pa' = (7, 0) := q3.2
  have h0t : (T (6 + p))[0]? = some (a, d) := by rw [hT]; rfl
  obtain ⟨ga, ro, c1, c2, c3⟩ := h6.1 (6 + p) 0 a d h0t
  have g1 : tg (tk t) = (3, t) := (h5 t ht).2
  have hU : Up (fun b => b = a ∨ b = tk t ∨ b = pa') w tg w' tg := Up.by (fun b e hb hS => eo b (fun z => hS (Or.inl z)) (fun z => hS (Or.inr (Or.inl z))) (fun z => hS (Or.inr (Or.inr z)))) (by rintro _ (rfl | rfl | rfl); exact ⟨_, e1 _ _ c1⟩; exact ⟨_, e2⟩; exact ⟨_, e3⟩) (fun b e hb => rfl)
  have hrow := c2.up c3 hU (by rintro _ (rfl | rfl | rfl); rw [ga]; simp; rw [g1]; simp; rw [g2]; simp)
  have F1 : Forest (PC G w tg) (va_up T (6 + p) []) := h6.clear (fun u => by by_cases hu : u = 6 + p <;> simp [va_up, hu]) (fun _ _ _ _ _ z => z)
  have T1t : va_up T (6 + p) [] t = T t := up_off (by omega)
  have keep : ∀ (b : Nat) (e : VR) (bh : Option Nat), b ≠ a → PC G w tg b e bh → PC G w' tg b e bh := fun b e bh hb hp => hp.up hU (by rintro (rfl | rfl | rfl); exact hb rfl; have := hp.1; rw [g1] at this; cases this; have := hp.1; rw [g2] at this; cases this) (by rintro _ (rfl | rfl | rfl); rw [ga]; simp; rw [g1]; simp; rw [g2]; simp)
  have F3 := Forest.push (P' := PC G w' tg) (t := t) (a := a) (d := d) F1 (by
    intro u i e z
    by_cases hu2 : u = 6 + p
    · subst hu2; rw [up_at] at z; simp at z
    · rw [up_off hu2] at z
      exact hu2 (h6.2 _ _ _ _ _ _ _ z h0t).1) ⟨ga, ro, by rw [T1t]; exact e1 _ _ c1, hrow⟩ keep
  rw [T1t] at F3
  refine h.make (y' := yset t (d :: y.1 t) (yset (6 + p) [] y)) hU (by rintro _ (rfl | rfl | rfl); rw [ga]; decide; rw [g1]; simp; rw [g2]; simp) (cu h1 hU (by rintro _ (rfl | rfl | rfl); rw [ga]; decide; rw [g1]; simp; rw [g2]; simp)).1 (cu h4 hU (by rintro _ (rfl | rfl | rfl); rw [ga]; decide; rw [g1]; simp; rw [g2]; simp)).1 (fun v hv => ?_) F3 (map_up (map_up h7 rfl) (by simp [h7 t])) (Or.inr ⟨sa, pa', n, b, _, hsd, cu q2 hU (by rintro _ (rfl | rfl | rfl); rw [ga]; decide; rw [g1]; simp; rw [g2]; simp), ⟨e3, g2⟩, hos, q5, fun p' hp' => ?_⟩) (h9.up hU (by rintro _ (rfl | rfl | rfl); rw [ga]; decide; rw [g1]; simp; rw [g2]; simp))
  · by_cases hvt : v = t
    · subst hvt
      rw [up_at, e2, List.length_cons, nI_1]; rfl
    · rw [up_off hvt, up_off (by omega)]
      exact (cu (h5 v hv) hU (by rintro _ (rfl | rfl | rfl); rw [ga]; simp; rw [g1]; simp [Ne.symm hvt]; rw [g2]; simp)).1
  · rw [up_off (show 6 + p' ≠ t by omega)]
    by_cases hpp : p' = p
    · subst hpp; rw [up_at, up_at]; rfl
    · rw [up_off hpp, up_off (by omega)]; exact q6 p' hp'
/-- what the model's cells do is nothing to these -/
theorem RepCx.frame {S : Nat → Prop} {tg' : tT} (h : RepCx G tg w h0 c y ta to tf tk sd pl T) (hU : Up S w tg w' tg') (hS : ∀ b, S b → 10 ≤ (tg b).1) : RepCx G tg' w' h0 c y ta to tf tk sd pl T := by
  obtain ⟨h1, h2, h3, h4, h5, h6, h7, h8, h9⟩ := id h
  have no : ∀ τ : Nat × Nat, τ.1 < 10 → ∀ b, S b → tg b ≠ τ := by
    intro τ n1 b hb z
    have := hS b hb
    rw [z] at this
    omega
  exact h.make hU (no _ (by decide)) (cu h1 hU (no _ (by decide))).1 (cu h4 hU (no _ (by decide))).1 (fun t ht => (cu (h5 t ht) hU (no _ (by show (3 : Nat) < 10; decide))).1) (FC.up h6 hU (fun b hb => by have := hS b hb; omega)) h7 (h8.up hU (fun b hb => ⟨no _ (by decide) b hb, no _ (by decide) b hb⟩) (fun _ _ => rfl)) (h9.up hU (fun b hb => ⟨no _ (by decide) b hb, no _ (by decide) b hb⟩))
end RC2
end
section
def Fr (w : wT) (tg : tT) (w' : wT) (tg' : tT) : Prop := ∀ b e, w b = some e → tg' b = tg b ∧ (∃ e', w' b = some e') ∧ (10 ≤ (tg b).1 → w' b = some e)
theorem Fr.rf {w : wT} {tg : tT} : Fr w tg w tg := fun b e h => ⟨rfl, ⟨e, h⟩, fun _ => h⟩
theorem Fr.put {w w1 : wT} {tg tg1 : tT} {a : Nat} {x : va_E} (h : Fr w tg w1 tg1) {τ : Nat × Nat} (ha : tg1 a = τ) (hτ : τ.1 < 10) : Fr w tg (va_up w1 a (some x)) tg1 := by
  intro b e hb
  obtain ⟨h1, ⟨e', h2⟩, h3⟩ := h b e hb
  by_cases hba : b = a
  · subst hba
    exact ⟨h1, ⟨x, up_eq⟩, fun z => by rw [← h1, ha] at z; omega⟩
  · exact ⟨h1, ⟨e', by rw [up_ne hba]; exact h2⟩, fun z => by rw [up_ne hba]; exact h3 z⟩
theorem Fr.new {w w1 : wT} {tg tg1 : tT} {q : Nat} {x : va_E} {σ : Nat × Nat} (h : Fr w tg w1 tg1) (hq : w q = none) : Fr w tg (va_up w1 q (some x)) (va_up tg1 q σ) := by
  intro b e hb
  obtain ⟨h1, ⟨e', h2⟩, h3⟩ := h b e hb
  have hbq := ad_new hb hq
  exact ⟨by rw [up_off hbq]; exact h1, ⟨e', by rw [up_ne hbq]; exact h2⟩, fun z => by rw [up_ne hbq]; exact h3 z⟩
theorem Fr.eq {w w1 w2 : wT} {tg tg1 : tT} (h : Fr w tg w1 tg1) (e : w2 = w1) : Fr w tg w2 tg1 := by rw [e]; exact h
def OutC (G : gT) (tg : tT) (w : wT) (h0 c : Nat) (res : Int32 × Yd) (r : Int32) (w' : wT) : Prop := r = res.1 ∧ ∃ tg' c', c' ≤ c + 1 ∧ RepC G tg' w' h0 c' res.2 ∧ Fr w tg w' tg'
section OC
variable {G : gT} {tg tg1 : tT} {w w1 w' : wT} {h0 c ta to : Nat} {y y1 : Yd} {tf : Nat → Option Nat} {tk : Nat → Nat} {sd pl : Option Nat} {T : Nat → LV} {r : Int32} {k : Nat}
theorem out_same {res : Int32 × Yd} (hR : RepC G tg w h0 c y) (he : res = (r, y)) : OutC G tg w h0 c res r w := by
  subst he
  exact ⟨rfl, tg, c, by omega, hR, Fr.rf⟩
theorem out_of {res : Int32 × Yd} {c' : Nat} (hx : RepCx G tg1 w' h0 c' y1 ta to tf tk sd pl T) (hF : Fr w tg w' tg1) (hc : c' ≤ c + 1) (he : res = (r, y1)) : OutC G tg w h0 c res r w' := by
  subst he
  exact ⟨rfl, tg1, c', hc, ⟨ta, to, tf, tk, sd, pl, T, hx⟩, hF⟩
theorem out_tell {res : Int32 × Yd} (hx : RepCx G tg1 w1 h0 c y1 ta to tf tk sd pl T) (hF : Fr w tg w1 tg1) (hr : r = -10 - nI k) (hw : w' = va_up w1 to (some (aI G 8 (upd y1.2.2.2.2.2 k (y1.2.2.2.2.2 k + 1))))) (he : res = yno k y1) : OutC G tg w h0 c res r w' := by
  subst he
  exact ⟨hr, tg1, c, by omega, ⟨ta, to, tf, tk, sd, pl, T, hx.tell k hw⟩, by rw [hw]; exact hF.put hx.2.2.2.1.2 (by decide)⟩
theorem out_lev {res : Int32 × Yd} {x : Int32} (hx : RepCx G tg w h0 c y ta to tf tk sd pl T) (hr : r = -10 - nI k) (hw : w' = va_up (va_up w h0 (some (cTs (some ta) (some to) sd pl x (nI c)))) to (some (aI G 8 (upd y.2.2.2.2.2 k (y.2.2.2.2.2 k + 1))))) (he : res = yno k (ylev x y)) : OutC G tg w h0 c res r w' := by
  subst he
  exact ⟨hr, tg, c, by omega, ⟨ta, to, tf, tk, sd, pl, T, hx.tellLevel k x hw⟩, by rw [hw]; exact (Fr.rf.put hx.1.2 (by decide)).put hx.2.2.2.1.2 (by decide)⟩
end OC
theorem tn_lt {t : Int32} {n : Nat} (h : 0 ≤ t.toInt ∧ t.toInt < n) : t.toNatClampNeg < n := by
  have : t.toNatClampNeg = t.toInt.toNat := rfl
  omega
theorem vix_pos {L : LV} {k : Int32} (h : 0 ≤ k.toInt) : vix L k = L[k.toNatClampNeg]? := by
  have : ¬ k.toInt < 0 := by omega
  simp [vix, this]
theorem whyC_lt (od : Option VR) (i : Int32) : whyC od i < 8 := by
  unfold whyC
  split <;> try decide
  split <;> try decide
  split <;> try decide
  split <;> decide
theorem whyR_lt (od : Option VR) : whyR od < 8 := by
  unfold whyR
  split <;> try decide
  split <;> try decide
  split <;> decide
theorem whyP_lt (od : OS) (i : Int32) : whyP od i < 8 := by
  unfold whyP
  split <;> try decide
  split <;> decide
theorem whyL_lt (od : OP) (i : Int32) : whyL od i < 8 := by
  unfold whyL
  split <;> try decide
  split <;> decide
theorem whyN_lt (od : OP) (i j : Int32) : whyN od i j < 8 := by
  unfold whyN
  split <;> try decide
  split <;> decide
theorem nI_z {n : Nat} (h : n < 8) : nI n = 0 ↔ n = 0 := by
  have := nI_eq (a := n) (b := 0) (by omega) (by omega)
  rwa [nI_0] at this
theorem map_snd {L : LV} {i a : Nat} {d : VR} (h : L[i]? = some (a, d)) : (L[i]?).map Prod.snd = some d := by rw [h]; rfl
theorem kc_4 : (4 : Int32).toInt = 4 := by decide
set_option maxHeartbeats 4000000 in
set_option maxRecDepth 100000 in
theorem c_X4_level (l : Launch) (G : gT) (w : wT) (tg : tT) (h0 c nb : Nat) (y : Yd) (hR : RepC G tg w h0 c y) (hY : Yok nb y) (hn : nb ≤ 512)  : Met l yX4_level wsX4_level ({ frames := 0, cells := 0, slots := 0, locals := 0 }) (va_Pc [.ref h0] (wG G w)) (Qi G (OutC G tg w h0 c (sp_level y))) 0 0 (fr G) := by
  refine f_met (cc := cX4_level) (maxL := 1) (ret := (some .int)) (by decide) rfl rfl (Nat.le_of_ble_eq_true rfl) ?_
  intro p e s m below meth cd X hr hlk hnm Z ls hl
  have X : CallFix p m cd cX4_level 1 s [.ref h0].toArray wsX4_level RX4 := X
  have hl : lV ls _ [some (.ref h0)] := hl
  have i4 : ∀ w ∈ wsX40, w ∈ wsX4_level := by decide +kernel
  obtain ⟨ta, to, tf, tk, sd, pl, T, hx⟩ := id hR
  obtain ⟨h1, h2, h3, h4, h5, h6, h7, h8, h9⟩ := id hx
  refine f_aload (v := .ref h0) X hl ⟨_, rfl, dX4_level_0⟩ rfl ⟨(some h0), rfl⟩ ?_
  refine f_get (v := .int y.2.2.2.2.1) (k := 4) X Z i4 rfl (by decide) (by decide +kernel) dX4_level_1 h1.1 rfl ?_
  exact f_iret X hr hlk Z (Nat.le_of_ble_eq_true rfl) (Nat.le_of_ble_eq_true rfl) dX4_level_4 (out_same hR rfl)
set_option maxHeartbeats 4000000 in
set_option maxRecDepth 100000 in
theorem c_X4_count (l : Launch) (G : gT) (w : wT) (tg : tT) (h0 c nb : Nat) (y : Yd) (hR : RepC G tg w h0 c y) (hY : Yok nb y) (hn : nb ≤ 512) (t : Int32) : Met l yX4_count wsX4_count ({ frames := 1, cells := 0, slots := 0, locals := 20 }) (va_Pc [.ref h0, .int t] (wG G w)) (Qi G (OutC G tg w h0 c (sp_count t y))) 0 0 (fr G) := by
  refine f_met (cc := cX4_count) (maxL := 2) (ret := (some .int)) (by decide) rfl rfl (Nat.le_of_ble_eq_true rfl) ?_
  intro p e s m below meth cd X hr hlk hnm Z ls hl
  have X : CallFix p m cd cX4_count 2 s [.ref h0, .int t].toArray wsX4_count RX4 := X
  have hl : lV ls _ [some (.ref h0), some (.int t)] := hl
  have i2 : ∀ w ∈ wsX20, w ∈ wsX4_count := by decide +kernel
  have i4 : ∀ w ∈ wsX40, w ∈ wsX4_count := by decide +kernel
  obtain ⟨ta, to, tf, tk, sd, pl, T, hx⟩ := id hR
  obtain ⟨h1, h2, h3, h4, h5, h6, h7, h8, h9⟩ := id hx
  refine f_iload X hl ⟨_, rfl, dX4_count_0⟩ rfl ?_
  refine f_callSi (rest := []) X Z hl.1 (c_X4_isTrack l G _ _) (va_cwS 1 X.2.2.2.2 gX4_count_X4_isTrack rfl rfl rfl (by decide +kernel) ⟨(Nat.le_of_ble_eq_true rfl), (Nat.le_of_ble_eq_true rfl)⟩) rfl dX4_count_1 ⟨(Nat.le_of_ble_eq_true rfl), (Nat.le_of_ble_eq_true rfl)⟩ rfl (Nat.le_of_ble_eq_true rfl) (fun r1 w1 H locs p1 Z => ?_)
  obtain ⟨w1e, hr1⟩ := p1
  have w1e := w1e.symm
  subst w1e
  refine lv_if_eq (tgt := 19) X.1 X.2.1 dX4_count_4 (by decide) (fun c4 => ?_) (fun c4 => ?_)
  · rw [hr1, bI_0] at c4
    refine lv_iconst (v := (-1)) X.1 X.2.1 dX4_count_19 (by decide) ?_
    exact f_iret X hr hlk Z (Nat.le_of_ble_eq_true rfl) (Nat.le_of_ble_eq_true rfl) dX4_count_20 (out_same hR (if_neg c4))
  · rw [hr1, bI_0, Classical.not_not] at c4
    obtain ⟨j, hjt_j⟩ : ∃ j, t.toNatClampNeg = j := ⟨_, rfl⟩
    have hj_j : j < 6 := hjt_j ▸ tn_lt c4
    have hin_j : vp_in t 6 := vp_in_iff.mpr c4
    refine f_aload (v := .ref h0) X hl ⟨_, rfl, dX4_count_7⟩ rfl ⟨(some h0), rfl⟩ ?_
    refine f_get (v := .ref ta) (k := 0) X Z i4 rfl (by decide) (by decide +kernel) dX4_count_8 h1.1 rfl ?_
    refine f_iload X hl ⟨_, rfl, dX4_count_11⟩ rfl ?_
    refine f_tald X Z dX4_count_12 h2.1 hin_j ?_
    rw [hjt_j, h3 j hj_j]
    refine f_get (v := .int (nI (T j).length)) (k := 1) X Z i2 rfl (by decide) (by decide +kernel) dX4_count_13 (h5 j hj_j).1 rfl ?_
    refine lv_goto (tgt := 20) X.1 X.2.1 dX4_count_16 (by decide) ?_
    exact f_iret X hr hlk Z (Nat.le_of_ble_eq_true rfl) (Nat.le_of_ble_eq_true rfl) dX4_count_20 (out_same hR (by unfold sp_count tn; rw [if_pos c4, hjt_j, hx.len j]))
set_option maxHeartbeats 4000000 in
set_option maxRecDepth 100000 in
theorem c_X4_reasons (l : Launch) (G : gT) (w : wT) (tg : tT) (h0 c nb : Nat) (y : Yd) (hR : RepC G tg w h0 c y) (hY : Yok nb y) (hn : nb ≤ 512) (k : Int32) : Met l yX4_reasons wsX4_reasons ({ frames := 1, cells := 0, slots := 0, locals := 22 }) (va_Pc [.ref h0, .int k] (wG G w)) (Qi G (OutC G tg w h0 c (sp_reasons k y))) 0 0 (fr G) := by
  refine f_met (cc := cX4_reasons) (maxL := 2) (ret := (some .int)) (by decide) rfl rfl (Nat.le_of_ble_eq_true rfl) ?_
  intro p e s m below meth cd X hr hlk hnm Z ls hl
  have X : CallFix p m cd cX4_reasons 2 s [.ref h0, .int k].toArray wsX4_reasons RX4 := X
  have hl : lV ls _ [some (.ref h0), some (.int k)] := hl
  have i4 : ∀ w ∈ wsX40, w ∈ wsX4_reasons := by decide +kernel
  obtain ⟨ta, to, tf, tk, sd, pl, T, hx⟩ := id hR
  obtain ⟨h1, h2, h3, h4, h5, h6, h7, h8, h9⟩ := id hx
  refine f_iload X hl ⟨_, rfl, dX4_reasons_0⟩ rfl ?_
  refine lv_iconst (v := 1) X.1 X.2.1 dX4_reasons_1 (by decide) ?_
  refine lv_bipush (v := 7) X.1 X.2.1 dX4_reasons_2 (by decide) ?_
  refine f_callSi (rest := []) X Z hl.1 (c_X4_isWithin l G _ _ _ _) (va_cwS 3 X.2.2.2.2 gX4_reasons_X4_isWithin rfl rfl rfl (by decide +kernel) ⟨(Nat.le_of_ble_eq_true rfl), (Nat.le_of_ble_eq_true rfl)⟩) rfl dX4_reasons_4 ⟨(Nat.le_of_ble_eq_true rfl), (Nat.le_of_ble_eq_true rfl)⟩ rfl (Nat.le_of_ble_eq_true rfl) (fun r4 w1 H locs p4 Z => ?_)
  obtain ⟨w1e, hr4⟩ := p4
  have w1e := w1e.symm
  subst w1e
  refine lv_if_eq (tgt := 19) X.1 X.2.1 dX4_reasons_7 (by decide) (fun c7 => ?_) (fun c7 => ?_)
  · rw [hr4, bI_0] at c7
    refine lv_iconst (v := (-1)) X.1 X.2.1 dX4_reasons_19 (by decide) ?_
    exact f_iret X hr hlk Z (Nat.le_of_ble_eq_true rfl) (Nat.le_of_ble_eq_true rfl) dX4_reasons_20 (out_same hR (if_neg c7))
  · rw [hr4, bI_0, Classical.not_not] at c7
    refine f_aload (v := .ref h0) X hl ⟨_, rfl, dX4_reasons_10⟩ rfl ⟨(some h0), rfl⟩ ?_
    refine f_get (v := .ref to) (k := 1) X Z i4 rfl (by decide) (by decide +kernel) dX4_reasons_11 h1.1 rfl ?_
    refine f_iload X hl ⟨_, rfl, dX4_reasons_14⟩ rfl ?_
    refine f_iald X Z dX4_reasons_15 h4.1 (vp_in_iff.mpr (by simp only [kc_1, kc_7] at c7; omega)) ?_
    refine lv_goto (tgt := 20) X.1 X.2.1 dX4_reasons_16 (by decide) ?_
    exact f_iret X hr hlk Z (Nat.le_of_ble_eq_true rfl) (Nat.le_of_ble_eq_true rfl) dX4_reasons_20 (out_same hR (if_pos c7))
set_option maxHeartbeats 4000000 in
set_option maxRecDepth 100000 in
theorem c_X4_weigh (l : Launch) (G : gT) (w : wT) (tg : tT) (h0 c nb : Nat) (y : Yd) (hR : RepC G tg w h0 c y) (hY : Yok nb y) (hn : nb ≤ 512) (t k : Int32) : Met l yX4_weigh wsX4_weigh ({ frames := 2, cells := 0, slots := 0, locals := 41 }) (va_Pc [.ref h0, .int t, .int k] (wG G w)) (Qi G (OutC G tg w h0 c (sp_weigh t k y))) 0 0 (fr G) := by
  refine f_met (cc := cX4_weigh) (maxL := 4) (ret := (some .int)) (by decide) rfl rfl (Nat.le_of_ble_eq_true rfl) ?_
  intro p e s m below meth cd X hr hlk hnm Z ls hl
  have X : CallFix p m cd cX4_weigh 4 s [.ref h0, .int t, .int k].toArray wsX4_weigh RX4 := X
  have hl : lV ls _ [some (.ref h0), some (.int t), some (.int k), none] := hl
  have i4 : ∀ w ∈ wsX40, w ∈ wsX4_weigh := by decide +kernel
  obtain ⟨ta, to, tf, tk, sd, pl, T, hx⟩ := id hR
  obtain ⟨h1, h2, h3, h4, h5, h6, h7, h8, h9⟩ := id hx
  refine f_iload X hl ⟨_, rfl, dX4_weigh_0⟩ rfl ?_
  refine f_iload X hl ⟨_, rfl, dX4_weigh_1⟩ rfl ?_
  refine f_callSi (rest := []) X Z hl.1 (c_X4_isPosition l G _ _ _) (va_cwS 2 X.2.2.2.2 gX4_weigh_X4_isPosition rfl rfl rfl (by decide +kernel) ⟨(Nat.le_of_ble_eq_true rfl), (Nat.le_of_ble_eq_true rfl)⟩) rfl dX4_weigh_2 ⟨(Nat.le_of_ble_eq_true rfl), (Nat.le_of_ble_eq_true rfl)⟩ rfl (Nat.le_of_ble_eq_true rfl) (fun r2 w1 H locs p2 Z => ?_)
  obtain ⟨w1e, hr2⟩ := p2
  have w1e := w1e.symm
  subst w1e
  refine lv_if_ne (tgt := 10) X.1 X.2.1 dX4_weigh_5 (by decide) (fun c5 => ?_) (fun c5 => ?_)
  · rw [hr2, bI_0, Classical.not_not] at c5
    obtain ⟨j, hjt_j⟩ : ∃ j, t.toNatClampNeg = j := ⟨_, rfl⟩
    have hj_j : j < 6 := hjt_j ▸ tn_lt c5.1
    have hin_j : vp_in t 6 := vp_in_iff.mpr c5.1
    refine f_aload (v := .ref h0) X hl ⟨_, rfl, dX4_weigh_10⟩ rfl ⟨(some h0), rfl⟩ ?_
    refine f_get (v := .ref ta) (k := 0) X Z i4 rfl (by decide) (by decide +kernel) dX4_weigh_11 h1.1 rfl ?_
    refine f_iload X hl ⟨_, rfl, dX4_weigh_14⟩ rfl ?_
    refine f_tald X Z dX4_weigh_15 h2.1 hin_j ?_
    rw [hjt_j, h3 j hj_j]
    refine f_iload X hl ⟨_, rfl, dX4_weigh_16⟩ rfl ?_
    refine f_callVq (rest := []) X Z hl.1 (c_X2_vehicleAt l G w (tk j) (T j) k (hx.trk hY hn hj_j)) (cwV 1 X.2.2.2.2 gX4_weigh_X2_vehicleAt rfl rfl rfl (by decide +kernel) ⟨(Nat.le_of_ble_eq_true rfl), (Nat.le_of_ble_eq_true rfl)⟩) rfl rfl dX4_weigh_17 ⟨(Nat.le_of_ble_eq_true rfl), (Nat.le_of_ble_eq_true rfl)⟩ rfl (Nat.le_of_ble_eq_true rfl) (h5 j hj_j).1 (fun r17 w2 H locs p17 Z => ?_)
    obtain ⟨w2e, hr17⟩ := p17
    have w2e := w2e.symm
    subst w2e
    rw [vix_pos c5.2] at hr17
    have hv : vopt G w r17 ((y.1 j)[k.toNatClampNeg]?) := by rw [hr17]; exact hx.vopt j _
    refine f_astore X hl ⟨_, rfl, dX4_weigh_20⟩ (by decide) ⟨r17, rfl⟩ (fun ls hl => ?_)
    have hl : lV ls _ [some (.ref h0), some (.int t), some (.int k), some (va_rf r17)] := hl
    refine f_aload (v := va_rf r17) X hl ⟨_, rfl, dX4_weigh_21⟩ rfl ⟨r17, rfl⟩ ?_
    refine f_ifnonnull (tgt := 33) X dX4_weigh_22 (by decide) (fun a22 c22 => ?_) (fun c22 => ?_)
    · subst c22
      obtain ⟨d, hd1⟩ := mf hr17
      obtain ⟨gA, ro, hcA, hro, hrt⟩ := h6.1 j _ a22 d hd1
      have hya : (y.1 j)[k.toNatClampNeg]? = some d := by rw [hx.at]; exact map_snd hd1
      refine f_aload (v := .ref a22) X hl ⟨_, rfl, dX4_weigh_33⟩ rfl ⟨(some a22), rfl⟩ ?_
      refine f_callVi (rest := []) X Z hl.1 (c_X3_fullWeight l G w a22 d _ (h6.1 j _ a22 d hd1).veh) (cwV 0 X.2.2.2.2 gX4_weigh_X3_fullWeight rfl rfl rfl (by decide +kernel) ⟨(Nat.le_of_ble_eq_true rfl), (Nat.le_of_ble_eq_true rfl)⟩) rfl rfl dX4_weigh_34 ⟨(Nat.le_of_ble_eq_true rfl), (Nat.le_of_ble_eq_true rfl)⟩ rfl (Nat.le_of_ble_eq_true rfl) hcA (fun r34 w3 H locs p34 Z => ?_)
      obtain ⟨w3e, hr34⟩ := p34
      have w3e := w3e.symm
      subst w3e
      exact f_iret X hr hlk Z (Nat.le_of_ble_eq_true rfl) (Nat.le_of_ble_eq_true rfl) dX4_weigh_37 (out_same hR (by simp only [sp_weigh, if_pos c5, yat, tn, hjt_j, hya, hr34]))
    · subst c22
      have hya : (y.1 j)[k.toNatClampNeg]? = none := vopt_none hv
      refine f_aload (v := .ref h0) X hl ⟨_, rfl, dX4_weigh_25⟩ rfl ⟨(some h0), rfl⟩ ?_
      refine lv_iconst (v := 1) X.1 X.2.1 dX4_weigh_26 (by decide) ?_
      refine f_callVi (rest := []) X Z hl.1 (c_X4_tell l G w h0 ta to sd pl y.2.2.2.2.1 (nI c) h1.1 y.2.2.2.2.2 1 (by decide) h4.1) (cwV 1 X.2.2.2.2 gX4_weigh_X4_tell rfl rfl rfl (by decide +kernel) ⟨(Nat.le_of_ble_eq_true rfl), (Nat.le_of_ble_eq_true rfl)⟩) rfl rfl dX4_weigh_27 ⟨(Nat.le_of_ble_eq_true rfl), (Nat.le_of_ble_eq_true rfl)⟩ rfl (Nat.le_of_ble_eq_true rfl) h1.1 (fun r27 w4 H locs p27 Z => ?_)
      obtain ⟨hrT, hwT⟩ := p27
      refine lv_goto (tgt := 37) X.1 X.2.1 dX4_weigh_30 (by decide) ?_
      exact f_iret X hr hlk Z (Nat.le_of_ble_eq_true rfl) (Nat.le_of_ble_eq_true rfl) dX4_weigh_37 (out_tell hx Fr.rf hrT hwT (by simp only [sp_weigh, if_pos c5, yat, tn, hjt_j, hya]))
  · rw [hr2, bI_0] at c5
    refine lv_iconst (v := (-1)) X.1 X.2.1 dX4_weigh_8 (by decide) ?_
    exact f_iret X hr hlk Z (Nat.le_of_ble_eq_true rfl) (Nat.le_of_ble_eq_true rfl) dX4_weigh_9 (out_same hR (if_neg c5))
end
section
theorem va_rf_inj {a b : Option Nat} (h : va_rf a = va_rf b) : a = b := by
  cases a <;> cases b <;> simp [va_rf] at h ⊢
  exact h
theorem cVeh_inj {a b c a' b' c' : Int32} {r h r' h' : Option Nat} (e : some (cVeh a b c r h) = some (cVeh a' b' c' r' h')) : r = r' ∧ h = h' := by
  have e := Option.some.inj e
  simp only [Sum.inr.injEq, Prod.mk.injEq, List.cons.injEq, true_and, and_true] at e
  exact ⟨va_rf_inj e.2.2.2.1, va_rf_inj e.2.2.2.2⟩
theorem tn_ne {f t : Int32} (h1 : 0 ≤ f.toInt) (h2 : 0 ≤ t.toInt) (h : f ≠ t) : f.toNatClampNeg ≠ t.toNatClampNeg := by
  intro e
  refine h (Int32.toInt_inj.mp ?_)
  have e1 : f.toNatClampNeg = f.toInt.toNat := rfl
  have e2 : t.toNatClampNeg = t.toInt.toNat := rfl
  omega
theorem okB_n {n : Int32} (h : okB n 1 99) : ∃ kn, kn < 99 ∧ n = nI (kn + 1) := by
  obtain ⟨h1, h2⟩ := h
  rw [kc_1] at h1
  rw [kc_99] at h2
  refine ⟨n.toInt.toNat - 1, by omega, Int32.toInt_inj.mp ?_⟩
  rw [nI_toInt (by omega)]
  omega
theorem snd_at {L : LV} {i : Nat} {d : VR} (h : (L[i]?).map Prod.snd = some d) : ∃ a, L[i]? = some (a, d) := by
  cases hq : L[i]? with
  | none => rw [hq] at h; cases h
  | some q => rw [hq] at h; obtain ⟨a, e⟩ := q; cases h; exact ⟨a, rfl⟩
theorem whyC_0 {od : Option VR} {i : Int32} (h : whyC od i = 0) : ∃ so we de n f, od = some (so, we, de, some (n, f)) ∧ 0 ≤ i.toInt ∧ i.toInt < (n : Nat) := by
  unfold whyC at h
  split at h
  · cases h
  · rename_i d
    split at h
    · cases h
    · split at h
      · cases h
      · rename_i q hq
        split at h
        · rename_i hi
          obtain ⟨so, we, de, cr⟩ := d
          obtain ⟨n, f⟩ := q
          cases hq
          exact ⟨so, we, de, n, f, rfl, hi.1, hi.2⟩
        · cases h
theorem whyR_0 {od : Option VR} (h : whyR od = 0) : ∃ so we de n f, od = some (so, we, de, some (n, f)) := by
  unfold whyR at h
  split at h
  · cases h
  · rename_i d
    split at h
    · cases h
    · split at h
      · cases h
      · rename_i q hq
        obtain ⟨so, we, de, cr⟩ := d
        obtain ⟨n, f⟩ := q
        cases hq
        exact ⟨so, we, de, n, f, rfl⟩
set_option maxHeartbeats 4000000 in
set_option maxRecDepth 100000 in
theorem c_X4_take (l : Launch) (G : gT) (w : wT) (tg : tT) (h0 c nb : Nat) (y : Yd) (hR : RepC G tg w h0 c y) (hY : Yok nb y) (hn : nb ≤ 512) (t : Int32) : Met l yX4_take wsX4_take ({ frames := 1, cells := 0, slots := 0, locals := 25 }) (va_Pc [.ref h0, .int t] (wG G w)) (Qi G (OutC G tg w h0 c (sp_take t y))) 0 0 (fr G) := by
  refine f_met (cc := cX4_take) (maxL := 3) (ret := (some .int)) (by decide) rfl rfl (Nat.le_of_ble_eq_true rfl) ?_
  intro p e s m below meth cd X hr hlk hnm Z ls hl
  have X : CallFix p m cd cX4_take 3 s [.ref h0, .int t].toArray wsX4_take RX4 := X
  have hl : lV ls _ [some (.ref h0), some (.int t), none] := hl
  have i4 : ∀ w ∈ wsX40, w ∈ wsX4_take := by decide +kernel
  obtain ⟨ta, to, tf, tk, sd, pl, T, hx⟩ := id hR
  obtain ⟨h1, h2, h3, h4, h5, h6, h7, h8, h9⟩ := id hx
  refine f_iload X hl ⟨_, rfl, dX4_take_0⟩ rfl ?_
  refine f_callSi (rest := []) X Z hl.1 (c_X4_isTrack l G _ _) (va_cwS 1 X.2.2.2.2 gX4_take_X4_isTrack rfl rfl rfl (by decide +kernel) ⟨(Nat.le_of_ble_eq_true rfl), (Nat.le_of_ble_eq_true rfl)⟩) rfl dX4_take_1 ⟨(Nat.le_of_ble_eq_true rfl), (Nat.le_of_ble_eq_true rfl)⟩ rfl (Nat.le_of_ble_eq_true rfl) (fun r1 w1 H locs p1 Z => ?_)
  obtain ⟨w1e, hr1⟩ := p1
  have w1e := w1e.symm
  subst w1e
  refine lv_if_ne (tgt := 9) X.1 X.2.1 dX4_take_4 (by decide) (fun c4 => ?_) (fun c4 => ?_)
  · rw [hr1, bI_0, Classical.not_not] at c4
    obtain ⟨j, hjt_j⟩ : ∃ j, t.toNatClampNeg = j := ⟨_, rfl⟩
    have hj_j : j < 6 := hjt_j ▸ tn_lt c4
    have hin_j : vp_in t 6 := vp_in_iff.mpr c4
    refine f_aload (v := .ref h0) X hl ⟨_, rfl, dX4_take_9⟩ rfl ⟨(some h0), rfl⟩ ?_
    refine f_get (v := .ref ta) (k := 0) X Z i4 rfl (by decide) (by decide +kernel) dX4_take_10 h1.1 rfl ?_
    refine f_iload X hl ⟨_, rfl, dX4_take_13⟩ rfl ?_
    refine f_tald X Z dX4_take_14 h2.1 hin_j ?_
    rw [hjt_j, h3 j hj_j]
    rcases hTj : T j with _ | ⟨⟨a, d⟩, L⟩
    · have hcl : w (tk j) = some (cTrk none (nI 0)) := by have q := (h5 j hj_j).1; rw [hTj] at q; exact q
      have hyj : y.1 j = [] := by rw [← h7 j, hTj]; rfl
      refine f_callVq (rest := []) X Z hl.1 (c_X2_removeFront l G w (tk j) none (nI 0) 0 0 0 none none hcl (fun a h => by cases h)) (cwV 0 X.2.2.2.2 gX4_take_X2_removeFront rfl rfl rfl (by decide +kernel) ⟨(Nat.le_of_ble_eq_true rfl), (Nat.le_of_ble_eq_true rfl)⟩) rfl rfl dX4_take_15 ⟨(Nat.le_of_ble_eq_true rfl), (Nat.le_of_ble_eq_true rfl)⟩ rfl (Nat.le_of_ble_eq_true rfl) hcl (fun r15 w2 H locs p15 Z => ?_)
      obtain ⟨hr, hw0, -⟩ := p15
      have hw0 := (hw0 rfl).symm
      subst hw0
      subst hr
      refine f_astore X hl ⟨_, rfl, dX4_take_18⟩ (by decide) ⟨none, rfl⟩ (fun ls hl => ?_)
      have hl : lV ls _ [some (.ref h0), some (.int t), some (.null)] := hl
      refine f_aload (v := .null) X hl ⟨_, rfl, dX4_take_19⟩ rfl ⟨none, rfl⟩ ?_
      refine lv_ifnonnullN X.1 X.2.1 dX4_take_20 ?_
      refine f_aload (v := .ref h0) X hl ⟨_, rfl, dX4_take_23⟩ rfl ⟨(some h0), rfl⟩ ?_
      refine lv_iconst (v := 1) X.1 X.2.1 dX4_take_24 (by decide) ?_
      refine f_callVi (rest := []) X Z hl.1 (c_X4_tell l G w h0 ta to sd pl y.2.2.2.2.1 (nI c) h1.1 y.2.2.2.2.2 1 (by decide) h4.1) (cwV 1 X.2.2.2.2 gX4_take_X4_tell rfl rfl rfl (by decide +kernel) ⟨(Nat.le_of_ble_eq_true rfl), (Nat.le_of_ble_eq_true rfl)⟩) rfl rfl dX4_take_25 ⟨(Nat.le_of_ble_eq_true rfl), (Nat.le_of_ble_eq_true rfl)⟩ rfl (Nat.le_of_ble_eq_true rfl) h1.1 (fun r25 w3 H locs p25 Z => ?_)
      obtain ⟨hrT, hwT⟩ := p25
      refine lv_goto (tgt := 35) X.1 X.2.1 dX4_take_28 (by decide) ?_
      exact f_iret X hr hlk Z (Nat.le_of_ble_eq_true rfl) (Nat.le_of_ble_eq_true rfl) dX4_take_35 (out_tell hx Fr.rf hrT hwT (by simp only [sp_take, if_pos c4, tn, hjt_j, hyj]))
    · have hd1 : (T j)[0]? = some (a, d) := by rw [hTj]; rfl
      have hcl : w (tk j) = some (cTrk (some a) (nI (L.length + 1))) := by have q := (h5 j hj_j).1; rw [hTj] at q; exact q
      have hyj : y.1 j = d :: L.map Prod.snd := by rw [← h7 j, hTj]; rfl
      obtain ⟨gA, ro, hcA, hro, hrt⟩ := h6.1 j _ a d hd1
      have hnx : nx (T j) 0 = hd L := by rw [hTj]; rfl
      rw [hnx] at hcA
      refine f_callVq (rest := []) X Z hl.1 (c_X2_removeFront l G w (tk j) (some a) (nI (L.length + 1)) d.1 d.2.1 d.2.2.1 ro (hd L) hcl (fun a1 h => by cases h; exact hcA)) (cwV 0 X.2.2.2.2 gX4_take_X2_removeFront rfl rfl rfl (by decide +kernel) ⟨(Nat.le_of_ble_eq_true rfl), (Nat.le_of_ble_eq_true rfl)⟩) rfl rfl dX4_take_15 ⟨(Nat.le_of_ble_eq_true rfl), (Nat.le_of_ble_eq_true rfl)⟩ rfl (Nat.le_of_ble_eq_true rfl) hcl (fun r15 w4 H locs p15 Z => ?_)
      obtain ⟨hr, -, hw1⟩ := p15
      have hw1 := hw1 a rfl
      subst hr
      rw [nI_pred] at hw1
      have k5 : w4 h0 = some (cTs (some ta) (some to) sd pl y.2.2.2.2.1 (nI c)) := by rw [hw1, up_ne (ad_ne h1.1 hcl (dx_oo (by decide))), up_ne (ad_ne h1.1 hcA (dx_oo (by decide)))]; exact h1.1
      have k6 : w4 ta = some (aT G 6 tf) := by rw [hw1, up_ne (ad_ne h2.1 hcl dx_io), up_ne (ad_ne h2.1 hcA dx_io)]; exact h2.1
      have k7 : w4 to = some (aI G 8 y.2.2.2.2.2) := by rw [hw1, up_ne (ad_ne h4.1 hcl dx_io), up_ne (ad_ne h4.1 hcA dx_io)]; exact h4.1
      have k8 : w4 (tk j) = some (cTrk (hd L) (nI L.length)) := by rw [hw1]; exact up_eq
      have k9 : w4 a = some (cVeh d.1 d.2.1 d.2.2.1 ro none) := by rw [hw1, up_ne (ad_ne hcA hcl (dx_oo (by decide)))]; exact up_eq
      have hU : Up (fun b => b = a ∨ b = tk j) w tg w4 tg := Up.by (fun b e _ hS => by rw [hw1, up_ne (fun z => hS (Or.inr z)), up_ne (fun z => hS (Or.inl z))]) (by rintro _ (rfl | rfl); exact ⟨_, k9⟩; exact ⟨_, k8⟩) (fun _ _ _ => rfl)
      have hve : vehAt G w4 a d none := ⟨ro, k9, (hro.up hrt hU (by rintro _ (rfl | rfl); rw [gA]; simp; rw [(h5 j hj_j).2]; simp)).1⟩
      have hF : Fr w tg w4 tg := by rw [hw1]; exact (Fr.rf.put gA (by decide)).put (h5 j hj_j).2 (by simp)
      refine f_astore X hl ⟨_, rfl, dX4_take_18⟩ (by decide) ⟨(some a), rfl⟩ (fun ls hl => ?_)
      have hl : lV ls _ [some (.ref h0), some (.int t), some (.ref a)] := hl
      refine f_aload (v := .ref a) X hl ⟨_, rfl, dX4_take_19⟩ rfl ⟨(some a), rfl⟩ ?_
      refine lv_ifnonnull (tgt := 31) X.1 X.2.1 dX4_take_20 (by decide) ?_
      refine f_aload (v := .ref a) X hl ⟨_, rfl, dX4_take_31⟩ rfl ⟨(some a), rfl⟩ ?_
      refine f_callVi (rest := []) X Z hl.1 (c_X3_fullWeight l G w4 a d none hve) (cwV 0 X.2.2.2.2 gX4_take_X3_fullWeight rfl rfl rfl (by decide +kernel) ⟨(Nat.le_of_ble_eq_true rfl), (Nat.le_of_ble_eq_true rfl)⟩) rfl rfl dX4_take_32 ⟨(Nat.le_of_ble_eq_true rfl), (Nat.le_of_ble_eq_true rfl)⟩ rfl (Nat.le_of_ble_eq_true rfl) k9 (fun r32 w10 H locs p32 Z => ?_)
      obtain ⟨w10e, hr32⟩ := p32
      have w10e := w10e.symm
      subst w10e
      exact f_iret X hr hlk Z (Nat.le_of_ble_eq_true rfl) (Nat.le_of_ble_eq_true rfl) dX4_take_35 (out_of (hx.pop hj_j hTj k9 k8 (fun b n1 n2 => by rw [hw1, up_ne n2, up_ne n1])) hF (by omega) (by simp only [sp_take, if_pos c4, tn, hjt_j, hyj, hr32]))
  · rw [hr1, bI_0] at c4
    refine lv_iconst (v := (-1)) X.1 X.2.1 dX4_take_7 (by decide) ?_
    exact f_iret X hr hlk Z (Nat.le_of_ble_eq_true rfl) (Nat.le_of_ble_eq_true rfl) dX4_take_8 (out_same hR (if_neg c4))
set_option maxHeartbeats 4000000 in
set_option maxRecDepth 100000 in
theorem c_X4_shunt (l : Launch) (G : gT) (w : wT) (tg : tT) (h0 c nb : Nat) (y : Yd) (hR : RepC G tg w h0 c y) (hY : Yok nb y) (hn : nb ≤ 512) (f n t : Int32) : Met l yX4_shunt wsX4_shunt ({ frames := 2, cells := 0, slots := 0, locals := 47 }) (va_Pc [.ref h0, .int f, .int n, .int t] (wG G w)) (Qi G (OutC G tg w h0 c (sp_shunt f n t y))) 0 0 (fr G) := by
  refine f_met (cc := cX4_shunt) (maxL := 4) (ret := (some .int)) (by decide) rfl rfl (Nat.le_of_ble_eq_true rfl) ?_
  intro p e s m below meth cd X hr hlk hnm Z ls hl
  have X : CallFix p m cd cX4_shunt 4 s [.ref h0, .int f, .int n, .int t].toArray wsX4_shunt RX4 := X
  have hl : lV ls _ [some (.ref h0), some (.int f), some (.int n), some (.int t)] := hl
  have i4 : ∀ w ∈ wsX40, w ∈ wsX4_shunt := by decide +kernel
  obtain ⟨ta, to, tf, tk, sd, pl, T, hx⟩ := id hR
  obtain ⟨h1, h2, h3, h4, h5, h6, h7, h8, h9⟩ := id hx
  refine f_iload X hl ⟨_, rfl, dX4_shunt_0⟩ rfl ?_
  refine f_iload X hl ⟨_, rfl, dX4_shunt_1⟩ rfl ?_
  refine f_callSi (rest := []) X Z hl.1 (c_X4_areTwoTracks l G _ _ _) (va_cwS 2 X.2.2.2.2 gX4_shunt_X4_areTwoTracks rfl rfl rfl (by decide +kernel) ⟨(Nat.le_of_ble_eq_true rfl), (Nat.le_of_ble_eq_true rfl)⟩) rfl dX4_shunt_2 ⟨(Nat.le_of_ble_eq_true rfl), (Nat.le_of_ble_eq_true rfl)⟩ rfl (Nat.le_of_ble_eq_true rfl) (fun r2 w1 H locs p2 Z => ?_)
  obtain ⟨w1e, hr2⟩ := p2
  have w1e := w1e.symm
  subst w1e
  refine lv_if_eq (tgt := 18) X.1 X.2.1 dX4_shunt_5 (by decide) (fun c5 => ?_) (fun c5 => ?_)
  · rw [hr2, bI_0] at c5
    refine lv_iconst (v := (-1)) X.1 X.2.1 dX4_shunt_18 (by decide) ?_
    exact f_iret X hr hlk Z (Nat.le_of_ble_eq_true rfl) (Nat.le_of_ble_eq_true rfl) dX4_shunt_19 (out_same hR (if_neg (fun h => c5 h.1)))
  · rw [hr2, bI_0, Classical.not_not] at c5
    refine f_iload X hl ⟨_, rfl, dX4_shunt_8⟩ rfl ?_
    refine lv_iconst (v := 1) X.1 X.2.1 dX4_shunt_9 (by decide) ?_
    refine lv_bipush (v := 99) X.1 X.2.1 dX4_shunt_10 (by decide) ?_
    refine f_callSi (rest := []) X Z hl.1 (c_X4_isWithin l G _ _ _ _) (va_cwS 3 X.2.2.2.2 gX4_shunt_X4_isWithin rfl rfl rfl (by decide +kernel) ⟨(Nat.le_of_ble_eq_true rfl), (Nat.le_of_ble_eq_true rfl)⟩) rfl dX4_shunt_12 ⟨(Nat.le_of_ble_eq_true rfl), (Nat.le_of_ble_eq_true rfl)⟩ rfl (Nat.le_of_ble_eq_true rfl) (fun r12 w2 H locs p12 Z => ?_)
    obtain ⟨w2e, hr12⟩ := p12
    have w2e := w2e.symm
    subst w2e
    refine lv_if_ne (tgt := 20) X.1 X.2.1 dX4_shunt_15 (by decide) (fun c15 => ?_) (fun c15 => ?_)
    · rw [hr12, bI_0, Classical.not_not] at c15
      obtain ⟨j, hjt_j⟩ : ∃ j, f.toNatClampNeg = j := ⟨_, rfl⟩
      have hj_j : j < 6 := hjt_j ▸ tn_lt c5.1
      have hin_j : vp_in f 6 := vp_in_iff.mpr c5.1
      obtain ⟨u, hjt_u⟩ : ∃ u, t.toNatClampNeg = u := ⟨_, rfl⟩
      have hj_u : u < 6 := hjt_u ▸ tn_lt c5.2.1
      have hin_u : vp_in t 6 := vp_in_iff.mpr c5.2.1
      have hju : j ≠ u := by rw [← hjt_j, ← hjt_u]; exact tn_ne c5.1.1 c5.2.1.1 c5.2.2
      have hne : tk j ≠ tk u := fun e => by
        have q := (h5 j hj_j).2
        rw [e, (h5 u hj_u).2] at q
        cases q
        exact hju rfl
      obtain ⟨kn, hkn, rfl⟩ := okB_n c15
      refine f_aload (v := .ref h0) X hl ⟨_, rfl, dX4_shunt_20⟩ rfl ⟨(some h0), rfl⟩ ?_
      refine f_get (v := .ref ta) (k := 0) X Z i4 rfl (by decide) (by decide +kernel) dX4_shunt_21 h1.1 rfl ?_
      refine f_iload X hl ⟨_, rfl, dX4_shunt_24⟩ rfl ?_
      refine f_tald X Z dX4_shunt_25 h2.1 hin_j ?_
      rw [hjt_j, h3 j hj_j]
      refine f_iload X hl ⟨_, rfl, dX4_shunt_26⟩ rfl ?_
      refine f_aload (v := .ref h0) X hl ⟨_, rfl, dX4_shunt_27⟩ rfl ⟨(some h0), rfl⟩ ?_
      refine f_get (v := .ref ta) (k := 0) X Z i4 rfl (by decide) (by decide +kernel) dX4_shunt_28 h1.1 rfl ?_
      refine f_iload X hl ⟨_, rfl, dX4_shunt_31⟩ rfl ?_
      refine f_tald X Z dX4_shunt_32 h2.1 hin_u ?_
      rw [hjt_u, h3 u hj_u]
      refine f_callVi (rest := []) X Z hl.1 (c_X2_moveFirst l G w (tk j) (tk u) (T j) (hd (T u)) (nI (T u).length) kn (by omega) (hx.trk hY hn hj_j) (h5 u hj_u).1 hne) (cwV 2 X.2.2.2.2 gX4_shunt_X2_moveFirst rfl rfl rfl (by decide +kernel) ⟨(Nat.le_of_ble_eq_true rfl), (Nat.le_of_ble_eq_true rfl)⟩) rfl rfl dX4_shunt_33 ⟨(Nat.le_of_ble_eq_true rfl), (Nat.le_of_ble_eq_true rfl)⟩ rfl (Nat.le_of_ble_eq_true rfl) (h5 j hj_j).1 (fun r33 w3 H locs p33 Z => ?_)
      rcases p33 with ⟨hT0, hrz, hwz⟩ | ⟨a, d, ro, hT1, hcA, hrz, hw1⟩
      · have hwz := hwz.symm
        subst hwz
        subst hrz
        have hlen : (T j).length ≤ kn := List.getElem?_eq_none_iff.mp hT0
        refine lv_if_eq (tgt := 43) X.1 X.2.1 dX4_shunt_36 (by decide) (fun c36 => ?_) (fun c36 => ?_)
        · refine f_aload (v := .ref h0) X hl ⟨_, rfl, dX4_shunt_43⟩ rfl ⟨(some h0), rfl⟩ ?_
          refine lv_iconst (v := 1) X.1 X.2.1 dX4_shunt_44 (by decide) ?_
          refine f_callVi (rest := []) X Z hl.1 (c_X4_tell l G w h0 ta to sd pl y.2.2.2.2.1 (nI c) h1.1 y.2.2.2.2.2 1 (by decide) h4.1) (cwV 1 X.2.2.2.2 gX4_shunt_X4_tell rfl rfl rfl (by decide +kernel) ⟨(Nat.le_of_ble_eq_true rfl), (Nat.le_of_ble_eq_true rfl)⟩) rfl rfl dX4_shunt_45 ⟨(Nat.le_of_ble_eq_true rfl), (Nat.le_of_ble_eq_true rfl)⟩ rfl (Nat.le_of_ble_eq_true rfl) h1.1 (fun r45 w4 H locs p45 Z => ?_)
          obtain ⟨hrT, hwT⟩ := p45
          exact f_iret X hr hlk Z (Nat.le_of_ble_eq_true rfl) (Nat.le_of_ble_eq_true rfl) dX4_shunt_48 (out_tell hx Fr.rf hrT hwT (by unfold sp_shunt tn; rw [if_pos ⟨c5, c15⟩, hjt_j, nI_clamp (by omega), if_neg (by rw [← hx.len j]; omega)]))
        · exact absurd rfl c36
      · subst hrz
        have gA : tg a = (4, 0) := (h6.1 j _ a d hT1).1
        have hlt : kn < (T j).length := (List.getElem?_eq_some_iff.mp hT1).1
        have k5 : w3 h0 = some (cTs (some ta) (some to) sd pl y.2.2.2.2.1 (nI c)) := by rw [hw1, up_ne (ad_ne h1.1 (h5 j hj_j).1 (dx_oo (by decide))), up_ne (ad_ne h1.1 (h5 u hj_u).1 (dx_oo (by decide))), up_ne (ad_ne h1.1 hcA (dx_oo (by decide)))]; exact h1.1
        have k6 : w3 ta = some (aT G 6 tf) := by rw [hw1, up_ne (ad_ne h2.1 (h5 j hj_j).1 dx_io), up_ne (ad_ne h2.1 (h5 u hj_u).1 dx_io), up_ne (ad_ne h2.1 hcA dx_io)]; exact h2.1
        have k7 : w3 to = some (aI G 8 y.2.2.2.2.2) := by rw [hw1, up_ne (ad_ne h4.1 (h5 j hj_j).1 dx_io), up_ne (ad_ne h4.1 (h5 u hj_u).1 dx_io), up_ne (ad_ne h4.1 hcA dx_io)]; exact h4.1
        have k8 : w3 (tk j) = some (cTrk (nx (T j) kn) (nI (T j).length - nI (kn + 1))) := by rw [hw1]; exact up_eq
        have k9 : w3 (tk u) = some (cTrk (hd (T j)) (nI (T u).length + nI (kn + 1))) := by rw [hw1, up_ne (Ne.symm hne)]; exact up_eq
        have k10 : w3 a = some (cVeh d.1 d.2.1 d.2.2.1 ro (hd (T u))) := by rw [hw1, up_ne (ad_ne hcA (h5 j hj_j).1 (dx_oo (by decide))), up_ne (ad_ne hcA (h5 u hj_u).1 (dx_oo (by decide)))]; exact up_eq
        have hF : Fr w tg w3 tg := by rw [hw1]; exact ((Fr.rf.put gA (by decide)).put (h5 u hj_u).2 (by simp)).put (h5 j hj_j).2 (by simp)
        refine lv_if_eq (tgt := 43) X.1 X.2.1 dX4_shunt_36 (by decide) (fun c36 => ?_) (fun c36 => ?_)
        · exact absurd c36 (by decide)
        · refine f_iload X hl ⟨_, rfl, dX4_shunt_39⟩ rfl ?_
          refine lv_goto (tgt := 48) X.1 X.2.1 dX4_shunt_40 (by decide) ?_
          exact f_iret X hr hlk Z (Nat.le_of_ble_eq_true rfl) (Nat.le_of_ble_eq_true rfl) dX4_shunt_48 (out_of (hx.move hj_j hj_u hju hT1 (fun ro1 bh1 z => by rw [← (cVeh_inj (hcA.symm.trans z)).1]; exact k10) k8 k9 (fun b n1 n2 n3 => by rw [hw1, up_ne n2, up_ne n3, up_ne n1])) hF (by omega) (by unfold sp_shunt tn; rw [if_pos ⟨c5, c15⟩, hjt_j, hjt_u, nI_clamp (by omega), if_pos (by rw [← hx.len j]; omega)]))
    · rw [hr12, bI_0] at c15
      refine lv_iconst (v := (-1)) X.1 X.2.1 dX4_shunt_18 (by decide) ?_
      exact f_iret X hr hlk Z (Nat.le_of_ble_eq_true rfl) (Nat.le_of_ble_eq_true rfl) dX4_shunt_19 (out_same hR (if_neg (fun h => c15 h.2)))
set_option maxHeartbeats 4000000 in
set_option maxRecDepth 100000 in
theorem c_X4_couple (l : Launch) (G : gT) (w : wT) (tg : tT) (h0 c nb : Nat) (y : Yd) (hR : RepC G tg w h0 c y) (hY : Yok nb y) (hn : nb ≤ 512) (t o : Int32) : Met l yX4_couple wsX4_couple ({ frames := 2, cells := 0, slots := 0, locals := 45 }) (va_Pc [.ref h0, .int t, .int o] (wG G w)) (Qi G (OutC G tg w h0 c (sp_couple t o y))) 0 0 (fr G) := by
  refine f_met (cc := cX4_couple) (maxL := 3) (ret := (some .int)) (by decide) rfl rfl (Nat.le_of_ble_eq_true rfl) ?_
  intro p e s m below meth cd X hr hlk hnm Z ls hl
  have X : CallFix p m cd cX4_couple 3 s [.ref h0, .int t, .int o].toArray wsX4_couple RX4 := X
  have hl : lV ls _ [some (.ref h0), some (.int t), some (.int o)] := hl
  have i2 : ∀ w ∈ wsX20, w ∈ wsX4_couple := by decide +kernel
  have i4 : ∀ w ∈ wsX40, w ∈ wsX4_couple := by decide +kernel
  obtain ⟨ta, to, tf, tk, sd, pl, T, hx⟩ := id hR
  obtain ⟨h1, h2, h3, h4, h5, h6, h7, h8, h9⟩ := id hx
  refine f_iload X hl ⟨_, rfl, dX4_couple_0⟩ rfl ?_
  refine f_iload X hl ⟨_, rfl, dX4_couple_1⟩ rfl ?_
  refine f_callSi (rest := []) X Z hl.1 (c_X4_areTwoTracks l G _ _ _) (va_cwS 2 X.2.2.2.2 gX4_couple_X4_areTwoTracks rfl rfl rfl (by decide +kernel) ⟨(Nat.le_of_ble_eq_true rfl), (Nat.le_of_ble_eq_true rfl)⟩) rfl dX4_couple_2 ⟨(Nat.le_of_ble_eq_true rfl), (Nat.le_of_ble_eq_true rfl)⟩ rfl (Nat.le_of_ble_eq_true rfl) (fun r2 w1 H locs p2 Z => ?_)
  obtain ⟨w1e, hr2⟩ := p2
  have w1e := w1e.symm
  subst w1e
  refine lv_if_ne (tgt := 10) X.1 X.2.1 dX4_couple_5 (by decide) (fun c5 => ?_) (fun c5 => ?_)
  · rw [hr2, bI_0, Classical.not_not] at c5
    obtain ⟨j, hjt_j⟩ : ∃ j, t.toNatClampNeg = j := ⟨_, rfl⟩
    have hj_j : j < 6 := hjt_j ▸ tn_lt c5.1
    have hin_j : vp_in t 6 := vp_in_iff.mpr c5.1
    obtain ⟨u, hjt_u⟩ : ∃ u, o.toNatClampNeg = u := ⟨_, rfl⟩
    have hj_u : u < 6 := hjt_u ▸ tn_lt c5.2.1
    have hin_u : vp_in o 6 := vp_in_iff.mpr c5.2.1
    have hju : j ≠ u := by rw [← hjt_j, ← hjt_u]; exact tn_ne c5.1.1 c5.2.1.1 c5.2.2
    have hne : tk j ≠ tk u := fun e => by
      have q := (h5 j hj_j).2
      rw [e, (h5 u hj_u).2] at q
      cases q
      exact hju rfl
    refine f_aload (v := .ref h0) X hl ⟨_, rfl, dX4_couple_10⟩ rfl ⟨(some h0), rfl⟩ ?_
    refine f_get (v := .ref ta) (k := 0) X Z i4 rfl (by decide) (by decide +kernel) dX4_couple_11 h1.1 rfl ?_
    refine f_iload X hl ⟨_, rfl, dX4_couple_14⟩ rfl ?_
    refine f_tald X Z dX4_couple_15 h2.1 hin_j ?_
    rw [hjt_j, h3 j hj_j]
    refine f_aload (v := .ref h0) X hl ⟨_, rfl, dX4_couple_16⟩ rfl ⟨(some h0), rfl⟩ ?_
    refine f_get (v := .ref ta) (k := 0) X Z i4 rfl (by decide) (by decide +kernel) dX4_couple_17 h1.1 rfl ?_
    refine f_iload X hl ⟨_, rfl, dX4_couple_20⟩ rfl ?_
    refine f_tald X Z dX4_couple_21 h2.1 hin_u ?_
    rw [hjt_u, h3 u hj_u]
    refine f_callVi (rest := []) X Z hl.1 (c_X2_appendAll l G w (tk j) (tk u) (T j) (hd (T u)) (nI (T u).length) (hx.trk hY hn hj_j) (h5 u hj_u).1 hne) (cwV 1 X.2.2.2.2 gX4_couple_X2_appendAll rfl rfl rfl (by decide +kernel) ⟨(Nat.le_of_ble_eq_true rfl), (Nat.le_of_ble_eq_true rfl)⟩) rfl rfl dX4_couple_22 ⟨(Nat.le_of_ble_eq_true rfl), (Nat.le_of_ble_eq_true rfl)⟩ rfl (Nat.le_of_ble_eq_true rfl) (h5 j hj_j).1 (fun r22 w2 H locs p22 Z => ?_)
    rcases p22 with ⟨hT0, hrz, hwz⟩ | ⟨kn, a, d, ro, hkl, hT1, hcA, hrz, hw1⟩
    · have hwz := hwz.symm
      subst hwz
      subst hrz
      have hyj : y.1 j = [] := by rw [← h7 j, hT0]; rfl
      refine lv_if_eq (tgt := 40) X.1 X.2.1 dX4_couple_25 (by decide) (fun c25 => ?_) (fun c25 => ?_)
      · refine f_aload (v := .ref h0) X hl ⟨_, rfl, dX4_couple_40⟩ rfl ⟨(some h0), rfl⟩ ?_
        refine lv_iconst (v := 1) X.1 X.2.1 dX4_couple_41 (by decide) ?_
        refine f_callVi (rest := []) X Z hl.1 (c_X4_tell l G w h0 ta to sd pl y.2.2.2.2.1 (nI c) h1.1 y.2.2.2.2.2 1 (by decide) h4.1) (cwV 1 X.2.2.2.2 gX4_couple_X4_tell rfl rfl rfl (by decide +kernel) ⟨(Nat.le_of_ble_eq_true rfl), (Nat.le_of_ble_eq_true rfl)⟩) rfl rfl dX4_couple_42 ⟨(Nat.le_of_ble_eq_true rfl), (Nat.le_of_ble_eq_true rfl)⟩ rfl (Nat.le_of_ble_eq_true rfl) h1.1 (fun r42 w3 H locs p42 Z => ?_)
        obtain ⟨hrT, hwT⟩ := p42
        exact f_iret X hr hlk Z (Nat.le_of_ble_eq_true rfl) (Nat.le_of_ble_eq_true rfl) dX4_couple_45 (out_tell hx Fr.rf hrT hwT (by unfold sp_couple tn; rw [if_pos c5, hjt_j, if_pos hyj]))
      · exact absurd rfl c25
    · subst hrz
      have gA : tg a = (4, 0) := (h6.1 j _ a d hT1).1
      have hyj : ¬ y.1 j = [] := fun z => by have q := hx.len j; rw [z, hkl] at q; cases q
      have k4 : w2 h0 = some (cTs (some ta) (some to) sd pl y.2.2.2.2.1 (nI c)) := by rw [hw1, up_ne (ad_ne h1.1 (h5 u hj_u).1 (dx_oo (by decide))), up_ne (ad_ne h1.1 (h5 j hj_j).1 (dx_oo (by decide))), up_ne (ad_ne h1.1 hcA (dx_oo (by decide)))]; exact h1.1
      have k5 : w2 ta = some (aT G 6 tf) := by rw [hw1, up_ne (ad_ne h2.1 (h5 u hj_u).1 dx_io), up_ne (ad_ne h2.1 (h5 j hj_j).1 dx_io), up_ne (ad_ne h2.1 hcA dx_io)]; exact h2.1
      have k6 : w2 to = some (aI G 8 y.2.2.2.2.2) := by rw [hw1, up_ne (ad_ne h4.1 (h5 u hj_u).1 dx_io), up_ne (ad_ne h4.1 (h5 j hj_j).1 dx_io), up_ne (ad_ne h4.1 hcA dx_io)]; exact h4.1
      have k7 : w2 (tk u) = some (cTrk none 0) := by rw [hw1]; exact up_eq
      have k8 : w2 (tk j) = some (cTrk (hd (T j)) (nI (T j).length + nI (T u).length)) := by rw [hw1, up_ne hne]; exact up_eq
      have k9 : w2 a = some (cVeh d.1 d.2.1 d.2.2.1 ro (hd (T u))) := by rw [hw1, up_ne (ad_ne hcA (h5 u hj_u).1 (dx_oo (by decide))), up_ne (ad_ne hcA (h5 j hj_j).1 (dx_oo (by decide)))]; exact up_eq
      have hF : Fr w tg w2 tg := by rw [hw1]; exact ((Fr.rf.put gA (by decide)).put (h5 j hj_j).2 (by simp)).put (h5 u hj_u).2 (by simp)
      refine lv_if_eq (tgt := 40) X.1 X.2.1 dX4_couple_25 (by decide) (fun c25 => ?_) (fun c25 => ?_)
      · exact absurd c25 (by decide)
      · refine f_aload (v := .ref h0) X hl ⟨_, rfl, dX4_couple_28⟩ rfl ⟨(some h0), rfl⟩ ?_
        refine f_get (v := .ref ta) (k := 0) X Z i4 rfl (by decide) (by decide +kernel) dX4_couple_29 k4 rfl ?_
        refine f_iload X hl ⟨_, rfl, dX4_couple_32⟩ rfl ?_
        refine f_tald X Z dX4_couple_33 k5 hin_j ?_
        rw [hjt_j, h3 j hj_j]
        refine f_get (v := .int (nI (T j).length + nI (T u).length)) (k := 1) X Z i2 rfl (by decide) (by decide +kernel) dX4_couple_34 k8 rfl ?_
        refine lv_goto (tgt := 45) X.1 X.2.1 dX4_couple_37 (by decide) ?_
        exact f_iret X hr hlk Z (Nat.le_of_ble_eq_true rfl) (Nat.le_of_ble_eq_true rfl) dX4_couple_45 (out_of (hx.append hj_j hj_u hju hkl hT1 (fun ro1 bh1 z => by rw [← (cVeh_inj (hcA.symm.trans z)).1]; exact k9) k8 k7 (fun b n1 n2 n3 => by rw [hw1, up_ne n3, up_ne n2, up_ne n1])) hF (by omega) (by unfold sp_couple tn; rw [if_pos c5, hjt_j, hjt_u, if_neg hyj, nI_add, hx.len j, hx.len u]))
  · rw [hr2, bI_0] at c5
    refine lv_iconst (v := (-1)) X.1 X.2.1 dX4_couple_8 (by decide) ?_
    exact f_iret X hr hlk Z (Nat.le_of_ble_eq_true rfl) (Nat.le_of_ble_eq_true rfl) dX4_couple_9 (out_same hR (if_neg c5))
end
section
theorem tgne {tg : tT} {a b : Nat} {τ σ : Nat × Nat} (h1 : tg a = τ) (h2 : tg b = σ) (h : τ ≠ σ) : a ≠ b := fun e => h (by rw [← h1, ← h2, e])
theorem nonneg {n : Int32} (h : ¬ n < 0) : 0 ≤ n.toInt := by
  rw [Int32.lt_iff_toInt_lt, kc_0] at h; omega
theorem toNat_le {n : Int32} {m : Nat} (h : n.toInt ≤ m) : n.toNatClampNeg ≤ m := by
  have : n.toNatClampNeg = n.toInt.toNat := rfl
  omega
theorem le12 {n : Int32} (h : n ≤ 12) : n.toInt ≤ 12 := by rw [Int32.le_iff_toInt_le, kc_12] at h; exact h
theorem nle12 {n : Int32} (h : ¬ n ≤ 12) : ¬ n.toInt ≤ 12 := by rw [Int32.le_iff_toInt_le, kc_12] at h; exact h
theorem isneg {n : Int32} (h : n < 0) : n.toInt < 0 := by rw [Int32.lt_iff_toInt_lt, kc_0] at h; exact h
theorem nI_tn {n : Int32} (h : 0 ≤ n.toInt) : nI n.toNatClampNeg = n := by
  obtain ⟨j, hj, rfl⟩ := nI_of (x := n) (by rw [Int32.lt_iff_toInt_lt, kc_0]; omega)
  rw [nI_clamp hj]
theorem Up.one {w : wT} {tg : tT} {a : Nat} {e : va_E} : Up (fun b => b = a) w tg (va_up w a (some e)) tg := Up.by (fun b e _ hb => up_ne hb) (by rintro _ rfl; exact ⟨_, up_eq⟩) (fun _ _ _ => rfl)
set_option maxHeartbeats 4000000 in
set_option maxRecDepth 100000 in
theorem c_X4_crates (l : Launch) (G : gT) (w : wT) (tg : tT) (h0 c nb : Nat) (y : Yd) (hR : RepC G tg w h0 c y) (hY : Yok nb y) (hn : nb ≤ 512) (t k n : Int32) : Met l yX4_crates wsX4_crates ({ frames := 2, cells := 1, slots := 12, locals := 41 }) (va_Pc [.ref h0, .int t, .int k, .int n] (wG G w)) (Qi G (OutC G tg w h0 c (sp_crates t k n y))) 1 12 (fr G) := by
  refine f_met (cc := cX4_crates) (maxL := 5) (ret := (some .int)) (by decide) rfl rfl (Nat.le_of_ble_eq_true rfl) ?_
  intro p e s m below meth cd X hr hlk hnm Z ls hl
  have X : CallFix p m cd cX4_crates 5 s [.ref h0, .int t, .int k, .int n].toArray wsX4_crates RX4 := X
  have hl : lV ls _ [some (.ref h0), some (.int t), some (.int k), some (.int n), none] := hl
  have i3 : ∀ w ∈ wsX30, w ∈ wsX4_crates := by decide +kernel
  have i4 : ∀ w ∈ wsX40, w ∈ wsX4_crates := by decide +kernel
  obtain ⟨ta, to, tf, tk, sd, pl, T, hx⟩ := id hR
  obtain ⟨h1, h2, h3, h4, h5, h6, h7, h8, h9⟩ := id hx
  refine f_iload X hl ⟨_, rfl, dX4_crates_0⟩ rfl ?_
  refine f_iload X hl ⟨_, rfl, dX4_crates_1⟩ rfl ?_
  refine f_callSi (rest := []) X Z hl.1 (c_X4_isPosition l G _ _ _) (va_cwS 2 X.2.2.2.2 gX4_crates_X4_isPosition rfl rfl rfl (by decide +kernel) ⟨(Nat.le_of_ble_eq_true rfl), (Nat.le_of_ble_eq_true rfl)⟩) rfl dX4_crates_2 ⟨(Nat.le_of_ble_eq_true rfl), (Nat.le_of_ble_eq_true rfl)⟩ rfl (Nat.le_of_ble_eq_true rfl) (fun r2 w1 H locs p2 Z => ?_)
  obtain ⟨w1e, hr2⟩ := p2
  have w1e := w1e.symm
  subst w1e
  refine lv_if_eq (tgt := 14) X.1 X.2.1 dX4_crates_5 (by decide) (fun c5 => ?_) (fun c5 => ?_)
  · rw [hr2, bI_0] at c5
    refine lv_iconst (v := (-1)) X.1 X.2.1 dX4_crates_14 (by decide) ?_
    exact f_iret X hr hlk Z (Nat.le_of_ble_eq_true rfl) (Nat.le_of_ble_eq_true rfl) dX4_crates_15 (out_same hR (if_neg (fun h => c5 h.1)))
  · rw [hr2, bI_0, Classical.not_not] at c5
    refine f_iload X hl ⟨_, rfl, dX4_crates_8⟩ rfl ?_
    refine lv_bipush (v := 12) X.1 X.2.1 dX4_crates_9 (by decide) ?_
    refine lv_icmp_le (tgt := 16) X.1 X.2.1 dX4_crates_11 (by decide) (fun c11 => ?_) (fun c11 => ?_)
    · obtain ⟨j, hjt_j⟩ : ∃ j, t.toNatClampNeg = j := ⟨_, rfl⟩
      have hj_j : j < 6 := hjt_j ▸ tn_lt c5.1
      have hin_j : vp_in t 6 := vp_in_iff.mpr c5.1
      have hn12 := le12 c11
      refine f_aload (v := .ref h0) X hl ⟨_, rfl, dX4_crates_16⟩ rfl ⟨(some h0), rfl⟩ ?_
      refine f_get (v := .ref ta) (k := 0) X Z i4 rfl (by decide) (by decide +kernel) dX4_crates_17 h1.1 rfl ?_
      refine f_iload X hl ⟨_, rfl, dX4_crates_20⟩ rfl ?_
      refine f_tald X Z dX4_crates_21 h2.1 hin_j ?_
      rw [hjt_j, h3 j hj_j]
      refine f_iload X hl ⟨_, rfl, dX4_crates_22⟩ rfl ?_
      refine f_callVq (rest := []) X Z hl.1 (c_X2_vehicleAt l G w (tk j) (T j) k (hx.trk hY hn hj_j)) (cwV 1 X.2.2.2.2 gX4_crates_X2_vehicleAt rfl rfl rfl (by decide +kernel) ⟨(Nat.le_of_ble_eq_true rfl), (Nat.le_of_ble_eq_true rfl)⟩) rfl rfl dX4_crates_23 ⟨(Nat.le_of_ble_eq_true rfl), (Nat.le_of_ble_eq_true rfl)⟩ rfl (Nat.le_of_ble_eq_true rfl) (h5 j hj_j).1 (fun r23 w2 H locs p23 Z => ?_)
      obtain ⟨w2e, hr23⟩ := p23
      have w2e := w2e.symm
      subst w2e
      rw [vix_pos c5.2] at hr23
      have hv : vopt G w r23 ((y.1 j)[k.toNatClampNeg]?) := by rw [hr23]; exact hx.vopt j _
      refine f_astore2 X hl dX4_crates_26 (by decide) ⟨r23, rfl⟩ (fun ls hl => ?_)
      have hl : lV ls _ [some (.ref h0), some (.int t), some (.int k), some (.int n), some (va_rf r23)] := hl
      refine f_aload2 (v := va_rf r23) X hl dX4_crates_28 rfl ⟨r23, rfl⟩ ?_
      refine f_callSi (rest := []) X Z hl.1 (c_X4_isEngine2 l G w _ _ hv) (va_cwS 1 X.2.2.2.2 gX4_crates_X4_isEngine rfl rfl rfl (by decide +kernel) ⟨(Nat.le_of_ble_eq_true rfl), (Nat.le_of_ble_eq_true rfl)⟩) rfl dX4_crates_30 ⟨(Nat.le_of_ble_eq_true rfl), (Nat.le_of_ble_eq_true rfl)⟩ rfl (Nat.le_of_ble_eq_true rfl) (fun r30 w3 H locs p30 Z => ?_)
      obtain ⟨w3e, hr30⟩ := p30
      have w3e := w3e.symm
      subst w3e
      refine lv_if_eq (tgt := 42) X.1 X.2.1 dX4_crates_33 (by decide) (fun c33 => ?_) (fun c33 => ?_)
      · rw [hr30, bI_0] at c33
        refine f_iload X hl ⟨_, rfl, dX4_crates_42⟩ rfl ?_
        refine lv_if_ge (tgt := 52) X.1 X.2.1 dX4_crates_43 (by decide) (fun c43 => ?_) (fun c43 => ?_)
        · have c43 : ¬ n < 0 := fun h => by rw [Int32.lt_iff_toInt_lt, kc_0] at h; rw [Int32.le_iff_toInt_le, kc_0] at c43; omega
          refine f_aload2 (v := va_rf r23) X hl dX4_crates_52 rfl ⟨r23, rfl⟩ ?_
          refine f_ifnonnull (tgt := 63) X dX4_crates_54 (by decide) (fun a54 c54 => ?_) (fun c54 => ?_)
          · subst c54
            obtain ⟨d, hd1⟩ := mf hr23
            obtain ⟨gA, ro, hcA, hro, hrt⟩ := h6.1 j _ a54 d hd1
            have hya : (y.1 j)[k.toNatClampNeg]? = some d := by rw [hx.at]; exact map_snd hd1
            have hnn : n.toNatClampNeg ≤ 12 := toNat_le hn12
            refine f_aload2 (v := .ref a54) X hl dX4_crates_63 rfl ⟨(some a54), rfl⟩ ?_
            refine f_iload X hl ⟨_, rfl, dX4_crates_65⟩ rfl ?_
            refine f_newa (ti := 0) X Z rfl (by decide +kernel) rfl (fun _ h => by cases h) rfl c43 rfl (show n.toNatClampNeg * 4 ≤ 536870912 by omega) (Nat.le_of_ble_eq_true rfl) (show 0 + n.toNatClampNeg ≤ 12 by omega) dX4_crates_66 (fun q66 H w4 hq66 e5 Z => ?_)
            have e5 : w4 = va_up w q66 (some (aI G n.toNatClampNeg (fun _ => 0))) := e5
            have k6 : w4 h0 = some (cTs (some ta) (some to) sd pl y.2.2.2.2.1 (nI c)) := by rw [e5]; exact lk_ne (ad_new h1.1 hq66) h1.1
            have k7 : w4 ta = some (aT G 6 tf) := by rw [e5]; exact lk_ne (ad_new h2.1 hq66) h2.1
            have k8 : w4 to = some (aI G 8 y.2.2.2.2.2) := by rw [e5]; exact lk_ne (ad_new h4.1 hq66) h4.1
            have k9 : w4 (tk j) = some (cTrk (hd (T j)) (nI (T j).length)) := by rw [e5]; exact lk_ne (ad_new (h5 j hj_j).1 hq66) (h5 j hj_j).1
            have k10 : w4 a54 = some (cVeh d.1 d.2.1 d.2.2.1 ro (nx (T j) k.toNatClampNeg)) := by rw [e5]; exact lk_ne (ad_new hcA hq66) hcA
            have k11 : w4 q66 = some (aI G n.toNatClampNeg (fun _ => 0)) := by rw [e5]; exact up_eq
            refine f_put (v := .ref q66) (ty0 := tyX3) (k := 3) X Z i3 tyX3_ok nmX3 rfl (by decide) (by decide +kernel) rfl dX4_crates_68 k10 (nr_a _ (some q66)) (ft_a _ (some q66)) (Nat.le_of_ble_eq_true rfl) (fun H locs w12 e13 Z => ?_)
            have e13 : w12 = va_up w4 a54 (some (cVeh d.1 d.2.1 d.2.2.1 (some q66) (nx (T j) k.toNatClampNeg))) := e13
            have k14 : w12 h0 = some (cTs (some ta) (some to) sd pl y.2.2.2.2.1 (nI c)) := by rw [e13]; exact lk_ne (ad_ne k6 k10 (dx_oo (by decide))) k6
            have k15 : w12 ta = some (aT G 6 tf) := by rw [e13]; exact lk_ne (ad_ne k7 k10 dx_io) k7
            have k16 : w12 to = some (aI G 8 y.2.2.2.2.2) := by rw [e13]; exact lk_ne (ad_ne k8 k10 dx_io) k8
            have k17 : w12 (tk j) = some (cTrk (hd (T j)) (nI (T j).length)) := by rw [e13]; exact lk_ne (ad_ne k9 k10 (dx_oo (by decide))) k9
            have k18 : w12 q66 = some (aI G n.toNatClampNeg (fun _ => 0)) := by rw [e13]; exact lk_ne (ad_ne k11 k10 dx_io) k11
            have k19 : w12 a54 = some (cVeh d.1 d.2.1 d.2.2.1 (some q66) (nx (T j) k.toNatClampNeg)) := by rw [e13]; exact up_eq
            refine f_iload X hl ⟨_, rfl, dX4_crates_71⟩ rfl ?_
            exact f_iret X hr hlk Z (Nat.le_of_ble_eq_true rfl) (show 0 + n.toNatClampNeg ≤ 12 by omega) dX4_crates_72 (out_of (hx.put (S := fun b => b = a54) (tg' := va_up tg q66 (5, a54)) (d' := (d.1, d.2.1, d.2.2.1, some (n.toNatClampNeg, fun _ => 0))) hj_j hd1 (Up.by (fun b e hb hS => by rw [e13, e5, up_ne hS, up_ne (ad_new hb hq66)]) (by rintro _ rfl; exact ⟨_, k19⟩) (fun b e hb => up_off (ad_new hb hq66))) (fun b hb => Or.inl hb) ⟨by rw [up_off (ad_new hcA hq66)]; exact gA, some q66, k19, ⟨hnn, q66, rfl, k18⟩, fun r z => by cases z; exact up_at⟩) (by rw [e13, e5]; exact (Fr.rf.new hq66).put (τ := (4, 0)) (by rw [up_off (ad_new hcA hq66)]; exact gA) (by decide)) (by omega) (by unfold sp_crates yput yat tn; rw [if_pos ⟨c5, hn12⟩, hjt_j, if_neg c33, if_neg (by have := nonneg c43; omega), hya]))
          · subst c54
            have hya : (y.1 j)[k.toNatClampNeg]? = none := vopt_none hv
            refine f_aload (v := .ref h0) X hl ⟨_, rfl, dX4_crates_57⟩ rfl ⟨(some h0), rfl⟩ ?_
            refine lv_iconst (v := 1) X.1 X.2.1 dX4_crates_58 (by decide) ?_
            refine f_callVi (rest := []) X Z hl.1 (c_X4_tell l G w h0 ta to sd pl y.2.2.2.2.1 (nI c) h1.1 y.2.2.2.2.2 1 (by decide) h4.1) (cwV 1 X.2.2.2.2 gX4_crates_X4_tell rfl rfl rfl (by decide +kernel) ⟨(Nat.le_of_ble_eq_true rfl), (Nat.le_of_ble_eq_true rfl)⟩) rfl rfl dX4_crates_59 ⟨(Nat.le_of_ble_eq_true rfl), (Nat.le_of_ble_eq_true rfl)⟩ rfl (Nat.le_of_ble_eq_true rfl) h1.1 (fun r59 w20 H locs p59 Z => ?_)
            obtain ⟨hrT, hwT⟩ := p59
            exact f_iret X hr hlk Z (Nat.le_of_ble_eq_true rfl) (Nat.le_of_ble_eq_true rfl) dX4_crates_62 (out_tell hx Fr.rf hrT hwT (by unfold sp_crates yat tn; rw [if_pos ⟨c5, hn12⟩, hjt_j, if_neg c33, if_neg (by have := nonneg c43; omega), hya]))
        · refine f_aload (v := .ref h0) X hl ⟨_, rfl, dX4_crates_46⟩ rfl ⟨(some h0), rfl⟩ ?_
          refine lv_iconst (v := 4) X.1 X.2.1 dX4_crates_47 (by decide) ?_
          refine f_callVi (rest := []) X Z hl.1 (c_X4_tell l G w h0 ta to sd pl y.2.2.2.2.1 (nI c) h1.1 y.2.2.2.2.2 4 (by decide) h4.1) (cwV 1 X.2.2.2.2 gX4_crates_X4_tell rfl rfl rfl (by decide +kernel) ⟨(Nat.le_of_ble_eq_true rfl), (Nat.le_of_ble_eq_true rfl)⟩) rfl rfl dX4_crates_48 ⟨(Nat.le_of_ble_eq_true rfl), (Nat.le_of_ble_eq_true rfl)⟩ rfl (Nat.le_of_ble_eq_true rfl) h1.1 (fun r48 w21 H locs p48 Z => ?_)
          obtain ⟨hrT, hwT⟩ := p48
          exact f_iret X hr hlk Z (Nat.le_of_ble_eq_true rfl) (Nat.le_of_ble_eq_true rfl) dX4_crates_51 (out_tell hx Fr.rf hrT hwT (by unfold sp_crates yat tn; rw [if_pos ⟨c5, hn12⟩, hjt_j, if_neg c33, if_pos (isneg (by rw [Int32.lt_iff_toInt_lt, kc_0]; rw [Int32.le_iff_toInt_le, kc_0] at c43; omega))]))
      · rw [hr30, bI_0, Classical.not_not] at c33
        refine f_aload (v := .ref h0) X hl ⟨_, rfl, dX4_crates_36⟩ rfl ⟨(some h0), rfl⟩ ?_
        refine lv_iconst (v := 2) X.1 X.2.1 dX4_crates_37 (by decide) ?_
        refine f_callVi (rest := []) X Z hl.1 (c_X4_tell l G w h0 ta to sd pl y.2.2.2.2.1 (nI c) h1.1 y.2.2.2.2.2 2 (by decide) h4.1) (cwV 1 X.2.2.2.2 gX4_crates_X4_tell rfl rfl rfl (by decide +kernel) ⟨(Nat.le_of_ble_eq_true rfl), (Nat.le_of_ble_eq_true rfl)⟩) rfl rfl dX4_crates_38 ⟨(Nat.le_of_ble_eq_true rfl), (Nat.le_of_ble_eq_true rfl)⟩ rfl (Nat.le_of_ble_eq_true rfl) h1.1 (fun r38 w22 H locs p38 Z => ?_)
        obtain ⟨hrT, hwT⟩ := p38
        exact f_iret X hr hlk Z (Nat.le_of_ble_eq_true rfl) (Nat.le_of_ble_eq_true rfl) dX4_crates_41 (out_tell hx Fr.rf hrT hwT (by unfold sp_crates yat tn; rw [if_pos ⟨c5, hn12⟩, hjt_j, if_pos c33]))
    · refine lv_iconst (v := (-1)) X.1 X.2.1 dX4_crates_14 (by decide) ?_
      exact f_iret X hr hlk Z (Nat.le_of_ble_eq_true rfl) (Nat.le_of_ble_eq_true rfl) dX4_crates_15 (out_same hR (if_neg (fun h => nle12 c11 h.2)))
set_option maxHeartbeats 4000000 in
set_option maxRecDepth 100000 in
theorem c_X4_load (l : Launch) (G : gT) (w : wT) (tg : tT) (h0 c nb : Nat) (y : Yd) (hR : RepC G tg w h0 c y) (hY : Yok nb y) (hn : nb ≤ 512) (t k i x : Int32) : Met l yX4_load wsX4_load ({ frames := 3, cells := 0, slots := 0, locals := 62 }) (va_Pc [.ref h0, .int t, .int k, .int i, .int x] (wG G w)) (Qi G (OutC G tg w h0 c (sp_load t k i x y))) 0 0 (fr G) := by
  refine f_met (cc := cX4_load) (maxL := 7) (ret := (some .int)) (by decide) rfl rfl (Nat.le_of_ble_eq_true rfl) ?_
  intro p e s m below meth cd X hr hlk hnm Z ls hl
  have X : CallFix p m cd cX4_load 7 s [.ref h0, .int t, .int k, .int i, .int x].toArray wsX4_load RX4 := X
  have hl : lV ls _ [some (.ref h0), some (.int t), some (.int k), some (.int i), some (.int x), none, none] := hl
  have i3 : ∀ w ∈ wsX30, w ∈ wsX4_load := by decide +kernel
  have i4 : ∀ w ∈ wsX40, w ∈ wsX4_load := by decide +kernel
  obtain ⟨ta, to, tf, tk, sd, pl, T, hx⟩ := id hR
  obtain ⟨h1, h2, h3, h4, h5, h6, h7, h8, h9⟩ := id hx
  refine f_iload X hl ⟨_, rfl, dX4_load_0⟩ rfl ?_
  refine f_iload X hl ⟨_, rfl, dX4_load_1⟩ rfl ?_
  refine f_callSi (rest := []) X Z hl.1 (c_X4_isPosition l G _ _ _) (va_cwS 2 X.2.2.2.2 gX4_load_X4_isPosition rfl rfl rfl (by decide +kernel) ⟨(Nat.le_of_ble_eq_true rfl), (Nat.le_of_ble_eq_true rfl)⟩) rfl dX4_load_2 ⟨(Nat.le_of_ble_eq_true rfl), (Nat.le_of_ble_eq_true rfl)⟩ rfl (Nat.le_of_ble_eq_true rfl) (fun r2 w1 H locs p2 Z => ?_)
  obtain ⟨w1e, hr2⟩ := p2
  have w1e := w1e.symm
  subst w1e
  refine lv_if_eq (tgt := 19) X.1 X.2.1 dX4_load_5 (by decide) (fun c5 => ?_) (fun c5 => ?_)
  · rw [hr2, bI_0] at c5
    refine lv_iconst (v := (-1)) X.1 X.2.1 dX4_load_19 (by decide) ?_
    exact f_iret X hr hlk Z (Nat.le_of_ble_eq_true rfl) (Nat.le_of_ble_eq_true rfl) dX4_load_20 (out_same hR (if_neg (fun h => c5 h.1)))
  · rw [hr2, bI_0, Classical.not_not] at c5
    refine f_iload2 X hl dX4_load_8 rfl ?_
    refine lv_iconst (v := 0) X.1 X.2.1 dX4_load_10 (by decide) ?_
    refine lv_bipush (v := 99) X.1 X.2.1 dX4_load_11 (by decide) ?_
    refine f_callSi (rest := []) X Z hl.1 (c_X4_isWithin l G _ _ _ _) (va_cwS 3 X.2.2.2.2 gX4_load_X4_isWithin rfl rfl rfl (by decide +kernel) ⟨(Nat.le_of_ble_eq_true rfl), (Nat.le_of_ble_eq_true rfl)⟩) rfl dX4_load_13 ⟨(Nat.le_of_ble_eq_true rfl), (Nat.le_of_ble_eq_true rfl)⟩ rfl (Nat.le_of_ble_eq_true rfl) (fun r13 w2 H locs p13 Z => ?_)
    obtain ⟨w2e, hr13⟩ := p13
    have w2e := w2e.symm
    subst w2e
    refine lv_if_ne (tgt := 21) X.1 X.2.1 dX4_load_16 (by decide) (fun c16 => ?_) (fun c16 => ?_)
    · rw [hr13, bI_0, Classical.not_not] at c16
      obtain ⟨j, hjt_j⟩ : ∃ j, t.toNatClampNeg = j := ⟨_, rfl⟩
      have hj_j : j < 6 := hjt_j ▸ tn_lt c5.1
      have hin_j : vp_in t 6 := vp_in_iff.mpr c5.1
      refine f_aload (v := .ref h0) X hl ⟨_, rfl, dX4_load_21⟩ rfl ⟨(some h0), rfl⟩ ?_
      refine f_get (v := .ref ta) (k := 0) X Z i4 rfl (by decide) (by decide +kernel) dX4_load_22 h1.1 rfl ?_
      refine f_iload X hl ⟨_, rfl, dX4_load_25⟩ rfl ?_
      refine f_tald X Z dX4_load_26 h2.1 hin_j ?_
      rw [hjt_j, h3 j hj_j]
      refine f_iload X hl ⟨_, rfl, dX4_load_27⟩ rfl ?_
      refine f_callVq (rest := []) X Z hl.1 (c_X2_vehicleAt l G w (tk j) (T j) k (hx.trk hY hn hj_j)) (cwV 1 X.2.2.2.2 gX4_load_X2_vehicleAt rfl rfl rfl (by decide +kernel) ⟨(Nat.le_of_ble_eq_true rfl), (Nat.le_of_ble_eq_true rfl)⟩) rfl rfl dX4_load_28 ⟨(Nat.le_of_ble_eq_true rfl), (Nat.le_of_ble_eq_true rfl)⟩ rfl (Nat.le_of_ble_eq_true rfl) (h5 j hj_j).1 (fun r28 w3 H locs p28 Z => ?_)
      obtain ⟨w3e, hr28⟩ := p28
      have w3e := w3e.symm
      subst w3e
      rw [vix_pos c5.2] at hr28
      have hv : vopt G w r28 ((y.1 j)[k.toNatClampNeg]?) := by rw [hr28]; exact hx.vopt j _
      refine f_astore2 X hl dX4_load_31 (by decide) ⟨r28, rfl⟩ (fun ls hl => ?_)
      have hl : lV ls _ [some (.ref h0), some (.int t), some (.int k), some (.int i), some (.int x), some (va_rf r28), none] := hl
      refine f_aload2 (v := va_rf r28) X hl dX4_load_33 rfl ⟨r28, rfl⟩ ?_
      refine f_iload X hl ⟨_, rfl, dX4_load_35⟩ rfl ?_
      refine f_callSi (rest := []) X Z hl.1 (c_X4_whyNoCrate l G w _ _ i hv) (va_cwS 2 X.2.2.2.2 gX4_load_X4_whyNoCrate rfl rfl rfl (by decide +kernel) ⟨(Nat.le_of_ble_eq_true rfl), (Nat.le_of_ble_eq_true rfl)⟩) rfl dX4_load_36 ⟨(Nat.le_of_ble_eq_true rfl), (Nat.le_of_ble_eq_true rfl)⟩ rfl (Nat.le_of_ble_eq_true rfl) (fun r36 w4 H locs p36 Z => ?_)
      obtain ⟨w4e, hr36⟩ := p36
      have w4e := w4e.symm
      subst w4e
      subst hr36
      refine f_istore2 X hl dX4_load_39 (by decide) (fun ls hl => ?_)
      have hl : lV ls _ [some (.ref h0), some (.int t), some (.int k), some (.int i), some (.int x), some (va_rf r28), some (.int (nI (whyC ((y.1 j)[k.toNatClampNeg]?) i)))] := hl
      refine f_iload2 X hl dX4_load_41 rfl ?_
      refine lv_if_eq (tgt := 53) X.1 X.2.1 dX4_load_43 (by decide) (fun c43 => ?_) (fun c43 => ?_)
      · have hz := (nI_z (whyC_lt _ _)).mp c43
        obtain ⟨so, we, de, nn, f, hod, hi0, hi1⟩ := whyC_0 hz
        obtain ⟨a, hd1⟩ : ∃ a, (T j)[k.toNatClampNeg]? = some (a, so, we, de, some (nn, f)) := snd_at (by rw [← hx.at]; exact hod)
        have hra : r28 = some a := by rw [hr28, hd1]; rfl
        subst hra
        obtain ⟨gA, ro, hcA, ⟨hn12, rr, rfl, hcR⟩, hrt⟩ := h6.1 j _ a _ hd1
        rw [hod] at hz
        refine f_aload2 (v := .ref a) X hl dX4_load_53 rfl ⟨(some a), rfl⟩ ?_
        refine f_get (v := .ref rr) (k := 3) X Z i3 rfl (by decide) (by decide +kernel) dX4_load_55 hcA rfl ?_
        refine f_iload X hl ⟨_, rfl, dX4_load_58⟩ rfl ?_
        refine f_iload2 X hl dX4_load_59 rfl ?_
        refine f_iast X Z dX4_load_61 hcR (vp_in_iff.mpr ⟨hi0, hi1⟩) (fun H locs w5 e6 Z => ?_)
        have e6 : w5 = va_up w rr (some (aI G nn (upd f i.toNatClampNeg x))) := e6
        have k7 : w5 h0 = some (cTs (some ta) (some to) sd pl y.2.2.2.2.1 (nI c)) := by rw [e6]; exact lk_ne (ad_ne h1.1 hcR dx_oi) h1.1
        have k8 : w5 ta = some (aT G 6 tf) := by rw [e6]; exact lk_ne (ad_ne h2.1 hcR dx_ri) h2.1
        have k9 : w5 to = some (aI G 8 y.2.2.2.2.2) := by rw [e6]; exact lk_ne (tgne h4.2 (hrt _ rfl) (by simp)) h4.1
        have k10 : w5 (tk j) = some (cTrk (hd (T j)) (nI (T j).length)) := by rw [e6]; exact lk_ne (ad_ne (h5 j hj_j).1 hcR dx_oi) (h5 j hj_j).1
        have k11 : w5 a = some (cVeh so we de (some rr) (nx (T j) k.toNatClampNeg)) := by rw [e6]; exact lk_ne (ad_ne hcA hcR dx_oi) hcA
        have k12 : w5 rr = some (aI G nn (upd f i.toNatClampNeg x)) := by rw [e6]; exact up_eq
        refine f_iload2 X hl dX4_load_62 rfl ?_
        exact f_iret X hr hlk Z (Nat.le_of_ble_eq_true rfl) (Nat.le_of_ble_eq_true rfl) dX4_load_64 (out_of (hx.put (S := fun b => b = rr) (tg' := tg) (d' := (so, we, de, some (nn, upd f i.toNatClampNeg x))) hj_j hd1 (by rw [e6]; exact Up.one) (fun b hb => Or.inr (by rw [hb]; exact hrt _ rfl)) ⟨gA, some rr, k11, ⟨hn12, rr, rfl, k12⟩, hrt⟩) (by rw [e6]; exact Fr.rf.put (hrt _ rfl) (by simp)) (by omega) (by unfold sp_load yput yat tn; rw [if_pos ⟨c5, c16⟩, hjt_j, hod, if_neg (fun z => z hz)]))
      · refine f_aload (v := .ref h0) X hl ⟨_, rfl, dX4_load_46⟩ rfl ⟨(some h0), rfl⟩ ?_
        refine f_iload2 X hl dX4_load_47 rfl ?_
        refine f_callVi (rest := []) X Z hl.1 (c_X4_tell l G w h0 ta to sd pl y.2.2.2.2.1 (nI c) h1.1 y.2.2.2.2.2 (whyC ((y.1 j)[k.toNatClampNeg]?) i) (whyC_lt _ _) h4.1) (cwV 1 X.2.2.2.2 gX4_load_X4_tell rfl rfl rfl (by decide +kernel) ⟨(Nat.le_of_ble_eq_true rfl), (Nat.le_of_ble_eq_true rfl)⟩) rfl rfl dX4_load_49 ⟨(Nat.le_of_ble_eq_true rfl), (Nat.le_of_ble_eq_true rfl)⟩ rfl (Nat.le_of_ble_eq_true rfl) h1.1 (fun r49 w13 H locs p49 Z => ?_)
        obtain ⟨hrT, hwT⟩ := p49
        exact f_iret X hr hlk Z (Nat.le_of_ble_eq_true rfl) (Nat.le_of_ble_eq_true rfl) dX4_load_52 (out_tell hx Fr.rf hrT hwT (by unfold sp_load yat tn; rw [if_pos ⟨c5, c16⟩, hjt_j, if_pos (fun z => c43 (by rw [z]; rfl))]))
    · rw [hr13, bI_0] at c16
      refine lv_iconst (v := (-1)) X.1 X.2.1 dX4_load_19 (by decide) ?_
      exact f_iret X hr hlk Z (Nat.le_of_ble_eq_true rfl) (Nat.le_of_ble_eq_true rfl) dX4_load_20 (out_same hR (if_neg (fun h => c16 h.2)))
set_option maxHeartbeats 4000000 in
set_option maxRecDepth 100000 in
theorem c_X4_crate (l : Launch) (G : gT) (w : wT) (tg : tT) (h0 c nb : Nat) (y : Yd) (hR : RepC G tg w h0 c y) (hY : Yok nb y) (hn : nb ≤ 512) (t k i : Int32) : Met l yX4_crate wsX4_crate ({ frames := 3, cells := 0, slots := 0, locals := 62 }) (va_Pc [.ref h0, .int t, .int k, .int i] (wG G w)) (Qi G (OutC G tg w h0 c (sp_crate t k i y))) 0 0 (fr G) := by
  refine f_met (cc := cX4_crate) (maxL := 6) (ret := (some .int)) (by decide) rfl rfl (Nat.le_of_ble_eq_true rfl) ?_
  intro p e s m below meth cd X hr hlk hnm Z ls hl
  have X : CallFix p m cd cX4_crate 6 s [.ref h0, .int t, .int k, .int i].toArray wsX4_crate RX4 := X
  have hl : lV ls _ [some (.ref h0), some (.int t), some (.int k), some (.int i), none, none] := hl
  have i3 : ∀ w ∈ wsX30, w ∈ wsX4_crate := by decide +kernel
  have i4 : ∀ w ∈ wsX40, w ∈ wsX4_crate := by decide +kernel
  obtain ⟨ta, to, tf, tk, sd, pl, T, hx⟩ := id hR
  obtain ⟨h1, h2, h3, h4, h5, h6, h7, h8, h9⟩ := id hx
  refine f_iload X hl ⟨_, rfl, dX4_crate_0⟩ rfl ?_
  refine f_iload X hl ⟨_, rfl, dX4_crate_1⟩ rfl ?_
  refine f_callSi (rest := []) X Z hl.1 (c_X4_isPosition l G _ _ _) (va_cwS 2 X.2.2.2.2 gX4_crate_X4_isPosition rfl rfl rfl (by decide +kernel) ⟨(Nat.le_of_ble_eq_true rfl), (Nat.le_of_ble_eq_true rfl)⟩) rfl dX4_crate_2 ⟨(Nat.le_of_ble_eq_true rfl), (Nat.le_of_ble_eq_true rfl)⟩ rfl (Nat.le_of_ble_eq_true rfl) (fun r2 w1 H locs p2 Z => ?_)
  obtain ⟨w1e, hr2⟩ := p2
  have w1e := w1e.symm
  subst w1e
  refine lv_if_ne (tgt := 10) X.1 X.2.1 dX4_crate_5 (by decide) (fun c5 => ?_) (fun c5 => ?_)
  · rw [hr2, bI_0, Classical.not_not] at c5
    obtain ⟨j, hjt_j⟩ : ∃ j, t.toNatClampNeg = j := ⟨_, rfl⟩
    have hj_j : j < 6 := hjt_j ▸ tn_lt c5.1
    have hin_j : vp_in t 6 := vp_in_iff.mpr c5.1
    refine f_aload (v := .ref h0) X hl ⟨_, rfl, dX4_crate_10⟩ rfl ⟨(some h0), rfl⟩ ?_
    refine f_get (v := .ref ta) (k := 0) X Z i4 rfl (by decide) (by decide +kernel) dX4_crate_11 h1.1 rfl ?_
    refine f_iload X hl ⟨_, rfl, dX4_crate_14⟩ rfl ?_
    refine f_tald X Z dX4_crate_15 h2.1 hin_j ?_
    rw [hjt_j, h3 j hj_j]
    refine f_iload X hl ⟨_, rfl, dX4_crate_16⟩ rfl ?_
    refine f_callVq (rest := []) X Z hl.1 (c_X2_vehicleAt l G w (tk j) (T j) k (hx.trk hY hn hj_j)) (cwV 1 X.2.2.2.2 gX4_crate_X2_vehicleAt rfl rfl rfl (by decide +kernel) ⟨(Nat.le_of_ble_eq_true rfl), (Nat.le_of_ble_eq_true rfl)⟩) rfl rfl dX4_crate_17 ⟨(Nat.le_of_ble_eq_true rfl), (Nat.le_of_ble_eq_true rfl)⟩ rfl (Nat.le_of_ble_eq_true rfl) (h5 j hj_j).1 (fun r17 w2 H locs p17 Z => ?_)
    obtain ⟨w2e, hr17⟩ := p17
    have w2e := w2e.symm
    subst w2e
    rw [vix_pos c5.2] at hr17
    have hv : vopt G w r17 ((y.1 j)[k.toNatClampNeg]?) := by rw [hr17]; exact hx.vopt j _
    refine f_astore2 X hl dX4_crate_20 (by decide) ⟨r17, rfl⟩ (fun ls hl => ?_)
    have hl : lV ls _ [some (.ref h0), some (.int t), some (.int k), some (.int i), some (va_rf r17), none] := hl
    refine f_aload2 (v := va_rf r17) X hl dX4_crate_22 rfl ⟨r17, rfl⟩ ?_
    refine f_iload X hl ⟨_, rfl, dX4_crate_24⟩ rfl ?_
    refine f_callSi (rest := []) X Z hl.1 (c_X4_whyNoCrate l G w _ _ i hv) (va_cwS 2 X.2.2.2.2 gX4_crate_X4_whyNoCrate rfl rfl rfl (by decide +kernel) ⟨(Nat.le_of_ble_eq_true rfl), (Nat.le_of_ble_eq_true rfl)⟩) rfl dX4_crate_25 ⟨(Nat.le_of_ble_eq_true rfl), (Nat.le_of_ble_eq_true rfl)⟩ rfl (Nat.le_of_ble_eq_true rfl) (fun r25 w3 H locs p25 Z => ?_)
    obtain ⟨w3e, hr25⟩ := p25
    have w3e := w3e.symm
    subst w3e
    subst hr25
    refine f_istore2 X hl dX4_crate_28 (by decide) (fun ls hl => ?_)
    have hl : lV ls _ [some (.ref h0), some (.int t), some (.int k), some (.int i), some (va_rf r17), some (.int (nI (whyC ((y.1 j)[k.toNatClampNeg]?) i)))] := hl
    refine f_iload2 X hl dX4_crate_30 rfl ?_
    refine lv_if_eq (tgt := 44) X.1 X.2.1 dX4_crate_32 (by decide) (fun c32 => ?_) (fun c32 => ?_)
    · have hz := (nI_z (whyC_lt _ _)).mp c32
      obtain ⟨so, we, de, nn, f, hod, hi0, hi1⟩ := whyC_0 hz
      obtain ⟨a, hd1⟩ : ∃ a, (T j)[k.toNatClampNeg]? = some (a, so, we, de, some (nn, f)) := snd_at (by rw [← hx.at]; exact hod)
      have hra : r17 = some a := by rw [hr17, hd1]; rfl
      subst hra
      obtain ⟨gA, ro, hcA, ⟨hn12, rr, rfl, hcR⟩, hrt⟩ := h6.1 j _ a _ hd1
      rw [hod] at hz
      refine f_aload2 (v := .ref a) X hl dX4_crate_44 rfl ⟨(some a), rfl⟩ ?_
      refine f_get (v := .ref rr) (k := 3) X Z i3 rfl (by decide) (by decide +kernel) dX4_crate_46 hcA rfl ?_
      refine f_iload X hl ⟨_, rfl, dX4_crate_49⟩ rfl ?_
      refine f_iald X Z dX4_crate_50 hcR (vp_in_iff.mpr ⟨hi0, hi1⟩) ?_
      exact f_iret X hr hlk Z (Nat.le_of_ble_eq_true rfl) (Nat.le_of_ble_eq_true rfl) dX4_crate_51 (out_same hR (by unfold sp_crate yat tn; rw [if_pos c5, hjt_j, hod, if_neg (fun z => z hz)]))
    · refine f_aload (v := .ref h0) X hl ⟨_, rfl, dX4_crate_35⟩ rfl ⟨(some h0), rfl⟩ ?_
      refine f_iload2 X hl dX4_crate_36 rfl ?_
      refine f_callVi (rest := []) X Z hl.1 (c_X4_tell l G w h0 ta to sd pl y.2.2.2.2.1 (nI c) h1.1 y.2.2.2.2.2 (whyC ((y.1 j)[k.toNatClampNeg]?) i) (whyC_lt _ _) h4.1) (cwV 1 X.2.2.2.2 gX4_crate_X4_tell rfl rfl rfl (by decide +kernel) ⟨(Nat.le_of_ble_eq_true rfl), (Nat.le_of_ble_eq_true rfl)⟩) rfl rfl dX4_crate_38 ⟨(Nat.le_of_ble_eq_true rfl), (Nat.le_of_ble_eq_true rfl)⟩ rfl (Nat.le_of_ble_eq_true rfl) h1.1 (fun r38 w4 H locs p38 Z => ?_)
      obtain ⟨hrT, hwT⟩ := p38
      refine lv_goto (tgt := 51) X.1 X.2.1 dX4_crate_41 (by decide) ?_
      exact f_iret X hr hlk Z (Nat.le_of_ble_eq_true rfl) (Nat.le_of_ble_eq_true rfl) dX4_crate_51 (out_tell hx Fr.rf hrT hwT (by unfold sp_crate yat tn; rw [if_pos c5, hjt_j, if_pos (fun z => c32 (by rw [z]; rfl))]))
  · rw [hr2, bI_0] at c5
    refine lv_iconst (v := (-1)) X.1 X.2.1 dX4_crate_8 (by decide) ?_
    exact f_iret X hr hlk Z (Nat.le_of_ble_eq_true rfl) (Nat.le_of_ble_eq_true rfl) dX4_crate_9 (out_same hR (if_neg c5))
set_option maxHeartbeats 4000000 in
set_option maxRecDepth 100000 in
theorem c_X4_length (l : Launch) (G : gT) (w : wT) (tg : tT) (h0 c nb : Nat) (y : Yd) (hR : RepC G tg w h0 c y) (hY : Yok nb y) (hn : nb ≤ 512) (t k : Int32) : Met l yX4_length wsX4_length ({ frames := 2, cells := 0, slots := 0, locals := 41 }) (va_Pc [.ref h0, .int t, .int k] (wG G w)) (Qi G (OutC G tg w h0 c (sp_length t k y))) 0 0 (fr G) := by
  refine f_met (cc := cX4_length) (maxL := 5) (ret := (some .int)) (by decide) rfl rfl (Nat.le_of_ble_eq_true rfl) ?_
  intro p e s m below meth cd X hr hlk hnm Z ls hl
  have X : CallFix p m cd cX4_length 5 s [.ref h0, .int t, .int k].toArray wsX4_length RX4 := X
  have hl : lV ls _ [some (.ref h0), some (.int t), some (.int k), none, none] := hl
  have i3 : ∀ w ∈ wsX30, w ∈ wsX4_length := by decide +kernel
  have i4 : ∀ w ∈ wsX40, w ∈ wsX4_length := by decide +kernel
  obtain ⟨ta, to, tf, tk, sd, pl, T, hx⟩ := id hR
  obtain ⟨h1, h2, h3, h4, h5, h6, h7, h8, h9⟩ := id hx
  refine f_iload X hl ⟨_, rfl, dX4_length_0⟩ rfl ?_
  refine f_iload X hl ⟨_, rfl, dX4_length_1⟩ rfl ?_
  refine f_callSi (rest := []) X Z hl.1 (c_X4_isPosition l G _ _ _) (va_cwS 2 X.2.2.2.2 gX4_length_X4_isPosition rfl rfl rfl (by decide +kernel) ⟨(Nat.le_of_ble_eq_true rfl), (Nat.le_of_ble_eq_true rfl)⟩) rfl dX4_length_2 ⟨(Nat.le_of_ble_eq_true rfl), (Nat.le_of_ble_eq_true rfl)⟩ rfl (Nat.le_of_ble_eq_true rfl) (fun r2 w1 H locs p2 Z => ?_)
  obtain ⟨w1e, hr2⟩ := p2
  have w1e := w1e.symm
  subst w1e
  refine lv_if_ne (tgt := 10) X.1 X.2.1 dX4_length_5 (by decide) (fun c5 => ?_) (fun c5 => ?_)
  · rw [hr2, bI_0, Classical.not_not] at c5
    obtain ⟨j, hjt_j⟩ : ∃ j, t.toNatClampNeg = j := ⟨_, rfl⟩
    have hj_j : j < 6 := hjt_j ▸ tn_lt c5.1
    have hin_j : vp_in t 6 := vp_in_iff.mpr c5.1
    refine f_aload (v := .ref h0) X hl ⟨_, rfl, dX4_length_10⟩ rfl ⟨(some h0), rfl⟩ ?_
    refine f_get (v := .ref ta) (k := 0) X Z i4 rfl (by decide) (by decide +kernel) dX4_length_11 h1.1 rfl ?_
    refine f_iload X hl ⟨_, rfl, dX4_length_14⟩ rfl ?_
    refine f_tald X Z dX4_length_15 h2.1 hin_j ?_
    rw [hjt_j, h3 j hj_j]
    refine f_iload X hl ⟨_, rfl, dX4_length_16⟩ rfl ?_
    refine f_callVq (rest := []) X Z hl.1 (c_X2_vehicleAt l G w (tk j) (T j) k (hx.trk hY hn hj_j)) (cwV 1 X.2.2.2.2 gX4_length_X2_vehicleAt rfl rfl rfl (by decide +kernel) ⟨(Nat.le_of_ble_eq_true rfl), (Nat.le_of_ble_eq_true rfl)⟩) rfl rfl dX4_length_17 ⟨(Nat.le_of_ble_eq_true rfl), (Nat.le_of_ble_eq_true rfl)⟩ rfl (Nat.le_of_ble_eq_true rfl) (h5 j hj_j).1 (fun r17 w2 H locs p17 Z => ?_)
    obtain ⟨w2e, hr17⟩ := p17
    have w2e := w2e.symm
    subst w2e
    rw [vix_pos c5.2] at hr17
    have hv : vopt G w r17 ((y.1 j)[k.toNatClampNeg]?) := by rw [hr17]; exact hx.vopt j _
    refine f_astore X hl ⟨_, rfl, dX4_length_20⟩ (by decide) ⟨r17, rfl⟩ (fun ls hl => ?_)
    have hl : lV ls _ [some (.ref h0), some (.int t), some (.int k), some (va_rf r17), none] := hl
    refine f_aload (v := va_rf r17) X hl ⟨_, rfl, dX4_length_21⟩ rfl ⟨r17, rfl⟩ ?_
    refine f_callSi (rest := []) X Z hl.1 (c_X4_whyNoRow l G w _ _ hv) (va_cwS 1 X.2.2.2.2 gX4_length_X4_whyNoRow rfl rfl rfl (by decide +kernel) ⟨(Nat.le_of_ble_eq_true rfl), (Nat.le_of_ble_eq_true rfl)⟩) rfl dX4_length_22 ⟨(Nat.le_of_ble_eq_true rfl), (Nat.le_of_ble_eq_true rfl)⟩ rfl (Nat.le_of_ble_eq_true rfl) (fun r22 w3 H locs p22 Z => ?_)
    obtain ⟨w3e, hr22⟩ := p22
    have w3e := w3e.symm
    subst w3e
    subst hr22
    refine f_istore2 X hl dX4_length_25 (by decide) (fun ls hl => ?_)
    have hl : lV ls _ [some (.ref h0), some (.int t), some (.int k), some (va_rf r17), some (.int (nI (whyR ((y.1 j)[k.toNatClampNeg]?))))] := hl
    refine f_iload2 X hl dX4_length_27 rfl ?_
    refine lv_if_eq (tgt := 41) X.1 X.2.1 dX4_length_29 (by decide) (fun c29 => ?_) (fun c29 => ?_)
    · have hz := (nI_z (whyR_lt _)).mp c29
      obtain ⟨so, we, de, nn, f, hod⟩ := whyR_0 hz
      obtain ⟨a, hd1⟩ : ∃ a, (T j)[k.toNatClampNeg]? = some (a, so, we, de, some (nn, f)) := snd_at (by rw [← hx.at]; exact hod)
      have hra : r17 = some a := by rw [hr17, hd1]; rfl
      subst hra
      obtain ⟨gA, ro, hcA, ⟨hn12, rr, rfl, hcR⟩, hrt⟩ := h6.1 j _ a _ hd1
      rw [hod] at hz
      refine f_aload (v := .ref a) X hl ⟨_, rfl, dX4_length_41⟩ rfl ⟨(some a), rfl⟩ ?_
      refine f_get (v := .ref rr) (k := 3) X Z i3 rfl (by decide) (by decide +kernel) dX4_length_42 hcA rfl ?_
      refine f_alenI X Z dX4_length_45 hcR ?_
      exact f_iret X hr hlk Z (Nat.le_of_ble_eq_true rfl) (Nat.le_of_ble_eq_true rfl) dX4_length_46 (out_same hR (by unfold sp_length yat tn; rw [if_pos c5, hjt_j, hod, if_neg (fun z => z hz)]))
    · refine f_aload (v := .ref h0) X hl ⟨_, rfl, dX4_length_32⟩ rfl ⟨(some h0), rfl⟩ ?_
      refine f_iload2 X hl dX4_length_33 rfl ?_
      refine f_callVi (rest := []) X Z hl.1 (c_X4_tell l G w h0 ta to sd pl y.2.2.2.2.1 (nI c) h1.1 y.2.2.2.2.2 (whyR ((y.1 j)[k.toNatClampNeg]?)) (whyR_lt _) h4.1) (cwV 1 X.2.2.2.2 gX4_length_X4_tell rfl rfl rfl (by decide +kernel) ⟨(Nat.le_of_ble_eq_true rfl), (Nat.le_of_ble_eq_true rfl)⟩) rfl rfl dX4_length_35 ⟨(Nat.le_of_ble_eq_true rfl), (Nat.le_of_ble_eq_true rfl)⟩ rfl (Nat.le_of_ble_eq_true rfl) h1.1 (fun r35 w4 H locs p35 Z => ?_)
      obtain ⟨hrT, hwT⟩ := p35
      refine lv_goto (tgt := 46) X.1 X.2.1 dX4_length_38 (by decide) ?_
      exact f_iret X hr hlk Z (Nat.le_of_ble_eq_true rfl) (Nat.le_of_ble_eq_true rfl) dX4_length_46 (out_tell hx Fr.rf hrT hwT (by unfold sp_length yat tn; rw [if_pos c5, hjt_j, if_pos (fun z => c29 (by rw [z]; rfl))]))
  · rw [hr2, bI_0] at c5
    refine lv_iconst (v := (-1)) X.1 X.2.1 dX4_length_8 (by decide) ?_
    exact f_iret X hr hlk Z (Nat.le_of_ble_eq_true rfl) (Nat.le_of_ble_eq_true rfl) dX4_length_9 (out_same hR (if_neg c5))
set_option maxHeartbeats 4000000 in
set_option maxRecDepth 100000 in
theorem c_X4_defect (l : Launch) (G : gT) (w : wT) (tg : tT) (h0 c nb : Nat) (y : Yd) (hR : RepC G tg w h0 c y) (hY : Yok nb y) (hn : nb ≤ 512) (t k x : Int32) : Met l yX4_defect wsX4_defect ({ frames := 2, cells := 0, slots := 0, locals := 41 }) (va_Pc [.ref h0, .int t, .int k, .int x] (wG G w)) (Qi G (OutC G tg w h0 c (sp_defect t k x y))) 0 0 (fr G) := by
  refine f_met (cc := cX4_defect) (maxL := 5) (ret := (some .int)) (by decide) rfl rfl (Nat.le_of_ble_eq_true rfl) ?_
  intro p e s m below meth cd X hr hlk hnm Z ls hl
  have X : CallFix p m cd cX4_defect 5 s [.ref h0, .int t, .int k, .int x].toArray wsX4_defect RX4 := X
  have hl : lV ls _ [some (.ref h0), some (.int t), some (.int k), some (.int x), none] := hl
  have i3 : ∀ w ∈ wsX30, w ∈ wsX4_defect := by decide +kernel
  have i4 : ∀ w ∈ wsX40, w ∈ wsX4_defect := by decide +kernel
  obtain ⟨ta, to, tf, tk, sd, pl, T, hx⟩ := id hR
  obtain ⟨h1, h2, h3, h4, h5, h6, h7, h8, h9⟩ := id hx
  refine f_iload X hl ⟨_, rfl, dX4_defect_0⟩ rfl ?_
  refine f_iload X hl ⟨_, rfl, dX4_defect_1⟩ rfl ?_
  refine f_callSi (rest := []) X Z hl.1 (c_X4_isPosition l G _ _ _) (va_cwS 2 X.2.2.2.2 gX4_defect_X4_isPosition rfl rfl rfl (by decide +kernel) ⟨(Nat.le_of_ble_eq_true rfl), (Nat.le_of_ble_eq_true rfl)⟩) rfl dX4_defect_2 ⟨(Nat.le_of_ble_eq_true rfl), (Nat.le_of_ble_eq_true rfl)⟩ rfl (Nat.le_of_ble_eq_true rfl) (fun r2 w1 H locs p2 Z => ?_)
  obtain ⟨w1e, hr2⟩ := p2
  have w1e := w1e.symm
  subst w1e
  refine lv_if_eq (tgt := 18) X.1 X.2.1 dX4_defect_5 (by decide) (fun c5 => ?_) (fun c5 => ?_)
  · rw [hr2, bI_0] at c5
    refine lv_iconst (v := (-1)) X.1 X.2.1 dX4_defect_18 (by decide) ?_
    exact f_iret X hr hlk Z (Nat.le_of_ble_eq_true rfl) (Nat.le_of_ble_eq_true rfl) dX4_defect_19 (out_same hR (if_neg (fun h => c5 h.1)))
  · rw [hr2, bI_0, Classical.not_not] at c5
    refine f_iload X hl ⟨_, rfl, dX4_defect_8⟩ rfl ?_
    refine lv_iconst (v := 0) X.1 X.2.1 dX4_defect_9 (by decide) ?_
    refine lv_bipush (v := 99) X.1 X.2.1 dX4_defect_10 (by decide) ?_
    refine f_callSi (rest := []) X Z hl.1 (c_X4_isWithin l G _ _ _ _) (va_cwS 3 X.2.2.2.2 gX4_defect_X4_isWithin rfl rfl rfl (by decide +kernel) ⟨(Nat.le_of_ble_eq_true rfl), (Nat.le_of_ble_eq_true rfl)⟩) rfl dX4_defect_12 ⟨(Nat.le_of_ble_eq_true rfl), (Nat.le_of_ble_eq_true rfl)⟩ rfl (Nat.le_of_ble_eq_true rfl) (fun r12 w2 H locs p12 Z => ?_)
    obtain ⟨w2e, hr12⟩ := p12
    have w2e := w2e.symm
    subst w2e
    refine lv_if_ne (tgt := 20) X.1 X.2.1 dX4_defect_15 (by decide) (fun c15 => ?_) (fun c15 => ?_)
    · rw [hr12, bI_0, Classical.not_not] at c15
      obtain ⟨j, hjt_j⟩ : ∃ j, t.toNatClampNeg = j := ⟨_, rfl⟩
      have hj_j : j < 6 := hjt_j ▸ tn_lt c5.1
      have hin_j : vp_in t 6 := vp_in_iff.mpr c5.1
      refine f_aload (v := .ref h0) X hl ⟨_, rfl, dX4_defect_20⟩ rfl ⟨(some h0), rfl⟩ ?_
      refine f_get (v := .ref ta) (k := 0) X Z i4 rfl (by decide) (by decide +kernel) dX4_defect_21 h1.1 rfl ?_
      refine f_iload X hl ⟨_, rfl, dX4_defect_24⟩ rfl ?_
      refine f_tald X Z dX4_defect_25 h2.1 hin_j ?_
      rw [hjt_j, h3 j hj_j]
      refine f_iload X hl ⟨_, rfl, dX4_defect_26⟩ rfl ?_
      refine f_callVq (rest := []) X Z hl.1 (c_X2_vehicleAt l G w (tk j) (T j) k (hx.trk hY hn hj_j)) (cwV 1 X.2.2.2.2 gX4_defect_X2_vehicleAt rfl rfl rfl (by decide +kernel) ⟨(Nat.le_of_ble_eq_true rfl), (Nat.le_of_ble_eq_true rfl)⟩) rfl rfl dX4_defect_27 ⟨(Nat.le_of_ble_eq_true rfl), (Nat.le_of_ble_eq_true rfl)⟩ rfl (Nat.le_of_ble_eq_true rfl) (h5 j hj_j).1 (fun r27 w3 H locs p27 Z => ?_)
      obtain ⟨w3e, hr27⟩ := p27
      have w3e := w3e.symm
      subst w3e
      rw [vix_pos c5.2] at hr27
      have hv : vopt G w r27 ((y.1 j)[k.toNatClampNeg]?) := by rw [hr27]; exact hx.vopt j _
      refine f_astore2 X hl dX4_defect_30 (by decide) ⟨r27, rfl⟩ (fun ls hl => ?_)
      have hl : lV ls _ [some (.ref h0), some (.int t), some (.int k), some (.int x), some (va_rf r27)] := hl
      refine f_aload2 (v := va_rf r27) X hl dX4_defect_32 rfl ⟨r27, rfl⟩ ?_
      refine f_ifnonnull (tgt := 43) X dX4_defect_34 (by decide) (fun a34 c34 => ?_) (fun c34 => ?_)
      · subst c34
        obtain ⟨d, hd1⟩ := mf hr27
        obtain ⟨gA, ro, hcA, hro, hrt⟩ := h6.1 j _ a34 d hd1
        have hya : (y.1 j)[k.toNatClampNeg]? = some d := by rw [hx.at]; exact map_snd hd1
        refine f_aload2 (v := .ref a34) X hl dX4_defect_43 rfl ⟨(some a34), rfl⟩ ?_
        refine f_iload X hl ⟨_, rfl, dX4_defect_45⟩ rfl ?_
        refine f_put (v := .int x) (ty0 := tyX3) (k := 2) X Z i3 tyX3_ok nmX3 rfl (by decide) (by decide +kernel) rfl dX4_defect_46 hcA rfl rfl (Nat.le_of_ble_eq_true rfl) (fun H locs w4 e5 Z => ?_)
        have e5 : w4 = va_up w a34 (some (cVeh d.1 d.2.1 x ro (nx (T j) k.toNatClampNeg))) := e5
        have k6 : w4 h0 = some (cTs (some ta) (some to) sd pl y.2.2.2.2.1 (nI c)) := by rw [e5]; exact lk_ne (ad_ne h1.1 hcA (dx_oo (by decide))) h1.1
        have k7 : w4 ta = some (aT G 6 tf) := by rw [e5]; exact lk_ne (ad_ne h2.1 hcA dx_io) h2.1
        have k8 : w4 to = some (aI G 8 y.2.2.2.2.2) := by rw [e5]; exact lk_ne (ad_ne h4.1 hcA dx_io) h4.1
        have k9 : w4 (tk j) = some (cTrk (hd (T j)) (nI (T j).length)) := by rw [e5]; exact lk_ne (ad_ne (h5 j hj_j).1 hcA (dx_oo (by decide))) (h5 j hj_j).1
        have k10 : w4 a34 = some (cVeh d.1 d.2.1 x ro (nx (T j) k.toNatClampNeg)) := by rw [e5]; exact up_eq
        refine f_iload X hl ⟨_, rfl, dX4_defect_49⟩ rfl ?_
        exact f_iret X hr hlk Z (Nat.le_of_ble_eq_true rfl) (Nat.le_of_ble_eq_true rfl) dX4_defect_50 (out_of (hx.put (S := fun b => b = a34) (tg' := tg) (d' := (d.1, d.2.1, x, d.2.2.2)) hj_j hd1 (by rw [e5]; exact Up.one) (fun b hb => Or.inl hb) ⟨gA, ro, k10, hro.up hrt (by rw [e5]; exact Up.one) (by rintro _ rfl; rw [gA]; simp)⟩) (by rw [e5]; exact Fr.rf.put gA (by decide)) (by omega) (by unfold sp_defect yput yat tn; rw [if_pos ⟨c5, c15⟩, hjt_j, hya]))
      · subst c34
        have hya : (y.1 j)[k.toNatClampNeg]? = none := vopt_none hv
        refine f_aload (v := .ref h0) X hl ⟨_, rfl, dX4_defect_37⟩ rfl ⟨(some h0), rfl⟩ ?_
        refine lv_iconst (v := 1) X.1 X.2.1 dX4_defect_38 (by decide) ?_
        refine f_callVi (rest := []) X Z hl.1 (c_X4_tell l G w h0 ta to sd pl y.2.2.2.2.1 (nI c) h1.1 y.2.2.2.2.2 1 (by decide) h4.1) (cwV 1 X.2.2.2.2 gX4_defect_X4_tell rfl rfl rfl (by decide +kernel) ⟨(Nat.le_of_ble_eq_true rfl), (Nat.le_of_ble_eq_true rfl)⟩) rfl rfl dX4_defect_39 ⟨(Nat.le_of_ble_eq_true rfl), (Nat.le_of_ble_eq_true rfl)⟩ rfl (Nat.le_of_ble_eq_true rfl) h1.1 (fun r39 w11 H locs p39 Z => ?_)
        obtain ⟨hrT, hwT⟩ := p39
        exact f_iret X hr hlk Z (Nat.le_of_ble_eq_true rfl) (Nat.le_of_ble_eq_true rfl) dX4_defect_42 (out_tell hx Fr.rf hrT hwT (by unfold sp_defect yat tn; rw [if_pos ⟨c5, c15⟩, hjt_j, hya]))
    · rw [hr12, bI_0] at c15
      refine lv_iconst (v := (-1)) X.1 X.2.1 dX4_defect_18 (by decide) ?_
      exact f_iret X hr hlk Z (Nat.le_of_ble_eq_true rfl) (Nat.le_of_ble_eq_true rfl) dX4_defect_19 (out_same hR (if_neg (fun h => c15 h.2)))
set_option maxHeartbeats 4000000 in
set_option maxRecDepth 100000 in
theorem c_X4_report (l : Launch) (G : gT) (w : wT) (tg : tT) (h0 c nb : Nat) (y : Yd) (hR : RepC G tg w h0 c y) (hY : Yok nb y) (hn : nb ≤ 512) (t k : Int32) : Met l yX4_report wsX4_report ({ frames := 2, cells := 0, slots := 0, locals := 43 }) (va_Pc [.ref h0, .int t, .int k] (wG G w)) (Qi G (OutC G tg w h0 c (sp_report t k y))) 0 0 (fr G) := by
  refine f_met (cc := cX4_report) (maxL := 4) (ret := (some .int)) (by decide) rfl rfl (Nat.le_of_ble_eq_true rfl) ?_
  intro p e s m below meth cd X hr hlk hnm Z ls hl
  have X : CallFix p m cd cX4_report 4 s [.ref h0, .int t, .int k].toArray wsX4_report RX4 := X
  have hl : lV ls _ [some (.ref h0), some (.int t), some (.int k), none] := hl
  have i3 : ∀ w ∈ wsX30, w ∈ wsX4_report := by decide +kernel
  have i4 : ∀ w ∈ wsX40, w ∈ wsX4_report := by decide +kernel
  obtain ⟨ta, to, tf, tk, sd, pl, T, hx⟩ := id hR
  obtain ⟨h1, h2, h3, h4, h5, h6, h7, h8, h9⟩ := id hx
  refine f_iload X hl ⟨_, rfl, dX4_report_0⟩ rfl ?_
  refine f_iload X hl ⟨_, rfl, dX4_report_1⟩ rfl ?_
  refine f_callSi (rest := []) X Z hl.1 (c_X4_isPosition l G _ _ _) (va_cwS 2 X.2.2.2.2 gX4_report_X4_isPosition rfl rfl rfl (by decide +kernel) ⟨(Nat.le_of_ble_eq_true rfl), (Nat.le_of_ble_eq_true rfl)⟩) rfl dX4_report_2 ⟨(Nat.le_of_ble_eq_true rfl), (Nat.le_of_ble_eq_true rfl)⟩ rfl (Nat.le_of_ble_eq_true rfl) (fun r2 w1 H locs p2 Z => ?_)
  obtain ⟨w1e, hr2⟩ := p2
  have w1e := w1e.symm
  subst w1e
  refine lv_if_ne (tgt := 10) X.1 X.2.1 dX4_report_5 (by decide) (fun c5 => ?_) (fun c5 => ?_)
  · rw [hr2, bI_0, Classical.not_not] at c5
    obtain ⟨j, hjt_j⟩ : ∃ j, t.toNatClampNeg = j := ⟨_, rfl⟩
    have hj_j : j < 6 := hjt_j ▸ tn_lt c5.1
    have hin_j : vp_in t 6 := vp_in_iff.mpr c5.1
    refine f_aload (v := .ref h0) X hl ⟨_, rfl, dX4_report_10⟩ rfl ⟨(some h0), rfl⟩ ?_
    refine f_get (v := .ref ta) (k := 0) X Z i4 rfl (by decide) (by decide +kernel) dX4_report_11 h1.1 rfl ?_
    refine f_iload X hl ⟨_, rfl, dX4_report_14⟩ rfl ?_
    refine f_tald X Z dX4_report_15 h2.1 hin_j ?_
    rw [hjt_j, h3 j hj_j]
    refine f_iload X hl ⟨_, rfl, dX4_report_16⟩ rfl ?_
    refine f_callVq (rest := []) X Z hl.1 (c_X2_vehicleAt l G w (tk j) (T j) k (hx.trk hY hn hj_j)) (cwV 1 X.2.2.2.2 gX4_report_X2_vehicleAt rfl rfl rfl (by decide +kernel) ⟨(Nat.le_of_ble_eq_true rfl), (Nat.le_of_ble_eq_true rfl)⟩) rfl rfl dX4_report_17 ⟨(Nat.le_of_ble_eq_true rfl), (Nat.le_of_ble_eq_true rfl)⟩ rfl (Nat.le_of_ble_eq_true rfl) (h5 j hj_j).1 (fun r17 w2 H locs p17 Z => ?_)
    obtain ⟨w2e, hr17⟩ := p17
    have w2e := w2e.symm
    subst w2e
    rw [vix_pos c5.2] at hr17
    have hv : vopt G w r17 ((y.1 j)[k.toNatClampNeg]?) := by rw [hr17]; exact hx.vopt j _
    refine f_astore X hl ⟨_, rfl, dX4_report_20⟩ (by decide) ⟨r17, rfl⟩ (fun ls hl => ?_)
    have hl : lV ls _ [some (.ref h0), some (.int t), some (.int k), some (va_rf r17)] := hl
    refine f_aload (v := va_rf r17) X hl ⟨_, rfl, dX4_report_21⟩ rfl ⟨r17, rfl⟩ ?_
    refine f_ifnull (tgt := 32) X dX4_report_22 (by decide) (fun c22 => ?_) (fun a22 c22 => ?_)
    · subst c22
      have hya : (y.1 j)[k.toNatClampNeg]? = none := vopt_none hv
      refine f_aload (v := .ref h0) X hl ⟨_, rfl, dX4_report_32⟩ rfl ⟨(some h0), rfl⟩ ?_
      refine lv_iconst (v := 1) X.1 X.2.1 dX4_report_33 (by decide) ?_
      refine f_callVi (rest := []) X Z hl.1 (c_X4_tell l G w h0 ta to sd pl y.2.2.2.2.1 (nI c) h1.1 y.2.2.2.2.2 1 (by decide) h4.1) (cwV 1 X.2.2.2.2 gX4_report_X4_tell rfl rfl rfl (by decide +kernel) ⟨(Nat.le_of_ble_eq_true rfl), (Nat.le_of_ble_eq_true rfl)⟩) rfl rfl dX4_report_34 ⟨(Nat.le_of_ble_eq_true rfl), (Nat.le_of_ble_eq_true rfl)⟩ rfl (Nat.le_of_ble_eq_true rfl) h1.1 (fun r34 w3 H locs p34 Z => ?_)
      obtain ⟨hrT, hwT⟩ := p34
      exact f_iret X hr hlk Z (Nat.le_of_ble_eq_true rfl) (Nat.le_of_ble_eq_true rfl) dX4_report_37 (out_tell hx Fr.rf hrT hwT (by unfold sp_report yat tn; rw [if_pos c5, hjt_j, hya]))
    · subst c22
      obtain ⟨d, hd1⟩ := mf hr17
      obtain ⟨gA, ro, hcA, hro, hrt⟩ := h6.1 j _ a22 d hd1
      have hya : (y.1 j)[k.toNatClampNeg]? = some d := by rw [hx.at]; exact map_snd hd1
      refine f_aload (v := .ref a22) X hl ⟨_, rfl, dX4_report_25⟩ rfl ⟨(some a22), rfl⟩ ?_
      refine f_get (v := .int d.2.2.1) (k := 2) X Z i3 rfl (by decide) (by decide +kernel) dX4_report_26 hcA rfl ?_
      refine lv_if_ne (tgt := 38) X.1 X.2.1 dX4_report_29 (by decide) (fun c29 => ?_) (fun c29 => ?_)
      · refine f_aload (v := .ref h0) X hl ⟨_, rfl, dX4_report_38⟩ rfl ⟨(some h0), rfl⟩ ?_
        refine lv_bipush (v := 7) X.1 X.2.1 dX4_report_39 (by decide) ?_
        refine f_aload (v := .ref a22) X hl ⟨_, rfl, dX4_report_41⟩ rfl ⟨(some a22), rfl⟩ ?_
        refine f_get (v := .int d.2.2.1) (k := 2) X Z i3 rfl (by decide) (by decide +kernel) dX4_report_42 hcA rfl ?_
        refine f_callVi (rest := []) X Z hl.1 (c_X4_tellLevel l G w h0 ta to sd pl y.2.2.2.2.1 (nI c) h1.1 y.2.2.2.2.2 7 d.2.2.1 (by decide) h4.1) (cwV 2 X.2.2.2.2 gX4_report_X4_tellLevel rfl rfl rfl (by decide +kernel) ⟨(Nat.le_of_ble_eq_true rfl), (Nat.le_of_ble_eq_true rfl)⟩) rfl rfl dX4_report_45 ⟨(Nat.le_of_ble_eq_true rfl), (Nat.le_of_ble_eq_true rfl)⟩ rfl (Nat.le_of_ble_eq_true rfl) h1.1 (fun r45 w4 H locs p45 Z => ?_)
        obtain ⟨hrT, hwT⟩ := p45
        exact f_iret X hr hlk Z (Nat.le_of_ble_eq_true rfl) (Nat.le_of_ble_eq_true rfl) dX4_report_48 (out_lev hx hrT hwT (by unfold sp_report yat tn; rw [if_pos c5, hjt_j, hya]; exact if_neg c29))
      · refine f_aload (v := .ref h0) X hl ⟨_, rfl, dX4_report_32⟩ rfl ⟨(some h0), rfl⟩ ?_
        refine lv_iconst (v := 1) X.1 X.2.1 dX4_report_33 (by decide) ?_
        refine f_callVi (rest := []) X Z hl.1 (c_X4_tell l G w h0 ta to sd pl y.2.2.2.2.1 (nI c) h1.1 y.2.2.2.2.2 1 (by decide) h4.1) (cwV 1 X.2.2.2.2 gX4_report_X4_tell rfl rfl rfl (by decide +kernel) ⟨(Nat.le_of_ble_eq_true rfl), (Nat.le_of_ble_eq_true rfl)⟩) rfl rfl dX4_report_34 ⟨(Nat.le_of_ble_eq_true rfl), (Nat.le_of_ble_eq_true rfl)⟩ rfl (Nat.le_of_ble_eq_true rfl) h1.1 (fun r34 w5 H locs p34 Z => ?_)
        obtain ⟨hrT, hwT⟩ := p34
        exact f_iret X hr hlk Z (Nat.le_of_ble_eq_true rfl) (Nat.le_of_ble_eq_true rfl) dX4_report_37 (out_tell hx Fr.rf hrT hwT (by unfold sp_report yat tn; rw [if_pos c5, hjt_j, hya]; exact if_pos c29))
  · rw [hr2, bI_0] at c5
    refine lv_iconst (v := (-1)) X.1 X.2.1 dX4_report_8 (by decide) ?_
    exact f_iret X hr hlk Z (Nat.le_of_ble_eq_true rfl) (Nat.le_of_ble_eq_true rfl) dX4_report_9 (out_same hR (if_neg c5))
set_option maxHeartbeats 4000000 in
set_option maxRecDepth 100000 in
theorem c_X4_room (l : Launch) (G : gT) (w : wT) (tg : tT) (h0 c nb : Nat) (y : Yd) (hR : RepC G tg w h0 c y) (hY : Yok nb y) (hn : nb ≤ 512)  : Met l yX4_room wsX4_room ({ frames := 1, cells := 0, slots := 0, locals := 21 }) (va_Pc [.ref h0] (wG G w)) (Qi G (OutC G tg w h0 c (sp_room y))) 0 0 (fr G) := by
  refine f_met (cc := cX4_room) (maxL := 1) (ret := (some .int)) (by decide) rfl rfl (Nat.le_of_ble_eq_true rfl) ?_
  intro p e s m below meth cd X hr hlk hnm Z ls hl
  have X : CallFix p m cd cX4_room 1 s [.ref h0].toArray wsX4_room RX4 := X
  have hl : lV ls _ [some (.ref h0)] := hl
  have i1 : ∀ w ∈ wsX10, w ∈ wsX4_room := by decide +kernel
  have i4 : ∀ w ∈ wsX40, w ∈ wsX4_room := by decide +kernel
  obtain ⟨ta, to, tf, tk, sd, pl, T, hx⟩ := id hR
  obtain ⟨h1, h2, h3, h4, h5, h6, h7, h8, h9⟩ := id hx
  refine f_aload (v := .ref h0) X hl ⟨_, rfl, dX4_room_0⟩ rfl ⟨(some h0), rfl⟩ ?_
  refine f_get (v := va_rf sd) (k := 2) X Z i4 rfl (by decide) (by decide +kernel) dX4_room_1 h1.1 rfl ?_
  refine f_ifnonnull (tgt := 15) X dX4_room_4 (by decide) (fun a4 c4 => ?_) (fun c4 => ?_)
  · subst c4
    obtain ⟨pa, sn, sb, sf, hcS, hcF, hos, hs12⟩ := sopt_some h8.opt
    refine f_aload (v := .ref h0) X hl ⟨_, rfl, dX4_room_15⟩ rfl ⟨(some h0), rfl⟩ ?_
    refine f_get (v := .ref a4) (k := 2) X Z i4 rfl (by decide) (by decide +kernel) dX4_room_16 h1.1 rfl ?_
    refine f_get (v := .ref pa) (k := 0) X Z i1 rfl (by decide) (by decide +kernel) dX4_room_19 hcS rfl ?_
    refine f_alenV X Z dX4_room_22 hcF ?_
    exact f_iret X hr hlk Z (Nat.le_of_ble_eq_true rfl) (Nat.le_of_ble_eq_true rfl) dX4_room_23 (out_same hR (by unfold sp_room; rw [hos]))
  · subst c4
    have hos := sopt_none h8.opt
    refine f_aload (v := .ref h0) X hl ⟨_, rfl, dX4_room_7⟩ rfl ⟨(some h0), rfl⟩ ?_
    refine lv_iconst (v := 1) X.1 X.2.1 dX4_room_8 (by decide) ?_
    refine f_callVi (rest := []) X Z hl.1 (c_X4_tell l G w h0 ta to none pl y.2.2.2.2.1 (nI c) h1.1 y.2.2.2.2.2 1 (by decide) h4.1) (cwV 1 X.2.2.2.2 gX4_room_X4_tell rfl rfl rfl (by decide +kernel) ⟨(Nat.le_of_ble_eq_true rfl), (Nat.le_of_ble_eq_true rfl)⟩) rfl rfl dX4_room_9 ⟨(Nat.le_of_ble_eq_true rfl), (Nat.le_of_ble_eq_true rfl)⟩ rfl (Nat.le_of_ble_eq_true rfl) h1.1 (fun r9 w1 H locs p9 Z => ?_)
    obtain ⟨hrT, hwT⟩ := p9
    refine lv_goto (tgt := 23) X.1 X.2.1 dX4_room_12 (by decide) ?_
    exact f_iret X hr hlk Z (Nat.le_of_ble_eq_true rfl) (Nat.le_of_ble_eq_true rfl) dX4_room_23 (out_tell hx Fr.rf hrT hwT (by unfold sp_room; rw [hos]))
end
section
theorem find_snd {L : LV} : (L.map Prod.snd).find? gV = (L.find? gP).map Prod.snd := by
  induction L with
  | nil => rfl
  | cons q L ih =>
    simp only [List.map_cons, List.find?_cons]
    have : gV q.2 = gP q := rfl
    rw [this]
    cases gP q
    · exact ih
    · rfl
theorem find_at {L : LV} {q : Nat × VR} (h : L.find? gP = some q) : ∃ i : Nat, L[i]? = some q := List.getElem?_of_mem (List.mem_of_find?_eq_some h)
theorem whyN_0 {op : OP} {i j : Int32} (h : whyN op i j = 0) : ∃ r k : Nat, op = some (r, k) ∧ (0 ≤ i.toInt ∧ i.toInt < r) ∧ 0 ≤ j.toInt ∧ j.toInt < k := by
  unfold whyN at h
  split at h
  · cases h
  · rename_i q
    split at h
    · rename_i hq; exact ⟨q.1, q.2, rfl, hq.1, hq.2⟩
    · cases h
theorem whyL_0 {op : OP} {i : Int32} (h : whyL op i = 0) : ∃ r k : Nat, op = some (r, k) ∧ (0 ≤ i.toInt ∧ i.toInt < r) := by
  unfold whyL at h
  split at h
  · cases h
  · rename_i q
    split at h
    · rename_i hq; exact ⟨q.1, q.2, rfl, hq⟩
    · cases h
theorem whyP_0 {os : OS} {p : Int32} (h : whyP os p = 0) : ∃ (n : Nat) (b : Int32), os = some (n, b) ∧ 0 ≤ p.toInt ∧ p.toInt < n := by
  unfold whyP at h
  split at h
  · cases h
  · rename_i q
    split at h
    · rename_i hq; exact ⟨q.1, q.2, rfl, hq⟩
    · cases h
theorem PP.some {G : gT} {w : wT} {tg : tT} {pl : Option Nat} {op : OP} {N : Nat → Nat → Int32} {r k : Nat} (h : PP G w tg pl op N) (ho : op = .some (r, k)) : ∃ pa nu f, pl = .some pa ∧ w pa = .some (cPln (nI r) (nI k) (.some nu)) ∧ (w nu = .some (aI G (r * k) f) ∧ tg nu = (9, 0)) ∧ r ≤ 12 ∧ k ≤ 12 ∧ ∀ i j, i < r → j < k → f (i * k + j) = N i j := by
  rcases h with ⟨-, z⟩ | ⟨pa, nu, r', k', f, h1, h2, h3, h4, h5⟩
  · rw [ho] at z; cases z
  · rw [ho] at h4; cases h4; exact ⟨pa, nu, f, h1, h2.1, h3, h5⟩
theorem SC.some {G : gT} {w : wT} {tg : tT} {sd : Option Nat} {os : OS} {T : Nat → LV} {n : Nat} {b : Int32} (h : SC G w tg sd os T) (ho : os = .some (n, b)) : ∃ sa pa f, sd = .some sa ∧ w sa = .some (cSid (.some pa) b) ∧ (w pa = .some (aV G n f) ∧ tg pa = (7, 0)) ∧ n ≤ 12 ∧ ∀ p, p < n → f p = hd (T (6 + p)) := by
  rcases h with ⟨-, z⟩ | ⟨sa, pa, n', b', f, h1, h2, h3, h4, h5⟩
  · rw [ho] at z; cases z
  · rw [ho] at h4; cases h4; exact ⟨sa, pa, f, h1, h2.1, h3, h5⟩
theorem ix_lt {i j r k : Nat} (hi : i < r) (hj : j < k) : i * k + j < r * k := by
  have h1 : (i + 1) * k ≤ r * k := Nat.mul_le_mul_right k hi
  have h2 : (i + 1) * k = i * k + k := Nat.succ_mul i k
  omega
theorem slot_ix {i j : Int32} {k : Nat} (hi : 0 ≤ i.toInt) (hj : 0 ≤ j.toInt) : i * nI k + j = nI (i.toNatClampNeg * k + j.toNatClampNeg) := by
  rw [← nI_add, ← pk_mul, nI_tn hi, nI_tn hj]
theorem SC.none {G : gT} {w : wT} {tg : tT} {os : OS} {T : Nat → LV} (h : SC G w tg none os T) : os = .none := sopt_none h.opt
theorem PP.none {G : gT} {w : wT} {tg : tT} {op : OP} {N : Nat → Nat → Int32} (h : PP G w tg none op N) : op = .none := popt_none h.opt
set_option maxHeartbeats 4000000 in
set_option maxRecDepth 100000 in
theorem c_X4_draw (l : Launch) (G : gT) (w : wT) (tg : tT) (h0 c nb : Nat) (y : Yd) (hR : RepC G tg w h0 c y) (hY : Yok nb y) (hn : nb ≤ 512) (t : Int32) : Met l yX4_draw wsX4_draw ({ frames := 2, cells := 0, slots := 0, locals := 48 }) (va_Pc [.ref h0, .int t] (wG G w)) (Qi G (OutC G tg w h0 c (sp_draw t y))) 0 0 (fr G) := by
  refine f_met (cc := cX4_draw) (maxL := 6) (ret := (some .int)) (by decide) rfl rfl (Nat.le_of_ble_eq_true rfl) ?_
  intro p e s m below meth cd X hr hlk hnm Z ls hl
  have X : CallFix p m cd cX4_draw 6 s [.ref h0, .int t].toArray wsX4_draw RX4 := X
  have hl : lV ls _ [some (.ref h0), some (.int t), none, none, none, none] := hl
  have i2 : ∀ w ∈ wsX20, w ∈ wsX4_draw := by decide +kernel
  have i3 : ∀ w ∈ wsX30, w ∈ wsX4_draw := by decide +kernel
  have i4 : ∀ w ∈ wsX40, w ∈ wsX4_draw := by decide +kernel
  obtain ⟨ta, to, tf, tk, sd, pl, T, hx⟩ := id hR
  obtain ⟨h1, h2, h3, h4, h5, h6, h7, h8, h9⟩ := id hx
  refine f_iload X hl ⟨_, rfl, dX4_draw_0⟩ rfl ?_
  refine f_callSi (rest := []) X Z hl.1 (c_X4_isTrack l G _ _) (va_cwS 1 X.2.2.2.2 gX4_draw_X4_isTrack rfl rfl rfl (by decide +kernel) ⟨(Nat.le_of_ble_eq_true rfl), (Nat.le_of_ble_eq_true rfl)⟩) rfl dX4_draw_1 ⟨(Nat.le_of_ble_eq_true rfl), (Nat.le_of_ble_eq_true rfl)⟩ rfl (Nat.le_of_ble_eq_true rfl) (fun r1 w1 H locs p1 Z => ?_)
  obtain ⟨w1e, hr1⟩ := p1
  have w1e := w1e.symm
  subst w1e
  refine lv_if_ne (tgt := 9) X.1 X.2.1 dX4_draw_4 (by decide) (fun c4 => ?_) (fun c4 => ?_)
  · rw [hr1, bI_0, Classical.not_not] at c4
    obtain ⟨j, hjt_j⟩ : ∃ j, t.toNatClampNeg = j := ⟨_, rfl⟩
    have hj_j : j < 6 := hjt_j ▸ tn_lt c4
    have hin_j : vp_in t 6 := vp_in_iff.mpr c4
    refine f_aload (v := .ref h0) X hl ⟨_, rfl, dX4_draw_9⟩ rfl ⟨(some h0), rfl⟩ ?_
    refine f_get (v := .ref ta) (k := 0) X Z i4 rfl (by decide) (by decide +kernel) dX4_draw_10 h1.1 rfl ?_
    refine f_iload X hl ⟨_, rfl, dX4_draw_13⟩ rfl ?_
    refine f_tald X Z dX4_draw_14 h2.1 hin_j ?_
    rw [hjt_j, h3 j hj_j]
    rcases hTj : T j with _ | ⟨⟨a, d⟩, L⟩
    · have hcl : w (tk j) = some (cTrk none (nI 0)) := by have q := (h5 j hj_j).1; rw [hTj] at q; exact q
      have hyj : y.1 j = [] := by rw [← h7 j, hTj]; rfl
      refine f_get (v := .null) (k := 0) X Z i2 rfl (by decide) (by decide +kernel) dX4_draw_15 hcl rfl ?_
      refine f_astore X hl ⟨_, rfl, dX4_draw_18⟩ (by decide) ⟨none, rfl⟩ (fun ls hl => ?_)
      have hl : lV ls _ [some (.ref h0), some (.int t), some (.null), none, none, none] := hl
      refine f_aload (v := .null) X hl ⟨_, rfl, dX4_draw_19⟩ rfl ⟨none, rfl⟩ ?_
      refine lv_ifnonnullN X.1 X.2.1 dX4_draw_20 ?_
      refine f_aload (v := .ref h0) X hl ⟨_, rfl, dX4_draw_23⟩ rfl ⟨(some h0), rfl⟩ ?_
      refine lv_iconst (v := 1) X.1 X.2.1 dX4_draw_24 (by decide) ?_
      refine f_callVi (rest := []) X Z hl.1 (c_X4_tell l G w h0 ta to sd pl y.2.2.2.2.1 (nI c) h1.1 y.2.2.2.2.2 1 (by decide) h4.1) (cwV 1 X.2.2.2.2 gX4_draw_X4_tell rfl rfl rfl (by decide +kernel) ⟨(Nat.le_of_ble_eq_true rfl), (Nat.le_of_ble_eq_true rfl)⟩) rfl rfl dX4_draw_25 ⟨(Nat.le_of_ble_eq_true rfl), (Nat.le_of_ble_eq_true rfl)⟩ rfl (Nat.le_of_ble_eq_true rfl) h1.1 (fun r25 w2 H locs p25 Z => ?_)
      obtain ⟨hrT, hwT⟩ := p25
      exact f_iret X hr hlk Z (Nat.le_of_ble_eq_true rfl) (Nat.le_of_ble_eq_true rfl) dX4_draw_28 (out_tell hx Fr.rf hrT hwT (by unfold sp_draw tn; rw [if_pos c4, hjt_j, hyj]))
    · have hd1 : (T j)[0]? = some (a, d) := by rw [hTj]; rfl
      have hcl : w (tk j) = some (cTrk (some a) (nI (L.length + 1))) := by have q := (h5 j hj_j).1; rw [hTj] at q; exact q
      have hyj : y.1 j = d :: L.map Prod.snd := by rw [← h7 j, hTj]; rfl
      obtain ⟨gA, ro, hcA, hro, hrt⟩ := h6.1 j _ a d hd1
      have hnx : nx (T j) 0 = hd L := by rw [hTj]; rfl
      rw [hnx] at hcA
      refine f_get (v := .ref a) (k := 0) X Z i2 rfl (by decide) (by decide +kernel) dX4_draw_15 hcl rfl ?_
      refine f_astore X hl ⟨_, rfl, dX4_draw_18⟩ (by decide) ⟨(some a), rfl⟩ (fun ls hl => ?_)
      have hl : lV ls _ [some (.ref h0), some (.int t), some (.ref a), none, none, none] := hl
      refine f_aload (v := .ref a) X hl ⟨_, rfl, dX4_draw_19⟩ rfl ⟨(some a), rfl⟩ ?_
      refine lv_ifnonnull (tgt := 29) X.1 X.2.1 dX4_draw_20 (by decide) ?_
      refine f_aload (v := .ref a) X hl ⟨_, rfl, dX4_draw_29⟩ rfl ⟨(some a), rfl⟩ ?_
      refine f_callSi (rest := []) X Z hl.1 (c_X4_isEngine2 l G w (some a) (some d) (Or.inr ⟨a, d, _, rfl, rfl, ro, hcA, hro⟩)) (va_cwS 1 X.2.2.2.2 gX4_draw_X4_isEngine rfl rfl rfl (by decide +kernel) ⟨(Nat.le_of_ble_eq_true rfl), (Nat.le_of_ble_eq_true rfl)⟩) rfl dX4_draw_30 ⟨(Nat.le_of_ble_eq_true rfl), (Nat.le_of_ble_eq_true rfl)⟩ rfl (Nat.le_of_ble_eq_true rfl) (fun r30 w3 H locs p30 Z => ?_)
      obtain ⟨w3e, hr30⟩ := p30
      have w3e := w3e.symm
      subst w3e
      refine lv_if_ne (tgt := 42) X.1 X.2.1 dX4_draw_33 (by decide) (fun c33 => ?_) (fun c33 => ?_)
      · rw [hr30, bI_0, Classical.not_not] at c33
        refine f_aload (v := .ref h0) X hl ⟨_, rfl, dX4_draw_42⟩ rfl ⟨(some h0), rfl⟩ ?_
        refine f_get (v := .ref ta) (k := 0) X Z i4 rfl (by decide) (by decide +kernel) dX4_draw_43 h1.1 rfl ?_
        refine f_iload X hl ⟨_, rfl, dX4_draw_46⟩ rfl ?_
        refine f_tald X Z dX4_draw_47 h2.1 hin_j ?_
        rw [hjt_j, h3 j hj_j]
        refine f_callVq (rest := []) X Z hl.1 (c_X2_firstGraveBehindFront l G w (tk j) (T j) (hx.trk hY hn hj_j)) (cwV 0 X.2.2.2.2 gX4_draw_X2_firstGraveBehindFront rfl rfl rfl (by decide +kernel) ⟨(Nat.le_of_ble_eq_true rfl), (Nat.le_of_ble_eq_true rfl)⟩) rfl rfl dX4_draw_48 ⟨(Nat.le_of_ble_eq_true rfl), (Nat.le_of_ble_eq_true rfl)⟩ rfl (Nat.le_of_ble_eq_true rfl) hcl (fun r48 w4 H locs p48 Z => ?_)
        obtain ⟨w4e, hr48⟩ := p48
        have w4e := w4e.symm
        subst w4e
        refine f_astore X hl ⟨_, rfl, dX4_draw_51⟩ (by decide) ⟨r48, rfl⟩ (fun ls hl => ?_)
        have hl : lV ls _ [some (.ref h0), some (.int t), some (.ref a), some (va_rf r48), none, none] := hl
        refine f_aload (v := va_rf r48) X hl ⟨_, rfl, dX4_draw_52⟩ rfl ⟨r48, rfl⟩ ?_
        refine f_ifnull (tgt := 67) X dX4_draw_53 (by decide) (fun c53 => ?_) (fun a53 c53 => ?_)
        · subst c53
          have hfq : L.find? gP = none := by
            rw [hTj, show ((a, d) :: L).drop 1 = L from rfl] at hr48
            cases hq : L.find? gP with
            | none => rfl
            | some q => rw [hq] at hr48; cases hr48
          refine f_aload (v := .ref h0) X hl ⟨_, rfl, dX4_draw_67⟩ rfl ⟨(some h0), rfl⟩ ?_
          refine f_get (v := .ref ta) (k := 0) X Z i4 rfl (by decide) (by decide +kernel) dX4_draw_68 h1.1 rfl ?_
          refine f_iload X hl ⟨_, rfl, dX4_draw_71⟩ rfl ?_
          refine f_tald X Z dX4_draw_72 h2.1 hin_j ?_
          rw [hjt_j, h3 j hj_j]
          refine f_callVi (rest := []) X Z hl.1 (c_X2_weightBehindFront l G w (tk j) (T j) (hx.trk hY hn hj_j)) (cwV 0 X.2.2.2.2 gX4_draw_X2_weightBehindFront rfl rfl rfl (by decide +kernel) ⟨(Nat.le_of_ble_eq_true rfl), (Nat.le_of_ble_eq_true rfl)⟩) rfl rfl dX4_draw_73 ⟨(Nat.le_of_ble_eq_true rfl), (Nat.le_of_ble_eq_true rfl)⟩ rfl (Nat.le_of_ble_eq_true rfl) hcl (fun r73 w5 H locs p73 Z => ?_)
          obtain ⟨w5e, hr73⟩ := p73
          have w5e := w5e.symm
          subst w5e
          refine f_istore2 X hl dX4_draw_76 (by decide) (fun ls hl => ?_)
          have hl : lV ls _ [some (.ref h0), some (.int t), some (.ref a), some (.null), some (.int r73), none] := hl
          refine f_iload2 X hl dX4_draw_78 rfl ?_
          refine lv_bipush (v := 10) X.1 X.2.1 dX4_draw_80 (by decide) ?_
          refine f_aload (v := .ref a) X hl ⟨_, rfl, dX4_draw_82⟩ rfl ⟨(some a), rfl⟩ ?_
          refine f_get (v := .int d.2.1) (k := 1) X Z i3 rfl (by decide) (by decide +kernel) dX4_draw_83 hcA rfl ?_
          refine lv_imul X.1 X.2.1 dX4_draw_86 ?_
          refine lv_isub X.1 X.2.1 dX4_draw_87 ?_
          refine f_istore2 X hl dX4_draw_88 (by decide) (fun ls hl => ?_)
          have hl : lV ls _ [some (.ref h0), some (.int t), some (.ref a), some (.null), some (.int r73), some (.int (r73 - (10 * d.2.1)))] := hl
          refine f_iload2 X hl dX4_draw_90 rfl ?_
          refine lv_if_le (tgt := 106) X.1 X.2.1 dX4_draw_92 (by decide) (fun c92 => ?_) (fun c92 => ?_)
          · refine f_iload2 X hl dX4_draw_106 rfl ?_
            exact f_iret X hr hlk Z (Nat.le_of_ble_eq_true rfl) (Nat.le_of_ble_eq_true rfl) dX4_draw_108 (by
                have hl3 : r73 = sLd 0 (L.map Prod.snd) := by rw [hr73, hTj]; rfl
                subst hl3
                exact out_same hR (by unfold sp_draw tn; rw [if_pos c4, hjt_j, hyj]; simp only [isE, decide_eq_true_eq] at c33; simp only [if_pos c33, find_snd, hfq, Option.map_none]; exact if_neg (by rw [Int32.le_iff_toInt_le, kc_0] at c92; omega)))
          · refine f_aload (v := .ref h0) X hl ⟨_, rfl, dX4_draw_95⟩ rfl ⟨(some h0), rfl⟩ ?_
            refine lv_bipush (v := 6) X.1 X.2.1 dX4_draw_96 (by decide) ?_
            refine f_iload2 X hl dX4_draw_98 rfl ?_
            refine f_callVi (rest := []) X Z hl.1 (c_X4_tellLevel l G w h0 ta to sd pl y.2.2.2.2.1 (nI c) h1.1 y.2.2.2.2.2 6 (r73 - (10 * d.2.1)) (by decide) h4.1) (cwV 2 X.2.2.2.2 gX4_draw_X4_tellLevel rfl rfl rfl (by decide +kernel) ⟨(Nat.le_of_ble_eq_true rfl), (Nat.le_of_ble_eq_true rfl)⟩) rfl rfl dX4_draw_100 ⟨(Nat.le_of_ble_eq_true rfl), (Nat.le_of_ble_eq_true rfl)⟩ rfl (Nat.le_of_ble_eq_true rfl) h1.1 (fun r100 w6 H locs p100 Z => ?_)
            obtain ⟨hrT, hwT⟩ := p100
            refine lv_goto (tgt := 108) X.1 X.2.1 dX4_draw_103 (by decide) ?_
            exact f_iret X hr hlk Z (Nat.le_of_ble_eq_true rfl) (Nat.le_of_ble_eq_true rfl) dX4_draw_108 (by
                have hl3 : r73 = sLd 0 (L.map Prod.snd) := by rw [hr73, hTj]; rfl
                subst hl3
                exact out_lev hx hrT hwT (by unfold sp_draw tn; rw [if_pos c4, hjt_j, hyj]; simp only [isE, decide_eq_true_eq] at c33; simp only [if_pos c33, find_snd, hfq, Option.map_none]; exact if_pos (by rw [Int32.le_iff_toInt_le, kc_0] at c92; omega)))
        · subst c53
          obtain ⟨q, hfq, hqa⟩ := Option.map_eq_some_iff.mp hr48.symm
          obtain ⟨b1, db⟩ := q
          have hqa : b1 = a53 := hqa
          subst hqa
          rw [hTj, show ((a, d) :: L).drop 1 = L from rfl] at hfq
          obtain ⟨ix, hix⟩ := find_at hfq
          obtain ⟨-, rb, hcB, -, -⟩ := h6.1 j (ix + 1) b1 db (by rw [hTj]; exact hix)
          refine f_aload (v := .ref h0) X hl ⟨_, rfl, dX4_draw_56⟩ rfl ⟨(some h0), rfl⟩ ?_
          refine lv_bipush (v := 7) X.1 X.2.1 dX4_draw_57 (by decide) ?_
          refine f_aload (v := .ref b1) X hl ⟨_, rfl, dX4_draw_59⟩ rfl ⟨(some b1), rfl⟩ ?_
          refine f_get (v := .int db.2.2.1) (k := 2) X Z i3 rfl (by decide) (by decide +kernel) dX4_draw_60 hcB rfl ?_
          refine f_callVi (rest := []) X Z hl.1 (c_X4_tellLevel l G w h0 ta to sd pl y.2.2.2.2.1 (nI c) h1.1 y.2.2.2.2.2 7 db.2.2.1 (by decide) h4.1) (cwV 2 X.2.2.2.2 gX4_draw_X4_tellLevel rfl rfl rfl (by decide +kernel) ⟨(Nat.le_of_ble_eq_true rfl), (Nat.le_of_ble_eq_true rfl)⟩) rfl rfl dX4_draw_63 ⟨(Nat.le_of_ble_eq_true rfl), (Nat.le_of_ble_eq_true rfl)⟩ rfl (Nat.le_of_ble_eq_true rfl) h1.1 (fun r63 w7 H locs p63 Z => ?_)
          obtain ⟨hrT, hwT⟩ := p63
          exact f_iret X hr hlk Z (Nat.le_of_ble_eq_true rfl) (Nat.le_of_ble_eq_true rfl) dX4_draw_66 (out_lev hx hrT hwT (by unfold sp_draw tn; rw [if_pos c4, hjt_j, hyj]; simp only [isE, decide_eq_true_eq] at c33; simp only [if_pos c33, find_snd, hfq, Option.map_some]))
      · rw [hr30, bI_0] at c33
        refine f_aload (v := .ref h0) X hl ⟨_, rfl, dX4_draw_36⟩ rfl ⟨(some h0), rfl⟩ ?_
        refine lv_iconst (v := 2) X.1 X.2.1 dX4_draw_37 (by decide) ?_
        refine f_callVi (rest := []) X Z hl.1 (c_X4_tell l G w h0 ta to sd pl y.2.2.2.2.1 (nI c) h1.1 y.2.2.2.2.2 2 (by decide) h4.1) (cwV 1 X.2.2.2.2 gX4_draw_X4_tell rfl rfl rfl (by decide +kernel) ⟨(Nat.le_of_ble_eq_true rfl), (Nat.le_of_ble_eq_true rfl)⟩) rfl rfl dX4_draw_38 ⟨(Nat.le_of_ble_eq_true rfl), (Nat.le_of_ble_eq_true rfl)⟩ rfl (Nat.le_of_ble_eq_true rfl) h1.1 (fun r38 w8 H locs p38 Z => ?_)
        obtain ⟨hrT, hwT⟩ := p38
        exact f_iret X hr hlk Z (Nat.le_of_ble_eq_true rfl) (Nat.le_of_ble_eq_true rfl) dX4_draw_41 (out_tell hx Fr.rf hrT hwT (by unfold sp_draw tn; rw [if_pos c4, hjt_j, hyj]; exact if_neg (fun z => c33 (by simp only [isE, decide_eq_true_eq]; exact z))))
  · rw [hr1, bI_0] at c4
    refine lv_iconst (v := (-1)) X.1 X.2.1 dX4_draw_7 (by decide) ?_
    exact f_iret X hr hlk Z (Nat.le_of_ble_eq_true rfl) (Nat.le_of_ble_eq_true rfl) dX4_draw_8 (out_same hR (if_neg c4))
set_option maxHeartbeats 4000000 in
set_option maxRecDepth 100000 in
theorem c_X4_siding (l : Launch) (G : gT) (w : wT) (tg : tT) (h0 c nb : Nat) (y : Yd) (hR : RepC G tg w h0 c y) (hY : Yok nb y) (hn : nb ≤ 512) (n b : Int32) (hb : b = 0 ∨ b = 1) : Met l yX4_siding wsX4_siding ({ frames := 2, cells := 2, slots := 14, locals := 38 }) (va_Pc [.ref h0, .int n, .int b] (wG G w)) (Qi G (OutC G tg w h0 c (sp_siding n b y))) 2 14 (fr G) := by
  refine f_met (cc := cX4_siding) (maxL := 3) (ret := (some .int)) (by decide) rfl rfl (Nat.le_of_ble_eq_true rfl) ?_
  intro p e s m below meth cd X hr hlk hnm Z ls hl
  have X : CallFix p m cd cX4_siding 3 s [.ref h0, .int n, .int b].toArray wsX4_siding RX4 := X
  have hl : lV ls _ [some (.ref h0), some (.int n), some (.int b)] := hl
  have i1 : ∀ w ∈ wsX10, w ∈ wsX4_siding := by decide +kernel
  have i4 : ∀ w ∈ wsX40, w ∈ wsX4_siding := by decide +kernel
  obtain ⟨ta, to, tf, tk, sd, pl, T, hx⟩ := id hR
  obtain ⟨h1, h2, h3, h4, h5, h6, h7, h8, h9⟩ := id hx
  refine f_iload X hl ⟨_, rfl, dX4_siding_0⟩ rfl ?_
  refine lv_bipush (v := 12) X.1 X.2.1 dX4_siding_1 (by decide) ?_
  refine lv_icmp_le (tgt := 8) X.1 X.2.1 dX4_siding_3 (by decide) (fun c3 => ?_) (fun c3 => ?_)
  · refine f_iload X hl ⟨_, rfl, dX4_siding_8⟩ rfl ?_
    refine lv_if_ge (tgt := 18) X.1 X.2.1 dX4_siding_9 (by decide) (fun c9 => ?_) (fun c9 => ?_)
    · have c9 : ¬ n < 0 := fun h => by rw [Int32.lt_iff_toInt_lt, kc_0] at h; rw [Int32.le_iff_toInt_le, kc_0] at c9; omega
      obtain ⟨nn, hnn, rfl⟩ := nI_of c9
      have hn12 : nn ≤ 12 := by have := le12 c3; rw [nI_toInt hnn] at this; omega
      refine f_aload (v := .ref h0) X hl ⟨_, rfl, dX4_siding_18⟩ rfl ⟨(some h0), rfl⟩ ?_
      refine f_new (ci := 1) (ty := tyX1) (fs := [.null, .int 0]) X Z i1 tyX1_ok rfl (by decide +kernel) (by decide +kernel) (by decide +kernel) (fun j hj => by rcases (show j = 0 ∨ j = 1 by omega) with rfl | rfl <;> rfl) dX4_siding_19 (Nat.le_of_ble_eq_true rfl) (Nat.le_of_ble_eq_true rfl) (fun q19 H w1 hq19 e2 Z => ?_)
      have e2 : w1 = va_up w q19 (some (cSid none 0)) := e2
      have k3 : w1 h0 = some (cTs (some ta) (some to) sd pl y.2.2.2.2.1 (nI c)) := by rw [e2]; exact lk_ne (ad_new h1.1 hq19) h1.1
      have k4 : w1 ta = some (aT G 6 tf) := by rw [e2]; exact lk_ne (ad_new h2.1 hq19) h2.1
      have k5 : w1 to = some (aI G 8 y.2.2.2.2.2) := by rw [e2]; exact lk_ne (ad_new h4.1 hq19) h4.1
      have k6 : w1 q19 = some (cSid none 0) := by rw [e2]; exact up_eq
      refine lv_dup X.1 X.2.1 dX4_siding_22 rfl ?_
      refine f_iload X hl ⟨_, rfl, dX4_siding_23⟩ rfl ?_
      refine f_iload X hl ⟨_, rfl, dX4_siding_24⟩ rfl ?_
      refine f_callIv (rest := [.ref q19, .ref h0]) X Z hl.1 (c_X1_init l G w1 q19 nn b hn12 hb k6) (cwI 2 X.2.2.2.2 gX4_siding_X1_init rfl rfl rfl (X.2.2.2.2 (.initialized RX1) (by decide +kernel)) (X.2.2.2.2 (.methodLink RX4 115 yX1_init) (by decide +kernel)) (X.2.2.2.2 (.instanceMethod yX1_init) (by decide +kernel)) rfl (by decide +kernel) ⟨(Nat.le_of_ble_eq_true rfl), (Nat.le_of_ble_eq_true rfl)⟩) rfl dX4_siding_25 ⟨(Nat.le_of_ble_eq_true rfl), (Nat.le_of_ble_eq_true rfl)⟩ rfl (Nat.le_of_ble_eq_true rfl) (fun w7 H locs p25 Z => ?_)
      obtain ⟨q2, hqn, hwI⟩ := p25
      have hqq : q2 ≠ q19 := (ad_new k6 hqn).symm
      have hwq : w q2 = none := by rw [e2, up_ne hqq] at hqn; exact hqn
      have k8 : w7 h0 = some (cTs (some ta) (some to) sd pl y.2.2.2.2.1 (nI c)) := by rw [hwI, up_ne (ad_ne k3 k6 (dx_oo (by decide))), up_ne (ad_new k3 hqn)]; exact k3
      have k9 : w7 ta = some (aT G 6 tf) := by rw [hwI, up_ne (ad_ne k4 k6 dx_io), up_ne (ad_new k4 hqn)]; exact k4
      have k10 : w7 to = some (aI G 8 y.2.2.2.2.2) := by rw [hwI, up_ne (ad_ne k5 k6 dx_io), up_ne (ad_new k5 hqn)]; exact k5
      have k11 : w7 q19 = some (cSid (some q2) b) := by rw [hwI]; exact up_eq
      have k12 : w7 q2 = some (aV G nn (fun _ => none)) := by rw [hwI, up_ne (Ne.symm (ad_new k6 hqn))]; exact up_eq
      refine f_put (v := .ref q19) (ty0 := tyX4) (k := 2) X Z i4 tyX4_ok nmX4 rfl (by decide) (by decide +kernel) rfl dX4_siding_28 k8 (nr_o _ (some q19)) (ft_o _ (some q19)) (Nat.le_of_ble_eq_true rfl) (fun H locs w13 e14 Z => ?_)
      have e14 : w13 = va_up w7 h0 (some (cTs (some ta) (some to) (some q19) pl y.2.2.2.2.1 (nI c))) := e14
      have k15 : w13 ta = some (aT G 6 tf) := by rw [e14]; exact lk_ne (ad_ne k9 k8 dx_io) k9
      have k16 : w13 to = some (aI G 8 y.2.2.2.2.2) := by rw [e14]; exact lk_ne (ad_ne k10 k8 dx_io) k10
      have k17 : w13 q19 = some (cSid (some q2) b) := by rw [e14]; exact lk_ne (ad_ne k11 k8 (dx_oo (by decide))) k11
      have k18 : w13 q2 = some (aV G nn (fun _ => none)) := by rw [e14]; exact lk_ne (ad_ne k12 k8 dx_io) k12
      have k19 : w13 h0 = some (cTs (some ta) (some to) (some q19) pl y.2.2.2.2.1 (nI c)) := by rw [e14]; exact up_eq
      refine f_iload X hl ⟨_, rfl, dX4_siding_31⟩ rfl ?_
      exact f_iret X hr hlk Z (Nat.le_of_ble_eq_true rfl) (Nat.le_of_ble_eq_true rfl) dX4_siding_32 (out_of (hx.siding hn12 hq19 hwq hqq.symm k19 k17 k18 (fun b n1 n2 n3 => by rw [e14, hwI, e2, up_ne n1, up_ne n2, up_ne n3, up_ne n2])) (by rw [e14, hwI, e2]; exact (((Fr.rf.new hq19).new hwq).put (τ := (6, 0)) (by rw [up_off hqq.symm, up_at]) (by decide)).put (τ := (0, 0)) (by rw [up_off (ad_new h1.1 hwq), up_off (ad_new h1.1 hq19)]; exact h1.2) (by decide)) (by omega) (by unfold sp_siding tn; rw [if_pos (le12 c3), if_neg (by rw [nI_toInt hnn]; omega), nI_clamp hnn]))
    · refine f_aload (v := .ref h0) X hl ⟨_, rfl, dX4_siding_12⟩ rfl ⟨(some h0), rfl⟩ ?_
      refine lv_iconst (v := 4) X.1 X.2.1 dX4_siding_13 (by decide) ?_
      refine f_callVi (rest := []) X Z hl.1 (c_X4_tell l G w h0 ta to sd pl y.2.2.2.2.1 (nI c) h1.1 y.2.2.2.2.2 4 (by decide) h4.1) (cwV 1 X.2.2.2.2 gX4_siding_X4_tell rfl rfl rfl (by decide +kernel) ⟨(Nat.le_of_ble_eq_true rfl), (Nat.le_of_ble_eq_true rfl)⟩) rfl rfl dX4_siding_14 ⟨(Nat.le_of_ble_eq_true rfl), (Nat.le_of_ble_eq_true rfl)⟩ rfl (Nat.le_of_ble_eq_true rfl) h1.1 (fun r14 w20 H locs p14 Z => ?_)
      obtain ⟨hrT, hwT⟩ := p14
      exact f_iret X hr hlk Z (Nat.le_of_ble_eq_true rfl) (Nat.le_of_ble_eq_true rfl) dX4_siding_17 (out_tell hx Fr.rf hrT hwT (by unfold sp_siding; rw [if_pos (le12 c3), if_pos (by rw [Int32.le_iff_toInt_le, kc_0] at c9; omega)]))
  · refine lv_iconst (v := (-1)) X.1 X.2.1 dX4_siding_6 (by decide) ?_
    exact f_iret X hr hlk Z (Nat.le_of_ble_eq_true rfl) (Nat.le_of_ble_eq_true rfl) dX4_siding_7 (out_same hR (if_neg (nle12 c3)))
set_option maxHeartbeats 4000000 in
set_option maxRecDepth 100000 in
theorem c_X4_plan (l : Launch) (G : gT) (w : wT) (tg : tT) (h0 c nb : Nat) (y : Yd) (hR : RepC G tg w h0 c y) (hY : Yok nb y) (hn : nb ≤ 512) (n k : Int32) : Met l yX4_plan wsX4_plan ({ frames := 2, cells := 2, slots := 147, locals := 38 }) (va_Pc [.ref h0, .int n, .int k] (wG G w)) (Qi G (OutC G tg w h0 c (sp_plan n k y))) 2 147 (fr G) := by
  refine f_met (cc := cX4_plan) (maxL := 3) (ret := (some .int)) (by decide) rfl rfl (Nat.le_of_ble_eq_true rfl) ?_
  intro p e s m below meth cd X hr hlk hnm Z ls hl
  have X : CallFix p m cd cX4_plan 3 s [.ref h0, .int n, .int k].toArray wsX4_plan RX4 := X
  have hl : lV ls _ [some (.ref h0), some (.int n), some (.int k)] := hl
  have i0 : ∀ w ∈ wsX00, w ∈ wsX4_plan := by decide +kernel
  have i4 : ∀ w ∈ wsX40, w ∈ wsX4_plan := by decide +kernel
  obtain ⟨ta, to, tf, tk, sd, pl, T, hx⟩ := id hR
  obtain ⟨h1, h2, h3, h4, h5, h6, h7, h8, h9⟩ := id hx
  refine f_iload X hl ⟨_, rfl, dX4_plan_0⟩ rfl ?_
  refine lv_bipush (v := 12) X.1 X.2.1 dX4_plan_1 (by decide) ?_
  refine lv_icmp_gt (tgt := 12) X.1 X.2.1 dX4_plan_3 (by decide) (fun c3 => ?_) (fun c3 => ?_)
  · refine lv_iconst (v := (-1)) X.1 X.2.1 dX4_plan_12 (by decide) ?_
    exact f_iret X hr hlk Z (Nat.le_of_ble_eq_true rfl) (Nat.le_of_ble_eq_true rfl) dX4_plan_13 (out_same hR (if_neg (fun h => nle12 (Int32.not_le.mpr c3) h.1)))
  · refine f_iload X hl ⟨_, rfl, dX4_plan_6⟩ rfl ?_
    refine lv_bipush (v := 12) X.1 X.2.1 dX4_plan_7 (by decide) ?_
    refine lv_icmp_le (tgt := 14) X.1 X.2.1 dX4_plan_9 (by decide) (fun c9 => ?_) (fun c9 => ?_)
    · refine f_iload X hl ⟨_, rfl, dX4_plan_14⟩ rfl ?_
      refine lv_if_lt (tgt := 22) X.1 X.2.1 dX4_plan_15 (by decide) (fun c15 => ?_) (fun c15 => ?_)
      · refine f_aload (v := .ref h0) X hl ⟨_, rfl, dX4_plan_22⟩ rfl ⟨(some h0), rfl⟩ ?_
        refine lv_iconst (v := 4) X.1 X.2.1 dX4_plan_23 (by decide) ?_
        refine f_callVi (rest := []) X Z hl.1 (c_X4_tell l G w h0 ta to sd pl y.2.2.2.2.1 (nI c) h1.1 y.2.2.2.2.2 4 (by decide) h4.1) (cwV 1 X.2.2.2.2 gX4_plan_X4_tell rfl rfl rfl (by decide +kernel) ⟨(Nat.le_of_ble_eq_true rfl), (Nat.le_of_ble_eq_true rfl)⟩) rfl rfl dX4_plan_24 ⟨(Nat.le_of_ble_eq_true rfl), (Nat.le_of_ble_eq_true rfl)⟩ rfl (Nat.le_of_ble_eq_true rfl) h1.1 (fun r24 w1 H locs p24 Z => ?_)
        obtain ⟨hrT, hwT⟩ := p24
        exact f_iret X hr hlk Z (Nat.le_of_ble_eq_true rfl) (Nat.le_of_ble_eq_true rfl) dX4_plan_27 (out_tell hx Fr.rf hrT hwT (by unfold sp_plan; rw [if_pos ⟨le12 (Int32.not_lt.mp c3), le12 c9⟩, if_pos (Or.inl (isneg c15))]))
      · refine f_iload X hl ⟨_, rfl, dX4_plan_18⟩ rfl ?_
        refine lv_if_ge (tgt := 28) X.1 X.2.1 dX4_plan_19 (by decide) (fun c19 => ?_) (fun c19 => ?_)
        · have c19 : ¬ k < 0 := fun h => by rw [Int32.lt_iff_toInt_lt, kc_0] at h; rw [Int32.le_iff_toInt_le, kc_0] at c19; omega
          have c3 := Int32.not_lt.mp c3
          obtain ⟨r, hr31, rfl⟩ := nI_of c15
          obtain ⟨kk, hk31, rfl⟩ := nI_of c19
          have hr12 : r ≤ 12 := by have := le12 c3; rw [nI_toInt hr31] at this; omega
          have hk12 : kk ≤ 12 := by have := le12 c9; rw [nI_toInt hk31] at this; omega
          have hrk : r * kk ≤ 144 := Nat.mul_le_mul hr12 hk12
          refine f_aload (v := .ref h0) X hl ⟨_, rfl, dX4_plan_28⟩ rfl ⟨(some h0), rfl⟩ ?_
          refine f_new (ci := 0) (ty := tyX0) (fs := [.int 0, .int 0, .null]) X Z i0 tyX0_ok rfl (by decide +kernel) (by decide +kernel) (by decide +kernel) (fun j hj => by rcases (show j = 0 ∨ j = 1 ∨ j = 2 by omega) with rfl | rfl | rfl <;> rfl) dX4_plan_29 (Nat.le_of_ble_eq_true rfl) (Nat.le_of_ble_eq_true rfl) (fun q29 H w2 hq29 e3 Z => ?_)
          have e3 : w2 = va_up w q29 (some (cPln 0 0 none)) := e3
          have k4 : w2 h0 = some (cTs (some ta) (some to) sd pl y.2.2.2.2.1 (nI c)) := by rw [e3]; exact lk_ne (ad_new h1.1 hq29) h1.1
          have k5 : w2 ta = some (aT G 6 tf) := by rw [e3]; exact lk_ne (ad_new h2.1 hq29) h2.1
          have k6 : w2 to = some (aI G 8 y.2.2.2.2.2) := by rw [e3]; exact lk_ne (ad_new h4.1 hq29) h4.1
          have k7 : w2 q29 = some (cPln 0 0 none) := by rw [e3]; exact up_eq
          refine lv_dup X.1 X.2.1 dX4_plan_32 rfl ?_
          refine f_iload X hl ⟨_, rfl, dX4_plan_33⟩ rfl ?_
          refine f_iload X hl ⟨_, rfl, dX4_plan_34⟩ rfl ?_
          refine f_callIv (rest := [.ref q29, .ref h0]) X Z hl.1 (c_X0_init l G w2 q29 r kk hr12 hk12 hrk k7) (cwI 2 X.2.2.2.2 gX4_plan_X0_init rfl rfl rfl (X.2.2.2.2 (.initialized RX0) (by decide +kernel)) (X.2.2.2.2 (.methodLink RX4 134 yX0_init) (by decide +kernel)) (X.2.2.2.2 (.instanceMethod yX0_init) (by decide +kernel)) rfl (by decide +kernel) ⟨(Nat.le_of_ble_eq_true rfl), (Nat.le_of_ble_eq_true rfl)⟩) rfl dX4_plan_35 ⟨(Nat.le_of_ble_eq_true rfl), (Nat.le_of_ble_eq_true rfl)⟩ rfl (Nat.le_of_ble_eq_true rfl) (fun w8 H locs p35 Z => ?_)
          obtain ⟨q2, hqn, hwI⟩ := p35
          have hqq : q2 ≠ q29 := (ad_new k7 hqn).symm
          have hwq : w q2 = none := by rw [e3, up_ne hqq] at hqn; exact hqn
          have k9 : w8 h0 = some (cTs (some ta) (some to) sd pl y.2.2.2.2.1 (nI c)) := by rw [hwI, up_ne (ad_ne k4 k7 (dx_oo (by decide))), up_ne (ad_new k4 hqn)]; exact k4
          have k10 : w8 ta = some (aT G 6 tf) := by rw [hwI, up_ne (ad_ne k5 k7 dx_io), up_ne (ad_new k5 hqn)]; exact k5
          have k11 : w8 to = some (aI G 8 y.2.2.2.2.2) := by rw [hwI, up_ne (ad_ne k6 k7 dx_io), up_ne (ad_new k6 hqn)]; exact k6
          have k12 : w8 q29 = some (cPln (nI r) (nI kk) (some q2)) := by rw [hwI]; exact up_eq
          have k13 : w8 q2 = some (aI G (r * kk) (fun _ => 0)) := by rw [hwI, up_ne (Ne.symm (ad_new k7 hqn))]; exact up_eq
          refine f_put (v := .ref q29) (ty0 := tyX4) (k := 3) X Z i4 tyX4_ok nmX4 rfl (by decide) (by decide +kernel) rfl dX4_plan_38 k9 (nr_o _ (some q29)) (ft_o _ (some q29)) (Nat.le_of_ble_eq_true rfl) (fun H locs w14 e15 Z => ?_)
          have e15 : w14 = va_up w8 h0 (some (cTs (some ta) (some to) sd (some q29) y.2.2.2.2.1 (nI c))) := e15
          have k16 : w14 ta = some (aT G 6 tf) := by rw [e15]; exact lk_ne (ad_ne k10 k9 dx_io) k10
          have k17 : w14 to = some (aI G 8 y.2.2.2.2.2) := by rw [e15]; exact lk_ne (ad_ne k11 k9 dx_io) k11
          have k18 : w14 q29 = some (cPln (nI r) (nI kk) (some q2)) := by rw [e15]; exact lk_ne (ad_ne k12 k9 (dx_oo (by decide))) k12
          have k19 : w14 q2 = some (aI G (r * kk) (fun _ => 0)) := by rw [e15]; exact lk_ne (ad_ne k13 k9 dx_io) k13
          have k20 : w14 h0 = some (cTs (some ta) (some to) sd (some q29) y.2.2.2.2.1 (nI c)) := by rw [e15]; exact up_eq
          refine f_iload X hl ⟨_, rfl, dX4_plan_41⟩ rfl ?_
          refine f_iload X hl ⟨_, rfl, dX4_plan_42⟩ rfl ?_
          refine lv_imul X.1 X.2.1 dX4_plan_43 ?_
          exact f_iret X hr hlk Z (Nat.le_of_ble_eq_true rfl) (Nat.le_of_ble_eq_true rfl) dX4_plan_44 (out_of (hx.plan hr12 hk12 hq29 hwq hqq.symm k20 k18 k19 (fun b n1 n2 n3 => by rw [e15, hwI, e3, up_ne n1, up_ne n2, up_ne n3, up_ne n2])) (by rw [e15, hwI, e3]; exact (((Fr.rf.new hq29).new hwq).put (τ := (8, 0)) (by rw [up_off hqq.symm, up_at]) (by decide)).put (τ := (0, 0)) (by rw [up_off (ad_new h1.1 hwq), up_off (ad_new h1.1 hq29)]; exact h1.2) (by decide)) (by omega) (by unfold sp_plan tn; rw [if_pos ⟨le12 c3, le12 c9⟩, if_neg (by rw [nI_toInt hr31, nI_toInt hk31]; omega), nI_clamp hr31, nI_clamp hk31]))
        · refine f_aload (v := .ref h0) X hl ⟨_, rfl, dX4_plan_22⟩ rfl ⟨(some h0), rfl⟩ ?_
          refine lv_iconst (v := 4) X.1 X.2.1 dX4_plan_23 (by decide) ?_
          refine f_callVi (rest := []) X Z hl.1 (c_X4_tell l G w h0 ta to sd pl y.2.2.2.2.1 (nI c) h1.1 y.2.2.2.2.2 4 (by decide) h4.1) (cwV 1 X.2.2.2.2 gX4_plan_X4_tell rfl rfl rfl (by decide +kernel) ⟨(Nat.le_of_ble_eq_true rfl), (Nat.le_of_ble_eq_true rfl)⟩) rfl rfl dX4_plan_24 ⟨(Nat.le_of_ble_eq_true rfl), (Nat.le_of_ble_eq_true rfl)⟩ rfl (Nat.le_of_ble_eq_true rfl) h1.1 (fun r24 w21 H locs p24 Z => ?_)
          obtain ⟨hrT, hwT⟩ := p24
          exact f_iret X hr hlk Z (Nat.le_of_ble_eq_true rfl) (Nat.le_of_ble_eq_true rfl) dX4_plan_27 (out_tell hx Fr.rf hrT hwT (by unfold sp_plan; rw [if_pos ⟨le12 (Int32.not_lt.mp c3), le12 c9⟩, if_pos (Or.inr (by rw [Int32.le_iff_toInt_le, kc_0] at c19; omega))]))
    · refine lv_iconst (v := (-1)) X.1 X.2.1 dX4_plan_12 (by decide) ?_
      exact f_iret X hr hlk Z (Nat.le_of_ble_eq_true rfl) (Nat.le_of_ble_eq_true rfl) dX4_plan_13 (out_same hR (if_neg (fun h => nle12 c9 h.2)))
set_option maxHeartbeats 4000000 in
set_option maxRecDepth 100000 in
theorem c_X4_note (l : Launch) (G : gT) (w : wT) (tg : tT) (h0 c nb : Nat) (y : Yd) (hR : RepC G tg w h0 c y) (hY : Yok nb y) (hn : nb ≤ 512) (i j x : Int32) : Met l yX4_note wsX4_note ({ frames := 2, cells := 0, slots := 0, locals := 44 }) (va_Pc [.ref h0, .int i, .int j, .int x] (wG G w)) (Qi G (OutC G tg w h0 c (sp_note i j x y))) 0 0 (fr G) := by
  refine f_met (cc := cX4_note) (maxL := 5) (ret := (some .int)) (by decide) rfl rfl (Nat.le_of_ble_eq_true rfl) ?_
  intro p e s m below meth cd X hr hlk hnm Z ls hl
  have X : CallFix p m cd cX4_note 5 s [.ref h0, .int i, .int j, .int x].toArray wsX4_note RX4 := X
  have hl : lV ls _ [some (.ref h0), some (.int i), some (.int j), some (.int x), none] := hl
  have i0 : ∀ w ∈ wsX00, w ∈ wsX4_note := by decide +kernel
  have i4 : ∀ w ∈ wsX40, w ∈ wsX4_note := by decide +kernel
  obtain ⟨ta, to, tf, tk, sd, pl, T, hx⟩ := id hR
  obtain ⟨h1, h2, h3, h4, h5, h6, h7, h8, h9⟩ := id hx
  refine f_iload X hl ⟨_, rfl, dX4_note_0⟩ rfl ?_
  refine lv_iconst (v := 0) X.1 X.2.1 dX4_note_1 (by decide) ?_
  refine lv_bipush (v := 99) X.1 X.2.1 dX4_note_2 (by decide) ?_
  refine f_callSi (rest := []) X Z hl.1 (c_X4_isWithin l G _ _ _ _) (va_cwS 3 X.2.2.2.2 gX4_note_X4_isWithin rfl rfl rfl (by decide +kernel) ⟨(Nat.le_of_ble_eq_true rfl), (Nat.le_of_ble_eq_true rfl)⟩) rfl dX4_note_4 ⟨(Nat.le_of_ble_eq_true rfl), (Nat.le_of_ble_eq_true rfl)⟩ rfl (Nat.le_of_ble_eq_true rfl) (fun r4 w1 H locs p4 Z => ?_)
  obtain ⟨w1e, hr4⟩ := p4
  have w1e := w1e.symm
  subst w1e
  refine lv_if_ne (tgt := 12) X.1 X.2.1 dX4_note_7 (by decide) (fun c7 => ?_) (fun c7 => ?_)
  · rw [hr4, bI_0, Classical.not_not] at c7
    refine f_aload (v := .ref h0) X hl ⟨_, rfl, dX4_note_12⟩ rfl ⟨(some h0), rfl⟩ ?_
    refine f_iload X hl ⟨_, rfl, dX4_note_13⟩ rfl ?_
    refine f_iload X hl ⟨_, rfl, dX4_note_14⟩ rfl ?_
    refine f_callVi (rest := []) X Z hl.1 (c_X4_whyNoNumber l G w h0 ta to sd pl y.2.2.2.2.1 (nI c) h1.1 y.2.2.1 i j h9.opt) (cwV 2 X.2.2.2.2 gX4_note_X4_whyNoNumber rfl rfl rfl (by decide +kernel) ⟨(Nat.le_of_ble_eq_true rfl), (Nat.le_of_ble_eq_true rfl)⟩) rfl rfl dX4_note_15 ⟨(Nat.le_of_ble_eq_true rfl), (Nat.le_of_ble_eq_true rfl)⟩ rfl (Nat.le_of_ble_eq_true rfl) h1.1 (fun r15 w2 H locs p15 Z => ?_)
    obtain ⟨w2e, hr15⟩ := p15
    have w2e := w2e.symm
    subst w2e
    subst hr15
    refine f_istore2 X hl dX4_note_18 (by decide) (fun ls hl => ?_)
    have hl : lV ls _ [some (.ref h0), some (.int i), some (.int j), some (.int x), some (.int (nI (whyN y.2.2.1 i j)))] := hl
    refine f_iload2 X hl dX4_note_20 rfl ?_
    refine lv_if_eq (tgt := 32) X.1 X.2.1 dX4_note_22 (by decide) (fun c22 => ?_) (fun c22 => ?_)
    · have hz := (nI_z (whyN_lt _ _ _)).mp c22
      obtain ⟨r, kk, hop, hi, hj0, hj1⟩ := whyN_0 hz
      obtain ⟨pa, nu, f, hpl, hcP, hcN, hr12, hk12, hfN⟩ := h9.some hop
      subst hpl
      have hin : i.toNatClampNeg < r := tn_lt hi
      have hjn : j.toNatClampNeg < kk := tn_lt ⟨hj0, hj1⟩
      have hlt := ix_lt hin hjn
      have hrk : r * kk ≤ 144 := Nat.mul_le_mul hr12 hk12
      refine f_aload (v := .ref h0) X hl ⟨_, rfl, dX4_note_32⟩ rfl ⟨(some h0), rfl⟩ ?_
      refine f_get (v := .ref pa) (k := 3) X Z i4 rfl (by decide) (by decide +kernel) dX4_note_33 h1.1 rfl ?_
      refine f_get (v := .ref nu) (k := 2) X Z i0 rfl (by decide) (by decide +kernel) dX4_note_36 hcP rfl ?_
      refine f_aload (v := .ref h0) X hl ⟨_, rfl, dX4_note_39⟩ rfl ⟨(some h0), rfl⟩ ?_
      refine f_get (v := .ref pa) (k := 3) X Z i4 rfl (by decide) (by decide +kernel) dX4_note_40 h1.1 rfl ?_
      refine f_iload X hl ⟨_, rfl, dX4_note_43⟩ rfl ?_
      refine f_iload X hl ⟨_, rfl, dX4_note_44⟩ rfl ?_
      refine f_callVi (rest := [.ref nu]) X Z hl.1 (c_X0_slot l G w pa (nI r) (nI kk) i j (some nu) hcP) (cwV 2 X.2.2.2.2 gX4_note_X0_slot rfl rfl rfl (by decide +kernel) ⟨(Nat.le_of_ble_eq_true rfl), (Nat.le_of_ble_eq_true rfl)⟩) rfl rfl dX4_note_45 ⟨(Nat.le_of_ble_eq_true rfl), (Nat.le_of_ble_eq_true rfl)⟩ rfl (Nat.le_of_ble_eq_true rfl) hcP (fun r45 w3 H locs p45 Z => ?_)
      obtain ⟨w3e, hr45⟩ := p45
      have w3e := w3e.symm
      subst w3e
      rw [slot_ix hi.1 hj0] at hr45
      subst hr45
      refine f_iload X hl ⟨_, rfl, dX4_note_48⟩ rfl ?_
      refine f_iast X Z dX4_note_49 hcN.1 (vp_in_nI hlt (by omega)) (fun H locs w4 e5 Z => ?_)
      have e5 : w4 = va_up w nu (some (aI G (r * kk) (upd f (nI (i.toNatClampNeg * kk + j.toNatClampNeg)).toNatClampNeg x))) := e5
      have k6 : w4 h0 = some (cTs (some ta) (some to) sd (some pa) y.2.2.2.2.1 (nI c)) := by rw [e5]; exact lk_ne (ad_ne h1.1 hcN.1 dx_oi) h1.1
      have k7 : w4 ta = some (aT G 6 tf) := by rw [e5]; exact lk_ne (ad_ne h2.1 hcN.1 dx_ri) h2.1
      have k8 : w4 to = some (aI G 8 y.2.2.2.2.2) := by rw [e5]; exact lk_ne (tgne h4.2 hcN.2 (by simp)) h4.1
      have k9 : w4 pa = some (cPln (nI r) (nI kk) (some nu)) := by rw [e5]; exact lk_ne (ad_ne hcP hcN.1 dx_oi) hcP
      have k10 : w4 nu = some (aI G (r * kk) (upd f (nI (i.toNatClampNeg * kk + j.toNatClampNeg)).toNatClampNeg x)) := by rw [e5]; exact up_eq
      refine f_iload X hl ⟨_, rfl, dX4_note_50⟩ rfl ?_
      exact f_iret X hr hlk Z (Nat.le_of_ble_eq_true rfl) (Nat.le_of_ble_eq_true rfl) dX4_note_51 (out_of (hx.note hop rfl hcP hcN.1 hin hjn (by rw [e5, nI_clamp (by omega)])) (by rw [e5]; exact Fr.rf.put hcN.2 (by decide)) (by omega) (by unfold sp_note; rw [if_pos c7, if_neg (fun z => z hz)]))
    · refine f_aload (v := .ref h0) X hl ⟨_, rfl, dX4_note_25⟩ rfl ⟨(some h0), rfl⟩ ?_
      refine f_iload2 X hl dX4_note_26 rfl ?_
      refine f_callVi (rest := []) X Z hl.1 (c_X4_tell l G w h0 ta to sd pl y.2.2.2.2.1 (nI c) h1.1 y.2.2.2.2.2 (whyN y.2.2.1 i j) (whyN_lt _ _ _) h4.1) (cwV 1 X.2.2.2.2 gX4_note_X4_tell rfl rfl rfl (by decide +kernel) ⟨(Nat.le_of_ble_eq_true rfl), (Nat.le_of_ble_eq_true rfl)⟩) rfl rfl dX4_note_28 ⟨(Nat.le_of_ble_eq_true rfl), (Nat.le_of_ble_eq_true rfl)⟩ rfl (Nat.le_of_ble_eq_true rfl) h1.1 (fun r28 w11 H locs p28 Z => ?_)
      obtain ⟨hrT, hwT⟩ := p28
      exact f_iret X hr hlk Z (Nat.le_of_ble_eq_true rfl) (Nat.le_of_ble_eq_true rfl) dX4_note_31 (out_tell hx Fr.rf hrT hwT (by unfold sp_note; rw [if_pos c7, if_pos (fun z => c22 (by rw [z]; rfl))]))
  · rw [hr4, bI_0] at c7
    refine lv_iconst (v := (-1)) X.1 X.2.1 dX4_note_10 (by decide) ?_
    exact f_iret X hr hlk Z (Nat.le_of_ble_eq_true rfl) (Nat.le_of_ble_eq_true rfl) dX4_note_11 (out_same hR (if_neg c7))
set_option maxHeartbeats 4000000 in
set_option maxRecDepth 100000 in
theorem c_X4_noted (l : Launch) (G : gT) (w : wT) (tg : tT) (h0 c nb : Nat) (y : Yd) (hR : RepC G tg w h0 c y) (hY : Yok nb y) (hn : nb ≤ 512) (i j : Int32) : Met l yX4_noted wsX4_noted ({ frames := 2, cells := 0, slots := 0, locals := 44 }) (va_Pc [.ref h0, .int i, .int j] (wG G w)) (Qi G (OutC G tg w h0 c (sp_noted i j y))) 0 0 (fr G) := by
  refine f_met (cc := cX4_noted) (maxL := 4) (ret := (some .int)) (by decide) rfl rfl (Nat.le_of_ble_eq_true rfl) ?_
  intro p e s m below meth cd X hr hlk hnm Z ls hl
  have X : CallFix p m cd cX4_noted 4 s [.ref h0, .int i, .int j].toArray wsX4_noted RX4 := X
  have hl : lV ls _ [some (.ref h0), some (.int i), some (.int j), none] := hl
  have i0 : ∀ w ∈ wsX00, w ∈ wsX4_noted := by decide +kernel
  have i4 : ∀ w ∈ wsX40, w ∈ wsX4_noted := by decide +kernel
  obtain ⟨ta, to, tf, tk, sd, pl, T, hx⟩ := id hR
  obtain ⟨h1, h2, h3, h4, h5, h6, h7, h8, h9⟩ := id hx
  refine f_aload (v := .ref h0) X hl ⟨_, rfl, dX4_noted_0⟩ rfl ⟨(some h0), rfl⟩ ?_
  refine f_iload X hl ⟨_, rfl, dX4_noted_1⟩ rfl ?_
  refine f_iload X hl ⟨_, rfl, dX4_noted_2⟩ rfl ?_
  refine f_callVi (rest := []) X Z hl.1 (c_X4_whyNoNumber l G w h0 ta to sd pl y.2.2.2.2.1 (nI c) h1.1 y.2.2.1 i j h9.opt) (cwV 2 X.2.2.2.2 gX4_noted_X4_whyNoNumber rfl rfl rfl (by decide +kernel) ⟨(Nat.le_of_ble_eq_true rfl), (Nat.le_of_ble_eq_true rfl)⟩) rfl rfl dX4_noted_3 ⟨(Nat.le_of_ble_eq_true rfl), (Nat.le_of_ble_eq_true rfl)⟩ rfl (Nat.le_of_ble_eq_true rfl) h1.1 (fun r3 w1 H locs p3 Z => ?_)
  obtain ⟨w1e, hr3⟩ := p3
  have w1e := w1e.symm
  subst w1e
  subst hr3
  refine f_istore X hl ⟨_, rfl, dX4_noted_6⟩ (by decide) (fun ls hl => ?_)
  have hl : lV ls _ [some (.ref h0), some (.int i), some (.int j), some (.int (nI (whyN y.2.2.1 i j)))] := hl
  refine f_iload X hl ⟨_, rfl, dX4_noted_7⟩ rfl ?_
  refine lv_if_eq (tgt := 19) X.1 X.2.1 dX4_noted_8 (by decide) (fun c8 => ?_) (fun c8 => ?_)
  · have hz := (nI_z (whyN_lt _ _ _)).mp c8
    obtain ⟨r, kk, hop, hi, hj0, hj1⟩ := whyN_0 hz
    obtain ⟨pa, nu, f, hpl, hcP, hcN, hr12, hk12, hfN⟩ := h9.some hop
    subst hpl
    have hin : i.toNatClampNeg < r := tn_lt hi
    have hjn : j.toNatClampNeg < kk := tn_lt ⟨hj0, hj1⟩
    have hlt := ix_lt hin hjn
    have hrk : r * kk ≤ 144 := Nat.mul_le_mul hr12 hk12
    refine f_aload (v := .ref h0) X hl ⟨_, rfl, dX4_noted_19⟩ rfl ⟨(some h0), rfl⟩ ?_
    refine f_get (v := .ref pa) (k := 3) X Z i4 rfl (by decide) (by decide +kernel) dX4_noted_20 h1.1 rfl ?_
    refine f_get (v := .ref nu) (k := 2) X Z i0 rfl (by decide) (by decide +kernel) dX4_noted_23 hcP rfl ?_
    refine f_aload (v := .ref h0) X hl ⟨_, rfl, dX4_noted_26⟩ rfl ⟨(some h0), rfl⟩ ?_
    refine f_get (v := .ref pa) (k := 3) X Z i4 rfl (by decide) (by decide +kernel) dX4_noted_27 h1.1 rfl ?_
    refine f_iload X hl ⟨_, rfl, dX4_noted_30⟩ rfl ?_
    refine f_iload X hl ⟨_, rfl, dX4_noted_31⟩ rfl ?_
    refine f_callVi (rest := [.ref nu]) X Z hl.1 (c_X0_slot l G w pa (nI r) (nI kk) i j (some nu) hcP) (cwV 2 X.2.2.2.2 gX4_noted_X0_slot rfl rfl rfl (by decide +kernel) ⟨(Nat.le_of_ble_eq_true rfl), (Nat.le_of_ble_eq_true rfl)⟩) rfl rfl dX4_noted_32 ⟨(Nat.le_of_ble_eq_true rfl), (Nat.le_of_ble_eq_true rfl)⟩ rfl (Nat.le_of_ble_eq_true rfl) hcP (fun r32 w2 H locs p32 Z => ?_)
    obtain ⟨w2e, hr32⟩ := p32
    have w2e := w2e.symm
    subst w2e
    rw [slot_ix hi.1 hj0] at hr32
    subst hr32
    refine f_iald X Z dX4_noted_35 hcN.1 (vp_in_nI hlt (by omega)) ?_
    exact f_iret X hr hlk Z (Nat.le_of_ble_eq_true rfl) (Nat.le_of_ble_eq_true rfl) dX4_noted_36 (by
        rw [nI_clamp (by omega), hfN _ _ hin hjn]
        exact out_same hR (by unfold sp_noted; rw [if_neg (fun z => z hz)]))
  · refine f_aload (v := .ref h0) X hl ⟨_, rfl, dX4_noted_11⟩ rfl ⟨(some h0), rfl⟩ ?_
    refine f_iload X hl ⟨_, rfl, dX4_noted_12⟩ rfl ?_
    refine f_callVi (rest := []) X Z hl.1 (c_X4_tell l G w h0 ta to sd pl y.2.2.2.2.1 (nI c) h1.1 y.2.2.2.2.2 (whyN y.2.2.1 i j) (whyN_lt _ _ _) h4.1) (cwV 1 X.2.2.2.2 gX4_noted_X4_tell rfl rfl rfl (by decide +kernel) ⟨(Nat.le_of_ble_eq_true rfl), (Nat.le_of_ble_eq_true rfl)⟩) rfl rfl dX4_noted_13 ⟨(Nat.le_of_ble_eq_true rfl), (Nat.le_of_ble_eq_true rfl)⟩ rfl (Nat.le_of_ble_eq_true rfl) h1.1 (fun r13 w3 H locs p13 Z => ?_)
    obtain ⟨hrT, hwT⟩ := p13
    refine lv_goto (tgt := 36) X.1 X.2.1 dX4_noted_16 (by decide) ?_
    exact f_iret X hr hlk Z (Nat.le_of_ble_eq_true rfl) (Nat.le_of_ble_eq_true rfl) dX4_noted_36 (out_tell hx Fr.rf hrT hwT (by unfold sp_noted; rw [if_pos (fun z => c8 (by rw [z]; rfl))]))
set_option maxHeartbeats 4000000 in
set_option maxRecDepth 100000 in
theorem c_X4_wide (l : Launch) (G : gT) (w : wT) (tg : tT) (h0 c nb : Nat) (y : Yd) (hR : RepC G tg w h0 c y) (hY : Yok nb y) (hn : nb ≤ 512) (i : Int32) : Met l yX4_wide wsX4_wide ({ frames := 1, cells := 0, slots := 0, locals := 21 }) (va_Pc [.ref h0, .int i] (wG G w)) (Qi G (OutC G tg w h0 c (sp_wide i y))) 0 0 (fr G) := by
  refine f_met (cc := cX4_wide) (maxL := 3) (ret := (some .int)) (by decide) rfl rfl (Nat.le_of_ble_eq_true rfl) ?_
  intro p e s m below meth cd X hr hlk hnm Z ls hl
  have X : CallFix p m cd cX4_wide 3 s [.ref h0, .int i].toArray wsX4_wide RX4 := X
  have hl : lV ls _ [some (.ref h0), some (.int i), none] := hl
  have i0 : ∀ w ∈ wsX00, w ∈ wsX4_wide := by decide +kernel
  have i4 : ∀ w ∈ wsX40, w ∈ wsX4_wide := by decide +kernel
  obtain ⟨ta, to, tf, tk, sd, pl, T, hx⟩ := id hR
  obtain ⟨h1, h2, h3, h4, h5, h6, h7, h8, h9⟩ := id hx
  refine f_aload (v := .ref h0) X hl ⟨_, rfl, dX4_wide_0⟩ rfl ⟨(some h0), rfl⟩ ?_
  refine f_iload X hl ⟨_, rfl, dX4_wide_1⟩ rfl ?_
  refine f_callVi (rest := []) X Z hl.1 (c_X4_whyNoPlanRow l G w h0 ta to sd pl y.2.2.2.2.1 (nI c) h1.1 y.2.2.1 i h9.opt) (cwV 1 X.2.2.2.2 gX4_wide_X4_whyNoPlanRow rfl rfl rfl (by decide +kernel) ⟨(Nat.le_of_ble_eq_true rfl), (Nat.le_of_ble_eq_true rfl)⟩) rfl rfl dX4_wide_2 ⟨(Nat.le_of_ble_eq_true rfl), (Nat.le_of_ble_eq_true rfl)⟩ rfl (Nat.le_of_ble_eq_true rfl) h1.1 (fun r2 w1 H locs p2 Z => ?_)
  obtain ⟨w1e, hr2⟩ := p2
  have w1e := w1e.symm
  subst w1e
  subst hr2
  refine f_istore X hl ⟨_, rfl, dX4_wide_5⟩ (by decide) (fun ls hl => ?_)
  have hl : lV ls _ [some (.ref h0), some (.int i), some (.int (nI (whyL y.2.2.1 i)))] := hl
  refine f_iload X hl ⟨_, rfl, dX4_wide_6⟩ rfl ?_
  refine lv_if_eq (tgt := 18) X.1 X.2.1 dX4_wide_7 (by decide) (fun c7 => ?_) (fun c7 => ?_)
  · have hz := (nI_z (whyL_lt _ _)).mp c7
    obtain ⟨r, kk, hop, hi⟩ := whyL_0 hz
    obtain ⟨pa, nu, f, hpl, hcP, hcN, hr12, hk12, hfN⟩ := h9.some hop
    subst hpl
    refine f_aload (v := .ref h0) X hl ⟨_, rfl, dX4_wide_18⟩ rfl ⟨(some h0), rfl⟩ ?_
    refine f_get (v := .ref pa) (k := 3) X Z i4 rfl (by decide) (by decide +kernel) dX4_wide_19 h1.1 rfl ?_
    refine f_get (v := .int (nI kk)) (k := 1) X Z i0 rfl (by decide) (by decide +kernel) dX4_wide_22 hcP rfl ?_
    exact f_iret X hr hlk Z (Nat.le_of_ble_eq_true rfl) (Nat.le_of_ble_eq_true rfl) dX4_wide_25 (out_same hR (by unfold sp_wide; rw [if_neg (fun z => z hz), hop]))
  · refine f_aload (v := .ref h0) X hl ⟨_, rfl, dX4_wide_10⟩ rfl ⟨(some h0), rfl⟩ ?_
    refine f_iload X hl ⟨_, rfl, dX4_wide_11⟩ rfl ?_
    refine f_callVi (rest := []) X Z hl.1 (c_X4_tell l G w h0 ta to sd pl y.2.2.2.2.1 (nI c) h1.1 y.2.2.2.2.2 (whyL y.2.2.1 i) (whyL_lt _ _) h4.1) (cwV 1 X.2.2.2.2 gX4_wide_X4_tell rfl rfl rfl (by decide +kernel) ⟨(Nat.le_of_ble_eq_true rfl), (Nat.le_of_ble_eq_true rfl)⟩) rfl rfl dX4_wide_12 ⟨(Nat.le_of_ble_eq_true rfl), (Nat.le_of_ble_eq_true rfl)⟩ rfl (Nat.le_of_ble_eq_true rfl) h1.1 (fun r12 w2 H locs p12 Z => ?_)
    obtain ⟨hrT, hwT⟩ := p12
    refine lv_goto (tgt := 25) X.1 X.2.1 dX4_wide_15 (by decide) ?_
    exact f_iret X hr hlk Z (Nat.le_of_ble_eq_true rfl) (Nat.le_of_ble_eq_true rfl) dX4_wide_25 (out_tell hx Fr.rf hrT hwT (by unfold sp_wide; rw [if_pos (fun z => c7 (by rw [z]; rfl))]))
set_option maxHeartbeats 4000000 in
set_option maxRecDepth 100000 in
theorem c_X4_away (l : Launch) (G : gT) (w : wT) (tg : tT) (h0 c nb : Nat) (y : Yd) (hR : RepC G tg w h0 c y) (hY : Yok nb y) (hn : nb ≤ 512) (x : Int32) : Met l yX4_away wsX4_away ({ frames := 0, cells := 0, slots := 0, locals := 0 }) (va_Pc [.ref h0, .int x] (wG G w)) (Qi G (OutC G tg w h0 c (sp_away x y))) 0 0 (fr G) := by
  refine f_met (cc := cX4_away) (maxL := 3) (ret := (some .int)) (by decide) rfl rfl (Nat.le_of_ble_eq_true rfl) ?_
  intro p e s m below meth cd X hr hlk hnm Z ls hl
  have X : CallFix p m cd cX4_away 3 s [.ref h0, .int x].toArray wsX4_away RX4 := X
  have hl : lV ls _ [some (.ref h0), some (.int x), none] := hl
  have i4 : ∀ w ∈ wsX40, w ∈ wsX4_away := by decide +kernel
  obtain ⟨ta, to, tf, tk, sd, pl, T, hx⟩ := id hR
  obtain ⟨h1, h2, h3, h4, h5, h6, h7, h8, h9⟩ := id hx
  refine f_iload X hl ⟨_, rfl, dX4_away_0⟩ rfl ?_
  refine lv_if_ne (tgt := 25) X.1 X.2.1 dX4_away_1 (by decide) (fun c1 => ?_) (fun c1 => ?_)
  · refine f_iload X hl ⟨_, rfl, dX4_away_25⟩ rfl ?_
    refine lv_iconst (v := 1) X.1 X.2.1 dX4_away_26 (by decide) ?_
    refine lv_icmp_ne (tgt := 51) X.1 X.2.1 dX4_away_27 (by decide) (fun c27 => ?_) (fun c27 => ?_)
    · refine lv_iconst (v := (-1)) X.1 X.2.1 dX4_away_51 (by decide) ?_
      exact f_iret X hr hlk Z (Nat.le_of_ble_eq_true rfl) (Nat.le_of_ble_eq_true rfl) dX4_away_52 (out_same hR (by unfold sp_away; rw [if_neg c1, if_neg c27]))
    · refine f_aload (v := .ref h0) X hl ⟨_, rfl, dX4_away_30⟩ rfl ⟨(some h0), rfl⟩ ?_
      refine f_get (v := va_rf pl) (k := 3) X Z i4 rfl (by decide) (by decide +kernel) dX4_away_31 h1.1 rfl ?_
      refine f_ifnull (tgt := 41) X dX4_away_34 (by decide) (fun c34 => ?_) (fun a34 c34 => ?_)
      · subst c34
        refine lv_iconst (v := 0) X.1 X.2.1 dX4_away_41 (by decide) ?_
        refine f_istore X hl ⟨_, rfl, dX4_away_42⟩ (by decide) (fun ls hl => ?_)
        have hl : lV ls _ [some (.ref h0), some (.int x), some (.int 0)] := hl
        refine f_aload (v := .ref h0) X hl ⟨_, rfl, dX4_away_43⟩ rfl ⟨(some h0), rfl⟩ ?_
        refine lv_null X.1 X.2.1 dX4_away_44 ?_
        refine f_put (v := .null) (ty0 := tyX4) (k := 3) X Z i4 tyX4_ok nmX4 rfl (by decide) (by decide +kernel) rfl dX4_away_45 h1.1 (nr_o _ none) (ft_o _ none) (Nat.le_of_ble_eq_true rfl) (fun H locs w1 e2 Z => ?_)
        have e2 : w1 = va_up w h0 (some (cTs (some ta) (some to) sd none y.2.2.2.2.1 (nI c))) := e2
        have k3 : w1 ta = some (aT G 6 tf) := by rw [e2]; exact lk_ne (ad_ne h2.1 h1.1 dx_io) h2.1
        have k4 : w1 to = some (aI G 8 y.2.2.2.2.2) := by rw [e2]; exact lk_ne (ad_ne h4.1 h1.1 dx_io) h4.1
        have k5 : w1 h0 = some (cTs (some ta) (some to) sd none y.2.2.2.2.1 (nI c)) := by rw [e2]; exact up_eq
        refine lv_goto (tgt := 53) X.1 X.2.1 dX4_away_48 (by decide) ?_
        refine f_iload X hl ⟨_, rfl, dX4_away_53⟩ rfl ?_
        refine lv_if_eq (tgt := 61) X.1 X.2.1 dX4_away_54 (by decide) (fun c54 => ?_) (fun c54 => ?_)
        · refine lv_iconst (v := 0) X.1 X.2.1 dX4_away_61 (by decide) ?_
          exact f_iret X hr hlk Z (Nat.le_of_ble_eq_true rfl) (Nat.le_of_ble_eq_true rfl) dX4_away_62 (out_of (hx.awayP e2) (by rw [e2]; exact Fr.rf.put h1.2 (by decide)) (by omega) (by unfold sp_away; rw [if_neg c1, if_pos c27, bI_f (c := y.2.2.1 ≠ none) (fun z => z h9.none)]))
        · exact absurd rfl c54
      · subst c34
        refine lv_iconst (v := 1) X.1 X.2.1 dX4_away_37 (by decide) ?_
        refine lv_goto (tgt := 42) X.1 X.2.1 dX4_away_38 (by decide) ?_
        refine f_istore X hl ⟨_, rfl, dX4_away_42⟩ (by decide) (fun ls hl => ?_)
        have hl : lV ls _ [some (.ref h0), some (.int x), some (.int 1)] := hl
        refine f_aload (v := .ref h0) X hl ⟨_, rfl, dX4_away_43⟩ rfl ⟨(some h0), rfl⟩ ?_
        refine lv_null X.1 X.2.1 dX4_away_44 ?_
        refine f_put (v := .null) (ty0 := tyX4) (k := 3) X Z i4 tyX4_ok nmX4 rfl (by decide) (by decide +kernel) rfl dX4_away_45 h1.1 (nr_o _ none) (ft_o _ none) (Nat.le_of_ble_eq_true rfl) (fun H locs w6 e7 Z => ?_)
        have e7 : w6 = va_up w h0 (some (cTs (some ta) (some to) sd none y.2.2.2.2.1 (nI c))) := e7
        have k8 : w6 ta = some (aT G 6 tf) := by rw [e7]; exact lk_ne (ad_ne h2.1 h1.1 dx_io) h2.1
        have k9 : w6 to = some (aI G 8 y.2.2.2.2.2) := by rw [e7]; exact lk_ne (ad_ne h4.1 h1.1 dx_io) h4.1
        have k10 : w6 h0 = some (cTs (some ta) (some to) sd none y.2.2.2.2.1 (nI c)) := by rw [e7]; exact up_eq
        refine lv_goto (tgt := 53) X.1 X.2.1 dX4_away_48 (by decide) ?_
        refine f_iload X hl ⟨_, rfl, dX4_away_53⟩ rfl ?_
        refine lv_if_eq (tgt := 61) X.1 X.2.1 dX4_away_54 (by decide) (fun c54 => ?_) (fun c54 => ?_)
        · exact absurd c54 (by decide)
        · refine lv_iconst (v := 1) X.1 X.2.1 dX4_away_57 (by decide) ?_
          refine lv_goto (tgt := 62) X.1 X.2.1 dX4_away_58 (by decide) ?_
          exact f_iret X hr hlk Z (Nat.le_of_ble_eq_true rfl) (Nat.le_of_ble_eq_true rfl) dX4_away_62 (out_of (hx.awayP e7) (by rw [e7]; exact Fr.rf.put h1.2 (by decide)) (by omega) (by unfold sp_away; rw [if_neg c1, if_pos c27, bI_t (c := y.2.2.1 ≠ none) (fun z => by obtain ⟨nu, r, kk, f, -, -, hop, -⟩ := popt_some h9.opt; rw [hop] at z; cases z)]))
  · refine f_aload (v := .ref h0) X hl ⟨_, rfl, dX4_away_4⟩ rfl ⟨(some h0), rfl⟩ ?_
    refine f_get (v := va_rf sd) (k := 2) X Z i4 rfl (by decide) (by decide +kernel) dX4_away_5 h1.1 rfl ?_
    refine f_ifnull (tgt := 15) X dX4_away_8 (by decide) (fun c8 => ?_) (fun a8 c8 => ?_)
    · subst c8
      refine lv_iconst (v := 0) X.1 X.2.1 dX4_away_15 (by decide) ?_
      refine f_istore X hl ⟨_, rfl, dX4_away_16⟩ (by decide) (fun ls hl => ?_)
      have hl : lV ls _ [some (.ref h0), some (.int x), some (.int 0)] := hl
      refine f_aload (v := .ref h0) X hl ⟨_, rfl, dX4_away_17⟩ rfl ⟨(some h0), rfl⟩ ?_
      refine lv_null X.1 X.2.1 dX4_away_18 ?_
      refine f_put (v := .null) (ty0 := tyX4) (k := 2) X Z i4 tyX4_ok nmX4 rfl (by decide) (by decide +kernel) rfl dX4_away_19 h1.1 (nr_o _ none) (ft_o _ none) (Nat.le_of_ble_eq_true rfl) (fun H locs w11 e12 Z => ?_)
      have e12 : w11 = va_up w h0 (some (cTs (some ta) (some to) none pl y.2.2.2.2.1 (nI c))) := e12
      have k13 : w11 ta = some (aT G 6 tf) := by rw [e12]; exact lk_ne (ad_ne h2.1 h1.1 dx_io) h2.1
      have k14 : w11 to = some (aI G 8 y.2.2.2.2.2) := by rw [e12]; exact lk_ne (ad_ne h4.1 h1.1 dx_io) h4.1
      have k15 : w11 h0 = some (cTs (some ta) (some to) none pl y.2.2.2.2.1 (nI c)) := by rw [e12]; exact up_eq
      refine lv_goto (tgt := 53) X.1 X.2.1 dX4_away_22 (by decide) ?_
      refine f_iload X hl ⟨_, rfl, dX4_away_53⟩ rfl ?_
      refine lv_if_eq (tgt := 61) X.1 X.2.1 dX4_away_54 (by decide) (fun c54 => ?_) (fun c54 => ?_)
      · refine lv_iconst (v := 0) X.1 X.2.1 dX4_away_61 (by decide) ?_
        exact f_iret X hr hlk Z (Nat.le_of_ble_eq_true rfl) (Nat.le_of_ble_eq_true rfl) dX4_away_62 (out_of (hx.awayS e12) (by rw [e12]; exact Fr.rf.put h1.2 (by decide)) (by omega) (by unfold sp_away; rw [if_pos c1, bI_f (c := y.2.1 ≠ none) (fun z => z h8.none)]))
      · exact absurd rfl c54
    · subst c8
      refine lv_iconst (v := 1) X.1 X.2.1 dX4_away_11 (by decide) ?_
      refine lv_goto (tgt := 16) X.1 X.2.1 dX4_away_12 (by decide) ?_
      refine f_istore X hl ⟨_, rfl, dX4_away_16⟩ (by decide) (fun ls hl => ?_)
      have hl : lV ls _ [some (.ref h0), some (.int x), some (.int 1)] := hl
      refine f_aload (v := .ref h0) X hl ⟨_, rfl, dX4_away_17⟩ rfl ⟨(some h0), rfl⟩ ?_
      refine lv_null X.1 X.2.1 dX4_away_18 ?_
      refine f_put (v := .null) (ty0 := tyX4) (k := 2) X Z i4 tyX4_ok nmX4 rfl (by decide) (by decide +kernel) rfl dX4_away_19 h1.1 (nr_o _ none) (ft_o _ none) (Nat.le_of_ble_eq_true rfl) (fun H locs w16 e17 Z => ?_)
      have e17 : w16 = va_up w h0 (some (cTs (some ta) (some to) none pl y.2.2.2.2.1 (nI c))) := e17
      have k18 : w16 ta = some (aT G 6 tf) := by rw [e17]; exact lk_ne (ad_ne h2.1 h1.1 dx_io) h2.1
      have k19 : w16 to = some (aI G 8 y.2.2.2.2.2) := by rw [e17]; exact lk_ne (ad_ne h4.1 h1.1 dx_io) h4.1
      have k20 : w16 h0 = some (cTs (some ta) (some to) none pl y.2.2.2.2.1 (nI c)) := by rw [e17]; exact up_eq
      refine lv_goto (tgt := 53) X.1 X.2.1 dX4_away_22 (by decide) ?_
      refine f_iload X hl ⟨_, rfl, dX4_away_53⟩ rfl ?_
      refine lv_if_eq (tgt := 61) X.1 X.2.1 dX4_away_54 (by decide) (fun c54 => ?_) (fun c54 => ?_)
      · exact absurd c54 (by decide)
      · refine lv_iconst (v := 1) X.1 X.2.1 dX4_away_57 (by decide) ?_
        refine lv_goto (tgt := 62) X.1 X.2.1 dX4_away_58 (by decide) ?_
        exact f_iret X hr hlk Z (Nat.le_of_ble_eq_true rfl) (Nat.le_of_ble_eq_true rfl) dX4_away_62 (out_of (hx.awayS e17) (by rw [e17]; exact Fr.rf.put h1.2 (by decide)) (by omega) (by unfold sp_away; rw [if_pos c1, bI_t (c := y.2.1 ≠ none) (fun z => by obtain ⟨pa, sn, sb, sf, -, -, hos, -⟩ := sopt_some h8.opt; rw [hos] at z; cases z)]))
end
section
theorem okB03 {x : Int32} (h : okB x 0 3) : x = 0 ∨ x = 1 ∨ x = 2 ∨ x = 3 := by
  obtain ⟨h1, h2⟩ := h
  rw [kc_0] at h1
  rw [kc_3] at h2
  rcases (show x.toInt = 0 ∨ x.toInt = 1 ∨ x.toInt = 2 ∨ x.toInt = 3 by omega) with z | z | z | z
  · exact Or.inl (Int32.toInt_inj.mp z)
  · exact Or.inr (Or.inl (Int32.toInt_inj.mp z))
  · exact Or.inr (Or.inr (Or.inl (Int32.toInt_inj.mp z)))
  · exact Or.inr (Or.inr (Or.inr (Int32.toInt_inj.mp z)))
def y0 : Yd := (fun _ => [], none, none, fun _ _ => 0, 0, fun _ => 0)
set_option maxHeartbeats 4000000 in
set_option maxRecDepth 100000 in
theorem c_X4_about (l : Launch) (G : gT) (w : wT) (tg : tT) (h0 c nb : Nat) (y : Yd) (hR : RepC G tg w h0 c y) (hY : Yok nb y) (hn : nb ≤ 512) (t k x : Int32) : Met l yX4_about wsX4_about ({ frames := 2, cells := 0, slots := 0, locals := 41 }) (va_Pc [.ref h0, .int t, .int k, .int x] (wG G w)) (Qi G (OutC G tg w h0 c (sp_about t k x y))) 0 0 (fr G) := by
  refine f_met (cc := cX4_about) (maxL := 5) (ret := (some .int)) (by decide) rfl rfl (Nat.le_of_ble_eq_true rfl) ?_
  intro p e s m below meth cd X hr hlk hnm Z ls hl
  have X : CallFix p m cd cX4_about 5 s [.ref h0, .int t, .int k, .int x].toArray wsX4_about RX4 := X
  have hl : lV ls _ [some (.ref h0), some (.int t), some (.int k), some (.int x), none] := hl
  have i3 : ∀ w ∈ wsX30, w ∈ wsX4_about := by decide +kernel
  have i4 : ∀ w ∈ wsX40, w ∈ wsX4_about := by decide +kernel
  obtain ⟨ta, to, tf, tk, sd, pl, T, hx⟩ := id hR
  obtain ⟨h1, h2, h3, h4, h5, h6, h7, h8, h9⟩ := id hx
  refine f_iload X hl ⟨_, rfl, dX4_about_0⟩ rfl ?_
  refine f_iload X hl ⟨_, rfl, dX4_about_1⟩ rfl ?_
  refine f_callSi (rest := []) X Z hl.1 (c_X4_isPosition l G _ _ _) (va_cwS 2 X.2.2.2.2 gX4_about_X4_isPosition rfl rfl rfl (by decide +kernel) ⟨(Nat.le_of_ble_eq_true rfl), (Nat.le_of_ble_eq_true rfl)⟩) rfl dX4_about_2 ⟨(Nat.le_of_ble_eq_true rfl), (Nat.le_of_ble_eq_true rfl)⟩ rfl (Nat.le_of_ble_eq_true rfl) (fun r2 w1 H locs p2 Z => ?_)
  obtain ⟨w1e, hr2⟩ := p2
  have w1e := w1e.symm
  subst w1e
  refine lv_if_eq (tgt := 17) X.1 X.2.1 dX4_about_5 (by decide) (fun c5 => ?_) (fun c5 => ?_)
  · rw [hr2, bI_0] at c5
    refine lv_iconst (v := (-1)) X.1 X.2.1 dX4_about_17 (by decide) ?_
    exact f_iret X hr hlk Z (Nat.le_of_ble_eq_true rfl) (Nat.le_of_ble_eq_true rfl) dX4_about_18 (out_same hR (if_neg (fun h => c5 h.1)))
  · rw [hr2, bI_0, Classical.not_not] at c5
    refine f_iload X hl ⟨_, rfl, dX4_about_8⟩ rfl ?_
    refine lv_iconst (v := 0) X.1 X.2.1 dX4_about_9 (by decide) ?_
    refine lv_iconst (v := 3) X.1 X.2.1 dX4_about_10 (by decide) ?_
    refine f_callSi (rest := []) X Z hl.1 (c_X4_isWithin l G _ _ _ _) (va_cwS 3 X.2.2.2.2 gX4_about_X4_isWithin rfl rfl rfl (by decide +kernel) ⟨(Nat.le_of_ble_eq_true rfl), (Nat.le_of_ble_eq_true rfl)⟩) rfl dX4_about_11 ⟨(Nat.le_of_ble_eq_true rfl), (Nat.le_of_ble_eq_true rfl)⟩ rfl (Nat.le_of_ble_eq_true rfl) (fun r11 w2 H locs p11 Z => ?_)
    obtain ⟨w2e, hr11⟩ := p11
    have w2e := w2e.symm
    subst w2e
    refine lv_if_ne (tgt := 19) X.1 X.2.1 dX4_about_14 (by decide) (fun c14 => ?_) (fun c14 => ?_)
    · rw [hr11, bI_0, Classical.not_not] at c14
      obtain ⟨j, hjt_j⟩ : ∃ j, t.toNatClampNeg = j := ⟨_, rfl⟩
      have hj_j : j < 6 := hjt_j ▸ tn_lt c5.1
      have hin_j : vp_in t 6 := vp_in_iff.mpr c5.1
      refine f_aload (v := .ref h0) X hl ⟨_, rfl, dX4_about_19⟩ rfl ⟨(some h0), rfl⟩ ?_
      refine f_get (v := .ref ta) (k := 0) X Z i4 rfl (by decide) (by decide +kernel) dX4_about_20 h1.1 rfl ?_
      refine f_iload X hl ⟨_, rfl, dX4_about_23⟩ rfl ?_
      refine f_tald X Z dX4_about_24 h2.1 hin_j ?_
      rw [hjt_j, h3 j hj_j]
      refine f_iload X hl ⟨_, rfl, dX4_about_25⟩ rfl ?_
      refine f_callVq (rest := []) X Z hl.1 (c_X2_vehicleAt l G w (tk j) (T j) k (hx.trk hY hn hj_j)) (cwV 1 X.2.2.2.2 gX4_about_X2_vehicleAt rfl rfl rfl (by decide +kernel) ⟨(Nat.le_of_ble_eq_true rfl), (Nat.le_of_ble_eq_true rfl)⟩) rfl rfl dX4_about_26 ⟨(Nat.le_of_ble_eq_true rfl), (Nat.le_of_ble_eq_true rfl)⟩ rfl (Nat.le_of_ble_eq_true rfl) (h5 j hj_j).1 (fun r26 w3 H locs p26 Z => ?_)
      obtain ⟨w3e, hr26⟩ := p26
      have w3e := w3e.symm
      subst w3e
      rw [vix_pos c5.2] at hr26
      have hv : vopt G w r26 ((y.1 j)[k.toNatClampNeg]?) := by rw [hr26]; exact hx.vopt j _
      refine f_astore2 X hl dX4_about_29 (by decide) ⟨r26, rfl⟩ (fun ls hl => ?_)
      have hl : lV ls _ [some (.ref h0), some (.int t), some (.int k), some (.int x), some (va_rf r26)] := hl
      refine f_aload2 (v := va_rf r26) X hl dX4_about_31 rfl ⟨r26, rfl⟩ ?_
      refine f_ifnonnull (tgt := 38) X dX4_about_33 (by decide) (fun a33 c33 => ?_) (fun c33 => ?_)
      · subst c33
        obtain ⟨d, hd1⟩ := mf hr26
        obtain ⟨gA, ro, hcA, hro, hrt⟩ := h6.1 j _ a33 d hd1
        have hya : (y.1 j)[k.toNatClampNeg]? = some d := by rw [hx.at]; exact map_snd hd1
        refine f_iload X hl ⟨_, rfl, dX4_about_38⟩ rfl ?_
        rcases okB03 c14 with rfl | rfl | rfl | rfl
        · refine lv_tableIn (tgt := 64) X.1 X.2.1 dX4_about_39 (by decide) (by decide) rfl (by decide) ?_
          refine f_aload2 (v := .ref a33) X hl dX4_about_64 rfl ⟨(some a33), rfl⟩ ?_
          refine f_get (v := .int d.1) (k := 0) X Z i3 rfl (by decide) (by decide +kernel) dX4_about_66 hcA rfl ?_
          exact f_iret X hr hlk Z (Nat.le_of_ble_eq_true rfl) (Nat.le_of_ble_eq_true rfl) dX4_about_69 (out_same hR (by unfold sp_about yat tn; rw [if_pos ⟨c5, c14⟩, hjt_j, hya]; rfl))
        · refine lv_tableIn (tgt := 70) X.1 X.2.1 dX4_about_39 (by decide) (by decide) rfl (by decide) ?_
          refine f_aload2 (v := .ref a33) X hl dX4_about_70 rfl ⟨(some a33), rfl⟩ ?_
          refine f_get (v := .int d.2.1) (k := 1) X Z i3 rfl (by decide) (by decide +kernel) dX4_about_72 hcA rfl ?_
          exact f_iret X hr hlk Z (Nat.le_of_ble_eq_true rfl) (Nat.le_of_ble_eq_true rfl) dX4_about_75 (out_same hR (by unfold sp_about yat tn; rw [if_pos ⟨c5, c14⟩, hjt_j, hya]; rfl))
        · refine lv_tableIn (tgt := 76) X.1 X.2.1 dX4_about_39 (by decide) (by decide) rfl (by decide) ?_
          refine f_aload2 (v := .ref a33) X hl dX4_about_76 rfl ⟨(some a33), rfl⟩ ?_
          refine f_get (v := .int d.2.2.1) (k := 2) X Z i3 rfl (by decide) (by decide +kernel) dX4_about_78 hcA rfl ?_
          exact f_iret X hr hlk Z (Nat.le_of_ble_eq_true rfl) (Nat.le_of_ble_eq_true rfl) dX4_about_81 (out_same hR (by unfold sp_about yat tn; rw [if_pos ⟨c5, c14⟩, hjt_j, hya]; rfl))
        · refine lv_tableOut (tgt := 82) X.1 X.2.1 dX4_about_39 (Or.inr (by decide)) (by decide) ?_
          refine f_aload2 (v := .ref a33) X hl dX4_about_82 rfl ⟨(some a33), rfl⟩ ?_
          refine f_get (v := va_rf ro) (k := 3) X Z i3 rfl (by decide) (by decide +kernel) dX4_about_84 hcA rfl ?_
          refine f_ifnonnull (tgt := 94) X dX4_about_87 (by decide) (fun a87 c87 => ?_) (fun c87 => ?_)
          · subst c87
            obtain ⟨rn, rf, hcr, hr12, hcR⟩ := rowAt_some hro
            refine f_aload2 (v := .ref a33) X hl dX4_about_94 rfl ⟨(some a33), rfl⟩ ?_
            refine f_get (v := .ref a87) (k := 3) X Z i3 rfl (by decide) (by decide +kernel) dX4_about_96 hcA rfl ?_
            refine f_alenI X Z dX4_about_99 hcR ?_
            exact f_iret X hr hlk Z (Nat.le_of_ble_eq_true rfl) (Nat.le_of_ble_eq_true rfl) dX4_about_100 (out_same hR (by unfold sp_about yat tn; rw [if_pos ⟨c5, c14⟩, hjt_j, hya]; simp only [hcr]; rfl))
          · subst c87
            have hcr := rowAt_none hro
            refine lv_iconst (v := 0) X.1 X.2.1 dX4_about_90 (by decide) ?_
            refine lv_goto (tgt := 100) X.1 X.2.1 dX4_about_91 (by decide) ?_
            exact f_iret X hr hlk Z (Nat.le_of_ble_eq_true rfl) (Nat.le_of_ble_eq_true rfl) dX4_about_100 (out_same hR (by unfold sp_about yat tn; rw [if_pos ⟨c5, c14⟩, hjt_j, hya]; simp only [hcr]; rfl))
      · subst c33
        have hya : (y.1 j)[k.toNatClampNeg]? = none := vopt_none hv
        refine lv_iconst (v := 0) X.1 X.2.1 dX4_about_36 (by decide) ?_
        exact f_iret X hr hlk Z (Nat.le_of_ble_eq_true rfl) (Nat.le_of_ble_eq_true rfl) dX4_about_37 (out_same hR (by unfold sp_about yat tn; rw [if_pos ⟨c5, c14⟩, hjt_j, hya]))
    · rw [hr11, bI_0] at c14
      refine lv_iconst (v := (-1)) X.1 X.2.1 dX4_about_17 (by decide) ?_
      exact f_iret X hr hlk Z (Nat.le_of_ble_eq_true rfl) (Nat.le_of_ble_eq_true rfl) dX4_about_18 (out_same hR (if_neg (fun h => c14 h.2)))
set_option maxHeartbeats 4000000 in
set_option maxRecDepth 100000 in
theorem c_X4_fetch (l : Launch) (G : gT) (w : wT) (tg : tT) (h0 c nb : Nat) (y : Yd) (hR : RepC G tg w h0 c y) (hY : Yok nb y) (hn : nb ≤ 512) (p0 t : Int32) : Met l yX4_fetch wsX4_fetch ({ frames := 1, cells := 0, slots := 0, locals := 21 }) (va_Pc [.ref h0, .int p0, .int t] (wG G w)) (Qi G (OutC G tg w h0 c (sp_fetch p0 t y))) 0 0 (fr G) := by
  refine f_met (cc := cX4_fetch) (maxL := 5) (ret := (some .int)) (by decide) rfl rfl (Nat.le_of_ble_eq_true rfl) ?_
  intro p e s m below meth cd X hr hlk hnm Z ls hl
  have X : CallFix p m cd cX4_fetch 5 s [.ref h0, .int p0, .int t].toArray wsX4_fetch RX4 := X
  have hl : lV ls _ [some (.ref h0), some (.int p0), some (.int t), none, none] := hl
  have i1 : ∀ w ∈ wsX10, w ∈ wsX4_fetch := by decide +kernel
  have i2 : ∀ w ∈ wsX20, w ∈ wsX4_fetch := by decide +kernel
  have i4 : ∀ w ∈ wsX40, w ∈ wsX4_fetch := by decide +kernel
  obtain ⟨ta, to, tf, tk, sd, pl, T, hx⟩ := id hR
  obtain ⟨h1, h2, h3, h4, h5, h6, h7, h8, h9⟩ := id hx
  refine f_iload X hl ⟨_, rfl, dX4_fetch_0⟩ rfl ?_
  refine f_callSi (rest := []) X Z hl.1 (c_X4_isTrack l G _ _) (va_cwS 1 X.2.2.2.2 gX4_fetch_X4_isTrack rfl rfl rfl (by decide +kernel) ⟨(Nat.le_of_ble_eq_true rfl), (Nat.le_of_ble_eq_true rfl)⟩) rfl dX4_fetch_1 ⟨(Nat.le_of_ble_eq_true rfl), (Nat.le_of_ble_eq_true rfl)⟩ rfl (Nat.le_of_ble_eq_true rfl) (fun r1 w1 H locs p1 Z => ?_)
  obtain ⟨w1e, hr1⟩ := p1
  have w1e := w1e.symm
  subst w1e
  refine lv_if_ne (tgt := 9) X.1 X.2.1 dX4_fetch_4 (by decide) (fun c4 => ?_) (fun c4 => ?_)
  · rw [hr1, bI_0, Classical.not_not] at c4
    obtain ⟨j, hjt_j⟩ : ∃ j, t.toNatClampNeg = j := ⟨_, rfl⟩
    have hj_j : j < 6 := hjt_j ▸ tn_lt c4
    have hin_j : vp_in t 6 := vp_in_iff.mpr c4
    refine f_aload (v := .ref h0) X hl ⟨_, rfl, dX4_fetch_9⟩ rfl ⟨(some h0), rfl⟩ ?_
    refine f_iload X hl ⟨_, rfl, dX4_fetch_10⟩ rfl ?_
    refine f_callVi (rest := []) X Z hl.1 (c_X4_whyNoPlace l G w h0 ta to sd pl y.2.2.2.2.1 (nI c) h1.1 y.2.1 p0 h8.opt) (cwV 1 X.2.2.2.2 gX4_fetch_X4_whyNoPlace rfl rfl rfl (by decide +kernel) ⟨(Nat.le_of_ble_eq_true rfl), (Nat.le_of_ble_eq_true rfl)⟩) rfl rfl dX4_fetch_11 ⟨(Nat.le_of_ble_eq_true rfl), (Nat.le_of_ble_eq_true rfl)⟩ rfl (Nat.le_of_ble_eq_true rfl) h1.1 (fun r11 w2 H locs p11 Z => ?_)
    obtain ⟨w2e, hr11⟩ := p11
    have w2e := w2e.symm
    subst w2e
    subst hr11
    refine f_istore X hl ⟨_, rfl, dX4_fetch_14⟩ (by decide) (fun ls hl => ?_)
    have hl : lV ls _ [some (.ref h0), some (.int p0), some (.int t), some (.int (nI (whyP y.2.1 p0))), none] := hl
    refine f_iload X hl ⟨_, rfl, dX4_fetch_15⟩ rfl ?_
    refine lv_if_eq (tgt := 25) X.1 X.2.1 dX4_fetch_16 (by decide) (fun c16 => ?_) (fun c16 => ?_)
    · have hz := (nI_z (whyP_lt _ _)).mp c16
      obtain ⟨sn, sb, hos, hp0, hp1⟩ := whyP_0 hz
      obtain ⟨sa, pa, sf, hsd, hcS, hcF, hs12, hfp⟩ := h8.some hos
      subst hsd
      obtain ⟨pn, hpt⟩ : ∃ pn, p0.toNatClampNeg = pn := ⟨_, rfl⟩
      have hpn : pn < sn := hpt ▸ tn_lt ⟨hp0, hp1⟩
      refine f_aload (v := .ref h0) X hl ⟨_, rfl, dX4_fetch_25⟩ rfl ⟨(some h0), rfl⟩ ?_
      refine f_get (v := .ref sa) (k := 2) X Z i4 rfl (by decide) (by decide +kernel) dX4_fetch_26 h1.1 rfl ?_
      refine f_get (v := .ref pa) (k := 0) X Z i1 rfl (by decide) (by decide +kernel) dX4_fetch_29 hcS rfl ?_
      refine f_iload X hl ⟨_, rfl, dX4_fetch_32⟩ rfl ?_
      refine f_vald X Z dX4_fetch_33 hcF.1 (vp_in_iff.mpr ⟨hp0, hp1⟩) ?_
      rw [hpt, hfp pn hpn]
      rcases hTp : T (6 + pn) with _ | ⟨⟨a, d⟩, L⟩
      · have hyp : y.1 (6 + pn) = [] := by rw [← h7, hTp]; rfl
        refine f_astore2 X hl dX4_fetch_34 (by decide) ⟨none, rfl⟩ (fun ls hl => ?_)
        have hl : lV ls _ [some (.ref h0), some (.int p0), some (.int t), some (.int (nI (whyP y.2.1 p0))), some (.null)] := hl
        refine f_aload2 (v := .null) X hl dX4_fetch_36 rfl ⟨none, rfl⟩ ?_
        refine lv_ifnonnullN X.1 X.2.1 dX4_fetch_38 ?_
        refine f_aload (v := .ref h0) X hl ⟨_, rfl, dX4_fetch_41⟩ rfl ⟨(some h0), rfl⟩ ?_
        refine lv_iconst (v := 1) X.1 X.2.1 dX4_fetch_42 (by decide) ?_
        refine f_callVi (rest := []) X Z hl.1 (c_X4_tell l G w h0 ta to (some sa) pl y.2.2.2.2.1 (nI c) h1.1 y.2.2.2.2.2 1 (by decide) h4.1) (cwV 1 X.2.2.2.2 gX4_fetch_X4_tell rfl rfl rfl (by decide +kernel) ⟨(Nat.le_of_ble_eq_true rfl), (Nat.le_of_ble_eq_true rfl)⟩) rfl rfl dX4_fetch_43 ⟨(Nat.le_of_ble_eq_true rfl), (Nat.le_of_ble_eq_true rfl)⟩ rfl (Nat.le_of_ble_eq_true rfl) h1.1 (fun r43 w3 H locs p43 Z => ?_)
        obtain ⟨hrT, hwT⟩ := p43
        exact f_iret X hr hlk Z (Nat.le_of_ble_eq_true rfl) (Nat.le_of_ble_eq_true rfl) dX4_fetch_46 (out_tell hx Fr.rf hrT hwT (by unfold sp_fetch tn; rw [if_pos c4, if_neg (fun z => z hz), hpt, hyp]))
      · have hd1 : (T (6 + pn))[0]? = some (a, d) := by rw [hTp]; rfl
        have hyp : y.1 (6 + pn) = d :: L.map Prod.snd := by rw [← h7, hTp]; rfl
        obtain ⟨gA, ro, hcA, hro, hrt⟩ := h6.1 (6 + pn) _ a d hd1
        refine f_astore2 X hl dX4_fetch_34 (by decide) ⟨(some a), rfl⟩ (fun ls hl => ?_)
        have hl : lV ls _ [some (.ref h0), some (.int p0), some (.int t), some (.int (nI (whyP y.2.1 p0))), some (.ref a)] := hl
        refine f_aload2 (v := .ref a) X hl dX4_fetch_36 rfl ⟨(some a), rfl⟩ ?_
        refine lv_ifnonnull (tgt := 47) X.1 X.2.1 dX4_fetch_38 (by decide) ?_
        refine f_aload (v := .ref h0) X hl ⟨_, rfl, dX4_fetch_47⟩ rfl ⟨(some h0), rfl⟩ ?_
        refine f_get (v := .ref sa) (k := 2) X Z i4 rfl (by decide) (by decide +kernel) dX4_fetch_48 h1.1 rfl ?_
        refine f_get (v := .ref pa) (k := 0) X Z i1 rfl (by decide) (by decide +kernel) dX4_fetch_51 hcS rfl ?_
        refine f_iload X hl ⟨_, rfl, dX4_fetch_54⟩ rfl ?_
        refine lv_null X.1 X.2.1 dX4_fetch_55 ?_
        refine f_aastN (ti := 3) X Z rfl dX4_fetch_56 hcF.1 (vp_in_iff.mpr ⟨hp0, hp1⟩) (fun H locs w4 e5 Z => ?_)
        have e5 : w4 = va_up w pa (some (aV G sn (va_up sf p0.toNatClampNeg none))) := e5
        have k6 : w4 h0 = some (cTs (some ta) (some to) (some sa) pl y.2.2.2.2.1 (nI c)) := by rw [e5]; exact lk_ne (ad_ne h1.1 hcF.1 dx_oi) h1.1
        have k7 : w4 ta = some (aT G 6 tf) := by rw [e5]; exact lk_ne (tgne h2.2 hcF.2 (by simp)) h2.1
        have k8 : w4 to = some (aI G 8 y.2.2.2.2.2) := by rw [e5]; exact lk_ne (ad_ne h4.1 hcF.1 dx_ir) h4.1
        have k9 : w4 (tk j) = some (cTrk (hd (T j)) (nI (T j).length)) := by rw [e5]; exact lk_ne (ad_ne (h5 j hj_j).1 hcF.1 dx_oi) (h5 j hj_j).1
        have k10 : w4 sa = some (cSid (some pa) sb) := by rw [e5]; exact lk_ne (ad_ne hcS hcF.1 dx_oi) hcS
        have k11 : w4 a = some (cVeh d.1 d.2.1 d.2.2.1 ro (nx (T (6 + pn)) 0)) := by rw [e5]; exact lk_ne (ad_ne hcA hcF.1 dx_oi) hcA
        have k12 : w4 pa = some (aV G sn (va_up sf p0.toNatClampNeg none)) := by rw [e5]; exact up_eq
        refine f_aload (v := .ref h0) X hl ⟨_, rfl, dX4_fetch_57⟩ rfl ⟨(some h0), rfl⟩ ?_
        refine f_get (v := .ref ta) (k := 0) X Z i4 rfl (by decide) (by decide +kernel) dX4_fetch_58 k6 rfl ?_
        refine f_iload X hl ⟨_, rfl, dX4_fetch_61⟩ rfl ?_
        refine f_tald X Z dX4_fetch_62 k7 hin_j ?_
        rw [hjt_j, h3 j hj_j]
        refine f_aload2 (v := .ref a) X hl dX4_fetch_63 rfl ⟨(some a), rfl⟩ ?_
        refine f_callVv (rest := []) X Z hl.1 (c_X2_putAhead l G w4 (tk j) a (hd (T j)) (nI (T j).length) d.1 d.2.1 d.2.2.1 ro (nx (T (6 + pn)) 0) k9 k11) (cwV 1 X.2.2.2.2 gX4_fetch_X2_putAhead rfl rfl rfl (by decide +kernel) ⟨(Nat.le_of_ble_eq_true rfl), (Nat.le_of_ble_eq_true rfl)⟩) rfl rfl dX4_fetch_65 ⟨(Nat.le_of_ble_eq_true rfl), (Nat.le_of_ble_eq_true rfl)⟩ rfl (Nat.le_of_ble_eq_true rfl) k9 (fun w13 H locs p65 Z => ?_)
        have hwP := p65
        have k14 : w13 h0 = some (cTs (some ta) (some to) (some sa) pl y.2.2.2.2.1 (nI c)) := by rw [hwP, up_ne (ad_ne k6 k9 (dx_oo (by decide))), up_ne (ad_ne k6 k11 (dx_oo (by decide)))]; exact k6
        have k15 : w13 ta = some (aT G 6 tf) := by rw [hwP, up_ne (ad_ne k7 k9 dx_io), up_ne (ad_ne k7 k11 dx_io)]; exact k7
        have k16 : w13 to = some (aI G 8 y.2.2.2.2.2) := by rw [hwP, up_ne (ad_ne k8 k9 dx_io), up_ne (ad_ne k8 k11 dx_io)]; exact k8
        have k17 : w13 sa = some (cSid (some pa) sb) := by rw [hwP, up_ne (ad_ne k10 k9 (dx_oo (by decide))), up_ne (ad_ne k10 k11 (dx_oo (by decide)))]; exact k10
        have k18 : w13 pa = some (aV G sn (va_up sf p0.toNatClampNeg none)) := by rw [hwP, up_ne (ad_ne k12 k9 dx_io), up_ne (ad_ne k12 k11 dx_io)]; exact k12
        have k19 : w13 (tk j) = some (cTrk (some a) (nI (T j).length + 1)) := by rw [hwP]; exact up_eq
        have k20 : w13 a = some (cVeh d.1 d.2.1 d.2.2.1 ro (hd (T j))) := by rw [hwP, up_ne (ad_ne k11 k9 (dx_oo (by decide)))]; exact up_eq
        refine f_aload (v := .ref h0) X hl ⟨_, rfl, dX4_fetch_68⟩ rfl ⟨(some h0), rfl⟩ ?_
        refine f_get (v := .ref ta) (k := 0) X Z i4 rfl (by decide) (by decide +kernel) dX4_fetch_69 k14 rfl ?_
        refine f_iload X hl ⟨_, rfl, dX4_fetch_72⟩ rfl ?_
        refine f_tald X Z dX4_fetch_73 k15 hin_j ?_
        rw [hjt_j, h3 j hj_j]
        refine f_get (v := .int (nI (T j).length + 1)) (k := 1) X Z i2 rfl (by decide) (by decide +kernel) dX4_fetch_74 k19 rfl ?_
        exact f_iret X hr hlk Z (Nat.le_of_ble_eq_true rfl) (Nat.le_of_ble_eq_true rfl) dX4_fetch_77 (out_of (hx.fetch hj_j hTp hos rfl hcS hcF.1 hpn (fun ro1 bh1 z => by rw [← (cVeh_inj (hcA.symm.trans z)).1]; exact k20) k19 (by rw [← hpt]; exact k18) (fun b n1 n2 n3 => by rw [hwP, e5, up_ne n2, up_ne n1, up_ne n3])) (by rw [hwP, e5]; exact ((Fr.rf.put hcF.2 (by decide)).put gA (by decide)).put (h5 j hj_j).2 (by simp)) (by omega) (by unfold sp_fetch tn; rw [if_pos c4, if_neg (fun z => z hz), hpt, hyp, hjt_j, nI_1, hx.len j]))
    · refine f_aload (v := .ref h0) X hl ⟨_, rfl, dX4_fetch_19⟩ rfl ⟨(some h0), rfl⟩ ?_
      refine f_iload X hl ⟨_, rfl, dX4_fetch_20⟩ rfl ?_
      refine f_callVi (rest := []) X Z hl.1 (c_X4_tell l G w h0 ta to sd pl y.2.2.2.2.1 (nI c) h1.1 y.2.2.2.2.2 (whyP y.2.1 p0) (whyP_lt _ _) h4.1) (cwV 1 X.2.2.2.2 gX4_fetch_X4_tell rfl rfl rfl (by decide +kernel) ⟨(Nat.le_of_ble_eq_true rfl), (Nat.le_of_ble_eq_true rfl)⟩) rfl rfl dX4_fetch_21 ⟨(Nat.le_of_ble_eq_true rfl), (Nat.le_of_ble_eq_true rfl)⟩ rfl (Nat.le_of_ble_eq_true rfl) h1.1 (fun r21 w21 H locs p21 Z => ?_)
      obtain ⟨hrT, hwT⟩ := p21
      exact f_iret X hr hlk Z (Nat.le_of_ble_eq_true rfl) (Nat.le_of_ble_eq_true rfl) dX4_fetch_24 (out_tell hx Fr.rf hrT hwT (by unfold sp_fetch; rw [if_pos c4, if_pos (fun z => c16 (by rw [z]; rfl))]))
  · rw [hr1, bI_0] at c4
    refine lv_iconst (v := (-1)) X.1 X.2.1 dX4_fetch_7 (by decide) ?_
    exact f_iret X hr hlk Z (Nat.le_of_ble_eq_true rfl) (Nat.le_of_ble_eq_true rfl) dX4_fetch_8 (out_same hR (if_neg c4))
set_option maxHeartbeats 4000000 in
set_option maxRecDepth 100000 in
theorem c_X4_stow (l : Launch) (G : gT) (w : wT) (tg : tT) (h0 c nb : Nat) (y : Yd) (hR : RepC G tg w h0 c y) (hY : Yok nb y) (hn : nb ≤ 512) (p0 t : Int32) : Met l yX4_stow wsX4_stow ({ frames := 1, cells := 0, slots := 0, locals := 21 }) (va_Pc [.ref h0, .int p0, .int t] (wG G w)) (Qi G (OutC G tg w h0 c (sp_stow p0 t y))) 0 0 (fr G) := by
  refine f_met (cc := cX4_stow) (maxL := 5) (ret := (some .int)) (by decide) rfl rfl (Nat.le_of_ble_eq_true rfl) ?_
  intro p e s m below meth cd X hr hlk hnm Z ls hl
  have X : CallFix p m cd cX4_stow 5 s [.ref h0, .int p0, .int t].toArray wsX4_stow RX4 := X
  have hl : lV ls _ [some (.ref h0), some (.int p0), some (.int t), none, none] := hl
  have i1 : ∀ w ∈ wsX10, w ∈ wsX4_stow := by decide +kernel
  have i2 : ∀ w ∈ wsX20, w ∈ wsX4_stow := by decide +kernel
  have i4 : ∀ w ∈ wsX40, w ∈ wsX4_stow := by decide +kernel
  obtain ⟨ta, to, tf, tk, sd, pl, T, hx⟩ := id hR
  obtain ⟨h1, h2, h3, h4, h5, h6, h7, h8, h9⟩ := id hx
  refine f_iload X hl ⟨_, rfl, dX4_stow_0⟩ rfl ?_
  refine f_callSi (rest := []) X Z hl.1 (c_X4_isTrack l G _ _) (va_cwS 1 X.2.2.2.2 gX4_stow_X4_isTrack rfl rfl rfl (by decide +kernel) ⟨(Nat.le_of_ble_eq_true rfl), (Nat.le_of_ble_eq_true rfl)⟩) rfl dX4_stow_1 ⟨(Nat.le_of_ble_eq_true rfl), (Nat.le_of_ble_eq_true rfl)⟩ rfl (Nat.le_of_ble_eq_true rfl) (fun r1 w1 H locs p1 Z => ?_)
  obtain ⟨w1e, hr1⟩ := p1
  have w1e := w1e.symm
  subst w1e
  refine lv_if_ne (tgt := 9) X.1 X.2.1 dX4_stow_4 (by decide) (fun c4 => ?_) (fun c4 => ?_)
  · rw [hr1, bI_0, Classical.not_not] at c4
    obtain ⟨j, hjt_j⟩ : ∃ j, t.toNatClampNeg = j := ⟨_, rfl⟩
    have hj_j : j < 6 := hjt_j ▸ tn_lt c4
    have hin_j : vp_in t 6 := vp_in_iff.mpr c4
    refine f_aload (v := .ref h0) X hl ⟨_, rfl, dX4_stow_9⟩ rfl ⟨(some h0), rfl⟩ ?_
    refine f_get (v := .ref ta) (k := 0) X Z i4 rfl (by decide) (by decide +kernel) dX4_stow_10 h1.1 rfl ?_
    refine f_iload X hl ⟨_, rfl, dX4_stow_13⟩ rfl ?_
    refine f_tald X Z dX4_stow_14 h2.1 hin_j ?_
    rw [hjt_j, h3 j hj_j]
    rcases hTj : T j with _ | ⟨⟨a, d⟩, L⟩
    · have hcl : w (tk j) = some (cTrk none (nI 0)) := by have q := (h5 j hj_j).1; rw [hTj] at q; exact q
      have hyj : y.1 j = [] := by rw [← h7 j, hTj]; rfl
      refine f_get (v := .null) (k := 0) X Z i2 rfl (by decide) (by decide +kernel) dX4_stow_15 hcl rfl ?_
      refine f_astore X hl ⟨_, rfl, dX4_stow_18⟩ (by decide) ⟨none, rfl⟩ (fun ls hl => ?_)
      have hl : lV ls _ [some (.ref h0), some (.int p0), some (.int t), some (.null), none] := hl
      refine f_aload (v := .null) X hl ⟨_, rfl, dX4_stow_19⟩ rfl ⟨none, rfl⟩ ?_
      refine f_callSi (rest := []) X Z hl.1 (c_X4_isEngine2 l G w none none (Or.inl ⟨rfl, rfl⟩)) (va_cwS 1 X.2.2.2.2 gX4_stow_X4_isEngine rfl rfl rfl (by decide +kernel) ⟨(Nat.le_of_ble_eq_true rfl), (Nat.le_of_ble_eq_true rfl)⟩) rfl dX4_stow_20 ⟨(Nat.le_of_ble_eq_true rfl), (Nat.le_of_ble_eq_true rfl)⟩ rfl (Nat.le_of_ble_eq_true rfl) (fun r20 w2 H locs p20 Z => ?_)
      obtain ⟨w2e, hr20⟩ := p20
      have w2e := w2e.symm
      subst w2e
      refine lv_if_eq (tgt := 32) X.1 X.2.1 dX4_stow_23 (by decide) (fun c23 => ?_) (fun c23 => ?_)
      · rw [hr20, bI_0] at c23
        refine f_aload (v := .ref h0) X hl ⟨_, rfl, dX4_stow_32⟩ rfl ⟨(some h0), rfl⟩ ?_
        refine f_iload X hl ⟨_, rfl, dX4_stow_33⟩ rfl ?_
        refine f_callVi (rest := []) X Z hl.1 (c_X4_whyNoPlace l G w h0 ta to sd pl y.2.2.2.2.1 (nI c) h1.1 y.2.1 p0 h8.opt) (cwV 1 X.2.2.2.2 gX4_stow_X4_whyNoPlace rfl rfl rfl (by decide +kernel) ⟨(Nat.le_of_ble_eq_true rfl), (Nat.le_of_ble_eq_true rfl)⟩) rfl rfl dX4_stow_34 ⟨(Nat.le_of_ble_eq_true rfl), (Nat.le_of_ble_eq_true rfl)⟩ rfl (Nat.le_of_ble_eq_true rfl) h1.1 (fun r34 w3 H locs p34 Z => ?_)
        obtain ⟨w3e, hr34⟩ := p34
        have w3e := w3e.symm
        subst w3e
        subst hr34
        refine f_istore2 X hl dX4_stow_37 (by decide) (fun ls hl => ?_)
        have hl : lV ls _ [some (.ref h0), some (.int p0), some (.int t), some (.null), some (.int (nI (whyP y.2.1 p0)))] := hl
        refine f_iload2 X hl dX4_stow_39 rfl ?_
        refine lv_if_eq (tgt := 51) X.1 X.2.1 dX4_stow_41 (by decide) (fun c41 => ?_) (fun c41 => ?_)
        · have hz := (nI_z (whyP_lt _ _)).mp c41
          obtain ⟨sn, sb, hos, hp0, hp1⟩ := whyP_0 hz
          obtain ⟨sa, pa, sf, hsd, hcS, hcF, hs12, hfp⟩ := h8.some hos
          subst hsd
          obtain ⟨pn, hpt⟩ : ∃ pn, p0.toNatClampNeg = pn := ⟨_, rfl⟩
          have hpn : pn < sn := hpt ▸ tn_lt ⟨hp0, hp1⟩
          refine f_aload (v := .null) X hl ⟨_, rfl, dX4_stow_51⟩ rfl ⟨none, rfl⟩ ?_
          refine lv_ifnullN (tgt := 72) X.1 X.2.1 dX4_stow_52 (by decide) ?_
          refine f_aload (v := .ref h0) X hl ⟨_, rfl, dX4_stow_72⟩ rfl ⟨(some h0), rfl⟩ ?_
          refine f_get (v := .ref sa) (k := 2) X Z i4 rfl (by decide) (by decide +kernel) dX4_stow_73 h1.1 rfl ?_
          refine f_get (v := .ref pa) (k := 0) X Z i1 rfl (by decide) (by decide +kernel) dX4_stow_76 hcS rfl ?_
          refine f_iload X hl ⟨_, rfl, dX4_stow_79⟩ rfl ?_
          refine f_aload (v := .ref h0) X hl ⟨_, rfl, dX4_stow_80⟩ rfl ⟨(some h0), rfl⟩ ?_
          refine f_get (v := .ref ta) (k := 0) X Z i4 rfl (by decide) (by decide +kernel) dX4_stow_81 h1.1 rfl ?_
          refine f_iload X hl ⟨_, rfl, dX4_stow_84⟩ rfl ?_
          refine f_tald X Z dX4_stow_85 h2.1 hin_j ?_
          rw [hjt_j, h3 j hj_j]
          refine f_callVq (rest := [.int p0, .ref pa]) X Z hl.1 (c_X2_removeFront l G w (tk j) none (nI 0) 0 0 0 none none hcl (fun a h => by cases h)) (cwV 0 X.2.2.2.2 gX4_stow_X2_removeFront rfl rfl rfl (by decide +kernel) ⟨(Nat.le_of_ble_eq_true rfl), (Nat.le_of_ble_eq_true rfl)⟩) rfl rfl dX4_stow_86 ⟨(Nat.le_of_ble_eq_true rfl), (Nat.le_of_ble_eq_true rfl)⟩ rfl (Nat.le_of_ble_eq_true rfl) hcl (fun r86 w4 H locs p86 Z => ?_)
          obtain ⟨hr, hw0, -⟩ := p86
          have hw0 := (hw0 rfl).symm
          subst hw0
          subst hr
          refine f_aastN (ti := 3) X Z rfl dX4_stow_89 hcF.1 (vp_in_iff.mpr ⟨hp0, hp1⟩) (fun H locs w5 e6 Z => ?_)
          have e6 : w5 = va_up w pa (some (aV G sn (va_up sf p0.toNatClampNeg none))) := e6
          have k7 : w5 h0 = some (cTs (some ta) (some to) (some sa) pl y.2.2.2.2.1 (nI c)) := by rw [e6]; exact lk_ne (ad_ne h1.1 hcF.1 dx_oi) h1.1
          have k8 : w5 ta = some (aT G 6 tf) := by rw [e6]; exact lk_ne (tgne h2.2 hcF.2 (by simp)) h2.1
          have k9 : w5 to = some (aI G 8 y.2.2.2.2.2) := by rw [e6]; exact lk_ne (ad_ne h4.1 hcF.1 dx_ir) h4.1
          have k10 : w5 (tk j) = some (cTrk none (nI 0)) := by rw [e6]; exact lk_ne (ad_ne hcl hcF.1 dx_oi) hcl
          have k11 : w5 sa = some (cSid (some pa) sb) := by rw [e6]; exact lk_ne (ad_ne hcS hcF.1 dx_oi) hcS
          have k12 : w5 pa = some (aV G sn (va_up sf p0.toNatClampNeg none)) := by rw [e6]; exact up_eq
          refine f_aload (v := .null) X hl ⟨_, rfl, dX4_stow_90⟩ rfl ⟨none, rfl⟩ ?_
          refine lv_ifnonnullN X.1 X.2.1 dX4_stow_91 ?_
          refine f_aload (v := .ref h0) X hl ⟨_, rfl, dX4_stow_94⟩ rfl ⟨(some h0), rfl⟩ ?_
          refine lv_iconst (v := 1) X.1 X.2.1 dX4_stow_95 (by decide) ?_
          refine f_callVi (rest := []) X Z hl.1 (c_X4_tell l G w5 h0 ta to (some sa) pl y.2.2.2.2.1 (nI c) k7 y.2.2.2.2.2 1 (by decide) k9) (cwV 1 X.2.2.2.2 gX4_stow_X4_tell rfl rfl rfl (by decide +kernel) ⟨(Nat.le_of_ble_eq_true rfl), (Nat.le_of_ble_eq_true rfl)⟩) rfl rfl dX4_stow_96 ⟨(Nat.le_of_ble_eq_true rfl), (Nat.le_of_ble_eq_true rfl)⟩ rfl (Nat.le_of_ble_eq_true rfl) k7 (fun r96 w13 H locs p96 Z => ?_)
          obtain ⟨hrT, hwT⟩ := p96
          refine lv_goto (tgt := 111) X.1 X.2.1 dX4_stow_99 (by decide) ?_
          exact f_iret X hr hlk Z (Nat.le_of_ble_eq_true rfl) (Nat.le_of_ble_eq_true rfl) dX4_stow_111 (out_tell (hx.stowN hos rfl hcS hcF.1 hpn (by rw [e6, hpt])) (by rw [e6]; exact Fr.rf.put hcF.2 (by decide)) hrT hwT (by unfold sp_stow tn; rw [if_pos c4, hjt_j, hyj]; refine (if_neg c23).trans ?_; rw [if_neg (fun z => z hz), hpt]))
        · refine f_aload (v := .ref h0) X hl ⟨_, rfl, dX4_stow_44⟩ rfl ⟨(some h0), rfl⟩ ?_
          refine f_iload2 X hl dX4_stow_45 rfl ?_
          refine f_callVi (rest := []) X Z hl.1 (c_X4_tell l G w h0 ta to sd pl y.2.2.2.2.1 (nI c) h1.1 y.2.2.2.2.2 (whyP y.2.1 p0) (whyP_lt _ _) h4.1) (cwV 1 X.2.2.2.2 gX4_stow_X4_tell rfl rfl rfl (by decide +kernel) ⟨(Nat.le_of_ble_eq_true rfl), (Nat.le_of_ble_eq_true rfl)⟩) rfl rfl dX4_stow_47 ⟨(Nat.le_of_ble_eq_true rfl), (Nat.le_of_ble_eq_true rfl)⟩ rfl (Nat.le_of_ble_eq_true rfl) h1.1 (fun r47 w14 H locs p47 Z => ?_)
          obtain ⟨hrT, hwT⟩ := p47
          exact f_iret X hr hlk Z (Nat.le_of_ble_eq_true rfl) (Nat.le_of_ble_eq_true rfl) dX4_stow_50 (out_tell hx Fr.rf hrT hwT (by unfold sp_stow tn; rw [if_pos c4, hjt_j, hyj]; refine (if_neg c23).trans ?_; rw [if_pos (fun z => c41 (by rw [z]; rfl))]))
      · rw [hr20, bI_0, Classical.not_not] at c23
        refine f_aload (v := .ref h0) X hl ⟨_, rfl, dX4_stow_26⟩ rfl ⟨(some h0), rfl⟩ ?_
        refine lv_iconst (v := 2) X.1 X.2.1 dX4_stow_27 (by decide) ?_
        refine f_callVi (rest := []) X Z hl.1 (c_X4_tell l G w h0 ta to sd pl y.2.2.2.2.1 (nI c) h1.1 y.2.2.2.2.2 2 (by decide) h4.1) (cwV 1 X.2.2.2.2 gX4_stow_X4_tell rfl rfl rfl (by decide +kernel) ⟨(Nat.le_of_ble_eq_true rfl), (Nat.le_of_ble_eq_true rfl)⟩) rfl rfl dX4_stow_28 ⟨(Nat.le_of_ble_eq_true rfl), (Nat.le_of_ble_eq_true rfl)⟩ rfl (Nat.le_of_ble_eq_true rfl) h1.1 (fun r28 w15 H locs p28 Z => ?_)
        obtain ⟨hrT, hwT⟩ := p28
        exact f_iret X hr hlk Z (Nat.le_of_ble_eq_true rfl) (Nat.le_of_ble_eq_true rfl) dX4_stow_31 (out_tell hx Fr.rf hrT hwT (by unfold sp_stow tn; rw [if_pos c4, hjt_j, hyj]; exact if_pos c23))
    · have hd1 : (T j)[0]? = some (a, d) := by rw [hTj]; rfl
      have hcl : w (tk j) = some (cTrk (some a) (nI (L.length + 1))) := by have q := (h5 j hj_j).1; rw [hTj] at q; exact q
      have hyj : y.1 j = d :: L.map Prod.snd := by rw [← h7 j, hTj]; rfl
      obtain ⟨gA, ro, hcA, hro, hrt⟩ := h6.1 j _ a d hd1
      have hnx : nx (T j) 0 = hd L := by rw [hTj]; rfl
      rw [hnx] at hcA
      refine f_get (v := .ref a) (k := 0) X Z i2 rfl (by decide) (by decide +kernel) dX4_stow_15 hcl rfl ?_
      refine f_astore X hl ⟨_, rfl, dX4_stow_18⟩ (by decide) ⟨(some a), rfl⟩ (fun ls hl => ?_)
      have hl : lV ls _ [some (.ref h0), some (.int p0), some (.int t), some (.ref a), none] := hl
      refine f_aload (v := .ref a) X hl ⟨_, rfl, dX4_stow_19⟩ rfl ⟨(some a), rfl⟩ ?_
      refine f_callSi (rest := []) X Z hl.1 (c_X4_isEngine2 l G w (some a) (some d) (Or.inr ⟨a, d, _, rfl, rfl, ro, hcA, hro⟩)) (va_cwS 1 X.2.2.2.2 gX4_stow_X4_isEngine rfl rfl rfl (by decide +kernel) ⟨(Nat.le_of_ble_eq_true rfl), (Nat.le_of_ble_eq_true rfl)⟩) rfl dX4_stow_20 ⟨(Nat.le_of_ble_eq_true rfl), (Nat.le_of_ble_eq_true rfl)⟩ rfl (Nat.le_of_ble_eq_true rfl) (fun r20 w16 H locs p20 Z => ?_)
      obtain ⟨w16e, hr20⟩ := p20
      have w16e := w16e.symm
      subst w16e
      refine lv_if_eq (tgt := 32) X.1 X.2.1 dX4_stow_23 (by decide) (fun c23 => ?_) (fun c23 => ?_)
      · rw [hr20, bI_0] at c23
        refine f_aload (v := .ref h0) X hl ⟨_, rfl, dX4_stow_32⟩ rfl ⟨(some h0), rfl⟩ ?_
        refine f_iload X hl ⟨_, rfl, dX4_stow_33⟩ rfl ?_
        refine f_callVi (rest := []) X Z hl.1 (c_X4_whyNoPlace l G w h0 ta to sd pl y.2.2.2.2.1 (nI c) h1.1 y.2.1 p0 h8.opt) (cwV 1 X.2.2.2.2 gX4_stow_X4_whyNoPlace rfl rfl rfl (by decide +kernel) ⟨(Nat.le_of_ble_eq_true rfl), (Nat.le_of_ble_eq_true rfl)⟩) rfl rfl dX4_stow_34 ⟨(Nat.le_of_ble_eq_true rfl), (Nat.le_of_ble_eq_true rfl)⟩ rfl (Nat.le_of_ble_eq_true rfl) h1.1 (fun r34 w17 H locs p34 Z => ?_)
        obtain ⟨w17e, hr34⟩ := p34
        have w17e := w17e.symm
        subst w17e
        subst hr34
        refine f_istore2 X hl dX4_stow_37 (by decide) (fun ls hl => ?_)
        have hl : lV ls _ [some (.ref h0), some (.int p0), some (.int t), some (.ref a), some (.int (nI (whyP y.2.1 p0)))] := hl
        refine f_iload2 X hl dX4_stow_39 rfl ?_
        refine lv_if_eq (tgt := 51) X.1 X.2.1 dX4_stow_41 (by decide) (fun c41 => ?_) (fun c41 => ?_)
        · have hz := (nI_z (whyP_lt _ _)).mp c41
          obtain ⟨sn, sb, hos, hp0, hp1⟩ := whyP_0 hz
          obtain ⟨sa, pa, sf, hsd, hcS, hcF, hs12, hfp⟩ := h8.some hos
          subst hsd
          obtain ⟨pn, hpt⟩ : ∃ pn, p0.toNatClampNeg = pn := ⟨_, rfl⟩
          have hpn : pn < sn := hpt ▸ tn_lt ⟨hp0, hp1⟩
          refine f_aload (v := .ref a) X hl ⟨_, rfl, dX4_stow_51⟩ rfl ⟨(some a), rfl⟩ ?_
          refine lv_ifnull X.1 X.2.1 dX4_stow_52 ?_
          refine f_aload (v := .ref h0) X hl ⟨_, rfl, dX4_stow_55⟩ rfl ⟨(some h0), rfl⟩ ?_
          refine f_get (v := .ref sa) (k := 2) X Z i4 rfl (by decide) (by decide +kernel) dX4_stow_56 h1.1 rfl ?_
          refine f_aload (v := .ref a) X hl ⟨_, rfl, dX4_stow_59⟩ rfl ⟨(some a), rfl⟩ ?_
          refine f_callVi (rest := []) X Z hl.1 (c_X1_accepts l G w sa a (some pa) sb d.1 d.2.1 d.2.2.1 ro (hd L) hcS hcA) (cwV 1 X.2.2.2.2 gX4_stow_X1_accepts rfl rfl rfl (by decide +kernel) ⟨(Nat.le_of_ble_eq_true rfl), (Nat.le_of_ble_eq_true rfl)⟩) rfl rfl dX4_stow_60 ⟨(Nat.le_of_ble_eq_true rfl), (Nat.le_of_ble_eq_true rfl)⟩ rfl (Nat.le_of_ble_eq_true rfl) hcS (fun r60 w18 H locs p60 Z => ?_)
          obtain ⟨w18e, hr60⟩ := p60
          have w18e := w18e.symm
          subst w18e
          refine lv_if_ne (tgt := 72) X.1 X.2.1 dX4_stow_63 (by decide) (fun c63 => ?_) (fun c63 => ?_)
          · rw [hr60, bI_0, Classical.not_not] at c63
            refine f_aload (v := .ref h0) X hl ⟨_, rfl, dX4_stow_72⟩ rfl ⟨(some h0), rfl⟩ ?_
            refine f_get (v := .ref sa) (k := 2) X Z i4 rfl (by decide) (by decide +kernel) dX4_stow_73 h1.1 rfl ?_
            refine f_get (v := .ref pa) (k := 0) X Z i1 rfl (by decide) (by decide +kernel) dX4_stow_76 hcS rfl ?_
            refine f_iload X hl ⟨_, rfl, dX4_stow_79⟩ rfl ?_
            refine f_aload (v := .ref h0) X hl ⟨_, rfl, dX4_stow_80⟩ rfl ⟨(some h0), rfl⟩ ?_
            refine f_get (v := .ref ta) (k := 0) X Z i4 rfl (by decide) (by decide +kernel) dX4_stow_81 h1.1 rfl ?_
            refine f_iload X hl ⟨_, rfl, dX4_stow_84⟩ rfl ?_
            refine f_tald X Z dX4_stow_85 h2.1 hin_j ?_
            rw [hjt_j, h3 j hj_j]
            refine f_callVq (rest := [.int p0, .ref pa]) X Z hl.1 (c_X2_removeFront l G w (tk j) (some a) (nI (L.length + 1)) d.1 d.2.1 d.2.2.1 ro (hd L) hcl (fun a1 h => by cases h; exact hcA)) (cwV 0 X.2.2.2.2 gX4_stow_X2_removeFront rfl rfl rfl (by decide +kernel) ⟨(Nat.le_of_ble_eq_true rfl), (Nat.le_of_ble_eq_true rfl)⟩) rfl rfl dX4_stow_86 ⟨(Nat.le_of_ble_eq_true rfl), (Nat.le_of_ble_eq_true rfl)⟩ rfl (Nat.le_of_ble_eq_true rfl) hcl (fun r86 w19 H locs p86 Z => ?_)
            obtain ⟨hr, -, hw1⟩ := p86
            have hw1 := hw1 a rfl
            subst hr
            rw [nI_pred] at hw1
            have k20 : w19 h0 = some (cTs (some ta) (some to) (some sa) pl y.2.2.2.2.1 (nI c)) := by rw [hw1, up_ne (ad_ne h1.1 hcl (dx_oo (by decide))), up_ne (ad_ne h1.1 hcA (dx_oo (by decide)))]; exact h1.1
            have k21 : w19 ta = some (aT G 6 tf) := by rw [hw1, up_ne (ad_ne h2.1 hcl dx_io), up_ne (ad_ne h2.1 hcA dx_io)]; exact h2.1
            have k22 : w19 to = some (aI G 8 y.2.2.2.2.2) := by rw [hw1, up_ne (ad_ne h4.1 hcl dx_io), up_ne (ad_ne h4.1 hcA dx_io)]; exact h4.1
            have k23 : w19 sa = some (cSid (some pa) sb) := by rw [hw1, up_ne (ad_ne hcS hcl (dx_oo (by decide))), up_ne (ad_ne hcS hcA (dx_oo (by decide)))]; exact hcS
            have k24 : w19 pa = some (aV G sn sf) := by rw [hw1, up_ne (ad_ne hcF.1 hcl dx_io), up_ne (ad_ne hcF.1 hcA dx_io)]; exact hcF.1
            have k25 : w19 (tk j) = some (cTrk (hd L) (nI L.length)) := by rw [hw1]; exact up_eq
            have k26 : w19 a = some (cVeh d.1 d.2.1 d.2.2.1 ro none) := by rw [hw1, up_ne (ad_ne hcA hcl (dx_oo (by decide)))]; exact up_eq
            have hU : Up (fun b => b = a ∨ b = tk j) w tg w19 tg := Up.by (fun b e _ hS => by rw [hw1, up_ne (fun z => hS (Or.inr z)), up_ne (fun z => hS (Or.inl z))]) (by rintro _ (rfl | rfl); exact ⟨_, k26⟩; exact ⟨_, k25⟩) (fun _ _ _ => rfl)
            have hve : vehAt G w19 a d none := ⟨ro, k26, (hro.up hrt hU (by rintro _ (rfl | rfl); rw [gA]; simp; rw [(h5 j hj_j).2]; simp)).1⟩
            have hF : Fr w tg w19 tg := by rw [hw1]; exact (Fr.rf.put gA (by decide)).put (h5 j hj_j).2 (by simp)
            refine f_aast (ti := 3) (ci := 3) X Z rfl rfl dX4_stow_89 k24 k26 (vp_in_iff.mpr ⟨hp0, hp1⟩) (fun H locs w27 e28 Z => ?_)
            have e28 : w27 = va_up w19 pa (some (aV G sn (va_up sf p0.toNatClampNeg (some a)))) := e28
            have k29 : w27 h0 = some (cTs (some ta) (some to) (some sa) pl y.2.2.2.2.1 (nI c)) := by rw [e28]; exact lk_ne (ad_ne k20 k24 dx_oi) k20
            have k30 : w27 ta = some (aT G 6 tf) := by rw [e28]; exact lk_ne (tgne h2.2 hcF.2 (by simp)) k21
            have k31 : w27 to = some (aI G 8 y.2.2.2.2.2) := by rw [e28]; exact lk_ne (ad_ne k22 k24 dx_ir) k22
            have k32 : w27 sa = some (cSid (some pa) sb) := by rw [e28]; exact lk_ne (ad_ne k23 k24 dx_oi) k23
            have k33 : w27 (tk j) = some (cTrk (hd L) (nI L.length)) := by rw [e28]; exact lk_ne (ad_ne k25 k24 dx_oi) k25
            have k34 : w27 a = some (cVeh d.1 d.2.1 d.2.2.1 ro none) := by rw [e28]; exact lk_ne (ad_ne k26 k24 dx_oi) k26
            have k35 : w27 pa = some (aV G sn (va_up sf p0.toNatClampNeg (some a))) := by rw [e28]; exact up_eq
            refine f_aload (v := .ref a) X hl ⟨_, rfl, dX4_stow_90⟩ rfl ⟨(some a), rfl⟩ ?_
            refine lv_ifnonnull (tgt := 102) X.1 X.2.1 dX4_stow_91 (by decide) ?_
            refine f_aload (v := .ref h0) X hl ⟨_, rfl, dX4_stow_102⟩ rfl ⟨(some h0), rfl⟩ ?_
            refine f_get (v := .ref ta) (k := 0) X Z i4 rfl (by decide) (by decide +kernel) dX4_stow_103 k29 rfl ?_
            refine f_iload X hl ⟨_, rfl, dX4_stow_106⟩ rfl ?_
            refine f_tald X Z dX4_stow_107 k30 hin_j ?_
            rw [hjt_j, h3 j hj_j]
            refine f_get (v := .int (nI L.length)) (k := 1) X Z i2 rfl (by decide) (by decide +kernel) dX4_stow_108 k33 rfl ?_
            exact f_iret X hr hlk Z (Nat.le_of_ble_eq_true rfl) (Nat.le_of_ble_eq_true rfl) dX4_stow_111 (out_of (hx.stow hj_j hTj hos rfl hcS hcF.1 hpn (fun ro1 bh1 z => by rw [← (cVeh_inj (hcA.symm.trans z)).1]; exact k34) k33 (by rw [← hpt]; exact k35) (fun b n1 n2 n3 => by rw [e28, up_ne n3, hw1, up_ne n2, up_ne n1])) (by rw [e28]; exact hF.put hcF.2 (by decide)) (by omega) (by unfold sp_stow tn; rw [if_pos c4, hjt_j, hyj]; refine (if_neg c23).trans ?_; rw [if_neg (fun z => z hz), hos, hpt]; refine (if_pos c63).trans ?_; rw [List.length_map]))
          · rw [hr60, bI_0] at c63
            refine f_aload (v := .ref h0) X hl ⟨_, rfl, dX4_stow_66⟩ rfl ⟨(some h0), rfl⟩ ?_
            refine lv_iconst (v := 3) X.1 X.2.1 dX4_stow_67 (by decide) ?_
            refine f_callVi (rest := []) X Z hl.1 (c_X4_tell l G w h0 ta to (some sa) pl y.2.2.2.2.1 (nI c) h1.1 y.2.2.2.2.2 3 (by decide) h4.1) (cwV 1 X.2.2.2.2 gX4_stow_X4_tell rfl rfl rfl (by decide +kernel) ⟨(Nat.le_of_ble_eq_true rfl), (Nat.le_of_ble_eq_true rfl)⟩) rfl rfl dX4_stow_68 ⟨(Nat.le_of_ble_eq_true rfl), (Nat.le_of_ble_eq_true rfl)⟩ rfl (Nat.le_of_ble_eq_true rfl) h1.1 (fun r68 w36 H locs p68 Z => ?_)
            obtain ⟨hrT, hwT⟩ := p68
            exact f_iret X hr hlk Z (Nat.le_of_ble_eq_true rfl) (Nat.le_of_ble_eq_true rfl) dX4_stow_71 (out_tell hx Fr.rf hrT hwT (by unfold sp_stow tn; rw [if_pos c4, hjt_j, hyj]; refine (if_neg c23).trans ?_; rw [if_neg (fun z => z hz), hos]; exact if_neg c63))
        · refine f_aload (v := .ref h0) X hl ⟨_, rfl, dX4_stow_44⟩ rfl ⟨(some h0), rfl⟩ ?_
          refine f_iload2 X hl dX4_stow_45 rfl ?_
          refine f_callVi (rest := []) X Z hl.1 (c_X4_tell l G w h0 ta to sd pl y.2.2.2.2.1 (nI c) h1.1 y.2.2.2.2.2 (whyP y.2.1 p0) (whyP_lt _ _) h4.1) (cwV 1 X.2.2.2.2 gX4_stow_X4_tell rfl rfl rfl (by decide +kernel) ⟨(Nat.le_of_ble_eq_true rfl), (Nat.le_of_ble_eq_true rfl)⟩) rfl rfl dX4_stow_47 ⟨(Nat.le_of_ble_eq_true rfl), (Nat.le_of_ble_eq_true rfl)⟩ rfl (Nat.le_of_ble_eq_true rfl) h1.1 (fun r47 w37 H locs p47 Z => ?_)
          obtain ⟨hrT, hwT⟩ := p47
          exact f_iret X hr hlk Z (Nat.le_of_ble_eq_true rfl) (Nat.le_of_ble_eq_true rfl) dX4_stow_50 (out_tell hx Fr.rf hrT hwT (by unfold sp_stow tn; rw [if_pos c4, hjt_j, hyj]; refine (if_neg c23).trans ?_; rw [if_pos (fun z => c41 (by rw [z]; rfl))]))
      · rw [hr20, bI_0, Classical.not_not] at c23
        refine f_aload (v := .ref h0) X hl ⟨_, rfl, dX4_stow_26⟩ rfl ⟨(some h0), rfl⟩ ?_
        refine lv_iconst (v := 2) X.1 X.2.1 dX4_stow_27 (by decide) ?_
        refine f_callVi (rest := []) X Z hl.1 (c_X4_tell l G w h0 ta to sd pl y.2.2.2.2.1 (nI c) h1.1 y.2.2.2.2.2 2 (by decide) h4.1) (cwV 1 X.2.2.2.2 gX4_stow_X4_tell rfl rfl rfl (by decide +kernel) ⟨(Nat.le_of_ble_eq_true rfl), (Nat.le_of_ble_eq_true rfl)⟩) rfl rfl dX4_stow_28 ⟨(Nat.le_of_ble_eq_true rfl), (Nat.le_of_ble_eq_true rfl)⟩ rfl (Nat.le_of_ble_eq_true rfl) h1.1 (fun r28 w38 H locs p28 Z => ?_)
        obtain ⟨hrT, hwT⟩ := p28
        exact f_iret X hr hlk Z (Nat.le_of_ble_eq_true rfl) (Nat.le_of_ble_eq_true rfl) dX4_stow_31 (out_tell hx Fr.rf hrT hwT (by unfold sp_stow tn; rw [if_pos c4, hjt_j, hyj]; exact if_pos c23))
  · rw [hr1, bI_0] at c4
    refine lv_iconst (v := (-1)) X.1 X.2.1 dX4_stow_7 (by decide) ?_
    exact f_iret X hr hlk Z (Nat.le_of_ble_eq_true rfl) (Nat.le_of_ble_eq_true rfl) dX4_stow_8 (out_same hR (if_neg c4))
set_option maxHeartbeats 4000000 in
set_option maxRecDepth 100000 in
theorem c_X4_place (l : Launch) (G : gT) (w : wT) (tg : tT) (h0 c nb : Nat) (y : Yd) (hR : RepC G tg w h0 c y) (hY : Yok nb y) (hn : nb ≤ 512) (hc : c < 512) (t so we : Int32) : Met l yX4_place wsX4_place ({ frames := 2, cells := 1, slots := 5, locals := 38 }) (va_Pc [.ref h0, .int t, .int so, .int we] (wG G w)) (Qi G (OutC G tg w h0 c (sp_place t so we y))) 1 5 (fr G) := by
  refine f_met (cc := cX4_place) (maxL := 5) (ret := (some .int)) (by decide) rfl rfl (Nat.le_of_ble_eq_true rfl) ?_
  intro p e s m below meth cd X hr hlk hnm Z ls hl
  have X : CallFix p m cd cX4_place 5 s [.ref h0, .int t, .int so, .int we].toArray wsX4_place RX4 := X
  have hl : lV ls _ [some (.ref h0), some (.int t), some (.int so), some (.int we), none] := hl
  have i2 : ∀ w ∈ wsX20, w ∈ wsX4_place := by decide +kernel
  have i3 : ∀ w ∈ wsX30, w ∈ wsX4_place := by decide +kernel
  have i4 : ∀ w ∈ wsX40, w ∈ wsX4_place := by decide +kernel
  obtain ⟨ta, to, tf, tk, sd, pl, T, hx⟩ := id hR
  obtain ⟨h1, h2, h3, h4, h5, h6, h7, h8, h9⟩ := id hx
  refine f_iload X hl ⟨_, rfl, dX4_place_0⟩ rfl ?_
  refine f_callSi (rest := []) X Z hl.1 (c_X4_isTrack l G _ _) (va_cwS 1 X.2.2.2.2 gX4_place_X4_isTrack rfl rfl rfl (by decide +kernel) ⟨(Nat.le_of_ble_eq_true rfl), (Nat.le_of_ble_eq_true rfl)⟩) rfl dX4_place_1 ⟨(Nat.le_of_ble_eq_true rfl), (Nat.le_of_ble_eq_true rfl)⟩ rfl (Nat.le_of_ble_eq_true rfl) (fun r1 w1 H locs p1 Z => ?_)
  obtain ⟨w1e, hr1⟩ := p1
  have w1e := w1e.symm
  subst w1e
  refine lv_if_eq (tgt := 31) X.1 X.2.1 dX4_place_4 (by decide) (fun c4 => ?_) (fun c4 => ?_)
  · rw [hr1, bI_0] at c4
    refine lv_iconst (v := 0) X.1 X.2.1 dX4_place_31 (by decide) ?_
    refine f_istore2 X hl dX4_place_32 (by decide) (fun ls hl => ?_)
    have hl : lV ls _ [some (.ref h0), some (.int t), some (.int so), some (.int we), some (.int 0)] := hl
    refine f_iload2 X hl dX4_place_34 rfl ?_
    refine lv_if_eq (tgt := 49) X.1 X.2.1 dX4_place_36 (by decide) (fun c36 => ?_) (fun c36 => ?_)
    · refine lv_iconst (v := (-1)) X.1 X.2.1 dX4_place_49 (by decide) ?_
      exact f_iret X hr hlk Z (Nat.le_of_ble_eq_true rfl) (Nat.le_of_ble_eq_true rfl) dX4_place_50 (out_same hR (if_neg (fun h => c4 h.1)))
    · exact absurd rfl c36
  · rw [hr1, bI_0, Classical.not_not] at c4
    refine f_iload X hl ⟨_, rfl, dX4_place_7⟩ rfl ?_
    refine lv_iconst (v := 1) X.1 X.2.1 dX4_place_8 (by decide) ?_
    refine lv_iconst (v := 3) X.1 X.2.1 dX4_place_9 (by decide) ?_
    refine f_callSi (rest := []) X Z hl.1 (c_X4_isWithin l G _ _ _ _) (va_cwS 3 X.2.2.2.2 gX4_place_X4_isWithin rfl rfl rfl (by decide +kernel) ⟨(Nat.le_of_ble_eq_true rfl), (Nat.le_of_ble_eq_true rfl)⟩) rfl dX4_place_10 ⟨(Nat.le_of_ble_eq_true rfl), (Nat.le_of_ble_eq_true rfl)⟩ rfl (Nat.le_of_ble_eq_true rfl) (fun r10 w2 H locs p10 Z => ?_)
    obtain ⟨w2e, hr10⟩ := p10
    have w2e := w2e.symm
    subst w2e
    refine lv_if_eq (tgt := 31) X.1 X.2.1 dX4_place_13 (by decide) (fun c13 => ?_) (fun c13 => ?_)
    · rw [hr10, bI_0] at c13
      refine lv_iconst (v := 0) X.1 X.2.1 dX4_place_31 (by decide) ?_
      refine f_istore2 X hl dX4_place_32 (by decide) (fun ls hl => ?_)
      have hl : lV ls _ [some (.ref h0), some (.int t), some (.int so), some (.int we), some (.int 0)] := hl
      refine f_iload2 X hl dX4_place_34 rfl ?_
      refine lv_if_eq (tgt := 49) X.1 X.2.1 dX4_place_36 (by decide) (fun c36 => ?_) (fun c36 => ?_)
      · refine lv_iconst (v := (-1)) X.1 X.2.1 dX4_place_49 (by decide) ?_
        exact f_iret X hr hlk Z (Nat.le_of_ble_eq_true rfl) (Nat.le_of_ble_eq_true rfl) dX4_place_50 (out_same hR (if_neg (fun h => c13 h.2.1)))
      · exact absurd rfl c36
    · rw [hr10, bI_0, Classical.not_not] at c13
      refine f_iload X hl ⟨_, rfl, dX4_place_16⟩ rfl ?_
      refine lv_iconst (v := 1) X.1 X.2.1 dX4_place_17 (by decide) ?_
      refine lv_sipush (v := 1000) X.1 X.2.1 dX4_place_18 (by decide) ?_
      refine f_callSi (rest := []) X Z hl.1 (c_X4_isWithin l G _ _ _ _) (va_cwS 3 X.2.2.2.2 gX4_place_X4_isWithin rfl rfl rfl (by decide +kernel) ⟨(Nat.le_of_ble_eq_true rfl), (Nat.le_of_ble_eq_true rfl)⟩) rfl dX4_place_21 ⟨(Nat.le_of_ble_eq_true rfl), (Nat.le_of_ble_eq_true rfl)⟩ rfl (Nat.le_of_ble_eq_true rfl) (fun r21 w3 H locs p21 Z => ?_)
      obtain ⟨w3e, hr21⟩ := p21
      have w3e := w3e.symm
      subst w3e
      refine lv_if_eq (tgt := 31) X.1 X.2.1 dX4_place_24 (by decide) (fun c24 => ?_) (fun c24 => ?_)
      · rw [hr21, bI_0] at c24
        refine lv_iconst (v := 0) X.1 X.2.1 dX4_place_31 (by decide) ?_
        refine f_istore2 X hl dX4_place_32 (by decide) (fun ls hl => ?_)
        have hl : lV ls _ [some (.ref h0), some (.int t), some (.int so), some (.int we), some (.int 0)] := hl
        refine f_iload2 X hl dX4_place_34 rfl ?_
        refine lv_if_eq (tgt := 49) X.1 X.2.1 dX4_place_36 (by decide) (fun c36 => ?_) (fun c36 => ?_)
        · refine lv_iconst (v := (-1)) X.1 X.2.1 dX4_place_49 (by decide) ?_
          exact f_iret X hr hlk Z (Nat.le_of_ble_eq_true rfl) (Nat.le_of_ble_eq_true rfl) dX4_place_50 (out_same hR (if_neg (fun h => c24 h.2.2)))
        · exact absurd rfl c36
      · rw [hr21, bI_0, Classical.not_not] at c24
        obtain ⟨j, hjt_j⟩ : ∃ j, t.toNatClampNeg = j := ⟨_, rfl⟩
        have hj_j : j < 6 := hjt_j ▸ tn_lt c4
        have hin_j : vp_in t 6 := vp_in_iff.mpr c4
        refine lv_iconst (v := 1) X.1 X.2.1 dX4_place_27 (by decide) ?_
        refine lv_goto (tgt := 32) X.1 X.2.1 dX4_place_28 (by decide) ?_
        refine f_istore2 X hl dX4_place_32 (by decide) (fun ls hl => ?_)
        have hl : lV ls _ [some (.ref h0), some (.int t), some (.int so), some (.int we), some (.int 1)] := hl
        refine f_iload2 X hl dX4_place_34 rfl ?_
        refine lv_if_eq (tgt := 49) X.1 X.2.1 dX4_place_36 (by decide) (fun c36 => ?_) (fun c36 => ?_)
        · exact absurd c36 (by decide)
        · refine f_aload (v := .ref h0) X hl ⟨_, rfl, dX4_place_39⟩ rfl ⟨(some h0), rfl⟩ ?_
          refine f_get (v := .int (nI c)) (k := 5) X Z i4 rfl (by decide) (by decide +kernel) dX4_place_40 h1.1 rfl ?_
          refine lv_sipush (v := 512) X.1 X.2.1 dX4_place_43 (by decide) ?_
          refine lv_icmp_lt (tgt := 51) X.1 X.2.1 dX4_place_46 (by decide) (fun c46 => ?_) (fun c46 => ?_)
          · refine f_aload (v := .ref h0) X hl ⟨_, rfl, dX4_place_51⟩ rfl ⟨(some h0), rfl⟩ ?_
            refine lv_dup X.1 X.2.1 dX4_place_52 rfl ?_
            refine f_get (v := .int (nI c)) (k := 5) X Z i4 rfl (by decide) (by decide +kernel) dX4_place_53 h1.1 rfl ?_
            refine lv_iconst (v := 1) X.1 X.2.1 dX4_place_56 (by decide) ?_
            refine lv_iadd X.1 X.2.1 dX4_place_57 ?_
            refine f_put (v := .int ((nI c) + 1)) (ty0 := tyX4) (k := 5) X Z i4 tyX4_ok nmX4 rfl (by decide) (by decide +kernel) rfl dX4_place_58 h1.1 rfl rfl (Nat.le_of_ble_eq_true rfl) (fun H locs w4 e5 Z => ?_)
            have e5 : w4 = va_up w h0 (some (cTs (some ta) (some to) sd pl y.2.2.2.2.1 ((nI c) + 1))) := e5
            have k6 : w4 ta = some (aT G 6 tf) := by rw [e5]; exact lk_ne (ad_ne h2.1 h1.1 dx_io) h2.1
            have k7 : w4 to = some (aI G 8 y.2.2.2.2.2) := by rw [e5]; exact lk_ne (ad_ne h4.1 h1.1 dx_io) h4.1
            have k8 : w4 (tk j) = some (cTrk (hd (T j)) (nI (T j).length)) := by rw [e5]; exact lk_ne (ad_ne (h5 j hj_j).1 h1.1 (dx_oo (by decide))) (h5 j hj_j).1
            have k9 : w4 h0 = some (cTs (some ta) (some to) sd pl y.2.2.2.2.1 ((nI c) + 1)) := by rw [e5]; exact up_eq
            refine f_aload (v := .ref h0) X hl ⟨_, rfl, dX4_place_61⟩ rfl ⟨(some h0), rfl⟩ ?_
            refine f_get (v := .ref ta) (k := 0) X Z i4 rfl (by decide) (by decide +kernel) dX4_place_62 k9 rfl ?_
            refine f_iload X hl ⟨_, rfl, dX4_place_65⟩ rfl ?_
            refine f_tald X Z dX4_place_66 k6 hin_j ?_
            rw [hjt_j, h3 j hj_j]
            refine f_new (ci := 3) (ty := tyX3) (fs := [.int 0, .int 0, .int 0, .null, .null]) X Z i3 tyX3_ok rfl (by decide +kernel) (by decide +kernel) (by decide +kernel) (fun j hj => by rcases (show j = 0 ∨ j = 1 ∨ j = 2 ∨ j = 3 ∨ j = 4 by omega) with rfl | rfl | rfl | rfl | rfl <;> rfl) dX4_place_67 (Nat.le_of_ble_eq_true rfl) (Nat.le_of_ble_eq_true rfl) (fun q67 H w10 hq67 e11 Z => ?_)
            have e11 : w10 = va_up w4 q67 (some (cVeh 0 0 0 none none)) := e11
            have k12 : w10 ta = some (aT G 6 tf) := by rw [e11]; exact lk_ne (ad_new k6 hq67) k6
            have k13 : w10 to = some (aI G 8 y.2.2.2.2.2) := by rw [e11]; exact lk_ne (ad_new k7 hq67) k7
            have k14 : w10 (tk j) = some (cTrk (hd (T j)) (nI (T j).length)) := by rw [e11]; exact lk_ne (ad_new k8 hq67) k8
            have k15 : w10 h0 = some (cTs (some ta) (some to) sd pl y.2.2.2.2.1 ((nI c) + 1)) := by rw [e11]; exact lk_ne (ad_new k9 hq67) k9
            have k16 : w10 q67 = some (cVeh 0 0 0 none none) := by rw [e11]; exact up_eq
            refine lv_dup X.1 X.2.1 dX4_place_70 rfl ?_
            refine f_iload X hl ⟨_, rfl, dX4_place_71⟩ rfl ?_
            refine f_iload X hl ⟨_, rfl, dX4_place_72⟩ rfl ?_
            refine f_callIv (rest := [.ref q67, .ref (tk j)]) X Z hl.1 (c_X3_init l G w10 q67 so we k16) (cwI 2 X.2.2.2.2 gX4_place_X3_init rfl rfl rfl (X.2.2.2.2 (.initialized RX3) (by decide +kernel)) (X.2.2.2.2 (.methodLink RX4 34 yX3_init) (by decide +kernel)) (X.2.2.2.2 (.instanceMethod yX3_init) (by decide +kernel)) rfl (by decide +kernel) ⟨(Nat.le_of_ble_eq_true rfl), (Nat.le_of_ble_eq_true rfl)⟩) rfl dX4_place_73 ⟨(Nat.le_of_ble_eq_true rfl), (Nat.le_of_ble_eq_true rfl)⟩ rfl (Nat.le_of_ble_eq_true rfl) (fun w17 H locs p73 Z => ?_)
            have hwV := p73
            have k18 : w17 ta = some (aT G 6 tf) := by rw [hwV, up_ne (ad_ne k12 k16 dx_io)]; exact k12
            have k19 : w17 to = some (aI G 8 y.2.2.2.2.2) := by rw [hwV, up_ne (ad_ne k13 k16 dx_io)]; exact k13
            have k20 : w17 (tk j) = some (cTrk (hd (T j)) (nI (T j).length)) := by rw [hwV, up_ne (ad_ne k14 k16 (dx_oo (by decide)))]; exact k14
            have k21 : w17 h0 = some (cTs (some ta) (some to) sd pl y.2.2.2.2.1 ((nI c) + 1)) := by rw [hwV, up_ne (ad_ne k15 k16 (dx_oo (by decide)))]; exact k15
            have k22 : w17 q67 = some (cVeh so we 0 none none) := by rw [hwV]; exact up_eq
            refine f_callVv (rest := []) X Z hl.1 (c_X2_putAhead l G w17 (tk j) q67 (hd (T j)) (nI (T j).length) so we 0 none none k20 k22) (cwV 1 X.2.2.2.2 gX4_place_X2_putAhead rfl rfl rfl (by decide +kernel) ⟨(Nat.le_of_ble_eq_true rfl), (Nat.le_of_ble_eq_true rfl)⟩) rfl rfl dX4_place_76 ⟨(Nat.le_of_ble_eq_true rfl), (Nat.le_of_ble_eq_true rfl)⟩ rfl (Nat.le_of_ble_eq_true rfl) k20 (fun w23 H locs p76 Z => ?_)
            have hwP := p76
            have k24 : w23 ta = some (aT G 6 tf) := by rw [hwP, up_ne (ad_ne k18 k20 dx_io), up_ne (ad_ne k18 k22 dx_io)]; exact k18
            have k25 : w23 to = some (aI G 8 y.2.2.2.2.2) := by rw [hwP, up_ne (ad_ne k19 k20 dx_io), up_ne (ad_ne k19 k22 dx_io)]; exact k19
            have k26 : w23 h0 = some (cTs (some ta) (some to) sd pl y.2.2.2.2.1 ((nI c) + 1)) := by rw [hwP, up_ne (ad_ne k21 k20 (dx_oo (by decide))), up_ne (ad_ne k21 k22 (dx_oo (by decide)))]; exact k21
            have k27 : w23 (tk j) = some (cTrk (some q67) (nI (T j).length + 1)) := by rw [hwP]; exact up_eq
            have k28 : w23 q67 = some (cVeh so we 0 none (hd (T j))) := by rw [hwP, up_ne (ad_ne k22 k20 (dx_oo (by decide)))]; exact up_eq
            refine f_aload (v := .ref h0) X hl ⟨_, rfl, dX4_place_79⟩ rfl ⟨(some h0), rfl⟩ ?_
            refine f_get (v := .ref ta) (k := 0) X Z i4 rfl (by decide) (by decide +kernel) dX4_place_80 k26 rfl ?_
            refine f_iload X hl ⟨_, rfl, dX4_place_83⟩ rfl ?_
            refine f_tald X Z dX4_place_84 k24 hin_j ?_
            rw [hjt_j, h3 j hj_j]
            refine f_get (v := .int (nI (T j).length + 1)) (k := 1) X Z i2 rfl (by decide) (by decide +kernel) dX4_place_85 k27 rfl ?_
            exact f_iret X hr hlk Z (Nat.le_of_ble_eq_true rfl) (Nat.le_of_ble_eq_true rfl) dX4_place_88 (by
                have hqh : q67 ≠ h0 := fun z => by rw [z, e5, up_eq] at hq67; cases hq67
                have hwq : w q67 = none := by rw [e5, up_ne hqh] at hq67; exact hq67
                exact out_of (hx.push (c' := c + 1) (d := (so, we, 0, none)) hj_j hwq rfl (by rw [← nI_1]; exact k26) k28 k27 (fun b n1 n2 n3 => by rw [hwP, hwV, e11, e5, up_ne n3, up_ne n2, up_ne n2, up_ne n2, up_ne n1])) (by rw [hwP, hwV, e11, e5]; exact ((((Fr.rf.put h1.2 (by decide)).new hwq).put (τ := (4, 0)) up_at (by decide)).put (τ := (4, 0)) up_at (by decide)).put (τ := (3, j)) (by rw [up_off (ad_new (h5 j hj_j).1 hwq)]; exact (h5 j hj_j).2) (by simp)) (by omega) (by unfold sp_place tn; rw [if_pos ⟨c4, c13, c24⟩, hjt_j, nI_1, hx.len j]))
          · exact absurd (by rw [Int32.lt_iff_toInt_lt, kc_512, nI_toInt (by omega)]; omega) c46
end
section
theorem Fr.back {w w1 : wT} {tg tg1 : tT} {q : Nat} (h : Fr w tg w1 tg1) (hq : w1 q = none) : w q = none := by
  cases hw : w q with
  | none => rfl
  | some e => obtain ⟨-, ⟨e', h2⟩, -⟩ := h q e hw; rw [hq] at h2; cases h2
def mk6 (a b c d e f : Nat) : Nat → Nat := fun t => if t = 0 then a else if t = 1 then b else if t = 2 then c else if t = 3 then d else if t = 4 then e else f
theorem lt6 {P : Nat → Prop} (h0 : P 0) (h1 : P 1) (h2 : P 2) (h3 : P 3) (h4 : P 4) (h5 : P 5) : ∀ t, t < 6 → P t := by
  intro t ht
  rcases (show t = 0 ∨ t = 1 ∨ t = 2 ∨ t = 3 ∨ t = 4 ∨ t = 5 by omega) with rfl | rfl | rfl | rfl | rfl | rfl <;> assumption
set_option maxHeartbeats 4000000 in
set_option maxRecDepth 100000 in
theorem c_X4_init (l : Launch) (G : gT) (w : wT) (tg : tT) (h0 : Nat) (hg : tg h0 = (0, 0)) (h1 : w h0 = some (cTs none none none none 0 0)) : Met l yX4_init wsX4_init ({ frames := 2, cells := 8, slots := 26, locals := 36 }) (va_Pc [.ref h0] (wG G w)) (Qv G (fun w' => ∃ tg', RepC G tg' w' h0 0 y0 ∧ Fr w tg w' tg')) 8 26 (fr G) := by
  refine f_met (cc := cX4_init) (maxL := 2) (ret := none) (by decide) rfl rfl (Nat.le_of_ble_eq_true rfl) ?_
  intro p e s m below meth cd X hr hlk hnm Z ls hl
  have X : CallFix p m cd cX4_init 2 s [.ref h0].toArray wsX4_init RX4 := X
  have hl : lV ls _ [some (.ref h0), none] := hl
  have i2 : ∀ w ∈ wsX20, w ∈ wsX4_init := by decide +kernel
  have i4 : ∀ w ∈ wsX40, w ∈ wsX4_init := by decide +kernel
  refine f_aload (v := .ref h0) X hl ⟨_, rfl, dX4_init_0⟩ rfl ⟨(some h0), rfl⟩ ?_
  refine W.objInit X.1 X.2.1 X.2.2.2.1 (X.2.2.2.2 (.methodLink RX4 1 objectInit) (by decide +kernel)) (X.2.2.2.2 (.instanceMethod objectInit) (by decide +kernel)) (X.2.2.2.2 (.code objectInit ⟨#[0xb1]⟩ 1 none) (by decide +kernel)) rfl (by rw [X.2.2.1]; exact hl.1) rfl dX4_init_1 (Nat.le_of_ble_eq_true rfl) (Nat.le_of_ble_eq_true rfl) ?_
  refine W.eq (g2 := F0 m 4 ls []) rfl ?_
  refine f_aload (v := .ref h0) X hl ⟨_, rfl, dX4_init_4⟩ rfl ⟨(some h0), rfl⟩ ?_
  refine lv_bipush (v := 6) X.1 X.2.1 dX4_init_5 (by decide) ?_
  refine f_anew (ti := 2) X Z rfl (by decide +kernel) Z.2.2.2.2.1 (by decide) rfl (by decide) (Nat.le_of_ble_eq_true rfl) (Nat.le_of_ble_eq_true rfl) dX4_init_7 (fun q7 H w1 hq7 e2 Z => ?_)
  have e2 : w1 = va_up w q7 (some (aT G 6 (fun _ => none))) := e2
  have n_h0_q7 : h0 ≠ q7 := ad_new h1 hq7
  have b_q7 : w q7 = none := Fr.back (Fr.rf (tg := tg)) hq7
  have fr5 : Fr w tg w1 (va_up tg q7 (1, 0)) := by rw [e2]; exact Fr.rf.new b_q7
  have k3 : w1 h0 = some (cTs none none none none 0 0) := by rw [e2]; exact lk_ne (ad_new h1 hq7) h1
  have k4 : w1 q7 = some (aT G 6 (fun _ => none)) := by rw [e2]; exact up_eq
  refine f_putF (v := .ref q7) (ty0 := tyX4) (k := 0) X Z i4 tyX4_ok nmX4 rfl (by decide) (by decide +kernel) rfl hnm rfl dX4_init_10 k3 (nr_a _ (some q7)) (ft_a _ (some q7)) (Nat.le_of_ble_eq_true rfl) (fun H locs w6 e7 Z => ?_)
  have e7 : w6 = va_up w1 h0 (some (cTs (some q7) none none none 0 0)) := e7
  have fr10 : Fr w tg w6 (va_up tg q7 (1, 0)) := by rw [e7]; exact fr5.put (τ := (0, 0)) (by simp [va_up, n_h0_q7, hg]) (by decide)
  have k8 : w6 q7 = some (aT G 6 (fun _ => none)) := by rw [e7]; exact lk_ne (ad_ne k4 k3 dx_io) k4
  have k9 : w6 h0 = some (cTs (some q7) none none none 0 0) := by rw [e7]; exact up_eq
  refine f_aload (v := .ref h0) X hl ⟨_, rfl, dX4_init_13⟩ rfl ⟨(some h0), rfl⟩ ?_
  refine lv_bipush (v := 8) X.1 X.2.1 dX4_init_14 (by decide) ?_
  refine f_newa (ti := 0) X Z rfl (by decide +kernel) rfl (fun _ h => by cases h) rfl (by decide) rfl (by decide) (Nat.le_of_ble_eq_true rfl) (Nat.le_of_ble_eq_true rfl) dX4_init_16 (fun q16 H w11 hq16 e12 Z => ?_)
  have e12 : w11 = va_up w6 q16 (some (aI G 8 (fun _ => 0))) := e12
  have n_h0_q16 : h0 ≠ q16 := ad_new k9 hq16
  have n_q7_q16 : q7 ≠ q16 := ad_new k8 hq16
  have b_q16 : w q16 = none := Fr.back fr10 hq16
  have fr16 : Fr w tg w11 (va_up (va_up tg q7 (1, 0)) q16 (2, 0)) := by rw [e12]; exact fr10.new b_q16
  have k13 : w11 q7 = some (aT G 6 (fun _ => none)) := by rw [e12]; exact lk_ne (ad_new k8 hq16) k8
  have k14 : w11 h0 = some (cTs (some q7) none none none 0 0) := by rw [e12]; exact lk_ne (ad_new k9 hq16) k9
  have k15 : w11 q16 = some (aI G 8 (fun _ => 0)) := by rw [e12]; exact up_eq
  refine f_putF (v := .ref q16) (ty0 := tyX4) (k := 1) X Z i4 tyX4_ok nmX4 rfl (by decide) (by decide +kernel) rfl hnm rfl dX4_init_18 k14 (nr_a _ (some q16)) (ft_a _ (some q16)) (Nat.le_of_ble_eq_true rfl) (fun H locs w17 e18 Z => ?_)
  have e18 : w17 = va_up w11 h0 (some (cTs (some q7) (some q16) none none 0 0)) := e18
  have fr22 : Fr w tg w17 (va_up (va_up tg q7 (1, 0)) q16 (2, 0)) := by rw [e18]; exact fr16.put (τ := (0, 0)) (by simp [va_up, n_h0_q7, n_h0_q16, hg]) (by decide)
  have k19 : w17 q7 = some (aT G 6 (fun _ => none)) := by rw [e18]; exact lk_ne (ad_ne k13 k14 dx_io) k13
  have k20 : w17 q16 = some (aI G 8 (fun _ => 0)) := by rw [e18]; exact lk_ne (ad_ne k15 k14 dx_io) k15
  have k21 : w17 h0 = some (cTs (some q7) (some q16) none none 0 0) := by rw [e18]; exact up_eq
  refine lv_iconst (v := 0) X.1 X.2.1 dX4_init_21 (by decide) ?_
  refine f_istore X hl ⟨_, rfl, dX4_init_22⟩ (by decide) (fun ls hl => ?_)
  have hl : lV ls _ [some (.ref h0), some (.int 0)] := hl
  refine f_iload X hl ⟨_, rfl, dX4_init_23⟩ rfl ?_
  refine lv_bipush (v := 6) X.1 X.2.1 dX4_init_24 (by decide) ?_
  refine lv_icmp_ge (tgt := 48) X.1 X.2.1 dX4_init_26 (by decide) (fun c26 => ?_) (fun c26 => ?_)
  · exact absurd c26 (by decide)
  · refine f_aload (v := .ref h0) X hl ⟨_, rfl, dX4_init_29⟩ rfl ⟨(some h0), rfl⟩ ?_
    refine f_get (v := .ref q7) (k := 0) X Z i4 rfl (by decide) (by decide +kernel) dX4_init_30 k21 rfl ?_
    refine f_iload X hl ⟨_, rfl, dX4_init_33⟩ rfl ?_
    refine f_new (ci := 2) (ty := tyX2) (fs := [.null, .int 0]) X Z i2 tyX2_ok rfl (by decide +kernel) (by decide +kernel) (by decide +kernel) (fun j hj => by rcases (show j = 0 ∨ j = 1 by omega) with rfl | rfl <;> rfl) dX4_init_34 (Nat.le_of_ble_eq_true rfl) (Nat.le_of_ble_eq_true rfl) (fun q34 H w23 hq34 e24 Z => ?_)
    have e24 : w23 = va_up w17 q34 (some (cTrk none 0)) := e24
    have n_h0_q34 : h0 ≠ q34 := ad_new k21 hq34
    have n_q7_q34 : q7 ≠ q34 := ad_new k19 hq34
    have n_q16_q34 : q16 ≠ q34 := ad_new k20 hq34
    have b_q34 : w q34 = none := Fr.back fr22 hq34
    have fr29 : Fr w tg w23 (va_up (va_up (va_up tg q7 (1, 0)) q16 (2, 0)) q34 (3, 0)) := by rw [e24]; exact fr22.new b_q34
    have k25 : w23 q7 = some (aT G 6 (fun _ => none)) := by rw [e24]; exact lk_ne (ad_new k19 hq34) k19
    have k26 : w23 q16 = some (aI G 8 (fun _ => 0)) := by rw [e24]; exact lk_ne (ad_new k20 hq34) k20
    have k27 : w23 h0 = some (cTs (some q7) (some q16) none none 0 0) := by rw [e24]; exact lk_ne (ad_new k21 hq34) k21
    have k28 : w23 q34 = some (cTrk none 0) := by rw [e24]; exact up_eq
    refine lv_dup X.1 X.2.1 dX4_init_37 rfl ?_
    refine f_callINv (rest := [.ref q34, .int 0, .ref q7]) X Z hl.1 (c_X2_init l G w23 q34) ⟨va_cnB 0 X.2.2.2.2 gX4_init_X2_init_n19 rfl rfl rfl Z.2.2.2.2.2.2 (X.2.2.2.2 (.initialized RX2) (by decide +kernel)) (by decide +kernel) ⟨(Nat.le_of_ble_eq_true rfl), (Nat.le_of_ble_eq_true rfl)⟩, rfl, X.2.2.2.2 (.instanceMethod yX2_init) (by decide +kernel)⟩ rfl dX4_init_38 ⟨(Nat.le_of_ble_eq_true rfl), (Nat.le_of_ble_eq_true rfl)⟩ rfl (Nat.le_of_ble_eq_true rfl) (fun w30 H locs p38 Z => ?_)
    have p38 := p38.symm
    subst p38
    refine f_aast (ti := 2) (ci := 2) X Z rfl rfl dX4_init_41 k25 k28 (by unfold vp_in; decide) (fun H locs w31 e32 Z => ?_)
    have e32 : w31 = va_up w23 q7 (some (aT G 6 (va_up (fun _ => none) ((0 : Int32).toNatClampNeg) (some q34)))) := e32
    have fr37 : Fr w tg w31 (va_up (va_up (va_up tg q7 (1, 0)) q16 (2, 0)) q34 (3, 0)) := by rw [e32]; exact fr29.put (τ := (1, 0)) (by simp [va_up, n_q7_q16, n_q7_q34, hg]) (by decide)
    have k33 : w31 q16 = some (aI G 8 (fun _ => 0)) := by rw [e32]; exact lk_ne (ad_ne k26 k25 dx_ir) k26
    have k34 : w31 h0 = some (cTs (some q7) (some q16) none none 0 0) := by rw [e32]; exact lk_ne (ad_ne k27 k25 dx_oi) k27
    have k35 : w31 q34 = some (cTrk none 0) := by rw [e32]; exact lk_ne (ad_ne k28 k25 dx_oi) k28
    have k36 : w31 q7 = some (aT G 6 (va_up (fun _ => none) ((0 : Int32).toNatClampNeg) (some q34))) := by rw [e32]; exact up_eq
    refine f_iinc (v := 1) X hl dX4_init_42 (by decide) rfl (by decide) (fun ls hl => ?_)
    have hl : lV ls _ [some (.ref h0), some (.int (0 + 1))] := hl
    refine lv_goto (tgt := 23) X.1 X.2.1 dX4_init_45 (by decide) ?_
    refine f_iload X hl ⟨_, rfl, dX4_init_23⟩ rfl ?_
    refine lv_bipush (v := 6) X.1 X.2.1 dX4_init_24 (by decide) ?_
    refine lv_icmp_ge (tgt := 48) X.1 X.2.1 dX4_init_26 (by decide) (fun c26 => ?_) (fun c26 => ?_)
    · exact absurd c26 (by decide)
    · refine f_aload (v := .ref h0) X hl ⟨_, rfl, dX4_init_29⟩ rfl ⟨(some h0), rfl⟩ ?_
      refine f_get (v := .ref q7) (k := 0) X Z i4 rfl (by decide) (by decide +kernel) dX4_init_30 k34 rfl ?_
      refine f_iload X hl ⟨_, rfl, dX4_init_33⟩ rfl ?_
      refine f_new (ci := 2) (ty := tyX2) (fs := [.null, .int 0]) X Z i2 tyX2_ok rfl (by decide +kernel) (by decide +kernel) (by decide +kernel) (fun j hj => by rcases (show j = 0 ∨ j = 1 by omega) with rfl | rfl <;> rfl) dX4_init_34 (Nat.le_of_ble_eq_true rfl) (Nat.le_of_ble_eq_true rfl) (fun q38 H w39 hq38 e40 Z => ?_)
      have e40 : w39 = va_up w31 q38 (some (cTrk none 0)) := e40
      have n_h0_q38 : h0 ≠ q38 := ad_new k34 hq38
      have n_q7_q38 : q7 ≠ q38 := ad_new k36 hq38
      have n_q16_q38 : q16 ≠ q38 := ad_new k33 hq38
      have n_q34_q38 : q34 ≠ q38 := ad_new k35 hq38
      have b_q38 : w q38 = none := Fr.back fr37 hq38
      have fr46 : Fr w tg w39 (va_up (va_up (va_up (va_up tg q7 (1, 0)) q16 (2, 0)) q34 (3, 0)) q38 (3, 1)) := by rw [e40]; exact fr37.new b_q38
      have k41 : w39 q16 = some (aI G 8 (fun _ => 0)) := by rw [e40]; exact lk_ne (ad_new k33 hq38) k33
      have k42 : w39 h0 = some (cTs (some q7) (some q16) none none 0 0) := by rw [e40]; exact lk_ne (ad_new k34 hq38) k34
      have k43 : w39 q34 = some (cTrk none 0) := by rw [e40]; exact lk_ne (ad_new k35 hq38) k35
      have k44 : w39 q7 = some (aT G 6 (va_up (fun _ => none) ((0 : Int32).toNatClampNeg) (some q34))) := by rw [e40]; exact lk_ne (ad_new k36 hq38) k36
      have k45 : w39 q38 = some (cTrk none 0) := by rw [e40]; exact up_eq
      refine lv_dup X.1 X.2.1 dX4_init_37 rfl ?_
      refine f_callINv (rest := [.ref q38, .int (0 + 1), .ref q7]) X Z hl.1 (c_X2_init l G w39 q38) ⟨va_cnB 0 X.2.2.2.2 gX4_init_X2_init_n19 rfl rfl rfl Z.2.2.2.2.2.2 (X.2.2.2.2 (.initialized RX2) (by decide +kernel)) (by decide +kernel) ⟨(Nat.le_of_ble_eq_true rfl), (Nat.le_of_ble_eq_true rfl)⟩, rfl, X.2.2.2.2 (.instanceMethod yX2_init) (by decide +kernel)⟩ rfl dX4_init_38 ⟨(Nat.le_of_ble_eq_true rfl), (Nat.le_of_ble_eq_true rfl)⟩ rfl (Nat.le_of_ble_eq_true rfl) (fun w47 H locs p38 Z => ?_)
      have p38 := p38.symm
      subst p38
      refine f_aast (ti := 2) (ci := 2) X Z rfl rfl dX4_init_41 k44 k45 (by unfold vp_in; decide) (fun H locs w48 e49 Z => ?_)
      have e49 : w48 = va_up w39 q7 (some (aT G 6 (va_up (va_up (fun _ => none) ((0 : Int32).toNatClampNeg) (some q34)) (((0 + 1) : Int32).toNatClampNeg) (some q38)))) := e49
      have fr55 : Fr w tg w48 (va_up (va_up (va_up (va_up tg q7 (1, 0)) q16 (2, 0)) q34 (3, 0)) q38 (3, 1)) := by rw [e49]; exact fr46.put (τ := (1, 0)) (by simp [va_up, n_q7_q16, n_q7_q34, n_q7_q38, hg]) (by decide)
      have k50 : w48 q16 = some (aI G 8 (fun _ => 0)) := by rw [e49]; exact lk_ne (ad_ne k41 k44 dx_ir) k41
      have k51 : w48 h0 = some (cTs (some q7) (some q16) none none 0 0) := by rw [e49]; exact lk_ne (ad_ne k42 k44 dx_oi) k42
      have k52 : w48 q34 = some (cTrk none 0) := by rw [e49]; exact lk_ne (ad_ne k43 k44 dx_oi) k43
      have k53 : w48 q38 = some (cTrk none 0) := by rw [e49]; exact lk_ne (ad_ne k45 k44 dx_oi) k45
      have k54 : w48 q7 = some (aT G 6 (va_up (va_up (fun _ => none) ((0 : Int32).toNatClampNeg) (some q34)) (((0 + 1) : Int32).toNatClampNeg) (some q38))) := by rw [e49]; exact up_eq
      refine f_iinc (v := 1) X hl dX4_init_42 (by decide) rfl (by decide) (fun ls hl => ?_)
      have hl : lV ls _ [some (.ref h0), some (.int ((0 + 1) + 1))] := hl
      refine lv_goto (tgt := 23) X.1 X.2.1 dX4_init_45 (by decide) ?_
      refine f_iload X hl ⟨_, rfl, dX4_init_23⟩ rfl ?_
      refine lv_bipush (v := 6) X.1 X.2.1 dX4_init_24 (by decide) ?_
      refine lv_icmp_ge (tgt := 48) X.1 X.2.1 dX4_init_26 (by decide) (fun c26 => ?_) (fun c26 => ?_)
      · exact absurd c26 (by decide)
      · refine f_aload (v := .ref h0) X hl ⟨_, rfl, dX4_init_29⟩ rfl ⟨(some h0), rfl⟩ ?_
        refine f_get (v := .ref q7) (k := 0) X Z i4 rfl (by decide) (by decide +kernel) dX4_init_30 k51 rfl ?_
        refine f_iload X hl ⟨_, rfl, dX4_init_33⟩ rfl ?_
        refine f_new (ci := 2) (ty := tyX2) (fs := [.null, .int 0]) X Z i2 tyX2_ok rfl (by decide +kernel) (by decide +kernel) (by decide +kernel) (fun j hj => by rcases (show j = 0 ∨ j = 1 by omega) with rfl | rfl <;> rfl) dX4_init_34 (Nat.le_of_ble_eq_true rfl) (Nat.le_of_ble_eq_true rfl) (fun q56 H w57 hq56 e58 Z => ?_)
        have e58 : w57 = va_up w48 q56 (some (cTrk none 0)) := e58
        have n_h0_q56 : h0 ≠ q56 := ad_new k51 hq56
        have n_q7_q56 : q7 ≠ q56 := ad_new k54 hq56
        have n_q16_q56 : q16 ≠ q56 := ad_new k50 hq56
        have n_q34_q56 : q34 ≠ q56 := ad_new k52 hq56
        have n_q38_q56 : q38 ≠ q56 := ad_new k53 hq56
        have b_q56 : w q56 = none := Fr.back fr55 hq56
        have fr65 : Fr w tg w57 (va_up (va_up (va_up (va_up (va_up tg q7 (1, 0)) q16 (2, 0)) q34 (3, 0)) q38 (3, 1)) q56 (3, 2)) := by rw [e58]; exact fr55.new b_q56
        have k59 : w57 q16 = some (aI G 8 (fun _ => 0)) := by rw [e58]; exact lk_ne (ad_new k50 hq56) k50
        have k60 : w57 h0 = some (cTs (some q7) (some q16) none none 0 0) := by rw [e58]; exact lk_ne (ad_new k51 hq56) k51
        have k61 : w57 q34 = some (cTrk none 0) := by rw [e58]; exact lk_ne (ad_new k52 hq56) k52
        have k62 : w57 q38 = some (cTrk none 0) := by rw [e58]; exact lk_ne (ad_new k53 hq56) k53
        have k63 : w57 q7 = some (aT G 6 (va_up (va_up (fun _ => none) ((0 : Int32).toNatClampNeg) (some q34)) (((0 + 1) : Int32).toNatClampNeg) (some q38))) := by rw [e58]; exact lk_ne (ad_new k54 hq56) k54
        have k64 : w57 q56 = some (cTrk none 0) := by rw [e58]; exact up_eq
        refine lv_dup X.1 X.2.1 dX4_init_37 rfl ?_
        refine f_callINv (rest := [.ref q56, .int ((0 + 1) + 1), .ref q7]) X Z hl.1 (c_X2_init l G w57 q56) ⟨va_cnB 0 X.2.2.2.2 gX4_init_X2_init_n19 rfl rfl rfl Z.2.2.2.2.2.2 (X.2.2.2.2 (.initialized RX2) (by decide +kernel)) (by decide +kernel) ⟨(Nat.le_of_ble_eq_true rfl), (Nat.le_of_ble_eq_true rfl)⟩, rfl, X.2.2.2.2 (.instanceMethod yX2_init) (by decide +kernel)⟩ rfl dX4_init_38 ⟨(Nat.le_of_ble_eq_true rfl), (Nat.le_of_ble_eq_true rfl)⟩ rfl (Nat.le_of_ble_eq_true rfl) (fun w66 H locs p38 Z => ?_)
        have p38 := p38.symm
        subst p38
        refine f_aast (ti := 2) (ci := 2) X Z rfl rfl dX4_init_41 k63 k64 (by unfold vp_in; decide) (fun H locs w67 e68 Z => ?_)
        have e68 : w67 = va_up w57 q7 (some (aT G 6 (va_up (va_up (va_up (fun _ => none) ((0 : Int32).toNatClampNeg) (some q34)) (((0 + 1) : Int32).toNatClampNeg) (some q38)) ((((0 + 1) + 1) : Int32).toNatClampNeg) (some q56)))) := e68
        have fr75 : Fr w tg w67 (va_up (va_up (va_up (va_up (va_up tg q7 (1, 0)) q16 (2, 0)) q34 (3, 0)) q38 (3, 1)) q56 (3, 2)) := by rw [e68]; exact fr65.put (τ := (1, 0)) (by simp [va_up, n_q7_q16, n_q7_q34, n_q7_q38, n_q7_q56, hg]) (by decide)
        have k69 : w67 q16 = some (aI G 8 (fun _ => 0)) := by rw [e68]; exact lk_ne (ad_ne k59 k63 dx_ir) k59
        have k70 : w67 h0 = some (cTs (some q7) (some q16) none none 0 0) := by rw [e68]; exact lk_ne (ad_ne k60 k63 dx_oi) k60
        have k71 : w67 q34 = some (cTrk none 0) := by rw [e68]; exact lk_ne (ad_ne k61 k63 dx_oi) k61
        have k72 : w67 q38 = some (cTrk none 0) := by rw [e68]; exact lk_ne (ad_ne k62 k63 dx_oi) k62
        have k73 : w67 q56 = some (cTrk none 0) := by rw [e68]; exact lk_ne (ad_ne k64 k63 dx_oi) k64
        have k74 : w67 q7 = some (aT G 6 (va_up (va_up (va_up (fun _ => none) ((0 : Int32).toNatClampNeg) (some q34)) (((0 + 1) : Int32).toNatClampNeg) (some q38)) ((((0 + 1) + 1) : Int32).toNatClampNeg) (some q56))) := by rw [e68]; exact up_eq
        refine f_iinc (v := 1) X hl dX4_init_42 (by decide) rfl (by decide) (fun ls hl => ?_)
        have hl : lV ls _ [some (.ref h0), some (.int (((0 + 1) + 1) + 1))] := hl
        refine lv_goto (tgt := 23) X.1 X.2.1 dX4_init_45 (by decide) ?_
        refine f_iload X hl ⟨_, rfl, dX4_init_23⟩ rfl ?_
        refine lv_bipush (v := 6) X.1 X.2.1 dX4_init_24 (by decide) ?_
        refine lv_icmp_ge (tgt := 48) X.1 X.2.1 dX4_init_26 (by decide) (fun c26 => ?_) (fun c26 => ?_)
        · exact absurd c26 (by decide)
        · refine f_aload (v := .ref h0) X hl ⟨_, rfl, dX4_init_29⟩ rfl ⟨(some h0), rfl⟩ ?_
          refine f_get (v := .ref q7) (k := 0) X Z i4 rfl (by decide) (by decide +kernel) dX4_init_30 k70 rfl ?_
          refine f_iload X hl ⟨_, rfl, dX4_init_33⟩ rfl ?_
          refine f_new (ci := 2) (ty := tyX2) (fs := [.null, .int 0]) X Z i2 tyX2_ok rfl (by decide +kernel) (by decide +kernel) (by decide +kernel) (fun j hj => by rcases (show j = 0 ∨ j = 1 by omega) with rfl | rfl <;> rfl) dX4_init_34 (Nat.le_of_ble_eq_true rfl) (Nat.le_of_ble_eq_true rfl) (fun q76 H w77 hq76 e78 Z => ?_)
          have e78 : w77 = va_up w67 q76 (some (cTrk none 0)) := e78
          have n_h0_q76 : h0 ≠ q76 := ad_new k70 hq76
          have n_q7_q76 : q7 ≠ q76 := ad_new k74 hq76
          have n_q16_q76 : q16 ≠ q76 := ad_new k69 hq76
          have n_q34_q76 : q34 ≠ q76 := ad_new k71 hq76
          have n_q38_q76 : q38 ≠ q76 := ad_new k72 hq76
          have n_q56_q76 : q56 ≠ q76 := ad_new k73 hq76
          have b_q76 : w q76 = none := Fr.back fr75 hq76
          have fr86 : Fr w tg w77 (va_up (va_up (va_up (va_up (va_up (va_up tg q7 (1, 0)) q16 (2, 0)) q34 (3, 0)) q38 (3, 1)) q56 (3, 2)) q76 (3, 3)) := by rw [e78]; exact fr75.new b_q76
          have k79 : w77 q16 = some (aI G 8 (fun _ => 0)) := by rw [e78]; exact lk_ne (ad_new k69 hq76) k69
          have k80 : w77 h0 = some (cTs (some q7) (some q16) none none 0 0) := by rw [e78]; exact lk_ne (ad_new k70 hq76) k70
          have k81 : w77 q34 = some (cTrk none 0) := by rw [e78]; exact lk_ne (ad_new k71 hq76) k71
          have k82 : w77 q38 = some (cTrk none 0) := by rw [e78]; exact lk_ne (ad_new k72 hq76) k72
          have k83 : w77 q56 = some (cTrk none 0) := by rw [e78]; exact lk_ne (ad_new k73 hq76) k73
          have k84 : w77 q7 = some (aT G 6 (va_up (va_up (va_up (fun _ => none) ((0 : Int32).toNatClampNeg) (some q34)) (((0 + 1) : Int32).toNatClampNeg) (some q38)) ((((0 + 1) + 1) : Int32).toNatClampNeg) (some q56))) := by rw [e78]; exact lk_ne (ad_new k74 hq76) k74
          have k85 : w77 q76 = some (cTrk none 0) := by rw [e78]; exact up_eq
          refine lv_dup X.1 X.2.1 dX4_init_37 rfl ?_
          refine f_callINv (rest := [.ref q76, .int (((0 + 1) + 1) + 1), .ref q7]) X Z hl.1 (c_X2_init l G w77 q76) ⟨va_cnB 0 X.2.2.2.2 gX4_init_X2_init_n19 rfl rfl rfl Z.2.2.2.2.2.2 (X.2.2.2.2 (.initialized RX2) (by decide +kernel)) (by decide +kernel) ⟨(Nat.le_of_ble_eq_true rfl), (Nat.le_of_ble_eq_true rfl)⟩, rfl, X.2.2.2.2 (.instanceMethod yX2_init) (by decide +kernel)⟩ rfl dX4_init_38 ⟨(Nat.le_of_ble_eq_true rfl), (Nat.le_of_ble_eq_true rfl)⟩ rfl (Nat.le_of_ble_eq_true rfl) (fun w87 H locs p38 Z => ?_)
          have p38 := p38.symm
          subst p38
          refine f_aast (ti := 2) (ci := 2) X Z rfl rfl dX4_init_41 k84 k85 (by unfold vp_in; decide) (fun H locs w88 e89 Z => ?_)
          have e89 : w88 = va_up w77 q7 (some (aT G 6 (va_up (va_up (va_up (va_up (fun _ => none) ((0 : Int32).toNatClampNeg) (some q34)) (((0 + 1) : Int32).toNatClampNeg) (some q38)) ((((0 + 1) + 1) : Int32).toNatClampNeg) (some q56)) (((((0 + 1) + 1) + 1) : Int32).toNatClampNeg) (some q76)))) := e89
          have fr97 : Fr w tg w88 (va_up (va_up (va_up (va_up (va_up (va_up tg q7 (1, 0)) q16 (2, 0)) q34 (3, 0)) q38 (3, 1)) q56 (3, 2)) q76 (3, 3)) := by rw [e89]; exact fr86.put (τ := (1, 0)) (by simp [va_up, n_q7_q16, n_q7_q34, n_q7_q38, n_q7_q56, n_q7_q76, hg]) (by decide)
          have k90 : w88 q16 = some (aI G 8 (fun _ => 0)) := by rw [e89]; exact lk_ne (ad_ne k79 k84 dx_ir) k79
          have k91 : w88 h0 = some (cTs (some q7) (some q16) none none 0 0) := by rw [e89]; exact lk_ne (ad_ne k80 k84 dx_oi) k80
          have k92 : w88 q34 = some (cTrk none 0) := by rw [e89]; exact lk_ne (ad_ne k81 k84 dx_oi) k81
          have k93 : w88 q38 = some (cTrk none 0) := by rw [e89]; exact lk_ne (ad_ne k82 k84 dx_oi) k82
          have k94 : w88 q56 = some (cTrk none 0) := by rw [e89]; exact lk_ne (ad_ne k83 k84 dx_oi) k83
          have k95 : w88 q76 = some (cTrk none 0) := by rw [e89]; exact lk_ne (ad_ne k85 k84 dx_oi) k85
          have k96 : w88 q7 = some (aT G 6 (va_up (va_up (va_up (va_up (fun _ => none) ((0 : Int32).toNatClampNeg) (some q34)) (((0 + 1) : Int32).toNatClampNeg) (some q38)) ((((0 + 1) + 1) : Int32).toNatClampNeg) (some q56)) (((((0 + 1) + 1) + 1) : Int32).toNatClampNeg) (some q76))) := by rw [e89]; exact up_eq
          refine f_iinc (v := 1) X hl dX4_init_42 (by decide) rfl (by decide) (fun ls hl => ?_)
          have hl : lV ls _ [some (.ref h0), some (.int ((((0 + 1) + 1) + 1) + 1))] := hl
          refine lv_goto (tgt := 23) X.1 X.2.1 dX4_init_45 (by decide) ?_
          refine f_iload X hl ⟨_, rfl, dX4_init_23⟩ rfl ?_
          refine lv_bipush (v := 6) X.1 X.2.1 dX4_init_24 (by decide) ?_
          refine lv_icmp_ge (tgt := 48) X.1 X.2.1 dX4_init_26 (by decide) (fun c26 => ?_) (fun c26 => ?_)
          · exact absurd c26 (by decide)
          · refine f_aload (v := .ref h0) X hl ⟨_, rfl, dX4_init_29⟩ rfl ⟨(some h0), rfl⟩ ?_
            refine f_get (v := .ref q7) (k := 0) X Z i4 rfl (by decide) (by decide +kernel) dX4_init_30 k91 rfl ?_
            refine f_iload X hl ⟨_, rfl, dX4_init_33⟩ rfl ?_
            refine f_new (ci := 2) (ty := tyX2) (fs := [.null, .int 0]) X Z i2 tyX2_ok rfl (by decide +kernel) (by decide +kernel) (by decide +kernel) (fun j hj => by rcases (show j = 0 ∨ j = 1 by omega) with rfl | rfl <;> rfl) dX4_init_34 (Nat.le_of_ble_eq_true rfl) (Nat.le_of_ble_eq_true rfl) (fun q98 H w99 hq98 e100 Z => ?_)
            have e100 : w99 = va_up w88 q98 (some (cTrk none 0)) := e100
            have n_h0_q98 : h0 ≠ q98 := ad_new k91 hq98
            have n_q7_q98 : q7 ≠ q98 := ad_new k96 hq98
            have n_q16_q98 : q16 ≠ q98 := ad_new k90 hq98
            have n_q34_q98 : q34 ≠ q98 := ad_new k92 hq98
            have n_q38_q98 : q38 ≠ q98 := ad_new k93 hq98
            have n_q56_q98 : q56 ≠ q98 := ad_new k94 hq98
            have n_q76_q98 : q76 ≠ q98 := ad_new k95 hq98
            have b_q98 : w q98 = none := Fr.back fr97 hq98
            have fr109 : Fr w tg w99 (va_up (va_up (va_up (va_up (va_up (va_up (va_up tg q7 (1, 0)) q16 (2, 0)) q34 (3, 0)) q38 (3, 1)) q56 (3, 2)) q76 (3, 3)) q98 (3, 4)) := by rw [e100]; exact fr97.new b_q98
            have k101 : w99 q16 = some (aI G 8 (fun _ => 0)) := by rw [e100]; exact lk_ne (ad_new k90 hq98) k90
            have k102 : w99 h0 = some (cTs (some q7) (some q16) none none 0 0) := by rw [e100]; exact lk_ne (ad_new k91 hq98) k91
            have k103 : w99 q34 = some (cTrk none 0) := by rw [e100]; exact lk_ne (ad_new k92 hq98) k92
            have k104 : w99 q38 = some (cTrk none 0) := by rw [e100]; exact lk_ne (ad_new k93 hq98) k93
            have k105 : w99 q56 = some (cTrk none 0) := by rw [e100]; exact lk_ne (ad_new k94 hq98) k94
            have k106 : w99 q76 = some (cTrk none 0) := by rw [e100]; exact lk_ne (ad_new k95 hq98) k95
            have k107 : w99 q7 = some (aT G 6 (va_up (va_up (va_up (va_up (fun _ => none) ((0 : Int32).toNatClampNeg) (some q34)) (((0 + 1) : Int32).toNatClampNeg) (some q38)) ((((0 + 1) + 1) : Int32).toNatClampNeg) (some q56)) (((((0 + 1) + 1) + 1) : Int32).toNatClampNeg) (some q76))) := by rw [e100]; exact lk_ne (ad_new k96 hq98) k96
            have k108 : w99 q98 = some (cTrk none 0) := by rw [e100]; exact up_eq
            refine lv_dup X.1 X.2.1 dX4_init_37 rfl ?_
            refine f_callINv (rest := [.ref q98, .int ((((0 + 1) + 1) + 1) + 1), .ref q7]) X Z hl.1 (c_X2_init l G w99 q98) ⟨va_cnB 0 X.2.2.2.2 gX4_init_X2_init_n19 rfl rfl rfl Z.2.2.2.2.2.2 (X.2.2.2.2 (.initialized RX2) (by decide +kernel)) (by decide +kernel) ⟨(Nat.le_of_ble_eq_true rfl), (Nat.le_of_ble_eq_true rfl)⟩, rfl, X.2.2.2.2 (.instanceMethod yX2_init) (by decide +kernel)⟩ rfl dX4_init_38 ⟨(Nat.le_of_ble_eq_true rfl), (Nat.le_of_ble_eq_true rfl)⟩ rfl (Nat.le_of_ble_eq_true rfl) (fun w110 H locs p38 Z => ?_)
            have p38 := p38.symm
            subst p38
            refine f_aast (ti := 2) (ci := 2) X Z rfl rfl dX4_init_41 k107 k108 (by unfold vp_in; decide) (fun H locs w111 e112 Z => ?_)
            have e112 : w111 = va_up w99 q7 (some (aT G 6 (va_up (va_up (va_up (va_up (va_up (fun _ => none) ((0 : Int32).toNatClampNeg) (some q34)) (((0 + 1) : Int32).toNatClampNeg) (some q38)) ((((0 + 1) + 1) : Int32).toNatClampNeg) (some q56)) (((((0 + 1) + 1) + 1) : Int32).toNatClampNeg) (some q76)) ((((((0 + 1) + 1) + 1) + 1) : Int32).toNatClampNeg) (some q98)))) := e112
            have fr121 : Fr w tg w111 (va_up (va_up (va_up (va_up (va_up (va_up (va_up tg q7 (1, 0)) q16 (2, 0)) q34 (3, 0)) q38 (3, 1)) q56 (3, 2)) q76 (3, 3)) q98 (3, 4)) := by rw [e112]; exact fr109.put (τ := (1, 0)) (by simp [va_up, n_q7_q16, n_q7_q34, n_q7_q38, n_q7_q56, n_q7_q76, n_q7_q98, hg]) (by decide)
            have k113 : w111 q16 = some (aI G 8 (fun _ => 0)) := by rw [e112]; exact lk_ne (ad_ne k101 k107 dx_ir) k101
            have k114 : w111 h0 = some (cTs (some q7) (some q16) none none 0 0) := by rw [e112]; exact lk_ne (ad_ne k102 k107 dx_oi) k102
            have k115 : w111 q34 = some (cTrk none 0) := by rw [e112]; exact lk_ne (ad_ne k103 k107 dx_oi) k103
            have k116 : w111 q38 = some (cTrk none 0) := by rw [e112]; exact lk_ne (ad_ne k104 k107 dx_oi) k104
            have k117 : w111 q56 = some (cTrk none 0) := by rw [e112]; exact lk_ne (ad_ne k105 k107 dx_oi) k105
            have k118 : w111 q76 = some (cTrk none 0) := by rw [e112]; exact lk_ne (ad_ne k106 k107 dx_oi) k106
            have k119 : w111 q98 = some (cTrk none 0) := by rw [e112]; exact lk_ne (ad_ne k108 k107 dx_oi) k108
            have k120 : w111 q7 = some (aT G 6 (va_up (va_up (va_up (va_up (va_up (fun _ => none) ((0 : Int32).toNatClampNeg) (some q34)) (((0 + 1) : Int32).toNatClampNeg) (some q38)) ((((0 + 1) + 1) : Int32).toNatClampNeg) (some q56)) (((((0 + 1) + 1) + 1) : Int32).toNatClampNeg) (some q76)) ((((((0 + 1) + 1) + 1) + 1) : Int32).toNatClampNeg) (some q98))) := by rw [e112]; exact up_eq
            refine f_iinc (v := 1) X hl dX4_init_42 (by decide) rfl (by decide) (fun ls hl => ?_)
            have hl : lV ls _ [some (.ref h0), some (.int (((((0 + 1) + 1) + 1) + 1) + 1))] := hl
            refine lv_goto (tgt := 23) X.1 X.2.1 dX4_init_45 (by decide) ?_
            refine f_iload X hl ⟨_, rfl, dX4_init_23⟩ rfl ?_
            refine lv_bipush (v := 6) X.1 X.2.1 dX4_init_24 (by decide) ?_
            refine lv_icmp_ge (tgt := 48) X.1 X.2.1 dX4_init_26 (by decide) (fun c26 => ?_) (fun c26 => ?_)
            · exact absurd c26 (by decide)
            · refine f_aload (v := .ref h0) X hl ⟨_, rfl, dX4_init_29⟩ rfl ⟨(some h0), rfl⟩ ?_
              refine f_get (v := .ref q7) (k := 0) X Z i4 rfl (by decide) (by decide +kernel) dX4_init_30 k114 rfl ?_
              refine f_iload X hl ⟨_, rfl, dX4_init_33⟩ rfl ?_
              refine f_new (ci := 2) (ty := tyX2) (fs := [.null, .int 0]) X Z i2 tyX2_ok rfl (by decide +kernel) (by decide +kernel) (by decide +kernel) (fun j hj => by rcases (show j = 0 ∨ j = 1 by omega) with rfl | rfl <;> rfl) dX4_init_34 (Nat.le_of_ble_eq_true rfl) (Nat.le_of_ble_eq_true rfl) (fun q122 H w123 hq122 e124 Z => ?_)
              have e124 : w123 = va_up w111 q122 (some (cTrk none 0)) := e124
              have n_h0_q122 : h0 ≠ q122 := ad_new k114 hq122
              have n_q7_q122 : q7 ≠ q122 := ad_new k120 hq122
              have n_q16_q122 : q16 ≠ q122 := ad_new k113 hq122
              have n_q34_q122 : q34 ≠ q122 := ad_new k115 hq122
              have n_q38_q122 : q38 ≠ q122 := ad_new k116 hq122
              have n_q56_q122 : q56 ≠ q122 := ad_new k117 hq122
              have n_q76_q122 : q76 ≠ q122 := ad_new k118 hq122
              have n_q98_q122 : q98 ≠ q122 := ad_new k119 hq122
              have b_q122 : w q122 = none := Fr.back fr121 hq122
              have fr134 : Fr w tg w123 (va_up (va_up (va_up (va_up (va_up (va_up (va_up (va_up tg q7 (1, 0)) q16 (2, 0)) q34 (3, 0)) q38 (3, 1)) q56 (3, 2)) q76 (3, 3)) q98 (3, 4)) q122 (3, 5)) := by rw [e124]; exact fr121.new b_q122
              have k125 : w123 q16 = some (aI G 8 (fun _ => 0)) := by rw [e124]; exact lk_ne (ad_new k113 hq122) k113
              have k126 : w123 h0 = some (cTs (some q7) (some q16) none none 0 0) := by rw [e124]; exact lk_ne (ad_new k114 hq122) k114
              have k127 : w123 q34 = some (cTrk none 0) := by rw [e124]; exact lk_ne (ad_new k115 hq122) k115
              have k128 : w123 q38 = some (cTrk none 0) := by rw [e124]; exact lk_ne (ad_new k116 hq122) k116
              have k129 : w123 q56 = some (cTrk none 0) := by rw [e124]; exact lk_ne (ad_new k117 hq122) k117
              have k130 : w123 q76 = some (cTrk none 0) := by rw [e124]; exact lk_ne (ad_new k118 hq122) k118
              have k131 : w123 q98 = some (cTrk none 0) := by rw [e124]; exact lk_ne (ad_new k119 hq122) k119
              have k132 : w123 q7 = some (aT G 6 (va_up (va_up (va_up (va_up (va_up (fun _ => none) ((0 : Int32).toNatClampNeg) (some q34)) (((0 + 1) : Int32).toNatClampNeg) (some q38)) ((((0 + 1) + 1) : Int32).toNatClampNeg) (some q56)) (((((0 + 1) + 1) + 1) : Int32).toNatClampNeg) (some q76)) ((((((0 + 1) + 1) + 1) + 1) : Int32).toNatClampNeg) (some q98))) := by rw [e124]; exact lk_ne (ad_new k120 hq122) k120
              have k133 : w123 q122 = some (cTrk none 0) := by rw [e124]; exact up_eq
              refine lv_dup X.1 X.2.1 dX4_init_37 rfl ?_
              refine f_callINv (rest := [.ref q122, .int (((((0 + 1) + 1) + 1) + 1) + 1), .ref q7]) X Z hl.1 (c_X2_init l G w123 q122) ⟨va_cnB 0 X.2.2.2.2 gX4_init_X2_init_n19 rfl rfl rfl Z.2.2.2.2.2.2 (X.2.2.2.2 (.initialized RX2) (by decide +kernel)) (by decide +kernel) ⟨(Nat.le_of_ble_eq_true rfl), (Nat.le_of_ble_eq_true rfl)⟩, rfl, X.2.2.2.2 (.instanceMethod yX2_init) (by decide +kernel)⟩ rfl dX4_init_38 ⟨(Nat.le_of_ble_eq_true rfl), (Nat.le_of_ble_eq_true rfl)⟩ rfl (Nat.le_of_ble_eq_true rfl) (fun w135 H locs p38 Z => ?_)
              have p38 := p38.symm
              subst p38
              refine f_aast (ti := 2) (ci := 2) X Z rfl rfl dX4_init_41 k132 k133 (by unfold vp_in; decide) (fun H locs w136 e137 Z => ?_)
              have e137 : w136 = va_up w123 q7 (some (aT G 6 (va_up (va_up (va_up (va_up (va_up (va_up (fun _ => none) ((0 : Int32).toNatClampNeg) (some q34)) (((0 + 1) : Int32).toNatClampNeg) (some q38)) ((((0 + 1) + 1) : Int32).toNatClampNeg) (some q56)) (((((0 + 1) + 1) + 1) : Int32).toNatClampNeg) (some q76)) ((((((0 + 1) + 1) + 1) + 1) : Int32).toNatClampNeg) (some q98)) (((((((0 + 1) + 1) + 1) + 1) + 1) : Int32).toNatClampNeg) (some q122)))) := e137
              have fr147 : Fr w tg w136 (va_up (va_up (va_up (va_up (va_up (va_up (va_up (va_up tg q7 (1, 0)) q16 (2, 0)) q34 (3, 0)) q38 (3, 1)) q56 (3, 2)) q76 (3, 3)) q98 (3, 4)) q122 (3, 5)) := by rw [e137]; exact fr134.put (τ := (1, 0)) (by simp [va_up, n_q7_q16, n_q7_q34, n_q7_q38, n_q7_q56, n_q7_q76, n_q7_q98, n_q7_q122, hg]) (by decide)
              have k138 : w136 q16 = some (aI G 8 (fun _ => 0)) := by rw [e137]; exact lk_ne (ad_ne k125 k132 dx_ir) k125
              have k139 : w136 h0 = some (cTs (some q7) (some q16) none none 0 0) := by rw [e137]; exact lk_ne (ad_ne k126 k132 dx_oi) k126
              have k140 : w136 q34 = some (cTrk none 0) := by rw [e137]; exact lk_ne (ad_ne k127 k132 dx_oi) k127
              have k141 : w136 q38 = some (cTrk none 0) := by rw [e137]; exact lk_ne (ad_ne k128 k132 dx_oi) k128
              have k142 : w136 q56 = some (cTrk none 0) := by rw [e137]; exact lk_ne (ad_ne k129 k132 dx_oi) k129
              have k143 : w136 q76 = some (cTrk none 0) := by rw [e137]; exact lk_ne (ad_ne k130 k132 dx_oi) k130
              have k144 : w136 q98 = some (cTrk none 0) := by rw [e137]; exact lk_ne (ad_ne k131 k132 dx_oi) k131
              have k145 : w136 q122 = some (cTrk none 0) := by rw [e137]; exact lk_ne (ad_ne k133 k132 dx_oi) k133
              have k146 : w136 q7 = some (aT G 6 (va_up (va_up (va_up (va_up (va_up (va_up (fun _ => none) ((0 : Int32).toNatClampNeg) (some q34)) (((0 + 1) : Int32).toNatClampNeg) (some q38)) ((((0 + 1) + 1) : Int32).toNatClampNeg) (some q56)) (((((0 + 1) + 1) + 1) : Int32).toNatClampNeg) (some q76)) ((((((0 + 1) + 1) + 1) + 1) : Int32).toNatClampNeg) (some q98)) (((((((0 + 1) + 1) + 1) + 1) + 1) : Int32).toNatClampNeg) (some q122))) := by rw [e137]; exact up_eq
              refine f_iinc (v := 1) X hl dX4_init_42 (by decide) rfl (by decide) (fun ls hl => ?_)
              have hl : lV ls _ [some (.ref h0), some (.int ((((((0 + 1) + 1) + 1) + 1) + 1) + 1))] := hl
              refine lv_goto (tgt := 23) X.1 X.2.1 dX4_init_45 (by decide) ?_
              refine f_iload X hl ⟨_, rfl, dX4_init_23⟩ rfl ?_
              refine lv_bipush (v := 6) X.1 X.2.1 dX4_init_24 (by decide) ?_
              refine lv_icmp_ge (tgt := 48) X.1 X.2.1 dX4_init_26 (by decide) (fun c26 => ?_) (fun c26 => ?_)
              · exact f_vret X hr hlk Z (Nat.le_of_ble_eq_true rfl) (Nat.le_of_ble_eq_true rfl) dX4_init_48 ⟨(va_up (va_up (va_up (va_up (va_up (va_up (va_up (va_up tg q7 (1, 0)) q16 (2, 0)) q34 (3, 0)) q38 (3, 1)) q56 (3, 2)) q76 (3, 3)) q98 (3, 4)) q122 (3, 5)), ⟨q7, q16, _, mk6 q34 q38 q56 q76 q98 q122, none, none, fun _ => [], ⟨k139, (show (va_up (va_up (va_up (va_up (va_up (va_up (va_up (va_up tg q7 (1, 0)) q16 (2, 0)) q34 (3, 0)) q38 (3, 1)) q56 (3, 2)) q76 (3, 3)) q98 (3, 4)) q122 (3, 5)) h0 = (0, 0) by simp [va_up, hg, n_h0_q7, n_h0_q16, n_h0_q34, n_h0_q38, n_h0_q56, n_h0_q76, n_h0_q98, n_h0_q122])⟩, ⟨k146, (show (va_up (va_up (va_up (va_up (va_up (va_up (va_up (va_up tg q7 (1, 0)) q16 (2, 0)) q34 (3, 0)) q38 (3, 1)) q56 (3, 2)) q76 (3, 3)) q98 (3, 4)) q122 (3, 5)) q7 = (1, 0) by simp [va_up, hg, n_q7_q16, n_q7_q34, n_q7_q38, n_q7_q56, n_q7_q76, n_q7_q98, n_q7_q122])⟩, lt6 rfl rfl rfl rfl rfl rfl, ⟨k138, (show (va_up (va_up (va_up (va_up (va_up (va_up (va_up (va_up tg q7 (1, 0)) q16 (2, 0)) q34 (3, 0)) q38 (3, 1)) q56 (3, 2)) q76 (3, 3)) q98 (3, 4)) q122 (3, 5)) q16 = (2, 0) by simp [va_up, hg, n_q16_q34, n_q16_q38, n_q16_q56, n_q16_q76, n_q16_q98, n_q16_q122])⟩, lt6 ⟨k140, (show (va_up (va_up (va_up (va_up (va_up (va_up (va_up (va_up tg q7 (1, 0)) q16 (2, 0)) q34 (3, 0)) q38 (3, 1)) q56 (3, 2)) q76 (3, 3)) q98 (3, 4)) q122 (3, 5)) q34 = (3, 0) by simp [va_up, hg, n_q34_q38, n_q34_q56, n_q34_q76, n_q34_q98, n_q34_q122])⟩ ⟨k141, (show (va_up (va_up (va_up (va_up (va_up (va_up (va_up (va_up tg q7 (1, 0)) q16 (2, 0)) q34 (3, 0)) q38 (3, 1)) q56 (3, 2)) q76 (3, 3)) q98 (3, 4)) q122 (3, 5)) q38 = (3, 1) by simp [va_up, hg, n_q38_q56, n_q38_q76, n_q38_q98, n_q38_q122])⟩ ⟨k142, (show (va_up (va_up (va_up (va_up (va_up (va_up (va_up (va_up tg q7 (1, 0)) q16 (2, 0)) q34 (3, 0)) q38 (3, 1)) q56 (3, 2)) q76 (3, 3)) q98 (3, 4)) q122 (3, 5)) q56 = (3, 2) by simp [va_up, hg, n_q56_q76, n_q56_q98, n_q56_q122])⟩ ⟨k143, (show (va_up (va_up (va_up (va_up (va_up (va_up (va_up (va_up tg q7 (1, 0)) q16 (2, 0)) q34 (3, 0)) q38 (3, 1)) q56 (3, 2)) q76 (3, 3)) q98 (3, 4)) q122 (3, 5)) q76 = (3, 3) by simp [va_up, hg, n_q76_q98, n_q76_q122])⟩ ⟨k144, (show (va_up (va_up (va_up (va_up (va_up (va_up (va_up (va_up tg q7 (1, 0)) q16 (2, 0)) q34 (3, 0)) q38 (3, 1)) q56 (3, 2)) q76 (3, 3)) q98 (3, 4)) q122 (3, 5)) q98 = (3, 4) by simp [va_up, hg, n_q98_q122])⟩ ⟨k145, (show (va_up (va_up (va_up (va_up (va_up (va_up (va_up (va_up tg q7 (1, 0)) q16 (2, 0)) q34 (3, 0)) q38 (3, 1)) q56 (3, 2)) q76 (3, 3)) q98 (3, 4)) q122 (3, 5)) q122 = (3, 5) by simp [va_up, hg])⟩, ⟨fun t i a d h => by simp at h, fun t i u j a d e h => by simp at h⟩, fun _ => rfl, Or.inl ⟨rfl, rfl⟩, Or.inl ⟨rfl, rfl⟩⟩, fr147⟩
              · exact absurd (by decide) c26
end
section
/-! the model: one object and eleven arrays, at addresses ad 0 .. ad 11, that hold the functions F 1 .. F 11 -/
def enc (o : Option Nat) : Int32 := match o with
  | none => -1
  | some v => nI v
def mkF (f1 f2 f3 f4 f5 f6 f7 f8 f9 f10 f11 : Nat → Int32) : Nat → Nat → Int32 := fun k => match k with
  | 1 => f1
  | 2 => f2
  | 3 => f3
  | 4 => f4
  | 5 => f5
  | 6 => f6
  | 7 => f7
  | 8 => f8
  | 9 => f9
  | 10 => f10
  | _ => f11
def cellM (G : gT) (F : Nat → Nat → Int32) : Nat → va_E := fun k => match k with
  | 1 => aI G 600 (F 1)
  | 2 => aI G 600 (F 2)
  | 3 => aI G 600 (F 3)
  | 4 => aI G 600 (F 4)
  | 5 => aI G 7200 (F 5)
  | 6 => aI G 600 (F 6)
  | 7 => aZ G 600 (F 7)
  | 8 => aI G 6 (F 8)
  | 9 => aI G 12 (F 9)
  | 10 => aI G 144 (F 10)
  | _ => aI G 8 (F 11)
def MW (G : gT) (tg : tT) (w : wT) (ad : Nat → Nat) (F : Nat → Nat → Int32) (sd na ro wi lv : Int32) : Prop :=
  w (ad 0) = some (cMo (some (ad 1)) (some (ad 2)) (some (ad 3)) (some (ad 4)) (some (ad 5)) (some (ad 6)) (some (ad 7)) (some (ad 8)) sd na (some (ad 9)) ro wi (some (ad 10)) lv (some (ad 11))) ∧ (∀ k, 1 ≤ k → k ≤ 11 → w (ad k) = some (cellM G F k)) ∧ ∀ k, k ≤ 11 → tg (ad k) = (10 + k, 0)
theorem MW.of {G : gT} {tg : tT} {w0 w : wT} {ad : Nat → Nat} {F : Nat → Nat → Int32} {sd na ro wi lv sd' na' ro' wi' lv' : Int32} {f1 f2 f3 f4 f5 f6 f7 f8 f9 f10 f11 : Nat → Int32} (h : MW G tg w0 ad F sd' na' ro' wi' lv') (k0 : w (ad 0) = some (cMo (some (ad 1)) (some (ad 2)) (some (ad 3)) (some (ad 4)) (some (ad 5)) (some (ad 6)) (some (ad 7)) (some (ad 8)) sd na (some (ad 9)) ro wi (some (ad 10)) lv (some (ad 11)))) (k1 : w (ad 1) = some (aI G 600 f1)) (k2 : w (ad 2) = some (aI G 600 f2)) (k3 : w (ad 3) = some (aI G 600 f3)) (k4 : w (ad 4) = some (aI G 600 f4)) (k5 : w (ad 5) = some (aI G 7200 f5)) (k6 : w (ad 6) = some (aI G 600 f6)) (k7 : w (ad 7) = some (aZ G 600 f7)) (k8 : w (ad 8) = some (aI G 6 f8)) (k9 : w (ad 9) = some (aI G 12 f9)) (k10 : w (ad 10) = some (aI G 144 f10)) (k11 : w (ad 11) = some (aI G 8 f11)) : MW G tg w ad (mkF f1 f2 f3 f4 f5 f6 f7 f8 f9 f10 f11) sd na ro wi lv := by
  refine ⟨k0, fun k h1 h2 => ?_, h.2.2⟩
  rcases (show k = 1 ∨ k = 2 ∨ k = 3 ∨ k = 4 ∨ k = 5 ∨ k = 6 ∨ k = 7 ∨ k = 8 ∨ k = 9 ∨ k = 10 ∨ k = 11 by omega) with rfl | rfl | rfl | rfl | rfl | rfl | rfl | rfl | rfl | rfl | rfl <;> assumption
theorem adne {G : gT} {tg : tT} {w : wT} {ad : Nat → Nat} {F : Nat → Nat → Int32} {sd na ro wi lv : Int32} (h : MW G tg w ad F sd na ro wi lv) (i j : Nat) (hi : i ≤ 11) (hj : j ≤ 11) (hij : i ≠ j) : ad i ≠ ad j := fun e => by
  have h1 := h.2.2 i hi
  rw [e, h.2.2 j hj] at h1
  have := congrArg Prod.fst h1
  simp at this
  omega
theorem enc_none : enc none = -1 := rfl
theorem enc_some (v : Nat) : enc (some v) = nI v := rfl
theorem enc_ne {v : Nat} (h : v < 600) : nI v ≠ -1 := by
  intro e
  have := congrArg Int32.toInt e
  rw [nI_toInt (by omega), kc_m1] at this
  omega
def crM (F : Nat → Nat → Int32) (v : Nat) (cr : CR) : Prop := match cr with
  | none => F 4 v = -1
  | some (n, f) => F 4 v = nI n ∧ n ≤ 12 ∧ ∀ i, i < n → F 5 (12 * v + i) = f i
def PM (F : Nat → Nat → Int32) (v : Nat) (d : VR) (bh : Option Nat) : Prop := v < 600 ∧ F 1 v = d.1 ∧ F 2 v = d.2.1 ∧ F 3 v = d.2.2.1 ∧ crM F v d.2.2.2 ∧ F 6 v = enc bh ∧ F 7 v = 1
def SM (F : Nat → Nat → Int32) (sd na : Int32) (os : OS) (T : Nat → LV) : Prop := (sd = -1 ∧ os = none) ∨ ∃ n b, sd = nI n ∧ na = b ∧ os = some (n, b) ∧ n ≤ 12 ∧ ∀ p, p < n → F 9 p = enc (hd (T (6 + p)))
def PlM (F : Nat → Nat → Int32) (ro wi : Int32) (op : OP) (N : Nat → Nat → Int32) : Prop := (ro = -1 ∧ op = none) ∨ ∃ r k, ro = nI r ∧ wi = nI k ∧ op = some (r, k) ∧ r ≤ 12 ∧ k ≤ 12 ∧ ∀ i j, i < r → j < k → F 10 (12 * i + j) = N i j
def MP (F : Nat → Nat → Int32) (sd na ro wi : Int32) (c : Nat) (y : Yd) (T : Nat → LV) : Prop :=
  Forest (PM F) T ∧ (∀ t, t < 6 → F 8 t = enc (hd (T t))) ∧ (∀ t, (T t).map Prod.snd = y.1 t) ∧ (∀ v, c ≤ v → F 7 v = 0) ∧ SM F sd na y.2.1 T ∧ PlM F ro wi y.2.2.1 y.2.2.2.1 ∧ F 11 = y.2.2.2.2.2
def RepM (G : gT) (tg : tT) (w : wT) (ad : Nat → Nat) (c : Nat) (y : Yd) : Prop := ∃ F sd na ro wi T, MW G tg w ad F sd na ro wi y.2.2.2.2.1 ∧ MP F sd na ro wi c y T
def FrM (w : wT) (tg : tT) (w' : wT) : Prop := ∀ b e, w b = some e → (∃ e', w' b = some e') ∧ ((tg b).1 < 10 → w' b = some e)
theorem FrM.rf {w : wT} {tg : tT} : FrM w tg w := fun b e h => ⟨⟨e, h⟩, fun _ => h⟩
theorem FrM.put {w w1 : wT} {tg : tT} {a : Nat} {x : va_E} (h : FrM w tg w1) {k : Nat} (ha : tg a = (10 + k, 0)) : FrM w tg (va_up w1 a (some x)) := by
  intro b e hb
  obtain ⟨⟨e', h2⟩, h3⟩ := h b e hb
  by_cases hba : b = a
  · subst hba
    exact ⟨⟨x, up_eq⟩, fun z => by rw [ha] at z; simp at z; omega⟩
  · exact ⟨⟨e', by rw [up_ne hba]; exact h2⟩, fun z => by rw [up_ne hba]; exact h3 z⟩
theorem FrM.tr {w w1 w2 : wT} {tg : tT} (h : FrM w tg w1) (h' : FrM w1 tg w2) : FrM w tg w2 := by
  intro b e hb
  obtain ⟨⟨e', h2⟩, h3⟩ := h b e hb
  exact ⟨(h' b e' h2).1, fun z => (h' b e (h3 z)).2 z⟩
def OutM (G : gT) (tg : tT) (w : wT) (ad : Nat → Nat) (c : Nat) (res : Int32 × Yd) (r : Int32) (w' : wT) : Prop := r = res.1 ∧ (∃ c', c' ≤ c + 1 ∧ RepM G tg w' ad c' res.2) ∧ FrM w tg w'
section OM
variable {G : gT} {tg : tT} {w w1 w' : wT} {ad : Nat → Nat} {F : Nat → Nat → Int32} {sd na ro wi : Int32} {c k : Nat} {y y1 : Yd} {T : Nat → LV} {r : Int32}
theorem outM_same {res : Int32 × Yd} (hR : RepM G tg w ad c y) (he : res = (r, y)) : OutM G tg w ad c res r w := by
  subst he
  exact ⟨rfl, ⟨c, by omega, hR⟩, FrM.rf⟩
theorem outM_of {res : Int32 × Yd} {c' : Nat} (hM : MW G tg w' ad F sd na ro wi y1.2.2.2.2.1) (hP : MP F sd na ro wi c' y1 T) (hc : c' ≤ c + 1) (hF : FrM w tg w') (he : res = (r, y1)) : OutM G tg w ad c res r w' := by
  subst he
  exact ⟨rfl, ⟨c', hc, F, sd, na, ro, wi, T, hM, hP⟩, hF⟩
theorem MP.tell (hP : MP F sd na ro wi c y T) (k : Nat) : MP (va_up F 11 (upd (F 11) k (F 11 k + 1))) sd na ro wi c (yno k y).2 T := by
  obtain ⟨h1, h2, h3, h4, h5, h6, h7⟩ := hP
  have e : ∀ j, j ≠ 11 → va_up F 11 (upd (F 11) k (F 11 k + 1)) j = F j := fun j hj => up_off hj
  refine ⟨h1.keep (fun t i a d _ hp => ?_), fun t ht => by rw [e 8 (by decide)]; exact h2 t ht, h3, fun v hv => by rw [e 7 (by decide)]; exact h4 v hv, ?_, ?_, ?_⟩
  · unfold PM crM at *
    rw [e 1 (by decide), e 2 (by decide), e 3 (by decide), e 4 (by decide), e 5 (by decide), e 6 (by decide), e 7 (by decide)]; exact hp
  · unfold SM at *
    rw [e 9 (by decide)]; exact h5
  · unfold PlM at *
    rw [e 10 (by decide)]; exact h6
  · rw [up_at, h7]; rfl
theorem outM_no {res : Int32 × Yd} (hM : MW G tg w1 ad F sd na ro wi y1.2.2.2.2.1) (hP : MP F sd na ro wi c y1 T) (hF : FrM w tg w1) (hr : r = -10 - nI k) (hw : w' = va_up w1 (ad 11) (some (aI G 8 (upd (F 11) k (F 11 k + 1))))) (he : res = yno k y1) : OutM G tg w ad c res r w' := by
  subst he
  refine ⟨hr, ⟨c, by omega, va_up F 11 (upd (F 11) k (F 11 k + 1)), sd, na, ro, wi, T, ?_, hP.tell k⟩, by rw [hw]; exact hF.put (hM.2.2 11 (by decide))⟩
  have n0 : ad 0 ≠ ad 11 := adne hM 0 11 (by decide) (by decide) (by decide)
  refine ⟨by rw [hw, up_ne n0]; exact hM.1, fun j h1 h2 => ?_, hM.2.2⟩
  by_cases hj : j = 11
  · subst hj
    rw [hw, up_eq]
    show _ = some (aI G 8 (va_up F 11 (upd (F 11) k (F 11 k + 1)) 11))
    rw [up_at]
  · rw [hw, up_ne (adne hM j 11 h2 (by decide) hj), hM.2.1 j h1 h2]
    rcases (show j = 1 ∨ j = 2 ∨ j = 3 ∨ j = 4 ∨ j = 5 ∨ j = 6 ∨ j = 7 ∨ j = 8 ∨ j = 9 ∨ j = 10 by omega) with rfl | rfl | rfl | rfl | rfl | rfl | rfl | rfl | rfl | rfl <;> rfl
end OM
end
section
theorem Int32.tnc {v : Nat} (h : v < 2 ^ 31) : (nI v).toNatClampNeg = v := nI_clamp h
def chM (F : Nat → Nat → Int32) (t : Nat) (L : LV) : Prop := F 8 t = enc (hd L) ∧ L.length ≤ 512 ∧ ∀ (i v : Nat) (d : VR), L[i]? = some (v, d) → v < 600 ∧ F 6 v = enc (nx L i)
theorem enc_at {L : LV} {i : Nat} {x : Int32} (h : x = enc (L[i]?.map Prod.fst)) (hne : ¬ x = -1) : ∃ v d, L[i]? = some (v, d) ∧ x = nI v := by
  cases hq : L[i]? with
  | none => rw [hq] at h; exact absurd h hne
  | some q => rw [hq] at h; exact ⟨q.1, q.2, rfl, h⟩
theorem enc_end {L : LV} {i : Nat} {x : Int32} (h : x = enc (L[i]?.map Prod.fst)) (he : x = -1) (hv : ∀ v d, L[i]? = some (v, d) → v < 600) : L.length ≤ i := by
  cases hq : L[i]? with
  | none => exact List.getElem?_eq_none_iff.mp hq
  | some q =>
    rw [hq] at h
    exact absurd (h.symm.trans he) (enc_ne (hv q.1 q.2 hq))
theorem crM_n {F : Nat → Nat → Int32} {v : Nat} {cr : CR} (we : Int32) (h : crM F v cr) : ∃ (nn : Nat) (f : Nat → Int32), nn ≤ 12 ∧ ldOf we cr = sumTo we f nn ∧ (∀ i : Nat, i < 2 ^ 30 → (F 4 v ≤ nI i ↔ nn ≤ i)) ∧ ∀ i, i < nn → F 5 (12 * v + i) = f i := by
  cases cr with
  | none =>
    refine ⟨0, fun _ => 0, by omega, rfl, fun i hi => ?_, fun i hi => by omega⟩
    rw [show F 4 v = -1 from h, Int32.le_iff_toInt_le, kc_m1, nI_toInt (by omega)]
    omega
  | some q =>
    obtain ⟨n, f⟩ := q
    obtain ⟨h1, h2, h3⟩ := h
    exact ⟨n, f, h2, rfl, fun i hi => by rw [h1]; exact nI_leI (by omega) (by omega), h3⟩
def vM (F : Nat → Nat → Int32) (v0 : Int32) (od : Option VR) : Prop := (v0 = -1 ∧ od = none) ∨ ∃ v d bh, v0 = nI v ∧ od = some d ∧ PM F v d bh
theorem vM_none {F : Nat → Nat → Int32} {v0 : Int32} {od : Option VR} (h : vM F v0 od) (hv : v0 = -1) : od = none := by
  rcases h with ⟨-, h⟩ | ⟨v, d, bh, h1, -, h3, -⟩
  · exact h
  · exact absurd (h1.symm.trans hv) (enc_ne h3)
theorem vM_some {F : Nat → Nat → Int32} {v0 : Int32} {od : Option VR} (h : vM F v0 od) (hv : ¬ v0 = -1) : ∃ v d bh, v0 = nI v ∧ od = some d ∧ PM F v d bh := by
  rcases h with ⟨h, -⟩ | h
  · exact absurd h hv
  · exact h
def whyA (op : OP) (i j m : Int32) : Nat := match op with
  | none => 1
  | some q => if (0 ≤ i.toInt ∧ i.toInt < q.1) ∧ 0 ≤ j.toInt ∧ j.toInt ≤ (m - 1).toInt then 0 else 5
theorem whyA_lt (od : OP) (i j m : Int32) : whyA od i j m < 8 := by
  unfold whyA
  split <;> try decide
  split <;> decide
theorem n1_toInt {n : Nat} (h : n ≤ 12) : (nI n - 1).toInt = (n : Int) - 1 := by
  have : nI n - nI 1 = nI n - 1 := rfl
  rw [← this, pk_sub_toInt (by omega) (by decide)]
  rfl
theorem ix12 {v i : Nat} (hv : v < 600) (hi : i < 12) : (12 : Int32) * nI v + nI i = nI (12 * v + i) := by
  have : (12 : Int32) = nI 12 := rfl
  rw [this, pk_mul, nI_add]
theorem ix12_in {v i : Nat} (hv : v < 600) (hi : i < 12) : vp_in ((12 : Int32) * nI v + nI i) 7200 := by
  rw [ix12 hv hi]; exact vp_in_nI (by omega) (by decide)
theorem upd_id (f : Nat → Int32) (k : Nat) : upd f k (f k) = f := by
  funext j
  by_cases h : j = k
  · subst h; simp [upd]
  · simp [upd, h]
theorem MW.fld {G : gT} {tg : tT} {w w' : wT} {ad : Nat → Nat} {F : Nat → Nat → Int32} {sd na ro wi lv sd' na' ro' wi' lv' : Int32} (h : MW G tg w ad F sd na ro wi lv) (hw : w' = va_up w (ad 0) (some (cMo (some (ad 1)) (some (ad 2)) (some (ad 3)) (some (ad 4)) (some (ad 5)) (some (ad 6)) (some (ad 7)) (some (ad 8)) sd' na' (some (ad 9)) ro' wi' (some (ad 10)) lv' (some (ad 11))))) : MW G tg w' ad F sd' na' ro' wi' lv' :=
  ⟨by rw [hw]; exact up_eq, fun k h1 h2 => by rw [hw, up_ne (adne h k 0 h2 (by decide) (by omega))]; exact h.2.1 k h1 h2, h.2.2⟩
set_option maxHeartbeats 4000000 in
set_option maxRecDepth 100000 in
theorem c_X5_in (l : Launch) (G : gT) (w : wT) (x a b : Int32) : Met l yX5_in wsX5_in ({ frames := 0, cells := 0, slots := 0, locals := 0 }) (va_Pc [.int x, .int a, .int b] (wG G w)) (Qi G (fun r w' => w' = w ∧ r = bI (a.toInt ≤ x.toInt ∧ x.toInt ≤ b.toInt))) 0 0 (fr G) := by
  refine f_met (cc := cX5_in) (maxL := 3) (ret := (some .boolean)) (by decide) rfl rfl (Nat.le_of_ble_eq_true rfl) ?_
  intro p e s m below meth cd X hr hlk hnm Z ls hl
  have X : CallFix p m cd cX5_in 3 s [.int x, .int a, .int b].toArray wsX5_in RX5 := X
  have hl : lV ls _ [some (.int x), some (.int a), some (.int b)] := hl
  refine f_iload X hl ⟨_, rfl, dX5_in_0⟩ rfl ?_
  refine f_iload X hl ⟨_, rfl, dX5_in_1⟩ rfl ?_
  refine lv_icmp_lt (tgt := 14) X.1 X.2.1 dX5_in_2 (by decide) (fun c2 => ?_) (fun c2 => ?_)
  · refine lv_iconst (v := 0) X.1 X.2.1 dX5_in_14 (by decide) ?_
    exact f_zret X hr hlk Z (Nat.le_of_ble_eq_true rfl) (Nat.le_of_ble_eq_true rfl) dX5_in_15 (by decide) ⟨rfl, by unfold bI; split <;> first | rfl | (exfalso; (try simp only [Int32.lt_iff_toInt_lt, Int32.le_iff_toInt_le, ← Int32.toInt_inj, ne_eq, kc_0, kc_1, kc_6] at *; omega))⟩
  · refine f_iload X hl ⟨_, rfl, dX5_in_5⟩ rfl ?_
    refine f_iload X hl ⟨_, rfl, dX5_in_6⟩ rfl ?_
    refine lv_icmp_gt (tgt := 14) X.1 X.2.1 dX5_in_7 (by decide) (fun c7 => ?_) (fun c7 => ?_)
    · refine lv_iconst (v := 0) X.1 X.2.1 dX5_in_14 (by decide) ?_
      exact f_zret X hr hlk Z (Nat.le_of_ble_eq_true rfl) (Nat.le_of_ble_eq_true rfl) dX5_in_15 (by decide) ⟨rfl, by unfold bI; split <;> first | rfl | (exfalso; (try simp only [Int32.lt_iff_toInt_lt, Int32.le_iff_toInt_le, ← Int32.toInt_inj, ne_eq, kc_0, kc_1, kc_6] at *; omega))⟩
    · refine lv_iconst (v := 1) X.1 X.2.1 dX5_in_10 (by decide) ?_
      refine lv_goto (tgt := 15) X.1 X.2.1 dX5_in_11 (by decide) ?_
      exact f_zret X hr hlk Z (Nat.le_of_ble_eq_true rfl) (Nat.le_of_ble_eq_true rfl) dX5_in_15 (by decide) ⟨rfl, by unfold bI; split <;> first | rfl | (exfalso; (try simp only [Int32.lt_iff_toInt_lt, Int32.le_iff_toInt_le, ← Int32.toInt_inj, ne_eq, kc_0, kc_1, kc_6] at *; omega))⟩
set_option maxHeartbeats 4000000 in
set_option maxRecDepth 100000 in
theorem c_X5_isTrack (l : Launch) (G : gT) (w : wT) (x : Int32) : Met l yX5_isTrack wsX5_isTrack ({ frames := 1, cells := 0, slots := 0, locals := 22 }) (va_Pc [.int x] (wG G w)) (Qi G (fun r w' => w' = w ∧ r = bI (0 ≤ x.toInt ∧ x.toInt < 6))) 0 0 (fr G) := by
  refine f_met (cc := cX5_isTrack) (maxL := 1) (ret := (some .boolean)) (by decide) rfl rfl (Nat.le_of_ble_eq_true rfl) ?_
  intro p e s m below meth cd X hr hlk hnm Z ls hl
  have X : CallFix p m cd cX5_isTrack 1 s [.int x].toArray wsX5_isTrack RX5 := X
  have hl : lV ls _ [some (.int x)] := hl
  refine f_iload X hl ⟨_, rfl, dX5_isTrack_0⟩ rfl ?_
  refine lv_iconst (v := 0) X.1 X.2.1 dX5_isTrack_1 (by decide) ?_
  refine lv_iconst (v := 5) X.1 X.2.1 dX5_isTrack_2 (by decide) ?_
  refine f_callSi (rest := []) X Z hl.1 (c_X5_in l G _ _ _ _) (va_cwS 3 X.2.2.2.2 gX5_isTrack_X5_in rfl rfl rfl (by decide +kernel) ⟨(Nat.le_of_ble_eq_true rfl), (Nat.le_of_ble_eq_true rfl)⟩) rfl dX5_isTrack_3 ⟨(Nat.le_of_ble_eq_true rfl), (Nat.le_of_ble_eq_true rfl)⟩ rfl (Nat.le_of_ble_eq_true rfl) (fun r3 w1 H locs p3 Z => ?_)
  obtain ⟨w1e, hr3⟩ := p3
  have w1e := w1e.symm
  subst w1e
  exact f_zret X hr hlk Z (Nat.le_of_ble_eq_true rfl) (Nat.le_of_ble_eq_true rfl) dX5_isTrack_6 (by rw [hr3]; exact bI_n) ⟨rfl, by rw [hr3]; unfold bI; rw [kc_0, kc_5]; split <;> split <;> first | rfl | (exfalso; omega)⟩
set_option maxHeartbeats 4000000 in
set_option maxRecDepth 100000 in
theorem c_X5_no (l : Launch) (G : gT) (w : wT) (tg : tT) (ad : Nat → Nat) (F : Nat → Nat → Int32) (sd na ro wi lv : Int32) (hM : MW G tg w ad F sd na ro wi lv) (k : Nat) (hk : k < 8) : Met l yX5_no wsX5_no ({ frames := 0, cells := 0, slots := 0, locals := 0 }) (va_Pc [.ref (ad 0), .int (nI k)] (wG G w)) (Qi G (fun r w' => r = -10 - nI k ∧ w' = va_up w (ad 11) (some (aI G 8 (upd (F 11) k (F 11 k + 1)))))) 0 0 (fr G) := by
  refine f_met (cc := cX5_no) (maxL := 2) (ret := (some .int)) (by decide) rfl rfl (Nat.le_of_ble_eq_true rfl) ?_
  intro p e s m below meth cd X hr hlk hnm Z ls hl
  have X : CallFix p m cd cX5_no 2 s [.ref (ad 0), .int (nI k)].toArray wsX5_no RX5 := X
  have hl : lV ls _ [some (.ref (ad 0)), some (.int (nI k))] := hl
  have i5 : ∀ w ∈ wsX50, w ∈ wsX5_no := by decide +kernel
  have km0 := hM.1
  have km1 : w (ad 1) = some (aI G 600 (F 1)) := hM.2.1 1 (by decide) (by decide)
  have km2 : w (ad 2) = some (aI G 600 (F 2)) := hM.2.1 2 (by decide) (by decide)
  have km3 : w (ad 3) = some (aI G 600 (F 3)) := hM.2.1 3 (by decide) (by decide)
  have km4 : w (ad 4) = some (aI G 600 (F 4)) := hM.2.1 4 (by decide) (by decide)
  have km5 : w (ad 5) = some (aI G 7200 (F 5)) := hM.2.1 5 (by decide) (by decide)
  have km6 : w (ad 6) = some (aI G 600 (F 6)) := hM.2.1 6 (by decide) (by decide)
  have km7 : w (ad 7) = some (aZ G 600 (F 7)) := hM.2.1 7 (by decide) (by decide)
  have km8 : w (ad 8) = some (aI G 6 (F 8)) := hM.2.1 8 (by decide) (by decide)
  have km9 : w (ad 9) = some (aI G 12 (F 9)) := hM.2.1 9 (by decide) (by decide)
  have km10 : w (ad 10) = some (aI G 144 (F 10)) := hM.2.1 10 (by decide) (by decide)
  have km11 : w (ad 11) = some (aI G 8 (F 11)) := hM.2.1 11 (by decide) (by decide)
  refine f_aload (v := .ref (ad 0)) X hl ⟨_, rfl, dX5_no_0⟩ rfl ⟨(some (ad 0)), rfl⟩ ?_
  refine f_get (v := .ref (ad 11)) (k := 15) X Z i5 rfl (by decide) (by decide +kernel) dX5_no_1 km0 rfl ?_
  refine f_iload X hl ⟨_, rfl, dX5_no_4⟩ rfl ?_
  refine lv_dup2_11 X.1 X.2.1 dX5_no_5 rfl rfl ?_
  refine f_iald X Z dX5_no_6 km11 (vp_in_nI hk (by omega)) ?_
  refine lv_iconst (v := 1) X.1 X.2.1 dX5_no_7 (by decide) ?_
  refine lv_iadd X.1 X.2.1 dX5_no_8 ?_
  refine f_iast X Z dX5_no_9 km11 (vp_in_nI hk (by omega)) (fun H locs w1 e2 Z => ?_)
  have e2 : w1 = va_up w (ad 11) (some (aI G 8 (upd (F 11) (nI k).toNatClampNeg (((F 11) (nI k).toNatClampNeg) + 1)))) := e2
  have k3 : w1 (ad 0) = some (cMo (some (ad 1)) (some (ad 2)) (some (ad 3)) (some (ad 4)) (some (ad 5)) (some (ad 6)) (some (ad 7)) (some (ad 8)) sd na (some (ad 9)) ro wi (some (ad 10)) lv (some (ad 11))) := by rw [e2]; exact lk_ne (adne hM 0 11 (by decide) (by decide) (by decide)) km0
  have k4 : w1 (ad 1) = some (aI G 600 (F 1)) := by rw [e2]; exact lk_ne (adne hM 1 11 (by decide) (by decide) (by decide)) km1
  have k5 : w1 (ad 2) = some (aI G 600 (F 2)) := by rw [e2]; exact lk_ne (adne hM 2 11 (by decide) (by decide) (by decide)) km2
  have k6 : w1 (ad 3) = some (aI G 600 (F 3)) := by rw [e2]; exact lk_ne (adne hM 3 11 (by decide) (by decide) (by decide)) km3
  have k7 : w1 (ad 4) = some (aI G 600 (F 4)) := by rw [e2]; exact lk_ne (adne hM 4 11 (by decide) (by decide) (by decide)) km4
  have k8 : w1 (ad 5) = some (aI G 7200 (F 5)) := by rw [e2]; exact lk_ne (adne hM 5 11 (by decide) (by decide) (by decide)) km5
  have k9 : w1 (ad 6) = some (aI G 600 (F 6)) := by rw [e2]; exact lk_ne (adne hM 6 11 (by decide) (by decide) (by decide)) km6
  have k10 : w1 (ad 7) = some (aZ G 600 (F 7)) := by rw [e2]; exact lk_ne (adne hM 7 11 (by decide) (by decide) (by decide)) km7
  have k11 : w1 (ad 8) = some (aI G 6 (F 8)) := by rw [e2]; exact lk_ne (adne hM 8 11 (by decide) (by decide) (by decide)) km8
  have k12 : w1 (ad 9) = some (aI G 12 (F 9)) := by rw [e2]; exact lk_ne (adne hM 9 11 (by decide) (by decide) (by decide)) km9
  have k13 : w1 (ad 10) = some (aI G 144 (F 10)) := by rw [e2]; exact lk_ne (adne hM 10 11 (by decide) (by decide) (by decide)) km10
  have k14 : w1 (ad 11) = some (aI G 8 (upd (F 11) (nI k).toNatClampNeg (((F 11) (nI k).toNatClampNeg) + 1))) := by rw [e2]; exact up_eq
  refine lv_bipush (v := (-10)) X.1 X.2.1 dX5_no_10 (by decide) ?_
  refine f_iload X hl ⟨_, rfl, dX5_no_12⟩ rfl ?_
  refine lv_isub X.1 X.2.1 dX5_no_13 ?_
  exact f_iret X hr hlk Z (Nat.le_of_ble_eq_true rfl) (Nat.le_of_ble_eq_true rfl) dX5_no_14 ⟨rfl, by rw [e2, nI_clamp (by omega)]⟩
set_option maxHeartbeats 4000000 in
set_option maxRecDepth 100000 in
theorem c_X5_countOf (l : Launch) (G : gT) (w : wT) (tg : tT) (ad : Nat → Nat) (F : Nat → Nat → Int32) (sd na ro wi lv : Int32) (hM : MW G tg w ad F sd na ro wi lv) (t0 : Int32) (t : Nat) (L : LV) (ht0 : t0.toNatClampNeg = t) (hin : vp_in t0 6) (hL : chM F t L) : Met l yX5_countOf wsX5_countOf ({ frames := 0, cells := 0, slots := 0, locals := 0 }) (va_Pc [.ref (ad 0), .int t0] (wG G w)) (Qi G (fun r w' => w' = w ∧ r = nI L.length)) 0 0 (fr G) := by
  refine f_met (cc := cX5_countOf) (maxL := 4) (ret := (some .int)) (by decide) rfl rfl (Nat.le_of_ble_eq_true rfl) ?_
  intro p e s m below meth cd X hr hlk hnm Z ls hl
  have X : CallFix p m cd cX5_countOf 4 s [.ref (ad 0), .int t0].toArray wsX5_countOf RX5 := X
  have hl : lV ls _ [some (.ref (ad 0)), some (.int t0), none, none] := hl
  have i5 : ∀ w ∈ wsX50, w ∈ wsX5_countOf := by decide +kernel
  have km0 := hM.1
  have km1 : w (ad 1) = some (aI G 600 (F 1)) := hM.2.1 1 (by decide) (by decide)
  have km2 : w (ad 2) = some (aI G 600 (F 2)) := hM.2.1 2 (by decide) (by decide)
  have km3 : w (ad 3) = some (aI G 600 (F 3)) := hM.2.1 3 (by decide) (by decide)
  have km4 : w (ad 4) = some (aI G 600 (F 4)) := hM.2.1 4 (by decide) (by decide)
  have km5 : w (ad 5) = some (aI G 7200 (F 5)) := hM.2.1 5 (by decide) (by decide)
  have km6 : w (ad 6) = some (aI G 600 (F 6)) := hM.2.1 6 (by decide) (by decide)
  have km7 : w (ad 7) = some (aZ G 600 (F 7)) := hM.2.1 7 (by decide) (by decide)
  have km8 : w (ad 8) = some (aI G 6 (F 8)) := hM.2.1 8 (by decide) (by decide)
  have km9 : w (ad 9) = some (aI G 12 (F 9)) := hM.2.1 9 (by decide) (by decide)
  have km10 : w (ad 10) = some (aI G 144 (F 10)) := hM.2.1 10 (by decide) (by decide)
  have km11 : w (ad 11) = some (aI G 8 (F 11)) := hM.2.1 11 (by decide) (by decide)
  refine lv_iconst (v := 0) X.1 X.2.1 dX5_countOf_0 (by decide) ?_
  refine f_istore X hl ⟨_, rfl, dX5_countOf_1⟩ (by decide) (fun ls hl => ?_)
  have hl : lV ls _ [some (.ref (ad 0)), some (.int t0), some (.int 0), none] := hl
  refine f_aload (v := .ref (ad 0)) X hl ⟨_, rfl, dX5_countOf_2⟩ rfl ⟨(some (ad 0)), rfl⟩ ?_
  refine f_get (v := .ref (ad 8)) (k := 7) X Z i5 rfl (by decide) (by decide +kernel) dX5_countOf_3 km0 rfl ?_
  refine f_iload X hl ⟨_, rfl, dX5_countOf_6⟩ rfl ?_
  refine f_iald X Z dX5_countOf_7 km8 hin ?_
  refine f_istore X hl ⟨_, rfl, dX5_countOf_8⟩ (by decide) (fun ls hl => ?_)
  have hl : lV ls _ [some (.ref (ad 0)), some (.int t0), some (.int 0), some (.int ((F 8) t0.toNatClampNeg))] := hl
  have hloop : ∀ (fu : Nat) (i : Nat) (x2 x3 : Int32), x2 = nI i → x3 = enc (L[i]?.map Prod.fst) → i ≤ L.length → L.length < i + fu → ∀ (H : Heap) (locs : List Loc) (ls : Array Slot), wZ G w s H locs → lV ls 4 [some (.ref (ad 0)), some (.int t0), some (.int x2), some (.int x3)] → W p l e ({ frames := 0, cells := 0, slots := 0, locals := 0 }) s m [.ref (ad 0), .int t0].toArray below meth cd H locs 0 0 (MQ below (Qi G (fun r w' => w' = w ∧ r = nI L.length)) [.ref (ad 0), .int t0].toArray s 0 0 (fr G)) (F0 m 9 ls []) := by
    clear hl Z
    intro fu
    induction fu with
    | zero => intro i x2 x3 hx2 hx3 hle hfu H locs ls Z hl; exact absurd hfu (by omega)
    | succ fu ih =>
      intro i x2 x3 hx2 hx3 hle hfu H locs ls Z hl
      refine f_iload X hl ⟨_, rfl, dX5_countOf_9⟩ rfl ?_
      refine lv_iconst (v := (-1)) X.1 X.2.1 dX5_countOf_10 (by decide) ?_
      refine lv_icmp_eq (tgt := 27) X.1 X.2.1 dX5_countOf_11 (by decide) (fun c11 => ?_) (fun c11 => ?_)
      · refine f_iload X hl ⟨_, rfl, dX5_countOf_27⟩ rfl ?_
        exact f_iret X hr hlk Z (Nat.le_of_ble_eq_true rfl) (Nat.le_of_ble_eq_true rfl) dX5_countOf_28 ⟨rfl, by rw [hx2, show i = L.length from by have := enc_end hx3 c11 (fun v d h => (hL.2.2 i v d h).1); omega]⟩
      · obtain ⟨v, d, hLi, hx3v⟩ := enc_at hx3 c11
        refine f_iinc (v := 1) X hl dX5_countOf_14 (by decide) rfl (by decide) (fun ls hl => ?_)
        have hl : lV ls _ [some (.ref (ad 0)), some (.int t0), some (.int (x2 + 1)), some (.int x3)] := hl
        refine f_aload (v := .ref (ad 0)) X hl ⟨_, rfl, dX5_countOf_17⟩ rfl ⟨(some (ad 0)), rfl⟩ ?_
        refine f_get (v := .ref (ad 6)) (k := 5) X Z i5 rfl (by decide) (by decide +kernel) dX5_countOf_18 km0 rfl ?_
        refine f_iload X hl ⟨_, rfl, dX5_countOf_21⟩ rfl ?_
        refine f_iald X Z dX5_countOf_22 km6 (by rw [hx3v]; exact vp_in_nI (hL.2.2 i v d hLi).1 (by decide)) ?_
        refine f_istore X hl ⟨_, rfl, dX5_countOf_23⟩ (by decide) (fun ls hl => ?_)
        have hl : lV ls _ [some (.ref (ad 0)), some (.int t0), some (.int (x2 + 1)), some (.int ((F 6) x3.toNatClampNeg))] := hl
        refine lv_goto (tgt := 9) X.1 X.2.1 dX5_countOf_24 (by decide) ?_
        exact ih (i + 1) _ _ (by rw [hx2]; exact nI_1 i) (by rw [hx3v, nI_clamp (by have := (hL.2.2 i v d hLi).1; omega)]; exact (hL.2.2 i v d hLi).2) (by have := (List.getElem?_eq_some_iff.mp hLi).1; omega) (by omega) _ _ _ Z hl
  exact hloop (L.length + 1) 0 _ _ nI_0.symm (by rw [ht0]; exact hL.1) (Nat.zero_le _) (by omega) _ _ _ Z hl
set_option maxHeartbeats 4000000 in
set_option maxRecDepth 100000 in
theorem c_X5_at (l : Launch) (G : gT) (w : wT) (tg : tT) (ad : Nat → Nat) (F : Nat → Nat → Int32) (sd na ro wi lv : Int32) (hM : MW G tg w ad F sd na ro wi lv) (t0 k : Int32) (t : Nat) (L : LV) (ht0 : t0.toNatClampNeg = t) (hin : vp_in t0 6) (hL : chM F t L) (hk : 0 ≤ k.toInt) : Met l yX5_at wsX5_at ({ frames := 0, cells := 0, slots := 0, locals := 0 }) (va_Pc [.ref (ad 0), .int t0, .int k] (wG G w)) (Qi G (fun r w' => w' = w ∧ r = enc ((L[k.toNatClampNeg]?).map Prod.fst))) 0 0 (fr G) := by
  refine f_met (cc := cX5_at) (maxL := 5) (ret := (some .int)) (by decide) rfl rfl (Nat.le_of_ble_eq_true rfl) ?_
  intro p e s m below meth cd X hr hlk hnm Z ls hl
  have X : CallFix p m cd cX5_at 5 s [.ref (ad 0), .int t0, .int k].toArray wsX5_at RX5 := X
  have hl : lV ls _ [some (.ref (ad 0)), some (.int t0), some (.int k), none, none] := hl
  have i5 : ∀ w ∈ wsX50, w ∈ wsX5_at := by decide +kernel
  have km0 := hM.1
  have km1 : w (ad 1) = some (aI G 600 (F 1)) := hM.2.1 1 (by decide) (by decide)
  have km2 : w (ad 2) = some (aI G 600 (F 2)) := hM.2.1 2 (by decide) (by decide)
  have km3 : w (ad 3) = some (aI G 600 (F 3)) := hM.2.1 3 (by decide) (by decide)
  have km4 : w (ad 4) = some (aI G 600 (F 4)) := hM.2.1 4 (by decide) (by decide)
  have km5 : w (ad 5) = some (aI G 7200 (F 5)) := hM.2.1 5 (by decide) (by decide)
  have km6 : w (ad 6) = some (aI G 600 (F 6)) := hM.2.1 6 (by decide) (by decide)
  have km7 : w (ad 7) = some (aZ G 600 (F 7)) := hM.2.1 7 (by decide) (by decide)
  have km8 : w (ad 8) = some (aI G 6 (F 8)) := hM.2.1 8 (by decide) (by decide)
  have km9 : w (ad 9) = some (aI G 12 (F 9)) := hM.2.1 9 (by decide) (by decide)
  have km10 : w (ad 10) = some (aI G 144 (F 10)) := hM.2.1 10 (by decide) (by decide)
  have km11 : w (ad 11) = some (aI G 8 (F 11)) := hM.2.1 11 (by decide) (by decide)
  obtain ⟨kn, hkn, hkk⟩ := nI_of (x := k) (by rw [Int32.lt_iff_toInt_lt, kc_0]; omega)
  have hkt : k.toNatClampNeg = kn := by rw [hkk, nI_clamp hkn]
  refine f_aload (v := .ref (ad 0)) X hl ⟨_, rfl, dX5_at_0⟩ rfl ⟨(some (ad 0)), rfl⟩ ?_
  refine f_get (v := .ref (ad 8)) (k := 7) X Z i5 rfl (by decide) (by decide +kernel) dX5_at_1 km0 rfl ?_
  refine f_iload X hl ⟨_, rfl, dX5_at_4⟩ rfl ?_
  refine f_iald X Z dX5_at_5 km8 hin ?_
  refine f_istore X hl ⟨_, rfl, dX5_at_6⟩ (by decide) (fun ls hl => ?_)
  have hl : lV ls _ [some (.ref (ad 0)), some (.int t0), some (.int k), some (.int ((F 8) t0.toNatClampNeg)), none] := hl
  refine f_iload X hl ⟨_, rfl, dX5_at_7⟩ rfl ?_
  refine f_istore2 X hl dX5_at_8 (by decide) (fun ls hl => ?_)
  have hl : lV ls _ [some (.ref (ad 0)), some (.int t0), some (.int k), some (.int ((F 8) t0.toNatClampNeg)), some (.int k)] := hl
  have hloop : ∀ (fu : Nat) (i : Nat) (x3 x4 : Int32), x3 = enc (L[i]?.map Prod.fst) → x4 = nI (kn - i) → i ≤ kn → kn < i + fu → ∀ (H : Heap) (locs : List Loc) (ls : Array Slot), wZ G w s H locs → lV ls 5 [some (.ref (ad 0)), some (.int t0), some (.int k), some (.int x3), some (.int x4)] → W p l e ({ frames := 0, cells := 0, slots := 0, locals := 0 }) s m [.ref (ad 0), .int t0, .int k].toArray below meth cd H locs 0 0 (MQ below (Qi G (fun r w' => w' = w ∧ r = enc ((L[k.toNatClampNeg]?).map Prod.fst))) [.ref (ad 0), .int t0, .int k].toArray s 0 0 (fr G)) (F0 m 10 ls []) := by
    clear hl Z
    intro fu
    induction fu with
    | zero => intro i x3 x4 hx3 hx4 hle hfu H locs ls Z hl; exact absurd hfu (by omega)
    | succ fu ih =>
      intro i x3 x4 hx3 hx4 hle hfu H locs ls Z hl
      refine f_iload X hl ⟨_, rfl, dX5_at_10⟩ rfl ?_
      refine lv_iconst (v := (-1)) X.1 X.2.1 dX5_at_11 (by decide) ?_
      refine lv_icmp_eq (tgt := 33) X.1 X.2.1 dX5_at_12 (by decide) (fun c12 => ?_) (fun c12 => ?_)
      · refine f_iload X hl ⟨_, rfl, dX5_at_33⟩ rfl ?_
        exact f_iret X hr hlk Z (Nat.le_of_ble_eq_true rfl) (Nat.le_of_ble_eq_true rfl) dX5_at_34 ⟨rfl, by rw [hkt, List.getElem?_eq_none (Nat.le_trans (enc_end hx3 c12 (fun v d h => (hL.2.2 i v d h).1)) hle), c12]; rfl⟩
      · obtain ⟨v, d, hLi, hx3v⟩ := enc_at hx3 c12
        refine f_iload2 X hl dX5_at_15 rfl ?_
        refine lv_if_le (tgt := 33) X.1 X.2.1 dX5_at_17 (by decide) (fun c17 => ?_) (fun c17 => ?_)
        · refine f_iload X hl ⟨_, rfl, dX5_at_33⟩ rfl ?_
          exact f_iret X hr hlk Z (Nat.le_of_ble_eq_true rfl) (Nat.le_of_ble_eq_true rfl) dX5_at_34 ⟨rfl, by rw [hkt, hx3, show i = kn from by have q := c17; rw [hx4, Int32.le_iff_toInt_le, kc_0, nI_toInt (by omega)] at q; omega]⟩
        · have hik : i < kn := by
            rcases Nat.lt_or_ge i kn with q | q
            · exact q
            · exact absurd (by rw [hx4, show kn - i = 0 by omega, nI_0]; decide) c17
          refine f_aload (v := .ref (ad 0)) X hl ⟨_, rfl, dX5_at_20⟩ rfl ⟨(some (ad 0)), rfl⟩ ?_
          refine f_get (v := .ref (ad 6)) (k := 5) X Z i5 rfl (by decide) (by decide +kernel) dX5_at_21 km0 rfl ?_
          refine f_iload X hl ⟨_, rfl, dX5_at_24⟩ rfl ?_
          refine f_iald X Z dX5_at_25 km6 (by rw [hx3v]; exact vp_in_nI (hL.2.2 i v d hLi).1 (by decide)) ?_
          refine f_istore X hl ⟨_, rfl, dX5_at_26⟩ (by decide) (fun ls hl => ?_)
          have hl : lV ls _ [some (.ref (ad 0)), some (.int t0), some (.int k), some (.int ((F 6) x3.toNatClampNeg)), some (.int x4)] := hl
          refine f_iinc (v := -1) X hl dX5_at_27 (by decide) rfl (by decide) (fun ls hl => ?_)
          have hl : lV ls _ [some (.ref (ad 0)), some (.int t0), some (.int k), some (.int ((F 6) x3.toNatClampNeg)), some (.int (x4 + (-1)))] := hl
          refine lv_goto (tgt := 10) X.1 X.2.1 dX5_at_30 (by decide) ?_
          exact ih (i + 1) _ _ (by rw [hx3v, nI_clamp (by have := (hL.2.2 i v d hLi).1; omega)]; exact (hL.2.2 i v d hLi).2) (by rw [hx4, show kn - i = (kn - (i + 1)) + 1 by omega]; exact pk_m1 _) (by omega) (by omega) _ _ _ Z hl
  exact hloop (kn + 1) 0 _ _ (by rw [ht0]; exact hL.1) hkk (Nat.zero_le _) (by omega) _ _ _ Z hl
set_option maxHeartbeats 4000000 in
set_option maxRecDepth 100000 in
theorem c_X5_loadOf (l : Launch) (G : gT) (w : wT) (tg : tT) (ad : Nat → Nat) (F : Nat → Nat → Int32) (sd na ro wi lv : Int32) (hM : MW G tg w ad F sd na ro wi lv) (v : Nat) (d : VR) (bh : Option Nat) (hp : PM F v d bh) : Met l yX5_loadOf wsX5_loadOf ({ frames := 0, cells := 0, slots := 0, locals := 0 }) (va_Pc [.ref (ad 0), .int (nI v)] (wG G w)) (Qi G (fun r w' => w' = w ∧ r = ldOf d.2.1 d.2.2.2)) 0 0 (fr G) := by
  refine f_met (cc := cX5_loadOf) (maxL := 4) (ret := (some .int)) (by decide) rfl rfl (Nat.le_of_ble_eq_true rfl) ?_
  intro p e s m below meth cd X hr hlk hnm Z ls hl
  have X : CallFix p m cd cX5_loadOf 4 s [.ref (ad 0), .int (nI v)].toArray wsX5_loadOf RX5 := X
  have hl : lV ls _ [some (.ref (ad 0)), some (.int (nI v)), none, none] := hl
  have i5 : ∀ w ∈ wsX50, w ∈ wsX5_loadOf := by decide +kernel
  have km0 := hM.1
  have km1 : w (ad 1) = some (aI G 600 (F 1)) := hM.2.1 1 (by decide) (by decide)
  have km2 : w (ad 2) = some (aI G 600 (F 2)) := hM.2.1 2 (by decide) (by decide)
  have km3 : w (ad 3) = some (aI G 600 (F 3)) := hM.2.1 3 (by decide) (by decide)
  have km4 : w (ad 4) = some (aI G 600 (F 4)) := hM.2.1 4 (by decide) (by decide)
  have km5 : w (ad 5) = some (aI G 7200 (F 5)) := hM.2.1 5 (by decide) (by decide)
  have km6 : w (ad 6) = some (aI G 600 (F 6)) := hM.2.1 6 (by decide) (by decide)
  have km7 : w (ad 7) = some (aZ G 600 (F 7)) := hM.2.1 7 (by decide) (by decide)
  have km8 : w (ad 8) = some (aI G 6 (F 8)) := hM.2.1 8 (by decide) (by decide)
  have km9 : w (ad 9) = some (aI G 12 (F 9)) := hM.2.1 9 (by decide) (by decide)
  have km10 : w (ad 10) = some (aI G 144 (F 10)) := hM.2.1 10 (by decide) (by decide)
  have km11 : w (ad 11) = some (aI G 8 (F 11)) := hM.2.1 11 (by decide) (by decide)
  obtain ⟨hv6, -, hwe, -, hcr, -, -⟩ := hp
  obtain ⟨nn, f, hnn, hld, hcmp, hcf⟩ := crM_n d.2.1 hcr
  have hcl : (nI v).toNatClampNeg = v := nI_clamp (by omega)
  refine f_aload (v := .ref (ad 0)) X hl ⟨_, rfl, dX5_loadOf_0⟩ rfl ⟨(some (ad 0)), rfl⟩ ?_
  refine f_get (v := .ref (ad 2)) (k := 1) X Z i5 rfl (by decide) (by decide +kernel) dX5_loadOf_1 km0 rfl ?_
  refine f_iload X hl ⟨_, rfl, dX5_loadOf_4⟩ rfl ?_
  refine f_iald X Z dX5_loadOf_5 km2 (vp_in_nI hv6 (by decide)) ?_
  refine f_istore X hl ⟨_, rfl, dX5_loadOf_6⟩ (by decide) (fun ls hl => ?_)
  have hl : lV ls _ [some (.ref (ad 0)), some (.int (nI v)), some (.int ((F 2) (nI v).toNatClampNeg)), none] := hl
  refine lv_iconst (v := 0) X.1 X.2.1 dX5_loadOf_7 (by decide) ?_
  refine f_istore X hl ⟨_, rfl, dX5_loadOf_8⟩ (by decide) (fun ls hl => ?_)
  have hl : lV ls _ [some (.ref (ad 0)), some (.int (nI v)), some (.int ((F 2) (nI v).toNatClampNeg)), some (.int 0)] := hl
  have hloop : ∀ (fu : Nat) (i : Nat) (x2 x3 : Int32), x3 = nI i → x2 = sumTo d.2.1 f i → i ≤ nn → nn < i + fu → ∀ (H : Heap) (locs : List Loc) (ls : Array Slot), wZ G w s H locs → lV ls 4 [some (.ref (ad 0)), some (.int (nI v)), some (.int x2), some (.int x3)] → W p l e ({ frames := 0, cells := 0, slots := 0, locals := 0 }) s m [.ref (ad 0), .int (nI v)].toArray below meth cd H locs 0 0 (MQ below (Qi G (fun r w' => w' = w ∧ r = ldOf d.2.1 d.2.2.2)) [.ref (ad 0), .int (nI v)].toArray s 0 0 (fr G)) (F0 m 9 ls []) := by
    clear hl Z
    intro fu
    induction fu with
    | zero => intro i x2 x3 hx3 hx2 hle hfu H locs ls Z hl; exact absurd hfu (by omega)
    | succ fu ih =>
      intro i x2 x3 hx3 hx2 hle hfu H locs ls Z hl
      refine f_iload X hl ⟨_, rfl, dX5_loadOf_9⟩ rfl ?_
      refine f_aload (v := .ref (ad 0)) X hl ⟨_, rfl, dX5_loadOf_10⟩ rfl ⟨(some (ad 0)), rfl⟩ ?_
      refine f_get (v := .ref (ad 4)) (k := 3) X Z i5 rfl (by decide) (by decide +kernel) dX5_loadOf_11 km0 rfl ?_
      refine f_iload X hl ⟨_, rfl, dX5_loadOf_14⟩ rfl ?_
      refine f_iald X Z dX5_loadOf_15 km4 (vp_in_nI hv6 (by decide)) ?_
      refine lv_icmp_ge (tgt := 39) X.1 X.2.1 dX5_loadOf_16 (by decide) (fun c16 => ?_) (fun c16 => ?_)
      · refine f_iload X hl ⟨_, rfl, dX5_loadOf_39⟩ rfl ?_
        exact f_iret X hr hlk Z (Nat.le_of_ble_eq_true rfl) (Nat.le_of_ble_eq_true rfl) dX5_loadOf_40 ⟨rfl, by rw [hld, hx2, show i = nn from by have q := c16; rw [hx3, hcl] at q; have := (hcmp i (by omega)).mp q; omega]⟩
      · have hin : i < nn := by
          rcases Nat.lt_or_ge i nn with q | q
          · exact q
          · exact absurd (by rw [hx3, hcl]; exact (hcmp i (by omega)).mpr q) c16
        refine f_iload X hl ⟨_, rfl, dX5_loadOf_19⟩ rfl ?_
        refine f_aload (v := .ref (ad 0)) X hl ⟨_, rfl, dX5_loadOf_20⟩ rfl ⟨(some (ad 0)), rfl⟩ ?_
        refine f_get (v := .ref (ad 5)) (k := 4) X Z i5 rfl (by decide) (by decide +kernel) dX5_loadOf_21 km0 rfl ?_
        refine lv_bipush (v := 12) X.1 X.2.1 dX5_loadOf_24 (by decide) ?_
        refine f_iload X hl ⟨_, rfl, dX5_loadOf_26⟩ rfl ?_
        refine lv_imul X.1 X.2.1 dX5_loadOf_27 ?_
        refine f_iload X hl ⟨_, rfl, dX5_loadOf_28⟩ rfl ?_
        refine lv_iadd X.1 X.2.1 dX5_loadOf_29 ?_
        refine f_iald X Z dX5_loadOf_30 km5 (by rw [hx3]; exact ix12_in hv6 (by omega)) ?_
        refine lv_iadd X.1 X.2.1 dX5_loadOf_31 ?_
        refine f_istore X hl ⟨_, rfl, dX5_loadOf_32⟩ (by decide) (fun ls hl => ?_)
        have hl : lV ls _ [some (.ref (ad 0)), some (.int (nI v)), some (.int (x2 + ((F 5) ((12 * (nI v)) + x3).toNatClampNeg))), some (.int x3)] := hl
        refine f_iinc (v := 1) X hl dX5_loadOf_33 (by decide) rfl (by decide) (fun ls hl => ?_)
        have hl : lV ls _ [some (.ref (ad 0)), some (.int (nI v)), some (.int (x2 + ((F 5) ((12 * (nI v)) + x3).toNatClampNeg))), some (.int (x3 + 1))] := hl
        refine lv_goto (tgt := 9) X.1 X.2.1 dX5_loadOf_36 (by decide) ?_
        exact ih (i + 1) _ _ (by rw [hx3]; exact nI_1 i) (by rw [hx2, hx3, ix12 hv6 (by omega), nI_clamp (by omega), hcf i hin]; rfl) (by omega) (by omega) _ _ _ Z hl
  exact hloop (nn + 1) 0 _ _ nI_0.symm (by rw [hcl]; exact hwe) (Nat.zero_le _) (by omega) _ _ _ Z hl
set_option maxHeartbeats 4000000 in
set_option maxRecDepth 100000 in
theorem c_X5_against (l : Launch) (G : gT) (w : wT) (tg : tT) (ad : Nat → Nat) (F : Nat → Nat → Int32) (sd na ro wi lv : Int32) (hM : MW G tg w ad F sd na ro wi lv) (v0 i : Int32) (od : Option VR) (hv : vM F v0 od) : Met l yX5_against wsX5_against ({ frames := 1, cells := 0, slots := 0, locals := 22 }) (va_Pc [.ref (ad 0), .int v0, .int i] (wG G w)) (Qi G (fun r w' => w' = w ∧ r = nI (whyC od i))) 0 0 (fr G) := by
  refine f_met (cc := cX5_against) (maxL := 3) (ret := (some .int)) (by decide) rfl rfl (Nat.le_of_ble_eq_true rfl) ?_
  intro p e s m below meth cd X hr hlk hnm Z ls hl
  have X : CallFix p m cd cX5_against 3 s [.ref (ad 0), .int v0, .int i].toArray wsX5_against RX5 := X
  have hl : lV ls _ [some (.ref (ad 0)), some (.int v0), some (.int i)] := hl
  have i5 : ∀ w ∈ wsX50, w ∈ wsX5_against := by decide +kernel
  have km0 := hM.1
  have km1 : w (ad 1) = some (aI G 600 (F 1)) := hM.2.1 1 (by decide) (by decide)
  have km2 : w (ad 2) = some (aI G 600 (F 2)) := hM.2.1 2 (by decide) (by decide)
  have km3 : w (ad 3) = some (aI G 600 (F 3)) := hM.2.1 3 (by decide) (by decide)
  have km4 : w (ad 4) = some (aI G 600 (F 4)) := hM.2.1 4 (by decide) (by decide)
  have km5 : w (ad 5) = some (aI G 7200 (F 5)) := hM.2.1 5 (by decide) (by decide)
  have km6 : w (ad 6) = some (aI G 600 (F 6)) := hM.2.1 6 (by decide) (by decide)
  have km7 : w (ad 7) = some (aZ G 600 (F 7)) := hM.2.1 7 (by decide) (by decide)
  have km8 : w (ad 8) = some (aI G 6 (F 8)) := hM.2.1 8 (by decide) (by decide)
  have km9 : w (ad 9) = some (aI G 12 (F 9)) := hM.2.1 9 (by decide) (by decide)
  have km10 : w (ad 10) = some (aI G 144 (F 10)) := hM.2.1 10 (by decide) (by decide)
  have km11 : w (ad 11) = some (aI G 8 (F 11)) := hM.2.1 11 (by decide) (by decide)
  refine f_iload X hl ⟨_, rfl, dX5_against_0⟩ rfl ?_
  refine lv_iconst (v := (-1)) X.1 X.2.1 dX5_against_1 (by decide) ?_
  refine lv_icmp_ne (tgt := 7) X.1 X.2.1 dX5_against_2 (by decide) (fun c2 => ?_) (fun c2 => ?_)
  · obtain ⟨v, d, bh, hv0, hod, hp⟩ := vM_some hv c2
    subst hv0
    subst hod
    obtain ⟨hv6, hso, -, -, hcr, -, -⟩ := hp
    have hcl : (nI v).toNatClampNeg = v := nI_clamp (by omega)
    refine f_aload (v := .ref (ad 0)) X hl ⟨_, rfl, dX5_against_7⟩ rfl ⟨(some (ad 0)), rfl⟩ ?_
    refine f_get (v := .ref (ad 1)) (k := 0) X Z i5 rfl (by decide) (by decide +kernel) dX5_against_8 km0 rfl ?_
    refine f_iload X hl ⟨_, rfl, dX5_against_11⟩ rfl ?_
    refine f_iald X Z dX5_against_12 km1 (vp_in_nI hv6 (by decide)) ?_
    refine lv_iconst (v := 1) X.1 X.2.1 dX5_against_13 (by decide) ?_
    refine lv_icmp_ne (tgt := 21) X.1 X.2.1 dX5_against_14 (by decide) (fun c14 => ?_) (fun c14 => ?_)
    · rw [hcl, hso] at c14
      have hne : ¬ d.1.toInt = 1 := fun z => c14 (Int32.toInt_inj.mp z)
      refine f_aload (v := .ref (ad 0)) X hl ⟨_, rfl, dX5_against_21⟩ rfl ⟨(some (ad 0)), rfl⟩ ?_
      refine f_get (v := .ref (ad 4)) (k := 3) X Z i5 rfl (by decide) (by decide +kernel) dX5_against_22 km0 rfl ?_
      refine f_iload X hl ⟨_, rfl, dX5_against_25⟩ rfl ?_
      refine f_iald X Z dX5_against_26 km4 (vp_in_nI hv6 (by decide)) ?_
      refine lv_iconst (v := (-1)) X.1 X.2.1 dX5_against_27 (by decide) ?_
      refine lv_icmp_ne (tgt := 35) X.1 X.2.1 dX5_against_28 (by decide) (fun c28 => ?_) (fun c28 => ?_)
      · rw [hcl] at c28
        obtain ⟨n, f, hcd, h4n, hn12⟩ : ∃ n f, d.2.2.2 = some (n, f) ∧ F 4 v = nI n ∧ n ≤ 12 := by
          cases hq : d.2.2.2 with
          | none => rw [hq] at hcr; exact absurd hcr c28
          | some q => rw [hq] at hcr; exact ⟨q.1, q.2, rfl, hcr.1, hcr.2.1⟩
        refine f_iload X hl ⟨_, rfl, dX5_against_35⟩ rfl ?_
        refine lv_iconst (v := 0) X.1 X.2.1 dX5_against_36 (by decide) ?_
        refine f_aload (v := .ref (ad 0)) X hl ⟨_, rfl, dX5_against_37⟩ rfl ⟨(some (ad 0)), rfl⟩ ?_
        refine f_get (v := .ref (ad 4)) (k := 3) X Z i5 rfl (by decide) (by decide +kernel) dX5_against_38 km0 rfl ?_
        refine f_iload X hl ⟨_, rfl, dX5_against_41⟩ rfl ?_
        refine f_iald X Z dX5_against_42 km4 (vp_in_nI hv6 (by decide)) ?_
        refine lv_iconst (v := 1) X.1 X.2.1 dX5_against_43 (by decide) ?_
        refine lv_isub X.1 X.2.1 dX5_against_44 ?_
        refine f_callSi (rest := []) X Z hl.1 (c_X5_in l G _ _ _ _) (va_cwS 3 X.2.2.2.2 gX5_against_X5_in rfl rfl rfl (by decide +kernel) ⟨(Nat.le_of_ble_eq_true rfl), (Nat.le_of_ble_eq_true rfl)⟩) rfl dX5_against_45 ⟨(Nat.le_of_ble_eq_true rfl), (Nat.le_of_ble_eq_true rfl)⟩ rfl (Nat.le_of_ble_eq_true rfl) (fun r45 w1 H locs p45 Z => ?_)
        obtain ⟨w1e, hr45⟩ := p45
        have w1e := w1e.symm
        subst w1e
        refine lv_if_eq (tgt := 55) X.1 X.2.1 dX5_against_48 (by decide) (fun c48 => ?_) (fun c48 => ?_)
        · rw [hr45, bI_0] at c48
          rw [hcl, h4n, n1_toInt hn12, kc_0] at c48
          refine lv_iconst (v := 5) X.1 X.2.1 dX5_against_55 (by decide) ?_
          exact f_iret X hr hlk Z (Nat.le_of_ble_eq_true rfl) (Nat.le_of_ble_eq_true rfl) dX5_against_56 ⟨rfl, by simp only [whyC, if_neg hne, hcd]; rw [if_neg (by omega)]; rfl⟩
        · rw [hr45, bI_0, Classical.not_not] at c48
          rw [hcl, h4n, n1_toInt hn12, kc_0] at c48
          refine lv_iconst (v := 0) X.1 X.2.1 dX5_against_51 (by decide) ?_
          refine lv_goto (tgt := 56) X.1 X.2.1 dX5_against_52 (by decide) ?_
          exact f_iret X hr hlk Z (Nat.le_of_ble_eq_true rfl) (Nat.le_of_ble_eq_true rfl) dX5_against_56 ⟨rfl, by simp only [whyC, if_neg hne, hcd]; rw [if_pos (by omega)]; rfl⟩
      · rw [hcl] at c28
        have hcd : d.2.2.2 = none := by
          cases hq : d.2.2.2 with
          | none => rfl
          | some q => rw [hq] at hcr; exact absurd (hcr.1.symm.trans c28) (enc_ne (by have := hcr.2.1; omega))
        refine lv_iconst (v := 1) X.1 X.2.1 dX5_against_31 (by decide) ?_
        refine lv_goto (tgt := 56) X.1 X.2.1 dX5_against_32 (by decide) ?_
        exact f_iret X hr hlk Z (Nat.le_of_ble_eq_true rfl) (Nat.le_of_ble_eq_true rfl) dX5_against_56 ⟨rfl, by simp only [whyC, if_neg hne, hcd]; rfl⟩
    · rw [hcl, hso] at c14
      refine lv_iconst (v := 2) X.1 X.2.1 dX5_against_17 (by decide) ?_
      refine lv_goto (tgt := 56) X.1 X.2.1 dX5_against_18 (by decide) ?_
      exact f_iret X hr hlk Z (Nat.le_of_ble_eq_true rfl) (Nat.le_of_ble_eq_true rfl) dX5_against_56 ⟨rfl, by simp only [whyC, c14, kc_1, if_pos]; rfl⟩
  · have ho := vM_none hv c2; subst ho
    refine lv_iconst (v := 1) X.1 X.2.1 dX5_against_5 (by decide) ?_
    exact f_iret X hr hlk Z (Nat.le_of_ble_eq_true rfl) (Nat.le_of_ble_eq_true rfl) dX5_against_6 ⟨rfl, rfl⟩
set_option maxHeartbeats 4000000 in
set_option maxRecDepth 100000 in
theorem c_X5_reported (l : Launch) (G : gT) (w : wT) (tg : tT) (ad : Nat → Nat) (F : Nat → Nat → Int32) (sd na ro wi lv : Int32) (hM : MW G tg w ad F sd na ro wi lv) (v : Nat) (hv6 : v < 600) : Met l yX5_reported wsX5_reported ({ frames := 1, cells := 0, slots := 0, locals := 21 }) (va_Pc [.ref (ad 0), .int (nI v)] (wG G w)) (Qi G (fun r w' => r = -10 - nI 7 ∧ w' = va_up (va_up w (ad 0) (some (cMo (some (ad 1)) (some (ad 2)) (some (ad 3)) (some (ad 4)) (some (ad 5)) (some (ad 6)) (some (ad 7)) (some (ad 8)) sd na (some (ad 9)) ro wi (some (ad 10)) (F 3 v) (some (ad 11))))) (ad 11) (some (aI G 8 (upd (F 11) 7 (F 11 7 + 1)))))) 0 0 (fr G) := by
  refine f_met (cc := cX5_reported) (maxL := 2) (ret := (some .int)) (by decide) rfl rfl (Nat.le_of_ble_eq_true rfl) ?_
  intro p e s m below meth cd X hr hlk hnm Z ls hl
  have X : CallFix p m cd cX5_reported 2 s [.ref (ad 0), .int (nI v)].toArray wsX5_reported RX5 := X
  have hl : lV ls _ [some (.ref (ad 0)), some (.int (nI v))] := hl
  have i5 : ∀ w ∈ wsX50, w ∈ wsX5_reported := by decide +kernel
  have km0 := hM.1
  have km1 : w (ad 1) = some (aI G 600 (F 1)) := hM.2.1 1 (by decide) (by decide)
  have km2 : w (ad 2) = some (aI G 600 (F 2)) := hM.2.1 2 (by decide) (by decide)
  have km3 : w (ad 3) = some (aI G 600 (F 3)) := hM.2.1 3 (by decide) (by decide)
  have km4 : w (ad 4) = some (aI G 600 (F 4)) := hM.2.1 4 (by decide) (by decide)
  have km5 : w (ad 5) = some (aI G 7200 (F 5)) := hM.2.1 5 (by decide) (by decide)
  have km6 : w (ad 6) = some (aI G 600 (F 6)) := hM.2.1 6 (by decide) (by decide)
  have km7 : w (ad 7) = some (aZ G 600 (F 7)) := hM.2.1 7 (by decide) (by decide)
  have km8 : w (ad 8) = some (aI G 6 (F 8)) := hM.2.1 8 (by decide) (by decide)
  have km9 : w (ad 9) = some (aI G 12 (F 9)) := hM.2.1 9 (by decide) (by decide)
  have km10 : w (ad 10) = some (aI G 144 (F 10)) := hM.2.1 10 (by decide) (by decide)
  have km11 : w (ad 11) = some (aI G 8 (F 11)) := hM.2.1 11 (by decide) (by decide)
  have hcl : (nI v).toNatClampNeg = v := nI_clamp (by omega)
  refine f_aload (v := .ref (ad 0)) X hl ⟨_, rfl, dX5_reported_0⟩ rfl ⟨(some (ad 0)), rfl⟩ ?_
  refine f_aload (v := .ref (ad 0)) X hl ⟨_, rfl, dX5_reported_1⟩ rfl ⟨(some (ad 0)), rfl⟩ ?_
  refine f_get (v := .ref (ad 3)) (k := 2) X Z i5 rfl (by decide) (by decide +kernel) dX5_reported_2 km0 rfl ?_
  refine f_iload X hl ⟨_, rfl, dX5_reported_5⟩ rfl ?_
  refine f_iald X Z dX5_reported_6 km3 (vp_in_nI hv6 (by decide)) ?_
  rw [hcl]
  refine f_put (v := .int (F 3 v)) (ty0 := tyX5) (k := 14) X Z i5 tyX5_ok nmX5 rfl (by decide) (by decide +kernel) rfl dX5_reported_7 km0 rfl rfl (Nat.le_of_ble_eq_true rfl) (fun H locs w1 e2 Z => ?_)
  have e2 : w1 = va_up w (ad 0) (some (cMo (some (ad 1)) (some (ad 2)) (some (ad 3)) (some (ad 4)) (some (ad 5)) (some (ad 6)) (some (ad 7)) (some (ad 8)) sd na (some (ad 9)) ro wi (some (ad 10)) (F 3 v) (some (ad 11)))) := e2
  have k3 : w1 (ad 1) = some (aI G 600 (F 1)) := by rw [e2]; exact lk_ne (adne hM 1 0 (by decide) (by decide) (by decide)) km1
  have k4 : w1 (ad 2) = some (aI G 600 (F 2)) := by rw [e2]; exact lk_ne (adne hM 2 0 (by decide) (by decide) (by decide)) km2
  have k5 : w1 (ad 3) = some (aI G 600 (F 3)) := by rw [e2]; exact lk_ne (adne hM 3 0 (by decide) (by decide) (by decide)) km3
  have k6 : w1 (ad 4) = some (aI G 600 (F 4)) := by rw [e2]; exact lk_ne (adne hM 4 0 (by decide) (by decide) (by decide)) km4
  have k7 : w1 (ad 5) = some (aI G 7200 (F 5)) := by rw [e2]; exact lk_ne (adne hM 5 0 (by decide) (by decide) (by decide)) km5
  have k8 : w1 (ad 6) = some (aI G 600 (F 6)) := by rw [e2]; exact lk_ne (adne hM 6 0 (by decide) (by decide) (by decide)) km6
  have k9 : w1 (ad 7) = some (aZ G 600 (F 7)) := by rw [e2]; exact lk_ne (adne hM 7 0 (by decide) (by decide) (by decide)) km7
  have k10 : w1 (ad 8) = some (aI G 6 (F 8)) := by rw [e2]; exact lk_ne (adne hM 8 0 (by decide) (by decide) (by decide)) km8
  have k11 : w1 (ad 9) = some (aI G 12 (F 9)) := by rw [e2]; exact lk_ne (adne hM 9 0 (by decide) (by decide) (by decide)) km9
  have k12 : w1 (ad 10) = some (aI G 144 (F 10)) := by rw [e2]; exact lk_ne (adne hM 10 0 (by decide) (by decide) (by decide)) km10
  have k13 : w1 (ad 11) = some (aI G 8 (F 11)) := by rw [e2]; exact lk_ne (adne hM 11 0 (by decide) (by decide) (by decide)) km11
  have k14 : w1 (ad 0) = some (cMo (some (ad 1)) (some (ad 2)) (some (ad 3)) (some (ad 4)) (some (ad 5)) (some (ad 6)) (some (ad 7)) (some (ad 8)) sd na (some (ad 9)) ro wi (some (ad 10)) (F 3 v) (some (ad 11))) := by rw [e2]; exact up_eq
  refine f_aload (v := .ref (ad 0)) X hl ⟨_, rfl, dX5_reported_10⟩ rfl ⟨(some (ad 0)), rfl⟩ ?_
  refine lv_bipush (v := 7) X.1 X.2.1 dX5_reported_11 (by decide) ?_
  refine f_callVi (rest := []) X Z hl.1 (c_X5_no l G w1 tg ad F sd na ro wi (F 3 v) (hM.fld e2) 7 (by decide)) (cwV 1 X.2.2.2.2 gX5_reported_X5_no rfl rfl rfl (by decide +kernel) ⟨(Nat.le_of_ble_eq_true rfl), (Nat.le_of_ble_eq_true rfl)⟩) rfl rfl dX5_reported_13 ⟨(Nat.le_of_ble_eq_true rfl), (Nat.le_of_ble_eq_true rfl)⟩ rfl (Nat.le_of_ble_eq_true rfl) k14 (fun r13 w15 H locs p13 Z => ?_)
  obtain ⟨hrT, hwT⟩ := p13
  exact f_iret X hr hlk Z (Nat.le_of_ble_eq_true rfl) (Nat.le_of_ble_eq_true rfl) dX5_reported_16 ⟨hrT, by rw [hwT, e2]⟩
set_option maxHeartbeats 4000000 in
set_option maxRecDepth 100000 in
theorem c_X5_against_ (l : Launch) (G : gT) (w : wT) (tg : tT) (ad : Nat → Nat) (F : Nat → Nat → Int32) (sd na ro wi lv : Int32) (hM : MW G tg w ad F sd na ro wi lv) (i j mm : Int32) (op : OP) (ho : (ro = -1 ∧ op = none) ∨ ∃ r k, ro = nI r ∧ op = some (r, k) ∧ r ≤ 12) : Met l yX5_against_ wsX5_against_ ({ frames := 1, cells := 0, slots := 0, locals := 22 }) (va_Pc [.ref (ad 0), .int i, .int j, .int mm] (wG G w)) (Qi G (fun v w' => w' = w ∧ v = nI (whyA op i j mm))) 0 0 (fr G) := by
  refine f_met (cc := cX5_against_) (maxL := 4) (ret := (some .int)) (by decide) rfl rfl (Nat.le_of_ble_eq_true rfl) ?_
  intro p e s m below meth cd X hr hlk hnm Z ls hl
  have X : CallFix p m cd cX5_against_ 4 s [.ref (ad 0), .int i, .int j, .int mm].toArray wsX5_against_ RX5 := X
  have hl : lV ls _ [some (.ref (ad 0)), some (.int i), some (.int j), some (.int mm)] := hl
  have i5 : ∀ w ∈ wsX50, w ∈ wsX5_against_ := by decide +kernel
  have km0 := hM.1
  have km1 : w (ad 1) = some (aI G 600 (F 1)) := hM.2.1 1 (by decide) (by decide)
  have km2 : w (ad 2) = some (aI G 600 (F 2)) := hM.2.1 2 (by decide) (by decide)
  have km3 : w (ad 3) = some (aI G 600 (F 3)) := hM.2.1 3 (by decide) (by decide)
  have km4 : w (ad 4) = some (aI G 600 (F 4)) := hM.2.1 4 (by decide) (by decide)
  have km5 : w (ad 5) = some (aI G 7200 (F 5)) := hM.2.1 5 (by decide) (by decide)
  have km6 : w (ad 6) = some (aI G 600 (F 6)) := hM.2.1 6 (by decide) (by decide)
  have km7 : w (ad 7) = some (aZ G 600 (F 7)) := hM.2.1 7 (by decide) (by decide)
  have km8 : w (ad 8) = some (aI G 6 (F 8)) := hM.2.1 8 (by decide) (by decide)
  have km9 : w (ad 9) = some (aI G 12 (F 9)) := hM.2.1 9 (by decide) (by decide)
  have km10 : w (ad 10) = some (aI G 144 (F 10)) := hM.2.1 10 (by decide) (by decide)
  have km11 : w (ad 11) = some (aI G 8 (F 11)) := hM.2.1 11 (by decide) (by decide)
  refine f_aload (v := .ref (ad 0)) X hl ⟨_, rfl, dX5_against__0⟩ rfl ⟨(some (ad 0)), rfl⟩ ?_
  refine f_get (v := .int ro) (k := 11) X Z i5 rfl (by decide) (by decide +kernel) dX5_against__1 km0 rfl ?_
  refine lv_iconst (v := (-1)) X.1 X.2.1 dX5_against__4 (by decide) ?_
  refine lv_icmp_ne (tgt := 12) X.1 X.2.1 dX5_against__5 (by decide) (fun c5 => ?_) (fun c5 => ?_)
  · obtain ⟨r, k, hro, hop, hr12⟩ : ∃ r k, ro = nI r ∧ op = some (r, k) ∧ r ≤ 12 := by
      rcases ho with ⟨h, -⟩ | h
      · exact absurd h c5
      · exact h
    subst hop
    refine f_iload X hl ⟨_, rfl, dX5_against__12⟩ rfl ?_
    refine lv_iconst (v := 0) X.1 X.2.1 dX5_against__13 (by decide) ?_
    refine f_aload (v := .ref (ad 0)) X hl ⟨_, rfl, dX5_against__14⟩ rfl ⟨(some (ad 0)), rfl⟩ ?_
    refine f_get (v := .int ro) (k := 11) X Z i5 rfl (by decide) (by decide +kernel) dX5_against__15 km0 rfl ?_
    refine lv_iconst (v := 1) X.1 X.2.1 dX5_against__18 (by decide) ?_
    refine lv_isub X.1 X.2.1 dX5_against__19 ?_
    refine f_callSi (rest := []) X Z hl.1 (c_X5_in l G _ _ _ _) (va_cwS 3 X.2.2.2.2 gX5_against__X5_in rfl rfl rfl (by decide +kernel) ⟨(Nat.le_of_ble_eq_true rfl), (Nat.le_of_ble_eq_true rfl)⟩) rfl dX5_against__20 ⟨(Nat.le_of_ble_eq_true rfl), (Nat.le_of_ble_eq_true rfl)⟩ rfl (Nat.le_of_ble_eq_true rfl) (fun r20 w1 H locs p20 Z => ?_)
    obtain ⟨w1e, hr20⟩ := p20
    have w1e := w1e.symm
    subst w1e
    refine lv_if_eq (tgt := 37) X.1 X.2.1 dX5_against__23 (by decide) (fun c23 => ?_) (fun c23 => ?_)
    · rw [hr20, bI_0] at c23
      rw [hro, n1_toInt hr12, kc_0] at c23
      refine lv_iconst (v := 5) X.1 X.2.1 dX5_against__37 (by decide) ?_
      refine lv_goto (tgt := 42) X.1 X.2.1 dX5_against__38 (by decide) ?_
      exact f_iret X hr hlk Z (Nat.le_of_ble_eq_true rfl) (Nat.le_of_ble_eq_true rfl) dX5_against__42 ⟨rfl, by simp only [whyA]; rw [if_neg (by omega)]; rfl⟩
    · rw [hr20, bI_0, Classical.not_not] at c23
      rw [hro, n1_toInt hr12, kc_0] at c23
      refine f_iload X hl ⟨_, rfl, dX5_against__26⟩ rfl ?_
      refine lv_iconst (v := 0) X.1 X.2.1 dX5_against__27 (by decide) ?_
      refine f_iload X hl ⟨_, rfl, dX5_against__28⟩ rfl ?_
      refine lv_iconst (v := 1) X.1 X.2.1 dX5_against__29 (by decide) ?_
      refine lv_isub X.1 X.2.1 dX5_against__30 ?_
      refine f_callSi (rest := []) X Z hl.1 (c_X5_in l G _ _ _ _) (va_cwS 3 X.2.2.2.2 gX5_against__X5_in rfl rfl rfl (by decide +kernel) ⟨(Nat.le_of_ble_eq_true rfl), (Nat.le_of_ble_eq_true rfl)⟩) rfl dX5_against__31 ⟨(Nat.le_of_ble_eq_true rfl), (Nat.le_of_ble_eq_true rfl)⟩ rfl (Nat.le_of_ble_eq_true rfl) (fun r31 w2 H locs p31 Z => ?_)
      obtain ⟨w2e, hr31⟩ := p31
      have w2e := w2e.symm
      subst w2e
      refine lv_if_ne (tgt := 41) X.1 X.2.1 dX5_against__34 (by decide) (fun c34 => ?_) (fun c34 => ?_)
      · rw [hr31, bI_0, Classical.not_not] at c34
        rw [kc_0] at c34
        refine lv_iconst (v := 0) X.1 X.2.1 dX5_against__41 (by decide) ?_
        exact f_iret X hr hlk Z (Nat.le_of_ble_eq_true rfl) (Nat.le_of_ble_eq_true rfl) dX5_against__42 ⟨rfl, by simp only [whyA]; rw [if_pos ⟨by omega, c34⟩]; rfl⟩
      · rw [hr31, bI_0] at c34
        rw [kc_0] at c34
        refine lv_iconst (v := 5) X.1 X.2.1 dX5_against__37 (by decide) ?_
        refine lv_goto (tgt := 42) X.1 X.2.1 dX5_against__38 (by decide) ?_
        exact f_iret X hr hlk Z (Nat.le_of_ble_eq_true rfl) (Nat.le_of_ble_eq_true rfl) dX5_against__42 ⟨rfl, by simp only [whyA]; rw [if_neg (fun z => c34 z.2)]; rfl⟩
  · have hop : op = none := by
      rcases ho with ⟨-, h⟩ | ⟨r, k, h1, h2, h3⟩
      · exact h
      · exact absurd (h1.symm.trans c5) (enc_ne (by omega))
    subst hop
    refine lv_iconst (v := 1) X.1 X.2.1 dX5_against__8 (by decide) ?_
    refine lv_goto (tgt := 42) X.1 X.2.1 dX5_against__9 (by decide) ?_
    exact f_iret X hr hlk Z (Nat.le_of_ble_eq_true rfl) (Nat.le_of_ble_eq_true rfl) dX5_against__42 ⟨rfl, rfl⟩
end
