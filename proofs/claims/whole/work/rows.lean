section
-- ===== PART A: goes FIRST, ahead of the names: the tables' words, and 'selects' of the private methods out of them =====
/-- a private method of a class that the tables say can be made, by its rows of tables_1 -/
def lw_okq (q : MethodName × Nat) : Prop := (q.1.cls ≠ "java/lang/invoke/MethodHandle" ∧ q.1.cls ≠ "java/lang/invoke/VarHandle") ∧ Cond.instantiable q.1.cls q.2 ∈ tables_1 ∧ Cond.privateMethod q.1 ∈ tables_1 ∧ Cond.instanceMethod q.1 ∈ tables_1
theorem lw_p0 : lw_okq (⟨"SettleLayers$Ground", "moveWater", "()Z"⟩, 7) := ⟨⟨by decide +kernel, by decide +kernel⟩, List.mem_of_getElem? (i := 109) (by decide +kernel), List.mem_of_getElem? (i := 209) (by decide +kernel), List.mem_of_getElem? (i := 210) (by decide +kernel)⟩
theorem lw_p1 : lw_okq (⟨"SettleLayers$Ground", "leavingAbove", "()J"⟩, 7) := ⟨⟨by decide +kernel, by decide +kernel⟩, List.mem_of_getElem? (i := 109) (by decide +kernel), List.mem_of_getElem? (i := 213) (by decide +kernel), List.mem_of_getElem? (i := 214) (by decide +kernel)⟩
theorem lw_p2 : lw_okq (⟨"SettleLayers$Ground", "goingBelow", "(I)J"⟩, 7) := ⟨⟨by decide +kernel, by decide +kernel⟩, List.mem_of_getElem? (i := 109) (by decide +kernel), List.mem_of_getElem? (i := 218) (by decide +kernel), List.mem_of_getElem? (i := 219) (by decide +kernel)⟩
theorem lw_p3 : lw_okq (⟨"SettleLayers$Ground", "raisePasts", "()V"⟩, 7) := ⟨⟨by decide +kernel, by decide +kernel⟩, List.mem_of_getElem? (i := 109) (by decide +kernel), List.mem_of_getElem? (i := 222) (by decide +kernel), List.mem_of_getElem? (i := 223) (by decide +kernel)⟩
theorem lw_p4 : lw_okq (⟨"SettleLayers", "unitsSunkWith", "(II)J"⟩, 6) := ⟨⟨by decide +kernel, by decide +kernel⟩, List.mem_of_getElem? (i := 9) (by decide +kernel), List.mem_of_getElem? (i := 297) (by decide +kernel), List.mem_of_getElem? (i := 298) (by decide +kernel)⟩
theorem lw_p5 : lw_okq (⟨"SettleLayersModel", "goDay", "(IJ)V"⟩, 24) := ⟨⟨by decide +kernel, by decide +kernel⟩, List.mem_of_getElem? (i := 352) (by decide +kernel), List.mem_of_getElem? (i := 458) (by decide +kernel), List.mem_of_getElem? (i := 459) (by decide +kernel)⟩
theorem lw_p6 : lw_okq (⟨"SettleLayersModel", "step", "()V"⟩, 24) := ⟨⟨by decide +kernel, by decide +kernel⟩, List.mem_of_getElem? (i := 352) (by decide +kernel), List.mem_of_getElem? (i := 462) (by decide +kernel), List.mem_of_getElem? (i := 463) (by decide +kernel)⟩
theorem lw_p7 : lw_okq (⟨"SettleLayersModel", "sinking", "(IJJ)J"⟩, 24) := ⟨⟨by decide +kernel, by decide +kernel⟩, List.mem_of_getElem? (i := 352) (by decide +kernel), List.mem_of_getElem? (i := 466) (by decide +kernel), List.mem_of_getElem? (i := 467) (by decide +kernel)⟩
theorem lw_p8 : lw_okq (⟨"SettleLayersModel", "units", "(I)J"⟩, 24) := ⟨⟨by decide +kernel, by decide +kernel⟩, List.mem_of_getElem? (i := 352) (by decide +kernel), List.mem_of_getElem? (i := 470) (by decide +kernel), List.mem_of_getElem? (i := 471) (by decide +kernel)⟩
theorem lw_p9 : lw_okq (⟨"SettleLayersModel", "endUnits", "()J"⟩, 24) := ⟨⟨by decide +kernel, by decide +kernel⟩, List.mem_of_getElem? (i := 352) (by decide +kernel), List.mem_of_getElem? (i := 496) (by decide +kernel), List.mem_of_getElem? (i := 497) (by decide +kernel)⟩
theorem lw_p10 : lw_okq (⟨"SettleLayersModel", "shareNow", "()I"⟩, 24) := ⟨⟨by decide +kernel, by decide +kernel⟩, List.mem_of_getElem? (i := 352) (by decide +kernel), List.mem_of_getElem? (i := 504) (by decide +kernel), List.mem_of_getElem? (i := 505) (by decide +kernel)⟩
theorem lw_p11 : lw_okq (⟨"SettleLayersModel", "keep", "()V"⟩, 24) := ⟨⟨by decide +kernel, by decide +kernel⟩, List.mem_of_getElem? (i := 352) (by decide +kernel), List.mem_of_getElem? (i := 512) (by decide +kernel), List.mem_of_getElem? (i := 513) (by decide +kernel)⟩
theorem lw_p12 : lw_okq (⟨"SettleLayersModel", "putBack", "()V"⟩, 24) := ⟨⟨by decide +kernel, by decide +kernel⟩, List.mem_of_getElem? (i := 352) (by decide +kernel), List.mem_of_getElem? (i := 516) (by decide +kernel), List.mem_of_getElem? (i := 517) (by decide +kernel)⟩
def lw_privs_1 : List (MethodName × Nat) := [(⟨"SettleLayers$Ground", "moveWater", "()Z"⟩, 7), (⟨"SettleLayers$Ground", "leavingAbove", "()J"⟩, 7), (⟨"SettleLayers$Ground", "goingBelow", "(I)J"⟩, 7), (⟨"SettleLayers$Ground", "raisePasts", "()V"⟩, 7), (⟨"SettleLayers", "unitsSunkWith", "(II)J"⟩, 6), (⟨"SettleLayersModel", "goDay", "(IJ)V"⟩, 24), (⟨"SettleLayersModel", "step", "()V"⟩, 24), (⟨"SettleLayersModel", "sinking", "(IJJ)J"⟩, 24), (⟨"SettleLayersModel", "units", "(I)J"⟩, 24), (⟨"SettleLayersModel", "endUnits", "()J"⟩, 24), (⟨"SettleLayersModel", "shareNow", "()I"⟩, 24), (⟨"SettleLayersModel", "keep", "()V"⟩, 24), (⟨"SettleLayersModel", "putBack", "()V"⟩, 24)]
theorem lw_r1 : ∀ q ∈ lw_privs_1, lw_okq q := List.forall_mem_cons.mpr ⟨lw_p0, List.forall_mem_cons.mpr ⟨lw_p1, List.forall_mem_cons.mpr ⟨lw_p2, List.forall_mem_cons.mpr ⟨lw_p3, List.forall_mem_cons.mpr ⟨lw_p4, List.forall_mem_cons.mpr ⟨lw_p5, List.forall_mem_cons.mpr ⟨lw_p6, List.forall_mem_cons.mpr ⟨lw_p7, List.forall_mem_cons.mpr ⟨lw_p8, List.forall_mem_cons.mpr ⟨lw_p9, List.forall_mem_cons.mpr ⟨lw_p10, List.forall_mem_cons.mpr ⟨lw_p11, List.forall_mem_cons.mpr ⟨lw_p12, fun _ h => absurd h List.not_mem_nil⟩⟩⟩⟩⟩⟩⟩⟩⟩⟩⟩⟩⟩
def lw_privs : List (MethodName × Nat) := lw_privs_1
def lw_tbl : List Cond := k2_sels lw_privs ++ tables_1
theorem lw_privs_ok : ∀ q ∈ lw_privs, lw_okq q := lw_r1
-- ===== the names: by a program of mine (wip/gen/names.py) out of the tables and the listing =====
def R_G : String := "SettleLayers$Ground"
def T_G : u_T := fun k => match k with
  | 0 => ("SettleLayers$Ground", "soil", "LSettleLayers$Soil;", true)
  | 1 => ("SettleLayers$Ground", "loads", "LSettleLayers$Loads;", true)
  | 2 => ("SettleLayers$Ground", "pressure", "[J", true)
  | 3 => ("SettleLayers$Ground", "past", "[J", true)
  | 4 => ("SettleLayers$Ground", "day", "I", false)
  | 5 => ("SettleLayers$Ground", "come", "J", false)
  | _ => ("SettleLayers$Ground", "waterOut", "J", false)
def ty_G : Nat → FieldType := fun k => match k with
  | 0 => .object "SettleLayers$Soil"
  | 1 => .object "SettleLayers$Loads"
  | 2 => .array .long
  | 3 => .array .long
  | 4 => .int
  | 5 => .long
  | _ => .long
theorem tok_G : ∀ k, k < 7 → parseFieldDescriptor (T_G k).2.2.1 = some (ty_G k) := by decide +kernel
theorem nnm_G : ∀ a, a < 7 → ∀ b, b < 7 → a ≠ b → (T_G a).2.1 ≠ (T_G b).2.1 := by decide +kernel
def R_O : String := "SettleLayers$Loads"
def T_O : u_T := fun k => match k with
  | 0 => ("SettleLayers$Loads", "day", "[I", true)
  | 1 => ("SettleLayers$Loads", "pascals", "[I", true)
  | 2 => ("SettleLayers$Loads", "many", "I", false)
  | _ => ("SettleLayers$Loads", "sum", "J", false)
def ty_O : Nat → FieldType := fun k => match k with
  | 0 => .array .int
  | 1 => .array .int
  | 2 => .int
  | _ => .long
theorem tok_O : ∀ k, k < 4 → parseFieldDescriptor (T_O k).2.2.1 = some (ty_O k) := by decide +kernel
theorem nnm_O : ∀ a, a < 4 → ∀ b, b < 4 → a ≠ b → (T_O a).2.1 ≠ (T_O b).2.1 := by decide +kernel
def R_D : String := "SettleLayers$Readings"
def T_D : u_T := fun k => match k with
  | 0 => ("SettleLayers$Readings", "day", "[I", true)
  | 1 => ("SettleLayers$Readings", "micrometres", "[J", true)
  | _ => ("SettleLayers$Readings", "many", "I", false)
def ty_D : Nat → FieldType := fun k => match k with
  | 0 => .array .int
  | 1 => .array .long
  | _ => .int
theorem tok_D : ∀ k, k < 3 → parseFieldDescriptor (T_D k).2.2.1 = some (ty_D k) := by decide +kernel
theorem nnm_D : ∀ a, a < 3 → ∀ b, b < 3 → a ≠ b → (T_D a).2.1 ≠ (T_D b).2.1 := by decide +kernel
def R_S : String := "SettleLayers$Soil"
def T_S : u_T := fun k => match k with
  | 0 => ("SettleLayers$Soil", "leak", "[I", true)
  | 1 => ("SettleLayers$Soil", "leakToNext", "[I", true)
  | 2 => ("SettleLayers$Soil", "hard", "[I", true)
  | 3 => ("SettleLayers$Soil", "soft", "[I", true)
  | 4 => ("SettleLayers$Soil", "firstPast", "[I", true)
  | 5 => ("SettleLayers$Soil", "firstCell", "[I", true)
  | 6 => ("SettleLayers$Soil", "layers", "I", false)
  | 7 => ("SettleLayers$Soil", "cells", "I", false)
  | 8 => ("SettleLayers$Soil", "drainedAbove", "Z", false)
  | 9 => ("SettleLayers$Soil", "drainedBelow", "Z", false)
  | _ => ("SettleLayers$Soil", "drain", "I", false)
def ty_S : Nat → FieldType := fun k => match k with
  | 0 => .array .int
  | 1 => .array .int
  | 2 => .array .int
  | 3 => .array .int
  | 4 => .array .int
  | 5 => .array .int
  | 6 => .int
  | 7 => .int
  | 8 => .boolean
  | 9 => .boolean
  | _ => .int
theorem tok_S : ∀ k, k < 11 → parseFieldDescriptor (T_S k).2.2.1 = some (ty_S k) := by decide +kernel
theorem nnm_S : ∀ a, a < 11 → ∀ b, b < 11 → a ≠ b → (T_S a).2.1 ≠ (T_S b).2.1 := by decide +kernel
def R_X : String := "SettleLayers"
def T_X : u_T := fun k => match k with
  | 0 => ("SettleLayers", "soil", "LSettleLayers$Soil;", true)
  | 1 => ("SettleLayers", "loads", "LSettleLayers$Loads;", true)
  | 2 => ("SettleLayers", "readings", "LSettleLayers$Readings;", true)
  | 3 => ("SettleLayers", "now", "LSettleLayers$Ground;", true)
  | 4 => ("SettleLayers", "trial", "LSettleLayers$Ground;", true)
  | _ => ("SettleLayers", "micrometresAtDay", "[J", true)
def ty_X : Nat → FieldType := fun k => match k with
  | 0 => .object "SettleLayers$Soil"
  | 1 => .object "SettleLayers$Loads"
  | 2 => .object "SettleLayers$Readings"
  | 3 => .object "SettleLayers$Ground"
  | 4 => .object "SettleLayers$Ground"
  | _ => .array .long
theorem tok_X : ∀ k, k < 6 → parseFieldDescriptor (T_X k).2.2.1 = some (ty_X k) := by decide +kernel
theorem nnm_X : ∀ a, a < 6 → ∀ b, b < 6 → a ≠ b → (T_X a).2.1 ≠ (T_X b).2.1 := by decide +kernel
def R_M : String := "SettleLayersModel"
def T_M : u_T := fun k => match k with
  | 0 => ("SettleLayersModel", "layers", "I", false)
  | 1 => ("SettleLayersModel", "cells", "I", false)
  | 2 => ("SettleLayersModel", "layerOf", "[I", true)
  | 3 => ("SettleLayersModel", "leaks", "[I", true)
  | 4 => ("SettleLayersModel", "hards", "[I", true)
  | 5 => ("SettleLayersModel", "softs", "[I", true)
  | 6 => ("SettleLayersModel", "pressures", "[J", true)
  | 7 => ("SettleLayersModel", "pasts", "[J", true)
  | 8 => ("SettleLayersModel", "sinks", "[J", true)
  | 9 => ("SettleLayersModel", "come", "J", false)
  | 10 => ("SettleLayersModel", "gone", "J", false)
  | 11 => ("SettleLayersModel", "day", "I", false)
  | 12 => ("SettleLayersModel", "above", "Z", false)
  | 13 => ("SettleLayersModel", "below", "Z", false)
  | 14 => ("SettleLayersModel", "drain", "I", false)
  | 15 => ("SettleLayersModel", "loads", "I", false)
  | 16 => ("SettleLayersModel", "loadDays", "[I", true)
  | 17 => ("SettleLayersModel", "loadSizes", "[I", true)
  | 18 => ("SettleLayersModel", "readings", "I", false)
  | 19 => ("SettleLayersModel", "readDays", "[I", true)
  | 20 => ("SettleLayersModel", "readValues", "[J", true)
  | 21 => ("SettleLayersModel", "history", "[J", true)
  | 22 => ("SettleLayersModel", "flows", "[J", true)
  | _ => ("SettleLayersModel", "kept", "[J", true)
def ty_M : Nat → FieldType := fun k => match k with
  | 0 => .int
  | 1 => .int
  | 2 => .array .int
  | 3 => .array .int
  | 4 => .array .int
  | 5 => .array .int
  | 6 => .array .long
  | 7 => .array .long
  | 8 => .array .long
  | 9 => .long
  | 10 => .long
  | 11 => .int
  | 12 => .boolean
  | 13 => .boolean
  | 14 => .int
  | 15 => .int
  | 16 => .array .int
  | 17 => .array .int
  | 18 => .int
  | 19 => .array .int
  | 20 => .array .long
  | 21 => .array .long
  | 22 => .array .long
  | _ => .array .long
theorem tok_M : ∀ k, k < 24 → parseFieldDescriptor (T_M k).2.2.1 = some (ty_M k) := by decide +kernel
theorem nnm_M : ∀ a, a < 24 → ∀ b, b < 24 → a ≠ b → (T_M a).2.1 ≠ (T_M b).2.1 := by decide +kernel
abbrev vwCl : List vw_C := [(R_G, T_G, 7), (R_O, T_O, 4), (R_D, T_D, 3), (R_S, T_S, 11), (R_X, T_X, 6), (R_M, T_M, 24)]
/-- the words that all contracts rest on -/
def WA : List Cond := lw_tbl.filter goodWord
theorem il_G : ∀ w ∈ u_ws R_G T_G 7, w ∈ lw_tbl ∧ goodWord w = true := by decide +kernel
theorem in_G : ∀ w ∈ u_ws R_G T_G 7, w ∈ WA := fun w h => List.mem_filter.mpr (il_G w h)
theorem il_O : ∀ w ∈ u_ws R_O T_O 4, w ∈ lw_tbl ∧ goodWord w = true := by decide +kernel
theorem in_O : ∀ w ∈ u_ws R_O T_O 4, w ∈ WA := fun w h => List.mem_filter.mpr (il_O w h)
theorem il_D : ∀ w ∈ u_ws R_D T_D 3, w ∈ lw_tbl ∧ goodWord w = true := by decide +kernel
theorem in_D : ∀ w ∈ u_ws R_D T_D 3, w ∈ WA := fun w h => List.mem_filter.mpr (il_D w h)
theorem il_S : ∀ w ∈ u_ws R_S T_S 11, w ∈ lw_tbl ∧ goodWord w = true := by decide +kernel
theorem in_S : ∀ w ∈ u_ws R_S T_S 11, w ∈ WA := fun w h => List.mem_filter.mpr (il_S w h)
theorem il_X : ∀ w ∈ u_ws R_X T_X 6, w ∈ lw_tbl ∧ goodWord w = true := by decide +kernel
theorem in_X : ∀ w ∈ u_ws R_X T_X 6, w ∈ WA := fun w h => List.mem_filter.mpr (il_X w h)
theorem il_M : ∀ w ∈ u_ws R_M T_M 24, w ∈ lw_tbl ∧ goodWord w = true := by decide +kernel
theorem in_M : ∀ w ∈ u_ws R_M T_M 24, w ∈ WA := fun w h => List.mem_filter.mpr (il_M w h)
abbrev bX_init : ByteArray := prog_1_method_1_code
def yX_init : MethodName := ⟨R_X, "<init>", "()V"⟩
abbrev wX_init : List Cond := .code yX_init bX_init 1 none :: WA
abbrev bS_init : ByteArray := prog_5_method_1_code
def yS_init : MethodName := ⟨R_S, "<init>", "()V"⟩
abbrev wS_init : List Cond := .code yS_init bS_init 1 none :: WA
abbrev bO_init : ByteArray := prog_3_method_1_code
def yO_init : MethodName := ⟨R_O, "<init>", "()V"⟩
abbrev wO_init : List Cond := .code yO_init bO_init 1 none :: WA
abbrev bD_init : ByteArray := prog_4_method_1_code
def yD_init : MethodName := ⟨R_D, "<init>", "()V"⟩
abbrev wD_init : List Cond := .code yD_init bD_init 1 none :: WA
abbrev bG_init : ByteArray := prog_2_method_1_code
def yG_init : MethodName := ⟨R_G, "<init>", "(LSettleLayers$Soil;LSettleLayers$Loads;)V"⟩
abbrev wG_init : List Cond := .code yG_init bG_init 3 none :: WA
abbrev bX_layer : ByteArray := prog_1_method_2_code
def yX_layer : MethodName := ⟨R_X, "layer", "(IIIII)I"⟩
abbrev wX_layer : List Cond := .code yX_layer bX_layer 6 (some .int) :: WA
abbrev bX_within : ByteArray := prog_1_method_19_code
def yX_within : MethodName := ⟨R_X, "within", "(III)Z"⟩
abbrev wX_within : List Cond := .code yX_within bX_within 3 (some .boolean) :: WA
abbrev bG_begin : ByteArray := prog_2_method_2_code
def yG_begin : MethodName := ⟨R_G, "begin", "(III)V"⟩
abbrev wG_begin : List Cond := .code yG_begin bG_begin 5 none :: WA
abbrev bS_addLayer : ByteArray := prog_5_method_2_code
def yS_addLayer : MethodName := ⟨R_S, "addLayer", "(IIIII)I"⟩
abbrev wS_addLayer : List Cond := .code yS_addLayer bS_addLayer 7 (some .int) :: WA
abbrev bX_drains : ByteArray := prog_1_method_3_code
def yX_drains : MethodName := ⟨R_X, "drains", "(ZZI)Z"⟩
abbrev wX_drains : List Cond := .code yX_drains bX_drains 4 (some .boolean) :: WA
abbrev bX_load : ByteArray := prog_1_method_4_code
def yX_load : MethodName := ⟨R_X, "load", "(II)I"⟩
abbrev wX_load : List Cond := .code yX_load bX_load 3 (some .int) :: WA
abbrev bO_add : ByteArray := prog_3_method_2_code
def yO_add : MethodName := ⟨R_O, "add", "(II)I"⟩
abbrev wO_add : List Cond := .code yO_add bO_add 3 (some .int) :: WA
abbrev bX_run : ByteArray := prog_1_method_5_code
def yX_run : MethodName := ⟨R_X, "run", "(I)I"⟩
abbrev wX_run : List Cond := .code yX_run bX_run 3 (some .int) :: WA
abbrev bG_passDay : ByteArray := prog_2_method_5_code
def yG_passDay : MethodName := ⟨R_G, "passDay", "()V"⟩
abbrev wG_passDay : List Cond := .code yG_passDay bG_passDay 3 none :: WA
abbrev bO_comingOn : ByteArray := prog_3_method_3_code
def yO_comingOn : MethodName := ⟨R_O, "comingOn", "(I)J"⟩
abbrev wO_comingOn : List Cond := .code yO_comingOn bO_comingOn 5 (some .long) :: WA
abbrev bG_lay : ByteArray := prog_2_method_4_code
def yG_lay : MethodName := ⟨R_G, "lay", "(J)V"⟩
abbrev wG_lay : List Cond := .code yG_lay bG_lay 4 none :: WA
abbrev bG_moveWater : ByteArray := prog_2_method_6_code
def yG_moveWater : MethodName := ⟨R_G, "moveWater", "()Z"⟩
abbrev wG_moveWater : List Cond := .code yG_moveWater bG_moveWater 9 (some .boolean) :: WA
abbrev bG_leavingAbove : ByteArray := prog_2_method_7_code
def yG_leavingAbove : MethodName := ⟨R_G, "leavingAbove", "()J"⟩
abbrev wG_leavingAbove : List Cond := .code yG_leavingAbove bG_leavingAbove 1 (some .long) :: WA
abbrev bG_goingBelow : ByteArray := prog_2_method_8_code
def yG_goingBelow : MethodName := ⟨R_G, "goingBelow", "(I)J"⟩
abbrev wG_goingBelow : List Cond := .code yG_goingBelow bG_goingBelow 2 (some .long) :: WA
abbrev bG_raisePasts : ByteArray := prog_2_method_9_code
def yG_raisePasts : MethodName := ⟨R_G, "raisePasts", "()V"⟩
abbrev wG_raisePasts : List Cond := .code yG_raisePasts bG_raisePasts 2 none :: WA
abbrev bG_carried : ByteArray := prog_2_method_10_code
def yG_carried : MethodName := ⟨R_G, "carried", "(I)J"⟩
abbrev wG_carried : List Cond := .code yG_carried bG_carried 2 (some .long) :: WA
abbrev bG_unitsSunk : ByteArray := prog_2_method_12_code
def yG_unitsSunk : MethodName := ⟨R_G, "unitsSunk", "()J"⟩
abbrev wG_unitsSunk : List Cond := .code yG_unitsSunk bG_unitsSunk 1 (some .long) :: WA
abbrev bG_unitsSunk2 : ByteArray := prog_2_method_13_code
def yG_unitsSunk2 : MethodName := ⟨R_G, "unitsSunk", "(II)J"⟩
abbrev wG_unitsSunk2 : List Cond := .code yG_unitsSunk2 bG_unitsSunk2 6 (some .long) :: WA
abbrev bS_unitsSunk : ByteArray := prog_5_method_3_code
def yS_unitsSunk : MethodName := ⟨R_S, "unitsSunk", "(IJJ)J"⟩
abbrev wS_unitsSunk : List Cond := .code yS_unitsSunk bS_unitsSunk 6 (some .long) :: WA
abbrev bX_sunk : ByteArray := prog_1_method_6_code
def yX_sunk : MethodName := ⟨R_X, "sunk", "(I)J"⟩
abbrev wX_sunk : List Cond := .code yX_sunk bX_sunk 2 (some .long) :: WA
abbrev bX_told : ByteArray := prog_1_method_7_code
def yX_told : MethodName := ⟨R_X, "told", "(II)I"⟩
abbrev wX_told : List Cond := .code yX_told bX_told 3 (some .int) :: WA
abbrev bX_out : ByteArray := prog_1_method_8_code
def yX_out : MethodName := ⟨R_X, "out", "()J"⟩
abbrev wX_out : List Cond := .code yX_out bX_out 1 (some .long) :: WA
abbrev bX_balance : ByteArray := prog_1_method_9_code
def yX_balance : MethodName := ⟨R_X, "balance", "()Z"⟩
abbrev wX_balance : List Cond := .code yX_balance bX_balance 1 (some .boolean) :: WA
abbrev bG_allPressures : ByteArray := prog_2_method_11_code
def yG_allPressures : MethodName := ⟨R_G, "allPressures", "()J"⟩
abbrev wG_allPressures : List Cond := .code yG_allPressures bG_allPressures 4 (some .long) :: WA
abbrev bX_end : ByteArray := prog_1_method_10_code
def yX_end : MethodName := ⟨R_X, "end", "()J"⟩
abbrev wX_end : List Cond := .code yX_end bX_end 1 (some .long) :: WA
abbrev bG_unitsAtEnd : ByteArray := prog_2_method_14_code
def yG_unitsAtEnd : MethodName := ⟨R_G, "unitsAtEnd", "()J"⟩
abbrev wG_unitsAtEnd : List Cond := .code yG_unitsAtEnd bG_unitsAtEnd 4 (some .long) :: WA
abbrev bX_share : ByteArray := prog_1_method_11_code
def yX_share : MethodName := ⟨R_X, "share", "()I"⟩
abbrev wX_share : List Cond := .code yX_share bX_share 1 (some .int) :: WA
abbrev bX_thousandths : ByteArray := prog_1_method_20_code
def yX_thousandths : MethodName := ⟨R_X, "thousandths", "(JJ)I"⟩
abbrev wX_thousandths : List Cond := .code yX_thousandths bX_thousandths 4 (some .int) :: WA
abbrev bX_until : ByteArray := prog_1_method_12_code
def yX_until : MethodName := ⟨R_X, "until", "(I)I"⟩
abbrev wX_until : List Cond := .code yX_until bX_until 5 (some .int) :: WA
abbrev bG_become : ByteArray := prog_2_method_3_code
def yG_become : MethodName := ⟨R_G, "become", "(LSettleLayers$Ground;)V"⟩
abbrev wG_become : List Cond := .code yG_become bG_become 3 none :: WA
abbrev bX_surcharge : ByteArray := prog_1_method_13_code
def yX_surcharge : MethodName := ⟨R_X, "surcharge", "(II)I"⟩
abbrev wX_surcharge : List Cond := .code yX_surcharge bX_surcharge 6 (some .int) :: WA
abbrev bX_unitsSunkWith : ByteArray := prog_1_method_18_code
def yX_unitsSunkWith : MethodName := ⟨R_X, "unitsSunkWith", "(II)J"⟩
abbrev wX_unitsSunkWith : List Cond := .code yX_unitsSunkWith bX_unitsSunkWith 4 (some .long) :: WA
abbrev bX_read : ByteArray := prog_1_method_14_code
def yX_read : MethodName := ⟨R_X, "read", "(IJ)I"⟩
abbrev wX_read : List Cond := .code yX_read bX_read 4 (some .int) :: WA
abbrev bD_firstFreeDay : ByteArray := prog_4_method_2_code
def yD_firstFreeDay : MethodName := ⟨R_D, "firstFreeDay", "()I"⟩
abbrev wD_firstFreeDay : List Cond := .code yD_firstFreeDay bD_firstFreeDay 1 (some .int) :: WA
abbrev bD_add : ByteArray := prog_4_method_3_code
def yD_add : MethodName := ⟨R_D, "add", "(IJ)I"⟩
abbrev wD_add : List Cond := .code yD_add bD_add 4 (some .int) :: WA
abbrev bX_foretold : ByteArray := prog_1_method_15_code
def yX_foretold : MethodName := ⟨R_X, "foretold", "(I)J"⟩
abbrev wX_foretold : List Cond := .code yX_foretold bX_foretold 2 (some .long) :: WA
abbrev bD_foretellByLastThree : ByteArray := prog_4_method_4_code
def yD_foretellByLastThree : MethodName := ⟨R_D, "foretellByLastThree", "()J"⟩
abbrev wD_foretellByLastThree : List Cond := .code yD_foretellByLastThree bD_foretellByLastThree 7 (some .long) :: WA
abbrev bD_tooGreat : ByteArray := prog_4_method_7_code
def yD_tooGreat : MethodName := ⟨R_D, "tooGreat", "(J)Z"⟩
abbrev wD_tooGreat : List Cond := .code yD_tooGreat bD_tooGreat 2 (some .boolean) :: WA
abbrev bD_quotient : ByteArray := prog_4_method_8_code
def yD_quotient : MethodName := ⟨R_D, "quotient", "(JJ)J"⟩
abbrev wD_quotient : List Cond := .code yD_quotient bD_quotient 4 (some .long) :: WA
abbrev bD_foretellByLastTwo : ByteArray := prog_4_method_5_code
def yD_foretellByLastTwo : MethodName := ⟨R_D, "foretellByLastTwo", "()J"⟩
abbrev wD_foretellByLastTwo : List Cond := .code yD_foretellByLastTwo bD_foretellByLastTwo 9 (some .long) :: WA
abbrev bD_foretellByFirstAndLast : ByteArray := prog_4_method_6_code
def yD_foretellByFirstAndLast : MethodName := ⟨R_D, "foretellByFirstAndLast", "()J"⟩
abbrev wD_foretellByFirstAndLast : List Cond := .code yD_foretellByFirstAndLast bD_foretellByFirstAndLast 7 (some .long) :: WA
abbrev bX_off : ByteArray := prog_1_method_16_code
def yX_off : MethodName := ⟨R_X, "off", "(J)I"⟩
abbrev wX_off : List Cond := .code yX_off bX_off 6 (some .int) :: WA
abbrev bX_count : ByteArray := prog_1_method_17_code
def yX_count : MethodName := ⟨R_X, "count", "(I)I"⟩
abbrev wX_count : List Cond := .code yX_count bX_count 2 (some .int) :: WA
abbrev bM_init : ByteArray := prog_7_method_1_code
def yM_init : MethodName := ⟨R_M, "<init>", "()V"⟩
abbrev wM_init : List Cond := .code yM_init bM_init 1 none :: WA
abbrev bM_layer : ByteArray := prog_7_method_4_code
def yM_layer : MethodName := ⟨R_M, "layer", "(IIIII)I"⟩
abbrev wM_layer : List Cond := .code yM_layer bM_layer 8 (some .int) :: WA
abbrev bM_in : ByteArray := prog_7_method_3_code
def yM_in : MethodName := ⟨R_M, "in", "(JJJ)Z"⟩
abbrev wM_in : List Cond := .code yM_in bM_in 6 (some .boolean) :: WA
abbrev bM_drains : ByteArray := prog_7_method_5_code
def yM_drains : MethodName := ⟨R_M, "drains", "(ZZI)Z"⟩
abbrev wM_drains : List Cond := .code yM_drains bM_drains 4 (some .boolean) :: WA
abbrev bM_load : ByteArray := prog_7_method_6_code
def yM_load : MethodName := ⟨R_M, "load", "(II)I"⟩
abbrev wM_load : List Cond := .code yM_load bM_load 3 (some .int) :: WA
abbrev bM_run : ByteArray := prog_7_method_11_code
def yM_run : MethodName := ⟨R_M, "run", "(I)I"⟩
abbrev wM_run : List Cond := .code yM_run bM_run 3 (some .int) :: WA
abbrev bM_goDay : ByteArray := prog_7_method_9_code
def yM_goDay : MethodName := ⟨R_M, "goDay", "(IJ)V"⟩
abbrev wM_goDay : List Cond := .code yM_goDay bM_goDay 7 none :: WA
abbrev bM_step : ByteArray := prog_7_method_8_code
def yM_step : MethodName := ⟨R_M, "step", "()V"⟩
abbrev wM_step : List Cond := .code yM_step bM_step 10 none :: WA
abbrev bM_sinking : ByteArray := prog_7_method_7_code
def yM_sinking : MethodName := ⟨R_M, "sinking", "(IJJ)J"⟩
abbrev wM_sinking : List Cond := .code yM_sinking bM_sinking 8 (some .long) :: WA
abbrev bM_units : ByteArray := prog_7_method_10_code
def yM_units : MethodName := ⟨R_M, "units", "(I)J"⟩
abbrev wM_units : List Cond := .code yM_units bM_units 5 (some .long) :: WA
abbrev bM_sunk : ByteArray := prog_7_method_12_code
def yM_sunk : MethodName := ⟨R_M, "sunk", "(I)J"⟩
abbrev wM_sunk : List Cond := .code yM_sunk bM_sunk 2 (some .long) :: WA
abbrev bM_told : ByteArray := prog_7_method_13_code
def yM_told : MethodName := ⟨R_M, "told", "(II)I"⟩
abbrev wM_told : List Cond := .code yM_told bM_told 3 (some .int) :: WA
abbrev bM_out : ByteArray := prog_7_method_14_code
def yM_out : MethodName := ⟨R_M, "out", "()J"⟩
abbrev wM_out : List Cond := .code yM_out bM_out 1 (some .long) :: WA
abbrev bM_balance : ByteArray := prog_7_method_15_code
def yM_balance : MethodName := ⟨R_M, "balance", "()Z"⟩
abbrev wM_balance : List Cond := .code yM_balance bM_balance 4 (some .boolean) :: WA
abbrev bM_end : ByteArray := prog_7_method_17_code
def yM_end : MethodName := ⟨R_M, "end", "()J"⟩
abbrev wM_end : List Cond := .code yM_end bM_end 1 (some .long) :: WA
abbrev bM_endUnits : ByteArray := prog_7_method_16_code
def yM_endUnits : MethodName := ⟨R_M, "endUnits", "()J"⟩
abbrev wM_endUnits : List Cond := .code yM_endUnits bM_endUnits 6 (some .long) :: WA
abbrev bM_share : ByteArray := prog_7_method_19_code
def yM_share : MethodName := ⟨R_M, "share", "()I"⟩
abbrev wM_share : List Cond := .code yM_share bM_share 1 (some .int) :: WA
abbrev bM_shareNow : ByteArray := prog_7_method_18_code
def yM_shareNow : MethodName := ⟨R_M, "shareNow", "()I"⟩
abbrev wM_shareNow : List Cond := .code yM_shareNow bM_shareNow 3 (some .int) :: WA
abbrev bM_until : ByteArray := prog_7_method_22_code
def yM_until : MethodName := ⟨R_M, "until", "(I)I"⟩
abbrev wM_until : List Cond := .code yM_until bM_until 3 (some .int) :: WA
abbrev bM_keep : ByteArray := prog_7_method_20_code
def yM_keep : MethodName := ⟨R_M, "keep", "()V"⟩
abbrev wM_keep : List Cond := .code yM_keep bM_keep 2 none :: WA
abbrev bM_putBack : ByteArray := prog_7_method_21_code
def yM_putBack : MethodName := ⟨R_M, "putBack", "()V"⟩
abbrev wM_putBack : List Cond := .code yM_putBack bM_putBack 2 none :: WA
abbrev bM_surcharge : ByteArray := prog_7_method_23_code
def yM_surcharge : MethodName := ⟨R_M, "surcharge", "(II)I"⟩
abbrev wM_surcharge : List Cond := .code yM_surcharge bM_surcharge 7 (some .int) :: WA
abbrev bM_read : ByteArray := prog_7_method_24_code
def yM_read : MethodName := ⟨R_M, "read", "(IJ)I"⟩
abbrev wM_read : List Cond := .code yM_read bM_read 5 (some .int) :: WA
abbrev bM_foretold : ByteArray := prog_7_method_25_code
def yM_foretold : MethodName := ⟨R_M, "foretold", "(I)J"⟩
abbrev wM_foretold : List Cond := .code yM_foretold bM_foretold 15 (some .long) :: WA
abbrev bM_off : ByteArray := prog_7_method_26_code
def yM_off : MethodName := ⟨R_M, "off", "(J)I"⟩
abbrev wM_off : List Cond := .code yM_off bM_off 7 (some .int) :: WA
abbrev bM_count : ByteArray := prog_7_method_27_code
def yM_count : MethodName := ⟨R_M, "count", "(I)I"⟩
abbrev wM_count : List Cond := .code yM_count bM_count 2 (some .int) :: WA
end
section
-- ===== the tables' words among WA =====
theorem m_0 : (.initialized "SettleLayersLaw" : Cond) ∈ WA := List.mem_filter.mpr ⟨List.mem_of_getElem? (i := 13) (by decide +kernel), by decide +kernel⟩
theorem m_1 : (.initialized R_X : Cond) ∈ WA := List.mem_filter.mpr ⟨List.mem_of_getElem? (i := 14) (by decide +kernel), by decide +kernel⟩
theorem m_2 : (.initialized R_S : Cond) ∈ WA := List.mem_filter.mpr ⟨List.mem_of_getElem? (i := 15) (by decide +kernel), by decide +kernel⟩
theorem m_3 : (.initialized R_O : Cond) ∈ WA := List.mem_filter.mpr ⟨List.mem_of_getElem? (i := 16) (by decide +kernel), by decide +kernel⟩
theorem m_4 : (.initialized R_D : Cond) ∈ WA := List.mem_filter.mpr ⟨List.mem_of_getElem? (i := 17) (by decide +kernel), by decide +kernel⟩
theorem m_5 : (.initialized R_G : Cond) ∈ WA := List.mem_filter.mpr ⟨List.mem_of_getElem? (i := 18) (by decide +kernel), by decide +kernel⟩
theorem m_6 : (.initialized R_M : Cond) ∈ WA := List.mem_filter.mpr ⟨List.mem_of_getElem? (i := 19) (by decide +kernel), by decide +kernel⟩
theorem m_7 : (.initialized "java/lang/Math" : Cond) ∈ WA := List.mem_filter.mpr ⟨List.mem_of_getElem? (i := 20) (by decide +kernel), by decide +kernel⟩
theorem m_8 : (.classLink "SettleLayersLaw" 7 R_X : Cond) ∈ WA := List.mem_filter.mpr ⟨List.mem_of_getElem? (i := 21) (by decide +kernel), by decide +kernel⟩
theorem m_9 : (.instantiable R_X 6 : Cond) ∈ WA := List.mem_filter.mpr ⟨List.mem_of_getElem? (i := 22) (by decide +kernel), by decide +kernel⟩
theorem m_10 : (.methodLink "SettleLayersLaw" 9 yX_init : Cond) ∈ WA := List.mem_filter.mpr ⟨List.mem_of_getElem? (i := 23) (by decide +kernel), by decide +kernel⟩
theorem m_11 : (.instanceMethod yX_init : Cond) ∈ WA := List.mem_filter.mpr ⟨List.mem_of_getElem? (i := 24) (by decide +kernel), by decide +kernel⟩
theorem m_12 : (.code yX_init prog_1_method_1_code 1 none : Cond) ∈ WA := List.mem_filter.mpr ⟨List.mem_of_getElem? (i := 25) (by decide +kernel), by decide +kernel⟩
theorem m_13 : (.methodLink R_X 1 objectInit : Cond) ∈ WA := List.mem_filter.mpr ⟨List.mem_of_getElem? (i := 26) (by decide +kernel), by decide +kernel⟩
theorem m_14 : (.instanceMethod objectInit : Cond) ∈ WA := List.mem_filter.mpr ⟨List.mem_of_getElem? (i := 27) (by decide +kernel), by decide +kernel⟩
theorem m_15 : (.code objectInit ⟨#[0xb1]⟩ 1 none : Cond) ∈ WA := List.mem_filter.mpr ⟨List.mem_of_getElem? (i := 28) (by decide +kernel), by decide +kernel⟩
theorem m_16 : (.classLink R_X 7 R_S : Cond) ∈ WA := List.mem_filter.mpr ⟨List.mem_of_getElem? (i := 29) (by decide +kernel), by decide +kernel⟩
theorem m_17 : (.instantiable R_S 11 : Cond) ∈ WA := List.mem_filter.mpr ⟨List.mem_of_getElem? (i := 30) (by decide +kernel), by decide +kernel⟩
theorem m_19 : (.instanceMethod yS_init : Cond) ∈ WA := List.mem_filter.mpr ⟨List.mem_of_getElem? (i := 32) (by decide +kernel), by decide +kernel⟩
theorem m_20 : (.code yS_init prog_5_method_1_code 1 none : Cond) ∈ WA := List.mem_filter.mpr ⟨List.mem_of_getElem? (i := 33) (by decide +kernel), by decide +kernel⟩
theorem m_21 : (.methodLink R_S 3 objectInit : Cond) ∈ WA := List.mem_filter.mpr ⟨List.mem_of_getElem? (i := 34) (by decide +kernel), by decide +kernel⟩
theorem m_22 : (.fieldLink R_S 9 "SettleLayers$Soil" "leak" "[I" : Cond) ∈ WA := List.mem_filter.mpr ⟨List.mem_of_getElem? (i := 35) (by decide +kernel), by decide +kernel⟩
theorem m_23 : (.fieldLink R_G 75 "SettleLayers$Soil" "leak" "[I" : Cond) ∈ WA := List.mem_filter.mpr ⟨List.mem_of_getElem? (i := 36) (by decide +kernel), by decide +kernel⟩
theorem m_24 : (.fieldLink R_S 15 "SettleLayers$Soil" "leakToNext" "[I" : Cond) ∈ WA := List.mem_filter.mpr ⟨List.mem_of_getElem? (i := 37) (by decide +kernel), by decide +kernel⟩
theorem m_25 : (.fieldLink R_G 79 "SettleLayers$Soil" "leakToNext" "[I" : Cond) ∈ WA := List.mem_filter.mpr ⟨List.mem_of_getElem? (i := 38) (by decide +kernel), by decide +kernel⟩
theorem m_26 : (.fieldLink R_S 18 "SettleLayers$Soil" "hard" "[I" : Cond) ∈ WA := List.mem_filter.mpr ⟨List.mem_of_getElem? (i := 39) (by decide +kernel), by decide +kernel⟩
theorem m_27 : (.fieldLink R_S 21 "SettleLayers$Soil" "soft" "[I" : Cond) ∈ WA := List.mem_filter.mpr ⟨List.mem_of_getElem? (i := 40) (by decide +kernel), by decide +kernel⟩
theorem m_28 : (.fieldLink R_S 24 "SettleLayers$Soil" "firstPast" "[I" : Cond) ∈ WA := List.mem_filter.mpr ⟨List.mem_of_getElem? (i := 41) (by decide +kernel), by decide +kernel⟩
theorem m_29 : (.fieldLink R_S 27 "SettleLayers$Soil" "firstCell" "[I" : Cond) ∈ WA := List.mem_filter.mpr ⟨List.mem_of_getElem? (i := 42) (by decide +kernel), by decide +kernel⟩
theorem m_30 : (.fieldLink R_X 98 "SettleLayers$Soil" "firstCell" "[I" : Cond) ∈ WA := List.mem_filter.mpr ⟨List.mem_of_getElem? (i := 43) (by decide +kernel), by decide +kernel⟩
theorem m_31 : (.fieldLink R_S 44 "SettleLayers$Soil" "layers" "I" : Cond) ∈ WA := List.mem_filter.mpr ⟨List.mem_of_getElem? (i := 44) (by decide +kernel), by decide +kernel⟩
theorem m_32 : (.fieldLink R_X 93 "SettleLayers$Soil" "layers" "I" : Cond) ∈ WA := List.mem_filter.mpr ⟨List.mem_of_getElem? (i := 45) (by decide +kernel), by decide +kernel⟩
theorem m_33 : (.fieldLink R_S 34 "SettleLayers$Soil" "cells" "I" : Cond) ∈ WA := List.mem_filter.mpr ⟨List.mem_of_getElem? (i := 46) (by decide +kernel), by decide +kernel⟩
theorem m_34 : (.fieldLink R_X 57 "SettleLayers$Soil" "cells" "I" : Cond) ∈ WA := List.mem_filter.mpr ⟨List.mem_of_getElem? (i := 47) (by decide +kernel), by decide +kernel⟩
theorem m_35 : (.fieldLink R_G 37 "SettleLayers$Soil" "cells" "I" : Cond) ∈ WA := List.mem_filter.mpr ⟨List.mem_of_getElem? (i := 48) (by decide +kernel), by decide +kernel⟩
theorem m_36 : (.fieldLink R_S 30 "SettleLayers$Soil" "drainedAbove" "Z" : Cond) ∈ WA := List.mem_filter.mpr ⟨List.mem_of_getElem? (i := 49) (by decide +kernel), by decide +kernel⟩
theorem m_37 : (.fieldLink R_X 69 "SettleLayers$Soil" "drainedAbove" "Z" : Cond) ∈ WA := List.mem_filter.mpr ⟨List.mem_of_getElem? (i := 50) (by decide +kernel), by decide +kernel⟩
theorem m_38 : (.fieldLink R_G 71 "SettleLayers$Soil" "drainedAbove" "Z" : Cond) ∈ WA := List.mem_filter.mpr ⟨List.mem_of_getElem? (i := 51) (by decide +kernel), by decide +kernel⟩
theorem m_39 : (.fieldLink R_X 73 "SettleLayers$Soil" "drainedBelow" "Z" : Cond) ∈ WA := List.mem_filter.mpr ⟨List.mem_of_getElem? (i := 52) (by decide +kernel), by decide +kernel⟩
theorem m_40 : (.fieldLink R_G 82 "SettleLayers$Soil" "drainedBelow" "Z" : Cond) ∈ WA := List.mem_filter.mpr ⟨List.mem_of_getElem? (i := 53) (by decide +kernel), by decide +kernel⟩
theorem m_41 : (.fieldLink R_X 76 "SettleLayers$Soil" "drain" "I" : Cond) ∈ WA := List.mem_filter.mpr ⟨List.mem_of_getElem? (i := 54) (by decide +kernel), by decide +kernel⟩
theorem m_42 : (.fieldLink R_G 66 "SettleLayers$Soil" "drain" "I" : Cond) ∈ WA := List.mem_filter.mpr ⟨List.mem_of_getElem? (i := 55) (by decide +kernel), by decide +kernel⟩
theorem m_66 : (.arrayClass .int : Cond) ∈ WA := List.mem_filter.mpr ⟨List.mem_of_getElem? (i := 79) (by decide +kernel), by decide +kernel⟩
theorem m_67 : (.classLink R_X 16 R_O : Cond) ∈ WA := List.mem_filter.mpr ⟨List.mem_of_getElem? (i := 80) (by decide +kernel), by decide +kernel⟩
theorem m_68 : (.instantiable R_O 4 : Cond) ∈ WA := List.mem_filter.mpr ⟨List.mem_of_getElem? (i := 81) (by decide +kernel), by decide +kernel⟩
theorem m_70 : (.instanceMethod yO_init : Cond) ∈ WA := List.mem_filter.mpr ⟨List.mem_of_getElem? (i := 83) (by decide +kernel), by decide +kernel⟩
theorem m_71 : (.code yO_init prog_3_method_1_code 1 none : Cond) ∈ WA := List.mem_filter.mpr ⟨List.mem_of_getElem? (i := 84) (by decide +kernel), by decide +kernel⟩
theorem m_72 : (.methodLink R_O 3 objectInit : Cond) ∈ WA := List.mem_filter.mpr ⟨List.mem_of_getElem? (i := 85) (by decide +kernel), by decide +kernel⟩
theorem m_73 : (.fieldLink R_O 9 "SettleLayers$Loads" "day" "[I" : Cond) ∈ WA := List.mem_filter.mpr ⟨List.mem_of_getElem? (i := 86) (by decide +kernel), by decide +kernel⟩
theorem m_74 : (.fieldLink R_O 15 "SettleLayers$Loads" "pascals" "[I" : Cond) ∈ WA := List.mem_filter.mpr ⟨List.mem_of_getElem? (i := 87) (by decide +kernel), by decide +kernel⟩
theorem m_75 : (.fieldLink R_O 18 "SettleLayers$Loads" "many" "I" : Cond) ∈ WA := List.mem_filter.mpr ⟨List.mem_of_getElem? (i := 88) (by decide +kernel), by decide +kernel⟩
theorem m_76 : (.fieldLink R_X 50 "SettleLayers$Loads" "many" "I" : Cond) ∈ WA := List.mem_filter.mpr ⟨List.mem_of_getElem? (i := 89) (by decide +kernel), by decide +kernel⟩
theorem m_77 : (.fieldLink R_O 22 "SettleLayers$Loads" "sum" "J" : Cond) ∈ WA := List.mem_filter.mpr ⟨List.mem_of_getElem? (i := 90) (by decide +kernel), by decide +kernel⟩
theorem m_78 : (.fieldLink R_G 101 "SettleLayers$Loads" "sum" "J" : Cond) ∈ WA := List.mem_filter.mpr ⟨List.mem_of_getElem? (i := 91) (by decide +kernel), by decide +kernel⟩
theorem m_88 : (.classLink R_X 23 R_D : Cond) ∈ WA := List.mem_filter.mpr ⟨List.mem_of_getElem? (i := 101) (by decide +kernel), by decide +kernel⟩
theorem m_89 : (.instantiable R_D 3 : Cond) ∈ WA := List.mem_filter.mpr ⟨List.mem_of_getElem? (i := 102) (by decide +kernel), by decide +kernel⟩
theorem m_91 : (.instanceMethod yD_init : Cond) ∈ WA := List.mem_filter.mpr ⟨List.mem_of_getElem? (i := 104) (by decide +kernel), by decide +kernel⟩
theorem m_92 : (.code yD_init prog_4_method_1_code 1 none : Cond) ∈ WA := List.mem_filter.mpr ⟨List.mem_of_getElem? (i := 105) (by decide +kernel), by decide +kernel⟩
theorem m_93 : (.methodLink R_D 3 objectInit : Cond) ∈ WA := List.mem_filter.mpr ⟨List.mem_of_getElem? (i := 106) (by decide +kernel), by decide +kernel⟩
theorem m_94 : (.fieldLink R_D 9 "SettleLayers$Readings" "day" "[I" : Cond) ∈ WA := List.mem_filter.mpr ⟨List.mem_of_getElem? (i := 107) (by decide +kernel), by decide +kernel⟩
theorem m_95 : (.fieldLink R_X 159 "SettleLayers$Readings" "day" "[I" : Cond) ∈ WA := List.mem_filter.mpr ⟨List.mem_of_getElem? (i := 108) (by decide +kernel), by decide +kernel⟩
theorem m_96 : (.fieldLink R_D 15 "SettleLayers$Readings" "micrometres" "[J" : Cond) ∈ WA := List.mem_filter.mpr ⟨List.mem_of_getElem? (i := 109) (by decide +kernel), by decide +kernel⟩
theorem m_97 : (.fieldLink R_X 161 "SettleLayers$Readings" "micrometres" "[J" : Cond) ∈ WA := List.mem_filter.mpr ⟨List.mem_of_getElem? (i := 110) (by decide +kernel), by decide +kernel⟩
theorem m_98 : (.fieldLink R_D 19 "SettleLayers$Readings" "many" "I" : Cond) ∈ WA := List.mem_filter.mpr ⟨List.mem_of_getElem? (i := 111) (by decide +kernel), by decide +kernel⟩
theorem m_99 : (.fieldLink R_X 146 "SettleLayers$Readings" "many" "I" : Cond) ∈ WA := List.mem_filter.mpr ⟨List.mem_of_getElem? (i := 112) (by decide +kernel), by decide +kernel⟩
theorem m_107 : (.arrayClass .long : Cond) ∈ WA := List.mem_filter.mpr ⟨List.mem_of_getElem? (i := 120) (by decide +kernel), by decide +kernel⟩
theorem m_108 : (.classLink R_X 30 R_G : Cond) ∈ WA := List.mem_filter.mpr ⟨List.mem_of_getElem? (i := 121) (by decide +kernel), by decide +kernel⟩
theorem m_109 : (.instantiable R_G 7 : Cond) ∈ WA := List.mem_filter.mpr ⟨List.mem_of_getElem? (i := 122) (by decide +kernel), by decide +kernel⟩
theorem m_110 : (.methodLink R_X 32 yG_init : Cond) ∈ WA := List.mem_filter.mpr ⟨List.mem_of_getElem? (i := 123) (by decide +kernel), by decide +kernel⟩
theorem m_111 : (.instanceMethod yG_init : Cond) ∈ WA := List.mem_filter.mpr ⟨List.mem_of_getElem? (i := 124) (by decide +kernel), by decide +kernel⟩
theorem m_112 : (.code yG_init prog_2_method_1_code 3 none : Cond) ∈ WA := List.mem_filter.mpr ⟨List.mem_of_getElem? (i := 125) (by decide +kernel), by decide +kernel⟩
theorem m_113 : (.methodLink R_G 3 objectInit : Cond) ∈ WA := List.mem_filter.mpr ⟨List.mem_of_getElem? (i := 126) (by decide +kernel), by decide +kernel⟩
theorem m_114 : (.fieldLink R_G 18 "SettleLayers$Ground" "soil" "LSettleLayers$Soil;" : Cond) ∈ WA := List.mem_filter.mpr ⟨List.mem_of_getElem? (i := 127) (by decide +kernel), by decide +kernel⟩
theorem m_115 : (.fieldLink R_G 22 "SettleLayers$Ground" "loads" "LSettleLayers$Loads;" : Cond) ∈ WA := List.mem_filter.mpr ⟨List.mem_of_getElem? (i := 128) (by decide +kernel), by decide +kernel⟩
theorem m_116 : (.fieldLink R_G 9 "SettleLayers$Ground" "pressure" "[J" : Cond) ∈ WA := List.mem_filter.mpr ⟨List.mem_of_getElem? (i := 129) (by decide +kernel), by decide +kernel⟩
theorem m_117 : (.fieldLink R_X 105 "SettleLayers$Ground" "pressure" "[J" : Cond) ∈ WA := List.mem_filter.mpr ⟨List.mem_of_getElem? (i := 130) (by decide +kernel), by decide +kernel⟩
theorem m_118 : (.fieldLink R_G 15 "SettleLayers$Ground" "past" "[J" : Cond) ∈ WA := List.mem_filter.mpr ⟨List.mem_of_getElem? (i := 131) (by decide +kernel), by decide +kernel⟩
theorem m_119 : (.fieldLink R_X 112 "SettleLayers$Ground" "past" "[J" : Cond) ∈ WA := List.mem_filter.mpr ⟨List.mem_of_getElem? (i := 132) (by decide +kernel), by decide +kernel⟩
theorem m_120 : (.fieldLink R_X 46 "SettleLayers$Ground" "day" "I" : Cond) ∈ WA := List.mem_filter.mpr ⟨List.mem_of_getElem? (i := 133) (by decide +kernel), by decide +kernel⟩
theorem m_121 : (.fieldLink R_G 26 "SettleLayers$Ground" "day" "I" : Cond) ∈ WA := List.mem_filter.mpr ⟨List.mem_of_getElem? (i := 134) (by decide +kernel), by decide +kernel⟩
theorem m_122 : (.fieldLink R_G 30 "SettleLayers$Ground" "come" "J" : Cond) ∈ WA := List.mem_filter.mpr ⟨List.mem_of_getElem? (i := 135) (by decide +kernel), by decide +kernel⟩
theorem m_123 : (.fieldLink R_X 119 "SettleLayers$Ground" "come" "J" : Cond) ∈ WA := List.mem_filter.mpr ⟨List.mem_of_getElem? (i := 136) (by decide +kernel), by decide +kernel⟩
theorem m_124 : (.fieldLink R_G 34 "SettleLayers$Ground" "waterOut" "J" : Cond) ∈ WA := List.mem_filter.mpr ⟨List.mem_of_getElem? (i := 137) (by decide +kernel), by decide +kernel⟩
theorem m_125 : (.fieldLink R_X 115 "SettleLayers$Ground" "waterOut" "J" : Cond) ∈ WA := List.mem_filter.mpr ⟨List.mem_of_getElem? (i := 138) (by decide +kernel), by decide +kernel⟩
theorem m_141 : (.fieldLink R_X 10 "SettleLayers" "soil" "LSettleLayers$Soil;" : Cond) ∈ WA := List.mem_filter.mpr ⟨List.mem_of_getElem? (i := 154) (by decide +kernel), by decide +kernel⟩
theorem m_142 : (.fieldLink R_X 19 "SettleLayers" "loads" "LSettleLayers$Loads;" : Cond) ∈ WA := List.mem_filter.mpr ⟨List.mem_of_getElem? (i := 155) (by decide +kernel), by decide +kernel⟩
theorem m_143 : (.fieldLink R_X 26 "SettleLayers" "readings" "LSettleLayers$Readings;" : Cond) ∈ WA := List.mem_filter.mpr ⟨List.mem_of_getElem? (i := 156) (by decide +kernel), by decide +kernel⟩
theorem m_144 : (.fieldLink R_X 35 "SettleLayers" "now" "LSettleLayers$Ground;" : Cond) ∈ WA := List.mem_filter.mpr ⟨List.mem_of_getElem? (i := 157) (by decide +kernel), by decide +kernel⟩
theorem m_145 : (.fieldLink R_X 39 "SettleLayers" "trial" "LSettleLayers$Ground;" : Cond) ∈ WA := List.mem_filter.mpr ⟨List.mem_of_getElem? (i := 158) (by decide +kernel), by decide +kernel⟩
theorem m_146 : (.fieldLink R_X 42 "SettleLayers" "micrometresAtDay" "[J" : Cond) ∈ WA := List.mem_filter.mpr ⟨List.mem_of_getElem? (i := 159) (by decide +kernel), by decide +kernel⟩
theorem m_160 : (.methodLink "SettleLayersLaw" 13 yX_layer : Cond) ∈ WA := List.mem_filter.mpr ⟨List.mem_of_getElem? (i := 173) (by decide +kernel), by decide +kernel⟩
theorem m_161 : (.instanceMethod yX_layer : Cond) ∈ WA := List.mem_filter.mpr ⟨List.mem_of_getElem? (i := 174) (by decide +kernel), by decide +kernel⟩
theorem m_162 : (.selects R_X yX_layer yX_layer : Cond) ∈ WA := List.mem_filter.mpr ⟨List.mem_of_getElem? (i := 175) (by decide +kernel), by decide +kernel⟩
theorem m_163 : (.code yX_layer prog_1_method_2_code 6 (some .int) : Cond) ∈ WA := List.mem_filter.mpr ⟨List.mem_of_getElem? (i := 176) (by decide +kernel), by decide +kernel⟩
theorem m_164 : (.methodLink R_X 53 yX_within : Cond) ∈ WA := List.mem_filter.mpr ⟨List.mem_of_getElem? (i := 177) (by decide +kernel), by decide +kernel⟩
theorem m_165 : (.static yX_within : Cond) ∈ WA := List.mem_filter.mpr ⟨List.mem_of_getElem? (i := 178) (by decide +kernel), by decide +kernel⟩
theorem m_166 : (.code yX_within prog_1_method_19_code 3 (some .boolean) : Cond) ∈ WA := List.mem_filter.mpr ⟨List.mem_of_getElem? (i := 179) (by decide +kernel), by decide +kernel⟩
theorem m_167 : (.constant R_X 60 1000000 : Cond) ∈ WA := List.mem_filter.mpr ⟨List.mem_of_getElem? (i := 180) (by decide +kernel), by decide +kernel⟩
theorem m_168 : (.methodLink R_X 61 yG_begin : Cond) ∈ WA := List.mem_filter.mpr ⟨List.mem_of_getElem? (i := 181) (by decide +kernel), by decide +kernel⟩
theorem m_169 : (.instanceMethod yG_begin : Cond) ∈ WA := List.mem_filter.mpr ⟨List.mem_of_getElem? (i := 182) (by decide +kernel), by decide +kernel⟩
theorem m_170 : (.selects R_G yG_begin yG_begin : Cond) ∈ WA := List.mem_filter.mpr ⟨List.mem_of_getElem? (i := 183) (by decide +kernel), by decide +kernel⟩
theorem m_171 : (.code yG_begin prog_2_method_2_code 5 none : Cond) ∈ WA := List.mem_filter.mpr ⟨List.mem_of_getElem? (i := 184) (by decide +kernel), by decide +kernel⟩
theorem m_172 : (.methodLink R_X 65 yS_addLayer : Cond) ∈ WA := List.mem_filter.mpr ⟨List.mem_of_getElem? (i := 185) (by decide +kernel), by decide +kernel⟩
theorem m_173 : (.instanceMethod yS_addLayer : Cond) ∈ WA := List.mem_filter.mpr ⟨List.mem_of_getElem? (i := 186) (by decide +kernel), by decide +kernel⟩
theorem m_174 : (.selects R_S yS_addLayer yS_addLayer : Cond) ∈ WA := List.mem_filter.mpr ⟨List.mem_of_getElem? (i := 187) (by decide +kernel), by decide +kernel⟩
theorem m_175 : (.code yS_addLayer prog_5_method_2_code 7 (some .int) : Cond) ∈ WA := List.mem_filter.mpr ⟨List.mem_of_getElem? (i := 188) (by decide +kernel), by decide +kernel⟩
theorem m_176 : (.methodLink R_S 38 Lib.Math.min.name : Cond) ∈ WA := List.mem_filter.mpr ⟨List.mem_of_getElem? (i := 189) (by decide +kernel), by decide +kernel⟩
theorem m_177 : (.static Lib.Math.min.name : Cond) ∈ WA := List.mem_filter.mpr ⟨List.mem_of_getElem? (i := 190) (by decide +kernel), by decide +kernel⟩
theorem m_178 : (.code Lib.Math.min.name Lib.Math.min.code 2 (some .int) : Cond) ∈ WA := List.mem_filter.mpr ⟨List.mem_of_getElem? (i := 191) (by decide +kernel), by decide +kernel⟩
theorem m_179 : (.methodLink "SettleLayersLaw" 18 yX_drains : Cond) ∈ WA := List.mem_filter.mpr ⟨List.mem_of_getElem? (i := 192) (by decide +kernel), by decide +kernel⟩
theorem m_180 : (.instanceMethod yX_drains : Cond) ∈ WA := List.mem_filter.mpr ⟨List.mem_of_getElem? (i := 193) (by decide +kernel), by decide +kernel⟩
theorem m_181 : (.selects R_X yX_drains yX_drains : Cond) ∈ WA := List.mem_filter.mpr ⟨List.mem_of_getElem? (i := 194) (by decide +kernel), by decide +kernel⟩
theorem m_182 : (.code yX_drains prog_1_method_3_code 4 (some .boolean) : Cond) ∈ WA := List.mem_filter.mpr ⟨List.mem_of_getElem? (i := 195) (by decide +kernel), by decide +kernel⟩
theorem m_183 : (.methodLink "SettleLayersLaw" 23 yX_load : Cond) ∈ WA := List.mem_filter.mpr ⟨List.mem_of_getElem? (i := 196) (by decide +kernel), by decide +kernel⟩
theorem m_184 : (.instanceMethod yX_load : Cond) ∈ WA := List.mem_filter.mpr ⟨List.mem_of_getElem? (i := 197) (by decide +kernel), by decide +kernel⟩
theorem m_185 : (.selects R_X yX_load yX_load : Cond) ∈ WA := List.mem_filter.mpr ⟨List.mem_of_getElem? (i := 198) (by decide +kernel), by decide +kernel⟩
theorem m_186 : (.code yX_load prog_1_method_4_code 3 (some .int) : Cond) ∈ WA := List.mem_filter.mpr ⟨List.mem_of_getElem? (i := 199) (by decide +kernel), by decide +kernel⟩
theorem m_187 : (.constant R_X 79 200000 : Cond) ∈ WA := List.mem_filter.mpr ⟨List.mem_of_getElem? (i := 200) (by decide +kernel), by decide +kernel⟩
theorem m_188 : (.methodLink R_X 80 yO_add : Cond) ∈ WA := List.mem_filter.mpr ⟨List.mem_of_getElem? (i := 201) (by decide +kernel), by decide +kernel⟩
theorem m_189 : (.instanceMethod yO_add : Cond) ∈ WA := List.mem_filter.mpr ⟨List.mem_of_getElem? (i := 202) (by decide +kernel), by decide +kernel⟩
theorem m_190 : (.selects R_O yO_add yO_add : Cond) ∈ WA := List.mem_filter.mpr ⟨List.mem_of_getElem? (i := 203) (by decide +kernel), by decide +kernel⟩
theorem m_191 : (.code yO_add prog_3_method_2_code 3 (some .int) : Cond) ∈ WA := List.mem_filter.mpr ⟨List.mem_of_getElem? (i := 204) (by decide +kernel), by decide +kernel⟩
theorem m_192 : (.methodLink "SettleLayersLaw" 28 yX_run : Cond) ∈ WA := List.mem_filter.mpr ⟨List.mem_of_getElem? (i := 205) (by decide +kernel), by decide +kernel⟩
theorem m_193 : (.instanceMethod yX_run : Cond) ∈ WA := List.mem_filter.mpr ⟨List.mem_of_getElem? (i := 206) (by decide +kernel), by decide +kernel⟩
theorem m_194 : (.selects R_X yX_run yX_run : Cond) ∈ WA := List.mem_filter.mpr ⟨List.mem_of_getElem? (i := 207) (by decide +kernel), by decide +kernel⟩
theorem m_195 : (.code yX_run prog_1_method_5_code 3 (some .int) : Cond) ∈ WA := List.mem_filter.mpr ⟨List.mem_of_getElem? (i := 208) (by decide +kernel), by decide +kernel⟩
theorem m_196 : (.methodLink R_X 84 yG_passDay : Cond) ∈ WA := List.mem_filter.mpr ⟨List.mem_of_getElem? (i := 209) (by decide +kernel), by decide +kernel⟩
theorem m_197 : (.instanceMethod yG_passDay : Cond) ∈ WA := List.mem_filter.mpr ⟨List.mem_of_getElem? (i := 210) (by decide +kernel), by decide +kernel⟩
theorem m_198 : (.selects R_G yG_passDay yG_passDay : Cond) ∈ WA := List.mem_filter.mpr ⟨List.mem_of_getElem? (i := 211) (by decide +kernel), by decide +kernel⟩
theorem m_199 : (.code yG_passDay prog_2_method_5_code 3 none : Cond) ∈ WA := List.mem_filter.mpr ⟨List.mem_of_getElem? (i := 212) (by decide +kernel), by decide +kernel⟩
theorem m_200 : (.methodLink R_G 42 yO_comingOn : Cond) ∈ WA := List.mem_filter.mpr ⟨List.mem_of_getElem? (i := 213) (by decide +kernel), by decide +kernel⟩
theorem m_201 : (.instanceMethod yO_comingOn : Cond) ∈ WA := List.mem_filter.mpr ⟨List.mem_of_getElem? (i := 214) (by decide +kernel), by decide +kernel⟩
theorem m_202 : (.selects R_O yO_comingOn yO_comingOn : Cond) ∈ WA := List.mem_filter.mpr ⟨List.mem_of_getElem? (i := 215) (by decide +kernel), by decide +kernel⟩
theorem m_203 : (.code yO_comingOn prog_3_method_3_code 5 (some .long) : Cond) ∈ WA := List.mem_filter.mpr ⟨List.mem_of_getElem? (i := 216) (by decide +kernel), by decide +kernel⟩
theorem m_204 : (.methodLink R_G 48 yG_lay : Cond) ∈ WA := List.mem_filter.mpr ⟨List.mem_of_getElem? (i := 217) (by decide +kernel), by decide +kernel⟩
theorem m_205 : (.instanceMethod yG_lay : Cond) ∈ WA := List.mem_filter.mpr ⟨List.mem_of_getElem? (i := 218) (by decide +kernel), by decide +kernel⟩
theorem m_206 : (.selects R_G yG_lay yG_lay : Cond) ∈ WA := List.mem_filter.mpr ⟨List.mem_of_getElem? (i := 219) (by decide +kernel), by decide +kernel⟩
theorem m_207 : (.code yG_lay prog_2_method_4_code 4 none : Cond) ∈ WA := List.mem_filter.mpr ⟨List.mem_of_getElem? (i := 220) (by decide +kernel), by decide +kernel⟩
theorem m_208 : (.methodLink R_G 52 yG_moveWater : Cond) ∈ WA := List.mem_filter.mpr ⟨List.mem_of_getElem? (i := 221) (by decide +kernel), by decide +kernel⟩
theorem m_210 : (.instanceMethod yG_moveWater : Cond) ∈ WA := List.mem_filter.mpr ⟨List.mem_of_getElem? (i := 223) (by decide +kernel), by decide +kernel⟩
theorem m_211 : (.code yG_moveWater prog_2_method_6_code 9 (some .boolean) : Cond) ∈ WA := List.mem_filter.mpr ⟨List.mem_of_getElem? (i := 224) (by decide +kernel), by decide +kernel⟩
theorem m_212 : (.methodLink R_G 59 yG_leavingAbove : Cond) ∈ WA := List.mem_filter.mpr ⟨List.mem_of_getElem? (i := 225) (by decide +kernel), by decide +kernel⟩
theorem m_214 : (.instanceMethod yG_leavingAbove : Cond) ∈ WA := List.mem_filter.mpr ⟨List.mem_of_getElem? (i := 227) (by decide +kernel), by decide +kernel⟩
theorem m_215 : (.code yG_leavingAbove prog_2_method_7_code 1 (some .long) : Cond) ∈ WA := List.mem_filter.mpr ⟨List.mem_of_getElem? (i := 228) (by decide +kernel), by decide +kernel⟩
theorem m_216 : (.constantLong R_G 69 1000 : Cond) ∈ WA := List.mem_filter.mpr ⟨List.mem_of_getElem? (i := 229) (by decide +kernel), by decide +kernel⟩
theorem m_217 : (.methodLink R_G 63 yG_goingBelow : Cond) ∈ WA := List.mem_filter.mpr ⟨List.mem_of_getElem? (i := 230) (by decide +kernel), by decide +kernel⟩
theorem m_219 : (.instanceMethod yG_goingBelow : Cond) ∈ WA := List.mem_filter.mpr ⟨List.mem_of_getElem? (i := 232) (by decide +kernel), by decide +kernel⟩
theorem m_220 : (.code yG_goingBelow prog_2_method_8_code 2 (some .long) : Cond) ∈ WA := List.mem_filter.mpr ⟨List.mem_of_getElem? (i := 233) (by decide +kernel), by decide +kernel⟩
theorem m_221 : (.methodLink R_G 56 yG_raisePasts : Cond) ∈ WA := List.mem_filter.mpr ⟨List.mem_of_getElem? (i := 234) (by decide +kernel), by decide +kernel⟩
theorem m_223 : (.instanceMethod yG_raisePasts : Cond) ∈ WA := List.mem_filter.mpr ⟨List.mem_of_getElem? (i := 236) (by decide +kernel), by decide +kernel⟩
theorem m_224 : (.code yG_raisePasts prog_2_method_9_code 2 none : Cond) ∈ WA := List.mem_filter.mpr ⟨List.mem_of_getElem? (i := 237) (by decide +kernel), by decide +kernel⟩
theorem m_225 : (.methodLink R_G 85 yG_carried : Cond) ∈ WA := List.mem_filter.mpr ⟨List.mem_of_getElem? (i := 238) (by decide +kernel), by decide +kernel⟩
theorem m_226 : (.instanceMethod yG_carried : Cond) ∈ WA := List.mem_filter.mpr ⟨List.mem_of_getElem? (i := 239) (by decide +kernel), by decide +kernel⟩
theorem m_227 : (.selects R_G yG_carried yG_carried : Cond) ∈ WA := List.mem_filter.mpr ⟨List.mem_of_getElem? (i := 240) (by decide +kernel), by decide +kernel⟩
theorem m_228 : (.code yG_carried prog_2_method_10_code 2 (some .long) : Cond) ∈ WA := List.mem_filter.mpr ⟨List.mem_of_getElem? (i := 241) (by decide +kernel), by decide +kernel⟩
theorem m_229 : (.methodLink R_G 88 Lib.MathLoose.max_long.x : Cond) ∈ WA := List.mem_filter.mpr ⟨List.mem_of_getElem? (i := 242) (by decide +kernel), by decide +kernel⟩
theorem m_230 : (.static Lib.MathLoose.max_long.x : Cond) ∈ WA := List.mem_filter.mpr ⟨List.mem_of_getElem? (i := 243) (by decide +kernel), by decide +kernel⟩
theorem m_231 : (.code Lib.MathLoose.max_long.x Lib.MathLoose.max_long.code 4 (some .long) : Cond) ∈ WA := List.mem_filter.mpr ⟨List.mem_of_getElem? (i := 244) (by decide +kernel), by decide +kernel⟩
theorem m_232 : (.methodLink R_X 87 yG_unitsSunk : Cond) ∈ WA := List.mem_filter.mpr ⟨List.mem_of_getElem? (i := 245) (by decide +kernel), by decide +kernel⟩
theorem m_233 : (.instanceMethod yG_unitsSunk : Cond) ∈ WA := List.mem_filter.mpr ⟨List.mem_of_getElem? (i := 246) (by decide +kernel), by decide +kernel⟩
theorem m_234 : (.selects R_G yG_unitsSunk yG_unitsSunk : Cond) ∈ WA := List.mem_filter.mpr ⟨List.mem_of_getElem? (i := 247) (by decide +kernel), by decide +kernel⟩
theorem m_235 : (.code yG_unitsSunk prog_2_method_12_code 1 (some .long) : Cond) ∈ WA := List.mem_filter.mpr ⟨List.mem_of_getElem? (i := 248) (by decide +kernel), by decide +kernel⟩
theorem m_236 : (.methodLink R_G 94 yG_unitsSunk2 : Cond) ∈ WA := List.mem_filter.mpr ⟨List.mem_of_getElem? (i := 249) (by decide +kernel), by decide +kernel⟩
theorem m_237 : (.instanceMethod yG_unitsSunk2 : Cond) ∈ WA := List.mem_filter.mpr ⟨List.mem_of_getElem? (i := 250) (by decide +kernel), by decide +kernel⟩
theorem m_238 : (.selects R_G yG_unitsSunk2 yG_unitsSunk2 : Cond) ∈ WA := List.mem_filter.mpr ⟨List.mem_of_getElem? (i := 251) (by decide +kernel), by decide +kernel⟩
theorem m_239 : (.code yG_unitsSunk2 prog_2_method_13_code 6 (some .long) : Cond) ∈ WA := List.mem_filter.mpr ⟨List.mem_of_getElem? (i := 252) (by decide +kernel), by decide +kernel⟩
theorem m_240 : (.methodLink R_G 98 yS_unitsSunk : Cond) ∈ WA := List.mem_filter.mpr ⟨List.mem_of_getElem? (i := 253) (by decide +kernel), by decide +kernel⟩
theorem m_241 : (.instanceMethod yS_unitsSunk : Cond) ∈ WA := List.mem_filter.mpr ⟨List.mem_of_getElem? (i := 254) (by decide +kernel), by decide +kernel⟩
theorem m_242 : (.selects R_S yS_unitsSunk yS_unitsSunk : Cond) ∈ WA := List.mem_filter.mpr ⟨List.mem_of_getElem? (i := 255) (by decide +kernel), by decide +kernel⟩
theorem m_243 : (.code yS_unitsSunk prog_5_method_3_code 6 (some .long) : Cond) ∈ WA := List.mem_filter.mpr ⟨List.mem_of_getElem? (i := 256) (by decide +kernel), by decide +kernel⟩
theorem m_244 : (.constantLong R_X 91 1000 : Cond) ∈ WA := List.mem_filter.mpr ⟨List.mem_of_getElem? (i := 257) (by decide +kernel), by decide +kernel⟩
theorem m_245 : (.methodLink "SettleLayersLaw" 33 yX_sunk : Cond) ∈ WA := List.mem_filter.mpr ⟨List.mem_of_getElem? (i := 258) (by decide +kernel), by decide +kernel⟩
theorem m_246 : (.instanceMethod yX_sunk : Cond) ∈ WA := List.mem_filter.mpr ⟨List.mem_of_getElem? (i := 259) (by decide +kernel), by decide +kernel⟩
theorem m_247 : (.selects R_X yX_sunk yX_sunk : Cond) ∈ WA := List.mem_filter.mpr ⟨List.mem_of_getElem? (i := 260) (by decide +kernel), by decide +kernel⟩
theorem m_248 : (.code yX_sunk prog_1_method_6_code 2 (some .long) : Cond) ∈ WA := List.mem_filter.mpr ⟨List.mem_of_getElem? (i := 261) (by decide +kernel), by decide +kernel⟩
theorem m_249 : (.constantLong R_X 96 (-1) : Cond) ∈ WA := List.mem_filter.mpr ⟨List.mem_of_getElem? (i := 262) (by decide +kernel), by decide +kernel⟩
theorem m_250 : (.methodLink R_X 102 yG_unitsSunk2 : Cond) ∈ WA := List.mem_filter.mpr ⟨List.mem_of_getElem? (i := 263) (by decide +kernel), by decide +kernel⟩
theorem m_251 : (.methodLink "SettleLayersLaw" 38 yX_told : Cond) ∈ WA := List.mem_filter.mpr ⟨List.mem_of_getElem? (i := 264) (by decide +kernel), by decide +kernel⟩
theorem m_252 : (.instanceMethod yX_told : Cond) ∈ WA := List.mem_filter.mpr ⟨List.mem_of_getElem? (i := 265) (by decide +kernel), by decide +kernel⟩
theorem m_253 : (.selects R_X yX_told yX_told : Cond) ∈ WA := List.mem_filter.mpr ⟨List.mem_of_getElem? (i := 266) (by decide +kernel), by decide +kernel⟩
theorem m_254 : (.code yX_told prog_1_method_7_code 3 (some .int) : Cond) ∈ WA := List.mem_filter.mpr ⟨List.mem_of_getElem? (i := 267) (by decide +kernel), by decide +kernel⟩
theorem m_255 : (.methodLink R_X 108 yG_carried : Cond) ∈ WA := List.mem_filter.mpr ⟨List.mem_of_getElem? (i := 268) (by decide +kernel), by decide +kernel⟩
theorem m_256 : (.methodLink "SettleLayersLaw" 42 yX_out : Cond) ∈ WA := List.mem_filter.mpr ⟨List.mem_of_getElem? (i := 269) (by decide +kernel), by decide +kernel⟩
theorem m_257 : (.instanceMethod yX_out : Cond) ∈ WA := List.mem_filter.mpr ⟨List.mem_of_getElem? (i := 270) (by decide +kernel), by decide +kernel⟩
theorem m_258 : (.selects R_X yX_out yX_out : Cond) ∈ WA := List.mem_filter.mpr ⟨List.mem_of_getElem? (i := 271) (by decide +kernel), by decide +kernel⟩
theorem m_259 : (.code yX_out prog_1_method_8_code 1 (some .long) : Cond) ∈ WA := List.mem_filter.mpr ⟨List.mem_of_getElem? (i := 272) (by decide +kernel), by decide +kernel⟩
theorem m_260 : (.methodLink "SettleLayersLaw" 47 yX_balance : Cond) ∈ WA := List.mem_filter.mpr ⟨List.mem_of_getElem? (i := 273) (by decide +kernel), by decide +kernel⟩
theorem m_261 : (.instanceMethod yX_balance : Cond) ∈ WA := List.mem_filter.mpr ⟨List.mem_of_getElem? (i := 274) (by decide +kernel), by decide +kernel⟩
theorem m_262 : (.selects R_X yX_balance yX_balance : Cond) ∈ WA := List.mem_filter.mpr ⟨List.mem_of_getElem? (i := 275) (by decide +kernel), by decide +kernel⟩
theorem m_263 : (.code yX_balance prog_1_method_9_code 1 (some .boolean) : Cond) ∈ WA := List.mem_filter.mpr ⟨List.mem_of_getElem? (i := 276) (by decide +kernel), by decide +kernel⟩
theorem m_264 : (.methodLink R_X 122 yG_allPressures : Cond) ∈ WA := List.mem_filter.mpr ⟨List.mem_of_getElem? (i := 277) (by decide +kernel), by decide +kernel⟩
theorem m_265 : (.instanceMethod yG_allPressures : Cond) ∈ WA := List.mem_filter.mpr ⟨List.mem_of_getElem? (i := 278) (by decide +kernel), by decide +kernel⟩
theorem m_266 : (.selects R_G yG_allPressures yG_allPressures : Cond) ∈ WA := List.mem_filter.mpr ⟨List.mem_of_getElem? (i := 279) (by decide +kernel), by decide +kernel⟩
theorem m_267 : (.code yG_allPressures prog_2_method_11_code 4 (some .long) : Cond) ∈ WA := List.mem_filter.mpr ⟨List.mem_of_getElem? (i := 280) (by decide +kernel), by decide +kernel⟩
theorem m_268 : (.methodLink "SettleLayersLaw" 52 yX_end : Cond) ∈ WA := List.mem_filter.mpr ⟨List.mem_of_getElem? (i := 281) (by decide +kernel), by decide +kernel⟩
theorem m_269 : (.instanceMethod yX_end : Cond) ∈ WA := List.mem_filter.mpr ⟨List.mem_of_getElem? (i := 282) (by decide +kernel), by decide +kernel⟩
theorem m_270 : (.selects R_X yX_end yX_end : Cond) ∈ WA := List.mem_filter.mpr ⟨List.mem_of_getElem? (i := 283) (by decide +kernel), by decide +kernel⟩
theorem m_271 : (.code yX_end prog_1_method_10_code 1 (some .long) : Cond) ∈ WA := List.mem_filter.mpr ⟨List.mem_of_getElem? (i := 284) (by decide +kernel), by decide +kernel⟩
theorem m_272 : (.methodLink R_X 125 yG_unitsAtEnd : Cond) ∈ WA := List.mem_filter.mpr ⟨List.mem_of_getElem? (i := 285) (by decide +kernel), by decide +kernel⟩
theorem m_273 : (.instanceMethod yG_unitsAtEnd : Cond) ∈ WA := List.mem_filter.mpr ⟨List.mem_of_getElem? (i := 286) (by decide +kernel), by decide +kernel⟩
theorem m_274 : (.selects R_G yG_unitsAtEnd yG_unitsAtEnd : Cond) ∈ WA := List.mem_filter.mpr ⟨List.mem_of_getElem? (i := 287) (by decide +kernel), by decide +kernel⟩
theorem m_275 : (.code yG_unitsAtEnd prog_2_method_14_code 4 (some .long) : Cond) ∈ WA := List.mem_filter.mpr ⟨List.mem_of_getElem? (i := 288) (by decide +kernel), by decide +kernel⟩
theorem m_276 : (.methodLink "SettleLayersLaw" 56 yX_share : Cond) ∈ WA := List.mem_filter.mpr ⟨List.mem_of_getElem? (i := 289) (by decide +kernel), by decide +kernel⟩
theorem m_277 : (.instanceMethod yX_share : Cond) ∈ WA := List.mem_filter.mpr ⟨List.mem_of_getElem? (i := 290) (by decide +kernel), by decide +kernel⟩
theorem m_278 : (.selects R_X yX_share yX_share : Cond) ∈ WA := List.mem_filter.mpr ⟨List.mem_of_getElem? (i := 291) (by decide +kernel), by decide +kernel⟩
theorem m_279 : (.code yX_share prog_1_method_11_code 1 (some .int) : Cond) ∈ WA := List.mem_filter.mpr ⟨List.mem_of_getElem? (i := 292) (by decide +kernel), by decide +kernel⟩
theorem m_280 : (.methodLink R_X 128 yX_thousandths : Cond) ∈ WA := List.mem_filter.mpr ⟨List.mem_of_getElem? (i := 293) (by decide +kernel), by decide +kernel⟩
theorem m_281 : (.static yX_thousandths : Cond) ∈ WA := List.mem_filter.mpr ⟨List.mem_of_getElem? (i := 294) (by decide +kernel), by decide +kernel⟩
theorem m_282 : (.code yX_thousandths prog_1_method_20_code 4 (some .int) : Cond) ∈ WA := List.mem_filter.mpr ⟨List.mem_of_getElem? (i := 295) (by decide +kernel), by decide +kernel⟩
theorem m_283 : (.methodLink "SettleLayersLaw" 61 yX_until : Cond) ∈ WA := List.mem_filter.mpr ⟨List.mem_of_getElem? (i := 296) (by decide +kernel), by decide +kernel⟩
theorem m_284 : (.instanceMethod yX_until : Cond) ∈ WA := List.mem_filter.mpr ⟨List.mem_of_getElem? (i := 297) (by decide +kernel), by decide +kernel⟩
theorem m_285 : (.selects R_X yX_until yX_until : Cond) ∈ WA := List.mem_filter.mpr ⟨List.mem_of_getElem? (i := 298) (by decide +kernel), by decide +kernel⟩
theorem m_286 : (.code yX_until prog_1_method_12_code 5 (some .int) : Cond) ∈ WA := List.mem_filter.mpr ⟨List.mem_of_getElem? (i := 299) (by decide +kernel), by decide +kernel⟩
theorem m_287 : (.methodLink R_X 132 yG_become : Cond) ∈ WA := List.mem_filter.mpr ⟨List.mem_of_getElem? (i := 300) (by decide +kernel), by decide +kernel⟩
theorem m_288 : (.instanceMethod yG_become : Cond) ∈ WA := List.mem_filter.mpr ⟨List.mem_of_getElem? (i := 301) (by decide +kernel), by decide +kernel⟩
theorem m_289 : (.selects R_G yG_become yG_become : Cond) ∈ WA := List.mem_filter.mpr ⟨List.mem_of_getElem? (i := 302) (by decide +kernel), by decide +kernel⟩
theorem m_290 : (.code yG_become prog_2_method_3_code 3 none : Cond) ∈ WA := List.mem_filter.mpr ⟨List.mem_of_getElem? (i := 303) (by decide +kernel), by decide +kernel⟩
theorem m_291 : (.methodLink "SettleLayersLaw" 65 yX_surcharge : Cond) ∈ WA := List.mem_filter.mpr ⟨List.mem_of_getElem? (i := 304) (by decide +kernel), by decide +kernel⟩
theorem m_292 : (.instanceMethod yX_surcharge : Cond) ∈ WA := List.mem_filter.mpr ⟨List.mem_of_getElem? (i := 305) (by decide +kernel), by decide +kernel⟩
theorem m_293 : (.selects R_X yX_surcharge yX_surcharge : Cond) ∈ WA := List.mem_filter.mpr ⟨List.mem_of_getElem? (i := 306) (by decide +kernel), by decide +kernel⟩
theorem m_294 : (.code yX_surcharge prog_1_method_13_code 6 (some .int) : Cond) ∈ WA := List.mem_filter.mpr ⟨List.mem_of_getElem? (i := 307) (by decide +kernel), by decide +kernel⟩
theorem m_295 : (.constant R_X 136 100000 : Cond) ∈ WA := List.mem_filter.mpr ⟨List.mem_of_getElem? (i := 308) (by decide +kernel), by decide +kernel⟩
theorem m_296 : (.methodLink R_X 137 yX_unitsSunkWith : Cond) ∈ WA := List.mem_filter.mpr ⟨List.mem_of_getElem? (i := 309) (by decide +kernel), by decide +kernel⟩
theorem m_298 : (.instanceMethod yX_unitsSunkWith : Cond) ∈ WA := List.mem_filter.mpr ⟨List.mem_of_getElem? (i := 311) (by decide +kernel), by decide +kernel⟩
theorem m_299 : (.code yX_unitsSunkWith prog_1_method_18_code 4 (some .long) : Cond) ∈ WA := List.mem_filter.mpr ⟨List.mem_of_getElem? (i := 312) (by decide +kernel), by decide +kernel⟩
theorem m_300 : (.methodLink R_X 170 yG_lay : Cond) ∈ WA := List.mem_filter.mpr ⟨List.mem_of_getElem? (i := 313) (by decide +kernel), by decide +kernel⟩
theorem m_301 : (.methodLink "SettleLayersLaw" 71 yX_read : Cond) ∈ WA := List.mem_filter.mpr ⟨List.mem_of_getElem? (i := 314) (by decide +kernel), by decide +kernel⟩
theorem m_302 : (.instanceMethod yX_read : Cond) ∈ WA := List.mem_filter.mpr ⟨List.mem_of_getElem? (i := 315) (by decide +kernel), by decide +kernel⟩
theorem m_303 : (.selects R_X yX_read yX_read : Cond) ∈ WA := List.mem_filter.mpr ⟨List.mem_of_getElem? (i := 316) (by decide +kernel), by decide +kernel⟩
theorem m_304 : (.code yX_read prog_1_method_14_code 4 (some .int) : Cond) ∈ WA := List.mem_filter.mpr ⟨List.mem_of_getElem? (i := 317) (by decide +kernel), by decide +kernel⟩
theorem m_305 : (.methodLink R_X 140 yD_firstFreeDay : Cond) ∈ WA := List.mem_filter.mpr ⟨List.mem_of_getElem? (i := 318) (by decide +kernel), by decide +kernel⟩
theorem m_306 : (.instanceMethod yD_firstFreeDay : Cond) ∈ WA := List.mem_filter.mpr ⟨List.mem_of_getElem? (i := 319) (by decide +kernel), by decide +kernel⟩
theorem m_307 : (.selects R_D yD_firstFreeDay yD_firstFreeDay : Cond) ∈ WA := List.mem_filter.mpr ⟨List.mem_of_getElem? (i := 320) (by decide +kernel), by decide +kernel⟩
theorem m_308 : (.code yD_firstFreeDay prog_4_method_2_code 1 (some .int) : Cond) ∈ WA := List.mem_filter.mpr ⟨List.mem_of_getElem? (i := 321) (by decide +kernel), by decide +kernel⟩
theorem m_309 : (.constantLong R_X 144 1000000000000 : Cond) ∈ WA := List.mem_filter.mpr ⟨List.mem_of_getElem? (i := 322) (by decide +kernel), by decide +kernel⟩
theorem m_310 : (.methodLink R_X 147 yD_add : Cond) ∈ WA := List.mem_filter.mpr ⟨List.mem_of_getElem? (i := 323) (by decide +kernel), by decide +kernel⟩
theorem m_311 : (.instanceMethod yD_add : Cond) ∈ WA := List.mem_filter.mpr ⟨List.mem_of_getElem? (i := 324) (by decide +kernel), by decide +kernel⟩
theorem m_312 : (.selects R_D yD_add yD_add : Cond) ∈ WA := List.mem_filter.mpr ⟨List.mem_of_getElem? (i := 325) (by decide +kernel), by decide +kernel⟩
theorem m_313 : (.code yD_add prog_4_method_3_code 4 (some .int) : Cond) ∈ WA := List.mem_filter.mpr ⟨List.mem_of_getElem? (i := 326) (by decide +kernel), by decide +kernel⟩
theorem m_314 : (.methodLink "SettleLayersLaw" 76 yX_foretold : Cond) ∈ WA := List.mem_filter.mpr ⟨List.mem_of_getElem? (i := 327) (by decide +kernel), by decide +kernel⟩
theorem m_315 : (.instanceMethod yX_foretold : Cond) ∈ WA := List.mem_filter.mpr ⟨List.mem_of_getElem? (i := 328) (by decide +kernel), by decide +kernel⟩
theorem m_316 : (.selects R_X yX_foretold yX_foretold : Cond) ∈ WA := List.mem_filter.mpr ⟨List.mem_of_getElem? (i := 329) (by decide +kernel), by decide +kernel⟩
theorem m_317 : (.code yX_foretold prog_1_method_15_code 2 (some .long) : Cond) ∈ WA := List.mem_filter.mpr ⟨List.mem_of_getElem? (i := 330) (by decide +kernel), by decide +kernel⟩
theorem m_318 : (.methodLink R_X 150 yD_foretellByLastThree : Cond) ∈ WA := List.mem_filter.mpr ⟨List.mem_of_getElem? (i := 331) (by decide +kernel), by decide +kernel⟩
theorem m_319 : (.instanceMethod yD_foretellByLastThree : Cond) ∈ WA := List.mem_filter.mpr ⟨List.mem_of_getElem? (i := 332) (by decide +kernel), by decide +kernel⟩
theorem m_320 : (.selects R_D yD_foretellByLastThree yD_foretellByLastThree : Cond) ∈ WA := List.mem_filter.mpr ⟨List.mem_of_getElem? (i := 333) (by decide +kernel), by decide +kernel⟩
theorem m_321 : (.code yD_foretellByLastThree prog_4_method_4_code 7 (some .long) : Cond) ∈ WA := List.mem_filter.mpr ⟨List.mem_of_getElem? (i := 334) (by decide +kernel), by decide +kernel⟩
theorem m_322 : (.constantLong R_D 23 (-1) : Cond) ∈ WA := List.mem_filter.mpr ⟨List.mem_of_getElem? (i := 335) (by decide +kernel), by decide +kernel⟩
theorem m_323 : (.methodLink R_D 25 yD_tooGreat : Cond) ∈ WA := List.mem_filter.mpr ⟨List.mem_of_getElem? (i := 336) (by decide +kernel), by decide +kernel⟩
theorem m_324 : (.static yD_tooGreat : Cond) ∈ WA := List.mem_filter.mpr ⟨List.mem_of_getElem? (i := 337) (by decide +kernel), by decide +kernel⟩
theorem m_325 : (.code yD_tooGreat prog_4_method_7_code 2 (some .boolean) : Cond) ∈ WA := List.mem_filter.mpr ⟨List.mem_of_getElem? (i := 338) (by decide +kernel), by decide +kernel⟩
theorem m_326 : (.constantLong R_D 37 100000000 : Cond) ∈ WA := List.mem_filter.mpr ⟨List.mem_of_getElem? (i := 339) (by decide +kernel), by decide +kernel⟩
theorem m_327 : (.constantLong R_D 29 2 : Cond) ∈ WA := List.mem_filter.mpr ⟨List.mem_of_getElem? (i := 340) (by decide +kernel), by decide +kernel⟩
theorem m_328 : (.methodLink R_D 31 yD_quotient : Cond) ∈ WA := List.mem_filter.mpr ⟨List.mem_of_getElem? (i := 341) (by decide +kernel), by decide +kernel⟩
theorem m_329 : (.static yD_quotient : Cond) ∈ WA := List.mem_filter.mpr ⟨List.mem_of_getElem? (i := 342) (by decide +kernel), by decide +kernel⟩
theorem m_330 : (.code yD_quotient prog_4_method_8_code 4 (some .long) : Cond) ∈ WA := List.mem_filter.mpr ⟨List.mem_of_getElem? (i := 343) (by decide +kernel), by decide +kernel⟩
theorem m_331 : (.methodLink R_X 153 yD_foretellByLastTwo : Cond) ∈ WA := List.mem_filter.mpr ⟨List.mem_of_getElem? (i := 344) (by decide +kernel), by decide +kernel⟩
theorem m_332 : (.instanceMethod yD_foretellByLastTwo : Cond) ∈ WA := List.mem_filter.mpr ⟨List.mem_of_getElem? (i := 345) (by decide +kernel), by decide +kernel⟩
theorem m_333 : (.selects R_D yD_foretellByLastTwo yD_foretellByLastTwo : Cond) ∈ WA := List.mem_filter.mpr ⟨List.mem_of_getElem? (i := 346) (by decide +kernel), by decide +kernel⟩
theorem m_334 : (.code yD_foretellByLastTwo prog_4_method_5_code 9 (some .long) : Cond) ∈ WA := List.mem_filter.mpr ⟨List.mem_of_getElem? (i := 347) (by decide +kernel), by decide +kernel⟩
theorem m_335 : (.methodLink R_X 156 yD_foretellByFirstAndLast : Cond) ∈ WA := List.mem_filter.mpr ⟨List.mem_of_getElem? (i := 348) (by decide +kernel), by decide +kernel⟩
theorem m_336 : (.instanceMethod yD_foretellByFirstAndLast : Cond) ∈ WA := List.mem_filter.mpr ⟨List.mem_of_getElem? (i := 349) (by decide +kernel), by decide +kernel⟩
theorem m_337 : (.selects R_D yD_foretellByFirstAndLast yD_foretellByFirstAndLast : Cond) ∈ WA := List.mem_filter.mpr ⟨List.mem_of_getElem? (i := 350) (by decide +kernel), by decide +kernel⟩
theorem m_338 : (.code yD_foretellByFirstAndLast prog_4_method_6_code 7 (some .long) : Cond) ∈ WA := List.mem_filter.mpr ⟨List.mem_of_getElem? (i := 351) (by decide +kernel), by decide +kernel⟩
theorem m_339 : (.constantLong R_D 35 100 : Cond) ∈ WA := List.mem_filter.mpr ⟨List.mem_of_getElem? (i := 352) (by decide +kernel), by decide +kernel⟩
theorem m_340 : (.methodLink "SettleLayersLaw" 80 yX_off : Cond) ∈ WA := List.mem_filter.mpr ⟨List.mem_of_getElem? (i := 353) (by decide +kernel), by decide +kernel⟩
theorem m_341 : (.instanceMethod yX_off : Cond) ∈ WA := List.mem_filter.mpr ⟨List.mem_of_getElem? (i := 354) (by decide +kernel), by decide +kernel⟩
theorem m_342 : (.selects R_X yX_off yX_off : Cond) ∈ WA := List.mem_filter.mpr ⟨List.mem_of_getElem? (i := 355) (by decide +kernel), by decide +kernel⟩
theorem m_343 : (.code yX_off prog_1_method_16_code 6 (some .int) : Cond) ∈ WA := List.mem_filter.mpr ⟨List.mem_of_getElem? (i := 356) (by decide +kernel), by decide +kernel⟩
theorem m_344 : (.methodLink R_X 164 Lib.MathLoose.abs_long.x : Cond) ∈ WA := List.mem_filter.mpr ⟨List.mem_of_getElem? (i := 357) (by decide +kernel), by decide +kernel⟩
theorem m_345 : (.static Lib.MathLoose.abs_long.x : Cond) ∈ WA := List.mem_filter.mpr ⟨List.mem_of_getElem? (i := 358) (by decide +kernel), by decide +kernel⟩
theorem m_346 : (.code Lib.MathLoose.abs_long.x Lib.MathLoose.abs_long.code 2 (some .long) : Cond) ∈ WA := List.mem_filter.mpr ⟨List.mem_of_getElem? (i := 359) (by decide +kernel), by decide +kernel⟩
theorem m_347 : (.methodLink "SettleLayersLaw" 85 yX_count : Cond) ∈ WA := List.mem_filter.mpr ⟨List.mem_of_getElem? (i := 360) (by decide +kernel), by decide +kernel⟩
theorem m_348 : (.instanceMethod yX_count : Cond) ∈ WA := List.mem_filter.mpr ⟨List.mem_of_getElem? (i := 361) (by decide +kernel), by decide +kernel⟩
theorem m_349 : (.selects R_X yX_count yX_count : Cond) ∈ WA := List.mem_filter.mpr ⟨List.mem_of_getElem? (i := 362) (by decide +kernel), by decide +kernel⟩
theorem m_350 : (.code yX_count prog_1_method_17_code 2 (some .int) : Cond) ∈ WA := List.mem_filter.mpr ⟨List.mem_of_getElem? (i := 363) (by decide +kernel), by decide +kernel⟩
theorem m_351 : (.classLink "SettleLayersLaw" 10 R_M : Cond) ∈ WA := List.mem_filter.mpr ⟨List.mem_of_getElem? (i := 364) (by decide +kernel), by decide +kernel⟩
theorem m_352 : (.instantiable R_M 24 : Cond) ∈ WA := List.mem_filter.mpr ⟨List.mem_of_getElem? (i := 365) (by decide +kernel), by decide +kernel⟩
theorem m_353 : (.methodLink "SettleLayersLaw" 12 yM_init : Cond) ∈ WA := List.mem_filter.mpr ⟨List.mem_of_getElem? (i := 366) (by decide +kernel), by decide +kernel⟩
theorem m_354 : (.instanceMethod yM_init : Cond) ∈ WA := List.mem_filter.mpr ⟨List.mem_of_getElem? (i := 367) (by decide +kernel), by decide +kernel⟩
theorem m_355 : (.code yM_init prog_7_method_1_code 1 none : Cond) ∈ WA := List.mem_filter.mpr ⟨List.mem_of_getElem? (i := 368) (by decide +kernel), by decide +kernel⟩
theorem m_356 : (.methodLink R_M 1 objectInit : Cond) ∈ WA := List.mem_filter.mpr ⟨List.mem_of_getElem? (i := 369) (by decide +kernel), by decide +kernel⟩
theorem m_357 : (.fieldLink R_M 79 "SettleLayersModel" "layers" "I" : Cond) ∈ WA := List.mem_filter.mpr ⟨List.mem_of_getElem? (i := 370) (by decide +kernel), by decide +kernel⟩
theorem m_358 : (.fieldLink R_M 69 "SettleLayersModel" "cells" "I" : Cond) ∈ WA := List.mem_filter.mpr ⟨List.mem_of_getElem? (i := 371) (by decide +kernel), by decide +kernel⟩
theorem m_359 : (.fieldLink R_M 7 "SettleLayersModel" "layerOf" "[I" : Cond) ∈ WA := List.mem_filter.mpr ⟨List.mem_of_getElem? (i := 372) (by decide +kernel), by decide +kernel⟩
theorem m_360 : (.fieldLink R_M 13 "SettleLayersModel" "leaks" "[I" : Cond) ∈ WA := List.mem_filter.mpr ⟨List.mem_of_getElem? (i := 373) (by decide +kernel), by decide +kernel⟩
theorem m_361 : (.fieldLink R_M 16 "SettleLayersModel" "hards" "[I" : Cond) ∈ WA := List.mem_filter.mpr ⟨List.mem_of_getElem? (i := 374) (by decide +kernel), by decide +kernel⟩
theorem m_362 : (.fieldLink R_M 19 "SettleLayersModel" "softs" "[I" : Cond) ∈ WA := List.mem_filter.mpr ⟨List.mem_of_getElem? (i := 375) (by decide +kernel), by decide +kernel⟩
theorem m_363 : (.fieldLink R_M 22 "SettleLayersModel" "pressures" "[J" : Cond) ∈ WA := List.mem_filter.mpr ⟨List.mem_of_getElem? (i := 376) (by decide +kernel), by decide +kernel⟩
theorem m_364 : (.fieldLink R_M 26 "SettleLayersModel" "pasts" "[J" : Cond) ∈ WA := List.mem_filter.mpr ⟨List.mem_of_getElem? (i := 377) (by decide +kernel), by decide +kernel⟩
theorem m_365 : (.fieldLink R_M 29 "SettleLayersModel" "sinks" "[J" : Cond) ∈ WA := List.mem_filter.mpr ⟨List.mem_of_getElem? (i := 378) (by decide +kernel), by decide +kernel⟩
theorem m_366 : (.fieldLink R_M 98 "SettleLayersModel" "come" "J" : Cond) ∈ WA := List.mem_filter.mpr ⟨List.mem_of_getElem? (i := 379) (by decide +kernel), by decide +kernel⟩
theorem m_367 : (.fieldLink R_M 94 "SettleLayersModel" "gone" "J" : Cond) ∈ WA := List.mem_filter.mpr ⟨List.mem_of_getElem? (i := 380) (by decide +kernel), by decide +kernel⟩
theorem m_368 : (.fieldLink R_M 73 "SettleLayersModel" "day" "I" : Cond) ∈ WA := List.mem_filter.mpr ⟨List.mem_of_getElem? (i := 381) (by decide +kernel), by decide +kernel⟩
theorem m_369 : (.fieldLink R_M 32 "SettleLayersModel" "above" "Z" : Cond) ∈ WA := List.mem_filter.mpr ⟨List.mem_of_getElem? (i := 382) (by decide +kernel), by decide +kernel⟩
theorem m_370 : (.fieldLink R_M 84 "SettleLayersModel" "below" "Z" : Cond) ∈ WA := List.mem_filter.mpr ⟨List.mem_of_getElem? (i := 383) (by decide +kernel), by decide +kernel⟩
theorem m_371 : (.fieldLink R_M 87 "SettleLayersModel" "drain" "I" : Cond) ∈ WA := List.mem_filter.mpr ⟨List.mem_of_getElem? (i := 384) (by decide +kernel), by decide +kernel⟩
theorem m_372 : (.fieldLink R_M 76 "SettleLayersModel" "loads" "I" : Cond) ∈ WA := List.mem_filter.mpr ⟨List.mem_of_getElem? (i := 385) (by decide +kernel), by decide +kernel⟩
theorem m_373 : (.fieldLink R_M 36 "SettleLayersModel" "loadDays" "[I" : Cond) ∈ WA := List.mem_filter.mpr ⟨List.mem_of_getElem? (i := 386) (by decide +kernel), by decide +kernel⟩
theorem m_374 : (.fieldLink R_M 39 "SettleLayersModel" "loadSizes" "[I" : Cond) ∈ WA := List.mem_filter.mpr ⟨List.mem_of_getElem? (i := 387) (by decide +kernel), by decide +kernel⟩
theorem m_375 : (.fieldLink R_M 140 "SettleLayersModel" "readings" "I" : Cond) ∈ WA := List.mem_filter.mpr ⟨List.mem_of_getElem? (i := 388) (by decide +kernel), by decide +kernel⟩
theorem m_376 : (.fieldLink R_M 42 "SettleLayersModel" "readDays" "[I" : Cond) ∈ WA := List.mem_filter.mpr ⟨List.mem_of_getElem? (i := 389) (by decide +kernel), by decide +kernel⟩
theorem m_377 : (.fieldLink R_M 45 "SettleLayersModel" "readValues" "[J" : Cond) ∈ WA := List.mem_filter.mpr ⟨List.mem_of_getElem? (i := 390) (by decide +kernel), by decide +kernel⟩
theorem m_378 : (.fieldLink R_M 48 "SettleLayersModel" "history" "[J" : Cond) ∈ WA := List.mem_filter.mpr ⟨List.mem_of_getElem? (i := 391) (by decide +kernel), by decide +kernel⟩
theorem m_379 : (.fieldLink R_M 51 "SettleLayersModel" "flows" "[J" : Cond) ∈ WA := List.mem_filter.mpr ⟨List.mem_of_getElem? (i := 392) (by decide +kernel), by decide +kernel⟩
theorem m_380 : (.fieldLink R_M 54 "SettleLayersModel" "kept" "[J" : Cond) ∈ WA := List.mem_filter.mpr ⟨List.mem_of_getElem? (i := 393) (by decide +kernel), by decide +kernel⟩
theorem m_430 : (.methodLink "SettleLayersLaw" 17 yM_layer : Cond) ∈ WA := List.mem_filter.mpr ⟨List.mem_of_getElem? (i := 443) (by decide +kernel), by decide +kernel⟩
theorem m_431 : (.instanceMethod yM_layer : Cond) ∈ WA := List.mem_filter.mpr ⟨List.mem_of_getElem? (i := 444) (by decide +kernel), by decide +kernel⟩
theorem m_432 : (.selects R_M yM_layer yM_layer : Cond) ∈ WA := List.mem_filter.mpr ⟨List.mem_of_getElem? (i := 445) (by decide +kernel), by decide +kernel⟩
theorem m_433 : (.code yM_layer prog_7_method_4_code 8 (some .int) : Cond) ∈ WA := List.mem_filter.mpr ⟨List.mem_of_getElem? (i := 446) (by decide +kernel), by decide +kernel⟩
theorem m_434 : (.constantLong R_M 57 10 : Cond) ∈ WA := List.mem_filter.mpr ⟨List.mem_of_getElem? (i := 447) (by decide +kernel), by decide +kernel⟩
theorem m_435 : (.methodLink R_M 59 yM_in : Cond) ∈ WA := List.mem_filter.mpr ⟨List.mem_of_getElem? (i := 448) (by decide +kernel), by decide +kernel⟩
theorem m_436 : (.static yM_in : Cond) ∈ WA := List.mem_filter.mpr ⟨List.mem_of_getElem? (i := 449) (by decide +kernel), by decide +kernel⟩
theorem m_437 : (.code yM_in prog_7_method_3_code 6 (some .boolean) : Cond) ∈ WA := List.mem_filter.mpr ⟨List.mem_of_getElem? (i := 450) (by decide +kernel), by decide +kernel⟩
theorem m_438 : (.constantLong R_M 63 300 : Cond) ∈ WA := List.mem_filter.mpr ⟨List.mem_of_getElem? (i := 451) (by decide +kernel), by decide +kernel⟩
theorem m_439 : (.constantLong R_M 65 1000 : Cond) ∈ WA := List.mem_filter.mpr ⟨List.mem_of_getElem? (i := 452) (by decide +kernel), by decide +kernel⟩
theorem m_440 : (.constantLong R_M 67 1000000 : Cond) ∈ WA := List.mem_filter.mpr ⟨List.mem_of_getElem? (i := 453) (by decide +kernel), by decide +kernel⟩
theorem m_441 : (.methodLink "SettleLayersLaw" 22 yM_drains : Cond) ∈ WA := List.mem_filter.mpr ⟨List.mem_of_getElem? (i := 454) (by decide +kernel), by decide +kernel⟩
theorem m_442 : (.instanceMethod yM_drains : Cond) ∈ WA := List.mem_filter.mpr ⟨List.mem_of_getElem? (i := 455) (by decide +kernel), by decide +kernel⟩
theorem m_443 : (.selects R_M yM_drains yM_drains : Cond) ∈ WA := List.mem_filter.mpr ⟨List.mem_of_getElem? (i := 456) (by decide +kernel), by decide +kernel⟩
theorem m_444 : (.code yM_drains prog_7_method_5_code 4 (some .boolean) : Cond) ∈ WA := List.mem_filter.mpr ⟨List.mem_of_getElem? (i := 457) (by decide +kernel), by decide +kernel⟩
theorem m_445 : (.constantLong R_M 82 200 : Cond) ∈ WA := List.mem_filter.mpr ⟨List.mem_of_getElem? (i := 458) (by decide +kernel), by decide +kernel⟩
theorem m_446 : (.methodLink "SettleLayersLaw" 27 yM_load : Cond) ∈ WA := List.mem_filter.mpr ⟨List.mem_of_getElem? (i := 459) (by decide +kernel), by decide +kernel⟩
theorem m_447 : (.instanceMethod yM_load : Cond) ∈ WA := List.mem_filter.mpr ⟨List.mem_of_getElem? (i := 460) (by decide +kernel), by decide +kernel⟩
theorem m_448 : (.selects R_M yM_load yM_load : Cond) ∈ WA := List.mem_filter.mpr ⟨List.mem_of_getElem? (i := 461) (by decide +kernel), by decide +kernel⟩
theorem m_449 : (.code yM_load prog_7_method_6_code 3 (some .int) : Cond) ∈ WA := List.mem_filter.mpr ⟨List.mem_of_getElem? (i := 462) (by decide +kernel), by decide +kernel⟩
theorem m_450 : (.constantLong R_M 90 399 : Cond) ∈ WA := List.mem_filter.mpr ⟨List.mem_of_getElem? (i := 463) (by decide +kernel), by decide +kernel⟩
theorem m_451 : (.constantLong R_M 92 200000 : Cond) ∈ WA := List.mem_filter.mpr ⟨List.mem_of_getElem? (i := 464) (by decide +kernel), by decide +kernel⟩
theorem m_452 : (.methodLink "SettleLayersLaw" 32 yM_run : Cond) ∈ WA := List.mem_filter.mpr ⟨List.mem_of_getElem? (i := 465) (by decide +kernel), by decide +kernel⟩
theorem m_453 : (.instanceMethod yM_run : Cond) ∈ WA := List.mem_filter.mpr ⟨List.mem_of_getElem? (i := 466) (by decide +kernel), by decide +kernel⟩
theorem m_454 : (.selects R_M yM_run yM_run : Cond) ∈ WA := List.mem_filter.mpr ⟨List.mem_of_getElem? (i := 467) (by decide +kernel), by decide +kernel⟩
theorem m_455 : (.code yM_run prog_7_method_11_code 3 (some .int) : Cond) ∈ WA := List.mem_filter.mpr ⟨List.mem_of_getElem? (i := 468) (by decide +kernel), by decide +kernel⟩
theorem m_456 : (.constantLong R_M 108 60 : Cond) ∈ WA := List.mem_filter.mpr ⟨List.mem_of_getElem? (i := 469) (by decide +kernel), by decide +kernel⟩
theorem m_457 : (.methodLink R_M 110 yM_goDay : Cond) ∈ WA := List.mem_filter.mpr ⟨List.mem_of_getElem? (i := 470) (by decide +kernel), by decide +kernel⟩
theorem m_459 : (.instanceMethod yM_goDay : Cond) ∈ WA := List.mem_filter.mpr ⟨List.mem_of_getElem? (i := 472) (by decide +kernel), by decide +kernel⟩
theorem m_460 : (.code yM_goDay prog_7_method_9_code 7 none : Cond) ∈ WA := List.mem_filter.mpr ⟨List.mem_of_getElem? (i := 473) (by decide +kernel), by decide +kernel⟩
theorem m_461 : (.methodLink R_M 105 yM_step : Cond) ∈ WA := List.mem_filter.mpr ⟨List.mem_of_getElem? (i := 474) (by decide +kernel), by decide +kernel⟩
theorem m_463 : (.instanceMethod yM_step : Cond) ∈ WA := List.mem_filter.mpr ⟨List.mem_of_getElem? (i := 476) (by decide +kernel), by decide +kernel⟩
theorem m_464 : (.code yM_step prog_7_method_8_code 10 none : Cond) ∈ WA := List.mem_filter.mpr ⟨List.mem_of_getElem? (i := 477) (by decide +kernel), by decide +kernel⟩
theorem m_465 : (.methodLink R_M 101 yM_sinking : Cond) ∈ WA := List.mem_filter.mpr ⟨List.mem_of_getElem? (i := 478) (by decide +kernel), by decide +kernel⟩
theorem m_467 : (.instanceMethod yM_sinking : Cond) ∈ WA := List.mem_filter.mpr ⟨List.mem_of_getElem? (i := 480) (by decide +kernel), by decide +kernel⟩
theorem m_468 : (.code yM_sinking prog_7_method_7_code 8 (some .long) : Cond) ∈ WA := List.mem_filter.mpr ⟨List.mem_of_getElem? (i := 481) (by decide +kernel), by decide +kernel⟩
theorem m_469 : (.methodLink R_M 114 yM_units : Cond) ∈ WA := List.mem_filter.mpr ⟨List.mem_of_getElem? (i := 482) (by decide +kernel), by decide +kernel⟩
theorem m_471 : (.instanceMethod yM_units : Cond) ∈ WA := List.mem_filter.mpr ⟨List.mem_of_getElem? (i := 484) (by decide +kernel), by decide +kernel⟩
theorem m_472 : (.code yM_units prog_7_method_10_code 5 (some .long) : Cond) ∈ WA := List.mem_filter.mpr ⟨List.mem_of_getElem? (i := 485) (by decide +kernel), by decide +kernel⟩
theorem m_473 : (.methodLink "SettleLayersLaw" 37 yM_sunk : Cond) ∈ WA := List.mem_filter.mpr ⟨List.mem_of_getElem? (i := 486) (by decide +kernel), by decide +kernel⟩
theorem m_474 : (.instanceMethod yM_sunk : Cond) ∈ WA := List.mem_filter.mpr ⟨List.mem_of_getElem? (i := 487) (by decide +kernel), by decide +kernel⟩
theorem m_475 : (.selects R_M yM_sunk yM_sunk : Cond) ∈ WA := List.mem_filter.mpr ⟨List.mem_of_getElem? (i := 488) (by decide +kernel), by decide +kernel⟩
theorem m_476 : (.code yM_sunk prog_7_method_12_code 2 (some .long) : Cond) ∈ WA := List.mem_filter.mpr ⟨List.mem_of_getElem? (i := 489) (by decide +kernel), by decide +kernel⟩
theorem m_477 : (.constantLong R_M 118 (-1) : Cond) ∈ WA := List.mem_filter.mpr ⟨List.mem_of_getElem? (i := 490) (by decide +kernel), by decide +kernel⟩
theorem m_478 : (.methodLink "SettleLayersLaw" 41 yM_told : Cond) ∈ WA := List.mem_filter.mpr ⟨List.mem_of_getElem? (i := 491) (by decide +kernel), by decide +kernel⟩
theorem m_479 : (.instanceMethod yM_told : Cond) ∈ WA := List.mem_filter.mpr ⟨List.mem_of_getElem? (i := 492) (by decide +kernel), by decide +kernel⟩
theorem m_480 : (.selects R_M yM_told yM_told : Cond) ∈ WA := List.mem_filter.mpr ⟨List.mem_of_getElem? (i := 493) (by decide +kernel), by decide +kernel⟩
theorem m_481 : (.code yM_told prog_7_method_13_code 3 (some .int) : Cond) ∈ WA := List.mem_filter.mpr ⟨List.mem_of_getElem? (i := 494) (by decide +kernel), by decide +kernel⟩
theorem m_482 : (.constantLong R_M 120 2 : Cond) ∈ WA := List.mem_filter.mpr ⟨List.mem_of_getElem? (i := 495) (by decide +kernel), by decide +kernel⟩
theorem m_483 : (.methodLink "SettleLayersLaw" 46 yM_out : Cond) ∈ WA := List.mem_filter.mpr ⟨List.mem_of_getElem? (i := 496) (by decide +kernel), by decide +kernel⟩
theorem m_484 : (.instanceMethod yM_out : Cond) ∈ WA := List.mem_filter.mpr ⟨List.mem_of_getElem? (i := 497) (by decide +kernel), by decide +kernel⟩
theorem m_485 : (.selects R_M yM_out yM_out : Cond) ∈ WA := List.mem_filter.mpr ⟨List.mem_of_getElem? (i := 498) (by decide +kernel), by decide +kernel⟩
theorem m_486 : (.code yM_out prog_7_method_14_code 1 (some .long) : Cond) ∈ WA := List.mem_filter.mpr ⟨List.mem_of_getElem? (i := 499) (by decide +kernel), by decide +kernel⟩
theorem m_487 : (.methodLink "SettleLayersLaw" 51 yM_balance : Cond) ∈ WA := List.mem_filter.mpr ⟨List.mem_of_getElem? (i := 500) (by decide +kernel), by decide +kernel⟩
theorem m_488 : (.instanceMethod yM_balance : Cond) ∈ WA := List.mem_filter.mpr ⟨List.mem_of_getElem? (i := 501) (by decide +kernel), by decide +kernel⟩
theorem m_489 : (.selects R_M yM_balance yM_balance : Cond) ∈ WA := List.mem_filter.mpr ⟨List.mem_of_getElem? (i := 502) (by decide +kernel), by decide +kernel⟩
theorem m_490 : (.code yM_balance prog_7_method_15_code 4 (some .boolean) : Cond) ∈ WA := List.mem_filter.mpr ⟨List.mem_of_getElem? (i := 503) (by decide +kernel), by decide +kernel⟩
theorem m_491 : (.methodLink "SettleLayersLaw" 55 yM_end : Cond) ∈ WA := List.mem_filter.mpr ⟨List.mem_of_getElem? (i := 504) (by decide +kernel), by decide +kernel⟩
theorem m_492 : (.instanceMethod yM_end : Cond) ∈ WA := List.mem_filter.mpr ⟨List.mem_of_getElem? (i := 505) (by decide +kernel), by decide +kernel⟩
theorem m_493 : (.selects R_M yM_end yM_end : Cond) ∈ WA := List.mem_filter.mpr ⟨List.mem_of_getElem? (i := 506) (by decide +kernel), by decide +kernel⟩
theorem m_494 : (.code yM_end prog_7_method_17_code 1 (some .long) : Cond) ∈ WA := List.mem_filter.mpr ⟨List.mem_of_getElem? (i := 507) (by decide +kernel), by decide +kernel⟩
theorem m_495 : (.methodLink R_M 122 yM_endUnits : Cond) ∈ WA := List.mem_filter.mpr ⟨List.mem_of_getElem? (i := 508) (by decide +kernel), by decide +kernel⟩
theorem m_497 : (.instanceMethod yM_endUnits : Cond) ∈ WA := List.mem_filter.mpr ⟨List.mem_of_getElem? (i := 510) (by decide +kernel), by decide +kernel⟩
theorem m_498 : (.code yM_endUnits prog_7_method_16_code 6 (some .long) : Cond) ∈ WA := List.mem_filter.mpr ⟨List.mem_of_getElem? (i := 511) (by decide +kernel), by decide +kernel⟩
theorem m_499 : (.methodLink "SettleLayersLaw" 60 yM_share : Cond) ∈ WA := List.mem_filter.mpr ⟨List.mem_of_getElem? (i := 512) (by decide +kernel), by decide +kernel⟩
theorem m_500 : (.instanceMethod yM_share : Cond) ∈ WA := List.mem_filter.mpr ⟨List.mem_of_getElem? (i := 513) (by decide +kernel), by decide +kernel⟩
theorem m_501 : (.selects R_M yM_share yM_share : Cond) ∈ WA := List.mem_filter.mpr ⟨List.mem_of_getElem? (i := 514) (by decide +kernel), by decide +kernel⟩
theorem m_502 : (.code yM_share prog_7_method_19_code 1 (some .int) : Cond) ∈ WA := List.mem_filter.mpr ⟨List.mem_of_getElem? (i := 515) (by decide +kernel), by decide +kernel⟩
theorem m_503 : (.methodLink R_M 126 yM_shareNow : Cond) ∈ WA := List.mem_filter.mpr ⟨List.mem_of_getElem? (i := 516) (by decide +kernel), by decide +kernel⟩
theorem m_505 : (.instanceMethod yM_shareNow : Cond) ∈ WA := List.mem_filter.mpr ⟨List.mem_of_getElem? (i := 518) (by decide +kernel), by decide +kernel⟩
theorem m_506 : (.code yM_shareNow prog_7_method_18_code 3 (some .int) : Cond) ∈ WA := List.mem_filter.mpr ⟨List.mem_of_getElem? (i := 519) (by decide +kernel), by decide +kernel⟩
theorem m_507 : (.methodLink "SettleLayersLaw" 64 yM_until : Cond) ∈ WA := List.mem_filter.mpr ⟨List.mem_of_getElem? (i := 520) (by decide +kernel), by decide +kernel⟩
theorem m_508 : (.instanceMethod yM_until : Cond) ∈ WA := List.mem_filter.mpr ⟨List.mem_of_getElem? (i := 521) (by decide +kernel), by decide +kernel⟩
theorem m_509 : (.selects R_M yM_until yM_until : Cond) ∈ WA := List.mem_filter.mpr ⟨List.mem_of_getElem? (i := 522) (by decide +kernel), by decide +kernel⟩
theorem m_510 : (.code yM_until prog_7_method_22_code 3 (some .int) : Cond) ∈ WA := List.mem_filter.mpr ⟨List.mem_of_getElem? (i := 523) (by decide +kernel), by decide +kernel⟩
theorem m_511 : (.methodLink R_M 130 yM_keep : Cond) ∈ WA := List.mem_filter.mpr ⟨List.mem_of_getElem? (i := 524) (by decide +kernel), by decide +kernel⟩
theorem m_513 : (.instanceMethod yM_keep : Cond) ∈ WA := List.mem_filter.mpr ⟨List.mem_of_getElem? (i := 526) (by decide +kernel), by decide +kernel⟩
theorem m_514 : (.code yM_keep prog_7_method_20_code 2 none : Cond) ∈ WA := List.mem_filter.mpr ⟨List.mem_of_getElem? (i := 527) (by decide +kernel), by decide +kernel⟩
theorem m_515 : (.methodLink R_M 133 yM_putBack : Cond) ∈ WA := List.mem_filter.mpr ⟨List.mem_of_getElem? (i := 528) (by decide +kernel), by decide +kernel⟩
theorem m_517 : (.instanceMethod yM_putBack : Cond) ∈ WA := List.mem_filter.mpr ⟨List.mem_of_getElem? (i := 530) (by decide +kernel), by decide +kernel⟩
theorem m_518 : (.code yM_putBack prog_7_method_21_code 2 none : Cond) ∈ WA := List.mem_filter.mpr ⟨List.mem_of_getElem? (i := 531) (by decide +kernel), by decide +kernel⟩
theorem m_519 : (.methodLink "SettleLayersLaw" 68 yM_surcharge : Cond) ∈ WA := List.mem_filter.mpr ⟨List.mem_of_getElem? (i := 532) (by decide +kernel), by decide +kernel⟩
theorem m_520 : (.instanceMethod yM_surcharge : Cond) ∈ WA := List.mem_filter.mpr ⟨List.mem_of_getElem? (i := 533) (by decide +kernel), by decide +kernel⟩
theorem m_521 : (.selects R_M yM_surcharge yM_surcharge : Cond) ∈ WA := List.mem_filter.mpr ⟨List.mem_of_getElem? (i := 534) (by decide +kernel), by decide +kernel⟩
theorem m_522 : (.code yM_surcharge prog_7_method_23_code 7 (some .int) : Cond) ∈ WA := List.mem_filter.mpr ⟨List.mem_of_getElem? (i := 535) (by decide +kernel), by decide +kernel⟩
theorem m_523 : (.constantLong R_M 136 100000 : Cond) ∈ WA := List.mem_filter.mpr ⟨List.mem_of_getElem? (i := 536) (by decide +kernel), by decide +kernel⟩
theorem m_524 : (.constantLong R_M 138 100 : Cond) ∈ WA := List.mem_filter.mpr ⟨List.mem_of_getElem? (i := 537) (by decide +kernel), by decide +kernel⟩
theorem m_525 : (.methodLink "SettleLayersLaw" 75 yM_read : Cond) ∈ WA := List.mem_filter.mpr ⟨List.mem_of_getElem? (i := 538) (by decide +kernel), by decide +kernel⟩
theorem m_526 : (.instanceMethod yM_read : Cond) ∈ WA := List.mem_filter.mpr ⟨List.mem_of_getElem? (i := 539) (by decide +kernel), by decide +kernel⟩
theorem m_527 : (.selects R_M yM_read yM_read : Cond) ∈ WA := List.mem_filter.mpr ⟨List.mem_of_getElem? (i := 540) (by decide +kernel), by decide +kernel⟩
theorem m_528 : (.code yM_read prog_7_method_24_code 5 (some .int) : Cond) ∈ WA := List.mem_filter.mpr ⟨List.mem_of_getElem? (i := 541) (by decide +kernel), by decide +kernel⟩
theorem m_529 : (.constantLong R_M 143 400 : Cond) ∈ WA := List.mem_filter.mpr ⟨List.mem_of_getElem? (i := 542) (by decide +kernel), by decide +kernel⟩
theorem m_530 : (.constantLong R_M 145 1000000000000 : Cond) ∈ WA := List.mem_filter.mpr ⟨List.mem_of_getElem? (i := 543) (by decide +kernel), by decide +kernel⟩
theorem m_531 : (.methodLink "SettleLayersLaw" 79 yM_foretold : Cond) ∈ WA := List.mem_filter.mpr ⟨List.mem_of_getElem? (i := 544) (by decide +kernel), by decide +kernel⟩
theorem m_532 : (.instanceMethod yM_foretold : Cond) ∈ WA := List.mem_filter.mpr ⟨List.mem_of_getElem? (i := 545) (by decide +kernel), by decide +kernel⟩
theorem m_533 : (.selects R_M yM_foretold yM_foretold : Cond) ∈ WA := List.mem_filter.mpr ⟨List.mem_of_getElem? (i := 546) (by decide +kernel), by decide +kernel⟩
theorem m_534 : (.code yM_foretold prog_7_method_25_code 15 (some .long) : Cond) ∈ WA := List.mem_filter.mpr ⟨List.mem_of_getElem? (i := 547) (by decide +kernel), by decide +kernel⟩
theorem m_535 : (.constantLong R_M 147 100000000 : Cond) ∈ WA := List.mem_filter.mpr ⟨List.mem_of_getElem? (i := 548) (by decide +kernel), by decide +kernel⟩
theorem m_536 : (.methodLink "SettleLayersLaw" 84 yM_off : Cond) ∈ WA := List.mem_filter.mpr ⟨List.mem_of_getElem? (i := 549) (by decide +kernel), by decide +kernel⟩
theorem m_537 : (.instanceMethod yM_off : Cond) ∈ WA := List.mem_filter.mpr ⟨List.mem_of_getElem? (i := 550) (by decide +kernel), by decide +kernel⟩
theorem m_538 : (.selects R_M yM_off yM_off : Cond) ∈ WA := List.mem_filter.mpr ⟨List.mem_of_getElem? (i := 551) (by decide +kernel), by decide +kernel⟩
theorem m_539 : (.code yM_off prog_7_method_26_code 7 (some .int) : Cond) ∈ WA := List.mem_filter.mpr ⟨List.mem_of_getElem? (i := 552) (by decide +kernel), by decide +kernel⟩
theorem m_540 : (.methodLink "SettleLayersLaw" 88 yM_count : Cond) ∈ WA := List.mem_filter.mpr ⟨List.mem_of_getElem? (i := 553) (by decide +kernel), by decide +kernel⟩
theorem m_541 : (.instanceMethod yM_count : Cond) ∈ WA := List.mem_filter.mpr ⟨List.mem_of_getElem? (i := 554) (by decide +kernel), by decide +kernel⟩
theorem m_542 : (.selects R_M yM_count yM_count : Cond) ∈ WA := List.mem_filter.mpr ⟨List.mem_of_getElem? (i := 555) (by decide +kernel), by decide +kernel⟩
theorem m_543 : (.code yM_count prog_7_method_27_code 2 (some .int) : Cond) ∈ WA := List.mem_filter.mpr ⟨List.mem_of_getElem? (i := 556) (by decide +kernel), by decide +kernel⟩
theorem m_544 : (.constantLong "SettleLayersLaw" 69 4294967295 : Cond) ∈ WA := List.mem_filter.mpr ⟨List.mem_of_getElem? (i := 557) (by decide +kernel), by decide +kernel⟩
theorem ms_0 : (.selects "SettleLayers$Ground" yG_moveWater yG_moveWater : Cond) ∈ WA := List.mem_filter.mpr ⟨List.mem_of_getElem? (i := 0) (by decide +kernel), by decide +kernel⟩
theorem ms_1 : (.selects "SettleLayers$Ground" yG_leavingAbove yG_leavingAbove : Cond) ∈ WA := List.mem_filter.mpr ⟨List.mem_of_getElem? (i := 1) (by decide +kernel), by decide +kernel⟩
theorem ms_2 : (.selects "SettleLayers$Ground" yG_goingBelow yG_goingBelow : Cond) ∈ WA := List.mem_filter.mpr ⟨List.mem_of_getElem? (i := 2) (by decide +kernel), by decide +kernel⟩
theorem ms_3 : (.selects "SettleLayers$Ground" yG_raisePasts yG_raisePasts : Cond) ∈ WA := List.mem_filter.mpr ⟨List.mem_of_getElem? (i := 3) (by decide +kernel), by decide +kernel⟩
theorem ms_4 : (.selects "SettleLayers" yX_unitsSunkWith yX_unitsSunkWith : Cond) ∈ WA := List.mem_filter.mpr ⟨List.mem_of_getElem? (i := 4) (by decide +kernel), by decide +kernel⟩
theorem ms_5 : (.selects "SettleLayersModel" yM_goDay yM_goDay : Cond) ∈ WA := List.mem_filter.mpr ⟨List.mem_of_getElem? (i := 5) (by decide +kernel), by decide +kernel⟩
theorem ms_6 : (.selects "SettleLayersModel" yM_step yM_step : Cond) ∈ WA := List.mem_filter.mpr ⟨List.mem_of_getElem? (i := 6) (by decide +kernel), by decide +kernel⟩
theorem ms_7 : (.selects "SettleLayersModel" yM_sinking yM_sinking : Cond) ∈ WA := List.mem_filter.mpr ⟨List.mem_of_getElem? (i := 7) (by decide +kernel), by decide +kernel⟩
theorem ms_8 : (.selects "SettleLayersModel" yM_units yM_units : Cond) ∈ WA := List.mem_filter.mpr ⟨List.mem_of_getElem? (i := 8) (by decide +kernel), by decide +kernel⟩
theorem ms_9 : (.selects "SettleLayersModel" yM_endUnits yM_endUnits : Cond) ∈ WA := List.mem_filter.mpr ⟨List.mem_of_getElem? (i := 9) (by decide +kernel), by decide +kernel⟩
theorem ms_10 : (.selects "SettleLayersModel" yM_shareNow yM_shareNow : Cond) ∈ WA := List.mem_filter.mpr ⟨List.mem_of_getElem? (i := 10) (by decide +kernel), by decide +kernel⟩
theorem ms_11 : (.selects "SettleLayersModel" yM_keep yM_keep : Cond) ∈ WA := List.mem_filter.mpr ⟨List.mem_of_getElem? (i := 11) (by decide +kernel), by decide +kernel⟩
theorem ms_12 : (.selects "SettleLayersModel" yM_putBack yM_putBack : Cond) ∈ WA := List.mem_filter.mpr ⟨List.mem_of_getElem? (i := 12) (by decide +kernel), by decide +kernel⟩
end
section
theorem dX_init_0 : decode bX_init 0 = .ok (.aload_n 0, 1) := by decide +kernel
theorem dX_init_1 : decode bX_init 1 = .ok (.invokespecial 1, 3) := by decide +kernel
theorem dX_init_4 : decode bX_init 4 = .ok (.aload_n 0, 1) := by decide +kernel
theorem dX_init_5 : decode bX_init 5 = .ok (.new 7, 3) := by decide +kernel
theorem dX_init_8 : decode bX_init 8 = .ok (.dup, 1) := by decide +kernel
theorem dX_init_9 : decode bX_init 9 = .ok (.invokespecial 9, 3) := by decide +kernel
theorem dX_init_12 : decode bX_init 12 = .ok (.putfield 10, 3) := by decide +kernel
theorem dX_init_15 : decode bX_init 15 = .ok (.aload_n 0, 1) := by decide +kernel
theorem dX_init_16 : decode bX_init 16 = .ok (.new 16, 3) := by decide +kernel
theorem dX_init_19 : decode bX_init 19 = .ok (.dup, 1) := by decide +kernel
theorem dX_init_20 : decode bX_init 20 = .ok (.invokespecial 18, 3) := by decide +kernel
theorem dX_init_23 : decode bX_init 23 = .ok (.putfield 19, 3) := by decide +kernel
theorem dX_init_26 : decode bX_init 26 = .ok (.aload_n 0, 1) := by decide +kernel
theorem dX_init_27 : decode bX_init 27 = .ok (.new 23, 3) := by decide +kernel
theorem dX_init_30 : decode bX_init 30 = .ok (.dup, 1) := by decide +kernel
theorem dX_init_31 : decode bX_init 31 = .ok (.invokespecial 25, 3) := by decide +kernel
theorem dX_init_34 : decode bX_init 34 = .ok (.putfield 26, 3) := by decide +kernel
theorem dX_init_37 : decode bX_init 37 = .ok (.aload_n 0, 1) := by decide +kernel
theorem dX_init_38 : decode bX_init 38 = .ok (.new 30, 3) := by decide +kernel
theorem dX_init_41 : decode bX_init 41 = .ok (.dup, 1) := by decide +kernel
theorem dX_init_42 : decode bX_init 42 = .ok (.aload_n 0, 1) := by decide +kernel
theorem dX_init_43 : decode bX_init 43 = .ok (.getfield 10, 3) := by decide +kernel
theorem dX_init_46 : decode bX_init 46 = .ok (.aload_n 0, 1) := by decide +kernel
theorem dX_init_47 : decode bX_init 47 = .ok (.getfield 19, 3) := by decide +kernel
theorem dX_init_50 : decode bX_init 50 = .ok (.invokespecial 32, 3) := by decide +kernel
theorem dX_init_53 : decode bX_init 53 = .ok (.putfield 35, 3) := by decide +kernel
theorem dX_init_56 : decode bX_init 56 = .ok (.aload_n 0, 1) := by decide +kernel
theorem dX_init_57 : decode bX_init 57 = .ok (.new 30, 3) := by decide +kernel
theorem dX_init_60 : decode bX_init 60 = .ok (.dup, 1) := by decide +kernel
theorem dX_init_61 : decode bX_init 61 = .ok (.aload_n 0, 1) := by decide +kernel
theorem dX_init_62 : decode bX_init 62 = .ok (.getfield 10, 3) := by decide +kernel
theorem dX_init_65 : decode bX_init 65 = .ok (.aload_n 0, 1) := by decide +kernel
theorem dX_init_66 : decode bX_init 66 = .ok (.getfield 19, 3) := by decide +kernel
theorem dX_init_69 : decode bX_init 69 = .ok (.invokespecial 32, 3) := by decide +kernel
theorem dX_init_72 : decode bX_init 72 = .ok (.putfield 39, 3) := by decide +kernel
theorem dX_init_75 : decode bX_init 75 = .ok (.aload_n 0, 1) := by decide +kernel
theorem dX_init_76 : decode bX_init 76 = .ok (.sipush 401, 3) := by decide +kernel
theorem dX_init_79 : decode bX_init 79 = .ok (.newarray .long, 2) := by decide +kernel
theorem dX_init_81 : decode bX_init 81 = .ok (.putfield 42, 3) := by decide +kernel
theorem dX_init_84 : decode bX_init 84 = .ok (.return_, 1) := by decide +kernel
theorem dS_init_0 : decode bS_init 0 = .ok (.aload_n 0, 1) := by decide +kernel
theorem dS_init_1 : decode bS_init 1 = .ok (.invokespecial 3, 3) := by decide +kernel
theorem dS_init_4 : decode bS_init 4 = .ok (.aload_n 0, 1) := by decide +kernel
theorem dS_init_5 : decode bS_init 5 = .ok (.bipush 30, 2) := by decide +kernel
theorem dS_init_7 : decode bS_init 7 = .ok (.newarray .int, 2) := by decide +kernel
theorem dS_init_9 : decode bS_init 9 = .ok (.putfield 9, 3) := by decide +kernel
theorem dS_init_12 : decode bS_init 12 = .ok (.aload_n 0, 1) := by decide +kernel
theorem dS_init_13 : decode bS_init 13 = .ok (.bipush 30, 2) := by decide +kernel
theorem dS_init_15 : decode bS_init 15 = .ok (.newarray .int, 2) := by decide +kernel
theorem dS_init_17 : decode bS_init 17 = .ok (.putfield 15, 3) := by decide +kernel
theorem dS_init_20 : decode bS_init 20 = .ok (.aload_n 0, 1) := by decide +kernel
theorem dS_init_21 : decode bS_init 21 = .ok (.bipush 30, 2) := by decide +kernel
theorem dS_init_23 : decode bS_init 23 = .ok (.newarray .int, 2) := by decide +kernel
theorem dS_init_25 : decode bS_init 25 = .ok (.putfield 18, 3) := by decide +kernel
theorem dS_init_28 : decode bS_init 28 = .ok (.aload_n 0, 1) := by decide +kernel
theorem dS_init_29 : decode bS_init 29 = .ok (.bipush 30, 2) := by decide +kernel
theorem dS_init_31 : decode bS_init 31 = .ok (.newarray .int, 2) := by decide +kernel
theorem dS_init_33 : decode bS_init 33 = .ok (.putfield 21, 3) := by decide +kernel
theorem dS_init_36 : decode bS_init 36 = .ok (.aload_n 0, 1) := by decide +kernel
theorem dS_init_37 : decode bS_init 37 = .ok (.bipush 30, 2) := by decide +kernel
theorem dS_init_39 : decode bS_init 39 = .ok (.newarray .int, 2) := by decide +kernel
theorem dS_init_41 : decode bS_init 41 = .ok (.putfield 24, 3) := by decide +kernel
theorem dS_init_44 : decode bS_init 44 = .ok (.aload_n 0, 1) := by decide +kernel
theorem dS_init_45 : decode bS_init 45 = .ok (.bipush 31, 2) := by decide +kernel
theorem dS_init_47 : decode bS_init 47 = .ok (.newarray .int, 2) := by decide +kernel
theorem dS_init_49 : decode bS_init 49 = .ok (.putfield 27, 3) := by decide +kernel
theorem dS_init_52 : decode bS_init 52 = .ok (.aload_n 0, 1) := by decide +kernel
theorem dS_init_53 : decode bS_init 53 = .ok (.iconst 1, 1) := by decide +kernel
theorem dS_init_54 : decode bS_init 54 = .ok (.putfield 30, 3) := by decide +kernel
theorem dS_init_57 : decode bS_init 57 = .ok (.return_, 1) := by decide +kernel
theorem dO_init_0 : decode bO_init 0 = .ok (.aload_n 0, 1) := by decide +kernel
theorem dO_init_1 : decode bO_init 1 = .ok (.invokespecial 3, 3) := by decide +kernel
theorem dO_init_4 : decode bO_init 4 = .ok (.aload_n 0, 1) := by decide +kernel
theorem dO_init_5 : decode bO_init 5 = .ok (.bipush 12, 2) := by decide +kernel
theorem dO_init_7 : decode bO_init 7 = .ok (.newarray .int, 2) := by decide +kernel
theorem dO_init_9 : decode bO_init 9 = .ok (.putfield 9, 3) := by decide +kernel
theorem dO_init_12 : decode bO_init 12 = .ok (.aload_n 0, 1) := by decide +kernel
theorem dO_init_13 : decode bO_init 13 = .ok (.bipush 12, 2) := by decide +kernel
theorem dO_init_15 : decode bO_init 15 = .ok (.newarray .int, 2) := by decide +kernel
theorem dO_init_17 : decode bO_init 17 = .ok (.putfield 15, 3) := by decide +kernel
theorem dO_init_20 : decode bO_init 20 = .ok (.return_, 1) := by decide +kernel
theorem dD_init_0 : decode bD_init 0 = .ok (.aload_n 0, 1) := by decide +kernel
theorem dD_init_1 : decode bD_init 1 = .ok (.invokespecial 3, 3) := by decide +kernel
theorem dD_init_4 : decode bD_init 4 = .ok (.aload_n 0, 1) := by decide +kernel
theorem dD_init_5 : decode bD_init 5 = .ok (.bipush 20, 2) := by decide +kernel
theorem dD_init_7 : decode bD_init 7 = .ok (.newarray .int, 2) := by decide +kernel
theorem dD_init_9 : decode bD_init 9 = .ok (.putfield 9, 3) := by decide +kernel
theorem dD_init_12 : decode bD_init 12 = .ok (.aload_n 0, 1) := by decide +kernel
theorem dD_init_13 : decode bD_init 13 = .ok (.bipush 20, 2) := by decide +kernel
theorem dD_init_15 : decode bD_init 15 = .ok (.newarray .long, 2) := by decide +kernel
theorem dD_init_17 : decode bD_init 17 = .ok (.putfield 15, 3) := by decide +kernel
theorem dD_init_20 : decode bD_init 20 = .ok (.return_, 1) := by decide +kernel
theorem dG_init_0 : decode bG_init 0 = .ok (.aload_n 0, 1) := by decide +kernel
theorem dG_init_1 : decode bG_init 1 = .ok (.invokespecial 3, 3) := by decide +kernel
theorem dG_init_4 : decode bG_init 4 = .ok (.aload_n 0, 1) := by decide +kernel
theorem dG_init_5 : decode bG_init 5 = .ok (.bipush 30, 2) := by decide +kernel
theorem dG_init_7 : decode bG_init 7 = .ok (.newarray .long, 2) := by decide +kernel
theorem dG_init_9 : decode bG_init 9 = .ok (.putfield 9, 3) := by decide +kernel
theorem dG_init_12 : decode bG_init 12 = .ok (.aload_n 0, 1) := by decide +kernel
theorem dG_init_13 : decode bG_init 13 = .ok (.bipush 30, 2) := by decide +kernel
theorem dG_init_15 : decode bG_init 15 = .ok (.newarray .long, 2) := by decide +kernel
theorem dG_init_17 : decode bG_init 17 = .ok (.putfield 15, 3) := by decide +kernel
theorem dG_init_20 : decode bG_init 20 = .ok (.aload_n 0, 1) := by decide +kernel
theorem dG_init_21 : decode bG_init 21 = .ok (.aload_n 1, 1) := by decide +kernel
theorem dG_init_22 : decode bG_init 22 = .ok (.putfield 18, 3) := by decide +kernel
theorem dG_init_25 : decode bG_init 25 = .ok (.aload_n 0, 1) := by decide +kernel
theorem dG_init_26 : decode bG_init 26 = .ok (.aload_n 2, 1) := by decide +kernel
theorem dG_init_27 : decode bG_init 27 = .ok (.putfield 22, 3) := by decide +kernel
theorem dG_init_30 : decode bG_init 30 = .ok (.return_, 1) := by decide +kernel
theorem dX_layer_0 : decode bX_layer 0 = .ok (.aload_n 0, 1) := by decide +kernel
theorem dX_layer_1 : decode bX_layer 1 = .ok (.getfield 35, 3) := by decide +kernel
theorem dX_layer_4 : decode bX_layer 4 = .ok (.getfield 46, 3) := by decide +kernel
theorem dX_layer_7 : decode bX_layer 7 = .ok (.ifCond .gt 13, 3) := by decide +kernel
theorem dX_layer_10 : decode bX_layer 10 = .ok (.aload_n 0, 1) := by decide +kernel
theorem dX_layer_11 : decode bX_layer 11 = .ok (.getfield 19, 3) := by decide +kernel
theorem dX_layer_14 : decode bX_layer 14 = .ok (.getfield 50, 3) := by decide +kernel
theorem dX_layer_17 : decode bX_layer 17 = .ok (.ifCond .le 5, 3) := by decide +kernel
theorem dX_layer_20 : decode bX_layer 20 = .ok (.iconst (-1), 1) := by decide +kernel
theorem dX_layer_21 : decode bX_layer 21 = .ok (.ireturn, 1) := by decide +kernel
theorem dX_layer_22 : decode bX_layer 22 = .ok (.iload_n 1, 1) := by decide +kernel
theorem dX_layer_23 : decode bX_layer 23 = .ok (.iconst 1, 1) := by decide +kernel
theorem dX_layer_24 : decode bX_layer 24 = .ok (.bipush 10, 2) := by decide +kernel
theorem dX_layer_26 : decode bX_layer 26 = .ok (.invokestatic 53, 3) := by decide +kernel
theorem dX_layer_29 : decode bX_layer 29 = .ok (.ifCond .eq 17, 3) := by decide +kernel
theorem dX_layer_32 : decode bX_layer 32 = .ok (.iload_n 1, 1) := by decide +kernel
theorem dX_layer_33 : decode bX_layer 33 = .ok (.bipush 30, 2) := by decide +kernel
theorem dX_layer_35 : decode bX_layer 35 = .ok (.aload_n 0, 1) := by decide +kernel
theorem dX_layer_36 : decode bX_layer 36 = .ok (.getfield 10, 3) := by decide +kernel
theorem dX_layer_39 : decode bX_layer 39 = .ok (.getfield 57, 3) := by decide +kernel
theorem dX_layer_42 : decode bX_layer 42 = .ok (.isub, 1) := by decide +kernel
theorem dX_layer_43 : decode bX_layer 43 = .ok (.if_icmp .le 5, 3) := by decide +kernel
theorem dX_layer_46 : decode bX_layer 46 = .ok (.iconst (-1), 1) := by decide +kernel
theorem dX_layer_47 : decode bX_layer 47 = .ok (.ireturn, 1) := by decide +kernel
theorem dX_layer_48 : decode bX_layer 48 = .ok (.iload_n 2, 1) := by decide +kernel
theorem dX_layer_49 : decode bX_layer 49 = .ok (.iconst 0, 1) := by decide +kernel
theorem dX_layer_50 : decode bX_layer 50 = .ok (.sipush 300, 3) := by decide +kernel
theorem dX_layer_53 : decode bX_layer 53 = .ok (.invokestatic 53, 3) := by decide +kernel
theorem dX_layer_56 : decode bX_layer 56 = .ok (.ifCond .eq 14, 3) := by decide +kernel
theorem dX_layer_59 : decode bX_layer 59 = .ok (.iload 5, 2) := by decide +kernel
theorem dX_layer_61 : decode bX_layer 61 = .ok (.iconst 0, 1) := by decide +kernel
theorem dX_layer_62 : decode bX_layer 62 = .ok (.ldc 60, 2) := by decide +kernel
theorem dX_layer_64 : decode bX_layer 64 = .ok (.invokestatic 53, 3) := by decide +kernel
theorem dX_layer_67 : decode bX_layer 67 = .ok (.ifCond .ne 5, 3) := by decide +kernel
theorem dX_layer_70 : decode bX_layer 70 = .ok (.iconst (-1), 1) := by decide +kernel
theorem dX_layer_71 : decode bX_layer 71 = .ok (.ireturn, 1) := by decide +kernel
theorem dX_layer_72 : decode bX_layer 72 = .ok (.iload_n 3, 1) := by decide +kernel
theorem dX_layer_73 : decode bX_layer 73 = .ok (.iconst 0, 1) := by decide +kernel
theorem dX_layer_74 : decode bX_layer 74 = .ok (.sipush 1000, 3) := by decide +kernel
theorem dX_layer_77 : decode bX_layer 77 = .ok (.invokestatic 53, 3) := by decide +kernel
theorem dX_layer_80 : decode bX_layer 80 = .ok (.ifCond .eq 15, 3) := by decide +kernel
theorem dX_layer_83 : decode bX_layer 83 = .ok (.iload 4, 2) := by decide +kernel
theorem dX_layer_85 : decode bX_layer 85 = .ok (.iload_n 3, 1) := by decide +kernel
theorem dX_layer_86 : decode bX_layer 86 = .ok (.sipush 1000, 3) := by decide +kernel
theorem dX_layer_89 : decode bX_layer 89 = .ok (.invokestatic 53, 3) := by decide +kernel
theorem dX_layer_92 : decode bX_layer 92 = .ok (.ifCond .ne 5, 3) := by decide +kernel
theorem dX_layer_95 : decode bX_layer 95 = .ok (.iconst (-1), 1) := by decide +kernel
theorem dX_layer_96 : decode bX_layer 96 = .ok (.ireturn, 1) := by decide +kernel
theorem dX_layer_97 : decode bX_layer 97 = .ok (.aload_n 0, 1) := by decide +kernel
theorem dX_layer_98 : decode bX_layer 98 = .ok (.getfield 35, 3) := by decide +kernel
theorem dX_layer_101 : decode bX_layer 101 = .ok (.aload_n 0, 1) := by decide +kernel
theorem dX_layer_102 : decode bX_layer 102 = .ok (.getfield 10, 3) := by decide +kernel
theorem dX_layer_105 : decode bX_layer 105 = .ok (.getfield 57, 3) := by decide +kernel
theorem dX_layer_108 : decode bX_layer 108 = .ok (.iload_n 1, 1) := by decide +kernel
theorem dX_layer_109 : decode bX_layer 109 = .ok (.iload 5, 2) := by decide +kernel
theorem dX_layer_111 : decode bX_layer 111 = .ok (.invokevirtual 61, 3) := by decide +kernel
theorem dX_layer_114 : decode bX_layer 114 = .ok (.aload_n 0, 1) := by decide +kernel
theorem dX_layer_115 : decode bX_layer 115 = .ok (.getfield 10, 3) := by decide +kernel
theorem dX_layer_118 : decode bX_layer 118 = .ok (.iload_n 1, 1) := by decide +kernel
theorem dX_layer_119 : decode bX_layer 119 = .ok (.iload_n 2, 1) := by decide +kernel
theorem dX_layer_120 : decode bX_layer 120 = .ok (.iload_n 3, 1) := by decide +kernel
theorem dX_layer_121 : decode bX_layer 121 = .ok (.iload 4, 2) := by decide +kernel
theorem dX_layer_123 : decode bX_layer 123 = .ok (.iload 5, 2) := by decide +kernel
theorem dX_layer_125 : decode bX_layer 125 = .ok (.invokevirtual 65, 3) := by decide +kernel
theorem dX_layer_128 : decode bX_layer 128 = .ok (.ireturn, 1) := by decide +kernel
theorem dX_within_0 : decode bX_within 0 = .ok (.iload_n 0, 1) := by decide +kernel
theorem dX_within_1 : decode bX_within 1 = .ok (.iload_n 1, 1) := by decide +kernel
theorem dX_within_2 : decode bX_within 2 = .ok (.if_icmp .lt 12, 3) := by decide +kernel
theorem dX_within_5 : decode bX_within 5 = .ok (.iload_n 0, 1) := by decide +kernel
theorem dX_within_6 : decode bX_within 6 = .ok (.iload_n 2, 1) := by decide +kernel
theorem dX_within_7 : decode bX_within 7 = .ok (.if_icmp .gt 7, 3) := by decide +kernel
theorem dX_within_10 : decode bX_within 10 = .ok (.iconst 1, 1) := by decide +kernel
theorem dX_within_11 : decode bX_within 11 = .ok (.goto 4, 3) := by decide +kernel
theorem dX_within_14 : decode bX_within 14 = .ok (.iconst 0, 1) := by decide +kernel
theorem dX_within_15 : decode bX_within 15 = .ok (.ireturn, 1) := by decide +kernel
theorem dG_begin_0 : decode bG_begin 0 = .ok (.iload_n 1, 1) := by decide +kernel
theorem dG_begin_1 : decode bG_begin 1 = .ok (.istore 4, 2) := by decide +kernel
theorem dG_begin_3 : decode bG_begin 3 = .ok (.iload 4, 2) := by decide +kernel
theorem dG_begin_5 : decode bG_begin 5 = .ok (.iload_n 1, 1) := by decide +kernel
theorem dG_begin_6 : decode bG_begin 6 = .ok (.iload_n 2, 1) := by decide +kernel
theorem dG_begin_7 : decode bG_begin 7 = .ok (.iadd, 1) := by decide +kernel
theorem dG_begin_8 : decode bG_begin 8 = .ok (.if_icmp .ge 25, 3) := by decide +kernel
theorem dG_begin_11 : decode bG_begin 11 = .ok (.iload 4, 2) := by decide +kernel
theorem dG_begin_13 : decode bG_begin 13 = .ok (.bipush 30, 2) := by decide +kernel
theorem dG_begin_15 : decode bG_begin 15 = .ok (.if_icmp .ge 18, 3) := by decide +kernel
theorem dG_begin_18 : decode bG_begin 18 = .ok (.aload_n 0, 1) := by decide +kernel
theorem dG_begin_19 : decode bG_begin 19 = .ok (.getfield 15, 3) := by decide +kernel
theorem dG_begin_22 : decode bG_begin 22 = .ok (.iload 4, 2) := by decide +kernel
theorem dG_begin_24 : decode bG_begin 24 = .ok (.iload_n 3, 1) := by decide +kernel
theorem dG_begin_25 : decode bG_begin 25 = .ok (.i2l, 1) := by decide +kernel
theorem dG_begin_26 : decode bG_begin 26 = .ok (.lastore, 1) := by decide +kernel
theorem dG_begin_27 : decode bG_begin 27 = .ok (.iinc 4 1, 3) := by decide +kernel
theorem dG_begin_30 : decode bG_begin 30 = .ok (.goto (-27), 3) := by decide +kernel
theorem dG_begin_33 : decode bG_begin 33 = .ok (.return_, 1) := by decide +kernel
theorem dS_addLayer_0 : decode bS_addLayer 0 = .ok (.iconst 0, 1) := by decide +kernel
theorem dS_addLayer_1 : decode bS_addLayer 1 = .ok (.istore 6, 2) := by decide +kernel
theorem dS_addLayer_3 : decode bS_addLayer 3 = .ok (.iload 6, 2) := by decide +kernel
theorem dS_addLayer_5 : decode bS_addLayer 5 = .ok (.iload_n 1, 1) := by decide +kernel
theorem dS_addLayer_6 : decode bS_addLayer 6 = .ok (.if_icmp .ge 103, 3) := by decide +kernel
theorem dS_addLayer_9 : decode bS_addLayer 9 = .ok (.aload_n 0, 1) := by decide +kernel
theorem dS_addLayer_10 : decode bS_addLayer 10 = .ok (.getfield 34, 3) := by decide +kernel
theorem dS_addLayer_13 : decode bS_addLayer 13 = .ok (.bipush 30, 2) := by decide +kernel
theorem dS_addLayer_15 : decode bS_addLayer 15 = .ok (.if_icmp .ge 94, 3) := by decide +kernel
theorem dS_addLayer_18 : decode bS_addLayer 18 = .ok (.aload_n 0, 1) := by decide +kernel
theorem dS_addLayer_19 : decode bS_addLayer 19 = .ok (.getfield 9, 3) := by decide +kernel
theorem dS_addLayer_22 : decode bS_addLayer 22 = .ok (.aload_n 0, 1) := by decide +kernel
theorem dS_addLayer_23 : decode bS_addLayer 23 = .ok (.getfield 34, 3) := by decide +kernel
theorem dS_addLayer_26 : decode bS_addLayer 26 = .ok (.iload_n 2, 1) := by decide +kernel
theorem dS_addLayer_27 : decode bS_addLayer 27 = .ok (.iastore, 1) := by decide +kernel
theorem dS_addLayer_28 : decode bS_addLayer 28 = .ok (.aload_n 0, 1) := by decide +kernel
theorem dS_addLayer_29 : decode bS_addLayer 29 = .ok (.getfield 18, 3) := by decide +kernel
theorem dS_addLayer_32 : decode bS_addLayer 32 = .ok (.aload_n 0, 1) := by decide +kernel
theorem dS_addLayer_33 : decode bS_addLayer 33 = .ok (.getfield 34, 3) := by decide +kernel
theorem dS_addLayer_36 : decode bS_addLayer 36 = .ok (.iload_n 3, 1) := by decide +kernel
theorem dS_addLayer_37 : decode bS_addLayer 37 = .ok (.iastore, 1) := by decide +kernel
theorem dS_addLayer_38 : decode bS_addLayer 38 = .ok (.aload_n 0, 1) := by decide +kernel
theorem dS_addLayer_39 : decode bS_addLayer 39 = .ok (.getfield 21, 3) := by decide +kernel
theorem dS_addLayer_42 : decode bS_addLayer 42 = .ok (.aload_n 0, 1) := by decide +kernel
theorem dS_addLayer_43 : decode bS_addLayer 43 = .ok (.getfield 34, 3) := by decide +kernel
theorem dS_addLayer_46 : decode bS_addLayer 46 = .ok (.iload 4, 2) := by decide +kernel
theorem dS_addLayer_48 : decode bS_addLayer 48 = .ok (.iastore, 1) := by decide +kernel
theorem dS_addLayer_49 : decode bS_addLayer 49 = .ok (.aload_n 0, 1) := by decide +kernel
theorem dS_addLayer_50 : decode bS_addLayer 50 = .ok (.getfield 24, 3) := by decide +kernel
theorem dS_addLayer_53 : decode bS_addLayer 53 = .ok (.aload_n 0, 1) := by decide +kernel
theorem dS_addLayer_54 : decode bS_addLayer 54 = .ok (.getfield 34, 3) := by decide +kernel
theorem dS_addLayer_57 : decode bS_addLayer 57 = .ok (.iload 5, 2) := by decide +kernel
theorem dS_addLayer_59 : decode bS_addLayer 59 = .ok (.iastore, 1) := by decide +kernel
theorem dS_addLayer_60 : decode bS_addLayer 60 = .ok (.aload_n 0, 1) := by decide +kernel
theorem dS_addLayer_61 : decode bS_addLayer 61 = .ok (.getfield 34, 3) := by decide +kernel
theorem dS_addLayer_64 : decode bS_addLayer 64 = .ok (.ifCond .le 29, 3) := by decide +kernel
theorem dS_addLayer_67 : decode bS_addLayer 67 = .ok (.aload_n 0, 1) := by decide +kernel
theorem dS_addLayer_68 : decode bS_addLayer 68 = .ok (.getfield 15, 3) := by decide +kernel
theorem dS_addLayer_71 : decode bS_addLayer 71 = .ok (.aload_n 0, 1) := by decide +kernel
theorem dS_addLayer_72 : decode bS_addLayer 72 = .ok (.getfield 34, 3) := by decide +kernel
theorem dS_addLayer_75 : decode bS_addLayer 75 = .ok (.iconst 1, 1) := by decide +kernel
theorem dS_addLayer_76 : decode bS_addLayer 76 = .ok (.isub, 1) := by decide +kernel
theorem dS_addLayer_77 : decode bS_addLayer 77 = .ok (.aload_n 0, 1) := by decide +kernel
theorem dS_addLayer_78 : decode bS_addLayer 78 = .ok (.getfield 9, 3) := by decide +kernel
theorem dS_addLayer_81 : decode bS_addLayer 81 = .ok (.aload_n 0, 1) := by decide +kernel
theorem dS_addLayer_82 : decode bS_addLayer 82 = .ok (.getfield 34, 3) := by decide +kernel
theorem dS_addLayer_85 : decode bS_addLayer 85 = .ok (.iconst 1, 1) := by decide +kernel
theorem dS_addLayer_86 : decode bS_addLayer 86 = .ok (.isub, 1) := by decide +kernel
theorem dS_addLayer_87 : decode bS_addLayer 87 = .ok (.iaload, 1) := by decide +kernel
theorem dS_addLayer_88 : decode bS_addLayer 88 = .ok (.iload_n 2, 1) := by decide +kernel
theorem dS_addLayer_89 : decode bS_addLayer 89 = .ok (.invokestatic 38, 3) := by decide +kernel
theorem dS_addLayer_92 : decode bS_addLayer 92 = .ok (.iastore, 1) := by decide +kernel
theorem dS_addLayer_93 : decode bS_addLayer 93 = .ok (.aload_n 0, 1) := by decide +kernel
theorem dS_addLayer_94 : decode bS_addLayer 94 = .ok (.dup, 1) := by decide +kernel
theorem dS_addLayer_95 : decode bS_addLayer 95 = .ok (.getfield 34, 3) := by decide +kernel
theorem dS_addLayer_98 : decode bS_addLayer 98 = .ok (.iconst 1, 1) := by decide +kernel
theorem dS_addLayer_99 : decode bS_addLayer 99 = .ok (.iadd, 1) := by decide +kernel
theorem dS_addLayer_100 : decode bS_addLayer 100 = .ok (.putfield 34, 3) := by decide +kernel
theorem dS_addLayer_103 : decode bS_addLayer 103 = .ok (.iinc 6 1, 3) := by decide +kernel
theorem dS_addLayer_106 : decode bS_addLayer 106 = .ok (.goto (-103), 3) := by decide +kernel
theorem dS_addLayer_109 : decode bS_addLayer 109 = .ok (.aload_n 0, 1) := by decide +kernel
theorem dS_addLayer_110 : decode bS_addLayer 110 = .ok (.dup, 1) := by decide +kernel
theorem dS_addLayer_111 : decode bS_addLayer 111 = .ok (.getfield 44, 3) := by decide +kernel
theorem dS_addLayer_114 : decode bS_addLayer 114 = .ok (.iconst 1, 1) := by decide +kernel
theorem dS_addLayer_115 : decode bS_addLayer 115 = .ok (.iadd, 1) := by decide +kernel
theorem dS_addLayer_116 : decode bS_addLayer 116 = .ok (.putfield 44, 3) := by decide +kernel
theorem dS_addLayer_119 : decode bS_addLayer 119 = .ok (.aload_n 0, 1) := by decide +kernel
theorem dS_addLayer_120 : decode bS_addLayer 120 = .ok (.getfield 27, 3) := by decide +kernel
theorem dS_addLayer_123 : decode bS_addLayer 123 = .ok (.aload_n 0, 1) := by decide +kernel
theorem dS_addLayer_124 : decode bS_addLayer 124 = .ok (.getfield 44, 3) := by decide +kernel
theorem dS_addLayer_127 : decode bS_addLayer 127 = .ok (.aload_n 0, 1) := by decide +kernel
theorem dS_addLayer_128 : decode bS_addLayer 128 = .ok (.getfield 34, 3) := by decide +kernel
theorem dS_addLayer_131 : decode bS_addLayer 131 = .ok (.iastore, 1) := by decide +kernel
theorem dS_addLayer_132 : decode bS_addLayer 132 = .ok (.aload_n 0, 1) := by decide +kernel
theorem dS_addLayer_133 : decode bS_addLayer 133 = .ok (.getfield 44, 3) := by decide +kernel
theorem dS_addLayer_136 : decode bS_addLayer 136 = .ok (.iconst 1, 1) := by decide +kernel
theorem dS_addLayer_137 : decode bS_addLayer 137 = .ok (.isub, 1) := by decide +kernel
theorem dS_addLayer_138 : decode bS_addLayer 138 = .ok (.ireturn, 1) := by decide +kernel
theorem dX_drains_0 : decode bX_drains 0 = .ok (.iload_n 3, 1) := by decide +kernel
theorem dX_drains_1 : decode bX_drains 1 = .ok (.iconst 0, 1) := by decide +kernel
theorem dX_drains_2 : decode bX_drains 2 = .ok (.sipush 200, 3) := by decide +kernel
theorem dX_drains_5 : decode bX_drains 5 = .ok (.invokestatic 53, 3) := by decide +kernel
theorem dX_drains_8 : decode bX_drains 8 = .ok (.ifCond .ne 5, 3) := by decide +kernel
theorem dX_drains_11 : decode bX_drains 11 = .ok (.iconst 0, 1) := by decide +kernel
theorem dX_drains_12 : decode bX_drains 12 = .ok (.ireturn, 1) := by decide +kernel
theorem dX_drains_13 : decode bX_drains 13 = .ok (.aload_n 0, 1) := by decide +kernel
theorem dX_drains_14 : decode bX_drains 14 = .ok (.getfield 10, 3) := by decide +kernel
theorem dX_drains_17 : decode bX_drains 17 = .ok (.iload_n 1, 1) := by decide +kernel
theorem dX_drains_18 : decode bX_drains 18 = .ok (.putfield 69, 3) := by decide +kernel
theorem dX_drains_21 : decode bX_drains 21 = .ok (.aload_n 0, 1) := by decide +kernel
theorem dX_drains_22 : decode bX_drains 22 = .ok (.getfield 10, 3) := by decide +kernel
theorem dX_drains_25 : decode bX_drains 25 = .ok (.iload_n 2, 1) := by decide +kernel
theorem dX_drains_26 : decode bX_drains 26 = .ok (.putfield 73, 3) := by decide +kernel
theorem dX_drains_29 : decode bX_drains 29 = .ok (.aload_n 0, 1) := by decide +kernel
theorem dX_drains_30 : decode bX_drains 30 = .ok (.getfield 10, 3) := by decide +kernel
theorem dX_drains_33 : decode bX_drains 33 = .ok (.iload_n 3, 1) := by decide +kernel
theorem dX_drains_34 : decode bX_drains 34 = .ok (.putfield 76, 3) := by decide +kernel
theorem dX_drains_37 : decode bX_drains 37 = .ok (.iconst 1, 1) := by decide +kernel
theorem dX_drains_38 : decode bX_drains 38 = .ok (.ireturn, 1) := by decide +kernel
theorem dX_load_0 : decode bX_load 0 = .ok (.iload_n 1, 1) := by decide +kernel
theorem dX_load_1 : decode bX_load 1 = .ok (.aload_n 0, 1) := by decide +kernel
theorem dX_load_2 : decode bX_load 2 = .ok (.getfield 35, 3) := by decide +kernel
theorem dX_load_5 : decode bX_load 5 = .ok (.getfield 46, 3) := by decide +kernel
theorem dX_load_8 : decode bX_load 8 = .ok (.sipush 399, 3) := by decide +kernel
theorem dX_load_11 : decode bX_load 11 = .ok (.invokestatic 53, 3) := by decide +kernel
theorem dX_load_14 : decode bX_load 14 = .ok (.ifCond .eq 13, 3) := by decide +kernel
theorem dX_load_17 : decode bX_load 17 = .ok (.iload_n 2, 1) := by decide +kernel
theorem dX_load_18 : decode bX_load 18 = .ok (.iconst 1, 1) := by decide +kernel
theorem dX_load_19 : decode bX_load 19 = .ok (.ldc 79, 2) := by decide +kernel
theorem dX_load_21 : decode bX_load 21 = .ok (.invokestatic 53, 3) := by decide +kernel
theorem dX_load_24 : decode bX_load 24 = .ok (.ifCond .ne 5, 3) := by decide +kernel
theorem dX_load_27 : decode bX_load 27 = .ok (.iconst (-1), 1) := by decide +kernel
theorem dX_load_28 : decode bX_load 28 = .ok (.ireturn, 1) := by decide +kernel
theorem dX_load_29 : decode bX_load 29 = .ok (.aload_n 0, 1) := by decide +kernel
theorem dX_load_30 : decode bX_load 30 = .ok (.getfield 19, 3) := by decide +kernel
theorem dX_load_33 : decode bX_load 33 = .ok (.getfield 50, 3) := by decide +kernel
theorem dX_load_36 : decode bX_load 36 = .ok (.bipush 12, 2) := by decide +kernel
theorem dX_load_38 : decode bX_load 38 = .ok (.if_icmp .lt 5, 3) := by decide +kernel
theorem dX_load_41 : decode bX_load 41 = .ok (.iconst (-1), 1) := by decide +kernel
theorem dX_load_42 : decode bX_load 42 = .ok (.ireturn, 1) := by decide +kernel
theorem dX_load_43 : decode bX_load 43 = .ok (.aload_n 0, 1) := by decide +kernel
theorem dX_load_44 : decode bX_load 44 = .ok (.getfield 19, 3) := by decide +kernel
theorem dX_load_47 : decode bX_load 47 = .ok (.iload_n 1, 1) := by decide +kernel
theorem dX_load_48 : decode bX_load 48 = .ok (.iload_n 2, 1) := by decide +kernel
theorem dX_load_49 : decode bX_load 49 = .ok (.invokevirtual 80, 3) := by decide +kernel
theorem dX_load_52 : decode bX_load 52 = .ok (.ireturn, 1) := by decide +kernel
theorem dO_add_0 : decode bO_add 0 = .ok (.aload_n 0, 1) := by decide +kernel
theorem dO_add_1 : decode bO_add 1 = .ok (.getfield 9, 3) := by decide +kernel
theorem dO_add_4 : decode bO_add 4 = .ok (.aload_n 0, 1) := by decide +kernel
theorem dO_add_5 : decode bO_add 5 = .ok (.getfield 18, 3) := by decide +kernel
theorem dO_add_8 : decode bO_add 8 = .ok (.iload_n 1, 1) := by decide +kernel
theorem dO_add_9 : decode bO_add 9 = .ok (.iastore, 1) := by decide +kernel
theorem dO_add_10 : decode bO_add 10 = .ok (.aload_n 0, 1) := by decide +kernel
theorem dO_add_11 : decode bO_add 11 = .ok (.getfield 15, 3) := by decide +kernel
theorem dO_add_14 : decode bO_add 14 = .ok (.aload_n 0, 1) := by decide +kernel
theorem dO_add_15 : decode bO_add 15 = .ok (.getfield 18, 3) := by decide +kernel
theorem dO_add_18 : decode bO_add 18 = .ok (.iload_n 2, 1) := by decide +kernel
theorem dO_add_19 : decode bO_add 19 = .ok (.iastore, 1) := by decide +kernel
theorem dO_add_20 : decode bO_add 20 = .ok (.aload_n 0, 1) := by decide +kernel
theorem dO_add_21 : decode bO_add 21 = .ok (.dup, 1) := by decide +kernel
theorem dO_add_22 : decode bO_add 22 = .ok (.getfield 22, 3) := by decide +kernel
theorem dO_add_25 : decode bO_add 25 = .ok (.iload_n 2, 1) := by decide +kernel
theorem dO_add_26 : decode bO_add 26 = .ok (.i2l, 1) := by decide +kernel
theorem dO_add_27 : decode bO_add 27 = .ok (.ladd, 1) := by decide +kernel
theorem dO_add_28 : decode bO_add 28 = .ok (.putfield 22, 3) := by decide +kernel
theorem dO_add_31 : decode bO_add 31 = .ok (.aload_n 0, 1) := by decide +kernel
theorem dO_add_32 : decode bO_add 32 = .ok (.dup, 1) := by decide +kernel
theorem dO_add_33 : decode bO_add 33 = .ok (.getfield 18, 3) := by decide +kernel
theorem dO_add_36 : decode bO_add 36 = .ok (.iconst 1, 1) := by decide +kernel
theorem dO_add_37 : decode bO_add 37 = .ok (.iadd, 1) := by decide +kernel
theorem dO_add_38 : decode bO_add 38 = .ok (.putfield 18, 3) := by decide +kernel
theorem dO_add_41 : decode bO_add 41 = .ok (.aload_n 0, 1) := by decide +kernel
theorem dO_add_42 : decode bO_add 42 = .ok (.getfield 18, 3) := by decide +kernel
theorem dO_add_45 : decode bO_add 45 = .ok (.ireturn, 1) := by decide +kernel
theorem dX_run_0 : decode bX_run 0 = .ok (.aload_n 0, 1) := by decide +kernel
theorem dX_run_1 : decode bX_run 1 = .ok (.getfield 10, 3) := by decide +kernel
theorem dX_run_4 : decode bX_run 4 = .ok (.getfield 57, 3) := by decide +kernel
theorem dX_run_7 : decode bX_run 7 = .ok (.ifCond .eq 28, 3) := by decide +kernel
theorem dX_run_10 : decode bX_run 10 = .ok (.iload_n 1, 1) := by decide +kernel
theorem dX_run_11 : decode bX_run 11 = .ok (.iconst 1, 1) := by decide +kernel
theorem dX_run_12 : decode bX_run 12 = .ok (.bipush 60, 2) := by decide +kernel
theorem dX_run_14 : decode bX_run 14 = .ok (.invokestatic 53, 3) := by decide +kernel
theorem dX_run_17 : decode bX_run 17 = .ok (.ifCond .eq 18, 3) := by decide +kernel
theorem dX_run_20 : decode bX_run 20 = .ok (.iload_n 1, 1) := by decide +kernel
theorem dX_run_21 : decode bX_run 21 = .ok (.sipush 400, 3) := by decide +kernel
theorem dX_run_24 : decode bX_run 24 = .ok (.aload_n 0, 1) := by decide +kernel
theorem dX_run_25 : decode bX_run 25 = .ok (.getfield 35, 3) := by decide +kernel
theorem dX_run_28 : decode bX_run 28 = .ok (.getfield 46, 3) := by decide +kernel
theorem dX_run_31 : decode bX_run 31 = .ok (.isub, 1) := by decide +kernel
theorem dX_run_32 : decode bX_run 32 = .ok (.if_icmp .le 5, 3) := by decide +kernel
theorem dX_run_35 : decode bX_run 35 = .ok (.iconst (-1), 1) := by decide +kernel
theorem dX_run_36 : decode bX_run 36 = .ok (.ireturn, 1) := by decide +kernel
theorem dX_run_37 : decode bX_run 37 = .ok (.iconst 0, 1) := by decide +kernel
theorem dX_run_38 : decode bX_run 38 = .ok (.istore_n 2, 1) := by decide +kernel
theorem dX_run_39 : decode bX_run 39 = .ok (.iload_n 2, 1) := by decide +kernel
theorem dX_run_40 : decode bX_run 40 = .ok (.iload_n 1, 1) := by decide +kernel
theorem dX_run_41 : decode bX_run 41 = .ok (.if_icmp .ge 39, 3) := by decide +kernel
theorem dX_run_44 : decode bX_run 44 = .ok (.aload_n 0, 1) := by decide +kernel
theorem dX_run_45 : decode bX_run 45 = .ok (.getfield 35, 3) := by decide +kernel
theorem dX_run_48 : decode bX_run 48 = .ok (.invokevirtual 84, 3) := by decide +kernel
theorem dX_run_51 : decode bX_run 51 = .ok (.aload_n 0, 1) := by decide +kernel
theorem dX_run_52 : decode bX_run 52 = .ok (.getfield 42, 3) := by decide +kernel
theorem dX_run_55 : decode bX_run 55 = .ok (.aload_n 0, 1) := by decide +kernel
theorem dX_run_56 : decode bX_run 56 = .ok (.getfield 35, 3) := by decide +kernel
theorem dX_run_59 : decode bX_run 59 = .ok (.getfield 46, 3) := by decide +kernel
theorem dX_run_62 : decode bX_run 62 = .ok (.aload_n 0, 1) := by decide +kernel
theorem dX_run_63 : decode bX_run 63 = .ok (.getfield 35, 3) := by decide +kernel
theorem dX_run_66 : decode bX_run 66 = .ok (.invokevirtual 87, 3) := by decide +kernel
theorem dX_run_69 : decode bX_run 69 = .ok (.ldc2_w 91, 3) := by decide +kernel
theorem dX_run_72 : decode bX_run 72 = .ok (.ldiv, 1) := by decide +kernel
theorem dX_run_73 : decode bX_run 73 = .ok (.lastore, 1) := by decide +kernel
theorem dX_run_74 : decode bX_run 74 = .ok (.iinc 2 1, 3) := by decide +kernel
theorem dX_run_77 : decode bX_run 77 = .ok (.goto (-38), 3) := by decide +kernel
theorem dX_run_80 : decode bX_run 80 = .ok (.aload_n 0, 1) := by decide +kernel
theorem dX_run_81 : decode bX_run 81 = .ok (.getfield 35, 3) := by decide +kernel
theorem dX_run_84 : decode bX_run 84 = .ok (.getfield 46, 3) := by decide +kernel
theorem dX_run_87 : decode bX_run 87 = .ok (.ireturn, 1) := by decide +kernel
theorem dG_passDay_0 : decode bG_passDay 0 = .ok (.aload_n 0, 1) := by decide +kernel
theorem dG_passDay_1 : decode bG_passDay 1 = .ok (.aload_n 0, 1) := by decide +kernel
theorem dG_passDay_2 : decode bG_passDay 2 = .ok (.getfield 22, 3) := by decide +kernel
theorem dG_passDay_5 : decode bG_passDay 5 = .ok (.aload_n 0, 1) := by decide +kernel
theorem dG_passDay_6 : decode bG_passDay 6 = .ok (.getfield 26, 3) := by decide +kernel
theorem dG_passDay_9 : decode bG_passDay 9 = .ok (.invokevirtual 42, 3) := by decide +kernel
theorem dG_passDay_12 : decode bG_passDay 12 = .ok (.invokevirtual 48, 3) := by decide +kernel
theorem dG_passDay_15 : decode bG_passDay 15 = .ok (.iconst 1, 1) := by decide +kernel
theorem dG_passDay_16 : decode bG_passDay 16 = .ok (.istore_n 1, 1) := by decide +kernel
theorem dG_passDay_17 : decode bG_passDay 17 = .ok (.iconst 0, 1) := by decide +kernel
theorem dG_passDay_18 : decode bG_passDay 18 = .ok (.istore_n 2, 1) := by decide +kernel
theorem dG_passDay_19 : decode bG_passDay 19 = .ok (.iload_n 2, 1) := by decide +kernel
theorem dG_passDay_20 : decode bG_passDay 20 = .ok (.bipush 24, 2) := by decide +kernel
theorem dG_passDay_22 : decode bG_passDay 22 = .ok (.if_icmp .ge 22, 3) := by decide +kernel
theorem dG_passDay_25 : decode bG_passDay 25 = .ok (.iload_n 1, 1) := by decide +kernel
theorem dG_passDay_26 : decode bG_passDay 26 = .ok (.ifCond .eq 18, 3) := by decide +kernel
theorem dG_passDay_29 : decode bG_passDay 29 = .ok (.aload_n 0, 1) := by decide +kernel
theorem dG_passDay_30 : decode bG_passDay 30 = .ok (.invokevirtual 52, 3) := by decide +kernel
theorem dG_passDay_33 : decode bG_passDay 33 = .ok (.istore_n 1, 1) := by decide +kernel
theorem dG_passDay_34 : decode bG_passDay 34 = .ok (.aload_n 0, 1) := by decide +kernel
theorem dG_passDay_35 : decode bG_passDay 35 = .ok (.invokevirtual 56, 3) := by decide +kernel
theorem dG_passDay_38 : decode bG_passDay 38 = .ok (.iinc 2 1, 3) := by decide +kernel
theorem dG_passDay_41 : decode bG_passDay 41 = .ok (.goto (-22), 3) := by decide +kernel
theorem dG_passDay_44 : decode bG_passDay 44 = .ok (.aload_n 0, 1) := by decide +kernel
theorem dG_passDay_45 : decode bG_passDay 45 = .ok (.dup, 1) := by decide +kernel
theorem dG_passDay_46 : decode bG_passDay 46 = .ok (.getfield 26, 3) := by decide +kernel
theorem dG_passDay_49 : decode bG_passDay 49 = .ok (.iconst 1, 1) := by decide +kernel
theorem dG_passDay_50 : decode bG_passDay 50 = .ok (.iadd, 1) := by decide +kernel
theorem dG_passDay_51 : decode bG_passDay 51 = .ok (.putfield 26, 3) := by decide +kernel
theorem dG_passDay_54 : decode bG_passDay 54 = .ok (.return_, 1) := by decide +kernel
theorem dO_comingOn_0 : decode bO_comingOn 0 = .ok (.lconst 0, 1) := by decide +kernel
theorem dO_comingOn_1 : decode bO_comingOn 1 = .ok (.lstore_n 2, 1) := by decide +kernel
theorem dO_comingOn_2 : decode bO_comingOn 2 = .ok (.iconst 0, 1) := by decide +kernel
theorem dO_comingOn_3 : decode bO_comingOn 3 = .ok (.istore 4, 2) := by decide +kernel
theorem dO_comingOn_5 : decode bO_comingOn 5 = .ok (.iload 4, 2) := by decide +kernel
theorem dO_comingOn_7 : decode bO_comingOn 7 = .ok (.aload_n 0, 1) := by decide +kernel
theorem dO_comingOn_8 : decode bO_comingOn 8 = .ok (.getfield 18, 3) := by decide +kernel
theorem dO_comingOn_11 : decode bO_comingOn 11 = .ok (.if_icmp .ge 31, 3) := by decide +kernel
theorem dO_comingOn_14 : decode bO_comingOn 14 = .ok (.aload_n 0, 1) := by decide +kernel
theorem dO_comingOn_15 : decode bO_comingOn 15 = .ok (.getfield 9, 3) := by decide +kernel
theorem dO_comingOn_18 : decode bO_comingOn 18 = .ok (.iload 4, 2) := by decide +kernel
theorem dO_comingOn_20 : decode bO_comingOn 20 = .ok (.iaload, 1) := by decide +kernel
theorem dO_comingOn_21 : decode bO_comingOn 21 = .ok (.iload_n 1, 1) := by decide +kernel
theorem dO_comingOn_22 : decode bO_comingOn 22 = .ok (.if_icmp .ne 14, 3) := by decide +kernel
theorem dO_comingOn_25 : decode bO_comingOn 25 = .ok (.lload_n 2, 1) := by decide +kernel
theorem dO_comingOn_26 : decode bO_comingOn 26 = .ok (.aload_n 0, 1) := by decide +kernel
theorem dO_comingOn_27 : decode bO_comingOn 27 = .ok (.getfield 15, 3) := by decide +kernel
theorem dO_comingOn_30 : decode bO_comingOn 30 = .ok (.iload 4, 2) := by decide +kernel
theorem dO_comingOn_32 : decode bO_comingOn 32 = .ok (.iaload, 1) := by decide +kernel
theorem dO_comingOn_33 : decode bO_comingOn 33 = .ok (.i2l, 1) := by decide +kernel
theorem dO_comingOn_34 : decode bO_comingOn 34 = .ok (.ladd, 1) := by decide +kernel
theorem dO_comingOn_35 : decode bO_comingOn 35 = .ok (.lstore_n 2, 1) := by decide +kernel
theorem dO_comingOn_36 : decode bO_comingOn 36 = .ok (.iinc 4 1, 3) := by decide +kernel
theorem dO_comingOn_39 : decode bO_comingOn 39 = .ok (.goto (-34), 3) := by decide +kernel
theorem dO_comingOn_42 : decode bO_comingOn 42 = .ok (.lload_n 2, 1) := by decide +kernel
theorem dO_comingOn_43 : decode bO_comingOn 43 = .ok (.lreturn, 1) := by decide +kernel
theorem dG_lay_0 : decode bG_lay 0 = .ok (.iconst 0, 1) := by decide +kernel
theorem dG_lay_1 : decode bG_lay 1 = .ok (.istore_n 3, 1) := by decide +kernel
theorem dG_lay_2 : decode bG_lay 2 = .ok (.iload_n 3, 1) := by decide +kernel
theorem dG_lay_3 : decode bG_lay 3 = .ok (.aload_n 0, 1) := by decide +kernel
theorem dG_lay_4 : decode bG_lay 4 = .ok (.getfield 18, 3) := by decide +kernel
theorem dG_lay_7 : decode bG_lay 7 = .ok (.getfield 37, 3) := by decide +kernel
theorem dG_lay_10 : decode bG_lay 10 = .ok (.if_icmp .ge 19, 3) := by decide +kernel
theorem dG_lay_13 : decode bG_lay 13 = .ok (.aload_n 0, 1) := by decide +kernel
theorem dG_lay_14 : decode bG_lay 14 = .ok (.getfield 9, 3) := by decide +kernel
theorem dG_lay_17 : decode bG_lay 17 = .ok (.iload_n 3, 1) := by decide +kernel
theorem dG_lay_18 : decode bG_lay 18 = .ok (.dup2, 1) := by decide +kernel
theorem dG_lay_19 : decode bG_lay 19 = .ok (.laload, 1) := by decide +kernel
theorem dG_lay_20 : decode bG_lay 20 = .ok (.lload_n 1, 1) := by decide +kernel
theorem dG_lay_21 : decode bG_lay 21 = .ok (.ladd, 1) := by decide +kernel
theorem dG_lay_22 : decode bG_lay 22 = .ok (.lastore, 1) := by decide +kernel
theorem dG_lay_23 : decode bG_lay 23 = .ok (.iinc 3 1, 3) := by decide +kernel
theorem dG_lay_26 : decode bG_lay 26 = .ok (.goto (-24), 3) := by decide +kernel
theorem dG_lay_29 : decode bG_lay 29 = .ok (.aload_n 0, 1) := by decide +kernel
theorem dG_lay_30 : decode bG_lay 30 = .ok (.dup, 1) := by decide +kernel
theorem dG_lay_31 : decode bG_lay 31 = .ok (.getfield 30, 3) := by decide +kernel
theorem dG_lay_34 : decode bG_lay 34 = .ok (.lload_n 1, 1) := by decide +kernel
theorem dG_lay_35 : decode bG_lay 35 = .ok (.ladd, 1) := by decide +kernel
theorem dG_lay_36 : decode bG_lay 36 = .ok (.putfield 30, 3) := by decide +kernel
theorem dG_lay_39 : decode bG_lay 39 = .ok (.return_, 1) := by decide +kernel
theorem dG_moveWater_0 : decode bG_moveWater 0 = .ok (.iconst 0, 1) := by decide +kernel
theorem dG_moveWater_1 : decode bG_moveWater 1 = .ok (.istore_n 1, 1) := by decide +kernel
theorem dG_moveWater_2 : decode bG_moveWater 2 = .ok (.aload_n 0, 1) := by decide +kernel
theorem dG_moveWater_3 : decode bG_moveWater 3 = .ok (.invokevirtual 59, 3) := by decide +kernel
theorem dG_moveWater_6 : decode bG_moveWater 6 = .ok (.lneg, 1) := by decide +kernel
theorem dG_moveWater_7 : decode bG_moveWater 7 = .ok (.lstore_n 2, 1) := by decide +kernel
theorem dG_moveWater_8 : decode bG_moveWater 8 = .ok (.aload_n 0, 1) := by decide +kernel
theorem dG_moveWater_9 : decode bG_moveWater 9 = .ok (.dup, 1) := by decide +kernel
theorem dG_moveWater_10 : decode bG_moveWater 10 = .ok (.getfield 34, 3) := by decide +kernel
theorem dG_moveWater_13 : decode bG_moveWater 13 = .ok (.lload_n 2, 1) := by decide +kernel
theorem dG_moveWater_14 : decode bG_moveWater 14 = .ok (.lsub, 1) := by decide +kernel
theorem dG_moveWater_15 : decode bG_moveWater 15 = .ok (.putfield 34, 3) := by decide +kernel
theorem dG_moveWater_18 : decode bG_moveWater 18 = .ok (.iconst 0, 1) := by decide +kernel
theorem dG_moveWater_19 : decode bG_moveWater 19 = .ok (.istore 4, 2) := by decide +kernel
theorem dG_moveWater_21 : decode bG_moveWater 21 = .ok (.iload 4, 2) := by decide +kernel
theorem dG_moveWater_23 : decode bG_moveWater 23 = .ok (.aload_n 0, 1) := by decide +kernel
theorem dG_moveWater_24 : decode bG_moveWater 24 = .ok (.getfield 18, 3) := by decide +kernel
theorem dG_moveWater_27 : decode bG_moveWater 27 = .ok (.getfield 37, 3) := by decide +kernel
theorem dG_moveWater_30 : decode bG_moveWater 30 = .ok (.if_icmp .ge 100, 3) := by decide +kernel
theorem dG_moveWater_33 : decode bG_moveWater 33 = .ok (.aload_n 0, 1) := by decide +kernel
theorem dG_moveWater_34 : decode bG_moveWater 34 = .ok (.iload 4, 2) := by decide +kernel
theorem dG_moveWater_36 : decode bG_moveWater 36 = .ok (.invokevirtual 63, 3) := by decide +kernel
theorem dG_moveWater_39 : decode bG_moveWater 39 = .ok (.lstore 5, 2) := by decide +kernel
theorem dG_moveWater_41 : decode bG_moveWater 41 = .ok (.aload_n 0, 1) := by decide +kernel
theorem dG_moveWater_42 : decode bG_moveWater 42 = .ok (.getfield 9, 3) := by decide +kernel
theorem dG_moveWater_45 : decode bG_moveWater 45 = .ok (.iload 4, 2) := by decide +kernel
theorem dG_moveWater_47 : decode bG_moveWater 47 = .ok (.laload, 1) := by decide +kernel
theorem dG_moveWater_48 : decode bG_moveWater 48 = .ok (.aload_n 0, 1) := by decide +kernel
theorem dG_moveWater_49 : decode bG_moveWater 49 = .ok (.getfield 18, 3) := by decide +kernel
theorem dG_moveWater_52 : decode bG_moveWater 52 = .ok (.getfield 66, 3) := by decide +kernel
theorem dG_moveWater_55 : decode bG_moveWater 55 = .ok (.i2l, 1) := by decide +kernel
theorem dG_moveWater_56 : decode bG_moveWater 56 = .ok (.lmul, 1) := by decide +kernel
theorem dG_moveWater_57 : decode bG_moveWater 57 = .ok (.ldc2_w 69, 3) := by decide +kernel
theorem dG_moveWater_60 : decode bG_moveWater 60 = .ok (.ldiv, 1) := by decide +kernel
theorem dG_moveWater_61 : decode bG_moveWater 61 = .ok (.lstore 7, 2) := by decide +kernel
theorem dG_moveWater_63 : decode bG_moveWater 63 = .ok (.iload_n 1, 1) := by decide +kernel
theorem dG_moveWater_64 : decode bG_moveWater 64 = .ok (.ifCond .ne 23, 3) := by decide +kernel
theorem dG_moveWater_67 : decode bG_moveWater 67 = .ok (.lload_n 2, 1) := by decide +kernel
theorem dG_moveWater_68 : decode bG_moveWater 68 = .ok (.lconst 0, 1) := by decide +kernel
theorem dG_moveWater_69 : decode bG_moveWater 69 = .ok (.lcmp, 1) := by decide +kernel
theorem dG_moveWater_70 : decode bG_moveWater 70 = .ok (.ifCond .ne 17, 3) := by decide +kernel
theorem dG_moveWater_73 : decode bG_moveWater 73 = .ok (.lload 5, 2) := by decide +kernel
theorem dG_moveWater_75 : decode bG_moveWater 75 = .ok (.lconst 0, 1) := by decide +kernel
theorem dG_moveWater_76 : decode bG_moveWater 76 = .ok (.lcmp, 1) := by decide +kernel
theorem dG_moveWater_77 : decode bG_moveWater 77 = .ok (.ifCond .ne 10, 3) := by decide +kernel
theorem dG_moveWater_80 : decode bG_moveWater 80 = .ok (.lload 7, 2) := by decide +kernel
theorem dG_moveWater_82 : decode bG_moveWater 82 = .ok (.lconst 0, 1) := by decide +kernel
theorem dG_moveWater_83 : decode bG_moveWater 83 = .ok (.lcmp, 1) := by decide +kernel
theorem dG_moveWater_84 : decode bG_moveWater 84 = .ok (.ifCond .eq 7, 3) := by decide +kernel
theorem dG_moveWater_87 : decode bG_moveWater 87 = .ok (.iconst 1, 1) := by decide +kernel
theorem dG_moveWater_88 : decode bG_moveWater 88 = .ok (.goto 4, 3) := by decide +kernel
theorem dG_moveWater_91 : decode bG_moveWater 91 = .ok (.iconst 0, 1) := by decide +kernel
theorem dG_moveWater_92 : decode bG_moveWater 92 = .ok (.istore_n 1, 1) := by decide +kernel
theorem dG_moveWater_93 : decode bG_moveWater 93 = .ok (.aload_n 0, 1) := by decide +kernel
theorem dG_moveWater_94 : decode bG_moveWater 94 = .ok (.getfield 9, 3) := by decide +kernel
theorem dG_moveWater_97 : decode bG_moveWater 97 = .ok (.iload 4, 2) := by decide +kernel
theorem dG_moveWater_99 : decode bG_moveWater 99 = .ok (.dup2, 1) := by decide +kernel
theorem dG_moveWater_100 : decode bG_moveWater 100 = .ok (.laload, 1) := by decide +kernel
theorem dG_moveWater_101 : decode bG_moveWater 101 = .ok (.lload_n 2, 1) := by decide +kernel
theorem dG_moveWater_102 : decode bG_moveWater 102 = .ok (.lload 5, 2) := by decide +kernel
theorem dG_moveWater_104 : decode bG_moveWater 104 = .ok (.lsub, 1) := by decide +kernel
theorem dG_moveWater_105 : decode bG_moveWater 105 = .ok (.lload 7, 2) := by decide +kernel
theorem dG_moveWater_107 : decode bG_moveWater 107 = .ok (.lsub, 1) := by decide +kernel
theorem dG_moveWater_108 : decode bG_moveWater 108 = .ok (.ladd, 1) := by decide +kernel
theorem dG_moveWater_109 : decode bG_moveWater 109 = .ok (.lastore, 1) := by decide +kernel
theorem dG_moveWater_110 : decode bG_moveWater 110 = .ok (.aload_n 0, 1) := by decide +kernel
theorem dG_moveWater_111 : decode bG_moveWater 111 = .ok (.dup, 1) := by decide +kernel
theorem dG_moveWater_112 : decode bG_moveWater 112 = .ok (.getfield 34, 3) := by decide +kernel
theorem dG_moveWater_115 : decode bG_moveWater 115 = .ok (.lload 7, 2) := by decide +kernel
theorem dG_moveWater_117 : decode bG_moveWater 117 = .ok (.ladd, 1) := by decide +kernel
theorem dG_moveWater_118 : decode bG_moveWater 118 = .ok (.putfield 34, 3) := by decide +kernel
theorem dG_moveWater_121 : decode bG_moveWater 121 = .ok (.lload 5, 2) := by decide +kernel
theorem dG_moveWater_123 : decode bG_moveWater 123 = .ok (.lstore_n 2, 1) := by decide +kernel
theorem dG_moveWater_124 : decode bG_moveWater 124 = .ok (.iinc 4 1, 3) := by decide +kernel
theorem dG_moveWater_127 : decode bG_moveWater 127 = .ok (.goto (-106), 3) := by decide +kernel
theorem dG_moveWater_130 : decode bG_moveWater 130 = .ok (.aload_n 0, 1) := by decide +kernel
theorem dG_moveWater_131 : decode bG_moveWater 131 = .ok (.dup, 1) := by decide +kernel
theorem dG_moveWater_132 : decode bG_moveWater 132 = .ok (.getfield 34, 3) := by decide +kernel
theorem dG_moveWater_135 : decode bG_moveWater 135 = .ok (.lload_n 2, 1) := by decide +kernel
theorem dG_moveWater_136 : decode bG_moveWater 136 = .ok (.ladd, 1) := by decide +kernel
theorem dG_moveWater_137 : decode bG_moveWater 137 = .ok (.putfield 34, 3) := by decide +kernel
theorem dG_moveWater_140 : decode bG_moveWater 140 = .ok (.iload_n 1, 1) := by decide +kernel
theorem dG_moveWater_141 : decode bG_moveWater 141 = .ok (.ireturn, 1) := by decide +kernel
theorem dG_leavingAbove_0 : decode bG_leavingAbove 0 = .ok (.aload_n 0, 1) := by decide +kernel
theorem dG_leavingAbove_1 : decode bG_leavingAbove 1 = .ok (.getfield 18, 3) := by decide +kernel
theorem dG_leavingAbove_4 : decode bG_leavingAbove 4 = .ok (.getfield 71, 3) := by decide +kernel
theorem dG_leavingAbove_7 : decode bG_leavingAbove 7 = .ok (.ifCond .eq 27, 3) := by decide +kernel
theorem dG_leavingAbove_10 : decode bG_leavingAbove 10 = .ok (.aload_n 0, 1) := by decide +kernel
theorem dG_leavingAbove_11 : decode bG_leavingAbove 11 = .ok (.getfield 9, 3) := by decide +kernel
theorem dG_leavingAbove_14 : decode bG_leavingAbove 14 = .ok (.iconst 0, 1) := by decide +kernel
theorem dG_leavingAbove_15 : decode bG_leavingAbove 15 = .ok (.laload, 1) := by decide +kernel
theorem dG_leavingAbove_16 : decode bG_leavingAbove 16 = .ok (.aload_n 0, 1) := by decide +kernel
theorem dG_leavingAbove_17 : decode bG_leavingAbove 17 = .ok (.getfield 18, 3) := by decide +kernel
theorem dG_leavingAbove_20 : decode bG_leavingAbove 20 = .ok (.getfield 75, 3) := by decide +kernel
theorem dG_leavingAbove_23 : decode bG_leavingAbove 23 = .ok (.iconst 0, 1) := by decide +kernel
theorem dG_leavingAbove_24 : decode bG_leavingAbove 24 = .ok (.iaload, 1) := by decide +kernel
theorem dG_leavingAbove_25 : decode bG_leavingAbove 25 = .ok (.i2l, 1) := by decide +kernel
theorem dG_leavingAbove_26 : decode bG_leavingAbove 26 = .ok (.lmul, 1) := by decide +kernel
theorem dG_leavingAbove_27 : decode bG_leavingAbove 27 = .ok (.ldc2_w 69, 3) := by decide +kernel
theorem dG_leavingAbove_30 : decode bG_leavingAbove 30 = .ok (.ldiv, 1) := by decide +kernel
theorem dG_leavingAbove_31 : decode bG_leavingAbove 31 = .ok (.goto 4, 3) := by decide +kernel
theorem dG_leavingAbove_34 : decode bG_leavingAbove 34 = .ok (.lconst 0, 1) := by decide +kernel
theorem dG_leavingAbove_35 : decode bG_leavingAbove 35 = .ok (.lreturn, 1) := by decide +kernel
theorem dG_goingBelow_0 : decode bG_goingBelow 0 = .ok (.iload_n 1, 1) := by decide +kernel
theorem dG_goingBelow_1 : decode bG_goingBelow 1 = .ok (.iconst 1, 1) := by decide +kernel
theorem dG_goingBelow_2 : decode bG_goingBelow 2 = .ok (.iadd, 1) := by decide +kernel
theorem dG_goingBelow_3 : decode bG_goingBelow 3 = .ok (.aload_n 0, 1) := by decide +kernel
theorem dG_goingBelow_4 : decode bG_goingBelow 4 = .ok (.getfield 18, 3) := by decide +kernel
theorem dG_goingBelow_7 : decode bG_goingBelow 7 = .ok (.getfield 37, 3) := by decide +kernel
theorem dG_goingBelow_10 : decode bG_goingBelow 10 = .ok (.if_icmp .ge 34, 3) := by decide +kernel
theorem dG_goingBelow_13 : decode bG_goingBelow 13 = .ok (.aload_n 0, 1) := by decide +kernel
theorem dG_goingBelow_14 : decode bG_goingBelow 14 = .ok (.getfield 9, 3) := by decide +kernel
theorem dG_goingBelow_17 : decode bG_goingBelow 17 = .ok (.iload_n 1, 1) := by decide +kernel
theorem dG_goingBelow_18 : decode bG_goingBelow 18 = .ok (.laload, 1) := by decide +kernel
theorem dG_goingBelow_19 : decode bG_goingBelow 19 = .ok (.aload_n 0, 1) := by decide +kernel
theorem dG_goingBelow_20 : decode bG_goingBelow 20 = .ok (.getfield 9, 3) := by decide +kernel
theorem dG_goingBelow_23 : decode bG_goingBelow 23 = .ok (.iload_n 1, 1) := by decide +kernel
theorem dG_goingBelow_24 : decode bG_goingBelow 24 = .ok (.iconst 1, 1) := by decide +kernel
theorem dG_goingBelow_25 : decode bG_goingBelow 25 = .ok (.iadd, 1) := by decide +kernel
theorem dG_goingBelow_26 : decode bG_goingBelow 26 = .ok (.laload, 1) := by decide +kernel
theorem dG_goingBelow_27 : decode bG_goingBelow 27 = .ok (.lsub, 1) := by decide +kernel
theorem dG_goingBelow_28 : decode bG_goingBelow 28 = .ok (.aload_n 0, 1) := by decide +kernel
theorem dG_goingBelow_29 : decode bG_goingBelow 29 = .ok (.getfield 18, 3) := by decide +kernel
theorem dG_goingBelow_32 : decode bG_goingBelow 32 = .ok (.getfield 79, 3) := by decide +kernel
theorem dG_goingBelow_35 : decode bG_goingBelow 35 = .ok (.iload_n 1, 1) := by decide +kernel
theorem dG_goingBelow_36 : decode bG_goingBelow 36 = .ok (.iaload, 1) := by decide +kernel
theorem dG_goingBelow_37 : decode bG_goingBelow 37 = .ok (.i2l, 1) := by decide +kernel
theorem dG_goingBelow_38 : decode bG_goingBelow 38 = .ok (.lmul, 1) := by decide +kernel
theorem dG_goingBelow_39 : decode bG_goingBelow 39 = .ok (.ldc2_w 69, 3) := by decide +kernel
theorem dG_goingBelow_42 : decode bG_goingBelow 42 = .ok (.ldiv, 1) := by decide +kernel
theorem dG_goingBelow_43 : decode bG_goingBelow 43 = .ok (.lreturn, 1) := by decide +kernel
theorem dG_goingBelow_44 : decode bG_goingBelow 44 = .ok (.aload_n 0, 1) := by decide +kernel
theorem dG_goingBelow_45 : decode bG_goingBelow 45 = .ok (.getfield 18, 3) := by decide +kernel
theorem dG_goingBelow_48 : decode bG_goingBelow 48 = .ok (.getfield 82, 3) := by decide +kernel
theorem dG_goingBelow_51 : decode bG_goingBelow 51 = .ok (.ifCond .eq 27, 3) := by decide +kernel
theorem dG_goingBelow_54 : decode bG_goingBelow 54 = .ok (.aload_n 0, 1) := by decide +kernel
theorem dG_goingBelow_55 : decode bG_goingBelow 55 = .ok (.getfield 9, 3) := by decide +kernel
theorem dG_goingBelow_58 : decode bG_goingBelow 58 = .ok (.iload_n 1, 1) := by decide +kernel
theorem dG_goingBelow_59 : decode bG_goingBelow 59 = .ok (.laload, 1) := by decide +kernel
theorem dG_goingBelow_60 : decode bG_goingBelow 60 = .ok (.aload_n 0, 1) := by decide +kernel
theorem dG_goingBelow_61 : decode bG_goingBelow 61 = .ok (.getfield 18, 3) := by decide +kernel
theorem dG_goingBelow_64 : decode bG_goingBelow 64 = .ok (.getfield 75, 3) := by decide +kernel
theorem dG_goingBelow_67 : decode bG_goingBelow 67 = .ok (.iload_n 1, 1) := by decide +kernel
theorem dG_goingBelow_68 : decode bG_goingBelow 68 = .ok (.iaload, 1) := by decide +kernel
theorem dG_goingBelow_69 : decode bG_goingBelow 69 = .ok (.i2l, 1) := by decide +kernel
theorem dG_goingBelow_70 : decode bG_goingBelow 70 = .ok (.lmul, 1) := by decide +kernel
theorem dG_goingBelow_71 : decode bG_goingBelow 71 = .ok (.ldc2_w 69, 3) := by decide +kernel
theorem dG_goingBelow_74 : decode bG_goingBelow 74 = .ok (.ldiv, 1) := by decide +kernel
theorem dG_goingBelow_75 : decode bG_goingBelow 75 = .ok (.goto 4, 3) := by decide +kernel
theorem dG_goingBelow_78 : decode bG_goingBelow 78 = .ok (.lconst 0, 1) := by decide +kernel
theorem dG_goingBelow_79 : decode bG_goingBelow 79 = .ok (.lreturn, 1) := by decide +kernel
theorem dG_raisePasts_0 : decode bG_raisePasts 0 = .ok (.iconst 0, 1) := by decide +kernel
theorem dG_raisePasts_1 : decode bG_raisePasts 1 = .ok (.istore_n 1, 1) := by decide +kernel
theorem dG_raisePasts_2 : decode bG_raisePasts 2 = .ok (.iload_n 1, 1) := by decide +kernel
theorem dG_raisePasts_3 : decode bG_raisePasts 3 = .ok (.aload_n 0, 1) := by decide +kernel
theorem dG_raisePasts_4 : decode bG_raisePasts 4 = .ok (.getfield 18, 3) := by decide +kernel
theorem dG_raisePasts_7 : decode bG_raisePasts 7 = .ok (.getfield 37, 3) := by decide +kernel
theorem dG_raisePasts_10 : decode bG_raisePasts 10 = .ok (.if_icmp .ge 29, 3) := by decide +kernel
theorem dG_raisePasts_13 : decode bG_raisePasts 13 = .ok (.aload_n 0, 1) := by decide +kernel
theorem dG_raisePasts_14 : decode bG_raisePasts 14 = .ok (.getfield 15, 3) := by decide +kernel
theorem dG_raisePasts_17 : decode bG_raisePasts 17 = .ok (.iload_n 1, 1) := by decide +kernel
theorem dG_raisePasts_18 : decode bG_raisePasts 18 = .ok (.aload_n 0, 1) := by decide +kernel
theorem dG_raisePasts_19 : decode bG_raisePasts 19 = .ok (.getfield 15, 3) := by decide +kernel
theorem dG_raisePasts_22 : decode bG_raisePasts 22 = .ok (.iload_n 1, 1) := by decide +kernel
theorem dG_raisePasts_23 : decode bG_raisePasts 23 = .ok (.laload, 1) := by decide +kernel
theorem dG_raisePasts_24 : decode bG_raisePasts 24 = .ok (.aload_n 0, 1) := by decide +kernel
theorem dG_raisePasts_25 : decode bG_raisePasts 25 = .ok (.iload_n 1, 1) := by decide +kernel
theorem dG_raisePasts_26 : decode bG_raisePasts 26 = .ok (.invokevirtual 85, 3) := by decide +kernel
theorem dG_raisePasts_29 : decode bG_raisePasts 29 = .ok (.invokestatic 88, 3) := by decide +kernel
theorem dG_raisePasts_32 : decode bG_raisePasts 32 = .ok (.lastore, 1) := by decide +kernel
theorem dG_raisePasts_33 : decode bG_raisePasts 33 = .ok (.iinc 1 1, 3) := by decide +kernel
theorem dG_raisePasts_36 : decode bG_raisePasts 36 = .ok (.goto (-34), 3) := by decide +kernel
theorem dG_raisePasts_39 : decode bG_raisePasts 39 = .ok (.return_, 1) := by decide +kernel
theorem dG_carried_0 : decode bG_carried 0 = .ok (.aload_n 0, 1) := by decide +kernel
theorem dG_carried_1 : decode bG_carried 1 = .ok (.getfield 30, 3) := by decide +kernel
theorem dG_carried_4 : decode bG_carried 4 = .ok (.aload_n 0, 1) := by decide +kernel
theorem dG_carried_5 : decode bG_carried 5 = .ok (.getfield 9, 3) := by decide +kernel
theorem dG_carried_8 : decode bG_carried 8 = .ok (.iload_n 1, 1) := by decide +kernel
theorem dG_carried_9 : decode bG_carried 9 = .ok (.laload, 1) := by decide +kernel
theorem dG_carried_10 : decode bG_carried 10 = .ok (.lsub, 1) := by decide +kernel
theorem dG_carried_11 : decode bG_carried 11 = .ok (.lreturn, 1) := by decide +kernel
theorem dG_unitsSunk_0 : decode bG_unitsSunk 0 = .ok (.aload_n 0, 1) := by decide +kernel
theorem dG_unitsSunk_1 : decode bG_unitsSunk 1 = .ok (.iconst 0, 1) := by decide +kernel
theorem dG_unitsSunk_2 : decode bG_unitsSunk 2 = .ok (.aload_n 0, 1) := by decide +kernel
theorem dG_unitsSunk_3 : decode bG_unitsSunk 3 = .ok (.getfield 18, 3) := by decide +kernel
theorem dG_unitsSunk_6 : decode bG_unitsSunk 6 = .ok (.getfield 37, 3) := by decide +kernel
theorem dG_unitsSunk_9 : decode bG_unitsSunk 9 = .ok (.invokevirtual 94, 3) := by decide +kernel
theorem dG_unitsSunk_12 : decode bG_unitsSunk 12 = .ok (.lreturn, 1) := by decide +kernel
theorem dG_unitsSunk2_0 : decode bG_unitsSunk2 0 = .ok (.lconst 0, 1) := by decide +kernel
theorem dG_unitsSunk2_1 : decode bG_unitsSunk2 1 = .ok (.lstore_n 3, 1) := by decide +kernel
theorem dG_unitsSunk2_2 : decode bG_unitsSunk2 2 = .ok (.iload_n 1, 1) := by decide +kernel
theorem dG_unitsSunk2_3 : decode bG_unitsSunk2 3 = .ok (.istore 5, 2) := by decide +kernel
theorem dG_unitsSunk2_5 : decode bG_unitsSunk2 5 = .ok (.iload 5, 2) := by decide +kernel
theorem dG_unitsSunk2_7 : decode bG_unitsSunk2 7 = .ok (.iload_n 2, 1) := by decide +kernel
theorem dG_unitsSunk2_8 : decode bG_unitsSunk2 8 = .ok (.if_icmp .ge 34, 3) := by decide +kernel
theorem dG_unitsSunk2_11 : decode bG_unitsSunk2 11 = .ok (.lload_n 3, 1) := by decide +kernel
theorem dG_unitsSunk2_12 : decode bG_unitsSunk2 12 = .ok (.aload_n 0, 1) := by decide +kernel
theorem dG_unitsSunk2_13 : decode bG_unitsSunk2 13 = .ok (.getfield 18, 3) := by decide +kernel
theorem dG_unitsSunk2_16 : decode bG_unitsSunk2 16 = .ok (.iload 5, 2) := by decide +kernel
theorem dG_unitsSunk2_18 : decode bG_unitsSunk2 18 = .ok (.aload_n 0, 1) := by decide +kernel
theorem dG_unitsSunk2_19 : decode bG_unitsSunk2 19 = .ok (.iload 5, 2) := by decide +kernel
theorem dG_unitsSunk2_21 : decode bG_unitsSunk2 21 = .ok (.invokevirtual 85, 3) := by decide +kernel
theorem dG_unitsSunk2_24 : decode bG_unitsSunk2 24 = .ok (.aload_n 0, 1) := by decide +kernel
theorem dG_unitsSunk2_25 : decode bG_unitsSunk2 25 = .ok (.getfield 15, 3) := by decide +kernel
theorem dG_unitsSunk2_28 : decode bG_unitsSunk2 28 = .ok (.iload 5, 2) := by decide +kernel
theorem dG_unitsSunk2_30 : decode bG_unitsSunk2 30 = .ok (.laload, 1) := by decide +kernel
theorem dG_unitsSunk2_31 : decode bG_unitsSunk2 31 = .ok (.invokevirtual 98, 3) := by decide +kernel
theorem dG_unitsSunk2_34 : decode bG_unitsSunk2 34 = .ok (.ladd, 1) := by decide +kernel
theorem dG_unitsSunk2_35 : decode bG_unitsSunk2 35 = .ok (.lstore_n 3, 1) := by decide +kernel
theorem dG_unitsSunk2_36 : decode bG_unitsSunk2 36 = .ok (.iinc 5 1, 3) := by decide +kernel
theorem dG_unitsSunk2_39 : decode bG_unitsSunk2 39 = .ok (.goto (-34), 3) := by decide +kernel
theorem dG_unitsSunk2_42 : decode bG_unitsSunk2 42 = .ok (.lload_n 3, 1) := by decide +kernel
theorem dG_unitsSunk2_43 : decode bG_unitsSunk2 43 = .ok (.lreturn, 1) := by decide +kernel
theorem dS_unitsSunk_0 : decode bS_unitsSunk 0 = .ok (.aload_n 0, 1) := by decide +kernel
theorem dS_unitsSunk_1 : decode bS_unitsSunk 1 = .ok (.getfield 18, 3) := by decide +kernel
theorem dS_unitsSunk_4 : decode bS_unitsSunk 4 = .ok (.iload_n 1, 1) := by decide +kernel
theorem dS_unitsSunk_5 : decode bS_unitsSunk 5 = .ok (.iaload, 1) := by decide +kernel
theorem dS_unitsSunk_6 : decode bS_unitsSunk 6 = .ok (.i2l, 1) := by decide +kernel
theorem dS_unitsSunk_7 : decode bS_unitsSunk 7 = .ok (.lload_n 2, 1) := by decide +kernel
theorem dS_unitsSunk_8 : decode bS_unitsSunk 8 = .ok (.lmul, 1) := by decide +kernel
theorem dS_unitsSunk_9 : decode bS_unitsSunk 9 = .ok (.aload_n 0, 1) := by decide +kernel
theorem dS_unitsSunk_10 : decode bS_unitsSunk 10 = .ok (.getfield 21, 3) := by decide +kernel
theorem dS_unitsSunk_13 : decode bS_unitsSunk 13 = .ok (.iload_n 1, 1) := by decide +kernel
theorem dS_unitsSunk_14 : decode bS_unitsSunk 14 = .ok (.iaload, 1) := by decide +kernel
theorem dS_unitsSunk_15 : decode bS_unitsSunk 15 = .ok (.aload_n 0, 1) := by decide +kernel
theorem dS_unitsSunk_16 : decode bS_unitsSunk 16 = .ok (.getfield 18, 3) := by decide +kernel
theorem dS_unitsSunk_19 : decode bS_unitsSunk 19 = .ok (.iload_n 1, 1) := by decide +kernel
theorem dS_unitsSunk_20 : decode bS_unitsSunk 20 = .ok (.iaload, 1) := by decide +kernel
theorem dS_unitsSunk_21 : decode bS_unitsSunk 21 = .ok (.isub, 1) := by decide +kernel
theorem dS_unitsSunk_22 : decode bS_unitsSunk 22 = .ok (.i2l, 1) := by decide +kernel
theorem dS_unitsSunk_23 : decode bS_unitsSunk 23 = .ok (.lload 4, 2) := by decide +kernel
theorem dS_unitsSunk_25 : decode bS_unitsSunk 25 = .ok (.aload_n 0, 1) := by decide +kernel
theorem dS_unitsSunk_26 : decode bS_unitsSunk 26 = .ok (.getfield 24, 3) := by decide +kernel
theorem dS_unitsSunk_29 : decode bS_unitsSunk 29 = .ok (.iload_n 1, 1) := by decide +kernel
theorem dS_unitsSunk_30 : decode bS_unitsSunk 30 = .ok (.iaload, 1) := by decide +kernel
theorem dS_unitsSunk_31 : decode bS_unitsSunk 31 = .ok (.i2l, 1) := by decide +kernel
theorem dS_unitsSunk_32 : decode bS_unitsSunk 32 = .ok (.lsub, 1) := by decide +kernel
theorem dS_unitsSunk_33 : decode bS_unitsSunk 33 = .ok (.lmul, 1) := by decide +kernel
theorem dS_unitsSunk_34 : decode bS_unitsSunk 34 = .ok (.ladd, 1) := by decide +kernel
theorem dS_unitsSunk_35 : decode bS_unitsSunk 35 = .ok (.lreturn, 1) := by decide +kernel
theorem dX_sunk_0 : decode bX_sunk 0 = .ok (.iload_n 1, 1) := by decide +kernel
theorem dX_sunk_1 : decode bX_sunk 1 = .ok (.iconst (-1), 1) := by decide +kernel
theorem dX_sunk_2 : decode bX_sunk 2 = .ok (.if_icmp .ne 15, 3) := by decide +kernel
theorem dX_sunk_5 : decode bX_sunk 5 = .ok (.aload_n 0, 1) := by decide +kernel
theorem dX_sunk_6 : decode bX_sunk 6 = .ok (.getfield 35, 3) := by decide +kernel
theorem dX_sunk_9 : decode bX_sunk 9 = .ok (.invokevirtual 87, 3) := by decide +kernel
theorem dX_sunk_12 : decode bX_sunk 12 = .ok (.ldc2_w 91, 3) := by decide +kernel
theorem dX_sunk_15 : decode bX_sunk 15 = .ok (.ldiv, 1) := by decide +kernel
theorem dX_sunk_16 : decode bX_sunk 16 = .ok (.lreturn, 1) := by decide +kernel
theorem dX_sunk_17 : decode bX_sunk 17 = .ok (.iload_n 1, 1) := by decide +kernel
theorem dX_sunk_18 : decode bX_sunk 18 = .ok (.iconst 0, 1) := by decide +kernel
theorem dX_sunk_19 : decode bX_sunk 19 = .ok (.aload_n 0, 1) := by decide +kernel
theorem dX_sunk_20 : decode bX_sunk 20 = .ok (.getfield 10, 3) := by decide +kernel
theorem dX_sunk_23 : decode bX_sunk 23 = .ok (.getfield 93, 3) := by decide +kernel
theorem dX_sunk_26 : decode bX_sunk 26 = .ok (.iconst 1, 1) := by decide +kernel
theorem dX_sunk_27 : decode bX_sunk 27 = .ok (.isub, 1) := by decide +kernel
theorem dX_sunk_28 : decode bX_sunk 28 = .ok (.invokestatic 53, 3) := by decide +kernel
theorem dX_sunk_31 : decode bX_sunk 31 = .ok (.ifCond .ne 7, 3) := by decide +kernel
theorem dX_sunk_34 : decode bX_sunk 34 = .ok (.ldc2_w 96, 3) := by decide +kernel
theorem dX_sunk_37 : decode bX_sunk 37 = .ok (.lreturn, 1) := by decide +kernel
theorem dX_sunk_38 : decode bX_sunk 38 = .ok (.aload_n 0, 1) := by decide +kernel
theorem dX_sunk_39 : decode bX_sunk 39 = .ok (.getfield 35, 3) := by decide +kernel
theorem dX_sunk_42 : decode bX_sunk 42 = .ok (.aload_n 0, 1) := by decide +kernel
theorem dX_sunk_43 : decode bX_sunk 43 = .ok (.getfield 10, 3) := by decide +kernel
theorem dX_sunk_46 : decode bX_sunk 46 = .ok (.getfield 98, 3) := by decide +kernel
theorem dX_sunk_49 : decode bX_sunk 49 = .ok (.iload_n 1, 1) := by decide +kernel
theorem dX_sunk_50 : decode bX_sunk 50 = .ok (.iaload, 1) := by decide +kernel
theorem dX_sunk_51 : decode bX_sunk 51 = .ok (.aload_n 0, 1) := by decide +kernel
theorem dX_sunk_52 : decode bX_sunk 52 = .ok (.getfield 10, 3) := by decide +kernel
theorem dX_sunk_55 : decode bX_sunk 55 = .ok (.getfield 98, 3) := by decide +kernel
theorem dX_sunk_58 : decode bX_sunk 58 = .ok (.iload_n 1, 1) := by decide +kernel
theorem dX_sunk_59 : decode bX_sunk 59 = .ok (.iconst 1, 1) := by decide +kernel
theorem dX_sunk_60 : decode bX_sunk 60 = .ok (.iadd, 1) := by decide +kernel
theorem dX_sunk_61 : decode bX_sunk 61 = .ok (.iaload, 1) := by decide +kernel
theorem dX_sunk_62 : decode bX_sunk 62 = .ok (.invokevirtual 102, 3) := by decide +kernel
theorem dX_sunk_65 : decode bX_sunk 65 = .ok (.ldc2_w 91, 3) := by decide +kernel
theorem dX_sunk_68 : decode bX_sunk 68 = .ok (.ldiv, 1) := by decide +kernel
theorem dX_sunk_69 : decode bX_sunk 69 = .ok (.lreturn, 1) := by decide +kernel
theorem dX_told_0 : decode bX_told 0 = .ok (.iload_n 1, 1) := by decide +kernel
theorem dX_told_1 : decode bX_told 1 = .ok (.iconst 0, 1) := by decide +kernel
theorem dX_told_2 : decode bX_told 2 = .ok (.aload_n 0, 1) := by decide +kernel
theorem dX_told_3 : decode bX_told 3 = .ok (.getfield 10, 3) := by decide +kernel
theorem dX_told_6 : decode bX_told 6 = .ok (.getfield 57, 3) := by decide +kernel
theorem dX_told_9 : decode bX_told 9 = .ok (.iconst 1, 1) := by decide +kernel
theorem dX_told_10 : decode bX_told 10 = .ok (.isub, 1) := by decide +kernel
theorem dX_told_11 : decode bX_told 11 = .ok (.invokestatic 53, 3) := by decide +kernel
theorem dX_told_14 : decode bX_told 14 = .ok (.ifCond .ne 5, 3) := by decide +kernel
theorem dX_told_17 : decode bX_told 17 = .ok (.iconst (-1), 1) := by decide +kernel
theorem dX_told_18 : decode bX_told 18 = .ok (.ireturn, 1) := by decide +kernel
theorem dX_told_19 : decode bX_told 19 = .ok (.iload_n 2, 1) := by decide +kernel
theorem dX_told_20 : decode bX_told 20 = .ok (.tableswitch 60 0 2 #[28, 39, 49], 28) := by decide +kernel
theorem dX_told_48 : decode bX_told 48 = .ok (.aload_n 0, 1) := by decide +kernel
theorem dX_told_49 : decode bX_told 49 = .ok (.getfield 35, 3) := by decide +kernel
theorem dX_told_52 : decode bX_told 52 = .ok (.getfield 105, 3) := by decide +kernel
theorem dX_told_55 : decode bX_told 55 = .ok (.iload_n 1, 1) := by decide +kernel
theorem dX_told_56 : decode bX_told 56 = .ok (.laload, 1) := by decide +kernel
theorem dX_told_57 : decode bX_told 57 = .ok (.l2i, 1) := by decide +kernel
theorem dX_told_58 : decode bX_told 58 = .ok (.ireturn, 1) := by decide +kernel
theorem dX_told_59 : decode bX_told 59 = .ok (.aload_n 0, 1) := by decide +kernel
theorem dX_told_60 : decode bX_told 60 = .ok (.getfield 35, 3) := by decide +kernel
theorem dX_told_63 : decode bX_told 63 = .ok (.iload_n 1, 1) := by decide +kernel
theorem dX_told_64 : decode bX_told 64 = .ok (.invokevirtual 108, 3) := by decide +kernel
theorem dX_told_67 : decode bX_told 67 = .ok (.l2i, 1) := by decide +kernel
theorem dX_told_68 : decode bX_told 68 = .ok (.ireturn, 1) := by decide +kernel
theorem dX_told_69 : decode bX_told 69 = .ok (.aload_n 0, 1) := by decide +kernel
theorem dX_told_70 : decode bX_told 70 = .ok (.getfield 35, 3) := by decide +kernel
theorem dX_told_73 : decode bX_told 73 = .ok (.getfield 112, 3) := by decide +kernel
theorem dX_told_76 : decode bX_told 76 = .ok (.iload_n 1, 1) := by decide +kernel
theorem dX_told_77 : decode bX_told 77 = .ok (.laload, 1) := by decide +kernel
theorem dX_told_78 : decode bX_told 78 = .ok (.l2i, 1) := by decide +kernel
theorem dX_told_79 : decode bX_told 79 = .ok (.ireturn, 1) := by decide +kernel
theorem dX_told_80 : decode bX_told 80 = .ok (.iconst (-1), 1) := by decide +kernel
theorem dX_told_81 : decode bX_told 81 = .ok (.ireturn, 1) := by decide +kernel
theorem dX_out_0 : decode bX_out 0 = .ok (.aload_n 0, 1) := by decide +kernel
theorem dX_out_1 : decode bX_out 1 = .ok (.getfield 35, 3) := by decide +kernel
theorem dX_out_4 : decode bX_out 4 = .ok (.getfield 115, 3) := by decide +kernel
theorem dX_out_7 : decode bX_out 7 = .ok (.lreturn, 1) := by decide +kernel
theorem dX_balance_0 : decode bX_balance 0 = .ok (.aload_n 0, 1) := by decide +kernel
theorem dX_balance_1 : decode bX_balance 1 = .ok (.getfield 35, 3) := by decide +kernel
theorem dX_balance_4 : decode bX_balance 4 = .ok (.getfield 119, 3) := by decide +kernel
theorem dX_balance_7 : decode bX_balance 7 = .ok (.aload_n 0, 1) := by decide +kernel
theorem dX_balance_8 : decode bX_balance 8 = .ok (.getfield 10, 3) := by decide +kernel
theorem dX_balance_11 : decode bX_balance 11 = .ok (.getfield 57, 3) := by decide +kernel
theorem dX_balance_14 : decode bX_balance 14 = .ok (.i2l, 1) := by decide +kernel
theorem dX_balance_15 : decode bX_balance 15 = .ok (.lmul, 1) := by decide +kernel
theorem dX_balance_16 : decode bX_balance 16 = .ok (.aload_n 0, 1) := by decide +kernel
theorem dX_balance_17 : decode bX_balance 17 = .ok (.getfield 35, 3) := by decide +kernel
theorem dX_balance_20 : decode bX_balance 20 = .ok (.invokevirtual 122, 3) := by decide +kernel
theorem dX_balance_23 : decode bX_balance 23 = .ok (.aload_n 0, 1) := by decide +kernel
theorem dX_balance_24 : decode bX_balance 24 = .ok (.getfield 35, 3) := by decide +kernel
theorem dX_balance_27 : decode bX_balance 27 = .ok (.getfield 115, 3) := by decide +kernel
theorem dX_balance_30 : decode bX_balance 30 = .ok (.ladd, 1) := by decide +kernel
theorem dX_balance_31 : decode bX_balance 31 = .ok (.lcmp, 1) := by decide +kernel
theorem dX_balance_32 : decode bX_balance 32 = .ok (.ifCond .ne 7, 3) := by decide +kernel
theorem dX_balance_35 : decode bX_balance 35 = .ok (.iconst 1, 1) := by decide +kernel
theorem dX_balance_36 : decode bX_balance 36 = .ok (.goto 4, 3) := by decide +kernel
theorem dX_balance_39 : decode bX_balance 39 = .ok (.iconst 0, 1) := by decide +kernel
theorem dX_balance_40 : decode bX_balance 40 = .ok (.ireturn, 1) := by decide +kernel
theorem dG_allPressures_0 : decode bG_allPressures 0 = .ok (.lconst 0, 1) := by decide +kernel
theorem dG_allPressures_1 : decode bG_allPressures 1 = .ok (.lstore_n 1, 1) := by decide +kernel
theorem dG_allPressures_2 : decode bG_allPressures 2 = .ok (.iconst 0, 1) := by decide +kernel
theorem dG_allPressures_3 : decode bG_allPressures 3 = .ok (.istore_n 3, 1) := by decide +kernel
theorem dG_allPressures_4 : decode bG_allPressures 4 = .ok (.iload_n 3, 1) := by decide +kernel
theorem dG_allPressures_5 : decode bG_allPressures 5 = .ok (.aload_n 0, 1) := by decide +kernel
theorem dG_allPressures_6 : decode bG_allPressures 6 = .ok (.getfield 18, 3) := by decide +kernel
theorem dG_allPressures_9 : decode bG_allPressures 9 = .ok (.getfield 37, 3) := by decide +kernel
theorem dG_allPressures_12 : decode bG_allPressures 12 = .ok (.if_icmp .ge 18, 3) := by decide +kernel
theorem dG_allPressures_15 : decode bG_allPressures 15 = .ok (.lload_n 1, 1) := by decide +kernel
theorem dG_allPressures_16 : decode bG_allPressures 16 = .ok (.aload_n 0, 1) := by decide +kernel
theorem dG_allPressures_17 : decode bG_allPressures 17 = .ok (.getfield 9, 3) := by decide +kernel
theorem dG_allPressures_20 : decode bG_allPressures 20 = .ok (.iload_n 3, 1) := by decide +kernel
theorem dG_allPressures_21 : decode bG_allPressures 21 = .ok (.laload, 1) := by decide +kernel
theorem dG_allPressures_22 : decode bG_allPressures 22 = .ok (.ladd, 1) := by decide +kernel
theorem dG_allPressures_23 : decode bG_allPressures 23 = .ok (.lstore_n 1, 1) := by decide +kernel
theorem dG_allPressures_24 : decode bG_allPressures 24 = .ok (.iinc 3 1, 3) := by decide +kernel
theorem dG_allPressures_27 : decode bG_allPressures 27 = .ok (.goto (-23), 3) := by decide +kernel
theorem dG_allPressures_30 : decode bG_allPressures 30 = .ok (.lload_n 1, 1) := by decide +kernel
theorem dG_allPressures_31 : decode bG_allPressures 31 = .ok (.lreturn, 1) := by decide +kernel
theorem dX_end_0 : decode bX_end 0 = .ok (.aload_n 0, 1) := by decide +kernel
theorem dX_end_1 : decode bX_end 1 = .ok (.getfield 35, 3) := by decide +kernel
theorem dX_end_4 : decode bX_end 4 = .ok (.invokevirtual 125, 3) := by decide +kernel
theorem dX_end_7 : decode bX_end 7 = .ok (.ldc2_w 91, 3) := by decide +kernel
theorem dX_end_10 : decode bX_end 10 = .ok (.ldiv, 1) := by decide +kernel
theorem dX_end_11 : decode bX_end 11 = .ok (.lreturn, 1) := by decide +kernel
theorem dG_unitsAtEnd_0 : decode bG_unitsAtEnd 0 = .ok (.lconst 0, 1) := by decide +kernel
theorem dG_unitsAtEnd_1 : decode bG_unitsAtEnd 1 = .ok (.lstore_n 1, 1) := by decide +kernel
theorem dG_unitsAtEnd_2 : decode bG_unitsAtEnd 2 = .ok (.iconst 0, 1) := by decide +kernel
theorem dG_unitsAtEnd_3 : decode bG_unitsAtEnd 3 = .ok (.istore_n 3, 1) := by decide +kernel
theorem dG_unitsAtEnd_4 : decode bG_unitsAtEnd 4 = .ok (.iload_n 3, 1) := by decide +kernel
theorem dG_unitsAtEnd_5 : decode bG_unitsAtEnd 5 = .ok (.aload_n 0, 1) := by decide +kernel
theorem dG_unitsAtEnd_6 : decode bG_unitsAtEnd 6 = .ok (.getfield 18, 3) := by decide +kernel
theorem dG_unitsAtEnd_9 : decode bG_unitsAtEnd 9 = .ok (.getfield 37, 3) := by decide +kernel
theorem dG_unitsAtEnd_12 : decode bG_unitsAtEnd 12 = .ok (.if_icmp .ge 43, 3) := by decide +kernel
theorem dG_unitsAtEnd_15 : decode bG_unitsAtEnd 15 = .ok (.lload_n 1, 1) := by decide +kernel
theorem dG_unitsAtEnd_16 : decode bG_unitsAtEnd 16 = .ok (.aload_n 0, 1) := by decide +kernel
theorem dG_unitsAtEnd_17 : decode bG_unitsAtEnd 17 = .ok (.getfield 18, 3) := by decide +kernel
theorem dG_unitsAtEnd_20 : decode bG_unitsAtEnd 20 = .ok (.iload_n 3, 1) := by decide +kernel
theorem dG_unitsAtEnd_21 : decode bG_unitsAtEnd 21 = .ok (.aload_n 0, 1) := by decide +kernel
theorem dG_unitsAtEnd_22 : decode bG_unitsAtEnd 22 = .ok (.getfield 22, 3) := by decide +kernel
theorem dG_unitsAtEnd_25 : decode bG_unitsAtEnd 25 = .ok (.getfield 101, 3) := by decide +kernel
theorem dG_unitsAtEnd_28 : decode bG_unitsAtEnd 28 = .ok (.aload_n 0, 1) := by decide +kernel
theorem dG_unitsAtEnd_29 : decode bG_unitsAtEnd 29 = .ok (.getfield 15, 3) := by decide +kernel
theorem dG_unitsAtEnd_32 : decode bG_unitsAtEnd 32 = .ok (.iload_n 3, 1) := by decide +kernel
theorem dG_unitsAtEnd_33 : decode bG_unitsAtEnd 33 = .ok (.laload, 1) := by decide +kernel
theorem dG_unitsAtEnd_34 : decode bG_unitsAtEnd 34 = .ok (.aload_n 0, 1) := by decide +kernel
theorem dG_unitsAtEnd_35 : decode bG_unitsAtEnd 35 = .ok (.getfield 22, 3) := by decide +kernel
theorem dG_unitsAtEnd_38 : decode bG_unitsAtEnd 38 = .ok (.getfield 101, 3) := by decide +kernel
theorem dG_unitsAtEnd_41 : decode bG_unitsAtEnd 41 = .ok (.invokestatic 88, 3) := by decide +kernel
theorem dG_unitsAtEnd_44 : decode bG_unitsAtEnd 44 = .ok (.invokevirtual 98, 3) := by decide +kernel
theorem dG_unitsAtEnd_47 : decode bG_unitsAtEnd 47 = .ok (.ladd, 1) := by decide +kernel
theorem dG_unitsAtEnd_48 : decode bG_unitsAtEnd 48 = .ok (.lstore_n 1, 1) := by decide +kernel
theorem dG_unitsAtEnd_49 : decode bG_unitsAtEnd 49 = .ok (.iinc 3 1, 3) := by decide +kernel
theorem dG_unitsAtEnd_52 : decode bG_unitsAtEnd 52 = .ok (.goto (-48), 3) := by decide +kernel
theorem dG_unitsAtEnd_55 : decode bG_unitsAtEnd 55 = .ok (.lload_n 1, 1) := by decide +kernel
theorem dG_unitsAtEnd_56 : decode bG_unitsAtEnd 56 = .ok (.lreturn, 1) := by decide +kernel
theorem dX_share_0 : decode bX_share 0 = .ok (.aload_n 0, 1) := by decide +kernel
theorem dX_share_1 : decode bX_share 1 = .ok (.getfield 35, 3) := by decide +kernel
theorem dX_share_4 : decode bX_share 4 = .ok (.invokevirtual 87, 3) := by decide +kernel
theorem dX_share_7 : decode bX_share 7 = .ok (.aload_n 0, 1) := by decide +kernel
theorem dX_share_8 : decode bX_share 8 = .ok (.getfield 35, 3) := by decide +kernel
theorem dX_share_11 : decode bX_share 11 = .ok (.invokevirtual 125, 3) := by decide +kernel
theorem dX_share_14 : decode bX_share 14 = .ok (.invokestatic 128, 3) := by decide +kernel
theorem dX_share_17 : decode bX_share 17 = .ok (.ireturn, 1) := by decide +kernel
theorem dX_thousandths_0 : decode bX_thousandths 0 = .ok (.lload_n 2, 1) := by decide +kernel
theorem dX_thousandths_1 : decode bX_thousandths 1 = .ok (.lconst 0, 1) := by decide +kernel
theorem dX_thousandths_2 : decode bX_thousandths 2 = .ok (.lcmp, 1) := by decide +kernel
theorem dX_thousandths_3 : decode bX_thousandths 3 = .ok (.ifCond .ne 9, 3) := by decide +kernel
theorem dX_thousandths_6 : decode bX_thousandths 6 = .ok (.sipush 1000, 3) := by decide +kernel
theorem dX_thousandths_9 : decode bX_thousandths 9 = .ok (.goto 11, 3) := by decide +kernel
theorem dX_thousandths_12 : decode bX_thousandths 12 = .ok (.lload_n 0, 1) := by decide +kernel
theorem dX_thousandths_13 : decode bX_thousandths 13 = .ok (.ldc2_w 91, 3) := by decide +kernel
theorem dX_thousandths_16 : decode bX_thousandths 16 = .ok (.lmul, 1) := by decide +kernel
theorem dX_thousandths_17 : decode bX_thousandths 17 = .ok (.lload_n 2, 1) := by decide +kernel
theorem dX_thousandths_18 : decode bX_thousandths 18 = .ok (.ldiv, 1) := by decide +kernel
theorem dX_thousandths_19 : decode bX_thousandths 19 = .ok (.l2i, 1) := by decide +kernel
theorem dX_thousandths_20 : decode bX_thousandths 20 = .ok (.ireturn, 1) := by decide +kernel
theorem dX_until_0 : decode bX_until 0 = .ok (.aload_n 0, 1) := by decide +kernel
theorem dX_until_1 : decode bX_until 1 = .ok (.getfield 10, 3) := by decide +kernel
theorem dX_until_4 : decode bX_until 4 = .ok (.getfield 57, 3) := by decide +kernel
theorem dX_until_7 : decode bX_until 7 = .ok (.ifCond .eq 14, 3) := by decide +kernel
theorem dX_until_10 : decode bX_until 10 = .ok (.iload_n 1, 1) := by decide +kernel
theorem dX_until_11 : decode bX_until 11 = .ok (.iconst 0, 1) := by decide +kernel
theorem dX_until_12 : decode bX_until 12 = .ok (.sipush 1000, 3) := by decide +kernel
theorem dX_until_15 : decode bX_until 15 = .ok (.invokestatic 53, 3) := by decide +kernel
theorem dX_until_18 : decode bX_until 18 = .ok (.ifCond .ne 5, 3) := by decide +kernel
theorem dX_until_21 : decode bX_until 21 = .ok (.iconst (-1), 1) := by decide +kernel
theorem dX_until_22 : decode bX_until 22 = .ok (.ireturn, 1) := by decide +kernel
theorem dX_until_23 : decode bX_until 23 = .ok (.aload_n 0, 1) := by decide +kernel
theorem dX_until_24 : decode bX_until 24 = .ok (.getfield 35, 3) := by decide +kernel
theorem dX_until_27 : decode bX_until 27 = .ok (.invokevirtual 125, 3) := by decide +kernel
theorem dX_until_30 : decode bX_until 30 = .ok (.lstore_n 2, 1) := by decide +kernel
theorem dX_until_31 : decode bX_until 31 = .ok (.aload_n 0, 1) := by decide +kernel
theorem dX_until_32 : decode bX_until 32 = .ok (.getfield 39, 3) := by decide +kernel
theorem dX_until_35 : decode bX_until 35 = .ok (.aload_n 0, 1) := by decide +kernel
theorem dX_until_36 : decode bX_until 36 = .ok (.getfield 35, 3) := by decide +kernel
theorem dX_until_39 : decode bX_until 39 = .ok (.invokevirtual 132, 3) := by decide +kernel
theorem dX_until_42 : decode bX_until 42 = .ok (.iconst 0, 1) := by decide +kernel
theorem dX_until_43 : decode bX_until 43 = .ok (.istore 4, 2) := by decide +kernel
theorem dX_until_45 : decode bX_until 45 = .ok (.iload 4, 2) := by decide +kernel
theorem dX_until_47 : decode bX_until 47 = .ok (.sipush 300, 3) := by decide +kernel
theorem dX_until_50 : decode bX_until 50 = .ok (.if_icmp .ge 31, 3) := by decide +kernel
theorem dX_until_53 : decode bX_until 53 = .ok (.aload_n 0, 1) := by decide +kernel
theorem dX_until_54 : decode bX_until 54 = .ok (.getfield 39, 3) := by decide +kernel
theorem dX_until_57 : decode bX_until 57 = .ok (.invokevirtual 87, 3) := by decide +kernel
theorem dX_until_60 : decode bX_until 60 = .ok (.lload_n 2, 1) := by decide +kernel
theorem dX_until_61 : decode bX_until 61 = .ok (.invokestatic 128, 3) := by decide +kernel
theorem dX_until_64 : decode bX_until 64 = .ok (.iload_n 1, 1) := by decide +kernel
theorem dX_until_65 : decode bX_until 65 = .ok (.if_icmp .ge 16, 3) := by decide +kernel
theorem dX_until_68 : decode bX_until 68 = .ok (.aload_n 0, 1) := by decide +kernel
theorem dX_until_69 : decode bX_until 69 = .ok (.getfield 39, 3) := by decide +kernel
theorem dX_until_72 : decode bX_until 72 = .ok (.invokevirtual 84, 3) := by decide +kernel
theorem dX_until_75 : decode bX_until 75 = .ok (.iinc 4 1, 3) := by decide +kernel
theorem dX_until_78 : decode bX_until 78 = .ok (.goto (-33), 3) := by decide +kernel
theorem dX_until_81 : decode bX_until 81 = .ok (.aload_n 0, 1) := by decide +kernel
theorem dX_until_82 : decode bX_until 82 = .ok (.getfield 39, 3) := by decide +kernel
theorem dX_until_85 : decode bX_until 85 = .ok (.invokevirtual 87, 3) := by decide +kernel
theorem dX_until_88 : decode bX_until 88 = .ok (.lload_n 2, 1) := by decide +kernel
theorem dX_until_89 : decode bX_until 89 = .ok (.invokestatic 128, 3) := by decide +kernel
theorem dX_until_92 : decode bX_until 92 = .ok (.iload_n 1, 1) := by decide +kernel
theorem dX_until_93 : decode bX_until 93 = .ok (.if_icmp .ge 7, 3) := by decide +kernel
theorem dX_until_96 : decode bX_until 96 = .ok (.iconst (-1), 1) := by decide +kernel
theorem dX_until_97 : decode bX_until 97 = .ok (.goto 5, 3) := by decide +kernel
theorem dX_until_100 : decode bX_until 100 = .ok (.iload 4, 2) := by decide +kernel
theorem dX_until_102 : decode bX_until 102 = .ok (.ireturn, 1) := by decide +kernel
theorem dG_become_0 : decode bG_become 0 = .ok (.iconst 0, 1) := by decide +kernel
theorem dG_become_1 : decode bG_become 1 = .ok (.istore_n 2, 1) := by decide +kernel
theorem dG_become_2 : decode bG_become 2 = .ok (.iload_n 2, 1) := by decide +kernel
theorem dG_become_3 : decode bG_become 3 = .ok (.bipush 30, 2) := by decide +kernel
theorem dG_become_5 : decode bG_become 5 = .ok (.if_icmp .ge 33, 3) := by decide +kernel
theorem dG_become_8 : decode bG_become 8 = .ok (.aload_n 0, 1) := by decide +kernel
theorem dG_become_9 : decode bG_become 9 = .ok (.getfield 9, 3) := by decide +kernel
theorem dG_become_12 : decode bG_become 12 = .ok (.iload_n 2, 1) := by decide +kernel
theorem dG_become_13 : decode bG_become 13 = .ok (.aload_n 1, 1) := by decide +kernel
theorem dG_become_14 : decode bG_become 14 = .ok (.getfield 9, 3) := by decide +kernel
theorem dG_become_17 : decode bG_become 17 = .ok (.iload_n 2, 1) := by decide +kernel
theorem dG_become_18 : decode bG_become 18 = .ok (.laload, 1) := by decide +kernel
theorem dG_become_19 : decode bG_become 19 = .ok (.lastore, 1) := by decide +kernel
theorem dG_become_20 : decode bG_become 20 = .ok (.aload_n 0, 1) := by decide +kernel
theorem dG_become_21 : decode bG_become 21 = .ok (.getfield 15, 3) := by decide +kernel
theorem dG_become_24 : decode bG_become 24 = .ok (.iload_n 2, 1) := by decide +kernel
theorem dG_become_25 : decode bG_become 25 = .ok (.aload_n 1, 1) := by decide +kernel
theorem dG_become_26 : decode bG_become 26 = .ok (.getfield 15, 3) := by decide +kernel
theorem dG_become_29 : decode bG_become 29 = .ok (.iload_n 2, 1) := by decide +kernel
theorem dG_become_30 : decode bG_become 30 = .ok (.laload, 1) := by decide +kernel
theorem dG_become_31 : decode bG_become 31 = .ok (.lastore, 1) := by decide +kernel
theorem dG_become_32 : decode bG_become 32 = .ok (.iinc 2 1, 3) := by decide +kernel
theorem dG_become_35 : decode bG_become 35 = .ok (.goto (-33), 3) := by decide +kernel
theorem dG_become_38 : decode bG_become 38 = .ok (.aload_n 0, 1) := by decide +kernel
theorem dG_become_39 : decode bG_become 39 = .ok (.aload_n 1, 1) := by decide +kernel
theorem dG_become_40 : decode bG_become 40 = .ok (.getfield 26, 3) := by decide +kernel
theorem dG_become_43 : decode bG_become 43 = .ok (.putfield 26, 3) := by decide +kernel
theorem dG_become_46 : decode bG_become 46 = .ok (.aload_n 0, 1) := by decide +kernel
theorem dG_become_47 : decode bG_become 47 = .ok (.aload_n 1, 1) := by decide +kernel
theorem dG_become_48 : decode bG_become 48 = .ok (.getfield 30, 3) := by decide +kernel
theorem dG_become_51 : decode bG_become 51 = .ok (.putfield 30, 3) := by decide +kernel
theorem dG_become_54 : decode bG_become 54 = .ok (.aload_n 0, 1) := by decide +kernel
theorem dG_become_55 : decode bG_become 55 = .ok (.aload_n 1, 1) := by decide +kernel
theorem dG_become_56 : decode bG_become 56 = .ok (.getfield 34, 3) := by decide +kernel
theorem dG_become_59 : decode bG_become 59 = .ok (.putfield 34, 3) := by decide +kernel
theorem dG_become_62 : decode bG_become 62 = .ok (.return_, 1) := by decide +kernel
theorem dX_surcharge_0 : decode bX_surcharge 0 = .ok (.aload_n 0, 1) := by decide +kernel
theorem dX_surcharge_1 : decode bX_surcharge 1 = .ok (.getfield 10, 3) := by decide +kernel
theorem dX_surcharge_4 : decode bX_surcharge 4 = .ok (.getfield 57, 3) := by decide +kernel
theorem dX_surcharge_7 : decode bX_surcharge 7 = .ok (.ifCond .eq 23, 3) := by decide +kernel
theorem dX_surcharge_10 : decode bX_surcharge 10 = .ok (.iload_n 1, 1) := by decide +kernel
theorem dX_surcharge_11 : decode bX_surcharge 11 = .ok (.iconst 1, 1) := by decide +kernel
theorem dX_surcharge_12 : decode bX_surcharge 12 = .ok (.ldc 136, 2) := by decide +kernel
theorem dX_surcharge_14 : decode bX_surcharge 14 = .ok (.invokestatic 53, 3) := by decide +kernel
theorem dX_surcharge_17 : decode bX_surcharge 17 = .ok (.ifCond .eq 13, 3) := by decide +kernel
theorem dX_surcharge_20 : decode bX_surcharge 20 = .ok (.iload_n 2, 1) := by decide +kernel
theorem dX_surcharge_21 : decode bX_surcharge 21 = .ok (.iconst 1, 1) := by decide +kernel
theorem dX_surcharge_22 : decode bX_surcharge 22 = .ok (.bipush 100, 2) := by decide +kernel
theorem dX_surcharge_24 : decode bX_surcharge 24 = .ok (.invokestatic 53, 3) := by decide +kernel
theorem dX_surcharge_27 : decode bX_surcharge 27 = .ok (.ifCond .ne 5, 3) := by decide +kernel
theorem dX_surcharge_30 : decode bX_surcharge 30 = .ok (.iconst (-1), 1) := by decide +kernel
theorem dX_surcharge_31 : decode bX_surcharge 31 = .ok (.ireturn, 1) := by decide +kernel
theorem dX_surcharge_32 : decode bX_surcharge 32 = .ok (.aload_n 0, 1) := by decide +kernel
theorem dX_surcharge_33 : decode bX_surcharge 33 = .ok (.getfield 35, 3) := by decide +kernel
theorem dX_surcharge_36 : decode bX_surcharge 36 = .ok (.invokevirtual 125, 3) := by decide +kernel
theorem dX_surcharge_39 : decode bX_surcharge 39 = .ok (.lstore_n 3, 1) := by decide +kernel
theorem dX_surcharge_40 : decode bX_surcharge 40 = .ok (.iconst 0, 1) := by decide +kernel
theorem dX_surcharge_41 : decode bX_surcharge 41 = .ok (.istore 5, 2) := by decide +kernel
theorem dX_surcharge_43 : decode bX_surcharge 43 = .ok (.iload 5, 2) := by decide +kernel
theorem dX_surcharge_45 : decode bX_surcharge 45 = .ok (.bipush 20, 2) := by decide +kernel
theorem dX_surcharge_47 : decode bX_surcharge 47 = .ok (.if_icmp .gt 28, 3) := by decide +kernel
theorem dX_surcharge_50 : decode bX_surcharge 50 = .ok (.aload_n 0, 1) := by decide +kernel
theorem dX_surcharge_51 : decode bX_surcharge 51 = .ok (.iload 5, 2) := by decide +kernel
theorem dX_surcharge_53 : decode bX_surcharge 53 = .ok (.iload_n 1, 1) := by decide +kernel
theorem dX_surcharge_54 : decode bX_surcharge 54 = .ok (.imul, 1) := by decide +kernel
theorem dX_surcharge_55 : decode bX_surcharge 55 = .ok (.iload_n 2, 1) := by decide +kernel
theorem dX_surcharge_56 : decode bX_surcharge 56 = .ok (.invokevirtual 137, 3) := by decide +kernel
theorem dX_surcharge_59 : decode bX_surcharge 59 = .ok (.lload_n 3, 1) := by decide +kernel
theorem dX_surcharge_60 : decode bX_surcharge 60 = .ok (.lcmp, 1) := by decide +kernel
theorem dX_surcharge_61 : decode bX_surcharge 61 = .ok (.ifCond .lt 8, 3) := by decide +kernel
theorem dX_surcharge_64 : decode bX_surcharge 64 = .ok (.iload 5, 2) := by decide +kernel
theorem dX_surcharge_66 : decode bX_surcharge 66 = .ok (.iload_n 1, 1) := by decide +kernel
theorem dX_surcharge_67 : decode bX_surcharge 67 = .ok (.imul, 1) := by decide +kernel
theorem dX_surcharge_68 : decode bX_surcharge 68 = .ok (.ireturn, 1) := by decide +kernel
theorem dX_surcharge_69 : decode bX_surcharge 69 = .ok (.iinc 5 1, 3) := by decide +kernel
theorem dX_surcharge_72 : decode bX_surcharge 72 = .ok (.goto (-29), 3) := by decide +kernel
theorem dX_surcharge_75 : decode bX_surcharge 75 = .ok (.iconst (-1), 1) := by decide +kernel
theorem dX_surcharge_76 : decode bX_surcharge 76 = .ok (.ireturn, 1) := by decide +kernel
theorem dX_unitsSunkWith_0 : decode bX_unitsSunkWith 0 = .ok (.aload_n 0, 1) := by decide +kernel
theorem dX_unitsSunkWith_1 : decode bX_unitsSunkWith 1 = .ok (.getfield 39, 3) := by decide +kernel
theorem dX_unitsSunkWith_4 : decode bX_unitsSunkWith 4 = .ok (.aload_n 0, 1) := by decide +kernel
theorem dX_unitsSunkWith_5 : decode bX_unitsSunkWith 5 = .ok (.getfield 35, 3) := by decide +kernel
theorem dX_unitsSunkWith_8 : decode bX_unitsSunkWith 8 = .ok (.invokevirtual 132, 3) := by decide +kernel
theorem dX_unitsSunkWith_11 : decode bX_unitsSunkWith 11 = .ok (.aload_n 0, 1) := by decide +kernel
theorem dX_unitsSunkWith_12 : decode bX_unitsSunkWith 12 = .ok (.getfield 39, 3) := by decide +kernel
theorem dX_unitsSunkWith_15 : decode bX_unitsSunkWith 15 = .ok (.iload_n 1, 1) := by decide +kernel
theorem dX_unitsSunkWith_16 : decode bX_unitsSunkWith 16 = .ok (.i2l, 1) := by decide +kernel
theorem dX_unitsSunkWith_17 : decode bX_unitsSunkWith 17 = .ok (.invokevirtual 170, 3) := by decide +kernel
theorem dX_unitsSunkWith_20 : decode bX_unitsSunkWith 20 = .ok (.iconst 0, 1) := by decide +kernel
theorem dX_unitsSunkWith_21 : decode bX_unitsSunkWith 21 = .ok (.istore_n 3, 1) := by decide +kernel
theorem dX_unitsSunkWith_22 : decode bX_unitsSunkWith 22 = .ok (.iload_n 3, 1) := by decide +kernel
theorem dX_unitsSunkWith_23 : decode bX_unitsSunkWith 23 = .ok (.iload_n 2, 1) := by decide +kernel
theorem dX_unitsSunkWith_24 : decode bX_unitsSunkWith 24 = .ok (.if_icmp .ge 16, 3) := by decide +kernel
theorem dX_unitsSunkWith_27 : decode bX_unitsSunkWith 27 = .ok (.aload_n 0, 1) := by decide +kernel
theorem dX_unitsSunkWith_28 : decode bX_unitsSunkWith 28 = .ok (.getfield 39, 3) := by decide +kernel
theorem dX_unitsSunkWith_31 : decode bX_unitsSunkWith 31 = .ok (.invokevirtual 84, 3) := by decide +kernel
theorem dX_unitsSunkWith_34 : decode bX_unitsSunkWith 34 = .ok (.iinc 3 1, 3) := by decide +kernel
theorem dX_unitsSunkWith_37 : decode bX_unitsSunkWith 37 = .ok (.goto (-15), 3) := by decide +kernel
theorem dX_unitsSunkWith_40 : decode bX_unitsSunkWith 40 = .ok (.aload_n 0, 1) := by decide +kernel
theorem dX_unitsSunkWith_41 : decode bX_unitsSunkWith 41 = .ok (.getfield 39, 3) := by decide +kernel
theorem dX_unitsSunkWith_44 : decode bX_unitsSunkWith 44 = .ok (.invokevirtual 87, 3) := by decide +kernel
theorem dX_unitsSunkWith_47 : decode bX_unitsSunkWith 47 = .ok (.lreturn, 1) := by decide +kernel
theorem dX_read_0 : decode bX_read 0 = .ok (.iload_n 1, 1) := by decide +kernel
theorem dX_read_1 : decode bX_read 1 = .ok (.aload_n 0, 1) := by decide +kernel
theorem dX_read_2 : decode bX_read 2 = .ok (.getfield 26, 3) := by decide +kernel
theorem dX_read_5 : decode bX_read 5 = .ok (.invokevirtual 140, 3) := by decide +kernel
theorem dX_read_8 : decode bX_read 8 = .ok (.sipush 400, 3) := by decide +kernel
theorem dX_read_11 : decode bX_read 11 = .ok (.invokestatic 53, 3) := by decide +kernel
theorem dX_read_14 : decode bX_read 14 = .ok (.ifCond .eq 17, 3) := by decide +kernel
theorem dX_read_17 : decode bX_read 17 = .ok (.lload_n 2, 1) := by decide +kernel
theorem dX_read_18 : decode bX_read 18 = .ok (.lconst 0, 1) := by decide +kernel
theorem dX_read_19 : decode bX_read 19 = .ok (.lcmp, 1) := by decide +kernel
theorem dX_read_20 : decode bX_read 20 = .ok (.ifCond .lt 11, 3) := by decide +kernel
theorem dX_read_23 : decode bX_read 23 = .ok (.lload_n 2, 1) := by decide +kernel
theorem dX_read_24 : decode bX_read 24 = .ok (.ldc2_w 144, 3) := by decide +kernel
theorem dX_read_27 : decode bX_read 27 = .ok (.lcmp, 1) := by decide +kernel
theorem dX_read_28 : decode bX_read 28 = .ok (.ifCond .le 5, 3) := by decide +kernel
theorem dX_read_31 : decode bX_read 31 = .ok (.iconst (-1), 1) := by decide +kernel
theorem dX_read_32 : decode bX_read 32 = .ok (.ireturn, 1) := by decide +kernel
theorem dX_read_33 : decode bX_read 33 = .ok (.aload_n 0, 1) := by decide +kernel
theorem dX_read_34 : decode bX_read 34 = .ok (.getfield 26, 3) := by decide +kernel
theorem dX_read_37 : decode bX_read 37 = .ok (.getfield 146, 3) := by decide +kernel
theorem dX_read_40 : decode bX_read 40 = .ok (.bipush 20, 2) := by decide +kernel
theorem dX_read_42 : decode bX_read 42 = .ok (.if_icmp .lt 5, 3) := by decide +kernel
theorem dX_read_45 : decode bX_read 45 = .ok (.iconst (-1), 1) := by decide +kernel
theorem dX_read_46 : decode bX_read 46 = .ok (.ireturn, 1) := by decide +kernel
theorem dX_read_47 : decode bX_read 47 = .ok (.aload_n 0, 1) := by decide +kernel
theorem dX_read_48 : decode bX_read 48 = .ok (.getfield 26, 3) := by decide +kernel
theorem dX_read_51 : decode bX_read 51 = .ok (.iload_n 1, 1) := by decide +kernel
theorem dX_read_52 : decode bX_read 52 = .ok (.lload_n 2, 1) := by decide +kernel
theorem dX_read_53 : decode bX_read 53 = .ok (.invokevirtual 147, 3) := by decide +kernel
theorem dX_read_56 : decode bX_read 56 = .ok (.ireturn, 1) := by decide +kernel
theorem dD_firstFreeDay_0 : decode bD_firstFreeDay 0 = .ok (.aload_n 0, 1) := by decide +kernel
theorem dD_firstFreeDay_1 : decode bD_firstFreeDay 1 = .ok (.getfield 19, 3) := by decide +kernel
theorem dD_firstFreeDay_4 : decode bD_firstFreeDay 4 = .ok (.ifCond .ne 7, 3) := by decide +kernel
theorem dD_firstFreeDay_7 : decode bD_firstFreeDay 7 = .ok (.iconst 0, 1) := by decide +kernel
theorem dD_firstFreeDay_8 : decode bD_firstFreeDay 8 = .ok (.goto 16, 3) := by decide +kernel
theorem dD_firstFreeDay_11 : decode bD_firstFreeDay 11 = .ok (.aload_n 0, 1) := by decide +kernel
theorem dD_firstFreeDay_12 : decode bD_firstFreeDay 12 = .ok (.getfield 9, 3) := by decide +kernel
theorem dD_firstFreeDay_15 : decode bD_firstFreeDay 15 = .ok (.aload_n 0, 1) := by decide +kernel
theorem dD_firstFreeDay_16 : decode bD_firstFreeDay 16 = .ok (.getfield 19, 3) := by decide +kernel
theorem dD_firstFreeDay_19 : decode bD_firstFreeDay 19 = .ok (.iconst 1, 1) := by decide +kernel
theorem dD_firstFreeDay_20 : decode bD_firstFreeDay 20 = .ok (.isub, 1) := by decide +kernel
theorem dD_firstFreeDay_21 : decode bD_firstFreeDay 21 = .ok (.iaload, 1) := by decide +kernel
theorem dD_firstFreeDay_22 : decode bD_firstFreeDay 22 = .ok (.iconst 1, 1) := by decide +kernel
theorem dD_firstFreeDay_23 : decode bD_firstFreeDay 23 = .ok (.iadd, 1) := by decide +kernel
theorem dD_firstFreeDay_24 : decode bD_firstFreeDay 24 = .ok (.ireturn, 1) := by decide +kernel
theorem dD_add_0 : decode bD_add 0 = .ok (.aload_n 0, 1) := by decide +kernel
theorem dD_add_1 : decode bD_add 1 = .ok (.getfield 9, 3) := by decide +kernel
theorem dD_add_4 : decode bD_add 4 = .ok (.aload_n 0, 1) := by decide +kernel
theorem dD_add_5 : decode bD_add 5 = .ok (.getfield 19, 3) := by decide +kernel
theorem dD_add_8 : decode bD_add 8 = .ok (.iload_n 1, 1) := by decide +kernel
theorem dD_add_9 : decode bD_add 9 = .ok (.iastore, 1) := by decide +kernel
theorem dD_add_10 : decode bD_add 10 = .ok (.aload_n 0, 1) := by decide +kernel
theorem dD_add_11 : decode bD_add 11 = .ok (.getfield 15, 3) := by decide +kernel
theorem dD_add_14 : decode bD_add 14 = .ok (.aload_n 0, 1) := by decide +kernel
theorem dD_add_15 : decode bD_add 15 = .ok (.getfield 19, 3) := by decide +kernel
theorem dD_add_18 : decode bD_add 18 = .ok (.lload_n 2, 1) := by decide +kernel
theorem dD_add_19 : decode bD_add 19 = .ok (.lastore, 1) := by decide +kernel
theorem dD_add_20 : decode bD_add 20 = .ok (.aload_n 0, 1) := by decide +kernel
theorem dD_add_21 : decode bD_add 21 = .ok (.dup, 1) := by decide +kernel
theorem dD_add_22 : decode bD_add 22 = .ok (.getfield 19, 3) := by decide +kernel
theorem dD_add_25 : decode bD_add 25 = .ok (.iconst 1, 1) := by decide +kernel
theorem dD_add_26 : decode bD_add 26 = .ok (.iadd, 1) := by decide +kernel
theorem dD_add_27 : decode bD_add 27 = .ok (.putfield 19, 3) := by decide +kernel
theorem dD_add_30 : decode bD_add 30 = .ok (.aload_n 0, 1) := by decide +kernel
theorem dD_add_31 : decode bD_add 31 = .ok (.getfield 19, 3) := by decide +kernel
theorem dD_add_34 : decode bD_add 34 = .ok (.ireturn, 1) := by decide +kernel
theorem dX_foretold_0 : decode bX_foretold 0 = .ok (.iload_n 1, 1) := by decide +kernel
theorem dX_foretold_1 : decode bX_foretold 1 = .ok (.tableswitch 51 0 2 #[27, 35, 43], 27) := by decide +kernel
theorem dX_foretold_28 : decode bX_foretold 28 = .ok (.aload_n 0, 1) := by decide +kernel
theorem dX_foretold_29 : decode bX_foretold 29 = .ok (.getfield 26, 3) := by decide +kernel
theorem dX_foretold_32 : decode bX_foretold 32 = .ok (.invokevirtual 150, 3) := by decide +kernel
theorem dX_foretold_35 : decode bX_foretold 35 = .ok (.lreturn, 1) := by decide +kernel
theorem dX_foretold_36 : decode bX_foretold 36 = .ok (.aload_n 0, 1) := by decide +kernel
theorem dX_foretold_37 : decode bX_foretold 37 = .ok (.getfield 26, 3) := by decide +kernel
theorem dX_foretold_40 : decode bX_foretold 40 = .ok (.invokevirtual 153, 3) := by decide +kernel
theorem dX_foretold_43 : decode bX_foretold 43 = .ok (.lreturn, 1) := by decide +kernel
theorem dX_foretold_44 : decode bX_foretold 44 = .ok (.aload_n 0, 1) := by decide +kernel
theorem dX_foretold_45 : decode bX_foretold 45 = .ok (.getfield 26, 3) := by decide +kernel
theorem dX_foretold_48 : decode bX_foretold 48 = .ok (.invokevirtual 156, 3) := by decide +kernel
theorem dX_foretold_51 : decode bX_foretold 51 = .ok (.lreturn, 1) := by decide +kernel
theorem dX_foretold_52 : decode bX_foretold 52 = .ok (.ldc2_w 96, 3) := by decide +kernel
theorem dX_foretold_55 : decode bX_foretold 55 = .ok (.lreturn, 1) := by decide +kernel
theorem dD_foretellByLastThree_0 : decode bD_foretellByLastThree 0 = .ok (.aload_n 0, 1) := by decide +kernel
theorem dD_foretellByLastThree_1 : decode bD_foretellByLastThree 1 = .ok (.getfield 19, 3) := by decide +kernel
theorem dD_foretellByLastThree_4 : decode bD_foretellByLastThree 4 = .ok (.iconst 3, 1) := by decide +kernel
theorem dD_foretellByLastThree_5 : decode bD_foretellByLastThree 5 = .ok (.if_icmp .ge 7, 3) := by decide +kernel
theorem dD_foretellByLastThree_8 : decode bD_foretellByLastThree 8 = .ok (.ldc2_w 23, 3) := by decide +kernel
theorem dD_foretellByLastThree_11 : decode bD_foretellByLastThree 11 = .ok (.lreturn, 1) := by decide +kernel
theorem dD_foretellByLastThree_12 : decode bD_foretellByLastThree 12 = .ok (.aload_n 0, 1) := by decide +kernel
theorem dD_foretellByLastThree_13 : decode bD_foretellByLastThree 13 = .ok (.getfield 15, 3) := by decide +kernel
theorem dD_foretellByLastThree_16 : decode bD_foretellByLastThree 16 = .ok (.aload_n 0, 1) := by decide +kernel
theorem dD_foretellByLastThree_17 : decode bD_foretellByLastThree 17 = .ok (.getfield 19, 3) := by decide +kernel
theorem dD_foretellByLastThree_20 : decode bD_foretellByLastThree 20 = .ok (.iconst 3, 1) := by decide +kernel
theorem dD_foretellByLastThree_21 : decode bD_foretellByLastThree 21 = .ok (.isub, 1) := by decide +kernel
theorem dD_foretellByLastThree_22 : decode bD_foretellByLastThree 22 = .ok (.laload, 1) := by decide +kernel
theorem dD_foretellByLastThree_23 : decode bD_foretellByLastThree 23 = .ok (.lstore_n 1, 1) := by decide +kernel
theorem dD_foretellByLastThree_24 : decode bD_foretellByLastThree 24 = .ok (.aload_n 0, 1) := by decide +kernel
theorem dD_foretellByLastThree_25 : decode bD_foretellByLastThree 25 = .ok (.getfield 15, 3) := by decide +kernel
theorem dD_foretellByLastThree_28 : decode bD_foretellByLastThree 28 = .ok (.aload_n 0, 1) := by decide +kernel
theorem dD_foretellByLastThree_29 : decode bD_foretellByLastThree 29 = .ok (.getfield 19, 3) := by decide +kernel
theorem dD_foretellByLastThree_32 : decode bD_foretellByLastThree 32 = .ok (.iconst 2, 1) := by decide +kernel
theorem dD_foretellByLastThree_33 : decode bD_foretellByLastThree 33 = .ok (.isub, 1) := by decide +kernel
theorem dD_foretellByLastThree_34 : decode bD_foretellByLastThree 34 = .ok (.laload, 1) := by decide +kernel
theorem dD_foretellByLastThree_35 : decode bD_foretellByLastThree 35 = .ok (.lstore_n 3, 1) := by decide +kernel
theorem dD_foretellByLastThree_36 : decode bD_foretellByLastThree 36 = .ok (.aload_n 0, 1) := by decide +kernel
theorem dD_foretellByLastThree_37 : decode bD_foretellByLastThree 37 = .ok (.getfield 15, 3) := by decide +kernel
theorem dD_foretellByLastThree_40 : decode bD_foretellByLastThree 40 = .ok (.aload_n 0, 1) := by decide +kernel
theorem dD_foretellByLastThree_41 : decode bD_foretellByLastThree 41 = .ok (.getfield 19, 3) := by decide +kernel
theorem dD_foretellByLastThree_44 : decode bD_foretellByLastThree 44 = .ok (.iconst 1, 1) := by decide +kernel
theorem dD_foretellByLastThree_45 : decode bD_foretellByLastThree 45 = .ok (.isub, 1) := by decide +kernel
theorem dD_foretellByLastThree_46 : decode bD_foretellByLastThree 46 = .ok (.laload, 1) := by decide +kernel
theorem dD_foretellByLastThree_47 : decode bD_foretellByLastThree 47 = .ok (.lstore 5, 2) := by decide +kernel
theorem dD_foretellByLastThree_49 : decode bD_foretellByLastThree 49 = .ok (.lload_n 1, 1) := by decide +kernel
theorem dD_foretellByLastThree_50 : decode bD_foretellByLastThree 50 = .ok (.invokestatic 25, 3) := by decide +kernel
theorem dD_foretellByLastThree_53 : decode bD_foretellByLastThree 53 = .ok (.ifCond .ne 18, 3) := by decide +kernel
theorem dD_foretellByLastThree_56 : decode bD_foretellByLastThree 56 = .ok (.lload_n 3, 1) := by decide +kernel
theorem dD_foretellByLastThree_57 : decode bD_foretellByLastThree 57 = .ok (.invokestatic 25, 3) := by decide +kernel
theorem dD_foretellByLastThree_60 : decode bD_foretellByLastThree 60 = .ok (.ifCond .ne 11, 3) := by decide +kernel
theorem dD_foretellByLastThree_63 : decode bD_foretellByLastThree 63 = .ok (.lload 5, 2) := by decide +kernel
theorem dD_foretellByLastThree_65 : decode bD_foretellByLastThree 65 = .ok (.invokestatic 25, 3) := by decide +kernel
theorem dD_foretellByLastThree_68 : decode bD_foretellByLastThree 68 = .ok (.ifCond .eq 7, 3) := by decide +kernel
theorem dD_foretellByLastThree_71 : decode bD_foretellByLastThree 71 = .ok (.ldc2_w 23, 3) := by decide +kernel
theorem dD_foretellByLastThree_74 : decode bD_foretellByLastThree 74 = .ok (.lreturn, 1) := by decide +kernel
theorem dD_foretellByLastThree_75 : decode bD_foretellByLastThree 75 = .ok (.lload_n 3, 1) := by decide +kernel
theorem dD_foretellByLastThree_76 : decode bD_foretellByLastThree 76 = .ok (.lload_n 3, 1) := by decide +kernel
theorem dD_foretellByLastThree_77 : decode bD_foretellByLastThree 77 = .ok (.lmul, 1) := by decide +kernel
theorem dD_foretellByLastThree_78 : decode bD_foretellByLastThree 78 = .ok (.lload_n 1, 1) := by decide +kernel
theorem dD_foretellByLastThree_79 : decode bD_foretellByLastThree 79 = .ok (.lload 5, 2) := by decide +kernel
theorem dD_foretellByLastThree_81 : decode bD_foretellByLastThree 81 = .ok (.lmul, 1) := by decide +kernel
theorem dD_foretellByLastThree_82 : decode bD_foretellByLastThree 82 = .ok (.lsub, 1) := by decide +kernel
theorem dD_foretellByLastThree_83 : decode bD_foretellByLastThree 83 = .ok (.ldc2_w 29, 3) := by decide +kernel
theorem dD_foretellByLastThree_86 : decode bD_foretellByLastThree 86 = .ok (.lload_n 3, 1) := by decide +kernel
theorem dD_foretellByLastThree_87 : decode bD_foretellByLastThree 87 = .ok (.lmul, 1) := by decide +kernel
theorem dD_foretellByLastThree_88 : decode bD_foretellByLastThree 88 = .ok (.lload_n 1, 1) := by decide +kernel
theorem dD_foretellByLastThree_89 : decode bD_foretellByLastThree 89 = .ok (.lsub, 1) := by decide +kernel
theorem dD_foretellByLastThree_90 : decode bD_foretellByLastThree 90 = .ok (.lload 5, 2) := by decide +kernel
theorem dD_foretellByLastThree_92 : decode bD_foretellByLastThree 92 = .ok (.lsub, 1) := by decide +kernel
theorem dD_foretellByLastThree_93 : decode bD_foretellByLastThree 93 = .ok (.invokestatic 31, 3) := by decide +kernel
theorem dD_foretellByLastThree_96 : decode bD_foretellByLastThree 96 = .ok (.lreturn, 1) := by decide +kernel
theorem dD_tooGreat_0 : decode bD_tooGreat 0 = .ok (.lload_n 0, 1) := by decide +kernel
theorem dD_tooGreat_1 : decode bD_tooGreat 1 = .ok (.ldc2_w 37, 3) := by decide +kernel
theorem dD_tooGreat_4 : decode bD_tooGreat 4 = .ok (.lcmp, 1) := by decide +kernel
theorem dD_tooGreat_5 : decode bD_tooGreat 5 = .ok (.ifCond .le 7, 3) := by decide +kernel
theorem dD_tooGreat_8 : decode bD_tooGreat 8 = .ok (.iconst 1, 1) := by decide +kernel
theorem dD_tooGreat_9 : decode bD_tooGreat 9 = .ok (.goto 4, 3) := by decide +kernel
theorem dD_tooGreat_12 : decode bD_tooGreat 12 = .ok (.iconst 0, 1) := by decide +kernel
theorem dD_tooGreat_13 : decode bD_tooGreat 13 = .ok (.ireturn, 1) := by decide +kernel
theorem dD_quotient_0 : decode bD_quotient 0 = .ok (.lload_n 2, 1) := by decide +kernel
theorem dD_quotient_1 : decode bD_quotient 1 = .ok (.lconst 0, 1) := by decide +kernel
theorem dD_quotient_2 : decode bD_quotient 2 = .ok (.lcmp, 1) := by decide +kernel
theorem dD_quotient_3 : decode bD_quotient 3 = .ok (.ifCond .ne 9, 3) := by decide +kernel
theorem dD_quotient_6 : decode bD_quotient 6 = .ok (.ldc2_w 23, 3) := by decide +kernel
theorem dD_quotient_9 : decode bD_quotient 9 = .ok (.goto 6, 3) := by decide +kernel
theorem dD_quotient_12 : decode bD_quotient 12 = .ok (.lload_n 0, 1) := by decide +kernel
theorem dD_quotient_13 : decode bD_quotient 13 = .ok (.lload_n 2, 1) := by decide +kernel
theorem dD_quotient_14 : decode bD_quotient 14 = .ok (.ldiv, 1) := by decide +kernel
theorem dD_quotient_15 : decode bD_quotient 15 = .ok (.lreturn, 1) := by decide +kernel
theorem dD_foretellByLastTwo_0 : decode bD_foretellByLastTwo 0 = .ok (.aload_n 0, 1) := by decide +kernel
theorem dD_foretellByLastTwo_1 : decode bD_foretellByLastTwo 1 = .ok (.getfield 19, 3) := by decide +kernel
theorem dD_foretellByLastTwo_4 : decode bD_foretellByLastTwo 4 = .ok (.iconst 2, 1) := by decide +kernel
theorem dD_foretellByLastTwo_5 : decode bD_foretellByLastTwo 5 = .ok (.if_icmp .ge 7, 3) := by decide +kernel
theorem dD_foretellByLastTwo_8 : decode bD_foretellByLastTwo 8 = .ok (.ldc2_w 23, 3) := by decide +kernel
theorem dD_foretellByLastTwo_11 : decode bD_foretellByLastTwo 11 = .ok (.lreturn, 1) := by decide +kernel
theorem dD_foretellByLastTwo_12 : decode bD_foretellByLastTwo 12 = .ok (.aload_n 0, 1) := by decide +kernel
theorem dD_foretellByLastTwo_13 : decode bD_foretellByLastTwo 13 = .ok (.getfield 15, 3) := by decide +kernel
theorem dD_foretellByLastTwo_16 : decode bD_foretellByLastTwo 16 = .ok (.aload_n 0, 1) := by decide +kernel
theorem dD_foretellByLastTwo_17 : decode bD_foretellByLastTwo 17 = .ok (.getfield 19, 3) := by decide +kernel
theorem dD_foretellByLastTwo_20 : decode bD_foretellByLastTwo 20 = .ok (.iconst 2, 1) := by decide +kernel
theorem dD_foretellByLastTwo_21 : decode bD_foretellByLastTwo 21 = .ok (.isub, 1) := by decide +kernel
theorem dD_foretellByLastTwo_22 : decode bD_foretellByLastTwo 22 = .ok (.laload, 1) := by decide +kernel
theorem dD_foretellByLastTwo_23 : decode bD_foretellByLastTwo 23 = .ok (.lstore_n 1, 1) := by decide +kernel
theorem dD_foretellByLastTwo_24 : decode bD_foretellByLastTwo 24 = .ok (.aload_n 0, 1) := by decide +kernel
theorem dD_foretellByLastTwo_25 : decode bD_foretellByLastTwo 25 = .ok (.getfield 15, 3) := by decide +kernel
theorem dD_foretellByLastTwo_28 : decode bD_foretellByLastTwo 28 = .ok (.aload_n 0, 1) := by decide +kernel
theorem dD_foretellByLastTwo_29 : decode bD_foretellByLastTwo 29 = .ok (.getfield 19, 3) := by decide +kernel
theorem dD_foretellByLastTwo_32 : decode bD_foretellByLastTwo 32 = .ok (.iconst 1, 1) := by decide +kernel
theorem dD_foretellByLastTwo_33 : decode bD_foretellByLastTwo 33 = .ok (.isub, 1) := by decide +kernel
theorem dD_foretellByLastTwo_34 : decode bD_foretellByLastTwo 34 = .ok (.laload, 1) := by decide +kernel
theorem dD_foretellByLastTwo_35 : decode bD_foretellByLastTwo 35 = .ok (.lstore_n 3, 1) := by decide +kernel
theorem dD_foretellByLastTwo_36 : decode bD_foretellByLastTwo 36 = .ok (.aload_n 0, 1) := by decide +kernel
theorem dD_foretellByLastTwo_37 : decode bD_foretellByLastTwo 37 = .ok (.getfield 9, 3) := by decide +kernel
theorem dD_foretellByLastTwo_40 : decode bD_foretellByLastTwo 40 = .ok (.aload_n 0, 1) := by decide +kernel
theorem dD_foretellByLastTwo_41 : decode bD_foretellByLastTwo 41 = .ok (.getfield 19, 3) := by decide +kernel
theorem dD_foretellByLastTwo_44 : decode bD_foretellByLastTwo 44 = .ok (.iconst 2, 1) := by decide +kernel
theorem dD_foretellByLastTwo_45 : decode bD_foretellByLastTwo 45 = .ok (.isub, 1) := by decide +kernel
theorem dD_foretellByLastTwo_46 : decode bD_foretellByLastTwo 46 = .ok (.iaload, 1) := by decide +kernel
theorem dD_foretellByLastTwo_47 : decode bD_foretellByLastTwo 47 = .ok (.i2l, 1) := by decide +kernel
theorem dD_foretellByLastTwo_48 : decode bD_foretellByLastTwo 48 = .ok (.lstore 5, 2) := by decide +kernel
theorem dD_foretellByLastTwo_50 : decode bD_foretellByLastTwo 50 = .ok (.aload_n 0, 1) := by decide +kernel
theorem dD_foretellByLastTwo_51 : decode bD_foretellByLastTwo 51 = .ok (.getfield 9, 3) := by decide +kernel
theorem dD_foretellByLastTwo_54 : decode bD_foretellByLastTwo 54 = .ok (.aload_n 0, 1) := by decide +kernel
theorem dD_foretellByLastTwo_55 : decode bD_foretellByLastTwo 55 = .ok (.getfield 19, 3) := by decide +kernel
theorem dD_foretellByLastTwo_58 : decode bD_foretellByLastTwo 58 = .ok (.iconst 1, 1) := by decide +kernel
theorem dD_foretellByLastTwo_59 : decode bD_foretellByLastTwo 59 = .ok (.isub, 1) := by decide +kernel
theorem dD_foretellByLastTwo_60 : decode bD_foretellByLastTwo 60 = .ok (.iaload, 1) := by decide +kernel
theorem dD_foretellByLastTwo_61 : decode bD_foretellByLastTwo 61 = .ok (.i2l, 1) := by decide +kernel
theorem dD_foretellByLastTwo_62 : decode bD_foretellByLastTwo 62 = .ok (.lstore 7, 2) := by decide +kernel
theorem dD_foretellByLastTwo_64 : decode bD_foretellByLastTwo 64 = .ok (.lload_n 1, 1) := by decide +kernel
theorem dD_foretellByLastTwo_65 : decode bD_foretellByLastTwo 65 = .ok (.invokestatic 25, 3) := by decide +kernel
theorem dD_foretellByLastTwo_68 : decode bD_foretellByLastTwo 68 = .ok (.ifCond .ne 10, 3) := by decide +kernel
theorem dD_foretellByLastTwo_71 : decode bD_foretellByLastTwo 71 = .ok (.lload_n 3, 1) := by decide +kernel
theorem dD_foretellByLastTwo_72 : decode bD_foretellByLastTwo 72 = .ok (.invokestatic 25, 3) := by decide +kernel
theorem dD_foretellByLastTwo_75 : decode bD_foretellByLastTwo 75 = .ok (.ifCond .eq 7, 3) := by decide +kernel
theorem dD_foretellByLastTwo_78 : decode bD_foretellByLastTwo 78 = .ok (.ldc2_w 23, 3) := by decide +kernel
theorem dD_foretellByLastTwo_81 : decode bD_foretellByLastTwo 81 = .ok (.lreturn, 1) := by decide +kernel
theorem dD_foretellByLastTwo_82 : decode bD_foretellByLastTwo 82 = .ok (.lload 7, 2) := by decide +kernel
theorem dD_foretellByLastTwo_84 : decode bD_foretellByLastTwo 84 = .ok (.lload 5, 2) := by decide +kernel
theorem dD_foretellByLastTwo_86 : decode bD_foretellByLastTwo 86 = .ok (.lsub, 1) := by decide +kernel
theorem dD_foretellByLastTwo_87 : decode bD_foretellByLastTwo 87 = .ok (.lload_n 1, 1) := by decide +kernel
theorem dD_foretellByLastTwo_88 : decode bD_foretellByLastTwo 88 = .ok (.lmul, 1) := by decide +kernel
theorem dD_foretellByLastTwo_89 : decode bD_foretellByLastTwo 89 = .ok (.lload_n 3, 1) := by decide +kernel
theorem dD_foretellByLastTwo_90 : decode bD_foretellByLastTwo 90 = .ok (.lmul, 1) := by decide +kernel
theorem dD_foretellByLastTwo_91 : decode bD_foretellByLastTwo 91 = .ok (.lload 7, 2) := by decide +kernel
theorem dD_foretellByLastTwo_93 : decode bD_foretellByLastTwo 93 = .ok (.lload_n 1, 1) := by decide +kernel
theorem dD_foretellByLastTwo_94 : decode bD_foretellByLastTwo 94 = .ok (.lmul, 1) := by decide +kernel
theorem dD_foretellByLastTwo_95 : decode bD_foretellByLastTwo 95 = .ok (.lload 5, 2) := by decide +kernel
theorem dD_foretellByLastTwo_97 : decode bD_foretellByLastTwo 97 = .ok (.lload_n 3, 1) := by decide +kernel
theorem dD_foretellByLastTwo_98 : decode bD_foretellByLastTwo 98 = .ok (.lmul, 1) := by decide +kernel
theorem dD_foretellByLastTwo_99 : decode bD_foretellByLastTwo 99 = .ok (.lsub, 1) := by decide +kernel
theorem dD_foretellByLastTwo_100 : decode bD_foretellByLastTwo 100 = .ok (.invokestatic 31, 3) := by decide +kernel
theorem dD_foretellByLastTwo_103 : decode bD_foretellByLastTwo 103 = .ok (.lreturn, 1) := by decide +kernel
theorem dD_foretellByFirstAndLast_0 : decode bD_foretellByFirstAndLast 0 = .ok (.aload_n 0, 1) := by decide +kernel
theorem dD_foretellByFirstAndLast_1 : decode bD_foretellByFirstAndLast 1 = .ok (.getfield 19, 3) := by decide +kernel
theorem dD_foretellByFirstAndLast_4 : decode bD_foretellByFirstAndLast 4 = .ok (.iconst 2, 1) := by decide +kernel
theorem dD_foretellByFirstAndLast_5 : decode bD_foretellByFirstAndLast 5 = .ok (.if_icmp .ge 7, 3) := by decide +kernel
theorem dD_foretellByFirstAndLast_8 : decode bD_foretellByFirstAndLast 8 = .ok (.ldc2_w 23, 3) := by decide +kernel
theorem dD_foretellByFirstAndLast_11 : decode bD_foretellByFirstAndLast 11 = .ok (.lreturn, 1) := by decide +kernel
theorem dD_foretellByFirstAndLast_12 : decode bD_foretellByFirstAndLast 12 = .ok (.aload_n 0, 1) := by decide +kernel
theorem dD_foretellByFirstAndLast_13 : decode bD_foretellByFirstAndLast 13 = .ok (.getfield 15, 3) := by decide +kernel
theorem dD_foretellByFirstAndLast_16 : decode bD_foretellByFirstAndLast 16 = .ok (.iconst 0, 1) := by decide +kernel
theorem dD_foretellByFirstAndLast_17 : decode bD_foretellByFirstAndLast 17 = .ok (.laload, 1) := by decide +kernel
theorem dD_foretellByFirstAndLast_18 : decode bD_foretellByFirstAndLast 18 = .ok (.lstore_n 1, 1) := by decide +kernel
theorem dD_foretellByFirstAndLast_19 : decode bD_foretellByFirstAndLast 19 = .ok (.aload_n 0, 1) := by decide +kernel
theorem dD_foretellByFirstAndLast_20 : decode bD_foretellByFirstAndLast 20 = .ok (.getfield 15, 3) := by decide +kernel
theorem dD_foretellByFirstAndLast_23 : decode bD_foretellByFirstAndLast 23 = .ok (.aload_n 0, 1) := by decide +kernel
theorem dD_foretellByFirstAndLast_24 : decode bD_foretellByFirstAndLast 24 = .ok (.getfield 19, 3) := by decide +kernel
theorem dD_foretellByFirstAndLast_27 : decode bD_foretellByFirstAndLast 27 = .ok (.iconst 1, 1) := by decide +kernel
theorem dD_foretellByFirstAndLast_28 : decode bD_foretellByFirstAndLast 28 = .ok (.isub, 1) := by decide +kernel
theorem dD_foretellByFirstAndLast_29 : decode bD_foretellByFirstAndLast 29 = .ok (.laload, 1) := by decide +kernel
theorem dD_foretellByFirstAndLast_30 : decode bD_foretellByFirstAndLast 30 = .ok (.lstore_n 3, 1) := by decide +kernel
theorem dD_foretellByFirstAndLast_31 : decode bD_foretellByFirstAndLast 31 = .ok (.aload_n 0, 1) := by decide +kernel
theorem dD_foretellByFirstAndLast_32 : decode bD_foretellByFirstAndLast 32 = .ok (.getfield 9, 3) := by decide +kernel
theorem dD_foretellByFirstAndLast_35 : decode bD_foretellByFirstAndLast 35 = .ok (.aload_n 0, 1) := by decide +kernel
theorem dD_foretellByFirstAndLast_36 : decode bD_foretellByFirstAndLast 36 = .ok (.getfield 19, 3) := by decide +kernel
theorem dD_foretellByFirstAndLast_39 : decode bD_foretellByFirstAndLast 39 = .ok (.iconst 1, 1) := by decide +kernel
theorem dD_foretellByFirstAndLast_40 : decode bD_foretellByFirstAndLast 40 = .ok (.isub, 1) := by decide +kernel
theorem dD_foretellByFirstAndLast_41 : decode bD_foretellByFirstAndLast 41 = .ok (.iaload, 1) := by decide +kernel
theorem dD_foretellByFirstAndLast_42 : decode bD_foretellByFirstAndLast 42 = .ok (.aload_n 0, 1) := by decide +kernel
theorem dD_foretellByFirstAndLast_43 : decode bD_foretellByFirstAndLast 43 = .ok (.getfield 9, 3) := by decide +kernel
theorem dD_foretellByFirstAndLast_46 : decode bD_foretellByFirstAndLast 46 = .ok (.iconst 0, 1) := by decide +kernel
theorem dD_foretellByFirstAndLast_47 : decode bD_foretellByFirstAndLast 47 = .ok (.iaload, 1) := by decide +kernel
theorem dD_foretellByFirstAndLast_48 : decode bD_foretellByFirstAndLast 48 = .ok (.isub, 1) := by decide +kernel
theorem dD_foretellByFirstAndLast_49 : decode bD_foretellByFirstAndLast 49 = .ok (.i2l, 1) := by decide +kernel
theorem dD_foretellByFirstAndLast_50 : decode bD_foretellByFirstAndLast 50 = .ok (.lstore 5, 2) := by decide +kernel
theorem dD_foretellByFirstAndLast_52 : decode bD_foretellByFirstAndLast 52 = .ok (.lload_n 1, 1) := by decide +kernel
theorem dD_foretellByFirstAndLast_53 : decode bD_foretellByFirstAndLast 53 = .ok (.invokestatic 25, 3) := by decide +kernel
theorem dD_foretellByFirstAndLast_56 : decode bD_foretellByFirstAndLast 56 = .ok (.ifCond .ne 17, 3) := by decide +kernel
theorem dD_foretellByFirstAndLast_59 : decode bD_foretellByFirstAndLast 59 = .ok (.lload_n 3, 1) := by decide +kernel
theorem dD_foretellByFirstAndLast_60 : decode bD_foretellByFirstAndLast 60 = .ok (.invokestatic 25, 3) := by decide +kernel
theorem dD_foretellByFirstAndLast_63 : decode bD_foretellByFirstAndLast 63 = .ok (.ifCond .ne 10, 3) := by decide +kernel
theorem dD_foretellByFirstAndLast_66 : decode bD_foretellByFirstAndLast 66 = .ok (.lload 5, 2) := by decide +kernel
theorem dD_foretellByFirstAndLast_68 : decode bD_foretellByFirstAndLast 68 = .ok (.lconst 0, 1) := by decide +kernel
theorem dD_foretellByFirstAndLast_69 : decode bD_foretellByFirstAndLast 69 = .ok (.lcmp, 1) := by decide +kernel
theorem dD_foretellByFirstAndLast_70 : decode bD_foretellByFirstAndLast 70 = .ok (.ifCond .ne 7, 3) := by decide +kernel
theorem dD_foretellByFirstAndLast_73 : decode bD_foretellByFirstAndLast 73 = .ok (.ldc2_w 23, 3) := by decide +kernel
theorem dD_foretellByFirstAndLast_76 : decode bD_foretellByFirstAndLast 76 = .ok (.lreturn, 1) := by decide +kernel
theorem dD_foretellByFirstAndLast_77 : decode bD_foretellByFirstAndLast 77 = .ok (.lload_n 3, 1) := by decide +kernel
theorem dD_foretellByFirstAndLast_78 : decode bD_foretellByFirstAndLast 78 = .ok (.lload_n 3, 1) := by decide +kernel
theorem dD_foretellByFirstAndLast_79 : decode bD_foretellByFirstAndLast 79 = .ok (.lload_n 1, 1) := by decide +kernel
theorem dD_foretellByFirstAndLast_80 : decode bD_foretellByFirstAndLast 80 = .ok (.lsub, 1) := by decide +kernel
theorem dD_foretellByFirstAndLast_81 : decode bD_foretellByFirstAndLast 81 = .ok (.ldc2_w 35, 3) := by decide +kernel
theorem dD_foretellByFirstAndLast_84 : decode bD_foretellByFirstAndLast 84 = .ok (.lmul, 1) := by decide +kernel
theorem dD_foretellByFirstAndLast_85 : decode bD_foretellByFirstAndLast 85 = .ok (.lload 5, 2) := by decide +kernel
theorem dD_foretellByFirstAndLast_87 : decode bD_foretellByFirstAndLast 87 = .ok (.ldiv, 1) := by decide +kernel
theorem dD_foretellByFirstAndLast_88 : decode bD_foretellByFirstAndLast 88 = .ok (.ladd, 1) := by decide +kernel
theorem dD_foretellByFirstAndLast_89 : decode bD_foretellByFirstAndLast 89 = .ok (.lreturn, 1) := by decide +kernel
theorem dX_off_0 : decode bX_off 0 = .ok (.lload_n 1, 1) := by decide +kernel
theorem dX_off_1 : decode bX_off 1 = .ok (.lconst 0, 1) := by decide +kernel
theorem dX_off_2 : decode bX_off 2 = .ok (.lcmp, 1) := by decide +kernel
theorem dX_off_3 : decode bX_off 3 = .ok (.ifCond .ge 5, 3) := by decide +kernel
theorem dX_off_6 : decode bX_off 6 = .ok (.iconst (-1), 1) := by decide +kernel
theorem dX_off_7 : decode bX_off 7 = .ok (.ireturn, 1) := by decide +kernel
theorem dX_off_8 : decode bX_off 8 = .ok (.iconst 0, 1) := by decide +kernel
theorem dX_off_9 : decode bX_off 9 = .ok (.istore_n 3, 1) := by decide +kernel
theorem dX_off_10 : decode bX_off 10 = .ok (.iconst 0, 1) := by decide +kernel
theorem dX_off_11 : decode bX_off 11 = .ok (.istore 4, 2) := by decide +kernel
theorem dX_off_13 : decode bX_off 13 = .ok (.iload 4, 2) := by decide +kernel
theorem dX_off_15 : decode bX_off 15 = .ok (.aload_n 0, 1) := by decide +kernel
theorem dX_off_16 : decode bX_off 16 = .ok (.getfield 26, 3) := by decide +kernel
theorem dX_off_19 : decode bX_off 19 = .ok (.getfield 146, 3) := by decide +kernel
theorem dX_off_22 : decode bX_off 22 = .ok (.if_icmp .ge 62, 3) := by decide +kernel
theorem dX_off_25 : decode bX_off 25 = .ok (.aload_n 0, 1) := by decide +kernel
theorem dX_off_26 : decode bX_off 26 = .ok (.getfield 26, 3) := by decide +kernel
theorem dX_off_29 : decode bX_off 29 = .ok (.getfield 159, 3) := by decide +kernel
theorem dX_off_32 : decode bX_off 32 = .ok (.iload 4, 2) := by decide +kernel
theorem dX_off_34 : decode bX_off 34 = .ok (.iaload, 1) := by decide +kernel
theorem dX_off_35 : decode bX_off 35 = .ok (.istore 5, 2) := by decide +kernel
theorem dX_off_37 : decode bX_off 37 = .ok (.iload 5, 2) := by decide +kernel
theorem dX_off_39 : decode bX_off 39 = .ok (.aload_n 0, 1) := by decide +kernel
theorem dX_off_40 : decode bX_off 40 = .ok (.getfield 35, 3) := by decide +kernel
theorem dX_off_43 : decode bX_off 43 = .ok (.getfield 46, 3) := by decide +kernel
theorem dX_off_46 : decode bX_off 46 = .ok (.if_icmp .gt 32, 3) := by decide +kernel
theorem dX_off_49 : decode bX_off 49 = .ok (.aload_n 0, 1) := by decide +kernel
theorem dX_off_50 : decode bX_off 50 = .ok (.getfield 26, 3) := by decide +kernel
theorem dX_off_53 : decode bX_off 53 = .ok (.getfield 161, 3) := by decide +kernel
theorem dX_off_56 : decode bX_off 56 = .ok (.iload 4, 2) := by decide +kernel
theorem dX_off_58 : decode bX_off 58 = .ok (.laload, 1) := by decide +kernel
theorem dX_off_59 : decode bX_off 59 = .ok (.aload_n 0, 1) := by decide +kernel
theorem dX_off_60 : decode bX_off 60 = .ok (.getfield 42, 3) := by decide +kernel
theorem dX_off_63 : decode bX_off 63 = .ok (.iload 5, 2) := by decide +kernel
theorem dX_off_65 : decode bX_off 65 = .ok (.laload, 1) := by decide +kernel
theorem dX_off_66 : decode bX_off 66 = .ok (.lsub, 1) := by decide +kernel
theorem dX_off_67 : decode bX_off 67 = .ok (.invokestatic 164, 3) := by decide +kernel
theorem dX_off_70 : decode bX_off 70 = .ok (.lload_n 1, 1) := by decide +kernel
theorem dX_off_71 : decode bX_off 71 = .ok (.lcmp, 1) := by decide +kernel
theorem dX_off_72 : decode bX_off 72 = .ok (.ifCond .le 6, 3) := by decide +kernel
theorem dX_off_75 : decode bX_off 75 = .ok (.iinc 3 1, 3) := by decide +kernel
theorem dX_off_78 : decode bX_off 78 = .ok (.iinc 4 1, 3) := by decide +kernel
theorem dX_off_81 : decode bX_off 81 = .ok (.goto (-68), 3) := by decide +kernel
theorem dX_off_84 : decode bX_off 84 = .ok (.iload_n 3, 1) := by decide +kernel
theorem dX_off_85 : decode bX_off 85 = .ok (.ireturn, 1) := by decide +kernel
theorem dX_count_0 : decode bX_count 0 = .ok (.iload_n 1, 1) := by decide +kernel
theorem dX_count_1 : decode bX_count 1 = .ok (.tableswitch 88 0 5 #[39, 47, 55, 63, 71, 79], 39) := by decide +kernel
theorem dX_count_40 : decode bX_count 40 = .ok (.aload_n 0, 1) := by decide +kernel
theorem dX_count_41 : decode bX_count 41 = .ok (.getfield 10, 3) := by decide +kernel
theorem dX_count_44 : decode bX_count 44 = .ok (.getfield 93, 3) := by decide +kernel
theorem dX_count_47 : decode bX_count 47 = .ok (.ireturn, 1) := by decide +kernel
theorem dX_count_48 : decode bX_count 48 = .ok (.aload_n 0, 1) := by decide +kernel
theorem dX_count_49 : decode bX_count 49 = .ok (.getfield 10, 3) := by decide +kernel
theorem dX_count_52 : decode bX_count 52 = .ok (.getfield 57, 3) := by decide +kernel
theorem dX_count_55 : decode bX_count 55 = .ok (.ireturn, 1) := by decide +kernel
theorem dX_count_56 : decode bX_count 56 = .ok (.aload_n 0, 1) := by decide +kernel
theorem dX_count_57 : decode bX_count 57 = .ok (.getfield 19, 3) := by decide +kernel
theorem dX_count_60 : decode bX_count 60 = .ok (.getfield 50, 3) := by decide +kernel
theorem dX_count_63 : decode bX_count 63 = .ok (.ireturn, 1) := by decide +kernel
theorem dX_count_64 : decode bX_count 64 = .ok (.aload_n 0, 1) := by decide +kernel
theorem dX_count_65 : decode bX_count 65 = .ok (.getfield 35, 3) := by decide +kernel
theorem dX_count_68 : decode bX_count 68 = .ok (.getfield 46, 3) := by decide +kernel
theorem dX_count_71 : decode bX_count 71 = .ok (.ireturn, 1) := by decide +kernel
theorem dX_count_72 : decode bX_count 72 = .ok (.aload_n 0, 1) := by decide +kernel
theorem dX_count_73 : decode bX_count 73 = .ok (.getfield 26, 3) := by decide +kernel
theorem dX_count_76 : decode bX_count 76 = .ok (.getfield 146, 3) := by decide +kernel
theorem dX_count_79 : decode bX_count 79 = .ok (.ireturn, 1) := by decide +kernel
theorem dX_count_80 : decode bX_count 80 = .ok (.aload_n 0, 1) := by decide +kernel
theorem dX_count_81 : decode bX_count 81 = .ok (.getfield 35, 3) := by decide +kernel
theorem dX_count_84 : decode bX_count 84 = .ok (.getfield 119, 3) := by decide +kernel
theorem dX_count_87 : decode bX_count 87 = .ok (.l2i, 1) := by decide +kernel
theorem dX_count_88 : decode bX_count 88 = .ok (.ireturn, 1) := by decide +kernel
theorem dX_count_89 : decode bX_count 89 = .ok (.iconst (-1), 1) := by decide +kernel
theorem dX_count_90 : decode bX_count 90 = .ok (.ireturn, 1) := by decide +kernel
end
section
theorem dM_init_0 : decode bM_init 0 = .ok (.aload_n 0, 1) := by decide +kernel
theorem dM_init_1 : decode bM_init 1 = .ok (.invokespecial 1, 3) := by decide +kernel
theorem dM_init_4 : decode bM_init 4 = .ok (.aload_n 0, 1) := by decide +kernel
theorem dM_init_5 : decode bM_init 5 = .ok (.bipush 30, 2) := by decide +kernel
theorem dM_init_7 : decode bM_init 7 = .ok (.newarray .int, 2) := by decide +kernel
theorem dM_init_9 : decode bM_init 9 = .ok (.putfield 7, 3) := by decide +kernel
theorem dM_init_12 : decode bM_init 12 = .ok (.aload_n 0, 1) := by decide +kernel
theorem dM_init_13 : decode bM_init 13 = .ok (.bipush 30, 2) := by decide +kernel
theorem dM_init_15 : decode bM_init 15 = .ok (.newarray .int, 2) := by decide +kernel
theorem dM_init_17 : decode bM_init 17 = .ok (.putfield 13, 3) := by decide +kernel
theorem dM_init_20 : decode bM_init 20 = .ok (.aload_n 0, 1) := by decide +kernel
theorem dM_init_21 : decode bM_init 21 = .ok (.bipush 30, 2) := by decide +kernel
theorem dM_init_23 : decode bM_init 23 = .ok (.newarray .int, 2) := by decide +kernel
theorem dM_init_25 : decode bM_init 25 = .ok (.putfield 16, 3) := by decide +kernel
theorem dM_init_28 : decode bM_init 28 = .ok (.aload_n 0, 1) := by decide +kernel
theorem dM_init_29 : decode bM_init 29 = .ok (.bipush 30, 2) := by decide +kernel
theorem dM_init_31 : decode bM_init 31 = .ok (.newarray .int, 2) := by decide +kernel
theorem dM_init_33 : decode bM_init 33 = .ok (.putfield 19, 3) := by decide +kernel
theorem dM_init_36 : decode bM_init 36 = .ok (.aload_n 0, 1) := by decide +kernel
theorem dM_init_37 : decode bM_init 37 = .ok (.bipush 30, 2) := by decide +kernel
theorem dM_init_39 : decode bM_init 39 = .ok (.newarray .long, 2) := by decide +kernel
theorem dM_init_41 : decode bM_init 41 = .ok (.putfield 22, 3) := by decide +kernel
theorem dM_init_44 : decode bM_init 44 = .ok (.aload_n 0, 1) := by decide +kernel
theorem dM_init_45 : decode bM_init 45 = .ok (.bipush 30, 2) := by decide +kernel
theorem dM_init_47 : decode bM_init 47 = .ok (.newarray .long, 2) := by decide +kernel
theorem dM_init_49 : decode bM_init 49 = .ok (.putfield 26, 3) := by decide +kernel
theorem dM_init_52 : decode bM_init 52 = .ok (.aload_n 0, 1) := by decide +kernel
theorem dM_init_53 : decode bM_init 53 = .ok (.bipush 30, 2) := by decide +kernel
theorem dM_init_55 : decode bM_init 55 = .ok (.newarray .long, 2) := by decide +kernel
theorem dM_init_57 : decode bM_init 57 = .ok (.putfield 29, 3) := by decide +kernel
theorem dM_init_60 : decode bM_init 60 = .ok (.aload_n 0, 1) := by decide +kernel
theorem dM_init_61 : decode bM_init 61 = .ok (.iconst 1, 1) := by decide +kernel
theorem dM_init_62 : decode bM_init 62 = .ok (.putfield 32, 3) := by decide +kernel
theorem dM_init_65 : decode bM_init 65 = .ok (.aload_n 0, 1) := by decide +kernel
theorem dM_init_66 : decode bM_init 66 = .ok (.bipush 12, 2) := by decide +kernel
theorem dM_init_68 : decode bM_init 68 = .ok (.newarray .int, 2) := by decide +kernel
theorem dM_init_70 : decode bM_init 70 = .ok (.putfield 36, 3) := by decide +kernel
theorem dM_init_73 : decode bM_init 73 = .ok (.aload_n 0, 1) := by decide +kernel
theorem dM_init_74 : decode bM_init 74 = .ok (.bipush 12, 2) := by decide +kernel
theorem dM_init_76 : decode bM_init 76 = .ok (.newarray .int, 2) := by decide +kernel
theorem dM_init_78 : decode bM_init 78 = .ok (.putfield 39, 3) := by decide +kernel
theorem dM_init_81 : decode bM_init 81 = .ok (.aload_n 0, 1) := by decide +kernel
theorem dM_init_82 : decode bM_init 82 = .ok (.bipush 20, 2) := by decide +kernel
theorem dM_init_84 : decode bM_init 84 = .ok (.newarray .int, 2) := by decide +kernel
theorem dM_init_86 : decode bM_init 86 = .ok (.putfield 42, 3) := by decide +kernel
theorem dM_init_89 : decode bM_init 89 = .ok (.aload_n 0, 1) := by decide +kernel
theorem dM_init_90 : decode bM_init 90 = .ok (.bipush 20, 2) := by decide +kernel
theorem dM_init_92 : decode bM_init 92 = .ok (.newarray .long, 2) := by decide +kernel
theorem dM_init_94 : decode bM_init 94 = .ok (.putfield 45, 3) := by decide +kernel
theorem dM_init_97 : decode bM_init 97 = .ok (.aload_n 0, 1) := by decide +kernel
theorem dM_init_98 : decode bM_init 98 = .ok (.sipush 401, 3) := by decide +kernel
theorem dM_init_101 : decode bM_init 101 = .ok (.newarray .long, 2) := by decide +kernel
theorem dM_init_103 : decode bM_init 103 = .ok (.putfield 48, 3) := by decide +kernel
theorem dM_init_106 : decode bM_init 106 = .ok (.aload_n 0, 1) := by decide +kernel
theorem dM_init_107 : decode bM_init 107 = .ok (.bipush 31, 2) := by decide +kernel
theorem dM_init_109 : decode bM_init 109 = .ok (.newarray .long, 2) := by decide +kernel
theorem dM_init_111 : decode bM_init 111 = .ok (.putfield 51, 3) := by decide +kernel
theorem dM_init_114 : decode bM_init 114 = .ok (.aload_n 0, 1) := by decide +kernel
theorem dM_init_115 : decode bM_init 115 = .ok (.bipush 92, 2) := by decide +kernel
theorem dM_init_117 : decode bM_init 117 = .ok (.newarray .long, 2) := by decide +kernel
theorem dM_init_119 : decode bM_init 119 = .ok (.putfield 54, 3) := by decide +kernel
theorem dM_init_122 : decode bM_init 122 = .ok (.return_, 1) := by decide +kernel
theorem dM_layer_0 : decode bM_layer 0 = .ok (.iload_n 1, 1) := by decide +kernel
theorem dM_layer_1 : decode bM_layer 1 = .ok (.i2l, 1) := by decide +kernel
theorem dM_layer_2 : decode bM_layer 2 = .ok (.lconst 1, 1) := by decide +kernel
theorem dM_layer_3 : decode bM_layer 3 = .ok (.ldc2_w 57, 3) := by decide +kernel
theorem dM_layer_6 : decode bM_layer 6 = .ok (.invokestatic 59, 3) := by decide +kernel
theorem dM_layer_9 : decode bM_layer 9 = .ok (.ifCond .eq 63, 3) := by decide +kernel
theorem dM_layer_12 : decode bM_layer 12 = .ok (.iload_n 2, 1) := by decide +kernel
theorem dM_layer_13 : decode bM_layer 13 = .ok (.i2l, 1) := by decide +kernel
theorem dM_layer_14 : decode bM_layer 14 = .ok (.lconst 0, 1) := by decide +kernel
theorem dM_layer_15 : decode bM_layer 15 = .ok (.ldc2_w 63, 3) := by decide +kernel
theorem dM_layer_18 : decode bM_layer 18 = .ok (.invokestatic 59, 3) := by decide +kernel
theorem dM_layer_21 : decode bM_layer 21 = .ok (.ifCond .eq 51, 3) := by decide +kernel
theorem dM_layer_24 : decode bM_layer 24 = .ok (.iload_n 3, 1) := by decide +kernel
theorem dM_layer_25 : decode bM_layer 25 = .ok (.i2l, 1) := by decide +kernel
theorem dM_layer_26 : decode bM_layer 26 = .ok (.lconst 0, 1) := by decide +kernel
theorem dM_layer_27 : decode bM_layer 27 = .ok (.ldc2_w 65, 3) := by decide +kernel
theorem dM_layer_30 : decode bM_layer 30 = .ok (.invokestatic 59, 3) := by decide +kernel
theorem dM_layer_33 : decode bM_layer 33 = .ok (.ifCond .eq 39, 3) := by decide +kernel
theorem dM_layer_36 : decode bM_layer 36 = .ok (.iload 4, 2) := by decide +kernel
theorem dM_layer_38 : decode bM_layer 38 = .ok (.i2l, 1) := by decide +kernel
theorem dM_layer_39 : decode bM_layer 39 = .ok (.lconst 0, 1) := by decide +kernel
theorem dM_layer_40 : decode bM_layer 40 = .ok (.ldc2_w 65, 3) := by decide +kernel
theorem dM_layer_43 : decode bM_layer 43 = .ok (.invokestatic 59, 3) := by decide +kernel
theorem dM_layer_46 : decode bM_layer 46 = .ok (.ifCond .eq 26, 3) := by decide +kernel
theorem dM_layer_49 : decode bM_layer 49 = .ok (.iload 5, 2) := by decide +kernel
theorem dM_layer_51 : decode bM_layer 51 = .ok (.i2l, 1) := by decide +kernel
theorem dM_layer_52 : decode bM_layer 52 = .ok (.lconst 0, 1) := by decide +kernel
theorem dM_layer_53 : decode bM_layer 53 = .ok (.ldc2_w 67, 3) := by decide +kernel
theorem dM_layer_56 : decode bM_layer 56 = .ok (.invokestatic 59, 3) := by decide +kernel
theorem dM_layer_59 : decode bM_layer 59 = .ok (.ifCond .eq 13, 3) := by decide +kernel
theorem dM_layer_62 : decode bM_layer 62 = .ok (.iload 4, 2) := by decide +kernel
theorem dM_layer_64 : decode bM_layer 64 = .ok (.iload_n 3, 1) := by decide +kernel
theorem dM_layer_65 : decode bM_layer 65 = .ok (.if_icmp .lt 7, 3) := by decide +kernel
theorem dM_layer_68 : decode bM_layer 68 = .ok (.iconst 1, 1) := by decide +kernel
theorem dM_layer_69 : decode bM_layer 69 = .ok (.goto 4, 3) := by decide +kernel
theorem dM_layer_72 : decode bM_layer 72 = .ok (.iconst 0, 1) := by decide +kernel
theorem dM_layer_73 : decode bM_layer 73 = .ok (.istore 6, 2) := by decide +kernel
theorem dM_layer_75 : decode bM_layer 75 = .ok (.iload 6, 2) := by decide +kernel
theorem dM_layer_77 : decode bM_layer 77 = .ok (.ifCond .eq 28, 3) := by decide +kernel
theorem dM_layer_80 : decode bM_layer 80 = .ok (.aload_n 0, 1) := by decide +kernel
theorem dM_layer_81 : decode bM_layer 81 = .ok (.getfield 69, 3) := by decide +kernel
theorem dM_layer_84 : decode bM_layer 84 = .ok (.iload_n 1, 1) := by decide +kernel
theorem dM_layer_85 : decode bM_layer 85 = .ok (.iadd, 1) := by decide +kernel
theorem dM_layer_86 : decode bM_layer 86 = .ok (.bipush 30, 2) := by decide +kernel
theorem dM_layer_88 : decode bM_layer 88 = .ok (.if_icmp .gt 17, 3) := by decide +kernel
theorem dM_layer_91 : decode bM_layer 91 = .ok (.aload_n 0, 1) := by decide +kernel
theorem dM_layer_92 : decode bM_layer 92 = .ok (.getfield 73, 3) := by decide +kernel
theorem dM_layer_95 : decode bM_layer 95 = .ok (.ifCond .gt 10, 3) := by decide +kernel
theorem dM_layer_98 : decode bM_layer 98 = .ok (.aload_n 0, 1) := by decide +kernel
theorem dM_layer_99 : decode bM_layer 99 = .ok (.getfield 76, 3) := by decide +kernel
theorem dM_layer_102 : decode bM_layer 102 = .ok (.ifCond .le 5, 3) := by decide +kernel
theorem dM_layer_105 : decode bM_layer 105 = .ok (.iconst (-1), 1) := by decide +kernel
theorem dM_layer_106 : decode bM_layer 106 = .ok (.ireturn, 1) := by decide +kernel
theorem dM_layer_107 : decode bM_layer 107 = .ok (.iconst 0, 1) := by decide +kernel
theorem dM_layer_108 : decode bM_layer 108 = .ok (.istore 7, 2) := by decide +kernel
theorem dM_layer_110 : decode bM_layer 110 = .ok (.iload 7, 2) := by decide +kernel
theorem dM_layer_112 : decode bM_layer 112 = .ok (.iload_n 1, 1) := by decide +kernel
theorem dM_layer_113 : decode bM_layer 113 = .ok (.if_icmp .ge 75, 3) := by decide +kernel
theorem dM_layer_116 : decode bM_layer 116 = .ok (.aload_n 0, 1) := by decide +kernel
theorem dM_layer_117 : decode bM_layer 117 = .ok (.getfield 7, 3) := by decide +kernel
theorem dM_layer_120 : decode bM_layer 120 = .ok (.aload_n 0, 1) := by decide +kernel
theorem dM_layer_121 : decode bM_layer 121 = .ok (.getfield 69, 3) := by decide +kernel
theorem dM_layer_124 : decode bM_layer 124 = .ok (.aload_n 0, 1) := by decide +kernel
theorem dM_layer_125 : decode bM_layer 125 = .ok (.getfield 79, 3) := by decide +kernel
theorem dM_layer_128 : decode bM_layer 128 = .ok (.iastore, 1) := by decide +kernel
theorem dM_layer_129 : decode bM_layer 129 = .ok (.aload_n 0, 1) := by decide +kernel
theorem dM_layer_130 : decode bM_layer 130 = .ok (.getfield 13, 3) := by decide +kernel
theorem dM_layer_133 : decode bM_layer 133 = .ok (.aload_n 0, 1) := by decide +kernel
theorem dM_layer_134 : decode bM_layer 134 = .ok (.getfield 69, 3) := by decide +kernel
theorem dM_layer_137 : decode bM_layer 137 = .ok (.iload_n 2, 1) := by decide +kernel
theorem dM_layer_138 : decode bM_layer 138 = .ok (.iastore, 1) := by decide +kernel
theorem dM_layer_139 : decode bM_layer 139 = .ok (.aload_n 0, 1) := by decide +kernel
theorem dM_layer_140 : decode bM_layer 140 = .ok (.getfield 16, 3) := by decide +kernel
theorem dM_layer_143 : decode bM_layer 143 = .ok (.aload_n 0, 1) := by decide +kernel
theorem dM_layer_144 : decode bM_layer 144 = .ok (.getfield 69, 3) := by decide +kernel
theorem dM_layer_147 : decode bM_layer 147 = .ok (.iload_n 3, 1) := by decide +kernel
theorem dM_layer_148 : decode bM_layer 148 = .ok (.iastore, 1) := by decide +kernel
theorem dM_layer_149 : decode bM_layer 149 = .ok (.aload_n 0, 1) := by decide +kernel
theorem dM_layer_150 : decode bM_layer 150 = .ok (.getfield 19, 3) := by decide +kernel
theorem dM_layer_153 : decode bM_layer 153 = .ok (.aload_n 0, 1) := by decide +kernel
theorem dM_layer_154 : decode bM_layer 154 = .ok (.getfield 69, 3) := by decide +kernel
theorem dM_layer_157 : decode bM_layer 157 = .ok (.iload 4, 2) := by decide +kernel
theorem dM_layer_159 : decode bM_layer 159 = .ok (.iastore, 1) := by decide +kernel
theorem dM_layer_160 : decode bM_layer 160 = .ok (.aload_n 0, 1) := by decide +kernel
theorem dM_layer_161 : decode bM_layer 161 = .ok (.getfield 26, 3) := by decide +kernel
theorem dM_layer_164 : decode bM_layer 164 = .ok (.aload_n 0, 1) := by decide +kernel
theorem dM_layer_165 : decode bM_layer 165 = .ok (.getfield 69, 3) := by decide +kernel
theorem dM_layer_168 : decode bM_layer 168 = .ok (.iload 5, 2) := by decide +kernel
theorem dM_layer_170 : decode bM_layer 170 = .ok (.i2l, 1) := by decide +kernel
theorem dM_layer_171 : decode bM_layer 171 = .ok (.lastore, 1) := by decide +kernel
theorem dM_layer_172 : decode bM_layer 172 = .ok (.aload_n 0, 1) := by decide +kernel
theorem dM_layer_173 : decode bM_layer 173 = .ok (.dup, 1) := by decide +kernel
theorem dM_layer_174 : decode bM_layer 174 = .ok (.getfield 69, 3) := by decide +kernel
theorem dM_layer_177 : decode bM_layer 177 = .ok (.iconst 1, 1) := by decide +kernel
theorem dM_layer_178 : decode bM_layer 178 = .ok (.iadd, 1) := by decide +kernel
theorem dM_layer_179 : decode bM_layer 179 = .ok (.putfield 69, 3) := by decide +kernel
theorem dM_layer_182 : decode bM_layer 182 = .ok (.iinc 7 1, 3) := by decide +kernel
theorem dM_layer_185 : decode bM_layer 185 = .ok (.goto (-75), 3) := by decide +kernel
theorem dM_layer_188 : decode bM_layer 188 = .ok (.aload_n 0, 1) := by decide +kernel
theorem dM_layer_189 : decode bM_layer 189 = .ok (.dup, 1) := by decide +kernel
theorem dM_layer_190 : decode bM_layer 190 = .ok (.getfield 79, 3) := by decide +kernel
theorem dM_layer_193 : decode bM_layer 193 = .ok (.iconst 1, 1) := by decide +kernel
theorem dM_layer_194 : decode bM_layer 194 = .ok (.iadd, 1) := by decide +kernel
theorem dM_layer_195 : decode bM_layer 195 = .ok (.putfield 79, 3) := by decide +kernel
theorem dM_layer_198 : decode bM_layer 198 = .ok (.aload_n 0, 1) := by decide +kernel
theorem dM_layer_199 : decode bM_layer 199 = .ok (.getfield 79, 3) := by decide +kernel
theorem dM_layer_202 : decode bM_layer 202 = .ok (.iconst 1, 1) := by decide +kernel
theorem dM_layer_203 : decode bM_layer 203 = .ok (.isub, 1) := by decide +kernel
theorem dM_layer_204 : decode bM_layer 204 = .ok (.ireturn, 1) := by decide +kernel
theorem dM_in_0 : decode bM_in 0 = .ok (.lload_n 0, 1) := by decide +kernel
theorem dM_in_1 : decode bM_in 1 = .ok (.lload_n 2, 1) := by decide +kernel
theorem dM_in_2 : decode bM_in 2 = .ok (.lcmp, 1) := by decide +kernel
theorem dM_in_3 : decode bM_in 3 = .ok (.ifCond .lt 14, 3) := by decide +kernel
theorem dM_in_6 : decode bM_in 6 = .ok (.lload_n 0, 1) := by decide +kernel
theorem dM_in_7 : decode bM_in 7 = .ok (.lload 4, 2) := by decide +kernel
theorem dM_in_9 : decode bM_in 9 = .ok (.lcmp, 1) := by decide +kernel
theorem dM_in_10 : decode bM_in 10 = .ok (.ifCond .gt 7, 3) := by decide +kernel
theorem dM_in_13 : decode bM_in 13 = .ok (.iconst 1, 1) := by decide +kernel
theorem dM_in_14 : decode bM_in 14 = .ok (.goto 4, 3) := by decide +kernel
theorem dM_in_17 : decode bM_in 17 = .ok (.iconst 0, 1) := by decide +kernel
theorem dM_in_18 : decode bM_in 18 = .ok (.ireturn, 1) := by decide +kernel
theorem dM_drains_0 : decode bM_drains 0 = .ok (.iload_n 3, 1) := by decide +kernel
theorem dM_drains_1 : decode bM_drains 1 = .ok (.i2l, 1) := by decide +kernel
theorem dM_drains_2 : decode bM_drains 2 = .ok (.lconst 0, 1) := by decide +kernel
theorem dM_drains_3 : decode bM_drains 3 = .ok (.ldc2_w 82, 3) := by decide +kernel
theorem dM_drains_6 : decode bM_drains 6 = .ok (.invokestatic 59, 3) := by decide +kernel
theorem dM_drains_9 : decode bM_drains 9 = .ok (.ifCond .ne 5, 3) := by decide +kernel
theorem dM_drains_12 : decode bM_drains 12 = .ok (.iconst 0, 1) := by decide +kernel
theorem dM_drains_13 : decode bM_drains 13 = .ok (.ireturn, 1) := by decide +kernel
theorem dM_drains_14 : decode bM_drains 14 = .ok (.aload_n 0, 1) := by decide +kernel
theorem dM_drains_15 : decode bM_drains 15 = .ok (.iload_n 1, 1) := by decide +kernel
theorem dM_drains_16 : decode bM_drains 16 = .ok (.putfield 32, 3) := by decide +kernel
theorem dM_drains_19 : decode bM_drains 19 = .ok (.aload_n 0, 1) := by decide +kernel
theorem dM_drains_20 : decode bM_drains 20 = .ok (.iload_n 2, 1) := by decide +kernel
theorem dM_drains_21 : decode bM_drains 21 = .ok (.putfield 84, 3) := by decide +kernel
theorem dM_drains_24 : decode bM_drains 24 = .ok (.aload_n 0, 1) := by decide +kernel
theorem dM_drains_25 : decode bM_drains 25 = .ok (.iload_n 3, 1) := by decide +kernel
theorem dM_drains_26 : decode bM_drains 26 = .ok (.putfield 87, 3) := by decide +kernel
theorem dM_drains_29 : decode bM_drains 29 = .ok (.iconst 1, 1) := by decide +kernel
theorem dM_drains_30 : decode bM_drains 30 = .ok (.ireturn, 1) := by decide +kernel
theorem dM_load_0 : decode bM_load 0 = .ok (.iload_n 1, 1) := by decide +kernel
theorem dM_load_1 : decode bM_load 1 = .ok (.i2l, 1) := by decide +kernel
theorem dM_load_2 : decode bM_load 2 = .ok (.aload_n 0, 1) := by decide +kernel
theorem dM_load_3 : decode bM_load 3 = .ok (.getfield 73, 3) := by decide +kernel
theorem dM_load_6 : decode bM_load 6 = .ok (.i2l, 1) := by decide +kernel
theorem dM_load_7 : decode bM_load 7 = .ok (.ldc2_w 90, 3) := by decide +kernel
theorem dM_load_10 : decode bM_load 10 = .ok (.invokestatic 59, 3) := by decide +kernel
theorem dM_load_13 : decode bM_load 13 = .ok (.ifCond .eq 24, 3) := by decide +kernel
theorem dM_load_16 : decode bM_load 16 = .ok (.iload_n 2, 1) := by decide +kernel
theorem dM_load_17 : decode bM_load 17 = .ok (.i2l, 1) := by decide +kernel
theorem dM_load_18 : decode bM_load 18 = .ok (.lconst 1, 1) := by decide +kernel
theorem dM_load_19 : decode bM_load 19 = .ok (.ldc2_w 92, 3) := by decide +kernel
theorem dM_load_22 : decode bM_load 22 = .ok (.invokestatic 59, 3) := by decide +kernel
theorem dM_load_25 : decode bM_load 25 = .ok (.ifCond .eq 12, 3) := by decide +kernel
theorem dM_load_28 : decode bM_load 28 = .ok (.aload_n 0, 1) := by decide +kernel
theorem dM_load_29 : decode bM_load 29 = .ok (.getfield 76, 3) := by decide +kernel
theorem dM_load_32 : decode bM_load 32 = .ok (.bipush 12, 2) := by decide +kernel
theorem dM_load_34 : decode bM_load 34 = .ok (.if_icmp .ne 5, 3) := by decide +kernel
theorem dM_load_37 : decode bM_load 37 = .ok (.iconst (-1), 1) := by decide +kernel
theorem dM_load_38 : decode bM_load 38 = .ok (.ireturn, 1) := by decide +kernel
theorem dM_load_39 : decode bM_load 39 = .ok (.aload_n 0, 1) := by decide +kernel
theorem dM_load_40 : decode bM_load 40 = .ok (.getfield 36, 3) := by decide +kernel
theorem dM_load_43 : decode bM_load 43 = .ok (.aload_n 0, 1) := by decide +kernel
theorem dM_load_44 : decode bM_load 44 = .ok (.getfield 76, 3) := by decide +kernel
theorem dM_load_47 : decode bM_load 47 = .ok (.iload_n 1, 1) := by decide +kernel
theorem dM_load_48 : decode bM_load 48 = .ok (.iastore, 1) := by decide +kernel
theorem dM_load_49 : decode bM_load 49 = .ok (.aload_n 0, 1) := by decide +kernel
theorem dM_load_50 : decode bM_load 50 = .ok (.getfield 39, 3) := by decide +kernel
theorem dM_load_53 : decode bM_load 53 = .ok (.aload_n 0, 1) := by decide +kernel
theorem dM_load_54 : decode bM_load 54 = .ok (.getfield 76, 3) := by decide +kernel
theorem dM_load_57 : decode bM_load 57 = .ok (.iload_n 2, 1) := by decide +kernel
theorem dM_load_58 : decode bM_load 58 = .ok (.iastore, 1) := by decide +kernel
theorem dM_load_59 : decode bM_load 59 = .ok (.aload_n 0, 1) := by decide +kernel
theorem dM_load_60 : decode bM_load 60 = .ok (.dup, 1) := by decide +kernel
theorem dM_load_61 : decode bM_load 61 = .ok (.getfield 76, 3) := by decide +kernel
theorem dM_load_64 : decode bM_load 64 = .ok (.iconst 1, 1) := by decide +kernel
theorem dM_load_65 : decode bM_load 65 = .ok (.iadd, 1) := by decide +kernel
theorem dM_load_66 : decode bM_load 66 = .ok (.putfield 76, 3) := by decide +kernel
theorem dM_load_69 : decode bM_load 69 = .ok (.aload_n 0, 1) := by decide +kernel
theorem dM_load_70 : decode bM_load 70 = .ok (.getfield 76, 3) := by decide +kernel
theorem dM_load_73 : decode bM_load 73 = .ok (.ireturn, 1) := by decide +kernel
theorem dM_run_0 : decode bM_run 0 = .ok (.iload_n 1, 1) := by decide +kernel
theorem dM_run_1 : decode bM_run 1 = .ok (.i2l, 1) := by decide +kernel
theorem dM_run_2 : decode bM_run 2 = .ok (.lconst 1, 1) := by decide +kernel
theorem dM_run_3 : decode bM_run 3 = .ok (.ldc2_w 108, 3) := by decide +kernel
theorem dM_run_6 : decode bM_run 6 = .ok (.invokestatic 59, 3) := by decide +kernel
theorem dM_run_9 : decode bM_run 9 = .ok (.ifCond .eq 22, 3) := by decide +kernel
theorem dM_run_12 : decode bM_run 12 = .ok (.aload_n 0, 1) := by decide +kernel
theorem dM_run_13 : decode bM_run 13 = .ok (.getfield 73, 3) := by decide +kernel
theorem dM_run_16 : decode bM_run 16 = .ok (.iload_n 1, 1) := by decide +kernel
theorem dM_run_17 : decode bM_run 17 = .ok (.iadd, 1) := by decide +kernel
theorem dM_run_18 : decode bM_run 18 = .ok (.sipush 400, 3) := by decide +kernel
theorem dM_run_21 : decode bM_run 21 = .ok (.if_icmp .gt 10, 3) := by decide +kernel
theorem dM_run_24 : decode bM_run 24 = .ok (.aload_n 0, 1) := by decide +kernel
theorem dM_run_25 : decode bM_run 25 = .ok (.getfield 79, 3) := by decide +kernel
theorem dM_run_28 : decode bM_run 28 = .ok (.ifCond .ne 5, 3) := by decide +kernel
theorem dM_run_31 : decode bM_run 31 = .ok (.iconst (-1), 1) := by decide +kernel
theorem dM_run_32 : decode bM_run 32 = .ok (.ireturn, 1) := by decide +kernel
theorem dM_run_33 : decode bM_run 33 = .ok (.iconst 0, 1) := by decide +kernel
theorem dM_run_34 : decode bM_run 34 = .ok (.istore_n 2, 1) := by decide +kernel
theorem dM_run_35 : decode bM_run 35 = .ok (.iload_n 2, 1) := by decide +kernel
theorem dM_run_36 : decode bM_run 36 = .ok (.iload_n 1, 1) := by decide +kernel
theorem dM_run_37 : decode bM_run 37 = .ok (.if_icmp .ge 46, 3) := by decide +kernel
theorem dM_run_40 : decode bM_run 40 = .ok (.aload_n 0, 1) := by decide +kernel
theorem dM_run_41 : decode bM_run 41 = .ok (.aload_n 0, 1) := by decide +kernel
theorem dM_run_42 : decode bM_run 42 = .ok (.getfield 73, 3) := by decide +kernel
theorem dM_run_45 : decode bM_run 45 = .ok (.lconst 0, 1) := by decide +kernel
theorem dM_run_46 : decode bM_run 46 = .ok (.invokevirtual 110, 3) := by decide +kernel
theorem dM_run_49 : decode bM_run 49 = .ok (.aload_n 0, 1) := by decide +kernel
theorem dM_run_50 : decode bM_run 50 = .ok (.dup, 1) := by decide +kernel
theorem dM_run_51 : decode bM_run 51 = .ok (.getfield 73, 3) := by decide +kernel
theorem dM_run_54 : decode bM_run 54 = .ok (.iconst 1, 1) := by decide +kernel
theorem dM_run_55 : decode bM_run 55 = .ok (.iadd, 1) := by decide +kernel
theorem dM_run_56 : decode bM_run 56 = .ok (.putfield 73, 3) := by decide +kernel
theorem dM_run_59 : decode bM_run 59 = .ok (.aload_n 0, 1) := by decide +kernel
theorem dM_run_60 : decode bM_run 60 = .ok (.getfield 48, 3) := by decide +kernel
theorem dM_run_63 : decode bM_run 63 = .ok (.aload_n 0, 1) := by decide +kernel
theorem dM_run_64 : decode bM_run 64 = .ok (.getfield 73, 3) := by decide +kernel
theorem dM_run_67 : decode bM_run 67 = .ok (.aload_n 0, 1) := by decide +kernel
theorem dM_run_68 : decode bM_run 68 = .ok (.iconst (-1), 1) := by decide +kernel
theorem dM_run_69 : decode bM_run 69 = .ok (.invokevirtual 114, 3) := by decide +kernel
theorem dM_run_72 : decode bM_run 72 = .ok (.ldc2_w 65, 3) := by decide +kernel
theorem dM_run_75 : decode bM_run 75 = .ok (.ldiv, 1) := by decide +kernel
theorem dM_run_76 : decode bM_run 76 = .ok (.lastore, 1) := by decide +kernel
theorem dM_run_77 : decode bM_run 77 = .ok (.iinc 2 1, 3) := by decide +kernel
theorem dM_run_80 : decode bM_run 80 = .ok (.goto (-45), 3) := by decide +kernel
theorem dM_run_83 : decode bM_run 83 = .ok (.aload_n 0, 1) := by decide +kernel
theorem dM_run_84 : decode bM_run 84 = .ok (.getfield 73, 3) := by decide +kernel
theorem dM_run_87 : decode bM_run 87 = .ok (.ireturn, 1) := by decide +kernel
theorem dM_goDay_0 : decode bM_goDay 0 = .ok (.lload_n 2, 1) := by decide +kernel
theorem dM_goDay_1 : decode bM_goDay 1 = .ok (.lstore 4, 2) := by decide +kernel
theorem dM_goDay_3 : decode bM_goDay 3 = .ok (.iconst 0, 1) := by decide +kernel
theorem dM_goDay_4 : decode bM_goDay 4 = .ok (.istore 6, 2) := by decide +kernel
theorem dM_goDay_6 : decode bM_goDay 6 = .ok (.iload 6, 2) := by decide +kernel
theorem dM_goDay_8 : decode bM_goDay 8 = .ok (.aload_n 0, 1) := by decide +kernel
theorem dM_goDay_9 : decode bM_goDay 9 = .ok (.getfield 76, 3) := by decide +kernel
theorem dM_goDay_12 : decode bM_goDay 12 = .ok (.if_icmp .ge 37, 3) := by decide +kernel
theorem dM_goDay_15 : decode bM_goDay 15 = .ok (.lload 4, 2) := by decide +kernel
theorem dM_goDay_17 : decode bM_goDay 17 = .ok (.aload_n 0, 1) := by decide +kernel
theorem dM_goDay_18 : decode bM_goDay 18 = .ok (.getfield 36, 3) := by decide +kernel
theorem dM_goDay_21 : decode bM_goDay 21 = .ok (.iload 6, 2) := by decide +kernel
theorem dM_goDay_23 : decode bM_goDay 23 = .ok (.iaload, 1) := by decide +kernel
theorem dM_goDay_24 : decode bM_goDay 24 = .ok (.iload_n 1, 1) := by decide +kernel
theorem dM_goDay_25 : decode bM_goDay 25 = .ok (.if_icmp .ne 14, 3) := by decide +kernel
theorem dM_goDay_28 : decode bM_goDay 28 = .ok (.aload_n 0, 1) := by decide +kernel
theorem dM_goDay_29 : decode bM_goDay 29 = .ok (.getfield 39, 3) := by decide +kernel
theorem dM_goDay_32 : decode bM_goDay 32 = .ok (.iload 6, 2) := by decide +kernel
theorem dM_goDay_34 : decode bM_goDay 34 = .ok (.iaload, 1) := by decide +kernel
theorem dM_goDay_35 : decode bM_goDay 35 = .ok (.i2l, 1) := by decide +kernel
theorem dM_goDay_36 : decode bM_goDay 36 = .ok (.goto 4, 3) := by decide +kernel
theorem dM_goDay_39 : decode bM_goDay 39 = .ok (.lconst 0, 1) := by decide +kernel
theorem dM_goDay_40 : decode bM_goDay 40 = .ok (.ladd, 1) := by decide +kernel
theorem dM_goDay_41 : decode bM_goDay 41 = .ok (.lstore 4, 2) := by decide +kernel
theorem dM_goDay_43 : decode bM_goDay 43 = .ok (.iinc 6 1, 3) := by decide +kernel
theorem dM_goDay_46 : decode bM_goDay 46 = .ok (.goto (-40), 3) := by decide +kernel
theorem dM_goDay_49 : decode bM_goDay 49 = .ok (.aload_n 0, 1) := by decide +kernel
theorem dM_goDay_50 : decode bM_goDay 50 = .ok (.dup, 1) := by decide +kernel
theorem dM_goDay_51 : decode bM_goDay 51 = .ok (.getfield 98, 3) := by decide +kernel
theorem dM_goDay_54 : decode bM_goDay 54 = .ok (.lload 4, 2) := by decide +kernel
theorem dM_goDay_56 : decode bM_goDay 56 = .ok (.ladd, 1) := by decide +kernel
theorem dM_goDay_57 : decode bM_goDay 57 = .ok (.putfield 98, 3) := by decide +kernel
theorem dM_goDay_60 : decode bM_goDay 60 = .ok (.iconst 0, 1) := by decide +kernel
theorem dM_goDay_61 : decode bM_goDay 61 = .ok (.istore 6, 2) := by decide +kernel
theorem dM_goDay_63 : decode bM_goDay 63 = .ok (.iload 6, 2) := by decide +kernel
theorem dM_goDay_65 : decode bM_goDay 65 = .ok (.aload_n 0, 1) := by decide +kernel
theorem dM_goDay_66 : decode bM_goDay 66 = .ok (.getfield 69, 3) := by decide +kernel
theorem dM_goDay_69 : decode bM_goDay 69 = .ok (.if_icmp .ge 21, 3) := by decide +kernel
theorem dM_goDay_72 : decode bM_goDay 72 = .ok (.aload_n 0, 1) := by decide +kernel
theorem dM_goDay_73 : decode bM_goDay 73 = .ok (.getfield 22, 3) := by decide +kernel
theorem dM_goDay_76 : decode bM_goDay 76 = .ok (.iload 6, 2) := by decide +kernel
theorem dM_goDay_78 : decode bM_goDay 78 = .ok (.dup2, 1) := by decide +kernel
theorem dM_goDay_79 : decode bM_goDay 79 = .ok (.laload, 1) := by decide +kernel
theorem dM_goDay_80 : decode bM_goDay 80 = .ok (.lload 4, 2) := by decide +kernel
theorem dM_goDay_82 : decode bM_goDay 82 = .ok (.ladd, 1) := by decide +kernel
theorem dM_goDay_83 : decode bM_goDay 83 = .ok (.lastore, 1) := by decide +kernel
theorem dM_goDay_84 : decode bM_goDay 84 = .ok (.iinc 6 1, 3) := by decide +kernel
theorem dM_goDay_87 : decode bM_goDay 87 = .ok (.goto (-24), 3) := by decide +kernel
theorem dM_goDay_90 : decode bM_goDay 90 = .ok (.iconst 0, 1) := by decide +kernel
theorem dM_goDay_91 : decode bM_goDay 91 = .ok (.istore 6, 2) := by decide +kernel
theorem dM_goDay_93 : decode bM_goDay 93 = .ok (.iload 6, 2) := by decide +kernel
theorem dM_goDay_95 : decode bM_goDay 95 = .ok (.bipush 24, 2) := by decide +kernel
theorem dM_goDay_97 : decode bM_goDay 97 = .ok (.if_icmp .ge 13, 3) := by decide +kernel
theorem dM_goDay_100 : decode bM_goDay 100 = .ok (.aload_n 0, 1) := by decide +kernel
theorem dM_goDay_101 : decode bM_goDay 101 = .ok (.invokevirtual 105, 3) := by decide +kernel
theorem dM_goDay_104 : decode bM_goDay 104 = .ok (.iinc 6 1, 3) := by decide +kernel
theorem dM_goDay_107 : decode bM_goDay 107 = .ok (.goto (-14), 3) := by decide +kernel
theorem dM_goDay_110 : decode bM_goDay 110 = .ok (.return_, 1) := by decide +kernel
theorem dM_step_0 : decode bM_step 0 = .ok (.iconst 0, 1) := by decide +kernel
theorem dM_step_1 : decode bM_step 1 = .ok (.istore_n 1, 1) := by decide +kernel
theorem dM_step_2 : decode bM_step 2 = .ok (.iload_n 1, 1) := by decide +kernel
theorem dM_step_3 : decode bM_step 3 = .ok (.aload_n 0, 1) := by decide +kernel
theorem dM_step_4 : decode bM_step 4 = .ok (.getfield 69, 3) := by decide +kernel
theorem dM_step_7 : decode bM_step 7 = .ok (.if_icmp .gt 161, 3) := by decide +kernel
theorem dM_step_10 : decode bM_step 10 = .ok (.lconst 0, 1) := by decide +kernel
theorem dM_step_11 : decode bM_step 11 = .ok (.lstore_n 2, 1) := by decide +kernel
theorem dM_step_12 : decode bM_step 12 = .ok (.iload_n 1, 1) := by decide +kernel
theorem dM_step_13 : decode bM_step 13 = .ok (.ifCond .ne 37, 3) := by decide +kernel
theorem dM_step_16 : decode bM_step 16 = .ok (.aload_n 0, 1) := by decide +kernel
theorem dM_step_17 : decode bM_step 17 = .ok (.getfield 32, 3) := by decide +kernel
theorem dM_step_20 : decode bM_step 20 = .ok (.ifCond .eq 25, 3) := by decide +kernel
theorem dM_step_23 : decode bM_step 23 = .ok (.aload_n 0, 1) := by decide +kernel
theorem dM_step_24 : decode bM_step 24 = .ok (.getfield 22, 3) := by decide +kernel
theorem dM_step_27 : decode bM_step 27 = .ok (.iconst 0, 1) := by decide +kernel
theorem dM_step_28 : decode bM_step 28 = .ok (.laload, 1) := by decide +kernel
theorem dM_step_29 : decode bM_step 29 = .ok (.aload_n 0, 1) := by decide +kernel
theorem dM_step_30 : decode bM_step 30 = .ok (.getfield 13, 3) := by decide +kernel
theorem dM_step_33 : decode bM_step 33 = .ok (.iconst 0, 1) := by decide +kernel
theorem dM_step_34 : decode bM_step 34 = .ok (.iaload, 1) := by decide +kernel
theorem dM_step_35 : decode bM_step 35 = .ok (.i2l, 1) := by decide +kernel
theorem dM_step_36 : decode bM_step 36 = .ok (.lmul, 1) := by decide +kernel
theorem dM_step_37 : decode bM_step 37 = .ok (.ldc2_w 65, 3) := by decide +kernel
theorem dM_step_40 : decode bM_step 40 = .ok (.ldiv, 1) := by decide +kernel
theorem dM_step_41 : decode bM_step 41 = .ok (.lneg, 1) := by decide +kernel
theorem dM_step_42 : decode bM_step 42 = .ok (.goto 4, 3) := by decide +kernel
theorem dM_step_45 : decode bM_step 45 = .ok (.lconst 0, 1) := by decide +kernel
theorem dM_step_46 : decode bM_step 46 = .ok (.lstore_n 2, 1) := by decide +kernel
theorem dM_step_47 : decode bM_step 47 = .ok (.goto 108, 3) := by decide +kernel
theorem dM_step_50 : decode bM_step 50 = .ok (.iload_n 1, 1) := by decide +kernel
theorem dM_step_51 : decode bM_step 51 = .ok (.aload_n 0, 1) := by decide +kernel
theorem dM_step_52 : decode bM_step 52 = .ok (.getfield 69, 3) := by decide +kernel
theorem dM_step_55 : decode bM_step 55 = .ok (.if_icmp .ne 40, 3) := by decide +kernel
theorem dM_step_58 : decode bM_step 58 = .ok (.aload_n 0, 1) := by decide +kernel
theorem dM_step_59 : decode bM_step 59 = .ok (.getfield 84, 3) := by decide +kernel
theorem dM_step_62 : decode bM_step 62 = .ok (.ifCond .eq 28, 3) := by decide +kernel
theorem dM_step_65 : decode bM_step 65 = .ok (.aload_n 0, 1) := by decide +kernel
theorem dM_step_66 : decode bM_step 66 = .ok (.getfield 22, 3) := by decide +kernel
theorem dM_step_69 : decode bM_step 69 = .ok (.iload_n 1, 1) := by decide +kernel
theorem dM_step_70 : decode bM_step 70 = .ok (.iconst 1, 1) := by decide +kernel
theorem dM_step_71 : decode bM_step 71 = .ok (.isub, 1) := by decide +kernel
theorem dM_step_72 : decode bM_step 72 = .ok (.laload, 1) := by decide +kernel
theorem dM_step_73 : decode bM_step 73 = .ok (.aload_n 0, 1) := by decide +kernel
theorem dM_step_74 : decode bM_step 74 = .ok (.getfield 13, 3) := by decide +kernel
theorem dM_step_77 : decode bM_step 77 = .ok (.iload_n 1, 1) := by decide +kernel
theorem dM_step_78 : decode bM_step 78 = .ok (.iconst 1, 1) := by decide +kernel
theorem dM_step_79 : decode bM_step 79 = .ok (.isub, 1) := by decide +kernel
theorem dM_step_80 : decode bM_step 80 = .ok (.iaload, 1) := by decide +kernel
theorem dM_step_81 : decode bM_step 81 = .ok (.i2l, 1) := by decide +kernel
theorem dM_step_82 : decode bM_step 82 = .ok (.lmul, 1) := by decide +kernel
theorem dM_step_83 : decode bM_step 83 = .ok (.ldc2_w 65, 3) := by decide +kernel
theorem dM_step_86 : decode bM_step 86 = .ok (.ldiv, 1) := by decide +kernel
theorem dM_step_87 : decode bM_step 87 = .ok (.goto 4, 3) := by decide +kernel
theorem dM_step_90 : decode bM_step 90 = .ok (.lconst 0, 1) := by decide +kernel
theorem dM_step_91 : decode bM_step 91 = .ok (.lstore_n 2, 1) := by decide +kernel
theorem dM_step_92 : decode bM_step 92 = .ok (.goto 63, 3) := by decide +kernel
theorem dM_step_95 : decode bM_step 95 = .ok (.aload_n 0, 1) := by decide +kernel
theorem dM_step_96 : decode bM_step 96 = .ok (.getfield 13, 3) := by decide +kernel
theorem dM_step_99 : decode bM_step 99 = .ok (.iload_n 1, 1) := by decide +kernel
theorem dM_step_100 : decode bM_step 100 = .ok (.iconst 1, 1) := by decide +kernel
theorem dM_step_101 : decode bM_step 101 = .ok (.isub, 1) := by decide +kernel
theorem dM_step_102 : decode bM_step 102 = .ok (.iaload, 1) := by decide +kernel
theorem dM_step_103 : decode bM_step 103 = .ok (.aload_n 0, 1) := by decide +kernel
theorem dM_step_104 : decode bM_step 104 = .ok (.getfield 13, 3) := by decide +kernel
theorem dM_step_107 : decode bM_step 107 = .ok (.iload_n 1, 1) := by decide +kernel
theorem dM_step_108 : decode bM_step 108 = .ok (.iaload, 1) := by decide +kernel
theorem dM_step_109 : decode bM_step 109 = .ok (.if_icmp .ge 14, 3) := by decide +kernel
theorem dM_step_112 : decode bM_step 112 = .ok (.aload_n 0, 1) := by decide +kernel
theorem dM_step_113 : decode bM_step 113 = .ok (.getfield 13, 3) := by decide +kernel
theorem dM_step_116 : decode bM_step 116 = .ok (.iload_n 1, 1) := by decide +kernel
theorem dM_step_117 : decode bM_step 117 = .ok (.iconst 1, 1) := by decide +kernel
theorem dM_step_118 : decode bM_step 118 = .ok (.isub, 1) := by decide +kernel
theorem dM_step_119 : decode bM_step 119 = .ok (.iaload, 1) := by decide +kernel
theorem dM_step_120 : decode bM_step 120 = .ok (.goto 9, 3) := by decide +kernel
theorem dM_step_123 : decode bM_step 123 = .ok (.aload_n 0, 1) := by decide +kernel
theorem dM_step_124 : decode bM_step 124 = .ok (.getfield 13, 3) := by decide +kernel
theorem dM_step_127 : decode bM_step 127 = .ok (.iload_n 1, 1) := by decide +kernel
theorem dM_step_128 : decode bM_step 128 = .ok (.iaload, 1) := by decide +kernel
theorem dM_step_129 : decode bM_step 129 = .ok (.istore 4, 2) := by decide +kernel
theorem dM_step_131 : decode bM_step 131 = .ok (.aload_n 0, 1) := by decide +kernel
theorem dM_step_132 : decode bM_step 132 = .ok (.getfield 22, 3) := by decide +kernel
theorem dM_step_135 : decode bM_step 135 = .ok (.iload_n 1, 1) := by decide +kernel
theorem dM_step_136 : decode bM_step 136 = .ok (.iconst 1, 1) := by decide +kernel
theorem dM_step_137 : decode bM_step 137 = .ok (.isub, 1) := by decide +kernel
theorem dM_step_138 : decode bM_step 138 = .ok (.laload, 1) := by decide +kernel
theorem dM_step_139 : decode bM_step 139 = .ok (.aload_n 0, 1) := by decide +kernel
theorem dM_step_140 : decode bM_step 140 = .ok (.getfield 22, 3) := by decide +kernel
theorem dM_step_143 : decode bM_step 143 = .ok (.iload_n 1, 1) := by decide +kernel
theorem dM_step_144 : decode bM_step 144 = .ok (.laload, 1) := by decide +kernel
theorem dM_step_145 : decode bM_step 145 = .ok (.lsub, 1) := by decide +kernel
theorem dM_step_146 : decode bM_step 146 = .ok (.iload 4, 2) := by decide +kernel
theorem dM_step_148 : decode bM_step 148 = .ok (.i2l, 1) := by decide +kernel
theorem dM_step_149 : decode bM_step 149 = .ok (.lmul, 1) := by decide +kernel
theorem dM_step_150 : decode bM_step 150 = .ok (.ldc2_w 65, 3) := by decide +kernel
theorem dM_step_153 : decode bM_step 153 = .ok (.ldiv, 1) := by decide +kernel
theorem dM_step_154 : decode bM_step 154 = .ok (.lstore_n 2, 1) := by decide +kernel
theorem dM_step_155 : decode bM_step 155 = .ok (.aload_n 0, 1) := by decide +kernel
theorem dM_step_156 : decode bM_step 156 = .ok (.getfield 51, 3) := by decide +kernel
theorem dM_step_159 : decode bM_step 159 = .ok (.iload_n 1, 1) := by decide +kernel
theorem dM_step_160 : decode bM_step 160 = .ok (.lload_n 2, 1) := by decide +kernel
theorem dM_step_161 : decode bM_step 161 = .ok (.lastore, 1) := by decide +kernel
theorem dM_step_162 : decode bM_step 162 = .ok (.iinc 1 1, 3) := by decide +kernel
theorem dM_step_165 : decode bM_step 165 = .ok (.goto (-163), 3) := by decide +kernel
theorem dM_step_168 : decode bM_step 168 = .ok (.aload_n 0, 1) := by decide +kernel
theorem dM_step_169 : decode bM_step 169 = .ok (.dup, 1) := by decide +kernel
theorem dM_step_170 : decode bM_step 170 = .ok (.getfield 94, 3) := by decide +kernel
theorem dM_step_173 : decode bM_step 173 = .ok (.aload_n 0, 1) := by decide +kernel
theorem dM_step_174 : decode bM_step 174 = .ok (.getfield 51, 3) := by decide +kernel
theorem dM_step_177 : decode bM_step 177 = .ok (.aload_n 0, 1) := by decide +kernel
theorem dM_step_178 : decode bM_step 178 = .ok (.getfield 69, 3) := by decide +kernel
theorem dM_step_181 : decode bM_step 181 = .ok (.laload, 1) := by decide +kernel
theorem dM_step_182 : decode bM_step 182 = .ok (.aload_n 0, 1) := by decide +kernel
theorem dM_step_183 : decode bM_step 183 = .ok (.getfield 51, 3) := by decide +kernel
theorem dM_step_186 : decode bM_step 186 = .ok (.iconst 0, 1) := by decide +kernel
theorem dM_step_187 : decode bM_step 187 = .ok (.laload, 1) := by decide +kernel
theorem dM_step_188 : decode bM_step 188 = .ok (.lsub, 1) := by decide +kernel
theorem dM_step_189 : decode bM_step 189 = .ok (.ladd, 1) := by decide +kernel
theorem dM_step_190 : decode bM_step 190 = .ok (.putfield 94, 3) := by decide +kernel
theorem dM_step_193 : decode bM_step 193 = .ok (.iconst 0, 1) := by decide +kernel
theorem dM_step_194 : decode bM_step 194 = .ok (.istore_n 1, 1) := by decide +kernel
theorem dM_step_195 : decode bM_step 195 = .ok (.iload_n 1, 1) := by decide +kernel
theorem dM_step_196 : decode bM_step 196 = .ok (.aload_n 0, 1) := by decide +kernel
theorem dM_step_197 : decode bM_step 197 = .ok (.getfield 69, 3) := by decide +kernel
theorem dM_step_200 : decode bM_step 200 = .ok (.if_icmp .ge 139, 3) := by decide +kernel
theorem dM_step_203 : decode bM_step 203 = .ok (.aload_n 0, 1) := by decide +kernel
theorem dM_step_204 : decode bM_step 204 = .ok (.getfield 22, 3) := by decide +kernel
theorem dM_step_207 : decode bM_step 207 = .ok (.iload_n 1, 1) := by decide +kernel
theorem dM_step_208 : decode bM_step 208 = .ok (.laload, 1) := by decide +kernel
theorem dM_step_209 : decode bM_step 209 = .ok (.aload_n 0, 1) := by decide +kernel
theorem dM_step_210 : decode bM_step 210 = .ok (.getfield 87, 3) := by decide +kernel
theorem dM_step_213 : decode bM_step 213 = .ok (.i2l, 1) := by decide +kernel
theorem dM_step_214 : decode bM_step 214 = .ok (.lmul, 1) := by decide +kernel
theorem dM_step_215 : decode bM_step 215 = .ok (.ldc2_w 65, 3) := by decide +kernel
theorem dM_step_218 : decode bM_step 218 = .ok (.ldiv, 1) := by decide +kernel
theorem dM_step_219 : decode bM_step 219 = .ok (.lstore_n 2, 1) := by decide +kernel
theorem dM_step_220 : decode bM_step 220 = .ok (.aload_n 0, 1) := by decide +kernel
theorem dM_step_221 : decode bM_step 221 = .ok (.getfield 22, 3) := by decide +kernel
theorem dM_step_224 : decode bM_step 224 = .ok (.iload_n 1, 1) := by decide +kernel
theorem dM_step_225 : decode bM_step 225 = .ok (.laload, 1) := by decide +kernel
theorem dM_step_226 : decode bM_step 226 = .ok (.aload_n 0, 1) := by decide +kernel
theorem dM_step_227 : decode bM_step 227 = .ok (.getfield 51, 3) := by decide +kernel
theorem dM_step_230 : decode bM_step 230 = .ok (.iload_n 1, 1) := by decide +kernel
theorem dM_step_231 : decode bM_step 231 = .ok (.laload, 1) := by decide +kernel
theorem dM_step_232 : decode bM_step 232 = .ok (.ladd, 1) := by decide +kernel
theorem dM_step_233 : decode bM_step 233 = .ok (.aload_n 0, 1) := by decide +kernel
theorem dM_step_234 : decode bM_step 234 = .ok (.getfield 51, 3) := by decide +kernel
theorem dM_step_237 : decode bM_step 237 = .ok (.iload_n 1, 1) := by decide +kernel
theorem dM_step_238 : decode bM_step 238 = .ok (.iconst 1, 1) := by decide +kernel
theorem dM_step_239 : decode bM_step 239 = .ok (.iadd, 1) := by decide +kernel
theorem dM_step_240 : decode bM_step 240 = .ok (.laload, 1) := by decide +kernel
theorem dM_step_241 : decode bM_step 241 = .ok (.lsub, 1) := by decide +kernel
theorem dM_step_242 : decode bM_step 242 = .ok (.lload_n 2, 1) := by decide +kernel
theorem dM_step_243 : decode bM_step 243 = .ok (.lsub, 1) := by decide +kernel
theorem dM_step_244 : decode bM_step 244 = .ok (.lstore 4, 2) := by decide +kernel
theorem dM_step_246 : decode bM_step 246 = .ok (.aload_n 0, 1) := by decide +kernel
theorem dM_step_247 : decode bM_step 247 = .ok (.getfield 98, 3) := by decide +kernel
theorem dM_step_250 : decode bM_step 250 = .ok (.aload_n 0, 1) := by decide +kernel
theorem dM_step_251 : decode bM_step 251 = .ok (.getfield 22, 3) := by decide +kernel
theorem dM_step_254 : decode bM_step 254 = .ok (.iload_n 1, 1) := by decide +kernel
theorem dM_step_255 : decode bM_step 255 = .ok (.laload, 1) := by decide +kernel
theorem dM_step_256 : decode bM_step 256 = .ok (.lsub, 1) := by decide +kernel
theorem dM_step_257 : decode bM_step 257 = .ok (.lstore 6, 2) := by decide +kernel
theorem dM_step_259 : decode bM_step 259 = .ok (.aload_n 0, 1) := by decide +kernel
theorem dM_step_260 : decode bM_step 260 = .ok (.getfield 98, 3) := by decide +kernel
theorem dM_step_263 : decode bM_step 263 = .ok (.lload 4, 2) := by decide +kernel
theorem dM_step_265 : decode bM_step 265 = .ok (.lsub, 1) := by decide +kernel
theorem dM_step_266 : decode bM_step 266 = .ok (.lstore 8, 2) := by decide +kernel
theorem dM_step_268 : decode bM_step 268 = .ok (.aload_n 0, 1) := by decide +kernel
theorem dM_step_269 : decode bM_step 269 = .ok (.dup, 1) := by decide +kernel
theorem dM_step_270 : decode bM_step 270 = .ok (.getfield 94, 3) := by decide +kernel
theorem dM_step_273 : decode bM_step 273 = .ok (.lload_n 2, 1) := by decide +kernel
theorem dM_step_274 : decode bM_step 274 = .ok (.ladd, 1) := by decide +kernel
theorem dM_step_275 : decode bM_step 275 = .ok (.putfield 94, 3) := by decide +kernel
theorem dM_step_278 : decode bM_step 278 = .ok (.aload_n 0, 1) := by decide +kernel
theorem dM_step_279 : decode bM_step 279 = .ok (.getfield 29, 3) := by decide +kernel
theorem dM_step_282 : decode bM_step 282 = .ok (.iload_n 1, 1) := by decide +kernel
theorem dM_step_283 : decode bM_step 283 = .ok (.dup2, 1) := by decide +kernel
theorem dM_step_284 : decode bM_step 284 = .ok (.laload, 1) := by decide +kernel
theorem dM_step_285 : decode bM_step 285 = .ok (.aload_n 0, 1) := by decide +kernel
theorem dM_step_286 : decode bM_step 286 = .ok (.iload_n 1, 1) := by decide +kernel
theorem dM_step_287 : decode bM_step 287 = .ok (.lload 6, 2) := by decide +kernel
theorem dM_step_289 : decode bM_step 289 = .ok (.lload 8, 2) := by decide +kernel
theorem dM_step_291 : decode bM_step 291 = .ok (.invokevirtual 101, 3) := by decide +kernel
theorem dM_step_294 : decode bM_step 294 = .ok (.ladd, 1) := by decide +kernel
theorem dM_step_295 : decode bM_step 295 = .ok (.lastore, 1) := by decide +kernel
theorem dM_step_296 : decode bM_step 296 = .ok (.aload_n 0, 1) := by decide +kernel
theorem dM_step_297 : decode bM_step 297 = .ok (.getfield 26, 3) := by decide +kernel
theorem dM_step_300 : decode bM_step 300 = .ok (.iload_n 1, 1) := by decide +kernel
theorem dM_step_301 : decode bM_step 301 = .ok (.lload 8, 2) := by decide +kernel
theorem dM_step_303 : decode bM_step 303 = .ok (.aload_n 0, 1) := by decide +kernel
theorem dM_step_304 : decode bM_step 304 = .ok (.getfield 26, 3) := by decide +kernel
theorem dM_step_307 : decode bM_step 307 = .ok (.iload_n 1, 1) := by decide +kernel
theorem dM_step_308 : decode bM_step 308 = .ok (.laload, 1) := by decide +kernel
theorem dM_step_309 : decode bM_step 309 = .ok (.lcmp, 1) := by decide +kernel
theorem dM_step_310 : decode bM_step 310 = .ok (.ifCond .le 8, 3) := by decide +kernel
theorem dM_step_313 : decode bM_step 313 = .ok (.lload 8, 2) := by decide +kernel
theorem dM_step_315 : decode bM_step 315 = .ok (.goto 9, 3) := by decide +kernel
theorem dM_step_318 : decode bM_step 318 = .ok (.aload_n 0, 1) := by decide +kernel
theorem dM_step_319 : decode bM_step 319 = .ok (.getfield 26, 3) := by decide +kernel
theorem dM_step_322 : decode bM_step 322 = .ok (.iload_n 1, 1) := by decide +kernel
theorem dM_step_323 : decode bM_step 323 = .ok (.laload, 1) := by decide +kernel
theorem dM_step_324 : decode bM_step 324 = .ok (.lastore, 1) := by decide +kernel
theorem dM_step_325 : decode bM_step 325 = .ok (.aload_n 0, 1) := by decide +kernel
theorem dM_step_326 : decode bM_step 326 = .ok (.getfield 22, 3) := by decide +kernel
theorem dM_step_329 : decode bM_step 329 = .ok (.iload_n 1, 1) := by decide +kernel
theorem dM_step_330 : decode bM_step 330 = .ok (.lload 4, 2) := by decide +kernel
theorem dM_step_332 : decode bM_step 332 = .ok (.lastore, 1) := by decide +kernel
theorem dM_step_333 : decode bM_step 333 = .ok (.iinc 1 1, 3) := by decide +kernel
theorem dM_step_336 : decode bM_step 336 = .ok (.goto (-141), 3) := by decide +kernel
theorem dM_step_339 : decode bM_step 339 = .ok (.return_, 1) := by decide +kernel
theorem dM_sinking_0 : decode bM_sinking 0 = .ok (.lload 4, 2) := by decide +kernel
theorem dM_sinking_2 : decode bM_sinking 2 = .ok (.lload_n 2, 1) := by decide +kernel
theorem dM_sinking_3 : decode bM_sinking 3 = .ok (.lcmp, 1) := by decide +kernel
theorem dM_sinking_4 : decode bM_sinking 4 = .ok (.ifCond .ge 16, 3) := by decide +kernel
theorem dM_sinking_7 : decode bM_sinking 7 = .ok (.aload_n 0, 1) := by decide +kernel
theorem dM_sinking_8 : decode bM_sinking 8 = .ok (.getfield 16, 3) := by decide +kernel
theorem dM_sinking_11 : decode bM_sinking 11 = .ok (.iload_n 1, 1) := by decide +kernel
theorem dM_sinking_12 : decode bM_sinking 12 = .ok (.iaload, 1) := by decide +kernel
theorem dM_sinking_13 : decode bM_sinking 13 = .ok (.i2l, 1) := by decide +kernel
theorem dM_sinking_14 : decode bM_sinking 14 = .ok (.lload 4, 2) := by decide +kernel
theorem dM_sinking_16 : decode bM_sinking 16 = .ok (.lload_n 2, 1) := by decide +kernel
theorem dM_sinking_17 : decode bM_sinking 17 = .ok (.lsub, 1) := by decide +kernel
theorem dM_sinking_18 : decode bM_sinking 18 = .ok (.lmul, 1) := by decide +kernel
theorem dM_sinking_19 : decode bM_sinking 19 = .ok (.lreturn, 1) := by decide +kernel
theorem dM_sinking_20 : decode bM_sinking 20 = .ok (.aload_n 0, 1) := by decide +kernel
theorem dM_sinking_21 : decode bM_sinking 21 = .ok (.getfield 26, 3) := by decide +kernel
theorem dM_sinking_24 : decode bM_sinking 24 = .ok (.iload_n 1, 1) := by decide +kernel
theorem dM_sinking_25 : decode bM_sinking 25 = .ok (.laload, 1) := by decide +kernel
theorem dM_sinking_26 : decode bM_sinking 26 = .ok (.lload 4, 2) := by decide +kernel
theorem dM_sinking_28 : decode bM_sinking 28 = .ok (.lcmp, 1) := by decide +kernel
theorem dM_sinking_29 : decode bM_sinking 29 = .ok (.ifCond .ge 12, 3) := by decide +kernel
theorem dM_sinking_32 : decode bM_sinking 32 = .ok (.aload_n 0, 1) := by decide +kernel
theorem dM_sinking_33 : decode bM_sinking 33 = .ok (.getfield 26, 3) := by decide +kernel
theorem dM_sinking_36 : decode bM_sinking 36 = .ok (.iload_n 1, 1) := by decide +kernel
theorem dM_sinking_37 : decode bM_sinking 37 = .ok (.laload, 1) := by decide +kernel
theorem dM_sinking_38 : decode bM_sinking 38 = .ok (.goto 5, 3) := by decide +kernel
theorem dM_sinking_41 : decode bM_sinking 41 = .ok (.lload 4, 2) := by decide +kernel
theorem dM_sinking_43 : decode bM_sinking 43 = .ok (.lstore 6, 2) := by decide +kernel
theorem dM_sinking_45 : decode bM_sinking 45 = .ok (.aload_n 0, 1) := by decide +kernel
theorem dM_sinking_46 : decode bM_sinking 46 = .ok (.getfield 16, 3) := by decide +kernel
theorem dM_sinking_49 : decode bM_sinking 49 = .ok (.iload_n 1, 1) := by decide +kernel
theorem dM_sinking_50 : decode bM_sinking 50 = .ok (.iaload, 1) := by decide +kernel
theorem dM_sinking_51 : decode bM_sinking 51 = .ok (.i2l, 1) := by decide +kernel
theorem dM_sinking_52 : decode bM_sinking 52 = .ok (.lload 6, 2) := by decide +kernel
theorem dM_sinking_54 : decode bM_sinking 54 = .ok (.lload_n 2, 1) := by decide +kernel
theorem dM_sinking_55 : decode bM_sinking 55 = .ok (.lsub, 1) := by decide +kernel
theorem dM_sinking_56 : decode bM_sinking 56 = .ok (.lmul, 1) := by decide +kernel
theorem dM_sinking_57 : decode bM_sinking 57 = .ok (.aload_n 0, 1) := by decide +kernel
theorem dM_sinking_58 : decode bM_sinking 58 = .ok (.getfield 19, 3) := by decide +kernel
theorem dM_sinking_61 : decode bM_sinking 61 = .ok (.iload_n 1, 1) := by decide +kernel
theorem dM_sinking_62 : decode bM_sinking 62 = .ok (.iaload, 1) := by decide +kernel
theorem dM_sinking_63 : decode bM_sinking 63 = .ok (.i2l, 1) := by decide +kernel
theorem dM_sinking_64 : decode bM_sinking 64 = .ok (.lload 4, 2) := by decide +kernel
theorem dM_sinking_66 : decode bM_sinking 66 = .ok (.lload 6, 2) := by decide +kernel
theorem dM_sinking_68 : decode bM_sinking 68 = .ok (.lsub, 1) := by decide +kernel
theorem dM_sinking_69 : decode bM_sinking 69 = .ok (.lmul, 1) := by decide +kernel
theorem dM_sinking_70 : decode bM_sinking 70 = .ok (.ladd, 1) := by decide +kernel
theorem dM_sinking_71 : decode bM_sinking 71 = .ok (.lreturn, 1) := by decide +kernel
theorem dM_units_0 : decode bM_units 0 = .ok (.lconst 0, 1) := by decide +kernel
theorem dM_units_1 : decode bM_units 1 = .ok (.lstore_n 2, 1) := by decide +kernel
theorem dM_units_2 : decode bM_units 2 = .ok (.iconst 0, 1) := by decide +kernel
theorem dM_units_3 : decode bM_units 3 = .ok (.istore 4, 2) := by decide +kernel
theorem dM_units_5 : decode bM_units 5 = .ok (.iload 4, 2) := by decide +kernel
theorem dM_units_7 : decode bM_units 7 = .ok (.aload_n 0, 1) := by decide +kernel
theorem dM_units_8 : decode bM_units 8 = .ok (.getfield 69, 3) := by decide +kernel
theorem dM_units_11 : decode bM_units 11 = .ok (.if_icmp .ge 39, 3) := by decide +kernel
theorem dM_units_14 : decode bM_units 14 = .ok (.lload_n 2, 1) := by decide +kernel
theorem dM_units_15 : decode bM_units 15 = .ok (.iload_n 1, 1) := by decide +kernel
theorem dM_units_16 : decode bM_units 16 = .ok (.iconst (-1), 1) := by decide +kernel
theorem dM_units_17 : decode bM_units 17 = .ok (.if_icmp .eq 14, 3) := by decide +kernel
theorem dM_units_20 : decode bM_units 20 = .ok (.aload_n 0, 1) := by decide +kernel
theorem dM_units_21 : decode bM_units 21 = .ok (.getfield 7, 3) := by decide +kernel
theorem dM_units_24 : decode bM_units 24 = .ok (.iload 4, 2) := by decide +kernel
theorem dM_units_26 : decode bM_units 26 = .ok (.iaload, 1) := by decide +kernel
theorem dM_units_27 : decode bM_units 27 = .ok (.iload_n 1, 1) := by decide +kernel
theorem dM_units_28 : decode bM_units 28 = .ok (.if_icmp .ne 13, 3) := by decide +kernel
theorem dM_units_31 : decode bM_units 31 = .ok (.aload_n 0, 1) := by decide +kernel
theorem dM_units_32 : decode bM_units 32 = .ok (.getfield 29, 3) := by decide +kernel
theorem dM_units_35 : decode bM_units 35 = .ok (.iload 4, 2) := by decide +kernel
theorem dM_units_37 : decode bM_units 37 = .ok (.laload, 1) := by decide +kernel
theorem dM_units_38 : decode bM_units 38 = .ok (.goto 4, 3) := by decide +kernel
theorem dM_units_41 : decode bM_units 41 = .ok (.lconst 0, 1) := by decide +kernel
theorem dM_units_42 : decode bM_units 42 = .ok (.ladd, 1) := by decide +kernel
theorem dM_units_43 : decode bM_units 43 = .ok (.lstore_n 2, 1) := by decide +kernel
theorem dM_units_44 : decode bM_units 44 = .ok (.iinc 4 1, 3) := by decide +kernel
theorem dM_units_47 : decode bM_units 47 = .ok (.goto (-42), 3) := by decide +kernel
theorem dM_units_50 : decode bM_units 50 = .ok (.lload_n 2, 1) := by decide +kernel
theorem dM_units_51 : decode bM_units 51 = .ok (.lreturn, 1) := by decide +kernel
theorem dM_sunk_0 : decode bM_sunk 0 = .ok (.iload_n 1, 1) := by decide +kernel
theorem dM_sunk_1 : decode bM_sunk 1 = .ok (.i2l, 1) := by decide +kernel
theorem dM_sunk_2 : decode bM_sunk 2 = .ok (.ldc2_w 118, 3) := by decide +kernel
theorem dM_sunk_5 : decode bM_sunk 5 = .ok (.aload_n 0, 1) := by decide +kernel
theorem dM_sunk_6 : decode bM_sunk 6 = .ok (.getfield 79, 3) := by decide +kernel
theorem dM_sunk_9 : decode bM_sunk 9 = .ok (.iconst 1, 1) := by decide +kernel
theorem dM_sunk_10 : decode bM_sunk 10 = .ok (.isub, 1) := by decide +kernel
theorem dM_sunk_11 : decode bM_sunk 11 = .ok (.i2l, 1) := by decide +kernel
theorem dM_sunk_12 : decode bM_sunk 12 = .ok (.invokestatic 59, 3) := by decide +kernel
theorem dM_sunk_15 : decode bM_sunk 15 = .ok (.ifCond .eq 15, 3) := by decide +kernel
theorem dM_sunk_18 : decode bM_sunk 18 = .ok (.aload_n 0, 1) := by decide +kernel
theorem dM_sunk_19 : decode bM_sunk 19 = .ok (.iload_n 1, 1) := by decide +kernel
theorem dM_sunk_20 : decode bM_sunk 20 = .ok (.invokevirtual 114, 3) := by decide +kernel
theorem dM_sunk_23 : decode bM_sunk 23 = .ok (.ldc2_w 65, 3) := by decide +kernel
theorem dM_sunk_26 : decode bM_sunk 26 = .ok (.ldiv, 1) := by decide +kernel
theorem dM_sunk_27 : decode bM_sunk 27 = .ok (.goto 6, 3) := by decide +kernel
theorem dM_sunk_30 : decode bM_sunk 30 = .ok (.ldc2_w 118, 3) := by decide +kernel
theorem dM_sunk_33 : decode bM_sunk 33 = .ok (.lreturn, 1) := by decide +kernel
theorem dM_told_0 : decode bM_told 0 = .ok (.iload_n 1, 1) := by decide +kernel
theorem dM_told_1 : decode bM_told 1 = .ok (.i2l, 1) := by decide +kernel
theorem dM_told_2 : decode bM_told 2 = .ok (.lconst 0, 1) := by decide +kernel
theorem dM_told_3 : decode bM_told 3 = .ok (.aload_n 0, 1) := by decide +kernel
theorem dM_told_4 : decode bM_told 4 = .ok (.getfield 69, 3) := by decide +kernel
theorem dM_told_7 : decode bM_told 7 = .ok (.iconst 1, 1) := by decide +kernel
theorem dM_told_8 : decode bM_told 8 = .ok (.isub, 1) := by decide +kernel
theorem dM_told_9 : decode bM_told 9 = .ok (.i2l, 1) := by decide +kernel
theorem dM_told_10 : decode bM_told 10 = .ok (.invokestatic 59, 3) := by decide +kernel
theorem dM_told_13 : decode bM_told 13 = .ok (.ifCond .eq 15, 3) := by decide +kernel
theorem dM_told_16 : decode bM_told 16 = .ok (.iload_n 2, 1) := by decide +kernel
theorem dM_told_17 : decode bM_told 17 = .ok (.i2l, 1) := by decide +kernel
theorem dM_told_18 : decode bM_told 18 = .ok (.lconst 0, 1) := by decide +kernel
theorem dM_told_19 : decode bM_told 19 = .ok (.ldc2_w 120, 3) := by decide +kernel
theorem dM_told_22 : decode bM_told 22 = .ok (.invokestatic 59, 3) := by decide +kernel
theorem dM_told_25 : decode bM_told 25 = .ok (.ifCond .ne 5, 3) := by decide +kernel
theorem dM_told_28 : decode bM_told 28 = .ok (.iconst (-1), 1) := by decide +kernel
theorem dM_told_29 : decode bM_told 29 = .ok (.ireturn, 1) := by decide +kernel
theorem dM_told_30 : decode bM_told 30 = .ok (.iload_n 2, 1) := by decide +kernel
theorem dM_told_31 : decode bM_told 31 = .ok (.ifCond .ne 12, 3) := by decide +kernel
theorem dM_told_34 : decode bM_told 34 = .ok (.aload_n 0, 1) := by decide +kernel
theorem dM_told_35 : decode bM_told 35 = .ok (.getfield 22, 3) := by decide +kernel
theorem dM_told_38 : decode bM_told 38 = .ok (.iload_n 1, 1) := by decide +kernel
theorem dM_told_39 : decode bM_told 39 = .ok (.laload, 1) := by decide +kernel
theorem dM_told_40 : decode bM_told 40 = .ok (.goto 28, 3) := by decide +kernel
theorem dM_told_43 : decode bM_told 43 = .ok (.iload_n 2, 1) := by decide +kernel
theorem dM_told_44 : decode bM_told 44 = .ok (.iconst 1, 1) := by decide +kernel
theorem dM_told_45 : decode bM_told 45 = .ok (.if_icmp .ne 17, 3) := by decide +kernel
theorem dM_told_48 : decode bM_told 48 = .ok (.aload_n 0, 1) := by decide +kernel
theorem dM_told_49 : decode bM_told 49 = .ok (.getfield 98, 3) := by decide +kernel
theorem dM_told_52 : decode bM_told 52 = .ok (.aload_n 0, 1) := by decide +kernel
theorem dM_told_53 : decode bM_told 53 = .ok (.getfield 22, 3) := by decide +kernel
theorem dM_told_56 : decode bM_told 56 = .ok (.iload_n 1, 1) := by decide +kernel
theorem dM_told_57 : decode bM_told 57 = .ok (.laload, 1) := by decide +kernel
theorem dM_told_58 : decode bM_told 58 = .ok (.lsub, 1) := by decide +kernel
theorem dM_told_59 : decode bM_told 59 = .ok (.goto 9, 3) := by decide +kernel
theorem dM_told_62 : decode bM_told 62 = .ok (.aload_n 0, 1) := by decide +kernel
theorem dM_told_63 : decode bM_told 63 = .ok (.getfield 26, 3) := by decide +kernel
theorem dM_told_66 : decode bM_told 66 = .ok (.iload_n 1, 1) := by decide +kernel
theorem dM_told_67 : decode bM_told 67 = .ok (.laload, 1) := by decide +kernel
theorem dM_told_68 : decode bM_told 68 = .ok (.l2i, 1) := by decide +kernel
theorem dM_told_69 : decode bM_told 69 = .ok (.ireturn, 1) := by decide +kernel
theorem dM_out_0 : decode bM_out 0 = .ok (.aload_n 0, 1) := by decide +kernel
theorem dM_out_1 : decode bM_out 1 = .ok (.getfield 94, 3) := by decide +kernel
theorem dM_out_4 : decode bM_out 4 = .ok (.lreturn, 1) := by decide +kernel
theorem dM_balance_0 : decode bM_balance 0 = .ok (.aload_n 0, 1) := by decide +kernel
theorem dM_balance_1 : decode bM_balance 1 = .ok (.getfield 94, 3) := by decide +kernel
theorem dM_balance_4 : decode bM_balance 4 = .ok (.lstore_n 1, 1) := by decide +kernel
theorem dM_balance_5 : decode bM_balance 5 = .ok (.iconst 0, 1) := by decide +kernel
theorem dM_balance_6 : decode bM_balance 6 = .ok (.istore_n 3, 1) := by decide +kernel
theorem dM_balance_7 : decode bM_balance 7 = .ok (.iload_n 3, 1) := by decide +kernel
theorem dM_balance_8 : decode bM_balance 8 = .ok (.aload_n 0, 1) := by decide +kernel
theorem dM_balance_9 : decode bM_balance 9 = .ok (.getfield 69, 3) := by decide +kernel
theorem dM_balance_12 : decode bM_balance 12 = .ok (.if_icmp .ge 18, 3) := by decide +kernel
theorem dM_balance_15 : decode bM_balance 15 = .ok (.lload_n 1, 1) := by decide +kernel
theorem dM_balance_16 : decode bM_balance 16 = .ok (.aload_n 0, 1) := by decide +kernel
theorem dM_balance_17 : decode bM_balance 17 = .ok (.getfield 22, 3) := by decide +kernel
theorem dM_balance_20 : decode bM_balance 20 = .ok (.iload_n 3, 1) := by decide +kernel
theorem dM_balance_21 : decode bM_balance 21 = .ok (.laload, 1) := by decide +kernel
theorem dM_balance_22 : decode bM_balance 22 = .ok (.ladd, 1) := by decide +kernel
theorem dM_balance_23 : decode bM_balance 23 = .ok (.lstore_n 1, 1) := by decide +kernel
theorem dM_balance_24 : decode bM_balance 24 = .ok (.iinc 3 1, 3) := by decide +kernel
theorem dM_balance_27 : decode bM_balance 27 = .ok (.goto (-20), 3) := by decide +kernel
theorem dM_balance_30 : decode bM_balance 30 = .ok (.lload_n 1, 1) := by decide +kernel
theorem dM_balance_31 : decode bM_balance 31 = .ok (.aload_n 0, 1) := by decide +kernel
theorem dM_balance_32 : decode bM_balance 32 = .ok (.getfield 98, 3) := by decide +kernel
theorem dM_balance_35 : decode bM_balance 35 = .ok (.aload_n 0, 1) := by decide +kernel
theorem dM_balance_36 : decode bM_balance 36 = .ok (.getfield 69, 3) := by decide +kernel
theorem dM_balance_39 : decode bM_balance 39 = .ok (.i2l, 1) := by decide +kernel
theorem dM_balance_40 : decode bM_balance 40 = .ok (.lmul, 1) := by decide +kernel
theorem dM_balance_41 : decode bM_balance 41 = .ok (.lcmp, 1) := by decide +kernel
theorem dM_balance_42 : decode bM_balance 42 = .ok (.ifCond .ne 7, 3) := by decide +kernel
theorem dM_balance_45 : decode bM_balance 45 = .ok (.iconst 1, 1) := by decide +kernel
theorem dM_balance_46 : decode bM_balance 46 = .ok (.goto 4, 3) := by decide +kernel
theorem dM_balance_49 : decode bM_balance 49 = .ok (.iconst 0, 1) := by decide +kernel
theorem dM_balance_50 : decode bM_balance 50 = .ok (.ireturn, 1) := by decide +kernel
theorem dM_end_0 : decode bM_end 0 = .ok (.aload_n 0, 1) := by decide +kernel
theorem dM_end_1 : decode bM_end 1 = .ok (.invokevirtual 122, 3) := by decide +kernel
theorem dM_end_4 : decode bM_end 4 = .ok (.ldc2_w 65, 3) := by decide +kernel
theorem dM_end_7 : decode bM_end 7 = .ok (.ldiv, 1) := by decide +kernel
theorem dM_end_8 : decode bM_end 8 = .ok (.lreturn, 1) := by decide +kernel
theorem dM_endUnits_0 : decode bM_endUnits 0 = .ok (.lconst 0, 1) := by decide +kernel
theorem dM_endUnits_1 : decode bM_endUnits 1 = .ok (.lstore_n 1, 1) := by decide +kernel
theorem dM_endUnits_2 : decode bM_endUnits 2 = .ok (.iconst 0, 1) := by decide +kernel
theorem dM_endUnits_3 : decode bM_endUnits 3 = .ok (.istore_n 3, 1) := by decide +kernel
theorem dM_endUnits_4 : decode bM_endUnits 4 = .ok (.iload_n 3, 1) := by decide +kernel
theorem dM_endUnits_5 : decode bM_endUnits 5 = .ok (.aload_n 0, 1) := by decide +kernel
theorem dM_endUnits_6 : decode bM_endUnits 6 = .ok (.getfield 76, 3) := by decide +kernel
theorem dM_endUnits_9 : decode bM_endUnits 9 = .ok (.if_icmp .ge 19, 3) := by decide +kernel
theorem dM_endUnits_12 : decode bM_endUnits 12 = .ok (.lload_n 1, 1) := by decide +kernel
theorem dM_endUnits_13 : decode bM_endUnits 13 = .ok (.aload_n 0, 1) := by decide +kernel
theorem dM_endUnits_14 : decode bM_endUnits 14 = .ok (.getfield 39, 3) := by decide +kernel
theorem dM_endUnits_17 : decode bM_endUnits 17 = .ok (.iload_n 3, 1) := by decide +kernel
theorem dM_endUnits_18 : decode bM_endUnits 18 = .ok (.iaload, 1) := by decide +kernel
theorem dM_endUnits_19 : decode bM_endUnits 19 = .ok (.i2l, 1) := by decide +kernel
theorem dM_endUnits_20 : decode bM_endUnits 20 = .ok (.ladd, 1) := by decide +kernel
theorem dM_endUnits_21 : decode bM_endUnits 21 = .ok (.lstore_n 1, 1) := by decide +kernel
theorem dM_endUnits_22 : decode bM_endUnits 22 = .ok (.iinc 3 1, 3) := by decide +kernel
theorem dM_endUnits_25 : decode bM_endUnits 25 = .ok (.goto (-21), 3) := by decide +kernel
theorem dM_endUnits_28 : decode bM_endUnits 28 = .ok (.aload_n 0, 1) := by decide +kernel
theorem dM_endUnits_29 : decode bM_endUnits 29 = .ok (.iconst (-1), 1) := by decide +kernel
theorem dM_endUnits_30 : decode bM_endUnits 30 = .ok (.invokevirtual 114, 3) := by decide +kernel
theorem dM_endUnits_33 : decode bM_endUnits 33 = .ok (.lstore_n 3, 1) := by decide +kernel
theorem dM_endUnits_34 : decode bM_endUnits 34 = .ok (.iconst 0, 1) := by decide +kernel
theorem dM_endUnits_35 : decode bM_endUnits 35 = .ok (.istore 5, 2) := by decide +kernel
theorem dM_endUnits_37 : decode bM_endUnits 37 = .ok (.iload 5, 2) := by decide +kernel
theorem dM_endUnits_39 : decode bM_endUnits 39 = .ok (.aload_n 0, 1) := by decide +kernel
theorem dM_endUnits_40 : decode bM_endUnits 40 = .ok (.getfield 69, 3) := by decide +kernel
theorem dM_endUnits_43 : decode bM_endUnits 43 = .ok (.if_icmp .ge 31, 3) := by decide +kernel
theorem dM_endUnits_46 : decode bM_endUnits 46 = .ok (.lload_n 3, 1) := by decide +kernel
theorem dM_endUnits_47 : decode bM_endUnits 47 = .ok (.aload_n 0, 1) := by decide +kernel
theorem dM_endUnits_48 : decode bM_endUnits 48 = .ok (.iload 5, 2) := by decide +kernel
theorem dM_endUnits_50 : decode bM_endUnits 50 = .ok (.aload_n 0, 1) := by decide +kernel
theorem dM_endUnits_51 : decode bM_endUnits 51 = .ok (.getfield 98, 3) := by decide +kernel
theorem dM_endUnits_54 : decode bM_endUnits 54 = .ok (.aload_n 0, 1) := by decide +kernel
theorem dM_endUnits_55 : decode bM_endUnits 55 = .ok (.getfield 22, 3) := by decide +kernel
theorem dM_endUnits_58 : decode bM_endUnits 58 = .ok (.iload 5, 2) := by decide +kernel
theorem dM_endUnits_60 : decode bM_endUnits 60 = .ok (.laload, 1) := by decide +kernel
theorem dM_endUnits_61 : decode bM_endUnits 61 = .ok (.lsub, 1) := by decide +kernel
theorem dM_endUnits_62 : decode bM_endUnits 62 = .ok (.lload_n 1, 1) := by decide +kernel
theorem dM_endUnits_63 : decode bM_endUnits 63 = .ok (.invokevirtual 101, 3) := by decide +kernel
theorem dM_endUnits_66 : decode bM_endUnits 66 = .ok (.ladd, 1) := by decide +kernel
theorem dM_endUnits_67 : decode bM_endUnits 67 = .ok (.lstore_n 3, 1) := by decide +kernel
theorem dM_endUnits_68 : decode bM_endUnits 68 = .ok (.iinc 5 1, 3) := by decide +kernel
theorem dM_endUnits_71 : decode bM_endUnits 71 = .ok (.goto (-34), 3) := by decide +kernel
theorem dM_endUnits_74 : decode bM_endUnits 74 = .ok (.lload_n 3, 1) := by decide +kernel
theorem dM_endUnits_75 : decode bM_endUnits 75 = .ok (.lreturn, 1) := by decide +kernel
theorem dM_share_0 : decode bM_share 0 = .ok (.aload_n 0, 1) := by decide +kernel
theorem dM_share_1 : decode bM_share 1 = .ok (.invokevirtual 126, 3) := by decide +kernel
theorem dM_share_4 : decode bM_share 4 = .ok (.ireturn, 1) := by decide +kernel
theorem dM_shareNow_0 : decode bM_shareNow 0 = .ok (.aload_n 0, 1) := by decide +kernel
theorem dM_shareNow_1 : decode bM_shareNow 1 = .ok (.invokevirtual 122, 3) := by decide +kernel
theorem dM_shareNow_4 : decode bM_shareNow 4 = .ok (.lstore_n 1, 1) := by decide +kernel
theorem dM_shareNow_5 : decode bM_shareNow 5 = .ok (.lload_n 1, 1) := by decide +kernel
theorem dM_shareNow_6 : decode bM_shareNow 6 = .ok (.lconst 0, 1) := by decide +kernel
theorem dM_shareNow_7 : decode bM_shareNow 7 = .ok (.lcmp, 1) := by decide +kernel
theorem dM_shareNow_8 : decode bM_shareNow 8 = .ok (.ifCond .ne 9, 3) := by decide +kernel
theorem dM_shareNow_11 : decode bM_shareNow 11 = .ok (.sipush 1000, 3) := by decide +kernel
theorem dM_shareNow_14 : decode bM_shareNow 14 = .ok (.goto 15, 3) := by decide +kernel
theorem dM_shareNow_17 : decode bM_shareNow 17 = .ok (.ldc2_w 65, 3) := by decide +kernel
theorem dM_shareNow_20 : decode bM_shareNow 20 = .ok (.aload_n 0, 1) := by decide +kernel
theorem dM_shareNow_21 : decode bM_shareNow 21 = .ok (.iconst (-1), 1) := by decide +kernel
theorem dM_shareNow_22 : decode bM_shareNow 22 = .ok (.invokevirtual 114, 3) := by decide +kernel
theorem dM_shareNow_25 : decode bM_shareNow 25 = .ok (.lmul, 1) := by decide +kernel
theorem dM_shareNow_26 : decode bM_shareNow 26 = .ok (.lload_n 1, 1) := by decide +kernel
theorem dM_shareNow_27 : decode bM_shareNow 27 = .ok (.ldiv, 1) := by decide +kernel
theorem dM_shareNow_28 : decode bM_shareNow 28 = .ok (.l2i, 1) := by decide +kernel
theorem dM_shareNow_29 : decode bM_shareNow 29 = .ok (.ireturn, 1) := by decide +kernel
theorem dM_until_0 : decode bM_until 0 = .ok (.iload_n 1, 1) := by decide +kernel
theorem dM_until_1 : decode bM_until 1 = .ok (.i2l, 1) := by decide +kernel
theorem dM_until_2 : decode bM_until 2 = .ok (.lconst 0, 1) := by decide +kernel
theorem dM_until_3 : decode bM_until 3 = .ok (.ldc2_w 65, 3) := by decide +kernel
theorem dM_until_6 : decode bM_until 6 = .ok (.invokestatic 59, 3) := by decide +kernel
theorem dM_until_9 : decode bM_until 9 = .ok (.ifCond .eq 10, 3) := by decide +kernel
theorem dM_until_12 : decode bM_until 12 = .ok (.aload_n 0, 1) := by decide +kernel
theorem dM_until_13 : decode bM_until 13 = .ok (.getfield 79, 3) := by decide +kernel
theorem dM_until_16 : decode bM_until 16 = .ok (.ifCond .ne 5, 3) := by decide +kernel
theorem dM_until_19 : decode bM_until 19 = .ok (.iconst (-1), 1) := by decide +kernel
theorem dM_until_20 : decode bM_until 20 = .ok (.ireturn, 1) := by decide +kernel
theorem dM_until_21 : decode bM_until 21 = .ok (.aload_n 0, 1) := by decide +kernel
theorem dM_until_22 : decode bM_until 22 = .ok (.invokevirtual 130, 3) := by decide +kernel
theorem dM_until_25 : decode bM_until 25 = .ok (.iconst 0, 1) := by decide +kernel
theorem dM_until_26 : decode bM_until 26 = .ok (.istore_n 2, 1) := by decide +kernel
theorem dM_until_27 : decode bM_until 27 = .ok (.iload_n 2, 1) := by decide +kernel
theorem dM_until_28 : decode bM_until 28 = .ok (.sipush 300, 3) := by decide +kernel
theorem dM_until_31 : decode bM_until 31 = .ok (.if_icmp .gt 28, 3) := by decide +kernel
theorem dM_until_34 : decode bM_until 34 = .ok (.aload_n 0, 1) := by decide +kernel
theorem dM_until_35 : decode bM_until 35 = .ok (.invokevirtual 126, 3) := by decide +kernel
theorem dM_until_38 : decode bM_until 38 = .ok (.iload_n 1, 1) := by decide +kernel
theorem dM_until_39 : decode bM_until 39 = .ok (.if_icmp .ge 20, 3) := by decide +kernel
theorem dM_until_42 : decode bM_until 42 = .ok (.aload_n 0, 1) := by decide +kernel
theorem dM_until_43 : decode bM_until 43 = .ok (.aload_n 0, 1) := by decide +kernel
theorem dM_until_44 : decode bM_until 44 = .ok (.getfield 73, 3) := by decide +kernel
theorem dM_until_47 : decode bM_until 47 = .ok (.iload_n 2, 1) := by decide +kernel
theorem dM_until_48 : decode bM_until 48 = .ok (.iadd, 1) := by decide +kernel
theorem dM_until_49 : decode bM_until 49 = .ok (.lconst 0, 1) := by decide +kernel
theorem dM_until_50 : decode bM_until 50 = .ok (.invokevirtual 110, 3) := by decide +kernel
theorem dM_until_53 : decode bM_until 53 = .ok (.iinc 2 1, 3) := by decide +kernel
theorem dM_until_56 : decode bM_until 56 = .ok (.goto (-29), 3) := by decide +kernel
theorem dM_until_59 : decode bM_until 59 = .ok (.aload_n 0, 1) := by decide +kernel
theorem dM_until_60 : decode bM_until 60 = .ok (.invokevirtual 133, 3) := by decide +kernel
theorem dM_until_63 : decode bM_until 63 = .ok (.iload_n 2, 1) := by decide +kernel
theorem dM_until_64 : decode bM_until 64 = .ok (.sipush 300, 3) := by decide +kernel
theorem dM_until_67 : decode bM_until 67 = .ok (.if_icmp .le 7, 3) := by decide +kernel
theorem dM_until_70 : decode bM_until 70 = .ok (.iconst (-1), 1) := by decide +kernel
theorem dM_until_71 : decode bM_until 71 = .ok (.goto 4, 3) := by decide +kernel
theorem dM_until_74 : decode bM_until 74 = .ok (.iload_n 2, 1) := by decide +kernel
theorem dM_until_75 : decode bM_until 75 = .ok (.ireturn, 1) := by decide +kernel
theorem dM_keep_0 : decode bM_keep 0 = .ok (.iconst 0, 1) := by decide +kernel
theorem dM_keep_1 : decode bM_keep 1 = .ok (.istore_n 1, 1) := by decide +kernel
theorem dM_keep_2 : decode bM_keep 2 = .ok (.iload_n 1, 1) := by decide +kernel
theorem dM_keep_3 : decode bM_keep 3 = .ok (.bipush 30, 2) := by decide +kernel
theorem dM_keep_5 : decode bM_keep 5 = .ok (.if_icmp .ge 51, 3) := by decide +kernel
theorem dM_keep_8 : decode bM_keep 8 = .ok (.aload_n 0, 1) := by decide +kernel
theorem dM_keep_9 : decode bM_keep 9 = .ok (.getfield 54, 3) := by decide +kernel
theorem dM_keep_12 : decode bM_keep 12 = .ok (.iload_n 1, 1) := by decide +kernel
theorem dM_keep_13 : decode bM_keep 13 = .ok (.aload_n 0, 1) := by decide +kernel
theorem dM_keep_14 : decode bM_keep 14 = .ok (.getfield 22, 3) := by decide +kernel
theorem dM_keep_17 : decode bM_keep 17 = .ok (.iload_n 1, 1) := by decide +kernel
theorem dM_keep_18 : decode bM_keep 18 = .ok (.laload, 1) := by decide +kernel
theorem dM_keep_19 : decode bM_keep 19 = .ok (.lastore, 1) := by decide +kernel
theorem dM_keep_20 : decode bM_keep 20 = .ok (.aload_n 0, 1) := by decide +kernel
theorem dM_keep_21 : decode bM_keep 21 = .ok (.getfield 54, 3) := by decide +kernel
theorem dM_keep_24 : decode bM_keep 24 = .ok (.bipush 30, 2) := by decide +kernel
theorem dM_keep_26 : decode bM_keep 26 = .ok (.iload_n 1, 1) := by decide +kernel
theorem dM_keep_27 : decode bM_keep 27 = .ok (.iadd, 1) := by decide +kernel
theorem dM_keep_28 : decode bM_keep 28 = .ok (.aload_n 0, 1) := by decide +kernel
theorem dM_keep_29 : decode bM_keep 29 = .ok (.getfield 26, 3) := by decide +kernel
theorem dM_keep_32 : decode bM_keep 32 = .ok (.iload_n 1, 1) := by decide +kernel
theorem dM_keep_33 : decode bM_keep 33 = .ok (.laload, 1) := by decide +kernel
theorem dM_keep_34 : decode bM_keep 34 = .ok (.lastore, 1) := by decide +kernel
theorem dM_keep_35 : decode bM_keep 35 = .ok (.aload_n 0, 1) := by decide +kernel
theorem dM_keep_36 : decode bM_keep 36 = .ok (.getfield 54, 3) := by decide +kernel
theorem dM_keep_39 : decode bM_keep 39 = .ok (.bipush 60, 2) := by decide +kernel
theorem dM_keep_41 : decode bM_keep 41 = .ok (.iload_n 1, 1) := by decide +kernel
theorem dM_keep_42 : decode bM_keep 42 = .ok (.iadd, 1) := by decide +kernel
theorem dM_keep_43 : decode bM_keep 43 = .ok (.aload_n 0, 1) := by decide +kernel
theorem dM_keep_44 : decode bM_keep 44 = .ok (.getfield 29, 3) := by decide +kernel
theorem dM_keep_47 : decode bM_keep 47 = .ok (.iload_n 1, 1) := by decide +kernel
theorem dM_keep_48 : decode bM_keep 48 = .ok (.laload, 1) := by decide +kernel
theorem dM_keep_49 : decode bM_keep 49 = .ok (.lastore, 1) := by decide +kernel
theorem dM_keep_50 : decode bM_keep 50 = .ok (.iinc 1 1, 3) := by decide +kernel
theorem dM_keep_53 : decode bM_keep 53 = .ok (.goto (-51), 3) := by decide +kernel
theorem dM_keep_56 : decode bM_keep 56 = .ok (.aload_n 0, 1) := by decide +kernel
theorem dM_keep_57 : decode bM_keep 57 = .ok (.getfield 54, 3) := by decide +kernel
theorem dM_keep_60 : decode bM_keep 60 = .ok (.bipush 90, 2) := by decide +kernel
theorem dM_keep_62 : decode bM_keep 62 = .ok (.aload_n 0, 1) := by decide +kernel
theorem dM_keep_63 : decode bM_keep 63 = .ok (.getfield 98, 3) := by decide +kernel
theorem dM_keep_66 : decode bM_keep 66 = .ok (.lastore, 1) := by decide +kernel
theorem dM_keep_67 : decode bM_keep 67 = .ok (.aload_n 0, 1) := by decide +kernel
theorem dM_keep_68 : decode bM_keep 68 = .ok (.getfield 54, 3) := by decide +kernel
theorem dM_keep_71 : decode bM_keep 71 = .ok (.bipush 91, 2) := by decide +kernel
theorem dM_keep_73 : decode bM_keep 73 = .ok (.aload_n 0, 1) := by decide +kernel
theorem dM_keep_74 : decode bM_keep 74 = .ok (.getfield 94, 3) := by decide +kernel
theorem dM_keep_77 : decode bM_keep 77 = .ok (.lastore, 1) := by decide +kernel
theorem dM_keep_78 : decode bM_keep 78 = .ok (.return_, 1) := by decide +kernel
theorem dM_putBack_0 : decode bM_putBack 0 = .ok (.iconst 0, 1) := by decide +kernel
theorem dM_putBack_1 : decode bM_putBack 1 = .ok (.istore_n 1, 1) := by decide +kernel
theorem dM_putBack_2 : decode bM_putBack 2 = .ok (.iload_n 1, 1) := by decide +kernel
theorem dM_putBack_3 : decode bM_putBack 3 = .ok (.bipush 30, 2) := by decide +kernel
theorem dM_putBack_5 : decode bM_putBack 5 = .ok (.if_icmp .ge 51, 3) := by decide +kernel
theorem dM_putBack_8 : decode bM_putBack 8 = .ok (.aload_n 0, 1) := by decide +kernel
theorem dM_putBack_9 : decode bM_putBack 9 = .ok (.getfield 22, 3) := by decide +kernel
theorem dM_putBack_12 : decode bM_putBack 12 = .ok (.iload_n 1, 1) := by decide +kernel
theorem dM_putBack_13 : decode bM_putBack 13 = .ok (.aload_n 0, 1) := by decide +kernel
theorem dM_putBack_14 : decode bM_putBack 14 = .ok (.getfield 54, 3) := by decide +kernel
theorem dM_putBack_17 : decode bM_putBack 17 = .ok (.iload_n 1, 1) := by decide +kernel
theorem dM_putBack_18 : decode bM_putBack 18 = .ok (.laload, 1) := by decide +kernel
theorem dM_putBack_19 : decode bM_putBack 19 = .ok (.lastore, 1) := by decide +kernel
theorem dM_putBack_20 : decode bM_putBack 20 = .ok (.aload_n 0, 1) := by decide +kernel
theorem dM_putBack_21 : decode bM_putBack 21 = .ok (.getfield 26, 3) := by decide +kernel
theorem dM_putBack_24 : decode bM_putBack 24 = .ok (.iload_n 1, 1) := by decide +kernel
theorem dM_putBack_25 : decode bM_putBack 25 = .ok (.aload_n 0, 1) := by decide +kernel
theorem dM_putBack_26 : decode bM_putBack 26 = .ok (.getfield 54, 3) := by decide +kernel
theorem dM_putBack_29 : decode bM_putBack 29 = .ok (.bipush 30, 2) := by decide +kernel
theorem dM_putBack_31 : decode bM_putBack 31 = .ok (.iload_n 1, 1) := by decide +kernel
theorem dM_putBack_32 : decode bM_putBack 32 = .ok (.iadd, 1) := by decide +kernel
theorem dM_putBack_33 : decode bM_putBack 33 = .ok (.laload, 1) := by decide +kernel
theorem dM_putBack_34 : decode bM_putBack 34 = .ok (.lastore, 1) := by decide +kernel
theorem dM_putBack_35 : decode bM_putBack 35 = .ok (.aload_n 0, 1) := by decide +kernel
theorem dM_putBack_36 : decode bM_putBack 36 = .ok (.getfield 29, 3) := by decide +kernel
theorem dM_putBack_39 : decode bM_putBack 39 = .ok (.iload_n 1, 1) := by decide +kernel
theorem dM_putBack_40 : decode bM_putBack 40 = .ok (.aload_n 0, 1) := by decide +kernel
theorem dM_putBack_41 : decode bM_putBack 41 = .ok (.getfield 54, 3) := by decide +kernel
theorem dM_putBack_44 : decode bM_putBack 44 = .ok (.bipush 60, 2) := by decide +kernel
theorem dM_putBack_46 : decode bM_putBack 46 = .ok (.iload_n 1, 1) := by decide +kernel
theorem dM_putBack_47 : decode bM_putBack 47 = .ok (.iadd, 1) := by decide +kernel
theorem dM_putBack_48 : decode bM_putBack 48 = .ok (.laload, 1) := by decide +kernel
theorem dM_putBack_49 : decode bM_putBack 49 = .ok (.lastore, 1) := by decide +kernel
theorem dM_putBack_50 : decode bM_putBack 50 = .ok (.iinc 1 1, 3) := by decide +kernel
theorem dM_putBack_53 : decode bM_putBack 53 = .ok (.goto (-51), 3) := by decide +kernel
theorem dM_putBack_56 : decode bM_putBack 56 = .ok (.aload_n 0, 1) := by decide +kernel
theorem dM_putBack_57 : decode bM_putBack 57 = .ok (.aload_n 0, 1) := by decide +kernel
theorem dM_putBack_58 : decode bM_putBack 58 = .ok (.getfield 54, 3) := by decide +kernel
theorem dM_putBack_61 : decode bM_putBack 61 = .ok (.bipush 90, 2) := by decide +kernel
theorem dM_putBack_63 : decode bM_putBack 63 = .ok (.laload, 1) := by decide +kernel
theorem dM_putBack_64 : decode bM_putBack 64 = .ok (.putfield 98, 3) := by decide +kernel
theorem dM_putBack_67 : decode bM_putBack 67 = .ok (.aload_n 0, 1) := by decide +kernel
theorem dM_putBack_68 : decode bM_putBack 68 = .ok (.aload_n 0, 1) := by decide +kernel
theorem dM_putBack_69 : decode bM_putBack 69 = .ok (.getfield 54, 3) := by decide +kernel
theorem dM_putBack_72 : decode bM_putBack 72 = .ok (.bipush 91, 2) := by decide +kernel
theorem dM_putBack_74 : decode bM_putBack 74 = .ok (.laload, 1) := by decide +kernel
theorem dM_putBack_75 : decode bM_putBack 75 = .ok (.putfield 94, 3) := by decide +kernel
theorem dM_putBack_78 : decode bM_putBack 78 = .ok (.return_, 1) := by decide +kernel
theorem dM_surcharge_0 : decode bM_surcharge 0 = .ok (.iload_n 1, 1) := by decide +kernel
theorem dM_surcharge_1 : decode bM_surcharge 1 = .ok (.i2l, 1) := by decide +kernel
theorem dM_surcharge_2 : decode bM_surcharge 2 = .ok (.lconst 1, 1) := by decide +kernel
theorem dM_surcharge_3 : decode bM_surcharge 3 = .ok (.ldc2_w 136, 3) := by decide +kernel
theorem dM_surcharge_6 : decode bM_surcharge 6 = .ok (.invokestatic 59, 3) := by decide +kernel
theorem dM_surcharge_9 : decode bM_surcharge 9 = .ok (.ifCond .eq 22, 3) := by decide +kernel
theorem dM_surcharge_12 : decode bM_surcharge 12 = .ok (.iload_n 2, 1) := by decide +kernel
theorem dM_surcharge_13 : decode bM_surcharge 13 = .ok (.i2l, 1) := by decide +kernel
theorem dM_surcharge_14 : decode bM_surcharge 14 = .ok (.lconst 1, 1) := by decide +kernel
theorem dM_surcharge_15 : decode bM_surcharge 15 = .ok (.ldc2_w 138, 3) := by decide +kernel
theorem dM_surcharge_18 : decode bM_surcharge 18 = .ok (.invokestatic 59, 3) := by decide +kernel
theorem dM_surcharge_21 : decode bM_surcharge 21 = .ok (.ifCond .eq 10, 3) := by decide +kernel
theorem dM_surcharge_24 : decode bM_surcharge 24 = .ok (.aload_n 0, 1) := by decide +kernel
theorem dM_surcharge_25 : decode bM_surcharge 25 = .ok (.getfield 79, 3) := by decide +kernel
theorem dM_surcharge_28 : decode bM_surcharge 28 = .ok (.ifCond .ne 5, 3) := by decide +kernel
theorem dM_surcharge_31 : decode bM_surcharge 31 = .ok (.iconst (-1), 1) := by decide +kernel
theorem dM_surcharge_32 : decode bM_surcharge 32 = .ok (.ireturn, 1) := by decide +kernel
theorem dM_surcharge_33 : decode bM_surcharge 33 = .ok (.aload_n 0, 1) := by decide +kernel
theorem dM_surcharge_34 : decode bM_surcharge 34 = .ok (.invokevirtual 122, 3) := by decide +kernel
theorem dM_surcharge_37 : decode bM_surcharge 37 = .ok (.lstore_n 3, 1) := by decide +kernel
theorem dM_surcharge_38 : decode bM_surcharge 38 = .ok (.iconst 0, 1) := by decide +kernel
theorem dM_surcharge_39 : decode bM_surcharge 39 = .ok (.istore 5, 2) := by decide +kernel
theorem dM_surcharge_41 : decode bM_surcharge 41 = .ok (.iload 5, 2) := by decide +kernel
theorem dM_surcharge_43 : decode bM_surcharge 43 = .ok (.bipush 20, 2) := by decide +kernel
theorem dM_surcharge_45 : decode bM_surcharge 45 = .ok (.if_icmp .gt 85, 3) := by decide +kernel
theorem dM_surcharge_48 : decode bM_surcharge 48 = .ok (.aload_n 0, 1) := by decide +kernel
theorem dM_surcharge_49 : decode bM_surcharge 49 = .ok (.invokevirtual 130, 3) := by decide +kernel
theorem dM_surcharge_52 : decode bM_surcharge 52 = .ok (.iconst 0, 1) := by decide +kernel
theorem dM_surcharge_53 : decode bM_surcharge 53 = .ok (.istore 6, 2) := by decide +kernel
theorem dM_surcharge_55 : decode bM_surcharge 55 = .ok (.iload 6, 2) := by decide +kernel
theorem dM_surcharge_57 : decode bM_surcharge 57 = .ok (.iload_n 2, 1) := by decide +kernel
theorem dM_surcharge_58 : decode bM_surcharge 58 = .ok (.if_icmp .ge 35, 3) := by decide +kernel
theorem dM_surcharge_61 : decode bM_surcharge 61 = .ok (.aload_n 0, 1) := by decide +kernel
theorem dM_surcharge_62 : decode bM_surcharge 62 = .ok (.aload_n 0, 1) := by decide +kernel
theorem dM_surcharge_63 : decode bM_surcharge 63 = .ok (.getfield 73, 3) := by decide +kernel
theorem dM_surcharge_66 : decode bM_surcharge 66 = .ok (.iload 6, 2) := by decide +kernel
theorem dM_surcharge_68 : decode bM_surcharge 68 = .ok (.iadd, 1) := by decide +kernel
theorem dM_surcharge_69 : decode bM_surcharge 69 = .ok (.iload 6, 2) := by decide +kernel
theorem dM_surcharge_71 : decode bM_surcharge 71 = .ok (.ifCond .ne 12, 3) := by decide +kernel
theorem dM_surcharge_74 : decode bM_surcharge 74 = .ok (.iload 5, 2) := by decide +kernel
theorem dM_surcharge_76 : decode bM_surcharge 76 = .ok (.i2l, 1) := by decide +kernel
theorem dM_surcharge_77 : decode bM_surcharge 77 = .ok (.iload_n 1, 1) := by decide +kernel
theorem dM_surcharge_78 : decode bM_surcharge 78 = .ok (.i2l, 1) := by decide +kernel
theorem dM_surcharge_79 : decode bM_surcharge 79 = .ok (.lmul, 1) := by decide +kernel
theorem dM_surcharge_80 : decode bM_surcharge 80 = .ok (.goto 4, 3) := by decide +kernel
theorem dM_surcharge_83 : decode bM_surcharge 83 = .ok (.lconst 0, 1) := by decide +kernel
theorem dM_surcharge_84 : decode bM_surcharge 84 = .ok (.invokevirtual 110, 3) := by decide +kernel
theorem dM_surcharge_87 : decode bM_surcharge 87 = .ok (.iinc 6 1, 3) := by decide +kernel
theorem dM_surcharge_90 : decode bM_surcharge 90 = .ok (.goto (-35), 3) := by decide +kernel
theorem dM_surcharge_93 : decode bM_surcharge 93 = .ok (.aload_n 0, 1) := by decide +kernel
theorem dM_surcharge_94 : decode bM_surcharge 94 = .ok (.iconst (-1), 1) := by decide +kernel
theorem dM_surcharge_95 : decode bM_surcharge 95 = .ok (.invokevirtual 114, 3) := by decide +kernel
theorem dM_surcharge_98 : decode bM_surcharge 98 = .ok (.lload_n 3, 1) := by decide +kernel
theorem dM_surcharge_99 : decode bM_surcharge 99 = .ok (.lcmp, 1) := by decide +kernel
theorem dM_surcharge_100 : decode bM_surcharge 100 = .ok (.ifCond .lt 7, 3) := by decide +kernel
theorem dM_surcharge_103 : decode bM_surcharge 103 = .ok (.iconst 1, 1) := by decide +kernel
theorem dM_surcharge_104 : decode bM_surcharge 104 = .ok (.goto 4, 3) := by decide +kernel
theorem dM_surcharge_107 : decode bM_surcharge 107 = .ok (.iconst 0, 1) := by decide +kernel
theorem dM_surcharge_108 : decode bM_surcharge 108 = .ok (.istore 6, 2) := by decide +kernel
theorem dM_surcharge_110 : decode bM_surcharge 110 = .ok (.aload_n 0, 1) := by decide +kernel
theorem dM_surcharge_111 : decode bM_surcharge 111 = .ok (.invokevirtual 133, 3) := by decide +kernel
theorem dM_surcharge_114 : decode bM_surcharge 114 = .ok (.iload 6, 2) := by decide +kernel
theorem dM_surcharge_116 : decode bM_surcharge 116 = .ok (.ifCond .eq 8, 3) := by decide +kernel
theorem dM_surcharge_119 : decode bM_surcharge 119 = .ok (.iload 5, 2) := by decide +kernel
theorem dM_surcharge_121 : decode bM_surcharge 121 = .ok (.iload_n 1, 1) := by decide +kernel
theorem dM_surcharge_122 : decode bM_surcharge 122 = .ok (.imul, 1) := by decide +kernel
theorem dM_surcharge_123 : decode bM_surcharge 123 = .ok (.ireturn, 1) := by decide +kernel
theorem dM_surcharge_124 : decode bM_surcharge 124 = .ok (.iinc 5 1, 3) := by decide +kernel
theorem dM_surcharge_127 : decode bM_surcharge 127 = .ok (.goto (-86), 3) := by decide +kernel
theorem dM_surcharge_130 : decode bM_surcharge 130 = .ok (.iconst (-1), 1) := by decide +kernel
theorem dM_surcharge_131 : decode bM_surcharge 131 = .ok (.ireturn, 1) := by decide +kernel
theorem dM_read_0 : decode bM_read 0 = .ok (.aload_n 0, 1) := by decide +kernel
theorem dM_read_1 : decode bM_read 1 = .ok (.getfield 140, 3) := by decide +kernel
theorem dM_read_4 : decode bM_read 4 = .ok (.ifCond .ne 7, 3) := by decide +kernel
theorem dM_read_7 : decode bM_read 7 = .ok (.iconst 0, 1) := by decide +kernel
theorem dM_read_8 : decode bM_read 8 = .ok (.goto 16, 3) := by decide +kernel
theorem dM_read_11 : decode bM_read 11 = .ok (.aload_n 0, 1) := by decide +kernel
theorem dM_read_12 : decode bM_read 12 = .ok (.getfield 42, 3) := by decide +kernel
theorem dM_read_15 : decode bM_read 15 = .ok (.aload_n 0, 1) := by decide +kernel
theorem dM_read_16 : decode bM_read 16 = .ok (.getfield 140, 3) := by decide +kernel
theorem dM_read_19 : decode bM_read 19 = .ok (.iconst 1, 1) := by decide +kernel
theorem dM_read_20 : decode bM_read 20 = .ok (.isub, 1) := by decide +kernel
theorem dM_read_21 : decode bM_read 21 = .ok (.iaload, 1) := by decide +kernel
theorem dM_read_22 : decode bM_read 22 = .ok (.iconst 1, 1) := by decide +kernel
theorem dM_read_23 : decode bM_read 23 = .ok (.iadd, 1) := by decide +kernel
theorem dM_read_24 : decode bM_read 24 = .ok (.istore 4, 2) := by decide +kernel
theorem dM_read_26 : decode bM_read 26 = .ok (.iload_n 1, 1) := by decide +kernel
theorem dM_read_27 : decode bM_read 27 = .ok (.i2l, 1) := by decide +kernel
theorem dM_read_28 : decode bM_read 28 = .ok (.iload 4, 2) := by decide +kernel
theorem dM_read_30 : decode bM_read 30 = .ok (.i2l, 1) := by decide +kernel
theorem dM_read_31 : decode bM_read 31 = .ok (.ldc2_w 143, 3) := by decide +kernel
theorem dM_read_34 : decode bM_read 34 = .ok (.invokestatic 59, 3) := by decide +kernel
theorem dM_read_37 : decode bM_read 37 = .ok (.ifCond .eq 23, 3) := by decide +kernel
theorem dM_read_40 : decode bM_read 40 = .ok (.lload_n 2, 1) := by decide +kernel
theorem dM_read_41 : decode bM_read 41 = .ok (.lconst 0, 1) := by decide +kernel
theorem dM_read_42 : decode bM_read 42 = .ok (.ldc2_w 145, 3) := by decide +kernel
theorem dM_read_45 : decode bM_read 45 = .ok (.invokestatic 59, 3) := by decide +kernel
theorem dM_read_48 : decode bM_read 48 = .ok (.ifCond .eq 12, 3) := by decide +kernel
theorem dM_read_51 : decode bM_read 51 = .ok (.aload_n 0, 1) := by decide +kernel
theorem dM_read_52 : decode bM_read 52 = .ok (.getfield 140, 3) := by decide +kernel
theorem dM_read_55 : decode bM_read 55 = .ok (.bipush 20, 2) := by decide +kernel
theorem dM_read_57 : decode bM_read 57 = .ok (.if_icmp .ne 5, 3) := by decide +kernel
theorem dM_read_60 : decode bM_read 60 = .ok (.iconst (-1), 1) := by decide +kernel
theorem dM_read_61 : decode bM_read 61 = .ok (.ireturn, 1) := by decide +kernel
theorem dM_read_62 : decode bM_read 62 = .ok (.aload_n 0, 1) := by decide +kernel
theorem dM_read_63 : decode bM_read 63 = .ok (.getfield 42, 3) := by decide +kernel
theorem dM_read_66 : decode bM_read 66 = .ok (.aload_n 0, 1) := by decide +kernel
theorem dM_read_67 : decode bM_read 67 = .ok (.getfield 140, 3) := by decide +kernel
theorem dM_read_70 : decode bM_read 70 = .ok (.iload_n 1, 1) := by decide +kernel
theorem dM_read_71 : decode bM_read 71 = .ok (.iastore, 1) := by decide +kernel
theorem dM_read_72 : decode bM_read 72 = .ok (.aload_n 0, 1) := by decide +kernel
theorem dM_read_73 : decode bM_read 73 = .ok (.getfield 45, 3) := by decide +kernel
theorem dM_read_76 : decode bM_read 76 = .ok (.aload_n 0, 1) := by decide +kernel
theorem dM_read_77 : decode bM_read 77 = .ok (.getfield 140, 3) := by decide +kernel
theorem dM_read_80 : decode bM_read 80 = .ok (.lload_n 2, 1) := by decide +kernel
theorem dM_read_81 : decode bM_read 81 = .ok (.lastore, 1) := by decide +kernel
theorem dM_read_82 : decode bM_read 82 = .ok (.aload_n 0, 1) := by decide +kernel
theorem dM_read_83 : decode bM_read 83 = .ok (.dup, 1) := by decide +kernel
theorem dM_read_84 : decode bM_read 84 = .ok (.getfield 140, 3) := by decide +kernel
theorem dM_read_87 : decode bM_read 87 = .ok (.iconst 1, 1) := by decide +kernel
theorem dM_read_88 : decode bM_read 88 = .ok (.iadd, 1) := by decide +kernel
theorem dM_read_89 : decode bM_read 89 = .ok (.putfield 140, 3) := by decide +kernel
theorem dM_read_92 : decode bM_read 92 = .ok (.aload_n 0, 1) := by decide +kernel
theorem dM_read_93 : decode bM_read 93 = .ok (.getfield 140, 3) := by decide +kernel
theorem dM_read_96 : decode bM_read 96 = .ok (.ireturn, 1) := by decide +kernel
theorem dM_foretold_0 : decode bM_foretold 0 = .ok (.iload_n 1, 1) := by decide +kernel
theorem dM_foretold_1 : decode bM_foretold 1 = .ok (.i2l, 1) := by decide +kernel
theorem dM_foretold_2 : decode bM_foretold 2 = .ok (.lconst 0, 1) := by decide +kernel
theorem dM_foretold_3 : decode bM_foretold 3 = .ok (.ldc2_w 120, 3) := by decide +kernel
theorem dM_foretold_6 : decode bM_foretold 6 = .ok (.invokestatic 59, 3) := by decide +kernel
theorem dM_foretold_9 : decode bM_foretold 9 = .ok (.ifCond .eq 19, 3) := by decide +kernel
theorem dM_foretold_12 : decode bM_foretold 12 = .ok (.aload_n 0, 1) := by decide +kernel
theorem dM_foretold_13 : decode bM_foretold 13 = .ok (.getfield 140, 3) := by decide +kernel
theorem dM_foretold_16 : decode bM_foretold 16 = .ok (.iload_n 1, 1) := by decide +kernel
theorem dM_foretold_17 : decode bM_foretold 17 = .ok (.ifCond .ne 7, 3) := by decide +kernel
theorem dM_foretold_20 : decode bM_foretold 20 = .ok (.iconst 3, 1) := by decide +kernel
theorem dM_foretold_21 : decode bM_foretold 21 = .ok (.goto 4, 3) := by decide +kernel
theorem dM_foretold_24 : decode bM_foretold 24 = .ok (.iconst 2, 1) := by decide +kernel
theorem dM_foretold_25 : decode bM_foretold 25 = .ok (.if_icmp .ge 7, 3) := by decide +kernel
theorem dM_foretold_28 : decode bM_foretold 28 = .ok (.ldc2_w 118, 3) := by decide +kernel
theorem dM_foretold_31 : decode bM_foretold 31 = .ok (.lreturn, 1) := by decide +kernel
theorem dM_foretold_32 : decode bM_foretold 32 = .ok (.aload_n 0, 1) := by decide +kernel
theorem dM_foretold_33 : decode bM_foretold 33 = .ok (.getfield 140, 3) := by decide +kernel
theorem dM_foretold_36 : decode bM_foretold 36 = .ok (.istore_n 2, 1) := by decide +kernel
theorem dM_foretold_37 : decode bM_foretold 37 = .ok (.aload_n 0, 1) := by decide +kernel
theorem dM_foretold_38 : decode bM_foretold 38 = .ok (.getfield 45, 3) := by decide +kernel
theorem dM_foretold_41 : decode bM_foretold 41 = .ok (.iload_n 2, 1) := by decide +kernel
theorem dM_foretold_42 : decode bM_foretold 42 = .ok (.iconst 1, 1) := by decide +kernel
theorem dM_foretold_43 : decode bM_foretold 43 = .ok (.isub, 1) := by decide +kernel
theorem dM_foretold_44 : decode bM_foretold 44 = .ok (.laload, 1) := by decide +kernel
theorem dM_foretold_45 : decode bM_foretold 45 = .ok (.lstore_n 3, 1) := by decide +kernel
theorem dM_foretold_46 : decode bM_foretold 46 = .ok (.iload_n 1, 1) := by decide +kernel
theorem dM_foretold_47 : decode bM_foretold 47 = .ok (.iconst 2, 1) := by decide +kernel
theorem dM_foretold_48 : decode bM_foretold 48 = .ok (.if_icmp .ne 12, 3) := by decide +kernel
theorem dM_foretold_51 : decode bM_foretold 51 = .ok (.aload_n 0, 1) := by decide +kernel
theorem dM_foretold_52 : decode bM_foretold 52 = .ok (.getfield 45, 3) := by decide +kernel
theorem dM_foretold_55 : decode bM_foretold 55 = .ok (.iconst 0, 1) := by decide +kernel
theorem dM_foretold_56 : decode bM_foretold 56 = .ok (.laload, 1) := by decide +kernel
theorem dM_foretold_57 : decode bM_foretold 57 = .ok (.goto 11, 3) := by decide +kernel
theorem dM_foretold_60 : decode bM_foretold 60 = .ok (.aload_n 0, 1) := by decide +kernel
theorem dM_foretold_61 : decode bM_foretold 61 = .ok (.getfield 45, 3) := by decide +kernel
theorem dM_foretold_64 : decode bM_foretold 64 = .ok (.iload_n 2, 1) := by decide +kernel
theorem dM_foretold_65 : decode bM_foretold 65 = .ok (.iconst 2, 1) := by decide +kernel
theorem dM_foretold_66 : decode bM_foretold 66 = .ok (.isub, 1) := by decide +kernel
theorem dM_foretold_67 : decode bM_foretold 67 = .ok (.laload, 1) := by decide +kernel
theorem dM_foretold_68 : decode bM_foretold 68 = .ok (.lstore 5, 2) := by decide +kernel
theorem dM_foretold_70 : decode bM_foretold 70 = .ok (.iload_n 1, 1) := by decide +kernel
theorem dM_foretold_71 : decode bM_foretold 71 = .ok (.ifCond .ne 14, 3) := by decide +kernel
theorem dM_foretold_74 : decode bM_foretold 74 = .ok (.aload_n 0, 1) := by decide +kernel
theorem dM_foretold_75 : decode bM_foretold 75 = .ok (.getfield 45, 3) := by decide +kernel
theorem dM_foretold_78 : decode bM_foretold 78 = .ok (.iload_n 2, 1) := by decide +kernel
theorem dM_foretold_79 : decode bM_foretold 79 = .ok (.iconst 3, 1) := by decide +kernel
theorem dM_foretold_80 : decode bM_foretold 80 = .ok (.isub, 1) := by decide +kernel
theorem dM_foretold_81 : decode bM_foretold 81 = .ok (.laload, 1) := by decide +kernel
theorem dM_foretold_82 : decode bM_foretold 82 = .ok (.goto 4, 3) := by decide +kernel
theorem dM_foretold_85 : decode bM_foretold 85 = .ok (.lconst 0, 1) := by decide +kernel
theorem dM_foretold_86 : decode bM_foretold 86 = .ok (.lstore 7, 2) := by decide +kernel
theorem dM_foretold_88 : decode bM_foretold 88 = .ok (.lload 7, 2) := by decide +kernel
theorem dM_foretold_90 : decode bM_foretold 90 = .ok (.ldc2_w 147, 3) := by decide +kernel
theorem dM_foretold_93 : decode bM_foretold 93 = .ok (.lcmp, 1) := by decide +kernel
theorem dM_foretold_94 : decode bM_foretold 94 = .ok (.ifCond .gt 20, 3) := by decide +kernel
theorem dM_foretold_97 : decode bM_foretold 97 = .ok (.lload 5, 2) := by decide +kernel
theorem dM_foretold_99 : decode bM_foretold 99 = .ok (.ldc2_w 147, 3) := by decide +kernel
theorem dM_foretold_102 : decode bM_foretold 102 = .ok (.lcmp, 1) := by decide +kernel
theorem dM_foretold_103 : decode bM_foretold 103 = .ok (.ifCond .gt 11, 3) := by decide +kernel
theorem dM_foretold_106 : decode bM_foretold 106 = .ok (.lload_n 3, 1) := by decide +kernel
theorem dM_foretold_107 : decode bM_foretold 107 = .ok (.ldc2_w 147, 3) := by decide +kernel
theorem dM_foretold_110 : decode bM_foretold 110 = .ok (.lcmp, 1) := by decide +kernel
theorem dM_foretold_111 : decode bM_foretold 111 = .ok (.ifCond .le 7, 3) := by decide +kernel
theorem dM_foretold_114 : decode bM_foretold 114 = .ok (.ldc2_w 118, 3) := by decide +kernel
theorem dM_foretold_117 : decode bM_foretold 117 = .ok (.lreturn, 1) := by decide +kernel
theorem dM_foretold_118 : decode bM_foretold 118 = .ok (.iload_n 1, 1) := by decide +kernel
theorem dM_foretold_119 : decode bM_foretold 119 = .ok (.ifCond .ne 43, 3) := by decide +kernel
theorem dM_foretold_122 : decode bM_foretold 122 = .ok (.ldc2_w 120, 3) := by decide +kernel
theorem dM_foretold_125 : decode bM_foretold 125 = .ok (.lload 5, 2) := by decide +kernel
theorem dM_foretold_127 : decode bM_foretold 127 = .ok (.lmul, 1) := by decide +kernel
theorem dM_foretold_128 : decode bM_foretold 128 = .ok (.lload 7, 2) := by decide +kernel
theorem dM_foretold_130 : decode bM_foretold 130 = .ok (.lsub, 1) := by decide +kernel
theorem dM_foretold_131 : decode bM_foretold 131 = .ok (.lload_n 3, 1) := by decide +kernel
theorem dM_foretold_132 : decode bM_foretold 132 = .ok (.lsub, 1) := by decide +kernel
theorem dM_foretold_133 : decode bM_foretold 133 = .ok (.lstore 9, 2) := by decide +kernel
theorem dM_foretold_135 : decode bM_foretold 135 = .ok (.lload 9, 2) := by decide +kernel
theorem dM_foretold_137 : decode bM_foretold 137 = .ok (.lconst 0, 1) := by decide +kernel
theorem dM_foretold_138 : decode bM_foretold 138 = .ok (.lcmp, 1) := by decide +kernel
theorem dM_foretold_139 : decode bM_foretold 139 = .ok (.ifCond .ne 9, 3) := by decide +kernel
theorem dM_foretold_142 : decode bM_foretold 142 = .ok (.ldc2_w 118, 3) := by decide +kernel
theorem dM_foretold_145 : decode bM_foretold 145 = .ok (.goto 16, 3) := by decide +kernel
theorem dM_foretold_148 : decode bM_foretold 148 = .ok (.lload 5, 2) := by decide +kernel
theorem dM_foretold_150 : decode bM_foretold 150 = .ok (.lload 5, 2) := by decide +kernel
theorem dM_foretold_152 : decode bM_foretold 152 = .ok (.lmul, 1) := by decide +kernel
theorem dM_foretold_153 : decode bM_foretold 153 = .ok (.lload 7, 2) := by decide +kernel
theorem dM_foretold_155 : decode bM_foretold 155 = .ok (.lload_n 3, 1) := by decide +kernel
theorem dM_foretold_156 : decode bM_foretold 156 = .ok (.lmul, 1) := by decide +kernel
theorem dM_foretold_157 : decode bM_foretold 157 = .ok (.lsub, 1) := by decide +kernel
theorem dM_foretold_158 : decode bM_foretold 158 = .ok (.lload 9, 2) := by decide +kernel
theorem dM_foretold_160 : decode bM_foretold 160 = .ok (.ldiv, 1) := by decide +kernel
theorem dM_foretold_161 : decode bM_foretold 161 = .ok (.lreturn, 1) := by decide +kernel
theorem dM_foretold_162 : decode bM_foretold 162 = .ok (.iload_n 1, 1) := by decide +kernel
theorem dM_foretold_163 : decode bM_foretold 163 = .ok (.iconst 1, 1) := by decide +kernel
theorem dM_foretold_164 : decode bM_foretold 164 = .ok (.if_icmp .ne 64, 3) := by decide +kernel
theorem dM_foretold_167 : decode bM_foretold 167 = .ok (.aload_n 0, 1) := by decide +kernel
theorem dM_foretold_168 : decode bM_foretold 168 = .ok (.getfield 42, 3) := by decide +kernel
theorem dM_foretold_171 : decode bM_foretold 171 = .ok (.iload_n 2, 1) := by decide +kernel
theorem dM_foretold_172 : decode bM_foretold 172 = .ok (.iconst 2, 1) := by decide +kernel
theorem dM_foretold_173 : decode bM_foretold 173 = .ok (.isub, 1) := by decide +kernel
theorem dM_foretold_174 : decode bM_foretold 174 = .ok (.iaload, 1) := by decide +kernel
theorem dM_foretold_175 : decode bM_foretold 175 = .ok (.i2l, 1) := by decide +kernel
theorem dM_foretold_176 : decode bM_foretold 176 = .ok (.lstore 9, 2) := by decide +kernel
theorem dM_foretold_178 : decode bM_foretold 178 = .ok (.aload_n 0, 1) := by decide +kernel
theorem dM_foretold_179 : decode bM_foretold 179 = .ok (.getfield 42, 3) := by decide +kernel
theorem dM_foretold_182 : decode bM_foretold 182 = .ok (.iload_n 2, 1) := by decide +kernel
theorem dM_foretold_183 : decode bM_foretold 183 = .ok (.iconst 1, 1) := by decide +kernel
theorem dM_foretold_184 : decode bM_foretold 184 = .ok (.isub, 1) := by decide +kernel
theorem dM_foretold_185 : decode bM_foretold 185 = .ok (.iaload, 1) := by decide +kernel
theorem dM_foretold_186 : decode bM_foretold 186 = .ok (.i2l, 1) := by decide +kernel
theorem dM_foretold_187 : decode bM_foretold 187 = .ok (.lstore 11, 2) := by decide +kernel
theorem dM_foretold_189 : decode bM_foretold 189 = .ok (.lload 11, 2) := by decide +kernel
theorem dM_foretold_191 : decode bM_foretold 191 = .ok (.lload 5, 2) := by decide +kernel
theorem dM_foretold_193 : decode bM_foretold 193 = .ok (.lmul, 1) := by decide +kernel
theorem dM_foretold_194 : decode bM_foretold 194 = .ok (.lload 9, 2) := by decide +kernel
theorem dM_foretold_196 : decode bM_foretold 196 = .ok (.lload_n 3, 1) := by decide +kernel
theorem dM_foretold_197 : decode bM_foretold 197 = .ok (.lmul, 1) := by decide +kernel
theorem dM_foretold_198 : decode bM_foretold 198 = .ok (.lsub, 1) := by decide +kernel
theorem dM_foretold_199 : decode bM_foretold 199 = .ok (.lstore 13, 2) := by decide +kernel
theorem dM_foretold_201 : decode bM_foretold 201 = .ok (.lload 13, 2) := by decide +kernel
theorem dM_foretold_203 : decode bM_foretold 203 = .ok (.lconst 0, 1) := by decide +kernel
theorem dM_foretold_204 : decode bM_foretold 204 = .ok (.lcmp, 1) := by decide +kernel
theorem dM_foretold_205 : decode bM_foretold 205 = .ok (.ifCond .ne 9, 3) := by decide +kernel
theorem dM_foretold_208 : decode bM_foretold 208 = .ok (.ldc2_w 118, 3) := by decide +kernel
theorem dM_foretold_211 : decode bM_foretold 211 = .ok (.goto 16, 3) := by decide +kernel
theorem dM_foretold_214 : decode bM_foretold 214 = .ok (.lload 11, 2) := by decide +kernel
theorem dM_foretold_216 : decode bM_foretold 216 = .ok (.lload 9, 2) := by decide +kernel
theorem dM_foretold_218 : decode bM_foretold 218 = .ok (.lsub, 1) := by decide +kernel
theorem dM_foretold_219 : decode bM_foretold 219 = .ok (.lload 5, 2) := by decide +kernel
theorem dM_foretold_221 : decode bM_foretold 221 = .ok (.lmul, 1) := by decide +kernel
theorem dM_foretold_222 : decode bM_foretold 222 = .ok (.lload_n 3, 1) := by decide +kernel
theorem dM_foretold_223 : decode bM_foretold 223 = .ok (.lmul, 1) := by decide +kernel
theorem dM_foretold_224 : decode bM_foretold 224 = .ok (.lload 13, 2) := by decide +kernel
theorem dM_foretold_226 : decode bM_foretold 226 = .ok (.ldiv, 1) := by decide +kernel
theorem dM_foretold_227 : decode bM_foretold 227 = .ok (.lreturn, 1) := by decide +kernel
theorem dM_foretold_228 : decode bM_foretold 228 = .ok (.lload_n 3, 1) := by decide +kernel
theorem dM_foretold_229 : decode bM_foretold 229 = .ok (.lload_n 3, 1) := by decide +kernel
theorem dM_foretold_230 : decode bM_foretold 230 = .ok (.lload 5, 2) := by decide +kernel
theorem dM_foretold_232 : decode bM_foretold 232 = .ok (.lsub, 1) := by decide +kernel
theorem dM_foretold_233 : decode bM_foretold 233 = .ok (.ldc2_w 138, 3) := by decide +kernel
theorem dM_foretold_236 : decode bM_foretold 236 = .ok (.lmul, 1) := by decide +kernel
theorem dM_foretold_237 : decode bM_foretold 237 = .ok (.aload_n 0, 1) := by decide +kernel
theorem dM_foretold_238 : decode bM_foretold 238 = .ok (.getfield 42, 3) := by decide +kernel
theorem dM_foretold_241 : decode bM_foretold 241 = .ok (.iload_n 2, 1) := by decide +kernel
theorem dM_foretold_242 : decode bM_foretold 242 = .ok (.iconst 1, 1) := by decide +kernel
theorem dM_foretold_243 : decode bM_foretold 243 = .ok (.isub, 1) := by decide +kernel
theorem dM_foretold_244 : decode bM_foretold 244 = .ok (.iaload, 1) := by decide +kernel
theorem dM_foretold_245 : decode bM_foretold 245 = .ok (.aload_n 0, 1) := by decide +kernel
theorem dM_foretold_246 : decode bM_foretold 246 = .ok (.getfield 42, 3) := by decide +kernel
theorem dM_foretold_249 : decode bM_foretold 249 = .ok (.iconst 0, 1) := by decide +kernel
theorem dM_foretold_250 : decode bM_foretold 250 = .ok (.iaload, 1) := by decide +kernel
theorem dM_foretold_251 : decode bM_foretold 251 = .ok (.isub, 1) := by decide +kernel
theorem dM_foretold_252 : decode bM_foretold 252 = .ok (.i2l, 1) := by decide +kernel
theorem dM_foretold_253 : decode bM_foretold 253 = .ok (.ldiv, 1) := by decide +kernel
theorem dM_foretold_254 : decode bM_foretold 254 = .ok (.ladd, 1) := by decide +kernel
theorem dM_foretold_255 : decode bM_foretold 255 = .ok (.lreturn, 1) := by decide +kernel
theorem dM_off_0 : decode bM_off 0 = .ok (.lload_n 1, 1) := by decide +kernel
theorem dM_off_1 : decode bM_off 1 = .ok (.lconst 0, 1) := by decide +kernel
theorem dM_off_2 : decode bM_off 2 = .ok (.lcmp, 1) := by decide +kernel
theorem dM_off_3 : decode bM_off 3 = .ok (.ifCond .ge 5, 3) := by decide +kernel
theorem dM_off_6 : decode bM_off 6 = .ok (.iconst (-1), 1) := by decide +kernel
theorem dM_off_7 : decode bM_off 7 = .ok (.ireturn, 1) := by decide +kernel
theorem dM_off_8 : decode bM_off 8 = .ok (.iconst 0, 1) := by decide +kernel
theorem dM_off_9 : decode bM_off 9 = .ok (.istore_n 3, 1) := by decide +kernel
theorem dM_off_10 : decode bM_off 10 = .ok (.iconst 0, 1) := by decide +kernel
theorem dM_off_11 : decode bM_off 11 = .ok (.istore 4, 2) := by decide +kernel
theorem dM_off_13 : decode bM_off 13 = .ok (.iload 4, 2) := by decide +kernel
theorem dM_off_15 : decode bM_off 15 = .ok (.aload_n 0, 1) := by decide +kernel
theorem dM_off_16 : decode bM_off 16 = .ok (.getfield 140, 3) := by decide +kernel
theorem dM_off_19 : decode bM_off 19 = .ok (.if_icmp .ge 73, 3) := by decide +kernel
theorem dM_off_22 : decode bM_off 22 = .ok (.aload_n 0, 1) := by decide +kernel
theorem dM_off_23 : decode bM_off 23 = .ok (.getfield 42, 3) := by decide +kernel
theorem dM_off_26 : decode bM_off 26 = .ok (.iload 4, 2) := by decide +kernel
theorem dM_off_28 : decode bM_off 28 = .ok (.iaload, 1) := by decide +kernel
theorem dM_off_29 : decode bM_off 29 = .ok (.aload_n 0, 1) := by decide +kernel
theorem dM_off_30 : decode bM_off 30 = .ok (.getfield 73, 3) := by decide +kernel
theorem dM_off_33 : decode bM_off 33 = .ok (.if_icmp .gt 53, 3) := by decide +kernel
theorem dM_off_36 : decode bM_off 36 = .ok (.aload_n 0, 1) := by decide +kernel
theorem dM_off_37 : decode bM_off 37 = .ok (.getfield 45, 3) := by decide +kernel
theorem dM_off_40 : decode bM_off 40 = .ok (.iload 4, 2) := by decide +kernel
theorem dM_off_42 : decode bM_off 42 = .ok (.laload, 1) := by decide +kernel
theorem dM_off_43 : decode bM_off 43 = .ok (.aload_n 0, 1) := by decide +kernel
theorem dM_off_44 : decode bM_off 44 = .ok (.getfield 48, 3) := by decide +kernel
theorem dM_off_47 : decode bM_off 47 = .ok (.aload_n 0, 1) := by decide +kernel
theorem dM_off_48 : decode bM_off 48 = .ok (.getfield 42, 3) := by decide +kernel
theorem dM_off_51 : decode bM_off 51 = .ok (.iload 4, 2) := by decide +kernel
theorem dM_off_53 : decode bM_off 53 = .ok (.iaload, 1) := by decide +kernel
theorem dM_off_54 : decode bM_off 54 = .ok (.laload, 1) := by decide +kernel
theorem dM_off_55 : decode bM_off 55 = .ok (.lsub, 1) := by decide +kernel
theorem dM_off_56 : decode bM_off 56 = .ok (.lstore 5, 2) := by decide +kernel
theorem dM_off_58 : decode bM_off 58 = .ok (.iload_n 3, 1) := by decide +kernel
theorem dM_off_59 : decode bM_off 59 = .ok (.lload 5, 2) := by decide +kernel
theorem dM_off_61 : decode bM_off 61 = .ok (.lconst 0, 1) := by decide +kernel
theorem dM_off_62 : decode bM_off 62 = .ok (.lcmp, 1) := by decide +kernel
theorem dM_off_63 : decode bM_off 63 = .ok (.ifCond .ge 9, 3) := by decide +kernel
theorem dM_off_66 : decode bM_off 66 = .ok (.lload 5, 2) := by decide +kernel
theorem dM_off_68 : decode bM_off 68 = .ok (.lneg, 1) := by decide +kernel
theorem dM_off_69 : decode bM_off 69 = .ok (.goto 5, 3) := by decide +kernel
theorem dM_off_72 : decode bM_off 72 = .ok (.lload 5, 2) := by decide +kernel
theorem dM_off_74 : decode bM_off 74 = .ok (.lload_n 1, 1) := by decide +kernel
theorem dM_off_75 : decode bM_off 75 = .ok (.lcmp, 1) := by decide +kernel
theorem dM_off_76 : decode bM_off 76 = .ok (.ifCond .le 7, 3) := by decide +kernel
theorem dM_off_79 : decode bM_off 79 = .ok (.iconst 1, 1) := by decide +kernel
theorem dM_off_80 : decode bM_off 80 = .ok (.goto 4, 3) := by decide +kernel
theorem dM_off_83 : decode bM_off 83 = .ok (.iconst 0, 1) := by decide +kernel
theorem dM_off_84 : decode bM_off 84 = .ok (.iadd, 1) := by decide +kernel
theorem dM_off_85 : decode bM_off 85 = .ok (.istore_n 3, 1) := by decide +kernel
theorem dM_off_86 : decode bM_off 86 = .ok (.iinc 4 1, 3) := by decide +kernel
theorem dM_off_89 : decode bM_off 89 = .ok (.goto (-76), 3) := by decide +kernel
theorem dM_off_92 : decode bM_off 92 = .ok (.iload_n 3, 1) := by decide +kernel
theorem dM_off_93 : decode bM_off 93 = .ok (.ireturn, 1) := by decide +kernel
theorem dM_count_0 : decode bM_count 0 = .ok (.iload_n 1, 1) := by decide +kernel
theorem dM_count_1 : decode bM_count 1 = .ok (.tableswitch 70 0 5 #[39, 44, 49, 54, 59, 64], 39) := by decide +kernel
theorem dM_count_40 : decode bM_count 40 = .ok (.aload_n 0, 1) := by decide +kernel
theorem dM_count_41 : decode bM_count 41 = .ok (.getfield 79, 3) := by decide +kernel
theorem dM_count_44 : decode bM_count 44 = .ok (.ireturn, 1) := by decide +kernel
theorem dM_count_45 : decode bM_count 45 = .ok (.aload_n 0, 1) := by decide +kernel
theorem dM_count_46 : decode bM_count 46 = .ok (.getfield 69, 3) := by decide +kernel
theorem dM_count_49 : decode bM_count 49 = .ok (.ireturn, 1) := by decide +kernel
theorem dM_count_50 : decode bM_count 50 = .ok (.aload_n 0, 1) := by decide +kernel
theorem dM_count_51 : decode bM_count 51 = .ok (.getfield 76, 3) := by decide +kernel
theorem dM_count_54 : decode bM_count 54 = .ok (.ireturn, 1) := by decide +kernel
theorem dM_count_55 : decode bM_count 55 = .ok (.aload_n 0, 1) := by decide +kernel
theorem dM_count_56 : decode bM_count 56 = .ok (.getfield 73, 3) := by decide +kernel
theorem dM_count_59 : decode bM_count 59 = .ok (.ireturn, 1) := by decide +kernel
theorem dM_count_60 : decode bM_count 60 = .ok (.aload_n 0, 1) := by decide +kernel
theorem dM_count_61 : decode bM_count 61 = .ok (.getfield 140, 3) := by decide +kernel
theorem dM_count_64 : decode bM_count 64 = .ok (.ireturn, 1) := by decide +kernel
theorem dM_count_65 : decode bM_count 65 = .ok (.aload_n 0, 1) := by decide +kernel
theorem dM_count_66 : decode bM_count 66 = .ok (.getfield 98, 3) := by decide +kernel
theorem dM_count_69 : decode bM_count 69 = .ok (.l2i, 1) := by decide +kernel
theorem dM_count_70 : decode bM_count 70 = .ok (.ireturn, 1) := by decide +kernel
theorem dM_count_71 : decode bM_count 71 = .ok (.iconst (-1), 1) := by decide +kernel
theorem dM_count_72 : decode bM_count 72 = .ok (.ireturn, 1) := by decide +kernel
end
section
theorem dL_law_0 : decode code 0 = .ok (.new 7, 3) := by decide +kernel
theorem dL_law_3 : decode code 3 = .ok (.dup, 1) := by decide +kernel
theorem dL_law_4 : decode code 4 = .ok (.invokespecial 9, 3) := by decide +kernel
theorem dL_law_7 : decode code 7 = .ok (.astore_n 1, 1) := by decide +kernel
theorem dL_law_8 : decode code 8 = .ok (.new 10, 3) := by decide +kernel
theorem dL_law_11 : decode code 11 = .ok (.dup, 1) := by decide +kernel
theorem dL_law_12 : decode code 12 = .ok (.invokespecial 12, 3) := by decide +kernel
theorem dL_law_15 : decode code 15 = .ok (.astore_n 2, 1) := by decide +kernel
theorem dL_law_16 : decode code 16 = .ok (.iconst 0, 1) := by decide +kernel
theorem dL_law_17 : decode code 17 = .ok (.istore_n 3, 1) := by decide +kernel
theorem dL_law_18 : decode code 18 = .ok (.iload_n 3, 1) := by decide +kernel
theorem dL_law_19 : decode code 19 = .ok (.aload_n 0, 1) := by decide +kernel
theorem dL_law_20 : decode code 20 = .ok (.arraylength, 1) := by decide +kernel
theorem dL_law_21 : decode code 21 = .ok (.bipush 6, 2) := by decide +kernel
theorem dL_law_23 : decode code 23 = .ok (.isub, 1) := by decide +kernel
theorem dL_law_24 : decode code 24 = .ok (.if_icmp .gt 618, 3) := by decide +kernel
theorem dL_law_27 : decode code 27 = .ok (.aload_n 0, 1) := by decide +kernel
theorem dL_law_28 : decode code 28 = .ok (.iload_n 3, 1) := by decide +kernel
theorem dL_law_29 : decode code 29 = .ok (.iaload, 1) := by decide +kernel
theorem dL_law_30 : decode code 30 = .ok (.bipush 15, 2) := by decide +kernel
theorem dL_law_32 : decode code 32 = .ok (.iand, 1) := by decide +kernel
theorem dL_law_33 : decode code 33 = .ok (.tableswitch 603 0 15 #[79, 142, 217, 250, 273, 297, 330, 344, 357, 371, 384, 407, 440, 503, 527, 580], 79) := by decide +kernel
theorem dL_law_112 : decode code 112 = .ok (.aload_n 1, 1) := by decide +kernel
theorem dL_law_113 : decode code 113 = .ok (.aload_n 0, 1) := by decide +kernel
theorem dL_law_114 : decode code 114 = .ok (.iload_n 3, 1) := by decide +kernel
theorem dL_law_115 : decode code 115 = .ok (.iconst 1, 1) := by decide +kernel
theorem dL_law_116 : decode code 116 = .ok (.iadd, 1) := by decide +kernel
theorem dL_law_117 : decode code 117 = .ok (.iaload, 1) := by decide +kernel
theorem dL_law_118 : decode code 118 = .ok (.aload_n 0, 1) := by decide +kernel
theorem dL_law_119 : decode code 119 = .ok (.iload_n 3, 1) := by decide +kernel
theorem dL_law_120 : decode code 120 = .ok (.iconst 2, 1) := by decide +kernel
theorem dL_law_121 : decode code 121 = .ok (.iadd, 1) := by decide +kernel
theorem dL_law_122 : decode code 122 = .ok (.iaload, 1) := by decide +kernel
theorem dL_law_123 : decode code 123 = .ok (.aload_n 0, 1) := by decide +kernel
theorem dL_law_124 : decode code 124 = .ok (.iload_n 3, 1) := by decide +kernel
theorem dL_law_125 : decode code 125 = .ok (.iconst 3, 1) := by decide +kernel
theorem dL_law_126 : decode code 126 = .ok (.iadd, 1) := by decide +kernel
theorem dL_law_127 : decode code 127 = .ok (.iaload, 1) := by decide +kernel
theorem dL_law_128 : decode code 128 = .ok (.aload_n 0, 1) := by decide +kernel
theorem dL_law_129 : decode code 129 = .ok (.iload_n 3, 1) := by decide +kernel
theorem dL_law_130 : decode code 130 = .ok (.iconst 4, 1) := by decide +kernel
theorem dL_law_131 : decode code 131 = .ok (.iadd, 1) := by decide +kernel
theorem dL_law_132 : decode code 132 = .ok (.iaload, 1) := by decide +kernel
theorem dL_law_133 : decode code 133 = .ok (.aload_n 0, 1) := by decide +kernel
theorem dL_law_134 : decode code 134 = .ok (.iload_n 3, 1) := by decide +kernel
theorem dL_law_135 : decode code 135 = .ok (.iconst 5, 1) := by decide +kernel
theorem dL_law_136 : decode code 136 = .ok (.iadd, 1) := by decide +kernel
theorem dL_law_137 : decode code 137 = .ok (.iaload, 1) := by decide +kernel
theorem dL_law_138 : decode code 138 = .ok (.invokevirtual 13, 3) := by decide +kernel
theorem dL_law_141 : decode code 141 = .ok (.aload_n 2, 1) := by decide +kernel
theorem dL_law_142 : decode code 142 = .ok (.aload_n 0, 1) := by decide +kernel
theorem dL_law_143 : decode code 143 = .ok (.iload_n 3, 1) := by decide +kernel
theorem dL_law_144 : decode code 144 = .ok (.iconst 1, 1) := by decide +kernel
theorem dL_law_145 : decode code 145 = .ok (.iadd, 1) := by decide +kernel
theorem dL_law_146 : decode code 146 = .ok (.iaload, 1) := by decide +kernel
theorem dL_law_147 : decode code 147 = .ok (.aload_n 0, 1) := by decide +kernel
theorem dL_law_148 : decode code 148 = .ok (.iload_n 3, 1) := by decide +kernel
theorem dL_law_149 : decode code 149 = .ok (.iconst 2, 1) := by decide +kernel
theorem dL_law_150 : decode code 150 = .ok (.iadd, 1) := by decide +kernel
theorem dL_law_151 : decode code 151 = .ok (.iaload, 1) := by decide +kernel
theorem dL_law_152 : decode code 152 = .ok (.aload_n 0, 1) := by decide +kernel
theorem dL_law_153 : decode code 153 = .ok (.iload_n 3, 1) := by decide +kernel
theorem dL_law_154 : decode code 154 = .ok (.iconst 3, 1) := by decide +kernel
theorem dL_law_155 : decode code 155 = .ok (.iadd, 1) := by decide +kernel
theorem dL_law_156 : decode code 156 = .ok (.iaload, 1) := by decide +kernel
theorem dL_law_157 : decode code 157 = .ok (.aload_n 0, 1) := by decide +kernel
theorem dL_law_158 : decode code 158 = .ok (.iload_n 3, 1) := by decide +kernel
theorem dL_law_159 : decode code 159 = .ok (.iconst 4, 1) := by decide +kernel
theorem dL_law_160 : decode code 160 = .ok (.iadd, 1) := by decide +kernel
theorem dL_law_161 : decode code 161 = .ok (.iaload, 1) := by decide +kernel
theorem dL_law_162 : decode code 162 = .ok (.aload_n 0, 1) := by decide +kernel
theorem dL_law_163 : decode code 163 = .ok (.iload_n 3, 1) := by decide +kernel
theorem dL_law_164 : decode code 164 = .ok (.iconst 5, 1) := by decide +kernel
theorem dL_law_165 : decode code 165 = .ok (.iadd, 1) := by decide +kernel
theorem dL_law_166 : decode code 166 = .ok (.iaload, 1) := by decide +kernel
theorem dL_law_167 : decode code 167 = .ok (.invokevirtual 17, 3) := by decide +kernel
theorem dL_law_170 : decode code 170 = .ok (.if_icmp .eq 466, 3) := by decide +kernel
theorem dL_law_173 : decode code 173 = .ok (.iconst 0, 1) := by decide +kernel
theorem dL_law_174 : decode code 174 = .ok (.ireturn, 1) := by decide +kernel
theorem dL_law_175 : decode code 175 = .ok (.aload_n 1, 1) := by decide +kernel
theorem dL_law_176 : decode code 176 = .ok (.aload_n 0, 1) := by decide +kernel
theorem dL_law_177 : decode code 177 = .ok (.iload_n 3, 1) := by decide +kernel
theorem dL_law_178 : decode code 178 = .ok (.iconst 1, 1) := by decide +kernel
theorem dL_law_179 : decode code 179 = .ok (.iadd, 1) := by decide +kernel
theorem dL_law_180 : decode code 180 = .ok (.iaload, 1) := by decide +kernel
theorem dL_law_181 : decode code 181 = .ok (.ifCond .eq 7, 3) := by decide +kernel
theorem dL_law_184 : decode code 184 = .ok (.iconst 1, 1) := by decide +kernel
theorem dL_law_185 : decode code 185 = .ok (.goto 4, 3) := by decide +kernel
theorem dL_law_188 : decode code 188 = .ok (.iconst 0, 1) := by decide +kernel
theorem dL_law_189 : decode code 189 = .ok (.aload_n 0, 1) := by decide +kernel
theorem dL_law_190 : decode code 190 = .ok (.iload_n 3, 1) := by decide +kernel
theorem dL_law_191 : decode code 191 = .ok (.iconst 2, 1) := by decide +kernel
theorem dL_law_192 : decode code 192 = .ok (.iadd, 1) := by decide +kernel
theorem dL_law_193 : decode code 193 = .ok (.iaload, 1) := by decide +kernel
theorem dL_law_194 : decode code 194 = .ok (.ifCond .eq 7, 3) := by decide +kernel
theorem dL_law_197 : decode code 197 = .ok (.iconst 1, 1) := by decide +kernel
theorem dL_law_198 : decode code 198 = .ok (.goto 4, 3) := by decide +kernel
theorem dL_law_201 : decode code 201 = .ok (.iconst 0, 1) := by decide +kernel
theorem dL_law_202 : decode code 202 = .ok (.aload_n 0, 1) := by decide +kernel
theorem dL_law_203 : decode code 203 = .ok (.iload_n 3, 1) := by decide +kernel
theorem dL_law_204 : decode code 204 = .ok (.iconst 3, 1) := by decide +kernel
theorem dL_law_205 : decode code 205 = .ok (.iadd, 1) := by decide +kernel
theorem dL_law_206 : decode code 206 = .ok (.iaload, 1) := by decide +kernel
theorem dL_law_207 : decode code 207 = .ok (.invokevirtual 18, 3) := by decide +kernel
theorem dL_law_210 : decode code 210 = .ok (.aload_n 2, 1) := by decide +kernel
theorem dL_law_211 : decode code 211 = .ok (.aload_n 0, 1) := by decide +kernel
theorem dL_law_212 : decode code 212 = .ok (.iload_n 3, 1) := by decide +kernel
theorem dL_law_213 : decode code 213 = .ok (.iconst 1, 1) := by decide +kernel
theorem dL_law_214 : decode code 214 = .ok (.iadd, 1) := by decide +kernel
theorem dL_law_215 : decode code 215 = .ok (.iaload, 1) := by decide +kernel
theorem dL_law_216 : decode code 216 = .ok (.ifCond .eq 7, 3) := by decide +kernel
theorem dL_law_219 : decode code 219 = .ok (.iconst 1, 1) := by decide +kernel
theorem dL_law_220 : decode code 220 = .ok (.goto 4, 3) := by decide +kernel
theorem dL_law_223 : decode code 223 = .ok (.iconst 0, 1) := by decide +kernel
theorem dL_law_224 : decode code 224 = .ok (.aload_n 0, 1) := by decide +kernel
theorem dL_law_225 : decode code 225 = .ok (.iload_n 3, 1) := by decide +kernel
theorem dL_law_226 : decode code 226 = .ok (.iconst 2, 1) := by decide +kernel
theorem dL_law_227 : decode code 227 = .ok (.iadd, 1) := by decide +kernel
theorem dL_law_228 : decode code 228 = .ok (.iaload, 1) := by decide +kernel
theorem dL_law_229 : decode code 229 = .ok (.ifCond .eq 7, 3) := by decide +kernel
theorem dL_law_232 : decode code 232 = .ok (.iconst 1, 1) := by decide +kernel
theorem dL_law_233 : decode code 233 = .ok (.goto 4, 3) := by decide +kernel
theorem dL_law_236 : decode code 236 = .ok (.iconst 0, 1) := by decide +kernel
theorem dL_law_237 : decode code 237 = .ok (.aload_n 0, 1) := by decide +kernel
theorem dL_law_238 : decode code 238 = .ok (.iload_n 3, 1) := by decide +kernel
theorem dL_law_239 : decode code 239 = .ok (.iconst 3, 1) := by decide +kernel
theorem dL_law_240 : decode code 240 = .ok (.iadd, 1) := by decide +kernel
theorem dL_law_241 : decode code 241 = .ok (.iaload, 1) := by decide +kernel
theorem dL_law_242 : decode code 242 = .ok (.invokevirtual 22, 3) := by decide +kernel
theorem dL_law_245 : decode code 245 = .ok (.if_icmp .eq 391, 3) := by decide +kernel
theorem dL_law_248 : decode code 248 = .ok (.iconst 0, 1) := by decide +kernel
theorem dL_law_249 : decode code 249 = .ok (.ireturn, 1) := by decide +kernel
theorem dL_law_250 : decode code 250 = .ok (.aload_n 1, 1) := by decide +kernel
theorem dL_law_251 : decode code 251 = .ok (.aload_n 0, 1) := by decide +kernel
theorem dL_law_252 : decode code 252 = .ok (.iload_n 3, 1) := by decide +kernel
theorem dL_law_253 : decode code 253 = .ok (.iconst 1, 1) := by decide +kernel
theorem dL_law_254 : decode code 254 = .ok (.iadd, 1) := by decide +kernel
theorem dL_law_255 : decode code 255 = .ok (.iaload, 1) := by decide +kernel
theorem dL_law_256 : decode code 256 = .ok (.aload_n 0, 1) := by decide +kernel
theorem dL_law_257 : decode code 257 = .ok (.iload_n 3, 1) := by decide +kernel
theorem dL_law_258 : decode code 258 = .ok (.iconst 2, 1) := by decide +kernel
theorem dL_law_259 : decode code 259 = .ok (.iadd, 1) := by decide +kernel
theorem dL_law_260 : decode code 260 = .ok (.iaload, 1) := by decide +kernel
theorem dL_law_261 : decode code 261 = .ok (.invokevirtual 23, 3) := by decide +kernel
theorem dL_law_264 : decode code 264 = .ok (.aload_n 2, 1) := by decide +kernel
theorem dL_law_265 : decode code 265 = .ok (.aload_n 0, 1) := by decide +kernel
theorem dL_law_266 : decode code 266 = .ok (.iload_n 3, 1) := by decide +kernel
theorem dL_law_267 : decode code 267 = .ok (.iconst 1, 1) := by decide +kernel
theorem dL_law_268 : decode code 268 = .ok (.iadd, 1) := by decide +kernel
theorem dL_law_269 : decode code 269 = .ok (.iaload, 1) := by decide +kernel
theorem dL_law_270 : decode code 270 = .ok (.aload_n 0, 1) := by decide +kernel
theorem dL_law_271 : decode code 271 = .ok (.iload_n 3, 1) := by decide +kernel
theorem dL_law_272 : decode code 272 = .ok (.iconst 2, 1) := by decide +kernel
theorem dL_law_273 : decode code 273 = .ok (.iadd, 1) := by decide +kernel
theorem dL_law_274 : decode code 274 = .ok (.iaload, 1) := by decide +kernel
theorem dL_law_275 : decode code 275 = .ok (.invokevirtual 27, 3) := by decide +kernel
theorem dL_law_278 : decode code 278 = .ok (.if_icmp .eq 358, 3) := by decide +kernel
theorem dL_law_281 : decode code 281 = .ok (.iconst 0, 1) := by decide +kernel
theorem dL_law_282 : decode code 282 = .ok (.ireturn, 1) := by decide +kernel
theorem dL_law_283 : decode code 283 = .ok (.aload_n 1, 1) := by decide +kernel
theorem dL_law_284 : decode code 284 = .ok (.aload_n 0, 1) := by decide +kernel
theorem dL_law_285 : decode code 285 = .ok (.iload_n 3, 1) := by decide +kernel
theorem dL_law_286 : decode code 286 = .ok (.iconst 1, 1) := by decide +kernel
theorem dL_law_287 : decode code 287 = .ok (.iadd, 1) := by decide +kernel
theorem dL_law_288 : decode code 288 = .ok (.iaload, 1) := by decide +kernel
theorem dL_law_289 : decode code 289 = .ok (.invokevirtual 28, 3) := by decide +kernel
theorem dL_law_292 : decode code 292 = .ok (.aload_n 2, 1) := by decide +kernel
theorem dL_law_293 : decode code 293 = .ok (.aload_n 0, 1) := by decide +kernel
theorem dL_law_294 : decode code 294 = .ok (.iload_n 3, 1) := by decide +kernel
theorem dL_law_295 : decode code 295 = .ok (.iconst 1, 1) := by decide +kernel
theorem dL_law_296 : decode code 296 = .ok (.iadd, 1) := by decide +kernel
theorem dL_law_297 : decode code 297 = .ok (.iaload, 1) := by decide +kernel
theorem dL_law_298 : decode code 298 = .ok (.invokevirtual 32, 3) := by decide +kernel
theorem dL_law_301 : decode code 301 = .ok (.if_icmp .eq 335, 3) := by decide +kernel
theorem dL_law_304 : decode code 304 = .ok (.iconst 0, 1) := by decide +kernel
theorem dL_law_305 : decode code 305 = .ok (.ireturn, 1) := by decide +kernel
theorem dL_law_306 : decode code 306 = .ok (.aload_n 1, 1) := by decide +kernel
theorem dL_law_307 : decode code 307 = .ok (.aload_n 0, 1) := by decide +kernel
theorem dL_law_308 : decode code 308 = .ok (.iload_n 3, 1) := by decide +kernel
theorem dL_law_309 : decode code 309 = .ok (.iconst 1, 1) := by decide +kernel
theorem dL_law_310 : decode code 310 = .ok (.iadd, 1) := by decide +kernel
theorem dL_law_311 : decode code 311 = .ok (.iaload, 1) := by decide +kernel
theorem dL_law_312 : decode code 312 = .ok (.invokevirtual 33, 3) := by decide +kernel
theorem dL_law_315 : decode code 315 = .ok (.aload_n 2, 1) := by decide +kernel
theorem dL_law_316 : decode code 316 = .ok (.aload_n 0, 1) := by decide +kernel
theorem dL_law_317 : decode code 317 = .ok (.iload_n 3, 1) := by decide +kernel
theorem dL_law_318 : decode code 318 = .ok (.iconst 1, 1) := by decide +kernel
theorem dL_law_319 : decode code 319 = .ok (.iadd, 1) := by decide +kernel
theorem dL_law_320 : decode code 320 = .ok (.iaload, 1) := by decide +kernel
theorem dL_law_321 : decode code 321 = .ok (.invokevirtual 37, 3) := by decide +kernel
theorem dL_law_324 : decode code 324 = .ok (.lcmp, 1) := by decide +kernel
theorem dL_law_325 : decode code 325 = .ok (.ifCond .eq 311, 3) := by decide +kernel
theorem dL_law_328 : decode code 328 = .ok (.iconst 0, 1) := by decide +kernel
theorem dL_law_329 : decode code 329 = .ok (.ireturn, 1) := by decide +kernel
theorem dL_law_330 : decode code 330 = .ok (.aload_n 1, 1) := by decide +kernel
theorem dL_law_331 : decode code 331 = .ok (.aload_n 0, 1) := by decide +kernel
theorem dL_law_332 : decode code 332 = .ok (.iload_n 3, 1) := by decide +kernel
theorem dL_law_333 : decode code 333 = .ok (.iconst 1, 1) := by decide +kernel
theorem dL_law_334 : decode code 334 = .ok (.iadd, 1) := by decide +kernel
theorem dL_law_335 : decode code 335 = .ok (.iaload, 1) := by decide +kernel
theorem dL_law_336 : decode code 336 = .ok (.aload_n 0, 1) := by decide +kernel
theorem dL_law_337 : decode code 337 = .ok (.iload_n 3, 1) := by decide +kernel
theorem dL_law_338 : decode code 338 = .ok (.iconst 2, 1) := by decide +kernel
theorem dL_law_339 : decode code 339 = .ok (.iadd, 1) := by decide +kernel
theorem dL_law_340 : decode code 340 = .ok (.iaload, 1) := by decide +kernel
theorem dL_law_341 : decode code 341 = .ok (.invokevirtual 38, 3) := by decide +kernel
theorem dL_law_344 : decode code 344 = .ok (.aload_n 2, 1) := by decide +kernel
theorem dL_law_345 : decode code 345 = .ok (.aload_n 0, 1) := by decide +kernel
theorem dL_law_346 : decode code 346 = .ok (.iload_n 3, 1) := by decide +kernel
theorem dL_law_347 : decode code 347 = .ok (.iconst 1, 1) := by decide +kernel
theorem dL_law_348 : decode code 348 = .ok (.iadd, 1) := by decide +kernel
theorem dL_law_349 : decode code 349 = .ok (.iaload, 1) := by decide +kernel
theorem dL_law_350 : decode code 350 = .ok (.aload_n 0, 1) := by decide +kernel
theorem dL_law_351 : decode code 351 = .ok (.iload_n 3, 1) := by decide +kernel
theorem dL_law_352 : decode code 352 = .ok (.iconst 2, 1) := by decide +kernel
theorem dL_law_353 : decode code 353 = .ok (.iadd, 1) := by decide +kernel
theorem dL_law_354 : decode code 354 = .ok (.iaload, 1) := by decide +kernel
theorem dL_law_355 : decode code 355 = .ok (.invokevirtual 41, 3) := by decide +kernel
theorem dL_law_358 : decode code 358 = .ok (.if_icmp .eq 278, 3) := by decide +kernel
theorem dL_law_361 : decode code 361 = .ok (.iconst 0, 1) := by decide +kernel
theorem dL_law_362 : decode code 362 = .ok (.ireturn, 1) := by decide +kernel
theorem dL_law_363 : decode code 363 = .ok (.aload_n 1, 1) := by decide +kernel
theorem dL_law_364 : decode code 364 = .ok (.invokevirtual 42, 3) := by decide +kernel
theorem dL_law_367 : decode code 367 = .ok (.aload_n 2, 1) := by decide +kernel
theorem dL_law_368 : decode code 368 = .ok (.invokevirtual 46, 3) := by decide +kernel
theorem dL_law_371 : decode code 371 = .ok (.lcmp, 1) := by decide +kernel
theorem dL_law_372 : decode code 372 = .ok (.ifCond .eq 264, 3) := by decide +kernel
theorem dL_law_375 : decode code 375 = .ok (.iconst 0, 1) := by decide +kernel
theorem dL_law_376 : decode code 376 = .ok (.ireturn, 1) := by decide +kernel
theorem dL_law_377 : decode code 377 = .ok (.aload_n 1, 1) := by decide +kernel
theorem dL_law_378 : decode code 378 = .ok (.invokevirtual 47, 3) := by decide +kernel
theorem dL_law_381 : decode code 381 = .ok (.aload_n 2, 1) := by decide +kernel
theorem dL_law_382 : decode code 382 = .ok (.invokevirtual 51, 3) := by decide +kernel
theorem dL_law_385 : decode code 385 = .ok (.if_icmp .eq 251, 3) := by decide +kernel
theorem dL_law_388 : decode code 388 = .ok (.iconst 0, 1) := by decide +kernel
theorem dL_law_389 : decode code 389 = .ok (.ireturn, 1) := by decide +kernel
theorem dL_law_390 : decode code 390 = .ok (.aload_n 1, 1) := by decide +kernel
theorem dL_law_391 : decode code 391 = .ok (.invokevirtual 52, 3) := by decide +kernel
theorem dL_law_394 : decode code 394 = .ok (.aload_n 2, 1) := by decide +kernel
theorem dL_law_395 : decode code 395 = .ok (.invokevirtual 55, 3) := by decide +kernel
theorem dL_law_398 : decode code 398 = .ok (.lcmp, 1) := by decide +kernel
theorem dL_law_399 : decode code 399 = .ok (.ifCond .eq 237, 3) := by decide +kernel
theorem dL_law_402 : decode code 402 = .ok (.iconst 0, 1) := by decide +kernel
theorem dL_law_403 : decode code 403 = .ok (.ireturn, 1) := by decide +kernel
theorem dL_law_404 : decode code 404 = .ok (.aload_n 1, 1) := by decide +kernel
theorem dL_law_405 : decode code 405 = .ok (.invokevirtual 56, 3) := by decide +kernel
theorem dL_law_408 : decode code 408 = .ok (.aload_n 2, 1) := by decide +kernel
theorem dL_law_409 : decode code 409 = .ok (.invokevirtual 60, 3) := by decide +kernel
theorem dL_law_412 : decode code 412 = .ok (.if_icmp .eq 224, 3) := by decide +kernel
theorem dL_law_415 : decode code 415 = .ok (.iconst 0, 1) := by decide +kernel
theorem dL_law_416 : decode code 416 = .ok (.ireturn, 1) := by decide +kernel
theorem dL_law_417 : decode code 417 = .ok (.aload_n 1, 1) := by decide +kernel
theorem dL_law_418 : decode code 418 = .ok (.aload_n 0, 1) := by decide +kernel
theorem dL_law_419 : decode code 419 = .ok (.iload_n 3, 1) := by decide +kernel
theorem dL_law_420 : decode code 420 = .ok (.iconst 1, 1) := by decide +kernel
theorem dL_law_421 : decode code 421 = .ok (.iadd, 1) := by decide +kernel
theorem dL_law_422 : decode code 422 = .ok (.iaload, 1) := by decide +kernel
theorem dL_law_423 : decode code 423 = .ok (.invokevirtual 61, 3) := by decide +kernel
theorem dL_law_426 : decode code 426 = .ok (.aload_n 2, 1) := by decide +kernel
theorem dL_law_427 : decode code 427 = .ok (.aload_n 0, 1) := by decide +kernel
theorem dL_law_428 : decode code 428 = .ok (.iload_n 3, 1) := by decide +kernel
theorem dL_law_429 : decode code 429 = .ok (.iconst 1, 1) := by decide +kernel
theorem dL_law_430 : decode code 430 = .ok (.iadd, 1) := by decide +kernel
theorem dL_law_431 : decode code 431 = .ok (.iaload, 1) := by decide +kernel
theorem dL_law_432 : decode code 432 = .ok (.invokevirtual 64, 3) := by decide +kernel
theorem dL_law_435 : decode code 435 = .ok (.if_icmp .eq 201, 3) := by decide +kernel
theorem dL_law_438 : decode code 438 = .ok (.iconst 0, 1) := by decide +kernel
theorem dL_law_439 : decode code 439 = .ok (.ireturn, 1) := by decide +kernel
theorem dL_law_440 : decode code 440 = .ok (.aload_n 1, 1) := by decide +kernel
theorem dL_law_441 : decode code 441 = .ok (.aload_n 0, 1) := by decide +kernel
theorem dL_law_442 : decode code 442 = .ok (.iload_n 3, 1) := by decide +kernel
theorem dL_law_443 : decode code 443 = .ok (.iconst 1, 1) := by decide +kernel
theorem dL_law_444 : decode code 444 = .ok (.iadd, 1) := by decide +kernel
theorem dL_law_445 : decode code 445 = .ok (.iaload, 1) := by decide +kernel
theorem dL_law_446 : decode code 446 = .ok (.aload_n 0, 1) := by decide +kernel
theorem dL_law_447 : decode code 447 = .ok (.iload_n 3, 1) := by decide +kernel
theorem dL_law_448 : decode code 448 = .ok (.iconst 2, 1) := by decide +kernel
theorem dL_law_449 : decode code 449 = .ok (.iadd, 1) := by decide +kernel
theorem dL_law_450 : decode code 450 = .ok (.iaload, 1) := by decide +kernel
theorem dL_law_451 : decode code 451 = .ok (.invokevirtual 65, 3) := by decide +kernel
theorem dL_law_454 : decode code 454 = .ok (.aload_n 2, 1) := by decide +kernel
theorem dL_law_455 : decode code 455 = .ok (.aload_n 0, 1) := by decide +kernel
theorem dL_law_456 : decode code 456 = .ok (.iload_n 3, 1) := by decide +kernel
theorem dL_law_457 : decode code 457 = .ok (.iconst 1, 1) := by decide +kernel
theorem dL_law_458 : decode code 458 = .ok (.iadd, 1) := by decide +kernel
theorem dL_law_459 : decode code 459 = .ok (.iaload, 1) := by decide +kernel
theorem dL_law_460 : decode code 460 = .ok (.aload_n 0, 1) := by decide +kernel
theorem dL_law_461 : decode code 461 = .ok (.iload_n 3, 1) := by decide +kernel
theorem dL_law_462 : decode code 462 = .ok (.iconst 2, 1) := by decide +kernel
theorem dL_law_463 : decode code 463 = .ok (.iadd, 1) := by decide +kernel
theorem dL_law_464 : decode code 464 = .ok (.iaload, 1) := by decide +kernel
theorem dL_law_465 : decode code 465 = .ok (.invokevirtual 68, 3) := by decide +kernel
theorem dL_law_468 : decode code 468 = .ok (.if_icmp .eq 168, 3) := by decide +kernel
theorem dL_law_471 : decode code 471 = .ok (.iconst 0, 1) := by decide +kernel
theorem dL_law_472 : decode code 472 = .ok (.ireturn, 1) := by decide +kernel
theorem dL_law_473 : decode code 473 = .ok (.aload_n 1, 1) := by decide +kernel
theorem dL_law_474 : decode code 474 = .ok (.aload_n 0, 1) := by decide +kernel
theorem dL_law_475 : decode code 475 = .ok (.iload_n 3, 1) := by decide +kernel
theorem dL_law_476 : decode code 476 = .ok (.iconst 1, 1) := by decide +kernel
theorem dL_law_477 : decode code 477 = .ok (.iadd, 1) := by decide +kernel
theorem dL_law_478 : decode code 478 = .ok (.iaload, 1) := by decide +kernel
theorem dL_law_479 : decode code 479 = .ok (.aload_n 0, 1) := by decide +kernel
theorem dL_law_480 : decode code 480 = .ok (.iload_n 3, 1) := by decide +kernel
theorem dL_law_481 : decode code 481 = .ok (.iconst 2, 1) := by decide +kernel
theorem dL_law_482 : decode code 482 = .ok (.iadd, 1) := by decide +kernel
theorem dL_law_483 : decode code 483 = .ok (.iaload, 1) := by decide +kernel
theorem dL_law_484 : decode code 484 = .ok (.i2l, 1) := by decide +kernel
theorem dL_law_485 : decode code 485 = .ok (.bipush 32, 2) := by decide +kernel
theorem dL_law_487 : decode code 487 = .ok (.lshl, 1) := by decide +kernel
theorem dL_law_488 : decode code 488 = .ok (.aload_n 0, 1) := by decide +kernel
theorem dL_law_489 : decode code 489 = .ok (.iload_n 3, 1) := by decide +kernel
theorem dL_law_490 : decode code 490 = .ok (.iconst 3, 1) := by decide +kernel
theorem dL_law_491 : decode code 491 = .ok (.iadd, 1) := by decide +kernel
theorem dL_law_492 : decode code 492 = .ok (.iaload, 1) := by decide +kernel
theorem dL_law_493 : decode code 493 = .ok (.i2l, 1) := by decide +kernel
theorem dL_law_494 : decode code 494 = .ok (.ldc2_w 69, 3) := by decide +kernel
theorem dL_law_497 : decode code 497 = .ok (.land, 1) := by decide +kernel
theorem dL_law_498 : decode code 498 = .ok (.lor, 1) := by decide +kernel
theorem dL_law_499 : decode code 499 = .ok (.invokevirtual 71, 3) := by decide +kernel
theorem dL_law_502 : decode code 502 = .ok (.aload_n 2, 1) := by decide +kernel
theorem dL_law_503 : decode code 503 = .ok (.aload_n 0, 1) := by decide +kernel
theorem dL_law_504 : decode code 504 = .ok (.iload_n 3, 1) := by decide +kernel
theorem dL_law_505 : decode code 505 = .ok (.iconst 1, 1) := by decide +kernel
theorem dL_law_506 : decode code 506 = .ok (.iadd, 1) := by decide +kernel
theorem dL_law_507 : decode code 507 = .ok (.iaload, 1) := by decide +kernel
theorem dL_law_508 : decode code 508 = .ok (.aload_n 0, 1) := by decide +kernel
theorem dL_law_509 : decode code 509 = .ok (.iload_n 3, 1) := by decide +kernel
theorem dL_law_510 : decode code 510 = .ok (.iconst 2, 1) := by decide +kernel
theorem dL_law_511 : decode code 511 = .ok (.iadd, 1) := by decide +kernel
theorem dL_law_512 : decode code 512 = .ok (.iaload, 1) := by decide +kernel
theorem dL_law_513 : decode code 513 = .ok (.i2l, 1) := by decide +kernel
theorem dL_law_514 : decode code 514 = .ok (.bipush 32, 2) := by decide +kernel
theorem dL_law_516 : decode code 516 = .ok (.lshl, 1) := by decide +kernel
theorem dL_law_517 : decode code 517 = .ok (.aload_n 0, 1) := by decide +kernel
theorem dL_law_518 : decode code 518 = .ok (.iload_n 3, 1) := by decide +kernel
theorem dL_law_519 : decode code 519 = .ok (.iconst 3, 1) := by decide +kernel
theorem dL_law_520 : decode code 520 = .ok (.iadd, 1) := by decide +kernel
theorem dL_law_521 : decode code 521 = .ok (.iaload, 1) := by decide +kernel
theorem dL_law_522 : decode code 522 = .ok (.i2l, 1) := by decide +kernel
theorem dL_law_523 : decode code 523 = .ok (.ldc2_w 69, 3) := by decide +kernel
theorem dL_law_526 : decode code 526 = .ok (.land, 1) := by decide +kernel
theorem dL_law_527 : decode code 527 = .ok (.lor, 1) := by decide +kernel
theorem dL_law_528 : decode code 528 = .ok (.invokevirtual 75, 3) := by decide +kernel
theorem dL_law_531 : decode code 531 = .ok (.if_icmp .eq 105, 3) := by decide +kernel
theorem dL_law_534 : decode code 534 = .ok (.iconst 0, 1) := by decide +kernel
theorem dL_law_535 : decode code 535 = .ok (.ireturn, 1) := by decide +kernel
theorem dL_law_536 : decode code 536 = .ok (.aload_n 1, 1) := by decide +kernel
theorem dL_law_537 : decode code 537 = .ok (.aload_n 0, 1) := by decide +kernel
theorem dL_law_538 : decode code 538 = .ok (.iload_n 3, 1) := by decide +kernel
theorem dL_law_539 : decode code 539 = .ok (.iconst 1, 1) := by decide +kernel
theorem dL_law_540 : decode code 540 = .ok (.iadd, 1) := by decide +kernel
theorem dL_law_541 : decode code 541 = .ok (.iaload, 1) := by decide +kernel
theorem dL_law_542 : decode code 542 = .ok (.invokevirtual 76, 3) := by decide +kernel
theorem dL_law_545 : decode code 545 = .ok (.aload_n 2, 1) := by decide +kernel
theorem dL_law_546 : decode code 546 = .ok (.aload_n 0, 1) := by decide +kernel
theorem dL_law_547 : decode code 547 = .ok (.iload_n 3, 1) := by decide +kernel
theorem dL_law_548 : decode code 548 = .ok (.iconst 1, 1) := by decide +kernel
theorem dL_law_549 : decode code 549 = .ok (.iadd, 1) := by decide +kernel
theorem dL_law_550 : decode code 550 = .ok (.iaload, 1) := by decide +kernel
theorem dL_law_551 : decode code 551 = .ok (.invokevirtual 79, 3) := by decide +kernel
theorem dL_law_554 : decode code 554 = .ok (.lcmp, 1) := by decide +kernel
theorem dL_law_555 : decode code 555 = .ok (.ifCond .eq 81, 3) := by decide +kernel
theorem dL_law_558 : decode code 558 = .ok (.iconst 0, 1) := by decide +kernel
theorem dL_law_559 : decode code 559 = .ok (.ireturn, 1) := by decide +kernel
theorem dL_law_560 : decode code 560 = .ok (.aload_n 1, 1) := by decide +kernel
theorem dL_law_561 : decode code 561 = .ok (.aload_n 0, 1) := by decide +kernel
theorem dL_law_562 : decode code 562 = .ok (.iload_n 3, 1) := by decide +kernel
theorem dL_law_563 : decode code 563 = .ok (.iconst 1, 1) := by decide +kernel
theorem dL_law_564 : decode code 564 = .ok (.iadd, 1) := by decide +kernel
theorem dL_law_565 : decode code 565 = .ok (.iaload, 1) := by decide +kernel
theorem dL_law_566 : decode code 566 = .ok (.i2l, 1) := by decide +kernel
theorem dL_law_567 : decode code 567 = .ok (.bipush 32, 2) := by decide +kernel
theorem dL_law_569 : decode code 569 = .ok (.lshl, 1) := by decide +kernel
theorem dL_law_570 : decode code 570 = .ok (.aload_n 0, 1) := by decide +kernel
theorem dL_law_571 : decode code 571 = .ok (.iload_n 3, 1) := by decide +kernel
theorem dL_law_572 : decode code 572 = .ok (.iconst 2, 1) := by decide +kernel
theorem dL_law_573 : decode code 573 = .ok (.iadd, 1) := by decide +kernel
theorem dL_law_574 : decode code 574 = .ok (.iaload, 1) := by decide +kernel
theorem dL_law_575 : decode code 575 = .ok (.i2l, 1) := by decide +kernel
theorem dL_law_576 : decode code 576 = .ok (.ldc2_w 69, 3) := by decide +kernel
theorem dL_law_579 : decode code 579 = .ok (.land, 1) := by decide +kernel
theorem dL_law_580 : decode code 580 = .ok (.lor, 1) := by decide +kernel
theorem dL_law_581 : decode code 581 = .ok (.invokevirtual 80, 3) := by decide +kernel
theorem dL_law_584 : decode code 584 = .ok (.aload_n 2, 1) := by decide +kernel
theorem dL_law_585 : decode code 585 = .ok (.aload_n 0, 1) := by decide +kernel
theorem dL_law_586 : decode code 586 = .ok (.iload_n 3, 1) := by decide +kernel
theorem dL_law_587 : decode code 587 = .ok (.iconst 1, 1) := by decide +kernel
theorem dL_law_588 : decode code 588 = .ok (.iadd, 1) := by decide +kernel
theorem dL_law_589 : decode code 589 = .ok (.iaload, 1) := by decide +kernel
theorem dL_law_590 : decode code 590 = .ok (.i2l, 1) := by decide +kernel
theorem dL_law_591 : decode code 591 = .ok (.bipush 32, 2) := by decide +kernel
theorem dL_law_593 : decode code 593 = .ok (.lshl, 1) := by decide +kernel
theorem dL_law_594 : decode code 594 = .ok (.aload_n 0, 1) := by decide +kernel
theorem dL_law_595 : decode code 595 = .ok (.iload_n 3, 1) := by decide +kernel
theorem dL_law_596 : decode code 596 = .ok (.iconst 2, 1) := by decide +kernel
theorem dL_law_597 : decode code 597 = .ok (.iadd, 1) := by decide +kernel
theorem dL_law_598 : decode code 598 = .ok (.iaload, 1) := by decide +kernel
theorem dL_law_599 : decode code 599 = .ok (.i2l, 1) := by decide +kernel
theorem dL_law_600 : decode code 600 = .ok (.ldc2_w 69, 3) := by decide +kernel
theorem dL_law_603 : decode code 603 = .ok (.land, 1) := by decide +kernel
theorem dL_law_604 : decode code 604 = .ok (.lor, 1) := by decide +kernel
theorem dL_law_605 : decode code 605 = .ok (.invokevirtual 84, 3) := by decide +kernel
theorem dL_law_608 : decode code 608 = .ok (.if_icmp .eq 28, 3) := by decide +kernel
theorem dL_law_611 : decode code 611 = .ok (.iconst 0, 1) := by decide +kernel
theorem dL_law_612 : decode code 612 = .ok (.ireturn, 1) := by decide +kernel
theorem dL_law_613 : decode code 613 = .ok (.aload_n 1, 1) := by decide +kernel
theorem dL_law_614 : decode code 614 = .ok (.aload_n 0, 1) := by decide +kernel
theorem dL_law_615 : decode code 615 = .ok (.iload_n 3, 1) := by decide +kernel
theorem dL_law_616 : decode code 616 = .ok (.iconst 1, 1) := by decide +kernel
theorem dL_law_617 : decode code 617 = .ok (.iadd, 1) := by decide +kernel
theorem dL_law_618 : decode code 618 = .ok (.iaload, 1) := by decide +kernel
theorem dL_law_619 : decode code 619 = .ok (.invokevirtual 85, 3) := by decide +kernel
theorem dL_law_622 : decode code 622 = .ok (.aload_n 2, 1) := by decide +kernel
theorem dL_law_623 : decode code 623 = .ok (.aload_n 0, 1) := by decide +kernel
theorem dL_law_624 : decode code 624 = .ok (.iload_n 3, 1) := by decide +kernel
theorem dL_law_625 : decode code 625 = .ok (.iconst 1, 1) := by decide +kernel
theorem dL_law_626 : decode code 626 = .ok (.iadd, 1) := by decide +kernel
theorem dL_law_627 : decode code 627 = .ok (.iaload, 1) := by decide +kernel
theorem dL_law_628 : decode code 628 = .ok (.invokevirtual 88, 3) := by decide +kernel
theorem dL_law_631 : decode code 631 = .ok (.if_icmp .eq 5, 3) := by decide +kernel
theorem dL_law_634 : decode code 634 = .ok (.iconst 0, 1) := by decide +kernel
theorem dL_law_635 : decode code 635 = .ok (.ireturn, 1) := by decide +kernel
theorem dL_law_636 : decode code 636 = .ok (.iinc 3 6, 3) := by decide +kernel
theorem dL_law_639 : decode code 639 = .ok (.goto (-621), 3) := by decide +kernel
theorem dL_law_642 : decode code 642 = .ok (.iconst 1, 1) := by decide +kernel
theorem dL_law_643 : decode code 643 = .ok (.ireturn, 1) := by decide +kernel
end
section
/-! rows of my own: arrays at places that are natural numbers, a loop, one class of int arrays and one of long arrays -/
section XA
variable {p : Program} {l : Launch} {e : Env} {R : Room} {s : State} {m : MethodId} {args : Array Value} {below : List Frame} {meth : Method} {c : Code} {H H0 : Heap} {locs : List Loc} {cells slots : Nat} {Q : State → Prop}
variable {cc : ByteArray} {D : va_G} {cl : List vw_C} {tys : List (ClassId × FieldType)} {ws : va_W} {A : Nat → Prop} {a pc : Nat} {ls : Array Slot} {rest : List Value}
theorem xa_iald (hexec : p.tables.exec = Jvm.exec) (hb : c.code = cc) (hK : va_K D cl tys s) (hP : va_P D cl ws H) (q0 t0 : Nat) {cA : ClassId} {n : Nat} {f : Nat → Int32} (ha : ws[q0]? = some (a, .inl (cA, n, .inl f))) (ht : tys[t0]? = some (cA, .int)) {i : Nat} (hi : i < n) (hn : n < 2 ^ 31) (hdg : decode cc pc = .ok (.iaload, 1))
    (kk : W p l e R s m args below meth c H locs cells slots Q (F0 m (pc + 1) ls (.int (f i) :: rest))) : W p l e R s m args below meth c H locs cells slots Q (F0 m pc ls (.int (nI i) :: .ref a :: rest)) := by
  refine va_iald hexec hb hK hP q0 t0 ha ht (vp_in_nI hi hn) hdg ?_
  rw [nI_clamp (Nat.lt_trans hi hn)]
  exact kk
theorem xa_lald (hexec : p.tables.exec = Jvm.exec) (hb : c.code = cc) (hK : va_K D cl tys s) (hP : va_P D cl ws H) (q0 t0 : Nat) {cA : ClassId} {n : Nat} {f : Nat → Int64} (ha : ws[q0]? = some (a, .inl (cA, n, .inr (.inl f)))) (ht : tys[t0]? = some (cA, .long)) {i : Nat} (hi : i < n) (hn : n < 2 ^ 31) (hdg : decode cc pc = .ok (.laload, 1))
    (kk : W p l e R s m args below meth c H locs cells slots Q (F0 m (pc + 1) ls (.long (f i) :: rest))) : W p l e R s m args below meth c H locs cells slots Q (F0 m pc ls (.int (nI i) :: .ref a :: rest)) := by
  refine va_lald hexec hb hK hP q0 t0 ha ht (vp_in_nI hi hn) hdg ?_
  rw [nI_clamp (Nat.lt_trans hi hn)]
  exact kk
theorem xa_iast (hexec : p.tables.exec = Jvm.exec) (hb : c.code = cc) (hK : va_K D cl tys s) (hP : va_P D cl ws H) (hD : va_D A ws) (hS : va_S A H0 H locs) (q0 t0 : Nat) {cA : ClassId} {n : Nat} {f : Nat → Int32} (ha : ws[q0]? = some (a, .inl (cA, n, .inl f))) (ht : tys[t0]? = some (cA, .int)) {i : Nat} {x : Int32} (hi : i < n) (hn : n < 2 ^ 31) (hdg : decode cc pc = .ok (.iastore, 1))
    (kk : ∀ (H1 : Heap) (locs1 : List Loc), va_P D cl (ws.set q0 (a, .inl (cA, n, .inl (upd f i x)))) H1 → va_D A (ws.set q0 (a, .inl (cA, n, .inl (upd f i x)))) → va_S A H0 H1 locs1 → W p l e R s m args below meth c H1 locs1 cells slots Q (F0 m (pc + 1) ls rest)) : W p l e R s m args below meth c H locs cells slots Q (F0 m pc ls (.int x :: .int (nI i) :: .ref a :: rest)) := by
  refine va_iast hexec hb hK hP hD hS q0 t0 ha ht (vp_in_nI hi hn) hdg ?_
  rw [nI_clamp (Nat.lt_trans hi hn)]
  exact kk
theorem xa_last (hexec : p.tables.exec = Jvm.exec) (hb : c.code = cc) (hK : va_K D cl tys s) (hP : va_P D cl ws H) (hD : va_D A ws) (hS : va_S A H0 H locs) (q0 t0 : Nat) {cA : ClassId} {n : Nat} {f : Nat → Int64} (ha : ws[q0]? = some (a, .inl (cA, n, .inr (.inl f)))) (ht : tys[t0]? = some (cA, .long)) {i : Nat} {x : Int64} (hi : i < n) (hn : n < 2 ^ 31) (hdg : decode cc pc = .ok (.lastore, 1))
    (kk : ∀ (H1 : Heap) (locs1 : List Loc), va_P D cl (ws.set q0 (a, .inl (cA, n, .inr (.inl (vp_updL f i x))))) H1 → va_D A (ws.set q0 (a, .inl (cA, n, .inr (.inl (vp_updL f i x))))) → va_S A H0 H1 locs1 → W p l e R s m args below meth c H1 locs1 cells slots Q (F0 m (pc + 1) ls rest)) : W p l e R s m args below meth c H locs cells slots Q (F0 m pc ls (.long x :: .int (nI i) :: .ref a :: rest)) := by
  refine va_last hexec hb hK hP hD hS q0 t0 ha ht (vp_in_nI hi hn) hdg ?_
  rw [nI_clamp (Nat.lt_trans hi hn)]
  exact kk
/-- a loop of at most N rounds: at its head with i rounds gone the picture I i -/
theorem x_loop {N : Nat} (I : Nat → Heap → List Loc → Array Slot → Prop) {st : List Value} {i0 : Nat}
    (step : ∀ i : Nat, i ≤ N → (i < N → ∀ (H : Heap) (locs : List Loc) (ls : Array Slot), I (i + 1) H locs ls → W p l e R s m args below meth c H locs cells slots Q (F0 m pc ls st)) → ∀ (H : Heap) (locs : List Loc) (ls : Array Slot), I i H locs ls → W p l e R s m args below meth c H locs cells slots Q (F0 m pc ls st))
    (h0 : i0 ≤ N) (hI : I i0 H locs ls) : W p l e R s m args below meth c H locs cells slots Q (F0 m pc ls st) := by
  have key : ∀ (k i : Nat), N ≤ i + k → i ≤ N → ∀ (H : Heap) (locs : List Loc) (ls : Array Slot), I i H locs ls → W p l e R s m args below meth c H locs cells slots Q (F0 m pc ls st) := by
    intro k
    induction k with
    | zero => exact fun i h1 h2 => step i h2 (fun h => absurd h (by omega))
    | succ k ih => exact fun i h1 h2 => step i h2 (fun h => ih (i + 1) (by omega) (by omega))
  exact key N i0 (by omega) h0 H locs ls hI
/-- several roads to one place with a number on top: the place is walked once -/
theorem x_join {pc pc2 : Nat} {v0 : Int32} {nL : Nat} {lv : List (Nat × Value)} {st st2 : List Value}
    (J : ∀ ls : Array Slot, lv_has ls nL lv → W p l e R s m args below meth c H locs cells slots Q (F0 m pc2 ls (.int v0 :: st2)))
    (k : (∀ ls : Array Slot, lv_has ls nL lv → W p l e R s m args below meth c H locs cells slots Q (F0 m pc2 ls (.int v0 :: st2))) → W p l e R s m args below meth c H locs cells slots Q (F0 m pc ls st)) :
    W p l e R s m args below meth c H locs cells slots Q (F0 m pc ls st) := k J
/-- an array of longs is what its places hold -/
theorem x_cellL {cA : ClassId} {n : Nat} {f g : Nat → Int64} (h : ∀ j, j < n → f j = g j) : vp_cell cA (n, .inr (.inl f)) = vp_cell cA (n, .inr (.inl g)) := by
  show arrV cA n (fun j => .long (f j)) = arrV cA n (fun j => .long (g j))
  unfold arrV
  congr 1
  apply Array.ext
  · simp
  · intro i h1 h2
    simp only [Array.size_ofFn] at h1
    simp [h i h1]
theorem x_setL {q0 : Nat} {cA : ClassId} {n : Nat} {f g : Nat → Int64} (hP : va_P D cl ws H) (hD : va_D A ws) (he : ws[q0]? = some (a, .inl (cA, n, .inr (.inl f)))) (h : ∀ j, j < n → f j = g j) :
    va_P D cl (ws.set q0 (a, .inl (cA, n, .inr (.inl g)))) H ∧ va_D A (ws.set q0 (a, .inl (cA, n, .inr (.inl g)))) := by
  refine ⟨va_P.set hP hD he ?_ (fun _ _ => rfl), va_D.set hD he⟩
  have h1 : H[a]? = some (vp_cell cA (n, .inr (.inl f))) := hP q0 _ he
  show H[a]? = some (vp_cell cA (n, .inr (.inl g)))
  rw [h1, x_cellL h]
theorem x_sameint {cA cB : ClassId} (h : va_K D cl (tys ++ [(cA, .int)]) s) (i : Nat) (hi : tys[i]? = some (cB, .int)) : cA = cB := by
  have h1 := (h.2 tys.length (cA, .int) (by simp)).2
  have h2 := (h.2 i (cB, .int) (by rw [List.getElem?_append_left (List.getElem?_eq_some_iff.mp hi).1]; exact hi)).2
  exact Option.some.inj ((show s.vm.findClass _ = some cA from h1).symm.trans (show s.vm.findClass _ = some cB from h2))
theorem x_samelong {cA cB : ClassId} (h : va_K D cl (tys ++ [(cA, .long)]) s) (i : Nat) (hi : tys[i]? = some (cB, .long)) : cA = cB := by
  have h1 := (h.2 tys.length (cA, .long) (by simp)).2
  have h2 := (h.2 i (cB, .long) (by rw [List.getElem?_append_left (List.getElem?_eq_some_iff.mp hi).1]; exact hi)).2
  exact Option.some.inj ((show s.vm.findClass _ = some cA from h1).symm.trans (show s.vm.findClass _ = some cB from h2))
end XA
theorem wv_good {own : String} {idx : Nat} {C : String} {y : MethodName} {c' : Cond} (h1 : Cond.methodLink own idx y ∈ WA) (h2 : Cond.instanceMethod y ∈ WA) (h3 : Cond.selects C y y ∈ WA) (h4 : Cond.initialized C ∈ WA) (h5 : c' ∈ WA) : GoodIn WA (wsV own idx C y (c' :: WA)) := by
  intro w hw
  have hm : w ∈ WA := by
    unfold wsV at hw
    rcases List.mem_append.mp hw with h | h
    · simp only [List.mem_cons, List.not_mem_nil, or_false] at h
      rcases h with rfl | rfl | rfl | rfl <;> assumption
    · rcases List.mem_cons.mp h with rfl | h
      · exact h5
      · exact h
  exact ⟨hm, good_of_word (List.mem_filter.mp hm).2⟩
theorem ws_good {own : String} {idx : Nat} {y : MethodName} {c' : Cond} (h1 : Cond.methodLink own idx y ∈ WA) (h2 : Cond.static y ∈ WA) (h4 : Cond.initialized y.cls ∈ WA) (h5 : c' ∈ WA) : GoodIn WA (va_wsS own idx y (c' :: WA)) := by
  intro w hw
  have hm : w ∈ WA := by
    unfold va_wsS at hw
    rcases List.mem_append.mp hw with h | h
    · simp only [List.mem_cons, List.not_mem_nil, or_false] at h
      rcases h with rfl | rfl | rfl <;> assumption
    · rcases List.mem_cons.mp h with rfl | h
      · exact h5
      · exact h
  exact ⟨hm, good_of_word (List.mem_filter.mp hm).2⟩
theorem wi_good {c' : Cond} (h5 : c' ∈ WA) : GoodIn WA (c' :: WA) := by
  intro w hw
  have hm : w ∈ WA := by
    rcases List.mem_cons.mp hw with rfl | h
    · exact h5
    · exact h
  exact ⟨hm, good_of_word (List.mem_filter.mp hm).2⟩
end
section
/-! what the class and the reference reckon, as functions -/
def kb (P : Prop) [Decidable P] : Int32 := if P then nI 1 else nI 0
theorem kb_t {P : Prop} [Decidable P] (h : P) : nI 1 = kb P := (if_pos h).symm
theorem kb_f {P : Prop} [Decidable P] (h : ¬ P) : nI 0 = kb P := (if_neg h).symm
theorem kb_eq0 {P : Prop} [Decidable P] : kb P = 0 ↔ ¬ P := by
  unfold kb
  by_cases h : P
  · simp only [h, if_true, not_true, iff_false]; decide
  · simp only [h, if_false, not_false_iff, iff_true]; decide
theorem kb_nar {P : Prop} [Decidable P] : narrow .boolean (.int (kb P)) = .int (kb P) := by
  unfold kb
  by_cases h : P
  · rw [if_pos h]; decide
  · rw [if_neg h]; decide
theorem kb_fit {P : Prop} [Decidable P] : fits .boolean (.int (kb P)) = true := by
  unfold kb
  by_cases h : P
  · rw [if_pos h]; decide
  · rw [if_neg h]; decide
theorem kb_congr {P Q : Prop} [Decidable P] [Decidable Q] (h : P ↔ Q) : kb P = kb Q := by
  by_cases hq : Q
  · rw [← kb_t hq, ← kb_t (h.mpr hq)]
  · rw [← kb_f hq, ← kb_f (fun p => hq (h.mp p))]
/-- a boolean of Java -/
def k_bo (x : Int32) : Prop := x = nI 0 ∨ x = nI 1
theorem k_bo_nar {x : Int32} (h : k_bo x) : narrow .boolean (.int x) = .int x := by rcases h with rfl | rfl <;> decide
theorem k_bo_fit {x : Int32} (h : k_bo x) : fits .boolean (.int x) = true := by rcases h with rfl | rfl <;> decide
theorem k_bo_kb {P : Prop} [Decidable P] : k_bo (kb P) := by
  unfold kb k_bo
  by_cases h : P
  · rw [if_pos h]; exact Or.inr rfl
  · rw [if_neg h]; exact Or.inl rfl
-- sums
def k_sum (f : Nat → Int64) : Nat → Int64
  | 0 => 0
  | n + 1 => k_sum f n + f n
theorem k_sum_congr {f g : Nat → Int64} : ∀ {n : Nat}, (∀ j, j < n → f j = g j) → k_sum f n = k_sum g n
  | 0, _ => rfl
  | n + 1, h => by rw [k_sum, k_sum, k_sum_congr (fun j hj => h j (by omega)), h n (by omega)]
theorem k_sum_zero {f : Nat → Int64} : ∀ {n : Nat}, (∀ j, j < n → f j = 0) → k_sum f n = 0
  | 0, _ => rfl
  | n + 1, h => by rw [k_sum, k_sum_zero (fun j hj => h j (by omega)), h n (by omega)]; rfl
def k_seg (f : Nat → Int64) (a n : Nat) : Int64 := k_sum (fun j => if a ≤ j then f j else 0) n
theorem k_seg_0 {f : Nat → Int64} {a : Nat} : (0 : Int64) = k_seg f a a := (k_sum_zero (fun j hj => if_neg (by omega))).symm
theorem k_seg_s {f : Nat → Int64} {a n : Nat} (h : a ≤ n) : k_seg f a n + f n = k_seg f a (n + 1) := by
  show _ = k_sum _ n + (if a ≤ n then f n else 0)
  rw [if_pos h]; rfl
theorem k_seg_all {f : Nat → Int64} {n : Nat} : k_seg f 0 n = k_sum f n := k_sum_congr (fun j _ => if_pos (Nat.zero_le j))
-- sinking
def k_u1 (hd sf fp : Nat → Int32) (i : Nat) (ca pz : Int64) : Int64 := (hd i).toInt64 * ca + (sf i - hd i).toInt64 * (pz - (fp i).toInt64)
def k_mx (a b : Int64) : Int64 := if b < a then a else b
def k_units (hd sf fp : Nat → Int32) (co : Int64) (pr pa : Nat → Int64) (a n : Nat) : Int64 := k_seg (fun j => k_u1 hd sf fp j (co - pr j) (pa j)) a n
def k_end (hd sf fp : Nat → Int32) (sm : Int64) (pa : Nat → Int64) (n : Nat) : Int64 := k_sum (fun j => k_u1 hd sf fp j sm (k_mx (pa j) sm)) n
-- loads
def k_come (ld lz : Nat → Int32) (x : Int32) (n : Nat) : Int64 := k_sum (fun k => (if ld k = x then lz k else 0).toInt64) n
theorem k_come_t {ld lz : Nat → Int32} {x : Int32} {n : Nat} (h : ld n = x) : k_come ld lz x n + (lz n).toInt64 = k_come ld lz x (n + 1) := by
  show _ = k_sum _ n + (if ld n = x then lz n else 0).toInt64
  rw [if_pos h]; rfl
theorem k_come_f {ld lz : Nat → Int32} {x : Int32} {n : Nat} (h : ¬ ld n = x) : k_come ld lz x n = k_come ld lz x (n + 1) := by
  show _ = k_sum _ n + (if ld n = x then lz n else 0).toInt64
  rw [if_neg h]
  show k_come ld lz x n = k_come ld lz x n + 0
  rw [Int64.add_zero]
def k_lay (pr : Nat → Int64) (n : Nat) (u : Int64) : Nat → Int64 := fun j => if j < n then pr j + u else pr j
theorem k_lay_0 {pr : Nat → Int64} {u : Int64} : pr = k_lay pr 0 u := funext fun j => (if_neg (by omega)).symm
theorem k_lay_s {pr : Nat → Int64} {u : Int64} {i : Nat} : vp_updL (k_lay pr i u) i (k_lay pr i u i + u) = k_lay pr (i + 1) u := by
  funext j
  unfold vp_updL k_lay
  by_cases h : j = i
  · subst h; simp
  · by_cases h2 : j < i
    · simp [h, h2, show j < i + 1 by omega]
    · simp [h, h2, show ¬ j < i + 1 by omega]
def k_beg (pa : Nat → Int64) (a n : Nat) (v : Int64) : Nat → Int64 := fun j => if a ≤ j ∧ j < n then v else pa j
theorem k_beg_0 {pa : Nat → Int64} {a : Nat} {v : Int64} : pa = k_beg pa a a v := funext fun j => (if_neg (by omega)).symm
theorem k_beg_s {pa : Nat → Int64} {a i : Nat} {v : Int64} (h0 : a ≤ i) : vp_updL (k_beg pa a i v) i v = k_beg pa a (i + 1) v := by
  funext j
  unfold vp_updL k_beg
  by_cases h : j = i
  · subst h; simp [h0]
  · by_cases h2 : a ≤ j ∧ j < i
    · simp [h, h2, show j < i + 1 by omega]
    · rw [if_neg h, if_neg h2, if_neg (by omega)]
def k_cp (f g : Nat → Int64) (n : Nat) : Nat → Int64 := fun j => if j < n then f j else g j
theorem k_cp_0 {f g : Nat → Int64} : g = k_cp f g 0 := funext fun j => (if_neg (by omega)).symm
theorem k_cp_s {f g : Nat → Int64} {i : Nat} : vp_updL (k_cp f g i) i (f i) = k_cp f g (i + 1) := by
  funext j
  unfold vp_updL k_cp
  by_cases h : j = i
  · subst h; simp
  · by_cases h2 : j < i
    · simp [h, h2, show j < i + 1 by omega]
    · simp [h, h2, show ¬ j < i + 1 by omega]
-- a step
def k_go (lk ln : Nat → Int32) (ce : Nat) (db : Int32) (p : Nat → Int64) (j : Nat) : Int64 :=
  if j + 1 < ce then (p j - p (j + 1)) * (ln j).toInt64 / 1000 else if db = 0 then 0 else p j * (lk j).toInt64 / 1000
def k_up (lk : Nat → Int32) (da : Int32) (p : Nat → Int64) : Int64 := if da = 0 then 0 else p 0 * (lk 0).toInt64 / 1000
def k_fl (lk ln : Nat → Int32) (ce : Nat) (da db : Int32) (p : Nat → Int64) : Nat → Int64
  | 0 => -(k_up lk da p)
  | j + 1 => k_go lk ln ce db p j
def k_dr (dr : Int32) (p : Nat → Int64) (j : Nat) : Int64 := p j * dr.toInt64 / 1000
/-- the first n cells behind a step -/
def k_np (lk ln : Nat → Int32) (ce : Nat) (da db dr : Int32) (p : Nat → Int64) (n : Nat) : Nat → Int64 := fun j =>
  if j < n then p j + (k_fl lk ln ce da db p j - k_fl lk ln ce da db p (j + 1) - k_dr dr p j) else p j
def k_ow (lk ln : Nat → Int32) (ce : Nat) (da db dr : Int32) (p : Nat → Int64) (wo : Int64) (n : Nat) : Int64 := wo - k_fl lk ln ce da db p 0 + k_sum (k_dr dr p) n
def k_mv (lk ln : Nat → Int32) (ce : Nat) (da db dr : Int32) (p : Nat → Int64) : Nat → Bool
  | 0 => false
  | i + 1 => k_mv lk ln ce da db dr p i || k_fl lk ln ce da db p i != 0 || k_fl lk ln ce da db p (i + 1) != 0 || k_dr dr p i != 0
theorem k_np_0 {lk ln : Nat → Int32} {ce : Nat} {da db dr : Int32} {p : Nat → Int64} : p = k_np lk ln ce da db dr p 0 := funext fun j => (if_neg (by omega)).symm
theorem k_np_at {lk ln : Nat → Int32} {ce : Nat} {da db dr : Int32} {p : Nat → Int64} {n i : Nat} (h : n ≤ i) : k_np lk ln ce da db dr p n i = p i := if_neg (by omega)
theorem k_np_s {lk ln : Nat → Int32} {ce : Nat} {da db dr : Int32} {p : Nat → Int64} {i : Nat} :
    vp_updL (k_np lk ln ce da db dr p i) i (p i + (k_fl lk ln ce da db p i - k_fl lk ln ce da db p (i + 1) - k_dr dr p i)) = k_np lk ln ce da db dr p (i + 1) := by
  funext j
  unfold vp_updL
  by_cases h : j = i
  · subst h; rw [if_pos rfl]; exact (if_pos (by omega)).symm
  · rw [if_neg h]
    by_cases h2 : j < i
    · show (if _ then _ else _) = (if _ then _ else _); rw [if_pos h2, if_pos (by omega)]
    · show (if _ then _ else _) = (if _ then _ else _); rw [if_neg h2, if_neg (by omega)]
theorem k_go_np {lk ln : Nat → Int32} {ce : Nat} {da db dr : Int32} {p : Nat → Int64} {i : Nat} : k_go lk ln ce db (k_np lk ln ce da db dr p i) i = k_fl lk ln ce da db p (i + 1) := by
  show _ = k_go lk ln ce db p i
  unfold k_go
  rw [k_np_at (Nat.le_refl i), k_np_at (Nat.le_succ i)]
theorem k_ow_s {lk ln : Nat → Int32} {ce : Nat} {da db dr : Int32} {p : Nat → Int64} {wo : Int64} {i : Nat} : k_ow lk ln ce da db dr p wo i + k_dr dr p i = k_ow lk ln ce da db dr p wo (i + 1) := by
  unfold k_ow
  rw [Int64.add_assoc]; rfl
def k_rs (co : Int64) (p pa : Nat → Int64) (n : Nat) : Nat → Int64 := fun j => if j < n then k_mx (pa j) (co - p j) else pa j
theorem k_rs_0 {co : Int64} {p pa : Nat → Int64} : pa = k_rs co p pa 0 := funext fun j => (if_neg (by omega)).symm
theorem k_rs_s {co : Int64} {p pa : Nat → Int64} {i : Nat} : vp_updL (k_rs co p pa i) i (k_mx (k_rs co p pa i i) (co - p i)) = k_rs co p pa (i + 1) := by
  funext j
  unfold vp_updL k_rs
  by_cases h : j = i
  · subst h; simp
  · by_cases h2 : j < i
    · simp [h, h2, show j < i + 1 by omega]
    · simp [h, h2, show ¬ j < i + 1 by omega]
-- n steps
def k_p (lk ln : Nat → Int32) (ce : Nat) (da db dr : Int32) (p : Nat → Int64) : Nat → Nat → Int64
  | 0 => p
  | n + 1 => k_np lk ln ce da db dr (k_p lk ln ce da db dr p n) ce
def k_w (lk ln : Nat → Int32) (ce : Nat) (da db dr : Int32) (p : Nat → Int64) (wo : Int64) : Nat → Int64
  | 0 => wo
  | n + 1 => k_ow lk ln ce da db dr (k_p lk ln ce da db dr p n) (k_w lk ln ce da db dr p wo n) ce + k_fl lk ln ce da db (k_p lk ln ce da db dr p n) ce
def k_a (lk ln : Nat → Int32) (ce : Nat) (da db dr : Int32) (co : Int64) (p pa : Nat → Int64) : Nat → Nat → Int64
  | 0 => pa
  | n + 1 => k_rs co (k_p lk ln ce da db dr p (n + 1)) (k_a lk ln ce da db dr co p pa n) ce
def k_on (lk ln : Nat → Int32) (ce : Nat) (da db dr : Int32) (p : Nat → Int64) : Nat → Bool
  | 0 => true
  | n + 1 => k_mv lk ln ce da db dr (k_p lk ln ce da db dr p n) ce
theorem k_mv1 {lk ln : Nat → Int32} {ce : Nat} {da db dr : Int32} {p : Nat → Int64} {i : Nat} (h : ¬ ¬ k_mv lk ln ce da db dr p i = true) : k_mv lk ln ce da db dr p (i + 1) = true := by
  rw [k_mv]; simp [Classical.not_not.mp h]
theorem k_mv2 {lk ln : Nat → Int32} {ce : Nat} {da db dr : Int32} {p : Nat → Int64} {i : Nat} (h : ¬ k_fl lk ln ce da db p i = 0) : k_mv lk ln ce da db dr p (i + 1) = true := by
  rw [k_mv]; simp [h]
theorem k_mv3 {lk ln : Nat → Int32} {ce : Nat} {da db dr : Int32} {p : Nat → Int64} {i : Nat} (h : ¬ k_fl lk ln ce da db p (i + 1) = 0) : k_mv lk ln ce da db dr p (i + 1) = true := by
  rw [k_mv]; simp [h]
theorem k_mv4 {lk ln : Nat → Int32} {ce : Nat} {da db dr : Int32} {p : Nat → Int64} {i : Nat} (h : ¬ k_dr dr p i = 0) : k_mv lk ln ce da db dr p (i + 1) = true := by
  rw [k_mv]; simp [h]
theorem k_mv5 {lk ln : Nat → Int32} {ce : Nat} {da db dr : Int32} {p : Nat → Int64} {i : Nat} (h1 : ¬ k_mv lk ln ce da db dr p i = true) (h2 : k_fl lk ln ce da db p i = 0) (h3 : k_fl lk ln ce da db p (i + 1) = 0) (h4 : k_dr dr p i = 0) : ¬ k_mv lk ln ce da db dr p (i + 1) = true := by
  rw [k_mv]; simp [h1, h2, h3, h4]
-- when nothing moves
theorem k_still {lk ln : Nat → Int32} {ce : Nat} {da db dr : Int32} {p : Nat → Int64} : ∀ {n : Nat}, ¬ k_mv lk ln ce da db dr p n = true → ∀ j, j < n → k_fl lk ln ce da db p j = 0 ∧ k_fl lk ln ce da db p (j + 1) = 0 ∧ k_dr dr p j = 0
  | 0, _, j, hj => absurd hj (by omega)
  | n + 1, h, j, hj => by
    rw [k_mv] at h
    simp only [Bool.or_eq_true, bne_iff_ne, ne_eq, not_or, Classical.not_not] at h
    rcases Nat.lt_or_ge j n with q | q
    · exact k_still h.1.1.1 j q
    · have : j = n := by omega
      subst this
      exact ⟨h.1.1.2, h.1.2, h.2⟩
theorem k_still_p {lk ln : Nat → Int32} {ce : Nat} {da db dr : Int32} {p : Nat → Int64} (h : ¬ k_mv lk ln ce da db dr p ce = true) : k_np lk ln ce da db dr p ce = p := by
  funext j
  unfold k_np
  by_cases hj : j < ce
  · obtain ⟨h1, h2, h3⟩ := k_still h j hj
    rw [if_pos hj, h1, h2, h3]
    show p j + 0 = p j
    rw [Int64.add_zero]
  · rw [if_neg hj]
theorem k_still_w {lk ln : Nat → Int32} {ce : Nat} {da db dr : Int32} {p : Nat → Int64} {wo : Int64} (h0 : 0 < ce) (h : ¬ k_mv lk ln ce da db dr p ce = true) : k_ow lk ln ce da db dr p wo ce + k_fl lk ln ce da db p ce = wo := by
  unfold k_ow
  rw [(k_still h 0 h0).1, k_sum_zero (fun j hj => (k_still h j hj).2.2)]
  have h2 := (k_still h (ce - 1) (by omega)).2.1
  rw [show ce - 1 + 1 = ce by omega] at h2
  rw [h2, Int64.sub_zero, Int64.add_zero, Int64.add_zero]
theorem k_mx_mx {a b : Int64} : k_mx (k_mx a b) b = k_mx a b := by
  unfold k_mx
  by_cases h : b < a
  · simp [h]
  · simp [h]
theorem k_rs_rs {co : Int64} {p pa : Nat → Int64} {n : Nat} : k_rs co p (k_rs co p pa n) n = k_rs co p pa n := by
  funext j
  unfold k_rs
  by_cases h : j < n
  · simp only [h, if_true]; exact k_mx_mx
  · simp only [h, if_false]
/-- no step more is wanted when one has moved nothing -/
theorem k_stop {lk ln : Nat → Int32} {ce : Nat} {da db dr : Int32} {co wo : Int64} {p pa : Nat → Int64} {i : Nat} (h0 : 0 < ce) (h : ¬ k_on lk ln ce da db dr p i = true) : ∀ n : Nat,
    k_p lk ln ce da db dr p (i + n) = k_p lk ln ce da db dr p i ∧ k_a lk ln ce da db dr co p pa (i + n) = k_a lk ln ce da db dr co p pa i ∧ k_w lk ln ce da db dr p wo (i + n) = k_w lk ln ce da db dr p wo i := by
  cases i with
  | zero => exact absurd rfl h
  | succ i =>
    have h : ¬ k_mv lk ln ce da db dr (k_p lk ln ce da db dr p i) ce = true := h
    have hp : k_p lk ln ce da db dr p (i + 1) = k_p lk ln ce da db dr p i := k_still_p h
    intro n
    induction n with
    | zero => exact ⟨rfl, rfl, rfl⟩
    | succ n ih =>
      obtain ⟨i1, i2, i3⟩ := ih
      have e1 : k_p lk ln ce da db dr p (i + 1 + n + 1) = k_p lk ln ce da db dr p (i + 1) := by
        show k_np lk ln ce da db dr (k_p lk ln ce da db dr p (i + 1 + n)) ce = _
        rw [i1, hp]; exact hp
      refine ⟨e1, ?_, ?_⟩
      · show k_rs co (k_p lk ln ce da db dr p (i + 1 + n + 1)) (k_a lk ln ce da db dr co p pa (i + 1 + n)) ce = _
        rw [e1, i2]
        exact k_rs_rs
      · show k_ow lk ln ce da db dr (k_p lk ln ce da db dr p (i + 1 + n)) (k_w lk ln ce da db dr p wo (i + 1 + n)) ce + k_fl lk ln ce da db (k_p lk ln ce da db dr p (i + 1 + n)) ce = _
        rw [i1, i3, hp]
        exact k_still_w h0 h
-- a layer's cells
def k_fi (f : Nat → Int32) (a n : Nat) (v : Int32) : Nat → Int32 := fun j => if a ≤ j ∧ j < n then v else f j
theorem k_fi_0 {f : Nat → Int32} {a : Nat} {v : Int32} : f = k_fi f a a v := funext fun j => (if_neg (by omega)).symm
theorem k_fi_s {f : Nat → Int32} {a i : Nat} {v : Int32} (h0 : a ≤ i) : upd (k_fi f a i v) i v = k_fi f a (i + 1) v := by
  funext j
  unfold upd k_fi
  by_cases h : j = i
  · subst h; simp [h0]
  · by_cases h2 : a ≤ j ∧ j < i
    · simp [h, h2, show j < i + 1 by omega]
    · rw [if_neg h, if_neg h2, if_neg (by omega)]
def k_mn (x y : Int32) : Int32 := if y < x then y else x
def k_lnf (lk ln : Nat → Int32) (a n : Nat) (v : Int32) : Nat → Int32 := fun j => if a ≤ j + 1 ∧ j + 1 < n then k_mn (if a ≤ j then v else lk j) v else ln j
theorem k_lnf_0 {lk ln : Nat → Int32} {a : Nat} {v : Int32} : ln = k_lnf lk ln a a v := funext fun j => (if_neg (by omega)).symm
theorem k_lnf_1 {lk ln : Nat → Int32} {a i : Nat} {v : Int32} (h : i = 0) : k_lnf lk ln a i v = k_lnf lk ln a (i + 1) v := by
  funext j
  unfold k_lnf
  rw [if_neg (by omega), if_neg (by omega)]
theorem k_lnf_s {lk ln : Nat → Int32} {a i : Nat} {v : Int32} (h0 : a ≤ i) (h : 0 < i) : upd (k_lnf lk ln a i v) (i - 1) (k_mn (k_fi lk a (i + 1) v (i - 1)) v) = k_lnf lk ln a (i + 1) v := by
  funext j
  unfold upd k_lnf
  by_cases hj : j = i - 1
  · subst hj
    rw [if_pos rfl, if_pos (by omega)]
    unfold k_fi
    by_cases h2 : a ≤ i - 1
    · rw [if_pos (by omega), if_pos h2]
    · rw [if_neg (by omega), if_neg h2]
  · rw [if_neg hj]
    by_cases h2 : a ≤ j + 1 ∧ j + 1 < i
    · rw [if_pos h2, if_pos (show a ≤ j + 1 ∧ j + 1 < i + 1 by omega)]
    · rw [if_neg h2, if_neg (show ¬ (a ≤ j + 1 ∧ j + 1 < i + 1) by omega)]
-- readings
def k_ff (rd : Nat → Int32) (rn : Nat) : Int32 := if rn = 0 then nI 0 else rd (rn - 1) + nI 1
def k_quo (u v : Int64) : Int64 := if v = 0 then -1 else u / v
def k_f0 (rv : Nat → Int64) (n : Nat) : Int64 :=
  if n < 3 then -1 else if 100000000 < rv (n - 3) ∨ 100000000 < rv (n - 2) ∨ 100000000 < rv (n - 1) then -1
  else k_quo (rv (n - 2) * rv (n - 2) - rv (n - 3) * rv (n - 1)) (2 * rv (n - 2) - rv (n - 3) - rv (n - 1))
def k_f1 (rd : Nat → Int32) (rv : Nat → Int64) (n : Nat) : Int64 :=
  if n < 2 then -1 else if 100000000 < rv (n - 2) ∨ 100000000 < rv (n - 1) then -1
  else k_quo (((rd (n - 1)).toInt64 - (rd (n - 2)).toInt64) * rv (n - 2) * rv (n - 1)) ((rd (n - 1)).toInt64 * rv (n - 2) - (rd (n - 2)).toInt64 * rv (n - 1))
def k_f2 (rd : Nat → Int32) (rv : Nat → Int64) (n : Nat) : Int64 :=
  if n < 2 then -1 else if 100000000 < rv 0 ∨ 100000000 < rv (n - 1) ∨ (rd (n - 1) - rd 0).toInt64 = 0 then -1
  else rv (n - 1) + (rv (n - 1) - rv 0) * 100 / (rd (n - 1) - rd 0).toInt64
def k_th (u v : Int64) : Int32 := if v = 0 then nI 1000 else (u * 1000 / v).toInt32
end
section
set_option maxHeartbeats 4000000 in
set_option maxRecDepth 100000 in
/-- within: 1 where it lies between -/
theorem kX_within (l : Launch) (dC : Nat → ClassId) (dI : Nat → Nat → Nat) (cI cJ : ClassId) (sz : Nat) (x : Int32) (y : Int32) (z : Int32) : Met l yX_within wX_within ({ frames := 0, cells := 0, slots := 0, locals := 0 }) (va_Pc [.int x, .int y, .int z] (fun U => U.heap.size = sz ∧ va_P (dC, dI) vwCl [] U.heap ∧ va_K (dC, dI) vwCl [(cI, .int), (cJ, .long)] U ∧ va_D (fun _ => True) [])) (va_Qi (fun res_ (_ : Unit) => res_ = kb (y ≤ x ∧ x ≤ z)) (fun _ t => va_P (dC, dI) vwCl [] t.heap ∧ va_K (dC, dI) vwCl [(cI, .int), (cJ, .long)] t ∧ va_D (va_A [] sz) []) (va_A [] sz)) 0 0 (va_A [] sz) := by
  refine Met.ofW (cc := bX_within) (maxL := 3) (ret := (some .boolean)) (by decide) rfl ?_
  intro p e s m args below meth c s₁ B hml hv
  obtain ⟨rfl, hsz, hP, hK, hD0⟩ := hv
  have hx := B.exec
  have hb := B.bytes
  have hr := B.returns
  have hts := atoms_spec (ws := wX_within) B.pre
  have hown : s.vm.findClass R_X = some m.cls := findClass_of_methodNamed B.named
  have htw : ∀ w ∈ WA, w.before _ s = true := fun w h => hts w (List.mem_cons_of_mem _ h)
  clear hts
  have hlocks := B.notSynchronized
  subst hsz
  have hD := hD0.self (sz := s.heap.size)
  generalize hAe : va_A [] s.heap.size = A at hD ⊢
  have hA : ∀ q : Nat, s.heap.size ≤ q → A q := fun q h => by rw [← hAe]; exact Or.inr h
  clear hAe hD0
  have hS : va_S A s.heap s.heap [] := va_S.rf
  have hP : va_P (dC, dI) vwCl [] s.heap := hP
  have hl := lv_entry ([.int x, .int y, .int z]) (n := 3) (Nat.le_of_ble_eq_true rfl)
  rw [lg_entry_eq]
  generalize (lg_sl ([.int x, .int y, .int z]) ++ List.replicate (3 - (lg_sl ([.int x, .int y, .int z])).length) Slot.unset).toArray = ls at hl ⊢
  have hl : lv_has ls 3 [(0, .int x), (1, .int y), (2, .int z)] := hl
  refine lv_iload_n hx hb dX_within_0 rfl (lv_at hl 0 rfl) ?_
  refine lv_iload_n hx hb dX_within_1 rfl (lv_at hl 1 rfl) ?_
  refine lv_icmp_lt (tgt := 14) hx hb dX_within_2 (by decide) (fun hc2 => ?_) (fun hc2 => ?_)
  · -- 2 taken
    have hret := kb_f (P := y ≤ x ∧ x ≤ z) (fun h => by have a0_ := hc2; have a1_ := h.1; simp only [Int32.lt_iff_toInt_lt, Int32.le_iff_toInt_le] at a0_ a1_; omega)
    refine lv_iconst (v := nI 0) hx hb dX_within_14 (by decide) ?_
    have hP : va_P (dC, dI) vwCl [] s.heap := by first | exact hP | simpa only [] using hP
    have hD : va_D A [] := by first | exact hD | simpa only [] using hD
    exact W.zret (v := nI 0) hx hb hr (by decide) (fun t ht hW => ⟨⟨nI 0, (), rfl, hret, by rw [ht]; exact hP, va_K.moved hW.alike hK, hD⟩, hS.F ht⟩) hS.2.2 dX_within_15
  · -- 2 not taken
    refine lv_iload_n hx hb dX_within_5 rfl (lv_at hl 0 rfl) ?_
    refine lv_iload_n hx hb dX_within_6 rfl (lv_at hl 2 rfl) ?_
    refine lv_icmp_gt (tgt := 14) hx hb dX_within_7 (by decide) (fun hc7 => ?_) (fun hc7 => ?_)
    · -- 7 taken
      have hret := kb_f (P := y ≤ x ∧ x ≤ z) (fun h => by have a0_ := hc7; have a1_ := h.2; simp only [Int32.lt_iff_toInt_lt, Int32.le_iff_toInt_le] at a0_ a1_; omega)
      refine lv_iconst (v := nI 0) hx hb dX_within_14 (by decide) ?_
      have hP : va_P (dC, dI) vwCl [] s.heap := by first | exact hP | simpa only [] using hP
      have hD : va_D A [] := by first | exact hD | simpa only [] using hD
      exact W.zret (v := nI 0) hx hb hr (by decide) (fun t ht hW => ⟨⟨nI 0, (), rfl, hret, by rw [ht]; exact hP, va_K.moved hW.alike hK, hD⟩, hS.F ht⟩) hS.2.2 dX_within_15
    · -- 7 not taken
      have hret := kb_t (P := y ≤ x ∧ x ≤ z) ⟨by rw [Int32.le_iff_toInt_le]; have a0_ := hc2; simp only [Int32.lt_iff_toInt_lt, Int32.le_iff_toInt_le] at a0_; omega, by rw [Int32.le_iff_toInt_le]; have a0_ := hc7; simp only [Int32.lt_iff_toInt_lt, Int32.le_iff_toInt_le] at a0_; omega⟩
      refine lv_iconst (v := nI 1) hx hb dX_within_10 (by decide) ?_
      refine lv_goto (tgt := 15) hx hb dX_within_11 (by decide) ?_
      have hP : va_P (dC, dI) vwCl [] s.heap := by first | exact hP | simpa only [] using hP
      have hD : va_D A [] := by first | exact hD | simpa only [] using hD
      exact W.zret (v := nI 1) hx hb hr (by decide) (fun t ht hW => ⟨⟨nI 1, (), rfl, hret, by rw [ht]; exact hP, va_K.moved hW.alike hK, hD⟩, hS.F ht⟩) hS.2.2 dX_within_15
set_option maxHeartbeats 4000000 in
set_option maxRecDepth 100000 in
theorem kG_carried (l : Launch) (dC : Nat → ClassId) (dI : Nat → Nat → Nat) (cI cJ : ClassId) (g so lo qpr qpa : Nat) (sz : Nat) (i : Nat) (dy : Nat) (co : Int64) (wo : Int64) (pr : Nat → Int64) (hi : i < 30) : Met l yG_carried wG_carried ({ frames := 0, cells := 0, slots := 0, locals := 0 }) (va_Pc [.ref g, .int (nI i)] (fun U => U.heap.size = sz ∧ va_P (dC, dI) vwCl [(g, .inr (0, [.ref so, .ref lo, .ref qpr, .ref qpa, .int (nI dy), .long co, .long wo])), (qpr, .inl (cJ, 30, .inr (.inl pr)))] U.heap ∧ va_K (dC, dI) vwCl [(cI, .int), (cJ, .long)] U ∧ va_D (fun _ => True) [(g, .inr (0, [.ref so, .ref lo, .ref qpr, .ref qpa, .int (nI dy), .long co, .long wo])), (qpr, .inl (cJ, 30, .inr (.inl pr)))])) (va_Ql (fun res_ (_ : Unit) => res_ = co - pr i) (fun _ t => va_P (dC, dI) vwCl [(g, .inr (0, [.ref so, .ref lo, .ref qpr, .ref qpa, .int (nI dy), .long co, .long wo])), (qpr, .inl (cJ, 30, .inr (.inl pr)))] t.heap ∧ va_K (dC, dI) vwCl [(cI, .int), (cJ, .long)] t ∧ va_D (va_A [(g, .inr (0, [.ref so, .ref lo, .ref qpr, .ref qpa, .int (nI dy), .long co, .long wo])), (qpr, .inl (cJ, 30, .inr (.inl pr)))] sz) [(g, .inr (0, [.ref so, .ref lo, .ref qpr, .ref qpa, .int (nI dy), .long co, .long wo])), (qpr, .inl (cJ, 30, .inr (.inl pr)))]) (va_A [(g, .inr (0, [.ref so, .ref lo, .ref qpr, .ref qpa, .int (nI dy), .long co, .long wo])), (qpr, .inl (cJ, 30, .inr (.inl pr)))] sz)) 0 0 (va_A [(g, .inr (0, [.ref so, .ref lo, .ref qpr, .ref qpa, .int (nI dy), .long co, .long wo])), (qpr, .inl (cJ, 30, .inr (.inl pr)))] sz) := by
  refine Met.ofW (cc := bG_carried) (maxL := 2) (ret := (some .long)) (by decide) rfl ?_
  intro p e s m args below meth c s₁ B hml hv
  obtain ⟨rfl, hsz, hP, hK, hD0⟩ := hv
  have hx := B.exec
  have hb := B.bytes
  have hr := B.returns
  have hts := atoms_spec (ws := wG_carried) B.pre
  have hown : s.vm.findClass R_G = some m.cls := findClass_of_methodNamed B.named
  have htw : ∀ w ∈ WA, w.before _ s = true := fun w h => hts w (List.mem_cons_of_mem _ h)
  clear hts
  have hlocks := B.notSynchronized
  subst hsz
  have hD := hD0.self (sz := s.heap.size)
  generalize hAe : va_A [(g, .inr (0, [.ref so, .ref lo, .ref qpr, .ref qpa, .int (nI dy), .long co, .long wo])), (qpr, .inl (cJ, 30, .inr (.inl pr)))] s.heap.size = A at hD ⊢
  have hA : ∀ q : Nat, s.heap.size ≤ q → A q := fun q h => by rw [← hAe]; exact Or.inr h
  clear hAe hD0
  have hS : va_S A s.heap s.heap [] := va_S.rf
  have hP : va_P (dC, dI) vwCl [(g, .inr (0, [.ref so, .ref lo, .ref qpr, .ref qpa, .int (nI dy), .long co, .long wo])), (qpr, .inl (cJ, 30, .inr (.inl pr)))] s.heap := hP
  have hl := lv_entry ([.ref g, .int (nI i)]) (n := 2) (Nat.le_of_ble_eq_true rfl)
  rw [lg_entry_eq]
  generalize (lg_sl ([.ref g, .int (nI i)]) ++ List.replicate (2 - (lg_sl ([.ref g, .int (nI i)])).length) Slot.unset).toArray = ls at hl ⊢
  have hl : lv_has ls 2 [(0, .ref g), (1, .int (nI i))] := hl
  refine lv_aload_n hx hb dG_carried_0 rfl (lv_at hl 0 rfl) ?_
  refine va_get (D := (dC, dI)) (ci := 0) (v := .long co) (C := R_G) (T := T_G) (N := 7) hx hb htw in_G hown hK hP 0 rfl rfl 5 (by decide) (htw _ m_122) (fun _ h9 => h9) rfl dG_carried_1 ?_
  refine lv_aload_n hx hb dG_carried_4 rfl (lv_at hl 0 rfl) ?_
  refine va_get (D := (dC, dI)) (ci := 0) (v := .ref qpr) (C := R_G) (T := T_G) (N := 7) hx hb htw in_G hown hK hP 0 rfl rfl 2 (by decide) (htw _ m_116) (fun _ h9 => h9) rfl dG_carried_5 ?_
  refine lv_iload_n hx hb dG_carried_8 rfl (lv_at hl 1 rfl) ?_
  refine xa_lald hx hb hK hP 1 1 rfl rfl (i := i) (by omega) (by decide) dG_carried_9 ?_
  refine lv_lsub hx hb dG_carried_10 ?_
  have hP : va_P (dC, dI) vwCl [(g, .inr (0, [.ref so, .ref lo, .ref qpr, .ref qpa, .int (nI dy), .long co, .long wo])), (qpr, .inl (cJ, 30, .inr (.inl pr)))] s.heap := by first | exact hP | simpa only [] using hP
  have hD : va_D A [(g, .inr (0, [.ref so, .ref lo, .ref qpr, .ref qpa, .int (nI dy), .long co, .long wo])), (qpr, .inl (cJ, 30, .inr (.inl pr)))] := by first | exact hD | simpa only [] using hD
  exact W.lret (v := co - (pr i)) hx hb hr (fun t ht hW => ⟨⟨co - (pr i), (), rfl, rfl, by rw [ht]; exact hP, va_K.moved hW.alike hK, hD⟩, hS.F ht⟩) hS.2.2 dG_carried_11
set_option maxHeartbeats 4000000 in
set_option maxRecDepth 100000 in
theorem kS_unitsSunk (l : Launch) (dC : Nat → ClassId) (dI : Nat → Nat → Nat) (cI cJ : ClassId) (so qlk qln qhd qsf qfp qfc : Nat) (sz : Nat) (i : Nat) (ca : Int64) (pz : Int64) (ly : Nat) (ce : Nat) (da : Int32) (db : Int32) (dr : Int32) (hd : Nat → Int32) (sf : Nat → Int32) (fp : Nat → Int32) (hi : i < 30) : Met l yS_unitsSunk wS_unitsSunk ({ frames := 0, cells := 0, slots := 0, locals := 0 }) (va_Pc [.ref so, .int (nI i), .long ca, .long pz] (fun U => U.heap.size = sz ∧ va_P (dC, dI) vwCl [(so, .inr (3, [.ref qlk, .ref qln, .ref qhd, .ref qsf, .ref qfp, .ref qfc, .int (nI ly), .int (nI ce), .int da, .int db, .int dr])), (qhd, .inl (cI, 30, .inl hd)), (qsf, .inl (cI, 30, .inl sf)), (qfp, .inl (cI, 30, .inl fp))] U.heap ∧ va_K (dC, dI) vwCl [(cI, .int), (cJ, .long)] U ∧ va_D (fun _ => True) [(so, .inr (3, [.ref qlk, .ref qln, .ref qhd, .ref qsf, .ref qfp, .ref qfc, .int (nI ly), .int (nI ce), .int da, .int db, .int dr])), (qhd, .inl (cI, 30, .inl hd)), (qsf, .inl (cI, 30, .inl sf)), (qfp, .inl (cI, 30, .inl fp))])) (va_Ql (fun res_ (_ : Unit) => res_ = k_u1 hd sf fp i ca pz) (fun _ t => va_P (dC, dI) vwCl [(so, .inr (3, [.ref qlk, .ref qln, .ref qhd, .ref qsf, .ref qfp, .ref qfc, .int (nI ly), .int (nI ce), .int da, .int db, .int dr])), (qhd, .inl (cI, 30, .inl hd)), (qsf, .inl (cI, 30, .inl sf)), (qfp, .inl (cI, 30, .inl fp))] t.heap ∧ va_K (dC, dI) vwCl [(cI, .int), (cJ, .long)] t ∧ va_D (va_A [(so, .inr (3, [.ref qlk, .ref qln, .ref qhd, .ref qsf, .ref qfp, .ref qfc, .int (nI ly), .int (nI ce), .int da, .int db, .int dr])), (qhd, .inl (cI, 30, .inl hd)), (qsf, .inl (cI, 30, .inl sf)), (qfp, .inl (cI, 30, .inl fp))] sz) [(so, .inr (3, [.ref qlk, .ref qln, .ref qhd, .ref qsf, .ref qfp, .ref qfc, .int (nI ly), .int (nI ce), .int da, .int db, .int dr])), (qhd, .inl (cI, 30, .inl hd)), (qsf, .inl (cI, 30, .inl sf)), (qfp, .inl (cI, 30, .inl fp))]) (va_A [(so, .inr (3, [.ref qlk, .ref qln, .ref qhd, .ref qsf, .ref qfp, .ref qfc, .int (nI ly), .int (nI ce), .int da, .int db, .int dr])), (qhd, .inl (cI, 30, .inl hd)), (qsf, .inl (cI, 30, .inl sf)), (qfp, .inl (cI, 30, .inl fp))] sz)) 0 0 (va_A [(so, .inr (3, [.ref qlk, .ref qln, .ref qhd, .ref qsf, .ref qfp, .ref qfc, .int (nI ly), .int (nI ce), .int da, .int db, .int dr])), (qhd, .inl (cI, 30, .inl hd)), (qsf, .inl (cI, 30, .inl sf)), (qfp, .inl (cI, 30, .inl fp))] sz) := by
  refine Met.ofW (cc := bS_unitsSunk) (maxL := 6) (ret := (some .long)) (by decide) rfl ?_
  intro p e s m args below meth c s₁ B hml hv
  obtain ⟨rfl, hsz, hP, hK, hD0⟩ := hv
  have hx := B.exec
  have hb := B.bytes
  have hr := B.returns
  have hts := atoms_spec (ws := wS_unitsSunk) B.pre
  have hown : s.vm.findClass R_S = some m.cls := findClass_of_methodNamed B.named
  have htw : ∀ w ∈ WA, w.before _ s = true := fun w h => hts w (List.mem_cons_of_mem _ h)
  clear hts
  have hlocks := B.notSynchronized
  subst hsz
  have hD := hD0.self (sz := s.heap.size)
  generalize hAe : va_A [(so, .inr (3, [.ref qlk, .ref qln, .ref qhd, .ref qsf, .ref qfp, .ref qfc, .int (nI ly), .int (nI ce), .int da, .int db, .int dr])), (qhd, .inl (cI, 30, .inl hd)), (qsf, .inl (cI, 30, .inl sf)), (qfp, .inl (cI, 30, .inl fp))] s.heap.size = A at hD ⊢
  have hA : ∀ q : Nat, s.heap.size ≤ q → A q := fun q h => by rw [← hAe]; exact Or.inr h
  clear hAe hD0
  have hS : va_S A s.heap s.heap [] := va_S.rf
  have hP : va_P (dC, dI) vwCl [(so, .inr (3, [.ref qlk, .ref qln, .ref qhd, .ref qsf, .ref qfp, .ref qfc, .int (nI ly), .int (nI ce), .int da, .int db, .int dr])), (qhd, .inl (cI, 30, .inl hd)), (qsf, .inl (cI, 30, .inl sf)), (qfp, .inl (cI, 30, .inl fp))] s.heap := hP
  have hl := lv_entry ([.ref so, .int (nI i), .long ca, .long pz]) (n := 6) (Nat.le_of_ble_eq_true rfl)
  rw [lg_entry_eq]
  generalize (lg_sl ([.ref so, .int (nI i), .long ca, .long pz]) ++ List.replicate (6 - (lg_sl ([.ref so, .int (nI i), .long ca, .long pz])).length) Slot.unset).toArray = ls at hl ⊢
  have hl : lv_has ls 6 [(0, .ref so), (1, .int (nI i)), (2, .long ca), (4, .long pz)] := hl
  refine lv_aload_n hx hb dS_unitsSunk_0 rfl (lv_at hl 0 rfl) ?_
  refine va_get (D := (dC, dI)) (ci := 3) (v := .ref qhd) (C := R_S) (T := T_S) (N := 11) hx hb htw in_S hown hK hP 0 rfl rfl 2 (by decide) (htw _ m_26) (fun _ h9 => h9) rfl dS_unitsSunk_1 ?_
  refine lv_iload_n hx hb dS_unitsSunk_4 rfl (lv_at hl 1 rfl) ?_
  refine xa_iald hx hb hK hP 1 0 rfl rfl (i := i) (by omega) (by decide) dS_unitsSunk_5 ?_
  refine lv_i2l (v := (hd i).toInt64) hx hb dS_unitsSunk_6 rfl ?_
  refine lv_lload_n hx hb dS_unitsSunk_7 rfl (lv_at hl 2 rfl) ?_
  refine lv_lmul hx hb dS_unitsSunk_8 ?_
  refine lv_aload_n hx hb dS_unitsSunk_9 rfl (lv_at hl 0 rfl) ?_
  refine va_get (D := (dC, dI)) (ci := 3) (v := .ref qsf) (C := R_S) (T := T_S) (N := 11) hx hb htw in_S hown hK hP 0 rfl rfl 3 (by decide) (htw _ m_27) (fun _ h9 => h9) rfl dS_unitsSunk_10 ?_
  refine lv_iload_n hx hb dS_unitsSunk_13 rfl (lv_at hl 1 rfl) ?_
  refine xa_iald hx hb hK hP 2 0 rfl rfl (i := i) (by omega) (by decide) dS_unitsSunk_14 ?_
  refine lv_aload_n hx hb dS_unitsSunk_15 rfl (lv_at hl 0 rfl) ?_
  refine va_get (D := (dC, dI)) (ci := 3) (v := .ref qhd) (C := R_S) (T := T_S) (N := 11) hx hb htw in_S hown hK hP 0 rfl rfl 2 (by decide) (htw _ m_26) (fun _ h9 => h9) rfl dS_unitsSunk_16 ?_
  refine lv_iload_n hx hb dS_unitsSunk_19 rfl (lv_at hl 1 rfl) ?_
  refine xa_iald hx hb hK hP 1 0 rfl rfl (i := i) (by omega) (by decide) dS_unitsSunk_20 ?_
  refine lv_isub hx hb dS_unitsSunk_21 ?_
  refine lv_i2l (v := ((sf i) - (hd i)).toInt64) hx hb dS_unitsSunk_22 rfl ?_
  refine lv_lload hx hb dS_unitsSunk_23 (lv_at hl 3 rfl) ?_
  refine lv_aload_n hx hb dS_unitsSunk_25 rfl (lv_at hl 0 rfl) ?_
  refine va_get (D := (dC, dI)) (ci := 3) (v := .ref qfp) (C := R_S) (T := T_S) (N := 11) hx hb htw in_S hown hK hP 0 rfl rfl 4 (by decide) (htw _ m_28) (fun _ h9 => h9) rfl dS_unitsSunk_26 ?_
  refine lv_iload_n hx hb dS_unitsSunk_29 rfl (lv_at hl 1 rfl) ?_
  refine xa_iald hx hb hK hP 3 0 rfl rfl (i := i) (by omega) (by decide) dS_unitsSunk_30 ?_
  refine lv_i2l (v := (fp i).toInt64) hx hb dS_unitsSunk_31 rfl ?_
  refine lv_lsub hx hb dS_unitsSunk_32 ?_
  refine lv_lmul hx hb dS_unitsSunk_33 ?_
  refine lv_ladd hx hb dS_unitsSunk_34 ?_
  have hP : va_P (dC, dI) vwCl [(so, .inr (3, [.ref qlk, .ref qln, .ref qhd, .ref qsf, .ref qfp, .ref qfc, .int (nI ly), .int (nI ce), .int da, .int db, .int dr])), (qhd, .inl (cI, 30, .inl hd)), (qsf, .inl (cI, 30, .inl sf)), (qfp, .inl (cI, 30, .inl fp))] s.heap := by first | exact hP | simpa only [] using hP
  have hD : va_D A [(so, .inr (3, [.ref qlk, .ref qln, .ref qhd, .ref qsf, .ref qfp, .ref qfc, .int (nI ly), .int (nI ce), .int da, .int db, .int dr])), (qhd, .inl (cI, 30, .inl hd)), (qsf, .inl (cI, 30, .inl sf)), (qfp, .inl (cI, 30, .inl fp))] := by first | exact hD | simpa only [] using hD
  exact W.lret (v := (((hd i).toInt64) * ca) + ((((sf i) - (hd i)).toInt64) * (pz - ((fp i).toInt64)))) hx hb hr (fun t ht hW => ⟨⟨(((hd i).toInt64) * ca) + ((((sf i) - (hd i)).toInt64) * (pz - ((fp i).toInt64))), (), rfl, rfl, by rw [ht]; exact hP, va_K.moved hW.alike hK, hD⟩, hS.F ht⟩) hS.2.2 dS_unitsSunk_35
set_option maxHeartbeats 4000000 in
set_option maxRecDepth 100000 in
theorem kO_comingOn (l : Launch) (dC : Nat → ClassId) (dI : Nat → Nat → Nat) (cI cJ : ClassId) (lo qld qlz : Nat) (sz : Nat) (x : Int32) (mn : Nat) (sm : Int64) (ld : Nat → Int32) (lz : Nat → Int32) (hmn : mn ≤ 12) : Met l yO_comingOn wO_comingOn ({ frames := 0, cells := 0, slots := 0, locals := 0 }) (va_Pc [.ref lo, .int x] (fun U => U.heap.size = sz ∧ va_P (dC, dI) vwCl [(lo, .inr (1, [.ref qld, .ref qlz, .int (nI mn), .long sm])), (qld, .inl (cI, 12, .inl ld)), (qlz, .inl (cI, 12, .inl lz))] U.heap ∧ va_K (dC, dI) vwCl [(cI, .int), (cJ, .long)] U ∧ va_D (fun _ => True) [(lo, .inr (1, [.ref qld, .ref qlz, .int (nI mn), .long sm])), (qld, .inl (cI, 12, .inl ld)), (qlz, .inl (cI, 12, .inl lz))])) (va_Ql (fun res_ (_ : Unit) => res_ = k_come ld lz x mn) (fun _ t => va_P (dC, dI) vwCl [(lo, .inr (1, [.ref qld, .ref qlz, .int (nI mn), .long sm])), (qld, .inl (cI, 12, .inl ld)), (qlz, .inl (cI, 12, .inl lz))] t.heap ∧ va_K (dC, dI) vwCl [(cI, .int), (cJ, .long)] t ∧ va_D (va_A [(lo, .inr (1, [.ref qld, .ref qlz, .int (nI mn), .long sm])), (qld, .inl (cI, 12, .inl ld)), (qlz, .inl (cI, 12, .inl lz))] sz) [(lo, .inr (1, [.ref qld, .ref qlz, .int (nI mn), .long sm])), (qld, .inl (cI, 12, .inl ld)), (qlz, .inl (cI, 12, .inl lz))]) (va_A [(lo, .inr (1, [.ref qld, .ref qlz, .int (nI mn), .long sm])), (qld, .inl (cI, 12, .inl ld)), (qlz, .inl (cI, 12, .inl lz))] sz)) 0 0 (va_A [(lo, .inr (1, [.ref qld, .ref qlz, .int (nI mn), .long sm])), (qld, .inl (cI, 12, .inl ld)), (qlz, .inl (cI, 12, .inl lz))] sz) := by
  refine Met.ofW (cc := bO_comingOn) (maxL := 5) (ret := (some .long)) (by decide) rfl ?_
  intro p e s m args below meth c s₁ B hml hv
  obtain ⟨rfl, hsz, hP, hK, hD0⟩ := hv
  have hx := B.exec
  have hb := B.bytes
  have hr := B.returns
  have hts := atoms_spec (ws := wO_comingOn) B.pre
  have hown : s.vm.findClass R_O = some m.cls := findClass_of_methodNamed B.named
  have htw : ∀ w ∈ WA, w.before _ s = true := fun w h => hts w (List.mem_cons_of_mem _ h)
  clear hts
  have hlocks := B.notSynchronized
  subst hsz
  have hD := hD0.self (sz := s.heap.size)
  generalize hAe : va_A [(lo, .inr (1, [.ref qld, .ref qlz, .int (nI mn), .long sm])), (qld, .inl (cI, 12, .inl ld)), (qlz, .inl (cI, 12, .inl lz))] s.heap.size = A at hD ⊢
  have hA : ∀ q : Nat, s.heap.size ≤ q → A q := fun q h => by rw [← hAe]; exact Or.inr h
  clear hAe hD0
  have hS : va_S A s.heap s.heap [] := va_S.rf
  have hP : va_P (dC, dI) vwCl [(lo, .inr (1, [.ref qld, .ref qlz, .int (nI mn), .long sm])), (qld, .inl (cI, 12, .inl ld)), (qlz, .inl (cI, 12, .inl lz))] s.heap := hP
  have hl := lv_entry ([.ref lo, .int x]) (n := 5) (Nat.le_of_ble_eq_true rfl)
  rw [lg_entry_eq]
  generalize (lg_sl ([.ref lo, .int x]) ++ List.replicate (5 - (lg_sl ([.ref lo, .int x])).length) Slot.unset).toArray = ls at hl ⊢
  have hl : lv_has ls 5 [(0, .ref lo), (1, .int x)] := hl
  refine lv_lconst (v := 0) hx hb dO_comingOn_0 (by decide) ?_
  refine lv_lstore_n (lv' := [(2, .long 0), (0, .ref lo), (1, .int x)]) hx hb dO_comingOn_1 rfl hl (by decide) rfl (fun ls hl => ?_)
  refine lv_iconst (v := nI 0) hx hb dO_comingOn_2 (by decide) ?_
  refine lv_istore (lv' := [(4, .int (nI 0)), (2, .long 0), (0, .ref lo), (1, .int x)]) hx hb dO_comingOn_3 hl (by decide) rfl (fun ls hl => ?_)
  -- the loop at 5
  have hP : va_P (dC, dI) vwCl [(lo, .inr (1, [.ref qld, .ref qlz, .int (nI mn), .long sm])), (qld, .inl (cI, 12, .inl ld)), (qlz, .inl (cI, 12, .inl lz))] s.heap := by first | exact hP | simpa only [] using hP
  have hD : va_D A [(lo, .inr (1, [.ref qld, .ref qlz, .int (nI mn), .long sm])), (qld, .inl (cI, 12, .inl ld)), (qlz, .inl (cI, 12, .inl lz))] := by first | exact hD | simpa only [] using hD
  refine x_loop (N := mn) (I := fun i H locs ls => va_P (dC, dI) vwCl [(lo, .inr (1, [.ref qld, .ref qlz, .int (nI mn), .long sm])), (qld, .inl (cI, 12, .inl ld)), (qlz, .inl (cI, 12, .inl lz))] H ∧ va_D A [(lo, .inr (1, [.ref qld, .ref qlz, .int (nI mn), .long sm])), (qld, .inl (cI, 12, .inl ld)), (qlz, .inl (cI, 12, .inl lz))] ∧ va_S A s.heap H locs ∧ lv_has ls 5 [(0, .ref lo), (1, .int x), (2, .long (k_come ld lz x i)), (4, .int (nI i))]) (i0 := 0) ?_ (Nat.zero_le _) ⟨hP, hD, hS, lv_sub hl [2, 3, 1, 0] rfl⟩
  intro i hi ih5 H locs ls hI
  obtain ⟨hP, hD, hS, hl⟩ := hI
  refine lv_iload hx hb dO_comingOn_5 (lv_at hl 3 rfl) ?_
  refine lv_aload_n hx hb dO_comingOn_7 rfl (lv_at hl 0 rfl) ?_
  refine va_get (D := (dC, dI)) (ci := 1) (v := .int (nI mn)) (C := R_O) (T := T_O) (N := 4) hx hb htw in_O hown hK hP 0 rfl rfl 2 (by decide) (htw _ m_75) (fun _ h9 => h9) rfl dO_comingOn_8 ?_
  refine lv_icmp_ge (tgt := 42) hx hb dO_comingOn_11 (by decide) (fun hc11 => ?_) (fun hc11 => ?_)
  · -- 11 taken
    rw [nI_leI (by omega) (by omega)] at hc11
    obtain rfl : mn = i := by omega
    refine lv_lload_n hx hb dO_comingOn_42 rfl (lv_at hl 2 rfl) ?_
    have hP : va_P (dC, dI) vwCl [(lo, .inr (1, [.ref qld, .ref qlz, .int (nI mn), .long sm])), (qld, .inl (cI, 12, .inl ld)), (qlz, .inl (cI, 12, .inl lz))] H := by first | exact hP | simpa only [] using hP
    have hD : va_D A [(lo, .inr (1, [.ref qld, .ref qlz, .int (nI mn), .long sm])), (qld, .inl (cI, 12, .inl ld)), (qlz, .inl (cI, 12, .inl lz))] := by first | exact hD | simpa only [] using hD
    exact W.lret (v := k_come ld lz x mn) hx hb hr (fun t ht hW => ⟨⟨k_come ld lz x mn, (), rfl, rfl, by rw [ht]; exact hP, va_K.moved hW.alike hK, hD⟩, hS.F ht⟩) hS.2.2 dO_comingOn_43
  · -- 11 not taken
    rw [nI_leI (by omega) (by omega)] at hc11
    refine lv_aload_n hx hb dO_comingOn_14 rfl (lv_at hl 0 rfl) ?_
    refine va_get (D := (dC, dI)) (ci := 1) (v := .ref qld) (C := R_O) (T := T_O) (N := 4) hx hb htw in_O hown hK hP 0 rfl rfl 0 (by decide) (htw _ m_73) (fun _ h9 => h9) rfl dO_comingOn_15 ?_
    refine lv_iload hx hb dO_comingOn_18 (lv_at hl 3 rfl) ?_
    refine xa_iald hx hb hK hP 1 0 rfl rfl (i := i) (by omega) (by decide) dO_comingOn_20 ?_
    refine lv_iload_n hx hb dO_comingOn_21 rfl (lv_at hl 1 rfl) ?_
    refine lv_icmp_ne (tgt := 36) hx hb dO_comingOn_22 (by decide) (fun hc22 => ?_) (fun hc22 => ?_)
    · -- 22 taken
      have eq1 : (k_come ld lz x i : Int64) = k_come ld lz x (i + 1) := k_come_f hc22
      rw [eq1] at hl
      refine lv_iinc (v := nI (i + 1)) (lv' := [(4, .int (nI (i + 1))), (0, .ref lo), (1, .int x), (2, .long (k_come ld lz x (i + 1)))]) hx hb dO_comingOn_36 hl (k := 3) rfl (nI_1 _) (by decide) rfl (fun ls hl => ?_)
      refine lv_goto (tgt := 5) hx hb dO_comingOn_39 (by decide) ?_
      have hP : va_P (dC, dI) vwCl [(lo, .inr (1, [.ref qld, .ref qlz, .int (nI mn), .long sm])), (qld, .inl (cI, 12, .inl ld)), (qlz, .inl (cI, 12, .inl lz))] H := by first | exact hP | simpa only [] using hP
      have hD : va_D A [(lo, .inr (1, [.ref qld, .ref qlz, .int (nI mn), .long sm])), (qld, .inl (cI, 12, .inl ld)), (qlz, .inl (cI, 12, .inl lz))] := by first | exact hD | simpa only [] using hD
      exact ih5 (by omega) _ _ _ ⟨hP, hD, hS, lv_sub hl [1, 2, 3, 0] rfl⟩
    · -- 22 not taken
      refine lv_lload_n hx hb dO_comingOn_25 rfl (lv_at hl 2 rfl) ?_
      refine lv_aload_n hx hb dO_comingOn_26 rfl (lv_at hl 0 rfl) ?_
      refine va_get (D := (dC, dI)) (ci := 1) (v := .ref qlz) (C := R_O) (T := T_O) (N := 4) hx hb htw in_O hown hK hP 0 rfl rfl 1 (by decide) (htw _ m_74) (fun _ h9 => h9) rfl dO_comingOn_27 ?_
      refine lv_iload hx hb dO_comingOn_30 (lv_at hl 3 rfl) ?_
      refine xa_iald hx hb hK hP 2 0 rfl rfl (i := i) (by omega) (by decide) dO_comingOn_32 ?_
      refine lv_i2l (v := (lz i).toInt64) hx hb dO_comingOn_33 rfl ?_
      refine lv_ladd hx hb dO_comingOn_34 ?_
      refine lv_lstore_n (lv' := [(2, .long ((k_come ld lz x i) + ((lz i).toInt64))), (0, .ref lo), (1, .int x), (4, .int (nI i))]) hx hb dO_comingOn_35 rfl hl (by decide) rfl (fun ls hl => ?_)
      have eq2 : ((k_come ld lz x i) + ((lz i).toInt64) : Int64) = k_come ld lz x (i + 1) := k_come_t hc22
      rw [eq2] at hl
      refine lv_iinc (v := nI (i + 1)) (lv' := [(4, .int (nI (i + 1))), (2, .long (k_come ld lz x (i + 1))), (0, .ref lo), (1, .int x)]) hx hb dO_comingOn_36 hl (k := 3) rfl (nI_1 _) (by decide) rfl (fun ls hl => ?_)
      refine lv_goto (tgt := 5) hx hb dO_comingOn_39 (by decide) ?_
      have hP : va_P (dC, dI) vwCl [(lo, .inr (1, [.ref qld, .ref qlz, .int (nI mn), .long sm])), (qld, .inl (cI, 12, .inl ld)), (qlz, .inl (cI, 12, .inl lz))] H := by first | exact hP | simpa only [] using hP
      have hD : va_D A [(lo, .inr (1, [.ref qld, .ref qlz, .int (nI mn), .long sm])), (qld, .inl (cI, 12, .inl ld)), (qlz, .inl (cI, 12, .inl lz))] := by first | exact hD | simpa only [] using hD
      exact ih5 (by omega) _ _ _ ⟨hP, hD, hS, lv_sub hl [2, 3, 1, 0] rfl⟩
set_option maxHeartbeats 4000000 in
set_option maxRecDepth 100000 in
theorem kG_lay (l : Launch) (dC : Nat → ClassId) (dI : Nat → Nat → Nat) (cI cJ : ClassId) (g so lo qpr qpa qlk qln qhd qsf qfp qfc : Nat) (sz : Nat) (u : Int64) (dy : Nat) (co : Int64) (wo : Int64) (pr : Nat → Int64) (ly : Nat) (ce : Nat) (da : Int32) (db : Int32) (dr : Int32) (hce : ce ≤ 30) : Met l yG_lay wG_lay ({ frames := 0, cells := 0, slots := 0, locals := 0 }) (va_Pc [.ref g, .long u] (fun U => U.heap.size = sz ∧ va_P (dC, dI) vwCl [(g, .inr (0, [.ref so, .ref lo, .ref qpr, .ref qpa, .int (nI dy), .long co, .long wo])), (qpr, .inl (cJ, 30, .inr (.inl pr))), (so, .inr (3, [.ref qlk, .ref qln, .ref qhd, .ref qsf, .ref qfp, .ref qfc, .int (nI ly), .int (nI ce), .int da, .int db, .int dr]))] U.heap ∧ va_K (dC, dI) vwCl [(cI, .int), (cJ, .long)] U ∧ va_D (fun _ => True) [(g, .inr (0, [.ref so, .ref lo, .ref qpr, .ref qpa, .int (nI dy), .long co, .long wo])), (qpr, .inl (cJ, 30, .inr (.inl pr))), (so, .inr (3, [.ref qlk, .ref qln, .ref qhd, .ref qsf, .ref qfp, .ref qfc, .int (nI ly), .int (nI ce), .int da, .int db, .int dr]))])) (va_Qv (fun (_ : Unit) => True) (fun _ t => va_P (dC, dI) vwCl [(g, .inr (0, [.ref so, .ref lo, .ref qpr, .ref qpa, .int (nI dy), .long (co + u), .long wo])), (qpr, .inl (cJ, 30, .inr (.inl (k_lay pr ce u)))), (so, .inr (3, [.ref qlk, .ref qln, .ref qhd, .ref qsf, .ref qfp, .ref qfc, .int (nI ly), .int (nI ce), .int da, .int db, .int dr]))] t.heap ∧ va_K (dC, dI) vwCl [(cI, .int), (cJ, .long)] t ∧ va_D (va_A [(g, .inr (0, [.ref so, .ref lo, .ref qpr, .ref qpa, .int (nI dy), .long co, .long wo])), (qpr, .inl (cJ, 30, .inr (.inl pr))), (so, .inr (3, [.ref qlk, .ref qln, .ref qhd, .ref qsf, .ref qfp, .ref qfc, .int (nI ly), .int (nI ce), .int da, .int db, .int dr]))] sz) [(g, .inr (0, [.ref so, .ref lo, .ref qpr, .ref qpa, .int (nI dy), .long (co + u), .long wo])), (qpr, .inl (cJ, 30, .inr (.inl (k_lay pr ce u)))), (so, .inr (3, [.ref qlk, .ref qln, .ref qhd, .ref qsf, .ref qfp, .ref qfc, .int (nI ly), .int (nI ce), .int da, .int db, .int dr]))]) (va_A [(g, .inr (0, [.ref so, .ref lo, .ref qpr, .ref qpa, .int (nI dy), .long co, .long wo])), (qpr, .inl (cJ, 30, .inr (.inl pr))), (so, .inr (3, [.ref qlk, .ref qln, .ref qhd, .ref qsf, .ref qfp, .ref qfc, .int (nI ly), .int (nI ce), .int da, .int db, .int dr]))] sz)) 0 0 (va_A [(g, .inr (0, [.ref so, .ref lo, .ref qpr, .ref qpa, .int (nI dy), .long co, .long wo])), (qpr, .inl (cJ, 30, .inr (.inl pr))), (so, .inr (3, [.ref qlk, .ref qln, .ref qhd, .ref qsf, .ref qfp, .ref qfc, .int (nI ly), .int (nI ce), .int da, .int db, .int dr]))] sz) := by
  refine Met.ofW (cc := bG_lay) (maxL := 4) (ret := none) (by decide) rfl ?_
  intro p e s m args below meth c s₁ B hml hv
  obtain ⟨rfl, hsz, hP, hK, hD0⟩ := hv
  have hx := B.exec
  have hb := B.bytes
  have hr := B.returns
  have hts := atoms_spec (ws := wG_lay) B.pre
  have hown : s.vm.findClass R_G = some m.cls := findClass_of_methodNamed B.named
  have htw : ∀ w ∈ WA, w.before _ s = true := fun w h => hts w (List.mem_cons_of_mem _ h)
  clear hts
  have hlocks := B.notSynchronized
  subst hsz
  have hD := hD0.self (sz := s.heap.size)
  generalize hAe : va_A [(g, .inr (0, [.ref so, .ref lo, .ref qpr, .ref qpa, .int (nI dy), .long co, .long wo])), (qpr, .inl (cJ, 30, .inr (.inl pr))), (so, .inr (3, [.ref qlk, .ref qln, .ref qhd, .ref qsf, .ref qfp, .ref qfc, .int (nI ly), .int (nI ce), .int da, .int db, .int dr]))] s.heap.size = A at hD ⊢
  have hA : ∀ q : Nat, s.heap.size ≤ q → A q := fun q h => by rw [← hAe]; exact Or.inr h
  clear hAe hD0
  have hS : va_S A s.heap s.heap [] := va_S.rf
  have hP : va_P (dC, dI) vwCl [(g, .inr (0, [.ref so, .ref lo, .ref qpr, .ref qpa, .int (nI dy), .long co, .long wo])), (qpr, .inl (cJ, 30, .inr (.inl pr))), (so, .inr (3, [.ref qlk, .ref qln, .ref qhd, .ref qsf, .ref qfp, .ref qfc, .int (nI ly), .int (nI ce), .int da, .int db, .int dr]))] s.heap := hP
  have hl := lv_entry ([.ref g, .long u]) (n := 4) (Nat.le_of_ble_eq_true rfl)
  rw [lg_entry_eq]
  generalize (lg_sl ([.ref g, .long u]) ++ List.replicate (4 - (lg_sl ([.ref g, .long u])).length) Slot.unset).toArray = ls at hl ⊢
  have hl : lv_has ls 4 [(0, .ref g), (1, .long u)] := hl
  refine lv_iconst (v := nI 0) hx hb dG_lay_0 (by decide) ?_
  refine lv_istore_n (lv' := [(3, .int (nI 0)), (0, .ref g), (1, .long u)]) hx hb dG_lay_1 rfl hl (by decide) rfl (fun ls hl => ?_)
  -- the loop at 2
  have eq1 : (pr : Nat → Int64) = k_lay pr 0 u := k_lay_0
  rw [eq1] at hP hD
  have hP : va_P (dC, dI) vwCl [(g, .inr (0, [.ref so, .ref lo, .ref qpr, .ref qpa, .int (nI dy), .long co, .long wo])), (qpr, .inl (cJ, 30, .inr (.inl (k_lay pr 0 u)))), (so, .inr (3, [.ref qlk, .ref qln, .ref qhd, .ref qsf, .ref qfp, .ref qfc, .int (nI ly), .int (nI ce), .int da, .int db, .int dr]))] s.heap := by first | exact hP | simpa only [] using hP
  have hD : va_D A [(g, .inr (0, [.ref so, .ref lo, .ref qpr, .ref qpa, .int (nI dy), .long co, .long wo])), (qpr, .inl (cJ, 30, .inr (.inl (k_lay pr 0 u)))), (so, .inr (3, [.ref qlk, .ref qln, .ref qhd, .ref qsf, .ref qfp, .ref qfc, .int (nI ly), .int (nI ce), .int da, .int db, .int dr]))] := by first | exact hD | simpa only [] using hD
  refine x_loop (N := ce) (I := fun i H locs ls => va_P (dC, dI) vwCl [(g, .inr (0, [.ref so, .ref lo, .ref qpr, .ref qpa, .int (nI dy), .long co, .long wo])), (qpr, .inl (cJ, 30, .inr (.inl (k_lay pr i u)))), (so, .inr (3, [.ref qlk, .ref qln, .ref qhd, .ref qsf, .ref qfp, .ref qfc, .int (nI ly), .int (nI ce), .int da, .int db, .int dr]))] H ∧ va_D A [(g, .inr (0, [.ref so, .ref lo, .ref qpr, .ref qpa, .int (nI dy), .long co, .long wo])), (qpr, .inl (cJ, 30, .inr (.inl (k_lay pr i u)))), (so, .inr (3, [.ref qlk, .ref qln, .ref qhd, .ref qsf, .ref qfp, .ref qfc, .int (nI ly), .int (nI ce), .int da, .int db, .int dr]))] ∧ va_S A s.heap H locs ∧ lv_has ls 4 [(0, .ref g), (1, .long u), (3, .int (nI i))]) (i0 := 0) ?_ (Nat.zero_le _) ⟨hP, hD, hS, lv_sub hl [1, 2, 0] rfl⟩
  intro i hi ih2 H locs ls hI
  obtain ⟨hP, hD, hS, hl⟩ := hI
  refine lv_iload_n hx hb dG_lay_2 rfl (lv_at hl 2 rfl) ?_
  refine lv_aload_n hx hb dG_lay_3 rfl (lv_at hl 0 rfl) ?_
  refine va_get (D := (dC, dI)) (ci := 0) (v := .ref so) (C := R_G) (T := T_G) (N := 7) hx hb htw in_G hown hK hP 0 rfl rfl 0 (by decide) (htw _ m_114) (fun _ h9 => h9) rfl dG_lay_4 ?_
  refine va_get (D := (dC, dI)) (ci := 3) (v := .int (nI ce)) (C := R_S) (T := T_S) (N := 11) hx hb htw in_S hown hK hP 2 rfl rfl 7 (by decide) (htw _ m_35) (fun _ h9 => h9) rfl dG_lay_7 ?_
  refine lv_icmp_ge (tgt := 29) hx hb dG_lay_10 (by decide) (fun hc10 => ?_) (fun hc10 => ?_)
  · -- 10 taken
    rw [nI_leI (by omega) (by omega)] at hc10
    obtain rfl : ce = i := by omega
    refine lv_aload_n hx hb dG_lay_29 rfl (lv_at hl 0 rfl) ?_
    refine lv_dup hx hb dG_lay_30 rfl ?_
    refine va_get (D := (dC, dI)) (ci := 0) (v := .long co) (C := R_G) (T := T_G) (N := 7) hx hb htw in_G hown hK hP 0 rfl rfl 5 (by decide) (htw _ m_122) (fun _ h9 => h9) rfl dG_lay_31 ?_
    refine lv_lload_n hx hb dG_lay_34 rfl (lv_at hl 1 rfl) ?_
    refine lv_ladd hx hb dG_lay_35 ?_
    refine va_put (D := (dC, dI)) (ci := 0) (v := .long (co + u)) (ty := .long) (C := R_G) (T := T_G) (N := 7) hx hb htw in_G ty_G tok_G nnm_G hown hK hP hD hS 0 rfl rfl 5 (by decide) (htw _ m_122) (fun _ h9 => h9) rfl (by decide +kernel) rfl rfl (Nat.le_of_ble_eq_true rfl) dG_lay_36 (fun H locs hP hD hS => ?_)
    have hP : va_P (dC, dI) vwCl [(g, .inr (0, [.ref so, .ref lo, .ref qpr, .ref qpa, .int (nI dy), .long (co + u), .long wo])), (qpr, .inl (cJ, 30, .inr (.inl (k_lay pr ce u)))), (so, .inr (3, [.ref qlk, .ref qln, .ref qhd, .ref qsf, .ref qfp, .ref qfc, .int (nI ly), .int (nI ce), .int da, .int db, .int dr]))] H := hP
    have hD : va_D A [(g, .inr (0, [.ref so, .ref lo, .ref qpr, .ref qpa, .int (nI dy), .long (co + u), .long wo])), (qpr, .inl (cJ, 30, .inr (.inl (k_lay pr ce u)))), (so, .inr (3, [.ref qlk, .ref qln, .ref qhd, .ref qsf, .ref qfp, .ref qfc, .int (nI ly), .int (nI ce), .int da, .int db, .int dr]))] := hD
    have hP : va_P (dC, dI) vwCl [(g, .inr (0, [.ref so, .ref lo, .ref qpr, .ref qpa, .int (nI dy), .long (co + u), .long wo])), (qpr, .inl (cJ, 30, .inr (.inl (k_lay pr ce u)))), (so, .inr (3, [.ref qlk, .ref qln, .ref qhd, .ref qsf, .ref qfp, .ref qfc, .int (nI ly), .int (nI ce), .int da, .int db, .int dr]))] H := by first | exact hP | simpa only [] using hP
    have hD : va_D A [(g, .inr (0, [.ref so, .ref lo, .ref qpr, .ref qpa, .int (nI dy), .long (co + u), .long wo])), (qpr, .inl (cJ, 30, .inr (.inl (k_lay pr ce u)))), (so, .inr (3, [.ref qlk, .ref qln, .ref qhd, .ref qsf, .ref qfp, .ref qfc, .int (nI ly), .int (nI ce), .int da, .int db, .int dr]))] := by first | exact hD | simpa only [] using hD
    exact W.vret hx hb hr (fun t ht hW => ⟨⟨(), rfl, trivial, by rw [ht]; exact hP, va_K.moved hW.alike hK, hD⟩, hS.F ht⟩) hS.2.2 dG_lay_39
  · -- 10 not taken
    rw [nI_leI (by omega) (by omega)] at hc10
    refine lv_aload_n hx hb dG_lay_13 rfl (lv_at hl 0 rfl) ?_
    refine va_get (D := (dC, dI)) (ci := 0) (v := .ref qpr) (C := R_G) (T := T_G) (N := 7) hx hb htw in_G hown hK hP 0 rfl rfl 2 (by decide) (htw _ m_116) (fun _ h9 => h9) rfl dG_lay_14 ?_
    refine lv_iload_n hx hb dG_lay_17 rfl (lv_at hl 2 rfl) ?_
    refine lv_dup2_11 hx hb dG_lay_18 rfl rfl ?_
    refine xa_lald hx hb hK hP 1 1 rfl rfl (i := i) (by omega) (by decide) dG_lay_19 ?_
    refine lv_lload_n hx hb dG_lay_20 rfl (lv_at hl 1 rfl) ?_
    refine lv_ladd hx hb dG_lay_21 ?_
    refine xa_last hx hb hK hP hD hS 1 1 rfl rfl (i := i) (by omega) (by decide) dG_lay_22 (fun H locs hP hD hS => ?_)
    have hP : va_P (dC, dI) vwCl [(g, .inr (0, [.ref so, .ref lo, .ref qpr, .ref qpa, .int (nI dy), .long co, .long wo])), (qpr, .inl (cJ, 30, .inr (.inl (vp_updL (k_lay pr i u) i (((k_lay pr i u) i) + u))))), (so, .inr (3, [.ref qlk, .ref qln, .ref qhd, .ref qsf, .ref qfp, .ref qfc, .int (nI ly), .int (nI ce), .int da, .int db, .int dr]))] H := hP
    have hD : va_D A [(g, .inr (0, [.ref so, .ref lo, .ref qpr, .ref qpa, .int (nI dy), .long co, .long wo])), (qpr, .inl (cJ, 30, .inr (.inl (vp_updL (k_lay pr i u) i (((k_lay pr i u) i) + u))))), (so, .inr (3, [.ref qlk, .ref qln, .ref qhd, .ref qsf, .ref qfp, .ref qfc, .int (nI ly), .int (nI ce), .int da, .int db, .int dr]))] := hD
    refine lv_iinc (v := nI (i + 1)) (lv' := [(3, .int (nI (i + 1))), (0, .ref g), (1, .long u)]) hx hb dG_lay_23 hl (k := 2) rfl (nI_1 _) (by decide) rfl (fun ls hl => ?_)
    refine lv_goto (tgt := 2) hx hb dG_lay_26 (by decide) ?_
    have eq2 : (vp_updL (k_lay pr i u) i (((k_lay pr i u) i) + u) : Nat → Int64) = k_lay pr (i + 1) u := k_lay_s
    rw [eq2] at hP hD
    have hP : va_P (dC, dI) vwCl [(g, .inr (0, [.ref so, .ref lo, .ref qpr, .ref qpa, .int (nI dy), .long co, .long wo])), (qpr, .inl (cJ, 30, .inr (.inl (k_lay pr (i + 1) u)))), (so, .inr (3, [.ref qlk, .ref qln, .ref qhd, .ref qsf, .ref qfp, .ref qfc, .int (nI ly), .int (nI ce), .int da, .int db, .int dr]))] H := by first | exact hP | simpa only [] using hP
    have hD : va_D A [(g, .inr (0, [.ref so, .ref lo, .ref qpr, .ref qpa, .int (nI dy), .long co, .long wo])), (qpr, .inl (cJ, 30, .inr (.inl (k_lay pr (i + 1) u)))), (so, .inr (3, [.ref qlk, .ref qln, .ref qhd, .ref qsf, .ref qfp, .ref qfc, .int (nI ly), .int (nI ce), .int da, .int db, .int dr]))] := by first | exact hD | simpa only [] using hD
    exact ih2 (by omega) _ _ _ ⟨hP, hD, hS, lv_sub hl [1, 2, 0] rfl⟩
set_option maxHeartbeats 4000000 in
set_option maxRecDepth 100000 in
theorem kG_leavingAbove (l : Launch) (dC : Nat → ClassId) (dI : Nat → Nat → Nat) (cI cJ : ClassId) (g so lo qpr qpa qlk qln qhd qsf qfp qfc : Nat) (sz : Nat) (dy : Nat) (co : Int64) (wo : Int64) (pr : Nat → Int64) (ly : Nat) (ce : Nat) (da : Int32) (db : Int32) (dr : Int32) (lk : Nat → Int32) : Met l yG_leavingAbove wG_leavingAbove ({ frames := 0, cells := 0, slots := 0, locals := 0 }) (va_Pc [.ref g] (fun U => U.heap.size = sz ∧ va_P (dC, dI) vwCl [(g, .inr (0, [.ref so, .ref lo, .ref qpr, .ref qpa, .int (nI dy), .long co, .long wo])), (qpr, .inl (cJ, 30, .inr (.inl pr))), (so, .inr (3, [.ref qlk, .ref qln, .ref qhd, .ref qsf, .ref qfp, .ref qfc, .int (nI ly), .int (nI ce), .int da, .int db, .int dr])), (qlk, .inl (cI, 30, .inl lk))] U.heap ∧ va_K (dC, dI) vwCl [(cI, .int), (cJ, .long)] U ∧ va_D (fun _ => True) [(g, .inr (0, [.ref so, .ref lo, .ref qpr, .ref qpa, .int (nI dy), .long co, .long wo])), (qpr, .inl (cJ, 30, .inr (.inl pr))), (so, .inr (3, [.ref qlk, .ref qln, .ref qhd, .ref qsf, .ref qfp, .ref qfc, .int (nI ly), .int (nI ce), .int da, .int db, .int dr])), (qlk, .inl (cI, 30, .inl lk))])) (va_Ql (fun res_ (_ : Unit) => res_ = k_up lk da pr) (fun _ t => va_P (dC, dI) vwCl [(g, .inr (0, [.ref so, .ref lo, .ref qpr, .ref qpa, .int (nI dy), .long co, .long wo])), (qpr, .inl (cJ, 30, .inr (.inl pr))), (so, .inr (3, [.ref qlk, .ref qln, .ref qhd, .ref qsf, .ref qfp, .ref qfc, .int (nI ly), .int (nI ce), .int da, .int db, .int dr])), (qlk, .inl (cI, 30, .inl lk))] t.heap ∧ va_K (dC, dI) vwCl [(cI, .int), (cJ, .long)] t ∧ va_D (va_A [(g, .inr (0, [.ref so, .ref lo, .ref qpr, .ref qpa, .int (nI dy), .long co, .long wo])), (qpr, .inl (cJ, 30, .inr (.inl pr))), (so, .inr (3, [.ref qlk, .ref qln, .ref qhd, .ref qsf, .ref qfp, .ref qfc, .int (nI ly), .int (nI ce), .int da, .int db, .int dr])), (qlk, .inl (cI, 30, .inl lk))] sz) [(g, .inr (0, [.ref so, .ref lo, .ref qpr, .ref qpa, .int (nI dy), .long co, .long wo])), (qpr, .inl (cJ, 30, .inr (.inl pr))), (so, .inr (3, [.ref qlk, .ref qln, .ref qhd, .ref qsf, .ref qfp, .ref qfc, .int (nI ly), .int (nI ce), .int da, .int db, .int dr])), (qlk, .inl (cI, 30, .inl lk))]) (va_A [(g, .inr (0, [.ref so, .ref lo, .ref qpr, .ref qpa, .int (nI dy), .long co, .long wo])), (qpr, .inl (cJ, 30, .inr (.inl pr))), (so, .inr (3, [.ref qlk, .ref qln, .ref qhd, .ref qsf, .ref qfp, .ref qfc, .int (nI ly), .int (nI ce), .int da, .int db, .int dr])), (qlk, .inl (cI, 30, .inl lk))] sz)) 0 0 (va_A [(g, .inr (0, [.ref so, .ref lo, .ref qpr, .ref qpa, .int (nI dy), .long co, .long wo])), (qpr, .inl (cJ, 30, .inr (.inl pr))), (so, .inr (3, [.ref qlk, .ref qln, .ref qhd, .ref qsf, .ref qfp, .ref qfc, .int (nI ly), .int (nI ce), .int da, .int db, .int dr])), (qlk, .inl (cI, 30, .inl lk))] sz) := by
  refine Met.ofW (cc := bG_leavingAbove) (maxL := 1) (ret := (some .long)) (by decide) rfl ?_
  intro p e s m args below meth c s₁ B hml hv
  obtain ⟨rfl, hsz, hP, hK, hD0⟩ := hv
  have hx := B.exec
  have hb := B.bytes
  have hr := B.returns
  have hts := atoms_spec (ws := wG_leavingAbove) B.pre
  have hown : s.vm.findClass R_G = some m.cls := findClass_of_methodNamed B.named
  have htw : ∀ w ∈ WA, w.before _ s = true := fun w h => hts w (List.mem_cons_of_mem _ h)
  clear hts
  have hlocks := B.notSynchronized
  subst hsz
  have hD := hD0.self (sz := s.heap.size)
  generalize hAe : va_A [(g, .inr (0, [.ref so, .ref lo, .ref qpr, .ref qpa, .int (nI dy), .long co, .long wo])), (qpr, .inl (cJ, 30, .inr (.inl pr))), (so, .inr (3, [.ref qlk, .ref qln, .ref qhd, .ref qsf, .ref qfp, .ref qfc, .int (nI ly), .int (nI ce), .int da, .int db, .int dr])), (qlk, .inl (cI, 30, .inl lk))] s.heap.size = A at hD ⊢
  have hA : ∀ q : Nat, s.heap.size ≤ q → A q := fun q h => by rw [← hAe]; exact Or.inr h
  clear hAe hD0
  have hS : va_S A s.heap s.heap [] := va_S.rf
  have hP : va_P (dC, dI) vwCl [(g, .inr (0, [.ref so, .ref lo, .ref qpr, .ref qpa, .int (nI dy), .long co, .long wo])), (qpr, .inl (cJ, 30, .inr (.inl pr))), (so, .inr (3, [.ref qlk, .ref qln, .ref qhd, .ref qsf, .ref qfp, .ref qfc, .int (nI ly), .int (nI ce), .int da, .int db, .int dr])), (qlk, .inl (cI, 30, .inl lk))] s.heap := hP
  have hl := lv_entry ([.ref g]) (n := 1) (Nat.le_of_ble_eq_true rfl)
  rw [lg_entry_eq]
  generalize (lg_sl ([.ref g]) ++ List.replicate (1 - (lg_sl ([.ref g])).length) Slot.unset).toArray = ls at hl ⊢
  have hl : lv_has ls 1 [(0, .ref g)] := hl
  refine lv_aload_n hx hb dG_leavingAbove_0 rfl (lv_at hl 0 rfl) ?_
  refine va_get (D := (dC, dI)) (ci := 0) (v := .ref so) (C := R_G) (T := T_G) (N := 7) hx hb htw in_G hown hK hP 0 rfl rfl 0 (by decide) (htw _ m_114) (fun _ h9 => h9) rfl dG_leavingAbove_1 ?_
  refine va_get (D := (dC, dI)) (ci := 3) (v := .int da) (C := R_S) (T := T_S) (N := 11) hx hb htw in_S hown hK hP 2 rfl rfl 8 (by decide) (htw _ m_38) (fun _ h9 => h9) rfl dG_leavingAbove_4 ?_
  refine lv_if_eq (tgt := 34) hx hb dG_leavingAbove_7 (by decide) (fun hc7 => ?_) (fun hc7 => ?_)
  · -- 7 taken
    have hret : (0 : Int64) = k_up lk da pr := (if_pos hc7).symm
    refine lv_lconst (v := 0) hx hb dG_leavingAbove_34 (by decide) ?_
    have hP : va_P (dC, dI) vwCl [(g, .inr (0, [.ref so, .ref lo, .ref qpr, .ref qpa, .int (nI dy), .long co, .long wo])), (qpr, .inl (cJ, 30, .inr (.inl pr))), (so, .inr (3, [.ref qlk, .ref qln, .ref qhd, .ref qsf, .ref qfp, .ref qfc, .int (nI ly), .int (nI ce), .int da, .int db, .int dr])), (qlk, .inl (cI, 30, .inl lk))] s.heap := by first | exact hP | simpa only [] using hP
    have hD : va_D A [(g, .inr (0, [.ref so, .ref lo, .ref qpr, .ref qpa, .int (nI dy), .long co, .long wo])), (qpr, .inl (cJ, 30, .inr (.inl pr))), (so, .inr (3, [.ref qlk, .ref qln, .ref qhd, .ref qsf, .ref qfp, .ref qfc, .int (nI ly), .int (nI ce), .int da, .int db, .int dr])), (qlk, .inl (cI, 30, .inl lk))] := by first | exact hD | simpa only [] using hD
    exact W.lret (v := 0) hx hb hr (fun t ht hW => ⟨⟨0, (), rfl, hret, by rw [ht]; exact hP, va_K.moved hW.alike hK, hD⟩, hS.F ht⟩) hS.2.2 dG_leavingAbove_35
  · -- 7 not taken
    have hret : pr 0 * (lk 0).toInt64 / 1000 = k_up lk da pr := (if_neg hc7).symm
    refine lv_aload_n hx hb dG_leavingAbove_10 rfl (lv_at hl 0 rfl) ?_
    refine va_get (D := (dC, dI)) (ci := 0) (v := .ref qpr) (C := R_G) (T := T_G) (N := 7) hx hb htw in_G hown hK hP 0 rfl rfl 2 (by decide) (htw _ m_116) (fun _ h9 => h9) rfl dG_leavingAbove_11 ?_
    refine lv_iconst (v := nI 0) hx hb dG_leavingAbove_14 (by decide) ?_
    refine xa_lald hx hb hK hP 1 1 rfl rfl (i := 0) (by omega) (by decide) dG_leavingAbove_15 ?_
    refine lv_aload_n hx hb dG_leavingAbove_16 rfl (lv_at hl 0 rfl) ?_
    refine va_get (D := (dC, dI)) (ci := 0) (v := .ref so) (C := R_G) (T := T_G) (N := 7) hx hb htw in_G hown hK hP 0 rfl rfl 0 (by decide) (htw _ m_114) (fun _ h9 => h9) rfl dG_leavingAbove_17 ?_
    refine va_get (D := (dC, dI)) (ci := 3) (v := .ref qlk) (C := R_S) (T := T_S) (N := 11) hx hb htw in_S hown hK hP 2 rfl rfl 0 (by decide) (htw _ m_23) (fun _ h9 => h9) rfl dG_leavingAbove_20 ?_
    refine lv_iconst (v := nI 0) hx hb dG_leavingAbove_23 (by decide) ?_
    refine xa_iald hx hb hK hP 3 0 rfl rfl (i := 0) (by omega) (by decide) dG_leavingAbove_24 ?_
    refine lv_i2l (v := (lk 0).toInt64) hx hb dG_leavingAbove_25 rfl ?_
    refine lv_lmul hx hb dG_leavingAbove_26 ?_
    refine lv_ldc2 (v := 1000) hx hb hown (htw _ m_216) dG_leavingAbove_27 ?_
    refine lv_ldiv hx hb dG_leavingAbove_30 (by decide) ?_
    refine lv_goto (tgt := 35) hx hb dG_leavingAbove_31 (by decide) ?_
    have hP : va_P (dC, dI) vwCl [(g, .inr (0, [.ref so, .ref lo, .ref qpr, .ref qpa, .int (nI dy), .long co, .long wo])), (qpr, .inl (cJ, 30, .inr (.inl pr))), (so, .inr (3, [.ref qlk, .ref qln, .ref qhd, .ref qsf, .ref qfp, .ref qfc, .int (nI ly), .int (nI ce), .int da, .int db, .int dr])), (qlk, .inl (cI, 30, .inl lk))] s.heap := by first | exact hP | simpa only [] using hP
    have hD : va_D A [(g, .inr (0, [.ref so, .ref lo, .ref qpr, .ref qpa, .int (nI dy), .long co, .long wo])), (qpr, .inl (cJ, 30, .inr (.inl pr))), (so, .inr (3, [.ref qlk, .ref qln, .ref qhd, .ref qsf, .ref qfp, .ref qfc, .int (nI ly), .int (nI ce), .int da, .int db, .int dr])), (qlk, .inl (cI, 30, .inl lk))] := by first | exact hD | simpa only [] using hD
    exact W.lret (v := ((pr 0) * ((lk 0).toInt64)) / 1000) hx hb hr (fun t ht hW => ⟨⟨((pr 0) * ((lk 0).toInt64)) / 1000, (), rfl, hret, by rw [ht]; exact hP, va_K.moved hW.alike hK, hD⟩, hS.F ht⟩) hS.2.2 dG_leavingAbove_35
set_option maxHeartbeats 4000000 in
set_option maxRecDepth 100000 in
theorem kG_goingBelow (l : Launch) (dC : Nat → ClassId) (dI : Nat → Nat → Nat) (cI cJ : ClassId) (g so lo qpr qpa qlk qln qhd qsf qfp qfc : Nat) (sz : Nat) (i : Nat) (dy : Nat) (co : Int64) (wo : Int64) (pr : Nat → Int64) (ly : Nat) (ce : Nat) (da : Int32) (db : Int32) (dr : Int32) (lk : Nat → Int32) (ln : Nat → Int32) (hi : i < ce) (hce : ce ≤ 30) : Met l yG_goingBelow wG_goingBelow ({ frames := 0, cells := 0, slots := 0, locals := 0 }) (va_Pc [.ref g, .int (nI i)] (fun U => U.heap.size = sz ∧ va_P (dC, dI) vwCl [(g, .inr (0, [.ref so, .ref lo, .ref qpr, .ref qpa, .int (nI dy), .long co, .long wo])), (qpr, .inl (cJ, 30, .inr (.inl pr))), (so, .inr (3, [.ref qlk, .ref qln, .ref qhd, .ref qsf, .ref qfp, .ref qfc, .int (nI ly), .int (nI ce), .int da, .int db, .int dr])), (qlk, .inl (cI, 30, .inl lk)), (qln, .inl (cI, 30, .inl ln))] U.heap ∧ va_K (dC, dI) vwCl [(cI, .int), (cJ, .long)] U ∧ va_D (fun _ => True) [(g, .inr (0, [.ref so, .ref lo, .ref qpr, .ref qpa, .int (nI dy), .long co, .long wo])), (qpr, .inl (cJ, 30, .inr (.inl pr))), (so, .inr (3, [.ref qlk, .ref qln, .ref qhd, .ref qsf, .ref qfp, .ref qfc, .int (nI ly), .int (nI ce), .int da, .int db, .int dr])), (qlk, .inl (cI, 30, .inl lk)), (qln, .inl (cI, 30, .inl ln))])) (va_Ql (fun res_ (_ : Unit) => res_ = k_go lk ln ce db pr i) (fun _ t => va_P (dC, dI) vwCl [(g, .inr (0, [.ref so, .ref lo, .ref qpr, .ref qpa, .int (nI dy), .long co, .long wo])), (qpr, .inl (cJ, 30, .inr (.inl pr))), (so, .inr (3, [.ref qlk, .ref qln, .ref qhd, .ref qsf, .ref qfp, .ref qfc, .int (nI ly), .int (nI ce), .int da, .int db, .int dr])), (qlk, .inl (cI, 30, .inl lk)), (qln, .inl (cI, 30, .inl ln))] t.heap ∧ va_K (dC, dI) vwCl [(cI, .int), (cJ, .long)] t ∧ va_D (va_A [(g, .inr (0, [.ref so, .ref lo, .ref qpr, .ref qpa, .int (nI dy), .long co, .long wo])), (qpr, .inl (cJ, 30, .inr (.inl pr))), (so, .inr (3, [.ref qlk, .ref qln, .ref qhd, .ref qsf, .ref qfp, .ref qfc, .int (nI ly), .int (nI ce), .int da, .int db, .int dr])), (qlk, .inl (cI, 30, .inl lk)), (qln, .inl (cI, 30, .inl ln))] sz) [(g, .inr (0, [.ref so, .ref lo, .ref qpr, .ref qpa, .int (nI dy), .long co, .long wo])), (qpr, .inl (cJ, 30, .inr (.inl pr))), (so, .inr (3, [.ref qlk, .ref qln, .ref qhd, .ref qsf, .ref qfp, .ref qfc, .int (nI ly), .int (nI ce), .int da, .int db, .int dr])), (qlk, .inl (cI, 30, .inl lk)), (qln, .inl (cI, 30, .inl ln))]) (va_A [(g, .inr (0, [.ref so, .ref lo, .ref qpr, .ref qpa, .int (nI dy), .long co, .long wo])), (qpr, .inl (cJ, 30, .inr (.inl pr))), (so, .inr (3, [.ref qlk, .ref qln, .ref qhd, .ref qsf, .ref qfp, .ref qfc, .int (nI ly), .int (nI ce), .int da, .int db, .int dr])), (qlk, .inl (cI, 30, .inl lk)), (qln, .inl (cI, 30, .inl ln))] sz)) 0 0 (va_A [(g, .inr (0, [.ref so, .ref lo, .ref qpr, .ref qpa, .int (nI dy), .long co, .long wo])), (qpr, .inl (cJ, 30, .inr (.inl pr))), (so, .inr (3, [.ref qlk, .ref qln, .ref qhd, .ref qsf, .ref qfp, .ref qfc, .int (nI ly), .int (nI ce), .int da, .int db, .int dr])), (qlk, .inl (cI, 30, .inl lk)), (qln, .inl (cI, 30, .inl ln))] sz) := by
  refine Met.ofW (cc := bG_goingBelow) (maxL := 2) (ret := (some .long)) (by decide) rfl ?_
  intro p e s m args below meth c s₁ B hml hv
  obtain ⟨rfl, hsz, hP, hK, hD0⟩ := hv
  have hx := B.exec
  have hb := B.bytes
  have hr := B.returns
  have hts := atoms_spec (ws := wG_goingBelow) B.pre
  have hown : s.vm.findClass R_G = some m.cls := findClass_of_methodNamed B.named
  have htw : ∀ w ∈ WA, w.before _ s = true := fun w h => hts w (List.mem_cons_of_mem _ h)
  clear hts
  have hlocks := B.notSynchronized
  subst hsz
  have hD := hD0.self (sz := s.heap.size)
  generalize hAe : va_A [(g, .inr (0, [.ref so, .ref lo, .ref qpr, .ref qpa, .int (nI dy), .long co, .long wo])), (qpr, .inl (cJ, 30, .inr (.inl pr))), (so, .inr (3, [.ref qlk, .ref qln, .ref qhd, .ref qsf, .ref qfp, .ref qfc, .int (nI ly), .int (nI ce), .int da, .int db, .int dr])), (qlk, .inl (cI, 30, .inl lk)), (qln, .inl (cI, 30, .inl ln))] s.heap.size = A at hD ⊢
  have hA : ∀ q : Nat, s.heap.size ≤ q → A q := fun q h => by rw [← hAe]; exact Or.inr h
  clear hAe hD0
  have hS : va_S A s.heap s.heap [] := va_S.rf
  have hP : va_P (dC, dI) vwCl [(g, .inr (0, [.ref so, .ref lo, .ref qpr, .ref qpa, .int (nI dy), .long co, .long wo])), (qpr, .inl (cJ, 30, .inr (.inl pr))), (so, .inr (3, [.ref qlk, .ref qln, .ref qhd, .ref qsf, .ref qfp, .ref qfc, .int (nI ly), .int (nI ce), .int da, .int db, .int dr])), (qlk, .inl (cI, 30, .inl lk)), (qln, .inl (cI, 30, .inl ln))] s.heap := hP
  have hl := lv_entry ([.ref g, .int (nI i)]) (n := 2) (Nat.le_of_ble_eq_true rfl)
  rw [lg_entry_eq]
  generalize (lg_sl ([.ref g, .int (nI i)]) ++ List.replicate (2 - (lg_sl ([.ref g, .int (nI i)])).length) Slot.unset).toArray = ls at hl ⊢
  have hl : lv_has ls 2 [(0, .ref g), (1, .int (nI i))] := hl
  refine lv_iload_n hx hb dG_goingBelow_0 rfl (lv_at hl 1 rfl) ?_
  refine lv_iconst (v := nI 1) hx hb dG_goingBelow_1 (by decide) ?_
  refine lv_iadd hx hb dG_goingBelow_2 ?_
  refine lv_topi (fun kv ekv => ?_)
  obtain rfl : kv = nI (i + 1) := by rw [ekv]; exact nI_add _ _
  refine lv_aload_n hx hb dG_goingBelow_3 rfl (lv_at hl 0 rfl) ?_
  refine va_get (D := (dC, dI)) (ci := 0) (v := .ref so) (C := R_G) (T := T_G) (N := 7) hx hb htw in_G hown hK hP 0 rfl rfl 0 (by decide) (htw _ m_114) (fun _ h9 => h9) rfl dG_goingBelow_4 ?_
  refine va_get (D := (dC, dI)) (ci := 3) (v := .int (nI ce)) (C := R_S) (T := T_S) (N := 11) hx hb htw in_S hown hK hP 2 rfl rfl 7 (by decide) (htw _ m_35) (fun _ h9 => h9) rfl dG_goingBelow_7 ?_
  refine lv_icmp_ge (tgt := 44) hx hb dG_goingBelow_10 (by decide) (fun hc10 => ?_) (fun hc10 => ?_)
  · -- 10 taken
    rw [nI_leI (by omega) (by omega)] at hc10
    refine lv_aload_n hx hb dG_goingBelow_44 rfl (lv_at hl 0 rfl) ?_
    refine va_get (D := (dC, dI)) (ci := 0) (v := .ref so) (C := R_G) (T := T_G) (N := 7) hx hb htw in_G hown hK hP 0 rfl rfl 0 (by decide) (htw _ m_114) (fun _ h9 => h9) rfl dG_goingBelow_45 ?_
    refine va_get (D := (dC, dI)) (ci := 3) (v := .int db) (C := R_S) (T := T_S) (N := 11) hx hb htw in_S hown hK hP 2 rfl rfl 9 (by decide) (htw _ m_40) (fun _ h9 => h9) rfl dG_goingBelow_48 ?_
    refine lv_if_eq (tgt := 78) hx hb dG_goingBelow_51 (by decide) (fun hc51 => ?_) (fun hc51 => ?_)
    · -- 51 taken
      have hret : (0 : Int64) = k_go lk ln ce db pr i := by unfold k_go; rw [if_neg (by omega), if_pos hc51]
      refine lv_lconst (v := 0) hx hb dG_goingBelow_78 (by decide) ?_
      have hP : va_P (dC, dI) vwCl [(g, .inr (0, [.ref so, .ref lo, .ref qpr, .ref qpa, .int (nI dy), .long co, .long wo])), (qpr, .inl (cJ, 30, .inr (.inl pr))), (so, .inr (3, [.ref qlk, .ref qln, .ref qhd, .ref qsf, .ref qfp, .ref qfc, .int (nI ly), .int (nI ce), .int da, .int db, .int dr])), (qlk, .inl (cI, 30, .inl lk)), (qln, .inl (cI, 30, .inl ln))] s.heap := by first | exact hP | simpa only [] using hP
      have hD : va_D A [(g, .inr (0, [.ref so, .ref lo, .ref qpr, .ref qpa, .int (nI dy), .long co, .long wo])), (qpr, .inl (cJ, 30, .inr (.inl pr))), (so, .inr (3, [.ref qlk, .ref qln, .ref qhd, .ref qsf, .ref qfp, .ref qfc, .int (nI ly), .int (nI ce), .int da, .int db, .int dr])), (qlk, .inl (cI, 30, .inl lk)), (qln, .inl (cI, 30, .inl ln))] := by first | exact hD | simpa only [] using hD
      exact W.lret (v := 0) hx hb hr (fun t ht hW => ⟨⟨0, (), rfl, hret, by rw [ht]; exact hP, va_K.moved hW.alike hK, hD⟩, hS.F ht⟩) hS.2.2 dG_goingBelow_79
    · -- 51 not taken
      have hret : pr i * (lk i).toInt64 / 1000 = k_go lk ln ce db pr i := by unfold k_go; rw [if_neg (by omega), if_neg hc51]
      refine lv_aload_n hx hb dG_goingBelow_54 rfl (lv_at hl 0 rfl) ?_
      refine va_get (D := (dC, dI)) (ci := 0) (v := .ref qpr) (C := R_G) (T := T_G) (N := 7) hx hb htw in_G hown hK hP 0 rfl rfl 2 (by decide) (htw _ m_116) (fun _ h9 => h9) rfl dG_goingBelow_55 ?_
      refine lv_iload_n hx hb dG_goingBelow_58 rfl (lv_at hl 1 rfl) ?_
      refine xa_lald hx hb hK hP 1 1 rfl rfl (i := i) (by omega) (by decide) dG_goingBelow_59 ?_
      refine lv_aload_n hx hb dG_goingBelow_60 rfl (lv_at hl 0 rfl) ?_
      refine va_get (D := (dC, dI)) (ci := 0) (v := .ref so) (C := R_G) (T := T_G) (N := 7) hx hb htw in_G hown hK hP 0 rfl rfl 0 (by decide) (htw _ m_114) (fun _ h9 => h9) rfl dG_goingBelow_61 ?_
      refine va_get (D := (dC, dI)) (ci := 3) (v := .ref qlk) (C := R_S) (T := T_S) (N := 11) hx hb htw in_S hown hK hP 2 rfl rfl 0 (by decide) (htw _ m_23) (fun _ h9 => h9) rfl dG_goingBelow_64 ?_
      refine lv_iload_n hx hb dG_goingBelow_67 rfl (lv_at hl 1 rfl) ?_
      refine xa_iald hx hb hK hP 3 0 rfl rfl (i := i) (by omega) (by decide) dG_goingBelow_68 ?_
      refine lv_i2l (v := (lk i).toInt64) hx hb dG_goingBelow_69 rfl ?_
      refine lv_lmul hx hb dG_goingBelow_70 ?_
      refine lv_ldc2 (v := 1000) hx hb hown (htw _ m_216) dG_goingBelow_71 ?_
      refine lv_ldiv hx hb dG_goingBelow_74 (by decide) ?_
      refine lv_goto (tgt := 79) hx hb dG_goingBelow_75 (by decide) ?_
      have hP : va_P (dC, dI) vwCl [(g, .inr (0, [.ref so, .ref lo, .ref qpr, .ref qpa, .int (nI dy), .long co, .long wo])), (qpr, .inl (cJ, 30, .inr (.inl pr))), (so, .inr (3, [.ref qlk, .ref qln, .ref qhd, .ref qsf, .ref qfp, .ref qfc, .int (nI ly), .int (nI ce), .int da, .int db, .int dr])), (qlk, .inl (cI, 30, .inl lk)), (qln, .inl (cI, 30, .inl ln))] s.heap := by first | exact hP | simpa only [] using hP
      have hD : va_D A [(g, .inr (0, [.ref so, .ref lo, .ref qpr, .ref qpa, .int (nI dy), .long co, .long wo])), (qpr, .inl (cJ, 30, .inr (.inl pr))), (so, .inr (3, [.ref qlk, .ref qln, .ref qhd, .ref qsf, .ref qfp, .ref qfc, .int (nI ly), .int (nI ce), .int da, .int db, .int dr])), (qlk, .inl (cI, 30, .inl lk)), (qln, .inl (cI, 30, .inl ln))] := by first | exact hD | simpa only [] using hD
      exact W.lret (v := ((pr i) * ((lk i).toInt64)) / 1000) hx hb hr (fun t ht hW => ⟨⟨((pr i) * ((lk i).toInt64)) / 1000, (), rfl, hret, by rw [ht]; exact hP, va_K.moved hW.alike hK, hD⟩, hS.F ht⟩) hS.2.2 dG_goingBelow_79
  · -- 10 not taken
    rw [nI_leI (by omega) (by omega)] at hc10
    have hret : (pr i - pr (i + 1)) * (ln i).toInt64 / 1000 = k_go lk ln ce db pr i := (if_pos (by omega)).symm
    refine lv_aload_n hx hb dG_goingBelow_13 rfl (lv_at hl 0 rfl) ?_
    refine va_get (D := (dC, dI)) (ci := 0) (v := .ref qpr) (C := R_G) (T := T_G) (N := 7) hx hb htw in_G hown hK hP 0 rfl rfl 2 (by decide) (htw _ m_116) (fun _ h9 => h9) rfl dG_goingBelow_14 ?_
    refine lv_iload_n hx hb dG_goingBelow_17 rfl (lv_at hl 1 rfl) ?_
    refine xa_lald hx hb hK hP 1 1 rfl rfl (i := i) (by omega) (by decide) dG_goingBelow_18 ?_
    refine lv_aload_n hx hb dG_goingBelow_19 rfl (lv_at hl 0 rfl) ?_
    refine va_get (D := (dC, dI)) (ci := 0) (v := .ref qpr) (C := R_G) (T := T_G) (N := 7) hx hb htw in_G hown hK hP 0 rfl rfl 2 (by decide) (htw _ m_116) (fun _ h9 => h9) rfl dG_goingBelow_20 ?_
    refine lv_iload_n hx hb dG_goingBelow_23 rfl (lv_at hl 1 rfl) ?_
    refine lv_iconst (v := nI 1) hx hb dG_goingBelow_24 (by decide) ?_
    refine lv_iadd hx hb dG_goingBelow_25 ?_
    refine lv_topi (fun kv ekv => ?_)
    obtain rfl : kv = nI (i + 1) := by rw [ekv]; exact nI_add _ _
    refine xa_lald hx hb hK hP 1 1 rfl rfl (i := (i + 1)) (by omega) (by decide) dG_goingBelow_26 ?_
    refine lv_lsub hx hb dG_goingBelow_27 ?_
    refine lv_aload_n hx hb dG_goingBelow_28 rfl (lv_at hl 0 rfl) ?_
    refine va_get (D := (dC, dI)) (ci := 0) (v := .ref so) (C := R_G) (T := T_G) (N := 7) hx hb htw in_G hown hK hP 0 rfl rfl 0 (by decide) (htw _ m_114) (fun _ h9 => h9) rfl dG_goingBelow_29 ?_
    refine va_get (D := (dC, dI)) (ci := 3) (v := .ref qln) (C := R_S) (T := T_S) (N := 11) hx hb htw in_S hown hK hP 2 rfl rfl 1 (by decide) (htw _ m_25) (fun _ h9 => h9) rfl dG_goingBelow_32 ?_
    refine lv_iload_n hx hb dG_goingBelow_35 rfl (lv_at hl 1 rfl) ?_
    refine xa_iald hx hb hK hP 4 0 rfl rfl (i := i) (by omega) (by decide) dG_goingBelow_36 ?_
    refine lv_i2l (v := (ln i).toInt64) hx hb dG_goingBelow_37 rfl ?_
    refine lv_lmul hx hb dG_goingBelow_38 ?_
    refine lv_ldc2 (v := 1000) hx hb hown (htw _ m_216) dG_goingBelow_39 ?_
    refine lv_ldiv hx hb dG_goingBelow_42 (by decide) ?_
    have hP : va_P (dC, dI) vwCl [(g, .inr (0, [.ref so, .ref lo, .ref qpr, .ref qpa, .int (nI dy), .long co, .long wo])), (qpr, .inl (cJ, 30, .inr (.inl pr))), (so, .inr (3, [.ref qlk, .ref qln, .ref qhd, .ref qsf, .ref qfp, .ref qfc, .int (nI ly), .int (nI ce), .int da, .int db, .int dr])), (qlk, .inl (cI, 30, .inl lk)), (qln, .inl (cI, 30, .inl ln))] s.heap := by first | exact hP | simpa only [] using hP
    have hD : va_D A [(g, .inr (0, [.ref so, .ref lo, .ref qpr, .ref qpa, .int (nI dy), .long co, .long wo])), (qpr, .inl (cJ, 30, .inr (.inl pr))), (so, .inr (3, [.ref qlk, .ref qln, .ref qhd, .ref qsf, .ref qfp, .ref qfc, .int (nI ly), .int (nI ce), .int da, .int db, .int dr])), (qlk, .inl (cI, 30, .inl lk)), (qln, .inl (cI, 30, .inl ln))] := by first | exact hD | simpa only [] using hD
    exact W.lret (v := (((pr i) - (pr (i + 1))) * ((ln i).toInt64)) / 1000) hx hb hr (fun t ht hW => ⟨⟨(((pr i) - (pr (i + 1))) * ((ln i).toInt64)) / 1000, (), rfl, hret, by rw [ht]; exact hP, va_K.moved hW.alike hK, hD⟩, hS.F ht⟩) hS.2.2 dG_goingBelow_43
set_option maxHeartbeats 4000000 in
set_option maxRecDepth 100000 in
theorem kG_moveWater (l : Launch) (dC : Nat → ClassId) (dI : Nat → Nat → Nat) (cI cJ : ClassId) (g so lo qpr qpa qlk qln qhd qsf qfp qfc : Nat) (sz : Nat) (dy : Nat) (co : Int64) (wo : Int64) (pr : Nat → Int64) (ly : Nat) (ce : Nat) (da : Int32) (db : Int32) (dr : Int32) (lk : Nat → Int32) (ln : Nat → Int32) (hce : ce ≤ 30) : Met l yG_moveWater wG_moveWater ({ frames := 1, cells := 0, slots := 0, locals := 21 }) (va_Pc [.ref g] (fun U => U.heap.size = sz ∧ va_P (dC, dI) vwCl [(g, .inr (0, [.ref so, .ref lo, .ref qpr, .ref qpa, .int (nI dy), .long co, .long wo])), (qpr, .inl (cJ, 30, .inr (.inl pr))), (so, .inr (3, [.ref qlk, .ref qln, .ref qhd, .ref qsf, .ref qfp, .ref qfc, .int (nI ly), .int (nI ce), .int da, .int db, .int dr])), (qlk, .inl (cI, 30, .inl lk)), (qln, .inl (cI, 30, .inl ln))] U.heap ∧ va_K (dC, dI) vwCl [(cI, .int), (cJ, .long)] U ∧ va_D (fun _ => True) [(g, .inr (0, [.ref so, .ref lo, .ref qpr, .ref qpa, .int (nI dy), .long co, .long wo])), (qpr, .inl (cJ, 30, .inr (.inl pr))), (so, .inr (3, [.ref qlk, .ref qln, .ref qhd, .ref qsf, .ref qfp, .ref qfc, .int (nI ly), .int (nI ce), .int da, .int db, .int dr])), (qlk, .inl (cI, 30, .inl lk)), (qln, .inl (cI, 30, .inl ln))])) (va_Qi (fun res_ (_ : Unit) => res_ = kb (k_mv lk ln ce da db dr pr ce = true)) (fun _ t => va_P (dC, dI) vwCl [(g, .inr (0, [.ref so, .ref lo, .ref qpr, .ref qpa, .int (nI dy), .long co, .long (k_ow lk ln ce da db dr pr wo ce + k_fl lk ln ce da db pr ce)])), (qpr, .inl (cJ, 30, .inr (.inl (k_np lk ln ce da db dr pr ce)))), (so, .inr (3, [.ref qlk, .ref qln, .ref qhd, .ref qsf, .ref qfp, .ref qfc, .int (nI ly), .int (nI ce), .int da, .int db, .int dr])), (qlk, .inl (cI, 30, .inl lk)), (qln, .inl (cI, 30, .inl ln))] t.heap ∧ va_K (dC, dI) vwCl [(cI, .int), (cJ, .long)] t ∧ va_D (va_A [(g, .inr (0, [.ref so, .ref lo, .ref qpr, .ref qpa, .int (nI dy), .long co, .long wo])), (qpr, .inl (cJ, 30, .inr (.inl pr))), (so, .inr (3, [.ref qlk, .ref qln, .ref qhd, .ref qsf, .ref qfp, .ref qfc, .int (nI ly), .int (nI ce), .int da, .int db, .int dr])), (qlk, .inl (cI, 30, .inl lk)), (qln, .inl (cI, 30, .inl ln))] sz) [(g, .inr (0, [.ref so, .ref lo, .ref qpr, .ref qpa, .int (nI dy), .long co, .long (k_ow lk ln ce da db dr pr wo ce + k_fl lk ln ce da db pr ce)])), (qpr, .inl (cJ, 30, .inr (.inl (k_np lk ln ce da db dr pr ce)))), (so, .inr (3, [.ref qlk, .ref qln, .ref qhd, .ref qsf, .ref qfp, .ref qfc, .int (nI ly), .int (nI ce), .int da, .int db, .int dr])), (qlk, .inl (cI, 30, .inl lk)), (qln, .inl (cI, 30, .inl ln))]) (va_A [(g, .inr (0, [.ref so, .ref lo, .ref qpr, .ref qpa, .int (nI dy), .long co, .long wo])), (qpr, .inl (cJ, 30, .inr (.inl pr))), (so, .inr (3, [.ref qlk, .ref qln, .ref qhd, .ref qsf, .ref qfp, .ref qfc, .int (nI ly), .int (nI ce), .int da, .int db, .int dr])), (qlk, .inl (cI, 30, .inl lk)), (qln, .inl (cI, 30, .inl ln))] sz)) 0 0 (va_A [(g, .inr (0, [.ref so, .ref lo, .ref qpr, .ref qpa, .int (nI dy), .long co, .long wo])), (qpr, .inl (cJ, 30, .inr (.inl pr))), (so, .inr (3, [.ref qlk, .ref qln, .ref qhd, .ref qsf, .ref qfp, .ref qfc, .int (nI ly), .int (nI ce), .int da, .int db, .int dr])), (qlk, .inl (cI, 30, .inl lk)), (qln, .inl (cI, 30, .inl ln))] sz) := by
  refine Met.ofW (cc := bG_moveWater) (maxL := 9) (ret := (some .boolean)) (by decide) rfl ?_
  intro p e s m args below meth c s₁ B hml hv
  obtain ⟨rfl, hsz, hP, hK, hD0⟩ := hv
  have hx := B.exec
  have hb := B.bytes
  have hr := B.returns
  have hts := atoms_spec (ws := wG_moveWater) B.pre
  have hown : s.vm.findClass R_G = some m.cls := findClass_of_methodNamed B.named
  have htw : ∀ w ∈ WA, w.before _ s = true := fun w h => hts w (List.mem_cons_of_mem _ h)
  clear hts
  have hlocks := B.notSynchronized
  subst hsz
  have hD := hD0.self (sz := s.heap.size)
  generalize hAe : va_A [(g, .inr (0, [.ref so, .ref lo, .ref qpr, .ref qpa, .int (nI dy), .long co, .long wo])), (qpr, .inl (cJ, 30, .inr (.inl pr))), (so, .inr (3, [.ref qlk, .ref qln, .ref qhd, .ref qsf, .ref qfp, .ref qfc, .int (nI ly), .int (nI ce), .int da, .int db, .int dr])), (qlk, .inl (cI, 30, .inl lk)), (qln, .inl (cI, 30, .inl ln))] s.heap.size = A at hD ⊢
  have hA : ∀ q : Nat, s.heap.size ≤ q → A q := fun q h => by rw [← hAe]; exact Or.inr h
  clear hAe hD0
  have hS : va_S A s.heap s.heap [] := va_S.rf
  have hP : va_P (dC, dI) vwCl [(g, .inr (0, [.ref so, .ref lo, .ref qpr, .ref qpa, .int (nI dy), .long co, .long wo])), (qpr, .inl (cJ, 30, .inr (.inl pr))), (so, .inr (3, [.ref qlk, .ref qln, .ref qhd, .ref qsf, .ref qfp, .ref qfc, .int (nI ly), .int (nI ce), .int da, .int db, .int dr])), (qlk, .inl (cI, 30, .inl lk)), (qln, .inl (cI, 30, .inl ln))] s.heap := hP
  have hl := lv_entry ([.ref g]) (n := 9) (Nat.le_of_ble_eq_true rfl)
  rw [lg_entry_eq]
  generalize (lg_sl ([.ref g]) ++ List.replicate (9 - (lg_sl ([.ref g])).length) Slot.unset).toArray = ls at hl ⊢
  have hl : lv_has ls 9 [(0, .ref g)] := hl
  refine lv_iconst (v := nI 0) hx hb dG_moveWater_0 (by decide) ?_
  refine lv_istore_n (lv' := [(1, .int (nI 0)), (0, .ref g)]) hx hb dG_moveWater_1 rfl hl (by decide) rfl (fun ls hl => ?_)
  refine lv_aload_n hx hb dG_moveWater_2 rfl (lv_at hl 1 rfl) ?_
  have hPc := hP.sub (ws' := [(g, .inr (0, [.ref so, .ref lo, .ref qpr, .ref qpa, .int (nI dy), .long co, .long wo])), (qpr, .inl (cJ, 30, .inr (.inl pr))), (so, .inr (3, [.ref qlk, .ref qln, .ref qhd, .ref qsf, .ref qfp, .ref qfc, .int (nI ly), .int (nI ce), .int da, .int db, .int dr])), (qlk, .inl (cI, 30, .inl lk))]) [0, 1, 2, 3] rfl
  have hDc := hD.sub (ws' := [(g, .inr (0, [.ref so, .ref lo, .ref qpr, .ref qpa, .int (nI dy), .long co, .long wo])), (qpr, .inl (cJ, 30, .inr (.inl pr))), (so, .inr (3, [.ref qlk, .ref qln, .ref qhd, .ref qsf, .ref qfp, .ref qfc, .int (nI ly), .int (nI ce), .int da, .int db, .int dr])), (qlk, .inl (cI, 30, .inl lk))]) [0, 1, 2, 3] (by decide) rfl
  have hFc := va_free (wc := [(g, .inr (0, [.ref so, .ref lo, .ref qpr, .ref qpa, .int (nI dy), .long co, .long wo])), (qpr, .inl (cJ, 30, .inr (.inl pr))), (so, .inr (3, [.ref qlk, .ref qln, .ref qhd, .ref qsf, .ref qfp, .ref qfc, .int (nI ly), .int (nI ce), .int da, .int db, .int dr])), (qlk, .inl (cI, 30, .inl lk))]) hD hS hA [0, 1, 2, 3] rfl
  refine va_calll (va_runV (As := []) (rest := []) ⟨hx, hb, hml, hown, htw⟩ (kG_leavingAbove l dC dI cI cJ g so lo qpr qpa qlk qln qhd qsf qfp qfc s.heap.size dy co wo pr ly ce da db dr lk) (cwV 0 htw (wv_good m_212 m_214 ms_1 m_5 m_215) rfl rfl rfl (by decide +kernel) ⟨Nat.le_of_ble_eq_true rfl, Nat.le_of_ble_eq_true rfl⟩) ⟨fun a U g mk q => by obtain ⟨q0, q1, qP, qK, qD⟩ := q; exact ⟨q0, q1, qP, va_K.moved (u := U) (U := U.calling g mk a) (Vm.Alike.refl U.vm) qK, qD⟩, va_recv hK hPc (ci := 0) (q0 := 0) rfl rfl, fun U hU hW => ⟨rfl, by rw [hU], by rw [hU]; exact hPc, va_K.moved hW.alike hK, hDc.weaken (fun _ _ _ _ => trivial)⟩⟩ rfl rfl hl.1 rfl (lv_room (Nat.le_of_ble_eq_true rfl)) dG_moveWater_3 ⟨Nat.le_of_ble_eq_true rfl, Nat.le_of_ble_eq_true rfl⟩) hS (fun q _ h => hFc q h) hFc (fun res_ u_ t H1 locs ht hvm hw hB hz1 hk1 hS => ?_)
  obtain ⟨hP1, hK1, hD1⟩ := hB
  rw [ht] at hP1
  obtain ⟨hP, hD⟩ := va_join (wr := [(qln, .inl (cI, 30, .inl ln))]) (w1 := [(g, .inr (0, [.ref so, .ref lo, .ref qpr, .ref qpa, .int (nI dy), .long co, .long wo])), (qpr, .inl (cJ, 30, .inr (.inl pr))), (so, .inr (3, [.ref qlk, .ref qln, .ref qhd, .ref qsf, .ref qfp, .ref qfc, .int (nI ly), .int (nI ce), .int da, .int db, .int dr])), (qlk, .inl (cI, 30, .inl lk))]) hP hD [0, 1, 2, 3] [4] rfl rfl (by decide) (by decide) hk1 hFc hP1 hD1
  generalize H1 = H at hP hS ⊢
  have hP := hP.sub (ws' := [(g, .inr (0, [.ref so, .ref lo, .ref qpr, .ref qpa, .int (nI dy), .long co, .long wo])), (qpr, .inl (cJ, 30, .inr (.inl pr))), (so, .inr (3, [.ref qlk, .ref qln, .ref qhd, .ref qsf, .ref qfp, .ref qfc, .int (nI ly), .int (nI ce), .int da, .int db, .int dr])), (qlk, .inl (cI, 30, .inl lk)), (qln, .inl (cI, 30, .inl ln))]) [1, 2, 3, 4, 0] rfl
  have hD := hD.sub (ws' := [(g, .inr (0, [.ref so, .ref lo, .ref qpr, .ref qpa, .int (nI dy), .long co, .long wo])), (qpr, .inl (cJ, 30, .inr (.inl pr))), (so, .inr (3, [.ref qlk, .ref qln, .ref qhd, .ref qsf, .ref qfp, .ref qfc, .int (nI ly), .int (nI ce), .int da, .int db, .int dr])), (qlk, .inl (cI, 30, .inl lk)), (qln, .inl (cI, 30, .inl ln))]) [1, 2, 3, 4, 0] (by decide) rfl
  clear hPc hDc hFc hP1 hD1 hK1 hk1 hz1 hvm ht
  obtain rfl : res_ = k_up lk da pr := hw
  refine lv_lneg hx hb dG_moveWater_6 ?_
  refine lv_lstore_n (lv' := [(2, .long (-(k_up lk da pr))), (1, .int (nI 0)), (0, .ref g)]) hx hb dG_moveWater_7 rfl hl (by decide) rfl (fun ls hl => ?_)
  refine lv_aload_n hx hb dG_moveWater_8 rfl (lv_at hl 2 rfl) ?_
  refine lv_dup hx hb dG_moveWater_9 rfl ?_
  refine va_get (D := (dC, dI)) (ci := 0) (v := .long wo) (C := R_G) (T := T_G) (N := 7) hx hb htw in_G hown hK hP 0 rfl rfl 6 (by decide) (htw _ m_124) (fun _ h9 => h9) rfl dG_moveWater_10 ?_
  refine lv_lload_n hx hb dG_moveWater_13 rfl (lv_at hl 0 rfl) ?_
  refine lv_lsub hx hb dG_moveWater_14 ?_
  refine va_put (D := (dC, dI)) (ci := 0) (v := .long (wo - (-(k_up lk da pr)))) (ty := .long) (C := R_G) (T := T_G) (N := 7) hx hb htw in_G ty_G tok_G nnm_G hown hK hP hD hS 0 rfl rfl 6 (by decide) (htw _ m_124) (fun _ h9 => h9) rfl (by decide +kernel) rfl rfl (Nat.le_of_ble_eq_true rfl) dG_moveWater_15 (fun H locs hP hD hS => ?_)
  have hP : va_P (dC, dI) vwCl [(g, .inr (0, [.ref so, .ref lo, .ref qpr, .ref qpa, .int (nI dy), .long co, .long (wo - (-(k_up lk da pr)))])), (qpr, .inl (cJ, 30, .inr (.inl pr))), (so, .inr (3, [.ref qlk, .ref qln, .ref qhd, .ref qsf, .ref qfp, .ref qfc, .int (nI ly), .int (nI ce), .int da, .int db, .int dr])), (qlk, .inl (cI, 30, .inl lk)), (qln, .inl (cI, 30, .inl ln))] H := hP
  have hD : va_D A [(g, .inr (0, [.ref so, .ref lo, .ref qpr, .ref qpa, .int (nI dy), .long co, .long (wo - (-(k_up lk da pr)))])), (qpr, .inl (cJ, 30, .inr (.inl pr))), (so, .inr (3, [.ref qlk, .ref qln, .ref qhd, .ref qsf, .ref qfp, .ref qfc, .int (nI ly), .int (nI ce), .int da, .int db, .int dr])), (qlk, .inl (cI, 30, .inl lk)), (qln, .inl (cI, 30, .inl ln))] := hD
  refine lv_iconst (v := nI 0) hx hb dG_moveWater_18 (by decide) ?_
  refine lv_istore (lv' := [(4, .int (nI 0)), (2, .long (-(k_up lk da pr))), (1, .int (nI 0)), (0, .ref g)]) hx hb dG_moveWater_19 hl (by decide) rfl (fun ls hl => ?_)
  -- the loop at 21
  have eq1 : (wo - (-(k_up lk da pr)) : Int64) = k_ow lk ln ce da db dr pr wo 0 := (by show _ = wo - -(k_up lk da pr) + 0; rw [Int64.add_zero])
  rw [eq1] at hP hD
  have eq2 : (pr : Nat → Int64) = k_np lk ln ce da db dr pr 0 := k_np_0
  rw [eq2] at hP hD
  have hP : va_P (dC, dI) vwCl [(g, .inr (0, [.ref so, .ref lo, .ref qpr, .ref qpa, .int (nI dy), .long co, .long (k_ow lk ln ce da db dr pr wo 0)])), (qpr, .inl (cJ, 30, .inr (.inl (k_np lk ln ce da db dr pr 0)))), (so, .inr (3, [.ref qlk, .ref qln, .ref qhd, .ref qsf, .ref qfp, .ref qfc, .int (nI ly), .int (nI ce), .int da, .int db, .int dr])), (qlk, .inl (cI, 30, .inl lk)), (qln, .inl (cI, 30, .inl ln))] H := by first | exact hP | simpa only [] using hP
  have hD : va_D A [(g, .inr (0, [.ref so, .ref lo, .ref qpr, .ref qpa, .int (nI dy), .long co, .long (k_ow lk ln ce da db dr pr wo 0)])), (qpr, .inl (cJ, 30, .inr (.inl (k_np lk ln ce da db dr pr 0)))), (so, .inr (3, [.ref qlk, .ref qln, .ref qhd, .ref qsf, .ref qfp, .ref qfc, .int (nI ly), .int (nI ce), .int da, .int db, .int dr])), (qlk, .inl (cI, 30, .inl lk)), (qln, .inl (cI, 30, .inl ln))] := by first | exact hD | simpa only [] using hD
  have eq3 : (nI 0) = kb (k_mv lk ln ce da db dr pr 0 = true) := kb_f (fun h => Bool.false_ne_true h)
  rw [eq3] at hl
  refine x_loop (N := ce) (I := fun i H locs ls => va_P (dC, dI) vwCl [(g, .inr (0, [.ref so, .ref lo, .ref qpr, .ref qpa, .int (nI dy), .long co, .long (k_ow lk ln ce da db dr pr wo i)])), (qpr, .inl (cJ, 30, .inr (.inl (k_np lk ln ce da db dr pr i)))), (so, .inr (3, [.ref qlk, .ref qln, .ref qhd, .ref qsf, .ref qfp, .ref qfc, .int (nI ly), .int (nI ce), .int da, .int db, .int dr])), (qlk, .inl (cI, 30, .inl lk)), (qln, .inl (cI, 30, .inl ln))] H ∧ va_D A [(g, .inr (0, [.ref so, .ref lo, .ref qpr, .ref qpa, .int (nI dy), .long co, .long (k_ow lk ln ce da db dr pr wo i)])), (qpr, .inl (cJ, 30, .inr (.inl (k_np lk ln ce da db dr pr i)))), (so, .inr (3, [.ref qlk, .ref qln, .ref qhd, .ref qsf, .ref qfp, .ref qfc, .int (nI ly), .int (nI ce), .int da, .int db, .int dr])), (qlk, .inl (cI, 30, .inl lk)), (qln, .inl (cI, 30, .inl ln))] ∧ va_S A s.heap H locs ∧ lv_has ls 9 [(0, .ref g), (1, .int (kb (k_mv lk ln ce da db dr pr i = true))), (2, .long (k_fl lk ln ce da db pr i)), (4, .int (nI i))]) (i0 := 0) ?_ (Nat.zero_le _) ⟨hP, hD, hS, lv_sub hl [3, 2, 1, 0] rfl⟩
  intro i hi ih21 H locs ls hI
  obtain ⟨hP, hD, hS, hl⟩ := hI
  refine lv_iload hx hb dG_moveWater_21 (lv_at hl 3 rfl) ?_
  refine lv_aload_n hx hb dG_moveWater_23 rfl (lv_at hl 0 rfl) ?_
  refine va_get (D := (dC, dI)) (ci := 0) (v := .ref so) (C := R_G) (T := T_G) (N := 7) hx hb htw in_G hown hK hP 0 rfl rfl 0 (by decide) (htw _ m_114) (fun _ h9 => h9) rfl dG_moveWater_24 ?_
  refine va_get (D := (dC, dI)) (ci := 3) (v := .int (nI ce)) (C := R_S) (T := T_S) (N := 11) hx hb htw in_S hown hK hP 2 rfl rfl 7 (by decide) (htw _ m_35) (fun _ h9 => h9) rfl dG_moveWater_27 ?_
  refine lv_icmp_ge (tgt := 130) hx hb dG_moveWater_30 (by decide) (fun hc30 => ?_) (fun hc30 => ?_)
  · -- 30 taken
    rw [nI_leI (by omega) (by omega)] at hc30
    obtain rfl : ce = i := by omega
    refine lv_aload_n hx hb dG_moveWater_130 rfl (lv_at hl 0 rfl) ?_
    refine lv_dup hx hb dG_moveWater_131 rfl ?_
    refine va_get (D := (dC, dI)) (ci := 0) (v := .long (k_ow lk ln ce da db dr pr wo ce)) (C := R_G) (T := T_G) (N := 7) hx hb htw in_G hown hK hP 0 rfl rfl 6 (by decide) (htw _ m_124) (fun _ h9 => h9) rfl dG_moveWater_132 ?_
    refine lv_lload_n hx hb dG_moveWater_135 rfl (lv_at hl 2 rfl) ?_
    refine lv_ladd hx hb dG_moveWater_136 ?_
    refine va_put (D := (dC, dI)) (ci := 0) (v := .long ((k_ow lk ln ce da db dr pr wo ce) + (k_fl lk ln ce da db pr ce))) (ty := .long) (C := R_G) (T := T_G) (N := 7) hx hb htw in_G ty_G tok_G nnm_G hown hK hP hD hS 0 rfl rfl 6 (by decide) (htw _ m_124) (fun _ h9 => h9) rfl (by decide +kernel) rfl rfl (Nat.le_of_ble_eq_true rfl) dG_moveWater_137 (fun H locs hP hD hS => ?_)
    have hP : va_P (dC, dI) vwCl [(g, .inr (0, [.ref so, .ref lo, .ref qpr, .ref qpa, .int (nI dy), .long co, .long ((k_ow lk ln ce da db dr pr wo ce) + (k_fl lk ln ce da db pr ce))])), (qpr, .inl (cJ, 30, .inr (.inl (k_np lk ln ce da db dr pr ce)))), (so, .inr (3, [.ref qlk, .ref qln, .ref qhd, .ref qsf, .ref qfp, .ref qfc, .int (nI ly), .int (nI ce), .int da, .int db, .int dr])), (qlk, .inl (cI, 30, .inl lk)), (qln, .inl (cI, 30, .inl ln))] H := hP
    have hD : va_D A [(g, .inr (0, [.ref so, .ref lo, .ref qpr, .ref qpa, .int (nI dy), .long co, .long ((k_ow lk ln ce da db dr pr wo ce) + (k_fl lk ln ce da db pr ce))])), (qpr, .inl (cJ, 30, .inr (.inl (k_np lk ln ce da db dr pr ce)))), (so, .inr (3, [.ref qlk, .ref qln, .ref qhd, .ref qsf, .ref qfp, .ref qfc, .int (nI ly), .int (nI ce), .int da, .int db, .int dr])), (qlk, .inl (cI, 30, .inl lk)), (qln, .inl (cI, 30, .inl ln))] := hD
    refine lv_iload_n hx hb dG_moveWater_140 rfl (lv_at hl 1 rfl) ?_
    have hP : va_P (dC, dI) vwCl [(g, .inr (0, [.ref so, .ref lo, .ref qpr, .ref qpa, .int (nI dy), .long co, .long (k_ow lk ln ce da db dr pr wo ce + k_fl lk ln ce da db pr ce)])), (qpr, .inl (cJ, 30, .inr (.inl (k_np lk ln ce da db dr pr ce)))), (so, .inr (3, [.ref qlk, .ref qln, .ref qhd, .ref qsf, .ref qfp, .ref qfc, .int (nI ly), .int (nI ce), .int da, .int db, .int dr])), (qlk, .inl (cI, 30, .inl lk)), (qln, .inl (cI, 30, .inl ln))] H := by first | exact hP | simpa only [] using hP
    have hD : va_D A [(g, .inr (0, [.ref so, .ref lo, .ref qpr, .ref qpa, .int (nI dy), .long co, .long (k_ow lk ln ce da db dr pr wo ce + k_fl lk ln ce da db pr ce)])), (qpr, .inl (cJ, 30, .inr (.inl (k_np lk ln ce da db dr pr ce)))), (so, .inr (3, [.ref qlk, .ref qln, .ref qhd, .ref qsf, .ref qfp, .ref qfc, .int (nI ly), .int (nI ce), .int da, .int db, .int dr])), (qlk, .inl (cI, 30, .inl lk)), (qln, .inl (cI, 30, .inl ln))] := by first | exact hD | simpa only [] using hD
    exact W.zret (v := kb (k_mv lk ln ce da db dr pr ce = true)) hx hb hr kb_nar (fun t ht hW => ⟨⟨kb (k_mv lk ln ce da db dr pr ce = true), (), rfl, rfl, by rw [ht]; exact hP, va_K.moved hW.alike hK, hD⟩, hS.F ht⟩) hS.2.2 dG_moveWater_141
  · -- 30 not taken
    rw [nI_leI (by omega) (by omega)] at hc30
    refine lv_aload_n hx hb dG_moveWater_33 rfl (lv_at hl 0 rfl) ?_
    refine lv_iload hx hb dG_moveWater_34 (lv_at hl 3 rfl) ?_
    have hPc := hP.sub (ws' := [(g, .inr (0, [.ref so, .ref lo, .ref qpr, .ref qpa, .int (nI dy), .long co, .long (k_ow lk ln ce da db dr pr wo i)])), (qpr, .inl (cJ, 30, .inr (.inl (k_np lk ln ce da db dr pr i)))), (so, .inr (3, [.ref qlk, .ref qln, .ref qhd, .ref qsf, .ref qfp, .ref qfc, .int (nI ly), .int (nI ce), .int da, .int db, .int dr])), (qlk, .inl (cI, 30, .inl lk)), (qln, .inl (cI, 30, .inl ln))]) [0, 1, 2, 3, 4] rfl
    have hDc := hD.sub (ws' := [(g, .inr (0, [.ref so, .ref lo, .ref qpr, .ref qpa, .int (nI dy), .long co, .long (k_ow lk ln ce da db dr pr wo i)])), (qpr, .inl (cJ, 30, .inr (.inl (k_np lk ln ce da db dr pr i)))), (so, .inr (3, [.ref qlk, .ref qln, .ref qhd, .ref qsf, .ref qfp, .ref qfc, .int (nI ly), .int (nI ce), .int da, .int db, .int dr])), (qlk, .inl (cI, 30, .inl lk)), (qln, .inl (cI, 30, .inl ln))]) [0, 1, 2, 3, 4] (by decide) rfl
    have hFc := va_free (wc := [(g, .inr (0, [.ref so, .ref lo, .ref qpr, .ref qpa, .int (nI dy), .long co, .long (k_ow lk ln ce da db dr pr wo i)])), (qpr, .inl (cJ, 30, .inr (.inl (k_np lk ln ce da db dr pr i)))), (so, .inr (3, [.ref qlk, .ref qln, .ref qhd, .ref qsf, .ref qfp, .ref qfc, .int (nI ly), .int (nI ce), .int da, .int db, .int dr])), (qlk, .inl (cI, 30, .inl lk)), (qln, .inl (cI, 30, .inl ln))]) hD hS hA [0, 1, 2, 3, 4] rfl
    refine va_calll (va_runV (As := [.int (nI i)]) (rest := []) ⟨hx, hb, hml, hown, htw⟩ (kG_goingBelow l dC dI cI cJ g so lo qpr qpa qlk qln qhd qsf qfp qfc H.size i dy co (k_ow lk ln ce da db dr pr wo i) (k_np lk ln ce da db dr pr i) ly ce da db dr lk ln (by first | assumption | omega | decide) (by first | assumption | omega | decide)) (cwV 1 htw (wv_good m_217 m_219 ms_2 m_5 m_220) rfl rfl rfl (by decide +kernel) ⟨Nat.le_of_ble_eq_true rfl, Nat.le_of_ble_eq_true rfl⟩) ⟨fun a U g mk q => by obtain ⟨q0, q1, qP, qK, qD⟩ := q; exact ⟨q0, q1, qP, va_K.moved (u := U) (U := U.calling g mk a) (Vm.Alike.refl U.vm) qK, qD⟩, va_recv hK hPc (ci := 0) (q0 := 0) rfl rfl, fun U hU hW => ⟨rfl, by rw [hU], by rw [hU]; exact hPc, va_K.moved hW.alike hK, hDc.weaken (fun _ _ _ _ => trivial)⟩⟩ rfl rfl hl.1 rfl (lv_room (Nat.le_of_ble_eq_true rfl)) dG_moveWater_36 ⟨Nat.le_of_ble_eq_true rfl, Nat.le_of_ble_eq_true rfl⟩) hS (fun q _ h => hFc q h) hFc (fun res_ u_ t H1 locs ht hvm hw hB hz1 hk1 hS => ?_)
    obtain ⟨hP1, hK1, hD1⟩ := hB
    rw [ht] at hP1
    obtain ⟨hP, hD⟩ := va_join (wr := []) (w1 := [(g, .inr (0, [.ref so, .ref lo, .ref qpr, .ref qpa, .int (nI dy), .long co, .long (k_ow lk ln ce da db dr pr wo i)])), (qpr, .inl (cJ, 30, .inr (.inl (k_np lk ln ce da db dr pr i)))), (so, .inr (3, [.ref qlk, .ref qln, .ref qhd, .ref qsf, .ref qfp, .ref qfc, .int (nI ly), .int (nI ce), .int da, .int db, .int dr])), (qlk, .inl (cI, 30, .inl lk)), (qln, .inl (cI, 30, .inl ln))]) hP hD [0, 1, 2, 3, 4] [] rfl rfl (by decide) (by decide) hk1 hFc hP1 hD1
    generalize H1 = H at hP hS ⊢
    have hP : va_P (dC, dI) vwCl [(g, .inr (0, [.ref so, .ref lo, .ref qpr, .ref qpa, .int (nI dy), .long co, .long (k_ow lk ln ce da db dr pr wo i)])), (qpr, .inl (cJ, 30, .inr (.inl (k_np lk ln ce da db dr pr i)))), (so, .inr (3, [.ref qlk, .ref qln, .ref qhd, .ref qsf, .ref qfp, .ref qfc, .int (nI ly), .int (nI ce), .int da, .int db, .int dr])), (qlk, .inl (cI, 30, .inl lk)), (qln, .inl (cI, 30, .inl ln))] H := hP
    have hD : va_D A [(g, .inr (0, [.ref so, .ref lo, .ref qpr, .ref qpa, .int (nI dy), .long co, .long (k_ow lk ln ce da db dr pr wo i)])), (qpr, .inl (cJ, 30, .inr (.inl (k_np lk ln ce da db dr pr i)))), (so, .inr (3, [.ref qlk, .ref qln, .ref qhd, .ref qsf, .ref qfp, .ref qfc, .int (nI ly), .int (nI ce), .int da, .int db, .int dr])), (qlk, .inl (cI, 30, .inl lk)), (qln, .inl (cI, 30, .inl ln))] := hD
    clear hPc hDc hFc hP1 hD1 hK1 hk1 hz1 hvm ht
    obtain rfl : res_ = k_go lk ln ce db (k_np lk ln ce da db dr pr i) i := hw
    refine lv_topl (fun kv ekv => ?_)
    obtain rfl : kv = k_fl lk ln ce da db pr (i + 1) := ekv.trans (k_go_np)
    refine lv_lstore (lv' := [(5, .long (k_fl lk ln ce da db pr (i + 1))), (0, .ref g), (1, .int (kb (k_mv lk ln ce da db dr pr i = true))), (2, .long (k_fl lk ln ce da db pr i)), (4, .int (nI i))]) hx hb dG_moveWater_39 hl (by decide) rfl (fun ls hl => ?_)
    refine lv_aload_n hx hb dG_moveWater_41 rfl (lv_at hl 1 rfl) ?_
    refine va_get (D := (dC, dI)) (ci := 0) (v := .ref qpr) (C := R_G) (T := T_G) (N := 7) hx hb htw in_G hown hK hP 0 rfl rfl 2 (by decide) (htw _ m_116) (fun _ h9 => h9) rfl dG_moveWater_42 ?_
    refine lv_iload hx hb dG_moveWater_45 (lv_at hl 4 rfl) ?_
    refine xa_lald hx hb hK hP 1 1 rfl rfl (i := i) (by omega) (by decide) dG_moveWater_47 ?_
    refine lv_aload_n hx hb dG_moveWater_48 rfl (lv_at hl 1 rfl) ?_
    refine va_get (D := (dC, dI)) (ci := 0) (v := .ref so) (C := R_G) (T := T_G) (N := 7) hx hb htw in_G hown hK hP 0 rfl rfl 0 (by decide) (htw _ m_114) (fun _ h9 => h9) rfl dG_moveWater_49 ?_
    refine va_get (D := (dC, dI)) (ci := 3) (v := .int dr) (C := R_S) (T := T_S) (N := 11) hx hb htw in_S hown hK hP 2 rfl rfl 10 (by decide) (htw _ m_42) (fun _ h9 => h9) rfl dG_moveWater_52 ?_
    refine lv_i2l (v := dr.toInt64) hx hb dG_moveWater_55 rfl ?_
    refine lv_lmul hx hb dG_moveWater_56 ?_
    refine lv_ldc2 (v := 1000) hx hb hown (htw _ m_216) dG_moveWater_57 ?_
    refine lv_ldiv hx hb dG_moveWater_60 (by decide) ?_
    refine lv_topl (fun kv ekv => ?_)
    obtain rfl : kv = k_dr dr pr i := ekv.trans (by rw [k_np_at (Nat.le_refl i)]; rfl)
    refine lv_lstore (lv' := [(7, .long (k_dr dr pr i)), (5, .long (k_fl lk ln ce da db pr (i + 1))), (0, .ref g), (1, .int (kb (k_mv lk ln ce da db dr pr i = true))), (2, .long (k_fl lk ln ce da db pr i)), (4, .int (nI i))]) hx hb dG_moveWater_61 hl (by decide) rfl (fun ls hl => ?_)
    refine x_join (pc2 := 92) (v0 := (kb (k_mv lk ln ce da db dr pr (i + 1) = true))) (nL := 9) (lv := [(7, .long (k_dr dr pr i)), (5, .long (k_fl lk ln ce da db pr (i + 1))), (0, .ref g), (1, .int (kb (k_mv lk ln ce da db dr pr i = true))), (2, .long (k_fl lk ln ce da db pr i)), (4, .int (nI i))]) (st2 := []) ?_ ?_
    · intro ls hl
      refine lv_istore_n (lv' := [(1, .int (kb (k_mv lk ln ce da db dr pr (i + 1) = true))), (7, .long (k_dr dr pr i)), (5, .long (k_fl lk ln ce da db pr (i + 1))), (0, .ref g), (2, .long (k_fl lk ln ce da db pr i)), (4, .int (nI i))]) hx hb dG_moveWater_92 rfl hl (by decide) rfl (fun ls hl => ?_)
      refine lv_aload_n hx hb dG_moveWater_93 rfl (lv_at hl 3 rfl) ?_
      refine va_get (D := (dC, dI)) (ci := 0) (v := .ref qpr) (C := R_G) (T := T_G) (N := 7) hx hb htw in_G hown hK hP 0 rfl rfl 2 (by decide) (htw _ m_116) (fun _ h9 => h9) rfl dG_moveWater_94 ?_
      refine lv_iload hx hb dG_moveWater_97 (lv_at hl 5 rfl) ?_
      refine lv_dup2_11 hx hb dG_moveWater_99 rfl rfl ?_
      refine xa_lald hx hb hK hP 1 1 rfl rfl (i := i) (by omega) (by decide) dG_moveWater_100 ?_
      refine lv_lload_n hx hb dG_moveWater_101 rfl (lv_at hl 4 rfl) ?_
      refine lv_lload hx hb dG_moveWater_102 (lv_at hl 2 rfl) ?_
      refine lv_lsub hx hb dG_moveWater_104 ?_
      refine lv_lload hx hb dG_moveWater_105 (lv_at hl 1 rfl) ?_
      refine lv_lsub hx hb dG_moveWater_107 ?_
      refine lv_ladd hx hb dG_moveWater_108 ?_
      refine xa_last hx hb hK hP hD hS 1 1 rfl rfl (i := i) (by omega) (by decide) dG_moveWater_109 (fun H locs hP hD hS => ?_)
      have hP : va_P (dC, dI) vwCl [(g, .inr (0, [.ref so, .ref lo, .ref qpr, .ref qpa, .int (nI dy), .long co, .long (k_ow lk ln ce da db dr pr wo i)])), (qpr, .inl (cJ, 30, .inr (.inl (vp_updL (k_np lk ln ce da db dr pr i) i (((k_np lk ln ce da db dr pr i) i) + (((k_fl lk ln ce da db pr i) - (k_fl lk ln ce da db pr (i + 1))) - (k_dr dr pr i))))))), (so, .inr (3, [.ref qlk, .ref qln, .ref qhd, .ref qsf, .ref qfp, .ref qfc, .int (nI ly), .int (nI ce), .int da, .int db, .int dr])), (qlk, .inl (cI, 30, .inl lk)), (qln, .inl (cI, 30, .inl ln))] H := hP
      have hD : va_D A [(g, .inr (0, [.ref so, .ref lo, .ref qpr, .ref qpa, .int (nI dy), .long co, .long (k_ow lk ln ce da db dr pr wo i)])), (qpr, .inl (cJ, 30, .inr (.inl (vp_updL (k_np lk ln ce da db dr pr i) i (((k_np lk ln ce da db dr pr i) i) + (((k_fl lk ln ce da db pr i) - (k_fl lk ln ce da db pr (i + 1))) - (k_dr dr pr i))))))), (so, .inr (3, [.ref qlk, .ref qln, .ref qhd, .ref qsf, .ref qfp, .ref qfc, .int (nI ly), .int (nI ce), .int da, .int db, .int dr])), (qlk, .inl (cI, 30, .inl lk)), (qln, .inl (cI, 30, .inl ln))] := hD
      refine lv_aload_n hx hb dG_moveWater_110 rfl (lv_at hl 3 rfl) ?_
      refine lv_dup hx hb dG_moveWater_111 rfl ?_
      refine va_get (D := (dC, dI)) (ci := 0) (v := .long (k_ow lk ln ce da db dr pr wo i)) (C := R_G) (T := T_G) (N := 7) hx hb htw in_G hown hK hP 0 rfl rfl 6 (by decide) (htw _ m_124) (fun _ h9 => h9) rfl dG_moveWater_112 ?_
      refine lv_lload hx hb dG_moveWater_115 (lv_at hl 1 rfl) ?_
      refine lv_ladd hx hb dG_moveWater_117 ?_
      refine va_put (D := (dC, dI)) (ci := 0) (v := .long ((k_ow lk ln ce da db dr pr wo i) + (k_dr dr pr i))) (ty := .long) (C := R_G) (T := T_G) (N := 7) hx hb htw in_G ty_G tok_G nnm_G hown hK hP hD hS 0 rfl rfl 6 (by decide) (htw _ m_124) (fun _ h9 => h9) rfl (by decide +kernel) rfl rfl (Nat.le_of_ble_eq_true rfl) dG_moveWater_118 (fun H locs hP hD hS => ?_)
      have hP : va_P (dC, dI) vwCl [(g, .inr (0, [.ref so, .ref lo, .ref qpr, .ref qpa, .int (nI dy), .long co, .long ((k_ow lk ln ce da db dr pr wo i) + (k_dr dr pr i))])), (qpr, .inl (cJ, 30, .inr (.inl (vp_updL (k_np lk ln ce da db dr pr i) i (((k_np lk ln ce da db dr pr i) i) + (((k_fl lk ln ce da db pr i) - (k_fl lk ln ce da db pr (i + 1))) - (k_dr dr pr i))))))), (so, .inr (3, [.ref qlk, .ref qln, .ref qhd, .ref qsf, .ref qfp, .ref qfc, .int (nI ly), .int (nI ce), .int da, .int db, .int dr])), (qlk, .inl (cI, 30, .inl lk)), (qln, .inl (cI, 30, .inl ln))] H := hP
      have hD : va_D A [(g, .inr (0, [.ref so, .ref lo, .ref qpr, .ref qpa, .int (nI dy), .long co, .long ((k_ow lk ln ce da db dr pr wo i) + (k_dr dr pr i))])), (qpr, .inl (cJ, 30, .inr (.inl (vp_updL (k_np lk ln ce da db dr pr i) i (((k_np lk ln ce da db dr pr i) i) + (((k_fl lk ln ce da db pr i) - (k_fl lk ln ce da db pr (i + 1))) - (k_dr dr pr i))))))), (so, .inr (3, [.ref qlk, .ref qln, .ref qhd, .ref qsf, .ref qfp, .ref qfc, .int (nI ly), .int (nI ce), .int da, .int db, .int dr])), (qlk, .inl (cI, 30, .inl lk)), (qln, .inl (cI, 30, .inl ln))] := hD
      refine lv_lload hx hb dG_moveWater_121 (lv_at hl 2 rfl) ?_
      refine lv_lstore_n (lv' := [(2, .long (k_fl lk ln ce da db pr (i + 1))), (1, .int (kb (k_mv lk ln ce da db dr pr (i + 1) = true))), (7, .long (k_dr dr pr i)), (5, .long (k_fl lk ln ce da db pr (i + 1))), (0, .ref g), (4, .int (nI i))]) hx hb dG_moveWater_123 rfl hl (by decide) rfl (fun ls hl => ?_)
      refine lv_iinc (v := nI (i + 1)) (lv' := [(4, .int (nI (i + 1))), (2, .long (k_fl lk ln ce da db pr (i + 1))), (1, .int (kb (k_mv lk ln ce da db dr pr (i + 1) = true))), (7, .long (k_dr dr pr i)), (5, .long (k_fl lk ln ce da db pr (i + 1))), (0, .ref g)]) hx hb dG_moveWater_124 hl (k := 5) rfl (nI_1 _) (by decide) rfl (fun ls hl => ?_)
      refine lv_goto (tgt := 21) hx hb dG_moveWater_127 (by decide) ?_
      have eq5 : ((k_ow lk ln ce da db dr pr wo i) + (k_dr dr pr i) : Int64) = k_ow lk ln ce da db dr pr wo (i + 1) := k_ow_s
      rw [eq5] at hP hD
      have eq6 : (vp_updL (k_np lk ln ce da db dr pr i) i (((k_np lk ln ce da db dr pr i) i) + (((k_fl lk ln ce da db pr i) - (k_fl lk ln ce da db pr (i + 1))) - (k_dr dr pr i))) : Nat → Int64) = k_np lk ln ce da db dr pr (i + 1) := (by rw [k_np_at (Nat.le_refl i)]; exact k_np_s)
      rw [eq6] at hP hD
      have hP : va_P (dC, dI) vwCl [(g, .inr (0, [.ref so, .ref lo, .ref qpr, .ref qpa, .int (nI dy), .long co, .long (k_ow lk ln ce da db dr pr wo (i + 1))])), (qpr, .inl (cJ, 30, .inr (.inl (k_np lk ln ce da db dr pr (i + 1))))), (so, .inr (3, [.ref qlk, .ref qln, .ref qhd, .ref qsf, .ref qfp, .ref qfc, .int (nI ly), .int (nI ce), .int da, .int db, .int dr])), (qlk, .inl (cI, 30, .inl lk)), (qln, .inl (cI, 30, .inl ln))] H := by first | exact hP | simpa only [] using hP
      have hD : va_D A [(g, .inr (0, [.ref so, .ref lo, .ref qpr, .ref qpa, .int (nI dy), .long co, .long (k_ow lk ln ce da db dr pr wo (i + 1))])), (qpr, .inl (cJ, 30, .inr (.inl (k_np lk ln ce da db dr pr (i + 1))))), (so, .inr (3, [.ref qlk, .ref qln, .ref qhd, .ref qsf, .ref qfp, .ref qfc, .int (nI ly), .int (nI ce), .int da, .int db, .int dr])), (qlk, .inl (cI, 30, .inl lk)), (qln, .inl (cI, 30, .inl ln))] := by first | exact hD | simpa only [] using hD
      exact ih21 (by omega) _ _ _ ⟨hP, hD, hS, lv_sub hl [5, 2, 1, 0] rfl⟩
    · intro J92
      refine lv_iload_n hx hb dG_moveWater_63 rfl (lv_at hl 3 rfl) ?_
      refine lv_if_ne (tgt := 87) hx hb dG_moveWater_64 (by decide) (fun hc64 => ?_) (fun hc64 => ?_)
      · -- 64 taken
        rw [kb_eq0] at hc64
        refine lv_iconst (v := nI 1) hx hb dG_moveWater_87 (by decide) ?_
        refine lv_goto (tgt := 92) hx hb dG_moveWater_88 (by decide) ?_
        refine lv_topi (fun kv ekv => ?_)
        obtain rfl : kv = kb (k_mv lk ln ce da db dr pr (i + 1) = true) := ekv.trans (by first | exact kb_t (k_mv1 hc64) | exact kb_t (k_mv2 hc70) | exact kb_t (k_mv3 hc77) | exact kb_f (k_mv5 hc64 hc70 hc77 hc84) | exact kb_t (k_mv4 hc84))
        exact J92 ls (lv_sub hl [0, 1, 2, 3, 4, 5] rfl)
      · -- 64 not taken
        rw [kb_eq0] at hc64
        refine lv_lload_n hx hb dG_moveWater_67 rfl (lv_at hl 4 rfl) ?_
        refine lv_lconst (v := 0) hx hb dG_moveWater_68 (by decide) ?_
        refine W.lcmp hx hb dG_moveWater_69 ?_
        refine lv_if_ne (tgt := 87) hx hb dG_moveWater_70 (by decide) (fun hc70 => ?_) (fun hc70 => ?_)
        · -- 70 taken
          rw [lg_cmp_eq] at hc70
          refine lv_iconst (v := nI 1) hx hb dG_moveWater_87 (by decide) ?_
          refine lv_goto (tgt := 92) hx hb dG_moveWater_88 (by decide) ?_
          refine lv_topi (fun kv ekv => ?_)
          obtain rfl : kv = kb (k_mv lk ln ce da db dr pr (i + 1) = true) := ekv.trans (by first | exact kb_t (k_mv1 hc64) | exact kb_t (k_mv2 hc70) | exact kb_t (k_mv3 hc77) | exact kb_f (k_mv5 hc64 hc70 hc77 hc84) | exact kb_t (k_mv4 hc84))
          exact J92 ls (lv_sub hl [0, 1, 2, 3, 4, 5] rfl)
        · -- 70 not taken
          rw [lg_cmp_eq] at hc70
          refine lv_lload hx hb dG_moveWater_73 (lv_at hl 1 rfl) ?_
          refine lv_lconst (v := 0) hx hb dG_moveWater_75 (by decide) ?_
          refine W.lcmp hx hb dG_moveWater_76 ?_
          refine lv_if_ne (tgt := 87) hx hb dG_moveWater_77 (by decide) (fun hc77 => ?_) (fun hc77 => ?_)
          · -- 77 taken
            rw [lg_cmp_eq] at hc77
            refine lv_iconst (v := nI 1) hx hb dG_moveWater_87 (by decide) ?_
            refine lv_goto (tgt := 92) hx hb dG_moveWater_88 (by decide) ?_
            refine lv_topi (fun kv ekv => ?_)
            obtain rfl : kv = kb (k_mv lk ln ce da db dr pr (i + 1) = true) := ekv.trans (by first | exact kb_t (k_mv1 hc64) | exact kb_t (k_mv2 hc70) | exact kb_t (k_mv3 hc77) | exact kb_f (k_mv5 hc64 hc70 hc77 hc84) | exact kb_t (k_mv4 hc84))
            exact J92 ls (lv_sub hl [0, 1, 2, 3, 4, 5] rfl)
          · -- 77 not taken
            rw [lg_cmp_eq] at hc77
            refine lv_lload hx hb dG_moveWater_80 (lv_at hl 0 rfl) ?_
            refine lv_lconst (v := 0) hx hb dG_moveWater_82 (by decide) ?_
            refine W.lcmp hx hb dG_moveWater_83 ?_
            refine lv_if_eq (tgt := 91) hx hb dG_moveWater_84 (by decide) (fun hc84 => ?_) (fun hc84 => ?_)
            · -- 84 taken
              rw [lg_cmp_eq] at hc84
              refine lv_iconst (v := nI 0) hx hb dG_moveWater_91 (by decide) ?_
              refine lv_topi (fun kv ekv => ?_)
              obtain rfl : kv = kb (k_mv lk ln ce da db dr pr (i + 1) = true) := ekv.trans (by first | exact kb_t (k_mv1 hc64) | exact kb_t (k_mv2 hc70) | exact kb_t (k_mv3 hc77) | exact kb_f (k_mv5 hc64 hc70 hc77 hc84) | exact kb_t (k_mv4 hc84))
              exact J92 ls (lv_sub hl [0, 1, 2, 3, 4, 5] rfl)
            · -- 84 not taken
              rw [lg_cmp_eq] at hc84
              refine lv_iconst (v := nI 1) hx hb dG_moveWater_87 (by decide) ?_
              refine lv_goto (tgt := 92) hx hb dG_moveWater_88 (by decide) ?_
              refine lv_topi (fun kv ekv => ?_)
              obtain rfl : kv = kb (k_mv lk ln ce da db dr pr (i + 1) = true) := ekv.trans (by first | exact kb_t (k_mv1 hc64) | exact kb_t (k_mv2 hc70) | exact kb_t (k_mv3 hc77) | exact kb_f (k_mv5 hc64 hc70 hc77 hc84) | exact kb_t (k_mv4 hc84))
              exact J92 ls (lv_sub hl [0, 1, 2, 3, 4, 5] rfl)
set_option maxHeartbeats 4000000 in
set_option maxRecDepth 100000 in
theorem kG_raisePasts (l : Launch) (dC : Nat → ClassId) (dI : Nat → Nat → Nat) (cI cJ : ClassId) (g so lo qpr qpa qlk qln qhd qsf qfp qfc : Nat) (sz : Nat) (dy : Nat) (co : Int64) (wo : Int64) (pr : Nat → Int64) (pa : Nat → Int64) (ly : Nat) (ce : Nat) (da : Int32) (db : Int32) (dr : Int32) (hce : ce ≤ 30) : Met l yG_raisePasts wG_raisePasts ({ frames := 1, cells := 0, slots := 0, locals := 21 }) (va_Pc [.ref g] (fun U => U.heap.size = sz ∧ va_P (dC, dI) vwCl [(g, .inr (0, [.ref so, .ref lo, .ref qpr, .ref qpa, .int (nI dy), .long co, .long wo])), (qpr, .inl (cJ, 30, .inr (.inl pr))), (qpa, .inl (cJ, 30, .inr (.inl pa))), (so, .inr (3, [.ref qlk, .ref qln, .ref qhd, .ref qsf, .ref qfp, .ref qfc, .int (nI ly), .int (nI ce), .int da, .int db, .int dr]))] U.heap ∧ va_K (dC, dI) vwCl [(cI, .int), (cJ, .long)] U ∧ va_D (fun _ => True) [(g, .inr (0, [.ref so, .ref lo, .ref qpr, .ref qpa, .int (nI dy), .long co, .long wo])), (qpr, .inl (cJ, 30, .inr (.inl pr))), (qpa, .inl (cJ, 30, .inr (.inl pa))), (so, .inr (3, [.ref qlk, .ref qln, .ref qhd, .ref qsf, .ref qfp, .ref qfc, .int (nI ly), .int (nI ce), .int da, .int db, .int dr]))])) (va_Qv (fun (_ : Unit) => True) (fun _ t => va_P (dC, dI) vwCl [(g, .inr (0, [.ref so, .ref lo, .ref qpr, .ref qpa, .int (nI dy), .long co, .long wo])), (qpr, .inl (cJ, 30, .inr (.inl pr))), (qpa, .inl (cJ, 30, .inr (.inl (k_rs co pr pa ce)))), (so, .inr (3, [.ref qlk, .ref qln, .ref qhd, .ref qsf, .ref qfp, .ref qfc, .int (nI ly), .int (nI ce), .int da, .int db, .int dr]))] t.heap ∧ va_K (dC, dI) vwCl [(cI, .int), (cJ, .long)] t ∧ va_D (va_A [(g, .inr (0, [.ref so, .ref lo, .ref qpr, .ref qpa, .int (nI dy), .long co, .long wo])), (qpr, .inl (cJ, 30, .inr (.inl pr))), (qpa, .inl (cJ, 30, .inr (.inl pa))), (so, .inr (3, [.ref qlk, .ref qln, .ref qhd, .ref qsf, .ref qfp, .ref qfc, .int (nI ly), .int (nI ce), .int da, .int db, .int dr]))] sz) [(g, .inr (0, [.ref so, .ref lo, .ref qpr, .ref qpa, .int (nI dy), .long co, .long wo])), (qpr, .inl (cJ, 30, .inr (.inl pr))), (qpa, .inl (cJ, 30, .inr (.inl (k_rs co pr pa ce)))), (so, .inr (3, [.ref qlk, .ref qln, .ref qhd, .ref qsf, .ref qfp, .ref qfc, .int (nI ly), .int (nI ce), .int da, .int db, .int dr]))]) (va_A [(g, .inr (0, [.ref so, .ref lo, .ref qpr, .ref qpa, .int (nI dy), .long co, .long wo])), (qpr, .inl (cJ, 30, .inr (.inl pr))), (qpa, .inl (cJ, 30, .inr (.inl pa))), (so, .inr (3, [.ref qlk, .ref qln, .ref qhd, .ref qsf, .ref qfp, .ref qfc, .int (nI ly), .int (nI ce), .int da, .int db, .int dr]))] sz)) 0 0 (va_A [(g, .inr (0, [.ref so, .ref lo, .ref qpr, .ref qpa, .int (nI dy), .long co, .long wo])), (qpr, .inl (cJ, 30, .inr (.inl pr))), (qpa, .inl (cJ, 30, .inr (.inl pa))), (so, .inr (3, [.ref qlk, .ref qln, .ref qhd, .ref qsf, .ref qfp, .ref qfc, .int (nI ly), .int (nI ce), .int da, .int db, .int dr]))] sz) := by
  refine Met.ofW (cc := bG_raisePasts) (maxL := 2) (ret := none) (by decide) rfl ?_
  intro p e s m args below meth c s₁ B hml hv
  obtain ⟨rfl, hsz, hP, hK, hD0⟩ := hv
  have hx := B.exec
  have hb := B.bytes
  have hr := B.returns
  have hts := atoms_spec (ws := wG_raisePasts) B.pre
  have hown : s.vm.findClass R_G = some m.cls := findClass_of_methodNamed B.named
  have htw : ∀ w ∈ WA, w.before _ s = true := fun w h => hts w (List.mem_cons_of_mem _ h)
  clear hts
  have hlocks := B.notSynchronized
  subst hsz
  have hD := hD0.self (sz := s.heap.size)
  generalize hAe : va_A [(g, .inr (0, [.ref so, .ref lo, .ref qpr, .ref qpa, .int (nI dy), .long co, .long wo])), (qpr, .inl (cJ, 30, .inr (.inl pr))), (qpa, .inl (cJ, 30, .inr (.inl pa))), (so, .inr (3, [.ref qlk, .ref qln, .ref qhd, .ref qsf, .ref qfp, .ref qfc, .int (nI ly), .int (nI ce), .int da, .int db, .int dr]))] s.heap.size = A at hD ⊢
  have hA : ∀ q : Nat, s.heap.size ≤ q → A q := fun q h => by rw [← hAe]; exact Or.inr h
  clear hAe hD0
  have hS : va_S A s.heap s.heap [] := va_S.rf
  have hP : va_P (dC, dI) vwCl [(g, .inr (0, [.ref so, .ref lo, .ref qpr, .ref qpa, .int (nI dy), .long co, .long wo])), (qpr, .inl (cJ, 30, .inr (.inl pr))), (qpa, .inl (cJ, 30, .inr (.inl pa))), (so, .inr (3, [.ref qlk, .ref qln, .ref qhd, .ref qsf, .ref qfp, .ref qfc, .int (nI ly), .int (nI ce), .int da, .int db, .int dr]))] s.heap := hP
  have hl := lv_entry ([.ref g]) (n := 2) (Nat.le_of_ble_eq_true rfl)
  rw [lg_entry_eq]
  generalize (lg_sl ([.ref g]) ++ List.replicate (2 - (lg_sl ([.ref g])).length) Slot.unset).toArray = ls at hl ⊢
  have hl : lv_has ls 2 [(0, .ref g)] := hl
  refine lv_iconst (v := nI 0) hx hb dG_raisePasts_0 (by decide) ?_
  refine lv_istore_n (lv' := [(1, .int (nI 0)), (0, .ref g)]) hx hb dG_raisePasts_1 rfl hl (by decide) rfl (fun ls hl => ?_)
  -- the loop at 2
  have eq1 : (pa : Nat → Int64) = k_rs co pr pa 0 := k_rs_0
  rw [eq1] at hP hD
  have hP : va_P (dC, dI) vwCl [(g, .inr (0, [.ref so, .ref lo, .ref qpr, .ref qpa, .int (nI dy), .long co, .long wo])), (qpr, .inl (cJ, 30, .inr (.inl pr))), (qpa, .inl (cJ, 30, .inr (.inl (k_rs co pr pa 0)))), (so, .inr (3, [.ref qlk, .ref qln, .ref qhd, .ref qsf, .ref qfp, .ref qfc, .int (nI ly), .int (nI ce), .int da, .int db, .int dr]))] s.heap := by first | exact hP | simpa only [] using hP
  have hD : va_D A [(g, .inr (0, [.ref so, .ref lo, .ref qpr, .ref qpa, .int (nI dy), .long co, .long wo])), (qpr, .inl (cJ, 30, .inr (.inl pr))), (qpa, .inl (cJ, 30, .inr (.inl (k_rs co pr pa 0)))), (so, .inr (3, [.ref qlk, .ref qln, .ref qhd, .ref qsf, .ref qfp, .ref qfc, .int (nI ly), .int (nI ce), .int da, .int db, .int dr]))] := by first | exact hD | simpa only [] using hD
  refine x_loop (N := ce) (I := fun i H locs ls => va_P (dC, dI) vwCl [(g, .inr (0, [.ref so, .ref lo, .ref qpr, .ref qpa, .int (nI dy), .long co, .long wo])), (qpr, .inl (cJ, 30, .inr (.inl pr))), (qpa, .inl (cJ, 30, .inr (.inl (k_rs co pr pa i)))), (so, .inr (3, [.ref qlk, .ref qln, .ref qhd, .ref qsf, .ref qfp, .ref qfc, .int (nI ly), .int (nI ce), .int da, .int db, .int dr]))] H ∧ va_D A [(g, .inr (0, [.ref so, .ref lo, .ref qpr, .ref qpa, .int (nI dy), .long co, .long wo])), (qpr, .inl (cJ, 30, .inr (.inl pr))), (qpa, .inl (cJ, 30, .inr (.inl (k_rs co pr pa i)))), (so, .inr (3, [.ref qlk, .ref qln, .ref qhd, .ref qsf, .ref qfp, .ref qfc, .int (nI ly), .int (nI ce), .int da, .int db, .int dr]))] ∧ va_S A s.heap H locs ∧ lv_has ls 2 [(0, .ref g), (1, .int (nI i))]) (i0 := 0) ?_ (Nat.zero_le _) ⟨hP, hD, hS, lv_sub hl [1, 0] rfl⟩
  intro i hi ih2 H locs ls hI
  obtain ⟨hP, hD, hS, hl⟩ := hI
  refine lv_iload_n hx hb dG_raisePasts_2 rfl (lv_at hl 1 rfl) ?_
  refine lv_aload_n hx hb dG_raisePasts_3 rfl (lv_at hl 0 rfl) ?_
  refine va_get (D := (dC, dI)) (ci := 0) (v := .ref so) (C := R_G) (T := T_G) (N := 7) hx hb htw in_G hown hK hP 0 rfl rfl 0 (by decide) (htw _ m_114) (fun _ h9 => h9) rfl dG_raisePasts_4 ?_
  refine va_get (D := (dC, dI)) (ci := 3) (v := .int (nI ce)) (C := R_S) (T := T_S) (N := 11) hx hb htw in_S hown hK hP 3 rfl rfl 7 (by decide) (htw _ m_35) (fun _ h9 => h9) rfl dG_raisePasts_7 ?_
  refine lv_icmp_ge (tgt := 39) hx hb dG_raisePasts_10 (by decide) (fun hc10 => ?_) (fun hc10 => ?_)
  · -- 10 taken
    rw [nI_leI (by omega) (by omega)] at hc10
    obtain rfl : ce = i := by omega
    have hP : va_P (dC, dI) vwCl [(g, .inr (0, [.ref so, .ref lo, .ref qpr, .ref qpa, .int (nI dy), .long co, .long wo])), (qpr, .inl (cJ, 30, .inr (.inl pr))), (qpa, .inl (cJ, 30, .inr (.inl (k_rs co pr pa ce)))), (so, .inr (3, [.ref qlk, .ref qln, .ref qhd, .ref qsf, .ref qfp, .ref qfc, .int (nI ly), .int (nI ce), .int da, .int db, .int dr]))] H := by first | exact hP | simpa only [] using hP
    have hD : va_D A [(g, .inr (0, [.ref so, .ref lo, .ref qpr, .ref qpa, .int (nI dy), .long co, .long wo])), (qpr, .inl (cJ, 30, .inr (.inl pr))), (qpa, .inl (cJ, 30, .inr (.inl (k_rs co pr pa ce)))), (so, .inr (3, [.ref qlk, .ref qln, .ref qhd, .ref qsf, .ref qfp, .ref qfc, .int (nI ly), .int (nI ce), .int da, .int db, .int dr]))] := by first | exact hD | simpa only [] using hD
    exact W.vret hx hb hr (fun t ht hW => ⟨⟨(), rfl, trivial, by rw [ht]; exact hP, va_K.moved hW.alike hK, hD⟩, hS.F ht⟩) hS.2.2 dG_raisePasts_39
  · -- 10 not taken
    rw [nI_leI (by omega) (by omega)] at hc10
    refine lv_aload_n hx hb dG_raisePasts_13 rfl (lv_at hl 0 rfl) ?_
    refine va_get (D := (dC, dI)) (ci := 0) (v := .ref qpa) (C := R_G) (T := T_G) (N := 7) hx hb htw in_G hown hK hP 0 rfl rfl 3 (by decide) (htw _ m_118) (fun _ h9 => h9) rfl dG_raisePasts_14 ?_
    refine lv_iload_n hx hb dG_raisePasts_17 rfl (lv_at hl 1 rfl) ?_
    refine lv_aload_n hx hb dG_raisePasts_18 rfl (lv_at hl 0 rfl) ?_
    refine va_get (D := (dC, dI)) (ci := 0) (v := .ref qpa) (C := R_G) (T := T_G) (N := 7) hx hb htw in_G hown hK hP 0 rfl rfl 3 (by decide) (htw _ m_118) (fun _ h9 => h9) rfl dG_raisePasts_19 ?_
    refine lv_iload_n hx hb dG_raisePasts_22 rfl (lv_at hl 1 rfl) ?_
    refine xa_lald hx hb hK hP 2 1 rfl rfl (i := i) (by omega) (by decide) dG_raisePasts_23 ?_
    refine lv_aload_n hx hb dG_raisePasts_24 rfl (lv_at hl 0 rfl) ?_
    refine lv_iload_n hx hb dG_raisePasts_25 rfl (lv_at hl 1 rfl) ?_
    have hPc := hP.sub (ws' := [(g, .inr (0, [.ref so, .ref lo, .ref qpr, .ref qpa, .int (nI dy), .long co, .long wo])), (qpr, .inl (cJ, 30, .inr (.inl pr)))]) [0, 1] rfl
    have hDc := hD.sub (ws' := [(g, .inr (0, [.ref so, .ref lo, .ref qpr, .ref qpa, .int (nI dy), .long co, .long wo])), (qpr, .inl (cJ, 30, .inr (.inl pr)))]) [0, 1] (by decide) rfl
    have hFc := va_free (wc := [(g, .inr (0, [.ref so, .ref lo, .ref qpr, .ref qpa, .int (nI dy), .long co, .long wo])), (qpr, .inl (cJ, 30, .inr (.inl pr)))]) hD hS hA [0, 1] rfl
    refine va_calll (va_runV (As := [.int (nI i)]) (rest := [.long ((k_rs co pr pa i) i), .int (nI i), .ref qpa]) ⟨hx, hb, hml, hown, htw⟩ (kG_carried l dC dI cI cJ g so lo qpr qpa H.size i dy co wo pr (by first | assumption | omega | decide)) (cwV 1 htw (wv_good m_225 m_226 m_227 m_5 m_228) rfl rfl rfl (by decide +kernel) ⟨Nat.le_of_ble_eq_true rfl, Nat.le_of_ble_eq_true rfl⟩) ⟨fun a U g mk q => by obtain ⟨q0, q1, qP, qK, qD⟩ := q; exact ⟨q0, q1, qP, va_K.moved (u := U) (U := U.calling g mk a) (Vm.Alike.refl U.vm) qK, qD⟩, va_recv hK hPc (ci := 0) (q0 := 0) rfl rfl, fun U hU hW => ⟨rfl, by rw [hU], by rw [hU]; exact hPc, va_K.moved hW.alike hK, hDc.weaken (fun _ _ _ _ => trivial)⟩⟩ rfl rfl hl.1 rfl (lv_room (Nat.le_of_ble_eq_true rfl)) dG_raisePasts_26 ⟨Nat.le_of_ble_eq_true rfl, Nat.le_of_ble_eq_true rfl⟩) hS (fun q _ h => hFc q h) hFc (fun res_ u_ t H1 locs ht hvm hw hB hz1 hk1 hS => ?_)
    obtain ⟨hP1, hK1, hD1⟩ := hB
    rw [ht] at hP1
    obtain ⟨hP, hD⟩ := va_join (wr := [(qpa, .inl (cJ, 30, .inr (.inl (k_rs co pr pa i)))), (so, .inr (3, [.ref qlk, .ref qln, .ref qhd, .ref qsf, .ref qfp, .ref qfc, .int (nI ly), .int (nI ce), .int da, .int db, .int dr]))]) (w1 := [(g, .inr (0, [.ref so, .ref lo, .ref qpr, .ref qpa, .int (nI dy), .long co, .long wo])), (qpr, .inl (cJ, 30, .inr (.inl pr)))]) hP hD [0, 1] [2, 3] rfl rfl (by decide) (by decide) hk1 hFc hP1 hD1
    generalize H1 = H at hP hS ⊢
    have hP := hP.sub (ws' := [(g, .inr (0, [.ref so, .ref lo, .ref qpr, .ref qpa, .int (nI dy), .long co, .long wo])), (qpr, .inl (cJ, 30, .inr (.inl pr))), (qpa, .inl (cJ, 30, .inr (.inl (k_rs co pr pa i)))), (so, .inr (3, [.ref qlk, .ref qln, .ref qhd, .ref qsf, .ref qfp, .ref qfc, .int (nI ly), .int (nI ce), .int da, .int db, .int dr]))]) [2, 3, 0, 1] rfl
    have hD := hD.sub (ws' := [(g, .inr (0, [.ref so, .ref lo, .ref qpr, .ref qpa, .int (nI dy), .long co, .long wo])), (qpr, .inl (cJ, 30, .inr (.inl pr))), (qpa, .inl (cJ, 30, .inr (.inl (k_rs co pr pa i)))), (so, .inr (3, [.ref qlk, .ref qln, .ref qhd, .ref qsf, .ref qfp, .ref qfc, .int (nI ly), .int (nI ce), .int da, .int db, .int dr]))]) [2, 3, 0, 1] (by decide) rfl
    clear hPc hDc hFc hP1 hD1 hK1 hk1 hz1 hvm ht
    obtain rfl : res_ = co - pr i := hw
    refine va_mmax_long hx hb (by rw [hml]; exact hl.1.symm) hown (htw _ m_229) (htw _ m_230) (htw _ m_7) (htw _ m_231) (Nat.le_of_ble_eq_true rfl) (Nat.le_of_ble_eq_true rfl) (Nat.le_of_ble_eq_true rfl) (Nat.le_of_ble_eq_true rfl) dG_raisePasts_29 ?_
    refine lv_topl (fun kv ekv => ?_)
    obtain rfl : kv = k_mx (k_rs co pr pa i i) (co - pr i) := ekv.trans (rfl)
    refine xa_last hx hb hK hP hD hS 2 1 rfl rfl (i := i) (by omega) (by decide) dG_raisePasts_32 (fun H locs hP hD hS => ?_)
    have hP : va_P (dC, dI) vwCl [(g, .inr (0, [.ref so, .ref lo, .ref qpr, .ref qpa, .int (nI dy), .long co, .long wo])), (qpr, .inl (cJ, 30, .inr (.inl pr))), (qpa, .inl (cJ, 30, .inr (.inl (vp_updL (k_rs co pr pa i) i (k_mx (k_rs co pr pa i i) (co - pr i)))))), (so, .inr (3, [.ref qlk, .ref qln, .ref qhd, .ref qsf, .ref qfp, .ref qfc, .int (nI ly), .int (nI ce), .int da, .int db, .int dr]))] H := hP
    have hD : va_D A [(g, .inr (0, [.ref so, .ref lo, .ref qpr, .ref qpa, .int (nI dy), .long co, .long wo])), (qpr, .inl (cJ, 30, .inr (.inl pr))), (qpa, .inl (cJ, 30, .inr (.inl (vp_updL (k_rs co pr pa i) i (k_mx (k_rs co pr pa i i) (co - pr i)))))), (so, .inr (3, [.ref qlk, .ref qln, .ref qhd, .ref qsf, .ref qfp, .ref qfc, .int (nI ly), .int (nI ce), .int da, .int db, .int dr]))] := hD
    refine lv_iinc (v := nI (i + 1)) (lv' := [(1, .int (nI (i + 1))), (0, .ref g)]) hx hb dG_raisePasts_33 hl (k := 1) rfl (nI_1 _) (by decide) rfl (fun ls hl => ?_)
    refine lv_goto (tgt := 2) hx hb dG_raisePasts_36 (by decide) ?_
    have eq2 : (vp_updL (k_rs co pr pa i) i (k_mx (k_rs co pr pa i i) (co - pr i)) : Nat → Int64) = k_rs co pr pa (i + 1) := k_rs_s
    rw [eq2] at hP hD
    have hP : va_P (dC, dI) vwCl [(g, .inr (0, [.ref so, .ref lo, .ref qpr, .ref qpa, .int (nI dy), .long co, .long wo])), (qpr, .inl (cJ, 30, .inr (.inl pr))), (qpa, .inl (cJ, 30, .inr (.inl (k_rs co pr pa (i + 1))))), (so, .inr (3, [.ref qlk, .ref qln, .ref qhd, .ref qsf, .ref qfp, .ref qfc, .int (nI ly), .int (nI ce), .int da, .int db, .int dr]))] H := by first | exact hP | simpa only [] using hP
    have hD : va_D A [(g, .inr (0, [.ref so, .ref lo, .ref qpr, .ref qpa, .int (nI dy), .long co, .long wo])), (qpr, .inl (cJ, 30, .inr (.inl pr))), (qpa, .inl (cJ, 30, .inr (.inl (k_rs co pr pa (i + 1))))), (so, .inr (3, [.ref qlk, .ref qln, .ref qhd, .ref qsf, .ref qfp, .ref qfc, .int (nI ly), .int (nI ce), .int da, .int db, .int dr]))] := by first | exact hD | simpa only [] using hD
    exact ih2 (by omega) _ _ _ ⟨hP, hD, hS, lv_sub hl [1, 0] rfl⟩
set_option maxHeartbeats 4000000 in
set_option maxRecDepth 100000 in
theorem kG_unitsSunk2 (l : Launch) (dC : Nat → ClassId) (dI : Nat → Nat → Nat) (cI cJ : ClassId) (g so lo qpr qpa qlk qln qhd qsf qfp qfc : Nat) (sz : Nat) (fa : Nat) (fb : Nat) (dy : Nat) (co : Int64) (wo : Int64) (pr : Nat → Int64) (pa : Nat → Int64) (ly : Nat) (ce : Nat) (da : Int32) (db : Int32) (dr : Int32) (hd : Nat → Int32) (sf : Nat → Int32) (fp : Nat → Int32) (hab : fa ≤ fb) (hb30 : fb ≤ 30) : Met l yG_unitsSunk2 wG_unitsSunk2 ({ frames := 1, cells := 0, slots := 0, locals := 25 }) (va_Pc [.ref g, .int (nI fa), .int (nI fb)] (fun U => U.heap.size = sz ∧ va_P (dC, dI) vwCl [(g, .inr (0, [.ref so, .ref lo, .ref qpr, .ref qpa, .int (nI dy), .long co, .long wo])), (qpr, .inl (cJ, 30, .inr (.inl pr))), (qpa, .inl (cJ, 30, .inr (.inl pa))), (so, .inr (3, [.ref qlk, .ref qln, .ref qhd, .ref qsf, .ref qfp, .ref qfc, .int (nI ly), .int (nI ce), .int da, .int db, .int dr])), (qhd, .inl (cI, 30, .inl hd)), (qsf, .inl (cI, 30, .inl sf)), (qfp, .inl (cI, 30, .inl fp))] U.heap ∧ va_K (dC, dI) vwCl [(cI, .int), (cJ, .long)] U ∧ va_D (fun _ => True) [(g, .inr (0, [.ref so, .ref lo, .ref qpr, .ref qpa, .int (nI dy), .long co, .long wo])), (qpr, .inl (cJ, 30, .inr (.inl pr))), (qpa, .inl (cJ, 30, .inr (.inl pa))), (so, .inr (3, [.ref qlk, .ref qln, .ref qhd, .ref qsf, .ref qfp, .ref qfc, .int (nI ly), .int (nI ce), .int da, .int db, .int dr])), (qhd, .inl (cI, 30, .inl hd)), (qsf, .inl (cI, 30, .inl sf)), (qfp, .inl (cI, 30, .inl fp))])) (va_Ql (fun res_ (_ : Unit) => res_ = k_units hd sf fp co pr pa fa fb) (fun _ t => va_P (dC, dI) vwCl [(g, .inr (0, [.ref so, .ref lo, .ref qpr, .ref qpa, .int (nI dy), .long co, .long wo])), (qpr, .inl (cJ, 30, .inr (.inl pr))), (qpa, .inl (cJ, 30, .inr (.inl pa))), (so, .inr (3, [.ref qlk, .ref qln, .ref qhd, .ref qsf, .ref qfp, .ref qfc, .int (nI ly), .int (nI ce), .int da, .int db, .int dr])), (qhd, .inl (cI, 30, .inl hd)), (qsf, .inl (cI, 30, .inl sf)), (qfp, .inl (cI, 30, .inl fp))] t.heap ∧ va_K (dC, dI) vwCl [(cI, .int), (cJ, .long)] t ∧ va_D (va_A [(g, .inr (0, [.ref so, .ref lo, .ref qpr, .ref qpa, .int (nI dy), .long co, .long wo])), (qpr, .inl (cJ, 30, .inr (.inl pr))), (qpa, .inl (cJ, 30, .inr (.inl pa))), (so, .inr (3, [.ref qlk, .ref qln, .ref qhd, .ref qsf, .ref qfp, .ref qfc, .int (nI ly), .int (nI ce), .int da, .int db, .int dr])), (qhd, .inl (cI, 30, .inl hd)), (qsf, .inl (cI, 30, .inl sf)), (qfp, .inl (cI, 30, .inl fp))] sz) [(g, .inr (0, [.ref so, .ref lo, .ref qpr, .ref qpa, .int (nI dy), .long co, .long wo])), (qpr, .inl (cJ, 30, .inr (.inl pr))), (qpa, .inl (cJ, 30, .inr (.inl pa))), (so, .inr (3, [.ref qlk, .ref qln, .ref qhd, .ref qsf, .ref qfp, .ref qfc, .int (nI ly), .int (nI ce), .int da, .int db, .int dr])), (qhd, .inl (cI, 30, .inl hd)), (qsf, .inl (cI, 30, .inl sf)), (qfp, .inl (cI, 30, .inl fp))]) (va_A [(g, .inr (0, [.ref so, .ref lo, .ref qpr, .ref qpa, .int (nI dy), .long co, .long wo])), (qpr, .inl (cJ, 30, .inr (.inl pr))), (qpa, .inl (cJ, 30, .inr (.inl pa))), (so, .inr (3, [.ref qlk, .ref qln, .ref qhd, .ref qsf, .ref qfp, .ref qfc, .int (nI ly), .int (nI ce), .int da, .int db, .int dr])), (qhd, .inl (cI, 30, .inl hd)), (qsf, .inl (cI, 30, .inl sf)), (qfp, .inl (cI, 30, .inl fp))] sz)) 0 0 (va_A [(g, .inr (0, [.ref so, .ref lo, .ref qpr, .ref qpa, .int (nI dy), .long co, .long wo])), (qpr, .inl (cJ, 30, .inr (.inl pr))), (qpa, .inl (cJ, 30, .inr (.inl pa))), (so, .inr (3, [.ref qlk, .ref qln, .ref qhd, .ref qsf, .ref qfp, .ref qfc, .int (nI ly), .int (nI ce), .int da, .int db, .int dr])), (qhd, .inl (cI, 30, .inl hd)), (qsf, .inl (cI, 30, .inl sf)), (qfp, .inl (cI, 30, .inl fp))] sz) := by
  refine Met.ofW (cc := bG_unitsSunk2) (maxL := 6) (ret := (some .long)) (by decide) rfl ?_
  intro p e s m args below meth c s₁ B hml hv
  obtain ⟨rfl, hsz, hP, hK, hD0⟩ := hv
  have hx := B.exec
  have hb := B.bytes
  have hr := B.returns
  have hts := atoms_spec (ws := wG_unitsSunk2) B.pre
  have hown : s.vm.findClass R_G = some m.cls := findClass_of_methodNamed B.named
  have htw : ∀ w ∈ WA, w.before _ s = true := fun w h => hts w (List.mem_cons_of_mem _ h)
  clear hts
  have hlocks := B.notSynchronized
  subst hsz
  have hD := hD0.self (sz := s.heap.size)
  generalize hAe : va_A [(g, .inr (0, [.ref so, .ref lo, .ref qpr, .ref qpa, .int (nI dy), .long co, .long wo])), (qpr, .inl (cJ, 30, .inr (.inl pr))), (qpa, .inl (cJ, 30, .inr (.inl pa))), (so, .inr (3, [.ref qlk, .ref qln, .ref qhd, .ref qsf, .ref qfp, .ref qfc, .int (nI ly), .int (nI ce), .int da, .int db, .int dr])), (qhd, .inl (cI, 30, .inl hd)), (qsf, .inl (cI, 30, .inl sf)), (qfp, .inl (cI, 30, .inl fp))] s.heap.size = A at hD ⊢
  have hA : ∀ q : Nat, s.heap.size ≤ q → A q := fun q h => by rw [← hAe]; exact Or.inr h
  clear hAe hD0
  have hS : va_S A s.heap s.heap [] := va_S.rf
  have hP : va_P (dC, dI) vwCl [(g, .inr (0, [.ref so, .ref lo, .ref qpr, .ref qpa, .int (nI dy), .long co, .long wo])), (qpr, .inl (cJ, 30, .inr (.inl pr))), (qpa, .inl (cJ, 30, .inr (.inl pa))), (so, .inr (3, [.ref qlk, .ref qln, .ref qhd, .ref qsf, .ref qfp, .ref qfc, .int (nI ly), .int (nI ce), .int da, .int db, .int dr])), (qhd, .inl (cI, 30, .inl hd)), (qsf, .inl (cI, 30, .inl sf)), (qfp, .inl (cI, 30, .inl fp))] s.heap := hP
  have hl := lv_entry ([.ref g, .int (nI fa), .int (nI fb)]) (n := 6) (Nat.le_of_ble_eq_true rfl)
  rw [lg_entry_eq]
  generalize (lg_sl ([.ref g, .int (nI fa), .int (nI fb)]) ++ List.replicate (6 - (lg_sl ([.ref g, .int (nI fa), .int (nI fb)])).length) Slot.unset).toArray = ls at hl ⊢
  have hl : lv_has ls 6 [(0, .ref g), (1, .int (nI fa)), (2, .int (nI fb))] := hl
  refine lv_lconst (v := 0) hx hb dG_unitsSunk2_0 (by decide) ?_
  refine lv_lstore_n (lv' := [(3, .long 0), (0, .ref g), (1, .int (nI fa)), (2, .int (nI fb))]) hx hb dG_unitsSunk2_1 rfl hl (by decide) rfl (fun ls hl => ?_)
  refine lv_iload_n hx hb dG_unitsSunk2_2 rfl (lv_at hl 2 rfl) ?_
  refine lv_istore (lv' := [(5, .int (nI fa)), (3, .long 0), (0, .ref g), (1, .int (nI fa)), (2, .int (nI fb))]) hx hb dG_unitsSunk2_3 hl (by decide) rfl (fun ls hl => ?_)
  -- the loop at 5
  have hP : va_P (dC, dI) vwCl [(g, .inr (0, [.ref so, .ref lo, .ref qpr, .ref qpa, .int (nI dy), .long co, .long wo])), (qpr, .inl (cJ, 30, .inr (.inl pr))), (qpa, .inl (cJ, 30, .inr (.inl pa))), (so, .inr (3, [.ref qlk, .ref qln, .ref qhd, .ref qsf, .ref qfp, .ref qfc, .int (nI ly), .int (nI ce), .int da, .int db, .int dr])), (qhd, .inl (cI, 30, .inl hd)), (qsf, .inl (cI, 30, .inl sf)), (qfp, .inl (cI, 30, .inl fp))] s.heap := by first | exact hP | simpa only [] using hP
  have hD : va_D A [(g, .inr (0, [.ref so, .ref lo, .ref qpr, .ref qpa, .int (nI dy), .long co, .long wo])), (qpr, .inl (cJ, 30, .inr (.inl pr))), (qpa, .inl (cJ, 30, .inr (.inl pa))), (so, .inr (3, [.ref qlk, .ref qln, .ref qhd, .ref qsf, .ref qfp, .ref qfc, .int (nI ly), .int (nI ce), .int da, .int db, .int dr])), (qhd, .inl (cI, 30, .inl hd)), (qsf, .inl (cI, 30, .inl sf)), (qfp, .inl (cI, 30, .inl fp))] := by first | exact hD | simpa only [] using hD
  have eq1 : 0 = k_units hd sf fp co pr pa fa fa := k_seg_0
  rw [eq1] at hl
  refine x_loop (N := fb) (I := fun i H locs ls => va_P (dC, dI) vwCl [(g, .inr (0, [.ref so, .ref lo, .ref qpr, .ref qpa, .int (nI dy), .long co, .long wo])), (qpr, .inl (cJ, 30, .inr (.inl pr))), (qpa, .inl (cJ, 30, .inr (.inl pa))), (so, .inr (3, [.ref qlk, .ref qln, .ref qhd, .ref qsf, .ref qfp, .ref qfc, .int (nI ly), .int (nI ce), .int da, .int db, .int dr])), (qhd, .inl (cI, 30, .inl hd)), (qsf, .inl (cI, 30, .inl sf)), (qfp, .inl (cI, 30, .inl fp))] H ∧ va_D A [(g, .inr (0, [.ref so, .ref lo, .ref qpr, .ref qpa, .int (nI dy), .long co, .long wo])), (qpr, .inl (cJ, 30, .inr (.inl pr))), (qpa, .inl (cJ, 30, .inr (.inl pa))), (so, .inr (3, [.ref qlk, .ref qln, .ref qhd, .ref qsf, .ref qfp, .ref qfc, .int (nI ly), .int (nI ce), .int da, .int db, .int dr])), (qhd, .inl (cI, 30, .inl hd)), (qsf, .inl (cI, 30, .inl sf)), (qfp, .inl (cI, 30, .inl fp))] ∧ va_S A s.heap H locs ∧ lv_has ls 6 [(0, .ref g), (2, .int (nI fb)), (3, .long (k_units hd sf fp co pr pa fa i)), (5, .int (nI i))] ∧ (fa ≤ i)) (i0 := fa) ?_ hab ⟨hP, hD, hS, lv_sub hl [2, 4, 1, 0] rfl, Nat.le_refl _⟩
  intro i hi ih5 H locs ls hI
  obtain ⟨hP, hD, hS, hl, hE5⟩ := hI
  refine lv_iload hx hb dG_unitsSunk2_5 (lv_at hl 3 rfl) ?_
  refine lv_iload_n hx hb dG_unitsSunk2_7 rfl (lv_at hl 1 rfl) ?_
  refine lv_icmp_ge (tgt := 42) hx hb dG_unitsSunk2_8 (by decide) (fun hc8 => ?_) (fun hc8 => ?_)
  · -- 8 taken
    rw [nI_leI (by omega) (by omega)] at hc8
    obtain rfl : fb = i := by omega
    refine lv_lload_n hx hb dG_unitsSunk2_42 rfl (lv_at hl 2 rfl) ?_
    have hP : va_P (dC, dI) vwCl [(g, .inr (0, [.ref so, .ref lo, .ref qpr, .ref qpa, .int (nI dy), .long co, .long wo])), (qpr, .inl (cJ, 30, .inr (.inl pr))), (qpa, .inl (cJ, 30, .inr (.inl pa))), (so, .inr (3, [.ref qlk, .ref qln, .ref qhd, .ref qsf, .ref qfp, .ref qfc, .int (nI ly), .int (nI ce), .int da, .int db, .int dr])), (qhd, .inl (cI, 30, .inl hd)), (qsf, .inl (cI, 30, .inl sf)), (qfp, .inl (cI, 30, .inl fp))] H := by first | exact hP | simpa only [] using hP
    have hD : va_D A [(g, .inr (0, [.ref so, .ref lo, .ref qpr, .ref qpa, .int (nI dy), .long co, .long wo])), (qpr, .inl (cJ, 30, .inr (.inl pr))), (qpa, .inl (cJ, 30, .inr (.inl pa))), (so, .inr (3, [.ref qlk, .ref qln, .ref qhd, .ref qsf, .ref qfp, .ref qfc, .int (nI ly), .int (nI ce), .int da, .int db, .int dr])), (qhd, .inl (cI, 30, .inl hd)), (qsf, .inl (cI, 30, .inl sf)), (qfp, .inl (cI, 30, .inl fp))] := by first | exact hD | simpa only [] using hD
    exact W.lret (v := k_units hd sf fp co pr pa fa fb) hx hb hr (fun t ht hW => ⟨⟨k_units hd sf fp co pr pa fa fb, (), rfl, rfl, by rw [ht]; exact hP, va_K.moved hW.alike hK, hD⟩, hS.F ht⟩) hS.2.2 dG_unitsSunk2_43
  · -- 8 not taken
    rw [nI_leI (by omega) (by omega)] at hc8
    refine lv_lload_n hx hb dG_unitsSunk2_11 rfl (lv_at hl 2 rfl) ?_
    refine lv_aload_n hx hb dG_unitsSunk2_12 rfl (lv_at hl 0 rfl) ?_
    refine va_get (D := (dC, dI)) (ci := 0) (v := .ref so) (C := R_G) (T := T_G) (N := 7) hx hb htw in_G hown hK hP 0 rfl rfl 0 (by decide) (htw _ m_114) (fun _ h9 => h9) rfl dG_unitsSunk2_13 ?_
    refine lv_iload hx hb dG_unitsSunk2_16 (lv_at hl 3 rfl) ?_
    refine lv_aload_n hx hb dG_unitsSunk2_18 rfl (lv_at hl 0 rfl) ?_
    refine lv_iload hx hb dG_unitsSunk2_19 (lv_at hl 3 rfl) ?_
    have hPc := hP.sub (ws' := [(g, .inr (0, [.ref so, .ref lo, .ref qpr, .ref qpa, .int (nI dy), .long co, .long wo])), (qpr, .inl (cJ, 30, .inr (.inl pr)))]) [0, 1] rfl
    have hDc := hD.sub (ws' := [(g, .inr (0, [.ref so, .ref lo, .ref qpr, .ref qpa, .int (nI dy), .long co, .long wo])), (qpr, .inl (cJ, 30, .inr (.inl pr)))]) [0, 1] (by decide) rfl
    have hFc := va_free (wc := [(g, .inr (0, [.ref so, .ref lo, .ref qpr, .ref qpa, .int (nI dy), .long co, .long wo])), (qpr, .inl (cJ, 30, .inr (.inl pr)))]) hD hS hA [0, 1] rfl
    refine va_calll (va_runV (As := [.int (nI i)]) (rest := [.int (nI i), .ref so, .long (k_units hd sf fp co pr pa fa i)]) ⟨hx, hb, hml, hown, htw⟩ (kG_carried l dC dI cI cJ g so lo qpr qpa H.size i dy co wo pr (by first | assumption | omega | decide)) (cwV 1 htw (wv_good m_225 m_226 m_227 m_5 m_228) rfl rfl rfl (by decide +kernel) ⟨Nat.le_of_ble_eq_true rfl, Nat.le_of_ble_eq_true rfl⟩) ⟨fun a U g mk q => by obtain ⟨q0, q1, qP, qK, qD⟩ := q; exact ⟨q0, q1, qP, va_K.moved (u := U) (U := U.calling g mk a) (Vm.Alike.refl U.vm) qK, qD⟩, va_recv hK hPc (ci := 0) (q0 := 0) rfl rfl, fun U hU hW => ⟨rfl, by rw [hU], by rw [hU]; exact hPc, va_K.moved hW.alike hK, hDc.weaken (fun _ _ _ _ => trivial)⟩⟩ rfl rfl hl.1 rfl (lv_room (Nat.le_of_ble_eq_true rfl)) dG_unitsSunk2_21 ⟨Nat.le_of_ble_eq_true rfl, Nat.le_of_ble_eq_true rfl⟩) hS (fun q _ h => hFc q h) hFc (fun res_ u_ t H1 locs ht hvm hw hB hz1 hk1 hS => ?_)
    obtain ⟨hP1, hK1, hD1⟩ := hB
    rw [ht] at hP1
    obtain ⟨hP, hD⟩ := va_join (wr := [(qpa, .inl (cJ, 30, .inr (.inl pa))), (so, .inr (3, [.ref qlk, .ref qln, .ref qhd, .ref qsf, .ref qfp, .ref qfc, .int (nI ly), .int (nI ce), .int da, .int db, .int dr])), (qhd, .inl (cI, 30, .inl hd)), (qsf, .inl (cI, 30, .inl sf)), (qfp, .inl (cI, 30, .inl fp))]) (w1 := [(g, .inr (0, [.ref so, .ref lo, .ref qpr, .ref qpa, .int (nI dy), .long co, .long wo])), (qpr, .inl (cJ, 30, .inr (.inl pr)))]) hP hD [0, 1] [2, 3, 4, 5, 6] rfl rfl (by decide) (by decide) hk1 hFc hP1 hD1
    generalize H1 = H at hP hS ⊢
    have hP := hP.sub (ws' := [(g, .inr (0, [.ref so, .ref lo, .ref qpr, .ref qpa, .int (nI dy), .long co, .long wo])), (qpr, .inl (cJ, 30, .inr (.inl pr))), (qpa, .inl (cJ, 30, .inr (.inl pa))), (so, .inr (3, [.ref qlk, .ref qln, .ref qhd, .ref qsf, .ref qfp, .ref qfc, .int (nI ly), .int (nI ce), .int da, .int db, .int dr])), (qhd, .inl (cI, 30, .inl hd)), (qsf, .inl (cI, 30, .inl sf)), (qfp, .inl (cI, 30, .inl fp))]) [5, 6, 0, 1, 2, 3, 4] rfl
    have hD := hD.sub (ws' := [(g, .inr (0, [.ref so, .ref lo, .ref qpr, .ref qpa, .int (nI dy), .long co, .long wo])), (qpr, .inl (cJ, 30, .inr (.inl pr))), (qpa, .inl (cJ, 30, .inr (.inl pa))), (so, .inr (3, [.ref qlk, .ref qln, .ref qhd, .ref qsf, .ref qfp, .ref qfc, .int (nI ly), .int (nI ce), .int da, .int db, .int dr])), (qhd, .inl (cI, 30, .inl hd)), (qsf, .inl (cI, 30, .inl sf)), (qfp, .inl (cI, 30, .inl fp))]) [5, 6, 0, 1, 2, 3, 4] (by decide) rfl
    clear hPc hDc hFc hP1 hD1 hK1 hk1 hz1 hvm ht
    obtain rfl : res_ = co - pr i := hw
    refine lv_aload_n hx hb dG_unitsSunk2_24 rfl (lv_at hl 0 rfl) ?_
    refine va_get (D := (dC, dI)) (ci := 0) (v := .ref qpa) (C := R_G) (T := T_G) (N := 7) hx hb htw in_G hown hK hP 0 rfl rfl 3 (by decide) (htw _ m_118) (fun _ h9 => h9) rfl dG_unitsSunk2_25 ?_
    refine lv_iload hx hb dG_unitsSunk2_28 (lv_at hl 3 rfl) ?_
    refine xa_lald hx hb hK hP 2 1 rfl rfl (i := i) (by omega) (by decide) dG_unitsSunk2_30 ?_
    have hPc := hP.sub (ws' := [(so, .inr (3, [.ref qlk, .ref qln, .ref qhd, .ref qsf, .ref qfp, .ref qfc, .int (nI ly), .int (nI ce), .int da, .int db, .int dr])), (qhd, .inl (cI, 30, .inl hd)), (qsf, .inl (cI, 30, .inl sf)), (qfp, .inl (cI, 30, .inl fp))]) [3, 4, 5, 6] rfl
    have hDc := hD.sub (ws' := [(so, .inr (3, [.ref qlk, .ref qln, .ref qhd, .ref qsf, .ref qfp, .ref qfc, .int (nI ly), .int (nI ce), .int da, .int db, .int dr])), (qhd, .inl (cI, 30, .inl hd)), (qsf, .inl (cI, 30, .inl sf)), (qfp, .inl (cI, 30, .inl fp))]) [3, 4, 5, 6] (by decide) rfl
    have hFc := va_free (wc := [(so, .inr (3, [.ref qlk, .ref qln, .ref qhd, .ref qsf, .ref qfp, .ref qfc, .int (nI ly), .int (nI ce), .int da, .int db, .int dr])), (qhd, .inl (cI, 30, .inl hd)), (qsf, .inl (cI, 30, .inl sf)), (qfp, .inl (cI, 30, .inl fp))]) hD hS hA [3, 4, 5, 6] rfl
    refine va_calll (va_runV (As := [.int (nI i), .long (co - pr i), .long (pa i)]) (rest := [.long (k_units hd sf fp co pr pa fa i)]) ⟨hx, hb, hml, hown, htw⟩ (kS_unitsSunk l dC dI cI cJ so qlk qln qhd qsf qfp qfc H.size i (co - pr i) (pa i) ly ce da db dr hd sf fp (by first | assumption | omega | decide)) (cwV 3 htw (wv_good m_240 m_241 m_242 m_2 m_243) rfl rfl rfl (by decide +kernel) ⟨Nat.le_of_ble_eq_true rfl, Nat.le_of_ble_eq_true rfl⟩) ⟨fun a U g mk q => by obtain ⟨q0, q1, qP, qK, qD⟩ := q; exact ⟨q0, q1, qP, va_K.moved (u := U) (U := U.calling g mk a) (Vm.Alike.refl U.vm) qK, qD⟩, va_recv hK hPc (ci := 3) (q0 := 0) rfl rfl, fun U hU hW => ⟨rfl, by rw [hU], by rw [hU]; exact hPc, va_K.moved hW.alike hK, hDc.weaken (fun _ _ _ _ => trivial)⟩⟩ rfl rfl hl.1 rfl (lv_room (Nat.le_of_ble_eq_true rfl)) dG_unitsSunk2_31 ⟨Nat.le_of_ble_eq_true rfl, Nat.le_of_ble_eq_true rfl⟩) hS (fun q _ h => hFc q h) hFc (fun res_ u_ t H1 locs ht hvm hw hB hz1 hk1 hS => ?_)
    obtain ⟨hP1, hK1, hD1⟩ := hB
    rw [ht] at hP1
    obtain ⟨hP, hD⟩ := va_join (wr := [(g, .inr (0, [.ref so, .ref lo, .ref qpr, .ref qpa, .int (nI dy), .long co, .long wo])), (qpr, .inl (cJ, 30, .inr (.inl pr))), (qpa, .inl (cJ, 30, .inr (.inl pa)))]) (w1 := [(so, .inr (3, [.ref qlk, .ref qln, .ref qhd, .ref qsf, .ref qfp, .ref qfc, .int (nI ly), .int (nI ce), .int da, .int db, .int dr])), (qhd, .inl (cI, 30, .inl hd)), (qsf, .inl (cI, 30, .inl sf)), (qfp, .inl (cI, 30, .inl fp))]) hP hD [3, 4, 5, 6] [0, 1, 2] rfl rfl (by decide) (by decide) hk1 hFc hP1 hD1
    generalize H1 = H at hP hS ⊢
    have hP : va_P (dC, dI) vwCl [(g, .inr (0, [.ref so, .ref lo, .ref qpr, .ref qpa, .int (nI dy), .long co, .long wo])), (qpr, .inl (cJ, 30, .inr (.inl pr))), (qpa, .inl (cJ, 30, .inr (.inl pa))), (so, .inr (3, [.ref qlk, .ref qln, .ref qhd, .ref qsf, .ref qfp, .ref qfc, .int (nI ly), .int (nI ce), .int da, .int db, .int dr])), (qhd, .inl (cI, 30, .inl hd)), (qsf, .inl (cI, 30, .inl sf)), (qfp, .inl (cI, 30, .inl fp))] H := hP
    have hD : va_D A [(g, .inr (0, [.ref so, .ref lo, .ref qpr, .ref qpa, .int (nI dy), .long co, .long wo])), (qpr, .inl (cJ, 30, .inr (.inl pr))), (qpa, .inl (cJ, 30, .inr (.inl pa))), (so, .inr (3, [.ref qlk, .ref qln, .ref qhd, .ref qsf, .ref qfp, .ref qfc, .int (nI ly), .int (nI ce), .int da, .int db, .int dr])), (qhd, .inl (cI, 30, .inl hd)), (qsf, .inl (cI, 30, .inl sf)), (qfp, .inl (cI, 30, .inl fp))] := hD
    clear hPc hDc hFc hP1 hD1 hK1 hk1 hz1 hvm ht
    obtain rfl : res_ = k_u1 hd sf fp i (co - pr i) (pa i) := hw
    refine lv_ladd hx hb dG_unitsSunk2_34 ?_
    refine lv_lstore_n (lv' := [(3, .long ((k_units hd sf fp co pr pa fa i) + (k_u1 hd sf fp i (co - pr i) (pa i)))), (0, .ref g), (2, .int (nI fb)), (5, .int (nI i))]) hx hb dG_unitsSunk2_35 rfl hl (by decide) rfl (fun ls hl => ?_)
    refine lv_iinc (v := nI (i + 1)) (lv' := [(5, .int (nI (i + 1))), (3, .long ((k_units hd sf fp co pr pa fa i) + (k_u1 hd sf fp i (co - pr i) (pa i)))), (0, .ref g), (2, .int (nI fb))]) hx hb dG_unitsSunk2_36 hl (k := 3) rfl (nI_1 _) (by decide) rfl (fun ls hl => ?_)
    refine lv_goto (tgt := 5) hx hb dG_unitsSunk2_39 (by decide) ?_
    have hP : va_P (dC, dI) vwCl [(g, .inr (0, [.ref so, .ref lo, .ref qpr, .ref qpa, .int (nI dy), .long co, .long wo])), (qpr, .inl (cJ, 30, .inr (.inl pr))), (qpa, .inl (cJ, 30, .inr (.inl pa))), (so, .inr (3, [.ref qlk, .ref qln, .ref qhd, .ref qsf, .ref qfp, .ref qfc, .int (nI ly), .int (nI ce), .int da, .int db, .int dr])), (qhd, .inl (cI, 30, .inl hd)), (qsf, .inl (cI, 30, .inl sf)), (qfp, .inl (cI, 30, .inl fp))] H := by first | exact hP | simpa only [] using hP
    have hD : va_D A [(g, .inr (0, [.ref so, .ref lo, .ref qpr, .ref qpa, .int (nI dy), .long co, .long wo])), (qpr, .inl (cJ, 30, .inr (.inl pr))), (qpa, .inl (cJ, 30, .inr (.inl pa))), (so, .inr (3, [.ref qlk, .ref qln, .ref qhd, .ref qsf, .ref qfp, .ref qfc, .int (nI ly), .int (nI ce), .int da, .int db, .int dr])), (qhd, .inl (cI, 30, .inl hd)), (qsf, .inl (cI, 30, .inl sf)), (qfp, .inl (cI, 30, .inl fp))] := by first | exact hD | simpa only [] using hD
    have eq2 : ((k_units hd sf fp co pr pa fa i) + (k_u1 hd sf fp i (co - pr i) (pa i))) = k_units hd sf fp co pr pa fa (i + 1) := k_seg_s (by omega)
    rw [eq2] at hl
    exact ih5 (by omega) _ _ _ ⟨hP, hD, hS, lv_sub hl [2, 3, 1, 0] rfl, Nat.le_succ_of_le hE5⟩
set_option maxHeartbeats 4000000 in
set_option maxRecDepth 100000 in
theorem kG_unitsSunk (l : Launch) (dC : Nat → ClassId) (dI : Nat → Nat → Nat) (cI cJ : ClassId) (g so lo qpr qpa qlk qln qhd qsf qfp qfc : Nat) (sz : Nat) (dy : Nat) (co : Int64) (wo : Int64) (pr : Nat → Int64) (pa : Nat → Int64) (ly : Nat) (ce : Nat) (da : Int32) (db : Int32) (dr : Int32) (hd : Nat → Int32) (sf : Nat → Int32) (fp : Nat → Int32) (hce : ce ≤ 30) : Met l yG_unitsSunk wG_unitsSunk ({ frames := 2, cells := 0, slots := 0, locals := 50 }) (va_Pc [.ref g] (fun U => U.heap.size = sz ∧ va_P (dC, dI) vwCl [(g, .inr (0, [.ref so, .ref lo, .ref qpr, .ref qpa, .int (nI dy), .long co, .long wo])), (qpr, .inl (cJ, 30, .inr (.inl pr))), (qpa, .inl (cJ, 30, .inr (.inl pa))), (so, .inr (3, [.ref qlk, .ref qln, .ref qhd, .ref qsf, .ref qfp, .ref qfc, .int (nI ly), .int (nI ce), .int da, .int db, .int dr])), (qhd, .inl (cI, 30, .inl hd)), (qsf, .inl (cI, 30, .inl sf)), (qfp, .inl (cI, 30, .inl fp))] U.heap ∧ va_K (dC, dI) vwCl [(cI, .int), (cJ, .long)] U ∧ va_D (fun _ => True) [(g, .inr (0, [.ref so, .ref lo, .ref qpr, .ref qpa, .int (nI dy), .long co, .long wo])), (qpr, .inl (cJ, 30, .inr (.inl pr))), (qpa, .inl (cJ, 30, .inr (.inl pa))), (so, .inr (3, [.ref qlk, .ref qln, .ref qhd, .ref qsf, .ref qfp, .ref qfc, .int (nI ly), .int (nI ce), .int da, .int db, .int dr])), (qhd, .inl (cI, 30, .inl hd)), (qsf, .inl (cI, 30, .inl sf)), (qfp, .inl (cI, 30, .inl fp))])) (va_Ql (fun res_ (_ : Unit) => res_ = k_units hd sf fp co pr pa 0 ce) (fun _ t => va_P (dC, dI) vwCl [(g, .inr (0, [.ref so, .ref lo, .ref qpr, .ref qpa, .int (nI dy), .long co, .long wo])), (qpr, .inl (cJ, 30, .inr (.inl pr))), (qpa, .inl (cJ, 30, .inr (.inl pa))), (so, .inr (3, [.ref qlk, .ref qln, .ref qhd, .ref qsf, .ref qfp, .ref qfc, .int (nI ly), .int (nI ce), .int da, .int db, .int dr])), (qhd, .inl (cI, 30, .inl hd)), (qsf, .inl (cI, 30, .inl sf)), (qfp, .inl (cI, 30, .inl fp))] t.heap ∧ va_K (dC, dI) vwCl [(cI, .int), (cJ, .long)] t ∧ va_D (va_A [(g, .inr (0, [.ref so, .ref lo, .ref qpr, .ref qpa, .int (nI dy), .long co, .long wo])), (qpr, .inl (cJ, 30, .inr (.inl pr))), (qpa, .inl (cJ, 30, .inr (.inl pa))), (so, .inr (3, [.ref qlk, .ref qln, .ref qhd, .ref qsf, .ref qfp, .ref qfc, .int (nI ly), .int (nI ce), .int da, .int db, .int dr])), (qhd, .inl (cI, 30, .inl hd)), (qsf, .inl (cI, 30, .inl sf)), (qfp, .inl (cI, 30, .inl fp))] sz) [(g, .inr (0, [.ref so, .ref lo, .ref qpr, .ref qpa, .int (nI dy), .long co, .long wo])), (qpr, .inl (cJ, 30, .inr (.inl pr))), (qpa, .inl (cJ, 30, .inr (.inl pa))), (so, .inr (3, [.ref qlk, .ref qln, .ref qhd, .ref qsf, .ref qfp, .ref qfc, .int (nI ly), .int (nI ce), .int da, .int db, .int dr])), (qhd, .inl (cI, 30, .inl hd)), (qsf, .inl (cI, 30, .inl sf)), (qfp, .inl (cI, 30, .inl fp))]) (va_A [(g, .inr (0, [.ref so, .ref lo, .ref qpr, .ref qpa, .int (nI dy), .long co, .long wo])), (qpr, .inl (cJ, 30, .inr (.inl pr))), (qpa, .inl (cJ, 30, .inr (.inl pa))), (so, .inr (3, [.ref qlk, .ref qln, .ref qhd, .ref qsf, .ref qfp, .ref qfc, .int (nI ly), .int (nI ce), .int da, .int db, .int dr])), (qhd, .inl (cI, 30, .inl hd)), (qsf, .inl (cI, 30, .inl sf)), (qfp, .inl (cI, 30, .inl fp))] sz)) 0 0 (va_A [(g, .inr (0, [.ref so, .ref lo, .ref qpr, .ref qpa, .int (nI dy), .long co, .long wo])), (qpr, .inl (cJ, 30, .inr (.inl pr))), (qpa, .inl (cJ, 30, .inr (.inl pa))), (so, .inr (3, [.ref qlk, .ref qln, .ref qhd, .ref qsf, .ref qfp, .ref qfc, .int (nI ly), .int (nI ce), .int da, .int db, .int dr])), (qhd, .inl (cI, 30, .inl hd)), (qsf, .inl (cI, 30, .inl sf)), (qfp, .inl (cI, 30, .inl fp))] sz) := by
  refine Met.ofW (cc := bG_unitsSunk) (maxL := 1) (ret := (some .long)) (by decide) rfl ?_
  intro p e s m args below meth c s₁ B hml hv
  obtain ⟨rfl, hsz, hP, hK, hD0⟩ := hv
  have hx := B.exec
  have hb := B.bytes
  have hr := B.returns
  have hts := atoms_spec (ws := wG_unitsSunk) B.pre
  have hown : s.vm.findClass R_G = some m.cls := findClass_of_methodNamed B.named
  have htw : ∀ w ∈ WA, w.before _ s = true := fun w h => hts w (List.mem_cons_of_mem _ h)
  clear hts
  have hlocks := B.notSynchronized
  subst hsz
  have hD := hD0.self (sz := s.heap.size)
  generalize hAe : va_A [(g, .inr (0, [.ref so, .ref lo, .ref qpr, .ref qpa, .int (nI dy), .long co, .long wo])), (qpr, .inl (cJ, 30, .inr (.inl pr))), (qpa, .inl (cJ, 30, .inr (.inl pa))), (so, .inr (3, [.ref qlk, .ref qln, .ref qhd, .ref qsf, .ref qfp, .ref qfc, .int (nI ly), .int (nI ce), .int da, .int db, .int dr])), (qhd, .inl (cI, 30, .inl hd)), (qsf, .inl (cI, 30, .inl sf)), (qfp, .inl (cI, 30, .inl fp))] s.heap.size = A at hD ⊢
  have hA : ∀ q : Nat, s.heap.size ≤ q → A q := fun q h => by rw [← hAe]; exact Or.inr h
  clear hAe hD0
  have hS : va_S A s.heap s.heap [] := va_S.rf
  have hP : va_P (dC, dI) vwCl [(g, .inr (0, [.ref so, .ref lo, .ref qpr, .ref qpa, .int (nI dy), .long co, .long wo])), (qpr, .inl (cJ, 30, .inr (.inl pr))), (qpa, .inl (cJ, 30, .inr (.inl pa))), (so, .inr (3, [.ref qlk, .ref qln, .ref qhd, .ref qsf, .ref qfp, .ref qfc, .int (nI ly), .int (nI ce), .int da, .int db, .int dr])), (qhd, .inl (cI, 30, .inl hd)), (qsf, .inl (cI, 30, .inl sf)), (qfp, .inl (cI, 30, .inl fp))] s.heap := hP
  have hl := lv_entry ([.ref g]) (n := 1) (Nat.le_of_ble_eq_true rfl)
  rw [lg_entry_eq]
  generalize (lg_sl ([.ref g]) ++ List.replicate (1 - (lg_sl ([.ref g])).length) Slot.unset).toArray = ls at hl ⊢
  have hl : lv_has ls 1 [(0, .ref g)] := hl
  refine lv_aload_n hx hb dG_unitsSunk_0 rfl (lv_at hl 0 rfl) ?_
  refine lv_iconst (v := nI 0) hx hb dG_unitsSunk_1 (by decide) ?_
  refine lv_aload_n hx hb dG_unitsSunk_2 rfl (lv_at hl 0 rfl) ?_
  refine va_get (D := (dC, dI)) (ci := 0) (v := .ref so) (C := R_G) (T := T_G) (N := 7) hx hb htw in_G hown hK hP 0 rfl rfl 0 (by decide) (htw _ m_114) (fun _ h9 => h9) rfl dG_unitsSunk_3 ?_
  refine va_get (D := (dC, dI)) (ci := 3) (v := .int (nI ce)) (C := R_S) (T := T_S) (N := 11) hx hb htw in_S hown hK hP 3 rfl rfl 7 (by decide) (htw _ m_35) (fun _ h9 => h9) rfl dG_unitsSunk_6 ?_
  have hPc := hP.sub (ws' := [(g, .inr (0, [.ref so, .ref lo, .ref qpr, .ref qpa, .int (nI dy), .long co, .long wo])), (qpr, .inl (cJ, 30, .inr (.inl pr))), (qpa, .inl (cJ, 30, .inr (.inl pa))), (so, .inr (3, [.ref qlk, .ref qln, .ref qhd, .ref qsf, .ref qfp, .ref qfc, .int (nI ly), .int (nI ce), .int da, .int db, .int dr])), (qhd, .inl (cI, 30, .inl hd)), (qsf, .inl (cI, 30, .inl sf)), (qfp, .inl (cI, 30, .inl fp))]) [0, 1, 2, 3, 4, 5, 6] rfl
  have hDc := hD.sub (ws' := [(g, .inr (0, [.ref so, .ref lo, .ref qpr, .ref qpa, .int (nI dy), .long co, .long wo])), (qpr, .inl (cJ, 30, .inr (.inl pr))), (qpa, .inl (cJ, 30, .inr (.inl pa))), (so, .inr (3, [.ref qlk, .ref qln, .ref qhd, .ref qsf, .ref qfp, .ref qfc, .int (nI ly), .int (nI ce), .int da, .int db, .int dr])), (qhd, .inl (cI, 30, .inl hd)), (qsf, .inl (cI, 30, .inl sf)), (qfp, .inl (cI, 30, .inl fp))]) [0, 1, 2, 3, 4, 5, 6] (by decide) rfl
  have hFc := va_free (wc := [(g, .inr (0, [.ref so, .ref lo, .ref qpr, .ref qpa, .int (nI dy), .long co, .long wo])), (qpr, .inl (cJ, 30, .inr (.inl pr))), (qpa, .inl (cJ, 30, .inr (.inl pa))), (so, .inr (3, [.ref qlk, .ref qln, .ref qhd, .ref qsf, .ref qfp, .ref qfc, .int (nI ly), .int (nI ce), .int da, .int db, .int dr])), (qhd, .inl (cI, 30, .inl hd)), (qsf, .inl (cI, 30, .inl sf)), (qfp, .inl (cI, 30, .inl fp))]) hD hS hA [0, 1, 2, 3, 4, 5, 6] rfl
  refine va_calll (va_runV (As := [.int (nI 0), .int (nI ce)]) (rest := []) ⟨hx, hb, hml, hown, htw⟩ (kG_unitsSunk2 l dC dI cI cJ g so lo qpr qpa qlk qln qhd qsf qfp qfc s.heap.size 0 ce dy co wo pr pa ly ce da db dr hd sf fp (by first | assumption | omega | decide) (by first | assumption | omega | decide)) (cwV 2 htw (wv_good m_236 m_237 m_238 m_5 m_239) rfl rfl rfl (by decide +kernel) ⟨Nat.le_of_ble_eq_true rfl, Nat.le_of_ble_eq_true rfl⟩) ⟨fun a U g mk q => by obtain ⟨q0, q1, qP, qK, qD⟩ := q; exact ⟨q0, q1, qP, va_K.moved (u := U) (U := U.calling g mk a) (Vm.Alike.refl U.vm) qK, qD⟩, va_recv hK hPc (ci := 0) (q0 := 0) rfl rfl, fun U hU hW => ⟨rfl, by rw [hU], by rw [hU]; exact hPc, va_K.moved hW.alike hK, hDc.weaken (fun _ _ _ _ => trivial)⟩⟩ rfl rfl hl.1 rfl (lv_room (Nat.le_of_ble_eq_true rfl)) dG_unitsSunk_9 ⟨Nat.le_of_ble_eq_true rfl, Nat.le_of_ble_eq_true rfl⟩) hS (fun q _ h => hFc q h) hFc (fun res_ u_ t H1 locs ht hvm hw hB hz1 hk1 hS => ?_)
  obtain ⟨hP1, hK1, hD1⟩ := hB
  rw [ht] at hP1
  obtain ⟨hP, hD⟩ := va_join (wr := []) (w1 := [(g, .inr (0, [.ref so, .ref lo, .ref qpr, .ref qpa, .int (nI dy), .long co, .long wo])), (qpr, .inl (cJ, 30, .inr (.inl pr))), (qpa, .inl (cJ, 30, .inr (.inl pa))), (so, .inr (3, [.ref qlk, .ref qln, .ref qhd, .ref qsf, .ref qfp, .ref qfc, .int (nI ly), .int (nI ce), .int da, .int db, .int dr])), (qhd, .inl (cI, 30, .inl hd)), (qsf, .inl (cI, 30, .inl sf)), (qfp, .inl (cI, 30, .inl fp))]) hP hD [0, 1, 2, 3, 4, 5, 6] [] rfl rfl (by decide) (by decide) hk1 hFc hP1 hD1
  generalize H1 = H at hP hS ⊢
  have hP : va_P (dC, dI) vwCl [(g, .inr (0, [.ref so, .ref lo, .ref qpr, .ref qpa, .int (nI dy), .long co, .long wo])), (qpr, .inl (cJ, 30, .inr (.inl pr))), (qpa, .inl (cJ, 30, .inr (.inl pa))), (so, .inr (3, [.ref qlk, .ref qln, .ref qhd, .ref qsf, .ref qfp, .ref qfc, .int (nI ly), .int (nI ce), .int da, .int db, .int dr])), (qhd, .inl (cI, 30, .inl hd)), (qsf, .inl (cI, 30, .inl sf)), (qfp, .inl (cI, 30, .inl fp))] H := hP
  have hD : va_D A [(g, .inr (0, [.ref so, .ref lo, .ref qpr, .ref qpa, .int (nI dy), .long co, .long wo])), (qpr, .inl (cJ, 30, .inr (.inl pr))), (qpa, .inl (cJ, 30, .inr (.inl pa))), (so, .inr (3, [.ref qlk, .ref qln, .ref qhd, .ref qsf, .ref qfp, .ref qfc, .int (nI ly), .int (nI ce), .int da, .int db, .int dr])), (qhd, .inl (cI, 30, .inl hd)), (qsf, .inl (cI, 30, .inl sf)), (qfp, .inl (cI, 30, .inl fp))] := hD
  clear hPc hDc hFc hP1 hD1 hK1 hk1 hz1 hvm ht
  obtain rfl : res_ = k_units hd sf fp co pr pa 0 ce := hw
  have hP : va_P (dC, dI) vwCl [(g, .inr (0, [.ref so, .ref lo, .ref qpr, .ref qpa, .int (nI dy), .long co, .long wo])), (qpr, .inl (cJ, 30, .inr (.inl pr))), (qpa, .inl (cJ, 30, .inr (.inl pa))), (so, .inr (3, [.ref qlk, .ref qln, .ref qhd, .ref qsf, .ref qfp, .ref qfc, .int (nI ly), .int (nI ce), .int da, .int db, .int dr])), (qhd, .inl (cI, 30, .inl hd)), (qsf, .inl (cI, 30, .inl sf)), (qfp, .inl (cI, 30, .inl fp))] H := by first | exact hP | simpa only [] using hP
  have hD : va_D A [(g, .inr (0, [.ref so, .ref lo, .ref qpr, .ref qpa, .int (nI dy), .long co, .long wo])), (qpr, .inl (cJ, 30, .inr (.inl pr))), (qpa, .inl (cJ, 30, .inr (.inl pa))), (so, .inr (3, [.ref qlk, .ref qln, .ref qhd, .ref qsf, .ref qfp, .ref qfc, .int (nI ly), .int (nI ce), .int da, .int db, .int dr])), (qhd, .inl (cI, 30, .inl hd)), (qsf, .inl (cI, 30, .inl sf)), (qfp, .inl (cI, 30, .inl fp))] := by first | exact hD | simpa only [] using hD
  exact W.lret (v := k_units hd sf fp co pr pa 0 ce) hx hb hr (fun t ht hW => ⟨⟨k_units hd sf fp co pr pa 0 ce, (), rfl, rfl, by rw [ht]; exact hP, va_K.moved hW.alike hK, hD⟩, hS.F ht⟩) hS.2.2 dG_unitsSunk_12
set_option maxHeartbeats 4000000 in
set_option maxRecDepth 100000 in
theorem kG_unitsAtEnd (l : Launch) (dC : Nat → ClassId) (dI : Nat → Nat → Nat) (cI cJ : ClassId) (g so lo qpr qpa qlk qln qhd qsf qfp qfc qld qlz : Nat) (sz : Nat) (dy : Nat) (co : Int64) (wo : Int64) (pa : Nat → Int64) (ly : Nat) (ce : Nat) (da : Int32) (db : Int32) (dr : Int32) (hd : Nat → Int32) (sf : Nat → Int32) (fp : Nat → Int32) (mn : Nat) (sm : Int64) (hce : ce ≤ 30) : Met l yG_unitsAtEnd wG_unitsAtEnd ({ frames := 1, cells := 0, slots := 0, locals := 25 }) (va_Pc [.ref g] (fun U => U.heap.size = sz ∧ va_P (dC, dI) vwCl [(g, .inr (0, [.ref so, .ref lo, .ref qpr, .ref qpa, .int (nI dy), .long co, .long wo])), (qpa, .inl (cJ, 30, .inr (.inl pa))), (so, .inr (3, [.ref qlk, .ref qln, .ref qhd, .ref qsf, .ref qfp, .ref qfc, .int (nI ly), .int (nI ce), .int da, .int db, .int dr])), (qhd, .inl (cI, 30, .inl hd)), (qsf, .inl (cI, 30, .inl sf)), (qfp, .inl (cI, 30, .inl fp)), (lo, .inr (1, [.ref qld, .ref qlz, .int (nI mn), .long sm]))] U.heap ∧ va_K (dC, dI) vwCl [(cI, .int), (cJ, .long)] U ∧ va_D (fun _ => True) [(g, .inr (0, [.ref so, .ref lo, .ref qpr, .ref qpa, .int (nI dy), .long co, .long wo])), (qpa, .inl (cJ, 30, .inr (.inl pa))), (so, .inr (3, [.ref qlk, .ref qln, .ref qhd, .ref qsf, .ref qfp, .ref qfc, .int (nI ly), .int (nI ce), .int da, .int db, .int dr])), (qhd, .inl (cI, 30, .inl hd)), (qsf, .inl (cI, 30, .inl sf)), (qfp, .inl (cI, 30, .inl fp)), (lo, .inr (1, [.ref qld, .ref qlz, .int (nI mn), .long sm]))])) (va_Ql (fun res_ (_ : Unit) => res_ = k_end hd sf fp sm pa ce) (fun _ t => va_P (dC, dI) vwCl [(g, .inr (0, [.ref so, .ref lo, .ref qpr, .ref qpa, .int (nI dy), .long co, .long wo])), (qpa, .inl (cJ, 30, .inr (.inl pa))), (so, .inr (3, [.ref qlk, .ref qln, .ref qhd, .ref qsf, .ref qfp, .ref qfc, .int (nI ly), .int (nI ce), .int da, .int db, .int dr])), (qhd, .inl (cI, 30, .inl hd)), (qsf, .inl (cI, 30, .inl sf)), (qfp, .inl (cI, 30, .inl fp)), (lo, .inr (1, [.ref qld, .ref qlz, .int (nI mn), .long sm]))] t.heap ∧ va_K (dC, dI) vwCl [(cI, .int), (cJ, .long)] t ∧ va_D (va_A [(g, .inr (0, [.ref so, .ref lo, .ref qpr, .ref qpa, .int (nI dy), .long co, .long wo])), (qpa, .inl (cJ, 30, .inr (.inl pa))), (so, .inr (3, [.ref qlk, .ref qln, .ref qhd, .ref qsf, .ref qfp, .ref qfc, .int (nI ly), .int (nI ce), .int da, .int db, .int dr])), (qhd, .inl (cI, 30, .inl hd)), (qsf, .inl (cI, 30, .inl sf)), (qfp, .inl (cI, 30, .inl fp)), (lo, .inr (1, [.ref qld, .ref qlz, .int (nI mn), .long sm]))] sz) [(g, .inr (0, [.ref so, .ref lo, .ref qpr, .ref qpa, .int (nI dy), .long co, .long wo])), (qpa, .inl (cJ, 30, .inr (.inl pa))), (so, .inr (3, [.ref qlk, .ref qln, .ref qhd, .ref qsf, .ref qfp, .ref qfc, .int (nI ly), .int (nI ce), .int da, .int db, .int dr])), (qhd, .inl (cI, 30, .inl hd)), (qsf, .inl (cI, 30, .inl sf)), (qfp, .inl (cI, 30, .inl fp)), (lo, .inr (1, [.ref qld, .ref qlz, .int (nI mn), .long sm]))]) (va_A [(g, .inr (0, [.ref so, .ref lo, .ref qpr, .ref qpa, .int (nI dy), .long co, .long wo])), (qpa, .inl (cJ, 30, .inr (.inl pa))), (so, .inr (3, [.ref qlk, .ref qln, .ref qhd, .ref qsf, .ref qfp, .ref qfc, .int (nI ly), .int (nI ce), .int da, .int db, .int dr])), (qhd, .inl (cI, 30, .inl hd)), (qsf, .inl (cI, 30, .inl sf)), (qfp, .inl (cI, 30, .inl fp)), (lo, .inr (1, [.ref qld, .ref qlz, .int (nI mn), .long sm]))] sz)) 0 0 (va_A [(g, .inr (0, [.ref so, .ref lo, .ref qpr, .ref qpa, .int (nI dy), .long co, .long wo])), (qpa, .inl (cJ, 30, .inr (.inl pa))), (so, .inr (3, [.ref qlk, .ref qln, .ref qhd, .ref qsf, .ref qfp, .ref qfc, .int (nI ly), .int (nI ce), .int da, .int db, .int dr])), (qhd, .inl (cI, 30, .inl hd)), (qsf, .inl (cI, 30, .inl sf)), (qfp, .inl (cI, 30, .inl fp)), (lo, .inr (1, [.ref qld, .ref qlz, .int (nI mn), .long sm]))] sz) := by
  refine Met.ofW (cc := bG_unitsAtEnd) (maxL := 4) (ret := (some .long)) (by decide) rfl ?_
  intro p e s m args below meth c s₁ B hml hv
  obtain ⟨rfl, hsz, hP, hK, hD0⟩ := hv
  have hx := B.exec
  have hb := B.bytes
  have hr := B.returns
  have hts := atoms_spec (ws := wG_unitsAtEnd) B.pre
  have hown : s.vm.findClass R_G = some m.cls := findClass_of_methodNamed B.named
  have htw : ∀ w ∈ WA, w.before _ s = true := fun w h => hts w (List.mem_cons_of_mem _ h)
  clear hts
  have hlocks := B.notSynchronized
  subst hsz
  have hD := hD0.self (sz := s.heap.size)
  generalize hAe : va_A [(g, .inr (0, [.ref so, .ref lo, .ref qpr, .ref qpa, .int (nI dy), .long co, .long wo])), (qpa, .inl (cJ, 30, .inr (.inl pa))), (so, .inr (3, [.ref qlk, .ref qln, .ref qhd, .ref qsf, .ref qfp, .ref qfc, .int (nI ly), .int (nI ce), .int da, .int db, .int dr])), (qhd, .inl (cI, 30, .inl hd)), (qsf, .inl (cI, 30, .inl sf)), (qfp, .inl (cI, 30, .inl fp)), (lo, .inr (1, [.ref qld, .ref qlz, .int (nI mn), .long sm]))] s.heap.size = A at hD ⊢
  have hA : ∀ q : Nat, s.heap.size ≤ q → A q := fun q h => by rw [← hAe]; exact Or.inr h
  clear hAe hD0
  have hS : va_S A s.heap s.heap [] := va_S.rf
  have hP : va_P (dC, dI) vwCl [(g, .inr (0, [.ref so, .ref lo, .ref qpr, .ref qpa, .int (nI dy), .long co, .long wo])), (qpa, .inl (cJ, 30, .inr (.inl pa))), (so, .inr (3, [.ref qlk, .ref qln, .ref qhd, .ref qsf, .ref qfp, .ref qfc, .int (nI ly), .int (nI ce), .int da, .int db, .int dr])), (qhd, .inl (cI, 30, .inl hd)), (qsf, .inl (cI, 30, .inl sf)), (qfp, .inl (cI, 30, .inl fp)), (lo, .inr (1, [.ref qld, .ref qlz, .int (nI mn), .long sm]))] s.heap := hP
  have hl := lv_entry ([.ref g]) (n := 4) (Nat.le_of_ble_eq_true rfl)
  rw [lg_entry_eq]
  generalize (lg_sl ([.ref g]) ++ List.replicate (4 - (lg_sl ([.ref g])).length) Slot.unset).toArray = ls at hl ⊢
  have hl : lv_has ls 4 [(0, .ref g)] := hl
  refine lv_lconst (v := 0) hx hb dG_unitsAtEnd_0 (by decide) ?_
  refine lv_lstore_n (lv' := [(1, .long 0), (0, .ref g)]) hx hb dG_unitsAtEnd_1 rfl hl (by decide) rfl (fun ls hl => ?_)
  refine lv_iconst (v := nI 0) hx hb dG_unitsAtEnd_2 (by decide) ?_
  refine lv_istore_n (lv' := [(3, .int (nI 0)), (1, .long 0), (0, .ref g)]) hx hb dG_unitsAtEnd_3 rfl hl (by decide) rfl (fun ls hl => ?_)
  -- the loop at 4
  have hP : va_P (dC, dI) vwCl [(g, .inr (0, [.ref so, .ref lo, .ref qpr, .ref qpa, .int (nI dy), .long co, .long wo])), (qpa, .inl (cJ, 30, .inr (.inl pa))), (so, .inr (3, [.ref qlk, .ref qln, .ref qhd, .ref qsf, .ref qfp, .ref qfc, .int (nI ly), .int (nI ce), .int da, .int db, .int dr])), (qhd, .inl (cI, 30, .inl hd)), (qsf, .inl (cI, 30, .inl sf)), (qfp, .inl (cI, 30, .inl fp)), (lo, .inr (1, [.ref qld, .ref qlz, .int (nI mn), .long sm]))] s.heap := by first | exact hP | simpa only [] using hP
  have hD : va_D A [(g, .inr (0, [.ref so, .ref lo, .ref qpr, .ref qpa, .int (nI dy), .long co, .long wo])), (qpa, .inl (cJ, 30, .inr (.inl pa))), (so, .inr (3, [.ref qlk, .ref qln, .ref qhd, .ref qsf, .ref qfp, .ref qfc, .int (nI ly), .int (nI ce), .int da, .int db, .int dr])), (qhd, .inl (cI, 30, .inl hd)), (qsf, .inl (cI, 30, .inl sf)), (qfp, .inl (cI, 30, .inl fp)), (lo, .inr (1, [.ref qld, .ref qlz, .int (nI mn), .long sm]))] := by first | exact hD | simpa only [] using hD
  refine x_loop (N := ce) (I := fun i H locs ls => va_P (dC, dI) vwCl [(g, .inr (0, [.ref so, .ref lo, .ref qpr, .ref qpa, .int (nI dy), .long co, .long wo])), (qpa, .inl (cJ, 30, .inr (.inl pa))), (so, .inr (3, [.ref qlk, .ref qln, .ref qhd, .ref qsf, .ref qfp, .ref qfc, .int (nI ly), .int (nI ce), .int da, .int db, .int dr])), (qhd, .inl (cI, 30, .inl hd)), (qsf, .inl (cI, 30, .inl sf)), (qfp, .inl (cI, 30, .inl fp)), (lo, .inr (1, [.ref qld, .ref qlz, .int (nI mn), .long sm]))] H ∧ va_D A [(g, .inr (0, [.ref so, .ref lo, .ref qpr, .ref qpa, .int (nI dy), .long co, .long wo])), (qpa, .inl (cJ, 30, .inr (.inl pa))), (so, .inr (3, [.ref qlk, .ref qln, .ref qhd, .ref qsf, .ref qfp, .ref qfc, .int (nI ly), .int (nI ce), .int da, .int db, .int dr])), (qhd, .inl (cI, 30, .inl hd)), (qsf, .inl (cI, 30, .inl sf)), (qfp, .inl (cI, 30, .inl fp)), (lo, .inr (1, [.ref qld, .ref qlz, .int (nI mn), .long sm]))] ∧ va_S A s.heap H locs ∧ lv_has ls 4 [(0, .ref g), (1, .long (k_end hd sf fp sm pa i)), (3, .int (nI i))]) (i0 := 0) ?_ (Nat.zero_le _) ⟨hP, hD, hS, lv_sub hl [2, 1, 0] rfl⟩
  intro i hi ih4 H locs ls hI
  obtain ⟨hP, hD, hS, hl⟩ := hI
  refine lv_iload_n hx hb dG_unitsAtEnd_4 rfl (lv_at hl 2 rfl) ?_
  refine lv_aload_n hx hb dG_unitsAtEnd_5 rfl (lv_at hl 0 rfl) ?_
  refine va_get (D := (dC, dI)) (ci := 0) (v := .ref so) (C := R_G) (T := T_G) (N := 7) hx hb htw in_G hown hK hP 0 rfl rfl 0 (by decide) (htw _ m_114) (fun _ h9 => h9) rfl dG_unitsAtEnd_6 ?_
  refine va_get (D := (dC, dI)) (ci := 3) (v := .int (nI ce)) (C := R_S) (T := T_S) (N := 11) hx hb htw in_S hown hK hP 2 rfl rfl 7 (by decide) (htw _ m_35) (fun _ h9 => h9) rfl dG_unitsAtEnd_9 ?_
  refine lv_icmp_ge (tgt := 55) hx hb dG_unitsAtEnd_12 (by decide) (fun hc12 => ?_) (fun hc12 => ?_)
  · -- 12 taken
    rw [nI_leI (by omega) (by omega)] at hc12
    obtain rfl : ce = i := by omega
    refine lv_lload_n hx hb dG_unitsAtEnd_55 rfl (lv_at hl 1 rfl) ?_
    have hP : va_P (dC, dI) vwCl [(g, .inr (0, [.ref so, .ref lo, .ref qpr, .ref qpa, .int (nI dy), .long co, .long wo])), (qpa, .inl (cJ, 30, .inr (.inl pa))), (so, .inr (3, [.ref qlk, .ref qln, .ref qhd, .ref qsf, .ref qfp, .ref qfc, .int (nI ly), .int (nI ce), .int da, .int db, .int dr])), (qhd, .inl (cI, 30, .inl hd)), (qsf, .inl (cI, 30, .inl sf)), (qfp, .inl (cI, 30, .inl fp)), (lo, .inr (1, [.ref qld, .ref qlz, .int (nI mn), .long sm]))] H := by first | exact hP | simpa only [] using hP
    have hD : va_D A [(g, .inr (0, [.ref so, .ref lo, .ref qpr, .ref qpa, .int (nI dy), .long co, .long wo])), (qpa, .inl (cJ, 30, .inr (.inl pa))), (so, .inr (3, [.ref qlk, .ref qln, .ref qhd, .ref qsf, .ref qfp, .ref qfc, .int (nI ly), .int (nI ce), .int da, .int db, .int dr])), (qhd, .inl (cI, 30, .inl hd)), (qsf, .inl (cI, 30, .inl sf)), (qfp, .inl (cI, 30, .inl fp)), (lo, .inr (1, [.ref qld, .ref qlz, .int (nI mn), .long sm]))] := by first | exact hD | simpa only [] using hD
    exact W.lret (v := k_end hd sf fp sm pa ce) hx hb hr (fun t ht hW => ⟨⟨k_end hd sf fp sm pa ce, (), rfl, rfl, by rw [ht]; exact hP, va_K.moved hW.alike hK, hD⟩, hS.F ht⟩) hS.2.2 dG_unitsAtEnd_56
  · -- 12 not taken
    rw [nI_leI (by omega) (by omega)] at hc12
    refine lv_lload_n hx hb dG_unitsAtEnd_15 rfl (lv_at hl 1 rfl) ?_
    refine lv_aload_n hx hb dG_unitsAtEnd_16 rfl (lv_at hl 0 rfl) ?_
    refine va_get (D := (dC, dI)) (ci := 0) (v := .ref so) (C := R_G) (T := T_G) (N := 7) hx hb htw in_G hown hK hP 0 rfl rfl 0 (by decide) (htw _ m_114) (fun _ h9 => h9) rfl dG_unitsAtEnd_17 ?_
    refine lv_iload_n hx hb dG_unitsAtEnd_20 rfl (lv_at hl 2 rfl) ?_
    refine lv_aload_n hx hb dG_unitsAtEnd_21 rfl (lv_at hl 0 rfl) ?_
    refine va_get (D := (dC, dI)) (ci := 0) (v := .ref lo) (C := R_G) (T := T_G) (N := 7) hx hb htw in_G hown hK hP 0 rfl rfl 1 (by decide) (htw _ m_115) (fun _ h9 => h9) rfl dG_unitsAtEnd_22 ?_
    refine va_get (D := (dC, dI)) (ci := 1) (v := .long sm) (C := R_O) (T := T_O) (N := 4) hx hb htw in_O hown hK hP 6 rfl rfl 3 (by decide) (htw _ m_78) (fun _ h9 => h9) rfl dG_unitsAtEnd_25 ?_
    refine lv_aload_n hx hb dG_unitsAtEnd_28 rfl (lv_at hl 0 rfl) ?_
    refine va_get (D := (dC, dI)) (ci := 0) (v := .ref qpa) (C := R_G) (T := T_G) (N := 7) hx hb htw in_G hown hK hP 0 rfl rfl 3 (by decide) (htw _ m_118) (fun _ h9 => h9) rfl dG_unitsAtEnd_29 ?_
    refine lv_iload_n hx hb dG_unitsAtEnd_32 rfl (lv_at hl 2 rfl) ?_
    refine xa_lald hx hb hK hP 1 1 rfl rfl (i := i) (by omega) (by decide) dG_unitsAtEnd_33 ?_
    refine lv_aload_n hx hb dG_unitsAtEnd_34 rfl (lv_at hl 0 rfl) ?_
    refine va_get (D := (dC, dI)) (ci := 0) (v := .ref lo) (C := R_G) (T := T_G) (N := 7) hx hb htw in_G hown hK hP 0 rfl rfl 1 (by decide) (htw _ m_115) (fun _ h9 => h9) rfl dG_unitsAtEnd_35 ?_
    refine va_get (D := (dC, dI)) (ci := 1) (v := .long sm) (C := R_O) (T := T_O) (N := 4) hx hb htw in_O hown hK hP 6 rfl rfl 3 (by decide) (htw _ m_78) (fun _ h9 => h9) rfl dG_unitsAtEnd_38 ?_
    refine va_mmax_long hx hb (by rw [hml]; exact hl.1.symm) hown (htw _ m_229) (htw _ m_230) (htw _ m_7) (htw _ m_231) (Nat.le_of_ble_eq_true rfl) (Nat.le_of_ble_eq_true rfl) (Nat.le_of_ble_eq_true rfl) (Nat.le_of_ble_eq_true rfl) dG_unitsAtEnd_41 ?_
    refine lv_topl (fun kv ekv => ?_)
    obtain rfl : kv = k_mx (pa i) sm := ekv.trans (rfl)
    have hPc := hP.sub (ws' := [(so, .inr (3, [.ref qlk, .ref qln, .ref qhd, .ref qsf, .ref qfp, .ref qfc, .int (nI ly), .int (nI ce), .int da, .int db, .int dr])), (qhd, .inl (cI, 30, .inl hd)), (qsf, .inl (cI, 30, .inl sf)), (qfp, .inl (cI, 30, .inl fp))]) [2, 3, 4, 5] rfl
    have hDc := hD.sub (ws' := [(so, .inr (3, [.ref qlk, .ref qln, .ref qhd, .ref qsf, .ref qfp, .ref qfc, .int (nI ly), .int (nI ce), .int da, .int db, .int dr])), (qhd, .inl (cI, 30, .inl hd)), (qsf, .inl (cI, 30, .inl sf)), (qfp, .inl (cI, 30, .inl fp))]) [2, 3, 4, 5] (by decide) rfl
    have hFc := va_free (wc := [(so, .inr (3, [.ref qlk, .ref qln, .ref qhd, .ref qsf, .ref qfp, .ref qfc, .int (nI ly), .int (nI ce), .int da, .int db, .int dr])), (qhd, .inl (cI, 30, .inl hd)), (qsf, .inl (cI, 30, .inl sf)), (qfp, .inl (cI, 30, .inl fp))]) hD hS hA [2, 3, 4, 5] rfl
    refine va_calll (va_runV (As := [.int (nI i), .long sm, .long (k_mx (pa i) sm)]) (rest := [.long (k_end hd sf fp sm pa i)]) ⟨hx, hb, hml, hown, htw⟩ (kS_unitsSunk l dC dI cI cJ so qlk qln qhd qsf qfp qfc H.size i sm (k_mx (pa i) sm) ly ce da db dr hd sf fp (by first | assumption | omega | decide)) (cwV 3 htw (wv_good m_240 m_241 m_242 m_2 m_243) rfl rfl rfl (by decide +kernel) ⟨Nat.le_of_ble_eq_true rfl, Nat.le_of_ble_eq_true rfl⟩) ⟨fun a U g mk q => by obtain ⟨q0, q1, qP, qK, qD⟩ := q; exact ⟨q0, q1, qP, va_K.moved (u := U) (U := U.calling g mk a) (Vm.Alike.refl U.vm) qK, qD⟩, va_recv hK hPc (ci := 3) (q0 := 0) rfl rfl, fun U hU hW => ⟨rfl, by rw [hU], by rw [hU]; exact hPc, va_K.moved hW.alike hK, hDc.weaken (fun _ _ _ _ => trivial)⟩⟩ rfl rfl hl.1 rfl (lv_room (Nat.le_of_ble_eq_true rfl)) dG_unitsAtEnd_44 ⟨Nat.le_of_ble_eq_true rfl, Nat.le_of_ble_eq_true rfl⟩) hS (fun q _ h => hFc q h) hFc (fun res_ u_ t H1 locs ht hvm hw hB hz1 hk1 hS => ?_)
    obtain ⟨hP1, hK1, hD1⟩ := hB
    rw [ht] at hP1
    obtain ⟨hP, hD⟩ := va_join (wr := [(g, .inr (0, [.ref so, .ref lo, .ref qpr, .ref qpa, .int (nI dy), .long co, .long wo])), (qpa, .inl (cJ, 30, .inr (.inl pa))), (lo, .inr (1, [.ref qld, .ref qlz, .int (nI mn), .long sm]))]) (w1 := [(so, .inr (3, [.ref qlk, .ref qln, .ref qhd, .ref qsf, .ref qfp, .ref qfc, .int (nI ly), .int (nI ce), .int da, .int db, .int dr])), (qhd, .inl (cI, 30, .inl hd)), (qsf, .inl (cI, 30, .inl sf)), (qfp, .inl (cI, 30, .inl fp))]) hP hD [2, 3, 4, 5] [0, 1, 6] rfl rfl (by decide) (by decide) hk1 hFc hP1 hD1
    generalize H1 = H at hP hS ⊢
    have hP := hP.sub (ws' := [(g, .inr (0, [.ref so, .ref lo, .ref qpr, .ref qpa, .int (nI dy), .long co, .long wo])), (qpa, .inl (cJ, 30, .inr (.inl pa))), (so, .inr (3, [.ref qlk, .ref qln, .ref qhd, .ref qsf, .ref qfp, .ref qfc, .int (nI ly), .int (nI ce), .int da, .int db, .int dr])), (qhd, .inl (cI, 30, .inl hd)), (qsf, .inl (cI, 30, .inl sf)), (qfp, .inl (cI, 30, .inl fp)), (lo, .inr (1, [.ref qld, .ref qlz, .int (nI mn), .long sm]))]) [0, 1, 3, 4, 5, 6, 2] rfl
    have hD := hD.sub (ws' := [(g, .inr (0, [.ref so, .ref lo, .ref qpr, .ref qpa, .int (nI dy), .long co, .long wo])), (qpa, .inl (cJ, 30, .inr (.inl pa))), (so, .inr (3, [.ref qlk, .ref qln, .ref qhd, .ref qsf, .ref qfp, .ref qfc, .int (nI ly), .int (nI ce), .int da, .int db, .int dr])), (qhd, .inl (cI, 30, .inl hd)), (qsf, .inl (cI, 30, .inl sf)), (qfp, .inl (cI, 30, .inl fp)), (lo, .inr (1, [.ref qld, .ref qlz, .int (nI mn), .long sm]))]) [0, 1, 3, 4, 5, 6, 2] (by decide) rfl
    clear hPc hDc hFc hP1 hD1 hK1 hk1 hz1 hvm ht
    obtain rfl : res_ = k_u1 hd sf fp i sm (k_mx (pa i) sm) := hw
    refine lv_ladd hx hb dG_unitsAtEnd_47 ?_
    refine lv_lstore_n (lv' := [(1, .long ((k_end hd sf fp sm pa i) + (k_u1 hd sf fp i sm (k_mx (pa i) sm)))), (0, .ref g), (3, .int (nI i))]) hx hb dG_unitsAtEnd_48 rfl hl (by decide) rfl (fun ls hl => ?_)
    refine lv_iinc (v := nI (i + 1)) (lv' := [(3, .int (nI (i + 1))), (1, .long ((k_end hd sf fp sm pa i) + (k_u1 hd sf fp i sm (k_mx (pa i) sm)))), (0, .ref g)]) hx hb dG_unitsAtEnd_49 hl (k := 2) rfl (nI_1 _) (by decide) rfl (fun ls hl => ?_)
    refine lv_goto (tgt := 4) hx hb dG_unitsAtEnd_52 (by decide) ?_
    have hP : va_P (dC, dI) vwCl [(g, .inr (0, [.ref so, .ref lo, .ref qpr, .ref qpa, .int (nI dy), .long co, .long wo])), (qpa, .inl (cJ, 30, .inr (.inl pa))), (so, .inr (3, [.ref qlk, .ref qln, .ref qhd, .ref qsf, .ref qfp, .ref qfc, .int (nI ly), .int (nI ce), .int da, .int db, .int dr])), (qhd, .inl (cI, 30, .inl hd)), (qsf, .inl (cI, 30, .inl sf)), (qfp, .inl (cI, 30, .inl fp)), (lo, .inr (1, [.ref qld, .ref qlz, .int (nI mn), .long sm]))] H := by first | exact hP | simpa only [] using hP
    have hD : va_D A [(g, .inr (0, [.ref so, .ref lo, .ref qpr, .ref qpa, .int (nI dy), .long co, .long wo])), (qpa, .inl (cJ, 30, .inr (.inl pa))), (so, .inr (3, [.ref qlk, .ref qln, .ref qhd, .ref qsf, .ref qfp, .ref qfc, .int (nI ly), .int (nI ce), .int da, .int db, .int dr])), (qhd, .inl (cI, 30, .inl hd)), (qsf, .inl (cI, 30, .inl sf)), (qfp, .inl (cI, 30, .inl fp)), (lo, .inr (1, [.ref qld, .ref qlz, .int (nI mn), .long sm]))] := by first | exact hD | simpa only [] using hD
    exact ih4 (by omega) _ _ _ ⟨hP, hD, hS, lv_sub hl [2, 1, 0] rfl⟩
set_option maxHeartbeats 4000000 in
set_option maxRecDepth 100000 in
theorem kG_allPressures (l : Launch) (dC : Nat → ClassId) (dI : Nat → Nat → Nat) (cI cJ : ClassId) (g so lo qpr qpa qlk qln qhd qsf qfp qfc : Nat) (sz : Nat) (dy : Nat) (co : Int64) (wo : Int64) (pr : Nat → Int64) (ly : Nat) (ce : Nat) (da : Int32) (db : Int32) (dr : Int32) (hce : ce ≤ 30) : Met l yG_allPressures wG_allPressures ({ frames := 0, cells := 0, slots := 0, locals := 0 }) (va_Pc [.ref g] (fun U => U.heap.size = sz ∧ va_P (dC, dI) vwCl [(g, .inr (0, [.ref so, .ref lo, .ref qpr, .ref qpa, .int (nI dy), .long co, .long wo])), (qpr, .inl (cJ, 30, .inr (.inl pr))), (so, .inr (3, [.ref qlk, .ref qln, .ref qhd, .ref qsf, .ref qfp, .ref qfc, .int (nI ly), .int (nI ce), .int da, .int db, .int dr]))] U.heap ∧ va_K (dC, dI) vwCl [(cI, .int), (cJ, .long)] U ∧ va_D (fun _ => True) [(g, .inr (0, [.ref so, .ref lo, .ref qpr, .ref qpa, .int (nI dy), .long co, .long wo])), (qpr, .inl (cJ, 30, .inr (.inl pr))), (so, .inr (3, [.ref qlk, .ref qln, .ref qhd, .ref qsf, .ref qfp, .ref qfc, .int (nI ly), .int (nI ce), .int da, .int db, .int dr]))])) (va_Ql (fun res_ (_ : Unit) => res_ = k_sum pr ce) (fun _ t => va_P (dC, dI) vwCl [(g, .inr (0, [.ref so, .ref lo, .ref qpr, .ref qpa, .int (nI dy), .long co, .long wo])), (qpr, .inl (cJ, 30, .inr (.inl pr))), (so, .inr (3, [.ref qlk, .ref qln, .ref qhd, .ref qsf, .ref qfp, .ref qfc, .int (nI ly), .int (nI ce), .int da, .int db, .int dr]))] t.heap ∧ va_K (dC, dI) vwCl [(cI, .int), (cJ, .long)] t ∧ va_D (va_A [(g, .inr (0, [.ref so, .ref lo, .ref qpr, .ref qpa, .int (nI dy), .long co, .long wo])), (qpr, .inl (cJ, 30, .inr (.inl pr))), (so, .inr (3, [.ref qlk, .ref qln, .ref qhd, .ref qsf, .ref qfp, .ref qfc, .int (nI ly), .int (nI ce), .int da, .int db, .int dr]))] sz) [(g, .inr (0, [.ref so, .ref lo, .ref qpr, .ref qpa, .int (nI dy), .long co, .long wo])), (qpr, .inl (cJ, 30, .inr (.inl pr))), (so, .inr (3, [.ref qlk, .ref qln, .ref qhd, .ref qsf, .ref qfp, .ref qfc, .int (nI ly), .int (nI ce), .int da, .int db, .int dr]))]) (va_A [(g, .inr (0, [.ref so, .ref lo, .ref qpr, .ref qpa, .int (nI dy), .long co, .long wo])), (qpr, .inl (cJ, 30, .inr (.inl pr))), (so, .inr (3, [.ref qlk, .ref qln, .ref qhd, .ref qsf, .ref qfp, .ref qfc, .int (nI ly), .int (nI ce), .int da, .int db, .int dr]))] sz)) 0 0 (va_A [(g, .inr (0, [.ref so, .ref lo, .ref qpr, .ref qpa, .int (nI dy), .long co, .long wo])), (qpr, .inl (cJ, 30, .inr (.inl pr))), (so, .inr (3, [.ref qlk, .ref qln, .ref qhd, .ref qsf, .ref qfp, .ref qfc, .int (nI ly), .int (nI ce), .int da, .int db, .int dr]))] sz) := by
  refine Met.ofW (cc := bG_allPressures) (maxL := 4) (ret := (some .long)) (by decide) rfl ?_
  intro p e s m args below meth c s₁ B hml hv
  obtain ⟨rfl, hsz, hP, hK, hD0⟩ := hv
  have hx := B.exec
  have hb := B.bytes
  have hr := B.returns
  have hts := atoms_spec (ws := wG_allPressures) B.pre
  have hown : s.vm.findClass R_G = some m.cls := findClass_of_methodNamed B.named
  have htw : ∀ w ∈ WA, w.before _ s = true := fun w h => hts w (List.mem_cons_of_mem _ h)
  clear hts
  have hlocks := B.notSynchronized
  subst hsz
  have hD := hD0.self (sz := s.heap.size)
  generalize hAe : va_A [(g, .inr (0, [.ref so, .ref lo, .ref qpr, .ref qpa, .int (nI dy), .long co, .long wo])), (qpr, .inl (cJ, 30, .inr (.inl pr))), (so, .inr (3, [.ref qlk, .ref qln, .ref qhd, .ref qsf, .ref qfp, .ref qfc, .int (nI ly), .int (nI ce), .int da, .int db, .int dr]))] s.heap.size = A at hD ⊢
  have hA : ∀ q : Nat, s.heap.size ≤ q → A q := fun q h => by rw [← hAe]; exact Or.inr h
  clear hAe hD0
  have hS : va_S A s.heap s.heap [] := va_S.rf
  have hP : va_P (dC, dI) vwCl [(g, .inr (0, [.ref so, .ref lo, .ref qpr, .ref qpa, .int (nI dy), .long co, .long wo])), (qpr, .inl (cJ, 30, .inr (.inl pr))), (so, .inr (3, [.ref qlk, .ref qln, .ref qhd, .ref qsf, .ref qfp, .ref qfc, .int (nI ly), .int (nI ce), .int da, .int db, .int dr]))] s.heap := hP
  have hl := lv_entry ([.ref g]) (n := 4) (Nat.le_of_ble_eq_true rfl)
  rw [lg_entry_eq]
  generalize (lg_sl ([.ref g]) ++ List.replicate (4 - (lg_sl ([.ref g])).length) Slot.unset).toArray = ls at hl ⊢
  have hl : lv_has ls 4 [(0, .ref g)] := hl
  refine lv_lconst (v := 0) hx hb dG_allPressures_0 (by decide) ?_
  refine lv_lstore_n (lv' := [(1, .long 0), (0, .ref g)]) hx hb dG_allPressures_1 rfl hl (by decide) rfl (fun ls hl => ?_)
  refine lv_iconst (v := nI 0) hx hb dG_allPressures_2 (by decide) ?_
  refine lv_istore_n (lv' := [(3, .int (nI 0)), (1, .long 0), (0, .ref g)]) hx hb dG_allPressures_3 rfl hl (by decide) rfl (fun ls hl => ?_)
  -- the loop at 4
  have hP : va_P (dC, dI) vwCl [(g, .inr (0, [.ref so, .ref lo, .ref qpr, .ref qpa, .int (nI dy), .long co, .long wo])), (qpr, .inl (cJ, 30, .inr (.inl pr))), (so, .inr (3, [.ref qlk, .ref qln, .ref qhd, .ref qsf, .ref qfp, .ref qfc, .int (nI ly), .int (nI ce), .int da, .int db, .int dr]))] s.heap := by first | exact hP | simpa only [] using hP
  have hD : va_D A [(g, .inr (0, [.ref so, .ref lo, .ref qpr, .ref qpa, .int (nI dy), .long co, .long wo])), (qpr, .inl (cJ, 30, .inr (.inl pr))), (so, .inr (3, [.ref qlk, .ref qln, .ref qhd, .ref qsf, .ref qfp, .ref qfc, .int (nI ly), .int (nI ce), .int da, .int db, .int dr]))] := by first | exact hD | simpa only [] using hD
  refine x_loop (N := ce) (I := fun i H locs ls => va_P (dC, dI) vwCl [(g, .inr (0, [.ref so, .ref lo, .ref qpr, .ref qpa, .int (nI dy), .long co, .long wo])), (qpr, .inl (cJ, 30, .inr (.inl pr))), (so, .inr (3, [.ref qlk, .ref qln, .ref qhd, .ref qsf, .ref qfp, .ref qfc, .int (nI ly), .int (nI ce), .int da, .int db, .int dr]))] H ∧ va_D A [(g, .inr (0, [.ref so, .ref lo, .ref qpr, .ref qpa, .int (nI dy), .long co, .long wo])), (qpr, .inl (cJ, 30, .inr (.inl pr))), (so, .inr (3, [.ref qlk, .ref qln, .ref qhd, .ref qsf, .ref qfp, .ref qfc, .int (nI ly), .int (nI ce), .int da, .int db, .int dr]))] ∧ va_S A s.heap H locs ∧ lv_has ls 4 [(0, .ref g), (1, .long (k_sum pr i)), (3, .int (nI i))]) (i0 := 0) ?_ (Nat.zero_le _) ⟨hP, hD, hS, lv_sub hl [2, 1, 0] rfl⟩
  intro i hi ih4 H locs ls hI
  obtain ⟨hP, hD, hS, hl⟩ := hI
  refine lv_iload_n hx hb dG_allPressures_4 rfl (lv_at hl 2 rfl) ?_
  refine lv_aload_n hx hb dG_allPressures_5 rfl (lv_at hl 0 rfl) ?_
  refine va_get (D := (dC, dI)) (ci := 0) (v := .ref so) (C := R_G) (T := T_G) (N := 7) hx hb htw in_G hown hK hP 0 rfl rfl 0 (by decide) (htw _ m_114) (fun _ h9 => h9) rfl dG_allPressures_6 ?_
  refine va_get (D := (dC, dI)) (ci := 3) (v := .int (nI ce)) (C := R_S) (T := T_S) (N := 11) hx hb htw in_S hown hK hP 2 rfl rfl 7 (by decide) (htw _ m_35) (fun _ h9 => h9) rfl dG_allPressures_9 ?_
  refine lv_icmp_ge (tgt := 30) hx hb dG_allPressures_12 (by decide) (fun hc12 => ?_) (fun hc12 => ?_)
  · -- 12 taken
    rw [nI_leI (by omega) (by omega)] at hc12
    obtain rfl : ce = i := by omega
    refine lv_lload_n hx hb dG_allPressures_30 rfl (lv_at hl 1 rfl) ?_
    have hP : va_P (dC, dI) vwCl [(g, .inr (0, [.ref so, .ref lo, .ref qpr, .ref qpa, .int (nI dy), .long co, .long wo])), (qpr, .inl (cJ, 30, .inr (.inl pr))), (so, .inr (3, [.ref qlk, .ref qln, .ref qhd, .ref qsf, .ref qfp, .ref qfc, .int (nI ly), .int (nI ce), .int da, .int db, .int dr]))] H := by first | exact hP | simpa only [] using hP
    have hD : va_D A [(g, .inr (0, [.ref so, .ref lo, .ref qpr, .ref qpa, .int (nI dy), .long co, .long wo])), (qpr, .inl (cJ, 30, .inr (.inl pr))), (so, .inr (3, [.ref qlk, .ref qln, .ref qhd, .ref qsf, .ref qfp, .ref qfc, .int (nI ly), .int (nI ce), .int da, .int db, .int dr]))] := by first | exact hD | simpa only [] using hD
    exact W.lret (v := k_sum pr ce) hx hb hr (fun t ht hW => ⟨⟨k_sum pr ce, (), rfl, rfl, by rw [ht]; exact hP, va_K.moved hW.alike hK, hD⟩, hS.F ht⟩) hS.2.2 dG_allPressures_31
  · -- 12 not taken
    rw [nI_leI (by omega) (by omega)] at hc12
    refine lv_lload_n hx hb dG_allPressures_15 rfl (lv_at hl 1 rfl) ?_
    refine lv_aload_n hx hb dG_allPressures_16 rfl (lv_at hl 0 rfl) ?_
    refine va_get (D := (dC, dI)) (ci := 0) (v := .ref qpr) (C := R_G) (T := T_G) (N := 7) hx hb htw in_G hown hK hP 0 rfl rfl 2 (by decide) (htw _ m_116) (fun _ h9 => h9) rfl dG_allPressures_17 ?_
    refine lv_iload_n hx hb dG_allPressures_20 rfl (lv_at hl 2 rfl) ?_
    refine xa_lald hx hb hK hP 1 1 rfl rfl (i := i) (by omega) (by decide) dG_allPressures_21 ?_
    refine lv_ladd hx hb dG_allPressures_22 ?_
    refine lv_lstore_n (lv' := [(1, .long ((k_sum pr i) + (pr i))), (0, .ref g), (3, .int (nI i))]) hx hb dG_allPressures_23 rfl hl (by decide) rfl (fun ls hl => ?_)
    refine lv_iinc (v := nI (i + 1)) (lv' := [(3, .int (nI (i + 1))), (1, .long ((k_sum pr i) + (pr i))), (0, .ref g)]) hx hb dG_allPressures_24 hl (k := 2) rfl (nI_1 _) (by decide) rfl (fun ls hl => ?_)
    refine lv_goto (tgt := 4) hx hb dG_allPressures_27 (by decide) ?_
    have hP : va_P (dC, dI) vwCl [(g, .inr (0, [.ref so, .ref lo, .ref qpr, .ref qpa, .int (nI dy), .long co, .long wo])), (qpr, .inl (cJ, 30, .inr (.inl pr))), (so, .inr (3, [.ref qlk, .ref qln, .ref qhd, .ref qsf, .ref qfp, .ref qfc, .int (nI ly), .int (nI ce), .int da, .int db, .int dr]))] H := by first | exact hP | simpa only [] using hP
    have hD : va_D A [(g, .inr (0, [.ref so, .ref lo, .ref qpr, .ref qpa, .int (nI dy), .long co, .long wo])), (qpr, .inl (cJ, 30, .inr (.inl pr))), (so, .inr (3, [.ref qlk, .ref qln, .ref qhd, .ref qsf, .ref qfp, .ref qfc, .int (nI ly), .int (nI ce), .int da, .int db, .int dr]))] := by first | exact hD | simpa only [] using hD
    exact ih4 (by omega) _ _ _ ⟨hP, hD, hS, lv_sub hl [2, 1, 0] rfl⟩
set_option maxHeartbeats 4000000 in
set_option maxRecDepth 100000 in
theorem kG_begin (l : Launch) (dC : Nat → ClassId) (dI : Nat → Nat → Nat) (cI cJ : ClassId) (g so lo qpr qpa : Nat) (sz : Nat) (fa : Nat) (n : Nat) (x : Int32) (dy : Nat) (co : Int64) (wo : Int64) (pa : Nat → Int64) (hfn : fa + n ≤ 30) : Met l yG_begin wG_begin ({ frames := 0, cells := 0, slots := 0, locals := 0 }) (va_Pc [.ref g, .int (nI fa), .int (nI n), .int x] (fun U => U.heap.size = sz ∧ va_P (dC, dI) vwCl [(g, .inr (0, [.ref so, .ref lo, .ref qpr, .ref qpa, .int (nI dy), .long co, .long wo])), (qpa, .inl (cJ, 30, .inr (.inl pa)))] U.heap ∧ va_K (dC, dI) vwCl [(cI, .int), (cJ, .long)] U ∧ va_D (fun _ => True) [(g, .inr (0, [.ref so, .ref lo, .ref qpr, .ref qpa, .int (nI dy), .long co, .long wo])), (qpa, .inl (cJ, 30, .inr (.inl pa)))])) (va_Qv (fun (_ : Unit) => True) (fun _ t => va_P (dC, dI) vwCl [(g, .inr (0, [.ref so, .ref lo, .ref qpr, .ref qpa, .int (nI dy), .long co, .long wo])), (qpa, .inl (cJ, 30, .inr (.inl (k_beg pa fa (fa + n) x.toInt64))))] t.heap ∧ va_K (dC, dI) vwCl [(cI, .int), (cJ, .long)] t ∧ va_D (va_A [(g, .inr (0, [.ref so, .ref lo, .ref qpr, .ref qpa, .int (nI dy), .long co, .long wo])), (qpa, .inl (cJ, 30, .inr (.inl pa)))] sz) [(g, .inr (0, [.ref so, .ref lo, .ref qpr, .ref qpa, .int (nI dy), .long co, .long wo])), (qpa, .inl (cJ, 30, .inr (.inl (k_beg pa fa (fa + n) x.toInt64))))]) (va_A [(g, .inr (0, [.ref so, .ref lo, .ref qpr, .ref qpa, .int (nI dy), .long co, .long wo])), (qpa, .inl (cJ, 30, .inr (.inl pa)))] sz)) 0 0 (va_A [(g, .inr (0, [.ref so, .ref lo, .ref qpr, .ref qpa, .int (nI dy), .long co, .long wo])), (qpa, .inl (cJ, 30, .inr (.inl pa)))] sz) := by
  refine Met.ofW (cc := bG_begin) (maxL := 5) (ret := none) (by decide) rfl ?_
  intro p e s m args below meth c s₁ B hml hv
  obtain ⟨rfl, hsz, hP, hK, hD0⟩ := hv
  have hx := B.exec
  have hb := B.bytes
  have hr := B.returns
  have hts := atoms_spec (ws := wG_begin) B.pre
  have hown : s.vm.findClass R_G = some m.cls := findClass_of_methodNamed B.named
  have htw : ∀ w ∈ WA, w.before _ s = true := fun w h => hts w (List.mem_cons_of_mem _ h)
  clear hts
  have hlocks := B.notSynchronized
  subst hsz
  have hD := hD0.self (sz := s.heap.size)
  generalize hAe : va_A [(g, .inr (0, [.ref so, .ref lo, .ref qpr, .ref qpa, .int (nI dy), .long co, .long wo])), (qpa, .inl (cJ, 30, .inr (.inl pa)))] s.heap.size = A at hD ⊢
  have hA : ∀ q : Nat, s.heap.size ≤ q → A q := fun q h => by rw [← hAe]; exact Or.inr h
  clear hAe hD0
  have hS : va_S A s.heap s.heap [] := va_S.rf
  have hP : va_P (dC, dI) vwCl [(g, .inr (0, [.ref so, .ref lo, .ref qpr, .ref qpa, .int (nI dy), .long co, .long wo])), (qpa, .inl (cJ, 30, .inr (.inl pa)))] s.heap := hP
  have hl := lv_entry ([.ref g, .int (nI fa), .int (nI n), .int x]) (n := 5) (Nat.le_of_ble_eq_true rfl)
  rw [lg_entry_eq]
  generalize (lg_sl ([.ref g, .int (nI fa), .int (nI n), .int x]) ++ List.replicate (5 - (lg_sl ([.ref g, .int (nI fa), .int (nI n), .int x])).length) Slot.unset).toArray = ls at hl ⊢
  have hl : lv_has ls 5 [(0, .ref g), (1, .int (nI fa)), (2, .int (nI n)), (3, .int x)] := hl
  refine lv_iload_n hx hb dG_begin_0 rfl (lv_at hl 1 rfl) ?_
  refine lv_istore (lv' := [(4, .int (nI fa)), (0, .ref g), (1, .int (nI fa)), (2, .int (nI n)), (3, .int x)]) hx hb dG_begin_1 hl (by decide) rfl (fun ls hl => ?_)
  -- the loop at 3
  have eq1 : (pa : Nat → Int64) = k_beg pa fa fa x.toInt64 := k_beg_0
  rw [eq1] at hP hD
  have hP : va_P (dC, dI) vwCl [(g, .inr (0, [.ref so, .ref lo, .ref qpr, .ref qpa, .int (nI dy), .long co, .long wo])), (qpa, .inl (cJ, 30, .inr (.inl (k_beg pa fa fa x.toInt64))))] s.heap := by first | exact hP | simpa only [] using hP
  have hD : va_D A [(g, .inr (0, [.ref so, .ref lo, .ref qpr, .ref qpa, .int (nI dy), .long co, .long wo])), (qpa, .inl (cJ, 30, .inr (.inl (k_beg pa fa fa x.toInt64))))] := by first | exact hD | simpa only [] using hD
  refine x_loop (N := fa + n) (I := fun i H locs ls => va_P (dC, dI) vwCl [(g, .inr (0, [.ref so, .ref lo, .ref qpr, .ref qpa, .int (nI dy), .long co, .long wo])), (qpa, .inl (cJ, 30, .inr (.inl (k_beg pa fa i x.toInt64))))] H ∧ va_D A [(g, .inr (0, [.ref so, .ref lo, .ref qpr, .ref qpa, .int (nI dy), .long co, .long wo])), (qpa, .inl (cJ, 30, .inr (.inl (k_beg pa fa i x.toInt64))))] ∧ va_S A s.heap H locs ∧ lv_has ls 5 [(0, .ref g), (1, .int (nI fa)), (2, .int (nI n)), (3, .int x), (4, .int (nI i))] ∧ (fa ≤ i)) (i0 := fa) ?_ (by omega) ⟨hP, hD, hS, lv_sub hl [1, 2, 3, 4, 0] rfl, Nat.le_refl _⟩
  intro i hi ih3 H locs ls hI
  obtain ⟨hP, hD, hS, hl, hE3⟩ := hI
  refine lv_iload hx hb dG_begin_3 (lv_at hl 4 rfl) ?_
  refine lv_iload_n hx hb dG_begin_5 rfl (lv_at hl 1 rfl) ?_
  refine lv_iload_n hx hb dG_begin_6 rfl (lv_at hl 2 rfl) ?_
  refine lv_iadd hx hb dG_begin_7 ?_
  refine lv_topi (fun kv ekv => ?_)
  obtain rfl : kv = nI (fa + n) := by rw [ekv]; exact nI_add _ _
  refine lv_icmp_ge (tgt := 33) hx hb dG_begin_8 (by decide) (fun hc8 => ?_) (fun hc8 => ?_)
  · -- 8 taken
    rw [nI_leI (by omega) (by omega)] at hc8
    obtain rfl : i = fa + n := by omega
    have hP : va_P (dC, dI) vwCl [(g, .inr (0, [.ref so, .ref lo, .ref qpr, .ref qpa, .int (nI dy), .long co, .long wo])), (qpa, .inl (cJ, 30, .inr (.inl (k_beg pa fa (fa + n) x.toInt64))))] H := by first | exact hP | simpa only [] using hP
    have hD : va_D A [(g, .inr (0, [.ref so, .ref lo, .ref qpr, .ref qpa, .int (nI dy), .long co, .long wo])), (qpa, .inl (cJ, 30, .inr (.inl (k_beg pa fa (fa + n) x.toInt64))))] := by first | exact hD | simpa only [] using hD
    exact W.vret hx hb hr (fun t ht hW => ⟨⟨(), rfl, trivial, by rw [ht]; exact hP, va_K.moved hW.alike hK, hD⟩, hS.F ht⟩) hS.2.2 dG_begin_33
  · -- 8 not taken
    rw [nI_leI (by omega) (by omega)] at hc8
    refine lv_iload hx hb dG_begin_11 (lv_at hl 4 rfl) ?_
    refine lv_bipush (v := nI 30) hx hb dG_begin_13 (by decide) ?_
    refine lv_icmp_ge (tgt := 33) hx hb dG_begin_15 (by decide) (fun hc15 => ?_) (fun hc15 => ?_)
    · -- 15 taken
      rw [nI_leI (by omega) (by omega)] at hc15
      exact absurd hc15 (by omega)
    · -- 15 not taken
      rw [nI_leI (by omega) (by omega)] at hc15
      refine lv_aload_n hx hb dG_begin_18 rfl (lv_at hl 0 rfl) ?_
      refine va_get (D := (dC, dI)) (ci := 0) (v := .ref qpa) (C := R_G) (T := T_G) (N := 7) hx hb htw in_G hown hK hP 0 rfl rfl 3 (by decide) (htw _ m_118) (fun _ h9 => h9) rfl dG_begin_19 ?_
      refine lv_iload hx hb dG_begin_22 (lv_at hl 4 rfl) ?_
      refine lv_iload_n hx hb dG_begin_24 rfl (lv_at hl 3 rfl) ?_
      refine lv_i2l (v := x.toInt64) hx hb dG_begin_25 rfl ?_
      refine xa_last hx hb hK hP hD hS 1 1 rfl rfl (i := i) (by omega) (by decide) dG_begin_26 (fun H locs hP hD hS => ?_)
      have hP : va_P (dC, dI) vwCl [(g, .inr (0, [.ref so, .ref lo, .ref qpr, .ref qpa, .int (nI dy), .long co, .long wo])), (qpa, .inl (cJ, 30, .inr (.inl (vp_updL (k_beg pa fa i x.toInt64) i x.toInt64))))] H := hP
      have hD : va_D A [(g, .inr (0, [.ref so, .ref lo, .ref qpr, .ref qpa, .int (nI dy), .long co, .long wo])), (qpa, .inl (cJ, 30, .inr (.inl (vp_updL (k_beg pa fa i x.toInt64) i x.toInt64))))] := hD
      refine lv_iinc (v := nI (i + 1)) (lv' := [(4, .int (nI (i + 1))), (0, .ref g), (1, .int (nI fa)), (2, .int (nI n)), (3, .int x)]) hx hb dG_begin_27 hl (k := 4) rfl (nI_1 _) (by decide) rfl (fun ls hl => ?_)
      refine lv_goto (tgt := 3) hx hb dG_begin_30 (by decide) ?_
      have eq2 : (vp_updL (k_beg pa fa i x.toInt64) i x.toInt64 : Nat → Int64) = k_beg pa fa (i + 1) x.toInt64 := k_beg_s (by omega)
      rw [eq2] at hP hD
      have hP : va_P (dC, dI) vwCl [(g, .inr (0, [.ref so, .ref lo, .ref qpr, .ref qpa, .int (nI dy), .long co, .long wo])), (qpa, .inl (cJ, 30, .inr (.inl (k_beg pa fa (i + 1) x.toInt64))))] H := by first | exact hP | simpa only [] using hP
      have hD : va_D A [(g, .inr (0, [.ref so, .ref lo, .ref qpr, .ref qpa, .int (nI dy), .long co, .long wo])), (qpa, .inl (cJ, 30, .inr (.inl (k_beg pa fa (i + 1) x.toInt64))))] := by first | exact hD | simpa only [] using hD
      exact ih3 (by omega) _ _ _ ⟨hP, hD, hS, lv_sub hl [1, 2, 3, 4, 0] rfl, Nat.le_succ_of_le hE3⟩
set_option maxHeartbeats 4000000 in
set_option maxRecDepth 100000 in
theorem kG_become (l : Launch) (dC : Nat → ClassId) (dI : Nat → Nat → Nat) (cI cJ : ClassId) (g og so lo qpr qpa qor qoa : Nat) (sz : Nat) (dy : Nat) (co : Int64) (wo : Int64) (pr : Nat → Int64) (pa : Nat → Int64) (ody : Nat) (oco : Int64) (owo : Int64) (opr : Nat → Int64) (opa : Nat → Int64) : Met l yG_become wG_become ({ frames := 0, cells := 0, slots := 0, locals := 0 }) (va_Pc [.ref g, .ref og] (fun U => U.heap.size = sz ∧ va_P (dC, dI) vwCl [(g, .inr (0, [.ref so, .ref lo, .ref qpr, .ref qpa, .int (nI dy), .long co, .long wo])), (qpr, .inl (cJ, 30, .inr (.inl pr))), (qpa, .inl (cJ, 30, .inr (.inl pa))), (og, .inr (0, [.ref so, .ref lo, .ref qor, .ref qoa, .int (nI ody), .long oco, .long owo])), (qor, .inl (cJ, 30, .inr (.inl opr))), (qoa, .inl (cJ, 30, .inr (.inl opa)))] U.heap ∧ va_K (dC, dI) vwCl [(cI, .int), (cJ, .long)] U ∧ va_D (fun _ => True) [(g, .inr (0, [.ref so, .ref lo, .ref qpr, .ref qpa, .int (nI dy), .long co, .long wo])), (qpr, .inl (cJ, 30, .inr (.inl pr))), (qpa, .inl (cJ, 30, .inr (.inl pa))), (og, .inr (0, [.ref so, .ref lo, .ref qor, .ref qoa, .int (nI ody), .long oco, .long owo])), (qor, .inl (cJ, 30, .inr (.inl opr))), (qoa, .inl (cJ, 30, .inr (.inl opa)))])) (va_Qv (fun (_ : Unit) => True) (fun _ t => va_P (dC, dI) vwCl [(g, .inr (0, [.ref so, .ref lo, .ref qpr, .ref qpa, .int (nI ody), .long oco, .long owo])), (qpr, .inl (cJ, 30, .inr (.inl opr))), (qpa, .inl (cJ, 30, .inr (.inl opa))), (og, .inr (0, [.ref so, .ref lo, .ref qor, .ref qoa, .int (nI ody), .long oco, .long owo])), (qor, .inl (cJ, 30, .inr (.inl opr))), (qoa, .inl (cJ, 30, .inr (.inl opa)))] t.heap ∧ va_K (dC, dI) vwCl [(cI, .int), (cJ, .long)] t ∧ va_D (va_A [(g, .inr (0, [.ref so, .ref lo, .ref qpr, .ref qpa, .int (nI dy), .long co, .long wo])), (qpr, .inl (cJ, 30, .inr (.inl pr))), (qpa, .inl (cJ, 30, .inr (.inl pa))), (og, .inr (0, [.ref so, .ref lo, .ref qor, .ref qoa, .int (nI ody), .long oco, .long owo])), (qor, .inl (cJ, 30, .inr (.inl opr))), (qoa, .inl (cJ, 30, .inr (.inl opa)))] sz) [(g, .inr (0, [.ref so, .ref lo, .ref qpr, .ref qpa, .int (nI ody), .long oco, .long owo])), (qpr, .inl (cJ, 30, .inr (.inl opr))), (qpa, .inl (cJ, 30, .inr (.inl opa))), (og, .inr (0, [.ref so, .ref lo, .ref qor, .ref qoa, .int (nI ody), .long oco, .long owo])), (qor, .inl (cJ, 30, .inr (.inl opr))), (qoa, .inl (cJ, 30, .inr (.inl opa)))]) (va_A [(g, .inr (0, [.ref so, .ref lo, .ref qpr, .ref qpa, .int (nI dy), .long co, .long wo])), (qpr, .inl (cJ, 30, .inr (.inl pr))), (qpa, .inl (cJ, 30, .inr (.inl pa))), (og, .inr (0, [.ref so, .ref lo, .ref qor, .ref qoa, .int (nI ody), .long oco, .long owo])), (qor, .inl (cJ, 30, .inr (.inl opr))), (qoa, .inl (cJ, 30, .inr (.inl opa)))] sz)) 0 0 (va_A [(g, .inr (0, [.ref so, .ref lo, .ref qpr, .ref qpa, .int (nI dy), .long co, .long wo])), (qpr, .inl (cJ, 30, .inr (.inl pr))), (qpa, .inl (cJ, 30, .inr (.inl pa))), (og, .inr (0, [.ref so, .ref lo, .ref qor, .ref qoa, .int (nI ody), .long oco, .long owo])), (qor, .inl (cJ, 30, .inr (.inl opr))), (qoa, .inl (cJ, 30, .inr (.inl opa)))] sz) := by
  refine Met.ofW (cc := bG_become) (maxL := 3) (ret := none) (by decide) rfl ?_
  intro p e s m args below meth c s₁ B hml hv
  obtain ⟨rfl, hsz, hP, hK, hD0⟩ := hv
  have hx := B.exec
  have hb := B.bytes
  have hr := B.returns
  have hts := atoms_spec (ws := wG_become) B.pre
  have hown : s.vm.findClass R_G = some m.cls := findClass_of_methodNamed B.named
  have htw : ∀ w ∈ WA, w.before _ s = true := fun w h => hts w (List.mem_cons_of_mem _ h)
  clear hts
  have hlocks := B.notSynchronized
  subst hsz
  have hD := hD0.self (sz := s.heap.size)
  generalize hAe : va_A [(g, .inr (0, [.ref so, .ref lo, .ref qpr, .ref qpa, .int (nI dy), .long co, .long wo])), (qpr, .inl (cJ, 30, .inr (.inl pr))), (qpa, .inl (cJ, 30, .inr (.inl pa))), (og, .inr (0, [.ref so, .ref lo, .ref qor, .ref qoa, .int (nI ody), .long oco, .long owo])), (qor, .inl (cJ, 30, .inr (.inl opr))), (qoa, .inl (cJ, 30, .inr (.inl opa)))] s.heap.size = A at hD ⊢
  have hA : ∀ q : Nat, s.heap.size ≤ q → A q := fun q h => by rw [← hAe]; exact Or.inr h
  clear hAe hD0
  have hS : va_S A s.heap s.heap [] := va_S.rf
  have hP : va_P (dC, dI) vwCl [(g, .inr (0, [.ref so, .ref lo, .ref qpr, .ref qpa, .int (nI dy), .long co, .long wo])), (qpr, .inl (cJ, 30, .inr (.inl pr))), (qpa, .inl (cJ, 30, .inr (.inl pa))), (og, .inr (0, [.ref so, .ref lo, .ref qor, .ref qoa, .int (nI ody), .long oco, .long owo])), (qor, .inl (cJ, 30, .inr (.inl opr))), (qoa, .inl (cJ, 30, .inr (.inl opa)))] s.heap := hP
  have hl := lv_entry ([.ref g, .ref og]) (n := 3) (Nat.le_of_ble_eq_true rfl)
  rw [lg_entry_eq]
  generalize (lg_sl ([.ref g, .ref og]) ++ List.replicate (3 - (lg_sl ([.ref g, .ref og])).length) Slot.unset).toArray = ls at hl ⊢
  have hl : lv_has ls 3 [(0, .ref g), (1, .ref og)] := hl
  refine lv_iconst (v := nI 0) hx hb dG_become_0 (by decide) ?_
  refine lv_istore_n (lv' := [(2, .int (nI 0)), (0, .ref g), (1, .ref og)]) hx hb dG_become_1 rfl hl (by decide) rfl (fun ls hl => ?_)
  -- the loop at 2
  have eq1 : (pr : Nat → Int64) = k_cp opr pr 0 := k_cp_0
  rw [eq1] at hP hD
  have eq2 : (pa : Nat → Int64) = k_cp opa pa 0 := k_cp_0
  rw [eq2] at hP hD
  have hP : va_P (dC, dI) vwCl [(g, .inr (0, [.ref so, .ref lo, .ref qpr, .ref qpa, .int (nI dy), .long co, .long wo])), (qpr, .inl (cJ, 30, .inr (.inl (k_cp opr pr 0)))), (qpa, .inl (cJ, 30, .inr (.inl (k_cp opa pa 0)))), (og, .inr (0, [.ref so, .ref lo, .ref qor, .ref qoa, .int (nI ody), .long oco, .long owo])), (qor, .inl (cJ, 30, .inr (.inl opr))), (qoa, .inl (cJ, 30, .inr (.inl opa)))] s.heap := by first | exact hP | simpa only [] using hP
  have hD : va_D A [(g, .inr (0, [.ref so, .ref lo, .ref qpr, .ref qpa, .int (nI dy), .long co, .long wo])), (qpr, .inl (cJ, 30, .inr (.inl (k_cp opr pr 0)))), (qpa, .inl (cJ, 30, .inr (.inl (k_cp opa pa 0)))), (og, .inr (0, [.ref so, .ref lo, .ref qor, .ref qoa, .int (nI ody), .long oco, .long owo])), (qor, .inl (cJ, 30, .inr (.inl opr))), (qoa, .inl (cJ, 30, .inr (.inl opa)))] := by first | exact hD | simpa only [] using hD
  refine x_loop (N := 30) (I := fun i H locs ls => va_P (dC, dI) vwCl [(g, .inr (0, [.ref so, .ref lo, .ref qpr, .ref qpa, .int (nI dy), .long co, .long wo])), (qpr, .inl (cJ, 30, .inr (.inl (k_cp opr pr i)))), (qpa, .inl (cJ, 30, .inr (.inl (k_cp opa pa i)))), (og, .inr (0, [.ref so, .ref lo, .ref qor, .ref qoa, .int (nI ody), .long oco, .long owo])), (qor, .inl (cJ, 30, .inr (.inl opr))), (qoa, .inl (cJ, 30, .inr (.inl opa)))] H ∧ va_D A [(g, .inr (0, [.ref so, .ref lo, .ref qpr, .ref qpa, .int (nI dy), .long co, .long wo])), (qpr, .inl (cJ, 30, .inr (.inl (k_cp opr pr i)))), (qpa, .inl (cJ, 30, .inr (.inl (k_cp opa pa i)))), (og, .inr (0, [.ref so, .ref lo, .ref qor, .ref qoa, .int (nI ody), .long oco, .long owo])), (qor, .inl (cJ, 30, .inr (.inl opr))), (qoa, .inl (cJ, 30, .inr (.inl opa)))] ∧ va_S A s.heap H locs ∧ lv_has ls 3 [(0, .ref g), (1, .ref og), (2, .int (nI i))]) (i0 := 0) ?_ (Nat.zero_le _) ⟨hP, hD, hS, lv_sub hl [1, 2, 0] rfl⟩
  intro i hi ih2 H locs ls hI
  obtain ⟨hP, hD, hS, hl⟩ := hI
  refine lv_iload_n hx hb dG_become_2 rfl (lv_at hl 2 rfl) ?_
  refine lv_bipush (v := nI 30) hx hb dG_become_3 (by decide) ?_
  refine lv_icmp_ge (tgt := 38) hx hb dG_become_5 (by decide) (fun hc5 => ?_) (fun hc5 => ?_)
  · -- 5 taken
    rw [nI_leI (by omega) (by omega)] at hc5
    obtain rfl : i = 30 := by omega
    obtain ⟨hP, hD⟩ := x_setL (q0 := 1) (g := opr) hP hD rfl (fun j hj => if_pos hj)
    have hP : va_P (dC, dI) vwCl [(g, .inr (0, [.ref so, .ref lo, .ref qpr, .ref qpa, .int (nI dy), .long co, .long wo])), (qpr, .inl (cJ, 30, .inr (.inl opr))), (qpa, .inl (cJ, 30, .inr (.inl (k_cp opa pa 30)))), (og, .inr (0, [.ref so, .ref lo, .ref qor, .ref qoa, .int (nI ody), .long oco, .long owo])), (qor, .inl (cJ, 30, .inr (.inl opr))), (qoa, .inl (cJ, 30, .inr (.inl opa)))] H := hP
    have hD : va_D A [(g, .inr (0, [.ref so, .ref lo, .ref qpr, .ref qpa, .int (nI dy), .long co, .long wo])), (qpr, .inl (cJ, 30, .inr (.inl opr))), (qpa, .inl (cJ, 30, .inr (.inl (k_cp opa pa 30)))), (og, .inr (0, [.ref so, .ref lo, .ref qor, .ref qoa, .int (nI ody), .long oco, .long owo])), (qor, .inl (cJ, 30, .inr (.inl opr))), (qoa, .inl (cJ, 30, .inr (.inl opa)))] := hD
    obtain ⟨hP, hD⟩ := x_setL (q0 := 2) (g := opa) hP hD rfl (fun j hj => if_pos hj)
    have hP : va_P (dC, dI) vwCl [(g, .inr (0, [.ref so, .ref lo, .ref qpr, .ref qpa, .int (nI dy), .long co, .long wo])), (qpr, .inl (cJ, 30, .inr (.inl opr))), (qpa, .inl (cJ, 30, .inr (.inl opa))), (og, .inr (0, [.ref so, .ref lo, .ref qor, .ref qoa, .int (nI ody), .long oco, .long owo])), (qor, .inl (cJ, 30, .inr (.inl opr))), (qoa, .inl (cJ, 30, .inr (.inl opa)))] H := hP
    have hD : va_D A [(g, .inr (0, [.ref so, .ref lo, .ref qpr, .ref qpa, .int (nI dy), .long co, .long wo])), (qpr, .inl (cJ, 30, .inr (.inl opr))), (qpa, .inl (cJ, 30, .inr (.inl opa))), (og, .inr (0, [.ref so, .ref lo, .ref qor, .ref qoa, .int (nI ody), .long oco, .long owo])), (qor, .inl (cJ, 30, .inr (.inl opr))), (qoa, .inl (cJ, 30, .inr (.inl opa)))] := hD
    refine lv_aload_n hx hb dG_become_38 rfl (lv_at hl 0 rfl) ?_
    refine lv_aload_n hx hb dG_become_39 rfl (lv_at hl 1 rfl) ?_
    refine va_get (D := (dC, dI)) (ci := 0) (v := .int (nI ody)) (C := R_G) (T := T_G) (N := 7) hx hb htw in_G hown hK hP 3 rfl rfl 4 (by decide) (htw _ m_121) (fun _ h9 => h9) rfl dG_become_40 ?_
    refine va_put (D := (dC, dI)) (ci := 0) (v := .int (nI ody)) (ty := .int) (C := R_G) (T := T_G) (N := 7) hx hb htw in_G ty_G tok_G nnm_G hown hK hP hD hS 0 rfl rfl 4 (by decide) (htw _ m_121) (fun _ h9 => h9) rfl (by decide +kernel) rfl rfl (Nat.le_of_ble_eq_true rfl) dG_become_43 (fun H locs hP hD hS => ?_)
    have hP : va_P (dC, dI) vwCl [(g, .inr (0, [.ref so, .ref lo, .ref qpr, .ref qpa, .int (nI ody), .long co, .long wo])), (qpr, .inl (cJ, 30, .inr (.inl opr))), (qpa, .inl (cJ, 30, .inr (.inl opa))), (og, .inr (0, [.ref so, .ref lo, .ref qor, .ref qoa, .int (nI ody), .long oco, .long owo])), (qor, .inl (cJ, 30, .inr (.inl opr))), (qoa, .inl (cJ, 30, .inr (.inl opa)))] H := hP
    have hD : va_D A [(g, .inr (0, [.ref so, .ref lo, .ref qpr, .ref qpa, .int (nI ody), .long co, .long wo])), (qpr, .inl (cJ, 30, .inr (.inl opr))), (qpa, .inl (cJ, 30, .inr (.inl opa))), (og, .inr (0, [.ref so, .ref lo, .ref qor, .ref qoa, .int (nI ody), .long oco, .long owo])), (qor, .inl (cJ, 30, .inr (.inl opr))), (qoa, .inl (cJ, 30, .inr (.inl opa)))] := hD
    refine lv_aload_n hx hb dG_become_46 rfl (lv_at hl 0 rfl) ?_
    refine lv_aload_n hx hb dG_become_47 rfl (lv_at hl 1 rfl) ?_
    refine va_get (D := (dC, dI)) (ci := 0) (v := .long oco) (C := R_G) (T := T_G) (N := 7) hx hb htw in_G hown hK hP 3 rfl rfl 5 (by decide) (htw _ m_122) (fun _ h9 => h9) rfl dG_become_48 ?_
    refine va_put (D := (dC, dI)) (ci := 0) (v := .long oco) (ty := .long) (C := R_G) (T := T_G) (N := 7) hx hb htw in_G ty_G tok_G nnm_G hown hK hP hD hS 0 rfl rfl 5 (by decide) (htw _ m_122) (fun _ h9 => h9) rfl (by decide +kernel) rfl rfl (Nat.le_of_ble_eq_true rfl) dG_become_51 (fun H locs hP hD hS => ?_)
    have hP : va_P (dC, dI) vwCl [(g, .inr (0, [.ref so, .ref lo, .ref qpr, .ref qpa, .int (nI ody), .long oco, .long wo])), (qpr, .inl (cJ, 30, .inr (.inl opr))), (qpa, .inl (cJ, 30, .inr (.inl opa))), (og, .inr (0, [.ref so, .ref lo, .ref qor, .ref qoa, .int (nI ody), .long oco, .long owo])), (qor, .inl (cJ, 30, .inr (.inl opr))), (qoa, .inl (cJ, 30, .inr (.inl opa)))] H := hP
    have hD : va_D A [(g, .inr (0, [.ref so, .ref lo, .ref qpr, .ref qpa, .int (nI ody), .long oco, .long wo])), (qpr, .inl (cJ, 30, .inr (.inl opr))), (qpa, .inl (cJ, 30, .inr (.inl opa))), (og, .inr (0, [.ref so, .ref lo, .ref qor, .ref qoa, .int (nI ody), .long oco, .long owo])), (qor, .inl (cJ, 30, .inr (.inl opr))), (qoa, .inl (cJ, 30, .inr (.inl opa)))] := hD
    refine lv_aload_n hx hb dG_become_54 rfl (lv_at hl 0 rfl) ?_
    refine lv_aload_n hx hb dG_become_55 rfl (lv_at hl 1 rfl) ?_
    refine va_get (D := (dC, dI)) (ci := 0) (v := .long owo) (C := R_G) (T := T_G) (N := 7) hx hb htw in_G hown hK hP 3 rfl rfl 6 (by decide) (htw _ m_124) (fun _ h9 => h9) rfl dG_become_56 ?_
    refine va_put (D := (dC, dI)) (ci := 0) (v := .long owo) (ty := .long) (C := R_G) (T := T_G) (N := 7) hx hb htw in_G ty_G tok_G nnm_G hown hK hP hD hS 0 rfl rfl 6 (by decide) (htw _ m_124) (fun _ h9 => h9) rfl (by decide +kernel) rfl rfl (Nat.le_of_ble_eq_true rfl) dG_become_59 (fun H locs hP hD hS => ?_)
    have hP : va_P (dC, dI) vwCl [(g, .inr (0, [.ref so, .ref lo, .ref qpr, .ref qpa, .int (nI ody), .long oco, .long owo])), (qpr, .inl (cJ, 30, .inr (.inl opr))), (qpa, .inl (cJ, 30, .inr (.inl opa))), (og, .inr (0, [.ref so, .ref lo, .ref qor, .ref qoa, .int (nI ody), .long oco, .long owo])), (qor, .inl (cJ, 30, .inr (.inl opr))), (qoa, .inl (cJ, 30, .inr (.inl opa)))] H := hP
    have hD : va_D A [(g, .inr (0, [.ref so, .ref lo, .ref qpr, .ref qpa, .int (nI ody), .long oco, .long owo])), (qpr, .inl (cJ, 30, .inr (.inl opr))), (qpa, .inl (cJ, 30, .inr (.inl opa))), (og, .inr (0, [.ref so, .ref lo, .ref qor, .ref qoa, .int (nI ody), .long oco, .long owo])), (qor, .inl (cJ, 30, .inr (.inl opr))), (qoa, .inl (cJ, 30, .inr (.inl opa)))] := hD
    have hP : va_P (dC, dI) vwCl [(g, .inr (0, [.ref so, .ref lo, .ref qpr, .ref qpa, .int (nI ody), .long oco, .long owo])), (qpr, .inl (cJ, 30, .inr (.inl opr))), (qpa, .inl (cJ, 30, .inr (.inl opa))), (og, .inr (0, [.ref so, .ref lo, .ref qor, .ref qoa, .int (nI ody), .long oco, .long owo])), (qor, .inl (cJ, 30, .inr (.inl opr))), (qoa, .inl (cJ, 30, .inr (.inl opa)))] H := by first | exact hP | simpa only [] using hP
    have hD : va_D A [(g, .inr (0, [.ref so, .ref lo, .ref qpr, .ref qpa, .int (nI ody), .long oco, .long owo])), (qpr, .inl (cJ, 30, .inr (.inl opr))), (qpa, .inl (cJ, 30, .inr (.inl opa))), (og, .inr (0, [.ref so, .ref lo, .ref qor, .ref qoa, .int (nI ody), .long oco, .long owo])), (qor, .inl (cJ, 30, .inr (.inl opr))), (qoa, .inl (cJ, 30, .inr (.inl opa)))] := by first | exact hD | simpa only [] using hD
    exact W.vret hx hb hr (fun t ht hW => ⟨⟨(), rfl, trivial, by rw [ht]; exact hP, va_K.moved hW.alike hK, hD⟩, hS.F ht⟩) hS.2.2 dG_become_62
  · -- 5 not taken
    rw [nI_leI (by omega) (by omega)] at hc5
    refine lv_aload_n hx hb dG_become_8 rfl (lv_at hl 0 rfl) ?_
    refine va_get (D := (dC, dI)) (ci := 0) (v := .ref qpr) (C := R_G) (T := T_G) (N := 7) hx hb htw in_G hown hK hP 0 rfl rfl 2 (by decide) (htw _ m_116) (fun _ h9 => h9) rfl dG_become_9 ?_
    refine lv_iload_n hx hb dG_become_12 rfl (lv_at hl 2 rfl) ?_
    refine lv_aload_n hx hb dG_become_13 rfl (lv_at hl 1 rfl) ?_
    refine va_get (D := (dC, dI)) (ci := 0) (v := .ref qor) (C := R_G) (T := T_G) (N := 7) hx hb htw in_G hown hK hP 3 rfl rfl 2 (by decide) (htw _ m_116) (fun _ h9 => h9) rfl dG_become_14 ?_
    refine lv_iload_n hx hb dG_become_17 rfl (lv_at hl 2 rfl) ?_
    refine xa_lald hx hb hK hP 4 1 rfl rfl (i := i) (by omega) (by decide) dG_become_18 ?_
    refine xa_last hx hb hK hP hD hS 1 1 rfl rfl (i := i) (by omega) (by decide) dG_become_19 (fun H locs hP hD hS => ?_)
    have hP : va_P (dC, dI) vwCl [(g, .inr (0, [.ref so, .ref lo, .ref qpr, .ref qpa, .int (nI dy), .long co, .long wo])), (qpr, .inl (cJ, 30, .inr (.inl (vp_updL (k_cp opr pr i) i (opr i))))), (qpa, .inl (cJ, 30, .inr (.inl (k_cp opa pa i)))), (og, .inr (0, [.ref so, .ref lo, .ref qor, .ref qoa, .int (nI ody), .long oco, .long owo])), (qor, .inl (cJ, 30, .inr (.inl opr))), (qoa, .inl (cJ, 30, .inr (.inl opa)))] H := hP
    have hD : va_D A [(g, .inr (0, [.ref so, .ref lo, .ref qpr, .ref qpa, .int (nI dy), .long co, .long wo])), (qpr, .inl (cJ, 30, .inr (.inl (vp_updL (k_cp opr pr i) i (opr i))))), (qpa, .inl (cJ, 30, .inr (.inl (k_cp opa pa i)))), (og, .inr (0, [.ref so, .ref lo, .ref qor, .ref qoa, .int (nI ody), .long oco, .long owo])), (qor, .inl (cJ, 30, .inr (.inl opr))), (qoa, .inl (cJ, 30, .inr (.inl opa)))] := hD
    refine lv_aload_n hx hb dG_become_20 rfl (lv_at hl 0 rfl) ?_
    refine va_get (D := (dC, dI)) (ci := 0) (v := .ref qpa) (C := R_G) (T := T_G) (N := 7) hx hb htw in_G hown hK hP 0 rfl rfl 3 (by decide) (htw _ m_118) (fun _ h9 => h9) rfl dG_become_21 ?_
    refine lv_iload_n hx hb dG_become_24 rfl (lv_at hl 2 rfl) ?_
    refine lv_aload_n hx hb dG_become_25 rfl (lv_at hl 1 rfl) ?_
    refine va_get (D := (dC, dI)) (ci := 0) (v := .ref qoa) (C := R_G) (T := T_G) (N := 7) hx hb htw in_G hown hK hP 3 rfl rfl 3 (by decide) (htw _ m_118) (fun _ h9 => h9) rfl dG_become_26 ?_
    refine lv_iload_n hx hb dG_become_29 rfl (lv_at hl 2 rfl) ?_
    refine xa_lald hx hb hK hP 5 1 rfl rfl (i := i) (by omega) (by decide) dG_become_30 ?_
    refine xa_last hx hb hK hP hD hS 2 1 rfl rfl (i := i) (by omega) (by decide) dG_become_31 (fun H locs hP hD hS => ?_)
    have hP : va_P (dC, dI) vwCl [(g, .inr (0, [.ref so, .ref lo, .ref qpr, .ref qpa, .int (nI dy), .long co, .long wo])), (qpr, .inl (cJ, 30, .inr (.inl (vp_updL (k_cp opr pr i) i (opr i))))), (qpa, .inl (cJ, 30, .inr (.inl (vp_updL (k_cp opa pa i) i (opa i))))), (og, .inr (0, [.ref so, .ref lo, .ref qor, .ref qoa, .int (nI ody), .long oco, .long owo])), (qor, .inl (cJ, 30, .inr (.inl opr))), (qoa, .inl (cJ, 30, .inr (.inl opa)))] H := hP
    have hD : va_D A [(g, .inr (0, [.ref so, .ref lo, .ref qpr, .ref qpa, .int (nI dy), .long co, .long wo])), (qpr, .inl (cJ, 30, .inr (.inl (vp_updL (k_cp opr pr i) i (opr i))))), (qpa, .inl (cJ, 30, .inr (.inl (vp_updL (k_cp opa pa i) i (opa i))))), (og, .inr (0, [.ref so, .ref lo, .ref qor, .ref qoa, .int (nI ody), .long oco, .long owo])), (qor, .inl (cJ, 30, .inr (.inl opr))), (qoa, .inl (cJ, 30, .inr (.inl opa)))] := hD
    refine lv_iinc (v := nI (i + 1)) (lv' := [(2, .int (nI (i + 1))), (0, .ref g), (1, .ref og)]) hx hb dG_become_32 hl (k := 2) rfl (nI_1 _) (by decide) rfl (fun ls hl => ?_)
    refine lv_goto (tgt := 2) hx hb dG_become_35 (by decide) ?_
    have eq3 : (vp_updL (k_cp opr pr i) i (opr i) : Nat → Int64) = k_cp opr pr (i + 1) := k_cp_s
    rw [eq3] at hP hD
    have eq4 : (vp_updL (k_cp opa pa i) i (opa i) : Nat → Int64) = k_cp opa pa (i + 1) := k_cp_s
    rw [eq4] at hP hD
    have hP : va_P (dC, dI) vwCl [(g, .inr (0, [.ref so, .ref lo, .ref qpr, .ref qpa, .int (nI dy), .long co, .long wo])), (qpr, .inl (cJ, 30, .inr (.inl (k_cp opr pr (i + 1))))), (qpa, .inl (cJ, 30, .inr (.inl (k_cp opa pa (i + 1))))), (og, .inr (0, [.ref so, .ref lo, .ref qor, .ref qoa, .int (nI ody), .long oco, .long owo])), (qor, .inl (cJ, 30, .inr (.inl opr))), (qoa, .inl (cJ, 30, .inr (.inl opa)))] H := by first | exact hP | simpa only [] using hP
    have hD : va_D A [(g, .inr (0, [.ref so, .ref lo, .ref qpr, .ref qpa, .int (nI dy), .long co, .long wo])), (qpr, .inl (cJ, 30, .inr (.inl (k_cp opr pr (i + 1))))), (qpa, .inl (cJ, 30, .inr (.inl (k_cp opa pa (i + 1))))), (og, .inr (0, [.ref so, .ref lo, .ref qor, .ref qoa, .int (nI ody), .long oco, .long owo])), (qor, .inl (cJ, 30, .inr (.inl opr))), (qoa, .inl (cJ, 30, .inr (.inl opa)))] := by first | exact hD | simpa only [] using hD
    exact ih2 (by omega) _ _ _ ⟨hP, hD, hS, lv_sub hl [1, 2, 0] rfl⟩
end
section
set_option maxHeartbeats 4000000 in
set_option maxRecDepth 100000 in
theorem kG_passDay (l : Launch) (dC : Nat → ClassId) (dI : Nat → Nat → Nat) (cI cJ : ClassId) (g so lo qpr qpa qlk qln qhd qsf qfp qfc qld qlz : Nat) (sz : Nat) (dy : Nat) (co : Int64) (wo : Int64) (pr : Nat → Int64) (pa : Nat → Int64) (ly : Nat) (ce : Nat) (da : Int32) (db : Int32) (dr : Int32) (lk : Nat → Int32) (ln : Nat → Int32) (mn : Nat) (sm : Int64) (ld : Nat → Int32) (lz : Nat → Int32) (hce : ce ≤ 30) (h0 : 0 < ce) (hmn : mn ≤ 12) (hdy : dy < 1000) : Met l yG_passDay wG_passDay ({ frames := 2, cells := 0, slots := 0, locals := 49 }) (va_Pc [.ref g] (fun U => U.heap.size = sz ∧ va_P (dC, dI) vwCl [(g, .inr (0, [.ref so, .ref lo, .ref qpr, .ref qpa, .int (nI dy), .long co, .long wo])), (qpr, .inl (cJ, 30, .inr (.inl pr))), (qpa, .inl (cJ, 30, .inr (.inl pa))), (so, .inr (3, [.ref qlk, .ref qln, .ref qhd, .ref qsf, .ref qfp, .ref qfc, .int (nI ly), .int (nI ce), .int da, .int db, .int dr])), (qlk, .inl (cI, 30, .inl lk)), (qln, .inl (cI, 30, .inl ln)), (lo, .inr (1, [.ref qld, .ref qlz, .int (nI mn), .long sm])), (qld, .inl (cI, 12, .inl ld)), (qlz, .inl (cI, 12, .inl lz))] U.heap ∧ va_K (dC, dI) vwCl [(cI, .int), (cJ, .long)] U ∧ va_D (fun _ => True) [(g, .inr (0, [.ref so, .ref lo, .ref qpr, .ref qpa, .int (nI dy), .long co, .long wo])), (qpr, .inl (cJ, 30, .inr (.inl pr))), (qpa, .inl (cJ, 30, .inr (.inl pa))), (so, .inr (3, [.ref qlk, .ref qln, .ref qhd, .ref qsf, .ref qfp, .ref qfc, .int (nI ly), .int (nI ce), .int da, .int db, .int dr])), (qlk, .inl (cI, 30, .inl lk)), (qln, .inl (cI, 30, .inl ln)), (lo, .inr (1, [.ref qld, .ref qlz, .int (nI mn), .long sm])), (qld, .inl (cI, 12, .inl ld)), (qlz, .inl (cI, 12, .inl lz))])) (va_Qv (fun (_ : Unit) => True) (fun _ t => va_P (dC, dI) vwCl [(g, .inr (0, [.ref so, .ref lo, .ref qpr, .ref qpa, .int (nI (dy + 1)), .long (co + k_come ld lz (nI dy) mn), .long (k_w lk ln ce da db dr (k_lay pr ce (k_come ld lz (nI dy) mn)) wo 24)])), (qpr, .inl (cJ, 30, .inr (.inl (k_p lk ln ce da db dr (k_lay pr ce (k_come ld lz (nI dy) mn)) 24)))), (qpa, .inl (cJ, 30, .inr (.inl (k_a lk ln ce da db dr (co + k_come ld lz (nI dy) mn) (k_lay pr ce (k_come ld lz (nI dy) mn)) pa 24)))), (so, .inr (3, [.ref qlk, .ref qln, .ref qhd, .ref qsf, .ref qfp, .ref qfc, .int (nI ly), .int (nI ce), .int da, .int db, .int dr])), (qlk, .inl (cI, 30, .inl lk)), (qln, .inl (cI, 30, .inl ln)), (lo, .inr (1, [.ref qld, .ref qlz, .int (nI mn), .long sm])), (qld, .inl (cI, 12, .inl ld)), (qlz, .inl (cI, 12, .inl lz))] t.heap ∧ va_K (dC, dI) vwCl [(cI, .int), (cJ, .long)] t ∧ va_D (va_A [(g, .inr (0, [.ref so, .ref lo, .ref qpr, .ref qpa, .int (nI dy), .long co, .long wo])), (qpr, .inl (cJ, 30, .inr (.inl pr))), (qpa, .inl (cJ, 30, .inr (.inl pa))), (so, .inr (3, [.ref qlk, .ref qln, .ref qhd, .ref qsf, .ref qfp, .ref qfc, .int (nI ly), .int (nI ce), .int da, .int db, .int dr])), (qlk, .inl (cI, 30, .inl lk)), (qln, .inl (cI, 30, .inl ln)), (lo, .inr (1, [.ref qld, .ref qlz, .int (nI mn), .long sm])), (qld, .inl (cI, 12, .inl ld)), (qlz, .inl (cI, 12, .inl lz))] sz) [(g, .inr (0, [.ref so, .ref lo, .ref qpr, .ref qpa, .int (nI (dy + 1)), .long (co + k_come ld lz (nI dy) mn), .long (k_w lk ln ce da db dr (k_lay pr ce (k_come ld lz (nI dy) mn)) wo 24)])), (qpr, .inl (cJ, 30, .inr (.inl (k_p lk ln ce da db dr (k_lay pr ce (k_come ld lz (nI dy) mn)) 24)))), (qpa, .inl (cJ, 30, .inr (.inl (k_a lk ln ce da db dr (co + k_come ld lz (nI dy) mn) (k_lay pr ce (k_come ld lz (nI dy) mn)) pa 24)))), (so, .inr (3, [.ref qlk, .ref qln, .ref qhd, .ref qsf, .ref qfp, .ref qfc, .int (nI ly), .int (nI ce), .int da, .int db, .int dr])), (qlk, .inl (cI, 30, .inl lk)), (qln, .inl (cI, 30, .inl ln)), (lo, .inr (1, [.ref qld, .ref qlz, .int (nI mn), .long sm])), (qld, .inl (cI, 12, .inl ld)), (qlz, .inl (cI, 12, .inl lz))]) (va_A [(g, .inr (0, [.ref so, .ref lo, .ref qpr, .ref qpa, .int (nI dy), .long co, .long wo])), (qpr, .inl (cJ, 30, .inr (.inl pr))), (qpa, .inl (cJ, 30, .inr (.inl pa))), (so, .inr (3, [.ref qlk, .ref qln, .ref qhd, .ref qsf, .ref qfp, .ref qfc, .int (nI ly), .int (nI ce), .int da, .int db, .int dr])), (qlk, .inl (cI, 30, .inl lk)), (qln, .inl (cI, 30, .inl ln)), (lo, .inr (1, [.ref qld, .ref qlz, .int (nI mn), .long sm])), (qld, .inl (cI, 12, .inl ld)), (qlz, .inl (cI, 12, .inl lz))] sz)) 0 0 (va_A [(g, .inr (0, [.ref so, .ref lo, .ref qpr, .ref qpa, .int (nI dy), .long co, .long wo])), (qpr, .inl (cJ, 30, .inr (.inl pr))), (qpa, .inl (cJ, 30, .inr (.inl pa))), (so, .inr (3, [.ref qlk, .ref qln, .ref qhd, .ref qsf, .ref qfp, .ref qfc, .int (nI ly), .int (nI ce), .int da, .int db, .int dr])), (qlk, .inl (cI, 30, .inl lk)), (qln, .inl (cI, 30, .inl ln)), (lo, .inr (1, [.ref qld, .ref qlz, .int (nI mn), .long sm])), (qld, .inl (cI, 12, .inl ld)), (qlz, .inl (cI, 12, .inl lz))] sz) := by
  refine Met.ofW (cc := bG_passDay) (maxL := 3) (ret := none) (by decide) rfl ?_
  intro p e s m args below meth c s₁ B hml hv
  obtain ⟨rfl, hsz, hP, hK, hD0⟩ := hv
  have hx := B.exec
  have hb := B.bytes
  have hr := B.returns
  have hts := atoms_spec (ws := wG_passDay) B.pre
  have hown : s.vm.findClass R_G = some m.cls := findClass_of_methodNamed B.named
  have htw : ∀ w ∈ WA, w.before _ s = true := fun w h => hts w (List.mem_cons_of_mem _ h)
  clear hts
  have hlocks := B.notSynchronized
  subst hsz
  have hD := hD0.self (sz := s.heap.size)
  generalize hAe : va_A [(g, .inr (0, [.ref so, .ref lo, .ref qpr, .ref qpa, .int (nI dy), .long co, .long wo])), (qpr, .inl (cJ, 30, .inr (.inl pr))), (qpa, .inl (cJ, 30, .inr (.inl pa))), (so, .inr (3, [.ref qlk, .ref qln, .ref qhd, .ref qsf, .ref qfp, .ref qfc, .int (nI ly), .int (nI ce), .int da, .int db, .int dr])), (qlk, .inl (cI, 30, .inl lk)), (qln, .inl (cI, 30, .inl ln)), (lo, .inr (1, [.ref qld, .ref qlz, .int (nI mn), .long sm])), (qld, .inl (cI, 12, .inl ld)), (qlz, .inl (cI, 12, .inl lz))] s.heap.size = A at hD ⊢
  have hA : ∀ q : Nat, s.heap.size ≤ q → A q := fun q h => by rw [← hAe]; exact Or.inr h
  clear hAe hD0
  have hS : va_S A s.heap s.heap [] := va_S.rf
  have hP : va_P (dC, dI) vwCl [(g, .inr (0, [.ref so, .ref lo, .ref qpr, .ref qpa, .int (nI dy), .long co, .long wo])), (qpr, .inl (cJ, 30, .inr (.inl pr))), (qpa, .inl (cJ, 30, .inr (.inl pa))), (so, .inr (3, [.ref qlk, .ref qln, .ref qhd, .ref qsf, .ref qfp, .ref qfc, .int (nI ly), .int (nI ce), .int da, .int db, .int dr])), (qlk, .inl (cI, 30, .inl lk)), (qln, .inl (cI, 30, .inl ln)), (lo, .inr (1, [.ref qld, .ref qlz, .int (nI mn), .long sm])), (qld, .inl (cI, 12, .inl ld)), (qlz, .inl (cI, 12, .inl lz))] s.heap := hP
  have hl := lv_entry ([.ref g]) (n := 3) (Nat.le_of_ble_eq_true rfl)
  rw [lg_entry_eq]
  generalize (lg_sl ([.ref g]) ++ List.replicate (3 - (lg_sl ([.ref g])).length) Slot.unset).toArray = ls at hl ⊢
  have hl : lv_has ls 3 [(0, .ref g)] := hl
  refine lv_aload_n hx hb dG_passDay_0 rfl (lv_at hl 0 rfl) ?_
  refine lv_aload_n hx hb dG_passDay_1 rfl (lv_at hl 0 rfl) ?_
  refine va_get (D := (dC, dI)) (ci := 0) (v := .ref lo) (C := R_G) (T := T_G) (N := 7) hx hb htw in_G hown hK hP 0 rfl rfl 1 (by decide) (htw _ m_115) (fun _ h9 => h9) rfl dG_passDay_2 ?_
  refine lv_aload_n hx hb dG_passDay_5 rfl (lv_at hl 0 rfl) ?_
  refine va_get (D := (dC, dI)) (ci := 0) (v := .int (nI dy)) (C := R_G) (T := T_G) (N := 7) hx hb htw in_G hown hK hP 0 rfl rfl 4 (by decide) (htw _ m_121) (fun _ h9 => h9) rfl dG_passDay_6 ?_
  have hPc := hP.sub (ws' := [(lo, .inr (1, [.ref qld, .ref qlz, .int (nI mn), .long sm])), (qld, .inl (cI, 12, .inl ld)), (qlz, .inl (cI, 12, .inl lz))]) [6, 7, 8] rfl
  have hDc := hD.sub (ws' := [(lo, .inr (1, [.ref qld, .ref qlz, .int (nI mn), .long sm])), (qld, .inl (cI, 12, .inl ld)), (qlz, .inl (cI, 12, .inl lz))]) [6, 7, 8] (by decide) rfl
  have hFc := va_free (wc := [(lo, .inr (1, [.ref qld, .ref qlz, .int (nI mn), .long sm])), (qld, .inl (cI, 12, .inl ld)), (qlz, .inl (cI, 12, .inl lz))]) hD hS hA [6, 7, 8] rfl
  refine va_calll (va_runV (As := [.int (nI dy)]) (rest := [.ref g]) ⟨hx, hb, hml, hown, htw⟩ (kO_comingOn l dC dI cI cJ lo qld qlz s.heap.size (nI dy) mn sm ld lz (by first | assumption | omega | decide)) (cwV 1 htw (wv_good m_200 m_201 m_202 m_3 m_203) rfl rfl rfl (by decide +kernel) ⟨Nat.le_of_ble_eq_true rfl, Nat.le_of_ble_eq_true rfl⟩) ⟨fun a U g mk q => by obtain ⟨q0, q1, qP, qK, qD⟩ := q; exact ⟨q0, q1, qP, va_K.moved (u := U) (U := U.calling g mk a) (Vm.Alike.refl U.vm) qK, qD⟩, va_recv hK hPc (ci := 1) (q0 := 0) rfl rfl, fun U hU hW => ⟨rfl, by rw [hU], by rw [hU]; exact hPc, va_K.moved hW.alike hK, hDc.weaken (fun _ _ _ _ => trivial)⟩⟩ rfl rfl hl.1 rfl (lv_room (Nat.le_of_ble_eq_true rfl)) dG_passDay_9 ⟨Nat.le_of_ble_eq_true rfl, Nat.le_of_ble_eq_true rfl⟩) hS (fun q _ h => hFc q h) hFc (fun res_ u_ t H1 locs ht hvm hw hB hz1 hk1 hS => ?_)
  obtain ⟨hP1, hK1, hD1⟩ := hB
  rw [ht] at hP1
  obtain ⟨hP, hD⟩ := va_join (wr := [(g, .inr (0, [.ref so, .ref lo, .ref qpr, .ref qpa, .int (nI dy), .long co, .long wo])), (qpr, .inl (cJ, 30, .inr (.inl pr))), (qpa, .inl (cJ, 30, .inr (.inl pa))), (so, .inr (3, [.ref qlk, .ref qln, .ref qhd, .ref qsf, .ref qfp, .ref qfc, .int (nI ly), .int (nI ce), .int da, .int db, .int dr])), (qlk, .inl (cI, 30, .inl lk)), (qln, .inl (cI, 30, .inl ln))]) (w1 := [(lo, .inr (1, [.ref qld, .ref qlz, .int (nI mn), .long sm])), (qld, .inl (cI, 12, .inl ld)), (qlz, .inl (cI, 12, .inl lz))]) hP hD [6, 7, 8] [0, 1, 2, 3, 4, 5] rfl rfl (by decide) (by decide) hk1 hFc hP1 hD1
  generalize H1 = H at hP hS ⊢
  have hP : va_P (dC, dI) vwCl [(g, .inr (0, [.ref so, .ref lo, .ref qpr, .ref qpa, .int (nI dy), .long co, .long wo])), (qpr, .inl (cJ, 30, .inr (.inl pr))), (qpa, .inl (cJ, 30, .inr (.inl pa))), (so, .inr (3, [.ref qlk, .ref qln, .ref qhd, .ref qsf, .ref qfp, .ref qfc, .int (nI ly), .int (nI ce), .int da, .int db, .int dr])), (qlk, .inl (cI, 30, .inl lk)), (qln, .inl (cI, 30, .inl ln)), (lo, .inr (1, [.ref qld, .ref qlz, .int (nI mn), .long sm])), (qld, .inl (cI, 12, .inl ld)), (qlz, .inl (cI, 12, .inl lz))] H := hP
  have hD : va_D A [(g, .inr (0, [.ref so, .ref lo, .ref qpr, .ref qpa, .int (nI dy), .long co, .long wo])), (qpr, .inl (cJ, 30, .inr (.inl pr))), (qpa, .inl (cJ, 30, .inr (.inl pa))), (so, .inr (3, [.ref qlk, .ref qln, .ref qhd, .ref qsf, .ref qfp, .ref qfc, .int (nI ly), .int (nI ce), .int da, .int db, .int dr])), (qlk, .inl (cI, 30, .inl lk)), (qln, .inl (cI, 30, .inl ln)), (lo, .inr (1, [.ref qld, .ref qlz, .int (nI mn), .long sm])), (qld, .inl (cI, 12, .inl ld)), (qlz, .inl (cI, 12, .inl lz))] := hD
  clear hPc hDc hFc hP1 hD1 hK1 hk1 hz1 hvm ht
  obtain rfl : res_ = k_come ld lz (nI dy) mn := hw
  have hPc := hP.sub (ws' := [(g, .inr (0, [.ref so, .ref lo, .ref qpr, .ref qpa, .int (nI dy), .long co, .long wo])), (qpr, .inl (cJ, 30, .inr (.inl pr))), (so, .inr (3, [.ref qlk, .ref qln, .ref qhd, .ref qsf, .ref qfp, .ref qfc, .int (nI ly), .int (nI ce), .int da, .int db, .int dr]))]) [0, 1, 3] rfl
  have hDc := hD.sub (ws' := [(g, .inr (0, [.ref so, .ref lo, .ref qpr, .ref qpa, .int (nI dy), .long co, .long wo])), (qpr, .inl (cJ, 30, .inr (.inl pr))), (so, .inr (3, [.ref qlk, .ref qln, .ref qhd, .ref qsf, .ref qfp, .ref qfc, .int (nI ly), .int (nI ce), .int da, .int db, .int dr]))]) [0, 1, 3] (by decide) rfl
  have hFc := va_free (wc := [(g, .inr (0, [.ref so, .ref lo, .ref qpr, .ref qpa, .int (nI dy), .long co, .long wo])), (qpr, .inl (cJ, 30, .inr (.inl pr))), (so, .inr (3, [.ref qlk, .ref qln, .ref qhd, .ref qsf, .ref qfp, .ref qfc, .int (nI ly), .int (nI ce), .int da, .int db, .int dr]))]) hD hS hA [0, 1, 3] rfl
  refine va_callv (va_runV (As := [.long (k_come ld lz (nI dy) mn)]) (rest := []) ⟨hx, hb, hml, hown, htw⟩ (kG_lay l dC dI cI cJ g so lo qpr qpa qlk qln qhd qsf qfp qfc H.size (k_come ld lz (nI dy) mn) dy co wo pr ly ce da db dr (by first | assumption | omega | decide)) (cwV 1 htw (wv_good m_204 m_205 m_206 m_5 m_207) rfl rfl rfl (by decide +kernel) ⟨Nat.le_of_ble_eq_true rfl, Nat.le_of_ble_eq_true rfl⟩) ⟨fun a U g mk q => by obtain ⟨q0, q1, qP, qK, qD⟩ := q; exact ⟨q0, q1, qP, va_K.moved (u := U) (U := U.calling g mk a) (Vm.Alike.refl U.vm) qK, qD⟩, va_recv hK hPc (ci := 0) (q0 := 0) rfl rfl, fun U hU hW => ⟨rfl, by rw [hU], by rw [hU]; exact hPc, va_K.moved hW.alike hK, hDc.weaken (fun _ _ _ _ => trivial)⟩⟩ rfl rfl hl.1 rfl (lv_room (Nat.le_of_ble_eq_true rfl)) dG_passDay_12 ⟨Nat.le_of_ble_eq_true rfl, Nat.le_of_ble_eq_true rfl⟩) hS (fun q _ h => hFc q h) hFc (fun u_ t H1 locs ht hvm hw hB hz1 hk1 hS => ?_)
  obtain ⟨hP1, hK1, hD1⟩ := hB
  rw [ht] at hP1
  obtain ⟨hP, hD⟩ := va_join (wr := [(qpa, .inl (cJ, 30, .inr (.inl pa))), (qlk, .inl (cI, 30, .inl lk)), (qln, .inl (cI, 30, .inl ln)), (lo, .inr (1, [.ref qld, .ref qlz, .int (nI mn), .long sm])), (qld, .inl (cI, 12, .inl ld)), (qlz, .inl (cI, 12, .inl lz))]) (w1 := [(g, .inr (0, [.ref so, .ref lo, .ref qpr, .ref qpa, .int (nI dy), .long (co + (k_come ld lz (nI dy) mn)), .long wo])), (qpr, .inl (cJ, 30, .inr (.inl (k_lay pr ce (k_come ld lz (nI dy) mn))))), (so, .inr (3, [.ref qlk, .ref qln, .ref qhd, .ref qsf, .ref qfp, .ref qfc, .int (nI ly), .int (nI ce), .int da, .int db, .int dr]))]) hP hD [0, 1, 3] [2, 4, 5, 6, 7, 8] rfl rfl (by decide) (by decide) hk1 hFc hP1 hD1
  generalize H1 = H at hP hS ⊢
  have hP := hP.sub (ws' := [(g, .inr (0, [.ref so, .ref lo, .ref qpr, .ref qpa, .int (nI dy), .long (co + (k_come ld lz (nI dy) mn)), .long wo])), (qpr, .inl (cJ, 30, .inr (.inl (k_lay pr ce (k_come ld lz (nI dy) mn))))), (qpa, .inl (cJ, 30, .inr (.inl pa))), (so, .inr (3, [.ref qlk, .ref qln, .ref qhd, .ref qsf, .ref qfp, .ref qfc, .int (nI ly), .int (nI ce), .int da, .int db, .int dr])), (qlk, .inl (cI, 30, .inl lk)), (qln, .inl (cI, 30, .inl ln)), (lo, .inr (1, [.ref qld, .ref qlz, .int (nI mn), .long sm])), (qld, .inl (cI, 12, .inl ld)), (qlz, .inl (cI, 12, .inl lz))]) [6, 7, 0, 8, 1, 2, 3, 4, 5] rfl
  have hD := hD.sub (ws' := [(g, .inr (0, [.ref so, .ref lo, .ref qpr, .ref qpa, .int (nI dy), .long (co + (k_come ld lz (nI dy) mn)), .long wo])), (qpr, .inl (cJ, 30, .inr (.inl (k_lay pr ce (k_come ld lz (nI dy) mn))))), (qpa, .inl (cJ, 30, .inr (.inl pa))), (so, .inr (3, [.ref qlk, .ref qln, .ref qhd, .ref qsf, .ref qfp, .ref qfc, .int (nI ly), .int (nI ce), .int da, .int db, .int dr])), (qlk, .inl (cI, 30, .inl lk)), (qln, .inl (cI, 30, .inl ln)), (lo, .inr (1, [.ref qld, .ref qlz, .int (nI mn), .long sm])), (qld, .inl (cI, 12, .inl ld)), (qlz, .inl (cI, 12, .inl lz))]) [6, 7, 0, 8, 1, 2, 3, 4, 5] (by decide) rfl
  clear hPc hDc hFc hP1 hD1 hK1 hk1 hz1 hvm ht
  refine lv_iconst (v := nI 1) hx hb dG_passDay_15 (by decide) ?_
  refine lv_istore_n (lv' := [(1, .int (nI 1)), (0, .ref g)]) hx hb dG_passDay_16 rfl hl (by decide) rfl (fun ls hl => ?_)
  refine lv_iconst (v := nI 0) hx hb dG_passDay_17 (by decide) ?_
  refine lv_istore_n (lv' := [(2, .int (nI 0)), (1, .int (nI 1)), (0, .ref g)]) hx hb dG_passDay_18 rfl hl (by decide) rfl (fun ls hl => ?_)
  -- the loop at 19
  have hP : va_P (dC, dI) vwCl [(g, .inr (0, [.ref so, .ref lo, .ref qpr, .ref qpa, .int (nI dy), .long (co + k_come ld lz (nI dy) mn), .long (k_w lk ln ce da db dr (k_lay pr ce (k_come ld lz (nI dy) mn)) wo 0)])), (qpr, .inl (cJ, 30, .inr (.inl (k_p lk ln ce da db dr (k_lay pr ce (k_come ld lz (nI dy) mn)) 0)))), (qpa, .inl (cJ, 30, .inr (.inl (k_a lk ln ce da db dr (co + k_come ld lz (nI dy) mn) (k_lay pr ce (k_come ld lz (nI dy) mn)) pa 0)))), (so, .inr (3, [.ref qlk, .ref qln, .ref qhd, .ref qsf, .ref qfp, .ref qfc, .int (nI ly), .int (nI ce), .int da, .int db, .int dr])), (qlk, .inl (cI, 30, .inl lk)), (qln, .inl (cI, 30, .inl ln)), (lo, .inr (1, [.ref qld, .ref qlz, .int (nI mn), .long sm])), (qld, .inl (cI, 12, .inl ld)), (qlz, .inl (cI, 12, .inl lz))] H := by first | exact hP | simpa only [] using hP
  have hD : va_D A [(g, .inr (0, [.ref so, .ref lo, .ref qpr, .ref qpa, .int (nI dy), .long (co + k_come ld lz (nI dy) mn), .long (k_w lk ln ce da db dr (k_lay pr ce (k_come ld lz (nI dy) mn)) wo 0)])), (qpr, .inl (cJ, 30, .inr (.inl (k_p lk ln ce da db dr (k_lay pr ce (k_come ld lz (nI dy) mn)) 0)))), (qpa, .inl (cJ, 30, .inr (.inl (k_a lk ln ce da db dr (co + k_come ld lz (nI dy) mn) (k_lay pr ce (k_come ld lz (nI dy) mn)) pa 0)))), (so, .inr (3, [.ref qlk, .ref qln, .ref qhd, .ref qsf, .ref qfp, .ref qfc, .int (nI ly), .int (nI ce), .int da, .int db, .int dr])), (qlk, .inl (cI, 30, .inl lk)), (qln, .inl (cI, 30, .inl ln)), (lo, .inr (1, [.ref qld, .ref qlz, .int (nI mn), .long sm])), (qld, .inl (cI, 12, .inl ld)), (qlz, .inl (cI, 12, .inl lz))] := by first | exact hD | simpa only [] using hD
  have eq5 : (nI 1) = kb (k_on lk ln ce da db dr (k_lay pr ce (k_come ld lz (nI dy) mn)) 0 = true) := kb_t rfl
  rw [eq5] at hl
  refine x_loop (N := 24) (I := fun i H locs ls => va_P (dC, dI) vwCl [(g, .inr (0, [.ref so, .ref lo, .ref qpr, .ref qpa, .int (nI dy), .long (co + k_come ld lz (nI dy) mn), .long (k_w lk ln ce da db dr (k_lay pr ce (k_come ld lz (nI dy) mn)) wo i)])), (qpr, .inl (cJ, 30, .inr (.inl (k_p lk ln ce da db dr (k_lay pr ce (k_come ld lz (nI dy) mn)) i)))), (qpa, .inl (cJ, 30, .inr (.inl (k_a lk ln ce da db dr (co + k_come ld lz (nI dy) mn) (k_lay pr ce (k_come ld lz (nI dy) mn)) pa i)))), (so, .inr (3, [.ref qlk, .ref qln, .ref qhd, .ref qsf, .ref qfp, .ref qfc, .int (nI ly), .int (nI ce), .int da, .int db, .int dr])), (qlk, .inl (cI, 30, .inl lk)), (qln, .inl (cI, 30, .inl ln)), (lo, .inr (1, [.ref qld, .ref qlz, .int (nI mn), .long sm])), (qld, .inl (cI, 12, .inl ld)), (qlz, .inl (cI, 12, .inl lz))] H ∧ va_D A [(g, .inr (0, [.ref so, .ref lo, .ref qpr, .ref qpa, .int (nI dy), .long (co + k_come ld lz (nI dy) mn), .long (k_w lk ln ce da db dr (k_lay pr ce (k_come ld lz (nI dy) mn)) wo i)])), (qpr, .inl (cJ, 30, .inr (.inl (k_p lk ln ce da db dr (k_lay pr ce (k_come ld lz (nI dy) mn)) i)))), (qpa, .inl (cJ, 30, .inr (.inl (k_a lk ln ce da db dr (co + k_come ld lz (nI dy) mn) (k_lay pr ce (k_come ld lz (nI dy) mn)) pa i)))), (so, .inr (3, [.ref qlk, .ref qln, .ref qhd, .ref qsf, .ref qfp, .ref qfc, .int (nI ly), .int (nI ce), .int da, .int db, .int dr])), (qlk, .inl (cI, 30, .inl lk)), (qln, .inl (cI, 30, .inl ln)), (lo, .inr (1, [.ref qld, .ref qlz, .int (nI mn), .long sm])), (qld, .inl (cI, 12, .inl ld)), (qlz, .inl (cI, 12, .inl lz))] ∧ va_S A s.heap H locs ∧ lv_has ls 3 [(0, .ref g), (1, .int (kb (k_on lk ln ce da db dr (k_lay pr ce (k_come ld lz (nI dy) mn)) i = true))), (2, .int (nI i))]) (i0 := 0) ?_ (Nat.zero_le _) ⟨hP, hD, hS, lv_sub hl [2, 1, 0] rfl⟩
  intro i hi ih19 H locs ls hI
  obtain ⟨hP, hD, hS, hl⟩ := hI
  refine lv_iload_n hx hb dG_passDay_19 rfl (lv_at hl 2 rfl) ?_
  refine lv_bipush (v := nI 24) hx hb dG_passDay_20 (by decide) ?_
  refine lv_icmp_ge (tgt := 44) hx hb dG_passDay_22 (by decide) (fun hc22 => ?_) (fun hc22 => ?_)
  · -- 22 taken
    rw [nI_leI (by omega) (by omega)] at hc22
    obtain rfl : i = 24 := by omega
    refine lv_aload_n hx hb dG_passDay_44 rfl (lv_at hl 0 rfl) ?_
    refine lv_dup hx hb dG_passDay_45 rfl ?_
    refine va_get (D := (dC, dI)) (ci := 0) (v := .int (nI dy)) (C := R_G) (T := T_G) (N := 7) hx hb htw in_G hown hK hP 0 rfl rfl 4 (by decide) (htw _ m_121) (fun _ h9 => h9) rfl dG_passDay_46 ?_
    refine lv_iconst (v := nI 1) hx hb dG_passDay_49 (by decide) ?_
    refine lv_iadd hx hb dG_passDay_50 ?_
    refine lv_topi (fun kv ekv => ?_)
    obtain rfl : kv = nI (dy + 1) := by rw [ekv]; exact nI_add _ _
    refine va_put (D := (dC, dI)) (ci := 0) (v := .int (nI (dy + 1))) (ty := .int) (C := R_G) (T := T_G) (N := 7) hx hb htw in_G ty_G tok_G nnm_G hown hK hP hD hS 0 rfl rfl 4 (by decide) (htw _ m_121) (fun _ h9 => h9) rfl (by decide +kernel) rfl rfl (Nat.le_of_ble_eq_true rfl) dG_passDay_51 (fun H locs hP hD hS => ?_)
    have hP : va_P (dC, dI) vwCl [(g, .inr (0, [.ref so, .ref lo, .ref qpr, .ref qpa, .int (nI (dy + 1)), .long (co + k_come ld lz (nI dy) mn), .long (k_w lk ln ce da db dr (k_lay pr ce (k_come ld lz (nI dy) mn)) wo 24)])), (qpr, .inl (cJ, 30, .inr (.inl (k_p lk ln ce da db dr (k_lay pr ce (k_come ld lz (nI dy) mn)) 24)))), (qpa, .inl (cJ, 30, .inr (.inl (k_a lk ln ce da db dr (co + k_come ld lz (nI dy) mn) (k_lay pr ce (k_come ld lz (nI dy) mn)) pa 24)))), (so, .inr (3, [.ref qlk, .ref qln, .ref qhd, .ref qsf, .ref qfp, .ref qfc, .int (nI ly), .int (nI ce), .int da, .int db, .int dr])), (qlk, .inl (cI, 30, .inl lk)), (qln, .inl (cI, 30, .inl ln)), (lo, .inr (1, [.ref qld, .ref qlz, .int (nI mn), .long sm])), (qld, .inl (cI, 12, .inl ld)), (qlz, .inl (cI, 12, .inl lz))] H := hP
    have hD : va_D A [(g, .inr (0, [.ref so, .ref lo, .ref qpr, .ref qpa, .int (nI (dy + 1)), .long (co + k_come ld lz (nI dy) mn), .long (k_w lk ln ce da db dr (k_lay pr ce (k_come ld lz (nI dy) mn)) wo 24)])), (qpr, .inl (cJ, 30, .inr (.inl (k_p lk ln ce da db dr (k_lay pr ce (k_come ld lz (nI dy) mn)) 24)))), (qpa, .inl (cJ, 30, .inr (.inl (k_a lk ln ce da db dr (co + k_come ld lz (nI dy) mn) (k_lay pr ce (k_come ld lz (nI dy) mn)) pa 24)))), (so, .inr (3, [.ref qlk, .ref qln, .ref qhd, .ref qsf, .ref qfp, .ref qfc, .int (nI ly), .int (nI ce), .int da, .int db, .int dr])), (qlk, .inl (cI, 30, .inl lk)), (qln, .inl (cI, 30, .inl ln)), (lo, .inr (1, [.ref qld, .ref qlz, .int (nI mn), .long sm])), (qld, .inl (cI, 12, .inl ld)), (qlz, .inl (cI, 12, .inl lz))] := hD
    have hP : va_P (dC, dI) vwCl [(g, .inr (0, [.ref so, .ref lo, .ref qpr, .ref qpa, .int (nI (dy + 1)), .long (co + k_come ld lz (nI dy) mn), .long (k_w lk ln ce da db dr (k_lay pr ce (k_come ld lz (nI dy) mn)) wo 24)])), (qpr, .inl (cJ, 30, .inr (.inl (k_p lk ln ce da db dr (k_lay pr ce (k_come ld lz (nI dy) mn)) 24)))), (qpa, .inl (cJ, 30, .inr (.inl (k_a lk ln ce da db dr (co + k_come ld lz (nI dy) mn) (k_lay pr ce (k_come ld lz (nI dy) mn)) pa 24)))), (so, .inr (3, [.ref qlk, .ref qln, .ref qhd, .ref qsf, .ref qfp, .ref qfc, .int (nI ly), .int (nI ce), .int da, .int db, .int dr])), (qlk, .inl (cI, 30, .inl lk)), (qln, .inl (cI, 30, .inl ln)), (lo, .inr (1, [.ref qld, .ref qlz, .int (nI mn), .long sm])), (qld, .inl (cI, 12, .inl ld)), (qlz, .inl (cI, 12, .inl lz))] H := by first | exact hP | simpa only [] using hP
    have hD : va_D A [(g, .inr (0, [.ref so, .ref lo, .ref qpr, .ref qpa, .int (nI (dy + 1)), .long (co + k_come ld lz (nI dy) mn), .long (k_w lk ln ce da db dr (k_lay pr ce (k_come ld lz (nI dy) mn)) wo 24)])), (qpr, .inl (cJ, 30, .inr (.inl (k_p lk ln ce da db dr (k_lay pr ce (k_come ld lz (nI dy) mn)) 24)))), (qpa, .inl (cJ, 30, .inr (.inl (k_a lk ln ce da db dr (co + k_come ld lz (nI dy) mn) (k_lay pr ce (k_come ld lz (nI dy) mn)) pa 24)))), (so, .inr (3, [.ref qlk, .ref qln, .ref qhd, .ref qsf, .ref qfp, .ref qfc, .int (nI ly), .int (nI ce), .int da, .int db, .int dr])), (qlk, .inl (cI, 30, .inl lk)), (qln, .inl (cI, 30, .inl ln)), (lo, .inr (1, [.ref qld, .ref qlz, .int (nI mn), .long sm])), (qld, .inl (cI, 12, .inl ld)), (qlz, .inl (cI, 12, .inl lz))] := by first | exact hD | simpa only [] using hD
    exact W.vret hx hb hr (fun t ht hW => ⟨⟨(), rfl, trivial, by rw [ht]; exact hP, va_K.moved hW.alike hK, hD⟩, hS.F ht⟩) hS.2.2 dG_passDay_54
  · -- 22 not taken
    rw [nI_leI (by omega) (by omega)] at hc22
    refine lv_iload_n hx hb dG_passDay_25 rfl (lv_at hl 1 rfl) ?_
    refine lv_if_eq (tgt := 44) hx hb dG_passDay_26 (by decide) (fun hc26 => ?_) (fun hc26 => ?_)
    · -- 26 taken
      rw [kb_eq0] at hc26
      obtain ⟨e1, e2, e3⟩ := k_stop (lk := lk) (ln := ln) (ce := ce) (da := da) (db := db) (dr := dr) (co := co + k_come ld lz (nI dy) mn) (wo := wo) (p := k_lay pr ce (k_come ld lz (nI dy) mn)) (pa := pa) (i := i) h0 hc26 (24 - i)
      rw [show i + (24 - i) = 24 by omega] at e1 e2 e3
      have eq6 : (k_p lk ln ce da db dr (k_lay pr ce (k_come ld lz (nI dy) mn)) i : Nat → Int64) = k_p lk ln ce da db dr (k_lay pr ce (k_come ld lz (nI dy) mn)) 24 := e1.symm
      rw [eq6] at hP hD
      have eq7 : (k_a lk ln ce da db dr (co + k_come ld lz (nI dy) mn) (k_lay pr ce (k_come ld lz (nI dy) mn)) pa i : Nat → Int64) = k_a lk ln ce da db dr (co + k_come ld lz (nI dy) mn) (k_lay pr ce (k_come ld lz (nI dy) mn)) pa 24 := e2.symm
      rw [eq7] at hP hD
      have eq8 : (k_w lk ln ce da db dr (k_lay pr ce (k_come ld lz (nI dy) mn)) wo i : Int64) = k_w lk ln ce da db dr (k_lay pr ce (k_come ld lz (nI dy) mn)) wo 24 := e3.symm
      rw [eq8] at hP hD
      refine lv_aload_n hx hb dG_passDay_44 rfl (lv_at hl 0 rfl) ?_
      refine lv_dup hx hb dG_passDay_45 rfl ?_
      refine va_get (D := (dC, dI)) (ci := 0) (v := .int (nI dy)) (C := R_G) (T := T_G) (N := 7) hx hb htw in_G hown hK hP 0 rfl rfl 4 (by decide) (htw _ m_121) (fun _ h9 => h9) rfl dG_passDay_46 ?_
      refine lv_iconst (v := nI 1) hx hb dG_passDay_49 (by decide) ?_
      refine lv_iadd hx hb dG_passDay_50 ?_
      refine lv_topi (fun kv ekv => ?_)
      obtain rfl : kv = nI (dy + 1) := by rw [ekv]; exact nI_add _ _
      refine va_put (D := (dC, dI)) (ci := 0) (v := .int (nI (dy + 1))) (ty := .int) (C := R_G) (T := T_G) (N := 7) hx hb htw in_G ty_G tok_G nnm_G hown hK hP hD hS 0 rfl rfl 4 (by decide) (htw _ m_121) (fun _ h9 => h9) rfl (by decide +kernel) rfl rfl (Nat.le_of_ble_eq_true rfl) dG_passDay_51 (fun H locs hP hD hS => ?_)
      have hP : va_P (dC, dI) vwCl [(g, .inr (0, [.ref so, .ref lo, .ref qpr, .ref qpa, .int (nI (dy + 1)), .long (co + k_come ld lz (nI dy) mn), .long (k_w lk ln ce da db dr (k_lay pr ce (k_come ld lz (nI dy) mn)) wo 24)])), (qpr, .inl (cJ, 30, .inr (.inl (k_p lk ln ce da db dr (k_lay pr ce (k_come ld lz (nI dy) mn)) 24)))), (qpa, .inl (cJ, 30, .inr (.inl (k_a lk ln ce da db dr (co + k_come ld lz (nI dy) mn) (k_lay pr ce (k_come ld lz (nI dy) mn)) pa 24)))), (so, .inr (3, [.ref qlk, .ref qln, .ref qhd, .ref qsf, .ref qfp, .ref qfc, .int (nI ly), .int (nI ce), .int da, .int db, .int dr])), (qlk, .inl (cI, 30, .inl lk)), (qln, .inl (cI, 30, .inl ln)), (lo, .inr (1, [.ref qld, .ref qlz, .int (nI mn), .long sm])), (qld, .inl (cI, 12, .inl ld)), (qlz, .inl (cI, 12, .inl lz))] H := hP
      have hD : va_D A [(g, .inr (0, [.ref so, .ref lo, .ref qpr, .ref qpa, .int (nI (dy + 1)), .long (co + k_come ld lz (nI dy) mn), .long (k_w lk ln ce da db dr (k_lay pr ce (k_come ld lz (nI dy) mn)) wo 24)])), (qpr, .inl (cJ, 30, .inr (.inl (k_p lk ln ce da db dr (k_lay pr ce (k_come ld lz (nI dy) mn)) 24)))), (qpa, .inl (cJ, 30, .inr (.inl (k_a lk ln ce da db dr (co + k_come ld lz (nI dy) mn) (k_lay pr ce (k_come ld lz (nI dy) mn)) pa 24)))), (so, .inr (3, [.ref qlk, .ref qln, .ref qhd, .ref qsf, .ref qfp, .ref qfc, .int (nI ly), .int (nI ce), .int da, .int db, .int dr])), (qlk, .inl (cI, 30, .inl lk)), (qln, .inl (cI, 30, .inl ln)), (lo, .inr (1, [.ref qld, .ref qlz, .int (nI mn), .long sm])), (qld, .inl (cI, 12, .inl ld)), (qlz, .inl (cI, 12, .inl lz))] := hD
      have hP : va_P (dC, dI) vwCl [(g, .inr (0, [.ref so, .ref lo, .ref qpr, .ref qpa, .int (nI (dy + 1)), .long (co + k_come ld lz (nI dy) mn), .long (k_w lk ln ce da db dr (k_lay pr ce (k_come ld lz (nI dy) mn)) wo 24)])), (qpr, .inl (cJ, 30, .inr (.inl (k_p lk ln ce da db dr (k_lay pr ce (k_come ld lz (nI dy) mn)) 24)))), (qpa, .inl (cJ, 30, .inr (.inl (k_a lk ln ce da db dr (co + k_come ld lz (nI dy) mn) (k_lay pr ce (k_come ld lz (nI dy) mn)) pa 24)))), (so, .inr (3, [.ref qlk, .ref qln, .ref qhd, .ref qsf, .ref qfp, .ref qfc, .int (nI ly), .int (nI ce), .int da, .int db, .int dr])), (qlk, .inl (cI, 30, .inl lk)), (qln, .inl (cI, 30, .inl ln)), (lo, .inr (1, [.ref qld, .ref qlz, .int (nI mn), .long sm])), (qld, .inl (cI, 12, .inl ld)), (qlz, .inl (cI, 12, .inl lz))] H := by first | exact hP | simpa only [] using hP
      have hD : va_D A [(g, .inr (0, [.ref so, .ref lo, .ref qpr, .ref qpa, .int (nI (dy + 1)), .long (co + k_come ld lz (nI dy) mn), .long (k_w lk ln ce da db dr (k_lay pr ce (k_come ld lz (nI dy) mn)) wo 24)])), (qpr, .inl (cJ, 30, .inr (.inl (k_p lk ln ce da db dr (k_lay pr ce (k_come ld lz (nI dy) mn)) 24)))), (qpa, .inl (cJ, 30, .inr (.inl (k_a lk ln ce da db dr (co + k_come ld lz (nI dy) mn) (k_lay pr ce (k_come ld lz (nI dy) mn)) pa 24)))), (so, .inr (3, [.ref qlk, .ref qln, .ref qhd, .ref qsf, .ref qfp, .ref qfc, .int (nI ly), .int (nI ce), .int da, .int db, .int dr])), (qlk, .inl (cI, 30, .inl lk)), (qln, .inl (cI, 30, .inl ln)), (lo, .inr (1, [.ref qld, .ref qlz, .int (nI mn), .long sm])), (qld, .inl (cI, 12, .inl ld)), (qlz, .inl (cI, 12, .inl lz))] := by first | exact hD | simpa only [] using hD
      exact W.vret hx hb hr (fun t ht hW => ⟨⟨(), rfl, trivial, by rw [ht]; exact hP, va_K.moved hW.alike hK, hD⟩, hS.F ht⟩) hS.2.2 dG_passDay_54
    · -- 26 not taken
      rw [kb_eq0] at hc26
      refine lv_aload_n hx hb dG_passDay_29 rfl (lv_at hl 0 rfl) ?_
      have hPc := hP.sub (ws' := [(g, .inr (0, [.ref so, .ref lo, .ref qpr, .ref qpa, .int (nI dy), .long (co + k_come ld lz (nI dy) mn), .long (k_w lk ln ce da db dr (k_lay pr ce (k_come ld lz (nI dy) mn)) wo i)])), (qpr, .inl (cJ, 30, .inr (.inl (k_p lk ln ce da db dr (k_lay pr ce (k_come ld lz (nI dy) mn)) i)))), (so, .inr (3, [.ref qlk, .ref qln, .ref qhd, .ref qsf, .ref qfp, .ref qfc, .int (nI ly), .int (nI ce), .int da, .int db, .int dr])), (qlk, .inl (cI, 30, .inl lk)), (qln, .inl (cI, 30, .inl ln))]) [0, 1, 3, 4, 5] rfl
      have hDc := hD.sub (ws' := [(g, .inr (0, [.ref so, .ref lo, .ref qpr, .ref qpa, .int (nI dy), .long (co + k_come ld lz (nI dy) mn), .long (k_w lk ln ce da db dr (k_lay pr ce (k_come ld lz (nI dy) mn)) wo i)])), (qpr, .inl (cJ, 30, .inr (.inl (k_p lk ln ce da db dr (k_lay pr ce (k_come ld lz (nI dy) mn)) i)))), (so, .inr (3, [.ref qlk, .ref qln, .ref qhd, .ref qsf, .ref qfp, .ref qfc, .int (nI ly), .int (nI ce), .int da, .int db, .int dr])), (qlk, .inl (cI, 30, .inl lk)), (qln, .inl (cI, 30, .inl ln))]) [0, 1, 3, 4, 5] (by decide) rfl
      have hFc := va_free (wc := [(g, .inr (0, [.ref so, .ref lo, .ref qpr, .ref qpa, .int (nI dy), .long (co + k_come ld lz (nI dy) mn), .long (k_w lk ln ce da db dr (k_lay pr ce (k_come ld lz (nI dy) mn)) wo i)])), (qpr, .inl (cJ, 30, .inr (.inl (k_p lk ln ce da db dr (k_lay pr ce (k_come ld lz (nI dy) mn)) i)))), (so, .inr (3, [.ref qlk, .ref qln, .ref qhd, .ref qsf, .ref qfp, .ref qfc, .int (nI ly), .int (nI ce), .int da, .int db, .int dr])), (qlk, .inl (cI, 30, .inl lk)), (qln, .inl (cI, 30, .inl ln))]) hD hS hA [0, 1, 3, 4, 5] rfl
      refine va_calli (va_runV (As := []) (rest := []) ⟨hx, hb, hml, hown, htw⟩ (kG_moveWater l dC dI cI cJ g so lo qpr qpa qlk qln qhd qsf qfp qfc H.size dy (co + k_come ld lz (nI dy) mn) (k_w lk ln ce da db dr (k_lay pr ce (k_come ld lz (nI dy) mn)) wo i) (k_p lk ln ce da db dr (k_lay pr ce (k_come ld lz (nI dy) mn)) i) ly ce da db dr lk ln (by first | assumption | omega | decide)) (cwV 0 htw (wv_good m_208 m_210 ms_0 m_5 m_211) rfl rfl rfl (by decide +kernel) ⟨Nat.le_of_ble_eq_true rfl, Nat.le_of_ble_eq_true rfl⟩) ⟨fun a U g mk q => by obtain ⟨q0, q1, qP, qK, qD⟩ := q; exact ⟨q0, q1, qP, va_K.moved (u := U) (U := U.calling g mk a) (Vm.Alike.refl U.vm) qK, qD⟩, va_recv hK hPc (ci := 0) (q0 := 0) rfl rfl, fun U hU hW => ⟨rfl, by rw [hU], by rw [hU]; exact hPc, va_K.moved hW.alike hK, hDc.weaken (fun _ _ _ _ => trivial)⟩⟩ rfl rfl hl.1 rfl (lv_room (Nat.le_of_ble_eq_true rfl)) dG_passDay_30 ⟨Nat.le_of_ble_eq_true rfl, Nat.le_of_ble_eq_true rfl⟩) hS (fun q _ h => hFc q h) hFc (fun res_ u_ t H1 locs ht hvm hw hB hz1 hk1 hS => ?_)
      obtain ⟨hP1, hK1, hD1⟩ := hB
      rw [ht] at hP1
      obtain ⟨hP, hD⟩ := va_join (wr := [(qpa, .inl (cJ, 30, .inr (.inl (k_a lk ln ce da db dr (co + k_come ld lz (nI dy) mn) (k_lay pr ce (k_come ld lz (nI dy) mn)) pa i)))), (lo, .inr (1, [.ref qld, .ref qlz, .int (nI mn), .long sm])), (qld, .inl (cI, 12, .inl ld)), (qlz, .inl (cI, 12, .inl lz))]) (w1 := [(g, .inr (0, [.ref so, .ref lo, .ref qpr, .ref qpa, .int (nI dy), .long (co + k_come ld lz (nI dy) mn), .long (k_ow lk ln ce da db dr (k_p lk ln ce da db dr (k_lay pr ce (k_come ld lz (nI dy) mn)) i) (k_w lk ln ce da db dr (k_lay pr ce (k_come ld lz (nI dy) mn)) wo i) ce + k_fl lk ln ce da db (k_p lk ln ce da db dr (k_lay pr ce (k_come ld lz (nI dy) mn)) i) ce)])), (qpr, .inl (cJ, 30, .inr (.inl (k_np lk ln ce da db dr (k_p lk ln ce da db dr (k_lay pr ce (k_come ld lz (nI dy) mn)) i) ce)))), (so, .inr (3, [.ref qlk, .ref qln, .ref qhd, .ref qsf, .ref qfp, .ref qfc, .int (nI ly), .int (nI ce), .int da, .int db, .int dr])), (qlk, .inl (cI, 30, .inl lk)), (qln, .inl (cI, 30, .inl ln))]) hP hD [0, 1, 3, 4, 5] [2, 6, 7, 8] rfl rfl (by decide) (by decide) hk1 hFc hP1 hD1
      generalize H1 = H at hP hS ⊢
      have hP := hP.sub (ws' := [(g, .inr (0, [.ref so, .ref lo, .ref qpr, .ref qpa, .int (nI dy), .long (co + k_come ld lz (nI dy) mn), .long (k_ow lk ln ce da db dr (k_p lk ln ce da db dr (k_lay pr ce (k_come ld lz (nI dy) mn)) i) (k_w lk ln ce da db dr (k_lay pr ce (k_come ld lz (nI dy) mn)) wo i) ce + k_fl lk ln ce da db (k_p lk ln ce da db dr (k_lay pr ce (k_come ld lz (nI dy) mn)) i) ce)])), (qpr, .inl (cJ, 30, .inr (.inl (k_np lk ln ce da db dr (k_p lk ln ce da db dr (k_lay pr ce (k_come ld lz (nI dy) mn)) i) ce)))), (qpa, .inl (cJ, 30, .inr (.inl (k_a lk ln ce da db dr (co + k_come ld lz (nI dy) mn) (k_lay pr ce (k_come ld lz (nI dy) mn)) pa i)))), (so, .inr (3, [.ref qlk, .ref qln, .ref qhd, .ref qsf, .ref qfp, .ref qfc, .int (nI ly), .int (nI ce), .int da, .int db, .int dr])), (qlk, .inl (cI, 30, .inl lk)), (qln, .inl (cI, 30, .inl ln)), (lo, .inr (1, [.ref qld, .ref qlz, .int (nI mn), .long sm])), (qld, .inl (cI, 12, .inl ld)), (qlz, .inl (cI, 12, .inl lz))]) [4, 5, 0, 6, 7, 8, 1, 2, 3] rfl
      have hD := hD.sub (ws' := [(g, .inr (0, [.ref so, .ref lo, .ref qpr, .ref qpa, .int (nI dy), .long (co + k_come ld lz (nI dy) mn), .long (k_ow lk ln ce da db dr (k_p lk ln ce da db dr (k_lay pr ce (k_come ld lz (nI dy) mn)) i) (k_w lk ln ce da db dr (k_lay pr ce (k_come ld lz (nI dy) mn)) wo i) ce + k_fl lk ln ce da db (k_p lk ln ce da db dr (k_lay pr ce (k_come ld lz (nI dy) mn)) i) ce)])), (qpr, .inl (cJ, 30, .inr (.inl (k_np lk ln ce da db dr (k_p lk ln ce da db dr (k_lay pr ce (k_come ld lz (nI dy) mn)) i) ce)))), (qpa, .inl (cJ, 30, .inr (.inl (k_a lk ln ce da db dr (co + k_come ld lz (nI dy) mn) (k_lay pr ce (k_come ld lz (nI dy) mn)) pa i)))), (so, .inr (3, [.ref qlk, .ref qln, .ref qhd, .ref qsf, .ref qfp, .ref qfc, .int (nI ly), .int (nI ce), .int da, .int db, .int dr])), (qlk, .inl (cI, 30, .inl lk)), (qln, .inl (cI, 30, .inl ln)), (lo, .inr (1, [.ref qld, .ref qlz, .int (nI mn), .long sm])), (qld, .inl (cI, 12, .inl ld)), (qlz, .inl (cI, 12, .inl lz))]) [4, 5, 0, 6, 7, 8, 1, 2, 3] (by decide) rfl
      clear hPc hDc hFc hP1 hD1 hK1 hk1 hz1 hvm ht
      obtain rfl : res_ = kb (k_mv lk ln ce da db dr (k_p lk ln ce da db dr (k_lay pr ce (k_come ld lz (nI dy) mn)) i) ce = true) := hw
      refine lv_istore_n (lv' := [(1, .int (kb (k_mv lk ln ce da db dr (k_p lk ln ce da db dr (k_lay pr ce (k_come ld lz (nI dy) mn)) i) ce = true))), (0, .ref g), (2, .int (nI i))]) hx hb dG_passDay_33 rfl hl (by decide) rfl (fun ls hl => ?_)
      refine lv_aload_n hx hb dG_passDay_34 rfl (lv_at hl 1 rfl) ?_
      have hPc := hP.sub (ws' := [(g, .inr (0, [.ref so, .ref lo, .ref qpr, .ref qpa, .int (nI dy), .long (co + k_come ld lz (nI dy) mn), .long (k_ow lk ln ce da db dr (k_p lk ln ce da db dr (k_lay pr ce (k_come ld lz (nI dy) mn)) i) (k_w lk ln ce da db dr (k_lay pr ce (k_come ld lz (nI dy) mn)) wo i) ce + k_fl lk ln ce da db (k_p lk ln ce da db dr (k_lay pr ce (k_come ld lz (nI dy) mn)) i) ce)])), (qpr, .inl (cJ, 30, .inr (.inl (k_np lk ln ce da db dr (k_p lk ln ce da db dr (k_lay pr ce (k_come ld lz (nI dy) mn)) i) ce)))), (qpa, .inl (cJ, 30, .inr (.inl (k_a lk ln ce da db dr (co + k_come ld lz (nI dy) mn) (k_lay pr ce (k_come ld lz (nI dy) mn)) pa i)))), (so, .inr (3, [.ref qlk, .ref qln, .ref qhd, .ref qsf, .ref qfp, .ref qfc, .int (nI ly), .int (nI ce), .int da, .int db, .int dr]))]) [0, 1, 2, 3] rfl
      have hDc := hD.sub (ws' := [(g, .inr (0, [.ref so, .ref lo, .ref qpr, .ref qpa, .int (nI dy), .long (co + k_come ld lz (nI dy) mn), .long (k_ow lk ln ce da db dr (k_p lk ln ce da db dr (k_lay pr ce (k_come ld lz (nI dy) mn)) i) (k_w lk ln ce da db dr (k_lay pr ce (k_come ld lz (nI dy) mn)) wo i) ce + k_fl lk ln ce da db (k_p lk ln ce da db dr (k_lay pr ce (k_come ld lz (nI dy) mn)) i) ce)])), (qpr, .inl (cJ, 30, .inr (.inl (k_np lk ln ce da db dr (k_p lk ln ce da db dr (k_lay pr ce (k_come ld lz (nI dy) mn)) i) ce)))), (qpa, .inl (cJ, 30, .inr (.inl (k_a lk ln ce da db dr (co + k_come ld lz (nI dy) mn) (k_lay pr ce (k_come ld lz (nI dy) mn)) pa i)))), (so, .inr (3, [.ref qlk, .ref qln, .ref qhd, .ref qsf, .ref qfp, .ref qfc, .int (nI ly), .int (nI ce), .int da, .int db, .int dr]))]) [0, 1, 2, 3] (by decide) rfl
      have hFc := va_free (wc := [(g, .inr (0, [.ref so, .ref lo, .ref qpr, .ref qpa, .int (nI dy), .long (co + k_come ld lz (nI dy) mn), .long (k_ow lk ln ce da db dr (k_p lk ln ce da db dr (k_lay pr ce (k_come ld lz (nI dy) mn)) i) (k_w lk ln ce da db dr (k_lay pr ce (k_come ld lz (nI dy) mn)) wo i) ce + k_fl lk ln ce da db (k_p lk ln ce da db dr (k_lay pr ce (k_come ld lz (nI dy) mn)) i) ce)])), (qpr, .inl (cJ, 30, .inr (.inl (k_np lk ln ce da db dr (k_p lk ln ce da db dr (k_lay pr ce (k_come ld lz (nI dy) mn)) i) ce)))), (qpa, .inl (cJ, 30, .inr (.inl (k_a lk ln ce da db dr (co + k_come ld lz (nI dy) mn) (k_lay pr ce (k_come ld lz (nI dy) mn)) pa i)))), (so, .inr (3, [.ref qlk, .ref qln, .ref qhd, .ref qsf, .ref qfp, .ref qfc, .int (nI ly), .int (nI ce), .int da, .int db, .int dr]))]) hD hS hA [0, 1, 2, 3] rfl
      refine va_callv (va_runV (As := []) (rest := []) ⟨hx, hb, hml, hown, htw⟩ (kG_raisePasts l dC dI cI cJ g so lo qpr qpa qlk qln qhd qsf qfp qfc H.size dy (co + k_come ld lz (nI dy) mn) (k_ow lk ln ce da db dr (k_p lk ln ce da db dr (k_lay pr ce (k_come ld lz (nI dy) mn)) i) (k_w lk ln ce da db dr (k_lay pr ce (k_come ld lz (nI dy) mn)) wo i) ce + k_fl lk ln ce da db (k_p lk ln ce da db dr (k_lay pr ce (k_come ld lz (nI dy) mn)) i) ce) (k_np lk ln ce da db dr (k_p lk ln ce da db dr (k_lay pr ce (k_come ld lz (nI dy) mn)) i) ce) (k_a lk ln ce da db dr (co + k_come ld lz (nI dy) mn) (k_lay pr ce (k_come ld lz (nI dy) mn)) pa i) ly ce da db dr (by first | assumption | omega | decide)) (cwV 0 htw (wv_good m_221 m_223 ms_3 m_5 m_224) rfl rfl rfl (by decide +kernel) ⟨Nat.le_of_ble_eq_true rfl, Nat.le_of_ble_eq_true rfl⟩) ⟨fun a U g mk q => by obtain ⟨q0, q1, qP, qK, qD⟩ := q; exact ⟨q0, q1, qP, va_K.moved (u := U) (U := U.calling g mk a) (Vm.Alike.refl U.vm) qK, qD⟩, va_recv hK hPc (ci := 0) (q0 := 0) rfl rfl, fun U hU hW => ⟨rfl, by rw [hU], by rw [hU]; exact hPc, va_K.moved hW.alike hK, hDc.weaken (fun _ _ _ _ => trivial)⟩⟩ rfl rfl hl.1 rfl (lv_room (Nat.le_of_ble_eq_true rfl)) dG_passDay_35 ⟨Nat.le_of_ble_eq_true rfl, Nat.le_of_ble_eq_true rfl⟩) hS (fun q _ h => hFc q h) hFc (fun u_ t H1 locs ht hvm hw hB hz1 hk1 hS => ?_)
      obtain ⟨hP1, hK1, hD1⟩ := hB
      rw [ht] at hP1
      obtain ⟨hP, hD⟩ := va_join (wr := [(qlk, .inl (cI, 30, .inl lk)), (qln, .inl (cI, 30, .inl ln)), (lo, .inr (1, [.ref qld, .ref qlz, .int (nI mn), .long sm])), (qld, .inl (cI, 12, .inl ld)), (qlz, .inl (cI, 12, .inl lz))]) (w1 := [(g, .inr (0, [.ref so, .ref lo, .ref qpr, .ref qpa, .int (nI dy), .long (co + k_come ld lz (nI dy) mn), .long (k_ow lk ln ce da db dr (k_p lk ln ce da db dr (k_lay pr ce (k_come ld lz (nI dy) mn)) i) (k_w lk ln ce da db dr (k_lay pr ce (k_come ld lz (nI dy) mn)) wo i) ce + k_fl lk ln ce da db (k_p lk ln ce da db dr (k_lay pr ce (k_come ld lz (nI dy) mn)) i) ce)])), (qpr, .inl (cJ, 30, .inr (.inl (k_np lk ln ce da db dr (k_p lk ln ce da db dr (k_lay pr ce (k_come ld lz (nI dy) mn)) i) ce)))), (qpa, .inl (cJ, 30, .inr (.inl (k_rs (co + k_come ld lz (nI dy) mn) (k_np lk ln ce da db dr (k_p lk ln ce da db dr (k_lay pr ce (k_come ld lz (nI dy) mn)) i) ce) (k_a lk ln ce da db dr (co + k_come ld lz (nI dy) mn) (k_lay pr ce (k_come ld lz (nI dy) mn)) pa i) ce)))), (so, .inr (3, [.ref qlk, .ref qln, .ref qhd, .ref qsf, .ref qfp, .ref qfc, .int (nI ly), .int (nI ce), .int da, .int db, .int dr]))]) hP hD [0, 1, 2, 3] [4, 5, 6, 7, 8] rfl rfl (by decide) (by decide) hk1 hFc hP1 hD1
      generalize H1 = H at hP hS ⊢
      have hP := hP.sub (ws' := [(g, .inr (0, [.ref so, .ref lo, .ref qpr, .ref qpa, .int (nI dy), .long (co + k_come ld lz (nI dy) mn), .long (k_ow lk ln ce da db dr (k_p lk ln ce da db dr (k_lay pr ce (k_come ld lz (nI dy) mn)) i) (k_w lk ln ce da db dr (k_lay pr ce (k_come ld lz (nI dy) mn)) wo i) ce + k_fl lk ln ce da db (k_p lk ln ce da db dr (k_lay pr ce (k_come ld lz (nI dy) mn)) i) ce)])), (qpr, .inl (cJ, 30, .inr (.inl (k_np lk ln ce da db dr (k_p lk ln ce da db dr (k_lay pr ce (k_come ld lz (nI dy) mn)) i) ce)))), (qpa, .inl (cJ, 30, .inr (.inl (k_rs (co + k_come ld lz (nI dy) mn) (k_np lk ln ce da db dr (k_p lk ln ce da db dr (k_lay pr ce (k_come ld lz (nI dy) mn)) i) ce) (k_a lk ln ce da db dr (co + k_come ld lz (nI dy) mn) (k_lay pr ce (k_come ld lz (nI dy) mn)) pa i) ce)))), (so, .inr (3, [.ref qlk, .ref qln, .ref qhd, .ref qsf, .ref qfp, .ref qfc, .int (nI ly), .int (nI ce), .int da, .int db, .int dr])), (qlk, .inl (cI, 30, .inl lk)), (qln, .inl (cI, 30, .inl ln)), (lo, .inr (1, [.ref qld, .ref qlz, .int (nI mn), .long sm])), (qld, .inl (cI, 12, .inl ld)), (qlz, .inl (cI, 12, .inl lz))]) [5, 6, 7, 8, 0, 1, 2, 3, 4] rfl
      have hD := hD.sub (ws' := [(g, .inr (0, [.ref so, .ref lo, .ref qpr, .ref qpa, .int (nI dy), .long (co + k_come ld lz (nI dy) mn), .long (k_ow lk ln ce da db dr (k_p lk ln ce da db dr (k_lay pr ce (k_come ld lz (nI dy) mn)) i) (k_w lk ln ce da db dr (k_lay pr ce (k_come ld lz (nI dy) mn)) wo i) ce + k_fl lk ln ce da db (k_p lk ln ce da db dr (k_lay pr ce (k_come ld lz (nI dy) mn)) i) ce)])), (qpr, .inl (cJ, 30, .inr (.inl (k_np lk ln ce da db dr (k_p lk ln ce da db dr (k_lay pr ce (k_come ld lz (nI dy) mn)) i) ce)))), (qpa, .inl (cJ, 30, .inr (.inl (k_rs (co + k_come ld lz (nI dy) mn) (k_np lk ln ce da db dr (k_p lk ln ce da db dr (k_lay pr ce (k_come ld lz (nI dy) mn)) i) ce) (k_a lk ln ce da db dr (co + k_come ld lz (nI dy) mn) (k_lay pr ce (k_come ld lz (nI dy) mn)) pa i) ce)))), (so, .inr (3, [.ref qlk, .ref qln, .ref qhd, .ref qsf, .ref qfp, .ref qfc, .int (nI ly), .int (nI ce), .int da, .int db, .int dr])), (qlk, .inl (cI, 30, .inl lk)), (qln, .inl (cI, 30, .inl ln)), (lo, .inr (1, [.ref qld, .ref qlz, .int (nI mn), .long sm])), (qld, .inl (cI, 12, .inl ld)), (qlz, .inl (cI, 12, .inl lz))]) [5, 6, 7, 8, 0, 1, 2, 3, 4] (by decide) rfl
      clear hPc hDc hFc hP1 hD1 hK1 hk1 hz1 hvm ht
      refine lv_iinc (v := nI (i + 1)) (lv' := [(2, .int (nI (i + 1))), (1, .int (kb (k_mv lk ln ce da db dr (k_p lk ln ce da db dr (k_lay pr ce (k_come ld lz (nI dy) mn)) i) ce = true))), (0, .ref g)]) hx hb dG_passDay_38 hl (k := 2) rfl (nI_1 _) (by decide) rfl (fun ls hl => ?_)
      refine lv_goto (tgt := 19) hx hb dG_passDay_41 (by decide) ?_
      have hP : va_P (dC, dI) vwCl [(g, .inr (0, [.ref so, .ref lo, .ref qpr, .ref qpa, .int (nI dy), .long (co + k_come ld lz (nI dy) mn), .long (k_w lk ln ce da db dr (k_lay pr ce (k_come ld lz (nI dy) mn)) wo (i + 1))])), (qpr, .inl (cJ, 30, .inr (.inl (k_p lk ln ce da db dr (k_lay pr ce (k_come ld lz (nI dy) mn)) (i + 1))))), (qpa, .inl (cJ, 30, .inr (.inl (k_a lk ln ce da db dr (co + k_come ld lz (nI dy) mn) (k_lay pr ce (k_come ld lz (nI dy) mn)) pa (i + 1))))), (so, .inr (3, [.ref qlk, .ref qln, .ref qhd, .ref qsf, .ref qfp, .ref qfc, .int (nI ly), .int (nI ce), .int da, .int db, .int dr])), (qlk, .inl (cI, 30, .inl lk)), (qln, .inl (cI, 30, .inl ln)), (lo, .inr (1, [.ref qld, .ref qlz, .int (nI mn), .long sm])), (qld, .inl (cI, 12, .inl ld)), (qlz, .inl (cI, 12, .inl lz))] H := by first | exact hP | simpa only [] using hP
      have hD : va_D A [(g, .inr (0, [.ref so, .ref lo, .ref qpr, .ref qpa, .int (nI dy), .long (co + k_come ld lz (nI dy) mn), .long (k_w lk ln ce da db dr (k_lay pr ce (k_come ld lz (nI dy) mn)) wo (i + 1))])), (qpr, .inl (cJ, 30, .inr (.inl (k_p lk ln ce da db dr (k_lay pr ce (k_come ld lz (nI dy) mn)) (i + 1))))), (qpa, .inl (cJ, 30, .inr (.inl (k_a lk ln ce da db dr (co + k_come ld lz (nI dy) mn) (k_lay pr ce (k_come ld lz (nI dy) mn)) pa (i + 1))))), (so, .inr (3, [.ref qlk, .ref qln, .ref qhd, .ref qsf, .ref qfp, .ref qfc, .int (nI ly), .int (nI ce), .int da, .int db, .int dr])), (qlk, .inl (cI, 30, .inl lk)), (qln, .inl (cI, 30, .inl ln)), (lo, .inr (1, [.ref qld, .ref qlz, .int (nI mn), .long sm])), (qld, .inl (cI, 12, .inl ld)), (qlz, .inl (cI, 12, .inl lz))] := by first | exact hD | simpa only [] using hD
      exact ih19 (by omega) _ _ _ ⟨hP, hD, hS, lv_sub hl [2, 1, 0] rfl⟩
set_option maxHeartbeats 4000000 in
set_option maxRecDepth 100000 in
theorem kS_addLayer (l : Launch) (dC : Nat → ClassId) (dI : Nat → Nat → Nat) (cI cJ : ClassId) (so qlk qln qhd qsf qfp qfc : Nat) (sz : Nat) (n : Nat) (x1 : Int32) (x2 : Int32) (x3 : Int32) (x4 : Int32) (ly : Nat) (ce : Nat) (da : Int32) (db : Int32) (dr : Int32) (lk : Nat → Int32) (ln : Nat → Int32) (hd : Nat → Int32) (sf : Nat → Int32) (fp : Nat → Int32) (fc : Nat → Int32) (hcn : ce + n ≤ 30) (hly : ly < 30) : Met l yS_addLayer wS_addLayer ({ frames := 1, cells := 0, slots := 0, locals := 15 }) (va_Pc [.ref so, .int (nI n), .int x1, .int x2, .int x3, .int x4] (fun U => U.heap.size = sz ∧ va_P (dC, dI) vwCl [(so, .inr (3, [.ref qlk, .ref qln, .ref qhd, .ref qsf, .ref qfp, .ref qfc, .int (nI ly), .int (nI ce), .int da, .int db, .int dr])), (qlk, .inl (cI, 30, .inl lk)), (qln, .inl (cI, 30, .inl ln)), (qhd, .inl (cI, 30, .inl hd)), (qsf, .inl (cI, 30, .inl sf)), (qfp, .inl (cI, 30, .inl fp)), (qfc, .inl (cI, 31, .inl fc))] U.heap ∧ va_K (dC, dI) vwCl [(cI, .int), (cJ, .long)] U ∧ va_D (fun _ => True) [(so, .inr (3, [.ref qlk, .ref qln, .ref qhd, .ref qsf, .ref qfp, .ref qfc, .int (nI ly), .int (nI ce), .int da, .int db, .int dr])), (qlk, .inl (cI, 30, .inl lk)), (qln, .inl (cI, 30, .inl ln)), (qhd, .inl (cI, 30, .inl hd)), (qsf, .inl (cI, 30, .inl sf)), (qfp, .inl (cI, 30, .inl fp)), (qfc, .inl (cI, 31, .inl fc))])) (va_Qi (fun res_ (_ : Unit) => res_ = nI ly) (fun _ t => va_P (dC, dI) vwCl [(so, .inr (3, [.ref qlk, .ref qln, .ref qhd, .ref qsf, .ref qfp, .ref qfc, .int (nI (ly + 1)), .int (nI (ce + n)), .int da, .int db, .int dr])), (qlk, .inl (cI, 30, .inl (k_fi lk ce (ce + n) x1))), (qln, .inl (cI, 30, .inl (k_lnf lk ln ce (ce + n) x1))), (qhd, .inl (cI, 30, .inl (k_fi hd ce (ce + n) x2))), (qsf, .inl (cI, 30, .inl (k_fi sf ce (ce + n) x3))), (qfp, .inl (cI, 30, .inl (k_fi fp ce (ce + n) x4))), (qfc, .inl (cI, 31, .inl (upd fc (ly + 1) (nI (ce + n)))))] t.heap ∧ va_K (dC, dI) vwCl [(cI, .int), (cJ, .long)] t ∧ va_D (va_A [(so, .inr (3, [.ref qlk, .ref qln, .ref qhd, .ref qsf, .ref qfp, .ref qfc, .int (nI ly), .int (nI ce), .int da, .int db, .int dr])), (qlk, .inl (cI, 30, .inl lk)), (qln, .inl (cI, 30, .inl ln)), (qhd, .inl (cI, 30, .inl hd)), (qsf, .inl (cI, 30, .inl sf)), (qfp, .inl (cI, 30, .inl fp)), (qfc, .inl (cI, 31, .inl fc))] sz) [(so, .inr (3, [.ref qlk, .ref qln, .ref qhd, .ref qsf, .ref qfp, .ref qfc, .int (nI (ly + 1)), .int (nI (ce + n)), .int da, .int db, .int dr])), (qlk, .inl (cI, 30, .inl (k_fi lk ce (ce + n) x1))), (qln, .inl (cI, 30, .inl (k_lnf lk ln ce (ce + n) x1))), (qhd, .inl (cI, 30, .inl (k_fi hd ce (ce + n) x2))), (qsf, .inl (cI, 30, .inl (k_fi sf ce (ce + n) x3))), (qfp, .inl (cI, 30, .inl (k_fi fp ce (ce + n) x4))), (qfc, .inl (cI, 31, .inl (upd fc (ly + 1) (nI (ce + n)))))]) (va_A [(so, .inr (3, [.ref qlk, .ref qln, .ref qhd, .ref qsf, .ref qfp, .ref qfc, .int (nI ly), .int (nI ce), .int da, .int db, .int dr])), (qlk, .inl (cI, 30, .inl lk)), (qln, .inl (cI, 30, .inl ln)), (qhd, .inl (cI, 30, .inl hd)), (qsf, .inl (cI, 30, .inl sf)), (qfp, .inl (cI, 30, .inl fp)), (qfc, .inl (cI, 31, .inl fc))] sz)) 0 0 (va_A [(so, .inr (3, [.ref qlk, .ref qln, .ref qhd, .ref qsf, .ref qfp, .ref qfc, .int (nI ly), .int (nI ce), .int da, .int db, .int dr])), (qlk, .inl (cI, 30, .inl lk)), (qln, .inl (cI, 30, .inl ln)), (qhd, .inl (cI, 30, .inl hd)), (qsf, .inl (cI, 30, .inl sf)), (qfp, .inl (cI, 30, .inl fp)), (qfc, .inl (cI, 31, .inl fc))] sz) := by
  refine Met.ofW (cc := bS_addLayer) (maxL := 7) (ret := (some .int)) (by decide) rfl ?_
  intro p e s m args below meth c s₁ B hml hv
  obtain ⟨rfl, hsz, hP, hK, hD0⟩ := hv
  have hx := B.exec
  have hb := B.bytes
  have hr := B.returns
  have hts := atoms_spec (ws := wS_addLayer) B.pre
  have hown : s.vm.findClass R_S = some m.cls := findClass_of_methodNamed B.named
  have htw : ∀ w ∈ WA, w.before _ s = true := fun w h => hts w (List.mem_cons_of_mem _ h)
  clear hts
  have hlocks := B.notSynchronized
  subst hsz
  have hD := hD0.self (sz := s.heap.size)
  generalize hAe : va_A [(so, .inr (3, [.ref qlk, .ref qln, .ref qhd, .ref qsf, .ref qfp, .ref qfc, .int (nI ly), .int (nI ce), .int da, .int db, .int dr])), (qlk, .inl (cI, 30, .inl lk)), (qln, .inl (cI, 30, .inl ln)), (qhd, .inl (cI, 30, .inl hd)), (qsf, .inl (cI, 30, .inl sf)), (qfp, .inl (cI, 30, .inl fp)), (qfc, .inl (cI, 31, .inl fc))] s.heap.size = A at hD ⊢
  have hA : ∀ q : Nat, s.heap.size ≤ q → A q := fun q h => by rw [← hAe]; exact Or.inr h
  clear hAe hD0
  have hS : va_S A s.heap s.heap [] := va_S.rf
  have hP : va_P (dC, dI) vwCl [(so, .inr (3, [.ref qlk, .ref qln, .ref qhd, .ref qsf, .ref qfp, .ref qfc, .int (nI ly), .int (nI ce), .int da, .int db, .int dr])), (qlk, .inl (cI, 30, .inl lk)), (qln, .inl (cI, 30, .inl ln)), (qhd, .inl (cI, 30, .inl hd)), (qsf, .inl (cI, 30, .inl sf)), (qfp, .inl (cI, 30, .inl fp)), (qfc, .inl (cI, 31, .inl fc))] s.heap := hP
  have hl := lv_entry ([.ref so, .int (nI n), .int x1, .int x2, .int x3, .int x4]) (n := 7) (Nat.le_of_ble_eq_true rfl)
  rw [lg_entry_eq]
  generalize (lg_sl ([.ref so, .int (nI n), .int x1, .int x2, .int x3, .int x4]) ++ List.replicate (7 - (lg_sl ([.ref so, .int (nI n), .int x1, .int x2, .int x3, .int x4])).length) Slot.unset).toArray = ls at hl ⊢
  have hl : lv_has ls 7 [(0, .ref so), (1, .int (nI n)), (2, .int x1), (3, .int x2), (4, .int x3), (5, .int x4)] := hl
  refine lv_iconst (v := nI 0) hx hb dS_addLayer_0 (by decide) ?_
  refine lv_istore (lv' := [(6, .int (nI 0)), (0, .ref so), (1, .int (nI n)), (2, .int x1), (3, .int x2), (4, .int x3), (5, .int x4)]) hx hb dS_addLayer_1 hl (by decide) rfl (fun ls hl => ?_)
  -- the loop at 3
  have eq2 : (lk : Nat → Int32) = k_fi lk ce (ce + 0) x1 := k_fi_0
  rw [eq2] at hP hD
  have eq3 : (ln : Nat → Int32) = k_lnf lk ln ce (ce + 0) x1 := k_lnf_0
  rw [eq3] at hP hD
  have eq4 : (hd : Nat → Int32) = k_fi hd ce (ce + 0) x2 := k_fi_0
  rw [eq4] at hP hD
  have eq5 : (sf : Nat → Int32) = k_fi sf ce (ce + 0) x3 := k_fi_0
  rw [eq5] at hP hD
  have eq6 : (fp : Nat → Int32) = k_fi fp ce (ce + 0) x4 := k_fi_0
  rw [eq6] at hP hD
  have hP : va_P (dC, dI) vwCl [(so, .inr (3, [.ref qlk, .ref qln, .ref qhd, .ref qsf, .ref qfp, .ref qfc, .int (nI ly), .int (nI (ce + 0)), .int da, .int db, .int dr])), (qlk, .inl (cI, 30, .inl (k_fi lk ce (ce + 0) x1))), (qln, .inl (cI, 30, .inl (k_lnf lk ln ce (ce + 0) x1))), (qhd, .inl (cI, 30, .inl (k_fi hd ce (ce + 0) x2))), (qsf, .inl (cI, 30, .inl (k_fi sf ce (ce + 0) x3))), (qfp, .inl (cI, 30, .inl (k_fi fp ce (ce + 0) x4))), (qfc, .inl (cI, 31, .inl fc))] s.heap := by first | exact hP | simpa only [] using hP
  have hD : va_D A [(so, .inr (3, [.ref qlk, .ref qln, .ref qhd, .ref qsf, .ref qfp, .ref qfc, .int (nI ly), .int (nI (ce + 0)), .int da, .int db, .int dr])), (qlk, .inl (cI, 30, .inl (k_fi lk ce (ce + 0) x1))), (qln, .inl (cI, 30, .inl (k_lnf lk ln ce (ce + 0) x1))), (qhd, .inl (cI, 30, .inl (k_fi hd ce (ce + 0) x2))), (qsf, .inl (cI, 30, .inl (k_fi sf ce (ce + 0) x3))), (qfp, .inl (cI, 30, .inl (k_fi fp ce (ce + 0) x4))), (qfc, .inl (cI, 31, .inl fc))] := by first | exact hD | simpa only [] using hD
  refine x_loop (N := n) (I := fun i H locs ls => va_P (dC, dI) vwCl [(so, .inr (3, [.ref qlk, .ref qln, .ref qhd, .ref qsf, .ref qfp, .ref qfc, .int (nI ly), .int (nI (ce + i)), .int da, .int db, .int dr])), (qlk, .inl (cI, 30, .inl (k_fi lk ce (ce + i) x1))), (qln, .inl (cI, 30, .inl (k_lnf lk ln ce (ce + i) x1))), (qhd, .inl (cI, 30, .inl (k_fi hd ce (ce + i) x2))), (qsf, .inl (cI, 30, .inl (k_fi sf ce (ce + i) x3))), (qfp, .inl (cI, 30, .inl (k_fi fp ce (ce + i) x4))), (qfc, .inl (cI, 31, .inl fc))] H ∧ va_D A [(so, .inr (3, [.ref qlk, .ref qln, .ref qhd, .ref qsf, .ref qfp, .ref qfc, .int (nI ly), .int (nI (ce + i)), .int da, .int db, .int dr])), (qlk, .inl (cI, 30, .inl (k_fi lk ce (ce + i) x1))), (qln, .inl (cI, 30, .inl (k_lnf lk ln ce (ce + i) x1))), (qhd, .inl (cI, 30, .inl (k_fi hd ce (ce + i) x2))), (qsf, .inl (cI, 30, .inl (k_fi sf ce (ce + i) x3))), (qfp, .inl (cI, 30, .inl (k_fi fp ce (ce + i) x4))), (qfc, .inl (cI, 31, .inl fc))] ∧ va_S A s.heap H locs ∧ lv_has ls 7 [(0, .ref so), (1, .int (nI n)), (2, .int x1), (3, .int x2), (4, .int x3), (5, .int x4), (6, .int (nI i))]) (i0 := 0) ?_ (Nat.zero_le _) ⟨hP, hD, hS, lv_sub hl [1, 2, 3, 4, 5, 6, 0] rfl⟩
  intro i hi ih3 H locs ls hI
  obtain ⟨hP, hD, hS, hl⟩ := hI
  refine lv_iload hx hb dS_addLayer_3 (lv_at hl 6 rfl) ?_
  refine lv_iload_n hx hb dS_addLayer_5 rfl (lv_at hl 1 rfl) ?_
  refine lv_icmp_ge (tgt := 109) hx hb dS_addLayer_6 (by decide) (fun hc6 => ?_) (fun hc6 => ?_)
  · -- 6 taken
    rw [nI_leI (by omega) (by omega)] at hc6
    obtain rfl : n = i := by omega
    refine lv_aload_n hx hb dS_addLayer_109 rfl (lv_at hl 0 rfl) ?_
    refine lv_dup hx hb dS_addLayer_110 rfl ?_
    refine va_get (D := (dC, dI)) (ci := 3) (v := .int (nI ly)) (C := R_S) (T := T_S) (N := 11) hx hb htw in_S hown hK hP 0 rfl rfl 6 (by decide) (htw _ m_31) (fun _ h9 => h9) rfl dS_addLayer_111 ?_
    refine lv_iconst (v := nI 1) hx hb dS_addLayer_114 (by decide) ?_
    refine lv_iadd hx hb dS_addLayer_115 ?_
    refine lv_topi (fun kv ekv => ?_)
    obtain rfl : kv = nI (ly + 1) := by rw [ekv]; exact nI_add _ _
    refine va_put (D := (dC, dI)) (ci := 3) (v := .int (nI (ly + 1))) (ty := .int) (C := R_S) (T := T_S) (N := 11) hx hb htw in_S ty_S tok_S nnm_S hown hK hP hD hS 0 rfl rfl 6 (by decide) (htw _ m_31) (fun _ h9 => h9) rfl (by decide +kernel) rfl rfl (Nat.le_of_ble_eq_true rfl) dS_addLayer_116 (fun H locs hP hD hS => ?_)
    have hP : va_P (dC, dI) vwCl [(so, .inr (3, [.ref qlk, .ref qln, .ref qhd, .ref qsf, .ref qfp, .ref qfc, .int (nI (ly + 1)), .int (nI (ce + n)), .int da, .int db, .int dr])), (qlk, .inl (cI, 30, .inl (k_fi lk ce (ce + n) x1))), (qln, .inl (cI, 30, .inl (k_lnf lk ln ce (ce + n) x1))), (qhd, .inl (cI, 30, .inl (k_fi hd ce (ce + n) x2))), (qsf, .inl (cI, 30, .inl (k_fi sf ce (ce + n) x3))), (qfp, .inl (cI, 30, .inl (k_fi fp ce (ce + n) x4))), (qfc, .inl (cI, 31, .inl fc))] H := hP
    have hD : va_D A [(so, .inr (3, [.ref qlk, .ref qln, .ref qhd, .ref qsf, .ref qfp, .ref qfc, .int (nI (ly + 1)), .int (nI (ce + n)), .int da, .int db, .int dr])), (qlk, .inl (cI, 30, .inl (k_fi lk ce (ce + n) x1))), (qln, .inl (cI, 30, .inl (k_lnf lk ln ce (ce + n) x1))), (qhd, .inl (cI, 30, .inl (k_fi hd ce (ce + n) x2))), (qsf, .inl (cI, 30, .inl (k_fi sf ce (ce + n) x3))), (qfp, .inl (cI, 30, .inl (k_fi fp ce (ce + n) x4))), (qfc, .inl (cI, 31, .inl fc))] := hD
    refine lv_aload_n hx hb dS_addLayer_119 rfl (lv_at hl 0 rfl) ?_
    refine va_get (D := (dC, dI)) (ci := 3) (v := .ref qfc) (C := R_S) (T := T_S) (N := 11) hx hb htw in_S hown hK hP 0 rfl rfl 5 (by decide) (htw _ m_29) (fun _ h9 => h9) rfl dS_addLayer_120 ?_
    refine lv_aload_n hx hb dS_addLayer_123 rfl (lv_at hl 0 rfl) ?_
    refine va_get (D := (dC, dI)) (ci := 3) (v := .int (nI (ly + 1))) (C := R_S) (T := T_S) (N := 11) hx hb htw in_S hown hK hP 0 rfl rfl 6 (by decide) (htw _ m_31) (fun _ h9 => h9) rfl dS_addLayer_124 ?_
    refine lv_aload_n hx hb dS_addLayer_127 rfl (lv_at hl 0 rfl) ?_
    refine va_get (D := (dC, dI)) (ci := 3) (v := .int (nI (ce + n))) (C := R_S) (T := T_S) (N := 11) hx hb htw in_S hown hK hP 0 rfl rfl 7 (by decide) (htw _ m_33) (fun _ h9 => h9) rfl dS_addLayer_128 ?_
    refine xa_iast hx hb hK hP hD hS 6 0 rfl rfl (i := (ly + 1)) (by omega) (by decide) dS_addLayer_131 (fun H locs hP hD hS => ?_)
    have hP : va_P (dC, dI) vwCl [(so, .inr (3, [.ref qlk, .ref qln, .ref qhd, .ref qsf, .ref qfp, .ref qfc, .int (nI (ly + 1)), .int (nI (ce + n)), .int da, .int db, .int dr])), (qlk, .inl (cI, 30, .inl (k_fi lk ce (ce + n) x1))), (qln, .inl (cI, 30, .inl (k_lnf lk ln ce (ce + n) x1))), (qhd, .inl (cI, 30, .inl (k_fi hd ce (ce + n) x2))), (qsf, .inl (cI, 30, .inl (k_fi sf ce (ce + n) x3))), (qfp, .inl (cI, 30, .inl (k_fi fp ce (ce + n) x4))), (qfc, .inl (cI, 31, .inl (upd fc (ly + 1) (nI (ce + n)))))] H := hP
    have hD : va_D A [(so, .inr (3, [.ref qlk, .ref qln, .ref qhd, .ref qsf, .ref qfp, .ref qfc, .int (nI (ly + 1)), .int (nI (ce + n)), .int da, .int db, .int dr])), (qlk, .inl (cI, 30, .inl (k_fi lk ce (ce + n) x1))), (qln, .inl (cI, 30, .inl (k_lnf lk ln ce (ce + n) x1))), (qhd, .inl (cI, 30, .inl (k_fi hd ce (ce + n) x2))), (qsf, .inl (cI, 30, .inl (k_fi sf ce (ce + n) x3))), (qfp, .inl (cI, 30, .inl (k_fi fp ce (ce + n) x4))), (qfc, .inl (cI, 31, .inl (upd fc (ly + 1) (nI (ce + n)))))] := hD
    refine lv_aload_n hx hb dS_addLayer_132 rfl (lv_at hl 0 rfl) ?_
    refine va_get (D := (dC, dI)) (ci := 3) (v := .int (nI (ly + 1))) (C := R_S) (T := T_S) (N := 11) hx hb htw in_S hown hK hP 0 rfl rfl 6 (by decide) (htw _ m_31) (fun _ h9 => h9) rfl dS_addLayer_133 ?_
    refine lv_iconst (v := nI 1) hx hb dS_addLayer_136 (by decide) ?_
    refine lv_isub hx hb dS_addLayer_137 ?_
    refine lv_topi (fun kv ekv => ?_)
    obtain rfl : kv = nI ((ly + 1) - 1) := by rw [ekv]; exact pk_sub (by omega)
    have hP : va_P (dC, dI) vwCl [(so, .inr (3, [.ref qlk, .ref qln, .ref qhd, .ref qsf, .ref qfp, .ref qfc, .int (nI (ly + 1)), .int (nI (ce + n)), .int da, .int db, .int dr])), (qlk, .inl (cI, 30, .inl (k_fi lk ce (ce + n) x1))), (qln, .inl (cI, 30, .inl (k_lnf lk ln ce (ce + n) x1))), (qhd, .inl (cI, 30, .inl (k_fi hd ce (ce + n) x2))), (qsf, .inl (cI, 30, .inl (k_fi sf ce (ce + n) x3))), (qfp, .inl (cI, 30, .inl (k_fi fp ce (ce + n) x4))), (qfc, .inl (cI, 31, .inl (upd fc (ly + 1) (nI (ce + n)))))] H := by first | exact hP | simpa only [] using hP
    have hD : va_D A [(so, .inr (3, [.ref qlk, .ref qln, .ref qhd, .ref qsf, .ref qfp, .ref qfc, .int (nI (ly + 1)), .int (nI (ce + n)), .int da, .int db, .int dr])), (qlk, .inl (cI, 30, .inl (k_fi lk ce (ce + n) x1))), (qln, .inl (cI, 30, .inl (k_lnf lk ln ce (ce + n) x1))), (qhd, .inl (cI, 30, .inl (k_fi hd ce (ce + n) x2))), (qsf, .inl (cI, 30, .inl (k_fi sf ce (ce + n) x3))), (qfp, .inl (cI, 30, .inl (k_fi fp ce (ce + n) x4))), (qfc, .inl (cI, 31, .inl (upd fc (ly + 1) (nI (ce + n)))))] := by first | exact hD | simpa only [] using hD
    exact W.iret (v := nI ((ly + 1) - 1)) hx hb hr (fun t ht hW => ⟨⟨nI ((ly + 1) - 1), (), rfl, rfl, by rw [ht]; exact hP, va_K.moved hW.alike hK, hD⟩, hS.F ht⟩) hS.2.2 dS_addLayer_138
  · -- 6 not taken
    rw [nI_leI (by omega) (by omega)] at hc6
    refine lv_aload_n hx hb dS_addLayer_9 rfl (lv_at hl 0 rfl) ?_
    refine va_get (D := (dC, dI)) (ci := 3) (v := .int (nI (ce + i))) (C := R_S) (T := T_S) (N := 11) hx hb htw in_S hown hK hP 0 rfl rfl 7 (by decide) (htw _ m_33) (fun _ h9 => h9) rfl dS_addLayer_10 ?_
    refine lv_bipush (v := nI 30) hx hb dS_addLayer_13 (by decide) ?_
    refine lv_icmp_ge (tgt := 109) hx hb dS_addLayer_15 (by decide) (fun hc15 => ?_) (fun hc15 => ?_)
    · -- 15 taken
      rw [nI_leI (by omega) (by omega)] at hc15
      exact absurd hc15 (by omega)
    · -- 15 not taken
      rw [nI_leI (by omega) (by omega)] at hc15
      refine lv_aload_n hx hb dS_addLayer_18 rfl (lv_at hl 0 rfl) ?_
      refine va_get (D := (dC, dI)) (ci := 3) (v := .ref qlk) (C := R_S) (T := T_S) (N := 11) hx hb htw in_S hown hK hP 0 rfl rfl 0 (by decide) (htw _ m_22) (fun _ h9 => h9) rfl dS_addLayer_19 ?_
      refine lv_aload_n hx hb dS_addLayer_22 rfl (lv_at hl 0 rfl) ?_
      refine va_get (D := (dC, dI)) (ci := 3) (v := .int (nI (ce + i))) (C := R_S) (T := T_S) (N := 11) hx hb htw in_S hown hK hP 0 rfl rfl 7 (by decide) (htw _ m_33) (fun _ h9 => h9) rfl dS_addLayer_23 ?_
      refine lv_iload_n hx hb dS_addLayer_26 rfl (lv_at hl 2 rfl) ?_
      refine xa_iast hx hb hK hP hD hS 1 0 rfl rfl (i := (ce + i)) (by omega) (by decide) dS_addLayer_27 (fun H locs hP hD hS => ?_)
      have hP : va_P (dC, dI) vwCl [(so, .inr (3, [.ref qlk, .ref qln, .ref qhd, .ref qsf, .ref qfp, .ref qfc, .int (nI ly), .int (nI (ce + i)), .int da, .int db, .int dr])), (qlk, .inl (cI, 30, .inl (upd (k_fi lk ce (ce + i) x1) (ce + i) x1))), (qln, .inl (cI, 30, .inl (k_lnf lk ln ce (ce + i) x1))), (qhd, .inl (cI, 30, .inl (k_fi hd ce (ce + i) x2))), (qsf, .inl (cI, 30, .inl (k_fi sf ce (ce + i) x3))), (qfp, .inl (cI, 30, .inl (k_fi fp ce (ce + i) x4))), (qfc, .inl (cI, 31, .inl fc))] H := hP
      have hD : va_D A [(so, .inr (3, [.ref qlk, .ref qln, .ref qhd, .ref qsf, .ref qfp, .ref qfc, .int (nI ly), .int (nI (ce + i)), .int da, .int db, .int dr])), (qlk, .inl (cI, 30, .inl (upd (k_fi lk ce (ce + i) x1) (ce + i) x1))), (qln, .inl (cI, 30, .inl (k_lnf lk ln ce (ce + i) x1))), (qhd, .inl (cI, 30, .inl (k_fi hd ce (ce + i) x2))), (qsf, .inl (cI, 30, .inl (k_fi sf ce (ce + i) x3))), (qfp, .inl (cI, 30, .inl (k_fi fp ce (ce + i) x4))), (qfc, .inl (cI, 31, .inl fc))] := hD
      have eq7 : (upd (k_fi lk ce (ce + i) x1) (ce + i) x1 : Nat → Int32) = k_fi lk ce (ce + i + 1) x1 := k_fi_s (by omega)
      rw [eq7] at hP hD
      refine lv_aload_n hx hb dS_addLayer_28 rfl (lv_at hl 0 rfl) ?_
      refine va_get (D := (dC, dI)) (ci := 3) (v := .ref qhd) (C := R_S) (T := T_S) (N := 11) hx hb htw in_S hown hK hP 0 rfl rfl 2 (by decide) (htw _ m_26) (fun _ h9 => h9) rfl dS_addLayer_29 ?_
      refine lv_aload_n hx hb dS_addLayer_32 rfl (lv_at hl 0 rfl) ?_
      refine va_get (D := (dC, dI)) (ci := 3) (v := .int (nI (ce + i))) (C := R_S) (T := T_S) (N := 11) hx hb htw in_S hown hK hP 0 rfl rfl 7 (by decide) (htw _ m_33) (fun _ h9 => h9) rfl dS_addLayer_33 ?_
      refine lv_iload_n hx hb dS_addLayer_36 rfl (lv_at hl 3 rfl) ?_
      refine xa_iast hx hb hK hP hD hS 3 0 rfl rfl (i := (ce + i)) (by omega) (by decide) dS_addLayer_37 (fun H locs hP hD hS => ?_)
      have hP : va_P (dC, dI) vwCl [(so, .inr (3, [.ref qlk, .ref qln, .ref qhd, .ref qsf, .ref qfp, .ref qfc, .int (nI ly), .int (nI (ce + i)), .int da, .int db, .int dr])), (qlk, .inl (cI, 30, .inl (k_fi lk ce (ce + i + 1) x1))), (qln, .inl (cI, 30, .inl (k_lnf lk ln ce (ce + i) x1))), (qhd, .inl (cI, 30, .inl (upd (k_fi hd ce (ce + i) x2) (ce + i) x2))), (qsf, .inl (cI, 30, .inl (k_fi sf ce (ce + i) x3))), (qfp, .inl (cI, 30, .inl (k_fi fp ce (ce + i) x4))), (qfc, .inl (cI, 31, .inl fc))] H := hP
      have hD : va_D A [(so, .inr (3, [.ref qlk, .ref qln, .ref qhd, .ref qsf, .ref qfp, .ref qfc, .int (nI ly), .int (nI (ce + i)), .int da, .int db, .int dr])), (qlk, .inl (cI, 30, .inl (k_fi lk ce (ce + i + 1) x1))), (qln, .inl (cI, 30, .inl (k_lnf lk ln ce (ce + i) x1))), (qhd, .inl (cI, 30, .inl (upd (k_fi hd ce (ce + i) x2) (ce + i) x2))), (qsf, .inl (cI, 30, .inl (k_fi sf ce (ce + i) x3))), (qfp, .inl (cI, 30, .inl (k_fi fp ce (ce + i) x4))), (qfc, .inl (cI, 31, .inl fc))] := hD
      have eq8 : (upd (k_fi hd ce (ce + i) x2) (ce + i) x2 : Nat → Int32) = k_fi hd ce (ce + i + 1) x2 := k_fi_s (by omega)
      rw [eq8] at hP hD
      refine lv_aload_n hx hb dS_addLayer_38 rfl (lv_at hl 0 rfl) ?_
      refine va_get (D := (dC, dI)) (ci := 3) (v := .ref qsf) (C := R_S) (T := T_S) (N := 11) hx hb htw in_S hown hK hP 0 rfl rfl 3 (by decide) (htw _ m_27) (fun _ h9 => h9) rfl dS_addLayer_39 ?_
      refine lv_aload_n hx hb dS_addLayer_42 rfl (lv_at hl 0 rfl) ?_
      refine va_get (D := (dC, dI)) (ci := 3) (v := .int (nI (ce + i))) (C := R_S) (T := T_S) (N := 11) hx hb htw in_S hown hK hP 0 rfl rfl 7 (by decide) (htw _ m_33) (fun _ h9 => h9) rfl dS_addLayer_43 ?_
      refine lv_iload hx hb dS_addLayer_46 (lv_at hl 4 rfl) ?_
      refine xa_iast hx hb hK hP hD hS 4 0 rfl rfl (i := (ce + i)) (by omega) (by decide) dS_addLayer_48 (fun H locs hP hD hS => ?_)
      have hP : va_P (dC, dI) vwCl [(so, .inr (3, [.ref qlk, .ref qln, .ref qhd, .ref qsf, .ref qfp, .ref qfc, .int (nI ly), .int (nI (ce + i)), .int da, .int db, .int dr])), (qlk, .inl (cI, 30, .inl (k_fi lk ce (ce + i + 1) x1))), (qln, .inl (cI, 30, .inl (k_lnf lk ln ce (ce + i) x1))), (qhd, .inl (cI, 30, .inl (k_fi hd ce (ce + i + 1) x2))), (qsf, .inl (cI, 30, .inl (upd (k_fi sf ce (ce + i) x3) (ce + i) x3))), (qfp, .inl (cI, 30, .inl (k_fi fp ce (ce + i) x4))), (qfc, .inl (cI, 31, .inl fc))] H := hP
      have hD : va_D A [(so, .inr (3, [.ref qlk, .ref qln, .ref qhd, .ref qsf, .ref qfp, .ref qfc, .int (nI ly), .int (nI (ce + i)), .int da, .int db, .int dr])), (qlk, .inl (cI, 30, .inl (k_fi lk ce (ce + i + 1) x1))), (qln, .inl (cI, 30, .inl (k_lnf lk ln ce (ce + i) x1))), (qhd, .inl (cI, 30, .inl (k_fi hd ce (ce + i + 1) x2))), (qsf, .inl (cI, 30, .inl (upd (k_fi sf ce (ce + i) x3) (ce + i) x3))), (qfp, .inl (cI, 30, .inl (k_fi fp ce (ce + i) x4))), (qfc, .inl (cI, 31, .inl fc))] := hD
      have eq9 : (upd (k_fi sf ce (ce + i) x3) (ce + i) x3 : Nat → Int32) = k_fi sf ce (ce + i + 1) x3 := k_fi_s (by omega)
      rw [eq9] at hP hD
      refine lv_aload_n hx hb dS_addLayer_49 rfl (lv_at hl 0 rfl) ?_
      refine va_get (D := (dC, dI)) (ci := 3) (v := .ref qfp) (C := R_S) (T := T_S) (N := 11) hx hb htw in_S hown hK hP 0 rfl rfl 4 (by decide) (htw _ m_28) (fun _ h9 => h9) rfl dS_addLayer_50 ?_
      refine lv_aload_n hx hb dS_addLayer_53 rfl (lv_at hl 0 rfl) ?_
      refine va_get (D := (dC, dI)) (ci := 3) (v := .int (nI (ce + i))) (C := R_S) (T := T_S) (N := 11) hx hb htw in_S hown hK hP 0 rfl rfl 7 (by decide) (htw _ m_33) (fun _ h9 => h9) rfl dS_addLayer_54 ?_
      refine lv_iload hx hb dS_addLayer_57 (lv_at hl 5 rfl) ?_
      refine xa_iast hx hb hK hP hD hS 5 0 rfl rfl (i := (ce + i)) (by omega) (by decide) dS_addLayer_59 (fun H locs hP hD hS => ?_)
      have hP : va_P (dC, dI) vwCl [(so, .inr (3, [.ref qlk, .ref qln, .ref qhd, .ref qsf, .ref qfp, .ref qfc, .int (nI ly), .int (nI (ce + i)), .int da, .int db, .int dr])), (qlk, .inl (cI, 30, .inl (k_fi lk ce (ce + i + 1) x1))), (qln, .inl (cI, 30, .inl (k_lnf lk ln ce (ce + i) x1))), (qhd, .inl (cI, 30, .inl (k_fi hd ce (ce + i + 1) x2))), (qsf, .inl (cI, 30, .inl (k_fi sf ce (ce + i + 1) x3))), (qfp, .inl (cI, 30, .inl (upd (k_fi fp ce (ce + i) x4) (ce + i) x4))), (qfc, .inl (cI, 31, .inl fc))] H := hP
      have hD : va_D A [(so, .inr (3, [.ref qlk, .ref qln, .ref qhd, .ref qsf, .ref qfp, .ref qfc, .int (nI ly), .int (nI (ce + i)), .int da, .int db, .int dr])), (qlk, .inl (cI, 30, .inl (k_fi lk ce (ce + i + 1) x1))), (qln, .inl (cI, 30, .inl (k_lnf lk ln ce (ce + i) x1))), (qhd, .inl (cI, 30, .inl (k_fi hd ce (ce + i + 1) x2))), (qsf, .inl (cI, 30, .inl (k_fi sf ce (ce + i + 1) x3))), (qfp, .inl (cI, 30, .inl (upd (k_fi fp ce (ce + i) x4) (ce + i) x4))), (qfc, .inl (cI, 31, .inl fc))] := hD
      have eq10 : (upd (k_fi fp ce (ce + i) x4) (ce + i) x4 : Nat → Int32) = k_fi fp ce (ce + i + 1) x4 := k_fi_s (by omega)
      rw [eq10] at hP hD
      refine lv_aload_n hx hb dS_addLayer_60 rfl (lv_at hl 0 rfl) ?_
      refine va_get (D := (dC, dI)) (ci := 3) (v := .int (nI (ce + i))) (C := R_S) (T := T_S) (N := 11) hx hb htw in_S hown hK hP 0 rfl rfl 7 (by decide) (htw _ m_33) (fun _ h9 => h9) rfl dS_addLayer_61 ?_
      refine lv_if_le (tgt := 93) hx hb dS_addLayer_64 (by decide) (fun hc64 => ?_) (fun hc64 => ?_)
      · -- 64 taken
        rw [show (0 : Int32) = nI 0 from rfl, nI_leI (by omega) (by omega)] at hc64
        have eq11 : (k_lnf lk ln ce (ce + i) x1 : Nat → Int32) = k_lnf lk ln ce (ce + i + 1) x1 := k_lnf_1 (by omega)
        rw [eq11] at hP hD
        refine lv_aload_n hx hb dS_addLayer_93 rfl (lv_at hl 0 rfl) ?_
        refine lv_dup hx hb dS_addLayer_94 rfl ?_
        refine va_get (D := (dC, dI)) (ci := 3) (v := .int (nI (ce + i))) (C := R_S) (T := T_S) (N := 11) hx hb htw in_S hown hK hP 0 rfl rfl 7 (by decide) (htw _ m_33) (fun _ h9 => h9) rfl dS_addLayer_95 ?_
        refine lv_iconst (v := nI 1) hx hb dS_addLayer_98 (by decide) ?_
        refine lv_iadd hx hb dS_addLayer_99 ?_
        refine lv_topi (fun kv ekv => ?_)
        obtain rfl : kv = nI ((ce + i) + 1) := by rw [ekv]; exact nI_add _ _
        refine va_put (D := (dC, dI)) (ci := 3) (v := .int (nI ((ce + i) + 1))) (ty := .int) (C := R_S) (T := T_S) (N := 11) hx hb htw in_S ty_S tok_S nnm_S hown hK hP hD hS 0 rfl rfl 7 (by decide) (htw _ m_33) (fun _ h9 => h9) rfl (by decide +kernel) rfl rfl (Nat.le_of_ble_eq_true rfl) dS_addLayer_100 (fun H locs hP hD hS => ?_)
        have hP : va_P (dC, dI) vwCl [(so, .inr (3, [.ref qlk, .ref qln, .ref qhd, .ref qsf, .ref qfp, .ref qfc, .int (nI ly), .int (nI ((ce + i) + 1)), .int da, .int db, .int dr])), (qlk, .inl (cI, 30, .inl (k_fi lk ce (ce + i + 1) x1))), (qln, .inl (cI, 30, .inl (k_lnf lk ln ce (ce + i + 1) x1))), (qhd, .inl (cI, 30, .inl (k_fi hd ce (ce + i + 1) x2))), (qsf, .inl (cI, 30, .inl (k_fi sf ce (ce + i + 1) x3))), (qfp, .inl (cI, 30, .inl (k_fi fp ce (ce + i + 1) x4))), (qfc, .inl (cI, 31, .inl fc))] H := hP
        have hD : va_D A [(so, .inr (3, [.ref qlk, .ref qln, .ref qhd, .ref qsf, .ref qfp, .ref qfc, .int (nI ly), .int (nI ((ce + i) + 1)), .int da, .int db, .int dr])), (qlk, .inl (cI, 30, .inl (k_fi lk ce (ce + i + 1) x1))), (qln, .inl (cI, 30, .inl (k_lnf lk ln ce (ce + i + 1) x1))), (qhd, .inl (cI, 30, .inl (k_fi hd ce (ce + i + 1) x2))), (qsf, .inl (cI, 30, .inl (k_fi sf ce (ce + i + 1) x3))), (qfp, .inl (cI, 30, .inl (k_fi fp ce (ce + i + 1) x4))), (qfc, .inl (cI, 31, .inl fc))] := hD
        refine lv_iinc (v := nI (i + 1)) (lv' := [(6, .int (nI (i + 1))), (0, .ref so), (1, .int (nI n)), (2, .int x1), (3, .int x2), (4, .int x3), (5, .int x4)]) hx hb dS_addLayer_103 hl (k := 6) rfl (nI_1 _) (by decide) rfl (fun ls hl => ?_)
        refine lv_goto (tgt := 3) hx hb dS_addLayer_106 (by decide) ?_
        have hP : va_P (dC, dI) vwCl [(so, .inr (3, [.ref qlk, .ref qln, .ref qhd, .ref qsf, .ref qfp, .ref qfc, .int (nI ly), .int (nI (ce + (i + 1))), .int da, .int db, .int dr])), (qlk, .inl (cI, 30, .inl (k_fi lk ce (ce + (i + 1)) x1))), (qln, .inl (cI, 30, .inl (k_lnf lk ln ce (ce + (i + 1)) x1))), (qhd, .inl (cI, 30, .inl (k_fi hd ce (ce + (i + 1)) x2))), (qsf, .inl (cI, 30, .inl (k_fi sf ce (ce + (i + 1)) x3))), (qfp, .inl (cI, 30, .inl (k_fi fp ce (ce + (i + 1)) x4))), (qfc, .inl (cI, 31, .inl fc))] H := by first | exact hP | simpa only [] using hP
        have hD : va_D A [(so, .inr (3, [.ref qlk, .ref qln, .ref qhd, .ref qsf, .ref qfp, .ref qfc, .int (nI ly), .int (nI (ce + (i + 1))), .int da, .int db, .int dr])), (qlk, .inl (cI, 30, .inl (k_fi lk ce (ce + (i + 1)) x1))), (qln, .inl (cI, 30, .inl (k_lnf lk ln ce (ce + (i + 1)) x1))), (qhd, .inl (cI, 30, .inl (k_fi hd ce (ce + (i + 1)) x2))), (qsf, .inl (cI, 30, .inl (k_fi sf ce (ce + (i + 1)) x3))), (qfp, .inl (cI, 30, .inl (k_fi fp ce (ce + (i + 1)) x4))), (qfc, .inl (cI, 31, .inl fc))] := by first | exact hD | simpa only [] using hD
        exact ih3 (by omega) _ _ _ ⟨hP, hD, hS, lv_sub hl [1, 2, 3, 4, 5, 6, 0] rfl⟩
      · -- 64 not taken
        rw [show (0 : Int32) = nI 0 from rfl, nI_leI (by omega) (by omega)] at hc64
        refine lv_aload_n hx hb dS_addLayer_67 rfl (lv_at hl 0 rfl) ?_
        refine va_get (D := (dC, dI)) (ci := 3) (v := .ref qln) (C := R_S) (T := T_S) (N := 11) hx hb htw in_S hown hK hP 0 rfl rfl 1 (by decide) (htw _ m_24) (fun _ h9 => h9) rfl dS_addLayer_68 ?_
        refine lv_aload_n hx hb dS_addLayer_71 rfl (lv_at hl 0 rfl) ?_
        refine va_get (D := (dC, dI)) (ci := 3) (v := .int (nI (ce + i))) (C := R_S) (T := T_S) (N := 11) hx hb htw in_S hown hK hP 0 rfl rfl 7 (by decide) (htw _ m_33) (fun _ h9 => h9) rfl dS_addLayer_72 ?_
        refine lv_iconst (v := nI 1) hx hb dS_addLayer_75 (by decide) ?_
        refine lv_isub hx hb dS_addLayer_76 ?_
        refine lv_topi (fun kv ekv => ?_)
        obtain rfl : kv = nI ((ce + i) - 1) := by rw [ekv]; exact pk_sub (by omega)
        refine lv_aload_n hx hb dS_addLayer_77 rfl (lv_at hl 0 rfl) ?_
        refine va_get (D := (dC, dI)) (ci := 3) (v := .ref qlk) (C := R_S) (T := T_S) (N := 11) hx hb htw in_S hown hK hP 0 rfl rfl 0 (by decide) (htw _ m_22) (fun _ h9 => h9) rfl dS_addLayer_78 ?_
        refine lv_aload_n hx hb dS_addLayer_81 rfl (lv_at hl 0 rfl) ?_
        refine va_get (D := (dC, dI)) (ci := 3) (v := .int (nI (ce + i))) (C := R_S) (T := T_S) (N := 11) hx hb htw in_S hown hK hP 0 rfl rfl 7 (by decide) (htw _ m_33) (fun _ h9 => h9) rfl dS_addLayer_82 ?_
        refine lv_iconst (v := nI 1) hx hb dS_addLayer_85 (by decide) ?_
        refine lv_isub hx hb dS_addLayer_86 ?_
        refine lv_topi (fun kv ekv => ?_)
        obtain rfl : kv = nI ((ce + i) - 1) := by rw [ekv]; exact pk_sub (by omega)
        refine xa_iald hx hb hK hP 1 0 rfl rfl (i := ((ce + i) - 1)) (by omega) (by decide) dS_addLayer_87 ?_
        refine lv_iload_n hx hb dS_addLayer_88 rfl (lv_at hl 2 rfl) ?_
        refine va_mmin hx hb (by rw [hml]; exact hl.1.symm) hown (htw _ m_176) (htw _ m_177) (htw _ m_7) (htw _ m_178) (Nat.le_of_ble_eq_true rfl) (Nat.le_of_ble_eq_true rfl) (Nat.le_of_ble_eq_true rfl) (Nat.le_of_ble_eq_true rfl) dS_addLayer_89 ?_
        refine lv_topi (fun kv ekv => ?_)
        obtain rfl : kv = k_mn (k_fi lk ce (ce + i + 1) x1 (ce + i - 1)) x1 := ekv.trans (rfl)
        refine xa_iast hx hb hK hP hD hS 2 0 rfl rfl (i := ((ce + i) - 1)) (by omega) (by decide) dS_addLayer_92 (fun H locs hP hD hS => ?_)
        have hP : va_P (dC, dI) vwCl [(so, .inr (3, [.ref qlk, .ref qln, .ref qhd, .ref qsf, .ref qfp, .ref qfc, .int (nI ly), .int (nI (ce + i)), .int da, .int db, .int dr])), (qlk, .inl (cI, 30, .inl (k_fi lk ce (ce + i + 1) x1))), (qln, .inl (cI, 30, .inl (upd (k_lnf lk ln ce (ce + i) x1) ((ce + i) - 1) (k_mn (k_fi lk ce (ce + i + 1) x1 (ce + i - 1)) x1)))), (qhd, .inl (cI, 30, .inl (k_fi hd ce (ce + i + 1) x2))), (qsf, .inl (cI, 30, .inl (k_fi sf ce (ce + i + 1) x3))), (qfp, .inl (cI, 30, .inl (k_fi fp ce (ce + i + 1) x4))), (qfc, .inl (cI, 31, .inl fc))] H := hP
        have hD : va_D A [(so, .inr (3, [.ref qlk, .ref qln, .ref qhd, .ref qsf, .ref qfp, .ref qfc, .int (nI ly), .int (nI (ce + i)), .int da, .int db, .int dr])), (qlk, .inl (cI, 30, .inl (k_fi lk ce (ce + i + 1) x1))), (qln, .inl (cI, 30, .inl (upd (k_lnf lk ln ce (ce + i) x1) ((ce + i) - 1) (k_mn (k_fi lk ce (ce + i + 1) x1 (ce + i - 1)) x1)))), (qhd, .inl (cI, 30, .inl (k_fi hd ce (ce + i + 1) x2))), (qsf, .inl (cI, 30, .inl (k_fi sf ce (ce + i + 1) x3))), (qfp, .inl (cI, 30, .inl (k_fi fp ce (ce + i + 1) x4))), (qfc, .inl (cI, 31, .inl fc))] := hD
        have eq18 : (upd (k_lnf lk ln ce (ce + i) x1) ((ce + i) - 1) (k_mn (k_fi lk ce (ce + i + 1) x1 (ce + i - 1)) x1) : Nat → Int32) = k_lnf lk ln ce (ce + i + 1) x1 := k_lnf_s (by omega) (by omega)
        rw [eq18] at hP hD
        refine lv_aload_n hx hb dS_addLayer_93 rfl (lv_at hl 0 rfl) ?_
        refine lv_dup hx hb dS_addLayer_94 rfl ?_
        refine va_get (D := (dC, dI)) (ci := 3) (v := .int (nI (ce + i))) (C := R_S) (T := T_S) (N := 11) hx hb htw in_S hown hK hP 0 rfl rfl 7 (by decide) (htw _ m_33) (fun _ h9 => h9) rfl dS_addLayer_95 ?_
        refine lv_iconst (v := nI 1) hx hb dS_addLayer_98 (by decide) ?_
        refine lv_iadd hx hb dS_addLayer_99 ?_
        refine lv_topi (fun kv ekv => ?_)
        obtain rfl : kv = nI ((ce + i) + 1) := by rw [ekv]; exact nI_add _ _
        refine va_put (D := (dC, dI)) (ci := 3) (v := .int (nI ((ce + i) + 1))) (ty := .int) (C := R_S) (T := T_S) (N := 11) hx hb htw in_S ty_S tok_S nnm_S hown hK hP hD hS 0 rfl rfl 7 (by decide) (htw _ m_33) (fun _ h9 => h9) rfl (by decide +kernel) rfl rfl (Nat.le_of_ble_eq_true rfl) dS_addLayer_100 (fun H locs hP hD hS => ?_)
        have hP : va_P (dC, dI) vwCl [(so, .inr (3, [.ref qlk, .ref qln, .ref qhd, .ref qsf, .ref qfp, .ref qfc, .int (nI ly), .int (nI ((ce + i) + 1)), .int da, .int db, .int dr])), (qlk, .inl (cI, 30, .inl (k_fi lk ce (ce + i + 1) x1))), (qln, .inl (cI, 30, .inl (k_lnf lk ln ce (ce + i + 1) x1))), (qhd, .inl (cI, 30, .inl (k_fi hd ce (ce + i + 1) x2))), (qsf, .inl (cI, 30, .inl (k_fi sf ce (ce + i + 1) x3))), (qfp, .inl (cI, 30, .inl (k_fi fp ce (ce + i + 1) x4))), (qfc, .inl (cI, 31, .inl fc))] H := hP
        have hD : va_D A [(so, .inr (3, [.ref qlk, .ref qln, .ref qhd, .ref qsf, .ref qfp, .ref qfc, .int (nI ly), .int (nI ((ce + i) + 1)), .int da, .int db, .int dr])), (qlk, .inl (cI, 30, .inl (k_fi lk ce (ce + i + 1) x1))), (qln, .inl (cI, 30, .inl (k_lnf lk ln ce (ce + i + 1) x1))), (qhd, .inl (cI, 30, .inl (k_fi hd ce (ce + i + 1) x2))), (qsf, .inl (cI, 30, .inl (k_fi sf ce (ce + i + 1) x3))), (qfp, .inl (cI, 30, .inl (k_fi fp ce (ce + i + 1) x4))), (qfc, .inl (cI, 31, .inl fc))] := hD
        refine lv_iinc (v := nI (i + 1)) (lv' := [(6, .int (nI (i + 1))), (0, .ref so), (1, .int (nI n)), (2, .int x1), (3, .int x2), (4, .int x3), (5, .int x4)]) hx hb dS_addLayer_103 hl (k := 6) rfl (nI_1 _) (by decide) rfl (fun ls hl => ?_)
        refine lv_goto (tgt := 3) hx hb dS_addLayer_106 (by decide) ?_
        have hP : va_P (dC, dI) vwCl [(so, .inr (3, [.ref qlk, .ref qln, .ref qhd, .ref qsf, .ref qfp, .ref qfc, .int (nI ly), .int (nI (ce + (i + 1))), .int da, .int db, .int dr])), (qlk, .inl (cI, 30, .inl (k_fi lk ce (ce + (i + 1)) x1))), (qln, .inl (cI, 30, .inl (k_lnf lk ln ce (ce + (i + 1)) x1))), (qhd, .inl (cI, 30, .inl (k_fi hd ce (ce + (i + 1)) x2))), (qsf, .inl (cI, 30, .inl (k_fi sf ce (ce + (i + 1)) x3))), (qfp, .inl (cI, 30, .inl (k_fi fp ce (ce + (i + 1)) x4))), (qfc, .inl (cI, 31, .inl fc))] H := by first | exact hP | simpa only [] using hP
        have hD : va_D A [(so, .inr (3, [.ref qlk, .ref qln, .ref qhd, .ref qsf, .ref qfp, .ref qfc, .int (nI ly), .int (nI (ce + (i + 1))), .int da, .int db, .int dr])), (qlk, .inl (cI, 30, .inl (k_fi lk ce (ce + (i + 1)) x1))), (qln, .inl (cI, 30, .inl (k_lnf lk ln ce (ce + (i + 1)) x1))), (qhd, .inl (cI, 30, .inl (k_fi hd ce (ce + (i + 1)) x2))), (qsf, .inl (cI, 30, .inl (k_fi sf ce (ce + (i + 1)) x3))), (qfp, .inl (cI, 30, .inl (k_fi fp ce (ce + (i + 1)) x4))), (qfc, .inl (cI, 31, .inl fc))] := by first | exact hD | simpa only [] using hD
        exact ih3 (by omega) _ _ _ ⟨hP, hD, hS, lv_sub hl [1, 2, 3, 4, 5, 6, 0] rfl⟩
end
section
set_option maxHeartbeats 4000000 in
set_option maxRecDepth 100000 in
theorem kO_add (l : Launch) (dC : Nat → ClassId) (dI : Nat → Nat → Nat) (cI cJ : ClassId) (lo qld qlz : Nat) (sz : Nat) (x : Int32) (y : Int32) (mn : Nat) (sm : Int64) (ld : Nat → Int32) (lz : Nat → Int32) (hmn : mn < 12) : Met l yO_add wO_add ({ frames := 0, cells := 0, slots := 0, locals := 0 }) (va_Pc [.ref lo, .int x, .int y] (fun U => U.heap.size = sz ∧ va_P (dC, dI) vwCl [(lo, .inr (1, [.ref qld, .ref qlz, .int (nI mn), .long sm])), (qld, .inl (cI, 12, .inl ld)), (qlz, .inl (cI, 12, .inl lz))] U.heap ∧ va_K (dC, dI) vwCl [(cI, .int), (cJ, .long)] U ∧ va_D (fun _ => True) [(lo, .inr (1, [.ref qld, .ref qlz, .int (nI mn), .long sm])), (qld, .inl (cI, 12, .inl ld)), (qlz, .inl (cI, 12, .inl lz))])) (va_Qi (fun res_ (_ : Unit) => res_ = nI (mn + 1)) (fun _ t => va_P (dC, dI) vwCl [(lo, .inr (1, [.ref qld, .ref qlz, .int (nI (mn + 1)), .long (sm + y.toInt64)])), (qld, .inl (cI, 12, .inl (upd ld mn x))), (qlz, .inl (cI, 12, .inl (upd lz mn y)))] t.heap ∧ va_K (dC, dI) vwCl [(cI, .int), (cJ, .long)] t ∧ va_D (va_A [(lo, .inr (1, [.ref qld, .ref qlz, .int (nI mn), .long sm])), (qld, .inl (cI, 12, .inl ld)), (qlz, .inl (cI, 12, .inl lz))] sz) [(lo, .inr (1, [.ref qld, .ref qlz, .int (nI (mn + 1)), .long (sm + y.toInt64)])), (qld, .inl (cI, 12, .inl (upd ld mn x))), (qlz, .inl (cI, 12, .inl (upd lz mn y)))]) (va_A [(lo, .inr (1, [.ref qld, .ref qlz, .int (nI mn), .long sm])), (qld, .inl (cI, 12, .inl ld)), (qlz, .inl (cI, 12, .inl lz))] sz)) 0 0 (va_A [(lo, .inr (1, [.ref qld, .ref qlz, .int (nI mn), .long sm])), (qld, .inl (cI, 12, .inl ld)), (qlz, .inl (cI, 12, .inl lz))] sz) := by
  refine Met.ofW (cc := bO_add) (maxL := 3) (ret := (some .int)) (by decide) rfl ?_
  intro p e s m args below meth c s₁ B hml hv
  obtain ⟨rfl, hsz, hP, hK, hD0⟩ := hv
  have hx := B.exec
  have hb := B.bytes
  have hr := B.returns
  have hts := atoms_spec (ws := wO_add) B.pre
  have hown : s.vm.findClass R_O = some m.cls := findClass_of_methodNamed B.named
  have htw : ∀ w ∈ WA, w.before _ s = true := fun w h => hts w (List.mem_cons_of_mem _ h)
  clear hts
  have hlocks := B.notSynchronized
  subst hsz
  have hD := hD0.self (sz := s.heap.size)
  generalize hAe : va_A [(lo, .inr (1, [.ref qld, .ref qlz, .int (nI mn), .long sm])), (qld, .inl (cI, 12, .inl ld)), (qlz, .inl (cI, 12, .inl lz))] s.heap.size = A at hD ⊢
  have hA : ∀ q : Nat, s.heap.size ≤ q → A q := fun q h => by rw [← hAe]; exact Or.inr h
  clear hAe hD0
  have hS : va_S A s.heap s.heap [] := va_S.rf
  have hP : va_P (dC, dI) vwCl [(lo, .inr (1, [.ref qld, .ref qlz, .int (nI mn), .long sm])), (qld, .inl (cI, 12, .inl ld)), (qlz, .inl (cI, 12, .inl lz))] s.heap := hP
  have hl := lv_entry ([.ref lo, .int x, .int y]) (n := 3) (Nat.le_of_ble_eq_true rfl)
  rw [lg_entry_eq]
  generalize (lg_sl ([.ref lo, .int x, .int y]) ++ List.replicate (3 - (lg_sl ([.ref lo, .int x, .int y])).length) Slot.unset).toArray = ls at hl ⊢
  have hl : lv_has ls 3 [(0, .ref lo), (1, .int x), (2, .int y)] := hl
  refine lv_aload_n hx hb dO_add_0 rfl (lv_at hl 0 rfl) ?_
  refine va_get (D := (dC, dI)) (ci := 1) (v := .ref qld) (C := R_O) (T := T_O) (N := 4) hx hb htw in_O hown hK hP 0 rfl rfl 0 (by decide) (htw _ m_73) (fun _ h9 => h9) rfl dO_add_1 ?_
  refine lv_aload_n hx hb dO_add_4 rfl (lv_at hl 0 rfl) ?_
  refine va_get (D := (dC, dI)) (ci := 1) (v := .int (nI mn)) (C := R_O) (T := T_O) (N := 4) hx hb htw in_O hown hK hP 0 rfl rfl 2 (by decide) (htw _ m_75) (fun _ h9 => h9) rfl dO_add_5 ?_
  refine lv_iload_n hx hb dO_add_8 rfl (lv_at hl 1 rfl) ?_
  refine xa_iast hx hb hK hP hD hS 1 0 rfl rfl (i := mn) (by omega) (by decide) dO_add_9 (fun H locs hP hD hS => ?_)
  have hP : va_P (dC, dI) vwCl [(lo, .inr (1, [.ref qld, .ref qlz, .int (nI mn), .long sm])), (qld, .inl (cI, 12, .inl (upd ld mn x))), (qlz, .inl (cI, 12, .inl lz))] H := hP
  have hD : va_D A [(lo, .inr (1, [.ref qld, .ref qlz, .int (nI mn), .long sm])), (qld, .inl (cI, 12, .inl (upd ld mn x))), (qlz, .inl (cI, 12, .inl lz))] := hD
  refine lv_aload_n hx hb dO_add_10 rfl (lv_at hl 0 rfl) ?_
  refine va_get (D := (dC, dI)) (ci := 1) (v := .ref qlz) (C := R_O) (T := T_O) (N := 4) hx hb htw in_O hown hK hP 0 rfl rfl 1 (by decide) (htw _ m_74) (fun _ h9 => h9) rfl dO_add_11 ?_
  refine lv_aload_n hx hb dO_add_14 rfl (lv_at hl 0 rfl) ?_
  refine va_get (D := (dC, dI)) (ci := 1) (v := .int (nI mn)) (C := R_O) (T := T_O) (N := 4) hx hb htw in_O hown hK hP 0 rfl rfl 2 (by decide) (htw _ m_75) (fun _ h9 => h9) rfl dO_add_15 ?_
  refine lv_iload_n hx hb dO_add_18 rfl (lv_at hl 2 rfl) ?_
  refine xa_iast hx hb hK hP hD hS 2 0 rfl rfl (i := mn) (by omega) (by decide) dO_add_19 (fun H locs hP hD hS => ?_)
  have hP : va_P (dC, dI) vwCl [(lo, .inr (1, [.ref qld, .ref qlz, .int (nI mn), .long sm])), (qld, .inl (cI, 12, .inl (upd ld mn x))), (qlz, .inl (cI, 12, .inl (upd lz mn y)))] H := hP
  have hD : va_D A [(lo, .inr (1, [.ref qld, .ref qlz, .int (nI mn), .long sm])), (qld, .inl (cI, 12, .inl (upd ld mn x))), (qlz, .inl (cI, 12, .inl (upd lz mn y)))] := hD
  refine lv_aload_n hx hb dO_add_20 rfl (lv_at hl 0 rfl) ?_
  refine lv_dup hx hb dO_add_21 rfl ?_
  refine va_get (D := (dC, dI)) (ci := 1) (v := .long sm) (C := R_O) (T := T_O) (N := 4) hx hb htw in_O hown hK hP 0 rfl rfl 3 (by decide) (htw _ m_77) (fun _ h9 => h9) rfl dO_add_22 ?_
  refine lv_iload_n hx hb dO_add_25 rfl (lv_at hl 2 rfl) ?_
  refine lv_i2l (v := y.toInt64) hx hb dO_add_26 rfl ?_
  refine lv_ladd hx hb dO_add_27 ?_
  refine va_put (D := (dC, dI)) (ci := 1) (v := .long (sm + y.toInt64)) (ty := .long) (C := R_O) (T := T_O) (N := 4) hx hb htw in_O ty_O tok_O nnm_O hown hK hP hD hS 0 rfl rfl 3 (by decide) (htw _ m_77) (fun _ h9 => h9) rfl (by decide +kernel) rfl rfl (Nat.le_of_ble_eq_true rfl) dO_add_28 (fun H locs hP hD hS => ?_)
  have hP : va_P (dC, dI) vwCl [(lo, .inr (1, [.ref qld, .ref qlz, .int (nI mn), .long (sm + y.toInt64)])), (qld, .inl (cI, 12, .inl (upd ld mn x))), (qlz, .inl (cI, 12, .inl (upd lz mn y)))] H := hP
  have hD : va_D A [(lo, .inr (1, [.ref qld, .ref qlz, .int (nI mn), .long (sm + y.toInt64)])), (qld, .inl (cI, 12, .inl (upd ld mn x))), (qlz, .inl (cI, 12, .inl (upd lz mn y)))] := hD
  refine lv_aload_n hx hb dO_add_31 rfl (lv_at hl 0 rfl) ?_
  refine lv_dup hx hb dO_add_32 rfl ?_
  refine va_get (D := (dC, dI)) (ci := 1) (v := .int (nI mn)) (C := R_O) (T := T_O) (N := 4) hx hb htw in_O hown hK hP 0 rfl rfl 2 (by decide) (htw _ m_75) (fun _ h9 => h9) rfl dO_add_33 ?_
  refine lv_iconst (v := nI 1) hx hb dO_add_36 (by decide) ?_
  refine lv_iadd hx hb dO_add_37 ?_
  refine lv_topi (fun kv ekv => ?_)
  obtain rfl : kv = nI (mn + 1) := by rw [ekv]; exact nI_add _ _
  refine va_put (D := (dC, dI)) (ci := 1) (v := .int (nI (mn + 1))) (ty := .int) (C := R_O) (T := T_O) (N := 4) hx hb htw in_O ty_O tok_O nnm_O hown hK hP hD hS 0 rfl rfl 2 (by decide) (htw _ m_75) (fun _ h9 => h9) rfl (by decide +kernel) rfl rfl (Nat.le_of_ble_eq_true rfl) dO_add_38 (fun H locs hP hD hS => ?_)
  have hP : va_P (dC, dI) vwCl [(lo, .inr (1, [.ref qld, .ref qlz, .int (nI (mn + 1)), .long (sm + y.toInt64)])), (qld, .inl (cI, 12, .inl (upd ld mn x))), (qlz, .inl (cI, 12, .inl (upd lz mn y)))] H := hP
  have hD : va_D A [(lo, .inr (1, [.ref qld, .ref qlz, .int (nI (mn + 1)), .long (sm + y.toInt64)])), (qld, .inl (cI, 12, .inl (upd ld mn x))), (qlz, .inl (cI, 12, .inl (upd lz mn y)))] := hD
  refine lv_aload_n hx hb dO_add_41 rfl (lv_at hl 0 rfl) ?_
  refine va_get (D := (dC, dI)) (ci := 1) (v := .int (nI (mn + 1))) (C := R_O) (T := T_O) (N := 4) hx hb htw in_O hown hK hP 0 rfl rfl 2 (by decide) (htw _ m_75) (fun _ h9 => h9) rfl dO_add_42 ?_
  have hP : va_P (dC, dI) vwCl [(lo, .inr (1, [.ref qld, .ref qlz, .int (nI (mn + 1)), .long (sm + y.toInt64)])), (qld, .inl (cI, 12, .inl (upd ld mn x))), (qlz, .inl (cI, 12, .inl (upd lz mn y)))] H := by first | exact hP | simpa only [] using hP
  have hD : va_D A [(lo, .inr (1, [.ref qld, .ref qlz, .int (nI (mn + 1)), .long (sm + y.toInt64)])), (qld, .inl (cI, 12, .inl (upd ld mn x))), (qlz, .inl (cI, 12, .inl (upd lz mn y)))] := by first | exact hD | simpa only [] using hD
  exact W.iret (v := nI (mn + 1)) hx hb hr (fun t ht hW => ⟨⟨nI (mn + 1), (), rfl, rfl, by rw [ht]; exact hP, va_K.moved hW.alike hK, hD⟩, hS.F ht⟩) hS.2.2 dO_add_45
set_option maxHeartbeats 4000000 in
set_option maxRecDepth 100000 in
theorem kD_firstFreeDay (l : Launch) (dC : Nat → ClassId) (dI : Nat → Nat → Nat) (cI cJ : ClassId) (rg qrd qrv : Nat) (sz : Nat) (rn : Nat) (rd : Nat → Int32) (hrn : rn ≤ 20) : Met l yD_firstFreeDay wD_firstFreeDay ({ frames := 0, cells := 0, slots := 0, locals := 0 }) (va_Pc [.ref rg] (fun U => U.heap.size = sz ∧ va_P (dC, dI) vwCl [(rg, .inr (2, [.ref qrd, .ref qrv, .int (nI rn)])), (qrd, .inl (cI, 20, .inl rd))] U.heap ∧ va_K (dC, dI) vwCl [(cI, .int), (cJ, .long)] U ∧ va_D (fun _ => True) [(rg, .inr (2, [.ref qrd, .ref qrv, .int (nI rn)])), (qrd, .inl (cI, 20, .inl rd))])) (va_Qi (fun res_ (_ : Unit) => res_ = k_ff rd rn) (fun _ t => va_P (dC, dI) vwCl [(rg, .inr (2, [.ref qrd, .ref qrv, .int (nI rn)])), (qrd, .inl (cI, 20, .inl rd))] t.heap ∧ va_K (dC, dI) vwCl [(cI, .int), (cJ, .long)] t ∧ va_D (va_A [(rg, .inr (2, [.ref qrd, .ref qrv, .int (nI rn)])), (qrd, .inl (cI, 20, .inl rd))] sz) [(rg, .inr (2, [.ref qrd, .ref qrv, .int (nI rn)])), (qrd, .inl (cI, 20, .inl rd))]) (va_A [(rg, .inr (2, [.ref qrd, .ref qrv, .int (nI rn)])), (qrd, .inl (cI, 20, .inl rd))] sz)) 0 0 (va_A [(rg, .inr (2, [.ref qrd, .ref qrv, .int (nI rn)])), (qrd, .inl (cI, 20, .inl rd))] sz) := by
  refine Met.ofW (cc := bD_firstFreeDay) (maxL := 1) (ret := (some .int)) (by decide) rfl ?_
  intro p e s m args below meth c s₁ B hml hv
  obtain ⟨rfl, hsz, hP, hK, hD0⟩ := hv
  have hx := B.exec
  have hb := B.bytes
  have hr := B.returns
  have hts := atoms_spec (ws := wD_firstFreeDay) B.pre
  have hown : s.vm.findClass R_D = some m.cls := findClass_of_methodNamed B.named
  have htw : ∀ w ∈ WA, w.before _ s = true := fun w h => hts w (List.mem_cons_of_mem _ h)
  clear hts
  have hlocks := B.notSynchronized
  subst hsz
  have hD := hD0.self (sz := s.heap.size)
  generalize hAe : va_A [(rg, .inr (2, [.ref qrd, .ref qrv, .int (nI rn)])), (qrd, .inl (cI, 20, .inl rd))] s.heap.size = A at hD ⊢
  have hA : ∀ q : Nat, s.heap.size ≤ q → A q := fun q h => by rw [← hAe]; exact Or.inr h
  clear hAe hD0
  have hS : va_S A s.heap s.heap [] := va_S.rf
  have hP : va_P (dC, dI) vwCl [(rg, .inr (2, [.ref qrd, .ref qrv, .int (nI rn)])), (qrd, .inl (cI, 20, .inl rd))] s.heap := hP
  have hl := lv_entry ([.ref rg]) (n := 1) (Nat.le_of_ble_eq_true rfl)
  rw [lg_entry_eq]
  generalize (lg_sl ([.ref rg]) ++ List.replicate (1 - (lg_sl ([.ref rg])).length) Slot.unset).toArray = ls at hl ⊢
  have hl : lv_has ls 1 [(0, .ref rg)] := hl
  refine lv_aload_n hx hb dD_firstFreeDay_0 rfl (lv_at hl 0 rfl) ?_
  refine va_get (D := (dC, dI)) (ci := 2) (v := .int (nI rn)) (C := R_D) (T := T_D) (N := 3) hx hb htw in_D hown hK hP 0 rfl rfl 2 (by decide) (htw _ m_98) (fun _ h9 => h9) rfl dD_firstFreeDay_1 ?_
  refine lv_if_ne (tgt := 11) hx hb dD_firstFreeDay_4 (by decide) (fun hc4 => ?_) (fun hc4 => ?_)
  · -- 4 taken
    rw [show (0 : Int32) = nI 0 from rfl, nI_eq (by omega) (by omega)] at hc4
    have hret : rd (rn - 1) + nI 1 = k_ff rd rn := (if_neg hc4).symm
    refine lv_aload_n hx hb dD_firstFreeDay_11 rfl (lv_at hl 0 rfl) ?_
    refine va_get (D := (dC, dI)) (ci := 2) (v := .ref qrd) (C := R_D) (T := T_D) (N := 3) hx hb htw in_D hown hK hP 0 rfl rfl 0 (by decide) (htw _ m_94) (fun _ h9 => h9) rfl dD_firstFreeDay_12 ?_
    refine lv_aload_n hx hb dD_firstFreeDay_15 rfl (lv_at hl 0 rfl) ?_
    refine va_get (D := (dC, dI)) (ci := 2) (v := .int (nI rn)) (C := R_D) (T := T_D) (N := 3) hx hb htw in_D hown hK hP 0 rfl rfl 2 (by decide) (htw _ m_98) (fun _ h9 => h9) rfl dD_firstFreeDay_16 ?_
    refine lv_iconst (v := nI 1) hx hb dD_firstFreeDay_19 (by decide) ?_
    refine lv_isub hx hb dD_firstFreeDay_20 ?_
    refine lv_topi (fun kv ekv => ?_)
    obtain rfl : kv = nI (rn - 1) := by rw [ekv]; exact pk_sub (by omega)
    refine xa_iald hx hb hK hP 1 0 rfl rfl (i := (rn - 1)) (by omega) (by decide) dD_firstFreeDay_21 ?_
    refine lv_iconst (v := nI 1) hx hb dD_firstFreeDay_22 (by decide) ?_
    refine lv_iadd hx hb dD_firstFreeDay_23 ?_
    have hP : va_P (dC, dI) vwCl [(rg, .inr (2, [.ref qrd, .ref qrv, .int (nI rn)])), (qrd, .inl (cI, 20, .inl rd))] s.heap := by first | exact hP | simpa only [] using hP
    have hD : va_D A [(rg, .inr (2, [.ref qrd, .ref qrv, .int (nI rn)])), (qrd, .inl (cI, 20, .inl rd))] := by first | exact hD | simpa only [] using hD
    exact W.iret (v := (rd (rn - 1)) + (nI 1)) hx hb hr (fun t ht hW => ⟨⟨(rd (rn - 1)) + (nI 1), (), rfl, hret, by rw [ht]; exact hP, va_K.moved hW.alike hK, hD⟩, hS.F ht⟩) hS.2.2 dD_firstFreeDay_24
  · -- 4 not taken
    rw [show (0 : Int32) = nI 0 from rfl, nI_eq (by omega) (by omega)] at hc4
    have hret : nI 0 = k_ff rd rn := (if_pos hc4).symm
    refine lv_iconst (v := nI 0) hx hb dD_firstFreeDay_7 (by decide) ?_
    refine lv_goto (tgt := 24) hx hb dD_firstFreeDay_8 (by decide) ?_
    have hP : va_P (dC, dI) vwCl [(rg, .inr (2, [.ref qrd, .ref qrv, .int (nI rn)])), (qrd, .inl (cI, 20, .inl rd))] s.heap := by first | exact hP | simpa only [] using hP
    have hD : va_D A [(rg, .inr (2, [.ref qrd, .ref qrv, .int (nI rn)])), (qrd, .inl (cI, 20, .inl rd))] := by first | exact hD | simpa only [] using hD
    exact W.iret (v := nI 0) hx hb hr (fun t ht hW => ⟨⟨nI 0, (), rfl, hret, by rw [ht]; exact hP, va_K.moved hW.alike hK, hD⟩, hS.F ht⟩) hS.2.2 dD_firstFreeDay_24
set_option maxHeartbeats 4000000 in
set_option maxRecDepth 100000 in
theorem kD_add (l : Launch) (dC : Nat → ClassId) (dI : Nat → Nat → Nat) (cI cJ : ClassId) (rg qrd qrv : Nat) (sz : Nat) (x : Int32) (v : Int64) (rn : Nat) (rd : Nat → Int32) (rv : Nat → Int64) (hrn : rn < 20) : Met l yD_add wD_add ({ frames := 0, cells := 0, slots := 0, locals := 0 }) (va_Pc [.ref rg, .int x, .long v] (fun U => U.heap.size = sz ∧ va_P (dC, dI) vwCl [(rg, .inr (2, [.ref qrd, .ref qrv, .int (nI rn)])), (qrd, .inl (cI, 20, .inl rd)), (qrv, .inl (cJ, 20, .inr (.inl rv)))] U.heap ∧ va_K (dC, dI) vwCl [(cI, .int), (cJ, .long)] U ∧ va_D (fun _ => True) [(rg, .inr (2, [.ref qrd, .ref qrv, .int (nI rn)])), (qrd, .inl (cI, 20, .inl rd)), (qrv, .inl (cJ, 20, .inr (.inl rv)))])) (va_Qi (fun res_ (_ : Unit) => res_ = nI (rn + 1)) (fun _ t => va_P (dC, dI) vwCl [(rg, .inr (2, [.ref qrd, .ref qrv, .int (nI (rn + 1))])), (qrd, .inl (cI, 20, .inl (upd rd rn x))), (qrv, .inl (cJ, 20, .inr (.inl (vp_updL rv rn v))))] t.heap ∧ va_K (dC, dI) vwCl [(cI, .int), (cJ, .long)] t ∧ va_D (va_A [(rg, .inr (2, [.ref qrd, .ref qrv, .int (nI rn)])), (qrd, .inl (cI, 20, .inl rd)), (qrv, .inl (cJ, 20, .inr (.inl rv)))] sz) [(rg, .inr (2, [.ref qrd, .ref qrv, .int (nI (rn + 1))])), (qrd, .inl (cI, 20, .inl (upd rd rn x))), (qrv, .inl (cJ, 20, .inr (.inl (vp_updL rv rn v))))]) (va_A [(rg, .inr (2, [.ref qrd, .ref qrv, .int (nI rn)])), (qrd, .inl (cI, 20, .inl rd)), (qrv, .inl (cJ, 20, .inr (.inl rv)))] sz)) 0 0 (va_A [(rg, .inr (2, [.ref qrd, .ref qrv, .int (nI rn)])), (qrd, .inl (cI, 20, .inl rd)), (qrv, .inl (cJ, 20, .inr (.inl rv)))] sz) := by
  refine Met.ofW (cc := bD_add) (maxL := 4) (ret := (some .int)) (by decide) rfl ?_
  intro p e s m args below meth c s₁ B hml hv
  obtain ⟨rfl, hsz, hP, hK, hD0⟩ := hv
  have hx := B.exec
  have hb := B.bytes
  have hr := B.returns
  have hts := atoms_spec (ws := wD_add) B.pre
  have hown : s.vm.findClass R_D = some m.cls := findClass_of_methodNamed B.named
  have htw : ∀ w ∈ WA, w.before _ s = true := fun w h => hts w (List.mem_cons_of_mem _ h)
  clear hts
  have hlocks := B.notSynchronized
  subst hsz
  have hD := hD0.self (sz := s.heap.size)
  generalize hAe : va_A [(rg, .inr (2, [.ref qrd, .ref qrv, .int (nI rn)])), (qrd, .inl (cI, 20, .inl rd)), (qrv, .inl (cJ, 20, .inr (.inl rv)))] s.heap.size = A at hD ⊢
  have hA : ∀ q : Nat, s.heap.size ≤ q → A q := fun q h => by rw [← hAe]; exact Or.inr h
  clear hAe hD0
  have hS : va_S A s.heap s.heap [] := va_S.rf
  have hP : va_P (dC, dI) vwCl [(rg, .inr (2, [.ref qrd, .ref qrv, .int (nI rn)])), (qrd, .inl (cI, 20, .inl rd)), (qrv, .inl (cJ, 20, .inr (.inl rv)))] s.heap := hP
  have hl := lv_entry ([.ref rg, .int x, .long v]) (n := 4) (Nat.le_of_ble_eq_true rfl)
  rw [lg_entry_eq]
  generalize (lg_sl ([.ref rg, .int x, .long v]) ++ List.replicate (4 - (lg_sl ([.ref rg, .int x, .long v])).length) Slot.unset).toArray = ls at hl ⊢
  have hl : lv_has ls 4 [(0, .ref rg), (1, .int x), (2, .long v)] := hl
  refine lv_aload_n hx hb dD_add_0 rfl (lv_at hl 0 rfl) ?_
  refine va_get (D := (dC, dI)) (ci := 2) (v := .ref qrd) (C := R_D) (T := T_D) (N := 3) hx hb htw in_D hown hK hP 0 rfl rfl 0 (by decide) (htw _ m_94) (fun _ h9 => h9) rfl dD_add_1 ?_
  refine lv_aload_n hx hb dD_add_4 rfl (lv_at hl 0 rfl) ?_
  refine va_get (D := (dC, dI)) (ci := 2) (v := .int (nI rn)) (C := R_D) (T := T_D) (N := 3) hx hb htw in_D hown hK hP 0 rfl rfl 2 (by decide) (htw _ m_98) (fun _ h9 => h9) rfl dD_add_5 ?_
  refine lv_iload_n hx hb dD_add_8 rfl (lv_at hl 1 rfl) ?_
  refine xa_iast hx hb hK hP hD hS 1 0 rfl rfl (i := rn) (by omega) (by decide) dD_add_9 (fun H locs hP hD hS => ?_)
  have hP : va_P (dC, dI) vwCl [(rg, .inr (2, [.ref qrd, .ref qrv, .int (nI rn)])), (qrd, .inl (cI, 20, .inl (upd rd rn x))), (qrv, .inl (cJ, 20, .inr (.inl rv)))] H := hP
  have hD : va_D A [(rg, .inr (2, [.ref qrd, .ref qrv, .int (nI rn)])), (qrd, .inl (cI, 20, .inl (upd rd rn x))), (qrv, .inl (cJ, 20, .inr (.inl rv)))] := hD
  refine lv_aload_n hx hb dD_add_10 rfl (lv_at hl 0 rfl) ?_
  refine va_get (D := (dC, dI)) (ci := 2) (v := .ref qrv) (C := R_D) (T := T_D) (N := 3) hx hb htw in_D hown hK hP 0 rfl rfl 1 (by decide) (htw _ m_96) (fun _ h9 => h9) rfl dD_add_11 ?_
  refine lv_aload_n hx hb dD_add_14 rfl (lv_at hl 0 rfl) ?_
  refine va_get (D := (dC, dI)) (ci := 2) (v := .int (nI rn)) (C := R_D) (T := T_D) (N := 3) hx hb htw in_D hown hK hP 0 rfl rfl 2 (by decide) (htw _ m_98) (fun _ h9 => h9) rfl dD_add_15 ?_
  refine lv_lload_n hx hb dD_add_18 rfl (lv_at hl 2 rfl) ?_
  refine xa_last hx hb hK hP hD hS 2 1 rfl rfl (i := rn) (by omega) (by decide) dD_add_19 (fun H locs hP hD hS => ?_)
  have hP : va_P (dC, dI) vwCl [(rg, .inr (2, [.ref qrd, .ref qrv, .int (nI rn)])), (qrd, .inl (cI, 20, .inl (upd rd rn x))), (qrv, .inl (cJ, 20, .inr (.inl (vp_updL rv rn v))))] H := hP
  have hD : va_D A [(rg, .inr (2, [.ref qrd, .ref qrv, .int (nI rn)])), (qrd, .inl (cI, 20, .inl (upd rd rn x))), (qrv, .inl (cJ, 20, .inr (.inl (vp_updL rv rn v))))] := hD
  refine lv_aload_n hx hb dD_add_20 rfl (lv_at hl 0 rfl) ?_
  refine lv_dup hx hb dD_add_21 rfl ?_
  refine va_get (D := (dC, dI)) (ci := 2) (v := .int (nI rn)) (C := R_D) (T := T_D) (N := 3) hx hb htw in_D hown hK hP 0 rfl rfl 2 (by decide) (htw _ m_98) (fun _ h9 => h9) rfl dD_add_22 ?_
  refine lv_iconst (v := nI 1) hx hb dD_add_25 (by decide) ?_
  refine lv_iadd hx hb dD_add_26 ?_
  refine lv_topi (fun kv ekv => ?_)
  obtain rfl : kv = nI (rn + 1) := by rw [ekv]; exact nI_add _ _
  refine va_put (D := (dC, dI)) (ci := 2) (v := .int (nI (rn + 1))) (ty := .int) (C := R_D) (T := T_D) (N := 3) hx hb htw in_D ty_D tok_D nnm_D hown hK hP hD hS 0 rfl rfl 2 (by decide) (htw _ m_98) (fun _ h9 => h9) rfl (by decide +kernel) rfl rfl (Nat.le_of_ble_eq_true rfl) dD_add_27 (fun H locs hP hD hS => ?_)
  have hP : va_P (dC, dI) vwCl [(rg, .inr (2, [.ref qrd, .ref qrv, .int (nI (rn + 1))])), (qrd, .inl (cI, 20, .inl (upd rd rn x))), (qrv, .inl (cJ, 20, .inr (.inl (vp_updL rv rn v))))] H := hP
  have hD : va_D A [(rg, .inr (2, [.ref qrd, .ref qrv, .int (nI (rn + 1))])), (qrd, .inl (cI, 20, .inl (upd rd rn x))), (qrv, .inl (cJ, 20, .inr (.inl (vp_updL rv rn v))))] := hD
  refine lv_aload_n hx hb dD_add_30 rfl (lv_at hl 0 rfl) ?_
  refine va_get (D := (dC, dI)) (ci := 2) (v := .int (nI (rn + 1))) (C := R_D) (T := T_D) (N := 3) hx hb htw in_D hown hK hP 0 rfl rfl 2 (by decide) (htw _ m_98) (fun _ h9 => h9) rfl dD_add_31 ?_
  have hP : va_P (dC, dI) vwCl [(rg, .inr (2, [.ref qrd, .ref qrv, .int (nI (rn + 1))])), (qrd, .inl (cI, 20, .inl (upd rd rn x))), (qrv, .inl (cJ, 20, .inr (.inl (vp_updL rv rn v))))] H := by first | exact hP | simpa only [] using hP
  have hD : va_D A [(rg, .inr (2, [.ref qrd, .ref qrv, .int (nI (rn + 1))])), (qrd, .inl (cI, 20, .inl (upd rd rn x))), (qrv, .inl (cJ, 20, .inr (.inl (vp_updL rv rn v))))] := by first | exact hD | simpa only [] using hD
  exact W.iret (v := nI (rn + 1)) hx hb hr (fun t ht hW => ⟨⟨nI (rn + 1), (), rfl, rfl, by rw [ht]; exact hP, va_K.moved hW.alike hK, hD⟩, hS.F ht⟩) hS.2.2 dD_add_34
set_option maxHeartbeats 4000000 in
set_option maxRecDepth 100000 in
theorem kD_tooGreat (l : Launch) (dC : Nat → ClassId) (dI : Nat → Nat → Nat) (cI cJ : ClassId) (sz : Nat) (v : Int64) : Met l yD_tooGreat wD_tooGreat ({ frames := 0, cells := 0, slots := 0, locals := 0 }) (va_Pc [.long v] (fun U => U.heap.size = sz ∧ va_P (dC, dI) vwCl [] U.heap ∧ va_K (dC, dI) vwCl [(cI, .int), (cJ, .long)] U ∧ va_D (fun _ => True) [])) (va_Qi (fun res_ (_ : Unit) => res_ = kb (100000000 < v)) (fun _ t => va_P (dC, dI) vwCl [] t.heap ∧ va_K (dC, dI) vwCl [(cI, .int), (cJ, .long)] t ∧ va_D (va_A [] sz) []) (va_A [] sz)) 0 0 (va_A [] sz) := by
  refine Met.ofW (cc := bD_tooGreat) (maxL := 2) (ret := (some .boolean)) (by decide) rfl ?_
  intro p e s m args below meth c s₁ B hml hv
  obtain ⟨rfl, hsz, hP, hK, hD0⟩ := hv
  have hx := B.exec
  have hb := B.bytes
  have hr := B.returns
  have hts := atoms_spec (ws := wD_tooGreat) B.pre
  have hown : s.vm.findClass R_D = some m.cls := findClass_of_methodNamed B.named
  have htw : ∀ w ∈ WA, w.before _ s = true := fun w h => hts w (List.mem_cons_of_mem _ h)
  clear hts
  have hlocks := B.notSynchronized
  subst hsz
  have hD := hD0.self (sz := s.heap.size)
  generalize hAe : va_A [] s.heap.size = A at hD ⊢
  have hA : ∀ q : Nat, s.heap.size ≤ q → A q := fun q h => by rw [← hAe]; exact Or.inr h
  clear hAe hD0
  have hS : va_S A s.heap s.heap [] := va_S.rf
  have hP : va_P (dC, dI) vwCl [] s.heap := hP
  have hl := lv_entry ([.long v]) (n := 2) (Nat.le_of_ble_eq_true rfl)
  rw [lg_entry_eq]
  generalize (lg_sl ([.long v]) ++ List.replicate (2 - (lg_sl ([.long v])).length) Slot.unset).toArray = ls at hl ⊢
  have hl : lv_has ls 2 [(0, .long v)] := hl
  refine lv_lload_n hx hb dD_tooGreat_0 rfl (lv_at hl 0 rfl) ?_
  refine lv_ldc2 (v := 100000000) hx hb hown (htw _ m_326) dD_tooGreat_1 ?_
  refine W.lcmp hx hb dD_tooGreat_4 ?_
  refine lv_if_le (tgt := 12) hx hb dD_tooGreat_5 (by decide) (fun hc5 => ?_) (fun hc5 => ?_)
  · -- 5 taken
    rw [lg_cmp_le] at hc5
    have hret := kb_f (P := 100000000 < v) (fun h => by have a0_ := hc5; have a1_ := h; simp only [Int64.lt_iff_toInt_lt, Int64.le_iff_toInt_le] at a0_ a1_; omega)
    refine lv_iconst (v := nI 0) hx hb dD_tooGreat_12 (by decide) ?_
    have hP : va_P (dC, dI) vwCl [] s.heap := by first | exact hP | simpa only [] using hP
    have hD : va_D A [] := by first | exact hD | simpa only [] using hD
    exact W.zret (v := nI 0) hx hb hr (by decide) (fun t ht hW => ⟨⟨nI 0, (), rfl, hret, by rw [ht]; exact hP, va_K.moved hW.alike hK, hD⟩, hS.F ht⟩) hS.2.2 dD_tooGreat_13
  · -- 5 not taken
    rw [lg_cmp_le] at hc5
    have hret := kb_t (P := 100000000 < v) (by rw [Int64.lt_iff_toInt_lt]; have a0_ := hc5; simp only [Int64.lt_iff_toInt_lt, Int64.le_iff_toInt_le] at a0_; omega)
    refine lv_iconst (v := nI 1) hx hb dD_tooGreat_8 (by decide) ?_
    refine lv_goto (tgt := 13) hx hb dD_tooGreat_9 (by decide) ?_
    have hP : va_P (dC, dI) vwCl [] s.heap := by first | exact hP | simpa only [] using hP
    have hD : va_D A [] := by first | exact hD | simpa only [] using hD
    exact W.zret (v := nI 1) hx hb hr (by decide) (fun t ht hW => ⟨⟨nI 1, (), rfl, hret, by rw [ht]; exact hP, va_K.moved hW.alike hK, hD⟩, hS.F ht⟩) hS.2.2 dD_tooGreat_13
set_option maxHeartbeats 4000000 in
set_option maxRecDepth 100000 in
theorem kD_quotient (l : Launch) (dC : Nat → ClassId) (dI : Nat → Nat → Nat) (cI cJ : ClassId) (sz : Nat) (u : Int64) (v : Int64) : Met l yD_quotient wD_quotient ({ frames := 0, cells := 0, slots := 0, locals := 0 }) (va_Pc [.long u, .long v] (fun U => U.heap.size = sz ∧ va_P (dC, dI) vwCl [] U.heap ∧ va_K (dC, dI) vwCl [(cI, .int), (cJ, .long)] U ∧ va_D (fun _ => True) [])) (va_Ql (fun res_ (_ : Unit) => res_ = k_quo u v) (fun _ t => va_P (dC, dI) vwCl [] t.heap ∧ va_K (dC, dI) vwCl [(cI, .int), (cJ, .long)] t ∧ va_D (va_A [] sz) []) (va_A [] sz)) 0 0 (va_A [] sz) := by
  refine Met.ofW (cc := bD_quotient) (maxL := 4) (ret := (some .long)) (by decide) rfl ?_
  intro p e s m args below meth c s₁ B hml hv
  obtain ⟨rfl, hsz, hP, hK, hD0⟩ := hv
  have hx := B.exec
  have hb := B.bytes
  have hr := B.returns
  have hts := atoms_spec (ws := wD_quotient) B.pre
  have hown : s.vm.findClass R_D = some m.cls := findClass_of_methodNamed B.named
  have htw : ∀ w ∈ WA, w.before _ s = true := fun w h => hts w (List.mem_cons_of_mem _ h)
  clear hts
  have hlocks := B.notSynchronized
  subst hsz
  have hD := hD0.self (sz := s.heap.size)
  generalize hAe : va_A [] s.heap.size = A at hD ⊢
  have hA : ∀ q : Nat, s.heap.size ≤ q → A q := fun q h => by rw [← hAe]; exact Or.inr h
  clear hAe hD0
  have hS : va_S A s.heap s.heap [] := va_S.rf
  have hP : va_P (dC, dI) vwCl [] s.heap := hP
  have hl := lv_entry ([.long u, .long v]) (n := 4) (Nat.le_of_ble_eq_true rfl)
  rw [lg_entry_eq]
  generalize (lg_sl ([.long u, .long v]) ++ List.replicate (4 - (lg_sl ([.long u, .long v])).length) Slot.unset).toArray = ls at hl ⊢
  have hl : lv_has ls 4 [(0, .long u), (2, .long v)] := hl
  refine lv_lload_n hx hb dD_quotient_0 rfl (lv_at hl 1 rfl) ?_
  refine lv_lconst (v := 0) hx hb dD_quotient_1 (by decide) ?_
  refine W.lcmp hx hb dD_quotient_2 ?_
  refine lv_if_ne (tgt := 12) hx hb dD_quotient_3 (by decide) (fun hc3 => ?_) (fun hc3 => ?_)
  · -- 3 taken
    rw [lg_cmp_eq] at hc3
    have hret : u / v = k_quo u v := (if_neg hc3).symm
    refine lv_lload_n hx hb dD_quotient_12 rfl (lv_at hl 0 rfl) ?_
    refine lv_lload_n hx hb dD_quotient_13 rfl (lv_at hl 1 rfl) ?_
    refine lv_ldiv hx hb dD_quotient_14 hc3 ?_
    have hP : va_P (dC, dI) vwCl [] s.heap := by first | exact hP | simpa only [] using hP
    have hD : va_D A [] := by first | exact hD | simpa only [] using hD
    exact W.lret (v := u / v) hx hb hr (fun t ht hW => ⟨⟨u / v, (), rfl, hret, by rw [ht]; exact hP, va_K.moved hW.alike hK, hD⟩, hS.F ht⟩) hS.2.2 dD_quotient_15
  · -- 3 not taken
    rw [lg_cmp_eq] at hc3
    have hret : (-1 : Int64) = k_quo u v := (if_pos hc3).symm
    refine lv_ldc2 (v := (-1)) hx hb hown (htw _ m_322) dD_quotient_6 ?_
    refine lv_goto (tgt := 15) hx hb dD_quotient_9 (by decide) ?_
    have hP : va_P (dC, dI) vwCl [] s.heap := by first | exact hP | simpa only [] using hP
    have hD : va_D A [] := by first | exact hD | simpa only [] using hD
    exact W.lret (v := (-1)) hx hb hr (fun t ht hW => ⟨⟨(-1), (), rfl, hret, by rw [ht]; exact hP, va_K.moved hW.alike hK, hD⟩, hS.F ht⟩) hS.2.2 dD_quotient_15
set_option maxHeartbeats 4000000 in
set_option maxRecDepth 100000 in
theorem kD_foretellByLastThree (l : Launch) (dC : Nat → ClassId) (dI : Nat → Nat → Nat) (cI cJ : ClassId) (rg qrd qrv : Nat) (sz : Nat) (rn : Nat) (rv : Nat → Int64) (hrn : rn ≤ 20) : Met l yD_foretellByLastThree wD_foretellByLastThree ({ frames := 1, cells := 0, slots := 0, locals := 23 }) (va_Pc [.ref rg] (fun U => U.heap.size = sz ∧ va_P (dC, dI) vwCl [(rg, .inr (2, [.ref qrd, .ref qrv, .int (nI rn)])), (qrv, .inl (cJ, 20, .inr (.inl rv)))] U.heap ∧ va_K (dC, dI) vwCl [(cI, .int), (cJ, .long)] U ∧ va_D (fun _ => True) [(rg, .inr (2, [.ref qrd, .ref qrv, .int (nI rn)])), (qrv, .inl (cJ, 20, .inr (.inl rv)))])) (va_Ql (fun res_ (_ : Unit) => res_ = k_f0 rv rn) (fun _ t => va_P (dC, dI) vwCl [(rg, .inr (2, [.ref qrd, .ref qrv, .int (nI rn)])), (qrv, .inl (cJ, 20, .inr (.inl rv)))] t.heap ∧ va_K (dC, dI) vwCl [(cI, .int), (cJ, .long)] t ∧ va_D (va_A [(rg, .inr (2, [.ref qrd, .ref qrv, .int (nI rn)])), (qrv, .inl (cJ, 20, .inr (.inl rv)))] sz) [(rg, .inr (2, [.ref qrd, .ref qrv, .int (nI rn)])), (qrv, .inl (cJ, 20, .inr (.inl rv)))]) (va_A [(rg, .inr (2, [.ref qrd, .ref qrv, .int (nI rn)])), (qrv, .inl (cJ, 20, .inr (.inl rv)))] sz)) 0 0 (va_A [(rg, .inr (2, [.ref qrd, .ref qrv, .int (nI rn)])), (qrv, .inl (cJ, 20, .inr (.inl rv)))] sz) := by
  refine Met.ofW (cc := bD_foretellByLastThree) (maxL := 7) (ret := (some .long)) (by decide) rfl ?_
  intro p e s m args below meth c s₁ B hml hv
  obtain ⟨rfl, hsz, hP, hK, hD0⟩ := hv
  have hx := B.exec
  have hb := B.bytes
  have hr := B.returns
  have hts := atoms_spec (ws := wD_foretellByLastThree) B.pre
  have hown : s.vm.findClass R_D = some m.cls := findClass_of_methodNamed B.named
  have htw : ∀ w ∈ WA, w.before _ s = true := fun w h => hts w (List.mem_cons_of_mem _ h)
  clear hts
  have hlocks := B.notSynchronized
  subst hsz
  have hD := hD0.self (sz := s.heap.size)
  generalize hAe : va_A [(rg, .inr (2, [.ref qrd, .ref qrv, .int (nI rn)])), (qrv, .inl (cJ, 20, .inr (.inl rv)))] s.heap.size = A at hD ⊢
  have hA : ∀ q : Nat, s.heap.size ≤ q → A q := fun q h => by rw [← hAe]; exact Or.inr h
  clear hAe hD0
  have hS : va_S A s.heap s.heap [] := va_S.rf
  have hP : va_P (dC, dI) vwCl [(rg, .inr (2, [.ref qrd, .ref qrv, .int (nI rn)])), (qrv, .inl (cJ, 20, .inr (.inl rv)))] s.heap := hP
  have hl := lv_entry ([.ref rg]) (n := 7) (Nat.le_of_ble_eq_true rfl)
  rw [lg_entry_eq]
  generalize (lg_sl ([.ref rg]) ++ List.replicate (7 - (lg_sl ([.ref rg])).length) Slot.unset).toArray = ls at hl ⊢
  have hl : lv_has ls 7 [(0, .ref rg)] := hl
  refine lv_aload_n hx hb dD_foretellByLastThree_0 rfl (lv_at hl 0 rfl) ?_
  refine va_get (D := (dC, dI)) (ci := 2) (v := .int (nI rn)) (C := R_D) (T := T_D) (N := 3) hx hb htw in_D hown hK hP 0 rfl rfl 2 (by decide) (htw _ m_98) (fun _ h9 => h9) rfl dD_foretellByLastThree_1 ?_
  refine lv_iconst (v := nI 3) hx hb dD_foretellByLastThree_4 (by decide) ?_
  refine lv_icmp_ge (tgt := 12) hx hb dD_foretellByLastThree_5 (by decide) (fun hc5 => ?_) (fun hc5 => ?_)
  · -- 5 taken
    rw [nI_leI (by omega) (by omega)] at hc5
    refine lv_aload_n hx hb dD_foretellByLastThree_12 rfl (lv_at hl 0 rfl) ?_
    refine va_get (D := (dC, dI)) (ci := 2) (v := .ref qrv) (C := R_D) (T := T_D) (N := 3) hx hb htw in_D hown hK hP 0 rfl rfl 1 (by decide) (htw _ m_96) (fun _ h9 => h9) rfl dD_foretellByLastThree_13 ?_
    refine lv_aload_n hx hb dD_foretellByLastThree_16 rfl (lv_at hl 0 rfl) ?_
    refine va_get (D := (dC, dI)) (ci := 2) (v := .int (nI rn)) (C := R_D) (T := T_D) (N := 3) hx hb htw in_D hown hK hP 0 rfl rfl 2 (by decide) (htw _ m_98) (fun _ h9 => h9) rfl dD_foretellByLastThree_17 ?_
    refine lv_iconst (v := nI 3) hx hb dD_foretellByLastThree_20 (by decide) ?_
    refine lv_isub hx hb dD_foretellByLastThree_21 ?_
    refine lv_topi (fun kv ekv => ?_)
    obtain rfl : kv = nI (rn - 3) := by rw [ekv]; exact pk_sub (by omega)
    refine xa_lald hx hb hK hP 1 1 rfl rfl (i := (rn - 3)) (by omega) (by decide) dD_foretellByLastThree_22 ?_
    refine lv_lstore_n (lv' := [(1, .long (rv (rn - 3))), (0, .ref rg)]) hx hb dD_foretellByLastThree_23 rfl hl (by decide) rfl (fun ls hl => ?_)
    refine lv_aload_n hx hb dD_foretellByLastThree_24 rfl (lv_at hl 1 rfl) ?_
    refine va_get (D := (dC, dI)) (ci := 2) (v := .ref qrv) (C := R_D) (T := T_D) (N := 3) hx hb htw in_D hown hK hP 0 rfl rfl 1 (by decide) (htw _ m_96) (fun _ h9 => h9) rfl dD_foretellByLastThree_25 ?_
    refine lv_aload_n hx hb dD_foretellByLastThree_28 rfl (lv_at hl 1 rfl) ?_
    refine va_get (D := (dC, dI)) (ci := 2) (v := .int (nI rn)) (C := R_D) (T := T_D) (N := 3) hx hb htw in_D hown hK hP 0 rfl rfl 2 (by decide) (htw _ m_98) (fun _ h9 => h9) rfl dD_foretellByLastThree_29 ?_
    refine lv_iconst (v := nI 2) hx hb dD_foretellByLastThree_32 (by decide) ?_
    refine lv_isub hx hb dD_foretellByLastThree_33 ?_
    refine lv_topi (fun kv ekv => ?_)
    obtain rfl : kv = nI (rn - 2) := by rw [ekv]; exact pk_sub (by omega)
    refine xa_lald hx hb hK hP 1 1 rfl rfl (i := (rn - 2)) (by omega) (by decide) dD_foretellByLastThree_34 ?_
    refine lv_lstore_n (lv' := [(3, .long (rv (rn - 2))), (1, .long (rv (rn - 3))), (0, .ref rg)]) hx hb dD_foretellByLastThree_35 rfl hl (by decide) rfl (fun ls hl => ?_)
    refine lv_aload_n hx hb dD_foretellByLastThree_36 rfl (lv_at hl 2 rfl) ?_
    refine va_get (D := (dC, dI)) (ci := 2) (v := .ref qrv) (C := R_D) (T := T_D) (N := 3) hx hb htw in_D hown hK hP 0 rfl rfl 1 (by decide) (htw _ m_96) (fun _ h9 => h9) rfl dD_foretellByLastThree_37 ?_
    refine lv_aload_n hx hb dD_foretellByLastThree_40 rfl (lv_at hl 2 rfl) ?_
    refine va_get (D := (dC, dI)) (ci := 2) (v := .int (nI rn)) (C := R_D) (T := T_D) (N := 3) hx hb htw in_D hown hK hP 0 rfl rfl 2 (by decide) (htw _ m_98) (fun _ h9 => h9) rfl dD_foretellByLastThree_41 ?_
    refine lv_iconst (v := nI 1) hx hb dD_foretellByLastThree_44 (by decide) ?_
    refine lv_isub hx hb dD_foretellByLastThree_45 ?_
    refine lv_topi (fun kv ekv => ?_)
    obtain rfl : kv = nI (rn - 1) := by rw [ekv]; exact pk_sub (by omega)
    refine xa_lald hx hb hK hP 1 1 rfl rfl (i := (rn - 1)) (by omega) (by decide) dD_foretellByLastThree_46 ?_
    refine lv_lstore (lv' := [(5, .long (rv (rn - 1))), (3, .long (rv (rn - 2))), (1, .long (rv (rn - 3))), (0, .ref rg)]) hx hb dD_foretellByLastThree_47 hl (by decide) rfl (fun ls hl => ?_)
    refine lv_lload_n hx hb dD_foretellByLastThree_49 rfl (lv_at hl 2 rfl) ?_
    have hPc := hP.sub (ws' := []) [] rfl
    have hDc := hD.sub (ws' := []) [] (by decide) rfl
    have hFc := va_free (wc := []) hD hS hA [] rfl
    refine va_calli (va_runS (As := [.long (rv (rn - 3))]) (rest := []) ⟨hx, hb, hml, hown, htw⟩ (kD_tooGreat l dC dI cI cJ s.heap.size (rv (rn - 3))) (va_cwS 1 htw (ws_good m_323 m_324 m_4 m_325) rfl rfl rfl (by decide +kernel) ⟨Nat.le_of_ble_eq_true rfl, Nat.le_of_ble_eq_true rfl⟩) ⟨fun a U g mk q => by obtain ⟨q0, q1, qP, qK, qD⟩ := q; exact ⟨q0, q1, qP, va_K.moved (u := U) (U := U.calling g mk a) (Vm.Alike.refl U.vm) qK, qD⟩, fun U hU hW => ⟨rfl, by rw [hU], by rw [hU]; exact hPc, va_K.moved hW.alike hK, hDc.weaken (fun _ _ _ _ => trivial)⟩⟩ rfl rfl hl.1 rfl (lv_room (Nat.le_of_ble_eq_true rfl)) dD_foretellByLastThree_50 ⟨Nat.le_of_ble_eq_true rfl, Nat.le_of_ble_eq_true rfl⟩) hS (fun q _ h => hFc q h) hFc (fun res_ u_ t H1 locs ht hvm hw hB hz1 hk1 hS => ?_)
    obtain ⟨hP1, hK1, hD1⟩ := hB
    rw [ht] at hP1
    obtain ⟨hP, hD⟩ := va_join (wr := [(rg, .inr (2, [.ref qrd, .ref qrv, .int (nI rn)])), (qrv, .inl (cJ, 20, .inr (.inl rv)))]) (w1 := []) hP hD [] [0, 1] rfl rfl (by decide) (by decide) hk1 hFc hP1 hD1
    generalize H1 = H at hP hS ⊢
    have hP : va_P (dC, dI) vwCl [(rg, .inr (2, [.ref qrd, .ref qrv, .int (nI rn)])), (qrv, .inl (cJ, 20, .inr (.inl rv)))] H := hP
    have hD : va_D A [(rg, .inr (2, [.ref qrd, .ref qrv, .int (nI rn)])), (qrv, .inl (cJ, 20, .inr (.inl rv)))] := hD
    clear hPc hDc hFc hP1 hD1 hK1 hk1 hz1 hvm ht
    obtain rfl : res_ = kb (100000000 < (rv (rn - 3))) := hw
    refine lv_if_ne (tgt := 71) hx hb dD_foretellByLastThree_53 (by decide) (fun hc53 => ?_) (fun hc53 => ?_)
    · -- 53 taken
      rw [kb_eq0] at hc53
      refine lv_ldc2 (v := (-1)) hx hb hown (htw _ m_322) dD_foretellByLastThree_71 ?_
      have hP : va_P (dC, dI) vwCl [(rg, .inr (2, [.ref qrd, .ref qrv, .int (nI rn)])), (qrv, .inl (cJ, 20, .inr (.inl rv)))] H := by first | exact hP | simpa only [] using hP
      have hD : va_D A [(rg, .inr (2, [.ref qrd, .ref qrv, .int (nI rn)])), (qrv, .inl (cJ, 20, .inr (.inl rv)))] := by first | exact hD | simpa only [] using hD
      exact W.lret (v := (-1)) hx hb hr (fun t ht hW => ⟨⟨(-1), (), rfl, by unfold k_f0; rw [if_neg (by omega), if_pos (by first | exact Or.inl (Classical.not_not.mp hc53) | exact Or.inr (Or.inl (Classical.not_not.mp hc60)) | exact Or.inr (Or.inr (Classical.not_not.mp hc68)))], by rw [ht]; exact hP, va_K.moved hW.alike hK, hD⟩, hS.F ht⟩) hS.2.2 dD_foretellByLastThree_74
    · -- 53 not taken
      rw [kb_eq0] at hc53
      refine lv_lload_n hx hb dD_foretellByLastThree_56 rfl (lv_at hl 1 rfl) ?_
      have hPc := hP.sub (ws' := []) [] rfl
      have hDc := hD.sub (ws' := []) [] (by decide) rfl
      have hFc := va_free (wc := []) hD hS hA [] rfl
      refine va_calli (va_runS (As := [.long (rv (rn - 2))]) (rest := []) ⟨hx, hb, hml, hown, htw⟩ (kD_tooGreat l dC dI cI cJ H.size (rv (rn - 2))) (va_cwS 1 htw (ws_good m_323 m_324 m_4 m_325) rfl rfl rfl (by decide +kernel) ⟨Nat.le_of_ble_eq_true rfl, Nat.le_of_ble_eq_true rfl⟩) ⟨fun a U g mk q => by obtain ⟨q0, q1, qP, qK, qD⟩ := q; exact ⟨q0, q1, qP, va_K.moved (u := U) (U := U.calling g mk a) (Vm.Alike.refl U.vm) qK, qD⟩, fun U hU hW => ⟨rfl, by rw [hU], by rw [hU]; exact hPc, va_K.moved hW.alike hK, hDc.weaken (fun _ _ _ _ => trivial)⟩⟩ rfl rfl hl.1 rfl (lv_room (Nat.le_of_ble_eq_true rfl)) dD_foretellByLastThree_57 ⟨Nat.le_of_ble_eq_true rfl, Nat.le_of_ble_eq_true rfl⟩) hS (fun q _ h => hFc q h) hFc (fun res_ u_ t H1 locs ht hvm hw hB hz1 hk1 hS => ?_)
      obtain ⟨hP1, hK1, hD1⟩ := hB
      rw [ht] at hP1
      obtain ⟨hP, hD⟩ := va_join (wr := [(rg, .inr (2, [.ref qrd, .ref qrv, .int (nI rn)])), (qrv, .inl (cJ, 20, .inr (.inl rv)))]) (w1 := []) hP hD [] [0, 1] rfl rfl (by decide) (by decide) hk1 hFc hP1 hD1
      generalize H1 = H at hP hS ⊢
      have hP : va_P (dC, dI) vwCl [(rg, .inr (2, [.ref qrd, .ref qrv, .int (nI rn)])), (qrv, .inl (cJ, 20, .inr (.inl rv)))] H := hP
      have hD : va_D A [(rg, .inr (2, [.ref qrd, .ref qrv, .int (nI rn)])), (qrv, .inl (cJ, 20, .inr (.inl rv)))] := hD
      clear hPc hDc hFc hP1 hD1 hK1 hk1 hz1 hvm ht
      obtain rfl : res_ = kb (100000000 < (rv (rn - 2))) := hw
      refine lv_if_ne (tgt := 71) hx hb dD_foretellByLastThree_60 (by decide) (fun hc60 => ?_) (fun hc60 => ?_)
      · -- 60 taken
        rw [kb_eq0] at hc60
        refine lv_ldc2 (v := (-1)) hx hb hown (htw _ m_322) dD_foretellByLastThree_71 ?_
        have hP : va_P (dC, dI) vwCl [(rg, .inr (2, [.ref qrd, .ref qrv, .int (nI rn)])), (qrv, .inl (cJ, 20, .inr (.inl rv)))] H := by first | exact hP | simpa only [] using hP
        have hD : va_D A [(rg, .inr (2, [.ref qrd, .ref qrv, .int (nI rn)])), (qrv, .inl (cJ, 20, .inr (.inl rv)))] := by first | exact hD | simpa only [] using hD
        exact W.lret (v := (-1)) hx hb hr (fun t ht hW => ⟨⟨(-1), (), rfl, by unfold k_f0; rw [if_neg (by omega), if_pos (by first | exact Or.inl (Classical.not_not.mp hc53) | exact Or.inr (Or.inl (Classical.not_not.mp hc60)) | exact Or.inr (Or.inr (Classical.not_not.mp hc68)))], by rw [ht]; exact hP, va_K.moved hW.alike hK, hD⟩, hS.F ht⟩) hS.2.2 dD_foretellByLastThree_74
      · -- 60 not taken
        rw [kb_eq0] at hc60
        refine lv_lload hx hb dD_foretellByLastThree_63 (lv_at hl 0 rfl) ?_
        have hPc := hP.sub (ws' := []) [] rfl
        have hDc := hD.sub (ws' := []) [] (by decide) rfl
        have hFc := va_free (wc := []) hD hS hA [] rfl
        refine va_calli (va_runS (As := [.long (rv (rn - 1))]) (rest := []) ⟨hx, hb, hml, hown, htw⟩ (kD_tooGreat l dC dI cI cJ H.size (rv (rn - 1))) (va_cwS 1 htw (ws_good m_323 m_324 m_4 m_325) rfl rfl rfl (by decide +kernel) ⟨Nat.le_of_ble_eq_true rfl, Nat.le_of_ble_eq_true rfl⟩) ⟨fun a U g mk q => by obtain ⟨q0, q1, qP, qK, qD⟩ := q; exact ⟨q0, q1, qP, va_K.moved (u := U) (U := U.calling g mk a) (Vm.Alike.refl U.vm) qK, qD⟩, fun U hU hW => ⟨rfl, by rw [hU], by rw [hU]; exact hPc, va_K.moved hW.alike hK, hDc.weaken (fun _ _ _ _ => trivial)⟩⟩ rfl rfl hl.1 rfl (lv_room (Nat.le_of_ble_eq_true rfl)) dD_foretellByLastThree_65 ⟨Nat.le_of_ble_eq_true rfl, Nat.le_of_ble_eq_true rfl⟩) hS (fun q _ h => hFc q h) hFc (fun res_ u_ t H1 locs ht hvm hw hB hz1 hk1 hS => ?_)
        obtain ⟨hP1, hK1, hD1⟩ := hB
        rw [ht] at hP1
        obtain ⟨hP, hD⟩ := va_join (wr := [(rg, .inr (2, [.ref qrd, .ref qrv, .int (nI rn)])), (qrv, .inl (cJ, 20, .inr (.inl rv)))]) (w1 := []) hP hD [] [0, 1] rfl rfl (by decide) (by decide) hk1 hFc hP1 hD1
        generalize H1 = H at hP hS ⊢
        have hP : va_P (dC, dI) vwCl [(rg, .inr (2, [.ref qrd, .ref qrv, .int (nI rn)])), (qrv, .inl (cJ, 20, .inr (.inl rv)))] H := hP
        have hD : va_D A [(rg, .inr (2, [.ref qrd, .ref qrv, .int (nI rn)])), (qrv, .inl (cJ, 20, .inr (.inl rv)))] := hD
        clear hPc hDc hFc hP1 hD1 hK1 hk1 hz1 hvm ht
        obtain rfl : res_ = kb (100000000 < (rv (rn - 1))) := hw
        refine lv_if_eq (tgt := 75) hx hb dD_foretellByLastThree_68 (by decide) (fun hc68 => ?_) (fun hc68 => ?_)
        · -- 68 taken
          rw [kb_eq0] at hc68
          refine lv_lload_n hx hb dD_foretellByLastThree_75 rfl (lv_at hl 1 rfl) ?_
          refine lv_lload_n hx hb dD_foretellByLastThree_76 rfl (lv_at hl 1 rfl) ?_
          refine lv_lmul hx hb dD_foretellByLastThree_77 ?_
          refine lv_lload_n hx hb dD_foretellByLastThree_78 rfl (lv_at hl 2 rfl) ?_
          refine lv_lload hx hb dD_foretellByLastThree_79 (lv_at hl 0 rfl) ?_
          refine lv_lmul hx hb dD_foretellByLastThree_81 ?_
          refine lv_lsub hx hb dD_foretellByLastThree_82 ?_
          refine lv_ldc2 (v := 2) hx hb hown (htw _ m_327) dD_foretellByLastThree_83 ?_
          refine lv_lload_n hx hb dD_foretellByLastThree_86 rfl (lv_at hl 1 rfl) ?_
          refine lv_lmul hx hb dD_foretellByLastThree_87 ?_
          refine lv_lload_n hx hb dD_foretellByLastThree_88 rfl (lv_at hl 2 rfl) ?_
          refine lv_lsub hx hb dD_foretellByLastThree_89 ?_
          refine lv_lload hx hb dD_foretellByLastThree_90 (lv_at hl 0 rfl) ?_
          refine lv_lsub hx hb dD_foretellByLastThree_92 ?_
          have hPc := hP.sub (ws' := []) [] rfl
          have hDc := hD.sub (ws' := []) [] (by decide) rfl
          have hFc := va_free (wc := []) hD hS hA [] rfl
          refine va_calll (va_runS (As := [.long (((rv (rn - 2)) * (rv (rn - 2))) - ((rv (rn - 3)) * (rv (rn - 1)))), .long (((2 * (rv (rn - 2))) - (rv (rn - 3))) - (rv (rn - 1)))]) (rest := []) ⟨hx, hb, hml, hown, htw⟩ (kD_quotient l dC dI cI cJ H.size (((rv (rn - 2)) * (rv (rn - 2))) - ((rv (rn - 3)) * (rv (rn - 1)))) (((2 * (rv (rn - 2))) - (rv (rn - 3))) - (rv (rn - 1)))) (va_cwS 2 htw (ws_good m_328 m_329 m_4 m_330) rfl rfl rfl (by decide +kernel) ⟨Nat.le_of_ble_eq_true rfl, Nat.le_of_ble_eq_true rfl⟩) ⟨fun a U g mk q => by obtain ⟨q0, q1, qP, qK, qD⟩ := q; exact ⟨q0, q1, qP, va_K.moved (u := U) (U := U.calling g mk a) (Vm.Alike.refl U.vm) qK, qD⟩, fun U hU hW => ⟨rfl, by rw [hU], by rw [hU]; exact hPc, va_K.moved hW.alike hK, hDc.weaken (fun _ _ _ _ => trivial)⟩⟩ rfl rfl hl.1 rfl (lv_room (Nat.le_of_ble_eq_true rfl)) dD_foretellByLastThree_93 ⟨Nat.le_of_ble_eq_true rfl, Nat.le_of_ble_eq_true rfl⟩) hS (fun q _ h => hFc q h) hFc (fun res_ u_ t H1 locs ht hvm hw hB hz1 hk1 hS => ?_)
          obtain ⟨hP1, hK1, hD1⟩ := hB
          rw [ht] at hP1
          obtain ⟨hP, hD⟩ := va_join (wr := [(rg, .inr (2, [.ref qrd, .ref qrv, .int (nI rn)])), (qrv, .inl (cJ, 20, .inr (.inl rv)))]) (w1 := []) hP hD [] [0, 1] rfl rfl (by decide) (by decide) hk1 hFc hP1 hD1
          generalize H1 = H at hP hS ⊢
          have hP : va_P (dC, dI) vwCl [(rg, .inr (2, [.ref qrd, .ref qrv, .int (nI rn)])), (qrv, .inl (cJ, 20, .inr (.inl rv)))] H := hP
          have hD : va_D A [(rg, .inr (2, [.ref qrd, .ref qrv, .int (nI rn)])), (qrv, .inl (cJ, 20, .inr (.inl rv)))] := hD
          clear hPc hDc hFc hP1 hD1 hK1 hk1 hz1 hvm ht
          obtain rfl : res_ = k_quo (((rv (rn - 2)) * (rv (rn - 2))) - ((rv (rn - 3)) * (rv (rn - 1)))) (((2 * (rv (rn - 2))) - (rv (rn - 3))) - (rv (rn - 1))) := hw
          have hP : va_P (dC, dI) vwCl [(rg, .inr (2, [.ref qrd, .ref qrv, .int (nI rn)])), (qrv, .inl (cJ, 20, .inr (.inl rv)))] H := by first | exact hP | simpa only [] using hP
          have hD : va_D A [(rg, .inr (2, [.ref qrd, .ref qrv, .int (nI rn)])), (qrv, .inl (cJ, 20, .inr (.inl rv)))] := by first | exact hD | simpa only [] using hD
          exact W.lret (v := k_quo (((rv (rn - 2)) * (rv (rn - 2))) - ((rv (rn - 3)) * (rv (rn - 1)))) (((2 * (rv (rn - 2))) - (rv (rn - 3))) - (rv (rn - 1)))) hx hb hr (fun t ht hW => ⟨⟨k_quo (((rv (rn - 2)) * (rv (rn - 2))) - ((rv (rn - 3)) * (rv (rn - 1)))) (((2 * (rv (rn - 2))) - (rv (rn - 3))) - (rv (rn - 1))), (), rfl, by unfold k_f0; rw [if_neg (by omega), if_neg (fun h => h.elim hc53 (fun h => h.elim hc60 hc68))], by rw [ht]; exact hP, va_K.moved hW.alike hK, hD⟩, hS.F ht⟩) hS.2.2 dD_foretellByLastThree_96
        · -- 68 not taken
          rw [kb_eq0] at hc68
          refine lv_ldc2 (v := (-1)) hx hb hown (htw _ m_322) dD_foretellByLastThree_71 ?_
          have hP : va_P (dC, dI) vwCl [(rg, .inr (2, [.ref qrd, .ref qrv, .int (nI rn)])), (qrv, .inl (cJ, 20, .inr (.inl rv)))] H := by first | exact hP | simpa only [] using hP
          have hD : va_D A [(rg, .inr (2, [.ref qrd, .ref qrv, .int (nI rn)])), (qrv, .inl (cJ, 20, .inr (.inl rv)))] := by first | exact hD | simpa only [] using hD
          exact W.lret (v := (-1)) hx hb hr (fun t ht hW => ⟨⟨(-1), (), rfl, by unfold k_f0; rw [if_neg (by omega), if_pos (by first | exact Or.inl (Classical.not_not.mp hc53) | exact Or.inr (Or.inl (Classical.not_not.mp hc60)) | exact Or.inr (Or.inr (Classical.not_not.mp hc68)))], by rw [ht]; exact hP, va_K.moved hW.alike hK, hD⟩, hS.F ht⟩) hS.2.2 dD_foretellByLastThree_74
  · -- 5 not taken
    rw [nI_leI (by omega) (by omega)] at hc5
    refine lv_ldc2 (v := (-1)) hx hb hown (htw _ m_322) dD_foretellByLastThree_8 ?_
    have hP : va_P (dC, dI) vwCl [(rg, .inr (2, [.ref qrd, .ref qrv, .int (nI rn)])), (qrv, .inl (cJ, 20, .inr (.inl rv)))] s.heap := by first | exact hP | simpa only [] using hP
    have hD : va_D A [(rg, .inr (2, [.ref qrd, .ref qrv, .int (nI rn)])), (qrv, .inl (cJ, 20, .inr (.inl rv)))] := by first | exact hD | simpa only [] using hD
    exact W.lret (v := (-1)) hx hb hr (fun t ht hW => ⟨⟨(-1), (), rfl, by unfold k_f0; rw [if_pos (by omega)], by rw [ht]; exact hP, va_K.moved hW.alike hK, hD⟩, hS.F ht⟩) hS.2.2 dD_foretellByLastThree_11
set_option maxHeartbeats 4000000 in
set_option maxRecDepth 100000 in
theorem kD_foretellByLastTwo (l : Launch) (dC : Nat → ClassId) (dI : Nat → Nat → Nat) (cI cJ : ClassId) (rg qrd qrv : Nat) (sz : Nat) (rn : Nat) (rd : Nat → Int32) (rv : Nat → Int64) (hrn : rn ≤ 20) : Met l yD_foretellByLastTwo wD_foretellByLastTwo ({ frames := 1, cells := 0, slots := 0, locals := 23 }) (va_Pc [.ref rg] (fun U => U.heap.size = sz ∧ va_P (dC, dI) vwCl [(rg, .inr (2, [.ref qrd, .ref qrv, .int (nI rn)])), (qrd, .inl (cI, 20, .inl rd)), (qrv, .inl (cJ, 20, .inr (.inl rv)))] U.heap ∧ va_K (dC, dI) vwCl [(cI, .int), (cJ, .long)] U ∧ va_D (fun _ => True) [(rg, .inr (2, [.ref qrd, .ref qrv, .int (nI rn)])), (qrd, .inl (cI, 20, .inl rd)), (qrv, .inl (cJ, 20, .inr (.inl rv)))])) (va_Ql (fun res_ (_ : Unit) => res_ = k_f1 rd rv rn) (fun _ t => va_P (dC, dI) vwCl [(rg, .inr (2, [.ref qrd, .ref qrv, .int (nI rn)])), (qrd, .inl (cI, 20, .inl rd)), (qrv, .inl (cJ, 20, .inr (.inl rv)))] t.heap ∧ va_K (dC, dI) vwCl [(cI, .int), (cJ, .long)] t ∧ va_D (va_A [(rg, .inr (2, [.ref qrd, .ref qrv, .int (nI rn)])), (qrd, .inl (cI, 20, .inl rd)), (qrv, .inl (cJ, 20, .inr (.inl rv)))] sz) [(rg, .inr (2, [.ref qrd, .ref qrv, .int (nI rn)])), (qrd, .inl (cI, 20, .inl rd)), (qrv, .inl (cJ, 20, .inr (.inl rv)))]) (va_A [(rg, .inr (2, [.ref qrd, .ref qrv, .int (nI rn)])), (qrd, .inl (cI, 20, .inl rd)), (qrv, .inl (cJ, 20, .inr (.inl rv)))] sz)) 0 0 (va_A [(rg, .inr (2, [.ref qrd, .ref qrv, .int (nI rn)])), (qrd, .inl (cI, 20, .inl rd)), (qrv, .inl (cJ, 20, .inr (.inl rv)))] sz) := by
  refine Met.ofW (cc := bD_foretellByLastTwo) (maxL := 9) (ret := (some .long)) (by decide) rfl ?_
  intro p e s m args below meth c s₁ B hml hv
  obtain ⟨rfl, hsz, hP, hK, hD0⟩ := hv
  have hx := B.exec
  have hb := B.bytes
  have hr := B.returns
  have hts := atoms_spec (ws := wD_foretellByLastTwo) B.pre
  have hown : s.vm.findClass R_D = some m.cls := findClass_of_methodNamed B.named
  have htw : ∀ w ∈ WA, w.before _ s = true := fun w h => hts w (List.mem_cons_of_mem _ h)
  clear hts
  have hlocks := B.notSynchronized
  subst hsz
  have hD := hD0.self (sz := s.heap.size)
  generalize hAe : va_A [(rg, .inr (2, [.ref qrd, .ref qrv, .int (nI rn)])), (qrd, .inl (cI, 20, .inl rd)), (qrv, .inl (cJ, 20, .inr (.inl rv)))] s.heap.size = A at hD ⊢
  have hA : ∀ q : Nat, s.heap.size ≤ q → A q := fun q h => by rw [← hAe]; exact Or.inr h
  clear hAe hD0
  have hS : va_S A s.heap s.heap [] := va_S.rf
  have hP : va_P (dC, dI) vwCl [(rg, .inr (2, [.ref qrd, .ref qrv, .int (nI rn)])), (qrd, .inl (cI, 20, .inl rd)), (qrv, .inl (cJ, 20, .inr (.inl rv)))] s.heap := hP
  have hl := lv_entry ([.ref rg]) (n := 9) (Nat.le_of_ble_eq_true rfl)
  rw [lg_entry_eq]
  generalize (lg_sl ([.ref rg]) ++ List.replicate (9 - (lg_sl ([.ref rg])).length) Slot.unset).toArray = ls at hl ⊢
  have hl : lv_has ls 9 [(0, .ref rg)] := hl
  refine lv_aload_n hx hb dD_foretellByLastTwo_0 rfl (lv_at hl 0 rfl) ?_
  refine va_get (D := (dC, dI)) (ci := 2) (v := .int (nI rn)) (C := R_D) (T := T_D) (N := 3) hx hb htw in_D hown hK hP 0 rfl rfl 2 (by decide) (htw _ m_98) (fun _ h9 => h9) rfl dD_foretellByLastTwo_1 ?_
  refine lv_iconst (v := nI 2) hx hb dD_foretellByLastTwo_4 (by decide) ?_
  refine lv_icmp_ge (tgt := 12) hx hb dD_foretellByLastTwo_5 (by decide) (fun hc5 => ?_) (fun hc5 => ?_)
  · -- 5 taken
    rw [nI_leI (by omega) (by omega)] at hc5
    refine lv_aload_n hx hb dD_foretellByLastTwo_12 rfl (lv_at hl 0 rfl) ?_
    refine va_get (D := (dC, dI)) (ci := 2) (v := .ref qrv) (C := R_D) (T := T_D) (N := 3) hx hb htw in_D hown hK hP 0 rfl rfl 1 (by decide) (htw _ m_96) (fun _ h9 => h9) rfl dD_foretellByLastTwo_13 ?_
    refine lv_aload_n hx hb dD_foretellByLastTwo_16 rfl (lv_at hl 0 rfl) ?_
    refine va_get (D := (dC, dI)) (ci := 2) (v := .int (nI rn)) (C := R_D) (T := T_D) (N := 3) hx hb htw in_D hown hK hP 0 rfl rfl 2 (by decide) (htw _ m_98) (fun _ h9 => h9) rfl dD_foretellByLastTwo_17 ?_
    refine lv_iconst (v := nI 2) hx hb dD_foretellByLastTwo_20 (by decide) ?_
    refine lv_isub hx hb dD_foretellByLastTwo_21 ?_
    refine lv_topi (fun kv ekv => ?_)
    obtain rfl : kv = nI (rn - 2) := by rw [ekv]; exact pk_sub (by omega)
    refine xa_lald hx hb hK hP 2 1 rfl rfl (i := (rn - 2)) (by omega) (by decide) dD_foretellByLastTwo_22 ?_
    refine lv_lstore_n (lv' := [(1, .long (rv (rn - 2))), (0, .ref rg)]) hx hb dD_foretellByLastTwo_23 rfl hl (by decide) rfl (fun ls hl => ?_)
    refine lv_aload_n hx hb dD_foretellByLastTwo_24 rfl (lv_at hl 1 rfl) ?_
    refine va_get (D := (dC, dI)) (ci := 2) (v := .ref qrv) (C := R_D) (T := T_D) (N := 3) hx hb htw in_D hown hK hP 0 rfl rfl 1 (by decide) (htw _ m_96) (fun _ h9 => h9) rfl dD_foretellByLastTwo_25 ?_
    refine lv_aload_n hx hb dD_foretellByLastTwo_28 rfl (lv_at hl 1 rfl) ?_
    refine va_get (D := (dC, dI)) (ci := 2) (v := .int (nI rn)) (C := R_D) (T := T_D) (N := 3) hx hb htw in_D hown hK hP 0 rfl rfl 2 (by decide) (htw _ m_98) (fun _ h9 => h9) rfl dD_foretellByLastTwo_29 ?_
    refine lv_iconst (v := nI 1) hx hb dD_foretellByLastTwo_32 (by decide) ?_
    refine lv_isub hx hb dD_foretellByLastTwo_33 ?_
    refine lv_topi (fun kv ekv => ?_)
    obtain rfl : kv = nI (rn - 1) := by rw [ekv]; exact pk_sub (by omega)
    refine xa_lald hx hb hK hP 2 1 rfl rfl (i := (rn - 1)) (by omega) (by decide) dD_foretellByLastTwo_34 ?_
    refine lv_lstore_n (lv' := [(3, .long (rv (rn - 1))), (1, .long (rv (rn - 2))), (0, .ref rg)]) hx hb dD_foretellByLastTwo_35 rfl hl (by decide) rfl (fun ls hl => ?_)
    refine lv_aload_n hx hb dD_foretellByLastTwo_36 rfl (lv_at hl 2 rfl) ?_
    refine va_get (D := (dC, dI)) (ci := 2) (v := .ref qrd) (C := R_D) (T := T_D) (N := 3) hx hb htw in_D hown hK hP 0 rfl rfl 0 (by decide) (htw _ m_94) (fun _ h9 => h9) rfl dD_foretellByLastTwo_37 ?_
    refine lv_aload_n hx hb dD_foretellByLastTwo_40 rfl (lv_at hl 2 rfl) ?_
    refine va_get (D := (dC, dI)) (ci := 2) (v := .int (nI rn)) (C := R_D) (T := T_D) (N := 3) hx hb htw in_D hown hK hP 0 rfl rfl 2 (by decide) (htw _ m_98) (fun _ h9 => h9) rfl dD_foretellByLastTwo_41 ?_
    refine lv_iconst (v := nI 2) hx hb dD_foretellByLastTwo_44 (by decide) ?_
    refine lv_isub hx hb dD_foretellByLastTwo_45 ?_
    refine lv_topi (fun kv ekv => ?_)
    obtain rfl : kv = nI (rn - 2) := by rw [ekv]; exact pk_sub (by omega)
    refine xa_iald hx hb hK hP 1 0 rfl rfl (i := (rn - 2)) (by omega) (by decide) dD_foretellByLastTwo_46 ?_
    refine lv_i2l (v := (rd (rn - 2)).toInt64) hx hb dD_foretellByLastTwo_47 rfl ?_
    refine lv_lstore (lv' := [(5, .long ((rd (rn - 2)).toInt64)), (3, .long (rv (rn - 1))), (1, .long (rv (rn - 2))), (0, .ref rg)]) hx hb dD_foretellByLastTwo_48 hl (by decide) rfl (fun ls hl => ?_)
    refine lv_aload_n hx hb dD_foretellByLastTwo_50 rfl (lv_at hl 3 rfl) ?_
    refine va_get (D := (dC, dI)) (ci := 2) (v := .ref qrd) (C := R_D) (T := T_D) (N := 3) hx hb htw in_D hown hK hP 0 rfl rfl 0 (by decide) (htw _ m_94) (fun _ h9 => h9) rfl dD_foretellByLastTwo_51 ?_
    refine lv_aload_n hx hb dD_foretellByLastTwo_54 rfl (lv_at hl 3 rfl) ?_
    refine va_get (D := (dC, dI)) (ci := 2) (v := .int (nI rn)) (C := R_D) (T := T_D) (N := 3) hx hb htw in_D hown hK hP 0 rfl rfl 2 (by decide) (htw _ m_98) (fun _ h9 => h9) rfl dD_foretellByLastTwo_55 ?_
    refine lv_iconst (v := nI 1) hx hb dD_foretellByLastTwo_58 (by decide) ?_
    refine lv_isub hx hb dD_foretellByLastTwo_59 ?_
    refine lv_topi (fun kv ekv => ?_)
    obtain rfl : kv = nI (rn - 1) := by rw [ekv]; exact pk_sub (by omega)
    refine xa_iald hx hb hK hP 1 0 rfl rfl (i := (rn - 1)) (by omega) (by decide) dD_foretellByLastTwo_60 ?_
    refine lv_i2l (v := (rd (rn - 1)).toInt64) hx hb dD_foretellByLastTwo_61 rfl ?_
    refine lv_lstore (lv' := [(7, .long ((rd (rn - 1)).toInt64)), (5, .long ((rd (rn - 2)).toInt64)), (3, .long (rv (rn - 1))), (1, .long (rv (rn - 2))), (0, .ref rg)]) hx hb dD_foretellByLastTwo_62 hl (by decide) rfl (fun ls hl => ?_)
    refine lv_lload_n hx hb dD_foretellByLastTwo_64 rfl (lv_at hl 3 rfl) ?_
    have hPc := hP.sub (ws' := []) [] rfl
    have hDc := hD.sub (ws' := []) [] (by decide) rfl
    have hFc := va_free (wc := []) hD hS hA [] rfl
    refine va_calli (va_runS (As := [.long (rv (rn - 2))]) (rest := []) ⟨hx, hb, hml, hown, htw⟩ (kD_tooGreat l dC dI cI cJ s.heap.size (rv (rn - 2))) (va_cwS 1 htw (ws_good m_323 m_324 m_4 m_325) rfl rfl rfl (by decide +kernel) ⟨Nat.le_of_ble_eq_true rfl, Nat.le_of_ble_eq_true rfl⟩) ⟨fun a U g mk q => by obtain ⟨q0, q1, qP, qK, qD⟩ := q; exact ⟨q0, q1, qP, va_K.moved (u := U) (U := U.calling g mk a) (Vm.Alike.refl U.vm) qK, qD⟩, fun U hU hW => ⟨rfl, by rw [hU], by rw [hU]; exact hPc, va_K.moved hW.alike hK, hDc.weaken (fun _ _ _ _ => trivial)⟩⟩ rfl rfl hl.1 rfl (lv_room (Nat.le_of_ble_eq_true rfl)) dD_foretellByLastTwo_65 ⟨Nat.le_of_ble_eq_true rfl, Nat.le_of_ble_eq_true rfl⟩) hS (fun q _ h => hFc q h) hFc (fun res_ u_ t H1 locs ht hvm hw hB hz1 hk1 hS => ?_)
    obtain ⟨hP1, hK1, hD1⟩ := hB
    rw [ht] at hP1
    obtain ⟨hP, hD⟩ := va_join (wr := [(rg, .inr (2, [.ref qrd, .ref qrv, .int (nI rn)])), (qrd, .inl (cI, 20, .inl rd)), (qrv, .inl (cJ, 20, .inr (.inl rv)))]) (w1 := []) hP hD [] [0, 1, 2] rfl rfl (by decide) (by decide) hk1 hFc hP1 hD1
    generalize H1 = H at hP hS ⊢
    have hP : va_P (dC, dI) vwCl [(rg, .inr (2, [.ref qrd, .ref qrv, .int (nI rn)])), (qrd, .inl (cI, 20, .inl rd)), (qrv, .inl (cJ, 20, .inr (.inl rv)))] H := hP
    have hD : va_D A [(rg, .inr (2, [.ref qrd, .ref qrv, .int (nI rn)])), (qrd, .inl (cI, 20, .inl rd)), (qrv, .inl (cJ, 20, .inr (.inl rv)))] := hD
    clear hPc hDc hFc hP1 hD1 hK1 hk1 hz1 hvm ht
    obtain rfl : res_ = kb (100000000 < (rv (rn - 2))) := hw
    refine lv_if_ne (tgt := 78) hx hb dD_foretellByLastTwo_68 (by decide) (fun hc68 => ?_) (fun hc68 => ?_)
    · -- 68 taken
      rw [kb_eq0] at hc68
      refine lv_ldc2 (v := (-1)) hx hb hown (htw _ m_322) dD_foretellByLastTwo_78 ?_
      have hP : va_P (dC, dI) vwCl [(rg, .inr (2, [.ref qrd, .ref qrv, .int (nI rn)])), (qrd, .inl (cI, 20, .inl rd)), (qrv, .inl (cJ, 20, .inr (.inl rv)))] H := by first | exact hP | simpa only [] using hP
      have hD : va_D A [(rg, .inr (2, [.ref qrd, .ref qrv, .int (nI rn)])), (qrd, .inl (cI, 20, .inl rd)), (qrv, .inl (cJ, 20, .inr (.inl rv)))] := by first | exact hD | simpa only [] using hD
      exact W.lret (v := (-1)) hx hb hr (fun t ht hW => ⟨⟨(-1), (), rfl, by unfold k_f1; rw [if_neg (by omega), if_pos (by first | exact Or.inl (Classical.not_not.mp hc68) | exact Or.inr (Classical.not_not.mp hc75))], by rw [ht]; exact hP, va_K.moved hW.alike hK, hD⟩, hS.F ht⟩) hS.2.2 dD_foretellByLastTwo_81
    · -- 68 not taken
      rw [kb_eq0] at hc68
      refine lv_lload_n hx hb dD_foretellByLastTwo_71 rfl (lv_at hl 2 rfl) ?_
      have hPc := hP.sub (ws' := []) [] rfl
      have hDc := hD.sub (ws' := []) [] (by decide) rfl
      have hFc := va_free (wc := []) hD hS hA [] rfl
      refine va_calli (va_runS (As := [.long (rv (rn - 1))]) (rest := []) ⟨hx, hb, hml, hown, htw⟩ (kD_tooGreat l dC dI cI cJ H.size (rv (rn - 1))) (va_cwS 1 htw (ws_good m_323 m_324 m_4 m_325) rfl rfl rfl (by decide +kernel) ⟨Nat.le_of_ble_eq_true rfl, Nat.le_of_ble_eq_true rfl⟩) ⟨fun a U g mk q => by obtain ⟨q0, q1, qP, qK, qD⟩ := q; exact ⟨q0, q1, qP, va_K.moved (u := U) (U := U.calling g mk a) (Vm.Alike.refl U.vm) qK, qD⟩, fun U hU hW => ⟨rfl, by rw [hU], by rw [hU]; exact hPc, va_K.moved hW.alike hK, hDc.weaken (fun _ _ _ _ => trivial)⟩⟩ rfl rfl hl.1 rfl (lv_room (Nat.le_of_ble_eq_true rfl)) dD_foretellByLastTwo_72 ⟨Nat.le_of_ble_eq_true rfl, Nat.le_of_ble_eq_true rfl⟩) hS (fun q _ h => hFc q h) hFc (fun res_ u_ t H1 locs ht hvm hw hB hz1 hk1 hS => ?_)
      obtain ⟨hP1, hK1, hD1⟩ := hB
      rw [ht] at hP1
      obtain ⟨hP, hD⟩ := va_join (wr := [(rg, .inr (2, [.ref qrd, .ref qrv, .int (nI rn)])), (qrd, .inl (cI, 20, .inl rd)), (qrv, .inl (cJ, 20, .inr (.inl rv)))]) (w1 := []) hP hD [] [0, 1, 2] rfl rfl (by decide) (by decide) hk1 hFc hP1 hD1
      generalize H1 = H at hP hS ⊢
      have hP : va_P (dC, dI) vwCl [(rg, .inr (2, [.ref qrd, .ref qrv, .int (nI rn)])), (qrd, .inl (cI, 20, .inl rd)), (qrv, .inl (cJ, 20, .inr (.inl rv)))] H := hP
      have hD : va_D A [(rg, .inr (2, [.ref qrd, .ref qrv, .int (nI rn)])), (qrd, .inl (cI, 20, .inl rd)), (qrv, .inl (cJ, 20, .inr (.inl rv)))] := hD
      clear hPc hDc hFc hP1 hD1 hK1 hk1 hz1 hvm ht
      obtain rfl : res_ = kb (100000000 < (rv (rn - 1))) := hw
      refine lv_if_eq (tgt := 82) hx hb dD_foretellByLastTwo_75 (by decide) (fun hc75 => ?_) (fun hc75 => ?_)
      · -- 75 taken
        rw [kb_eq0] at hc75
        refine lv_lload hx hb dD_foretellByLastTwo_82 (lv_at hl 0 rfl) ?_
        refine lv_lload hx hb dD_foretellByLastTwo_84 (lv_at hl 1 rfl) ?_
        refine lv_lsub hx hb dD_foretellByLastTwo_86 ?_
        refine lv_lload_n hx hb dD_foretellByLastTwo_87 rfl (lv_at hl 3 rfl) ?_
        refine lv_lmul hx hb dD_foretellByLastTwo_88 ?_
        refine lv_lload_n hx hb dD_foretellByLastTwo_89 rfl (lv_at hl 2 rfl) ?_
        refine lv_lmul hx hb dD_foretellByLastTwo_90 ?_
        refine lv_lload hx hb dD_foretellByLastTwo_91 (lv_at hl 0 rfl) ?_
        refine lv_lload_n hx hb dD_foretellByLastTwo_93 rfl (lv_at hl 3 rfl) ?_
        refine lv_lmul hx hb dD_foretellByLastTwo_94 ?_
        refine lv_lload hx hb dD_foretellByLastTwo_95 (lv_at hl 1 rfl) ?_
        refine lv_lload_n hx hb dD_foretellByLastTwo_97 rfl (lv_at hl 2 rfl) ?_
        refine lv_lmul hx hb dD_foretellByLastTwo_98 ?_
        refine lv_lsub hx hb dD_foretellByLastTwo_99 ?_
        have hPc := hP.sub (ws' := []) [] rfl
        have hDc := hD.sub (ws' := []) [] (by decide) rfl
        have hFc := va_free (wc := []) hD hS hA [] rfl
        refine va_calll (va_runS (As := [.long (((((rd (rn - 1)).toInt64) - ((rd (rn - 2)).toInt64)) * (rv (rn - 2))) * (rv (rn - 1))), .long ((((rd (rn - 1)).toInt64) * (rv (rn - 2))) - (((rd (rn - 2)).toInt64) * (rv (rn - 1))))]) (rest := []) ⟨hx, hb, hml, hown, htw⟩ (kD_quotient l dC dI cI cJ H.size (((((rd (rn - 1)).toInt64) - ((rd (rn - 2)).toInt64)) * (rv (rn - 2))) * (rv (rn - 1))) ((((rd (rn - 1)).toInt64) * (rv (rn - 2))) - (((rd (rn - 2)).toInt64) * (rv (rn - 1))))) (va_cwS 2 htw (ws_good m_328 m_329 m_4 m_330) rfl rfl rfl (by decide +kernel) ⟨Nat.le_of_ble_eq_true rfl, Nat.le_of_ble_eq_true rfl⟩) ⟨fun a U g mk q => by obtain ⟨q0, q1, qP, qK, qD⟩ := q; exact ⟨q0, q1, qP, va_K.moved (u := U) (U := U.calling g mk a) (Vm.Alike.refl U.vm) qK, qD⟩, fun U hU hW => ⟨rfl, by rw [hU], by rw [hU]; exact hPc, va_K.moved hW.alike hK, hDc.weaken (fun _ _ _ _ => trivial)⟩⟩ rfl rfl hl.1 rfl (lv_room (Nat.le_of_ble_eq_true rfl)) dD_foretellByLastTwo_100 ⟨Nat.le_of_ble_eq_true rfl, Nat.le_of_ble_eq_true rfl⟩) hS (fun q _ h => hFc q h) hFc (fun res_ u_ t H1 locs ht hvm hw hB hz1 hk1 hS => ?_)
        obtain ⟨hP1, hK1, hD1⟩ := hB
        rw [ht] at hP1
        obtain ⟨hP, hD⟩ := va_join (wr := [(rg, .inr (2, [.ref qrd, .ref qrv, .int (nI rn)])), (qrd, .inl (cI, 20, .inl rd)), (qrv, .inl (cJ, 20, .inr (.inl rv)))]) (w1 := []) hP hD [] [0, 1, 2] rfl rfl (by decide) (by decide) hk1 hFc hP1 hD1
        generalize H1 = H at hP hS ⊢
        have hP : va_P (dC, dI) vwCl [(rg, .inr (2, [.ref qrd, .ref qrv, .int (nI rn)])), (qrd, .inl (cI, 20, .inl rd)), (qrv, .inl (cJ, 20, .inr (.inl rv)))] H := hP
        have hD : va_D A [(rg, .inr (2, [.ref qrd, .ref qrv, .int (nI rn)])), (qrd, .inl (cI, 20, .inl rd)), (qrv, .inl (cJ, 20, .inr (.inl rv)))] := hD
        clear hPc hDc hFc hP1 hD1 hK1 hk1 hz1 hvm ht
        obtain rfl : res_ = k_quo (((((rd (rn - 1)).toInt64) - ((rd (rn - 2)).toInt64)) * (rv (rn - 2))) * (rv (rn - 1))) ((((rd (rn - 1)).toInt64) * (rv (rn - 2))) - (((rd (rn - 2)).toInt64) * (rv (rn - 1)))) := hw
        have hP : va_P (dC, dI) vwCl [(rg, .inr (2, [.ref qrd, .ref qrv, .int (nI rn)])), (qrd, .inl (cI, 20, .inl rd)), (qrv, .inl (cJ, 20, .inr (.inl rv)))] H := by first | exact hP | simpa only [] using hP
        have hD : va_D A [(rg, .inr (2, [.ref qrd, .ref qrv, .int (nI rn)])), (qrd, .inl (cI, 20, .inl rd)), (qrv, .inl (cJ, 20, .inr (.inl rv)))] := by first | exact hD | simpa only [] using hD
        exact W.lret (v := k_quo (((((rd (rn - 1)).toInt64) - ((rd (rn - 2)).toInt64)) * (rv (rn - 2))) * (rv (rn - 1))) ((((rd (rn - 1)).toInt64) * (rv (rn - 2))) - (((rd (rn - 2)).toInt64) * (rv (rn - 1))))) hx hb hr (fun t ht hW => ⟨⟨k_quo (((((rd (rn - 1)).toInt64) - ((rd (rn - 2)).toInt64)) * (rv (rn - 2))) * (rv (rn - 1))) ((((rd (rn - 1)).toInt64) * (rv (rn - 2))) - (((rd (rn - 2)).toInt64) * (rv (rn - 1)))), (), rfl, by unfold k_f1; rw [if_neg (by omega), if_neg (fun h => h.elim hc68 hc75)], by rw [ht]; exact hP, va_K.moved hW.alike hK, hD⟩, hS.F ht⟩) hS.2.2 dD_foretellByLastTwo_103
      · -- 75 not taken
        rw [kb_eq0] at hc75
        refine lv_ldc2 (v := (-1)) hx hb hown (htw _ m_322) dD_foretellByLastTwo_78 ?_
        have hP : va_P (dC, dI) vwCl [(rg, .inr (2, [.ref qrd, .ref qrv, .int (nI rn)])), (qrd, .inl (cI, 20, .inl rd)), (qrv, .inl (cJ, 20, .inr (.inl rv)))] H := by first | exact hP | simpa only [] using hP
        have hD : va_D A [(rg, .inr (2, [.ref qrd, .ref qrv, .int (nI rn)])), (qrd, .inl (cI, 20, .inl rd)), (qrv, .inl (cJ, 20, .inr (.inl rv)))] := by first | exact hD | simpa only [] using hD
        exact W.lret (v := (-1)) hx hb hr (fun t ht hW => ⟨⟨(-1), (), rfl, by unfold k_f1; rw [if_neg (by omega), if_pos (by first | exact Or.inl (Classical.not_not.mp hc68) | exact Or.inr (Classical.not_not.mp hc75))], by rw [ht]; exact hP, va_K.moved hW.alike hK, hD⟩, hS.F ht⟩) hS.2.2 dD_foretellByLastTwo_81
  · -- 5 not taken
    rw [nI_leI (by omega) (by omega)] at hc5
    refine lv_ldc2 (v := (-1)) hx hb hown (htw _ m_322) dD_foretellByLastTwo_8 ?_
    have hP : va_P (dC, dI) vwCl [(rg, .inr (2, [.ref qrd, .ref qrv, .int (nI rn)])), (qrd, .inl (cI, 20, .inl rd)), (qrv, .inl (cJ, 20, .inr (.inl rv)))] s.heap := by first | exact hP | simpa only [] using hP
    have hD : va_D A [(rg, .inr (2, [.ref qrd, .ref qrv, .int (nI rn)])), (qrd, .inl (cI, 20, .inl rd)), (qrv, .inl (cJ, 20, .inr (.inl rv)))] := by first | exact hD | simpa only [] using hD
    exact W.lret (v := (-1)) hx hb hr (fun t ht hW => ⟨⟨(-1), (), rfl, by unfold k_f1; rw [if_pos (by omega)], by rw [ht]; exact hP, va_K.moved hW.alike hK, hD⟩, hS.F ht⟩) hS.2.2 dD_foretellByLastTwo_11
set_option maxHeartbeats 4000000 in
set_option maxRecDepth 100000 in
theorem kD_foretellByFirstAndLast (l : Launch) (dC : Nat → ClassId) (dI : Nat → Nat → Nat) (cI cJ : ClassId) (rg qrd qrv : Nat) (sz : Nat) (rn : Nat) (rd : Nat → Int32) (rv : Nat → Int64) (hrn : rn ≤ 20) : Met l yD_foretellByFirstAndLast wD_foretellByFirstAndLast ({ frames := 1, cells := 0, slots := 0, locals := 21 }) (va_Pc [.ref rg] (fun U => U.heap.size = sz ∧ va_P (dC, dI) vwCl [(rg, .inr (2, [.ref qrd, .ref qrv, .int (nI rn)])), (qrd, .inl (cI, 20, .inl rd)), (qrv, .inl (cJ, 20, .inr (.inl rv)))] U.heap ∧ va_K (dC, dI) vwCl [(cI, .int), (cJ, .long)] U ∧ va_D (fun _ => True) [(rg, .inr (2, [.ref qrd, .ref qrv, .int (nI rn)])), (qrd, .inl (cI, 20, .inl rd)), (qrv, .inl (cJ, 20, .inr (.inl rv)))])) (va_Ql (fun res_ (_ : Unit) => res_ = k_f2 rd rv rn) (fun _ t => va_P (dC, dI) vwCl [(rg, .inr (2, [.ref qrd, .ref qrv, .int (nI rn)])), (qrd, .inl (cI, 20, .inl rd)), (qrv, .inl (cJ, 20, .inr (.inl rv)))] t.heap ∧ va_K (dC, dI) vwCl [(cI, .int), (cJ, .long)] t ∧ va_D (va_A [(rg, .inr (2, [.ref qrd, .ref qrv, .int (nI rn)])), (qrd, .inl (cI, 20, .inl rd)), (qrv, .inl (cJ, 20, .inr (.inl rv)))] sz) [(rg, .inr (2, [.ref qrd, .ref qrv, .int (nI rn)])), (qrd, .inl (cI, 20, .inl rd)), (qrv, .inl (cJ, 20, .inr (.inl rv)))]) (va_A [(rg, .inr (2, [.ref qrd, .ref qrv, .int (nI rn)])), (qrd, .inl (cI, 20, .inl rd)), (qrv, .inl (cJ, 20, .inr (.inl rv)))] sz)) 0 0 (va_A [(rg, .inr (2, [.ref qrd, .ref qrv, .int (nI rn)])), (qrd, .inl (cI, 20, .inl rd)), (qrv, .inl (cJ, 20, .inr (.inl rv)))] sz) := by
  refine Met.ofW (cc := bD_foretellByFirstAndLast) (maxL := 7) (ret := (some .long)) (by decide) rfl ?_
  intro p e s m args below meth c s₁ B hml hv
  obtain ⟨rfl, hsz, hP, hK, hD0⟩ := hv
  have hx := B.exec
  have hb := B.bytes
  have hr := B.returns
  have hts := atoms_spec (ws := wD_foretellByFirstAndLast) B.pre
  have hown : s.vm.findClass R_D = some m.cls := findClass_of_methodNamed B.named
  have htw : ∀ w ∈ WA, w.before _ s = true := fun w h => hts w (List.mem_cons_of_mem _ h)
  clear hts
  have hlocks := B.notSynchronized
  subst hsz
  have hD := hD0.self (sz := s.heap.size)
  generalize hAe : va_A [(rg, .inr (2, [.ref qrd, .ref qrv, .int (nI rn)])), (qrd, .inl (cI, 20, .inl rd)), (qrv, .inl (cJ, 20, .inr (.inl rv)))] s.heap.size = A at hD ⊢
  have hA : ∀ q : Nat, s.heap.size ≤ q → A q := fun q h => by rw [← hAe]; exact Or.inr h
  clear hAe hD0
  have hS : va_S A s.heap s.heap [] := va_S.rf
  have hP : va_P (dC, dI) vwCl [(rg, .inr (2, [.ref qrd, .ref qrv, .int (nI rn)])), (qrd, .inl (cI, 20, .inl rd)), (qrv, .inl (cJ, 20, .inr (.inl rv)))] s.heap := hP
  have hl := lv_entry ([.ref rg]) (n := 7) (Nat.le_of_ble_eq_true rfl)
  rw [lg_entry_eq]
  generalize (lg_sl ([.ref rg]) ++ List.replicate (7 - (lg_sl ([.ref rg])).length) Slot.unset).toArray = ls at hl ⊢
  have hl : lv_has ls 7 [(0, .ref rg)] := hl
  refine lv_aload_n hx hb dD_foretellByFirstAndLast_0 rfl (lv_at hl 0 rfl) ?_
  refine va_get (D := (dC, dI)) (ci := 2) (v := .int (nI rn)) (C := R_D) (T := T_D) (N := 3) hx hb htw in_D hown hK hP 0 rfl rfl 2 (by decide) (htw _ m_98) (fun _ h9 => h9) rfl dD_foretellByFirstAndLast_1 ?_
  refine lv_iconst (v := nI 2) hx hb dD_foretellByFirstAndLast_4 (by decide) ?_
  refine lv_icmp_ge (tgt := 12) hx hb dD_foretellByFirstAndLast_5 (by decide) (fun hc5 => ?_) (fun hc5 => ?_)
  · -- 5 taken
    rw [nI_leI (by omega) (by omega)] at hc5
    refine lv_aload_n hx hb dD_foretellByFirstAndLast_12 rfl (lv_at hl 0 rfl) ?_
    refine va_get (D := (dC, dI)) (ci := 2) (v := .ref qrv) (C := R_D) (T := T_D) (N := 3) hx hb htw in_D hown hK hP 0 rfl rfl 1 (by decide) (htw _ m_96) (fun _ h9 => h9) rfl dD_foretellByFirstAndLast_13 ?_
    refine lv_iconst (v := nI 0) hx hb dD_foretellByFirstAndLast_16 (by decide) ?_
    refine xa_lald hx hb hK hP 2 1 rfl rfl (i := 0) (by omega) (by decide) dD_foretellByFirstAndLast_17 ?_
    refine lv_lstore_n (lv' := [(1, .long (rv 0)), (0, .ref rg)]) hx hb dD_foretellByFirstAndLast_18 rfl hl (by decide) rfl (fun ls hl => ?_)
    refine lv_aload_n hx hb dD_foretellByFirstAndLast_19 rfl (lv_at hl 1 rfl) ?_
    refine va_get (D := (dC, dI)) (ci := 2) (v := .ref qrv) (C := R_D) (T := T_D) (N := 3) hx hb htw in_D hown hK hP 0 rfl rfl 1 (by decide) (htw _ m_96) (fun _ h9 => h9) rfl dD_foretellByFirstAndLast_20 ?_
    refine lv_aload_n hx hb dD_foretellByFirstAndLast_23 rfl (lv_at hl 1 rfl) ?_
    refine va_get (D := (dC, dI)) (ci := 2) (v := .int (nI rn)) (C := R_D) (T := T_D) (N := 3) hx hb htw in_D hown hK hP 0 rfl rfl 2 (by decide) (htw _ m_98) (fun _ h9 => h9) rfl dD_foretellByFirstAndLast_24 ?_
    refine lv_iconst (v := nI 1) hx hb dD_foretellByFirstAndLast_27 (by decide) ?_
    refine lv_isub hx hb dD_foretellByFirstAndLast_28 ?_
    refine lv_topi (fun kv ekv => ?_)
    obtain rfl : kv = nI (rn - 1) := by rw [ekv]; exact pk_sub (by omega)
    refine xa_lald hx hb hK hP 2 1 rfl rfl (i := (rn - 1)) (by omega) (by decide) dD_foretellByFirstAndLast_29 ?_
    refine lv_lstore_n (lv' := [(3, .long (rv (rn - 1))), (1, .long (rv 0)), (0, .ref rg)]) hx hb dD_foretellByFirstAndLast_30 rfl hl (by decide) rfl (fun ls hl => ?_)
    refine lv_aload_n hx hb dD_foretellByFirstAndLast_31 rfl (lv_at hl 2 rfl) ?_
    refine va_get (D := (dC, dI)) (ci := 2) (v := .ref qrd) (C := R_D) (T := T_D) (N := 3) hx hb htw in_D hown hK hP 0 rfl rfl 0 (by decide) (htw _ m_94) (fun _ h9 => h9) rfl dD_foretellByFirstAndLast_32 ?_
    refine lv_aload_n hx hb dD_foretellByFirstAndLast_35 rfl (lv_at hl 2 rfl) ?_
    refine va_get (D := (dC, dI)) (ci := 2) (v := .int (nI rn)) (C := R_D) (T := T_D) (N := 3) hx hb htw in_D hown hK hP 0 rfl rfl 2 (by decide) (htw _ m_98) (fun _ h9 => h9) rfl dD_foretellByFirstAndLast_36 ?_
    refine lv_iconst (v := nI 1) hx hb dD_foretellByFirstAndLast_39 (by decide) ?_
    refine lv_isub hx hb dD_foretellByFirstAndLast_40 ?_
    refine lv_topi (fun kv ekv => ?_)
    obtain rfl : kv = nI (rn - 1) := by rw [ekv]; exact pk_sub (by omega)
    refine xa_iald hx hb hK hP 1 0 rfl rfl (i := (rn - 1)) (by omega) (by decide) dD_foretellByFirstAndLast_41 ?_
    refine lv_aload_n hx hb dD_foretellByFirstAndLast_42 rfl (lv_at hl 2 rfl) ?_
    refine va_get (D := (dC, dI)) (ci := 2) (v := .ref qrd) (C := R_D) (T := T_D) (N := 3) hx hb htw in_D hown hK hP 0 rfl rfl 0 (by decide) (htw _ m_94) (fun _ h9 => h9) rfl dD_foretellByFirstAndLast_43 ?_
    refine lv_iconst (v := nI 0) hx hb dD_foretellByFirstAndLast_46 (by decide) ?_
    refine xa_iald hx hb hK hP 1 0 rfl rfl (i := 0) (by omega) (by decide) dD_foretellByFirstAndLast_47 ?_
    refine lv_isub hx hb dD_foretellByFirstAndLast_48 ?_
    refine lv_i2l (v := ((rd (rn - 1)) - (rd 0)).toInt64) hx hb dD_foretellByFirstAndLast_49 rfl ?_
    refine lv_lstore (lv' := [(5, .long (((rd (rn - 1)) - (rd 0)).toInt64)), (3, .long (rv (rn - 1))), (1, .long (rv 0)), (0, .ref rg)]) hx hb dD_foretellByFirstAndLast_50 hl (by decide) rfl (fun ls hl => ?_)
    refine lv_lload_n hx hb dD_foretellByFirstAndLast_52 rfl (lv_at hl 2 rfl) ?_
    have hPc := hP.sub (ws' := []) [] rfl
    have hDc := hD.sub (ws' := []) [] (by decide) rfl
    have hFc := va_free (wc := []) hD hS hA [] rfl
    refine va_calli (va_runS (As := [.long (rv 0)]) (rest := []) ⟨hx, hb, hml, hown, htw⟩ (kD_tooGreat l dC dI cI cJ s.heap.size (rv 0)) (va_cwS 1 htw (ws_good m_323 m_324 m_4 m_325) rfl rfl rfl (by decide +kernel) ⟨Nat.le_of_ble_eq_true rfl, Nat.le_of_ble_eq_true rfl⟩) ⟨fun a U g mk q => by obtain ⟨q0, q1, qP, qK, qD⟩ := q; exact ⟨q0, q1, qP, va_K.moved (u := U) (U := U.calling g mk a) (Vm.Alike.refl U.vm) qK, qD⟩, fun U hU hW => ⟨rfl, by rw [hU], by rw [hU]; exact hPc, va_K.moved hW.alike hK, hDc.weaken (fun _ _ _ _ => trivial)⟩⟩ rfl rfl hl.1 rfl (lv_room (Nat.le_of_ble_eq_true rfl)) dD_foretellByFirstAndLast_53 ⟨Nat.le_of_ble_eq_true rfl, Nat.le_of_ble_eq_true rfl⟩) hS (fun q _ h => hFc q h) hFc (fun res_ u_ t H1 locs ht hvm hw hB hz1 hk1 hS => ?_)
    obtain ⟨hP1, hK1, hD1⟩ := hB
    rw [ht] at hP1
    obtain ⟨hP, hD⟩ := va_join (wr := [(rg, .inr (2, [.ref qrd, .ref qrv, .int (nI rn)])), (qrd, .inl (cI, 20, .inl rd)), (qrv, .inl (cJ, 20, .inr (.inl rv)))]) (w1 := []) hP hD [] [0, 1, 2] rfl rfl (by decide) (by decide) hk1 hFc hP1 hD1
    generalize H1 = H at hP hS ⊢
    have hP : va_P (dC, dI) vwCl [(rg, .inr (2, [.ref qrd, .ref qrv, .int (nI rn)])), (qrd, .inl (cI, 20, .inl rd)), (qrv, .inl (cJ, 20, .inr (.inl rv)))] H := hP
    have hD : va_D A [(rg, .inr (2, [.ref qrd, .ref qrv, .int (nI rn)])), (qrd, .inl (cI, 20, .inl rd)), (qrv, .inl (cJ, 20, .inr (.inl rv)))] := hD
    clear hPc hDc hFc hP1 hD1 hK1 hk1 hz1 hvm ht
    obtain rfl : res_ = kb (100000000 < (rv 0)) := hw
    refine lv_if_ne (tgt := 73) hx hb dD_foretellByFirstAndLast_56 (by decide) (fun hc56 => ?_) (fun hc56 => ?_)
    · -- 56 taken
      rw [kb_eq0] at hc56
      refine lv_ldc2 (v := (-1)) hx hb hown (htw _ m_322) dD_foretellByFirstAndLast_73 ?_
      have hP : va_P (dC, dI) vwCl [(rg, .inr (2, [.ref qrd, .ref qrv, .int (nI rn)])), (qrd, .inl (cI, 20, .inl rd)), (qrv, .inl (cJ, 20, .inr (.inl rv)))] H := by first | exact hP | simpa only [] using hP
      have hD : va_D A [(rg, .inr (2, [.ref qrd, .ref qrv, .int (nI rn)])), (qrd, .inl (cI, 20, .inl rd)), (qrv, .inl (cJ, 20, .inr (.inl rv)))] := by first | exact hD | simpa only [] using hD
      exact W.lret (v := (-1)) hx hb hr (fun t ht hW => ⟨⟨(-1), (), rfl, by unfold k_f2; rw [if_neg (by omega), if_pos (by first | exact Or.inl (Classical.not_not.mp hc56) | exact Or.inr (Or.inl (Classical.not_not.mp hc63)) | exact Or.inr (Or.inr hc70))], by rw [ht]; exact hP, va_K.moved hW.alike hK, hD⟩, hS.F ht⟩) hS.2.2 dD_foretellByFirstAndLast_76
    · -- 56 not taken
      rw [kb_eq0] at hc56
      refine lv_lload_n hx hb dD_foretellByFirstAndLast_59 rfl (lv_at hl 1 rfl) ?_
      have hPc := hP.sub (ws' := []) [] rfl
      have hDc := hD.sub (ws' := []) [] (by decide) rfl
      have hFc := va_free (wc := []) hD hS hA [] rfl
      refine va_calli (va_runS (As := [.long (rv (rn - 1))]) (rest := []) ⟨hx, hb, hml, hown, htw⟩ (kD_tooGreat l dC dI cI cJ H.size (rv (rn - 1))) (va_cwS 1 htw (ws_good m_323 m_324 m_4 m_325) rfl rfl rfl (by decide +kernel) ⟨Nat.le_of_ble_eq_true rfl, Nat.le_of_ble_eq_true rfl⟩) ⟨fun a U g mk q => by obtain ⟨q0, q1, qP, qK, qD⟩ := q; exact ⟨q0, q1, qP, va_K.moved (u := U) (U := U.calling g mk a) (Vm.Alike.refl U.vm) qK, qD⟩, fun U hU hW => ⟨rfl, by rw [hU], by rw [hU]; exact hPc, va_K.moved hW.alike hK, hDc.weaken (fun _ _ _ _ => trivial)⟩⟩ rfl rfl hl.1 rfl (lv_room (Nat.le_of_ble_eq_true rfl)) dD_foretellByFirstAndLast_60 ⟨Nat.le_of_ble_eq_true rfl, Nat.le_of_ble_eq_true rfl⟩) hS (fun q _ h => hFc q h) hFc (fun res_ u_ t H1 locs ht hvm hw hB hz1 hk1 hS => ?_)
      obtain ⟨hP1, hK1, hD1⟩ := hB
      rw [ht] at hP1
      obtain ⟨hP, hD⟩ := va_join (wr := [(rg, .inr (2, [.ref qrd, .ref qrv, .int (nI rn)])), (qrd, .inl (cI, 20, .inl rd)), (qrv, .inl (cJ, 20, .inr (.inl rv)))]) (w1 := []) hP hD [] [0, 1, 2] rfl rfl (by decide) (by decide) hk1 hFc hP1 hD1
      generalize H1 = H at hP hS ⊢
      have hP : va_P (dC, dI) vwCl [(rg, .inr (2, [.ref qrd, .ref qrv, .int (nI rn)])), (qrd, .inl (cI, 20, .inl rd)), (qrv, .inl (cJ, 20, .inr (.inl rv)))] H := hP
      have hD : va_D A [(rg, .inr (2, [.ref qrd, .ref qrv, .int (nI rn)])), (qrd, .inl (cI, 20, .inl rd)), (qrv, .inl (cJ, 20, .inr (.inl rv)))] := hD
      clear hPc hDc hFc hP1 hD1 hK1 hk1 hz1 hvm ht
      obtain rfl : res_ = kb (100000000 < (rv (rn - 1))) := hw
      refine lv_if_ne (tgt := 73) hx hb dD_foretellByFirstAndLast_63 (by decide) (fun hc63 => ?_) (fun hc63 => ?_)
      · -- 63 taken
        rw [kb_eq0] at hc63
        refine lv_ldc2 (v := (-1)) hx hb hown (htw _ m_322) dD_foretellByFirstAndLast_73 ?_
        have hP : va_P (dC, dI) vwCl [(rg, .inr (2, [.ref qrd, .ref qrv, .int (nI rn)])), (qrd, .inl (cI, 20, .inl rd)), (qrv, .inl (cJ, 20, .inr (.inl rv)))] H := by first | exact hP | simpa only [] using hP
        have hD : va_D A [(rg, .inr (2, [.ref qrd, .ref qrv, .int (nI rn)])), (qrd, .inl (cI, 20, .inl rd)), (qrv, .inl (cJ, 20, .inr (.inl rv)))] := by first | exact hD | simpa only [] using hD
        exact W.lret (v := (-1)) hx hb hr (fun t ht hW => ⟨⟨(-1), (), rfl, by unfold k_f2; rw [if_neg (by omega), if_pos (by first | exact Or.inl (Classical.not_not.mp hc56) | exact Or.inr (Or.inl (Classical.not_not.mp hc63)) | exact Or.inr (Or.inr hc70))], by rw [ht]; exact hP, va_K.moved hW.alike hK, hD⟩, hS.F ht⟩) hS.2.2 dD_foretellByFirstAndLast_76
      · -- 63 not taken
        rw [kb_eq0] at hc63
        refine lv_lload hx hb dD_foretellByFirstAndLast_66 (lv_at hl 0 rfl) ?_
        refine lv_lconst (v := 0) hx hb dD_foretellByFirstAndLast_68 (by decide) ?_
        refine W.lcmp hx hb dD_foretellByFirstAndLast_69 ?_
        refine lv_if_ne (tgt := 77) hx hb dD_foretellByFirstAndLast_70 (by decide) (fun hc70 => ?_) (fun hc70 => ?_)
        · -- 70 taken
          rw [lg_cmp_eq] at hc70
          refine lv_lload_n hx hb dD_foretellByFirstAndLast_77 rfl (lv_at hl 1 rfl) ?_
          refine lv_lload_n hx hb dD_foretellByFirstAndLast_78 rfl (lv_at hl 1 rfl) ?_
          refine lv_lload_n hx hb dD_foretellByFirstAndLast_79 rfl (lv_at hl 2 rfl) ?_
          refine lv_lsub hx hb dD_foretellByFirstAndLast_80 ?_
          refine lv_ldc2 (v := 100) hx hb hown (htw _ m_339) dD_foretellByFirstAndLast_81 ?_
          refine lv_lmul hx hb dD_foretellByFirstAndLast_84 ?_
          refine lv_lload hx hb dD_foretellByFirstAndLast_85 (lv_at hl 0 rfl) ?_
          refine lv_ldiv hx hb dD_foretellByFirstAndLast_87 hc70 ?_
          refine lv_ladd hx hb dD_foretellByFirstAndLast_88 ?_
          have hP : va_P (dC, dI) vwCl [(rg, .inr (2, [.ref qrd, .ref qrv, .int (nI rn)])), (qrd, .inl (cI, 20, .inl rd)), (qrv, .inl (cJ, 20, .inr (.inl rv)))] H := by first | exact hP | simpa only [] using hP
          have hD : va_D A [(rg, .inr (2, [.ref qrd, .ref qrv, .int (nI rn)])), (qrd, .inl (cI, 20, .inl rd)), (qrv, .inl (cJ, 20, .inr (.inl rv)))] := by first | exact hD | simpa only [] using hD
          exact W.lret (v := (rv (rn - 1)) + ((((rv (rn - 1)) - (rv 0)) * 100) / (((rd (rn - 1)) - (rd 0)).toInt64))) hx hb hr (fun t ht hW => ⟨⟨(rv (rn - 1)) + ((((rv (rn - 1)) - (rv 0)) * 100) / (((rd (rn - 1)) - (rd 0)).toInt64)), (), rfl, by unfold k_f2; rw [if_neg (by omega), if_neg (fun h => h.elim hc56 (fun h => h.elim hc63 hc70))], by rw [ht]; exact hP, va_K.moved hW.alike hK, hD⟩, hS.F ht⟩) hS.2.2 dD_foretellByFirstAndLast_89
        · -- 70 not taken
          rw [lg_cmp_eq] at hc70
          refine lv_ldc2 (v := (-1)) hx hb hown (htw _ m_322) dD_foretellByFirstAndLast_73 ?_
          have hP : va_P (dC, dI) vwCl [(rg, .inr (2, [.ref qrd, .ref qrv, .int (nI rn)])), (qrd, .inl (cI, 20, .inl rd)), (qrv, .inl (cJ, 20, .inr (.inl rv)))] H := by first | exact hP | simpa only [] using hP
          have hD : va_D A [(rg, .inr (2, [.ref qrd, .ref qrv, .int (nI rn)])), (qrd, .inl (cI, 20, .inl rd)), (qrv, .inl (cJ, 20, .inr (.inl rv)))] := by first | exact hD | simpa only [] using hD
          exact W.lret (v := (-1)) hx hb hr (fun t ht hW => ⟨⟨(-1), (), rfl, by unfold k_f2; rw [if_neg (by omega), if_pos (by first | exact Or.inl (Classical.not_not.mp hc56) | exact Or.inr (Or.inl (Classical.not_not.mp hc63)) | exact Or.inr (Or.inr hc70))], by rw [ht]; exact hP, va_K.moved hW.alike hK, hD⟩, hS.F ht⟩) hS.2.2 dD_foretellByFirstAndLast_76
  · -- 5 not taken
    rw [nI_leI (by omega) (by omega)] at hc5
    refine lv_ldc2 (v := (-1)) hx hb hown (htw _ m_322) dD_foretellByFirstAndLast_8 ?_
    have hP : va_P (dC, dI) vwCl [(rg, .inr (2, [.ref qrd, .ref qrv, .int (nI rn)])), (qrd, .inl (cI, 20, .inl rd)), (qrv, .inl (cJ, 20, .inr (.inl rv)))] s.heap := by first | exact hP | simpa only [] using hP
    have hD : va_D A [(rg, .inr (2, [.ref qrd, .ref qrv, .int (nI rn)])), (qrd, .inl (cI, 20, .inl rd)), (qrv, .inl (cJ, 20, .inr (.inl rv)))] := by first | exact hD | simpa only [] using hD
    exact W.lret (v := (-1)) hx hb hr (fun t ht hW => ⟨⟨(-1), (), rfl, by unfold k_f2; rw [if_pos (by omega)], by rw [ht]; exact hP, va_K.moved hW.alike hK, hD⟩, hS.F ht⟩) hS.2.2 dD_foretellByFirstAndLast_11
set_option maxHeartbeats 4000000 in
set_option maxRecDepth 100000 in
theorem kX_thousandths (l : Launch) (dC : Nat → ClassId) (dI : Nat → Nat → Nat) (cI cJ : ClassId) (sz : Nat) (u : Int64) (v : Int64) : Met l yX_thousandths wX_thousandths ({ frames := 0, cells := 0, slots := 0, locals := 0 }) (va_Pc [.long u, .long v] (fun U => U.heap.size = sz ∧ va_P (dC, dI) vwCl [] U.heap ∧ va_K (dC, dI) vwCl [(cI, .int), (cJ, .long)] U ∧ va_D (fun _ => True) [])) (va_Qi (fun res_ (_ : Unit) => res_ = k_th u v) (fun _ t => va_P (dC, dI) vwCl [] t.heap ∧ va_K (dC, dI) vwCl [(cI, .int), (cJ, .long)] t ∧ va_D (va_A [] sz) []) (va_A [] sz)) 0 0 (va_A [] sz) := by
  refine Met.ofW (cc := bX_thousandths) (maxL := 4) (ret := (some .int)) (by decide) rfl ?_
  intro p e s m args below meth c s₁ B hml hv
  obtain ⟨rfl, hsz, hP, hK, hD0⟩ := hv
  have hx := B.exec
  have hb := B.bytes
  have hr := B.returns
  have hts := atoms_spec (ws := wX_thousandths) B.pre
  have hown : s.vm.findClass R_X = some m.cls := findClass_of_methodNamed B.named
  have htw : ∀ w ∈ WA, w.before _ s = true := fun w h => hts w (List.mem_cons_of_mem _ h)
  clear hts
  have hlocks := B.notSynchronized
  subst hsz
  have hD := hD0.self (sz := s.heap.size)
  generalize hAe : va_A [] s.heap.size = A at hD ⊢
  have hA : ∀ q : Nat, s.heap.size ≤ q → A q := fun q h => by rw [← hAe]; exact Or.inr h
  clear hAe hD0
  have hS : va_S A s.heap s.heap [] := va_S.rf
  have hP : va_P (dC, dI) vwCl [] s.heap := hP
  have hl := lv_entry ([.long u, .long v]) (n := 4) (Nat.le_of_ble_eq_true rfl)
  rw [lg_entry_eq]
  generalize (lg_sl ([.long u, .long v]) ++ List.replicate (4 - (lg_sl ([.long u, .long v])).length) Slot.unset).toArray = ls at hl ⊢
  have hl : lv_has ls 4 [(0, .long u), (2, .long v)] := hl
  refine lv_lload_n hx hb dX_thousandths_0 rfl (lv_at hl 1 rfl) ?_
  refine lv_lconst (v := 0) hx hb dX_thousandths_1 (by decide) ?_
  refine W.lcmp hx hb dX_thousandths_2 ?_
  refine lv_if_ne (tgt := 12) hx hb dX_thousandths_3 (by decide) (fun hc3 => ?_) (fun hc3 => ?_)
  · -- 3 taken
    rw [lg_cmp_eq] at hc3
    have hret : (u * 1000 / v).toInt32 = k_th u v := (if_neg hc3).symm
    refine lv_lload_n hx hb dX_thousandths_12 rfl (lv_at hl 0 rfl) ?_
    refine lv_ldc2 (v := 1000) hx hb hown (htw _ m_244) dX_thousandths_13 ?_
    refine lv_lmul hx hb dX_thousandths_16 ?_
    refine lv_lload_n hx hb dX_thousandths_17 rfl (lv_at hl 1 rfl) ?_
    refine lv_ldiv hx hb dX_thousandths_18 hc3 ?_
    refine lv_l2i (v := ((u * 1000) / v).toInt32) hx hb dX_thousandths_19 rfl ?_
    have hP : va_P (dC, dI) vwCl [] s.heap := by first | exact hP | simpa only [] using hP
    have hD : va_D A [] := by first | exact hD | simpa only [] using hD
    exact W.iret (v := ((u * 1000) / v).toInt32) hx hb hr (fun t ht hW => ⟨⟨((u * 1000) / v).toInt32, (), rfl, hret, by rw [ht]; exact hP, va_K.moved hW.alike hK, hD⟩, hS.F ht⟩) hS.2.2 dX_thousandths_20
  · -- 3 not taken
    rw [lg_cmp_eq] at hc3
    have hret : nI 1000 = k_th u v := (if_pos hc3).symm
    refine lv_sipush (v := nI 1000) hx hb dX_thousandths_6 (by decide) ?_
    refine lv_goto (tgt := 20) hx hb dX_thousandths_9 (by decide) ?_
    have hP : va_P (dC, dI) vwCl [] s.heap := by first | exact hP | simpa only [] using hP
    have hD : va_D A [] := by first | exact hD | simpa only [] using hD
    exact W.iret (v := nI 1000) hx hb hr (fun t ht hW => ⟨⟨nI 1000, (), rfl, hret, by rw [ht]; exact hP, va_K.moved hW.alike hK, hD⟩, hS.F ht⟩) hS.2.2 dX_thousandths_20
end
