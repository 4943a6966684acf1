-- ===== PART A: goes FIRST, ahead of the names: the tables' words, and 'selects' of the private methods out of them =====
/-- a private method of a class that the tables say can be made, by its rows of tables_1 -/
def lw_okq (q : MethodName × Nat) : Prop := (q.1.cls ≠ "java/lang/invoke/MethodHandle" ∧ q.1.cls ≠ "java/lang/invoke/VarHandle") ∧ Cond.instantiable q.1.cls q.2 ∈ tables_1 ∧ Cond.privateMethod q.1 ∈ tables_1 ∧ Cond.instanceMethod q.1 ∈ tables_1
theorem lw_p0 : lw_okq (⟨"SettleLayers$Ground", "moveWater", "()Z"⟩, 7) := ⟨⟨by decide +kernel, by decide +kernel⟩, List.mem_of_getElem? (i := 109) (by decide +kernel), List.mem_of_getElem? (i := 209) (by decide +kernel), List.mem_of_getElem? (i := 210) (by decide +kernel)⟩
theorem lw_p1 : lw_okq (⟨"SettleLayers$Ground", "leavingAbove", "()J"⟩, 7) := ⟨⟨by decide +kernel, by decide +kernel⟩, List.mem_of_getElem? (i := 109) (by decide +kernel), List.mem_of_getElem? (i := 213) (by decide +kernel), List.mem_of_getElem? (i := 214) (by decide +kernel)⟩
theorem lw_p2 : lw_okq (⟨"SettleLayers$Ground", "goingBelow", "(I)J"⟩, 7) := ⟨⟨by decide +kernel, by decide +kernel⟩, List.mem_of_getElem? (i := 109) (by decide +kernel), List.mem_of_getElem? (i := 218) (by decide +kernel), List.mem_of_getElem? (i := 219) (by decide +kernel)⟩
theorem lw_p3 : lw_okq (⟨"SettleLayers$Ground", "raisePasts", "()V"⟩, 7) := ⟨⟨by decide +kernel, by decide +kernel⟩, List.mem_of_getElem? (i := 109) (by decide +kernel), List.mem_of_getElem? (i := 222) (by decide +kernel), List.mem_of_getElem? (i := 223) (by decide +kernel)⟩
theorem lw_p4 : lw_okq (⟨"SettleLayers", "unitsSunkWith", "(II)J"⟩, 6) := ⟨⟨by decide +kernel, by decide +kernel⟩, List.mem_of_getElem? (i := 9) (by decide +kernel), List.mem_of_getElem? (i := 297) (by decide +kernel), List.mem_of_getElem? (i := 298) (by decide +kernel)⟩
theorem lw_p5 : lw_okq (⟨"SettleLayersModel", "goDay", "(IJ)V"⟩, 24) := ⟨⟨by decide +kernel, by decide +kernel⟩, List.mem_of_getElem? (i := 352) (by decide +kernel), List.mem_of_getElem? (i := 458) (by decide +kernel), List.mem_of_getElem? (i := 459) (by decide +kernel)⟩
theorem lw_p6 : lw_okq (⟨"SettleLayersModel", "step", "()V"⟩, 24) := ⟨⟨by decide +kernel, by decide +kernel⟩, List.mem_of_getElem? (i := 352) (by decide +kernel), List.mem_of_getElem? (i := 462) (by decide +kernel), List.mem_of_getElem? (i := 463) (by decide +kernel)⟩
theorem lw_p7 : lw_okq (⟨"SettleLayersModel", "sinking", "(IJJ)J"⟩, 24) := ⟨⟨by decide +kernel, by decide +kernel⟩, List.mem_of_getElem? (i := 352) (by decide +kernel), List.mem_of_getElem? (i := 466) (by decide +kernel), List.mem_of_getElem? (i := 467) (by decide +kernel)⟩
theorem lw_p8 : lw_okq (⟨"SettleLayersModel", "units", "(I)J"⟩, 24) := ⟨⟨by decide +kernel, by decide +kernel⟩, List.mem_of_getElem? (i := 352) (by decide +kernel), List.mem_of_getElem? (i := 470) (by decide +kernel), List.mem_of_getElem? (i := 471) (by decide +kernel)⟩
theorem lw_p9 : lw_okq (⟨"SettleLayersModel", "endUnits", "()J"⟩, 24) := ⟨⟨by decide +kernel, by decide +kernel⟩, List.mem_of_getElem? (i := 352) (by decide +kernel), List.mem_of_getElem? (i := 496) (by decide +kernel), List.mem_of_getElem? (i := 497) (by decide +kernel)⟩
theorem lw_p10 : lw_okq (⟨"SettleLayersModel", "shareNow", "()I"⟩, 24) := ⟨⟨by decide +kernel, by decide +kernel⟩, List.mem_of_getElem? (i := 352) (by decide +kernel), List.mem_of_getElem? (i := 504) (by decide +kernel), List.mem_of_getElem? (i := 505) (by decide +kernel)⟩
theorem lw_p11 : lw_okq (⟨"SettleLayersModel", "keep", "()V"⟩, 24) := ⟨⟨by decide +kernel, by decide +kernel⟩, List.mem_of_getElem? (i := 352) (by decide +kernel), List.mem_of_getElem? (i := 512) (by decide +kernel), List.mem_of_getElem? (i := 513) (by decide +kernel)⟩
theorem lw_p12 : lw_okq (⟨"SettleLayersModel", "putBack", "()V"⟩, 24) := ⟨⟨by decide +kernel, by decide +kernel⟩, List.mem_of_getElem? (i := 352) (by decide +kernel), List.mem_of_getElem? (i := 516) (by decide +kernel), List.mem_of_getElem? (i := 517) (by decide +kernel)⟩
def lw_privs_1 : List (MethodName × Nat) := [(⟨"SettleLayers$Ground", "moveWater", "()Z"⟩, 7), (⟨"SettleLayers$Ground", "leavingAbove", "()J"⟩, 7), (⟨"SettleLayers$Ground", "goingBelow", "(I)J"⟩, 7), (⟨"SettleLayers$Ground", "raisePasts", "()V"⟩, 7), (⟨"SettleLayers", "unitsSunkWith", "(II)J"⟩, 6), (⟨"SettleLayersModel", "goDay", "(IJ)V"⟩, 24), (⟨"SettleLayersModel", "step", "()V"⟩, 24), (⟨"SettleLayersModel", "sinking", "(IJJ)J"⟩, 24), (⟨"SettleLayersModel", "units", "(I)J"⟩, 24), (⟨"SettleLayersModel", "endUnits", "()J"⟩, 24), (⟨"SettleLayersModel", "shareNow", "()I"⟩, 24), (⟨"SettleLayersModel", "keep", "()V"⟩, 24), (⟨"SettleLayersModel", "putBack", "()V"⟩, 24)]
theorem lw_r1 : ∀ q ∈ lw_privs_1, lw_okq q := List.forall_mem_cons.mpr ⟨lw_p0, List.forall_mem_cons.mpr ⟨lw_p1, List.forall_mem_cons.mpr ⟨lw_p2, List.forall_mem_cons.mpr ⟨lw_p3, List.forall_mem_cons.mpr ⟨lw_p4, List.forall_mem_cons.mpr ⟨lw_p5, List.forall_mem_cons.mpr ⟨lw_p6, List.forall_mem_cons.mpr ⟨lw_p7, List.forall_mem_cons.mpr ⟨lw_p8, List.forall_mem_cons.mpr ⟨lw_p9, List.forall_mem_cons.mpr ⟨lw_p10, List.forall_mem_cons.mpr ⟨lw_p11, List.forall_mem_cons.mpr ⟨lw_p12, fun _ h => absurd h List.not_mem_nil⟩⟩⟩⟩⟩⟩⟩⟩⟩⟩⟩⟩⟩
def lw_privs : List (MethodName × Nat) := lw_privs_1
def lw_tbl : List Cond := k2_sels lw_privs ++ tables_1
theorem lw_privs_ok : ∀ q ∈ lw_privs, lw_okq q := lw_r1
-- ===== the names: by a program of mine (wip/gen/names.py) out of the tables and the listing =====
def R_G : String := "SettleLayers$Ground"
def T_G : u_T := fun k => match k with
  | 0 => ("SettleLayers$Ground", "soil", "LSettleLayers$Soil;", true)
  | 1 => ("SettleLayers$Ground", "loads", "LSettleLayers$Loads;", true)
  | 2 => ("SettleLayers$Ground", "pressure", "[J", true)
  | 3 => ("SettleLayers$Ground", "past", "[J", true)
  | 4 => ("SettleLayers$Ground", "day", "I", false)
  | 5 => ("SettleLayers$Ground", "come", "J", false)
  | _ => ("SettleLayers$Ground", "waterOut", "J", false)
def ty_G : Nat → FieldType := fun k => match k with
  | 0 => .object "SettleLayers$Soil"
  | 1 => .object "SettleLayers$Loads"
  | 2 => .array .long
  | 3 => .array .long
  | 4 => .int
  | 5 => .long
  | _ => .long
theorem tok_G : ∀ k, k < 7 → parseFieldDescriptor (T_G k).2.2.1 = some (ty_G k) := by decide +kernel
theorem nnm_G : ∀ a, a < 7 → ∀ b, b < 7 → a ≠ b → (T_G a).2.1 ≠ (T_G b).2.1 := by decide +kernel
def R_O : String := "SettleLayers$Loads"
def T_O : u_T := fun k => match k with
  | 0 => ("SettleLayers$Loads", "day", "[I", true)
  | 1 => ("SettleLayers$Loads", "pascals", "[I", true)
  | 2 => ("SettleLayers$Loads", "many", "I", false)
  | _ => ("SettleLayers$Loads", "sum", "J", false)
def ty_O : Nat → FieldType := fun k => match k with
  | 0 => .array .int
  | 1 => .array .int
  | 2 => .int
  | _ => .long
theorem tok_O : ∀ k, k < 4 → parseFieldDescriptor (T_O k).2.2.1 = some (ty_O k) := by decide +kernel
theorem nnm_O : ∀ a, a < 4 → ∀ b, b < 4 → a ≠ b → (T_O a).2.1 ≠ (T_O b).2.1 := by decide +kernel
def R_D : String := "SettleLayers$Readings"
def T_D : u_T := fun k => match k with
  | 0 => ("SettleLayers$Readings", "day", "[I", true)
  | 1 => ("SettleLayers$Readings", "micrometres", "[J", true)
  | _ => ("SettleLayers$Readings", "many", "I", false)
def ty_D : Nat → FieldType := fun k => match k with
  | 0 => .array .int
  | 1 => .array .long
  | _ => .int
theorem tok_D : ∀ k, k < 3 → parseFieldDescriptor (T_D k).2.2.1 = some (ty_D k) := by decide +kernel
theorem nnm_D : ∀ a, a < 3 → ∀ b, b < 3 → a ≠ b → (T_D a).2.1 ≠ (T_D b).2.1 := by decide +kernel
def R_S : String := "SettleLayers$Soil"
def T_S : u_T := fun k => match k with
  | 0 => ("SettleLayers$Soil", "leak", "[I", true)
  | 1 => ("SettleLayers$Soil", "leakToNext", "[I", true)
  | 2 => ("SettleLayers$Soil", "hard", "[I", true)
  | 3 => ("SettleLayers$Soil", "soft", "[I", true)
  | 4 => ("SettleLayers$Soil", "firstPast", "[I", true)
  | 5 => ("SettleLayers$Soil", "firstCell", "[I", true)
  | 6 => ("SettleLayers$Soil", "layers", "I", false)
  | 7 => ("SettleLayers$Soil", "cells", "I", false)
  | 8 => ("SettleLayers$Soil", "drainedAbove", "Z", false)
  | 9 => ("SettleLayers$Soil", "drainedBelow", "Z", false)
  | _ => ("SettleLayers$Soil", "drain", "I", false)
def ty_S : Nat → FieldType := fun k => match k with
  | 0 => .array .int
  | 1 => .array .int
  | 2 => .array .int
  | 3 => .array .int
  | 4 => .array .int
  | 5 => .array .int
  | 6 => .int
  | 7 => .int
  | 8 => .boolean
  | 9 => .boolean
  | _ => .int
theorem tok_S : ∀ k, k < 11 → parseFieldDescriptor (T_S k).2.2.1 = some (ty_S k) := by decide +kernel
theorem nnm_S : ∀ a, a < 11 → ∀ b, b < 11 → a ≠ b → (T_S a).2.1 ≠ (T_S b).2.1 := by decide +kernel
def R_X : String := "SettleLayers"
def T_X : u_T := fun k => match k with
  | 0 => ("SettleLayers", "soil", "LSettleLayers$Soil;", true)
  | 1 => ("SettleLayers", "loads", "LSettleLayers$Loads;", true)
  | 2 => ("SettleLayers", "readings", "LSettleLayers$Readings;", true)
  | 3 => ("SettleLayers", "now", "LSettleLayers$Ground;", true)
  | 4 => ("SettleLayers", "trial", "LSettleLayers$Ground;", true)
  | _ => ("SettleLayers", "micrometresAtDay", "[J", true)
def ty_X : Nat → FieldType := fun k => match k with
  | 0 => .object "SettleLayers$Soil"
  | 1 => .object "SettleLayers$Loads"
  | 2 => .object "SettleLayers$Readings"
  | 3 => .object "SettleLayers$Ground"
  | 4 => .object "SettleLayers$Ground"
  | _ => .array .long
theorem tok_X : ∀ k, k < 6 → parseFieldDescriptor (T_X k).2.2.1 = some (ty_X k) := by decide +kernel
theorem nnm_X : ∀ a, a < 6 → ∀ b, b < 6 → a ≠ b → (T_X a).2.1 ≠ (T_X b).2.1 := by decide +kernel
def R_M : String := "SettleLayersModel"
def T_M : u_T := fun k => match k with
  | 0 => ("SettleLayersModel", "layers", "I", false)
  | 1 => ("SettleLayersModel", "cells", "I", false)
  | 2 => ("SettleLayersModel", "layerOf", "[I", true)
  | 3 => ("SettleLayersModel", "leaks", "[I", true)
  | 4 => ("SettleLayersModel", "hards", "[I", true)
  | 5 => ("SettleLayersModel", "softs", "[I", true)
  | 6 => ("SettleLayersModel", "pressures", "[J", true)
  | 7 => ("SettleLayersModel", "pasts", "[J", true)
  | 8 => ("SettleLayersModel", "sinks", "[J", true)
  | 9 => ("SettleLayersModel", "come", "J", false)
  | 10 => ("SettleLayersModel", "gone", "J", false)
  | 11 => ("SettleLayersModel", "day", "I", false)
  | 12 => ("SettleLayersModel", "above", "Z", false)
  | 13 => ("SettleLayersModel", "below", "Z", false)
  | 14 => ("SettleLayersModel", "drain", "I", false)
  | 15 => ("SettleLayersModel", "loads", "I", false)
  | 16 => ("SettleLayersModel", "loadDays", "[I", true)
  | 17 => ("SettleLayersModel", "loadSizes", "[I", true)
  | 18 => ("SettleLayersModel", "readings", "I", false)
  | 19 => ("SettleLayersModel", "readDays", "[I", true)
  | 20 => ("SettleLayersModel", "readValues", "[J", true)
  | 21 => ("SettleLayersModel", "history", "[J", true)
  | 22 => ("SettleLayersModel", "flows", "[J", true)
  | _ => ("SettleLayersModel", "kept", "[J", true)
def ty_M : Nat → FieldType := fun k => match k with
  | 0 => .int
  | 1 => .int
  | 2 => .array .int
  | 3 => .array .int
  | 4 => .array .int
  | 5 => .array .int
  | 6 => .array .long
  | 7 => .array .long
  | 8 => .array .long
  | 9 => .long
  | 10 => .long
  | 11 => .int
  | 12 => .boolean
  | 13 => .boolean
  | 14 => .int
  | 15 => .int
  | 16 => .array .int
  | 17 => .array .int
  | 18 => .int
  | 19 => .array .int
  | 20 => .array .long
  | 21 => .array .long
  | 22 => .array .long
  | _ => .array .long
theorem tok_M : ∀ k, k < 24 → parseFieldDescriptor (T_M k).2.2.1 = some (ty_M k) := by decide +kernel
theorem nnm_M : ∀ a, a < 24 → ∀ b, b < 24 → a ≠ b → (T_M a).2.1 ≠ (T_M b).2.1 := by decide +kernel
abbrev vwCl : List vw_C := [(R_G, T_G, 7), (R_O, T_O, 4), (R_D, T_D, 3), (R_S, T_S, 11), (R_X, T_X, 6), (R_M, T_M, 24)]
/-- the words that all contracts rest on -/
def WA : List Cond := lw_tbl.filter goodWord
theorem il_G : ∀ w ∈ u_ws R_G T_G 7, w ∈ lw_tbl ∧ goodWord w = true := by decide +kernel
theorem in_G : ∀ w ∈ u_ws R_G T_G 7, w ∈ WA := fun w h => List.mem_filter.mpr (il_G w h)
theorem il_O : ∀ w ∈ u_ws R_O T_O 4, w ∈ lw_tbl ∧ goodWord w = true := by decide +kernel
theorem in_O : ∀ w ∈ u_ws R_O T_O 4, w ∈ WA := fun w h => List.mem_filter.mpr (il_O w h)
theorem il_D : ∀ w ∈ u_ws R_D T_D 3, w ∈ lw_tbl ∧ goodWord w = true := by decide +kernel
theorem in_D : ∀ w ∈ u_ws R_D T_D 3, w ∈ WA := fun w h => List.mem_filter.mpr (il_D w h)
theorem il_S : ∀ w ∈ u_ws R_S T_S 11, w ∈ lw_tbl ∧ goodWord w = true := by decide +kernel
theorem in_S : ∀ w ∈ u_ws R_S T_S 11, w ∈ WA := fun w h => List.mem_filter.mpr (il_S w h)
theorem il_X : ∀ w ∈ u_ws R_X T_X 6, w ∈ lw_tbl ∧ goodWord w = true := by decide +kernel
theorem in_X : ∀ w ∈ u_ws R_X T_X 6, w ∈ WA := fun w h => List.mem_filter.mpr (il_X w h)
theorem il_M : ∀ w ∈ u_ws R_M T_M 24, w ∈ lw_tbl ∧ goodWord w = true := by decide +kernel
theorem in_M : ∀ w ∈ u_ws R_M T_M 24, w ∈ WA := fun w h => List.mem_filter.mpr (il_M w h)
abbrev bX_init : ByteArray := prog_1_method_1_code
def yX_init : MethodName := ⟨R_X, "<init>", "()V"⟩
abbrev wX_init : List Cond := .code yX_init bX_init 1 none :: WA
abbrev bS_init : ByteArray := prog_5_method_1_code
def yS_init : MethodName := ⟨R_S, "<init>", "()V"⟩
abbrev wS_init : List Cond := .code yS_init bS_init 1 none :: WA
abbrev bO_init : ByteArray := prog_3_method_1_code
def yO_init : MethodName := ⟨R_O, "<init>", "()V"⟩
abbrev wO_init : List Cond := .code yO_init bO_init 1 none :: WA
abbrev bD_init : ByteArray := prog_4_method_1_code
def yD_init : MethodName := ⟨R_D, "<init>", "()V"⟩
abbrev wD_init : List Cond := .code yD_init bD_init 1 none :: WA
abbrev bG_init : ByteArray := prog_2_method_1_code
def yG_init : MethodName := ⟨R_G, "<init>", "(LSettleLayers$Soil;LSettleLayers$Loads;)V"⟩
abbrev wG_init : List Cond := .code yG_init bG_init 3 none :: WA
abbrev bX_layer : ByteArray := prog_1_method_2_code
def yX_layer : MethodName := ⟨R_X, "layer", "(IIIII)I"⟩
abbrev wX_layer : List Cond := .code yX_layer bX_layer 6 (some .int) :: WA
abbrev bX_within : ByteArray := prog_1_method_19_code
def yX_within : MethodName := ⟨R_X, "within", "(III)Z"⟩
abbrev wX_within : List Cond := .code yX_within bX_within 3 (some .boolean) :: WA
abbrev bG_begin : ByteArray := prog_2_method_2_code
def yG_begin : MethodName := ⟨R_G, "begin", "(III)V"⟩
abbrev wG_begin : List Cond := .code yG_begin bG_begin 5 none :: WA
abbrev bS_addLayer : ByteArray := prog_5_method_2_code
def yS_addLayer : MethodName := ⟨R_S, "addLayer", "(IIIII)I"⟩
abbrev wS_addLayer : List Cond := .code yS_addLayer bS_addLayer 7 (some .int) :: WA
abbrev bX_drains : ByteArray := prog_1_method_3_code
def yX_drains : MethodName := ⟨R_X, "drains", "(ZZI)Z"⟩
abbrev wX_drains : List Cond := .code yX_drains bX_drains 4 (some .boolean) :: WA
abbrev bX_load : ByteArray := prog_1_method_4_code
def yX_load : MethodName := ⟨R_X, "load", "(II)I"⟩
abbrev wX_load : List Cond := .code yX_load bX_load 3 (some .int) :: WA
abbrev bO_add : ByteArray := prog_3_method_2_code
def yO_add : MethodName := ⟨R_O, "add", "(II)I"⟩
abbrev wO_add : List Cond := .code yO_add bO_add 3 (some .int) :: WA
abbrev bX_run : ByteArray := prog_1_method_5_code
def yX_run : MethodName := ⟨R_X, "run", "(I)I"⟩
abbrev wX_run : List Cond := .code yX_run bX_run 3 (some .int) :: WA
abbrev bG_passDay : ByteArray := prog_2_method_5_code
def yG_passDay : MethodName := ⟨R_G, "passDay", "()V"⟩
abbrev wG_passDay : List Cond := .code yG_passDay bG_passDay 3 none :: WA
abbrev bO_comingOn : ByteArray := prog_3_method_3_code
def yO_comingOn : MethodName := ⟨R_O, "comingOn", "(I)J"⟩
abbrev wO_comingOn : List Cond := .code yO_comingOn bO_comingOn 5 (some .long) :: WA
abbrev bG_lay : ByteArray := prog_2_method_4_code
def yG_lay : MethodName := ⟨R_G, "lay", "(J)V"⟩
abbrev wG_lay : List Cond := .code yG_lay bG_lay 4 none :: WA
abbrev bG_moveWater : ByteArray := prog_2_method_6_code
def yG_moveWater : MethodName := ⟨R_G, "moveWater", "()Z"⟩
abbrev wG_moveWater : List Cond := .code yG_moveWater bG_moveWater 9 (some .boolean) :: WA
abbrev bG_leavingAbove : ByteArray := prog_2_method_7_code
def yG_leavingAbove : MethodName := ⟨R_G, "leavingAbove", "()J"⟩
abbrev wG_leavingAbove : List Cond := .code yG_leavingAbove bG_leavingAbove 1 (some .long) :: WA
abbrev bG_goingBelow : ByteArray := prog_2_method_8_code
def yG_goingBelow : MethodName := ⟨R_G, "goingBelow", "(I)J"⟩
abbrev wG_goingBelow : List Cond := .code yG_goingBelow bG_goingBelow 2 (some .long) :: WA
abbrev bG_raisePasts : ByteArray := prog_2_method_9_code
def yG_raisePasts : MethodName := ⟨R_G, "raisePasts", "()V"⟩
abbrev wG_raisePasts : List Cond := .code yG_raisePasts bG_raisePasts 2 none :: WA
abbrev bG_carried : ByteArray := prog_2_method_10_code
def yG_carried : MethodName := ⟨R_G, "carried", "(I)J"⟩
abbrev wG_carried : List Cond := .code yG_carried bG_carried 2 (some .long) :: WA
abbrev bG_unitsSunk : ByteArray := prog_2_method_12_code
def yG_unitsSunk : MethodName := ⟨R_G, "unitsSunk", "()J"⟩
abbrev wG_unitsSunk : List Cond := .code yG_unitsSunk bG_unitsSunk 1 (some .long) :: WA
abbrev bG_unitsSunk2 : ByteArray := prog_2_method_13_code
def yG_unitsSunk2 : MethodName := ⟨R_G, "unitsSunk", "(II)J"⟩
abbrev wG_unitsSunk2 : List Cond := .code yG_unitsSunk2 bG_unitsSunk2 6 (some .long) :: WA
abbrev bS_unitsSunk : ByteArray := prog_5_method_3_code
def yS_unitsSunk : MethodName := ⟨R_S, "unitsSunk", "(IJJ)J"⟩
abbrev wS_unitsSunk : List Cond := .code yS_unitsSunk bS_unitsSunk 6 (some .long) :: WA
abbrev bX_sunk : ByteArray := prog_1_method_6_code
def yX_sunk : MethodName := ⟨R_X, "sunk", "(I)J"⟩
abbrev wX_sunk : List Cond := .code yX_sunk bX_sunk 2 (some .long) :: WA
abbrev bX_told : ByteArray := prog_1_method_7_code
def yX_told : MethodName := ⟨R_X, "told", "(II)I"⟩
abbrev wX_told : List Cond := .code yX_told bX_told 3 (some .int) :: WA
abbrev bX_out : ByteArray := prog_1_method_8_code
def yX_out : MethodName := ⟨R_X, "out", "()J"⟩
abbrev wX_out : List Cond := .code yX_out bX_out 1 (some .long) :: WA
abbrev bX_balance : ByteArray := prog_1_method_9_code
def yX_balance : MethodName := ⟨R_X, "balance", "()Z"⟩
abbrev wX_balance : List Cond := .code yX_balance bX_balance 1 (some .boolean) :: WA
abbrev bG_allPressures : ByteArray := prog_2_method_11_code
def yG_allPressures : MethodName := ⟨R_G, "allPressures", "()J"⟩
abbrev wG_allPressures : List Cond := .code yG_allPressures bG_allPressures 4 (some .long) :: WA
abbrev bX_end : ByteArray := prog_1_method_10_code
def yX_end : MethodName := ⟨R_X, "end", "()J"⟩
abbrev wX_end : List Cond := .code yX_end bX_end 1 (some .long) :: WA
abbrev bG_unitsAtEnd : ByteArray := prog_2_method_14_code
def yG_unitsAtEnd : MethodName := ⟨R_G, "unitsAtEnd", "()J"⟩
abbrev wG_unitsAtEnd : List Cond := .code yG_unitsAtEnd bG_unitsAtEnd 4 (some .long) :: WA
abbrev bX_share : ByteArray := prog_1_method_11_code
def yX_share : MethodName := ⟨R_X, "share", "()I"⟩
abbrev wX_share : List Cond := .code yX_share bX_share 1 (some .int) :: WA
abbrev bX_thousandths : ByteArray := prog_1_method_20_code
def yX_thousandths : MethodName := ⟨R_X, "thousandths", "(JJ)I"⟩
abbrev wX_thousandths : List Cond := .code yX_thousandths bX_thousandths 4 (some .int) :: WA
abbrev bX_until : ByteArray := prog_1_method_12_code
def yX_until : MethodName := ⟨R_X, "until", "(I)I"⟩
abbrev wX_until : List Cond := .code yX_until bX_until 5 (some .int) :: WA
abbrev bG_become : ByteArray := prog_2_method_3_code
def yG_become : MethodName := ⟨R_G, "become", "(LSettleLayers$Ground;)V"⟩
abbrev wG_become : List Cond := .code yG_become bG_become 3 none :: WA
abbrev bX_surcharge : ByteArray := prog_1_method_13_code
def yX_surcharge : MethodName := ⟨R_X, "surcharge", "(II)I"⟩
abbrev wX_surcharge : List Cond := .code yX_surcharge bX_surcharge 6 (some .int) :: WA
abbrev bX_unitsSunkWith : ByteArray := prog_1_method_18_code
def yX_unitsSunkWith : MethodName := ⟨R_X, "unitsSunkWith", "(II)J"⟩
abbrev wX_unitsSunkWith : List Cond := .code yX_unitsSunkWith bX_unitsSunkWith 4 (some .long) :: WA
abbrev bX_read : ByteArray := prog_1_method_14_code
def yX_read : MethodName := ⟨R_X, "read", "(IJ)I"⟩
abbrev wX_read : List Cond := .code yX_read bX_read 4 (some .int) :: WA
abbrev bD_firstFreeDay : ByteArray := prog_4_method_2_code
def yD_firstFreeDay : MethodName := ⟨R_D, "firstFreeDay", "()I"⟩
abbrev wD_firstFreeDay : List Cond := .code yD_firstFreeDay bD_firstFreeDay 1 (some .int) :: WA
abbrev bD_add : ByteArray := prog_4_method_3_code
def yD_add : MethodName := ⟨R_D, "add", "(IJ)I"⟩
abbrev wD_add : List Cond := .code yD_add bD_add 4 (some .int) :: WA
abbrev bX_foretold : ByteArray := prog_1_method_15_code
def yX_foretold : MethodName := ⟨R_X, "foretold", "(I)J"⟩
abbrev wX_foretold : List Cond := .code yX_foretold bX_foretold 2 (some .long) :: WA
abbrev bD_foretellByLastThree : ByteArray := prog_4_method_4_code
def yD_foretellByLastThree : MethodName := ⟨R_D, "foretellByLastThree", "()J"⟩
abbrev wD_foretellByLastThree : List Cond := .code yD_foretellByLastThree bD_foretellByLastThree 7 (some .long) :: WA
abbrev bD_tooGreat : ByteArray := prog_4_method_7_code
def yD_tooGreat : MethodName := ⟨R_D, "tooGreat", "(J)Z"⟩
abbrev wD_tooGreat : List Cond := .code yD_tooGreat bD_tooGreat 2 (some .boolean) :: WA
abbrev bD_quotient : ByteArray := prog_4_method_8_code
def yD_quotient : MethodName := ⟨R_D, "quotient", "(JJ)J"⟩
abbrev wD_quotient : List Cond := .code yD_quotient bD_quotient 4 (some .long) :: WA
abbrev bD_foretellByLastTwo : ByteArray := prog_4_method_5_code
def yD_foretellByLastTwo : MethodName := ⟨R_D, "foretellByLastTwo", "()J"⟩
abbrev wD_foretellByLastTwo : List Cond := .code yD_foretellByLastTwo bD_foretellByLastTwo 9 (some .long) :: WA
abbrev bD_foretellByFirstAndLast : ByteArray := prog_4_method_6_code
def yD_foretellByFirstAndLast : MethodName := ⟨R_D, "foretellByFirstAndLast", "()J"⟩
abbrev wD_foretellByFirstAndLast : List Cond := .code yD_foretellByFirstAndLast bD_foretellByFirstAndLast 7 (some .long) :: WA
abbrev bX_off : ByteArray := prog_1_method_16_code
def yX_off : MethodName := ⟨R_X, "off", "(J)I"⟩
abbrev wX_off : List Cond := .code yX_off bX_off 6 (some .int) :: WA
abbrev bX_count : ByteArray := prog_1_method_17_code
def yX_count : MethodName := ⟨R_X, "count", "(I)I"⟩
abbrev wX_count : List Cond := .code yX_count bX_count 2 (some .int) :: WA
abbrev bM_init : ByteArray := prog_7_method_1_code
def yM_init : MethodName := ⟨R_M, "<init>", "()V"⟩
abbrev wM_init : List Cond := .code yM_init bM_init 1 none :: WA
abbrev bM_layer : ByteArray := prog_7_method_4_code
def yM_layer : MethodName := ⟨R_M, "layer", "(IIIII)I"⟩
abbrev wM_layer : List Cond := .code yM_layer bM_layer 8 (some .int) :: WA
abbrev bM_in : ByteArray := prog_7_method_3_code
def yM_in : MethodName := ⟨R_M, "in", "(JJJ)Z"⟩
abbrev wM_in : List Cond := .code yM_in bM_in 6 (some .boolean) :: WA
abbrev bM_drains : ByteArray := prog_7_method_5_code
def yM_drains : MethodName := ⟨R_M, "drains", "(ZZI)Z"⟩
abbrev wM_drains : List Cond := .code yM_drains bM_drains 4 (some .boolean) :: WA
abbrev bM_load : ByteArray := prog_7_method_6_code
def yM_load : MethodName := ⟨R_M, "load", "(II)I"⟩
abbrev wM_load : List Cond := .code yM_load bM_load 3 (some .int) :: WA
abbrev bM_run : ByteArray := prog_7_method_11_code
def yM_run : MethodName := ⟨R_M, "run", "(I)I"⟩
abbrev wM_run : List Cond := .code yM_run bM_run 3 (some .int) :: WA
abbrev bM_goDay : ByteArray := prog_7_method_9_code
def yM_goDay : MethodName := ⟨R_M, "goDay", "(IJ)V"⟩
abbrev wM_goDay : List Cond := .code yM_goDay bM_goDay 7 none :: WA
abbrev bM_step : ByteArray := prog_7_method_8_code
def yM_step : MethodName := ⟨R_M, "step", "()V"⟩
abbrev wM_step : List Cond := .code yM_step bM_step 10 none :: WA
abbrev bM_sinking : ByteArray := prog_7_method_7_code
def yM_sinking : MethodName := ⟨R_M, "sinking", "(IJJ)J"⟩
abbrev wM_sinking : List Cond := .code yM_sinking bM_sinking 8 (some .long) :: WA
abbrev bM_units : ByteArray := prog_7_method_10_code
def yM_units : MethodName := ⟨R_M, "units", "(I)J"⟩
abbrev wM_units : List Cond := .code yM_units bM_units 5 (some .long) :: WA
abbrev bM_sunk : ByteArray := prog_7_method_12_code
def yM_sunk : MethodName := ⟨R_M, "sunk", "(I)J"⟩
abbrev wM_sunk : List Cond := .code yM_sunk bM_sunk 2 (some .long) :: WA
abbrev bM_told : ByteArray := prog_7_method_13_code
def yM_told : MethodName := ⟨R_M, "told", "(II)I"⟩
abbrev wM_told : List Cond := .code yM_told bM_told 3 (some .int) :: WA
abbrev bM_out : ByteArray := prog_7_method_14_code
def yM_out : MethodName := ⟨R_M, "out", "()J"⟩
abbrev wM_out : List Cond := .code yM_out bM_out 1 (some .long) :: WA
abbrev bM_balance : ByteArray := prog_7_method_15_code
def yM_balance : MethodName := ⟨R_M, "balance", "()Z"⟩
abbrev wM_balance : List Cond := .code yM_balance bM_balance 4 (some .boolean) :: WA
abbrev bM_end : ByteArray := prog_7_method_17_code
def yM_end : MethodName := ⟨R_M, "end", "()J"⟩
abbrev wM_end : List Cond := .code yM_end bM_end 1 (some .long) :: WA
abbrev bM_endUnits : ByteArray := prog_7_method_16_code
def yM_endUnits : MethodName := ⟨R_M, "endUnits", "()J"⟩
abbrev wM_endUnits : List Cond := .code yM_endUnits bM_endUnits 6 (some .long) :: WA
abbrev bM_share : ByteArray := prog_7_method_19_code
def yM_share : MethodName := ⟨R_M, "share", "()I"⟩
abbrev wM_share : List Cond := .code yM_share bM_share 1 (some .int) :: WA
abbrev bM_shareNow : ByteArray := prog_7_method_18_code
def yM_shareNow : MethodName := ⟨R_M, "shareNow", "()I"⟩
abbrev wM_shareNow : List Cond := .code yM_shareNow bM_shareNow 3 (some .int) :: WA
abbrev bM_until : ByteArray := prog_7_method_22_code
def yM_until : MethodName := ⟨R_M, "until", "(I)I"⟩
abbrev wM_until : List Cond := .code yM_until bM_until 3 (some .int) :: WA
abbrev bM_keep : ByteArray := prog_7_method_20_code
def yM_keep : MethodName := ⟨R_M, "keep", "()V"⟩
abbrev wM_keep : List Cond := .code yM_keep bM_keep 2 none :: WA
abbrev bM_putBack : ByteArray := prog_7_method_21_code
def yM_putBack : MethodName := ⟨R_M, "putBack", "()V"⟩
abbrev wM_putBack : List Cond := .code yM_putBack bM_putBack 2 none :: WA
abbrev bM_surcharge : ByteArray := prog_7_method_23_code
def yM_surcharge : MethodName := ⟨R_M, "surcharge", "(II)I"⟩
abbrev wM_surcharge : List Cond := .code yM_surcharge bM_surcharge 7 (some .int) :: WA
abbrev bM_read : ByteArray := prog_7_method_24_code
def yM_read : MethodName := ⟨R_M, "read", "(IJ)I"⟩
abbrev wM_read : List Cond := .code yM_read bM_read 5 (some .int) :: WA
abbrev bM_foretold : ByteArray := prog_7_method_25_code
def yM_foretold : MethodName := ⟨R_M, "foretold", "(I)J"⟩
abbrev wM_foretold : List Cond := .code yM_foretold bM_foretold 15 (some .long) :: WA
abbrev bM_off : ByteArray := prog_7_method_26_code
def yM_off : MethodName := ⟨R_M, "off", "(J)I"⟩
abbrev wM_off : List Cond := .code yM_off bM_off 7 (some .int) :: WA
abbrev bM_count : ByteArray := prog_7_method_27_code
def yM_count : MethodName := ⟨R_M, "count", "(I)I"⟩
abbrev wM_count : List Cond := .code yM_count bM_count 2 (some .int) :: WA
