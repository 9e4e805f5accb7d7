/-! Names: methods, their code; fields; words by their places in the tables. -/
/-- all good words of the tables -/
def bw : List Cond := lw_tbl.filter goodWord
theorem bw_in {w : Cond} (h : w ∈ lw_tbl) (g : goodWord w = true) : w ∈ bw := List.mem_filter.mpr ⟨h, g⟩
theorem bw_tb {w : Cond} (h : w ∈ bw) : w ∈ lw_tbl := (List.mem_filter.mp h).1
theorem bw_good {w : Cond} (h : w ∈ bw) : (w.onTables && w.keeps) = true ∨ ∃ ty, w = .arrayClass ty := good_of_word (List.mem_filter.mp h).2
theorem tg_V {c1 c2 : Cond} {own C : String} {idx : Nat} {y : MethodName} (h1 : Cond.methodLink own idx y ∈ bw) (h2 : Cond.instanceMethod y ∈ bw) (h3 : Cond.selects C y y ∈ bw) (h4 : Cond.initialized C ∈ bw) (h5 : c2 ∈ bw) : GoodIn (c1 :: bw) (wsV own idx C y (c2 :: bw)) := by
  intro w hw
  have hm : w ∈ bw := by
    unfold wsV at hw
    rcases List.mem_append.mp hw with h | h
    · rcases List.mem_cons.mp h with rfl | h
      · exact h1
      rcases List.mem_cons.mp h with rfl | h
      · exact h2
      rcases List.mem_cons.mp h with rfl | h
      · exact h3
      rcases List.mem_cons.mp h with rfl | h
      · exact h4
      · cases h
    · rcases List.mem_cons.mp h with rfl | h
      · exact h5
      · exact h
  exact ⟨List.mem_cons_of_mem _ hm, bw_good hm⟩
theorem tg_S {c1 c2 : Cond} {own : String} {idx : Nat} {y : MethodName} (h1 : Cond.methodLink own idx y ∈ bw) (h2 : Cond.static y ∈ bw) (h3 : Cond.initialized y.cls ∈ bw) (h5 : c2 ∈ bw) : GoodIn (c1 :: bw) (va_wsS own idx y (c2 :: bw)) := by
  intro w hw
  have hm : w ∈ bw := by
    unfold va_wsS at hw
    rcases List.mem_append.mp hw with h | h
    · rcases List.mem_cons.mp h with rfl | h
      · exact h1
      rcases List.mem_cons.mp h with rfl | h
      · exact h2
      rcases List.mem_cons.mp h with rfl | h
      · exact h3
      · cases h
    · rcases List.mem_cons.mp h with rfl | h
      · exact h5
      · exact h
  exact ⟨List.mem_cons_of_mem _ hm, bw_good hm⟩
theorem tg_N {c1 c2 : Cond} (h5 : c2 ∈ bw) : GoodIn (c1 :: bw) (c2 :: bw) := by
  intro w hw
  have hm : w ∈ bw := by
    rcases List.mem_cons.mp hw with rfl | h
    · exact h5
    · exact h
  exact ⟨List.mem_cons_of_mem _ hm, bw_good hm⟩
def TM : u_T := fun k => match k with
  | 0 => ("FlashStore$Flash", "words", "[I", true)
  | _ => ("FlashStore$Flash", "erasures", "[I", true)
def tyTM : Nat → FieldType := fun k => match k with
  | 0 => .array .int
  | _ => .array .int
theorem nmTM : ∀ a, a < 2 → ∀ b, b < 2 → a ≠ b → (TM a).2.1 ≠ (TM b).2.1 := by decide +kernel
theorem tyTM_ok : ∀ k, k < 2 → parseFieldDescriptor (TM k).2.2.1 = some (tyTM k) := by decide +kernel
theorem iwTM : ∀ w ∈ u_ws "FlashStore$Flash" TM 2, w ∈ bw := by decide +kernel
theorem inTM {c1 : Cond} : ∀ w ∈ u_ws "FlashStore$Flash" TM 2, w ∈ c1 :: bw := fun w h => List.mem_cons_of_mem _ (iwTM w h)
def TF : u_T := fun k => match k with
  | 0 => ("FlashStore", "memory", "LFlashStore$Flash;", true)
  | 1 => ("FlashStore", "states", "[I", true)
  | 2 => ("FlashStore", "places", "[I", true)
  | 3 => ("FlashStore", "takenSerials", "[I", true)
  | 4 => ("FlashStore", "nextSerial", "I", false)
  | _ => ("FlashStore", "lastMended", "I", false)
def tyTF : Nat → FieldType := fun k => match k with
  | 0 => .object "FlashStore$Flash"
  | 1 => .array .int
  | 2 => .array .int
  | 3 => .array .int
  | 4 => .int
  | _ => .int
theorem nmTF : ∀ a, a < 6 → ∀ b, b < 6 → a ≠ b → (TF a).2.1 ≠ (TF b).2.1 := by decide +kernel
theorem tyTF_ok : ∀ k, k < 6 → parseFieldDescriptor (TF k).2.2.1 = some (tyTF k) := by decide +kernel
theorem iwTF : ∀ w ∈ u_ws "FlashStore" TF 6, w ∈ bw := by decide +kernel
theorem inTF {c1 : Cond} : ∀ w ∈ u_ws "FlashStore" TF 6, w ∈ c1 :: bw := fun w h => List.mem_cons_of_mem _ (iwTF w h)
def TR : u_T := fun k => match k with
  | 0 => ("FlashStoreModel", "thrown", "I", false)
  | 1 => ("FlashStoreModel", "remainder", "[I", true)
  | 2 => ("FlashStoreModel", "flash", "[I", true)
  | 3 => ("FlashStoreModel", "use", "[I", true)
  | 4 => ("FlashStoreModel", "logical", "[I", true)
  | 5 => ("FlashStoreModel", "serial", "[I", true)
  | 6 => ("FlashStoreModel", "wear", "[I", true)
  | 7 => ("FlashStoreModel", "where", "[I", true)
  | 8 => ("FlashStoreModel", "next", "I", false)
  | 9 => ("FlashStoreModel", "mended", "I", false)
  | _ => ("FlashStoreModel", "wrong", "I", false)
def tyTR : Nat → FieldType := fun k => match k with
  | 0 => .int
  | 1 => .array .int
  | 2 => .array .int
  | 3 => .array .int
  | 4 => .array .int
  | 5 => .array .int
  | 6 => .array .int
  | 7 => .array .int
  | 8 => .int
  | 9 => .int
  | _ => .int
theorem nmTR : ∀ a, a < 11 → ∀ b, b < 11 → a ≠ b → (TR a).2.1 ≠ (TR b).2.1 := by decide +kernel
theorem tyTR_ok : ∀ k, k < 11 → parseFieldDescriptor (TR k).2.2.1 = some (tyTR k) := by decide +kernel
theorem iwTR : ∀ w ∈ u_ws "FlashStoreModel" TR 11, w ∈ bw := by decide +kernel
theorem inTR {c1 : Cond} : ∀ w ∈ u_ws "FlashStoreModel" TR 11, w ∈ c1 :: bw := fun w h => List.mem_cons_of_mem _ (iwTR w h)
abbrev vwCl : List vw_C := [("FlashStore$Flash", TM, 2), ("FlashStore", TF, 6), ("FlashStoreModel", TR, 11)]
abbrev b_F_init : ByteArray := prog_1_method_1_code
def y_F_init : MethodName := ⟨"FlashStore", "<init>", "()V"⟩
abbrev ws_F_init : List Cond := .code y_F_init b_F_init 1 none :: bw
abbrev b_M_init : ByteArray := prog_3_method_1_code
def y_M_init : MethodName := ⟨"FlashStore$Flash", "<init>", "()V"⟩
abbrev ws_M_init : List Cond := .code y_M_init b_M_init 1 none :: bw
abbrev b_U_fill : ByteArray := prog_15_method_103_code
def y_U_fill : MethodName := ⟨"java/util/Arrays", "fill", "([II)V"⟩
abbrev ws_U_fill : List Cond := .code y_U_fill b_U_fill 4 none :: bw
abbrev b_F_mended : ByteArray := prog_1_method_4_code
def y_F_mended : MethodName := ⟨"FlashStore", "mended", "()I"⟩
abbrev ws_F_mended : List Cond := .code y_F_mended b_F_mended 1 (some .int) :: bw
abbrev b_F_mount : ByteArray := prog_1_method_10_code
def y_F_mount : MethodName := ⟨"FlashStore", "mount", "()I"⟩
abbrev ws_F_mount : List Cond := .code y_F_mount b_F_mount 5 (some .int) :: bw
abbrev b_M_tagAt : ByteArray := prog_3_method_7_code
def y_M_tagAt : MethodName := ⟨"FlashStore$Flash", "tagAt", "(I)I"⟩
abbrev ws_M_tagAt : List Cond := .code y_M_tagAt b_M_tagAt 3 (some .int) :: bw
abbrev b_M_wordAt : ByteArray := prog_3_method_2_code
def y_M_wordAt : MethodName := ⟨"FlashStore$Flash", "wordAt", "(II)I"⟩
abbrev ws_M_wordAt : List Cond := .code y_M_wordAt b_M_wordAt 3 (some .int) :: bw
abbrev b_C_mend : ByteArray := prog_2_method_4_code
def y_C_mend : MethodName := ⟨"FlashStore$Code", "mend", "(I)I"⟩
abbrev ws_C_mend : List Cond := .code y_C_mend b_C_mend 3 (some .int) :: bw
abbrev b_C_turned : ByteArray := prog_2_method_6_code
def y_C_turned : MethodName := ⟨"FlashStore$Code", "turned", "(II)I"⟩
abbrev ws_C_turned : List Cond := .code y_C_turned b_C_turned 2 (some .int) :: bw
abbrev b_C_mendOneInData : ByteArray := prog_2_method_5_code
def y_C_mendOneInData : MethodName := ⟨"FlashStore$Code", "mendOneInData", "(I)I"⟩
abbrev ws_C_mendOneInData : List Cond := .code y_C_mendOneInData b_C_mendOneInData 5 (some .int) :: bw
abbrev b_C_remainder : ByteArray := prog_2_method_8_code
def y_C_remainder : MethodName := ⟨"FlashStore$Code", "remainder", "(I)I"⟩
abbrev ws_C_remainder : List Cond := .code y_C_remainder b_C_remainder 3 (some .int) :: bw
abbrev b_U_bitCount : ByteArray := prog_10_method_49_code
def y_U_bitCount : MethodName := ⟨"java/lang/Integer", "bitCount", "(I)I"⟩
abbrev ws_U_bitCount : List Cond := .code y_U_bitCount b_U_bitCount 1 (some .int) :: bw
abbrev b_C_timesX : ByteArray := prog_2_method_7_code
def y_C_timesX : MethodName := ⟨"FlashStore$Code", "timesX", "(I)I"⟩
abbrev ws_C_timesX : List Cond := .code y_C_timesX b_C_timesX 2 (some .int) :: bw
abbrev b_C_dataOf : ByteArray := prog_2_method_3_code
def y_C_dataOf : MethodName := ⟨"FlashStore$Code", "dataOf", "(I)I"⟩
abbrev ws_C_dataOf : List Cond := .code y_C_dataOf b_C_dataOf 1 (some .int) :: bw
abbrev b_F_isSpoilt : ByteArray := prog_1_method_22_code
def y_F_isSpoilt : MethodName := ⟨"FlashStore", "isSpoilt", "(I)Z"⟩
abbrev ws_F_isSpoilt : List Cond := .code y_F_isSpoilt b_F_isSpoilt 1 (some .boolean) :: bw
abbrev b_F_take : ByteArray := prog_1_method_25_code
def y_F_take : MethodName := ⟨"FlashStore", "take", "(III)V"⟩
abbrev ws_F_take : List Cond := .code y_F_take b_F_take 4 none :: bw
abbrev b_F_isNewer : ByteArray := prog_1_method_23_code
def y_F_isNewer : MethodName := ⟨"FlashStore", "isNewer", "(II)Z"⟩
abbrev ws_F_isNewer : List Cond := .code y_F_isNewer b_F_isNewer 3 (some .boolean) :: bw
abbrev b_U_floorMod : ByteArray := prog_11_method_50_code
def y_U_floorMod : MethodName := ⟨"java/lang/Math", "floorMod", "(II)I"⟩
abbrev ws_U_floorMod : List Cond := .code y_U_floorMod b_U_floorMod 3 (some .int) :: bw
abbrev b_F_forget : ByteArray := prog_1_method_27_code
def y_F_forget : MethodName := ⟨"FlashStore", "forget", "(I)V"⟩
abbrev ws_F_forget : List Cond := .code y_F_forget b_F_forget 2 none :: bw
abbrev b_F_hold : ByteArray := prog_1_method_26_code
def y_F_hold : MethodName := ⟨"FlashStore", "hold", "(II)V"⟩
abbrev ws_F_hold : List Cond := .code y_F_hold b_F_hold 3 none :: bw
abbrev b_F_serialBehind : ByteArray := prog_1_method_24_code
def y_F_serialBehind : MethodName := ⟨"FlashStore", "serialBehind", "(I)I"⟩
abbrev ws_F_serialBehind : List Cond := .code y_F_serialBehind b_F_serialBehind 1 (some .int) :: bw
abbrev b_F_countHeld : ByteArray := prog_1_method_28_code
def y_F_countHeld : MethodName := ⟨"FlashStore", "countHeld", "()I"⟩
abbrev ws_F_countHeld : List Cond := .code y_F_countHeld b_F_countHeld 3 (some .int) :: bw
abbrev b_F_serial : ByteArray := prog_1_method_15_code
def y_F_serial : MethodName := ⟨"FlashStore", "serial", "()I"⟩
abbrev ws_F_serial : List Cond := .code y_F_serial b_F_serial 1 (some .int) :: bw
abbrev b_L_encode : ByteArray := method_3_code
def y_L_encode : MethodName := ⟨"FlashStoreLaw", "encode", "(LFlashStore;I[J)I"⟩
abbrev ws_L_encode : List Cond := .codeWith y_L_encode b_L_encode 4 (some .int) [((0 : Nat), (9 : Nat), (12 : Nat), (13 : Nat))] :: bw
abbrev b_F_encode : ByteArray := prog_1_method_2_code
def y_F_encode : MethodName := ⟨"FlashStore", "encode", "(I)I"⟩
abbrev ws_F_encode : List Cond := .code y_F_encode b_F_encode 2 (some .int) :: bw
abbrev b_C_codewordOf : ByteArray := prog_2_method_2_code
def y_C_codewordOf : MethodName := ⟨"FlashStore$Code", "codewordOf", "(I)I"⟩
abbrev ws_C_codewordOf : List Cond := .code y_C_codewordOf b_C_codewordOf 2 (some .int) :: bw
abbrev b_L_decode : ByteArray := method_4_code
def y_L_decode : MethodName := ⟨"FlashStoreLaw", "decode", "(LFlashStore;I[J)I"⟩
abbrev ws_L_decode : List Cond := .codeWith y_L_decode b_L_decode 4 (some .int) [((0 : Nat), (9 : Nat), (12 : Nat), (13 : Nat)), ((0 : Nat), (9 : Nat), (15 : Nat), (18 : Nat))] :: bw
abbrev b_F_decode : ByteArray := prog_1_method_3_code
def y_F_decode : MethodName := ⟨"FlashStore", "decode", "(I)I"⟩
abbrev ws_F_decode : List Cond := .code y_F_decode b_F_decode 3 (some .int) :: bw
abbrev b_L_write : ByteArray := method_5_code
def y_L_write : MethodName := ⟨"FlashStoreLaw", "write", "(LFlashStore;IJ)I"⟩
abbrev ws_L_write : List Cond := .codeWith y_L_write b_L_write 5 (some .int) [((0 : Nat), (6 : Nat), (9 : Nat), (13 : Nat)), ((0 : Nat), (6 : Nat), (13 : Nat), (24 : Nat))] :: bw
abbrev b_F_write : ByteArray := prog_1_method_5_code
def y_F_write : MethodName := ⟨"FlashStore", "write", "(IJ)V"⟩
abbrev ws_F_write : List Cond := .code y_F_write b_F_write 6 none :: bw
abbrev b_F_requireLogicalPage : ByteArray := prog_1_method_16_code
def y_F_requireLogicalPage : MethodName := ⟨"FlashStore", "requireLogicalPage", "(I)V"⟩
abbrev ws_F_requireLogicalPage : List Cond := .code y_F_requireLogicalPage b_F_requireLogicalPage 1 none :: bw
abbrev b_F_leavesBlockFree : ByteArray := prog_1_method_33_code
def y_F_leavesBlockFree : MethodName := ⟨"FlashStore", "leavesBlockFree", "()Z"⟩
abbrev ws_F_leavesBlockFree : List Cond := .code y_F_leavesBlockFree b_F_leavesBlockFree 3 (some .boolean) :: bw
abbrev b_F_freePlace : ByteArray := prog_1_method_32_code
def y_F_freePlace : MethodName := ⟨"FlashStore", "freePlace", "(I)I"⟩
abbrev ws_F_freePlace : List Cond := .code y_F_freePlace b_F_freePlace 5 (some .int) :: bw
abbrev b_F_blockOf : ByteArray := prog_1_method_21_code
def y_F_blockOf : MethodName := ⟨"FlashStore", "blockOf", "(I)I"⟩
abbrev ws_F_blockOf : List Cond := .code y_F_blockOf b_F_blockOf 1 (some .int) :: bw
abbrev b_F_isWholeFree : ByteArray := prog_1_method_31_code
def y_F_isWholeFree : MethodName := ⟨"FlashStore", "isWholeFree", "(I)Z"⟩
abbrev ws_F_isWholeFree : List Cond := .code y_F_isWholeFree b_F_isWholeFree 2 (some .boolean) :: bw
abbrev b_F_countInBlock : ByteArray := prog_1_method_30_code
def y_F_countInBlock : MethodName := ⟨"FlashStore", "countInBlock", "(II)I"⟩
abbrev ws_F_countInBlock : List Cond := .code y_F_countInBlock b_F_countInBlock 5 (some .int) :: bw
abbrev b_F_placeOf : ByteArray := prog_1_method_20_code
def y_F_placeOf : MethodName := ⟨"FlashStore", "placeOf", "(II)I"⟩
abbrev ws_F_placeOf : List Cond := .code y_F_placeOf b_F_placeOf 2 (some .int) :: bw
abbrev b_F_blockToClean : ByteArray := prog_1_method_35_code
def y_F_blockToClean : MethodName := ⟨"FlashStore", "blockToClean", "()I"⟩
abbrev ws_F_blockToClean : List Cond := .code y_F_blockToClean b_F_blockToClean 3 (some .int) :: bw
abbrev b_F_canBeCleaned : ByteArray := prog_1_method_36_code
def y_F_canBeCleaned : MethodName := ⟨"FlashStore", "canBeCleaned", "(I)Z"⟩
abbrev ws_F_canBeCleaned : List Cond := .code y_F_canBeCleaned b_F_canBeCleaned 3 (some .boolean) :: bw
abbrev b_F_countFreeOutside : ByteArray := prog_1_method_37_code
def y_F_countFreeOutside : MethodName := ⟨"FlashStore", "countFreeOutside", "(I)I"⟩
abbrev ws_F_countFreeOutside : List Cond := .code y_F_countFreeOutside b_F_countFreeOutside 4 (some .int) :: bw
abbrev b_F_isBetterToClean : ByteArray := prog_1_method_38_code
def y_F_isBetterToClean : MethodName := ⟨"FlashStore", "isBetterToClean", "(II)Z"⟩
abbrev ws_F_isBetterToClean : List Cond := .code y_F_isBetterToClean b_F_isBetterToClean 5 (some .boolean) :: bw
abbrev b_M_erasuresOf : ByteArray := prog_3_method_6_code
def y_M_erasuresOf : MethodName := ⟨"FlashStore$Flash", "erasuresOf", "(I)I"⟩
abbrev ws_M_erasuresOf : List Cond := .code y_M_erasuresOf b_M_erasuresOf 2 (some .int) :: bw
abbrev b_F_cleanBlock : ByteArray := prog_1_method_39_code
def y_F_cleanBlock : MethodName := ⟨"FlashStore", "cleanBlock", "(I)V"⟩
abbrev ws_F_cleanBlock : List Cond := .code y_F_cleanBlock b_F_cleanBlock 3 none :: bw
abbrev b_F_moveAway : ByteArray := prog_1_method_40_code
def y_F_moveAway : MethodName := ⟨"FlashStore", "moveAway", "(I)V"⟩
abbrev ws_F_moveAway : List Cond := .code y_F_moveAway b_F_moveAway 3 none :: bw
abbrev b_F_logicalPageAt : ByteArray := prog_1_method_29_code
def y_F_logicalPageAt : MethodName := ⟨"FlashStore", "logicalPageAt", "(I)I"⟩
abbrev ws_F_logicalPageAt : List Cond := .code y_F_logicalPageAt b_F_logicalPageAt 3 (some .int) :: bw
abbrev b_M_isReadable : ByteArray := prog_3_method_8_code
def y_M_isReadable : MethodName := ⟨"FlashStore$Flash", "isReadable", "(I)Z"⟩
abbrev ws_M_isReadable : List Cond := .code y_M_isReadable b_M_isReadable 3 (some .boolean) :: bw
abbrev b_M_contentAt : ByteArray := prog_3_method_9_code
def y_M_contentAt : MethodName := ⟨"FlashStore$Flash", "contentAt", "(I)J"⟩
abbrev ws_M_contentAt : List Cond := .code y_M_contentAt b_M_contentAt 7 (some .long) :: bw
abbrev b_F_put : ByteArray := prog_1_method_34_code
def y_F_put : MethodName := ⟨"FlashStore", "put", "(IJI)V"⟩
abbrev ws_F_put : List Cond := .code y_F_put b_F_put 6 none :: bw
abbrev b_M_program : ByteArray := prog_3_method_4_code
def y_M_program : MethodName := ⟨"FlashStore$Flash", "program", "(IJI)V"⟩
abbrev ws_M_program : List Cond := .code y_M_program b_M_program 8 none :: bw
abbrev b_M_erase : ByteArray := prog_3_method_5_code
def y_M_erase : MethodName := ⟨"FlashStore$Flash", "erase", "(I)V"⟩
abbrev ws_M_erase : List Cond := .code y_M_erase b_M_erase 4 none :: bw
abbrev b_L_read : ByteArray := method_6_code
def y_L_read : MethodName := ⟨"FlashStoreLaw", "read", "(LFlashStore;I[J)I"⟩
abbrev ws_L_read : List Cond := .codeWith y_L_read b_L_read 4 (some .int) [((0 : Nat), (8 : Nat), (11 : Nat), (13 : Nat)), ((0 : Nat), (8 : Nat), (14 : Nat), (24 : Nat)), ((0 : Nat), (8 : Nat), (17 : Nat), (18 : Nat))] :: bw
abbrev b_F_read : ByteArray := prog_1_method_6_code
def y_F_read : MethodName := ⟨"FlashStore", "read", "(I)J"⟩
abbrev ws_F_read : List Cond := .code y_F_read b_F_read 3 (some .long) :: bw
abbrev b_L_trim : ByteArray := method_7_code
def y_L_trim : MethodName := ⟨"FlashStoreLaw", "trim", "(LFlashStore;I[J)I"⟩
abbrev ws_L_trim : List Cond := .codeWith y_L_trim b_L_trim 4 (some .int) [((0 : Nat), (16 : Nat), (19 : Nat), (13 : Nat))] :: bw
abbrev b_F_trim : ByteArray := prog_1_method_7_code
def y_F_trim : MethodName := ⟨"FlashStore", "trim", "(I)Z"⟩
abbrev ws_F_trim : List Cond := .code y_F_trim b_F_trim 3 (some .boolean) :: bw
abbrev b_L_spoil : ByteArray := method_8_code
def y_L_spoil : MethodName := ⟨"FlashStoreLaw", "spoil", "(LFlashStore;IIII)I"⟩
abbrev ws_L_spoil : List Cond := .codeWith y_L_spoil b_L_spoil 6 (some .int) [((0 : Nat), (9 : Nat), (12 : Nat), (13 : Nat))] :: bw
abbrev b_F_spoil : ByteArray := prog_1_method_8_code
def y_F_spoil : MethodName := ⟨"FlashStore", "spoil", "(IIII)V"⟩
abbrev ws_F_spoil : List Cond := .code y_F_spoil b_F_spoil 5 none :: bw
abbrev b_F_requireWord : ByteArray := prog_1_method_19_code
def y_F_requireWord : MethodName := ⟨"FlashStore", "requireWord", "(III)V"⟩
abbrev ws_F_requireWord : List Cond := .code y_F_requireWord b_F_requireWord 3 none :: bw
abbrev b_F_requireBlock : ByteArray := prog_1_method_17_code
def y_F_requireBlock : MethodName := ⟨"FlashStore", "requireBlock", "(I)V"⟩
abbrev ws_F_requireBlock : List Cond := .code y_F_requireBlock b_F_requireBlock 1 none :: bw
abbrev b_F_requirePageOfBlock : ByteArray := prog_1_method_18_code
def y_F_requirePageOfBlock : MethodName := ⟨"FlashStore", "requirePageOfBlock", "(I)V"⟩
abbrev ws_F_requirePageOfBlock : List Cond := .code y_F_requirePageOfBlock b_F_requirePageOfBlock 1 none :: bw
abbrev b_M_turnOver : ByteArray := prog_3_method_3_code
def y_M_turnOver : MethodName := ⟨"FlashStore$Flash", "turnOver", "(III)V"⟩
abbrev ws_M_turnOver : List Cond := .code y_M_turnOver b_M_turnOver 4 none :: bw
abbrev b_L_flash : ByteArray := method_9_code
def y_L_flash : MethodName := ⟨"FlashStoreLaw", "flash", "(LFlashStore;III[J)I"⟩
abbrev ws_L_flash : List Cond := .codeWith y_L_flash b_L_flash 6 (some .int) [((0 : Nat), (12 : Nat), (15 : Nat), (13 : Nat))] :: bw
abbrev b_F_flash : ByteArray := prog_1_method_9_code
def y_F_flash : MethodName := ⟨"FlashStore", "flash", "(III)I"⟩
abbrev ws_F_flash : List Cond := .code y_F_flash b_F_flash 4 (some .int) :: bw
abbrev b_L_clean : ByteArray := method_10_code
def y_L_clean : MethodName := ⟨"FlashStoreLaw", "clean", "(LFlashStore;[J)I"⟩
abbrev ws_L_clean : List Cond := .codeWith y_L_clean b_L_clean 3 (some .int) [((0 : Nat), (8 : Nat), (11 : Nat), (24 : Nat))] :: bw
abbrev b_F_clean : ByteArray := prog_1_method_11_code
def y_F_clean : MethodName := ⟨"FlashStore", "clean", "()I"⟩
abbrev ws_F_clean : List Cond := .code y_F_clean b_F_clean 2 (some .int) :: bw
abbrev b_L_place : ByteArray := method_11_code
def y_L_place : MethodName := ⟨"FlashStoreLaw", "place", "(LFlashStore;I[J)I"⟩
abbrev ws_L_place : List Cond := .codeWith y_L_place b_L_place 4 (some .int) [((0 : Nat), (9 : Nat), (12 : Nat), (13 : Nat))] :: bw
abbrev b_F_place : ByteArray := prog_1_method_12_code
def y_F_place : MethodName := ⟨"FlashStore", "place", "(I)I"⟩
abbrev ws_F_place : List Cond := .code y_F_place b_F_place 2 (some .int) :: bw
abbrev b_L_state : ByteArray := method_12_code
def y_L_state : MethodName := ⟨"FlashStoreLaw", "state", "(LFlashStore;II[J)I"⟩
abbrev ws_L_state : List Cond := .codeWith y_L_state b_L_state 5 (some .int) [((0 : Nat), (10 : Nat), (13 : Nat), (13 : Nat))] :: bw
abbrev b_F_state : ByteArray := prog_1_method_13_code
def y_F_state : MethodName := ⟨"FlashStore", "state", "(II)I"⟩
abbrev ws_F_state : List Cond := .code y_F_state b_F_state 3 (some .int) :: bw
abbrev b_L_wear : ByteArray := method_13_code
def y_L_wear : MethodName := ⟨"FlashStoreLaw", "wear", "(LFlashStore;I[J)I"⟩
abbrev ws_L_wear : List Cond := .codeWith y_L_wear b_L_wear 4 (some .int) [((0 : Nat), (9 : Nat), (12 : Nat), (13 : Nat))] :: bw
abbrev b_F_wear : ByteArray := prog_1_method_14_code
def y_F_wear : MethodName := ⟨"FlashStore", "wear", "(I)I"⟩
abbrev ws_F_wear : List Cond := .code y_F_wear b_F_wear 2 (some .int) :: bw
abbrev b_R_init : ByteArray := prog_5_method_1_code
def y_R_init : MethodName := ⟨"FlashStoreModel", "<init>", "()V"⟩
abbrev ws_R_init : List Cond := .code y_R_init b_R_init 3 none :: bw
abbrev b_R_thrown : ByteArray := prog_5_method_2_code
def y_R_thrown : MethodName := ⟨"FlashStoreModel", "thrown", "()I"⟩
abbrev ws_R_thrown : List Cond := .code y_R_thrown b_R_thrown 1 (some .int) :: bw
abbrev b_R_encode : ByteArray := prog_5_method_8_code
def y_R_encode : MethodName := ⟨"FlashStoreModel", "encode", "(I)I"⟩
abbrev ws_R_encode : List Cond := .code y_R_encode b_R_encode 2 (some .int) :: bw
abbrev b_R_out : ByteArray := prog_5_method_3_code
def y_R_out : MethodName := ⟨"FlashStoreModel", "out", "(II)Z"⟩
abbrev ws_R_out : List Cond := .code y_R_out b_R_out 2 (some .boolean) :: bw
abbrev b_R_fail : ByteArray := prog_5_method_4_code
def y_R_fail : MethodName := ⟨"FlashStoreModel", "fail", "(I)I"⟩
abbrev ws_R_fail : List Cond := .code y_R_fail b_R_fail 2 (some .int) :: bw
abbrev b_R_codeword : ByteArray := prog_5_method_6_code
def y_R_codeword : MethodName := ⟨"FlashStoreModel", "codeword", "(I)I"⟩
abbrev ws_R_codeword : List Cond := .code y_R_codeword b_R_codeword 2 (some .int) :: bw
abbrev b_R_left : ByteArray := prog_5_method_5_code
def y_R_left : MethodName := ⟨"FlashStoreModel", "left", "(I)I"⟩
abbrev ws_R_left : List Cond := .code y_R_left b_R_left 4 (some .int) :: bw
abbrev b_R_decode : ByteArray := prog_5_method_9_code
def y_R_decode : MethodName := ⟨"FlashStoreModel", "decode", "(I)I"⟩
abbrev ws_R_decode : List Cond := .code y_R_decode b_R_decode 3 (some .int) :: bw
abbrev b_R_dataOf : ByteArray := prog_5_method_7_code
def y_R_dataOf : MethodName := ⟨"FlashStoreModel", "dataOf", "(I)I"⟩
abbrev ws_R_dataOf : List Cond := .code y_R_dataOf b_R_dataOf 7 (some .int) :: bw
abbrev b_R_mended : ByteArray := prog_5_method_10_code
def y_R_mended : MethodName := ⟨"FlashStoreModel", "mended", "()I"⟩
abbrev ws_R_mended : List Cond := .code y_R_mended b_R_mended 1 (some .int) :: bw
abbrev b_R_clean : ByteArray := prog_5_method_21_code
def y_R_clean : MethodName := ⟨"FlashStoreModel", "clean", "()I"⟩
abbrev ws_R_clean : List Cond := .code y_R_clean b_R_clean 2 (some .int) :: bw
abbrev b_R_toClean : ByteArray := prog_5_method_19_code
def y_R_toClean : MethodName := ⟨"FlashStoreModel", "toClean", "()I"⟩
abbrev ws_R_toClean : List Cond := .code y_R_toClean b_R_toClean 6 (some .int) :: bw
abbrev b_R_count : ByteArray := prog_5_method_14_code
def y_R_count : MethodName := ⟨"FlashStoreModel", "count", "(II)I"⟩
abbrev ws_R_count : List Cond := .code y_R_count b_R_count 5 (some .int) :: bw
abbrev b_R_empty : ByteArray := prog_5_method_15_code
def y_R_empty : MethodName := ⟨"FlashStoreModel", "empty", "(I)Z"⟩
abbrev ws_R_empty : List Cond := .code y_R_empty b_R_empty 2 (some .boolean) :: bw
abbrev b_R_cleanBlock : ByteArray := prog_5_method_20_code
def y_R_cleanBlock : MethodName := ⟨"FlashStoreModel", "cleanBlock", "(I)V"⟩
abbrev ws_R_cleanBlock : List Cond := .code y_R_cleanBlock b_R_cleanBlock 4 none :: bw
abbrev b_R_readable : ByteArray := prog_5_method_11_code
def y_R_readable : MethodName := ⟨"FlashStoreModel", "readable", "(I)Z"⟩
abbrev ws_R_readable : List Cond := .code y_R_readable b_R_readable 4 (some .boolean) :: bw
abbrev b_R_placeBut : ByteArray := prog_5_method_16_code
def y_R_placeBut : MethodName := ⟨"FlashStoreModel", "placeBut", "(I)I"⟩
abbrev ws_R_placeBut : List Cond := .code y_R_placeBut b_R_placeBut 5 (some .int) :: bw
abbrev b_R_contentOf : ByteArray := prog_5_method_12_code
def y_R_contentOf : MethodName := ⟨"FlashStoreModel", "contentOf", "(I)J"⟩
abbrev ws_R_contentOf : List Cond := .code y_R_contentOf b_R_contentOf 5 (some .long) :: bw
abbrev b_R_put : ByteArray := prog_5_method_17_code
def y_R_put : MethodName := ⟨"FlashStoreModel", "put", "(IIJ)V"⟩
abbrev ws_R_put : List Cond := .code y_R_put b_R_put 6 none :: bw
abbrev b_R_program : ByteArray := prog_5_method_13_code
def y_R_program : MethodName := ⟨"FlashStoreModel", "program", "(III)V"⟩
abbrev ws_R_program : List Cond := .code y_R_program b_R_program 4 none :: bw
abbrev b_R_write : ByteArray := prog_5_method_22_code
def y_R_write : MethodName := ⟨"FlashStoreModel", "write", "(IJ)V"⟩
abbrev ws_R_write : List Cond := .code y_R_write b_R_write 5 none :: bw
abbrev b_R_leavesOne : ByteArray := prog_5_method_18_code
def y_R_leavesOne : MethodName := ⟨"FlashStoreModel", "leavesOne", "(I)Z"⟩
abbrev ws_R_leavesOne : List Cond := .code y_R_leavesOne b_R_leavesOne 4 (some .boolean) :: bw
abbrev b_R_read : ByteArray := prog_5_method_23_code
def y_R_read : MethodName := ⟨"FlashStoreModel", "read", "(I)J"⟩
abbrev ws_R_read : List Cond := .code y_R_read b_R_read 3 (some .long) :: bw
abbrev b_R_trim : ByteArray := prog_5_method_24_code
def y_R_trim : MethodName := ⟨"FlashStoreModel", "trim", "(I)Z"⟩
abbrev ws_R_trim : List Cond := .code y_R_trim b_R_trim 2 (some .boolean) :: bw
abbrev b_R_mount : ByteArray := prog_5_method_26_code
def y_R_mount : MethodName := ⟨"FlashStoreModel", "mount", "()I"⟩
abbrev ws_R_mount : List Cond := .code y_R_mount b_R_mount 7 (some .int) :: bw
abbrev b_R_newer : ByteArray := prog_5_method_25_code
def y_R_newer : MethodName := ⟨"FlashStoreModel", "newer", "(II)Z"⟩
abbrev ws_R_newer : List Cond := .code y_R_newer b_R_newer 3 (some .boolean) :: bw
abbrev b_R_spoil : ByteArray := prog_5_method_28_code
def y_R_spoil : MethodName := ⟨"FlashStoreModel", "spoil", "(IIII)V"⟩
abbrev ws_R_spoil : List Cond := .code y_R_spoil b_R_spoil 6 none :: bw
abbrev b_R_isPage : ByteArray := prog_5_method_27_code
def y_R_isPage : MethodName := ⟨"FlashStoreModel", "isPage", "(II)Z"⟩
abbrev ws_R_isPage : List Cond := .code y_R_isPage b_R_isPage 2 (some .boolean) :: bw
abbrev b_R_flash : ByteArray := prog_5_method_29_code
def y_R_flash : MethodName := ⟨"FlashStoreModel", "flash", "(III)I"⟩
abbrev ws_R_flash : List Cond := .code y_R_flash b_R_flash 4 (some .int) :: bw
abbrev b_R_place : ByteArray := prog_5_method_30_code
def y_R_place : MethodName := ⟨"FlashStoreModel", "place", "(I)I"⟩
abbrev ws_R_place : List Cond := .code y_R_place b_R_place 2 (some .int) :: bw
abbrev b_R_state : ByteArray := prog_5_method_31_code
def y_R_state : MethodName := ⟨"FlashStoreModel", "state", "(II)I"⟩
abbrev ws_R_state : List Cond := .code y_R_state b_R_state 3 (some .int) :: bw
abbrev b_R_wear : ByteArray := prog_5_method_32_code
def y_R_wear : MethodName := ⟨"FlashStoreModel", "wear", "(I)I"⟩
abbrev ws_R_wear : List Cond := .code y_R_wear b_R_wear 2 (some .int) :: bw
abbrev b_R_serial : ByteArray := prog_5_method_33_code
def y_R_serial : MethodName := ⟨"FlashStoreModel", "serial", "()I"⟩
abbrev ws_R_serial : List Cond := .code y_R_serial b_R_serial 1 (some .int) :: bw
abbrev wF (cA : ClassId) (h0 q1 q2 q3 q4 q5 q6 : Nat) (st pl tk wd er : Nat → Int32) (nx md : Int32) : va_W := [(h0, .inr (1, [.ref q1, .ref q2, .ref q3, .ref q4, .int nx, .int md])), (q1, .inr (0, [.ref q5, .ref q6])), (q2, .inl (cA, 16, .inl st)), (q3, .inl (cA, 8, .inl pl)), (q4, .inl (cA, 8, .inl tk)), (q5, .inl (cA, 80, .inl wd)), (q6, .inl (cA, 4, .inl er))]
abbrev wM (cA : ClassId) (q1 q5 q6 : Nat) (wd er : Nat → Int32) : va_W := [(q1, .inr (0, [.ref q5, .ref q6])), (q5, .inl (cA, 80, .inl wd)), (q6, .inl (cA, 4, .inl er))]
abbrev wR (cA : ClassId) (h0 q1 q2 q3 q4 q5 q6 q7 : Nat) (rm fl us lg se we wh : Nat → Int32) (th nx md wr : Int32) : va_W := [(h0, .inr (2, [.int th, .ref q1, .ref q2, .ref q3, .ref q4, .ref q5, .ref q6, .ref q7, .int nx, .int md, .int wr])), (q1, .inl (cA, 31, .inl rm)), (q2, .inl (cA, 80, .inl fl)), (q3, .inl (cA, 16, .inl us)), (q4, .inl (cA, 16, .inl lg)), (q5, .inl (cA, 16, .inl se)), (q6, .inl (cA, 4, .inl we)), (q7, .inl (cA, 8, .inl wh))]
theorem bq_1_88 : (Jvm.Cond.code ({ cls := "FlashStore$Code", name := "remainder", desc := "(I)I" } : Jvm.MethodName) prog_2_method_8_code (3 : Nat) (Option.some Jvm.ClassFile.FieldType.int)) ∈ bw := bw_in (List.mem_append_right _ (List.mem_append_left _ (List.mem_of_getElem? (i := 88) rfl))) rfl
theorem bq_1_86 : (Jvm.Cond.methodLink "FlashStore$Code" (9 : Nat) ({ cls := "FlashStore$Code", name := "remainder", desc := "(I)I" } : Jvm.MethodName)) ∈ bw := bw_in (List.mem_append_right _ (List.mem_append_left _ (List.mem_of_getElem? (i := 86) rfl))) rfl
theorem bq_1_87 : (Jvm.Cond.static ({ cls := "FlashStore$Code", name := "remainder", desc := "(I)I" } : Jvm.MethodName)) ∈ bw := bw_in (List.mem_append_right _ (List.mem_append_left _ (List.mem_of_getElem? (i := 87) rfl))) rfl
theorem bq_1_9 : (Jvm.Cond.initialized "FlashStore$Code") ∈ bw := bw_in (List.mem_append_right _ (List.mem_append_left _ (List.mem_of_getElem? (i := 9) rfl))) rfl
theorem bq_1_92 : (Jvm.Cond.code ({ cls := "java/lang/Integer", name := "bitCount", desc := "(I)I" } : Jvm.MethodName) prog_10_method_49_code (1 : Nat) (Option.some Jvm.ClassFile.FieldType.int)) ∈ bw := bw_in (List.mem_append_right _ (List.mem_append_left _ (List.mem_of_getElem? (i := 92) rfl))) rfl
theorem bq_1_90 : (Jvm.Cond.methodLink "FlashStore$Code" (20 : Nat) ({ cls := "java/lang/Integer", name := "bitCount", desc := "(I)I" } : Jvm.MethodName)) ∈ bw := bw_in (List.mem_append_right _ (List.mem_append_left _ (List.mem_of_getElem? (i := 90) rfl))) rfl
theorem bq_1_91 : (Jvm.Cond.static ({ cls := "java/lang/Integer", name := "bitCount", desc := "(I)I" } : Jvm.MethodName)) ∈ bw := bw_in (List.mem_append_right _ (List.mem_append_left _ (List.mem_of_getElem? (i := 91) rfl))) rfl
theorem bq_1_10 : (Jvm.Cond.initialized "java/lang/Integer") ∈ bw := bw_in (List.mem_append_right _ (List.mem_append_left _ (List.mem_of_getElem? (i := 10) rfl))) rfl
theorem bq_1_98 : (Jvm.Cond.code ({ cls := "FlashStore$Code", name := "timesX", desc := "(I)I" } : Jvm.MethodName) prog_2_method_7_code (2 : Nat) (Option.some Jvm.ClassFile.FieldType.int)) ∈ bw := bw_in (List.mem_append_right _ (List.mem_append_left _ (List.mem_of_getElem? (i := 98) rfl))) rfl
theorem bq_1_96 : (Jvm.Cond.methodLink "FlashStore$Code" (25 : Nat) ({ cls := "FlashStore$Code", name := "timesX", desc := "(I)I" } : Jvm.MethodName)) ∈ bw := bw_in (List.mem_append_right _ (List.mem_append_left _ (List.mem_of_getElem? (i := 96) rfl))) rfl
theorem bq_1_97 : (Jvm.Cond.static ({ cls := "FlashStore$Code", name := "timesX", desc := "(I)I" } : Jvm.MethodName)) ∈ bw := bw_in (List.mem_append_right _ (List.mem_append_left _ (List.mem_of_getElem? (i := 97) rfl))) rfl
theorem bq_1_81 : (Jvm.Cond.code ({ cls := "FlashStore$Code", name := "turned", desc := "(II)I" } : Jvm.MethodName) prog_2_method_6_code (2 : Nat) (Option.some Jvm.ClassFile.FieldType.int)) ∈ bw := bw_in (List.mem_append_right _ (List.mem_append_left _ (List.mem_of_getElem? (i := 81) rfl))) rfl
theorem bq_1_79 : (Jvm.Cond.methodLink "FlashStore$Code" (13 : Nat) ({ cls := "FlashStore$Code", name := "turned", desc := "(II)I" } : Jvm.MethodName)) ∈ bw := bw_in (List.mem_append_right _ (List.mem_append_left _ (List.mem_of_getElem? (i := 79) rfl))) rfl
theorem bq_1_80 : (Jvm.Cond.static ({ cls := "FlashStore$Code", name := "turned", desc := "(II)I" } : Jvm.MethodName)) ∈ bw := bw_in (List.mem_append_right _ (List.mem_append_left _ (List.mem_of_getElem? (i := 80) rfl))) rfl
theorem bq_1_85 : (Jvm.Cond.code ({ cls := "FlashStore$Code", name := "mendOneInData", desc := "(I)I" } : Jvm.MethodName) prog_2_method_5_code (5 : Nat) (Option.some Jvm.ClassFile.FieldType.int)) ∈ bw := bw_in (List.mem_append_right _ (List.mem_append_left _ (List.mem_of_getElem? (i := 85) rfl))) rfl
theorem bq_1_83 : (Jvm.Cond.methodLink "FlashStore$Code" (17 : Nat) ({ cls := "FlashStore$Code", name := "mendOneInData", desc := "(I)I" } : Jvm.MethodName)) ∈ bw := bw_in (List.mem_append_right _ (List.mem_append_left _ (List.mem_of_getElem? (i := 83) rfl))) rfl
theorem bq_1_84 : (Jvm.Cond.static ({ cls := "FlashStore$Code", name := "mendOneInData", desc := "(I)I" } : Jvm.MethodName)) ∈ bw := bw_in (List.mem_append_right _ (List.mem_append_left _ (List.mem_of_getElem? (i := 84) rfl))) rfl
theorem bq_1_32 : (Jvm.Cond.fieldLink "FlashStore$Flash" (11 : Nat) "FlashStore$Flash" "words" "[I") ∈ bw := bw_in (List.mem_append_right _ (List.mem_append_left _ (List.mem_of_getElem? (i := 32) rfl))) rfl
theorem bq_1_214 : (Jvm.Cond.code ({ cls := "FlashStore$Code", name := "codewordOf", desc := "(I)I" } : Jvm.MethodName) prog_2_method_2_code (2 : Nat) (Option.some Jvm.ClassFile.FieldType.int)) ∈ bw := bw_in (List.mem_append_right _ (List.mem_append_left _ (List.mem_of_getElem? (i := 214) rfl))) rfl
theorem bq_2_102 : (Jvm.Cond.methodLink "FlashStore$Flash" (28 : Nat) ({ cls := "FlashStore$Code", name := "codewordOf", desc := "(I)I" } : Jvm.MethodName)) ∈ bw := bw_in (List.mem_append_right _ (List.mem_append_right _ (List.mem_append_left _ (List.mem_of_getElem? (i := 102) rfl)))) rfl
theorem bq_1_213 : (Jvm.Cond.static ({ cls := "FlashStore$Code", name := "codewordOf", desc := "(I)I" } : Jvm.MethodName)) ∈ bw := bw_in (List.mem_append_right _ (List.mem_append_left _ (List.mem_of_getElem? (i := 213) rfl))) rfl
theorem bq_2_36 : (Jvm.Cond.code ({ cls := "FlashStore", name := "placeOf", desc := "(II)I" } : Jvm.MethodName) prog_1_method_20_code (2 : Nat) (Option.some Jvm.ClassFile.FieldType.int)) ∈ bw := bw_in (List.mem_append_right _ (List.mem_append_right _ (List.mem_append_left _ (List.mem_of_getElem? (i := 36) rfl)))) rfl
theorem bq_1_1 : (Jvm.Cond.initialized "FlashStore") ∈ bw := bw_in (List.mem_append_right _ (List.mem_append_left _ (List.mem_of_getElem? (i := 1) rfl))) rfl
theorem bq_2_35 : (Jvm.Cond.static ({ cls := "FlashStore", name := "placeOf", desc := "(II)I" } : Jvm.MethodName)) ∈ bw := bw_in (List.mem_append_right _ (List.mem_append_right _ (List.mem_append_left _ (List.mem_of_getElem? (i := 35) rfl)))) rfl
theorem bq_1_33 : (Jvm.Cond.fieldLink "FlashStore$Flash" (15 : Nat) "FlashStore$Flash" "erasures" "[I") ∈ bw := bw_in (List.mem_append_right _ (List.mem_append_left _ (List.mem_of_getElem? (i := 33) rfl))) rfl
theorem bq_1_102 : (Jvm.Cond.code ({ cls := "FlashStore$Code", name := "dataOf", desc := "(I)I" } : Jvm.MethodName) prog_2_method_3_code (1 : Nat) (Option.some Jvm.ClassFile.FieldType.int)) ∈ bw := bw_in (List.mem_append_right _ (List.mem_append_left _ (List.mem_of_getElem? (i := 102) rfl))) rfl
theorem bq_1_100 : (Jvm.Cond.methodLink "FlashStore$Flash" (42 : Nat) ({ cls := "FlashStore$Code", name := "dataOf", desc := "(I)I" } : Jvm.MethodName)) ∈ bw := bw_in (List.mem_append_right _ (List.mem_append_left _ (List.mem_of_getElem? (i := 100) rfl))) rfl
theorem bq_1_101 : (Jvm.Cond.static ({ cls := "FlashStore$Code", name := "dataOf", desc := "(I)I" } : Jvm.MethodName)) ∈ bw := bw_in (List.mem_append_right _ (List.mem_append_left _ (List.mem_of_getElem? (i := 101) rfl))) rfl
theorem bq_1_78 : (Jvm.Cond.code ({ cls := "FlashStore$Code", name := "mend", desc := "(I)I" } : Jvm.MethodName) prog_2_method_4_code (3 : Nat) (Option.some Jvm.ClassFile.FieldType.int)) ∈ bw := bw_in (List.mem_append_right _ (List.mem_append_left _ (List.mem_of_getElem? (i := 78) rfl))) rfl
theorem bq_1_76 : (Jvm.Cond.methodLink "FlashStore$Flash" (39 : Nat) ({ cls := "FlashStore$Code", name := "mend", desc := "(I)I" } : Jvm.MethodName)) ∈ bw := bw_in (List.mem_append_right _ (List.mem_append_left _ (List.mem_of_getElem? (i := 76) rfl))) rfl
theorem bq_1_77 : (Jvm.Cond.static ({ cls := "FlashStore$Code", name := "mend", desc := "(I)I" } : Jvm.MethodName)) ∈ bw := bw_in (List.mem_append_right _ (List.mem_append_left _ (List.mem_of_getElem? (i := 77) rfl))) rfl
theorem bq_1_75 : (Jvm.Cond.code ({ cls := "FlashStore$Flash", name := "wordAt", desc := "(II)I" } : Jvm.MethodName) prog_3_method_2_code (3 : Nat) (Option.some Jvm.ClassFile.FieldType.int)) ∈ bw := bw_in (List.mem_append_right _ (List.mem_append_left _ (List.mem_of_getElem? (i := 75) rfl))) rfl
theorem bq_1_72 : (Jvm.Cond.methodLink "FlashStore$Flash" (36 : Nat) ({ cls := "FlashStore$Flash", name := "wordAt", desc := "(II)I" } : Jvm.MethodName)) ∈ bw := bw_in (List.mem_append_right _ (List.mem_append_left _ (List.mem_of_getElem? (i := 72) rfl))) rfl
theorem bq_1_73 : (Jvm.Cond.instanceMethod ({ cls := "FlashStore$Flash", name := "wordAt", desc := "(II)I" } : Jvm.MethodName)) ∈ bw := bw_in (List.mem_append_right _ (List.mem_append_left _ (List.mem_of_getElem? (i := 73) rfl))) rfl
theorem bq_1_74 : (Jvm.Cond.selects "FlashStore$Flash" ({ cls := "FlashStore$Flash", name := "wordAt", desc := "(II)I" } : Jvm.MethodName) ({ cls := "FlashStore$Flash", name := "wordAt", desc := "(II)I" } : Jvm.MethodName)) ∈ bw := bw_in (List.mem_append_right _ (List.mem_append_left _ (List.mem_of_getElem? (i := 74) rfl))) rfl
theorem bq_1_2 : (Jvm.Cond.initialized "FlashStore$Flash") ∈ bw := bw_in (List.mem_append_right _ (List.mem_append_left _ (List.mem_of_getElem? (i := 2) rfl))) rfl
theorem bq_1_116 : (Jvm.Cond.code ({ cls := "java/lang/Math", name := "floorMod", desc := "(II)I" } : Jvm.MethodName) prog_11_method_50_code (3 : Nat) (Option.some Jvm.ClassFile.FieldType.int)) ∈ bw := bw_in (List.mem_append_right _ (List.mem_append_left _ (List.mem_of_getElem? (i := 116) rfl))) rfl
theorem bq_1_114 : (Jvm.Cond.methodLink "FlashStore" (162 : Nat) ({ cls := "java/lang/Math", name := "floorMod", desc := "(II)I" } : Jvm.MethodName)) ∈ bw := bw_in (List.mem_append_right _ (List.mem_append_left _ (List.mem_of_getElem? (i := 114) rfl))) rfl
theorem bq_1_115 : (Jvm.Cond.static ({ cls := "java/lang/Math", name := "floorMod", desc := "(II)I" } : Jvm.MethodName)) ∈ bw := bw_in (List.mem_append_right _ (List.mem_append_left _ (List.mem_of_getElem? (i := 115) rfl))) rfl
theorem bq_1_13 : (Jvm.Cond.initialized "java/lang/Math") ∈ bw := bw_in (List.mem_append_right _ (List.mem_append_left _ (List.mem_of_getElem? (i := 13) rfl))) rfl
theorem bq_2_140 : (Jvm.Cond.code ({ cls := "FlashStore", name := "requirePageOfBlock", desc := "(I)V" } : Jvm.MethodName) prog_1_method_18_code (1 : Nat) (Option.none : Option Jvm.ClassFile.FieldType)) ∈ bw := bw_in (List.mem_append_right _ (List.mem_append_right _ (List.mem_append_left _ (List.mem_of_getElem? (i := 140) rfl)))) rfl
theorem bq_2_138 : (Jvm.Cond.methodLink "FlashStore" (148 : Nat) ({ cls := "FlashStore", name := "requirePageOfBlock", desc := "(I)V" } : Jvm.MethodName)) ∈ bw := bw_in (List.mem_append_right _ (List.mem_append_right _ (List.mem_append_left _ (List.mem_of_getElem? (i := 138) rfl)))) rfl
theorem bq_2_139 : (Jvm.Cond.static ({ cls := "FlashStore", name := "requirePageOfBlock", desc := "(I)V" } : Jvm.MethodName)) ∈ bw := bw_in (List.mem_append_right _ (List.mem_append_right _ (List.mem_append_left _ (List.mem_of_getElem? (i := 139) rfl)))) rfl
theorem bq_2_136 : (Jvm.Cond.code ({ cls := "FlashStore", name := "requireBlock", desc := "(I)V" } : Jvm.MethodName) prog_1_method_17_code (1 : Nat) (Option.none : Option Jvm.ClassFile.FieldType)) ∈ bw := bw_in (List.mem_append_right _ (List.mem_append_right _ (List.mem_append_left _ (List.mem_of_getElem? (i := 136) rfl)))) rfl
theorem bq_2_134 : (Jvm.Cond.methodLink "FlashStore" (145 : Nat) ({ cls := "FlashStore", name := "requireBlock", desc := "(I)V" } : Jvm.MethodName)) ∈ bw := bw_in (List.mem_append_right _ (List.mem_append_right _ (List.mem_append_left _ (List.mem_of_getElem? (i := 134) rfl)))) rfl
theorem bq_2_135 : (Jvm.Cond.static ({ cls := "FlashStore", name := "requireBlock", desc := "(I)V" } : Jvm.MethodName)) ∈ bw := bw_in (List.mem_append_right _ (List.mem_append_right _ (List.mem_append_left _ (List.mem_of_getElem? (i := 135) rfl)))) rfl
theorem bq_1_42 : (Jvm.Cond.fieldLink "FlashStore" (16 : Nat) "FlashStore" "states" "[I") ∈ bw := bw_in (List.mem_append_right _ (List.mem_append_left _ (List.mem_of_getElem? (i := 42) rfl))) rfl
theorem bq_1_43 : (Jvm.Cond.fieldLink "FlashStore" (20 : Nat) "FlashStore" "places" "[I") ∈ bw := bw_in (List.mem_append_right _ (List.mem_append_left _ (List.mem_of_getElem? (i := 43) rfl))) rfl
theorem bq_1_44 : (Jvm.Cond.fieldLink "FlashStore" (23 : Nat) "FlashStore" "takenSerials" "[I") ∈ bw := bw_in (List.mem_append_right _ (List.mem_append_left _ (List.mem_of_getElem? (i := 44) rfl))) rfl
theorem bq_1_113 : (Jvm.Cond.code ({ cls := "FlashStore", name := "isNewer", desc := "(II)Z" } : Jvm.MethodName) prog_1_method_23_code (3 : Nat) (Option.some Jvm.ClassFile.FieldType.boolean)) ∈ bw := bw_in (List.mem_append_right _ (List.mem_append_left _ (List.mem_of_getElem? (i := 113) rfl))) rfl
theorem bq_1_111 : (Jvm.Cond.methodLink "FlashStore" (133 : Nat) ({ cls := "FlashStore", name := "isNewer", desc := "(II)Z" } : Jvm.MethodName)) ∈ bw := bw_in (List.mem_append_right _ (List.mem_append_left _ (List.mem_of_getElem? (i := 111) rfl))) rfl
theorem bq_1_112 : (Jvm.Cond.static ({ cls := "FlashStore", name := "isNewer", desc := "(II)Z" } : Jvm.MethodName)) ∈ bw := bw_in (List.mem_append_right _ (List.mem_append_left _ (List.mem_of_getElem? (i := 112) rfl))) rfl
theorem bq_1_124 : (Jvm.Cond.code ({ cls := "FlashStore", name := "hold", desc := "(II)V" } : Jvm.MethodName) prog_1_method_26_code (3 : Nat) (Option.none : Option Jvm.ClassFile.FieldType)) ∈ bw := bw_in (List.mem_append_right _ (List.mem_append_left _ (List.mem_of_getElem? (i := 124) rfl))) rfl
theorem bq_1_121 : (Jvm.Cond.methodLink "FlashStore" (167 : Nat) ({ cls := "FlashStore", name := "hold", desc := "(II)V" } : Jvm.MethodName)) ∈ bw := bw_in (List.mem_append_right _ (List.mem_append_left _ (List.mem_of_getElem? (i := 121) rfl))) rfl
theorem bq_1_123 : (Jvm.Cond.instanceMethod ({ cls := "FlashStore", name := "hold", desc := "(II)V" } : Jvm.MethodName)) ∈ bw := bw_in (List.mem_append_right _ (List.mem_append_left _ (List.mem_of_getElem? (i := 123) rfl))) rfl
theorem bq_s_2 : (Jvm.Cond.selects "FlashStore" ({ cls := "FlashStore", name := "hold", desc := "(II)V" } : Jvm.MethodName) ({ cls := "FlashStore", name := "hold", desc := "(II)V" } : Jvm.MethodName)) ∈ bw := bw_in (List.mem_append_left _ (List.mem_of_getElem? (i := 2) rfl)) rfl
theorem bq_1_120 : (Jvm.Cond.code ({ cls := "FlashStore", name := "forget", desc := "(I)V" } : Jvm.MethodName) prog_1_method_27_code (2 : Nat) (Option.none : Option Jvm.ClassFile.FieldType)) ∈ bw := bw_in (List.mem_append_right _ (List.mem_append_left _ (List.mem_of_getElem? (i := 120) rfl))) rfl
theorem bq_1_117 : (Jvm.Cond.methodLink "FlashStore" (107 : Nat) ({ cls := "FlashStore", name := "forget", desc := "(I)V" } : Jvm.MethodName)) ∈ bw := bw_in (List.mem_append_right _ (List.mem_append_left _ (List.mem_of_getElem? (i := 117) rfl))) rfl
theorem bq_1_119 : (Jvm.Cond.instanceMethod ({ cls := "FlashStore", name := "forget", desc := "(I)V" } : Jvm.MethodName)) ∈ bw := bw_in (List.mem_append_right _ (List.mem_append_left _ (List.mem_of_getElem? (i := 119) rfl))) rfl
theorem bq_s_1 : (Jvm.Cond.selects "FlashStore" ({ cls := "FlashStore", name := "forget", desc := "(I)V" } : Jvm.MethodName) ({ cls := "FlashStore", name := "forget", desc := "(I)V" } : Jvm.MethodName)) ∈ bw := bw_in (List.mem_append_left _ (List.mem_of_getElem? (i := 1) rfl)) rfl
theorem bq_2_34 : (Jvm.Cond.methodLink "FlashStore" (114 : Nat) ({ cls := "FlashStore", name := "placeOf", desc := "(II)I" } : Jvm.MethodName)) ∈ bw := bw_in (List.mem_append_right _ (List.mem_append_right _ (List.mem_append_left _ (List.mem_of_getElem? (i := 34) rfl)))) rfl
theorem bq_2_33 : (Jvm.Cond.code ({ cls := "FlashStore", name := "countInBlock", desc := "(II)I" } : Jvm.MethodName) prog_1_method_30_code (5 : Nat) (Option.some Jvm.ClassFile.FieldType.int)) ∈ bw := bw_in (List.mem_append_right _ (List.mem_append_right _ (List.mem_append_left _ (List.mem_of_getElem? (i := 33) rfl)))) rfl
theorem bq_2_30 : (Jvm.Cond.methodLink "FlashStore" (171 : Nat) ({ cls := "FlashStore", name := "countInBlock", desc := "(II)I" } : Jvm.MethodName)) ∈ bw := bw_in (List.mem_append_right _ (List.mem_append_right _ (List.mem_append_left _ (List.mem_of_getElem? (i := 30) rfl)))) rfl
theorem bq_2_32 : (Jvm.Cond.instanceMethod ({ cls := "FlashStore", name := "countInBlock", desc := "(II)I" } : Jvm.MethodName)) ∈ bw := bw_in (List.mem_append_right _ (List.mem_append_right _ (List.mem_append_left _ (List.mem_of_getElem? (i := 32) rfl)))) rfl
theorem bq_s_8 : (Jvm.Cond.selects "FlashStore" ({ cls := "FlashStore", name := "countInBlock", desc := "(II)I" } : Jvm.MethodName) ({ cls := "FlashStore", name := "countInBlock", desc := "(II)I" } : Jvm.MethodName)) ∈ bw := bw_in (List.mem_append_left _ (List.mem_of_getElem? (i := 8) rfl)) rfl
theorem bq_2_29 : (Jvm.Cond.code ({ cls := "FlashStore", name := "isWholeFree", desc := "(I)Z" } : Jvm.MethodName) prog_1_method_31_code (2 : Nat) (Option.some Jvm.ClassFile.FieldType.boolean)) ∈ bw := bw_in (List.mem_append_right _ (List.mem_append_right _ (List.mem_append_left _ (List.mem_of_getElem? (i := 29) rfl)))) rfl
theorem bq_2_26 : (Jvm.Cond.methodLink "FlashStore" (177 : Nat) ({ cls := "FlashStore", name := "isWholeFree", desc := "(I)Z" } : Jvm.MethodName)) ∈ bw := bw_in (List.mem_append_right _ (List.mem_append_right _ (List.mem_append_left _ (List.mem_of_getElem? (i := 26) rfl)))) rfl
theorem bq_2_28 : (Jvm.Cond.instanceMethod ({ cls := "FlashStore", name := "isWholeFree", desc := "(I)Z" } : Jvm.MethodName)) ∈ bw := bw_in (List.mem_append_right _ (List.mem_append_right _ (List.mem_append_left _ (List.mem_of_getElem? (i := 28) rfl)))) rfl
theorem bq_s_7 : (Jvm.Cond.selects "FlashStore" ({ cls := "FlashStore", name := "isWholeFree", desc := "(I)Z" } : Jvm.MethodName) ({ cls := "FlashStore", name := "isWholeFree", desc := "(I)Z" } : Jvm.MethodName)) ∈ bw := bw_in (List.mem_append_left _ (List.mem_of_getElem? (i := 7) rfl)) rfl
theorem bq_2_25 : (Jvm.Cond.code ({ cls := "FlashStore", name := "blockOf", desc := "(I)I" } : Jvm.MethodName) prog_1_method_21_code (1 : Nat) (Option.some Jvm.ClassFile.FieldType.int)) ∈ bw := bw_in (List.mem_append_right _ (List.mem_append_right _ (List.mem_append_left _ (List.mem_of_getElem? (i := 25) rfl)))) rfl
theorem bq_2_23 : (Jvm.Cond.methodLink "FlashStore" (174 : Nat) ({ cls := "FlashStore", name := "blockOf", desc := "(I)I" } : Jvm.MethodName)) ∈ bw := bw_in (List.mem_append_right _ (List.mem_append_right _ (List.mem_append_left _ (List.mem_of_getElem? (i := 23) rfl)))) rfl
theorem bq_2_24 : (Jvm.Cond.static ({ cls := "FlashStore", name := "blockOf", desc := "(I)I" } : Jvm.MethodName)) ∈ bw := bw_in (List.mem_append_right _ (List.mem_append_right _ (List.mem_append_left _ (List.mem_of_getElem? (i := 24) rfl)))) rfl
theorem bq_2_22 : (Jvm.Cond.code ({ cls := "FlashStore", name := "freePlace", desc := "(I)I" } : Jvm.MethodName) prog_1_method_32_code (5 : Nat) (Option.some Jvm.ClassFile.FieldType.int)) ∈ bw := bw_in (List.mem_append_right _ (List.mem_append_right _ (List.mem_append_left _ (List.mem_of_getElem? (i := 22) rfl)))) rfl
theorem bq_2_19 : (Jvm.Cond.methodLink "FlashStore" (180 : Nat) ({ cls := "FlashStore", name := "freePlace", desc := "(I)I" } : Jvm.MethodName)) ∈ bw := bw_in (List.mem_append_right _ (List.mem_append_right _ (List.mem_append_left _ (List.mem_of_getElem? (i := 19) rfl)))) rfl
theorem bq_2_21 : (Jvm.Cond.instanceMethod ({ cls := "FlashStore", name := "freePlace", desc := "(I)I" } : Jvm.MethodName)) ∈ bw := bw_in (List.mem_append_right _ (List.mem_append_right _ (List.mem_append_left _ (List.mem_of_getElem? (i := 21) rfl)))) rfl
theorem bq_s_6 : (Jvm.Cond.selects "FlashStore" ({ cls := "FlashStore", name := "freePlace", desc := "(I)I" } : Jvm.MethodName) ({ cls := "FlashStore", name := "freePlace", desc := "(I)I" } : Jvm.MethodName)) ∈ bw := bw_in (List.mem_append_left _ (List.mem_of_getElem? (i := 6) rfl)) rfl
theorem bq_1_41 : (Jvm.Cond.fieldLink "FlashStore" (12 : Nat) "FlashStore" "memory" "LFlashStore$Flash;") ∈ bw := bw_in (List.mem_append_right _ (List.mem_append_left _ (List.mem_of_getElem? (i := 41) rfl))) rfl
theorem bq_1_45 : (Jvm.Cond.fieldLink "FlashStore" (26 : Nat) "FlashStore" "nextSerial" "I") ∈ bw := bw_in (List.mem_append_right _ (List.mem_append_left _ (List.mem_of_getElem? (i := 45) rfl))) rfl
theorem bq_1_127 : (Jvm.Cond.code ({ cls := "FlashStore", name := "serialBehind", desc := "(I)I" } : Jvm.MethodName) prog_1_method_24_code (1 : Nat) (Option.some Jvm.ClassFile.FieldType.int)) ∈ bw := bw_in (List.mem_append_right _ (List.mem_append_left _ (List.mem_of_getElem? (i := 127) rfl))) rfl
theorem bq_1_125 : (Jvm.Cond.methodLink "FlashStore" (137 : Nat) ({ cls := "FlashStore", name := "serialBehind", desc := "(I)I" } : Jvm.MethodName)) ∈ bw := bw_in (List.mem_append_right _ (List.mem_append_left _ (List.mem_of_getElem? (i := 125) rfl))) rfl
theorem bq_1_126 : (Jvm.Cond.static ({ cls := "FlashStore", name := "serialBehind", desc := "(I)I" } : Jvm.MethodName)) ∈ bw := bw_in (List.mem_append_right _ (List.mem_append_left _ (List.mem_of_getElem? (i := 126) rfl))) rfl
theorem bq_2_100 : (Jvm.Cond.code ({ cls := "FlashStore$Flash", name := "program", desc := "(IJI)V" } : Jvm.MethodName) prog_3_method_4_code (8 : Nat) (Option.none : Option Jvm.ClassFile.FieldType)) ∈ bw := bw_in (List.mem_append_right _ (List.mem_append_right _ (List.mem_append_left _ (List.mem_of_getElem? (i := 100) rfl)))) rfl
theorem bq_2_97 : (Jvm.Cond.methodLink "FlashStore" (183 : Nat) ({ cls := "FlashStore$Flash", name := "program", desc := "(IJI)V" } : Jvm.MethodName)) ∈ bw := bw_in (List.mem_append_right _ (List.mem_append_right _ (List.mem_append_left _ (List.mem_of_getElem? (i := 97) rfl)))) rfl
theorem bq_2_98 : (Jvm.Cond.instanceMethod ({ cls := "FlashStore$Flash", name := "program", desc := "(IJI)V" } : Jvm.MethodName)) ∈ bw := bw_in (List.mem_append_right _ (List.mem_append_right _ (List.mem_append_left _ (List.mem_of_getElem? (i := 98) rfl)))) rfl
theorem bq_2_99 : (Jvm.Cond.selects "FlashStore$Flash" ({ cls := "FlashStore$Flash", name := "program", desc := "(IJI)V" } : Jvm.MethodName) ({ cls := "FlashStore$Flash", name := "program", desc := "(IJI)V" } : Jvm.MethodName)) ∈ bw := bw_in (List.mem_append_right _ (List.mem_append_right _ (List.mem_append_left _ (List.mem_of_getElem? (i := 99) rfl)))) rfl
theorem bq_2_48 : (Jvm.Cond.code ({ cls := "FlashStore", name := "countFreeOutside", desc := "(I)I" } : Jvm.MethodName) prog_1_method_37_code (4 : Nat) (Option.some Jvm.ClassFile.FieldType.int)) ∈ bw := bw_in (List.mem_append_right _ (List.mem_append_right _ (List.mem_append_left _ (List.mem_of_getElem? (i := 48) rfl)))) rfl
theorem bq_2_45 : (Jvm.Cond.methodLink "FlashStore" (192 : Nat) ({ cls := "FlashStore", name := "countFreeOutside", desc := "(I)I" } : Jvm.MethodName)) ∈ bw := bw_in (List.mem_append_right _ (List.mem_append_right _ (List.mem_append_left _ (List.mem_of_getElem? (i := 45) rfl)))) rfl
theorem bq_2_47 : (Jvm.Cond.instanceMethod ({ cls := "FlashStore", name := "countFreeOutside", desc := "(I)I" } : Jvm.MethodName)) ∈ bw := bw_in (List.mem_append_right _ (List.mem_append_right _ (List.mem_append_left _ (List.mem_of_getElem? (i := 47) rfl)))) rfl
theorem bq_s_11 : (Jvm.Cond.selects "FlashStore" ({ cls := "FlashStore", name := "countFreeOutside", desc := "(I)I" } : Jvm.MethodName) ({ cls := "FlashStore", name := "countFreeOutside", desc := "(I)I" } : Jvm.MethodName)) ∈ bw := bw_in (List.mem_append_left _ (List.mem_of_getElem? (i := 11) rfl)) rfl
theorem bq_2_56 : (Jvm.Cond.code ({ cls := "FlashStore$Flash", name := "erasuresOf", desc := "(I)I" } : Jvm.MethodName) prog_3_method_6_code (2 : Nat) (Option.some Jvm.ClassFile.FieldType.int)) ∈ bw := bw_in (List.mem_append_right _ (List.mem_append_right _ (List.mem_append_left _ (List.mem_of_getElem? (i := 56) rfl)))) rfl
theorem bq_2_53 : (Jvm.Cond.methodLink "FlashStore" (151 : Nat) ({ cls := "FlashStore$Flash", name := "erasuresOf", desc := "(I)I" } : Jvm.MethodName)) ∈ bw := bw_in (List.mem_append_right _ (List.mem_append_right _ (List.mem_append_left _ (List.mem_of_getElem? (i := 53) rfl)))) rfl
theorem bq_2_54 : (Jvm.Cond.instanceMethod ({ cls := "FlashStore$Flash", name := "erasuresOf", desc := "(I)I" } : Jvm.MethodName)) ∈ bw := bw_in (List.mem_append_right _ (List.mem_append_right _ (List.mem_append_left _ (List.mem_of_getElem? (i := 54) rfl)))) rfl
theorem bq_2_55 : (Jvm.Cond.selects "FlashStore$Flash" ({ cls := "FlashStore$Flash", name := "erasuresOf", desc := "(I)I" } : Jvm.MethodName) ({ cls := "FlashStore$Flash", name := "erasuresOf", desc := "(I)I" } : Jvm.MethodName)) ∈ bw := bw_in (List.mem_append_right _ (List.mem_append_right _ (List.mem_append_left _ (List.mem_of_getElem? (i := 55) rfl)))) rfl
theorem bq_2_52 : (Jvm.Cond.code ({ cls := "FlashStore", name := "isBetterToClean", desc := "(II)Z" } : Jvm.MethodName) prog_1_method_38_code (5 : Nat) (Option.some Jvm.ClassFile.FieldType.boolean)) ∈ bw := bw_in (List.mem_append_right _ (List.mem_append_right _ (List.mem_append_left _ (List.mem_of_getElem? (i := 52) rfl)))) rfl
theorem bq_2_49 : (Jvm.Cond.methodLink "FlashStore" (189 : Nat) ({ cls := "FlashStore", name := "isBetterToClean", desc := "(II)Z" } : Jvm.MethodName)) ∈ bw := bw_in (List.mem_append_right _ (List.mem_append_right _ (List.mem_append_left _ (List.mem_of_getElem? (i := 49) rfl)))) rfl
theorem bq_2_51 : (Jvm.Cond.instanceMethod ({ cls := "FlashStore", name := "isBetterToClean", desc := "(II)Z" } : Jvm.MethodName)) ∈ bw := bw_in (List.mem_append_right _ (List.mem_append_right _ (List.mem_append_left _ (List.mem_of_getElem? (i := 51) rfl)))) rfl
theorem bq_s_12 : (Jvm.Cond.selects "FlashStore" ({ cls := "FlashStore", name := "isBetterToClean", desc := "(II)Z" } : Jvm.MethodName) ({ cls := "FlashStore", name := "isBetterToClean", desc := "(II)Z" } : Jvm.MethodName)) ∈ bw := bw_in (List.mem_append_left _ (List.mem_of_getElem? (i := 12) rfl)) rfl
theorem bq_2_44 : (Jvm.Cond.code ({ cls := "FlashStore", name := "canBeCleaned", desc := "(I)Z" } : Jvm.MethodName) prog_1_method_36_code (3 : Nat) (Option.some Jvm.ClassFile.FieldType.boolean)) ∈ bw := bw_in (List.mem_append_right _ (List.mem_append_right _ (List.mem_append_left _ (List.mem_of_getElem? (i := 44) rfl)))) rfl
theorem bq_2_41 : (Jvm.Cond.methodLink "FlashStore" (186 : Nat) ({ cls := "FlashStore", name := "canBeCleaned", desc := "(I)Z" } : Jvm.MethodName)) ∈ bw := bw_in (List.mem_append_right _ (List.mem_append_right _ (List.mem_append_left _ (List.mem_of_getElem? (i := 41) rfl)))) rfl
theorem bq_2_43 : (Jvm.Cond.instanceMethod ({ cls := "FlashStore", name := "canBeCleaned", desc := "(I)Z" } : Jvm.MethodName)) ∈ bw := bw_in (List.mem_append_right _ (List.mem_append_right _ (List.mem_append_left _ (List.mem_of_getElem? (i := 43) rfl)))) rfl
theorem bq_s_10 : (Jvm.Cond.selects "FlashStore" ({ cls := "FlashStore", name := "canBeCleaned", desc := "(I)Z" } : Jvm.MethodName) ({ cls := "FlashStore", name := "canBeCleaned", desc := "(I)Z" } : Jvm.MethodName)) ∈ bw := bw_in (List.mem_append_left _ (List.mem_of_getElem? (i := 10) rfl)) rfl
theorem bq_2_96 : (Jvm.Cond.code ({ cls := "FlashStore", name := "put", desc := "(IJI)V" } : Jvm.MethodName) prog_1_method_34_code (6 : Nat) (Option.none : Option Jvm.ClassFile.FieldType)) ∈ bw := bw_in (List.mem_append_right _ (List.mem_append_right _ (List.mem_append_left _ (List.mem_of_getElem? (i := 96) rfl)))) rfl
theorem bq_2_93 : (Jvm.Cond.methodLink "FlashStore" (91 : Nat) ({ cls := "FlashStore", name := "put", desc := "(IJI)V" } : Jvm.MethodName)) ∈ bw := bw_in (List.mem_append_right _ (List.mem_append_right _ (List.mem_append_left _ (List.mem_of_getElem? (i := 93) rfl)))) rfl
theorem bq_2_95 : (Jvm.Cond.instanceMethod ({ cls := "FlashStore", name := "put", desc := "(IJI)V" } : Jvm.MethodName)) ∈ bw := bw_in (List.mem_append_right _ (List.mem_append_right _ (List.mem_append_left _ (List.mem_of_getElem? (i := 95) rfl)))) rfl
theorem bq_s_16 : (Jvm.Cond.selects "FlashStore" ({ cls := "FlashStore", name := "put", desc := "(IJI)V" } : Jvm.MethodName) ({ cls := "FlashStore", name := "put", desc := "(IJI)V" } : Jvm.MethodName)) ∈ bw := bw_in (List.mem_append_left _ (List.mem_of_getElem? (i := 16) rfl)) rfl
theorem bq_2_92 : (Jvm.Cond.code ({ cls := "FlashStore$Flash", name := "contentAt", desc := "(I)J" } : Jvm.MethodName) prog_3_method_9_code (7 : Nat) (Option.some Jvm.ClassFile.FieldType.long)) ∈ bw := bw_in (List.mem_append_right _ (List.mem_append_right _ (List.mem_append_left _ (List.mem_of_getElem? (i := 92) rfl)))) rfl
theorem bq_2_89 : (Jvm.Cond.methodLink "FlashStore" (103 : Nat) ({ cls := "FlashStore$Flash", name := "contentAt", desc := "(I)J" } : Jvm.MethodName)) ∈ bw := bw_in (List.mem_append_right _ (List.mem_append_right _ (List.mem_append_left _ (List.mem_of_getElem? (i := 89) rfl)))) rfl
theorem bq_2_90 : (Jvm.Cond.instanceMethod ({ cls := "FlashStore$Flash", name := "contentAt", desc := "(I)J" } : Jvm.MethodName)) ∈ bw := bw_in (List.mem_append_right _ (List.mem_append_right _ (List.mem_append_left _ (List.mem_of_getElem? (i := 90) rfl)))) rfl
theorem bq_2_91 : (Jvm.Cond.selects "FlashStore$Flash" ({ cls := "FlashStore$Flash", name := "contentAt", desc := "(I)J" } : Jvm.MethodName) ({ cls := "FlashStore$Flash", name := "contentAt", desc := "(I)J" } : Jvm.MethodName)) ∈ bw := bw_in (List.mem_append_right _ (List.mem_append_right _ (List.mem_append_left _ (List.mem_of_getElem? (i := 91) rfl)))) rfl
theorem bq_2_88 : (Jvm.Cond.code ({ cls := "FlashStore$Flash", name := "isReadable", desc := "(I)Z" } : Jvm.MethodName) prog_3_method_8_code (3 : Nat) (Option.some Jvm.ClassFile.FieldType.boolean)) ∈ bw := bw_in (List.mem_append_right _ (List.mem_append_right _ (List.mem_append_left _ (List.mem_of_getElem? (i := 88) rfl)))) rfl
theorem bq_2_85 : (Jvm.Cond.methodLink "FlashStore" (97 : Nat) ({ cls := "FlashStore$Flash", name := "isReadable", desc := "(I)Z" } : Jvm.MethodName)) ∈ bw := bw_in (List.mem_append_right _ (List.mem_append_right _ (List.mem_append_left _ (List.mem_of_getElem? (i := 85) rfl)))) rfl
theorem bq_2_86 : (Jvm.Cond.instanceMethod ({ cls := "FlashStore$Flash", name := "isReadable", desc := "(I)Z" } : Jvm.MethodName)) ∈ bw := bw_in (List.mem_append_right _ (List.mem_append_right _ (List.mem_append_left _ (List.mem_of_getElem? (i := 86) rfl)))) rfl
theorem bq_2_87 : (Jvm.Cond.selects "FlashStore$Flash" ({ cls := "FlashStore$Flash", name := "isReadable", desc := "(I)Z" } : Jvm.MethodName) ({ cls := "FlashStore$Flash", name := "isReadable", desc := "(I)Z" } : Jvm.MethodName)) ∈ bw := bw_in (List.mem_append_right _ (List.mem_append_right _ (List.mem_append_left _ (List.mem_of_getElem? (i := 87) rfl)))) rfl
theorem bq_2_84 : (Jvm.Cond.code ({ cls := "FlashStore", name := "logicalPageAt", desc := "(I)I" } : Jvm.MethodName) prog_1_method_29_code (3 : Nat) (Option.some Jvm.ClassFile.FieldType.int)) ∈ bw := bw_in (List.mem_append_right _ (List.mem_append_right _ (List.mem_append_left _ (List.mem_of_getElem? (i := 84) rfl)))) rfl
theorem bq_2_81 : (Jvm.Cond.methodLink "FlashStore" (201 : Nat) ({ cls := "FlashStore", name := "logicalPageAt", desc := "(I)I" } : Jvm.MethodName)) ∈ bw := bw_in (List.mem_append_right _ (List.mem_append_right _ (List.mem_append_left _ (List.mem_of_getElem? (i := 81) rfl)))) rfl
theorem bq_2_83 : (Jvm.Cond.instanceMethod ({ cls := "FlashStore", name := "logicalPageAt", desc := "(I)I" } : Jvm.MethodName)) ∈ bw := bw_in (List.mem_append_right _ (List.mem_append_right _ (List.mem_append_left _ (List.mem_of_getElem? (i := 83) rfl)))) rfl
theorem bq_s_15 : (Jvm.Cond.selects "FlashStore" ({ cls := "FlashStore", name := "logicalPageAt", desc := "(I)I" } : Jvm.MethodName) ({ cls := "FlashStore", name := "logicalPageAt", desc := "(I)I" } : Jvm.MethodName)) ∈ bw := bw_in (List.mem_append_left _ (List.mem_of_getElem? (i := 15) rfl)) rfl
theorem bq_2_106 : (Jvm.Cond.code ({ cls := "FlashStore$Flash", name := "erase", desc := "(I)V" } : Jvm.MethodName) prog_3_method_5_code (4 : Nat) (Option.none : Option Jvm.ClassFile.FieldType)) ∈ bw := bw_in (List.mem_append_right _ (List.mem_append_right _ (List.mem_append_left _ (List.mem_of_getElem? (i := 106) rfl)))) rfl
theorem bq_2_103 : (Jvm.Cond.methodLink "FlashStore" (198 : Nat) ({ cls := "FlashStore$Flash", name := "erase", desc := "(I)V" } : Jvm.MethodName)) ∈ bw := bw_in (List.mem_append_right _ (List.mem_append_right _ (List.mem_append_left _ (List.mem_of_getElem? (i := 103) rfl)))) rfl
theorem bq_2_104 : (Jvm.Cond.instanceMethod ({ cls := "FlashStore$Flash", name := "erase", desc := "(I)V" } : Jvm.MethodName)) ∈ bw := bw_in (List.mem_append_right _ (List.mem_append_right _ (List.mem_append_left _ (List.mem_of_getElem? (i := 104) rfl)))) rfl
theorem bq_2_105 : (Jvm.Cond.selects "FlashStore$Flash" ({ cls := "FlashStore$Flash", name := "erase", desc := "(I)V" } : Jvm.MethodName) ({ cls := "FlashStore$Flash", name := "erase", desc := "(I)V" } : Jvm.MethodName)) ∈ bw := bw_in (List.mem_append_right _ (List.mem_append_right _ (List.mem_append_left _ (List.mem_of_getElem? (i := 105) rfl)))) rfl
theorem bq_2_80 : (Jvm.Cond.code ({ cls := "FlashStore", name := "moveAway", desc := "(I)V" } : Jvm.MethodName) prog_1_method_40_code (3 : Nat) (Option.none : Option Jvm.ClassFile.FieldType)) ∈ bw := bw_in (List.mem_append_right _ (List.mem_append_right _ (List.mem_append_left _ (List.mem_of_getElem? (i := 80) rfl)))) rfl
theorem bq_2_77 : (Jvm.Cond.methodLink "FlashStore" (195 : Nat) ({ cls := "FlashStore", name := "moveAway", desc := "(I)V" } : Jvm.MethodName)) ∈ bw := bw_in (List.mem_append_right _ (List.mem_append_right _ (List.mem_append_left _ (List.mem_of_getElem? (i := 77) rfl)))) rfl
theorem bq_2_79 : (Jvm.Cond.instanceMethod ({ cls := "FlashStore", name := "moveAway", desc := "(I)V" } : Jvm.MethodName)) ∈ bw := bw_in (List.mem_append_right _ (List.mem_append_right _ (List.mem_append_left _ (List.mem_of_getElem? (i := 79) rfl)))) rfl
theorem bq_s_14 : (Jvm.Cond.selects "FlashStore" ({ cls := "FlashStore", name := "moveAway", desc := "(I)V" } : Jvm.MethodName) ({ cls := "FlashStore", name := "moveAway", desc := "(I)V" } : Jvm.MethodName)) ∈ bw := bw_in (List.mem_append_left _ (List.mem_of_getElem? (i := 14) rfl)) rfl
theorem bq_1_212 : (Jvm.Cond.methodLink "FlashStore" (49 : Nat) ({ cls := "FlashStore$Code", name := "codewordOf", desc := "(I)I" } : Jvm.MethodName)) ∈ bw := bw_in (List.mem_append_right _ (List.mem_append_left _ (List.mem_of_getElem? (i := 212) rfl))) rfl
theorem bq_1_46 : (Jvm.Cond.fieldLink "FlashStore" (30 : Nat) "FlashStore" "lastMended" "I") ∈ bw := bw_in (List.mem_append_right _ (List.mem_append_left _ (List.mem_of_getElem? (i := 46) rfl))) rfl
theorem bq_2_2 : (Jvm.Cond.methodLink "FlashStore" (68 : Nat) ({ cls := "FlashStore$Code", name := "dataOf", desc := "(I)I" } : Jvm.MethodName)) ∈ bw := bw_in (List.mem_append_right _ (List.mem_append_right _ (List.mem_append_left _ (List.mem_of_getElem? (i := 2) rfl)))) rfl
theorem bq_2_1 : (Jvm.Cond.methodLink "FlashStore" (63 : Nat) ({ cls := "java/lang/Integer", name := "bitCount", desc := "(I)I" } : Jvm.MethodName)) ∈ bw := bw_in (List.mem_append_right _ (List.mem_append_right _ (List.mem_append_left _ (List.mem_of_getElem? (i := 1) rfl)))) rfl
theorem bq_1_224 : (Jvm.Cond.methodLink "FlashStore" (55 : Nat) ({ cls := "FlashStore$Code", name := "mend", desc := "(I)I" } : Jvm.MethodName)) ∈ bw := bw_in (List.mem_append_right _ (List.mem_append_left _ (List.mem_of_getElem? (i := 224) rfl))) rfl
theorem bq_2_13 : (Jvm.Cond.code ({ cls := "FlashStore", name := "requireLogicalPage", desc := "(I)V" } : Jvm.MethodName) prog_1_method_16_code (1 : Nat) (Option.none : Option Jvm.ClassFile.FieldType)) ∈ bw := bw_in (List.mem_append_right _ (List.mem_append_right _ (List.mem_append_left _ (List.mem_of_getElem? (i := 13) rfl)))) rfl
theorem bq_2_11 : (Jvm.Cond.methodLink "FlashStore" (71 : Nat) ({ cls := "FlashStore", name := "requireLogicalPage", desc := "(I)V" } : Jvm.MethodName)) ∈ bw := bw_in (List.mem_append_right _ (List.mem_append_right _ (List.mem_append_left _ (List.mem_of_getElem? (i := 11) rfl)))) rfl
theorem bq_2_12 : (Jvm.Cond.static ({ cls := "FlashStore", name := "requireLogicalPage", desc := "(I)V" } : Jvm.MethodName)) ∈ bw := bw_in (List.mem_append_right _ (List.mem_append_right _ (List.mem_append_left _ (List.mem_of_getElem? (i := 12) rfl)))) rfl
theorem bq_2_76 : (Jvm.Cond.code ({ cls := "FlashStore", name := "cleanBlock", desc := "(I)V" } : Jvm.MethodName) prog_1_method_39_code (3 : Nat) (Option.none : Option Jvm.ClassFile.FieldType)) ∈ bw := bw_in (List.mem_append_right _ (List.mem_append_right _ (List.mem_append_left _ (List.mem_of_getElem? (i := 76) rfl)))) rfl
theorem bq_2_73 : (Jvm.Cond.methodLink "FlashStore" (88 : Nat) ({ cls := "FlashStore", name := "cleanBlock", desc := "(I)V" } : Jvm.MethodName)) ∈ bw := bw_in (List.mem_append_right _ (List.mem_append_right _ (List.mem_append_left _ (List.mem_of_getElem? (i := 73) rfl)))) rfl
theorem bq_2_75 : (Jvm.Cond.instanceMethod ({ cls := "FlashStore", name := "cleanBlock", desc := "(I)V" } : Jvm.MethodName)) ∈ bw := bw_in (List.mem_append_right _ (List.mem_append_right _ (List.mem_append_left _ (List.mem_of_getElem? (i := 75) rfl)))) rfl
theorem bq_s_13 : (Jvm.Cond.selects "FlashStore" ({ cls := "FlashStore", name := "cleanBlock", desc := "(I)V" } : Jvm.MethodName) ({ cls := "FlashStore", name := "cleanBlock", desc := "(I)V" } : Jvm.MethodName)) ∈ bw := bw_in (List.mem_append_left _ (List.mem_of_getElem? (i := 13) rfl)) rfl
theorem bq_2_40 : (Jvm.Cond.code ({ cls := "FlashStore", name := "blockToClean", desc := "()I" } : Jvm.MethodName) prog_1_method_35_code (3 : Nat) (Option.some Jvm.ClassFile.FieldType.int)) ∈ bw := bw_in (List.mem_append_right _ (List.mem_append_right _ (List.mem_append_left _ (List.mem_of_getElem? (i := 40) rfl)))) rfl
theorem bq_2_37 : (Jvm.Cond.methodLink "FlashStore" (79 : Nat) ({ cls := "FlashStore", name := "blockToClean", desc := "()I" } : Jvm.MethodName)) ∈ bw := bw_in (List.mem_append_right _ (List.mem_append_right _ (List.mem_append_left _ (List.mem_of_getElem? (i := 37) rfl)))) rfl
theorem bq_2_39 : (Jvm.Cond.instanceMethod ({ cls := "FlashStore", name := "blockToClean", desc := "()I" } : Jvm.MethodName)) ∈ bw := bw_in (List.mem_append_right _ (List.mem_append_right _ (List.mem_append_left _ (List.mem_of_getElem? (i := 39) rfl)))) rfl
theorem bq_s_9 : (Jvm.Cond.selects "FlashStore" ({ cls := "FlashStore", name := "blockToClean", desc := "()I" } : Jvm.MethodName) ({ cls := "FlashStore", name := "blockToClean", desc := "()I" } : Jvm.MethodName)) ∈ bw := bw_in (List.mem_append_left _ (List.mem_of_getElem? (i := 9) rfl)) rfl
theorem bq_2_18 : (Jvm.Cond.code ({ cls := "FlashStore", name := "leavesBlockFree", desc := "()Z" } : Jvm.MethodName) prog_1_method_33_code (3 : Nat) (Option.some Jvm.ClassFile.FieldType.boolean)) ∈ bw := bw_in (List.mem_append_right _ (List.mem_append_right _ (List.mem_append_left _ (List.mem_of_getElem? (i := 18) rfl)))) rfl
theorem bq_2_15 : (Jvm.Cond.methodLink "FlashStore" (75 : Nat) ({ cls := "FlashStore", name := "leavesBlockFree", desc := "()Z" } : Jvm.MethodName)) ∈ bw := bw_in (List.mem_append_right _ (List.mem_append_right _ (List.mem_append_left _ (List.mem_of_getElem? (i := 15) rfl)))) rfl
theorem bq_2_17 : (Jvm.Cond.instanceMethod ({ cls := "FlashStore", name := "leavesBlockFree", desc := "()Z" } : Jvm.MethodName)) ∈ bw := bw_in (List.mem_append_right _ (List.mem_append_right _ (List.mem_append_left _ (List.mem_of_getElem? (i := 17) rfl)))) rfl
theorem bq_s_5 : (Jvm.Cond.selects "FlashStore" ({ cls := "FlashStore", name := "leavesBlockFree", desc := "()Z" } : Jvm.MethodName) ({ cls := "FlashStore", name := "leavesBlockFree", desc := "()Z" } : Jvm.MethodName)) ∈ bw := bw_in (List.mem_append_left _ (List.mem_of_getElem? (i := 5) rfl)) rfl
theorem bq_2_146 : (Jvm.Cond.code ({ cls := "FlashStore$Flash", name := "turnOver", desc := "(III)V" } : Jvm.MethodName) prog_3_method_3_code (4 : Nat) (Option.none : Option Jvm.ClassFile.FieldType)) ∈ bw := bw_in (List.mem_append_right _ (List.mem_append_right _ (List.mem_append_left _ (List.mem_of_getElem? (i := 146) rfl)))) rfl
theorem bq_2_143 : (Jvm.Cond.methodLink "FlashStore" (118 : Nat) ({ cls := "FlashStore$Flash", name := "turnOver", desc := "(III)V" } : Jvm.MethodName)) ∈ bw := bw_in (List.mem_append_right _ (List.mem_append_right _ (List.mem_append_left _ (List.mem_of_getElem? (i := 143) rfl)))) rfl
theorem bq_2_144 : (Jvm.Cond.instanceMethod ({ cls := "FlashStore$Flash", name := "turnOver", desc := "(III)V" } : Jvm.MethodName)) ∈ bw := bw_in (List.mem_append_right _ (List.mem_append_right _ (List.mem_append_left _ (List.mem_of_getElem? (i := 144) rfl)))) rfl
theorem bq_2_145 : (Jvm.Cond.selects "FlashStore$Flash" ({ cls := "FlashStore$Flash", name := "turnOver", desc := "(III)V" } : Jvm.MethodName) ({ cls := "FlashStore$Flash", name := "turnOver", desc := "(III)V" } : Jvm.MethodName)) ∈ bw := bw_in (List.mem_append_right _ (List.mem_append_right _ (List.mem_append_left _ (List.mem_of_getElem? (i := 145) rfl)))) rfl
theorem bq_2_133 : (Jvm.Cond.code ({ cls := "FlashStore", name := "requireWord", desc := "(III)V" } : Jvm.MethodName) prog_1_method_19_code (3 : Nat) (Option.none : Option Jvm.ClassFile.FieldType)) ∈ bw := bw_in (List.mem_append_right _ (List.mem_append_right _ (List.mem_append_left _ (List.mem_of_getElem? (i := 133) rfl)))) rfl
theorem bq_2_131 : (Jvm.Cond.methodLink "FlashStore" (110 : Nat) ({ cls := "FlashStore", name := "requireWord", desc := "(III)V" } : Jvm.MethodName)) ∈ bw := bw_in (List.mem_append_right _ (List.mem_append_right _ (List.mem_append_left _ (List.mem_of_getElem? (i := 131) rfl)))) rfl
theorem bq_2_132 : (Jvm.Cond.static ({ cls := "FlashStore", name := "requireWord", desc := "(III)V" } : Jvm.MethodName)) ∈ bw := bw_in (List.mem_append_right _ (List.mem_append_right _ (List.mem_append_left _ (List.mem_of_getElem? (i := 132) rfl)))) rfl
theorem bq_2_154 : (Jvm.Cond.methodLink "FlashStore" (121 : Nat) ({ cls := "FlashStore$Flash", name := "wordAt", desc := "(II)I" } : Jvm.MethodName)) ∈ bw := bw_in (List.mem_append_right _ (List.mem_append_right _ (List.mem_append_left _ (List.mem_of_getElem? (i := 154) rfl)))) rfl
theorem bq_1_31 : (Jvm.Cond.code ({ cls := "java/util/Arrays", name := "fill", desc := "([II)V" } : Jvm.MethodName) prog_15_method_103_code (4 : Nat) (Option.none : Option Jvm.ClassFile.FieldType)) ∈ bw := bw_in (List.mem_append_right _ (List.mem_append_left _ (List.mem_of_getElem? (i := 31) rfl))) rfl
theorem bq_1_40 : (Jvm.Cond.methodLink "FlashStore" (33 : Nat) ({ cls := "java/util/Arrays", name := "fill", desc := "([II)V" } : Jvm.MethodName)) ∈ bw := bw_in (List.mem_append_right _ (List.mem_append_left _ (List.mem_of_getElem? (i := 40) rfl))) rfl
theorem bq_1_30 : (Jvm.Cond.static ({ cls := "java/util/Arrays", name := "fill", desc := "([II)V" } : Jvm.MethodName)) ∈ bw := bw_in (List.mem_append_right _ (List.mem_append_left _ (List.mem_of_getElem? (i := 30) rfl))) rfl
theorem bq_1_3 : (Jvm.Cond.initialized "java/util/Arrays") ∈ bw := bw_in (List.mem_append_right _ (List.mem_append_left _ (List.mem_of_getElem? (i := 3) rfl))) rfl
theorem bq_1_110 : (Jvm.Cond.code ({ cls := "FlashStore", name := "take", desc := "(III)V" } : Jvm.MethodName) prog_1_method_25_code (4 : Nat) (Option.none : Option Jvm.ClassFile.FieldType)) ∈ bw := bw_in (List.mem_append_right _ (List.mem_append_left _ (List.mem_of_getElem? (i := 110) rfl))) rfl
theorem bq_1_107 : (Jvm.Cond.methodLink "FlashStore" (130 : Nat) ({ cls := "FlashStore", name := "take", desc := "(III)V" } : Jvm.MethodName)) ∈ bw := bw_in (List.mem_append_right _ (List.mem_append_left _ (List.mem_of_getElem? (i := 107) rfl))) rfl
theorem bq_1_109 : (Jvm.Cond.instanceMethod ({ cls := "FlashStore", name := "take", desc := "(III)V" } : Jvm.MethodName)) ∈ bw := bw_in (List.mem_append_right _ (List.mem_append_left _ (List.mem_of_getElem? (i := 109) rfl))) rfl
theorem bq_s_0 : (Jvm.Cond.selects "FlashStore" ({ cls := "FlashStore", name := "take", desc := "(III)V" } : Jvm.MethodName) ({ cls := "FlashStore", name := "take", desc := "(III)V" } : Jvm.MethodName)) ∈ bw := bw_in (List.mem_append_left _ (List.mem_of_getElem? (i := 0) rfl)) rfl
theorem bq_1_106 : (Jvm.Cond.code ({ cls := "FlashStore", name := "isSpoilt", desc := "(I)Z" } : Jvm.MethodName) prog_1_method_22_code (1 : Nat) (Option.some Jvm.ClassFile.FieldType.boolean)) ∈ bw := bw_in (List.mem_append_right _ (List.mem_append_left _ (List.mem_of_getElem? (i := 106) rfl))) rfl
theorem bq_1_104 : (Jvm.Cond.methodLink "FlashStore" (127 : Nat) ({ cls := "FlashStore", name := "isSpoilt", desc := "(I)Z" } : Jvm.MethodName)) ∈ bw := bw_in (List.mem_append_right _ (List.mem_append_left _ (List.mem_of_getElem? (i := 104) rfl))) rfl
theorem bq_1_105 : (Jvm.Cond.static ({ cls := "FlashStore", name := "isSpoilt", desc := "(I)Z" } : Jvm.MethodName)) ∈ bw := bw_in (List.mem_append_right _ (List.mem_append_left _ (List.mem_of_getElem? (i := 105) rfl))) rfl
theorem bq_1_71 : (Jvm.Cond.code ({ cls := "FlashStore$Flash", name := "tagAt", desc := "(I)I" } : Jvm.MethodName) prog_3_method_7_code (3 : Nat) (Option.some Jvm.ClassFile.FieldType.int)) ∈ bw := bw_in (List.mem_append_right _ (List.mem_append_left _ (List.mem_of_getElem? (i := 71) rfl))) rfl
theorem bq_1_68 : (Jvm.Cond.methodLink "FlashStore" (124 : Nat) ({ cls := "FlashStore$Flash", name := "tagAt", desc := "(I)I" } : Jvm.MethodName)) ∈ bw := bw_in (List.mem_append_right _ (List.mem_append_left _ (List.mem_of_getElem? (i := 68) rfl))) rfl
theorem bq_1_69 : (Jvm.Cond.instanceMethod ({ cls := "FlashStore$Flash", name := "tagAt", desc := "(I)I" } : Jvm.MethodName)) ∈ bw := bw_in (List.mem_append_right _ (List.mem_append_left _ (List.mem_of_getElem? (i := 69) rfl))) rfl
theorem bq_1_70 : (Jvm.Cond.selects "FlashStore$Flash" ({ cls := "FlashStore$Flash", name := "tagAt", desc := "(I)I" } : Jvm.MethodName) ({ cls := "FlashStore$Flash", name := "tagAt", desc := "(I)I" } : Jvm.MethodName)) ∈ bw := bw_in (List.mem_append_right _ (List.mem_append_left _ (List.mem_of_getElem? (i := 70) rfl))) rfl
theorem bq_1_131 : (Jvm.Cond.code ({ cls := "FlashStore", name := "countHeld", desc := "()I" } : Jvm.MethodName) prog_1_method_28_code (3 : Nat) (Option.some Jvm.ClassFile.FieldType.int)) ∈ bw := bw_in (List.mem_append_right _ (List.mem_append_left _ (List.mem_of_getElem? (i := 131) rfl))) rfl
theorem bq_1_128 : (Jvm.Cond.methodLink "FlashStore" (140 : Nat) ({ cls := "FlashStore", name := "countHeld", desc := "()I" } : Jvm.MethodName)) ∈ bw := bw_in (List.mem_append_right _ (List.mem_append_left _ (List.mem_of_getElem? (i := 128) rfl))) rfl
theorem bq_1_130 : (Jvm.Cond.instanceMethod ({ cls := "FlashStore", name := "countHeld", desc := "()I" } : Jvm.MethodName)) ∈ bw := bw_in (List.mem_append_right _ (List.mem_append_left _ (List.mem_of_getElem? (i := 130) rfl))) rfl
theorem bq_s_3 : (Jvm.Cond.selects "FlashStore" ({ cls := "FlashStore", name := "countHeld", desc := "()I" } : Jvm.MethodName) ({ cls := "FlashStore", name := "countHeld", desc := "()I" } : Jvm.MethodName)) ∈ bw := bw_in (List.mem_append_left _ (List.mem_of_getElem? (i := 3) rfl)) rfl
theorem bq_2_237 : (Jvm.Cond.code ({ cls := "FlashStoreModel", name := "out", desc := "(II)Z" } : Jvm.MethodName) prog_5_method_3_code (2 : Nat) (Option.some Jvm.ClassFile.FieldType.boolean)) ∈ bw := bw_in (List.mem_append_right _ (List.mem_append_right _ (List.mem_append_left _ (List.mem_of_getElem? (i := 237) rfl)))) rfl
theorem bq_2_235 : (Jvm.Cond.methodLink "FlashStoreModel" (46 : Nat) ({ cls := "FlashStoreModel", name := "out", desc := "(II)Z" } : Jvm.MethodName)) ∈ bw := bw_in (List.mem_append_right _ (List.mem_append_right _ (List.mem_append_left _ (List.mem_of_getElem? (i := 235) rfl)))) rfl
theorem bq_2_236 : (Jvm.Cond.static ({ cls := "FlashStoreModel", name := "out", desc := "(II)Z" } : Jvm.MethodName)) ∈ bw := bw_in (List.mem_append_right _ (List.mem_append_right _ (List.mem_append_left _ (List.mem_of_getElem? (i := 236) rfl)))) rfl
theorem bq_1_4 : (Jvm.Cond.initialized "FlashStoreModel") ∈ bw := bw_in (List.mem_append_right _ (List.mem_append_left _ (List.mem_of_getElem? (i := 4) rfl))) rfl
theorem bq_2_192 : (Jvm.Cond.fieldLink "FlashStoreModel" (33 : Nat) "FlashStoreModel" "thrown" "I") ∈ bw := bw_in (List.mem_append_right _ (List.mem_append_right _ (List.mem_append_left _ (List.mem_of_getElem? (i := 192) rfl)))) rfl
theorem bq_2_193 : (Jvm.Cond.fieldLink "FlashStoreModel" (7 : Nat) "FlashStoreModel" "remainder" "[I") ∈ bw := bw_in (List.mem_append_right _ (List.mem_append_right _ (List.mem_append_left _ (List.mem_of_getElem? (i := 193) rfl)))) rfl
theorem bq_3_10 : (Jvm.Cond.code ({ cls := "FlashStoreModel", name := "left", desc := "(I)I" } : Jvm.MethodName) prog_5_method_5_code (4 : Nat) (Option.some Jvm.ClassFile.FieldType.int)) ∈ bw := bw_in (List.mem_append_right _ (List.mem_append_right _ (List.mem_append_right _ (List.mem_of_getElem? (i := 10) rfl)))) rfl
theorem bq_3_7 : (Jvm.Cond.methodLink "FlashStoreModel" (38 : Nat) ({ cls := "FlashStoreModel", name := "left", desc := "(I)I" } : Jvm.MethodName)) ∈ bw := bw_in (List.mem_append_right _ (List.mem_append_right _ (List.mem_append_right _ (List.mem_of_getElem? (i := 7) rfl)))) rfl
theorem bq_3_9 : (Jvm.Cond.instanceMethod ({ cls := "FlashStoreModel", name := "left", desc := "(I)I" } : Jvm.MethodName)) ∈ bw := bw_in (List.mem_append_right _ (List.mem_append_right _ (List.mem_append_right _ (List.mem_of_getElem? (i := 9) rfl)))) rfl
theorem bq_s_19 : (Jvm.Cond.selects "FlashStoreModel" ({ cls := "FlashStoreModel", name := "left", desc := "(I)I" } : Jvm.MethodName) ({ cls := "FlashStoreModel", name := "left", desc := "(I)I" } : Jvm.MethodName)) ∈ bw := bw_in (List.mem_append_left _ (List.mem_of_getElem? (i := 19) rfl)) rfl
theorem bq_2_202 : (Jvm.Cond.fieldLink "FlashStoreModel" (42 : Nat) "FlashStoreModel" "wrong" "I") ∈ bw := bw_in (List.mem_append_right _ (List.mem_append_right _ (List.mem_append_left _ (List.mem_of_getElem? (i := 202) rfl)))) rfl
theorem bq_3_5 : (Jvm.Cond.code ({ cls := "FlashStoreModel", name := "codeword", desc := "(I)I" } : Jvm.MethodName) prog_5_method_6_code (2 : Nat) (Option.some Jvm.ClassFile.FieldType.int)) ∈ bw := bw_in (List.mem_append_right _ (List.mem_append_right _ (List.mem_append_right _ (List.mem_of_getElem? (i := 5) rfl)))) rfl
theorem bq_3_2 : (Jvm.Cond.methodLink "FlashStoreModel" (53 : Nat) ({ cls := "FlashStoreModel", name := "codeword", desc := "(I)I" } : Jvm.MethodName)) ∈ bw := bw_in (List.mem_append_right _ (List.mem_append_right _ (List.mem_append_right _ (List.mem_of_getElem? (i := 2) rfl)))) rfl
theorem bq_3_4 : (Jvm.Cond.instanceMethod ({ cls := "FlashStoreModel", name := "codeword", desc := "(I)I" } : Jvm.MethodName)) ∈ bw := bw_in (List.mem_append_right _ (List.mem_append_right _ (List.mem_append_right _ (List.mem_of_getElem? (i := 4) rfl)))) rfl
theorem bq_s_18 : (Jvm.Cond.selects "FlashStoreModel" ({ cls := "FlashStoreModel", name := "codeword", desc := "(I)I" } : Jvm.MethodName) ({ cls := "FlashStoreModel", name := "codeword", desc := "(I)I" } : Jvm.MethodName)) ∈ bw := bw_in (List.mem_append_left _ (List.mem_of_getElem? (i := 18) rfl)) rfl
theorem bq_3_1 : (Jvm.Cond.code ({ cls := "FlashStoreModel", name := "fail", desc := "(I)I" } : Jvm.MethodName) prog_5_method_4_code (2 : Nat) (Option.some Jvm.ClassFile.FieldType.int)) ∈ bw := bw_in (List.mem_append_right _ (List.mem_append_right _ (List.mem_append_right _ (List.mem_of_getElem? (i := 1) rfl)))) rfl
theorem bq_2_238 : (Jvm.Cond.methodLink "FlashStoreModel" (50 : Nat) ({ cls := "FlashStoreModel", name := "fail", desc := "(I)I" } : Jvm.MethodName)) ∈ bw := bw_in (List.mem_append_right _ (List.mem_append_right _ (List.mem_append_left _ (List.mem_of_getElem? (i := 238) rfl)))) rfl
theorem bq_3_0 : (Jvm.Cond.instanceMethod ({ cls := "FlashStoreModel", name := "fail", desc := "(I)I" } : Jvm.MethodName)) ∈ bw := bw_in (List.mem_append_right _ (List.mem_append_right _ (List.mem_append_right _ (List.mem_of_getElem? (i := 0) rfl)))) rfl
theorem bq_s_17 : (Jvm.Cond.selects "FlashStoreModel" ({ cls := "FlashStoreModel", name := "fail", desc := "(I)I" } : Jvm.MethodName) ({ cls := "FlashStoreModel", name := "fail", desc := "(I)I" } : Jvm.MethodName)) ∈ bw := bw_in (List.mem_append_left _ (List.mem_of_getElem? (i := 17) rfl)) rfl
theorem bq_2_201 : (Jvm.Cond.fieldLink "FlashStoreModel" (59 : Nat) "FlashStoreModel" "mended" "I") ∈ bw := bw_in (List.mem_append_right _ (List.mem_append_right _ (List.mem_append_left _ (List.mem_of_getElem? (i := 201) rfl)))) rfl
theorem bq_3_18 : (Jvm.Cond.code ({ cls := "FlashStoreModel", name := "dataOf", desc := "(I)I" } : Jvm.MethodName) prog_5_method_7_code (7 : Nat) (Option.some Jvm.ClassFile.FieldType.int)) ∈ bw := bw_in (List.mem_append_right _ (List.mem_append_right _ (List.mem_append_right _ (List.mem_of_getElem? (i := 18) rfl)))) rfl
theorem bq_3_15 : (Jvm.Cond.methodLink "FlashStoreModel" (56 : Nat) ({ cls := "FlashStoreModel", name := "dataOf", desc := "(I)I" } : Jvm.MethodName)) ∈ bw := bw_in (List.mem_append_right _ (List.mem_append_right _ (List.mem_append_right _ (List.mem_of_getElem? (i := 15) rfl)))) rfl
theorem bq_3_17 : (Jvm.Cond.instanceMethod ({ cls := "FlashStoreModel", name := "dataOf", desc := "(I)I" } : Jvm.MethodName)) ∈ bw := bw_in (List.mem_append_right _ (List.mem_append_right _ (List.mem_append_right _ (List.mem_of_getElem? (i := 17) rfl)))) rfl
theorem bq_s_20 : (Jvm.Cond.selects "FlashStoreModel" ({ cls := "FlashStoreModel", name := "dataOf", desc := "(I)I" } : Jvm.MethodName) ({ cls := "FlashStoreModel", name := "dataOf", desc := "(I)I" } : Jvm.MethodName)) ∈ bw := bw_in (List.mem_append_left _ (List.mem_of_getElem? (i := 20) rfl)) rfl
theorem bq_2_194 : (Jvm.Cond.fieldLink "FlashStoreModel" (13 : Nat) "FlashStoreModel" "flash" "[I") ∈ bw := bw_in (List.mem_append_right _ (List.mem_append_right _ (List.mem_append_left _ (List.mem_of_getElem? (i := 194) rfl)))) rfl
theorem bq_2_195 : (Jvm.Cond.fieldLink "FlashStoreModel" (16 : Nat) "FlashStoreModel" "use" "[I") ∈ bw := bw_in (List.mem_append_right _ (List.mem_append_right _ (List.mem_append_left _ (List.mem_of_getElem? (i := 195) rfl)))) rfl
theorem bq_3_34 : (Jvm.Cond.code ({ cls := "FlashStoreModel", name := "count", desc := "(II)I" } : Jvm.MethodName) prog_5_method_14_code (5 : Nat) (Option.some Jvm.ClassFile.FieldType.int)) ∈ bw := bw_in (List.mem_append_right _ (List.mem_append_right _ (List.mem_append_right _ (List.mem_of_getElem? (i := 34) rfl)))) rfl
theorem bq_3_31 : (Jvm.Cond.methodLink "FlashStoreModel" (62 : Nat) ({ cls := "FlashStoreModel", name := "count", desc := "(II)I" } : Jvm.MethodName)) ∈ bw := bw_in (List.mem_append_right _ (List.mem_append_right _ (List.mem_append_right _ (List.mem_of_getElem? (i := 31) rfl)))) rfl
theorem bq_3_33 : (Jvm.Cond.instanceMethod ({ cls := "FlashStoreModel", name := "count", desc := "(II)I" } : Jvm.MethodName)) ∈ bw := bw_in (List.mem_append_right _ (List.mem_append_right _ (List.mem_append_right _ (List.mem_of_getElem? (i := 33) rfl)))) rfl
theorem bq_s_22 : (Jvm.Cond.selects "FlashStoreModel" ({ cls := "FlashStoreModel", name := "count", desc := "(II)I" } : Jvm.MethodName) ({ cls := "FlashStoreModel", name := "count", desc := "(II)I" } : Jvm.MethodName)) ∈ bw := bw_in (List.mem_append_left _ (List.mem_of_getElem? (i := 22) rfl)) rfl
theorem bq_3_38 : (Jvm.Cond.code ({ cls := "FlashStoreModel", name := "empty", desc := "(I)Z" } : Jvm.MethodName) prog_5_method_15_code (2 : Nat) (Option.some Jvm.ClassFile.FieldType.boolean)) ∈ bw := bw_in (List.mem_append_right _ (List.mem_append_right _ (List.mem_append_right _ (List.mem_of_getElem? (i := 38) rfl)))) rfl
theorem bq_3_35 : (Jvm.Cond.methodLink "FlashStoreModel" (66 : Nat) ({ cls := "FlashStoreModel", name := "empty", desc := "(I)Z" } : Jvm.MethodName)) ∈ bw := bw_in (List.mem_append_right _ (List.mem_append_right _ (List.mem_append_right _ (List.mem_of_getElem? (i := 35) rfl)))) rfl
theorem bq_3_37 : (Jvm.Cond.instanceMethod ({ cls := "FlashStoreModel", name := "empty", desc := "(I)Z" } : Jvm.MethodName)) ∈ bw := bw_in (List.mem_append_right _ (List.mem_append_right _ (List.mem_append_right _ (List.mem_of_getElem? (i := 37) rfl)))) rfl
theorem bq_s_23 : (Jvm.Cond.selects "FlashStoreModel" ({ cls := "FlashStoreModel", name := "empty", desc := "(I)Z" } : Jvm.MethodName) ({ cls := "FlashStoreModel", name := "empty", desc := "(I)Z" } : Jvm.MethodName)) ∈ bw := bw_in (List.mem_append_left _ (List.mem_of_getElem? (i := 23) rfl)) rfl
theorem bq_2_200 : (Jvm.Cond.fieldLink "FlashStoreModel" (76 : Nat) "FlashStoreModel" "next" "I") ∈ bw := bw_in (List.mem_append_right _ (List.mem_append_right _ (List.mem_append_left _ (List.mem_of_getElem? (i := 200) rfl)))) rfl
theorem bq_2_196 : (Jvm.Cond.fieldLink "FlashStoreModel" (19 : Nat) "FlashStoreModel" "logical" "[I") ∈ bw := bw_in (List.mem_append_right _ (List.mem_append_right _ (List.mem_append_left _ (List.mem_of_getElem? (i := 196) rfl)))) rfl
theorem bq_2_197 : (Jvm.Cond.fieldLink "FlashStoreModel" (22 : Nat) "FlashStoreModel" "serial" "[I") ∈ bw := bw_in (List.mem_append_right _ (List.mem_append_right _ (List.mem_append_left _ (List.mem_of_getElem? (i := 197) rfl)))) rfl
theorem bq_3_63 : (Jvm.Cond.code ({ cls := "FlashStoreModel", name := "program", desc := "(III)V" } : Jvm.MethodName) prog_5_method_13_code (4 : Nat) (Option.none : Option Jvm.ClassFile.FieldType)) ∈ bw := bw_in (List.mem_append_right _ (List.mem_append_right _ (List.mem_append_right _ (List.mem_of_getElem? (i := 63) rfl)))) rfl
theorem bq_3_60 : (Jvm.Cond.methodLink "FlashStoreModel" (72 : Nat) ({ cls := "FlashStoreModel", name := "program", desc := "(III)V" } : Jvm.MethodName)) ∈ bw := bw_in (List.mem_append_right _ (List.mem_append_right _ (List.mem_append_right _ (List.mem_of_getElem? (i := 60) rfl)))) rfl
theorem bq_3_62 : (Jvm.Cond.instanceMethod ({ cls := "FlashStoreModel", name := "program", desc := "(III)V" } : Jvm.MethodName)) ∈ bw := bw_in (List.mem_append_right _ (List.mem_append_right _ (List.mem_append_right _ (List.mem_of_getElem? (i := 62) rfl)))) rfl
theorem bq_s_29 : (Jvm.Cond.selects "FlashStoreModel" ({ cls := "FlashStoreModel", name := "program", desc := "(III)V" } : Jvm.MethodName) ({ cls := "FlashStoreModel", name := "program", desc := "(III)V" } : Jvm.MethodName)) ∈ bw := bw_in (List.mem_append_left _ (List.mem_of_getElem? (i := 29) rfl)) rfl
theorem bq_2_199 : (Jvm.Cond.fieldLink "FlashStoreModel" (28 : Nat) "FlashStoreModel" "where" "[I") ∈ bw := bw_in (List.mem_append_right _ (List.mem_append_right _ (List.mem_append_left _ (List.mem_of_getElem? (i := 199) rfl)))) rfl
theorem bq_2_198 : (Jvm.Cond.fieldLink "FlashStoreModel" (25 : Nat) "FlashStoreModel" "wear" "[I") ∈ bw := bw_in (List.mem_append_right _ (List.mem_append_right _ (List.mem_append_left _ (List.mem_of_getElem? (i := 198) rfl)))) rfl
theorem bq_3_58 : (Jvm.Cond.code ({ cls := "FlashStoreModel", name := "put", desc := "(IIJ)V" } : Jvm.MethodName) prog_5_method_17_code (6 : Nat) (Option.none : Option Jvm.ClassFile.FieldType)) ∈ bw := bw_in (List.mem_append_right _ (List.mem_append_right _ (List.mem_append_right _ (List.mem_of_getElem? (i := 58) rfl)))) rfl
theorem bq_3_55 : (Jvm.Cond.methodLink "FlashStoreModel" (89 : Nat) ({ cls := "FlashStoreModel", name := "put", desc := "(IIJ)V" } : Jvm.MethodName)) ∈ bw := bw_in (List.mem_append_right _ (List.mem_append_right _ (List.mem_append_right _ (List.mem_of_getElem? (i := 55) rfl)))) rfl
theorem bq_3_57 : (Jvm.Cond.instanceMethod ({ cls := "FlashStoreModel", name := "put", desc := "(IIJ)V" } : Jvm.MethodName)) ∈ bw := bw_in (List.mem_append_right _ (List.mem_append_right _ (List.mem_append_right _ (List.mem_of_getElem? (i := 57) rfl)))) rfl
theorem bq_s_28 : (Jvm.Cond.selects "FlashStoreModel" ({ cls := "FlashStoreModel", name := "put", desc := "(IIJ)V" } : Jvm.MethodName) ({ cls := "FlashStoreModel", name := "put", desc := "(IIJ)V" } : Jvm.MethodName)) ∈ bw := bw_in (List.mem_append_left _ (List.mem_of_getElem? (i := 28) rfl)) rfl
theorem bq_3_54 : (Jvm.Cond.code ({ cls := "FlashStoreModel", name := "contentOf", desc := "(I)J" } : Jvm.MethodName) prog_5_method_12_code (5 : Nat) (Option.some Jvm.ClassFile.FieldType.long)) ∈ bw := bw_in (List.mem_append_right _ (List.mem_append_right _ (List.mem_append_right _ (List.mem_of_getElem? (i := 54) rfl)))) rfl
theorem bq_3_51 : (Jvm.Cond.methodLink "FlashStoreModel" (85 : Nat) ({ cls := "FlashStoreModel", name := "contentOf", desc := "(I)J" } : Jvm.MethodName)) ∈ bw := bw_in (List.mem_append_right _ (List.mem_append_right _ (List.mem_append_right _ (List.mem_of_getElem? (i := 51) rfl)))) rfl
theorem bq_3_53 : (Jvm.Cond.instanceMethod ({ cls := "FlashStoreModel", name := "contentOf", desc := "(I)J" } : Jvm.MethodName)) ∈ bw := bw_in (List.mem_append_right _ (List.mem_append_right _ (List.mem_append_right _ (List.mem_of_getElem? (i := 53) rfl)))) rfl
theorem bq_s_27 : (Jvm.Cond.selects "FlashStoreModel" ({ cls := "FlashStoreModel", name := "contentOf", desc := "(I)J" } : Jvm.MethodName) ({ cls := "FlashStoreModel", name := "contentOf", desc := "(I)J" } : Jvm.MethodName)) ∈ bw := bw_in (List.mem_append_left _ (List.mem_of_getElem? (i := 27) rfl)) rfl
theorem bq_3_50 : (Jvm.Cond.code ({ cls := "FlashStoreModel", name := "placeBut", desc := "(I)I" } : Jvm.MethodName) prog_5_method_16_code (5 : Nat) (Option.some Jvm.ClassFile.FieldType.int)) ∈ bw := bw_in (List.mem_append_right _ (List.mem_append_right _ (List.mem_append_right _ (List.mem_of_getElem? (i := 50) rfl)))) rfl
theorem bq_3_47 : (Jvm.Cond.methodLink "FlashStoreModel" (82 : Nat) ({ cls := "FlashStoreModel", name := "placeBut", desc := "(I)I" } : Jvm.MethodName)) ∈ bw := bw_in (List.mem_append_right _ (List.mem_append_right _ (List.mem_append_right _ (List.mem_of_getElem? (i := 47) rfl)))) rfl
theorem bq_3_49 : (Jvm.Cond.instanceMethod ({ cls := "FlashStoreModel", name := "placeBut", desc := "(I)I" } : Jvm.MethodName)) ∈ bw := bw_in (List.mem_append_right _ (List.mem_append_right _ (List.mem_append_right _ (List.mem_of_getElem? (i := 49) rfl)))) rfl
theorem bq_s_26 : (Jvm.Cond.selects "FlashStoreModel" ({ cls := "FlashStoreModel", name := "placeBut", desc := "(I)I" } : Jvm.MethodName) ({ cls := "FlashStoreModel", name := "placeBut", desc := "(I)I" } : Jvm.MethodName)) ∈ bw := bw_in (List.mem_append_left _ (List.mem_of_getElem? (i := 26) rfl)) rfl
theorem bq_3_46 : (Jvm.Cond.code ({ cls := "FlashStoreModel", name := "readable", desc := "(I)Z" } : Jvm.MethodName) prog_5_method_11_code (4 : Nat) (Option.some Jvm.ClassFile.FieldType.boolean)) ∈ bw := bw_in (List.mem_append_right _ (List.mem_append_right _ (List.mem_append_right _ (List.mem_of_getElem? (i := 46) rfl)))) rfl
theorem bq_3_43 : (Jvm.Cond.methodLink "FlashStoreModel" (79 : Nat) ({ cls := "FlashStoreModel", name := "readable", desc := "(I)Z" } : Jvm.MethodName)) ∈ bw := bw_in (List.mem_append_right _ (List.mem_append_right _ (List.mem_append_right _ (List.mem_of_getElem? (i := 43) rfl)))) rfl
theorem bq_3_45 : (Jvm.Cond.instanceMethod ({ cls := "FlashStoreModel", name := "readable", desc := "(I)Z" } : Jvm.MethodName)) ∈ bw := bw_in (List.mem_append_right _ (List.mem_append_right _ (List.mem_append_right _ (List.mem_of_getElem? (i := 45) rfl)))) rfl
theorem bq_s_25 : (Jvm.Cond.selects "FlashStoreModel" ({ cls := "FlashStoreModel", name := "readable", desc := "(I)Z" } : Jvm.MethodName) ({ cls := "FlashStoreModel", name := "readable", desc := "(I)Z" } : Jvm.MethodName)) ∈ bw := bw_in (List.mem_append_left _ (List.mem_of_getElem? (i := 25) rfl)) rfl
theorem bq_3_30 : (Jvm.Cond.code ({ cls := "FlashStoreModel", name := "toClean", desc := "()I" } : Jvm.MethodName) prog_5_method_19_code (6 : Nat) (Option.some Jvm.ClassFile.FieldType.int)) ∈ bw := bw_in (List.mem_append_right _ (List.mem_append_right _ (List.mem_append_right _ (List.mem_of_getElem? (i := 30) rfl)))) rfl
theorem bq_3_27 : (Jvm.Cond.methodLink "FlashStoreModel" (93 : Nat) ({ cls := "FlashStoreModel", name := "toClean", desc := "()I" } : Jvm.MethodName)) ∈ bw := bw_in (List.mem_append_right _ (List.mem_append_right _ (List.mem_append_right _ (List.mem_of_getElem? (i := 27) rfl)))) rfl
theorem bq_3_29 : (Jvm.Cond.instanceMethod ({ cls := "FlashStoreModel", name := "toClean", desc := "()I" } : Jvm.MethodName)) ∈ bw := bw_in (List.mem_append_right _ (List.mem_append_right _ (List.mem_append_right _ (List.mem_of_getElem? (i := 29) rfl)))) rfl
theorem bq_s_21 : (Jvm.Cond.selects "FlashStoreModel" ({ cls := "FlashStoreModel", name := "toClean", desc := "()I" } : Jvm.MethodName) ({ cls := "FlashStoreModel", name := "toClean", desc := "()I" } : Jvm.MethodName)) ∈ bw := bw_in (List.mem_append_left _ (List.mem_of_getElem? (i := 21) rfl)) rfl
theorem bq_3_42 : (Jvm.Cond.code ({ cls := "FlashStoreModel", name := "cleanBlock", desc := "(I)V" } : Jvm.MethodName) prog_5_method_20_code (4 : Nat) (Option.none : Option Jvm.ClassFile.FieldType)) ∈ bw := bw_in (List.mem_append_right _ (List.mem_append_right _ (List.mem_append_right _ (List.mem_of_getElem? (i := 42) rfl)))) rfl
theorem bq_3_39 : (Jvm.Cond.methodLink "FlashStoreModel" (97 : Nat) ({ cls := "FlashStoreModel", name := "cleanBlock", desc := "(I)V" } : Jvm.MethodName)) ∈ bw := bw_in (List.mem_append_right _ (List.mem_append_right _ (List.mem_append_right _ (List.mem_of_getElem? (i := 39) rfl)))) rfl
theorem bq_3_41 : (Jvm.Cond.instanceMethod ({ cls := "FlashStoreModel", name := "cleanBlock", desc := "(I)V" } : Jvm.MethodName)) ∈ bw := bw_in (List.mem_append_right _ (List.mem_append_right _ (List.mem_append_right _ (List.mem_of_getElem? (i := 41) rfl)))) rfl
theorem bq_s_24 : (Jvm.Cond.selects "FlashStoreModel" ({ cls := "FlashStoreModel", name := "cleanBlock", desc := "(I)V" } : Jvm.MethodName) ({ cls := "FlashStoreModel", name := "cleanBlock", desc := "(I)V" } : Jvm.MethodName)) ∈ bw := bw_in (List.mem_append_left _ (List.mem_of_getElem? (i := 24) rfl)) rfl
theorem bq_3_71 : (Jvm.Cond.code ({ cls := "FlashStoreModel", name := "leavesOne", desc := "(I)Z" } : Jvm.MethodName) prog_5_method_18_code (4 : Nat) (Option.some Jvm.ClassFile.FieldType.boolean)) ∈ bw := bw_in (List.mem_append_right _ (List.mem_append_right _ (List.mem_append_right _ (List.mem_of_getElem? (i := 71) rfl)))) rfl
theorem bq_3_68 : (Jvm.Cond.methodLink "FlashStoreModel" (101 : Nat) ({ cls := "FlashStoreModel", name := "leavesOne", desc := "(I)Z" } : Jvm.MethodName)) ∈ bw := bw_in (List.mem_append_right _ (List.mem_append_right _ (List.mem_append_right _ (List.mem_of_getElem? (i := 68) rfl)))) rfl
theorem bq_3_70 : (Jvm.Cond.instanceMethod ({ cls := "FlashStoreModel", name := "leavesOne", desc := "(I)Z" } : Jvm.MethodName)) ∈ bw := bw_in (List.mem_append_right _ (List.mem_append_right _ (List.mem_append_right _ (List.mem_of_getElem? (i := 70) rfl)))) rfl
theorem bq_s_30 : (Jvm.Cond.selects "FlashStoreModel" ({ cls := "FlashStoreModel", name := "leavesOne", desc := "(I)Z" } : Jvm.MethodName) ({ cls := "FlashStoreModel", name := "leavesOne", desc := "(I)Z" } : Jvm.MethodName)) ∈ bw := bw_in (List.mem_append_left _ (List.mem_of_getElem? (i := 30) rfl)) rfl
theorem bq_3_87 : (Jvm.Cond.code ({ cls := "FlashStoreModel", name := "newer", desc := "(II)Z" } : Jvm.MethodName) prog_5_method_25_code (3 : Nat) (Option.some Jvm.ClassFile.FieldType.boolean)) ∈ bw := bw_in (List.mem_append_right _ (List.mem_append_right _ (List.mem_append_right _ (List.mem_of_getElem? (i := 87) rfl)))) rfl
theorem bq_3_85 : (Jvm.Cond.methodLink "FlashStoreModel" (105 : Nat) ({ cls := "FlashStoreModel", name := "newer", desc := "(II)Z" } : Jvm.MethodName)) ∈ bw := bw_in (List.mem_append_right _ (List.mem_append_right _ (List.mem_append_right _ (List.mem_of_getElem? (i := 85) rfl)))) rfl
theorem bq_3_86 : (Jvm.Cond.static ({ cls := "FlashStoreModel", name := "newer", desc := "(II)Z" } : Jvm.MethodName)) ∈ bw := bw_in (List.mem_append_right _ (List.mem_append_right _ (List.mem_append_right _ (List.mem_of_getElem? (i := 86) rfl)))) rfl
theorem bq_3_94 : (Jvm.Cond.code ({ cls := "FlashStoreModel", name := "isPage", desc := "(II)Z" } : Jvm.MethodName) prog_5_method_27_code (2 : Nat) (Option.some Jvm.ClassFile.FieldType.boolean)) ∈ bw := bw_in (List.mem_append_right _ (List.mem_append_right _ (List.mem_append_right _ (List.mem_of_getElem? (i := 94) rfl)))) rfl
theorem bq_3_92 : (Jvm.Cond.methodLink "FlashStoreModel" (108 : Nat) ({ cls := "FlashStoreModel", name := "isPage", desc := "(II)Z" } : Jvm.MethodName)) ∈ bw := bw_in (List.mem_append_right _ (List.mem_append_right _ (List.mem_append_right _ (List.mem_of_getElem? (i := 92) rfl)))) rfl
theorem bq_3_93 : (Jvm.Cond.static ({ cls := "FlashStoreModel", name := "isPage", desc := "(II)Z" } : Jvm.MethodName)) ∈ bw := bw_in (List.mem_append_right _ (List.mem_append_right _ (List.mem_append_right _ (List.mem_of_getElem? (i := 93) rfl)))) rfl
theorem bq_1_144 : (Jvm.Cond.classLink "FlashStore" (42 : Nat) "java/lang/IllegalArgumentException") ∈ bw := bw_in (List.mem_append_right _ (List.mem_append_left _ (List.mem_of_getElem? (i := 144) rfl))) rfl
theorem bq_1_8 : (Jvm.Cond.initialized "java/lang/IllegalArgumentException") ∈ bw := bw_in (List.mem_append_right _ (List.mem_append_left _ (List.mem_of_getElem? (i := 8) rfl))) rfl
theorem bq_1_225 : (Jvm.Cond.classLink "FlashStore" (58 : Nat) "java/lang/ArithmeticException") ∈ bw := bw_in (List.mem_append_right _ (List.mem_append_left _ (List.mem_of_getElem? (i := 225) rfl))) rfl
theorem bq_1_11 : (Jvm.Cond.initialized "java/lang/ArithmeticException") ∈ bw := bw_in (List.mem_append_right _ (List.mem_append_left _ (List.mem_of_getElem? (i := 11) rfl))) rfl
theorem bq_2_57 : (Jvm.Cond.classLink "FlashStore" (83 : Nat) "java/lang/IllegalStateException") ∈ bw := bw_in (List.mem_append_right _ (List.mem_append_right _ (List.mem_append_left _ (List.mem_of_getElem? (i := 57) rfl)))) rfl
theorem bq_1_12 : (Jvm.Cond.initialized "java/lang/IllegalStateException") ∈ bw := bw_in (List.mem_append_right _ (List.mem_append_left _ (List.mem_of_getElem? (i := 12) rfl))) rfl
